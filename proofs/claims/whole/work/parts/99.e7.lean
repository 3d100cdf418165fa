/-! the walk of the law: besides all else, its states know what a throw wants -/
def zThN : List String := ["java/lang/RuntimeException", "java/lang/Exception"]
abbrev zThC : String := "java/util/NoSuchElementException"
/-- the words of the throw that are not among the good ones -/
def zThW : List Cond := (vx_at0 "LotOffice" 266 zThC zThN).filter (fun w => !goodWord w)
def xO (Ψ : Code → Prop) (l : Launch) (s : State) (A : Nat → Prop) (c : Code) : Prop :=
  Ψ c ∧ l.stackTraces = false ∧ (∀ w ∈ zThW, va_Nw w s) ∧ vx_Zq Bundle.tN "UNASSIGNED_STACK" Bundle.steD A s s.heap ∧ vx_Zq Bundle.tN "SUPPRESSED_SENTINEL" Bundle.listD A s s.heap
def xFix (Ψ : Code → Prop) (d : zMd) (dep : Nat) (p : Program) (l : Launch) (R : Room) (s : State) (m : MethodId) (args : Array Value) (meth : Method) (c : Code) (A : Nat → Prop) : Prop := zFix d dep p R s m args meth c ∧ xO Ψ l s A c
def uFix (Ψ : Code → Prop) (d : zMd) (dep : Nat) (p : Program) (l : Launch) (R : Room) (s : State) (m : MethodId) (args : Array Value) (meth : Method) (c : Code) (A : Nat → Prop) : Prop := yFix d dep p R s m args meth c ∧ xO Ψ l s A c
def xW (Ψ : Code → Prop) (d : zMd) (X : zX) (dep bc bs n pc : Nat) (lv : List (Nat × zV)) (st : List zV) (h : zH) (Q : Nat → zH → List zV → Prop) : Prop :=
  ∀ (p : Program) (l : Launch) (e : Env) (R : Room) (s : State) (m : MethodId) (args : Array Value) (below : List Frame) (meth : Method) (c : Code) (H : Heap) (locs : List Loc) (cells slots : Nat) (A : Nat → Prop) (E : zE) (ls : Array Slot) (Z : State → Prop),
    xFix Ψ d dep p l R s m args meth c A → cells + bc ≤ R.cells → slots + bs ≤ R.slots → zDyn X d n lv st h s H locs A E ls →
    (∀ (H' : Heap) (locs' : List Loc) (cells' slots' : Nat) (E' : zE) (ls' : Array Slot) (n' : Nat) (h' : zH) (pc' : Nat) (rs vs : List zV) (i : Instr) (k : Nat),
      cells' ≤ cells + bc → slots' ≤ slots + bs → zDyn X d n' [] rs h' s H' locs' A E' ls' → zEx E E' n n' → Q n' h' rs → decode d.by pc' = .ok (i, k) → zEnd d i k rs vs →
      W p l e R s m args below meth c H' locs' cells' slots' Z (F0 m pc' ls' (vs.map (zcv E'.2.1)))) →
    W p l e R s m args below meth c H locs cells slots Z (F0 m pc ls (st.map (zcv E.2.1)))
def uW (Ψ : Code → Prop) (d : zMd) (X : zX) (dep bc bs n pc : Nat) (lv : List (Nat × zV)) (st : List zV) (h : zH) (Q : Nat → zH → List zV → Prop) : Prop :=
  ∀ (p : Program) (l : Launch) (e : Env) (R : Room) (s : State) (m : MethodId) (args : Array Value) (below : List Frame) (meth : Method) (c : Code) (H : Heap) (locs : List Loc) (cells slots : Nat) (A : Nat → Prop) (E : zE) (ls : Array Slot) (Z : State → Prop),
    uFix Ψ d dep p l R s m args meth c A → cells + bc ≤ R.cells → slots + bs ≤ R.slots → zDyn X d n lv st h s H locs A E ls →
    (∀ (H' : Heap) (locs' : List Loc) (cells' slots' : Nat) (E' : zE) (ls' : Array Slot) (n' : Nat) (h' : zH) (pc' : Nat) (rs vs : List zV) (i : Instr) (k : Nat),
      cells' ≤ cells + bc → slots' ≤ slots + bs → zDyn X d n' [] rs h' s H' locs' A E' ls' → zEx E E' n n' → Q n' h' rs → decode d.by pc' = .ok (i, k) → zEnd d i k rs vs →
      W p l e R s m args below meth c H' locs' cells' slots' Z (F0 m pc' ls' (vs.map (zcv E'.2.1)))) →
    W p l e R s m args below meth c H locs cells slots Z (F0 m pc ls (st.map (zcv E.2.1)))
section XR
variable {Ψ : Code → Prop} {d : zMd} {X : zX} {dep bc bs n pc : Nat} {lv : List (Nat × zV)} {st : List zV} {h : zH} {Q : Nat → zH → List zV → Prop}
theorem uW.of (k : xW Ψ d X dep bc bs n pc lv st h Q) : uW Ψ d X dep bc bs n pc lv st h Q := by
  intro p l e R s m args below meth c H locs cells slots A E ls Z hF h1 h2 hD hE
  exact k p l e R s m args below meth c H locs cells slots A E ls Z ⟨⟨hF.1.1, hF.1.2.1, hF.1.2.2.1, hF.1.2.2.2.1, hF.1.2.2.2.2.1, hF.1.2.2.2.2.2.1, hF.1.2.2.2.2.2.2.1, hF.1.2.2.2.2.2.2.2.1, hF.1.2.2.2.2.2.2.2.2.1, hF.1.2.2.2.2.2.2.2.2.2.1⟩, hF.2⟩ h1 h2 hD hE
theorem xW.more {bc' bs' : Nat} (h1 : bc ≤ bc') (h2 : bs ≤ bs') (k : xW Ψ d X dep bc bs n pc lv st h Q) : xW Ψ d X dep bc' bs' n pc lv st h Q := by
  intro p l e R s m args below meth c H locs cells slots A E ls Z hF g1 g2 hD hE
  exact k p l e R s m args below meth c H locs cells slots A E ls Z hF (by omega) (by omega) hD (fun H' locs' cells' slots' E' ls' n' h' pc' rs vs i k a1 a2 a3 a4 a5 a6 a7 => hE H' locs' cells' slots' E' ls' n' h' pc' rs vs i k (by omega) (by omega) a3 a4 a5 a6 a7)
theorem xW.sub {lv' : List (Nat × zV)} (ks : List Nat) (hl : ks.filterMap (fun k => lv[k]?) = lv') (k : xW Ψ d X dep bc bs n pc lv' st h Q) : xW Ψ d X dep bc bs n pc lv st h Q := by
  intro p l e R s m args below meth c H locs cells slots A E ls Z hF h1 h2 hD hE
  refine k p l e R s m args below meth c H locs cells slots A E ls Z hF h1 h2 (hD.lvs lv' st ls ⟨hD.2.2.2.2.1.1, hD.2.2.2.2.1.2.1, fun q hq => ?_⟩ (fun q hq => ?_) hD.2.2.2.2.2.2) hE
  · obtain ⟨r, hr, rfl⟩ := List.mem_map.mp hq
    rw [← hl] at hr
    obtain ⟨k, -, hk⟩ := List.mem_filterMap.mp hr
    exact (hD.at k hk).1
  · rw [← hl] at hq
    obtain ⟨k, -, hk⟩ := List.mem_filterMap.mp hq
    exact (hD.at k hk).2
theorem xW.weaken {Q' : Nat → zH → List zV → Prop} (k : xW Ψ d X dep bc bs n pc lv st h Q') (hq : ∀ n' h' rs, Q' n' h' rs → Q n' h' rs) : xW Ψ d X dep bc bs n pc lv st h Q := by
  intro p l e R s m args below meth c H locs cells slots A E ls Z hF h1 h2 hD hE
  exact k p l e R s m args below meth c H locs cells slots A E ls Z hF h1 h2 hD (fun H' locs' cells' slots' E' ls' n' h' pc' rs vs i k a1 a2 a3 a4 a5 a6 a7 => hE H' locs' cells' slots' E' ls' n' h' pc' rs vs i k a1 a2 a3 a4 (hq _ _ _ a5) a6 a7)
theorem x_iconst {v : Int} (hdg : decode d.by pc = .ok (.iconst v, 1)) (hv : zi32 v) (k : xW Ψ d X dep bc bs n (pc + 1) lv (xI v :: st) h Q) : xW Ψ d X dep bc bs n pc lv st h Q := by
  intro p l e R s m args below meth c H locs cells slots A E ls Z hF h1 h2 hD hE
  exact lv_iconst hF.1.1 hF.1.2.1 hdg rfl (k p l e R s m args below meth c H locs cells slots A E ls Z hF h1 h2 (hD.stk _ (zok_c1 hv hD.2.2.2.2.2.2)) hE)
theorem x_bipush {v : Int} (hdg : decode d.by pc = .ok (.bipush v, 2)) (hv : zi32 v) (he : (Int8.ofInt v).toInt32 = Int32.ofInt v) (k : xW Ψ d X dep bc bs n (pc + 2) lv (xI v :: st) h Q) : xW Ψ d X dep bc bs n pc lv st h Q := by
  intro p l e R s m args below meth c H locs cells slots A E ls Z hF h1 h2 hD hE
  exact lv_bipush hF.1.1 hF.1.2.1 hdg he (k p l e R s m args below meth c H locs cells slots A E ls Z hF h1 h2 (hD.stk _ (zok_c1 hv hD.2.2.2.2.2.2)) hE)
theorem x_iload_n {i : Fin 4} {x : Int} (j : Nat) (hdg : decode d.by pc = .ok (.iload_n i, 1)) (hk : lv[j]? = some ((i : Nat), xI x)) (k : xW Ψ d X dep bc bs n (pc + 1) lv (xI x :: st) h Q) : xW Ψ d X dep bc bs n pc lv st h Q := by
  intro p l e R s m args below meth c H locs cells slots A E ls Z hF h1 h2 hD hE
  obtain ⟨a1, a2⟩ := hD.at j hk
  exact lv_iload_n hF.1.1 hF.1.2.1 hdg rfl a1 (k p l e R s m args below meth c H locs cells slots A E ls Z hF h1 h2 (hD.stk _ (zok_c1 a2 hD.2.2.2.2.2.2)) hE)
theorem x_iload {i : Nat} {x : Int} (j : Nat) (hdg : decode d.by pc = .ok (.iload i, 2)) (hk : lv[j]? = some (i, xI x)) (k : xW Ψ d X dep bc bs n (pc + 2) lv (xI x :: st) h Q) : xW Ψ d X dep bc bs n pc lv st h Q := by
  intro p l e R s m args below meth c H locs cells slots A E ls Z hF h1 h2 hD hE
  obtain ⟨a1, a2⟩ := hD.at j hk
  exact lv_iload hF.1.1 hF.1.2.1 hdg a1 (k p l e R s m args below meth c H locs cells slots A E ls Z hF h1 h2 (hD.stk _ (zok_c1 a2 hD.2.2.2.2.2.2)) hE)
theorem x_aload_n {i : Fin 4} {x : Int} (j : Nat) (hdg : decode d.by pc = .ok (.aload_n i, 1)) (hk : lv[j]? = some ((i : Nat), xR x)) (k : xW Ψ d X dep bc bs n (pc + 1) lv (xR x :: st) h Q) : xW Ψ d X dep bc bs n pc lv st h Q := by
  intro p l e R s m args below meth c H locs cells slots A E ls Z hF h1 h2 hD hE
  obtain ⟨a1, a2⟩ := hD.at j hk
  have kk := k p l e R s m args below meth c H locs cells slots A E ls Z hF h1 h2 (hD.stk _ (zok_c1 a2 hD.2.2.2.2.2.2)) hE
  rw [List.map_cons] at kk
  by_cases h0 : x < 0
  · rw [zcvN h0] at a1 kk
    exact lv_aload_nN hF.1.1 hF.1.2.1 hdg rfl a1 kk
  · rw [zcvR h0] at a1 kk
    exact lv_aload_n hF.1.1 hF.1.2.1 hdg rfl a1 kk
theorem x_aload {i : Nat} {x : Int} (j : Nat) (hdg : decode d.by pc = .ok (.aload i, 2)) (hk : lv[j]? = some (i, xR x)) (k : xW Ψ d X dep bc bs n (pc + 2) lv (xR x :: st) h Q) : xW Ψ d X dep bc bs n pc lv st h Q := by
  intro p l e R s m args below meth c H locs cells slots A E ls Z hF h1 h2 hD hE
  obtain ⟨a1, a2⟩ := hD.at j hk
  have kk := k p l e R s m args below meth c H locs cells slots A E ls Z hF h1 h2 (hD.stk _ (zok_c1 a2 hD.2.2.2.2.2.2)) hE
  rw [List.map_cons] at kk
  by_cases h0 : x < 0
  · rw [zcvN h0] at a1 kk
    exact lv_aloadN hF.1.1 hF.1.2.1 hdg a1 kk
  · rw [zcvR h0] at a1 kk
    exact lv_aload hF.1.1 hF.1.2.1 hdg a1 kk
theorem x_lload {i : Nat} {x : Int} (j : Nat) (hdg : decode d.by pc = .ok (.lload i, 2)) (hk : lv[j]? = some (i, xL x)) (k : xW Ψ d X dep bc bs n (pc + 2) lv (xL x :: st) h Q) : xW Ψ d X dep bc bs n pc lv st h Q := by
  intro p l e R s m args below meth c H locs cells slots A E ls Z hF h1 h2 hD hE
  obtain ⟨a1, a2⟩ := hD.at j hk
  exact lv_lload hF.1.1 hF.1.2.1 hdg a1 (k p l e R s m args below meth c H locs cells slots A E ls Z hF h1 h2 (hD.stk _ (zok_c1 a2 hD.2.2.2.2.2.2)) hE)
theorem x_istore {i : Nat} {x : Int} {lv' : List (Nat × zV)} (hdg : decode d.by pc = .ok (.istore i, 2)) (hi : i < d.nl) (hl : (i, xI x) :: lv.filter (fun q => !(q.1 == i) && !(q.1 + 1 == i && q.2.1 == 1)) = lv') (k : xW Ψ d X dep bc bs n (pc + 2) lv' st h Q) : xW Ψ d X dep bc bs n pc lv (xI x :: st) h Q := by
  intro p l e R s m args below meth c H locs cells slots A E ls Z hF h1 h2 hD hE
  exact lv_istore hF.1.1 hF.1.2.1 hdg hD.2.2.2.2.1 hi (by rw [zfil1, ← hl]; rfl) (fun ls' hl' => k p l e R s m args below meth c H locs cells slots A E ls' Z hF h1 h2 (hD.lvs lv' st ls' hl' (by rw [← hl]; exact zok_fil hD.hd hD.2.2.2.2.2.1) hD.tl) hE)
theorem x_lstore {i : Nat} {x : Int} {lv' : List (Nat × zV)} (hdg : decode d.by pc = .ok (.lstore i, 2)) (hi : i + 1 < d.nl) (hl : (i, xL x) :: lv.filter (fun q => !(q.1 == i) && (!(q.1 == i + 1) && !(q.1 + 1 == i && q.2.1 == 1))) = lv') (k : xW Ψ d X dep bc bs n (pc + 2) lv' st h Q) : xW Ψ d X dep bc bs n pc lv (xL x :: st) h Q := by
  intro p l e R s m args below meth c H locs cells slots A E ls Z hF h1 h2 hD hE
  exact lv_lstore hF.1.1 hF.1.2.1 hdg hD.2.2.2.2.1 hi (by rw [zfil2, ← hl]; rfl) (fun ls' hl' => k p l e R s m args below meth c H locs cells slots A E ls' Z hF h1 h2 (hD.lvs lv' st ls' hl' (by rw [← hl]; exact zok_fil hD.hd hD.2.2.2.2.2.1) hD.tl) hE)
theorem x_astore_n {i : Fin 4} {x : Int} {lv' : List (Nat × zV)} (hdg : decode d.by pc = .ok (.astore_n i, 1)) (hi : (i : Nat) < d.nl) (hl : ((i : Nat), xR x) :: lv.filter (fun q => !(q.1 == (i : Nat)) && !(q.1 + 1 == (i : Nat) && q.2.1 == 1)) = lv') (k : xW Ψ d X dep bc bs n (pc + 1) lv' st h Q) : xW Ψ d X dep bc bs n pc lv (xR x :: st) h Q := by
  intro p l e R s m args below meth c H locs cells slots A E ls Z hF h1 h2 hD hE
  rw [List.map_cons]
  by_cases h0 : x < 0
  · rw [zcvN h0]
    exact lv_astore_nN hF.1.1 hF.1.2.1 hdg rfl hD.2.2.2.2.1 hi (by rw [zfil1, ← zcvN (ad := E.2.1) h0, ← hl]; rfl) (fun ls' hl' => k p l e R s m args below meth c H locs cells slots A E ls' Z hF h1 h2 (hD.lvs lv' st ls' hl' (by rw [← hl]; exact zok_fil hD.hd hD.2.2.2.2.2.1) hD.tl) hE)
  · rw [zcvR h0]
    exact lv_astore_n hF.1.1 hF.1.2.1 hdg rfl hD.2.2.2.2.1 hi (by rw [zfil1, ← zcvR (ad := E.2.1) h0, ← hl]; rfl) (fun ls' hl' => k p l e R s m args below meth c H locs cells slots A E ls' Z hF h1 h2 (hD.lvs lv' st ls' hl' (by rw [← hl]; exact zok_fil hD.hd hD.2.2.2.2.2.1) hD.tl) hE)
theorem x_iinc {i : Nat} {x c0 : Int} {lv' : List (Nat × zV)} (j : Nat) (hdg : decode d.by pc = .ok (.iinc i c0, 3)) (hk : lv[j]? = some (i, xI x)) (hi : i < d.nl) (hl : (i, xI (w32 (x + c0))) :: lv.filter (fun q => !(q.1 == i) && !(q.1 + 1 == i && q.2.1 == 1)) = lv') (k : xW Ψ d X dep bc bs n (pc + 3) lv' st h Q) : xW Ψ d X dep bc bs n pc lv st h Q := by
  intro p l e R s m args below meth c H locs cells slots A E ls Z hF h1 h2 hD hE
  exact lv_iinc (k := j) hF.1.1 hF.1.2.1 hdg hD.2.2.2.2.1 (by rw [List.getElem?_map, hk]; rfl) rfl hi (by rw [zfil1, ← hl, List.map_cons]; congr 2; show Value.int _ = Value.int _; rw [w32_of, Int32.ofInt_add]) (fun ls' hl' => k p l e R s m args below meth c H locs cells slots A E ls' Z hF h1 h2 (hD.lvs lv' st ls' hl' (by rw [← hl]; exact zok_fil (w32_in _) hD.2.2.2.2.2.1) hD.2.2.2.2.2.2) hE)
theorem x_iadd {a b : Int} (hdg : decode d.by pc = .ok (.iadd, 1)) (k : xW Ψ d X dep bc bs n (pc + 1) lv (xI (w32 (a + b)) :: st) h Q) : xW Ψ d X dep bc bs n pc lv (xI b :: xI a :: st) h Q := by
  intro p l e R s m args below meth c H locs cells slots A E ls Z hF h1 h2 hD hE
  have kk := k p l e R s m args below meth c H locs cells slots A E ls Z hF h1 h2 (hD.stk (xI (w32 (a + b)) :: st) (zok_c1 (w32_in _) (fun w hw => hD.tl w (List.mem_cons_of_mem _ hw)))) hE
  rw [List.map_cons, show zcv E.2.1 (xI (w32 (a + b))) = .int (Int32.ofInt a + Int32.ofInt b) from congrArg Value.int (by rw [w32_of, Int32.ofInt_add])] at kk
  exact lv_iadd hF.1.1 hF.1.2.1 hdg kk
theorem x_isub {a b : Int} (hdg : decode d.by pc = .ok (.isub, 1)) (k : xW Ψ d X dep bc bs n (pc + 1) lv (xI (w32 (a - b)) :: st) h Q) : xW Ψ d X dep bc bs n pc lv (xI b :: xI a :: st) h Q := by
  intro p l e R s m args below meth c H locs cells slots A E ls Z hF h1 h2 hD hE
  have kk := k p l e R s m args below meth c H locs cells slots A E ls Z hF h1 h2 (hD.stk (xI (w32 (a - b)) :: st) (zok_c1 (w32_in _) (fun w hw => hD.tl w (List.mem_cons_of_mem _ hw)))) hE
  rw [List.map_cons, show zcv E.2.1 (xI (w32 (a - b))) = .int (Int32.ofInt a - Int32.ofInt b) from congrArg Value.int (by rw [w32_of, Int32.ofInt_sub])] at kk
  exact lv_isub hF.1.1 hF.1.2.1 hdg kk
theorem x_iand {a b : Int} (hdg : decode d.by pc = .ok (.iand, 1)) (k : xW Ψ d X dep bc bs n (pc + 1) lv (xI (zand a b) :: st) h Q) : xW Ψ d X dep bc bs n pc lv (xI b :: xI a :: st) h Q := by
  intro p l e R s m args below meth c H locs cells slots A E ls Z hF h1 h2 hD hE
  have kk := k p l e R s m args below meth c H locs cells slots A E ls Z hF h1 h2 (hD.stk (xI (zand a b) :: st) (zok_c1 (zi32_i _) (fun w hw => hD.tl w (List.mem_cons_of_mem _ hw)))) hE
  rw [List.map_cons, show zcv E.2.1 (xI (zand a b)) = .int (Int32.ofInt a &&& Int32.ofInt b) from congrArg Value.int (Int32.ofInt_toInt _)] at kk
  exact lv_iand hF.1.1 hF.1.2.1 hdg kk
theorem x_icmp_eq {a b off : Int} {tgt : Nat} (hdg : decode d.by pc = .ok (.if_icmp .eq off, 3)) (ht : (pc : Int) + off = (tgt : Int)) (kt : a = b → xW Ψ d X dep bc bs n tgt lv st h Q) (kf : ¬ (a = b) → xW Ψ d X dep bc bs n (pc + 3) lv st h Q) : xW Ψ d X dep bc bs n pc lv (xI b :: xI a :: st) h Q := by
  intro p l e R s m args below meth c H locs cells slots A E ls Z hF h1 h2 hD hE
  have hb : zi32 b := hD.hd
  have ha : zi32 a := hD.tl _ List.mem_cons_self
  have hst := hD.stk st (fun w hw => hD.tl w (List.mem_cons_of_mem _ hw))
  exact lv_icmp_eq hF.1.1 hF.1.2.1 hdg ht (fun q => kt ((zi32_inj ha hb).mp q) p l e R s m args below meth c H locs cells slots A E ls Z hF h1 h2 hst hE) (fun q => kf (fun z => q ((zi32_inj ha hb).mpr z)) p l e R s m args below meth c H locs cells slots A E ls Z hF h1 h2 hst hE)
theorem x_icmp_gt {a b off : Int} {tgt : Nat} (hdg : decode d.by pc = .ok (.if_icmp .gt off, 3)) (ht : (pc : Int) + off = (tgt : Int)) (kt : b < a → xW Ψ d X dep bc bs n tgt lv st h Q) (kf : ¬ (b < a) → xW Ψ d X dep bc bs n (pc + 3) lv st h Q) : xW Ψ d X dep bc bs n pc lv (xI b :: xI a :: st) h Q := by
  intro p l e R s m args below meth c H locs cells slots A E ls Z hF h1 h2 hD hE
  have hb : zi32 b := hD.hd
  have ha : zi32 a := hD.tl _ List.mem_cons_self
  have hst := hD.stk st (fun w hw => hD.tl w (List.mem_cons_of_mem _ hw))
  exact lv_icmp_gt hF.1.1 hF.1.2.1 hdg ht (fun q => kt ((zi32_lt hb ha).mp q) p l e R s m args below meth c H locs cells slots A E ls Z hF h1 h2 hst hE) (fun q => kf (fun z => q ((zi32_lt hb ha).mpr z)) p l e R s m args below meth c H locs cells slots A E ls Z hF h1 h2 hst hE)
theorem x_if_eq {a off : Int} {tgt : Nat} (hdg : decode d.by pc = .ok (.ifCond .eq off, 3)) (ht : (pc : Int) + off = (tgt : Int)) (kt : a = 0 → xW Ψ d X dep bc bs n tgt lv st h Q) (kf : ¬ (a = 0) → xW Ψ d X dep bc bs n (pc + 3) lv st h Q) : xW Ψ d X dep bc bs n pc lv (xI a :: st) h Q := by
  intro p l e R s m args below meth c H locs cells slots A E ls Z hF h1 h2 hD hE
  have ha : zi32 a := hD.hd
  have hb : zi32 0 := zi32_0
  have hst := hD.stk st hD.tl
  exact lv_if_eq hF.1.1 hF.1.2.1 hdg ht (fun q => kt ((z0_inj ha).mp q) p l e R s m args below meth c H locs cells slots A E ls Z hF h1 h2 hst hE) (fun q => kf (fun z => q ((z0_inj ha).mpr z)) p l e R s m args below meth c H locs cells slots A E ls Z hF h1 h2 hst hE)
theorem x_if_ne {a off : Int} {tgt : Nat} (hdg : decode d.by pc = .ok (.ifCond .ne off, 3)) (ht : (pc : Int) + off = (tgt : Int)) (kt : ¬ a = 0 → xW Ψ d X dep bc bs n tgt lv st h Q) (kf : a = 0 → xW Ψ d X dep bc bs n (pc + 3) lv st h Q) : xW Ψ d X dep bc bs n pc lv (xI a :: st) h Q := by
  intro p l e R s m args below meth c H locs cells slots A E ls Z hF h1 h2 hD hE
  have ha : zi32 a := hD.hd
  have hb : zi32 0 := zi32_0
  have hst := hD.stk st hD.tl
  exact lv_if_ne hF.1.1 hF.1.2.1 hdg ht (fun q => kt (fun z => q ((z0_inj ha).mpr z)) p l e R s m args below meth c H locs cells slots A E ls Z hF h1 h2 hst hE) (fun q => kf ((z0_inj ha).mp q) p l e R s m args below meth c H locs cells slots A E ls Z hF h1 h2 hst hE)
theorem x_goto {off : Int} {tgt : Nat} (hdg : decode d.by pc = .ok (.goto off, 3)) (ht : (pc : Int) + off = (tgt : Int)) (k : xW Ψ d X dep bc bs n tgt lv st h Q) : xW Ψ d X dep bc bs n pc lv st h Q := by
  intro p l e R s m args below meth c H locs cells slots A E ls Z hF h1 h2 hD hE
  exact lv_goto hF.1.1 hF.1.2.1 hdg ht (k p l e R s m args below meth c H locs cells slots A E ls Z hF h1 h2 hD hE)
theorem x_lcmp {a b : Int} (hdg : decode d.by pc = .ok (.lcmp, 1)) (k : xW Ψ d X dep bc bs n (pc + 1) lv (xI (zcmp a b) :: st) h Q) : xW Ψ d X dep bc bs n pc lv (xL b :: xL a :: st) h Q := by
  intro p l e R s m args below meth c H locs cells slots A E ls Z hF h1 h2 hD hE
  have hb : zi64 b := hD.hd
  have ha : zi64 a := hD.tl _ List.mem_cons_self
  have hz : zi32 (zcmp a b) := by
    unfold zcmp
    split
    · exact ⟨by omega, by omega⟩
    · split <;> exact ⟨by omega, by omega⟩
  have kk1 := k p l e R s m args below meth c H locs cells slots A E ls Z hF h1 h2 (hD.stk (xI (zcmp a b) :: st) (zok_c1 hz (fun w hw => hD.tl w (List.mem_cons_of_mem _ hw)))) hE
  have e9 : zcv E.2.1 (xI (zcmp a b)) = .int (lg_cmp (Int64.ofInt a) (Int64.ofInt b)) := by
    refine congrArg Value.int ?_
    unfold zcmp lg_cmp
    by_cases q1 : b < a
    · rw [if_pos q1, if_pos (show Int64.ofInt b < Int64.ofInt a from (zi64_lt hb ha).mpr q1)]; rfl
    · rw [if_neg q1, if_neg (fun z => q1 ((zi64_lt hb ha).mp z))]
      by_cases q2 : a = b
      · rw [if_pos q2, if_pos (by rw [q2])]; rfl
      · rw [if_neg q2, if_neg (fun z => q2 ((zi64_inj ha hb).mp z))]; rfl
  rw [List.map_cons, e9] at kk1
  exact W.lcmp hF.1.1 hF.1.2.1 hdg kk1
theorem x_zret {x : Int} (hdg : decode d.by pc = .ok (.ireturn, 1)) (hrt : d.rt = some .boolean) (hx : x = 0 ∨ x = 1) (q : Q n h [xI x]) : xW Ψ d X dep bc bs n pc lv [xI x] h Q := by
  intro p l e R s m args below meth c H locs cells slots A E ls Z hF h1 h2 hD hE
  exact hE H locs cells slots E ls n h pc [xI x] [xI x] .ireturn 1 (by omega) (by omega) (hD.end _ hD.2.2.2.2.2.2) (zEx.rf E n) q hdg (Or.inl ⟨rfl, rfl, rfl, x, rfl, Or.inr ⟨.boolean, hrt, by rcases hx with rfl | rfl <;> decide⟩⟩)
theorem x_iret {x : Int} (hdg : decode d.by pc = .ok (.ireturn, 1)) (hrt : d.rt = some .int) (q : Q n h [xI x]) : xW Ψ d X dep bc bs n pc lv [xI x] h Q := by
  intro p l e R s m args below meth c H locs cells slots A E ls Z hF h1 h2 hD hE
  exact hE H locs cells slots E ls n h pc [xI x] [xI x] .ireturn 1 (by omega) (by omega) (hD.end _ hD.2.2.2.2.2.2) (zEx.rf E n) q hdg (Or.inl ⟨rfl, rfl, rfl, x, rfl, Or.inl hrt⟩)
theorem x_tsIn {dflt lo hi x off : Int} {offs : Array Int} {len tgt : Nat} (hdg : decode d.by pc = .ok (.tableswitch dflt lo hi offs, len)) (hx1 : lo ≤ x) (hx2 : x ≤ hi) (ho : offs[(x - lo).toNat]? = some off) (ht : (pc : Int) + off = (tgt : Int)) (k : xW Ψ d X dep bc bs n tgt lv st h Q) : xW Ψ d X dep bc bs n pc lv (xI x :: st) h Q := by
  intro p l e R s m args below meth c H locs cells slots A E ls Z hF h1 h2 hD hE
  have hi9 : (Int32.ofInt x).toInt = x := zi32_to hD.hd
  exact lv_tableIn hF.1.1 hF.1.2.1 hdg (by rw [hi9]; omega) (by rw [hi9]; omega) (by rw [hi9]; exact ho) ht (k p l e R s m args below meth c H locs cells slots A E ls Z hF h1 h2 (hD.stk st hD.tl) hE)
theorem x_lald {N : Nat} {o i : Int} (hdg : decode d.by pc = .ok (.laload, 1)) (ho : zOb n o (2, 0, N)) (h0 : 0 ≤ i) (hi : i < N) (kk : xW Ψ d X dep bc bs n (pc + 1) lv (xL (h o i) :: st) h Q) : xW Ψ d X dep bc bs n pc lv (xI i :: xR o :: st) h Q := by
  intro p l e R s m args below meth c H locs cells slots A E ls Z hF h1 h2 hD hE
  have hR := hD.2.2.2.1
  have hi9 : i < 2147483648 := (hD.hd : zi32 i).2
  obtain ⟨t0, ht0⟩ := hR.2.2.2.1 o.toNat ho.2.1 (by rw [ho.2.2]; exact Nat.succ_ne_zero _)
  rw [ho.2.2] at ht0
  have hok : zok n (xL (h o i)) := hR.ok ho h0
  rw [List.map_cons, List.map_cons, zcvR (by have := ho.1; omega)]
  refine va_lald hF.1.1 hF.1.2.1 hR.2.1 hR.1 o.toNat t0 (hR.at ho) ht0 (zin h0 hi9 hi) hdg ?_
  rw [zclamp h0 hi9, show ((i.toNat : Nat) : Int) = i from Int.toNat_of_nonneg h0]
  exact kk p l e R s m args below meth c H locs cells slots A E ls Z hF h1 h2 (hD.stk (xL (h o i) :: st) (zok_c1 hok (fun w hw => hD.tl w (List.mem_cons_of_mem _ hw)))) hE
theorem x_last {N : Nat} {o i x : Int} (hdg : decode d.by pc = .ok (.lastore, 1)) (ho : zOb n o (2, 0, N)) (h0 : 0 ≤ i) (hi : i < N) (kk : xW Ψ d X dep bc bs n (pc + 1) lv st (zst h o i (x)) Q) : xW Ψ d X dep bc bs n pc lv (xL x :: xI i :: xR o :: st) h Q := by
  intro p l e R s m args below meth c H locs cells slots A E ls Z hF h1 h2 hD hE
  have hR := hD.2.2.2.1
  have hi9 : i < 2147483648 := (hD.tl _ List.mem_cons_self : zi32 i).2
  have hst : ∀ v ∈ st, zok n v := fun w hw => hD.tl w (List.mem_cons_of_mem _ (List.mem_cons_of_mem _ hw))
  obtain ⟨t0, ht0⟩ := hR.2.2.2.1 o.toNat ho.2.1 (by rw [ho.2.2]; exact Nat.succ_ne_zero _)
  rw [ho.2.2] at ht0
  have ev : Int64.ofInt x = Int64.ofInt (x) := rfl
  have ec : zcell (2, 0, N) E.2.1 (E.2.2.1 o.toNat) (zst h o i (x) o) = .inl (E.2.2.1 o.toNat, N, .inr (.inl (vp_updL (fun j => Int64.ofInt (h o j)) (Int32.ofInt i).toNatClampNeg (Int64.ofInt x)))) := by
    refine congrArg (fun f => (Sum.inl (E.2.2.1 o.toNat, N, .inr (.inl f)) : va_E)) (funext fun j => ?_)
    show _ = vp_updL (fun j => Int64.ofInt (h o j)) (Int32.ofInt i).toNatClampNeg (Int64.ofInt x) j
    rw [zclamp h0 hi9, ev]
    unfold vp_updL zst
    by_cases hj : j = i.toNat
    · rw [if_pos hj, if_pos ⟨rfl, by omega⟩]
    · rw [if_neg hj, if_neg (fun q => hj (by omega))]
  rw [List.map_cons, List.map_cons, List.map_cons, zcvR (by have := ho.1; omega)]
  refine va_last hF.1.1 hF.1.2.1 hR.2.1 hR.1 hR.2.2.1 hD.1 o.toNat t0 (hR.at ho) ht0 (zin h0 hi9 hi) hdg (fun H1 locs1 hP hDD hS => ?_)
  exact kk p l e R s m args below meth c H1 locs1 cells slots A E ls Z hF h1 h2 (hD.put st hst ho h0 (show zok n (xL (x)) from hD.hd) (fun _ => zRF_none (by rw [ho.2.2]; rfl)) (by rw [ec]; exact hP) (by rw [ec]; exact hDD) hS) hE
theorem xrun {p : Program} {l : Launch} {e : Env} {R : Room} {s : State} {m : MethodId} {args : Array Value} {below : List Frame} {meth : Method} {c : Code} {H : Heap} {locs : List Loc} {cells slots bc' bs' : Nat} {A : Nat → Prop} {E : zE} {ls : Array Slot} {Z : State → Prop} {Q' : Nat → zH → List zV → Prop} {a : Array Value} {st0 : List Value}
    (hF : xFix Ψ d dep p l R s m args meth c A) (h1 : cells + bc ≤ R.cells) (h2 : slots + bs ≤ R.slots) (hbc : bc' ≤ bc) (hbs : bs' ≤ bs) (hst : ∀ v ∈ st, zok n v) {st1 : List zV} (hD : zDyn X d n lv st1 h s H locs A E ls)
    (hE : ∀ (H' : Heap) (locs' : List Loc) (cells' slots' : Nat) (E' : zE) (ls' : Array Slot) (n' : Nat) (h' : zH) (pc' : Nat) (rs vs : List zV) (i : Instr) (k : Nat),
      cells' ≤ cells + bc → slots' ≤ slots + bs → zDyn X d n' [] rs h' s H' locs' A E' ls' → zEx E E' n n' → Q n' h' rs → decode d.by pc' = .ok (i, k) → zEnd d i k rs vs →
      W p l e R s m args below meth c H' locs' cells' slots' Z (F0 m pc' ls' (vs.map (zcv E'.2.1))))
    (hr : va_Run p l e R s m args below meth c H locs cells slots bc' bs' (F0 m pc ls st0) (st.map (zcv E.2.1)) (zQc E n Q' (va_A (zws E n h) H.size) a) (va_A (zws E n h) H.size))
    (k : ∀ n' h' rs, Q' n' h' rs → n ≤ n' → xW Ψ d X dep (bc - bc') (bs - bs') n' (pc + 3) lv (rs ++ st) h' Q) : W p l e R s m args below meth c H locs cells slots Z (F0 m pc ls st0) := by
  intro T hT X0
  obtain ⟨v, s0, t, T', L, e0, X', hL, e1, e2, ⟨⟨E', n', h', rs, hv, hR, hx, hok, hq⟩, hz, hk⟩, step⟩ := hr T hT X0
  rw [e0] at hz hk
  have hAA := zws_A hD.2.2.2.1 hD.1 hD.2.1
  have hvm : s.vm.Alike t.vm := by rw [← e2]; exact X'.warmed.alike
  have hS1 : va_S A s.heap T'.heap (locs ++ L) := ⟨Nat.le_trans hD.1.1 (by rw [e1]; exact hz), fun q q1 q2 => by
    rw [e1, hk q (Nat.lt_of_lt_of_le q1 hD.1.1) (fun z => q2 (hAA q z))]
    exact hD.1.2.1 q q1 q2, fun q hq => by
      rcases List.mem_append.mp hq with z | z
      · exact hD.1.2.2 q z
      · exact hAA _ (hL q z)⟩
  have hR1 : zRep E' n' h' s T'.heap A := by
    have h9 := hR.moved hvm.symm
    rw [e1]
    exact ⟨h9.1, h9.2.1, h9.2.2.1.weaken (fun _ q _ z => hAA q.1 z), h9.2.2.2⟩
  have hlv : (lv.map fun q => (q.1, zcv E'.2.1 q.2)) = lv.map fun q => (q.1, zcv E.2.1 q.2) := List.map_congr_left fun q hq => by rw [zcv_ex (hD.2.2.2.2.2.1 q hq) hx]
  have hsv : st.map (zcv E'.2.1) = st.map (zcv E.2.1) := List.map_congr_left fun q hq => zcv_ex (hst q hq) hx
  have hD1 : zDyn X d n' lv (rs ++ st) h' s T'.heap (locs ++ L) A E' ls := ⟨hS1, hD.2.1, hD.2.2.1.ex hx, hR1, by rw [hlv]; exact hD.2.2.2.2.1, fun q hq => zok_mono (hD.2.2.2.2.2.1 q hq) hx.1, fun w hw => by
    rcases List.mem_append.mp hw with z | z
    · exact hok w z
    · exact zok_mono (hst w z) hx.1⟩
  have K := k n' h' rs hq hx.1 p l e R s m args below meth c T'.heap (locs ++ L) (cells + bc') (slots + bs') A E' ls Z hF (by omega) (by omega) hD1
    (fun H' locs' cells' slots' E'' ls' n'' h'' pc' rs' vs i k' a1 a2 a3 a4 a5 a6 a7 => hE H' locs' cells' slots' E'' ls' n'' h'' pc' rs' vs i k' (by omega) (by omega) a3 (hx.tr a4) a5 a6 a7)
  obtain ⟨t2, b1, b2⟩ := K T' rfl X'
  refine ⟨t2, step t2 ?_, b2⟩
  have e9 : v.toList ++ st.map (zcv E.2.1) = (rs ++ st).map (zcv E'.2.1) := by
    rw [List.map_append, hsv]
    rcases hv with ⟨rfl, hv⟩ | ⟨w, rfl, hv⟩
    · cases hv; rfl
    · cases hv; rfl
  show Steps p.tables e below (T'.setTop (F0 m (pc + 3) ls (v.toList ++ st.map (zcv E.2.1)))) t2
  rw [e9]
  exact b1
theorem x_slen (hdg : decode d.by pc = .ok (.arraylength, 1)) (hL : X.1 < 2147483648) (kk : xW Ψ d X dep bc bs n (pc + 1) lv (xI X.1 :: st) h Q) : xW Ψ d X dep bc bs n pc lv (xR 2000000 :: st) h Q := by
  intro p l e R s m args below meth c H locs cells slots A E ls Z hF h1 h2 hD hE
  have kk1 := kk p l e R s m args below meth c H locs cells slots A E ls Z hF h1 h2 (hD.stk (xI X.1 :: st) (zok_c1 (show zi32 (X.1 : Int) from ⟨by omega, by omega⟩) hD.tl)) hE
  rw [List.map_cons, show zcv E.2.1 (xI (X.1 : Int)) = .int (Int32.ofNat X.1) from congrArg Value.int (Int32.ofInt_eq_ofNat)] at kk1
  rw [List.map_cons, zcvR (by decide)]
  have hX := hD.2.2.1.2.1
  obtain ⟨scr, g1, -⟩ := id hX.1
  exact va_slen hF.1.1 hF.1.2.1 hX.1 (Array.getElem?_eq_some_iff.mp g1).1 hX.2 hD.1 hdg kk1
theorem x_sld {i : Int} (hdg : decode d.by pc = .ok (.iaload, 1)) (h0 : 0 ≤ i) (hi : i < X.1) (hL : X.1 < 2147483648) (kk : xW Ψ d X dep bc bs n (pc + 1) lv (xI (zsc X i) :: st) h Q) : xW Ψ d X dep bc bs n pc lv (xI i :: xR 2000000 :: st) h Q := by
  intro p l e R s m args below meth c H locs cells slots A E ls Z hF h1 h2 hD hE
  have hst : ∀ v ∈ st, zok n v := fun w hw => hD.tl w (List.mem_cons_of_mem _ hw)
  have kk1 := kk p l e R s m args below meth c H locs cells slots A E ls Z hF h1 h2 (hD.stk (xI (zsc X i) :: st) (zok_c1 (zsc_in X i) hst)) hE
  rw [List.map_cons, show zcv E.2.1 (xI (zsc X i)) = .int (X.2 (Int32.ofInt i).toNatClampNeg) from congrArg Value.int (by rw [zclamp h0 (by omega)]; exact Int32.ofInt_toInt _)] at kk1
  rw [List.map_cons, List.map_cons, zcvR (show ¬ (2000000 : Int) < 0 by decide)]
  have hX := hD.2.2.1.2.1
  have hb : i < 2147483648 := by omega
  obtain ⟨scr, g1, -⟩ := id hX.1
  exact va_sld hF.1.1 hF.1.2.1 hX.1 (Array.getElem?_eq_some_iff.mp g1).1 hX.2 hD.1 (zin h0 hb hi) hdg kk1
theorem x_sc {i k : Int} (d1 : decode d.by pc = .ok (.aload_n 0, 1)) (d2 : decode d.by (pc + 1) = .ok (.iload 4, 2)) (d3 : decode d.by (pc + 3) = .ok (.iconst k, 1)) (d4 : decode d.by (pc + 4) = .ok (.iadd, 1)) (d5 : decode d.by (pc + 5) = .ok (.iaload, 1)) (h0 : 0 ≤ i) (hi : i + 6 ≤ X.1) (hk : 0 ≤ k ∧ k < 6) (hL : X.1 ≤ 3072) (kk : xW Ψ d X dep bc bs n (pc + 6) (zLp i) (xI (zsc X (i + k)) :: st) h Q) : xW Ψ d X dep bc bs n pc (zLp i) st h Q := by
  refine x_aload_n 1 d1 rfl ?_
  refine x_iload 0 d2 rfl ?_
  refine x_iconst d3 ⟨by omega, by omega⟩ ?_
  refine x_iadd d4 ?_
  rw [w32_id (by omega) (by omega)]
  exact x_sld d5 (by omega) (by omega) (by omega) kk
end XR
section XINV
variable {Ψ : Code → Prop} {d d' : zMd} {X : zX} {dep dep' bc bc' bs bs' n pc index N : Nat} {lv : List (Nat × zV)} {st as : List zV} {h : zH} {Q Q' : Nat → zH → List zV → Prop} {o : Int}
theorem x_inv {ci : Nat} (hZ : zW d' X dep' bc' bs' n 0 (zar 0 (xR o :: as)) [] h Q') (hnt : ∀ n' h', ¬ Q' n' h' [(9, 0)]) (hdg : decode d.by pc = .ok (.invokevirtual index, 3)) (hm : zNm d' as.length) (l1 : Cond.methodLink d.1.cls index d'.1 ∈ zBIG) (l2 : Cond.instanceMethod d'.1 ∈ zBIG) (l3 : Cond.selects d'.1.cls d'.1 d'.1 ∈ zBIG) (l4 : Cond.initialized d'.1.cls ∈ zBIG) (ho : zOb n o (0, ci, N)) (hci : (zcls[ci]?).map (fun r => r.1) = some d'.1.cls)
    (hd : dep' + 1 ≤ dep) (hbc : bc' ≤ bc) (hbs : bs' ≤ bs) (hsz : zsz (xR o :: as) ≤ d'.nl) (hst : zsz st ≤ 8) {ra : List zV} (hra : ra = as.reverse) (k : ∀ n' h' rs, Q' n' h' rs → n ≤ n' → xW Ψ d X dep (bc - bc') (bs - bs') n' (pc + 3) lv (rs ++ st) h' Q) : xW Ψ d X dep bc bs n pc lv (ra ++ xR o :: st) h Q := by
  subst hra
  intro p l e R s m args below meth c H locs cells slots A E ls Z hF h1 h2 hD hE
  have hall := hD.2.2.2.2.2.2
  have hstk : ∀ v ∈ st, zok n v := fun w hw => hall w (List.mem_append_right _ (List.mem_cons_of_mem _ hw))
  have hok : ∀ v ∈ xR o :: as, zok n v := fun w hw => by
    rcases List.mem_cons.mp hw with rfl | hw
    · exact hall _ (List.mem_append_right _ List.mem_cons_self)
    · exact hall _ (List.mem_append_left _ (List.mem_reverse.mpr hw))
  obtain ⟨hm1, hm2, hm3, hm4, hm5, hm6⟩ := hm
  obtain ⟨r, hr0, hr1⟩ := Option.map_eq_some_iff.mp hci
  have hw := hF.1.2.2.2.2.1
  have ho1 : zcv E.2.1 (xR o) = .ref (E.2.1 o.toNat) := zcvR (by have := ho.1; omega)
  have e0 : (as.reverse ++ xR o :: st).map (zcv E.2.1) = (as.map (zcv E.2.1)).reverse ++ .ref (E.2.1 o.toNat) :: st.map (zcv E.2.1) := by rw [List.map_append, List.map_cons, List.map_reverse, ho1]
  have hM := zMet hZ hnt hm1 hsz hok l E H.size
  have hPc := zPc_of (as := xR o :: as) hD
  rw [e0]
  refine xrun (a := (Value.ref (E.2.1 o.toNat) :: as.map (zcv E.2.1)).toArray) hF h1 h2 hbc hbs hstk hD hE ?_ k
  refine va_runV (own := d.1.cls) (C := d'.1.cls) (nL := d.nl) (cc := d.by) (Ts := zBIG) (ws := zwd d') (b := E.2.1 o.toNat) (As := as.map (zcv E.2.1)) ⟨hF.1.1, hF.1.2.1, hF.1.2.2.1, hF.1.2.2.2.1, hw⟩ hM (cwV as.length hw (zgoodV hm6 l1 l2 l3 l4) rfl rfl rfl ⟨rfl, hm2, hm3, hm4⟩ (zroom hd hm5 hF.1.2.2.2.2.2.1 hF.1.2.2.2.2.2.2.1)) ⟨zPc_blind, ?_, fun U hU hW => ?_⟩ rfl (by simp) hD.2.2.2.2.1.1 rfl (lv_room (ls := ls) (zcsum hst)) hdg ⟨by show cells + bc' ≤ _; omega, by show slots + bs' ≤ _; omega⟩
  · have hrc := va_recv hD.2.2.2.1.2.1 hD.2.2.2.1.1 hr0 (hD.2.2.2.1.at ho)
    rw [hr1] at hrc
    exact hrc
  · have h9 := hPc U hU hW
    rw [List.map_cons, ho1] at h9
    exact h9
theorem x_isubN {a b : Int} (hdg : decode d.by pc = .ok (.isub, 1)) (h1 : -2147483648 ≤ a - b) (h2 : a - b < 2147483648) (k : xW Ψ d X dep bc bs n (pc + 1) lv (xI (a - b) :: st) h Q) : xW Ψ d X dep bc bs n pc lv (xI b :: xI a :: st) h Q :=
  x_isub hdg (by rw [w32_id h1 h2]; exact k)
theorem x_iincN {i : Nat} {x c0 : Int} {lv' : List (Nat × zV)} (j : Nat) (hdg : decode d.by pc = .ok (.iinc i c0, 3)) (hk : lv[j]? = some (i, xI x)) (hi : i < d.nl) (hl : (i, xI (x + c0)) :: lv.filter (fun q => !(q.1 == i) && !(q.1 + 1 == i && q.2.1 == 1)) = lv') (h1 : -2147483648 ≤ x + c0) (h2 : x + c0 < 2147483648) (k : xW Ψ d X dep bc bs n (pc + 3) lv' st h Q) : xW Ψ d X dep bc bs n pc lv st h Q :=
  x_iinc j hdg hk hi (by rw [w32_id h1 h2]; exact hl) k
theorem x_invQI {ci : Nat} {P : Int → zH → Prop} (hZ : zW d' X dep' 0 0 239 0 (zar 0 (xR o :: as)) [] h (zQI P)) (hdg : decode d.by pc = .ok (.invokevirtual index, 3)) (hm : zNm d' as.length) (l1 : Cond.methodLink d.1.cls index d'.1 ∈ zBIG) (l2 : Cond.instanceMethod d'.1 ∈ zBIG) (l3 : Cond.selects d'.1.cls d'.1 d'.1 ∈ zBIG) (l4 : Cond.initialized d'.1.cls ∈ zBIG) (ho : zOb 239 o (0, ci, N)) (hci : (zcls[ci]?).map (fun r => r.1) = some d'.1.cls)
    (hd : dep' + 1 ≤ dep) (hsz : zsz (xR o :: as) ≤ d'.nl) (hst : zsz st ≤ 8) {ra : List zV} (hra : ra = as.reverse) (k : ∀ v g, P v g → xW Ψ d X dep bc bs 239 (pc + 3) lv (xI v :: st) g Q) : xW Ψ d X dep bc bs 239 pc lv (ra ++ xR o :: st) h Q :=
  x_inv hZ (fun _ _ q => by obtain ⟨-, v, e, -⟩ := q; exact zne_I e.symm) hdg hm l1 l2 l3 l4 ho hci hd (Nat.zero_le _) (Nat.zero_le _) hsz hst hra (by rintro n1 g1 r1 ⟨rfl, v, rfl, hg⟩ -; exact k v g1 hg)
theorem x_invQL {ci : Nat} {P : Int → zH → Prop} (hZ : zW d' X dep' 0 0 239 0 (zar 0 (xR o :: as)) [] h (zQL P)) (hdg : decode d.by pc = .ok (.invokevirtual index, 3)) (hm : zNm d' as.length) (l1 : Cond.methodLink d.1.cls index d'.1 ∈ zBIG) (l2 : Cond.instanceMethod d'.1 ∈ zBIG) (l3 : Cond.selects d'.1.cls d'.1 d'.1 ∈ zBIG) (l4 : Cond.initialized d'.1.cls ∈ zBIG) (ho : zOb 239 o (0, ci, N)) (hci : (zcls[ci]?).map (fun r => r.1) = some d'.1.cls)
    (hd : dep' + 1 ≤ dep) (hsz : zsz (xR o :: as) ≤ d'.nl) (hst : zsz st ≤ 8) {ra : List zV} (hra : ra = as.reverse) (k : ∀ v g, P v g → xW Ψ d X dep bc bs 239 (pc + 3) lv (xL v :: st) g Q) : xW Ψ d X dep bc bs 239 pc lv (ra ++ xR o :: st) h Q :=
  x_inv hZ (fun _ _ q => by obtain ⟨-, v, e, -⟩ := q; exact zne_L e.symm) hdg hm l1 l2 l3 l4 ho hci hd (Nat.zero_le _) (Nat.zero_le _) hsz hst hra (by rintro n1 g1 r1 ⟨rfl, v, rfl, hg⟩ -; exact k v g1 hg)
end XINV
section UR
variable {Ψ : Code → Prop} {d : zMd} {X : zX} {dep bc bs n pc : Nat} {lv : List (Nat × zV)} {st : List zV} {h : zH} {Q : Nat → zH → List zV → Prop}
theorem u_iconst {v : Int} (hdg : decode d.by pc = .ok (.iconst v, 1)) (hv : zi32 v) (k : uW Ψ d X dep bc bs n (pc + 1) lv (xI v :: st) h Q) : uW Ψ d X dep bc bs n pc lv st h Q := by
  intro p l e R s m args below meth c H locs cells slots A E ls Z hF h1 h2 hD hE
  exact lv_iconst hF.1.1 hF.1.2.1 hdg rfl (k p l e R s m args below meth c H locs cells slots A E ls Z hF h1 h2 (hD.stk _ (zok_c1 hv hD.2.2.2.2.2.2)) hE)
theorem u_dup {v : zV} (hdg : decode d.by pc = .ok (.dup, 1)) (hv : v.1 ≠ 1) (k : uW Ψ d X dep bc bs n (pc + 1) lv (v :: v :: st) h Q) : uW Ψ d X dep bc bs n pc lv (v :: st) h Q := by
  intro p l e R s m args below meth c H locs cells slots A E ls Z hF h1 h2 hD hE
  exact lv_dup hF.1.1 hF.1.2.1 hdg (by have := zcat E.2.1 v; rcases lv_cat (zcv E.2.1 v) with h9 | h9; exact h9; rw [h9] at this; exact absurd (by simpa using this.symm) hv) (k p l e R s m args below meth c H locs cells slots A E ls Z hF h1 h2 (hD.stk (v :: v :: st) (zok_c1 hD.hd hD.2.2.2.2.2.2)) hE)
theorem urun {p : Program} {l : Launch} {e : Env} {R : Room} {s : State} {m : MethodId} {args : Array Value} {below : List Frame} {meth : Method} {c : Code} {H : Heap} {locs : List Loc} {cells slots bc' bs' : Nat} {A : Nat → Prop} {E : zE} {ls : Array Slot} {Z : State → Prop} {Q' : Nat → zH → List zV → Prop} {a : Array Value} {st0 : List Value}
    (hF : uFix Ψ d dep p l R s m args meth c A) (h1 : cells + bc ≤ R.cells) (h2 : slots + bs ≤ R.slots) (hbc : bc' ≤ bc) (hbs : bs' ≤ bs) (hst : ∀ v ∈ st, zok n v) {st1 : List zV} (hD : zDyn X d n lv st1 h s H locs A E ls)
    (hE : ∀ (H' : Heap) (locs' : List Loc) (cells' slots' : Nat) (E' : zE) (ls' : Array Slot) (n' : Nat) (h' : zH) (pc' : Nat) (rs vs : List zV) (i : Instr) (k : Nat),
      cells' ≤ cells + bc → slots' ≤ slots + bs → zDyn X d n' [] rs h' s H' locs' A E' ls' → zEx E E' n n' → Q n' h' rs → decode d.by pc' = .ok (i, k) → zEnd d i k rs vs →
      W p l e R s m args below meth c H' locs' cells' slots' Z (F0 m pc' ls' (vs.map (zcv E'.2.1))))
    (hr : va_Run p l e R s m args below meth c H locs cells slots bc' bs' (F0 m pc ls st0) (st.map (zcv E.2.1)) (zQc E n Q' (va_A (zws E n h) H.size) a) (va_A (zws E n h) H.size))
    (k : ∀ n' h' rs, Q' n' h' rs → n ≤ n' → uW Ψ d X dep (bc - bc') (bs - bs') n' (pc + 3) lv (rs ++ st) h' Q) : W p l e R s m args below meth c H locs cells slots Z (F0 m pc ls st0) := by
  intro T hT X0
  obtain ⟨v, s0, t, T', L, e0, X', hL, e1, e2, ⟨⟨E', n', h', rs, hv, hR, hx, hok, hq⟩, hz, hk⟩, step⟩ := hr T hT X0
  rw [e0] at hz hk
  have hAA := zws_A hD.2.2.2.1 hD.1 hD.2.1
  have hvm : s.vm.Alike t.vm := by rw [← e2]; exact X'.warmed.alike
  have hS1 : va_S A s.heap T'.heap (locs ++ L) := ⟨Nat.le_trans hD.1.1 (by rw [e1]; exact hz), fun q q1 q2 => by
    rw [e1, hk q (Nat.lt_of_lt_of_le q1 hD.1.1) (fun z => q2 (hAA q z))]
    exact hD.1.2.1 q q1 q2, fun q hq => by
      rcases List.mem_append.mp hq with z | z
      · exact hD.1.2.2 q z
      · exact hAA _ (hL q z)⟩
  have hR1 : zRep E' n' h' s T'.heap A := by
    have h9 := hR.moved hvm.symm
    rw [e1]
    exact ⟨h9.1, h9.2.1, h9.2.2.1.weaken (fun _ q _ z => hAA q.1 z), h9.2.2.2⟩
  have hlv : (lv.map fun q => (q.1, zcv E'.2.1 q.2)) = lv.map fun q => (q.1, zcv E.2.1 q.2) := List.map_congr_left fun q hq => by rw [zcv_ex (hD.2.2.2.2.2.1 q hq) hx]
  have hsv : st.map (zcv E'.2.1) = st.map (zcv E.2.1) := List.map_congr_left fun q hq => zcv_ex (hst q hq) hx
  have hD1 : zDyn X d n' lv (rs ++ st) h' s T'.heap (locs ++ L) A E' ls := ⟨hS1, hD.2.1, hD.2.2.1.ex hx, hR1, by rw [hlv]; exact hD.2.2.2.2.1, fun q hq => zok_mono (hD.2.2.2.2.2.1 q hq) hx.1, fun w hw => by
    rcases List.mem_append.mp hw with z | z
    · exact hok w z
    · exact zok_mono (hst w z) hx.1⟩
  have K := k n' h' rs hq hx.1 p l e R s m args below meth c T'.heap (locs ++ L) (cells + bc') (slots + bs') A E' ls Z hF (by omega) (by omega) hD1
    (fun H' locs' cells' slots' E'' ls' n'' h'' pc' rs' vs i k' a1 a2 a3 a4 a5 a6 a7 => hE H' locs' cells' slots' E'' ls' n'' h'' pc' rs' vs i k' (by omega) (by omega) a3 (hx.tr a4) a5 a6 a7)
  obtain ⟨t2, b1, b2⟩ := K T' rfl X'
  refine ⟨t2, step t2 ?_, b2⟩
  have e9 : v.toList ++ st.map (zcv E.2.1) = (rs ++ st).map (zcv E'.2.1) := by
    rw [List.map_append, hsv]
    rcases hv with ⟨rfl, hv⟩ | ⟨w, rfl, hv⟩
    · cases hv; rfl
    · cases hv; rfl
  show Steps p.tables e below (T'.setTop (F0 m (pc + 3) ls (v.toList ++ st.map (zcv E.2.1)))) t2
  rw [e9]
  exact b1
theorem u_new {C : String} {T : u_T} {N ci index : Nat} {ty : Nat → FieldType} (bc' bs' : Nat) (pk : zPk ci C T N ty) (hdg : decode d.by pc = .ok (.new index, 3)) (l1 : Cond.classLink d.1.cls index C ∈ zBIG) (l2 : Cond.instantiable C N ∈ zBIG) (l3 : Cond.initialized C ∈ zBIG) (hs : zS n = (0, ci, N)) (hfd : ∀ j, j < N → ty j ≠ .float ∧ ty j ≠ .double) (hn : n < 238) (hbc : bc' + 1 ≤ bc) (hbs : bs' + N ≤ bs)
    (kk : uW Ψ d X dep bc' bs' (n + 1) (pc + 3) lv (xR n :: st) (znew h n) Q) : uW Ψ d X dep bc bs n pc lv st h Q := by
  intro p l e R s m args below meth c H locs cells slots A E ls Z hF h1 h2 hD hE
  have hR := hD.2.2.2.1
  have hst := hD.2.2.2.2.2.2
  refine va_new (D := E.1) (cl := zcls) (ci := ci) (C := C) (T := T) (N := N) (tys := E.2.2.2) (fs := (List.range N).map fun k => zcv E.2.1 (ztag (zfty ci k), if ztag (zfty ci k) = 2 then -1 else 0)) hF.1.1 hF.1.2.1 hF.1.2.2.2.2.1 pk.2.1 ty pk.2.2.1 hF.1.2.2.2.1 (hF.1.2.2.2.2.1 _ l1) (hF.1.2.2.2.2.1 _ l2) (hF.1.2.2.2.2.1 _ l3) hR.2.1 hR.1 hR.2.2.1 hD.1 hD.2.1 pk.1 (fun j hj => ?_) (by omega) (by omega) hdg (fun q H1 hP hDD hS => ?_)
  · unfold vp_V
    rw [List.getD_eq_getElem?_getD, List.getElem?_map, List.getElem?_range hj]
    show defaultValue (ty j) = zcv E.2.1 (ztag (zfty ci j), if ztag (zfty ci j) = 2 then -1 else 0)
    have f := hfd j hj
    rw [pk.2.2.2.2 j]
    exact zdef f.1 f.2 _
  · have hx := zE1_ex (E := E) (n := n) (q := q) (cA := E.2.2.1 n) (tys := E.2.2.2) (by omega)
    have ew := zws_new (h' := znew h n) hx (fun o ho => znew_old ho) hR.2.2.2.2.1
    have ec : zcell (zS n) (zE1 E n q (E.2.2.1 n) E.2.2.2).2.1 ((zE1 E n q (E.2.2.1 n) E.2.2.2).2.2.1 n) (znew h n n) = .inr (ci, (List.range N).map fun k => zcv E.2.1 (ztag (zfty ci k), if ztag (zfty ci k) = 2 then -1 else 0)) := by
      rw [znew_n, hs]
      show (Sum.inr (ci, _) : va_E) = Sum.inr (ci, _)
      congr 2
      apply List.map_congr_left
      intro k _
      unfold zd
      rw [Int.toNat_natCast, Int.toNat_natCast, hs]
      show zcv _ (ztag (zfty ci k), if ztag (zfty ci k) = 2 then -1 else 0) = _
      by_cases c2 : ztag (zfty ci k) = 2
      · rw [c2]; rfl
      · rw [if_neg c2]
        exact zcv_ex (n := 0) (E := E) (n' := n + 1) (E' := zE1 E n q (E.2.2.1 n) E.2.2.2) (by
          match hz : ztag (zfty ci k) with
          | 0 => exact ⟨by decide, by decide⟩
          | 1 => exact ⟨by decide, by decide⟩
          | t + 2 =>
            have le : ∀ ty : FieldType, ztag ty ≤ 2 := fun ty => by unfold ztag; split <;> decide
            have := le (zfty ci k)
            omega) ⟨by omega, rfl, fun o ho => if_neg (by omega), fun o ho => by omega⟩
    rw [zE1_n.1, ec] at ew
    rw [← ew] at hP hDD
    have K := kk p l e R s m args below meth c H1 locs (cells + 1) (slots + N) A (zE1 E n q (E.2.2.1 n) E.2.2.2) ls Z hF (by omega) (by omega) (hD.made hx hP hDD hS hR.2.1 (fun h0 => absurd (by rw [hs]) h0) (fun _ _ h9 => h9) (fun o ho => znew_old ho) (fun k => by rw [znew_n]; exact zd_ok rfl k) (by omega) (fun h9 => by omega) _ (zokn hst))
      (fun H' locs' cells' slots' E'' ls' n'' h'' pc' rs vs i k a1 a2 a3 a4 a5 a6 a7 => hE H' locs' cells' slots' E'' ls' n'' h'' pc' rs vs i k (by omega) (by omega) a3 (hx.tr a4) a5 a6 a7)
    rw [zst1 (by omega) hst] at K
    exact K
theorem u_newa {t N : Nat} {atype : ArrayType} (bc' bs' : Nat) (hdg : decode d.by pc = .ok (.newarray atype, 2)) (ht : newarray.typeOf atype = zety t) (ht4 : t = 1 ∨ t = 2 ∨ t = 3 ∨ t = 4) (l1 : Cond.arrayClass (zety t) ∈ zBIG) (hs : zS n = (t, 0, N)) (hN : N < 60000000) (hn : n < 239) (hr : 239 ≤ n + 1 → zRefOK (znew h n)) (hbc : bc' + 1 ≤ bc) (hbs : bs' + N ≤ bs)
    (kk : uW Ψ d X dep bc' bs' (n + 1) (pc + 2) lv (xR n :: st) (znew h n) Q) : uW Ψ d X dep bc bs n pc lv (xI N :: st) h Q := by
  intro p l e R s m args below meth c H locs cells slots A E ls Z hF h1 h2 hD hE
  have hR := hD.2.2.2.1
  have hst : ∀ v ∈ st, zok n v := hD.tl
  rw [List.map_cons]
  have hcell : ∀ (ad : Nat → Nat) (cA : ClassId), zcell (zS n) ad cA (zd n) = .inl (cA, if t = 2 then (N, .inr (.inl fun _ => 0)) else (N, .inl fun _ => 0)) := fun ad cA => by
    have ez : ∀ k : Nat, zd n k = 0 := fun k => by
      unfold zd
      rw [Int.toNat_natCast, Int.toNat_natCast, hs]
      rcases ht4 with rfl | rfl | rfl | rfl <;> rfl
    rw [hs]
    rcases ht4 with rfl | rfl | rfl | rfl
    · show (Sum.inl (cA, N, .inl fun j : Nat => Int32.ofInt (zd n j)) : va_E) = _
      simp only [ez]; rfl
    · show (Sum.inl (cA, N, .inr (.inl fun j : Nat => Int64.ofInt (zd n j))) : va_E) = _
      simp only [ez]; rfl
    · show (Sum.inl (cA, N, .inl fun j : Nat => Int32.ofInt (zd n j)) : va_E) = _
      simp only [ez]; rfl
    · show (Sum.inl (cA, N, .inl fun j : Nat => Int32.ofInt (zd n j)) : va_E) = _
      simp only [ez]; rfl
  have n1 : (Int32.ofInt (N : Int)).toNatClampNeg = N := by rw [zclamp (by omega) (by omega)]; omega
  have n0 : ¬ Int32.ofInt (N : Int) < 0 := by
    rw [← zI0, zi32_lt ⟨by omega, by omega⟩ zi32_0]; omega
  refine va_newa (D := E.1) (cl := zcls) (tys := E.2.2.2) (ty := zety t) (N' := N) (a0 := if t = 2 then (N, .inr (.inl fun _ => 0)) else (N, .inl fun _ => 0)) hF.1.1 hF.1.2.1 (by rw [ht]; exact hF.1.2.2.2.2.1 _ l1) ht hR.2.1 hR.1 hR.2.2.1 hD.1 hD.2.1 (fun cA => ?_) n0 n1 ?_ (by omega) (by omega) hdg (fun q cA H1 hK hP hDD hS => ?_)
  · rcases ht4 with rfl | rfl | rfl | rfl <;> rfl
  · rcases ht4 with rfl | rfl | rfl | rfl
    · show N * 4 ≤ _; omega
    · show N * 8 ≤ _; omega
    · show N * 1 ≤ _; omega
    · show N * 1 ≤ _; omega
  · have hx := zE1_ex (E := E) (n := n) (q := q) (cA := cA) (tys := E.2.2.2 ++ [(cA, zety t)]) (by omega)
    have ew := zws_new (h' := znew h n) hx (fun o ho => znew_old ho) hR.2.2.2.2.1
    rw [zE1_n.1, zE1_n.2, znew_n, hcell] at ew
    rw [← ew] at hP hDD
    have K := kk p l e R s m args below meth c H1 locs (cells + 1) (slots + N) A (zE1 E n q cA (E.2.2.2 ++ [(cA, zety t)])) ls Z hF (by omega) (by omega) (hD.made hx hP hDD hS hK (fun _ => ⟨E.2.2.2.length, by rw [zE1_n.2, hs]; exact List.getElem?_concat_length⟩) (fun i v h9 => by
      show (E.2.2.2 ++ [(cA, zety t)])[i]? = some v
      rw [List.getElem?_append_left (List.getElem?_eq_some_iff.mp h9).1]
      exact h9) (fun o ho => znew_old ho) (fun k => by rw [znew_n]; exact zd_ok rfl k) hn hr _ (zokn hst))
      (fun H' locs' cells' slots' E'' ls' n'' h'' pc' rs vs i k a1 a2 a3 a4 a5 a6 a7 => hE H' locs' cells' slots' E'' ls' n'' h'' pc' rs vs i k (by omega) (by omega) a3 (hx.tr a4) a5 a6 a7)
    rw [zst1 (by omega) hst] at K
    exact K
theorem u_astore_n {i : Fin 4} {x : Int} {lv' : List (Nat × zV)} (hdg : decode d.by pc = .ok (.astore_n i, 1)) (hi : (i : Nat) < d.nl) (h0 : ¬ x < 0) (hl : ((i : Nat), xR x) :: lv.filter (fun q => !(q.1 == (i : Nat)) && !(q.1 + 1 == (i : Nat) && q.2.1 == 1)) = lv') (k : uW Ψ d X dep bc bs n (pc + 1) lv' st h Q) : uW Ψ d X dep bc bs n pc lv (xR x :: st) h Q := by
  intro p l e R s m args below meth c H locs cells slots A E ls Z hF h1 h2 hD hE
  rw [List.map_cons, zcvR h0]
  exact lv_astore_n hF.1.1 hF.1.2.1 hdg rfl hD.2.2.2.2.1 hi (by rw [zfil1, ← zcvR (ad := E.2.1) h0, ← hl]; rfl) (fun ls' hl' => k p l e R s m args below meth c H locs cells slots A E ls' Z hF h1 h2 (hD.lvs lv' st ls' hl' (by rw [← hl]; exact zok_fil hD.hd hD.2.2.2.2.2.1) hD.tl) hE)
end UR
section UINV
variable {Ψ : Code → Prop} {d d' : zMd} {X : zX} {dep dep' bc bc' bs bs' n pc index N : Nat} {lv : List (Nat × zV)} {st as : List zV} {h : zH} {Q Q' : Nat → zH → List zV → Prop} {o : Int}
theorem u_invI (hZ : yW d' X dep' bc' bs' n 0 (zar 0 (xR o :: as)) [] h Q') (hnt : ∀ n' h', ¬ Q' n' h' [(9, 0)]) (hdg : decode d.by pc = .ok (.invokespecial index, 3)) (hm : zNm d' as.length) (hrt : d'.rt = none) (hini : d'.1.name = "<init>") (l1 : Cond.methodLink d.1.cls index d'.1 ∈ zBIG) (l2 : Cond.instanceMethod d'.1 ∈ zBIG) (l4 : Cond.initialized d'.1.cls ∈ zBIG) (ho : 0 ≤ o)
    (hd : dep' + 1 ≤ dep) (hbc : bc' ≤ bc) (hbs : bs' ≤ bs) (hsz : zsz (xR o :: as) ≤ d'.nl) (hst : zsz st ≤ 8) {ra : List zV} (hra : ra = as.reverse) (k : ∀ n' h' rs, Q' n' h' rs → n ≤ n' → uW Ψ d X dep (bc - bc') (bs - bs') n' (pc + 3) lv (rs ++ st) h' Q) : uW Ψ d X dep bc bs n pc lv (ra ++ xR o :: st) h Q := by
  subst hra
  obtain ⟨y', cc', nl', rt'⟩ := d'
  subst hrt
  intro p l e R s m args below meth c H locs cells slots A E ls Z hF h1 h2 hD hE
  have hall := hD.2.2.2.2.2.2
  have hstk : ∀ v ∈ st, zok n v := fun w hw => hall w (List.mem_append_right _ (List.mem_cons_of_mem _ hw))
  have hok : ∀ v ∈ xR o :: as, zok n v := fun w hw => by
    rcases List.mem_cons.mp hw with rfl | hw
    · exact hall _ (List.mem_append_right _ List.mem_cons_self)
    · exact hall _ (List.mem_append_left _ (List.mem_reverse.mpr hw))
  obtain ⟨hm1, hm2, hm3, hm4, hm5, hm6⟩ := hm
  have hw := hF.1.2.2.2.2.1
  have ho1 : zcv E.2.1 (xR o) = .ref (E.2.1 o.toNat) := zcvR (by omega)
  have e0 : (as.reverse ++ xR o :: st).map (zcv E.2.1) = (as.map (zcv E.2.1)).reverse ++ .ref (E.2.1 o.toNat) :: st.map (zcv E.2.1) := by rw [List.map_append, List.map_cons, List.map_reverse, ho1]
  have hM := yMet hZ hnt hm1 hsz hok l E H.size
  have hPc := yPc_of (as := xR o :: as) hD hF.1.2.2.2.2.2.2.2.2.2.2
  rw [e0]
  refine urun (a := (Value.ref (E.2.1 o.toNat) :: as.map (zcv E.2.1)).toArray) hF h1 h2 hbc hbs hstk hD hE ?_ k
  refine va_runI (own := d.1.cls) (nL := d.nl) (cc := d.by) (Ts := zBIG) (ws := zwd (y', cc', nl', none)) (b := E.2.1 o.toNat) (As := as.map (zcv E.2.1)) ⟨hF.1.1, hF.1.2.1, hF.1.2.2.1, hF.1.2.2.2.1, hw⟩ hM (cwI as.length hw (fun w h9 => zwd_good (d' := (y', cc', nl', none)) hm6 h9) rfl rfl rfl (hw _ l4) (hw _ l1) (hw _ l2) hini ⟨hm2, hm3, hm4⟩ (zroom hd hm5 hF.1.2.2.2.2.2.1 hF.1.2.2.2.2.2.2.1)) ⟨yPc_blind, fun U hU hW => ?_⟩ rfl (by simp) hD.2.2.2.2.1.1 rfl (lv_room (ls := ls) (zcsum hst)) hdg ⟨by show cells + bc' ≤ _; omega, by show slots + bs' ≤ _; omega⟩
  have h9 := hPc U hU hW
  rw [List.map_cons, ho1] at h9
  exact h9
end UINV
