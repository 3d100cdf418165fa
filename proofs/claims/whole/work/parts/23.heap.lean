/-- object o is made, and of a shape -/
def zOb (n : Nat) (o : Int) (sh : Nat × Nat × Nat) : Prop := 0 ≤ o ∧ o.toNat < n ∧ zS o.toNat = sh
theorem zOb.mono {n n' : Nat} {o : Int} {sh : Nat × Nat × Nat} (h : zOb n o sh) (hn : n ≤ n') : zOb n' o sh := ⟨h.1, Nat.lt_of_lt_of_le h.2.1 hn, h.2.2⟩
theorem zOb.lit {n : Nat} {o : Int} {sh : Nat × Nat × Nat} (h : (decide (0 ≤ o) && decide (o.toNat < n) && decide (zS o.toNat = sh)) = true) : zOb n o sh := by
  simp only [Bool.and_eq_true, decide_eq_true_eq] at h
  exact ⟨h.1.1, h.1.2, h.2⟩
/-- a class of the worlds: its place, its table, what the tables' words say of it -/
def zPk (ci : Nat) (C : String) (T : u_T) (N : Nat) (ty : Nat → FieldType) : Prop := zcls[ci]? = some (C, T, N) ∧ (∀ w ∈ u_ws C T N, w ∈ zBIG) ∧ (∀ k, k < N → parseFieldDescriptor (T k).2.2.1 = some (ty k)) ∧ (∀ a, a < N → ∀ b, b < N → a ≠ b → (T a).2.1 ≠ (T b).2.1) ∧ ∀ k, zfty ci k = ty k
/-- a value that a place of a type takes as it is -/
def zFit (ty : FieldType) (v : zV) : Prop := v.1 = ztag ty ∧ ∀ ad : Nat → Nat, narrow ty (zcv ad v) = zcv ad v ∧ fits ty (zcv ad v) = true
theorem zFit_int (x : Int) : zFit .int (xI x) := ⟨rfl, fun _ => ⟨rfl, rfl⟩⟩
theorem zFit_long (x : Int) : zFit .long (xL x) := ⟨rfl, fun _ => ⟨rfl, rfl⟩⟩
theorem zFit_obj (C : String) (x : Int) : zFit (.object C) (xR x) := ⟨rfl, fun ad => by
  by_cases h : x < 0
  · rw [zcvN h]; exact ⟨rfl, rfl⟩
  · rw [zcvR h]; exact ⟨rfl, rfl⟩⟩
theorem zFit_arr (t : FieldType) (x : Int) : zFit (.array t) (xR x) := ⟨rfl, fun ad => by
  by_cases h : x < 0
  · rw [zcvN h]; exact ⟨rfl, rfl⟩
  · rw [zcvR h]; exact ⟨rfl, rfl⟩⟩
theorem zFit_bool {x : Int} (h : x = 0 ∨ x = 1) : zFit .boolean (xI x) := ⟨rfl, fun ad => by
  rcases h with rfl | rfl
  · exact (by decide : narrow .boolean (.int (Int32.ofInt 0)) = .int (Int32.ofInt 0) ∧ fits .boolean (.int (Int32.ofInt 0)) = true)
  · exact (by decide : narrow .boolean (.int (Int32.ofInt 1)) = .int (Int32.ofInt 1) ∧ fits .boolean (.int (Int32.ofInt 1)) = true)⟩
theorem zclamp {i : Int} (h0 : 0 ≤ i) (h1 : i < 2147483648) : (Int32.ofInt i).toNatClampNeg = i.toNat := by
  rw [Int32.toNatClampNeg, Int32.toInt_ofInt_of_le (by omega) h1]
theorem zin {i : Int} {N : Nat} (h0 : 0 ≤ i) (h1 : i < 2147483648) (h2 : i < N) : vp_in (Int32.ofInt i) N := by
  rw [vp_in_iff, Int32.toInt_ofInt_of_le (by omega) h1]
  exact ⟨h0, h2⟩
theorem zvm {ad : Nat → Nat} {f : Int → Int} {c N k : Nat} {v : zV} (hv : v.1 = ztag (zfty c k)) : ((List.range N).map fun j => zcv ad (ztag (zfty c j), f j)).set k (zcv ad v) = (List.range N).map fun j => zcv ad (ztag (zfty c j), if (j : Int) = k then v.2 else f j) := by
  apply List.ext_getElem?
  intro i
  by_cases hi : i = k
  · subst hi
    by_cases hl : i < N
    · rw [List.getElem?_set_self (by simpa using hl)]
      simp [hl, ← hv]
    · rw [List.getElem?_eq_none (by simp; omega), List.getElem?_eq_none (by simp; omega)]
  · rw [List.getElem?_set_ne (Ne.symm hi)]
    by_cases hl : i < N
    · simp [hl, show ¬ ((i : Int) = k) by omega]
    · rw [List.getElem?_eq_none (by simp; omega), List.getElem?_eq_none (by simp; omega)]
section ZH
variable {d : zMd} {X : zX} {dep bc bs n pc : Nat} {lv : List (Nat × zV)} {st : List zV} {h : zH} {Q : Nat → zH → List zV → Prop}
theorem zRep.at {E : zE} {s : State} {H : Heap} {A : Nat → Prop} (hR : zRep E n h s H A) {o : Int} {sh : Nat × Nat × Nat} (ho : zOb n o sh) : (zws E n h)[o.toNat]? = some (E.2.1 o.toNat, zcell sh E.2.1 (E.2.2.1 o.toNat) (h o)) := by
  rw [zws_at ho.2.1, ho.2.2, show ((o.toNat : Nat) : Int) = o from Int.toNat_of_nonneg ho.1]
theorem zRep.ok {E : zE} {s : State} {H : Heap} {A : Nat → Prop} (hR : zRep E n h s H A) {o k : Int} {sh : Nat × Nat × Nat} (ho : zOb n o sh) (hk : 0 ≤ k) : zok n (zsty sh k.toNat, h o k) := by
  have h9 := hR.2.2.2.2.1 o.toNat k.toNat ho.2.1
  rw [ho.2.2, show ((o.toNat : Nat) : Int) = o from Int.toNat_of_nonneg ho.1, show ((k.toNat : Nat) : Int) = k from Int.toNat_of_nonneg hk] at h9
  exact h9
/-- the heap behind a store -/
theorem zDyn.put {s : State} {H H1 : Heap} {locs locs1 : List Loc} {A : Nat → Prop} {E : zE} {ls : Array Slot} (hD : zDyn X d n lv st h s H locs A E ls) (st' : List zV) (h' : ∀ v ∈ st', zok n v) {o k x : Int} {sh : Nat × Nat × Nat} (ho : zOb n o sh) (hk : 0 ≤ k) (hx : zok n (zsty sh k.toNat, x))
    (hrf : 239 ≤ n → zRF o k = none) (hP : va_P E.1 zcls ((zws E n h).set o.toNat (E.2.1 o.toNat, zcell sh E.2.1 (E.2.2.1 o.toNat) (zst h o k x o))) H1) (hDD : va_D A ((zws E n h).set o.toNat (E.2.1 o.toNat, zcell sh E.2.1 (E.2.2.1 o.toNat) (zst h o k x o)))) (hS : va_S A s.heap H1 locs1) : zDyn X d n lv st' (zst h o k x) s H1 locs1 A E ls := by
  have ho1 : ((o.toNat : Nat) : Int) = o := Int.toNat_of_nonneg ho.1
  have e : (zws E n h).set o.toNat (E.2.1 o.toNat, zcell sh E.2.1 (E.2.2.1 o.toNat) (zst h o k x o)) = zws E n (zst h o k x) := by
    rw [← zws_set (zst h o k x) ho.2.1 (by rw [← ho1]; exact zst_oth h o.toNat k x), ho.2.2, ho1]
  rw [e] at hP hDD
  refine ⟨hS, hD.2.1, hD.2.2.1, ⟨hP, hD.2.2.2.1.2.1, hDD, hD.2.2.2.1.2.2.2.1, fun o' k' ho' => ?_, hD.2.2.2.1.2.2.2.2.2.1, fun hn => (hD.2.2.2.1.2.2.2.2.2.2 hn).zst (hrf hn)⟩, hD.2.2.2.2.1, hD.2.2.2.2.2.1, h'⟩
  unfold zst
  by_cases hc : (o' : Int) = o ∧ (k' : Int) = k
  · rw [if_pos hc]
    have e1 : o' = o.toNat := by omega
    have e2 : k' = k.toNat := by omega
    rw [e1, e2, ho.2.2]
    exact hx
  · rw [if_neg hc]
    exact hD.2.2.2.1.2.2.2.2.1 o' k' ho'
theorem z_get {C : String} {T : u_T} {N ci k index : Nat} {ty : Nat → FieldType} {t : Nat} {o : Int} (pk : zPk ci C T N ty) (hdg : decode d.by pc = .ok (.getfield index, 3)) (hk : k < N) (hl : Cond.fieldLink d.1.cls index (T k).1 (T k).2.1 (T k).2.2.1 ∈ zBIG) (ht : ztag (ty k) = t) (ho : zOb n o (0, ci, N)) (kk : zW d X dep bc bs n (pc + 3) lv ((t, h o k) :: st) h Q) : zW d X dep bc bs n pc lv (xR o :: st) h Q := by
  intro p l e R s m args below meth c H locs cells slots A E ls Z hF h1 h2 hD hE
  have hR := hD.2.2.2.1
  have hok : zok n (t, h o k) := by
    have h9 := hR.ok ho (k := (k : Int)) (by omega)
    rw [← ht, ← pk.2.2.2.2 k]
    exact h9
  rw [List.map_cons, zcvR (by have := ho.1; omega)]
  refine va_get (D := E.1) (cl := zcls) (ci := ci) (v := zcv E.2.1 (t, h o k)) (C := C) (T := T) (N := N) hF.1 hF.2.1 hF.2.2.2.2.1 pk.2.1 hF.2.2.2.1 hR.2.1 hR.1 o.toNat (hR.at ho) pk.1 k hk (hF.2.2.2.2.1 _ hl) (fun _ h9 => h9) ?_ hdg (kk p l e R s m args below meth c H locs cells slots A E ls Z hF h1 h2 (hD.stk ((t, h o k) :: st) (zok_c1 hok hD.tl)) hE)
  rw [List.getElem?_map, List.getElem?_range hk, ← ht, ← pk.2.2.2.2 k]
  rfl
theorem z_put {C : String} {T : u_T} {N ci k index : Nat} {ty : Nat → FieldType} {o : Int} {v : zV} (pk : zPk ci C T N ty) (hdg : decode d.by pc = .ok (.putfield index, 3)) (hk : k < N) (hl : Cond.fieldLink d.1.cls index (T k).1 (T k).2.1 (T k).2.2.1 ∈ zBIG) (hfin : (T k).2.2.2 = false) (hv : zFit (ty k) v) (ho : zOb n o (0, ci, N)) (kk : zW d X dep bc bs n (pc + 3) lv st (zst h o k v.2) Q) : zW d X dep bc bs n pc lv (v :: xR o :: st) h Q := by
  intro p l e R s m args below meth c H locs cells slots A E ls Z hF h1 h2 hD hE
  have hR := hD.2.2.2.1
  have hst : ∀ v ∈ st, zok n v := fun w hw => hD.tl w (List.mem_cons_of_mem _ hw)
  rw [List.map_cons, List.map_cons, zcvR (by have := ho.1; omega)]
  have hvt : v.1 = ztag (zfty ci k) := by rw [pk.2.2.2.2 k]; exact hv.1
  refine va_put (D := E.1) (cl := zcls) (ci := ci) (v := zcv E.2.1 v) (ty := ty k) (C := C) (T := T) (N := N) hF.1 hF.2.1 hF.2.2.2.2.1 pk.2.1 ty pk.2.2.1 pk.2.2.2.1 hF.2.2.2.1 hR.2.1 hR.1 hR.2.2.1 hD.1 o.toNat (hR.at ho) pk.1 k hk (hF.2.2.2.2.1 _ hl) (fun _ h9 => h9) hfin (pk.2.2.1 k hk) (hv.2 E.2.1).1 (hv.2 E.2.1).2 (by simp; exact hk) hdg (fun H1 locs1 hP hDD hS => ?_)
  refine kk p l e R s m args below meth c H1 locs1 cells slots A E ls Z hF h1 h2 (hD.put st hst ho (k := (k : Int)) (by omega) ?_ (fun hn => ?_) ?_ ?_ hS) hE
  · show zok n (ztag (zfty ci k), v.2)
    rw [← hvt]
    exact hD.hd
  · exact zRF_none (by rw [ho.2.2]; show ((zcls.getD ci _).2.1 ((k : Int).toNat)).2.2.2 = false; rw [List.getD_eq_getElem?_getD, pk.1, Int.toNat_natCast]; exact hfin)
  · have e : zcell (0, ci, N) E.2.1 (E.2.2.1 o.toNat) (zst h o k v.2 o) = .inr (ci, (((List.range N).map fun j => zcv E.2.1 (ztag (zfty ci j), h o j)).set k (zcv E.2.1 v))) := by
      rw [zvm hvt]
      show Sum.inr (ci, _) = _
      congr 2
      apply List.map_congr_left
      intro j _
      unfold zst
      by_cases hj : (j : Int) = k <;> simp [hj]
    rw [e]
    exact hP
  · have e : zcell (0, ci, N) E.2.1 (E.2.2.1 o.toNat) (zst h o k v.2 o) = .inr (ci, (((List.range N).map fun j => zcv E.2.1 (ztag (zfty ci j), h o j)).set k (zcv E.2.1 v))) := by
      rw [zvm hvt]
      show Sum.inr (ci, _) = _
      congr 2
      apply List.map_congr_left
      intro j _
      unfold zst
      by_cases hj : (j : Int) = k <;> simp [hj]
    rw [e]
    exact hDD
theorem z_putF {C : String} {T : u_T} {N ci k index : Nat} {ty : Nat → FieldType} {o : Int} {v : zV} (pk : zPk ci C T N ty) (hdg : decode d.by pc = .ok (.putfield index, 3)) (hk : k < N) (hl : Cond.fieldLink d.1.cls index (T k).1 (T k).2.1 (T k).2.2.1 ∈ zBIG) (hfin : (T k).2.2.2 = true) (hin : d.1.name = "<init>") (hdecl : (T k).1 = d.1.cls) (hnb : n < 239) (hv : zFit (ty k) v) (ho : zOb n o (0, ci, N)) (kk : zW d X dep bc bs n (pc + 3) lv st (zst h o k v.2) Q) : zW d X dep bc bs n pc lv (v :: xR o :: st) h Q := by
  intro p l e R s m args below meth c H locs cells slots A E ls Z hF h1 h2 hD hE
  have hR := hD.2.2.2.1
  have hst : ∀ v ∈ st, zok n v := fun w hw => hD.tl w (List.mem_cons_of_mem _ hw)
  rw [List.map_cons, List.map_cons, zcvR (by have := ho.1; omega)]
  have hvt : v.1 = ztag (zfty ci k) := by rw [pk.2.2.2.2 k]; exact hv.1
  refine va_putF (D := E.1) (cl := zcls) (ci := ci) (v := zcv E.2.1 v) (ty := ty k) (C := C) (T := T) (N := N) hF.1 hF.2.1 hF.2.2.2.2.1 pk.2.1 ty pk.2.2.1 pk.2.2.2.1 hF.2.2.2.1 hR.2.1 hR.1 hR.2.2.1 hD.1 o.toNat (hR.at ho) pk.1 k hk (hF.2.2.2.2.1 _ hl) (fun _ h9 => h9) hfin (hF.2.2.2.2.2.2.2.2.2.trans hin) hdecl (pk.2.2.1 k hk) (hv.2 E.2.1).1 (hv.2 E.2.1).2 (by simp; exact hk) hdg (fun H1 locs1 hP hDD hS => ?_)
  refine kk p l e R s m args below meth c H1 locs1 cells slots A E ls Z hF h1 h2 (hD.put st hst ho (k := (k : Int)) (by omega) ?_ (fun hn => ?_) ?_ ?_ hS) hE
  · show zok n (ztag (zfty ci k), v.2)
    rw [← hvt]
    exact hD.hd
  · exact absurd hn (by omega)
  · have e : zcell (0, ci, N) E.2.1 (E.2.2.1 o.toNat) (zst h o k v.2 o) = .inr (ci, (((List.range N).map fun j => zcv E.2.1 (ztag (zfty ci j), h o j)).set k (zcv E.2.1 v))) := by
      rw [zvm hvt]
      show Sum.inr (ci, _) = _
      congr 2
      apply List.map_congr_left
      intro j _
      unfold zst
      by_cases hj : (j : Int) = k <;> simp [hj]
    rw [e]
    exact hP
  · have e : zcell (0, ci, N) E.2.1 (E.2.2.1 o.toNat) (zst h o k v.2 o) = .inr (ci, (((List.range N).map fun j => zcv E.2.1 (ztag (zfty ci j), h o j)).set k (zcv E.2.1 v))) := by
      rw [zvm hvt]
      show Sum.inr (ci, _) = _
      congr 2
      apply List.map_congr_left
      intro j _
      unfold zst
      by_cases hj : (j : Int) = k <;> simp [hj]
    rw [e]
    exact hDD
theorem z_iald {N : Nat} {o i : Int} (hdg : decode d.by pc = .ok (.iaload, 1)) (ho : zOb n o (1, 0, N)) (h0 : 0 ≤ i) (hi : i < N) (kk : zW d X dep bc bs n (pc + 1) lv (xI (h o i) :: st) h Q) : zW d X dep bc bs n pc lv (xI i :: xR o :: st) h Q := by
  intro p l e R s m args below meth c H locs cells slots A E ls Z hF h1 h2 hD hE
  have hR := hD.2.2.2.1
  have hi9 : i < 2147483648 := (hD.hd : zi32 i).2
  obtain ⟨t0, ht0⟩ := hR.2.2.2.1 o.toNat ho.2.1 (by rw [ho.2.2]; exact Nat.succ_ne_zero _)
  rw [ho.2.2] at ht0
  have hok : zok n (xI (h o i)) := hR.ok ho h0
  rw [List.map_cons, List.map_cons, zcvR (by have := ho.1; omega)]
  refine va_iald hF.1 hF.2.1 hR.2.1 hR.1 o.toNat t0 (hR.at ho) ht0 (zin h0 hi9 hi) hdg ?_
  rw [zclamp h0 hi9, show ((i.toNat : Nat) : Int) = i from Int.toNat_of_nonneg h0]
  exact kk p l e R s m args below meth c H locs cells slots A E ls Z hF h1 h2 (hD.stk (xI (h o i) :: st) (zok_c1 hok (fun w hw => hD.tl w (List.mem_cons_of_mem _ hw)))) hE
theorem z_lald {N : Nat} {o i : Int} (hdg : decode d.by pc = .ok (.laload, 1)) (ho : zOb n o (2, 0, N)) (h0 : 0 ≤ i) (hi : i < N) (kk : zW d X dep bc bs n (pc + 1) lv (xL (h o i) :: st) h Q) : zW d X dep bc bs n pc lv (xI i :: xR o :: st) h Q := by
  intro p l e R s m args below meth c H locs cells slots A E ls Z hF h1 h2 hD hE
  have hR := hD.2.2.2.1
  have hi9 : i < 2147483648 := (hD.hd : zi32 i).2
  obtain ⟨t0, ht0⟩ := hR.2.2.2.1 o.toNat ho.2.1 (by rw [ho.2.2]; exact Nat.succ_ne_zero _)
  rw [ho.2.2] at ht0
  have hok : zok n (xL (h o i)) := hR.ok ho h0
  rw [List.map_cons, List.map_cons, zcvR (by have := ho.1; omega)]
  refine va_lald hF.1 hF.2.1 hR.2.1 hR.1 o.toNat t0 (hR.at ho) ht0 (zin h0 hi9 hi) hdg ?_
  rw [zclamp h0 hi9, show ((i.toNat : Nat) : Int) = i from Int.toNat_of_nonneg h0]
  exact kk p l e R s m args below meth c H locs cells slots A E ls Z hF h1 h2 (hD.stk (xL (h o i) :: st) (zok_c1 hok (fun w hw => hD.tl w (List.mem_cons_of_mem _ hw)))) hE
theorem z_zald {N : Nat} {o i : Int} (hdg : decode d.by pc = .ok (.baload, 1)) (ho : zOb n o (3, 0, N)) (h0 : 0 ≤ i) (hi : i < N) (kk : zW d X dep bc bs n (pc + 1) lv (xI (h o i) :: st) h Q) : zW d X dep bc bs n pc lv (xI i :: xR o :: st) h Q := by
  intro p l e R s m args below meth c H locs cells slots A E ls Z hF h1 h2 hD hE
  have hR := hD.2.2.2.1
  have hi9 : i < 2147483648 := (hD.hd : zi32 i).2
  obtain ⟨t0, ht0⟩ := hR.2.2.2.1 o.toNat ho.2.1 (by rw [ho.2.2]; exact Nat.succ_ne_zero _)
  rw [ho.2.2] at ht0
  have hok : zok n (xI (h o i)) := hR.ok ho h0
  rw [List.map_cons, List.map_cons, zcvR (by have := ho.1; omega)]
  refine va_zald hF.1 hF.2.1 hR.2.1 hR.1 o.toNat t0 (hR.at ho) ht0 (zin h0 hi9 hi) hdg ?_
  rw [zclamp h0 hi9, show ((i.toNat : Nat) : Int) = i from Int.toNat_of_nonneg h0]
  exact kk p l e R s m args below meth c H locs cells slots A E ls Z hF h1 h2 (hD.stk (xI (h o i) :: st) (zok_c1 hok (fun w hw => hD.tl w (List.mem_cons_of_mem _ hw)))) hE
theorem z_bald {N : Nat} {o i : Int} (hdg : decode d.by pc = .ok (.baload, 1)) (ho : zOb n o (4, 0, N)) (h0 : 0 ≤ i) (hi : i < N) (kk : zW d X dep bc bs n (pc + 1) lv (xI (h o i) :: st) h Q) : zW d X dep bc bs n pc lv (xI i :: xR o :: st) h Q := by
  intro p l e R s m args below meth c H locs cells slots A E ls Z hF h1 h2 hD hE
  have hR := hD.2.2.2.1
  have hi9 : i < 2147483648 := (hD.hd : zi32 i).2
  obtain ⟨t0, ht0⟩ := hR.2.2.2.1 o.toNat ho.2.1 (by rw [ho.2.2]; exact Nat.succ_ne_zero _)
  rw [ho.2.2] at ht0
  have hok : zok n (xI (h o i)) := hR.ok ho h0
  rw [List.map_cons, List.map_cons, zcvR (by have := ho.1; omega)]
  refine va_bald hF.1 hF.2.1 hR.2.1 hR.1 o.toNat t0 (hR.at ho) ht0 (zin h0 hi9 hi) hdg ?_
  rw [zclamp h0 hi9, show ((i.toNat : Nat) : Int) = i from Int.toNat_of_nonneg h0]
  exact kk p l e R s m args below meth c H locs cells slots A E ls Z hF h1 h2 (hD.stk (xI (h o i) :: st) (zok_c1 hok (fun w hw => hD.tl w (List.mem_cons_of_mem _ hw)))) hE
theorem z_iast {N : Nat} {o i x : Int} (hdg : decode d.by pc = .ok (.iastore, 1)) (ho : zOb n o (1, 0, N)) (h0 : 0 ≤ i) (hi : i < N) (kk : zW d X dep bc bs n (pc + 1) lv st (zst h o i (x)) Q) : zW d X dep bc bs n pc lv (xI x :: xI i :: xR o :: st) h Q := by
  intro p l e R s m args below meth c H locs cells slots A E ls Z hF h1 h2 hD hE
  have hR := hD.2.2.2.1
  have hi9 : i < 2147483648 := (hD.tl _ List.mem_cons_self : zi32 i).2
  have hst : ∀ v ∈ st, zok n v := fun w hw => hD.tl w (List.mem_cons_of_mem _ (List.mem_cons_of_mem _ hw))
  obtain ⟨t0, ht0⟩ := hR.2.2.2.1 o.toNat ho.2.1 (by rw [ho.2.2]; exact Nat.succ_ne_zero _)
  rw [ho.2.2] at ht0
  have ev : Int32.ofInt x = Int32.ofInt (x) := rfl
  have ec : zcell (1, 0, N) E.2.1 (E.2.2.1 o.toNat) (zst h o i (x) o) = .inl (E.2.2.1 o.toNat, N, .inl (upd (fun j => Int32.ofInt (h o j)) (Int32.ofInt i).toNatClampNeg (Int32.ofInt x))) := by
    refine congrArg (fun f => (Sum.inl (E.2.2.1 o.toNat, N, .inl f) : va_E)) (funext fun j => ?_)
    show _ = upd (fun j => Int32.ofInt (h o j)) (Int32.ofInt i).toNatClampNeg (Int32.ofInt x) j
    rw [zclamp h0 hi9, ev]
    unfold upd zst
    by_cases hj : j = i.toNat
    · rw [if_pos hj, if_pos ⟨rfl, by omega⟩]
    · rw [if_neg hj, if_neg (fun q => hj (by omega))]
  rw [List.map_cons, List.map_cons, List.map_cons, zcvR (by have := ho.1; omega)]
  refine va_iast hF.1 hF.2.1 hR.2.1 hR.1 hR.2.2.1 hD.1 o.toNat t0 (hR.at ho) ht0 (zin h0 hi9 hi) hdg (fun H1 locs1 hP hDD hS => ?_)
  exact kk p l e R s m args below meth c H1 locs1 cells slots A E ls Z hF h1 h2 (hD.put st hst ho h0 (show zok n (xI (x)) from hD.hd) (fun _ => zRF_none (by rw [ho.2.2]; rfl)) (by rw [ec]; exact hP) (by rw [ec]; exact hDD) hS) hE
theorem z_last {N : Nat} {o i x : Int} (hdg : decode d.by pc = .ok (.lastore, 1)) (ho : zOb n o (2, 0, N)) (h0 : 0 ≤ i) (hi : i < N) (kk : zW d X dep bc bs n (pc + 1) lv st (zst h o i (x)) Q) : zW d X dep bc bs n pc lv (xL x :: xI i :: xR o :: st) h Q := by
  intro p l e R s m args below meth c H locs cells slots A E ls Z hF h1 h2 hD hE
  have hR := hD.2.2.2.1
  have hi9 : i < 2147483648 := (hD.tl _ List.mem_cons_self : zi32 i).2
  have hst : ∀ v ∈ st, zok n v := fun w hw => hD.tl w (List.mem_cons_of_mem _ (List.mem_cons_of_mem _ hw))
  obtain ⟨t0, ht0⟩ := hR.2.2.2.1 o.toNat ho.2.1 (by rw [ho.2.2]; exact Nat.succ_ne_zero _)
  rw [ho.2.2] at ht0
  have ev : Int64.ofInt x = Int64.ofInt (x) := rfl
  have ec : zcell (2, 0, N) E.2.1 (E.2.2.1 o.toNat) (zst h o i (x) o) = .inl (E.2.2.1 o.toNat, N, .inr (.inl (vp_updL (fun j => Int64.ofInt (h o j)) (Int32.ofInt i).toNatClampNeg (Int64.ofInt x)))) := by
    refine congrArg (fun f => (Sum.inl (E.2.2.1 o.toNat, N, .inr (.inl f)) : va_E)) (funext fun j => ?_)
    show _ = vp_updL (fun j => Int64.ofInt (h o j)) (Int32.ofInt i).toNatClampNeg (Int64.ofInt x) j
    rw [zclamp h0 hi9, ev]
    unfold vp_updL zst
    by_cases hj : j = i.toNat
    · rw [if_pos hj, if_pos ⟨rfl, by omega⟩]
    · rw [if_neg hj, if_neg (fun q => hj (by omega))]
  rw [List.map_cons, List.map_cons, List.map_cons, zcvR (by have := ho.1; omega)]
  refine va_last hF.1 hF.2.1 hR.2.1 hR.1 hR.2.2.1 hD.1 o.toNat t0 (hR.at ho) ht0 (zin h0 hi9 hi) hdg (fun H1 locs1 hP hDD hS => ?_)
  exact kk p l e R s m args below meth c H1 locs1 cells slots A E ls Z hF h1 h2 (hD.put st hst ho h0 (show zok n (xL (x)) from hD.hd) (fun _ => zRF_none (by rw [ho.2.2]; rfl)) (by rw [ec]; exact hP) (by rw [ec]; exact hDD) hS) hE
theorem z_zast {N : Nat} {o i x : Int} (hdg : decode d.by pc = .ok (.bastore, 1)) (ho : zOb n o (3, 0, N)) (h0 : 0 ≤ i) (hi : i < N) (hx : x = 0 ∨ x = 1) (kk : zW d X dep bc bs n (pc + 1) lv st (zst h o i (x)) Q) : zW d X dep bc bs n pc lv (xI x :: xI i :: xR o :: st) h Q := by
  intro p l e R s m args below meth c H locs cells slots A E ls Z hF h1 h2 hD hE
  have hR := hD.2.2.2.1
  have hi9 : i < 2147483648 := (hD.tl _ List.mem_cons_self : zi32 i).2
  have hst : ∀ v ∈ st, zok n v := fun w hw => hD.tl w (List.mem_cons_of_mem _ (List.mem_cons_of_mem _ hw))
  obtain ⟨t0, ht0⟩ := hR.2.2.2.1 o.toNat ho.2.1 (by rw [ho.2.2]; exact Nat.succ_ne_zero _)
  rw [ho.2.2] at ht0
  have ev : vp_nar .boolean (Int32.ofInt x) = Int32.ofInt (x) := by rcases hx with rfl | rfl <;> decide
  have ec : zcell (3, 0, N) E.2.1 (E.2.2.1 o.toNat) (zst h o i (x) o) = .inl (E.2.2.1 o.toNat, N, .inl (upd (fun j => Int32.ofInt (h o j)) (Int32.ofInt i).toNatClampNeg (vp_nar .boolean (Int32.ofInt x)))) := by
    refine congrArg (fun f => (Sum.inl (E.2.2.1 o.toNat, N, .inl f) : va_E)) (funext fun j => ?_)
    show _ = upd (fun j => Int32.ofInt (h o j)) (Int32.ofInt i).toNatClampNeg (vp_nar .boolean (Int32.ofInt x)) j
    rw [zclamp h0 hi9, ev]
    unfold upd zst
    by_cases hj : j = i.toNat
    · rw [if_pos hj, if_pos ⟨rfl, by omega⟩]
    · rw [if_neg hj, if_neg (fun q => hj (by omega))]
  rw [List.map_cons, List.map_cons, List.map_cons, zcvR (by have := ho.1; omega)]
  refine va_zast hF.1 hF.2.1 hR.2.1 hR.1 hR.2.2.1 hD.1 o.toNat t0 (hR.at ho) ht0 (zin h0 hi9 hi) hdg (fun H1 locs1 hP hDD hS => ?_)
  exact kk p l e R s m args below meth c H1 locs1 cells slots A E ls Z hF h1 h2 (hD.put st hst ho h0 (show zok n (xI (x)) from hD.hd) (fun _ => zRF_none (by rw [ho.2.2]; rfl)) (by rw [ec]; exact hP) (by rw [ec]; exact hDD) hS) hE
theorem z_bast {N : Nat} {o i x : Int} (hdg : decode d.by pc = .ok (.bastore, 1)) (ho : zOb n o (4, 0, N)) (h0 : 0 ≤ i) (hi : i < N) (kk : zW d X dep bc bs n (pc + 1) lv st (zst h o i (zi2b x)) Q) : zW d X dep bc bs n pc lv (xI x :: xI i :: xR o :: st) h Q := by
  intro p l e R s m args below meth c H locs cells slots A E ls Z hF h1 h2 hD hE
  have hR := hD.2.2.2.1
  have hi9 : i < 2147483648 := (hD.tl _ List.mem_cons_self : zi32 i).2
  have hst : ∀ v ∈ st, zok n v := fun w hw => hD.tl w (List.mem_cons_of_mem _ (List.mem_cons_of_mem _ hw))
  obtain ⟨t0, ht0⟩ := hR.2.2.2.1 o.toNat ho.2.1 (by rw [ho.2.2]; exact Nat.succ_ne_zero _)
  rw [ho.2.2] at ht0
  have ev : vp_nar .byte (Int32.ofInt x) = Int32.ofInt (zi2b x) := by rw [vp_nar_byte]; exact (Int32.ofInt_toInt _).symm
  have ec : zcell (4, 0, N) E.2.1 (E.2.2.1 o.toNat) (zst h o i (zi2b x) o) = .inl (E.2.2.1 o.toNat, N, .inl (upd (fun j => Int32.ofInt (h o j)) (Int32.ofInt i).toNatClampNeg (vp_nar .byte (Int32.ofInt x)))) := by
    refine congrArg (fun f => (Sum.inl (E.2.2.1 o.toNat, N, .inl f) : va_E)) (funext fun j => ?_)
    show _ = upd (fun j => Int32.ofInt (h o j)) (Int32.ofInt i).toNatClampNeg (vp_nar .byte (Int32.ofInt x)) j
    rw [zclamp h0 hi9, ev]
    unfold upd zst
    by_cases hj : j = i.toNat
    · rw [if_pos hj, if_pos ⟨rfl, by omega⟩]
    · rw [if_neg hj, if_neg (fun q => hj (by omega))]
  rw [List.map_cons, List.map_cons, List.map_cons, zcvR (by have := ho.1; omega)]
  refine va_bast hF.1 hF.2.1 hR.2.1 hR.1 hR.2.2.1 hD.1 o.toNat t0 (hR.at ho) ht0 (zin h0 hi9 hi) hdg (fun H1 locs1 hP hDD hS => ?_)
  exact kk p l e R s m args below meth c H1 locs1 cells slots A E ls Z hF h1 h2 (hD.put st hst ho h0 (show zok n (xI (zi2b x)) from (zi32_i _ : zi32 (zi2b x))) (fun _ => zRF_none (by rw [ho.2.2]; rfl)) (by rw [ec]; exact hP) (by rw [ec]; exact hDD) hS) hE
theorem z_alen {kd N : Nat} {o : Int} (hdg : decode d.by pc = .ok (.arraylength, 1)) (ho : zOb n o (kd + 1, 0, N)) (hN : N < 2147483648) (kk : zW d X dep bc bs n (pc + 1) lv (xI N :: st) h Q) : zW d X dep bc bs n pc lv (xR o :: st) h Q := by
  intro p l e R s m args below meth c H locs cells slots A E ls Z hF h1 h2 hD hE
  have hR := hD.2.2.2.1
  obtain ⟨t0, ht0⟩ := hR.2.2.2.1 o.toNat ho.2.1 (by rw [ho.2.2]; exact Nat.succ_ne_zero _)
  rw [ho.2.2] at ht0
  have ha := hR.at ho
  rw [List.map_cons, zcvR (by have := ho.1; omega)]
  have kk1 := kk p l e R s m args below meth c H locs cells slots A E ls Z hF h1 h2 (hD.stk (xI N :: st) (zok_c1 (show zi32 (N : Int) from ⟨by omega, by omega⟩) hD.tl)) hE
  match kd, ha with
  | 0, ha => exact va_alen hF.1 hF.2.1 hR.2.1 hR.1 o.toNat t0 ha ht0 (Int32.ofInt_eq_ofNat (n := N)).symm hdg kk1
  | 1, ha => exact va_alen hF.1 hF.2.1 hR.2.1 hR.1 o.toNat t0 ha ht0 (Int32.ofInt_eq_ofNat (n := N)).symm hdg kk1
  | 2, ha => exact va_alen hF.1 hF.2.1 hR.2.1 hR.1 o.toNat t0 ha ht0 (Int32.ofInt_eq_ofNat (n := N)).symm hdg kk1
  | 3, ha => exact va_alen hF.1 hF.2.1 hR.2.1 hR.1 o.toNat t0 ha ht0 (Int32.ofInt_eq_ofNat (n := N)).symm hdg kk1
  | k + 4, ha => exact va_alen hF.1 hF.2.1 hR.2.1 hR.1 o.toNat t0 ha ht0 (Int32.ofInt_eq_ofNat (n := N)).symm hdg kk1
theorem z_aaldW {N : Nat} {o i : Int} (hdg : decode d.by pc = .ok (.aaload, 1)) (ho : zOb n o (5, 0, N)) (h0 : 0 ≤ i) (hi : i < N) (kk : zW d X dep bc bs n (pc + 1) lv (xR (h o i) :: st) h Q) : zW d X dep bc bs n pc lv (xI i :: xR o :: st) h Q := by
  intro p l e R s m args below meth c H locs cells slots A E ls Z hF h1 h2 hD hE
  have hR := hD.2.2.2.1
  have hi9 : i < 2147483648 := (hD.hd : zi32 i).2
  obtain ⟨t0, ht0⟩ := hR.2.2.2.1 o.toNat ho.2.1 (by rw [ho.2.2]; exact Nat.succ_ne_zero _)
  rw [ho.2.2] at ht0
  have hok : zok n (xR (h o i)) := hR.ok ho h0
  rw [List.map_cons, List.map_cons, zcvR (by have := ho.1; omega)]
  refine va_aldq (C := RX9) hF.1 hF.2.1 hR.2.1 hR.1 o.toNat t0 (hR.at ho) ht0 (zin h0 hi9 hi) hdg ?_
  rw [zclamp h0 hi9, show ((i.toNat : Nat) : Int) = i from Int.toNat_of_nonneg h0]
  exact kk p l e R s m args below meth c H locs cells slots A E ls Z hF h1 h2 (hD.stk (xR (h o i) :: st) (zok_c1 hok (fun w hw => hD.tl w (List.mem_cons_of_mem _ hw)))) hE
theorem z_aaldL {N : Nat} {o i : Int} (hdg : decode d.by pc = .ok (.aaload, 1)) (ho : zOb n o (7, 0, N)) (h0 : 0 ≤ i) (hi : i < N) (kk : zW d X dep bc bs n (pc + 1) lv (xR (h o i) :: st) h Q) : zW d X dep bc bs n pc lv (xI i :: xR o :: st) h Q := by
  intro p l e R s m args below meth c H locs cells slots A E ls Z hF h1 h2 hD hE
  have hR := hD.2.2.2.1
  have hi9 : i < 2147483648 := (hD.hd : zi32 i).2
  obtain ⟨t0, ht0⟩ := hR.2.2.2.1 o.toNat ho.2.1 (by rw [ho.2.2]; exact Nat.succ_ne_zero _)
  rw [ho.2.2] at ht0
  have hok : zok n (xR (h o i)) := hR.ok ho h0
  rw [List.map_cons, List.map_cons, zcvR (by have := ho.1; omega)]
  refine va_aldq (C := RX1) hF.1 hF.2.1 hR.2.1 hR.1 o.toNat t0 (hR.at ho) ht0 (zin h0 hi9 hi) hdg ?_
  rw [zclamp h0 hi9, show ((i.toNat : Nat) : Int) = i from Int.toNat_of_nonneg h0]
  exact kk p l e R s m args below meth c H locs cells slots A E ls Z hF h1 h2 (hD.stk (xR (h o i) :: st) (zok_c1 hok (fun w hw => hD.tl w (List.mem_cons_of_mem _ hw)))) hE
theorem z_aaldR {N : Nat} {o i : Int} (hdg : decode d.by pc = .ok (.aaload, 1)) (ho : zOb n o (8, 0, N)) (h0 : 0 ≤ i) (hi : i < N) (kk : zW d X dep bc bs n (pc + 1) lv (xR (h o i) :: st) h Q) : zW d X dep bc bs n pc lv (xI i :: xR o :: st) h Q := by
  intro p l e R s m args below meth c H locs cells slots A E ls Z hF h1 h2 hD hE
  have hR := hD.2.2.2.1
  have hi9 : i < 2147483648 := (hD.hd : zi32 i).2
  obtain ⟨t0, ht0⟩ := hR.2.2.2.1 o.toNat ho.2.1 (by rw [ho.2.2]; exact Nat.succ_ne_zero _)
  rw [ho.2.2] at ht0
  have hok : zok n (xR (h o i)) := hR.ok ho h0
  rw [List.map_cons, List.map_cons, zcvR (by have := ho.1; omega)]
  refine va_aldq (C := RX6) hF.1 hF.2.1 hR.2.1 hR.1 o.toNat t0 (hR.at ho) ht0 (zin h0 hi9 hi) hdg ?_
  rw [zclamp h0 hi9, show ((i.toNat : Nat) : Int) = i from Int.toNat_of_nonneg h0]
  exact kk p l e R s m args below meth c H locs cells slots A E ls Z hF h1 h2 (hD.stk (xR (h o i) :: st) (zok_c1 hok (fun w hw => hD.tl w (List.mem_cons_of_mem _ hw)))) hE
theorem z_aaldA {N : Nat} {o i : Int} (hdg : decode d.by pc = .ok (.aaload, 1)) (ho : zOb n o (6, 0, N)) (h0 : 0 ≤ i) (hi : i < N) (kk : zW d X dep bc bs n (pc + 1) lv (xR (h o i) :: st) h Q) : zW d X dep bc bs n pc lv (xI i :: xR o :: st) h Q := by
  intro p l e R s m args below meth c H locs cells slots A E ls Z hF h1 h2 hD hE
  have hR := hD.2.2.2.1
  have hi9 : i < 2147483648 := (hD.hd : zi32 i).2
  obtain ⟨t0, ht0⟩ := hR.2.2.2.1 o.toNat ho.2.1 (by rw [ho.2.2]; exact Nat.succ_ne_zero _)
  rw [ho.2.2] at ht0
  have hok : zok n (xR (h o i)) := hR.ok ho h0
  have e9 : va_rf ((fun j : Nat => zrf E.2.1 (h o j)) (Int32.ofInt i).toNatClampNeg) = zcv E.2.1 (xR (h o i)) := by
    show va_rf (zrf _ (h o (((Int32.ofInt i).toNatClampNeg : Nat) : Int))) = va_rf (zrf _ (h o i))
    rw [zclamp h0 hi9, Int.toNat_of_nonneg h0]
  have hlt : (Int32.ofInt i).toNatClampNeg < N := by rw [zclamp h0 hi9]; omega
  have kk1 := kk p l e R s m args below meth c H locs cells slots A E ls Z hF h1 h2 (hD.stk (xR (h o i) :: st) (zok_c1 hok (fun w hw => hD.tl w (List.mem_cons_of_mem _ hw)))) hE
  rw [List.map_cons, List.map_cons, zcvR (by have := ho.1; omega)]
  refine W.aald (v := va_rf ((fun j : Nat => zrf E.2.1 (h o j)) (Int32.ofInt i).toNatClampNeg)) (ty := .array .int) hF.1 hF.2.1 (hR.1 o.toNat _ (hR.at ho)) ((hR.2.1.2 t0 _ ht0).1 N (fun j => va_rf (zrf E.2.1 (h o j)))) rfl (fun q => by cases q) (by show ¬ (_ ∨ (arrV _ _ _).slots.size ≤ _); rw [arrV_size]; exact zin h0 hi9 hi) (by show (arrV _ _ _).slots[_]? = _; rw [arrV_read _ _ hlt]) rfl rfl hdg ?_
  rw [e9]
  exact kk1
end ZH
