/-! making objects -/
/-- a place as it comes -/
def zd (o : Int) : Int → Int := fun k => if zsty (zS o.toNat) k.toNat = 2 then -1 else 0
/-- object n, as it comes -/
def znew (h : zH) (n : Nat) : zH := fun o => if o = n then zd n else h o
theorem zcell_ex {E E' : zE} {n n' : Nat} (hx : zEx E E' n n') {sh : Nat × Nat × Nat} {f : Int → Int} (hok : ∀ k : Nat, zok n (zsty sh k, f k)) (cA : ClassId) : zcell sh E'.2.1 cA f = zcell sh E.2.1 cA f := by
  obtain ⟨t, c, N⟩ := sh
  match t with
  | 0 =>
    show (Sum.inr (c, _) : va_E) = Sum.inr (c, _)
    congr 2
    apply List.map_congr_left
    intro k _
    exact zcv_ex (n := n) (hok k) hx
  | 1 => rfl
  | 2 => rfl
  | 3 => rfl
  | 4 => rfl
  | t + 5 =>
    have z : ztag (zety (t + 5)) = 2 := by
      match t with
      | 0 => rfl
      | 1 => rfl
      | 2 => rfl
      | t + 3 => rfl
    have e : (fun j : Nat => zrf E'.2.1 (f j)) = fun j : Nat => zrf E.2.1 (f j) := funext fun j => by
      have q : zok n (ztag (zety (t + 5)), f j) := hok j
      rw [z] at q
      have q2 : f j = -1 ∨ (0 ≤ f j ∧ f j < n) ∨ 1000000 ≤ f j := q
      unfold zrf
      by_cases c0 : f j < 0
      · rw [if_pos c0, if_pos c0]
      · rw [if_neg c0, if_neg c0]
        exact congrArg some (hx.2.2.1 _ (by omega))
    show (Sum.inl (cA, N, .inr (.inr (.inr (.inr fun j : Nat => zrf E'.2.1 (f j))))) : va_E) = Sum.inl (cA, N, .inr (.inr (.inr (.inr fun j : Nat => zrf E.2.1 (f j)))))
    rw [e]
theorem zws_new {E E' : zE} {n : Nat} {h h' : zH} (hx : zEx E E' n (n + 1)) (hold : ∀ o : Nat, o < n → h' o = h o) (hok : ∀ o k : Nat, o < n → zok n (zsty (zS o) k, h o k)) : zws E' (n + 1) h' = zws E n h ++ [(E'.2.1 n, zcell (zS n) E'.2.1 (E'.2.2.1 n) (h' n))] := by
  unfold zws
  rw [List.range_succ, List.map_append]
  congr 1
  apply List.map_congr_left
  intro o ho
  have hl := List.mem_range.mp ho
  have e1 : E'.2.1 o = E.2.1 o := hx.2.2.1 o (Or.inl hl)
  rw [e1, hx.2.2.2 o hl, hold o hl, zcell_ex hx (fun k => hok o k hl)]
theorem zd_ok {n m : Nat} {sh : Nat × Nat × Nat} (hs : zS n = sh) (k : Nat) : zok m (zsty sh k, zd n k) := by
  unfold zd
  rw [Int.toNat_natCast, Int.toNat_natCast, hs]
  by_cases c : zsty sh k = 2
  · rw [if_pos c, c]
    exact Or.inl rfl
  · rw [if_neg c]
    match hz : zsty sh k with
    | 0 => exact ⟨by decide, by decide⟩
    | 1 => exact ⟨by decide, by decide⟩
    | t + 2 =>
      exfalso
      obtain ⟨t2, c2, N⟩ := sh
      have le : ∀ ty : FieldType, ztag ty ≤ 2 := fun ty => by unfold ztag; split <;> decide
      have : zsty (t2, c2, N) k ≤ 2 := by
        match t2 with
        | 0 => exact le _
        | t + 1 => exact le _
      omega
section YNEW
variable {d : zMd} {X : zX} {dep bc bs n pc : Nat} {lv : List (Nat × zV)} {st : List zV} {h : zH} {Q : Nat → zH → List zV → Prop}
/-- an object more -/
theorem zDyn.made {s : State} {H H1 : Heap} {locs : List Loc} {A : Nat → Prop} {E E' : zE} {ls : Array Slot} {h' : zH} (hD : zDyn X d n lv st h s H locs A E ls) (hx : zEx E E' n (n + 1)) (hP : va_P E.1 zcls (zws E' (n + 1) h') H1) (hDD : va_D A (zws E' (n + 1) h')) (hS : va_S A s.heap H1 locs) (hK : va_K E.1 zcls E'.2.2.2 s) (hcls : (zS n).1 ≠ 0 → ∃ t : Nat, E'.2.2.2[t]? = some (E'.2.2.1 n, zety (zS n).1)) (hty : ∀ (t : Nat) v, E.2.2.2[t]? = some v → E'.2.2.2[t]? = some v) (hold : ∀ o : Nat, o < n → h' o = h o) (hnew : ∀ k : Nat, zok (n + 1) (zsty (zS n) k, h' n k)) (hn : n < 239) (hr : 239 ≤ n + 1 → zRefOK h') (st' : List zV) (hst : ∀ v ∈ st', zok (n + 1) v) : zDyn X d (n + 1) lv st' h' s H1 locs A E' ls := by
  have hR := hD.2.2.2.1
  refine ⟨hS, hD.2.1, hD.2.2.1.ex hx, ⟨by rw [hx.2.1]; exact hP, by rw [hx.2.1]; exact hK, hDD, fun o ho h0 => ?_, fun o k ho => ?_, by omega, hr⟩, ?_, fun q hq => zok_mono (hD.2.2.2.2.2.1 q hq) hx.1, hst⟩
  · by_cases e : o = n
    · rw [e]; exact hcls (by rw [← e]; exact h0)
    · obtain ⟨t, ht⟩ := hR.2.2.2.1 o (by omega) h0
      rw [hx.2.2.2 o (by omega)]
      exact ⟨t, hty t _ ht⟩
  · by_cases e : o = n
    · rw [e]; exact hnew k
    · rw [hold o (by omega)]
      exact zok_mono (hR.2.2.2.2.1 o k (by omega)) hx.1
  · have e : (lv.map fun q => (q.1, zcv E'.2.1 q.2)) = lv.map fun q => (q.1, zcv E.2.1 q.2) := List.map_congr_left fun q hq => by rw [zcv_ex (hD.2.2.2.2.2.1 q hq) hx]
    rw [e]
    exact hD.2.2.2.2.1
/-- the surroundings with an object more -/
def zE1 (E : zE) (n q : Nat) (cA : ClassId) (tys : List (ClassId × FieldType)) : zE := (E.1, fun o => if o = n then q else E.2.1 o, fun o => if o = n then cA else E.2.2.1 o, tys)
theorem zE1_ex {E : zE} {n q : Nat} {cA : ClassId} {tys : List (ClassId × FieldType)} (hn : n < 1000000) : zEx E (zE1 E n q cA tys) n (n + 1) :=
  ⟨Nat.le_succ n, rfl, fun o ho => if_neg (by omega), fun o ho => if_neg (by omega)⟩
theorem zE1_n {E : zE} {n q : Nat} {cA : ClassId} {tys : List (ClassId × FieldType)} : (zE1 E n q cA tys).2.1 n = q ∧ (zE1 E n q cA tys).2.2.1 n = cA := ⟨if_pos rfl, if_pos rfl⟩
theorem znew_old {h : zH} {n o : Nat} (ho : o < n) : znew h n o = h o := if_neg (by omega)
theorem znew_n {h : zH} {n : Nat} : znew h n n = zd n := if_pos rfl
theorem zdef {ty : FieldType} (hf : ty ≠ .float) (hd : ty ≠ .double) (ad : Nat → Nat) : defaultValue ty = zcv ad (ztag ty, if ztag ty = 2 then -1 else 0) := by
  cases ty <;> first | rfl | exact absurd rfl hf | exact absurd rfl hd
theorem zst1 {E : zE} {n q : Nat} {cA : ClassId} {tys : List (ClassId × FieldType)} (hn : n < 1000000) {st : List zV} (hst : ∀ v ∈ st, zok n v) : (xR n :: st).map (zcv (zE1 E n q cA tys).2.1) = .ref q :: st.map (zcv E.2.1) := by
  rw [List.map_cons, zcvR (by omega), Int.toNat_natCast, zE1_n.1]
  congr 1
  exact List.map_congr_left fun v hv => zcv_ex (hst v hv) (zE1_ex hn)
theorem zokn {n : Nat} {st : List zV} (hst : ∀ v ∈ st, zok n v) : ∀ v ∈ xR n :: st, zok (n + 1) v := fun v hv => by
  rcases List.mem_cons.mp hv with rfl | hv
  · show (n : Int) = -1 ∨ (0 ≤ (n : Int) ∧ (n : Int) < ((n + 1 : Nat) : Int)) ∨ 1000000 ≤ (n : Int)
    exact Or.inr (Or.inl ⟨by omega, by omega⟩)
  · exact zok_mono (hst v hv) (Nat.le_succ n)
theorem y_new {C : String} {T : u_T} {N ci index : Nat} {ty : Nat → FieldType} (bc' bs' : Nat) (pk : zPk ci C T N ty) (hdg : decode d.by pc = .ok (.new index, 3)) (l1 : Cond.classLink d.1.cls index C ∈ zBIG) (l2 : Cond.instantiable C N ∈ zBIG) (l3 : Cond.initialized C ∈ zBIG) (hs : zS n = (0, ci, N)) (hfd : ∀ j, j < N → ty j ≠ .float ∧ ty j ≠ .double) (hn : n < 238) (hbc : bc' + 1 ≤ bc) (hbs : bs' + N ≤ bs)
    (kk : yW d X dep bc' bs' (n + 1) (pc + 3) lv (xR n :: st) (znew h n) Q) : yW d X dep bc bs n pc lv st h Q := by
  intro p l e R s m args below meth c H locs cells slots A E ls Z hF h1 h2 hD hE
  have hR := hD.2.2.2.1
  have hst := hD.2.2.2.2.2.2
  refine va_new (D := E.1) (cl := zcls) (ci := ci) (C := C) (T := T) (N := N) (tys := E.2.2.2) (fs := (List.range N).map fun k => zcv E.2.1 (ztag (zfty ci k), if ztag (zfty ci k) = 2 then -1 else 0)) hF.1 hF.2.1 hF.2.2.2.2.1 pk.2.1 ty pk.2.2.1 hF.2.2.2.1 (hF.2.2.2.2.1 _ l1) (hF.2.2.2.2.1 _ l2) (hF.2.2.2.2.1 _ l3) hR.2.1 hR.1 hR.2.2.1 hD.1 hD.2.1 pk.1 (fun j hj => ?_) (by omega) (by omega) hdg (fun q H1 hP hDD hS => ?_)
  · unfold vp_V
    rw [List.getD_eq_getElem?_getD, List.getElem?_map, List.getElem?_range hj]
    show defaultValue (ty j) = zcv E.2.1 (ztag (zfty ci j), if ztag (zfty ci j) = 2 then -1 else 0)
    have f := hfd j hj
    rw [pk.2.2.2.2 j]
    exact zdef f.1 f.2 _
  · have hx := zE1_ex (E := E) (n := n) (q := q) (cA := E.2.2.1 n) (tys := E.2.2.2) (by omega)
    have ew := zws_new (h' := znew h n) hx (fun o ho => znew_old ho) hR.2.2.2.2.1
    have ec : zcell (zS n) (zE1 E n q (E.2.2.1 n) E.2.2.2).2.1 ((zE1 E n q (E.2.2.1 n) E.2.2.2).2.2.1 n) (znew h n n) = .inr (ci, (List.range N).map fun k => zcv E.2.1 (ztag (zfty ci k), if ztag (zfty ci k) = 2 then -1 else 0)) := by
      rw [znew_n, hs]
      show (Sum.inr (ci, _) : va_E) = Sum.inr (ci, _)
      congr 2
      apply List.map_congr_left
      intro k _
      unfold zd
      rw [Int.toNat_natCast, Int.toNat_natCast, hs]
      show zcv _ (ztag (zfty ci k), if ztag (zfty ci k) = 2 then -1 else 0) = _
      by_cases c2 : ztag (zfty ci k) = 2
      · rw [c2]; rfl
      · rw [if_neg c2]
        exact zcv_ex (n := 0) (E := E) (n' := n + 1) (E' := zE1 E n q (E.2.2.1 n) E.2.2.2) (by
          match hz : ztag (zfty ci k) with
          | 0 => exact ⟨by decide, by decide⟩
          | 1 => exact ⟨by decide, by decide⟩
          | t + 2 =>
            have le : ∀ ty : FieldType, ztag ty ≤ 2 := fun ty => by unfold ztag; split <;> decide
            have := le (zfty ci k)
            omega) ⟨by omega, rfl, fun o ho => if_neg (by omega), fun o ho => by omega⟩
    rw [zE1_n.1, ec] at ew
    rw [← ew] at hP hDD
    have K := kk p l e R s m args below meth c H1 locs (cells + 1) (slots + N) A (zE1 E n q (E.2.2.1 n) E.2.2.2) ls Z hF (by omega) (by omega) (hD.made hx hP hDD hS hR.2.1 (fun h0 => absurd (by rw [hs]) h0) (fun _ _ h9 => h9) (fun o ho => znew_old ho) (fun k => by rw [znew_n]; exact zd_ok rfl k) (by omega) (fun h9 => by omega) _ (zokn hst))
      (fun H' locs' cells' slots' E'' ls' n'' h'' pc' rs vs i k a1 a2 a3 a4 a5 a6 a7 => hE H' locs' cells' slots' E'' ls' n'' h'' pc' rs vs i k (by omega) (by omega) a3 (hx.tr a4) a5 a6 a7)
    rw [zst1 (by omega) hst] at K
    exact K
/-- arrays of numbers -/
theorem y_newa {t N : Nat} {atype : ArrayType} (bc' bs' : Nat) (hdg : decode d.by pc = .ok (.newarray atype, 2)) (ht : newarray.typeOf atype = zety t) (ht4 : t = 1 ∨ t = 2 ∨ t = 3 ∨ t = 4) (l1 : Cond.arrayClass (zety t) ∈ zBIG) (hs : zS n = (t, 0, N)) (hN : N < 60000000) (hn : n < 239) (hr : 239 ≤ n + 1 → zRefOK (znew h n)) (hbc : bc' + 1 ≤ bc) (hbs : bs' + N ≤ bs)
    (kk : yW d X dep bc' bs' (n + 1) (pc + 2) lv (xR n :: st) (znew h n) Q) : yW d X dep bc bs n pc lv (xI N :: st) h Q := by
  intro p l e R s m args below meth c H locs cells slots A E ls Z hF h1 h2 hD hE
  have hR := hD.2.2.2.1
  have hst : ∀ v ∈ st, zok n v := hD.tl
  rw [List.map_cons]
  have hcell : ∀ (ad : Nat → Nat) (cA : ClassId), zcell (zS n) ad cA (zd n) = .inl (cA, if t = 2 then (N, .inr (.inl fun _ => 0)) else (N, .inl fun _ => 0)) := fun ad cA => by
    have ez : ∀ k : Nat, zd n k = 0 := fun k => by
      unfold zd
      rw [Int.toNat_natCast, Int.toNat_natCast, hs]
      rcases ht4 with rfl | rfl | rfl | rfl <;> rfl
    rw [hs]
    rcases ht4 with rfl | rfl | rfl | rfl
    · show (Sum.inl (cA, N, .inl fun j : Nat => Int32.ofInt (zd n j)) : va_E) = _
      simp only [ez]; rfl
    · show (Sum.inl (cA, N, .inr (.inl fun j : Nat => Int64.ofInt (zd n j))) : va_E) = _
      simp only [ez]; rfl
    · show (Sum.inl (cA, N, .inl fun j : Nat => Int32.ofInt (zd n j)) : va_E) = _
      simp only [ez]; rfl
    · show (Sum.inl (cA, N, .inl fun j : Nat => Int32.ofInt (zd n j)) : va_E) = _
      simp only [ez]; rfl
  have n1 : (Int32.ofInt (N : Int)).toNatClampNeg = N := by rw [zclamp (by omega) (by omega)]; omega
  have n0 : ¬ Int32.ofInt (N : Int) < 0 := by
    rw [← zI0, zi32_lt ⟨by omega, by omega⟩ zi32_0]; omega
  refine va_newa (D := E.1) (cl := zcls) (tys := E.2.2.2) (ty := zety t) (N' := N) (a0 := if t = 2 then (N, .inr (.inl fun _ => 0)) else (N, .inl fun _ => 0)) hF.1 hF.2.1 (by rw [ht]; exact hF.2.2.2.2.1 _ l1) ht hR.2.1 hR.1 hR.2.2.1 hD.1 hD.2.1 (fun cA => ?_) n0 n1 ?_ (by omega) (by omega) hdg (fun q cA H1 hK hP hDD hS => ?_)
  · rcases ht4 with rfl | rfl | rfl | rfl <;> rfl
  · rcases ht4 with rfl | rfl | rfl | rfl
    · show N * 4 ≤ _; omega
    · show N * 8 ≤ _; omega
    · show N * 1 ≤ _; omega
    · show N * 1 ≤ _; omega
  · have hx := zE1_ex (E := E) (n := n) (q := q) (cA := cA) (tys := E.2.2.2 ++ [(cA, zety t)]) (by omega)
    have ew := zws_new (h' := znew h n) hx (fun o ho => znew_old ho) hR.2.2.2.2.1
    rw [zE1_n.1, zE1_n.2, znew_n, hcell] at ew
    rw [← ew] at hP hDD
    have K := kk p l e R s m args below meth c H1 locs (cells + 1) (slots + N) A (zE1 E n q cA (E.2.2.2 ++ [(cA, zety t)])) ls Z hF (by omega) (by omega) (hD.made hx hP hDD hS hK (fun _ => ⟨E.2.2.2.length, by rw [zE1_n.2, hs]; exact List.getElem?_concat_length⟩) (fun i v h9 => by
      show (E.2.2.2 ++ [(cA, zety t)])[i]? = some v
      rw [List.getElem?_append_left (List.getElem?_eq_some_iff.mp h9).1]
      exact h9) (fun o ho => znew_old ho) (fun k => by rw [znew_n]; exact zd_ok rfl k) hn hr _ (zokn hst))
      (fun H' locs' cells' slots' E'' ls' n'' h'' pc' rs vs i k a1 a2 a3 a4 a5 a6 a7 => hE H' locs' cells' slots' E'' ls' n'' h'' pc' rs vs i k (by omega) (by omega) a3 (hx.tr a4) a5 a6 a7)
    rw [zst1 (by omega) hst] at K
    exact K
/-- arrays of references to a class -/
theorem y_newq {t N index : Nat} {C : String} (bc' bs' : Nat) (hdg : decode d.by pc = .ok (.anewarray index, 3)) (ht : zety t = .object C) (ht5 : 5 ≤ t) (l1 : Cond.classLink d.1.cls index C ∈ zBIG) (ao : ∀ s, zAO s → va_AO C s) (hs : zS n = (t, 0, N)) (hN : N < 60000000) (hn : n < 238) (hbc : bc' + 1 ≤ bc) (hbs : bs' + N ≤ bs)
    (kk : yW d X dep bc' bs' (n + 1) (pc + 3) lv (xR n :: st) (znew h n) Q) : yW d X dep bc bs n pc lv (xI N :: st) h Q := by
  intro p l e R s m args below meth c H locs cells slots A E ls Z hF h1 h2 hD hE
  have hR := hD.2.2.2.1
  have hst : ∀ v ∈ st, zok n v := hD.tl
  rw [List.map_cons]
  have hcell : ∀ (ad : Nat → Nat) (cA : ClassId), zcell (zS n) ad cA (zd n) = .inl (cA, N, .inr (.inr (.inr (.inr (fun _ => none))))) := fun ad cA => by
    obtain ⟨t', rfl⟩ : ∃ t', t = t' + 5 := ⟨t - 5, by omega⟩
    have ez : ∀ k : Nat, zrf ad (zd n k) = none := fun k => by
      unfold zd
      rw [Int.toNat_natCast, Int.toNat_natCast, hs]
      show zrf ad (if ztag (zety (t' + 5)) = 2 then -1 else 0) = none
      rw [ht]; rfl
    rw [hs]
    show (Sum.inl (cA, N, .inr (.inr (.inr (.inr fun j : Nat => zrf ad (zd n j))))) : va_E) = _
    simp only [ez]
  have n1 : (Int32.ofInt (N : Int)).toNatClampNeg = N := by rw [zclamp (by omega) (by omega)]; omega
  have n0 : ¬ Int32.ofInt (N : Int) < 0 := by
    rw [← zI0, zi32_lt ⟨by omega, by omega⟩ zi32_0]; omega
  refine va_newq (D := E.1) (cl := zcls) (tys := E.2.2.2) (C := C) (N' := N) hF.1 hF.2.1 hF.2.2.2.1 (hF.2.2.2.2.1 _ l1) (ao s hF.2.2.2.2.2.2.2.2.2.2) hR.2.1 hR.1 hR.2.2.1 hD.1 hD.2.1 n0 n1 (by omega) (by omega) (by omega) hdg (fun q cA H1 hK hP hDD hS => ?_)
  have hx := zE1_ex (E := E) (n := n) (q := q) (cA := cA) (tys := E.2.2.2 ++ [(cA, .object C)]) (by omega)
  have ew := zws_new (h' := znew h n) hx (fun o ho => znew_old ho) hR.2.2.2.2.1
  rw [zE1_n.1, zE1_n.2, znew_n, hcell] at ew
  rw [← ew] at hP hDD
  have K := kk p l e R s m args below meth c H1 locs (cells + 1) (slots + N) A (zE1 E n q cA (E.2.2.2 ++ [(cA, .object C)])) ls Z hF (by omega) (by omega) (hD.made hx hP hDD hS hK (fun _ => ⟨E.2.2.2.length, by rw [zE1_n.2, hs, ht]; exact List.getElem?_concat_length⟩) (fun i v h9 => by
    show (E.2.2.2 ++ [(cA, .object C)])[i]? = some v
    rw [List.getElem?_append_left (List.getElem?_eq_some_iff.mp h9).1]
    exact h9) (fun o ho => znew_old ho) (fun k => by rw [znew_n]; exact zd_ok rfl k) (by omega) (fun h9 => by omega) _ (zokn hst))
    (fun H' locs' cells' slots' E'' ls' n'' h'' pc' rs vs i k a1 a2 a3 a4 a5 a6 a7 => hE H' locs' cells' slots' E'' ls' n'' h'' pc' rs vs i k (by omega) (by omega) a3 (hx.tr a4) a5 a6 a7)
  rw [zst1 (by omega) hst] at K
  exact K
/-- Object's constructor -/
theorem y_obj {index : Nat} {o : Int} (hdg : decode d.by pc = .ok (.invokespecial index, 3)) (l1 : Cond.methodLink d.1.cls index objectInit ∈ zBIG) (l2 : Cond.instanceMethod objectInit ∈ zBIG) (l3 : Cond.code objectInit ⟨#[0xb1]⟩ 1 none ∈ zBIG) (ho : 0 ≤ o) (hd : 1 ≤ dep) (hst : zsz st ≤ 8) (hnl : d.nl ≤ 21) (k : yW d X dep bc bs n (pc + 3) lv st h Q) : yW d X dep bc bs n pc lv (xR o :: st) h Q := by
  intro p l e R s m args below meth c H locs cells slots A E ls Z hF h1 h2 hD hE
  have hw := hF.2.2.2.2.1
  have K := k p l e R s m args below meth c H locs cells slots A E ls Z hF h1 h2 (hD.stk st hD.tl) hE
  have h6 := hF.2.2.2.2.2.1
  have h7 := hF.2.2.2.2.2.2.1
  rw [List.map_cons, zcvR (by omega)]
  refine W.objInit hF.1 hF.2.1 hF.2.2.2.1 (hw _ l1) (hw _ l2) (hw _ l3) rfl ?_ rfl hdg (by omega) ?_ K
  · rw [hF.2.2.1]; exact hD.2.2.2.2.1.1
  · have := zcsum (ad := E.2.1) hst
    show 2 * 0 + _ + 12 ≤ _
    omega
/-- a reference into an array of a class's objects -/
theorem y_aast {t N ci : Nat} {r : vw_C} {o i v : Int} {N2 : Nat} (hdg : decode d.by pc = .ok (.aastore, 1)) (ho : zOb n o (t, 0, N)) (ht5 : 5 ≤ t) (ht : zety t = .object r.1) (hv : zOb n v (0, ci, N2)) (hc : zcls[ci]? = some r) (h0 : 0 ≤ i) (hi : i < N) (hN : N < 60000000) (hn : n < 239) (kk : yW d X dep bc bs n (pc + 1) lv st (zst h o i v) Q) : yW d X dep bc bs n pc lv (xR v :: xI i :: xR o :: st) h Q := by
  intro p l e R s m args below meth c H locs cells slots A E ls Z hF h1 h2 hD hE
  have hR := hD.2.2.2.1
  have hst : ∀ v ∈ st, zok n v := fun w hw => hD.tl w (List.mem_cons_of_mem _ (List.mem_cons_of_mem _ hw))
  obtain ⟨t', rfl⟩ : ∃ t', t = t' + 5 := ⟨t - 5, by omega⟩
  obtain ⟨tt, htt⟩ := hR.2.2.2.1 o.toNat ho.2.1 (by rw [ho.2.2]; exact Nat.succ_ne_zero _)
  rw [ho.2.2] at htt
  have hat := hR.at ho
  have hvt := hR.at hv
  rw [List.map_cons, List.map_cons, List.map_cons, zcvR (show ¬ v < 0 by have := hv.1; omega), zcvR (show ¬ o < 0 by have := ho.1; omega)]
  have cl : (Int32.ofInt i).toNatClampNeg = i.toNat := zclamp h0 (by omega)
  have key : ∀ f : zH, f = zst h o i v → zcell (t' + 5, 0, N) E.2.1 (E.2.2.1 o.toNat) (f o) = .inl (E.2.2.1 o.toNat, N, .inr (.inr (.inr (.inr (va_up (fun j : Nat => zrf E.2.1 (h o j)) (Int32.ofInt i).toNatClampNeg (some (E.2.1 v.toNat))))))) := fun f hf => by
    show (Sum.inl (_, N, .inr (.inr (.inr (.inr fun j : Nat => zrf E.2.1 (f o j))))) : va_E) = _
    have e2 : (fun j : Nat => zrf E.2.1 (f o j)) = va_up (fun j : Nat => zrf E.2.1 (h o j)) (Int32.ofInt i).toNatClampNeg (some (E.2.1 v.toNat)) := funext fun j => by
      rw [hf, cl]
      unfold zst va_up
      by_cases e : j = i.toNat
      · rw [if_pos ⟨rfl, by omega⟩, if_pos e]
        unfold zrf
        rw [if_neg (by have := hv.1; omega)]
      · rw [if_neg (by omega), if_neg e]
    rw [e2]
  refine va_astq (D := E.1) (cl := zcls) (tys := E.2.2.2) hF.1 hF.2.1 hR.2.1 hR.1 hR.2.2.1 hD.1 o.toNat tt v.toNat ci (n := N) (f := fun j : Nat => zrf E.2.1 (h o j)) hat (r := r) (by rw [htt, ← ht]) hvt hc (i := Int32.ofInt i) (zin h0 (by omega) hi) hdg (fun H1 locs1 hP hDD hS => ?_)
  refine kk p l e R s m args below meth c H1 locs1 cells slots A E ls Z hF h1 h2 (hD.put st hst ho (k := i) h0 ?_ (fun h9 => by omega) ?_ ?_ hS) hE
  · show zok n (ztag (zety (t' + 5)), v)
    rw [ht]
    exact Or.inr (Or.inl ⟨hv.1, by have := hv.2.1; have := hv.1; omega⟩)
  · rw [key _ rfl]; exact hP
  · rw [key _ rfl]; exact hDD
end YNEW
