/-! what the constructors leave -/
def zIT : List (Int × Int × Int) := [(24, 1, 30), (0, 14, -1), (3, 9, -1), (7, 1, 100), (9, 1, 240), (11, 1, 60), (13, 1, 40), (15, 1, 60), (30, 1, -1), (30, 2, 20), (30, 3, 25), (30, 4, 30), (36, 1, -1), (36, 2, 20), (36, 3, 25), (36, 4, 30), (65, 1, -1), (65, 2, 20), (65, 3, 25), (65, 4, 30), (71, 1, -1), (71, 2, 20), (71, 3, 25), (71, 4, 30), (77, 1, -1), (77, 2, 20), (77, 3, 25), (77, 4, 30), (83, 1, -1), (83, 2, 20), (83, 3, 25), (83, 4, 30), (89, 1, -1), (89, 2, 20), (89, 3, 25), (89, 4, 30), (95, 1, -1), (95, 2, 20), (95, 3, 25), (95, 4, 30), (101, 1, -1), (101, 2, 20), (101, 3, 25), (101, 4, 30), (107, 1, -1), (107, 2, 20), (107, 3, 25), (107, 4, 30), (127, 0, 1), (141, 0, 2), (155, 0, 3), (169, 87, -1)] ++ zRT
def zIW (o : Int) : Bool := o == 115 || o == 129 || o == 143 || o == 157
def zIL (o : Int) : Bool := o == 116 || o == 130 || o == 144 || o == 158
def zJ0 (o k : Int) : Int := if zIW o = true then (if 0 ≤ k ∧ k < 52 then k else 0) else if zIL o = true then (if 0 ≤ k ∧ k < 26 then k else 0) else match zIT.find? (fun e => e.1 == o && e.2.1 == k) with
  | some e => e.2.2
  | none => zd o k
theorem zJ0_n {o : Int} (L : List Int) (h1 : (zIW o || zIL o || zIT.any (fun e => e.1 == o && !(L.contains e.2.1))) = false) (k : Int) (hk : k ∉ L) : zJ0 o k = zd o k := by
  simp only [Bool.or_eq_false_iff] at h1
  unfold zJ0
  rw [if_neg (by rw [h1.1.1]; decide), if_neg (by rw [h1.1.2]; decide)]
  have hn : zIT.find? (fun e => e.1 == o && e.2.1 == k) = none := by
    rw [List.find?_eq_none]
    intro e he hh
    simp only [Bool.and_eq_true, beq_iff_eq] at hh
    have a := h1.2
    rw [List.any_eq_false] at a
    have b := a e he
    rw [hh.1, hh.2] at b
    simp only [beq_self_eq_true, Bool.true_and, Bool.not_eq_true', Bool.not_eq_false, List.contains_iff_mem] at b
    exact hk b
  rw [hn]
theorem zJ0_z {o : Int} (h1 : (zIW o || zIL o || zIT.any (fun e => e.1 == o && !(([] : List Int).contains e.2.1))) = false) : zJ0 o = zd o := funext fun k => zJ0_n [] h1 k List.not_mem_nil
/-- objects from o up to n: those of l are half made (the places told are as they will be), the others made -/
def zEl (l : List (Int × List Int)) (x : Int) : Option (List Int) := (l.find? (fun e => e.1 == x)).map (fun e => e.2)
def zHf (x : Int) (f : Int → Int) : Option (List Int) → Prop
  | none => f = zJ0 x
  | some L => ∀ k : Int, f k = if k ∈ L then zJ0 x k else zd x k
def zIn (o n : Int) (h0 h : zH) (l : List (Int × List Int)) : Prop := (∀ x : Int, x < o → h x = h0 x) ∧ ∀ x : Int, o ≤ x → x < n → zHf x (h x) (zEl l x)
/-- from o up to n all is made -/
def zMk (o n : Int) (h0 h : zH) : Prop := (∀ x : Int, x < o → h x = h0 x) ∧ ∀ x : Int, o ≤ x → x < n → h x = zJ0 x
theorem zEl_h {p : Int} {L : List Int} {l : List (Int × List Int)} : zEl ((p, L) :: l) p = some L := by
  unfold zEl
  rw [List.find?_cons_of_pos (by show (p == p) = true; exact beq_self_eq_true p)]
  rfl
theorem zEl_t {p x : Int} {L : List Int} {l : List (Int × List Int)} (h : x ≠ p) : zEl ((p, L) :: l) x = zEl l x := by
  unfold zEl
  rw [List.find?_cons_of_neg (by show ¬ (p == x) = true; rw [beq_iff_eq]; exact fun z => h z.symm)]
theorem zEl_s {p q : Int} {L M : List Int} {l : List (Int × List Int)} (h : p ≠ q) (x : Int) : zEl ((p, L) :: (q, M) :: l) x = zEl ((q, M) :: (p, L) :: l) x := by
  by_cases a : x = p
  · rw [a, zEl_h, zEl_t h, zEl_h]
  · rw [zEl_t a]
    by_cases b : x = q
    · rw [b, zEl_h, zEl_h]
    · rw [zEl_t b, zEl_t b, zEl_t a]
theorem zIn.start {o : Int} {h : zH} (ho : h o = zd o) : zIn o (o + 1) h h [(o, [])] := ⟨fun _ _ => rfl, fun x a b => by
  rw [show x = o by omega, zEl_h]
  intro k
  rw [if_neg List.not_mem_nil, ho]⟩
theorem zIn.swap {o n : Int} {h0 h : zH} {p q : Int} {L M : List Int} {l : List (Int × List Int)} (i : zIn o n h0 h ((p, L) :: (q, M) :: l)) (hpq : p ≠ q) : zIn o n h0 h ((q, M) :: (p, L) :: l) := ⟨i.1, fun x a b => by
  rw [← zEl_s hpq]
  exact i.2 x a b⟩
theorem zIn.swap2 {o n : Int} {h0 h : zH} {p q r : Int} {L M K : List Int} {l : List (Int × List Int)} (i : zIn o n h0 h ((r, K) :: (p, L) :: (q, M) :: l)) (hpq : p ≠ q) : zIn o n h0 h ((r, K) :: (q, M) :: (p, L) :: l) := ⟨i.1, fun x a b => by
  have z := i.2 x a b
  by_cases e : x = r
  · rw [e, zEl_h] at z ⊢
    exact z
  · rw [zEl_t e] at z ⊢
    rw [← zEl_s hpq]
    exact z⟩
theorem znew_i {h : zH} {n : Nat} {x : Int} (hx : x ≠ n) : znew h n x = h x := if_neg hx
theorem znew_q {h : zH} {n : Nat} {x : Int} (hx : x = n) : znew h n x = zd x := by rw [hx]; exact if_pos rfl
/-- an object more, made at once -/
theorem zIn.new {o q : Int} {h0 h : zH} {l : List (Int × List Int)} {n : Nat} (i : zIn o q h0 h l) (hq : q = n) (ho : o < q) (hl : zEl l q = none) (hz : zJ0 q = zd q) : zIn o (q + 1) h0 (znew h n) l := by
  refine ⟨fun x hx => ?_, fun x a b => ?_⟩
  · rw [znew_i (by omega)]; exact i.1 x hx
  · by_cases e : x = q
    · rw [e, hl, znew_q hq]; exact hz.symm
    · rw [znew_i (by omega)]; exact i.2 x a (by omega)
/-- an object more, to be made -/
theorem zIn.pend {o q p : Int} {h0 h : zH} {L : List Int} {l : List (Int × List Int)} {n : Nat} (i : zIn o q h0 h ((p, L) :: l)) (hq : q = n) (ho : o < q) (hp : p ≠ q) : zIn o (q + 1) h0 (znew h n) ((p, L) :: (q, []) :: l) := by
  refine ⟨fun x hx => ?_, fun x a b => ?_⟩
  · rw [znew_i (by omega)]; exact i.1 x hx
  · rw [zEl_s hp]
    by_cases e : x = q
    · rw [e, zEl_h, znew_q hq]
      intro k
      rw [if_neg List.not_mem_nil]
    · rw [zEl_t e, znew_i (by omega)]; exact i.2 x a (by omega)
theorem zIn.put {o n p : Int} {h0 h : zH} {L : List Int} {l : List (Int × List Int)} (i : zIn o n h0 h ((p, L) :: l)) (hp : o ≤ p ∧ p < n) {k v : Int} (hv : v = zJ0 p k) : zIn o n h0 (zst h p k v) ((p, k :: L) :: l) := by
  refine ⟨fun x hx => ?_, fun x a b => ?_⟩
  · rw [zfn (by omega)]; exact i.1 x hx
  · by_cases e : x = p
    · have q := i.2 p hp.1 hp.2
      rw [zEl_h] at q
      rw [e, zEl_h]
      intro j
      rw [zst_or]
      by_cases e : j = k
      · rw [if_pos e, if_pos (by rw [e]; exact List.mem_cons_self), e]; exact hv
      · rw [if_neg e, q j]
        by_cases m : j ∈ L
        · rw [if_pos m, if_pos (List.mem_cons_of_mem _ m)]
        · rw [if_neg m, if_neg (fun z => (List.mem_cons.mp z).elim e m)]
    · rw [zEl_t e, zfn e, ← zEl_t (L := L) e]
      exact i.2 x a b
theorem zIn.call {o q q2 : Int} {h0 h h2 : zH} {l : List (Int × List Int)} {n : Nat} (i : zIn o q h0 h l) (hq : q = n) (ho : o < q) (hl : ∀ e ∈ l, e.1 < q) (m : zMk q q2 (znew h n) h2) : zIn o q2 h0 h2 l := by
  refine ⟨fun x hx => ?_, fun x a b => ?_⟩
  · rw [m.1 x (by omega), znew_i (by omega)]; exact i.1 x hx
  · by_cases e : x < q
    · rw [m.1 x e, znew_i (by omega)]; exact i.2 x a e
    · have hn : zEl l x = none := by
        unfold zEl
        rw [List.find?_eq_none.mpr (fun e he => by
          rw [beq_iff_eq]
          have := hl e he
          omega)]
        rfl
      rw [hn]
      exact m.2 x (by omega) b
/-- a half made object is made -/
theorem zIn.made {o n p : Int} {h0 h : zH} {L : List Int} {l : List (Int × List Int)} (i : zIn o n h0 h ((p, L) :: l)) (hn : (zIW p || zIL p || zIT.any (fun e => e.1 == p && !(L.contains e.2.1))) = false) (hl : zEl l p = none) : zIn o n h0 h l := by
  refine ⟨i.1, fun x a b => ?_⟩
  have q := i.2 x a b
  by_cases e : x = p
  · rw [e, zEl_h] at q
    rw [e, hl]
    funext k
    rw [q k]
    by_cases m : k ∈ L
    · rw [if_pos m]
    · rw [if_neg m, zJ0_n L hn k m]
  · rw [zEl_t e] at q
    exact q
theorem zIn.all {o n : Int} {h0 h : zH} (i : zIn o n h0 h []) : zMk o n h0 h := i
theorem zIn.at {o n p : Int} {h0 h : zH} {l : List (Int × List Int)} (i : zIn o n h0 h l) (hp : o ≤ p ∧ p < n) {L : List Int} (hl : zEl l p = some L) {k v : Int} (hk : k ∈ L) (hv : zJ0 p k = v) : h p k = v := by
  have q := i.2 p hp.1 hp.2
  rw [hl] at q
  rw [q k, if_pos hk, hv]
/-- a constructor's end -/
def zKq (o n : Int) (N : Nat) (h : zH) : Nat → zH → List zV → Prop := fun n1 h1 rs => n1 = N ∧ rs = [] ∧ zMk o n h h1
section YMK
variable {d d' : zMd} {X : zX} {dep dep' bc bs n pc index : Nat} {lv : List (Nat × zV)} {st as : List zV} {h : zH} {Q : Nat → zH → List zV → Prop} {l : List (Int × List Int)} {o q q1 : Int} {h0 : zH}
/-- a row of numbers is made -/
theorem y_arr {t N : Nat} {atype : ArrayType} (n' bc' bs' : Nat) (hdg : decode d.by pc = .ok (.newarray atype, 2)) (ht : newarray.typeOf atype = zety t) (ht4 : t = 1 ∨ t = 2 ∨ t = 3 ∨ t = 4) (l1 : Cond.arrayClass (zety t) ∈ zBIG) (hs : zS n = (t, 0, N)) (hN : N < 60000000) (hn : n < 238) (hbc : bc' + 1 ≤ bc) (hbs : bs' + N ≤ bs) (hn' : n + 1 = n') (hq : q = n) (hq1 : q + 1 = q1) (i : zIn o q h0 h l) (ho : o < q) (hl : zEl l q = none) (hz : (zIW q || zIL q || zIT.any (fun e => e.1 == q && !(([] : List Int).contains e.2.1))) = false)
    (kk : ∀ h1, zIn o q1 h0 h1 l → yW d X dep bc' bs' n' (pc + 2) lv (xR q :: st) h1 Q) : yW d X dep bc bs n pc lv (xI N :: st) h Q := by
  refine y_newa bc' bs' hdg ht ht4 l1 hs hN (by omega) (fun z => by omega) hbc hbs ?_
  subst hn'
  rw [← hq]
  exact kk _ (hq1 ▸ i.new hq ho hl (zJ0_z hz))
/-- a row of references is made, nothing in it for good -/
theorem y_arq {t N : Nat} {C : String} (n' bc' bs' : Nat) (hdg : decode d.by pc = .ok (.anewarray index, 3)) (ht : zety t = .object C) (ht5 : 5 ≤ t) (l1 : Cond.classLink d.1.cls index C ∈ zBIG) (ao : ∀ s, zAO s → va_AO C s) (hs : zS n = (t, 0, N)) (hN : N < 60000000) (hn : n < 238) (hbc : bc' + 1 ≤ bc) (hbs : bs' + N ≤ bs) (hn' : n + 1 = n') (hq : q = n) (hq1 : q + 1 = q1) (i : zIn o q h0 h l) (ho : o < q) (hl : zEl l q = none) (hz : (zIW q || zIL q || zIT.any (fun e => e.1 == q && !(([] : List Int).contains e.2.1))) = false)
    (kk : ∀ h1, zIn o q1 h0 h1 l → yW d X dep bc' bs' n' (pc + 3) lv (xR q :: st) h1 Q) : yW d X dep bc bs n pc lv (xI N :: st) h Q := by
  refine y_newq bc' bs' hdg ht ht5 l1 ao hs hN hn hbc hbs ?_
  subst hn'
  rw [← hq]
  exact kk _ (hq1 ▸ i.new hq ho hl (zJ0_z hz))
/-- a row of references is made, to be filled -/
theorem y_arp {t N : Nat} {C : String} {p : Int} {L : List Int} (n' bc' bs' : Nat) (hdg : decode d.by pc = .ok (.anewarray index, 3)) (ht : zety t = .object C) (ht5 : 5 ≤ t) (l1 : Cond.classLink d.1.cls index C ∈ zBIG) (ao : ∀ s, zAO s → va_AO C s) (hs : zS n = (t, 0, N)) (hN : N < 60000000) (hn : n < 238) (hbc : bc' + 1 ≤ bc) (hbs : bs' + N ≤ bs) (hn' : n + 1 = n') (hq : q = n) (hq1 : q + 1 = q1) (i : zIn o q h0 h ((p, L) :: l)) (ho : o < q) (hp : p ≠ q)
    (kk : ∀ h1, zIn o q1 h0 h1 ((p, L) :: (q, []) :: l) → yW d X dep bc' bs' n' (pc + 3) lv (xR q :: st) h1 Q) : yW d X dep bc bs n pc lv (xI N :: st) h Q := by
  refine y_newq bc' bs' hdg ht ht5 l1 ao hs hN hn hbc hbs ?_
  subst hn'
  rw [← hq]
  exact kk _ (hq1 ▸ i.pend hq ho hp)
/-- an object comes -/
theorem y_nw {C : String} {T : u_T} {N ci : Nat} {ty : Nat → FieldType} (bc' bs' : Nat) (pk : zPk ci C T N ty) (hdg : decode d.by pc = .ok (.new index, 3)) (l1 : Cond.classLink d.1.cls index C ∈ zBIG) (l2 : Cond.instantiable C N ∈ zBIG) (l3 : Cond.initialized C ∈ zBIG) (hs : zS n = (0, ci, N)) (hfd : ∀ j, j < N → ty j ≠ .float ∧ ty j ≠ .double) (hn : n < 238) (hbc : bc' + 1 ≤ bc) (hbs : bs' + N ≤ bs) (hq : q = n)
    (kk : yW d X dep bc' bs' (n + 1) (pc + 3) lv (xR q :: st) (znew h n) Q) : yW d X dep bc bs n pc lv st h Q := by
  refine y_new bc' bs' pk hdg l1 l2 l3 hs hfd hn hbc hbs ?_
  rw [← hq]
  exact kk
/-- a final field -/
theorem y_fldF {C : String} {T : u_T} {N ci : Nat} {k : Nat} {ty : Nat → FieldType} {p kz : Int} {v : zV} {L : List Int} (pk : zPk ci C T N ty) (hdg : decode d.by pc = .ok (.putfield index, 3)) (hk : k < N) (hl : Cond.fieldLink d.1.cls index (T k).1 (T k).2.1 (T k).2.2.1 ∈ zBIG) (hfin : (T k).2.2.2 = true) (hin : d.1.name = "<init>") (hdecl : (T k).1 = d.1.cls) (hnb : n < 239) (hv : zFit (ty k) v) (ho : zOb n p (0, ci, N)) (hkz : (k : Int) = kz) (i : zIn o q h0 h ((p, L) :: l)) (hp : o ≤ p ∧ p < q) (hz : v.2 = zJ0 p kz)
    (kk : ∀ h1, zIn o q h0 h1 ((p, kz :: L) :: l) → yW d X dep bc bs n (pc + 3) lv st h1 Q) : yW d X dep bc bs n pc lv (v :: xR p :: st) h Q := by
  refine y_putF pk hdg hk hl hfin hin hdecl hnb hv ho ?_
  rw [hkz]
  exact kk _ (i.put hp hz)
/-- another field -/
theorem y_fld {C : String} {T : u_T} {N ci : Nat} {k : Nat} {ty : Nat → FieldType} {p kz : Int} {v : zV} {L : List Int} (pk : zPk ci C T N ty) (hdg : decode d.by pc = .ok (.putfield index, 3)) (hk : k < N) (hl : Cond.fieldLink d.1.cls index (T k).1 (T k).2.1 (T k).2.2.1 ∈ zBIG) (hfin : (T k).2.2.2 = false) (hv : zFit (ty k) v) (ho : zOb n p (0, ci, N)) (hkz : (k : Int) = kz) (i : zIn o q h0 h ((p, L) :: l)) (hp : o ≤ p ∧ p < q) (hz : v.2 = zJ0 p kz)
    (kk : ∀ h1, zIn o q h0 h1 ((p, kz :: L) :: l) → yW d X dep bc bs n (pc + 3) lv st h1 Q) : yW d X dep bc bs n pc lv (v :: xR p :: st) h Q := by
  refine y_put pk hdg hk hl hfin hv ho ?_
  rw [hkz]
  exact kk _ (i.put hp hz)
/-- a field read again -/
theorem y_gt {C : String} {T : u_T} {N ci : Nat} {k : Nat} {ty : Nat → FieldType} {p kz v : Int} {L : List Int} (pk : zPk ci C T N ty) (hdg : decode d.by pc = .ok (.getfield index, 3)) (hk : k < N) (hl : Cond.fieldLink d.1.cls index (T k).1 (T k).2.1 (T k).2.2.1 ∈ zBIG) (ht : ztag (ty k) = 2) (ho : zOb n p (0, ci, N)) (hkz : (k : Int) = kz) (i : zIn o q h0 h l) (hp : o ≤ p ∧ p < q) (hL : zEl l p = some L) (hm : kz ∈ L) (hz : zJ0 p kz = v)
    (kk : yW d X dep bc bs n (pc + 3) lv (xR v :: st) h Q) : yW d X dep bc bs n pc lv (xR p :: st) h Q := by
  refine y_get pk hdg hk hl ht ho ?_
  rw [hkz, i.at hp hL hm hz]
  exact kk
/-- a reference put into a row -/
theorem y_aa {t N ci : Nat} {r : vw_C} {p iz v : Int} {N2 : Nat} {L : List Int} (hdg : decode d.by pc = .ok (.aastore, 1)) (ho : zOb n p (t, 0, N)) (ht5 : 5 ≤ t) (ht : zety t = .object r.1) (hv : zOb n v (0, ci, N2)) (hc : zcls[ci]? = some r) (hi0 : 0 ≤ iz) (hi : iz < N) (hN : N < 60000000) (hn : n < 239) (i : zIn o q h0 h ((p, L) :: l)) (hp : o ≤ p ∧ p < q) (hz : v = zJ0 p iz)
    (kk : ∀ h1, zIn o q h0 h1 ((p, iz :: L) :: l) → yW d X dep bc bs n (pc + 1) lv st h1 Q) : yW d X dep bc bs n pc lv (xR v :: xI iz :: xR p :: st) h Q :=
  y_aast hdg ho ht5 ht hv hc hi0 hi hN hn (kk _ (i.put hp hz))
/-- an object is made by its constructor -/
theorem y_mk {bc' bs' bc2 bs2 : Nat} {q2 : Int} {N : Nat} {ra : List zV} (hZ : yW d' X dep' bc' bs' (n + 1) 0 (zar 0 (xR q :: as)) [] (znew h n) (zKq q q2 N (znew h n))) (hdg : decode d.by pc = .ok (.invokespecial index, 3)) (hm : zNm d' as.length) (hrt : d'.rt = none) (hini : d'.1.name = "<init>") (l1 : Cond.methodLink d.1.cls index d'.1 ∈ zBIG) (l2 : Cond.instanceMethod d'.1 ∈ zBIG) (l4 : Cond.initialized d'.1.cls ∈ zBIG) (hd : dep' + 1 ≤ dep) (hbc : bc2 + bc' = bc) (hbs : bs2 + bs' = bs) (hsz : zsz (xR q :: as) ≤ d'.nl) (hst : zsz st ≤ 8) (hra : ra = as.reverse) (hq : q = n) (i : zIn o q h0 h l) (ho : o < q) (hl : ∀ e ∈ l, e.1 < q)
    (kk : ∀ h1, zIn o q2 h0 h1 l → yW d X dep bc2 bs2 N (pc + 3) lv st h1 Q) : yW d X dep bc bs (n + 1) pc lv (ra ++ xR q :: st) (znew h n) Q := by
  refine y_invI hZ (fun n' h' z => ?_) hdg hm hrt hini l1 l2 l4 (by omega) hd (by omega) (by omega) hsz hst hra (fun n' h' rs z hn => ?_)
  · exact absurd z.2.1 (by decide)
  · obtain ⟨rfl, rfl, m⟩ := z
    rw [show bc - bc' = bc2 by omega, show bs - bs' = bs2 by omega]
    exact kk _ (i.call hq ho hl m)
/-- the same, the constructor private to a nest mate -/
theorem y_mkN {host : String} {bc' bs' bc2 bs2 : Nat} {q2 : Int} {N : Nat} {ra : List zV} (hZ : yW d' X dep' bc' bs' (n + 1) 0 (zar 0 (xR q :: as)) [] (znew h n) (zKq q q2 N (znew h n))) (hdg : decode d.by pc = .ok (.invokespecial index, 3)) (hm : zNm d' as.length) (hrt : d'.rt = none) (hini : d'.1.name = "<init>") (l1 : Cond.methodLinkNest d.1.cls index d'.1 host ∈ lw_tbl) (l2 : Cond.instanceMethod d'.1 ∈ zBIG) (l4 : Cond.initialized d'.1.cls ∈ zBIG) (hd : dep' + 1 ≤ dep) (hbc : bc2 + bc' = bc) (hbs : bs2 + bs' = bs) (hsz : zsz (xR q :: as) ≤ d'.nl) (hst : zsz st ≤ 8) (hra : ra = as.reverse) (hq : q = n) (i : zIn o q h0 h l) (ho : o < q) (hl : ∀ e ∈ l, e.1 < q)
    (kk : ∀ h1, zIn o q2 h0 h1 l → yW d X dep bc2 bs2 N (pc + 3) lv st h1 Q) : yW d X dep bc bs (n + 1) pc lv (ra ++ xR q :: st) (znew h n) Q := by
  refine y_invIN hZ (fun n' h' z => ?_) hdg hm hrt hini l1 l2 l4 (by omega) hd (by omega) (by omega) hsz hst hra (fun n' h' rs z hn => ?_)
  · exact absurd z.2.1 (by decide)
  · obtain ⟨rfl, rfl, m⟩ := z
    rw [show bc - bc' = bc2 by omega, show bs - bs' = bs2 by omega]
    exact kk _ (i.call hq ho hl m)
theorem y_end {p : Int} {N : Nat} {L : List Int} (hdg : decode d.by pc = .ok (.return_, 1)) (hrt : d.rt = none) (hn : n = N) (i : zIn o q h0 h [(p, L)]) (hz : (zIW p || zIL p || zIT.any (fun e => e.1 == p && !(L.contains e.2.1))) = false) : yW d X dep bc bs n pc lv [] h (zKq o q N h0) :=
  y_ret hdg hrt ⟨hn, rfl, (i.made hz rfl).all⟩
end YMK
