/-! shorter forms of the rows, for the generated walks: all objects made -/
theorem zi32_d {v : Int} (h : decide (-2147483648 ≤ v ∧ v < 2147483648) = true) : zi32 v := (of_decide_eq_true h : -2147483648 ≤ v ∧ v < 2147483648)
theorem zt0 {x : Int} : (xI x).1 ≠ 1 := fun q : (0 : Nat) = 1 => by cases q
theorem zt2 {x : Int} : (xR x).1 ≠ 1 := fun q : (2 : Nat) = 1 => by cases q
theorem zne_0 : ([] : List zV) ≠ [(9, 0)] := fun q => by cases q
theorem zne_I {x : Int} : [xI x] ≠ [(9, 0)] := fun q => absurd (congrArg (fun l : List zV => (l.headD (9, 0)).1) q) (fun z : (0 : Nat) = 9 => by cases z)
theorem zne_L {x : Int} : [xL x] ≠ [(9, 0)] := fun q => absurd (congrArg (fun l : List zV => (l.headD (9, 0)).1) q) (fun z : (1 : Nat) = 9 => by cases z)
theorem zne_R {x : Int} : [xR x] ≠ [(9, 0)] := fun q => absurd (congrArg (fun l : List zV => (l.headD (9, 0)).1) q) (fun z : (2 : Nat) = 9 => by cases z)
/-- 1 where it holds, else 0 -/
noncomputable def zb (C : Prop) : Int := @ite Int C (Classical.propDecidable C) 1 0
theorem zb_t {C : Prop} (h : C) : zb C = 1 := if_pos h
theorem zb_f {C : Prop} (h : ¬ C) : zb C = 0 := if_neg h
theorem zb01 (C : Prop) : zb C = 0 ∨ zb C = 1 := by
  by_cases h : C
  · exact Or.inr (zb_t h)
  · exact Or.inl (zb_f h)
theorem zb_iff {C D : Prop} (h : C ↔ D) : zb C = zb D := congrArg zb (propext h)
theorem zb_ite {C : Prop} [Decidable C] : (if C then 1 else 0 : Int) = zb C := by
  by_cases h : C
  · rw [if_pos h, zb_t h]
  · rw [if_neg h, zb_f h]
section ZS
variable {d : zMd} {X : zX} {dep bc bs n pc : Nat} {lv : List (Nat × zV)} {st : List zV} {h : zH} {Q : Nat → zH → List zV → Prop}
theorem zW.refs (hn : 239 ≤ n) (k : zRefOK h → zW d X dep bc bs n pc lv st h Q) : zW d X dep bc bs n pc lv st h Q := by
  intro p l e R s m args below meth c H locs cells slots A E ls Z hF h1 h2 hD hE
  exact k (hD.2.2.2.1.2.2.2.2.2.2 hn) p l e R s m args below meth c H locs cells slots A E ls Z hF h1 h2 hD hE
theorem z_getI {C : String} {T : u_T} {N ci k index : Nat} {ty : Nat → FieldType} {o kz : Int} (pk : zPk ci C T N ty) (hdg : decode d.by pc = .ok (.getfield index, 3)) (hk : k < N) (hl : Cond.fieldLink d.1.cls index (T k).1 (T k).2.1 (T k).2.2.1 ∈ zBIG) (ht : ztag (ty k) = 0) (ho : zOb n o (0, ci, N)) (hz : (k : Int) = kz) (kk : zW d X dep bc bs n (pc + 3) lv (xI (h o kz) :: st) h Q) : zW d X dep bc bs n pc lv (xR o :: st) h Q := by
  subst hz
  exact z_get pk hdg hk hl ht ho kk
theorem z_getL {C : String} {T : u_T} {N ci k index : Nat} {ty : Nat → FieldType} {o kz : Int} (pk : zPk ci C T N ty) (hdg : decode d.by pc = .ok (.getfield index, 3)) (hk : k < N) (hl : Cond.fieldLink d.1.cls index (T k).1 (T k).2.1 (T k).2.2.1 ∈ zBIG) (ht : ztag (ty k) = 1) (ho : zOb n o (0, ci, N)) (hz : (k : Int) = kz) (kk : zW d X dep bc bs n (pc + 3) lv (xL (h o kz) :: st) h Q) : zW d X dep bc bs n pc lv (xR o :: st) h Q := by
  subst hz
  exact z_get pk hdg hk hl ht ho kk
theorem z_getR {C : String} {T : u_T} {N ci k index : Nat} {ty : Nat → FieldType} {o kz : Int} (pk : zPk ci C T N ty) (hdg : decode d.by pc = .ok (.getfield index, 3)) (hk : k < N) (hl : Cond.fieldLink d.1.cls index (T k).1 (T k).2.1 (T k).2.2.1 ∈ zBIG) (ht : ztag (ty k) = 2) (ho : zOb n o (0, ci, N)) (hz : (k : Int) = kz) (kk : zW d X dep bc bs n (pc + 3) lv (xR (h o kz) :: st) h Q) : zW d X dep bc bs n pc lv (xR o :: st) h Q := by
  subst hz
  exact z_get pk hdg hk hl ht ho kk
/-- a reference that stays -/
theorem z_getS {C : String} {T : u_T} {N ci k index : Nat} {ty : Nat → FieldType} {o kz v : Int} (pk : zPk ci C T N ty) (hdg : decode d.by pc = .ok (.getfield index, 3)) (hk : k < N) (hl : Cond.fieldLink d.1.cls index (T k).1 (T k).2.1 (T k).2.2.1 ∈ zBIG) (ht : ztag (ty k) = 2) (ho : zOb 239 o (0, ci, N)) (hz : (k : Int) = kz) (hv : zRF o kz = some v) (kk : zW d X dep bc bs 239 (pc + 3) lv (xR v :: st) h Q) : zW d X dep bc bs 239 pc lv (xR o :: st) h Q :=
  zW.refs (Nat.le_refl _) fun hr => z_getR pk hdg hk hl ht ho hz (by rw [hr o kz v hv]; exact kk)
/-- a reference of which the caller knows what it is -/
theorem z_getD {C : String} {T : u_T} {N ci k index : Nat} {ty : Nat → FieldType} {o kz v : Int} (pk : zPk ci C T N ty) (hdg : decode d.by pc = .ok (.getfield index, 3)) (hk : k < N) (hl : Cond.fieldLink d.1.cls index (T k).1 (T k).2.1 (T k).2.2.1 ∈ zBIG) (ht : ztag (ty k) = 2) (ho : zOb n o (0, ci, N)) (hz : (k : Int) = kz) (hv : h o kz = v) (kk : zW d X dep bc bs n (pc + 3) lv (xR v :: st) h Q) : zW d X dep bc bs n pc lv (xR o :: st) h Q :=
  z_getR pk hdg hk hl ht ho hz (by rw [hv]; exact kk)
theorem z_putI {C : String} {T : u_T} {N ci k index : Nat} {ty : Nat → FieldType} {o kz x : Int} {t : Nat} (pk : zPk ci C T N ty) (hdg : decode d.by pc = .ok (.putfield index, 3)) (hk : k < N) (hl : Cond.fieldLink d.1.cls index (T k).1 (T k).2.1 (T k).2.2.1 ∈ zBIG) (hfin : (T k).2.2.2 = false) (hv : zFit (ty k) (t, x)) (ho : zOb n o (0, ci, N)) (hz : (k : Int) = kz) (kk : zW d X dep bc bs n (pc + 3) lv st (zst h o kz x) Q) : zW d X dep bc bs n pc lv ((t, x) :: xR o :: st) h Q := by
  subst hz
  exact z_put pk hdg hk hl hfin hv ho kk
theorem z_aaldSL {N : Nat} {o i v : Int} (hdg : decode d.by pc = .ok (.aaload, 1)) (ho : zOb 239 o (7, 0, N)) (h0 : 0 ≤ i) (hi : i < N) (hv : zRF o i = some v) (kk : zW d X dep bc bs 239 (pc + 1) lv (xR v :: st) h Q) : zW d X dep bc bs 239 pc lv (xI i :: xR o :: st) h Q :=
  zW.refs (Nat.le_refl _) fun hr => z_aaldL hdg ho h0 hi (by rw [hr o i v hv]; exact kk)
theorem z_aaldSR {N : Nat} {o i v : Int} (hdg : decode d.by pc = .ok (.aaload, 1)) (ho : zOb 239 o (8, 0, N)) (h0 : 0 ≤ i) (hi : i < N) (hv : zRF o i = some v) (kk : zW d X dep bc bs 239 (pc + 1) lv (xR v :: st) h Q) : zW d X dep bc bs 239 pc lv (xI i :: xR o :: st) h Q :=
  zW.refs (Nat.le_refl _) fun hr => z_aaldR hdg ho h0 hi (by rw [hr o i v hv]; exact kk)
theorem z_aaldSA {N : Nat} {o i v : Int} (hdg : decode d.by pc = .ok (.aaload, 1)) (ho : zOb 239 o (6, 0, N)) (h0 : 0 ≤ i) (hi : i < N) (hv : zRF o i = some v) (kk : zW d X dep bc bs 239 (pc + 1) lv (xR v :: st) h Q) : zW d X dep bc bs 239 pc lv (xI i :: xR o :: st) h Q :=
  zW.refs (Nat.le_refl _) fun hr => z_aaldA hdg ho h0 hi (by rw [hr o i v hv]; exact kk)
theorem z_getIV {C : String} {T : u_T} {N ci k index : Nat} {ty : Nat → FieldType} {o kz v : Int} (pk : zPk ci C T N ty) (hdg : decode d.by pc = .ok (.getfield index, 3)) (hk : k < N) (hl : Cond.fieldLink d.1.cls index (T k).1 (T k).2.1 (T k).2.2.1 ∈ zBIG) (ht : ztag (ty k) = 0) (ho : zOb n o (0, ci, N)) (hz : (k : Int) = kz) (hv : h o kz = v) (kk : zW d X dep bc bs n (pc + 3) lv (xI v :: st) h Q) : zW d X dep bc bs n pc lv (xR o :: st) h Q :=
  z_getI pk hdg hk hl ht ho hz (by rw [hv]; exact kk)
theorem z_getLV {C : String} {T : u_T} {N ci k index : Nat} {ty : Nat → FieldType} {o kz v : Int} (pk : zPk ci C T N ty) (hdg : decode d.by pc = .ok (.getfield index, 3)) (hk : k < N) (hl : Cond.fieldLink d.1.cls index (T k).1 (T k).2.1 (T k).2.2.1 ∈ zBIG) (ht : ztag (ty k) = 1) (ho : zOb n o (0, ci, N)) (hz : (k : Int) = kz) (hv : h o kz = v) (kk : zW d X dep bc bs n (pc + 3) lv (xL v :: st) h Q) : zW d X dep bc bs n pc lv (xR o :: st) h Q :=
  z_getL pk hdg hk hl ht ho hz (by rw [hv]; exact kk)
theorem z_ialdV {N : Nat} {o i v : Int} (hdg : decode d.by pc = .ok (.iaload, 1)) (ho : zOb n o (1, 0, N)) (h0 : 0 ≤ i) (hi : i < N) (hv : h o i = v) (kk : zW d X dep bc bs n (pc + 1) lv (xI v :: st) h Q) : zW d X dep bc bs n pc lv (xI i :: xR o :: st) h Q :=
  z_iald hdg ho h0 hi (by rw [hv]; exact kk)
theorem z_laldV {N : Nat} {o i v : Int} (hdg : decode d.by pc = .ok (.laload, 1)) (ho : zOb n o (2, 0, N)) (h0 : 0 ≤ i) (hi : i < N) (hv : h o i = v) (kk : zW d X dep bc bs n (pc + 1) lv (xL v :: st) h Q) : zW d X dep bc bs n pc lv (xI i :: xR o :: st) h Q :=
  z_lald hdg ho h0 hi (by rw [hv]; exact kk)
theorem z_zaldV {N : Nat} {o i v : Int} (hdg : decode d.by pc = .ok (.baload, 1)) (ho : zOb n o (3, 0, N)) (h0 : 0 ≤ i) (hi : i < N) (hv : h o i = v) (kk : zW d X dep bc bs n (pc + 1) lv (xI v :: st) h Q) : zW d X dep bc bs n pc lv (xI i :: xR o :: st) h Q :=
  z_zald hdg ho h0 hi (by rw [hv]; exact kk)
theorem z_baldV {N : Nat} {o i v : Int} (hdg : decode d.by pc = .ok (.baload, 1)) (ho : zOb n o (4, 0, N)) (h0 : 0 ≤ i) (hi : i < N) (hv : h o i = v) (kk : zW d X dep bc bs n (pc + 1) lv (xI v :: st) h Q) : zW d X dep bc bs n pc lv (xI i :: xR o :: st) h Q :=
  z_bald hdg ho h0 hi (by rw [hv]; exact kk)
theorem z_aaldWV {N : Nat} {o i v : Int} (hdg : decode d.by pc = .ok (.aaload, 1)) (ho : zOb n o (5, 0, N)) (h0 : 0 ≤ i) (hi : i < N) (hv : h o i = v) (kk : zW d X dep bc bs n (pc + 1) lv (xR v :: st) h Q) : zW d X dep bc bs n pc lv (xI i :: xR o :: st) h Q :=
  z_aaldW hdg ho h0 hi (by rw [hv]; exact kk)
theorem z_iaddN {a b : Int} (hdg : decode d.by pc = .ok (.iadd, 1)) (h1 : -2147483648 ≤ a + b) (h2 : a + b < 2147483648) (k : zW d X dep bc bs n (pc + 1) lv (xI (a + b) :: st) h Q) : zW d X dep bc bs n pc lv (xI b :: xI a :: st) h Q :=
  z_iadd hdg (by rw [w32_id h1 h2]; exact k)
theorem z_iaddV {a b v : Int} (hdg : decode d.by pc = .ok (.iadd, 1)) (hv : a + b = v) (h1 : -2147483648 ≤ v) (h2 : v < 2147483648) (k : zW d X dep bc bs n (pc + 1) lv (xI v :: st) h Q) : zW d X dep bc bs n pc lv (xI b :: xI a :: st) h Q :=
  z_iadd hdg (by rw [hv, w32_id h1 h2]; exact k)
theorem z_isubN {a b : Int} (hdg : decode d.by pc = .ok (.isub, 1)) (h1 : -2147483648 ≤ a - b) (h2 : a - b < 2147483648) (k : zW d X dep bc bs n (pc + 1) lv (xI (a - b) :: st) h Q) : zW d X dep bc bs n pc lv (xI b :: xI a :: st) h Q :=
  z_isub hdg (by rw [w32_id h1 h2]; exact k)
theorem z_isubV {a b v : Int} (hdg : decode d.by pc = .ok (.isub, 1)) (hv : a - b = v) (h1 : -2147483648 ≤ v) (h2 : v < 2147483648) (k : zW d X dep bc bs n (pc + 1) lv (xI v :: st) h Q) : zW d X dep bc bs n pc lv (xI b :: xI a :: st) h Q :=
  z_isub hdg (by rw [hv, w32_id h1 h2]; exact k)
theorem z_imulN {a b : Int} (hdg : decode d.by pc = .ok (.imul, 1)) (h1 : -2147483648 ≤ a * b) (h2 : a * b < 2147483648) (k : zW d X dep bc bs n (pc + 1) lv (xI (a * b) :: st) h Q) : zW d X dep bc bs n pc lv (xI b :: xI a :: st) h Q :=
  z_imul hdg (by rw [w32_id h1 h2]; exact k)
theorem z_imulV {a b v : Int} (hdg : decode d.by pc = .ok (.imul, 1)) (hv : a * b = v) (h1 : -2147483648 ≤ v) (h2 : v < 2147483648) (k : zW d X dep bc bs n (pc + 1) lv (xI v :: st) h Q) : zW d X dep bc bs n pc lv (xI b :: xI a :: st) h Q :=
  z_imul hdg (by rw [hv, w32_id h1 h2]; exact k)
theorem z_iincN {i : Nat} {x c0 : Int} {lv' : List (Nat × zV)} (j : Nat) (hdg : decode d.by pc = .ok (.iinc i c0, 3)) (hk : lv[j]? = some (i, xI x)) (hi : i < d.nl) (hl : (i, xI (x + c0)) :: lv.filter (fun q => !(q.1 == i) && !(q.1 + 1 == i && q.2.1 == 1)) = lv') (h1 : -2147483648 ≤ x + c0) (h2 : x + c0 < 2147483648) (k : zW d X dep bc bs n (pc + 3) lv' st h Q) : zW d X dep bc bs n pc lv st h Q :=
  z_iinc j hdg hk hi (by rw [w32_id h1 h2]; exact hl) k
theorem z_iincV {i : Nat} {x c0 v : Int} {lv' : List (Nat × zV)} (j : Nat) (hdg : decode d.by pc = .ok (.iinc i c0, 3)) (hk : lv[j]? = some (i, xI x)) (hi : i < d.nl) (hv : x + c0 = v) (h1 : -2147483648 ≤ v) (h2 : v < 2147483648) (hl : (i, xI v) :: lv.filter (fun q => !(q.1 == i) && !(q.1 + 1 == i && q.2.1 == 1)) = lv') (k : zW d X dep bc bs n (pc + 3) lv' st h Q) : zW d X dep bc bs n pc lv st h Q :=
  z_iinc j hdg hk hi (by rw [hv, w32_id h1 h2]; exact hl) k
theorem z_ifB_eq {C : Prop} {off : Int} {tgt : Nat} (hdg : decode d.by pc = .ok (.ifCond .eq off, 3)) (ht : (pc : Int) + off = (tgt : Int)) (kt : ¬ (C) → zW d X dep bc bs n tgt lv st h Q) (kf : C → zW d X dep bc bs n (pc + 3) lv st h Q) : zW d X dep bc bs n pc lv (xI (zb (C)) :: st) h Q := by
  by_cases hc : C
  · rw [zb_t hc]
    exact z_if_eq hdg ht (fun c => absurd c (by decide)) (fun _ => kf hc)
  · rw [zb_f hc]
    exact z_if_eq hdg ht (fun _ => kt hc) (fun c => absurd rfl c)
theorem z_ifB_ne {C : Prop} {off : Int} {tgt : Nat} (hdg : decode d.by pc = .ok (.ifCond .ne off, 3)) (ht : (pc : Int) + off = (tgt : Int)) (kt : C → zW d X dep bc bs n tgt lv st h Q) (kf : ¬ (C) → zW d X dep bc bs n (pc + 3) lv st h Q) : zW d X dep bc bs n pc lv (xI (zb (C)) :: st) h Q := by
  by_cases hc : C
  · rw [zb_t hc]
    exact z_if_ne hdg ht (fun _ => kt hc) (fun c => absurd c (by decide))
  · rw [zb_f hc]
    exact z_if_ne hdg ht (fun c => absurd rfl c) (fun _ => kf hc)
/-- a method's answer and heap, told outright -/
def zF (h' : zH) (rs : List zV) : Nat → zH → List zV → Prop := fun n1 h1 r1 => n1 = 239 ∧ h1 = h' ∧ r1 = rs
theorem zF_nt {h' : zH} {rs : List zV} (h9 : rs ≠ [(9, 0)]) : ∀ n1 h1, ¬ zF h' rs n1 h1 [(9, 0)] := fun _ _ q => h9 q.2.2.symm
end ZS
section ZS2
variable {d d' : zMd} {X : zX} {dep dep' bc bs pc index N : Nat} {lv : List (Nat × zV)} {st as : List zV} {h : zH} {Q Q' : Nat → zH → List zV → Prop} {o : Int}
theorem z_invF {ci : Nat} {h' : zH} {rs : List zV} (hZ : zW d' X dep' 0 0 239 0 (zar 0 (xR o :: as)) [] h (zF h' rs)) (hdg : decode d.by pc = .ok (.invokevirtual index, 3)) (hm : zNm d' as.length) (l1 : Cond.methodLink d.1.cls index d'.1 ∈ zBIG) (l2 : Cond.instanceMethod d'.1 ∈ zBIG) (l3 : Cond.selects d'.1.cls d'.1 d'.1 ∈ zBIG) (l4 : Cond.initialized d'.1.cls ∈ zBIG) (ho : zOb 239 o (0, ci, N)) (hci : (zcls[ci]?).map (fun r => r.1) = some d'.1.cls)
    (hd : dep' + 1 ≤ dep) (hnt : rs ≠ [(9, 0)]) (hsz : zsz (xR o :: as) ≤ d'.nl) (hst : zsz st ≤ 8) {ra : List zV} (hra : ra = as.reverse) (k : zW d X dep bc bs 239 (pc + 3) lv (rs ++ st) h' Q) : zW d X dep bc bs 239 pc lv (ra ++ xR o :: st) h Q :=
  z_inv hZ (zF_nt hnt) hdg hm l1 l2 l3 l4 ho hci hd (Nat.zero_le _) (Nat.zero_le _) hsz hst hra (by rintro n1 h1 r1 ⟨rfl, rfl, rfl⟩ -; exact k)
theorem z_invSF {h' : zH} {rs : List zV} (hZ : zW d' X dep' 0 0 239 0 (zar 0 as) [] h (zF h' rs)) (hdg : decode d.by pc = .ok (.invokestatic index, 3)) (hm : zNm d' as.length) (l1 : Cond.methodLink d.1.cls index d'.1 ∈ zBIG) (l2 : Cond.static d'.1 ∈ zBIG) (l4 : Cond.initialized d'.1.cls ∈ zBIG)
    (hd : dep' + 1 ≤ dep) (hnt : rs ≠ [(9, 0)]) (hsz : zsz as ≤ d'.nl) (hst : zsz st ≤ 8) {ra : List zV} (hra : ra = as.reverse) (k : zW d X dep bc bs 239 (pc + 3) lv (rs ++ st) h' Q) : zW d X dep bc bs 239 pc lv (ra ++ st) h Q :=
  z_invS hZ (zF_nt hnt) hdg hm l1 l2 l4 hd (Nat.zero_le _) (Nat.zero_le _) hsz hst hra (by rintro n1 h1 r1 ⟨rfl, rfl, rfl⟩ -; exact k)
/-- what holds behind a call -/
def zQ0 (P : zH → Prop) : Nat → zH → List zV → Prop := fun n1 g rs => n1 = 239 ∧ rs = [] ∧ P g
def zQI (P : Int → zH → Prop) : Nat → zH → List zV → Prop := fun n1 g rs => n1 = 239 ∧ ∃ v, rs = [xI v] ∧ P v g
def zQL (P : Int → zH → Prop) : Nat → zH → List zV → Prop := fun n1 g rs => n1 = 239 ∧ ∃ v, rs = [xL v] ∧ P v g
def zQR (P : Int → zH → Prop) : Nat → zH → List zV → Prop := fun n1 g rs => n1 = 239 ∧ ∃ v, rs = [xR v] ∧ P v g
theorem z_invQ0 {ci : Nat} {P : zH → Prop} (hZ : zW d' X dep' 0 0 239 0 (zar 0 (xR o :: as)) [] h (zQ0 P)) (hdg : decode d.by pc = .ok (.invokevirtual index, 3)) (hm : zNm d' as.length) (l1 : Cond.methodLink d.1.cls index d'.1 ∈ zBIG) (l2 : Cond.instanceMethod d'.1 ∈ zBIG) (l3 : Cond.selects d'.1.cls d'.1 d'.1 ∈ zBIG) (l4 : Cond.initialized d'.1.cls ∈ zBIG) (ho : zOb 239 o (0, ci, N)) (hci : (zcls[ci]?).map (fun r => r.1) = some d'.1.cls)
    (hd : dep' + 1 ≤ dep) (hsz : zsz (xR o :: as) ≤ d'.nl) (hst : zsz st ≤ 8) {ra : List zV} (hra : ra = as.reverse) (k : ∀ g, P g → zW d X dep bc bs 239 (pc + 3) lv st g Q) : zW d X dep bc bs 239 pc lv (ra ++ xR o :: st) h Q :=
  z_inv hZ (fun _ _ q => zne_0 q.2.1.symm) hdg hm l1 l2 l3 l4 ho hci hd (Nat.zero_le _) (Nat.zero_le _) hsz hst hra (by rintro n1 g1 r1 ⟨rfl, rfl, hg⟩ -; exact k g1 hg)
theorem z_invSQ0 {P : zH → Prop} (hZ : zW d' X dep' 0 0 239 0 (zar 0 as) [] h (zQ0 P)) (hdg : decode d.by pc = .ok (.invokestatic index, 3)) (hm : zNm d' as.length) (l1 : Cond.methodLink d.1.cls index d'.1 ∈ zBIG) (l2 : Cond.static d'.1 ∈ zBIG) (l4 : Cond.initialized d'.1.cls ∈ zBIG)
    (hd : dep' + 1 ≤ dep) (hsz : zsz as ≤ d'.nl) (hst : zsz st ≤ 8) {ra : List zV} (hra : ra = as.reverse) (k : ∀ g, P g → zW d X dep bc bs 239 (pc + 3) lv st g Q) : zW d X dep bc bs 239 pc lv (ra ++ st) h Q :=
  z_invS hZ (fun _ _ q => zne_0 q.2.1.symm) hdg hm l1 l2 l4 hd (Nat.zero_le _) (Nat.zero_le _) hsz hst hra (by rintro n1 g1 r1 ⟨rfl, rfl, hg⟩ -; exact k g1 hg)
theorem z_invQI {ci : Nat} {P : Int → zH → Prop} (hZ : zW d' X dep' 0 0 239 0 (zar 0 (xR o :: as)) [] h (zQI P)) (hdg : decode d.by pc = .ok (.invokevirtual index, 3)) (hm : zNm d' as.length) (l1 : Cond.methodLink d.1.cls index d'.1 ∈ zBIG) (l2 : Cond.instanceMethod d'.1 ∈ zBIG) (l3 : Cond.selects d'.1.cls d'.1 d'.1 ∈ zBIG) (l4 : Cond.initialized d'.1.cls ∈ zBIG) (ho : zOb 239 o (0, ci, N)) (hci : (zcls[ci]?).map (fun r => r.1) = some d'.1.cls)
    (hd : dep' + 1 ≤ dep) (hsz : zsz (xR o :: as) ≤ d'.nl) (hst : zsz st ≤ 8) {ra : List zV} (hra : ra = as.reverse) (k : ∀ v g, P v g → zW d X dep bc bs 239 (pc + 3) lv (xI v :: st) g Q) : zW d X dep bc bs 239 pc lv (ra ++ xR o :: st) h Q :=
  z_inv hZ (fun _ _ q => by obtain ⟨-, v, e, -⟩ := q; exact zne_I e.symm) hdg hm l1 l2 l3 l4 ho hci hd (Nat.zero_le _) (Nat.zero_le _) hsz hst hra (by rintro n1 g1 r1 ⟨rfl, v, rfl, hg⟩ -; exact k v g1 hg)
theorem z_invSQI {P : Int → zH → Prop} (hZ : zW d' X dep' 0 0 239 0 (zar 0 as) [] h (zQI P)) (hdg : decode d.by pc = .ok (.invokestatic index, 3)) (hm : zNm d' as.length) (l1 : Cond.methodLink d.1.cls index d'.1 ∈ zBIG) (l2 : Cond.static d'.1 ∈ zBIG) (l4 : Cond.initialized d'.1.cls ∈ zBIG)
    (hd : dep' + 1 ≤ dep) (hsz : zsz as ≤ d'.nl) (hst : zsz st ≤ 8) {ra : List zV} (hra : ra = as.reverse) (k : ∀ v g, P v g → zW d X dep bc bs 239 (pc + 3) lv (xI v :: st) g Q) : zW d X dep bc bs 239 pc lv (ra ++ st) h Q :=
  z_invS hZ (fun _ _ q => by obtain ⟨-, v, e, -⟩ := q; exact zne_I e.symm) hdg hm l1 l2 l4 hd (Nat.zero_le _) (Nat.zero_le _) hsz hst hra (by rintro n1 g1 r1 ⟨rfl, v, rfl, hg⟩ -; exact k v g1 hg)
theorem z_invQL {ci : Nat} {P : Int → zH → Prop} (hZ : zW d' X dep' 0 0 239 0 (zar 0 (xR o :: as)) [] h (zQL P)) (hdg : decode d.by pc = .ok (.invokevirtual index, 3)) (hm : zNm d' as.length) (l1 : Cond.methodLink d.1.cls index d'.1 ∈ zBIG) (l2 : Cond.instanceMethod d'.1 ∈ zBIG) (l3 : Cond.selects d'.1.cls d'.1 d'.1 ∈ zBIG) (l4 : Cond.initialized d'.1.cls ∈ zBIG) (ho : zOb 239 o (0, ci, N)) (hci : (zcls[ci]?).map (fun r => r.1) = some d'.1.cls)
    (hd : dep' + 1 ≤ dep) (hsz : zsz (xR o :: as) ≤ d'.nl) (hst : zsz st ≤ 8) {ra : List zV} (hra : ra = as.reverse) (k : ∀ v g, P v g → zW d X dep bc bs 239 (pc + 3) lv (xL v :: st) g Q) : zW d X dep bc bs 239 pc lv (ra ++ xR o :: st) h Q :=
  z_inv hZ (fun _ _ q => by obtain ⟨-, v, e, -⟩ := q; exact zne_L e.symm) hdg hm l1 l2 l3 l4 ho hci hd (Nat.zero_le _) (Nat.zero_le _) hsz hst hra (by rintro n1 g1 r1 ⟨rfl, v, rfl, hg⟩ -; exact k v g1 hg)
theorem z_invSQL {P : Int → zH → Prop} (hZ : zW d' X dep' 0 0 239 0 (zar 0 as) [] h (zQL P)) (hdg : decode d.by pc = .ok (.invokestatic index, 3)) (hm : zNm d' as.length) (l1 : Cond.methodLink d.1.cls index d'.1 ∈ zBIG) (l2 : Cond.static d'.1 ∈ zBIG) (l4 : Cond.initialized d'.1.cls ∈ zBIG)
    (hd : dep' + 1 ≤ dep) (hsz : zsz as ≤ d'.nl) (hst : zsz st ≤ 8) {ra : List zV} (hra : ra = as.reverse) (k : ∀ v g, P v g → zW d X dep bc bs 239 (pc + 3) lv (xL v :: st) g Q) : zW d X dep bc bs 239 pc lv (ra ++ st) h Q :=
  z_invS hZ (fun _ _ q => by obtain ⟨-, v, e, -⟩ := q; exact zne_L e.symm) hdg hm l1 l2 l4 hd (Nat.zero_le _) (Nat.zero_le _) hsz hst hra (by rintro n1 g1 r1 ⟨rfl, v, rfl, hg⟩ -; exact k v g1 hg)
theorem z_invQR {ci : Nat} {P : Int → zH → Prop} (hZ : zW d' X dep' 0 0 239 0 (zar 0 (xR o :: as)) [] h (zQR P)) (hdg : decode d.by pc = .ok (.invokevirtual index, 3)) (hm : zNm d' as.length) (l1 : Cond.methodLink d.1.cls index d'.1 ∈ zBIG) (l2 : Cond.instanceMethod d'.1 ∈ zBIG) (l3 : Cond.selects d'.1.cls d'.1 d'.1 ∈ zBIG) (l4 : Cond.initialized d'.1.cls ∈ zBIG) (ho : zOb 239 o (0, ci, N)) (hci : (zcls[ci]?).map (fun r => r.1) = some d'.1.cls)
    (hd : dep' + 1 ≤ dep) (hsz : zsz (xR o :: as) ≤ d'.nl) (hst : zsz st ≤ 8) {ra : List zV} (hra : ra = as.reverse) (k : ∀ v g, P v g → zW d X dep bc bs 239 (pc + 3) lv (xR v :: st) g Q) : zW d X dep bc bs 239 pc lv (ra ++ xR o :: st) h Q :=
  z_inv hZ (fun _ _ q => by obtain ⟨-, v, e, -⟩ := q; exact zne_R e.symm) hdg hm l1 l2 l3 l4 ho hci hd (Nat.zero_le _) (Nat.zero_le _) hsz hst hra (by rintro n1 g1 r1 ⟨rfl, v, rfl, hg⟩ -; exact k v g1 hg)
theorem z_invSQR {P : Int → zH → Prop} (hZ : zW d' X dep' 0 0 239 0 (zar 0 as) [] h (zQR P)) (hdg : decode d.by pc = .ok (.invokestatic index, 3)) (hm : zNm d' as.length) (l1 : Cond.methodLink d.1.cls index d'.1 ∈ zBIG) (l2 : Cond.static d'.1 ∈ zBIG) (l4 : Cond.initialized d'.1.cls ∈ zBIG)
    (hd : dep' + 1 ≤ dep) (hsz : zsz as ≤ d'.nl) (hst : zsz st ≤ 8) {ra : List zV} (hra : ra = as.reverse) (k : ∀ v g, P v g → zW d X dep bc bs 239 (pc + 3) lv (xR v :: st) g Q) : zW d X dep bc bs 239 pc lv (ra ++ st) h Q :=
  z_invS hZ (fun _ _ q => by obtain ⟨-, v, e, -⟩ := q; exact zne_R e.symm) hdg hm l1 l2 l4 hd (Nat.zero_le _) (Nat.zero_le _) hsz hst hra (by rintro n1 g1 r1 ⟨rfl, v, rfl, hg⟩ -; exact k v g1 hg)
end ZS2
