/-! the four kinds of calls -/
section ZINV
variable {d d' : zMd} {X : zX} {dep dep' bc bc' bs bs' n pc index N : Nat} {lv : List (Nat × zV)} {st as : List zV} {h : zH} {Q Q' : Nat → zH → List zV → Prop} {o : Int}
theorem zwd_good {w : Cond} (hc : Cond.code d'.1 d'.by d'.nl d'.rt ∈ zBIG) (hw : w ∈ zwd d') : w ∈ zBIG ∧ ((w.onTables && w.keeps) = true ∨ ∃ ty, w = .arrayClass ty) := by
  rcases List.mem_cons.mp hw with rfl | hw
  · exact ⟨hc, zBIG_good hc⟩
  · exact ⟨hw, zBIG_good hw⟩
theorem zgoodV {own C : String} (hc : Cond.code d'.1 d'.by d'.nl d'.rt ∈ zBIG) (l1 : Cond.methodLink own index d'.1 ∈ zBIG) (l2 : Cond.instanceMethod d'.1 ∈ zBIG) (l3 : Cond.selects C d'.1 d'.1 ∈ zBIG) (l4 : Cond.initialized C ∈ zBIG) : GoodIn zBIG (wsV own index C d'.1 (zwd d')) := by
  intro w hw
  unfold wsV at hw
  rcases List.mem_append.mp hw with hw | hw
  · simp only [List.mem_cons, List.not_mem_nil, or_false] at hw
    rcases hw with rfl | rfl | rfl | rfl
    · exact ⟨l1, zBIG_good l1⟩
    · exact ⟨l2, zBIG_good l2⟩
    · exact ⟨l3, zBIG_good l3⟩
    · exact ⟨l4, zBIG_good l4⟩
  · exact zwd_good hc hw
theorem zgoodS {own : String} (hc : Cond.code d'.1 d'.by d'.nl d'.rt ∈ zBIG) (l1 : Cond.methodLink own index d'.1 ∈ zBIG) (l2 : Cond.static d'.1 ∈ zBIG) (l4 : Cond.initialized d'.1.cls ∈ zBIG) : GoodIn zBIG (va_wsS own index d'.1 (zwd d')) := by
  intro w hw
  unfold va_wsS at hw
  rcases List.mem_append.mp hw with hw | hw
  · simp only [List.mem_cons, List.not_mem_nil, or_false] at hw
    rcases hw with rfl | rfl | rfl
    · exact ⟨l1, zBIG_good l1⟩
    · exact ⟨l2, zBIG_good l2⟩
    · exact ⟨l4, zBIG_good l4⟩
  · exact zwd_good hc hw
theorem zroom {R : Room} {nl : Nat} (hd : dep' + 1 ≤ dep) (hnl : nl ≤ 21) (h1 : dep ≤ R.frames) (h2 : 40 * dep ≤ R.locals) : (zrm dep' bc' bs').frames + 1 ≤ R.frames ∧ 8 + (nl + 11) + (zrm dep' bc' bs').locals ≤ R.locals := by
  show dep' + 1 ≤ R.frames ∧ 8 + (nl + 11) + 40 * dep' ≤ R.locals
  omega
/-- what a method's name says of it: its class, how many arguments -/
def zNm (d' : zMd) (k : Nat) : Prop := plainFor d'.1 = true ∧ d'.1.cls ≠ "java/lang/invoke/MethodHandle" ∧ d'.1.cls ≠ "java/lang/invoke/VarHandle" ∧ (parseMethodDescriptor d'.1.desc).map (fun d => d.parameters.length) = some k ∧ d'.nl ≤ 21 ∧ Cond.code d'.1 d'.by d'.nl d'.rt ∈ zBIG
theorem zcsum {ad : Nat → Nat} : ∀ {st : List zV}, zsz st ≤ 8 → (((st.map (zcv ad)).map fun v => v.category).sum ≤ 8) := by
  intro st hs
  have key : ∀ l : List zV, ((l.map (zcv ad)).map fun v => v.category).sum = zsz l := by
    intro l
    induction l with
    | nil => rfl
    | cons v l ih =>
      simp only [List.map_cons, List.sum_cons]
      rw [ih]
      show _ = (if v.1 = 1 then 2 else 1) + zsz l
      have hc := zcat ad v
      by_cases h : v.1 = 1
      · rw [if_pos h, show (v.1 == 1) = true by simpa using h] at *
        rw [show (zcv ad v).category = 2 by simpa using hc]
      · rw [if_neg h, zcat1 h]
  rw [key st]
  exact hs
/-- a call of a method of an object, private ones too -/
theorem z_inv {ci : Nat} (hZ : zW d' X dep' bc' bs' n 0 (zar 0 (xR o :: as)) [] h Q') (hnt : ∀ n' h', ¬ Q' n' h' [(9, 0)]) (hdg : decode d.by pc = .ok (.invokevirtual index, 3)) (hm : zNm d' as.length) (l1 : Cond.methodLink d.1.cls index d'.1 ∈ zBIG) (l2 : Cond.instanceMethod d'.1 ∈ zBIG) (l3 : Cond.selects d'.1.cls d'.1 d'.1 ∈ zBIG) (l4 : Cond.initialized d'.1.cls ∈ zBIG) (ho : zOb n o (0, ci, N)) (hci : (zcls[ci]?).map (fun r => r.1) = some d'.1.cls)
    (hd : dep' + 1 ≤ dep) (hbc : bc' ≤ bc) (hbs : bs' ≤ bs) (hsz : zsz (xR o :: as) ≤ d'.nl) (hst : zsz st ≤ 8) {ra : List zV} (hra : ra = as.reverse) (k : ∀ n' h' rs, Q' n' h' rs → n ≤ n' → zW d X dep (bc - bc') (bs - bs') n' (pc + 3) lv (rs ++ st) h' Q) : zW d X dep bc bs n pc lv (ra ++ xR o :: st) h Q := by
  subst hra
  intro p l e R s m args below meth c H locs cells slots A E ls Z hF h1 h2 hD hE
  have hall := hD.2.2.2.2.2.2
  have hstk : ∀ v ∈ st, zok n v := fun w hw => hall w (List.mem_append_right _ (List.mem_cons_of_mem _ hw))
  have hok : ∀ v ∈ xR o :: as, zok n v := fun w hw => by
    rcases List.mem_cons.mp hw with rfl | hw
    · exact hall _ (List.mem_append_right _ List.mem_cons_self)
    · exact hall _ (List.mem_append_left _ (List.mem_reverse.mpr hw))
  obtain ⟨hm1, hm2, hm3, hm4, hm5, hm6⟩ := hm
  obtain ⟨r, hr0, hr1⟩ := Option.map_eq_some_iff.mp hci
  have hw := hF.2.2.2.2.1
  have ho1 : zcv E.2.1 (xR o) = .ref (E.2.1 o.toNat) := zcvR (by have := ho.1; omega)
  have e0 : (as.reverse ++ xR o :: st).map (zcv E.2.1) = (as.map (zcv E.2.1)).reverse ++ .ref (E.2.1 o.toNat) :: st.map (zcv E.2.1) := by rw [List.map_append, List.map_cons, List.map_reverse, ho1]
  have hM := zMet hZ hnt hm1 hsz hok l E H.size
  have hPc := zPc_of (as := xR o :: as) hD
  rw [e0]
  refine zrun (a := (Value.ref (E.2.1 o.toNat) :: as.map (zcv E.2.1)).toArray) hF h1 h2 hbc hbs hstk hD hE ?_ k
  refine va_runV (own := d.1.cls) (C := d'.1.cls) (nL := d.nl) (cc := d.by) (Ts := zBIG) (ws := zwd d') (b := E.2.1 o.toNat) (As := as.map (zcv E.2.1)) ⟨hF.1, hF.2.1, hF.2.2.1, hF.2.2.2.1, hw⟩ hM (cwV as.length hw (zgoodV hm6 l1 l2 l3 l4) rfl rfl rfl ⟨rfl, hm2, hm3, hm4⟩ (zroom hd hm5 hF.2.2.2.2.2.1 hF.2.2.2.2.2.2.1)) ⟨zPc_blind, ?_, fun U hU hW => ?_⟩ rfl (by simp) hD.2.2.2.2.1.1 rfl (lv_room (ls := ls) (zcsum hst)) hdg ⟨by show cells + bc' ≤ _; omega, by show slots + bs' ≤ _; omega⟩
  · have hrc := va_recv hD.2.2.2.1.2.1 hD.2.2.2.1.1 hr0 (hD.2.2.2.1.at ho)
    rw [hr1] at hrc
    exact hrc
  · have h9 := hPc U hU hW
    rw [List.map_cons, ho1] at h9
    exact h9
/-- a static call -/
theorem z_invS (hZ : zW d' X dep' bc' bs' n 0 (zar 0 as) [] h Q') (hnt : ∀ n' h', ¬ Q' n' h' [(9, 0)]) (hdg : decode d.by pc = .ok (.invokestatic index, 3)) (hm : zNm d' as.length) (l1 : Cond.methodLink d.1.cls index d'.1 ∈ zBIG) (l2 : Cond.static d'.1 ∈ zBIG) (l4 : Cond.initialized d'.1.cls ∈ zBIG)
    (hd : dep' + 1 ≤ dep) (hbc : bc' ≤ bc) (hbs : bs' ≤ bs) (hsz : zsz as ≤ d'.nl) (hst : zsz st ≤ 8) {ra : List zV} (hra : ra = as.reverse) (k : ∀ n' h' rs, Q' n' h' rs → n ≤ n' → zW d X dep (bc - bc') (bs - bs') n' (pc + 3) lv (rs ++ st) h' Q) : zW d X dep bc bs n pc lv (ra ++ st) h Q := by
  subst hra
  intro p l e R s m args below meth c H locs cells slots A E ls Z hF h1 h2 hD hE
  have hall := hD.2.2.2.2.2.2
  have hstk : ∀ v ∈ st, zok n v := fun w hw => hall w (List.mem_append_right _ hw)
  have hok : ∀ v ∈ as, zok n v := fun w hw => hall _ (List.mem_append_left _ (List.mem_reverse.mpr hw))
  obtain ⟨hm1, hm2, hm3, hm4, hm5, hm6⟩ := hm
  have hw := hF.2.2.2.2.1
  have e0 : (as.reverse ++ st).map (zcv E.2.1) = (as.map (zcv E.2.1)).reverse ++ st.map (zcv E.2.1) := by rw [List.map_append, List.map_reverse]
  have hM := zMet hZ hnt hm1 hsz hok l E H.size
  have hPc := zPc_of (as := as) hD
  rw [e0]
  refine zrun (a := (as.map (zcv E.2.1)).toArray) hF h1 h2 hbc hbs hstk hD hE ?_ k
  exact va_runS (own := d.1.cls) (nL := d.nl) (cc := d.by) (Ts := zBIG) (ws := zwd d') (As := as.map (zcv E.2.1)) ⟨hF.1, hF.2.1, hF.2.2.1, hF.2.2.2.1, hw⟩ hM (va_cwS as.length hw (zgoodS hm6 l1 l2 l4) rfl rfl rfl ⟨hm2, hm3, hm4⟩ (zroom hd hm5 hF.2.2.2.2.2.1 hF.2.2.2.2.2.2.1)) ⟨zPc_blind, hPc⟩ rfl (by simp) hD.2.2.2.2.1.1 rfl (lv_room (ls := ls) (zcsum hst)) hdg ⟨by show cells + bc' ≤ _; omega, by show slots + bs' ≤ _; omega⟩
/-- a constructor's call -/
theorem z_invI (hZ : zW d' X dep' bc' bs' n 0 (zar 0 (xR o :: as)) [] h Q') (hnt : ∀ n' h', ¬ Q' n' h' [(9, 0)]) (hdg : decode d.by pc = .ok (.invokespecial index, 3)) (hm : zNm d' as.length) (hrt : d'.rt = none) (hini : d'.1.name = "<init>") (l1 : Cond.methodLink d.1.cls index d'.1 ∈ zBIG) (l2 : Cond.instanceMethod d'.1 ∈ zBIG) (l4 : Cond.initialized d'.1.cls ∈ zBIG) (ho : 0 ≤ o)
    (hd : dep' + 1 ≤ dep) (hbc : bc' ≤ bc) (hbs : bs' ≤ bs) (hsz : zsz (xR o :: as) ≤ d'.nl) (hst : zsz st ≤ 8) {ra : List zV} (hra : ra = as.reverse) (k : ∀ n' h' rs, Q' n' h' rs → n ≤ n' → zW d X dep (bc - bc') (bs - bs') n' (pc + 3) lv (rs ++ st) h' Q) : zW d X dep bc bs n pc lv (ra ++ xR o :: st) h Q := by
  subst hra
  obtain ⟨y', cc', nl', rt'⟩ := d'
  subst hrt
  intro p l e R s m args below meth c H locs cells slots A E ls Z hF h1 h2 hD hE
  have hall := hD.2.2.2.2.2.2
  have hstk : ∀ v ∈ st, zok n v := fun w hw => hall w (List.mem_append_right _ (List.mem_cons_of_mem _ hw))
  have hok : ∀ v ∈ xR o :: as, zok n v := fun w hw => by
    rcases List.mem_cons.mp hw with rfl | hw
    · exact hall _ (List.mem_append_right _ List.mem_cons_self)
    · exact hall _ (List.mem_append_left _ (List.mem_reverse.mpr hw))
  obtain ⟨hm1, hm2, hm3, hm4, hm5, hm6⟩ := hm
  have hw := hF.2.2.2.2.1
  have ho1 : zcv E.2.1 (xR o) = .ref (E.2.1 o.toNat) := zcvR (by omega)
  have e0 : (as.reverse ++ xR o :: st).map (zcv E.2.1) = (as.map (zcv E.2.1)).reverse ++ .ref (E.2.1 o.toNat) :: st.map (zcv E.2.1) := by rw [List.map_append, List.map_cons, List.map_reverse, ho1]
  have hM := zMet hZ hnt hm1 hsz hok l E H.size
  have hPc := zPc_of (as := xR o :: as) hD
  rw [e0]
  refine zrun (a := (Value.ref (E.2.1 o.toNat) :: as.map (zcv E.2.1)).toArray) hF h1 h2 hbc hbs hstk hD hE ?_ k
  refine va_runI (own := d.1.cls) (nL := d.nl) (cc := d.by) (Ts := zBIG) (ws := zwd (y', cc', nl', none)) (b := E.2.1 o.toNat) (As := as.map (zcv E.2.1)) ⟨hF.1, hF.2.1, hF.2.2.1, hF.2.2.2.1, hw⟩ hM (cwI as.length hw (fun w h9 => zwd_good (d' := (y', cc', nl', none)) hm6 h9) rfl rfl rfl (hw _ l4) (hw _ l1) (hw _ l2) hini ⟨hm2, hm3, hm4⟩ (zroom hd hm5 hF.2.2.2.2.2.1 hF.2.2.2.2.2.2.1)) ⟨zPc_blind, fun U hU hW => ?_⟩ rfl (by simp) hD.2.2.2.2.1.1 rfl (lv_room (ls := ls) (zcsum hst)) hdg ⟨by show cells + bc' ≤ _; omega, by show slots + bs' ≤ _; omega⟩
  have h9 := hPc U hU hW
  rw [List.map_cons, ho1] at h9
  exact h9
end ZINV
