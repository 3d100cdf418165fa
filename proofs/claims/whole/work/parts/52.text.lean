/-! the words' texts -/
section ZTA
variable {d : zMd} {X : zX} {dep bc bs pc n : Nat} {lv : List (Nat × zV)} {st : List zV} {h : zH} {Q : Nat → zH → List zV → Prop}
theorem z_anull (hdg : decode d.by pc = .ok (.aconst_null, 1)) (kk : zW d X dep bc bs n (pc + 1) lv (xR (-1) :: st) h Q) : zW d X dep bc bs n pc lv st h Q := by
  intro p l e R s m args below meth c H locs cells slots A E ls Z hF a1 a2 hD hE
  exact lv_null hF.1 hF.2.1 hdg (kk p l e R s m args below meth c H locs cells slots A E ls Z hF a1 a2 (hD.stk (xR (-1) :: st) (zok_c1 (show _ ∨ _ from Or.inl rfl) hD.2.2.2.2.2.2)) hE)
theorem z_aastW {N : Nat} {o i x : Int} (hdg : decode d.by pc = .ok (.aastore, 1)) (ho : zOb n o (5, 0, N)) (h0 : 0 ≤ i) (hi : i < N) (hx : zWd x) (kk : zW d X dep bc bs n (pc + 1) lv st (zst h o i x) Q) : zW d X dep bc bs n pc lv (xR x :: xI i :: xR o :: st) h Q := by
  intro p l e R s m args below meth c H locs cells slots A E ls Z hF h1 h2 hD hE
  have hR := hD.2.2.2.1
  have hi9 : i < 2147483648 := (hD.tl _ List.mem_cons_self : zi32 i).2
  have hst : ∀ v ∈ st, zok n v := fun w hw => hD.tl w (List.mem_cons_of_mem _ (List.mem_cons_of_mem _ hw))
  obtain ⟨t0, ht0⟩ := hR.2.2.2.1 o.toNat ho.2.1 (by rw [ho.2.2]; exact Nat.succ_ne_zero _)
  rw [ho.2.2] at ht0
  have ec : ∀ r : Option Nat, zrf E.2.1 x = r → zcell (5, 0, N) E.2.1 (E.2.2.1 o.toNat) (zst h o i x o) = .inl (E.2.2.1 o.toNat, N, .inr (.inr (.inr (.inr (va_up (fun j : Nat => zrf E.2.1 (h o j)) (Int32.ofInt i).toNatClampNeg r))))) := by
    rintro r rfl
    refine congrArg (fun f => (Sum.inl (E.2.2.1 o.toNat, N, .inr (.inr (.inr (.inr f)))) : va_E)) (funext fun j => ?_)
    rw [zclamp h0 hi9]
    unfold va_up zst
    by_cases hj : j = i.toNat
    · rw [if_pos hj, if_pos ⟨rfl, by omega⟩]
    · rw [if_neg hj, if_neg (fun q => hj (by omega))]
  have go : ∀ (r : Option Nat), zrf E.2.1 x = r → ∀ (H1 : Heap) (locs1 : List Loc), va_P E.1 zcls ((zws E n h).set o.toNat (E.2.1 o.toNat, .inl (E.2.2.1 o.toNat, N, .inr (.inr (.inr (.inr (va_up (fun j : Nat => zrf E.2.1 (h o j)) (Int32.ofInt i).toNatClampNeg r))))))) H1 → va_D A ((zws E n h).set o.toNat (E.2.1 o.toNat, .inl (E.2.2.1 o.toNat, N, .inr (.inr (.inr (.inr (va_up (fun j : Nat => zrf E.2.1 (h o j)) (Int32.ofInt i).toNatClampNeg r))))))) → va_S A s.heap H1 locs1 → W p l e R s m args below meth c H1 locs1 cells slots Z (F0 m (pc + 1) ls (st.map (zcv E.2.1))) := by
    intro r hr H1 locs1 hP hDD hS
    exact kk p l e R s m args below meth c H1 locs1 cells slots A E ls Z hF h1 h2 (hD.put st hst ho h0 (show zok n (xR x) from hD.hd) (fun _ => zRF_none (by rw [ho.2.2]; rfl)) (by rw [ec r hr]; exact hP) (by rw [ec r hr]; exact hDD) hS) hE
  rw [List.map_cons, List.map_cons, List.map_cons, zcvR (x := o) (by have := ho.1; omega)]
  by_cases hx0 : x < 0
  · have hr : zrf E.2.1 x = none := if_pos hx0
    rw [zcvN hx0]
    exact va_astqN (C := RX9) hF.1 hF.2.1 hR.2.1 hR.1 hR.2.2.1 hD.1 o.toNat t0 (hR.at ho) ht0 (zin h0 hi9 hi) hdg (go none hr)
  · have hx1 : 1000000 ≤ x ∧ x < 1000022 := by
      rcases hx with q | q
      · omega
      · exact q
    have hr : zrf E.2.1 x = some (E.2.1 x.toNat) := if_neg hx0
    rw [zcvR hx0]
    refine va_astqM (E := RX9) hF.1 hF.2.1 hR.2.1 hR.1 hR.2.2.1 hD.1 o.toNat t0 (hR.at ho) ht0 ?_ (zin h0 hi9 hi) hdg (go _ hr)
    obtain ⟨cell, g1, g2, g3⟩ := va_recvE hD.2.2.1.1 (show x.toNat - 1000000 < 22 by omega) hD.1
    obtain ⟨kC, hkC, -⟩ := Vm.findClass_spec g3
    rw [zWad_eq E hx1.1]
    refine ⟨cell, g1, g2, ⟨kC, hkC⟩, fun comp hc => ?_⟩
    have e1 := Option.some.inj (g3.symm.trans hc)
    rw [← e1]
    unfold Vm.assignable
    rw [show (256 : Nat) = 255 + 1 from rfl, Vm.assignableAux, beq_self_eq_true, Bool.true_or]
end ZTA
section ZTX
variable {d d' : zMd} {X : zX} {dep dep' bc bs pc index n : Nat} {lv : List (Nat × zV)} {st as : List zV} {h h' : zH} {Q : Nat → zH → List zV → Prop} {i k : Int}
/-- the words' texts: how long they are, their letters -/
def zTl (i : Int) : Int := (zTlen.getD i.toNat 0 : Nat)
def zTb (i k : Int) : Int := ((zTbyt.getD i.toNat []).getD k.toNat 0).toInt
theorem zokC {x : Int} (hx : 1000000 ≤ x) : zok n (xR x) := show _ ∨ _ ∨ _ from Or.inr (Or.inr hx)
theorem z_getWt (h0 : 0 ≤ i) (h1 : i < 22) (hdg : decode d.by pc = .ok (.getfield index, 3)) (hl : Cond.fieldLink d.1.cls index RX9 "text" "Ljava/lang/String;" ∈ zBIG) (kk : zW d X dep bc bs n (pc + 3) lv (xR (1000100 + i) :: st) h Q) : zW d X dep bc bs n pc lv (xR (1000000 + i) :: st) h Q := by
  intro p l e R s m args below meth c H locs cells slots A E ls Z hF a1 a2 hD hE
  have kk1 := kk p l e R s m args below meth c H locs cells slots A E ls Z hF a1 a2 (hD.stk (xR (1000100 + i) :: st) (zok_c1 (zokC (by omega)) hD.tl)) hE
  rw [List.map_cons, zcvR (by omega), show (1000100 + i).toNat = 1000100 + i.toNat by omega] at kk1
  rw [List.map_cons, zcvR (by omega), show (1000000 + i).toNat = 1000000 + i.toNat by omega]
  exact vk_getf hF.1 hF.2.1 (hD.2.2.1.2.2.2.1 i.toNat (by omega)) hD.1 hF.2.2.2.1 (hF.2.2.2.2.1 _ hl) (fun _ h9 => h9) hdg kk1
theorem z_getALL (hdg : decode d.by pc = .ok (.getstatic index, 3)) (hl : Cond.fieldLink d.1.cls index RX9 "ALL" "[LLotOffice$Word;" ∈ zBIG) (kk : zW d X dep bc bs n (pc + 3) lv (xR 1000200 :: st) h Q) : zW d X dep bc bs n pc lv st h Q := by
  intro p l e R s m args below meth c H locs cells slots A E ls Z hF a1 a2 hD hE
  have kk1 := kk p l e R s m args below meth c H locs cells slots A E ls Z hF a1 a2 (hD.stk (xR 1000200 :: st) (zok_c1 (zokC (by omega)) hD.2.2.2.2.2.2)) hE
  rw [List.map_cons, zcvR (by omega)] at kk1
  exact va_gets hF.1 hF.2.1 hD.2.2.1.2.2.2.2.1 hD.1 hF.2.2.2.1 (hF.2.2.2.2.1 _ hl) (fun _ h9 => h9) hdg kk1
theorem z_alenALL (hdg : decode d.by pc = .ok (.arraylength, 1)) (kk : zW d X dep bc bs n (pc + 1) lv (xI 22 :: st) h Q) : zW d X dep bc bs n pc lv (xR 1000200 :: st) h Q := by
  intro p l e R s m args below meth c H locs cells slots A E ls Z hF a1 a2 hD hE
  have kk1 := kk p l e R s m args below meth c H locs cells slots A E ls Z hF a1 a2 (hD.stk (xI 22 :: st) (zok_c1 (zi32_d rfl) hD.tl)) hE
  rw [List.map_cons, zcvR (by omega)]
  exact va_tlen hF.1 hF.2.1 hD.2.2.1.2.2.2.2.2.1 hD.1 (v := Int32.ofInt 22) (by decide) hdg kk1
theorem z_aaldALL (h0 : 0 ≤ i) (h1 : i < 22) (hdg : decode d.by pc = .ok (.aaload, 1)) (kk : zW d X dep bc bs n (pc + 1) lv (xR (1000000 + i) :: st) h Q) : zW d X dep bc bs n pc lv (xI i :: xR 1000200 :: st) h Q := by
  intro p l e R s m args below meth c H locs cells slots A E ls Z hF a1 a2 hD hE
  have kk1 := kk p l e R s m args below meth c H locs cells slots A E ls Z hF a1 a2 (hD.stk (xR (1000000 + i) :: st) (zok_c1 (zokC (by omega)) (fun w hw => hD.tl w (List.mem_cons_of_mem _ hw)))) hE
  rw [List.map_cons, zcvR (by omega), show (1000000 + i).toNat = 1000000 + i.toNat by omega] at kk1
  rw [List.map_cons, List.map_cons, zcvR (x := 1000200) (by omega)]
  exact vb_tq hF.1 hF.2.1 hD.2.2.1.2.2.2.2.2.1 hD.1 (show vp_in (Int32.ofInt i) 22 from zin h0 (by omega) (by omega)) (show Value.ref (zWad E (Int32.ofInt i).toNatClampNeg) = Value.ref (E.2.1 (1000000 + i.toNat)) by rw [zclamp h0 (by omega)]; rfl) hdg kk1
theorem z_getSv (h0 : 0 ≤ i) (h1 : i < 22) (hdg : decode d.by pc = .ok (.getfield index, 3)) (hl : Cond.fieldLink d.1.cls index "java/lang/String" "value" "[B" ∈ zBIG) (kk : zW d X dep bc bs n (pc + 3) lv (xR (1000300 + i) :: st) h Q) : zW d X dep bc bs n pc lv (xR (1000100 + i) :: st) h Q := by
  intro p l e R s m args below meth c H locs cells slots A E ls Z hF a1 a2 hD hE
  have kk1 := kk p l e R s m args below meth c H locs cells slots A E ls Z hF a1 a2 (hD.stk (xR (1000300 + i) :: st) (zok_c1 (zokC (by omega)) hD.tl)) hE
  rw [List.map_cons, zcvR (by omega), show (1000300 + i).toNat = 1000300 + i.toNat by omega] at kk1
  rw [List.map_cons, zcvR (by omega), show (1000100 + i).toNat = 1000100 + i.toNat by omega]
  exact vk_getf hF.1 hF.2.1 (hD.2.2.1.2.2.1.1 i.toNat (by omega)).2.2.1 hD.1 hF.2.2.2.1 (hF.2.2.2.2.1 _ hl) (fun _ h9 => h9) hdg kk1
theorem z_getSc (h0 : 0 ≤ i) (h1 : i < 22) (hdg : decode d.by pc = .ok (.getfield index, 3)) (hl : Cond.fieldLink d.1.cls index "java/lang/String" "coder" "B" ∈ zBIG) (kk : zW d X dep bc bs n (pc + 3) lv (xI 0 :: st) h Q) : zW d X dep bc bs n pc lv (xR (1000100 + i) :: st) h Q := by
  intro p l e R s m args below meth c H locs cells slots A E ls Z hF a1 a2 hD hE
  have kk1 := kk p l e R s m args below meth c H locs cells slots A E ls Z hF a1 a2 (hD.stk (xI 0 :: st) (zok_c1 zi32_0 hD.tl)) hE
  rw [List.map_cons, zcvR (by omega), show (1000100 + i).toNat = 1000100 + i.toNat by omega]
  exact vk_getf hF.1 hF.2.1 (v := .int 0) (hD.2.2.1.2.2.1.1 i.toNat (by omega)).2.1 hD.1 hF.2.2.2.1 (hF.2.2.2.2.1 _ hl) (fun _ h9 => h9) hdg kk1
theorem zTlen_in : ∀ q : Nat, q < 22 → zTlen.getD q 0 ≤ 8 ∧ 2 ≤ zTlen.getD q 0 := by decide +kernel
theorem z_alenS (h0 : 0 ≤ i) (h1 : i < 22) (hdg : decode d.by pc = .ok (.arraylength, 1)) (kk : zW d X dep bc bs n (pc + 1) lv (xI (zTl i) :: st) h Q) : zW d X dep bc bs n pc lv (xR (1000300 + i) :: st) h Q := by
  intro p l e R s m args below meth c H locs cells slots A E ls Z hF a1 a2 hD hE
  have tl := zTlen_in i.toNat (by omega)
  have kk1 := kk p l e R s m args below meth c H locs cells slots A E ls Z hF a1 a2 (hD.stk (xI (zTl i) :: st) (zok_c1 (show zi32 (zTl i) from ⟨by unfold zTl; omega, by unfold zTl; omega⟩) hD.tl)) hE
  rw [List.map_cons, zcvR (by omega), show (1000300 + i).toNat = 1000300 + i.toNat by omega]
  exact va_tlen hF.1 hF.2.1 (hD.2.2.1.2.2.1.1 i.toNat (by omega)).2.2.2 hD.1 (v := Int32.ofInt (zTl i)) (Int32.ofInt_eq_ofNat (n := zTlen.getD i.toNat 0)).symm hdg kk1
theorem z_baldS (h0 : 0 ≤ i) (h1 : i < 22) (k0 : 0 ≤ k) (k1 : k < zTl i) (hdg : decode d.by pc = .ok (.baload, 1)) (kk : zW d X dep bc bs n (pc + 1) lv (xI (zTb i k) :: st) h Q) : zW d X dep bc bs n pc lv (xI k :: xR (1000300 + i) :: st) h Q := by
  intro p l e R s m args below meth c H locs cells slots A E ls Z hF a1 a2 hD hE
  have tl := zTlen_in i.toNat (by omega)
  have tk : k < 2147483648 := by unfold zTl at k1; omega
  have kk1 := kk p l e R s m args below meth c H locs cells slots A E ls Z hF a1 a2 (hD.stk (xI (zTb i k) :: st) (zok_c1 (zi32_i _) (fun w hw => hD.tl w (List.mem_cons_of_mem _ hw)))) hE
  rw [List.map_cons, show zcv E.2.1 (xI (zTb i k)) = .int ((zTbyt.getD i.toNat []).getD k.toNat 0) from congrArg Value.int (Int32.ofInt_toInt _)] at kk1
  rw [List.map_cons, List.map_cons, zcvR (x := 1000300 + i) (by omega), show (1000300 + i).toNat = 1000300 + i.toNat by omega]
  exact va_tb hF.1 hF.2.1 (hD.2.2.1.2.2.1.1 i.toNat (by omega)).2.2.2 hD.1 (zin k0 tk (by unfold zTl at k1; omega)) (by rw [zclamp k0 tk]) hdg kk1
theorem z_getCS (hdg : decode d.by pc = .ok (.getstatic index, 3)) (hl : Cond.fieldLink d.1.cls index "java/lang/String" "COMPACT_STRINGS" "Z" ∈ zBIG) (kk : zW d X dep bc bs n (pc + 3) lv (xI 1 :: st) h Q) : zW d X dep bc bs n pc lv st h Q := by
  intro p l e R s m args below meth c H locs cells slots A E ls Z hF a1 a2 hD hE
  have kk1 := kk p l e R s m args below meth c H locs cells slots A E ls Z hF a1 a2 (hD.stk (xI 1 :: st) (zok_c1 (zi32_d rfl) hD.2.2.2.2.2.2)) hE
  exact va_gets hF.1 hF.2.1 (v := .int 1) hD.2.2.1.2.2.2.2.2.2.1 hD.1 hF.2.2.2.1 (hF.2.2.2.2.1 _ hl) (fun _ h9 => h9) hdg kk1
theorem z_getSIO (hdg : decode d.by pc = .ok (.getstatic index, 3)) (hl : Cond.fieldLink d.1.cls index "jdk/internal/util/Preconditions" "SIOOBE_FORMATTER" "Ljava/util/function/BiFunction;" ∈ zBIG) (kk : ∀ x : Int, zW d X dep bc bs n (pc + 3) lv (xR x :: st) h Q) : zW d X dep bc bs n pc lv st h Q := by
  intro p l e R s m args below meth c H locs cells slots A E ls Z hF a1 a2 hD hE
  obtain ⟨x, hx, hz⟩ := hD.2.2.1.2.2.2.2.2.2.2
  have kk1 := kk x p l e R s m args below meth c H locs cells slots A E ls Z hF a1 a2 (hD.stk (xR x :: st) (zok_c1 (show x = -1 ∨ (0 ≤ x ∧ x < n) ∨ 1000000 ≤ x by omega) hD.2.2.2.2.2.2)) hE
  exact va_gets hF.1 hF.2.1 hz hD.1 hF.2.2.2.1 (hF.2.2.2.2.1 _ hl) (fun _ h9 => h9) hdg kk1
/-- a call of a text's method -/
theorem z_invT {rs : List zV} (hZ : zW d' X dep' 0 0 239 0 (zar 0 (xR (1000100 + i) :: as)) [] h (zF h' rs)) (hdg : decode d.by pc = .ok (.invokevirtual index, 3)) (hm : zNm d' as.length) (l1 : Cond.methodLink d.1.cls index d'.1 ∈ zBIG) (l2 : Cond.instanceMethod d'.1 ∈ zBIG) (l3 : Cond.selects "java/lang/String" d'.1 d'.1 ∈ zBIG) (l4 : Cond.initialized "java/lang/String" ∈ zBIG) (h0 : 0 ≤ i) (h1 : i < 22)
    (hd : dep' + 1 ≤ dep) (hnt : rs ≠ [(9, 0)]) (hsz : zsz (xR (1000100 + i) :: as) ≤ d'.nl) (hst : zsz st ≤ 8) {ra : List zV} (hra : ra = as.reverse) (k : zW d X dep bc bs 239 (pc + 3) lv (rs ++ st) h' Q) (hcs : d'.1.cls = "java/lang/String" := by rfl) : zW d X dep bc bs 239 pc lv (ra ++ xR (1000100 + i) :: st) h Q := by
  subst hra
  intro p l e R s m args below meth c H locs cells slots A E ls Z hF a1 a2 hD hE
  have hall := hD.2.2.2.2.2.2
  have hstk : ∀ v ∈ st, zok 239 v := fun w hw => hall w (List.mem_append_right _ (List.mem_cons_of_mem _ hw))
  have hok : ∀ v ∈ xR (1000100 + i) :: as, zok 239 v := fun w hw => by
    rcases List.mem_cons.mp hw with rfl | hw
    · exact hall _ (List.mem_append_right _ List.mem_cons_self)
    · exact hall _ (List.mem_append_left _ (List.mem_reverse.mpr hw))
  obtain ⟨hm1, hm2, hm3, hm4, hm5, hm6⟩ := hm
  have hw := hF.2.2.2.2.1
  have ho1 : zcv E.2.1 (xR (1000100 + i)) = .ref (E.2.1 (1000100 + i.toNat)) := by
    rw [zcvR (by omega), show (1000100 + i).toNat = 1000100 + i.toNat by omega]
  have e0 : (as.reverse ++ xR (1000100 + i) :: st).map (zcv E.2.1) = (as.map (zcv E.2.1)).reverse ++ .ref (E.2.1 (1000100 + i.toNat)) :: st.map (zcv E.2.1) := by rw [List.map_append, List.map_cons, List.map_reverse, ho1]
  have hM := zMet hZ (zF_nt hnt) hm1 hsz hok l E H.size
  have hPc := zPc_of (as := xR (1000100 + i) :: as) hD
  rw [e0]
  refine zrun (Q' := zF h' rs) (bc' := 0) (bs' := 0) (a := (Value.ref (E.2.1 (1000100 + i.toNat)) :: as.map (zcv E.2.1)).toArray) hF a1 a2 (Nat.zero_le _) (Nat.zero_le _) hstk hD hE ?_ (by rintro n1 g1 r1 ⟨rfl, rfl, rfl⟩ -; exact k)
  refine va_runV (own := d.1.cls) (C := "java/lang/String") (nL := d.nl) (cc := d.by) (Ts := zBIG) (ws := zwd d') (b := E.2.1 (1000100 + i.toNat)) (As := as.map (zcv E.2.1)) ⟨hF.1, hF.2.1, hF.2.2.1, hF.2.2.2.1, hw⟩ hM (cwV as.length hw (zgoodV hm6 l1 l2 l3 l4) rfl rfl rfl ⟨hcs, hm2, hm3, hm4⟩ (zroom hd hm5 hF.2.2.2.2.2.1 hF.2.2.2.2.2.2.1)) ⟨zPc_blind, ?_, fun U hU hW => ?_⟩ rfl (by simp) hD.2.2.2.2.1.1 rfl (lv_room (ls := ls) (zcsum hst)) hdg ⟨by show cells + 0 ≤ _; omega, by show slots + 0 ≤ _; omega⟩
  · exact vk_recv (adK := fun j => E.2.1 (1000100 + j)) (i := i.toNat) hD.2.2.1.2.2.1 (show i.toNat < 22 by omega) hD.1
  · have h9 := hPc U hU hW
    rw [List.map_cons, ho1] at h9
    exact h9
end ZTX
theorem dJ0_length_8abf5_0 : decode cJ0_length_8abf5 0 = .ok (.aload_n 0, 1) := by decide +kernel
theorem dJ0_length_8abf5_1 : decode cJ0_length_8abf5 1 = .ok (.getfield 9, 3) := by decide +kernel
theorem dJ0_length_8abf5_4 : decode cJ0_length_8abf5 4 = .ok (.arraylength, 1) := by decide +kernel
theorem dJ0_length_8abf5_5 : decode cJ0_length_8abf5 5 = .ok (.aload_n 0, 1) := by decide +kernel
theorem dJ0_length_8abf5_6 : decode cJ0_length_8abf5 6 = .ok (.invokevirtual 335, 3) := by decide +kernel
theorem dJ0_length_8abf5_9 : decode cJ0_length_8abf5 9 = .ok (.ishr, 1) := by decide +kernel
theorem dJ0_length_8abf5_10 : decode cJ0_length_8abf5 10 = .ok (.ireturn, 1) := by decide +kernel
abbrev mJ0_length_8abf5 : zMd := (yJ0_length_8abf5, cJ0_length_8abf5, 1, (some .int))
theorem nJ0_length_8abf5 : zNm mJ0_length_8abf5 0 := ⟨by decide +kernel, by decide, by decide, by decide +kernel, by decide, zb_633⟩
theorem dJ0_charAt_5068e_0 : decode cJ0_charAt_5068e 0 = .ok (.aload_n 0, 1) := by decide +kernel
theorem dJ0_charAt_5068e_1 : decode cJ0_charAt_5068e 1 = .ok (.invokevirtual 492, 3) := by decide +kernel
theorem dJ0_charAt_5068e_4 : decode cJ0_charAt_5068e 4 = .ok (.ifCond .eq 12, 3) := by decide +kernel
theorem dJ0_charAt_5068e_7 : decode cJ0_charAt_5068e 7 = .ok (.aload_n 0, 1) := by decide +kernel
theorem dJ0_charAt_5068e_8 : decode cJ0_charAt_5068e 8 = .ok (.getfield 9, 3) := by decide +kernel
theorem dJ0_charAt_5068e_11 : decode cJ0_charAt_5068e 11 = .ok (.iload_n 1, 1) := by decide +kernel
theorem dJ0_charAt_5068e_12 : decode cJ0_charAt_5068e 12 = .ok (.invokestatic 495, 3) := by decide +kernel
theorem dJ0_charAt_5068e_15 : decode cJ0_charAt_5068e 15 = .ok (.ireturn, 1) := by decide +kernel
theorem dJ0_charAt_5068e_16 : decode cJ0_charAt_5068e 16 = .ok (.aload_n 0, 1) := by decide +kernel
theorem dJ0_charAt_5068e_17 : decode cJ0_charAt_5068e 17 = .ok (.getfield 9, 3) := by decide +kernel
theorem dJ0_charAt_5068e_20 : decode cJ0_charAt_5068e 20 = .ok (.iload_n 1, 1) := by decide +kernel
theorem dJ0_charAt_5068e_21 : decode cJ0_charAt_5068e 21 = .ok (.invokestatic 498, 3) := by decide +kernel
theorem dJ0_charAt_5068e_24 : decode cJ0_charAt_5068e 24 = .ok (.ireturn, 1) := by decide +kernel
abbrev mJ0_charAt_5068e : zMd := (yJ0_charAt_5068e, cJ0_charAt_5068e, 2, (some .char))
theorem nJ0_charAt_5068e : zNm mJ0_charAt_5068e 1 := ⟨by decide +kernel, by decide, by decide, by decide +kernel, by decide, zb_643⟩
theorem dJ0_coder_7d493_0 : decode cJ0_coder_7d493 0 = .ok (.getstatic 38, 3) := by decide +kernel
theorem dJ0_coder_7d493_3 : decode cJ0_coder_7d493 3 = .ok (.ifCond .eq 10, 3) := by decide +kernel
theorem dJ0_coder_7d493_6 : decode cJ0_coder_7d493 6 = .ok (.aload_n 0, 1) := by decide +kernel
theorem dJ0_coder_7d493_7 : decode cJ0_coder_7d493 7 = .ok (.getfield 15, 3) := by decide +kernel
theorem dJ0_coder_7d493_10 : decode cJ0_coder_7d493 10 = .ok (.goto 4, 3) := by decide +kernel
theorem dJ0_coder_7d493_13 : decode cJ0_coder_7d493 13 = .ok (.iconst 1, 1) := by decide +kernel
theorem dJ0_coder_7d493_14 : decode cJ0_coder_7d493 14 = .ok (.ireturn, 1) := by decide +kernel
abbrev mJ0_coder_7d493 : zMd := (yJ0_coder_7d493, cJ0_coder_7d493, 1, (some .byte))
theorem nJ0_coder_7d493 : zNm mJ0_coder_7d493 0 := ⟨by decide +kernel, by decide, by decide, by decide +kernel, by decide, zb_637⟩
theorem dJ0_isLatin1_aae02_0 : decode cJ0_isLatin1_aae02 0 = .ok (.getstatic 38, 3) := by decide +kernel
theorem dJ0_isLatin1_aae02_3 : decode cJ0_isLatin1_aae02 3 = .ok (.ifCond .eq 14, 3) := by decide +kernel
theorem dJ0_isLatin1_aae02_6 : decode cJ0_isLatin1_aae02 6 = .ok (.aload_n 0, 1) := by decide +kernel
theorem dJ0_isLatin1_aae02_7 : decode cJ0_isLatin1_aae02 7 = .ok (.getfield 15, 3) := by decide +kernel
theorem dJ0_isLatin1_aae02_10 : decode cJ0_isLatin1_aae02 10 = .ok (.ifCond .ne 7, 3) := by decide +kernel
theorem dJ0_isLatin1_aae02_13 : decode cJ0_isLatin1_aae02 13 = .ok (.iconst 1, 1) := by decide +kernel
theorem dJ0_isLatin1_aae02_14 : decode cJ0_isLatin1_aae02 14 = .ok (.goto 4, 3) := by decide +kernel
theorem dJ0_isLatin1_aae02_17 : decode cJ0_isLatin1_aae02 17 = .ok (.iconst 0, 1) := by decide +kernel
theorem dJ0_isLatin1_aae02_18 : decode cJ0_isLatin1_aae02 18 = .ok (.ireturn, 1) := by decide +kernel
abbrev mJ0_isLatin1_aae02 : zMd := (yJ0_isLatin1_aae02, cJ0_isLatin1_aae02, 1, (some .boolean))
theorem nJ0_isLatin1_aae02 : zNm mJ0_isLatin1_aae02 0 := ⟨by decide +kernel, by decide, by decide, by decide +kernel, by decide, zb_647⟩
theorem dJ0_checkIndex_df160_0 : decode cJ0_checkIndex_df160 0 = .ok (.iload_n 0, 1) := by decide +kernel
theorem dJ0_checkIndex_df160_1 : decode cJ0_checkIndex_df160 1 = .ok (.iload_n 1, 1) := by decide +kernel
theorem dJ0_checkIndex_df160_2 : decode cJ0_checkIndex_df160 2 = .ok (.getstatic 1053, 3) := by decide +kernel
theorem dJ0_checkIndex_df160_5 : decode cJ0_checkIndex_df160 5 = .ok (.invokestatic 1059, 3) := by decide +kernel
theorem dJ0_checkIndex_df160_8 : decode cJ0_checkIndex_df160 8 = .ok (.pop, 1) := by decide +kernel
theorem dJ0_checkIndex_df160_9 : decode cJ0_checkIndex_df160 9 = .ok (.return_, 1) := by decide +kernel
abbrev mJ0_checkIndex_df160 : zMd := (yJ0_checkIndex_df160, cJ0_checkIndex_df160, 2, none)
theorem nJ0_checkIndex_df160 : zNm mJ0_checkIndex_df160 2 := ⟨by decide +kernel, by decide, by decide, by decide +kernel, by decide, zb_653⟩
theorem dJ1_charAt_3b067_0 : decode cJ1_charAt_3b067 0 = .ok (.iload_n 1, 1) := by decide +kernel
theorem dJ1_charAt_3b067_1 : decode cJ1_charAt_3b067 1 = .ok (.aload_n 0, 1) := by decide +kernel
theorem dJ1_charAt_3b067_2 : decode cJ1_charAt_3b067 2 = .ok (.arraylength, 1) := by decide +kernel
theorem dJ1_charAt_3b067_3 : decode cJ1_charAt_3b067 3 = .ok (.invokestatic 9, 3) := by decide +kernel
theorem dJ1_charAt_3b067_6 : decode cJ1_charAt_3b067 6 = .ok (.aload_n 0, 1) := by decide +kernel
theorem dJ1_charAt_3b067_7 : decode cJ1_charAt_3b067 7 = .ok (.iload_n 1, 1) := by decide +kernel
theorem dJ1_charAt_3b067_8 : decode cJ1_charAt_3b067 8 = .ok (.baload, 1) := by decide +kernel
theorem dJ1_charAt_3b067_9 : decode cJ1_charAt_3b067 9 = .ok (.sipush 255, 3) := by decide +kernel
theorem dJ1_charAt_3b067_12 : decode cJ1_charAt_3b067 12 = .ok (.iand, 1) := by decide +kernel
theorem dJ1_charAt_3b067_13 : decode cJ1_charAt_3b067 13 = .ok (.i2c, 1) := by decide +kernel
theorem dJ1_charAt_3b067_14 : decode cJ1_charAt_3b067 14 = .ok (.ireturn, 1) := by decide +kernel
abbrev mJ1_charAt_3b067 : zMd := (yJ1_charAt_3b067, cJ1_charAt_3b067, 2, (some .char))
theorem nJ1_charAt_3b067 : zNm mJ1_charAt_3b067 2 := ⟨by decide +kernel, by decide, by decide, by decide +kernel, by decide, zb_650⟩
theorem dJ3_checkIndex_8e157_0 : decode cJ3_checkIndex_8e157 0 = .ok (.iload_n 0, 1) := by decide +kernel
theorem dJ3_checkIndex_8e157_1 : decode cJ3_checkIndex_8e157 1 = .ok (.ifCond .lt 8, 3) := by decide +kernel
theorem dJ3_checkIndex_8e157_4 : decode cJ3_checkIndex_8e157 4 = .ok (.iload_n 0, 1) := by decide +kernel
theorem dJ3_checkIndex_8e157_5 : decode cJ3_checkIndex_8e157 5 = .ok (.iload_n 1, 1) := by decide +kernel
theorem dJ3_checkIndex_8e157_6 : decode cJ3_checkIndex_8e157 6 = .ok (.if_icmp .lt 10, 3) := by decide +kernel
theorem dJ3_checkIndex_8e157_9 : decode cJ3_checkIndex_8e157 9 = .ok (.aload_n 2, 1) := by decide +kernel
theorem dJ3_checkIndex_8e157_10 : decode cJ3_checkIndex_8e157 10 = .ok (.iload_n 0, 1) := by decide +kernel
theorem dJ3_checkIndex_8e157_11 : decode cJ3_checkIndex_8e157 11 = .ok (.iload_n 1, 1) := by decide +kernel
theorem dJ3_checkIndex_8e157_12 : decode cJ3_checkIndex_8e157 12 = .ok (.invokestatic 95, 3) := by decide +kernel
theorem dJ3_checkIndex_8e157_15 : decode cJ3_checkIndex_8e157 15 = .ok (.athrow, 1) := by decide +kernel
theorem dJ3_checkIndex_8e157_16 : decode cJ3_checkIndex_8e157 16 = .ok (.iload_n 0, 1) := by decide +kernel
theorem dJ3_checkIndex_8e157_17 : decode cJ3_checkIndex_8e157 17 = .ok (.ireturn, 1) := by decide +kernel
abbrev mJ3_checkIndex_8e157 : zMd := (yJ3_checkIndex_8e157, cJ3_checkIndex_8e157, 3, (some .int))
theorem nJ3_checkIndex_8e157 : zNm mJ3_checkIndex_8e157 3 := ⟨by decide +kernel, by decide, by decide, by decide +kernel, by decide, zb_658⟩
theorem f_J0_coder_7d493 {X : zX} {dep : Nat} (i : Int) {h : zH} (h0 : 0 ≤ i) (h1 : i < 22) : zW mJ0_coder_7d493 X dep 0 0 239 0 (zar 0 [xR (1000100 + i)]) [] h (zF h [xI 0]) := by
  refine z_getCS dJ0_coder_7d493_0 zb_638 ?_
  refine z_if_eq (tgt := 13) dJ0_coder_7d493_3 (by decide) (fun c => absurd c (by decide)) (fun _ => ?_)
  refine z_aload_n 0 dJ0_coder_7d493_6 rfl ?_
  refine z_getSc h0 h1 dJ0_coder_7d493_7 zb_1787 ?_
  refine z_goto (tgt := 14) dJ0_coder_7d493_10 (by decide) ?_
  exact z_nret (ty := .byte) dJ0_coder_7d493_14 rfl (by decide) ⟨rfl, rfl, rfl⟩
theorem f_J0_isLatin1_aae02 {X : zX} {dep : Nat} (i : Int) {h : zH} (h0 : 0 ≤ i) (h1 : i < 22) : zW mJ0_isLatin1_aae02 X dep 0 0 239 0 (zar 0 [xR (1000100 + i)]) [] h (zF h [xI 1]) := by
  refine z_getCS dJ0_isLatin1_aae02_0 zb_638 ?_
  refine z_if_eq (tgt := 17) dJ0_isLatin1_aae02_3 (by decide) (fun c => absurd c (by decide)) (fun _ => ?_)
  refine z_aload_n 0 dJ0_isLatin1_aae02_6 rfl ?_
  refine z_getSc h0 h1 dJ0_isLatin1_aae02_7 zb_1787 ?_
  refine z_if_ne (tgt := 17) dJ0_isLatin1_aae02_10 (by decide) (fun c => absurd rfl c) (fun _ => ?_)
  refine z_iconst dJ0_isLatin1_aae02_13 (zi32_d rfl) ?_
  refine z_goto (tgt := 18) dJ0_isLatin1_aae02_14 (by decide) ?_
  exact z_zret dJ0_isLatin1_aae02_18 rfl (Or.inr rfl) ⟨rfl, rfl, rfl⟩
theorem zshr_len : ∀ q : Nat, q < 22 → zshr ((zTlen.getD q 0 : Nat) : Int) 0 = ((zTlen.getD q 0 : Nat) : Int) := by decide +kernel
theorem f_J0_length_8abf5 {X : zX} {dep : Nat} (i : Int) {h : zH} (h0 : 0 ≤ i) (h1 : i < 22) (hdep : 1 ≤ dep) : zW mJ0_length_8abf5 X dep 0 0 239 0 (zar 0 [xR (1000100 + i)]) [] h (zF h [xI (zTl i)]) := by
  refine z_aload_n 0 dJ0_length_8abf5_0 rfl ?_
  refine z_getSv h0 h1 dJ0_length_8abf5_1 zb_1786 ?_
  refine z_alenS h0 h1 dJ0_length_8abf5_4 ?_
  refine z_aload_n 0 dJ0_length_8abf5_5 rfl ?_
  refine z_invT (i := i) (as := []) (st := [xI (zTl i)]) (ra := []) (dep' := dep - 1) (rs := [xI 0]) (h' := h) (f_J0_coder_7d493 i h0 h1) dJ0_length_8abf5_6 nJ0_coder_7d493 zb_634 zb_635 zb_636 zb_96 h0 h1 (by omega) zne_I (Nat.le_of_ble_eq_true rfl) (Nat.le_of_ble_eq_true rfl) rfl ?_
  refine z_ishr dJ0_length_8abf5_9 ?_
  refine z_iret dJ0_length_8abf5_10 rfl ⟨rfl, rfl, ?_⟩
  have := zshr_len i.toNat (by omega)
  exact congrArg (fun x => [xI x]) this
theorem f_J3_checkIndex_8e157 {X : zX} {dep : Nat} (a b x : Int) {h : zH} (h0 : 0 ≤ a) (h1 : a < b) : zW mJ3_checkIndex_8e157 X dep 0 0 239 0 (zar 0 [xI a, xI b, xR x]) [] h (zF h [xI a]) := by
  refine z_iload_n 0 dJ3_checkIndex_8e157_0 rfl ?_
  refine z_if_lt (tgt := 9) dJ3_checkIndex_8e157_1 (by decide) (fun c => absurd c (by omega)) (fun _ => ?_)
  refine z_iload_n 0 dJ3_checkIndex_8e157_4 rfl ?_
  refine z_iload_n 1 dJ3_checkIndex_8e157_5 rfl ?_
  refine z_icmp_lt (tgt := 16) dJ3_checkIndex_8e157_6 (by decide) (fun _ => ?_) (fun c => absurd h1 c)
  refine z_iload_n 0 dJ3_checkIndex_8e157_16 rfl ?_
  exact z_iret dJ3_checkIndex_8e157_17 rfl ⟨rfl, rfl, rfl⟩
theorem f_J0_checkIndex_df160 {X : zX} {dep : Nat} (a b : Int) {h : zH} (h0 : 0 ≤ a) (h1 : a < b) (hdep : 1 ≤ dep) : zW mJ0_checkIndex_df160 X dep 0 0 239 0 (zar 0 [xI a, xI b]) [] h (zF h []) := by
  refine z_iload_n 0 dJ0_checkIndex_df160_0 rfl ?_
  refine z_iload_n 1 dJ0_checkIndex_df160_1 rfl ?_
  refine z_getSIO dJ0_checkIndex_df160_2 zb_654 (fun x => ?_)
  refine z_invSF (as := [xI a, xI b, xR x]) (st := []) (ra := [xR x, xI b, xI a]) (dep' := dep - 1) (rs := [xI a]) (h' := h) (f_J3_checkIndex_8e157 a b x h0 h1) dJ0_checkIndex_df160_5 nJ3_checkIndex_8e157 zb_656 zb_657 zb_98 (by omega) zne_I (Nat.le_of_ble_eq_true rfl) (Nat.le_of_ble_eq_true rfl) rfl ?_
  refine z_pop dJ0_checkIndex_df160_8 zt0 ?_
  exact z_ret dJ0_checkIndex_df160_9 rfl ⟨rfl, rfl, rfl⟩
theorem zTb_in0 : ∀ q : Nat, q < 22 → ∀ k : Nat, k < zTlen.getD q 0 → 97 ≤ ((zTbyt.getD q []).getD k 0).toInt ∧ ((zTbyt.getD q []).getD k 0).toInt ≤ 122 := by decide +kernel
theorem zTb_in {i k : Int} (h0 : 0 ≤ i) (h1 : i < 22) (k0 : 0 ≤ k) (k1 : k < zTl i) : 97 ≤ zTb i k ∧ zTb i k ≤ 122 := zTb_in0 i.toNat (by omega) k.toNat (by unfold zTl at k1; omega)
theorem zch_all : ∀ q : Nat, q < 128 → zi2c (zand (q : Int) 255) = q ∧ narrow .char (.int (Int32.ofInt (q : Int))) = .int (Int32.ofInt (q : Int)) := by decide +kernel
theorem f_J1_charAt_3b067 {X : zX} {dep : Nat} (i k : Int) {h : zH} (h0 : 0 ≤ i) (h1 : i < 22) (k0 : 0 ≤ k) (k1 : k < zTl i) (hdep : 2 ≤ dep) : zW mJ1_charAt_3b067 X dep 0 0 239 0 (zar 0 [xR (1000300 + i), xI k]) [] h (zF h [xI (zTb i k)]) := by
  have tb := zTb_in h0 h1 k0 k1
  have tc := zch_all (zTb i k).toNat (by omega)
  rw [show (((zTb i k).toNat : Nat) : Int) = zTb i k by omega] at tc
  refine z_iload_n 1 dJ1_charAt_3b067_0 rfl ?_
  refine z_aload_n 0 dJ1_charAt_3b067_1 rfl ?_
  refine z_alenS h0 h1 dJ1_charAt_3b067_2 ?_
  refine z_invSF (as := [xI k, xI (zTl i)]) (st := []) (ra := [xI (zTl i), xI k]) (dep' := dep - 1) (rs := []) (h' := h) (f_J0_checkIndex_df160 k (zTl i) k0 k1 (by omega)) dJ1_charAt_3b067_3 nJ0_checkIndex_df160 zb_651 zb_652 zb_96 (by omega) zne_0 (Nat.le_of_ble_eq_true rfl) (Nat.le_of_ble_eq_true rfl) rfl ?_
  refine z_aload_n 0 dJ1_charAt_3b067_6 rfl ?_
  refine z_iload_n 1 dJ1_charAt_3b067_7 rfl ?_
  refine z_baldS h0 h1 k0 k1 dJ1_charAt_3b067_8 ?_
  refine z_sipush dJ1_charAt_3b067_9 (zi32_d rfl) (by decide) ?_
  refine z_iand dJ1_charAt_3b067_12 ?_
  refine z_i2c dJ1_charAt_3b067_13 ?_
  rw [tc.1]
  exact z_nret (ty := .char) dJ1_charAt_3b067_14 rfl tc.2 ⟨rfl, rfl, rfl⟩
theorem f_J0_charAt_5068e {X : zX} {dep : Nat} (i k : Int) {h : zH} (h0 : 0 ≤ i) (h1 : i < 22) (k0 : 0 ≤ k) (k1 : k < zTl i) (hdep : 3 ≤ dep) : zW mJ0_charAt_5068e X dep 0 0 239 0 (zar 0 [xR (1000100 + i), xI k]) [] h (zF h [xI (zTb i k)]) := by
  have tb := zTb_in h0 h1 k0 k1
  have tc := zch_all (zTb i k).toNat (by omega)
  rw [show (((zTb i k).toNat : Nat) : Int) = zTb i k by omega] at tc
  refine z_aload_n 0 dJ0_charAt_5068e_0 rfl ?_
  refine z_invT (i := i) (as := []) (st := []) (ra := []) (dep' := dep - 1) (rs := [xI 1]) (h' := h) (f_J0_isLatin1_aae02 i h0 h1) dJ0_charAt_5068e_1 nJ0_isLatin1_aae02 zb_644 zb_645 zb_646 zb_96 h0 h1 (by omega) zne_I (Nat.le_of_ble_eq_true rfl) (Nat.le_of_ble_eq_true rfl) rfl ?_
  refine z_if_eq (tgt := 16) dJ0_charAt_5068e_4 (by decide) (fun c => absurd c (by decide)) (fun _ => ?_)
  refine z_aload_n 0 dJ0_charAt_5068e_7 rfl ?_
  refine z_getSv h0 h1 dJ0_charAt_5068e_8 zb_1786 ?_
  refine z_iload_n 1 dJ0_charAt_5068e_11 rfl ?_
  refine z_invSF (as := [xR (1000300 + i), xI k]) (st := []) (ra := [xI k, xR (1000300 + i)]) (dep' := dep - 1) (rs := [xI (zTb i k)]) (h' := h) (f_J1_charAt_3b067 i k h0 h1 k0 k1 (by omega)) dJ0_charAt_5068e_12 nJ1_charAt_3b067 zb_648 zb_649 zb_97 (by omega) zne_I (Nat.le_of_ble_eq_true rfl) (Nat.le_of_ble_eq_true rfl) rfl ?_
  exact z_nret (ty := .char) dJ0_charAt_5068e_15 rfl tc.2 ⟨rfl, rfl, rfl⟩
