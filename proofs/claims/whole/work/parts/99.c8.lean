section YGRID
variable {d : zMd} {X : zX} {dep bc bs n pc index : Nat} {lv : List (Nat × zV)} {st : List zV} {h : zH} {Q : Nat → zH → List zV → Prop}
/-- nine objects more: a row of eight, and the eight -/
def zgz (h : zH) (n : Nat) : zH := fun o => if o = n then (fun k => if 0 ≤ k ∧ k < 8 then n + 1 + k else -1) else if (n : Int) < o ∧ o < n + 9 then (fun _ => 0) else h o
def zE9 (E : zE) (n q : Nat) (cA cy : ClassId) : zE := (E.1, fun o => if n ≤ o ∧ o < n + 9 then q + (o - n) else E.2.1 o, fun o => if o = n then cA else if n < o ∧ o < n + 9 then cy else E.2.2.1 o, E.2.2.2 ++ [(cA, .array .int)])
theorem zE9_ex {E : zE} {n q : Nat} {cA cy : ClassId} (hn : n + 9 < 1000000) : zEx E (zE9 E n q cA cy) n (n + 9) :=
  ⟨by omega, rfl, fun o ho => if_neg (by omega), fun o ho => by
    show (if o = n then cA else if n < o ∧ o < n + 9 then cy else E.2.2.1 o) = _
    rw [if_neg (by omega), if_neg (by omega)]⟩
theorem zE9_ad {E : zE} {n q o : Nat} {cA cy : ClassId} (h0 : n ≤ o) (h1 : o < n + 9) : (zE9 E n q cA cy).2.1 o = q + (o - n) := if_pos ⟨h0, h1⟩
theorem zws_inv {E : zE} {n : Nat} {h : zH} {i : Nat} {x : Nat × va_E} (hx : (zws E n h)[i]? = some x) : i < n ∧ x = (E.2.1 i, zcell (zS i) E.2.1 (E.2.2.1 i) (h i)) := by
  have hi : i < n := by
    have := (List.getElem?_eq_some_iff.mp hx).1
    rw [zws_len] at this
    exact this
  rw [zws_at hi] at hx
  exact ⟨hi, (Option.some.inj hx).symm⟩
theorem y_grid0 (bc' bs' : Nat) (hdg : decode d.by pc = .ok (.multianewarray index 2, 4)) (l1 : Cond.classLink d.1.cls index "[[I" ∈ zBIG) (l2 : Cond.arrayClass .int ∈ zBIG) (hs : zS n = (6, 0, 8)) (hs1 : ∀ j, j < 8 → zS (n + 1 + j) = (1, 0, 12)) (h4 : 4 < n) (hn : n + 9 < 238) (hbc : bc' + 9 ≤ bc) (hbs : bs' + 104 ≤ bs)
    (kk : yW d X dep bc' bs' (n + 9) (pc + 4) lv (xR n :: st) (zgz h n) Q) : yW d X dep bc bs n pc lv (xI 12 :: xI 8 :: st) h Q := by
  intro p l e R s m args below meth c H locs cells slots A E ls Z hF h1 h2 hD hE
  have hR := hD.2.2.2.1
  have hst : ∀ v ∈ st, zok n v := fun w hw => hD.tl w (List.mem_cons_of_mem _ hw)
  refine g_W hF.1 hF.2.1 hF.2.2.2.1 (hF.2.2.2.2.1 _ l1) hF.2.2.2.2.2.2.2.2.2.2.2.2.2.1 (hF.2.2.2.2.1 _ l2) hdg (by omega) (by omega) (fun H1 cA cy hArr hRA hcy z1 o1 f0 fj => ?_)
  -- the class of int[] is known
  obtain ⟨t4, ht4⟩ := hR.2.2.2.1 4 h4 (by decide)
  have hcy4 : E.2.2.1 4 = cy := by
    have q := (hR.2.1.2 t4 _ ht4).2
    have q2 : s.vm.findClass "[I" = some (E.2.2.1 4) := q
    rw [hcy] at q2
    exact (Option.some.inj q2).symm
  have hx : zEx E (zE9 E n H.size cA cy) n (n + 9) := zE9_ex (by omega)
  have hgo : ∀ o : Nat, o < n → zgz h n o = h o := fun o ho => by
    unfold zgz
    rw [if_neg (by omega), if_neg (by omega)]
  have hgn : zgz h n n = fun k : Int => if 0 ≤ k ∧ k < 8 then (n : Int) + 1 + k else -1 := if_pos rfl
  have hgj : ∀ o : Nat, n < o → o < n + 9 → zgz h n o = fun _ => 0 := fun o a b => by
    unfold zgz
    rw [if_neg (by omega), if_pos (by omega)]
  have old : ∀ o : Nat, o < n → zcell (zS o) (zE9 E n H.size cA cy).2.1 ((zE9 E n H.size cA cy).2.2.1 o) (zgz h n o) = zcell (zS o) E.2.1 (E.2.2.1 o) (h o) := fun o ho => by
    rw [hx.2.2.2 o ho, hgo o ho, zcell_ex hx (fun k => hR.2.2.2.2.1 o k ho)]
  have outer : zcell (zS n) (zE9 E n H.size cA cy).2.1 ((zE9 E n H.size cA cy).2.2.1 n) (zgz h n n) = .inl (cA, 8, .inr (.inr (.inr (.inr (fun j => if j < 8 then some (H.size + 1 + j) else none))))) := by
    rw [hs, hgn, show (zE9 E n H.size cA cy).2.2.1 n = cA from if_pos rfl]
    have e : (fun j : Nat => zrf (zE9 E n H.size cA cy).2.1 (if (0 : Int) ≤ (j : Int) ∧ (j : Int) < 8 then (n : Int) + 1 + j else -1)) = fun j : Nat => if j < 8 then some (H.size + 1 + j) else none := funext fun j => by
      by_cases q : j < 8
      · rw [if_pos (show (0 : Int) ≤ (j : Int) ∧ (j : Int) < 8 by omega), if_pos q]
        unfold zrf
        rw [if_neg (by omega), show ((n : Int) + 1 + j).toNat = n + 1 + j by omega, zE9_ad (by omega) (by omega)]
        congr 1
        omega
      · rw [if_neg (show ¬ ((0 : Int) ≤ (j : Int) ∧ (j : Int) < 8) by omega), if_neg q]
        rfl
    show (Sum.inl (cA, 8, .inr (.inr (.inr (.inr fun j : Nat => zrf (zE9 E n H.size cA cy).2.1 (if (0 : Int) ≤ (j : Int) ∧ (j : Int) < 8 then (n : Int) + 1 + j else -1))))) : va_E) = _
    rw [e]
  have inner : ∀ o : Nat, n < o → o < n + 9 → zcell (zS o) (zE9 E n H.size cA cy).2.1 ((zE9 E n H.size cA cy).2.2.1 o) (zgz h n o) = .inl (cy, 12, .inl fun _ => 0) := fun o a b => by
    have e := hs1 (o - n - 1) (by omega)
    rw [show n + 1 + (o - n - 1) = o by omega] at e
    rw [e, hgj o a b]
    have ec : (zE9 E n H.size cA cy).2.2.1 o = cy := by
      show (if o = n then cA else if n < o ∧ o < n + 9 then cy else E.2.2.1 o) = cy
      rw [if_neg (by omega), if_pos ⟨a, b⟩]
    rw [ec]
    rfl
  have hP : va_P E.1 zcls (zws (zE9 E n H.size cA cy) (n + 9) (zgz h n)) H1 := fun i x hi => by
    obtain ⟨hl, rfl⟩ := zws_inv hi
    by_cases q : i < n
    · have ei : (zE9 E n H.size cA cy).2.1 i = E.2.1 i := hx.2.2.1 i (Or.inl q)
      rw [ei, old i q]
      have a := hR.1 i _ (zws_at q)
      have lt := a.lt
      exact va_at.kept a (o1 _ lt)
    · by_cases q2 : i = n
      · rw [q2, outer, zE9_ad (Nat.le_refl n) (by omega), Nat.sub_self, Nat.add_zero]
        exact f0
      · rw [inner i (by omega) hl, zE9_ad (by omega) hl]
        have f := fj (i - n - 1) (by omega)
        rw [show H.size + 1 + (i - n - 1) = H.size + (i - n) by omega] at f
        exact f
  have hDD : va_D A (zws (zE9 E n H.size cA cy) (n + 9) (zgz h n)) := by
    have lt : ∀ i, i < n → E.2.1 i < H.size := fun i hi => (hR.1 i _ (zws_at hi)).lt
    refine ⟨fun i j x y hi hj exy => ?_, fun i x hi => ?_⟩
    · obtain ⟨li, rfl⟩ := zws_inv hi
      obtain ⟨lj, rfl⟩ := zws_inv hj
      have exy : (zE9 E n H.size cA cy).2.1 i = (zE9 E n H.size cA cy).2.1 j := exy
      by_cases qi : i < n
      · have ei : (zE9 E n H.size cA cy).2.1 i = E.2.1 i := hx.2.2.1 i (Or.inl qi)
        have := lt i qi
        by_cases qj : j < n
        · have ej : (zE9 E n H.size cA cy).2.1 j = E.2.1 j := hx.2.2.1 j (Or.inl qj)
          exact hR.2.2.1.1 i j _ _ (zws_at qi) (zws_at qj) (by rw [← ei, ← ej]; exact exy)
        · rw [ei, zE9_ad (by omega) lj] at exy
          omega
      · by_cases qj : j < n
        · have ej : (zE9 E n H.size cA cy).2.1 j = E.2.1 j := hx.2.2.1 j (Or.inl qj)
          have := lt j qj
          rw [ej, zE9_ad (by omega) li] at exy
          omega
        · rw [zE9_ad (by omega) li, zE9_ad (by omega) lj] at exy
          omega
    · obtain ⟨li, rfl⟩ := zws_inv hi
      show A ((zE9 E n H.size cA cy).2.1 i)
      by_cases qi : i < n
      · have ei : (zE9 E n H.size cA cy).2.1 i = E.2.1 i := hx.2.2.1 i (Or.inl qi)
        rw [ei]
        exact hR.2.2.1.2 i _ (zws_at qi)
      · rw [zE9_ad (by omega) li]
        exact hD.2.1 _ (by have := hD.1.1; omega)
  have hK : va_K E.1 zcls (zE9 E n H.size cA cy).2.2.2 s := ⟨hR.2.1.1, fun k x hk => by
    have hk : (E.2.2.2 ++ [(cA, FieldType.array .int)])[k]? = some x := hk
    by_cases hl : k < E.2.2.2.length
    · rw [List.getElem?_append_left hl] at hk
      exact hR.2.1.2 k x hk
    · rw [List.getElem?_append_right (by omega)] at hk
      have hz : k - E.2.2.2.length < 1 := (List.getElem?_eq_some_iff.mp hk).1
      rw [show k - E.2.2.2.length = 0 by omega] at hk
      cases hk
      exact ⟨hArr, hRA⟩⟩
  have hS : va_S A s.heap H1 locs := ⟨by have := hD.1.1; omega, fun x h1 h2 => (o1 x (Nat.lt_of_lt_of_le h1 hD.1.1)).trans (hD.1.2.1 x h1 h2), hD.1.2.2⟩
  have hD' : zDyn X d (n + 9) lv (xR n :: st) (zgz h n) s H1 locs A (zE9 E n H.size cA cy) ls := by
    refine ⟨hS, hD.2.1, hD.2.2.1.ex hx, ⟨hP, hK, hDD, fun o ho h0 => ?_, fun o k ho => ?_, by omega, fun h9 => by omega⟩, ?_, fun q hq => zok_mono (hD.2.2.2.2.2.1 q hq) hx.1, fun v hv => ?_⟩
    · by_cases q : o < n
      · obtain ⟨t, ht⟩ := hR.2.2.2.1 o q h0
        rw [hx.2.2.2 o q]
        refine ⟨t, ?_⟩
        show (E.2.2.2 ++ [(cA, FieldType.array .int)])[t]? = _
        rw [List.getElem?_append_left (List.getElem?_eq_some_iff.mp ht).1]
        exact ht
      · by_cases q2 : o = n
        · refine ⟨E.2.2.2.length, ?_⟩
          rw [q2, hs, show (zE9 E n H.size cA cy).2.2.1 n = cA from if_pos rfl]
          exact List.getElem?_concat_length
        · have e := hs1 (o - n - 1) (by omega)
          rw [show n + 1 + (o - n - 1) = o by omega] at e
          have ec : (zE9 E n H.size cA cy).2.2.1 o = cy := by
            show (if o = n then cA else if n < o ∧ o < n + 9 then cy else E.2.2.1 o) = cy
            rw [if_neg q2, if_pos (by omega)]
          rw [ec, e, ← hcy4]
          refine ⟨t4, ?_⟩
          show (E.2.2.2 ++ [(cA, FieldType.array .int)])[t4]? = _
          rw [List.getElem?_append_left (List.getElem?_eq_some_iff.mp ht4).1]
          exact ht4
    · by_cases q : o < n
      · rw [hgo o q]
        exact zok_mono (hR.2.2.2.2.1 o k q) hx.1
      · by_cases q2 : o = n
        · rw [q2, hgn, hs]
          show (if (0 : Int) ≤ (k : Int) ∧ (k : Int) < 8 then (n : Int) + 1 + k else -1) = -1 ∨ (0 ≤ (if (0 : Int) ≤ (k : Int) ∧ (k : Int) < 8 then (n : Int) + 1 + k else -1) ∧ (if (0 : Int) ≤ (k : Int) ∧ (k : Int) < 8 then (n : Int) + 1 + k else -1) < ((n + 9 : Nat) : Int)) ∨ _
          by_cases r : (0 : Int) ≤ (k : Int) ∧ (k : Int) < 8
          · rw [if_pos r]
            exact Or.inr (Or.inl (by omega))
          · rw [if_neg r]
            exact Or.inl rfl
        · have e := hs1 (o - n - 1) (by omega)
          rw [show n + 1 + (o - n - 1) = o by omega] at e
          rw [e, hgj o (by omega) ho]
          exact zi32_0
    · have e : (lv.map fun q => (q.1, zcv (zE9 E n H.size cA cy).2.1 q.2)) = lv.map fun q => (q.1, zcv E.2.1 q.2) := List.map_congr_left fun q hq => by rw [zcv_ex (hD.2.2.2.2.2.1 q hq) hx]
      rw [e]
      exact hD.2.2.2.2.1
    · rcases List.mem_cons.mp hv with rfl | hv
      · show (n : Int) = -1 ∨ (0 ≤ (n : Int) ∧ (n : Int) < ((n + 9 : Nat) : Int)) ∨ 1000000 ≤ (n : Int)
        exact Or.inr (Or.inl ⟨by omega, by omega⟩)
      · exact zok_mono (hst v hv) hx.1
  have K := kk p l e R s m args below meth c H1 locs (cells + 9) (slots + 104) A (zE9 E n H.size cA cy) ls Z hF (by omega) (by omega) hD'
    (fun H' locs' cells' slots' E'' ls' n'' h'' pc' rs vs i k a1 a2 a3 a4 a5 a6 a7 => hE H' locs' cells' slots' E'' ls' n'' h'' pc' rs vs i k (by omega) (by omega) a3 (hx.tr a4) a5 a6 a7)
  rw [List.map_cons, zcvR (by omega), Int.toNat_natCast, zE9_ad (Nat.le_refl n) (by omega), Nat.sub_self, Nat.add_zero, show st.map (zcv (zE9 E n H.size cA cy).2.1) = st.map (zcv E.2.1) from List.map_congr_left fun v hv => zcv_ex (hst v hv) hx] at K
  exact K
theorem zIn.grid {o q : Int} {h0 h : zH} {l : List (Int × List Int)} {n : Nat} (i : zIn o q h0 h l) (hq : q = n) (ho : o < q) (hl : ∀ e ∈ l, e.1 < q) (hz : ∀ k : Int, zJ0 q k = if 0 ≤ k ∧ k < 8 then q + 1 + k else -1) (hz1 : ∀ j : Int, 0 ≤ j → j < 8 → zJ0 (q + 1 + j) = fun _ => 0) : zIn o (q + 9) h0 (zgz h n) l := by
  have no : ∀ x : Int, q ≤ x → zEl l x = none := fun x hx => by
    unfold zEl
    rw [List.find?_eq_none.mpr (fun e he => by
      rw [beq_iff_eq]
      have := hl e he
      omega)]
    rfl
  refine ⟨fun x hx => ?_, fun x a b => ?_⟩
  · unfold zgz
    rw [if_neg (by omega), if_neg (by omega)]
    exact i.1 x hx
  · by_cases q1 : x < q
    · have e : zgz h n x = h x := by
        unfold zgz
        rw [if_neg (by omega), if_neg (by omega)]
      rw [e]
      exact i.2 x a q1
    · rw [no x (by omega)]
      by_cases q2 : x = q
      · have e : zgz h n x = fun k => if 0 ≤ k ∧ k < 8 then (n : Int) + 1 + k else -1 := if_pos (by omega)
        rw [e, q2]
        exact funext fun k => by rw [hz k, hq]
      · have e : zgz h n x = fun _ => 0 := by
          unfold zgz
          rw [if_neg (by omega), if_pos (by omega)]
        rw [e]
        have z := hz1 (x - q - 1) (by omega) (by omega)
        rw [show q + 1 + (x - q - 1) = x by omega] at z
        exact z.symm
theorem y_grid {o q q1 : Int} {h0 : zH} {l : List (Int × List Int)} (n' bc' bs' : Nat) (hdg : decode d.by pc = .ok (.multianewarray index 2, 4)) (l1 : Cond.classLink d.1.cls index "[[I" ∈ zBIG) (l2 : Cond.arrayClass .int ∈ zBIG) (hs : zS n = (6, 0, 8)) (hs1 : ∀ j, j < 8 → zS (n + 1 + j) = (1, 0, 12)) (h4 : 4 < n) (hn : n + 9 < 238) (hbc : bc' + 9 ≤ bc) (hbs : bs' + 104 ≤ bs) (hn' : n + 9 = n') (hq : q = n) (hq1 : q + 9 = q1) (hz : ∀ k : Int, zJ0 q k = if 0 ≤ k ∧ k < 8 then q + 1 + k else -1) (hz1 : ∀ j : Int, 0 ≤ j → j < 8 → zJ0 (q + 1 + j) = fun _ => 0) (i : zIn o q h0 h l) (ho : o < q) (hl : ∀ e ∈ l, e.1 < q)
    (kk : ∀ h1, zIn o q1 h0 h1 l → yW d X dep bc' bs' n' (pc + 4) lv (xR q :: st) h1 Q) : yW d X dep bc bs n pc lv (xI 12 :: xI 8 :: st) h Q := by
  refine y_grid0 bc' bs' hdg l1 l2 hs hs1 h4 hn hbc hbs ?_
  subst hn'
  rw [← hq]
  exact kk _ (hq1 ▸ i.grid hq ho hl hz hz1)
theorem zJ0_45 (k : Int) : zJ0 45 k = if 0 ≤ k ∧ k < 8 then 45 + 1 + k else -1 := by
  by_cases c : 0 ≤ k ∧ k < 8
  · rw [if_pos c]
    rcases (show k = 0 ∨ k = 1 ∨ k = 2 ∨ k = 3 ∨ k = 4 ∨ k = 5 ∨ k = 6 ∨ k = 7 by omega) with rfl | rfl | rfl | rfl | rfl | rfl | rfl | rfl <;> decide +kernel
  · rw [if_neg c, zJ0_n [0, 1, 2, 3, 4, 5, 6, 7] (by decide +kernel) k (by simp only [List.mem_cons, List.not_mem_nil, or_false]; omega)]
    unfold zd
    rw [show zS (45 : Int).toNat = (6, 0, 8) by decide +kernel]
    rfl
theorem zJ0_54 (k : Int) : zJ0 54 k = if 0 ≤ k ∧ k < 8 then 54 + 1 + k else -1 := by
  by_cases c : 0 ≤ k ∧ k < 8
  · rw [if_pos c]
    rcases (show k = 0 ∨ k = 1 ∨ k = 2 ∨ k = 3 ∨ k = 4 ∨ k = 5 ∨ k = 6 ∨ k = 7 by omega) with rfl | rfl | rfl | rfl | rfl | rfl | rfl | rfl <;> decide +kernel
  · rw [if_neg c, zJ0_n [0, 1, 2, 3, 4, 5, 6, 7] (by decide +kernel) k (by simp only [List.mem_cons, List.not_mem_nil, or_false]; omega)]
    unfold zd
    rw [show zS (54 : Int).toNat = (6, 0, 8) by decide +kernel]
    rfl
theorem zJ0_r {o : Int} (h1 : (zIW o || zIL o || zIT.any (fun e => e.1 == o && !(([] : List Int).contains e.2.1))) = false) {N : Nat} (hs : zS o.toNat = (1, 0, N)) : zJ0 o = fun _ => 0 := by
  rw [zJ0_z h1]
  funext k
  unfold zd
  rw [hs]
  rfl
theorem zJ0_45j (j : Int) (h0 : 0 ≤ j) (h1 : j < 8) : zJ0 (45 + 1 + j) = fun _ => 0 := by
  rcases (show j = 0 ∨ j = 1 ∨ j = 2 ∨ j = 3 ∨ j = 4 ∨ j = 5 ∨ j = 6 ∨ j = 7 by omega) with rfl | rfl | rfl | rfl | rfl | rfl | rfl | rfl <;> exact zJ0_r (N := 12) (by decide +kernel) (by decide +kernel)
theorem zJ0_54j (j : Int) (h0 : 0 ≤ j) (h1 : j < 8) : zJ0 (54 + 1 + j) = fun _ => 0 := by
  rcases (show j = 0 ∨ j = 1 ∨ j = 2 ∨ j = 3 ∨ j = 4 ∨ j = 5 ∨ j = 6 ∨ j = 7 by omega) with rfl | rfl | rfl | rfl | rfl | rfl | rfl | rfl <;> exact zJ0_r (N := 12) (by decide +kernel) (by decide +kernel)
theorem zS_45 : ∀ j, j < 8 → zS (45 + 1 + j) = (1, 0, 12) := by decide +kernel
theorem zS_54 : ∀ j, j < 8 → zS (54 + 1 + j) = (1, 0, 12) := by decide +kernel
end YGRID
