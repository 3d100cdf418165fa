/-! the law's start -/
theorem y_astore_n {d : zMd} {X : zX} {dep bc bs n pc : Nat} {lv : List (Nat × zV)} {st : List zV} {h : zH} {Q : Nat → zH → List zV → Prop} {i : Fin 4} {x : Int} {lv' : List (Nat × zV)} (hdg : decode d.by pc = .ok (.astore_n i, 1)) (hi : (i : Nat) < d.nl) (h0 : ¬ x < 0) (hl : ((i : Nat), xR x) :: lv.filter (fun q => !(q.1 == (i : Nat)) && !(q.1 + 1 == (i : Nat) && q.2.1 == 1)) = lv') (k : yW d X dep bc bs n (pc + 1) lv' st h Q) : yW d X dep bc bs n pc lv (xR x :: st) h Q := by
  intro p l e R s m args below meth c H locs cells slots A E ls Z hF h1 h2 hD hE
  rw [List.map_cons, zcvR h0]
  exact lv_astore_n hF.1 hF.2.1 hdg rfl hD.2.2.2.2.1 hi (by rw [zfil1, ← zcvR (ad := E.2.1) h0, ← hl]; rfl) (fun ls' hl' => k p l e R s m args below meth c H locs cells slots A E ls' Z hF h1 h2 (hD.lvs lv' st ls' hl' (by rw [← hl]; exact zok_fil hD.hd hD.2.2.2.2.2.1) hD.tl) hE)
/-- the law from its entry to its end -/
theorem z_lawAll {nm : String} {X : zX} (hL : X.1 ≤ 3072) (H27 : zCase nm X 100 1283) (H28 : zCase nm X 100 1386) (h : zH) : yW (mLw nm) X 100 751 25734 0 0 (zar 0 [xR 2000000]) [] h (fun _ _ rs => rs = [xI 1]) := by
  refine y_new (pc := 0) 750 25717 pk10 dL_law_0 zb_105 zb_106 zb_82 (by decide +kernel) (by decide +kernel) (by decide) (by decide) (by decide) ?_
  refine y_dup (pc := 3) dL_law_3 (by decide) ?_
  refine y_invI (pc := 4) (d := mLw nm) (index := 19) (o := 0) (as := []) (ra := []) (st := [xR 0]) (dep' := 99) (k_0 (znew_q rfl) (by decide)) (fun n' h' q => absurd q.2.1 (by decide)) dL_law_4 nX10_init rfl rfl zb_107 zb_108 zb_82 (by decide) (by decide) (by decide) (by decide) (by decide) (by decide) rfl ?_
  rintro n1 h1 r1 ⟨rfl, rfl, -, m1⟩ -
  refine y_astore_n (pc := 7) dL_law_7 (show 1 < 8 by decide) (by decide) rfl ?_
  refine y_new (pc := 8) 581 13443 pk11 dL_law_8 zb_1118 zb_1119 zb_92 (by decide +kernel) (by decide +kernel) (by decide) (by decide) (by decide) ?_
  refine y_dup (pc := 11) dL_law_11 (by decide) ?_
  refine y_invI (pc := 12) (d := mLw nm) (index := 22) (o := 169) (as := []) (ra := []) (st := [xR 169]) (dep' := 99) (k_169 (znew_q rfl) (by decide)) (fun n' h' q => absurd q.2.1 (by decide)) dL_law_12 nX11_init rfl rfl zb_1120 zb_1121 zb_92 (by decide) (by decide) (by decide) (by decide) (by decide) (by decide) rfl ?_
  rintro n2 h2 r2 ⟨rfl, rfl, l2, m2⟩ -
  have hh : ∀ x : Int, 0 ≤ x → x < 238 → znew h2 238 x = zJ0 x := fun x a b => by
    have e : znew h2 238 x = h2 x := if_neg (by omega)
    rw [e]
    by_cases c : x < 169
    · rw [l2 x c]
      have e1 : znew h1 169 x = h1 x := if_neg (by omega)
      rw [e1]
      exact m1 x a c
    · exact m2 x (by omega) b
  refine y_astore_n (pc := 15) dL_law_15 (show 2 < 8 by decide) (by decide) rfl ?_
  refine y_iconst (pc := 16) dL_law_16 ⟨by decide, by decide⟩ ?_
  refine y_newa (pc := 17) (t := 2) (N := 1) 512 3072 dL_law_17 rfl (Or.inr (Or.inl rfl)) zb_1416 (by decide +kernel) (by decide) (by decide) (fun _ => zRef_start hh) (by decide) (by decide) ?_
  refine yW.of ?_
  refine z_astore_n (pc := 19) dL_law_19 (show 3 < 8 by decide) rfl ?_
  refine z_iconst (pc := 20) dL_law_20 ⟨by decide, by decide⟩ ?_
  refine z_istore (pc := 21) dL_law_21 (show 4 < 8 by decide) rfl ?_
  refine zW.sub [0, 4, 3, 2, 1] rfl ?_
  exact z_loop hL (by decide) H27 H28 512 0 _ (v_start hh) (by decide) (by decide) (by omega)
