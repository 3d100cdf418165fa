/-! the law from its entry to its end -/
theorem u_lawAll {nm : String} {X : zX} (hL : X.1 ≤ 3072) (h : zH) : uW xA (mLw nm) X 100 751 25734 0 0 (zar 0 [xR 2000000]) [] h (fun _ _ rs => rs = [xI 1]) := by
  refine u_new (pc := 0) 750 25717 pk10 dL_law_0 zb_105 zb_106 zb_82 (by decide +kernel) (by decide +kernel) (by decide) (by decide) (by decide) ?_
  refine u_dup (pc := 3) dL_law_3 (by decide) ?_
  refine u_invI (pc := 4) (d := mLw nm) (index := 19) (o := 0) (as := []) (ra := []) (st := [xR 0]) (dep' := 99) (k_0 (znew_q rfl) (by decide)) (fun n' h' q => absurd q.2.1 (by decide)) dL_law_4 nX10_init rfl rfl zb_107 zb_108 zb_82 (by decide) (by decide) (by decide) (by decide) (by decide) (by decide) rfl ?_
  rintro n1 h1 r1 ⟨rfl, rfl, -, m1⟩ -
  refine u_astore_n (pc := 7) dL_law_7 (show 1 < 8 by decide) (by decide) rfl ?_
  refine u_new (pc := 8) 581 13443 pk11 dL_law_8 zb_1118 zb_1119 zb_92 (by decide +kernel) (by decide +kernel) (by decide) (by decide) (by decide) ?_
  refine u_dup (pc := 11) dL_law_11 (by decide) ?_
  refine u_invI (pc := 12) (d := mLw nm) (index := 22) (o := 169) (as := []) (ra := []) (st := [xR 169]) (dep' := 99) (k_169 (znew_q rfl) (by decide)) (fun n' h' q => absurd q.2.1 (by decide)) dL_law_12 nX11_init rfl rfl zb_1120 zb_1121 zb_92 (by decide) (by decide) (by decide) (by decide) (by decide) (by decide) rfl ?_
  rintro n2 h2 r2 ⟨rfl, rfl, l2, m2⟩ -
  have hh : ∀ x : Int, 0 ≤ x → x < 238 → znew h2 238 x = zJ0 x := fun x a b => by
    have e : znew h2 238 x = h2 x := if_neg (by omega)
    rw [e]
    by_cases c : x < 169
    · rw [l2 x c]
      have e1 : znew h1 169 x = h1 x := if_neg (by omega)
      rw [e1]
      exact m1 x a c
    · exact m2 x (by omega) b
  refine u_astore_n (pc := 15) dL_law_15 (show 2 < 8 by decide) (by decide) rfl ?_
  refine u_iconst (pc := 16) dL_law_16 ⟨by decide, by decide⟩ ?_
  refine u_newa (pc := 17) (t := 2) (N := 1) 512 3072 dL_law_17 rfl (Or.inr (Or.inl rfl)) zb_1416 (by decide +kernel) (by decide) (by decide) (fun _ => zRef_start hh) (by decide) (by decide) ?_
  refine uW.of ?_
  refine x_astore_n (pc := 19) dL_law_19 (show 3 < 8 by decide) rfl ?_
  refine x_iconst (pc := 20) dL_law_20 ⟨by decide, by decide⟩ ?_
  refine x_istore (pc := 21) dL_law_21 (show 4 < 8 by decide) rfl ?_
  refine xW.sub [0, 4, 3, 2, 1] rfl ?_
  exact z_loop hL (by decide) (C_27 hL (by decide)) (C_28 hL (by decide)) 512 0 _ (v_start hh) (by decide) (by decide) (by omega)
