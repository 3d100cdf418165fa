/-! a Lot's constructor: the orders that stand ahead of any picks -/
/-- the numbers below j -/
def zUp : Nat → List Int
  | 0 => []
  | j + 1 => (j : Int) :: zUp j
theorem zUp_in {j : Nat} {k : Int} : k ∈ zUp j ↔ 0 ≤ k ∧ k < j := by
  induction j with
  | zero => exact ⟨fun h => absurd h List.not_mem_nil, fun h => by omega⟩
  | succ j ih =>
    show k ∈ (j : Int) :: zUp j ↔ _
    rw [List.mem_cons, ih]
    omega
theorem zIn.made2 {o n p : Int} {h0 h : zH} {L : List Int} {l : List (Int × List Int)} (i : zIn o n h0 h ((p, L) :: l)) (hn : ∀ k : Int, k ∉ L → zJ0 p k = zd p k) (hl : zEl l p = none) : zIn o n h0 h l := by
  refine ⟨i.1, fun x a b => ?_⟩
  have q := i.2 x a b
  by_cases e : x = p
  · rw [e, zEl_h] at q
    rw [e, hl]
    funext k
    rw [q k]
    by_cases m : k ∈ L
    · rw [if_pos m]
    · rw [if_neg m, hn k m]
  · rw [zEl_t e] at q
    exact q
theorem zJ0_W {p : Int} (hp : zIW p = true) (k : Int) : zJ0 p k = if 0 ≤ k ∧ k < 52 then k else 0 := by
  unfold zJ0
  rw [if_pos hp]
theorem zJ0_L {p : Int} (hp : zIL p = true) (hw : zIW p = false) (k : Int) : zJ0 p k = if 0 ≤ k ∧ k < 26 then k else 0 := by
  unfold zJ0
  rw [if_neg (by rw [hw]; decide), if_pos hp]
theorem zd_0 {o : Int} {N : Nat} (hs : zS o.toNat = (1, 0, N)) (k : Int) : zd o k = 0 := by
  unfold zd
  rw [hs]
  rfl
section YLOT
variable {d : zMd} {X : zX} {dep bc bs n pc index : Nat} {lv : List (Nat × zV)} {st : List zV} {h : zH} {Q : Nat → zH → List zV → Prop} {l : List (Int × List Int)} {o q q1 : Int} {h0 : zH}
/-- a row of numbers is made, to be filled -/
theorem y_arf {t N : Nat} {atype : ArrayType} {p : Int} {L : List Int} (n' bc' bs' : Nat) (hdg : decode d.by pc = .ok (.newarray atype, 2)) (ht : newarray.typeOf atype = zety t) (ht4 : t = 1 ∨ t = 2 ∨ t = 3 ∨ t = 4) (l1 : Cond.arrayClass (zety t) ∈ zBIG) (hs : zS n = (t, 0, N)) (hN : N < 60000000) (hn : n < 238) (hbc : bc' + 1 ≤ bc) (hbs : bs' + N ≤ bs) (hn' : n + 1 = n') (hq : q = n) (hq1 : q + 1 = q1) (i : zIn o q h0 h ((p, L) :: l)) (ho : o < q) (hp : p ≠ q)
    (kk : ∀ h1, zIn o q1 h0 h1 ((p, L) :: (q, []) :: l) → yW d X dep bc' bs' n' (pc + 2) lv (xR q :: st) h1 Q) : yW d X dep bc bs n pc lv (xI N :: st) h Q := by
  refine y_newa bc' bs' hdg ht ht4 l1 hs hN (by omega) (fun z => by omega) hbc hbs ?_
  subst hn'
  rw [← hq]
  exact kk _ (hq1 ▸ i.pend hq ho hp)
/-- a number put into a row -/
theorem y_is {N : Nat} {p iz v : Int} {L : List Int} (hdg : decode d.by pc = .ok (.iastore, 1)) (ho : zOb n p (1, 0, N)) (hi0 : 0 ≤ iz) (hi : iz < N) (i : zIn o q h0 h ((p, L) :: l)) (hp : o ≤ p ∧ p < q) (hz : v = zJ0 p iz)
    (kk : ∀ h1, zIn o q h0 h1 ((p, iz :: L) :: l) → yW d X dep bc bs n (pc + 1) lv st h1 Q) : yW d X dep bc bs n pc lv (xI v :: xI iz :: xR p :: st) h Q :=
  y_iast hdg ho hi0 hi (kk _ (i.put hp hz))
end YLOT
theorem k_114b {X : zX} {dep : Nat} {h0 : zH} : ∀ (k j : Nat) (h : zH), j + k = 26 → zIn 114 117 h0 h [(116, zUp j), (114, [5, 4])] → yW mX3_init X dep 0 0 117 43 [(1, xI j), (0, xR 114)] [] h (zKq 114 117 117 h0) := by
  intro k
  induction k with
  | zero =>
    intro j h hj i
    refine y_iload_n 0 dX3_init_43 rfl ?_
    refine y_bipush dX3_init_44 ⟨by decide, by decide⟩ (by decide) ?_
    refine y_icmp_ge dX3_init_46 rfl (fun _ => ?_) (fun c => absurd (show (26 : Int) ≤ j by omega) c)
    have i := i.made2 (fun k hk => by
      rw [zUp_in] at hk
      rw [zJ0_L (by decide) (by decide), zd_0 (N := 26) (by decide +kernel), if_neg (by omega)]) rfl
    exact y_end dX3_init_62 rfl rfl i (by decide +kernel)
  | succ k ih =>
    intro j h hj i
    refine y_iload_n 0 dX3_init_43 rfl ?_
    refine y_bipush dX3_init_44 ⟨by decide, by decide⟩ (by decide) ?_
    refine y_icmp_ge dX3_init_46 rfl (fun c => absurd c (by omega)) (fun _ => ?_)
    refine y_aload_n 1 dX3_init_49 rfl ?_
    refine y_gt (k := 5) (kz := 5) (v := 116) (L := [5, 4]) pk3 dX3_init_50 (by decide) zb_395 rfl (zOb.lit (by decide +kernel)) rfl i (by decide) (by
      rw [zEl_t (by decide)]; exact zEl_h) (by decide) (by decide +kernel) ?_
    refine y_iload_n 0 dX3_init_53 rfl ?_
    refine y_iload_n 0 dX3_init_54 rfl ?_
    refine y_is (N := 26) dX3_init_55 (zOb.lit (by decide +kernel)) (by omega) (by omega) i (by decide) (by
      rw [zJ0_L (by decide) (by decide), if_pos (by omega)]) (fun h i => ?_)
    refine y_iinc (lv' := [(1, xI ((j + 1 : Nat) : Int)), (0, xR 114)]) 0 dX3_init_56 rfl (by decide) (by rw [w32_id (by omega) (by omega)]; rfl) ?_
    refine y_goto dX3_init_59 rfl ?_
    exact ih (j + 1) h (by omega) i
theorem k_114a {X : zX} {dep : Nat} {h0 : zH} : ∀ (k j : Nat) (h : zH), j + k = 52 → zIn 114 117 h0 h [(115, zUp j), (114, [5, 4]), (116, [])] → yW mX3_init X dep 0 0 117 22 [(1, xI j), (0, xR 114)] [] h (zKq 114 117 117 h0) := by
  intro k
  induction k with
  | zero =>
    intro j h hj i
    refine y_iload_n 0 dX3_init_22 rfl ?_
    refine y_bipush dX3_init_23 ⟨by decide, by decide⟩ (by decide) ?_
    refine y_icmp_ge dX3_init_25 rfl (fun _ => ?_) (fun c => absurd (show (52 : Int) ≤ j by omega) c)
    have i := i.made2 (fun k hk => by
      rw [zUp_in] at hk
      rw [zJ0_W (by decide), zd_0 (N := 52) (by decide +kernel), if_neg (by omega)]) rfl
    have i := i.swap (by decide)
    refine y_iconst dX3_init_41 ⟨by decide, by decide⟩ ?_
    refine y_istore_n (lv' := [(1, xI 0), (0, xR 114)]) dX3_init_42 (by decide) rfl ?_
    exact k_114b 26 0 h rfl i
  | succ k ih =>
    intro j h hj i
    refine y_iload_n 0 dX3_init_22 rfl ?_
    refine y_bipush dX3_init_23 ⟨by decide, by decide⟩ (by decide) ?_
    refine y_icmp_ge dX3_init_25 rfl (fun c => absurd c (by omega)) (fun _ => ?_)
    refine y_aload_n 1 dX3_init_28 rfl ?_
    refine y_gt (k := 4) (kz := 4) (v := 115) (L := [5, 4]) pk3 dX3_init_29 (by decide) zb_393 rfl (zOb.lit (by decide +kernel)) rfl i (by decide) (by
      rw [zEl_t (by decide)]; exact zEl_h) (by decide) (by decide +kernel) ?_
    refine y_iload_n 0 dX3_init_32 rfl ?_
    refine y_iload_n 0 dX3_init_33 rfl ?_
    refine y_is (N := 52) dX3_init_34 (zOb.lit (by decide +kernel)) (by omega) (by omega) i (by decide) (by
      rw [zJ0_W (by decide), if_pos (by omega)]) (fun h i => ?_)
    refine y_iinc (lv' := [(1, xI ((j + 1 : Nat) : Int)), (0, xR 114)]) 0 dX3_init_35 rfl (by decide) (by rw [w32_id (by omega) (by omega)]; rfl) ?_
    refine y_goto dX3_init_38 rfl ?_
    exact ih (j + 1) h (by omega) i
theorem k_114 {X : zX} {dep : Nat} {hh : zH} (h0 : hh 114 = zd 114) (hdep : 1 ≤ dep) : yW mX3_init X dep 2 78 115 0 (zar 0 [xR 114]) [] hh (zKq 114 117 117 hh) := by
  have i := zIn.start h0
  have i : zIn 114 115 hh hh [(114, [])] := i
  refine y_aload_n 0 dX3_init_0 rfl ?_
  refine y_obj dX3_init_1 zb_386 zb_111 zb_112 (by decide) (by omega) (by decide) (by decide) ?_
  refine y_aload_n 0 dX3_init_4 rfl ?_
  refine y_bipush dX3_init_5 ⟨by decide, by decide⟩ (by decide) ?_
  refine y_arf (t := 1) (N := 52) (q := 115) (q1 := 116) 116 1 26 dX3_init_7 rfl (by decide) zb_153 (by decide +kernel) (by decide) (by decide) (by decide) (by decide) rfl rfl rfl i (by decide) (by decide) (fun h i => ?_)
  refine y_fldF (k := 4) (kz := 4) pk3 dX3_init_9 (by decide) zb_393 rfl rfl rfl (by decide) (zFit_arr _ _) (zOb.lit (by decide +kernel)) rfl i (by decide) (by decide +kernel) (fun h i => ?_)
  refine y_aload_n 0 dX3_init_12 rfl ?_
  refine y_bipush dX3_init_13 ⟨by decide, by decide⟩ (by decide) ?_
  refine y_arf (t := 1) (N := 26) (q := 116) (q1 := 117) 117 0 0 dX3_init_15 rfl (by decide) zb_153 (by decide +kernel) (by decide) (by decide) (by decide) (by decide) rfl rfl rfl i (by decide) (by decide) (fun h i => ?_)
  refine y_fldF (k := 5) (kz := 5) pk3 dX3_init_17 (by decide) zb_395 rfl rfl rfl (by decide) (zFit_arr _ _) (zOb.lit (by decide +kernel)) rfl i (by decide) (by decide +kernel) (fun h i => ?_)
  refine y_iconst dX3_init_20 ⟨by decide, by decide⟩ ?_
  refine y_istore_n (lv' := [(1, xI 0), (0, xR 114)]) dX3_init_21 (by decide) rfl ?_
  have i : zIn 114 117 hh h [(115, []), (114, [5, 4]), (116, [])] := by
    refine ⟨i.1, fun x a b => ?_⟩
    have q := i.2 x a b
    by_cases e1 : x = 114
    · rw [e1] at q ⊢; exact q
    · by_cases e2 : x = 115
      · rw [e2] at q ⊢; exact q
      · have e3 : x = 116 := by omega
        rw [e3] at q ⊢; exact q
  exact k_114a 52 0 h rfl i
theorem k_128b {X : zX} {dep : Nat} {h0 : zH} : ∀ (k j : Nat) (h : zH), j + k = 26 → zIn 128 131 h0 h [(130, zUp j), (128, [5, 4])] → yW mX3_init X dep 0 0 131 43 [(1, xI j), (0, xR 128)] [] h (zKq 128 131 131 h0) := by
  intro k
  induction k with
  | zero =>
    intro j h hj i
    refine y_iload_n 0 dX3_init_43 rfl ?_
    refine y_bipush dX3_init_44 ⟨by decide, by decide⟩ (by decide) ?_
    refine y_icmp_ge dX3_init_46 rfl (fun _ => ?_) (fun c => absurd (show (26 : Int) ≤ j by omega) c)
    have i := i.made2 (fun k hk => by
      rw [zUp_in] at hk
      rw [zJ0_L (by decide) (by decide), zd_0 (N := 26) (by decide +kernel), if_neg (by omega)]) rfl
    exact y_end dX3_init_62 rfl rfl i (by decide +kernel)
  | succ k ih =>
    intro j h hj i
    refine y_iload_n 0 dX3_init_43 rfl ?_
    refine y_bipush dX3_init_44 ⟨by decide, by decide⟩ (by decide) ?_
    refine y_icmp_ge dX3_init_46 rfl (fun c => absurd c (by omega)) (fun _ => ?_)
    refine y_aload_n 1 dX3_init_49 rfl ?_
    refine y_gt (k := 5) (kz := 5) (v := 130) (L := [5, 4]) pk3 dX3_init_50 (by decide) zb_395 rfl (zOb.lit (by decide +kernel)) rfl i (by decide) (by
      rw [zEl_t (by decide)]; exact zEl_h) (by decide) (by decide +kernel) ?_
    refine y_iload_n 0 dX3_init_53 rfl ?_
    refine y_iload_n 0 dX3_init_54 rfl ?_
    refine y_is (N := 26) dX3_init_55 (zOb.lit (by decide +kernel)) (by omega) (by omega) i (by decide) (by
      rw [zJ0_L (by decide) (by decide), if_pos (by omega)]) (fun h i => ?_)
    refine y_iinc (lv' := [(1, xI ((j + 1 : Nat) : Int)), (0, xR 128)]) 0 dX3_init_56 rfl (by decide) (by rw [w32_id (by omega) (by omega)]; rfl) ?_
    refine y_goto dX3_init_59 rfl ?_
    exact ih (j + 1) h (by omega) i
theorem k_128a {X : zX} {dep : Nat} {h0 : zH} : ∀ (k j : Nat) (h : zH), j + k = 52 → zIn 128 131 h0 h [(129, zUp j), (128, [5, 4]), (130, [])] → yW mX3_init X dep 0 0 131 22 [(1, xI j), (0, xR 128)] [] h (zKq 128 131 131 h0) := by
  intro k
  induction k with
  | zero =>
    intro j h hj i
    refine y_iload_n 0 dX3_init_22 rfl ?_
    refine y_bipush dX3_init_23 ⟨by decide, by decide⟩ (by decide) ?_
    refine y_icmp_ge dX3_init_25 rfl (fun _ => ?_) (fun c => absurd (show (52 : Int) ≤ j by omega) c)
    have i := i.made2 (fun k hk => by
      rw [zUp_in] at hk
      rw [zJ0_W (by decide), zd_0 (N := 52) (by decide +kernel), if_neg (by omega)]) rfl
    have i := i.swap (by decide)
    refine y_iconst dX3_init_41 ⟨by decide, by decide⟩ ?_
    refine y_istore_n (lv' := [(1, xI 0), (0, xR 128)]) dX3_init_42 (by decide) rfl ?_
    exact k_128b 26 0 h rfl i
  | succ k ih =>
    intro j h hj i
    refine y_iload_n 0 dX3_init_22 rfl ?_
    refine y_bipush dX3_init_23 ⟨by decide, by decide⟩ (by decide) ?_
    refine y_icmp_ge dX3_init_25 rfl (fun c => absurd c (by omega)) (fun _ => ?_)
    refine y_aload_n 1 dX3_init_28 rfl ?_
    refine y_gt (k := 4) (kz := 4) (v := 129) (L := [5, 4]) pk3 dX3_init_29 (by decide) zb_393 rfl (zOb.lit (by decide +kernel)) rfl i (by decide) (by
      rw [zEl_t (by decide)]; exact zEl_h) (by decide) (by decide +kernel) ?_
    refine y_iload_n 0 dX3_init_32 rfl ?_
    refine y_iload_n 0 dX3_init_33 rfl ?_
    refine y_is (N := 52) dX3_init_34 (zOb.lit (by decide +kernel)) (by omega) (by omega) i (by decide) (by
      rw [zJ0_W (by decide), if_pos (by omega)]) (fun h i => ?_)
    refine y_iinc (lv' := [(1, xI ((j + 1 : Nat) : Int)), (0, xR 128)]) 0 dX3_init_35 rfl (by decide) (by rw [w32_id (by omega) (by omega)]; rfl) ?_
    refine y_goto dX3_init_38 rfl ?_
    exact ih (j + 1) h (by omega) i
theorem k_128 {X : zX} {dep : Nat} {hh : zH} (h0 : hh 128 = zd 128) (hdep : 1 ≤ dep) : yW mX3_init X dep 2 78 129 0 (zar 0 [xR 128]) [] hh (zKq 128 131 131 hh) := by
  have i := zIn.start h0
  have i : zIn 128 129 hh hh [(128, [])] := i
  refine y_aload_n 0 dX3_init_0 rfl ?_
  refine y_obj dX3_init_1 zb_386 zb_111 zb_112 (by decide) (by omega) (by decide) (by decide) ?_
  refine y_aload_n 0 dX3_init_4 rfl ?_
  refine y_bipush dX3_init_5 ⟨by decide, by decide⟩ (by decide) ?_
  refine y_arf (t := 1) (N := 52) (q := 129) (q1 := 130) 130 1 26 dX3_init_7 rfl (by decide) zb_153 (by decide +kernel) (by decide) (by decide) (by decide) (by decide) rfl rfl rfl i (by decide) (by decide) (fun h i => ?_)
  refine y_fldF (k := 4) (kz := 4) pk3 dX3_init_9 (by decide) zb_393 rfl rfl rfl (by decide) (zFit_arr _ _) (zOb.lit (by decide +kernel)) rfl i (by decide) (by decide +kernel) (fun h i => ?_)
  refine y_aload_n 0 dX3_init_12 rfl ?_
  refine y_bipush dX3_init_13 ⟨by decide, by decide⟩ (by decide) ?_
  refine y_arf (t := 1) (N := 26) (q := 130) (q1 := 131) 131 0 0 dX3_init_15 rfl (by decide) zb_153 (by decide +kernel) (by decide) (by decide) (by decide) (by decide) rfl rfl rfl i (by decide) (by decide) (fun h i => ?_)
  refine y_fldF (k := 5) (kz := 5) pk3 dX3_init_17 (by decide) zb_395 rfl rfl rfl (by decide) (zFit_arr _ _) (zOb.lit (by decide +kernel)) rfl i (by decide) (by decide +kernel) (fun h i => ?_)
  refine y_iconst dX3_init_20 ⟨by decide, by decide⟩ ?_
  refine y_istore_n (lv' := [(1, xI 0), (0, xR 128)]) dX3_init_21 (by decide) rfl ?_
  have i : zIn 128 131 hh h [(129, []), (128, [5, 4]), (130, [])] := by
    refine ⟨i.1, fun x a b => ?_⟩
    have q := i.2 x a b
    by_cases e1 : x = 128
    · rw [e1] at q ⊢; exact q
    · by_cases e2 : x = 129
      · rw [e2] at q ⊢; exact q
      · have e3 : x = 130 := by omega
        rw [e3] at q ⊢; exact q
  exact k_128a 52 0 h rfl i
theorem k_142b {X : zX} {dep : Nat} {h0 : zH} : ∀ (k j : Nat) (h : zH), j + k = 26 → zIn 142 145 h0 h [(144, zUp j), (142, [5, 4])] → yW mX3_init X dep 0 0 145 43 [(1, xI j), (0, xR 142)] [] h (zKq 142 145 145 h0) := by
  intro k
  induction k with
  | zero =>
    intro j h hj i
    refine y_iload_n 0 dX3_init_43 rfl ?_
    refine y_bipush dX3_init_44 ⟨by decide, by decide⟩ (by decide) ?_
    refine y_icmp_ge dX3_init_46 rfl (fun _ => ?_) (fun c => absurd (show (26 : Int) ≤ j by omega) c)
    have i := i.made2 (fun k hk => by
      rw [zUp_in] at hk
      rw [zJ0_L (by decide) (by decide), zd_0 (N := 26) (by decide +kernel), if_neg (by omega)]) rfl
    exact y_end dX3_init_62 rfl rfl i (by decide +kernel)
  | succ k ih =>
    intro j h hj i
    refine y_iload_n 0 dX3_init_43 rfl ?_
    refine y_bipush dX3_init_44 ⟨by decide, by decide⟩ (by decide) ?_
    refine y_icmp_ge dX3_init_46 rfl (fun c => absurd c (by omega)) (fun _ => ?_)
    refine y_aload_n 1 dX3_init_49 rfl ?_
    refine y_gt (k := 5) (kz := 5) (v := 144) (L := [5, 4]) pk3 dX3_init_50 (by decide) zb_395 rfl (zOb.lit (by decide +kernel)) rfl i (by decide) (by
      rw [zEl_t (by decide)]; exact zEl_h) (by decide) (by decide +kernel) ?_
    refine y_iload_n 0 dX3_init_53 rfl ?_
    refine y_iload_n 0 dX3_init_54 rfl ?_
    refine y_is (N := 26) dX3_init_55 (zOb.lit (by decide +kernel)) (by omega) (by omega) i (by decide) (by
      rw [zJ0_L (by decide) (by decide), if_pos (by omega)]) (fun h i => ?_)
    refine y_iinc (lv' := [(1, xI ((j + 1 : Nat) : Int)), (0, xR 142)]) 0 dX3_init_56 rfl (by decide) (by rw [w32_id (by omega) (by omega)]; rfl) ?_
    refine y_goto dX3_init_59 rfl ?_
    exact ih (j + 1) h (by omega) i
theorem k_142a {X : zX} {dep : Nat} {h0 : zH} : ∀ (k j : Nat) (h : zH), j + k = 52 → zIn 142 145 h0 h [(143, zUp j), (142, [5, 4]), (144, [])] → yW mX3_init X dep 0 0 145 22 [(1, xI j), (0, xR 142)] [] h (zKq 142 145 145 h0) := by
  intro k
  induction k with
  | zero =>
    intro j h hj i
    refine y_iload_n 0 dX3_init_22 rfl ?_
    refine y_bipush dX3_init_23 ⟨by decide, by decide⟩ (by decide) ?_
    refine y_icmp_ge dX3_init_25 rfl (fun _ => ?_) (fun c => absurd (show (52 : Int) ≤ j by omega) c)
    have i := i.made2 (fun k hk => by
      rw [zUp_in] at hk
      rw [zJ0_W (by decide), zd_0 (N := 52) (by decide +kernel), if_neg (by omega)]) rfl
    have i := i.swap (by decide)
    refine y_iconst dX3_init_41 ⟨by decide, by decide⟩ ?_
    refine y_istore_n (lv' := [(1, xI 0), (0, xR 142)]) dX3_init_42 (by decide) rfl ?_
    exact k_142b 26 0 h rfl i
  | succ k ih =>
    intro j h hj i
    refine y_iload_n 0 dX3_init_22 rfl ?_
    refine y_bipush dX3_init_23 ⟨by decide, by decide⟩ (by decide) ?_
    refine y_icmp_ge dX3_init_25 rfl (fun c => absurd c (by omega)) (fun _ => ?_)
    refine y_aload_n 1 dX3_init_28 rfl ?_
    refine y_gt (k := 4) (kz := 4) (v := 143) (L := [5, 4]) pk3 dX3_init_29 (by decide) zb_393 rfl (zOb.lit (by decide +kernel)) rfl i (by decide) (by
      rw [zEl_t (by decide)]; exact zEl_h) (by decide) (by decide +kernel) ?_
    refine y_iload_n 0 dX3_init_32 rfl ?_
    refine y_iload_n 0 dX3_init_33 rfl ?_
    refine y_is (N := 52) dX3_init_34 (zOb.lit (by decide +kernel)) (by omega) (by omega) i (by decide) (by
      rw [zJ0_W (by decide), if_pos (by omega)]) (fun h i => ?_)
    refine y_iinc (lv' := [(1, xI ((j + 1 : Nat) : Int)), (0, xR 142)]) 0 dX3_init_35 rfl (by decide) (by rw [w32_id (by omega) (by omega)]; rfl) ?_
    refine y_goto dX3_init_38 rfl ?_
    exact ih (j + 1) h (by omega) i
theorem k_142 {X : zX} {dep : Nat} {hh : zH} (h0 : hh 142 = zd 142) (hdep : 1 ≤ dep) : yW mX3_init X dep 2 78 143 0 (zar 0 [xR 142]) [] hh (zKq 142 145 145 hh) := by
  have i := zIn.start h0
  have i : zIn 142 143 hh hh [(142, [])] := i
  refine y_aload_n 0 dX3_init_0 rfl ?_
  refine y_obj dX3_init_1 zb_386 zb_111 zb_112 (by decide) (by omega) (by decide) (by decide) ?_
  refine y_aload_n 0 dX3_init_4 rfl ?_
  refine y_bipush dX3_init_5 ⟨by decide, by decide⟩ (by decide) ?_
  refine y_arf (t := 1) (N := 52) (q := 143) (q1 := 144) 144 1 26 dX3_init_7 rfl (by decide) zb_153 (by decide +kernel) (by decide) (by decide) (by decide) (by decide) rfl rfl rfl i (by decide) (by decide) (fun h i => ?_)
  refine y_fldF (k := 4) (kz := 4) pk3 dX3_init_9 (by decide) zb_393 rfl rfl rfl (by decide) (zFit_arr _ _) (zOb.lit (by decide +kernel)) rfl i (by decide) (by decide +kernel) (fun h i => ?_)
  refine y_aload_n 0 dX3_init_12 rfl ?_
  refine y_bipush dX3_init_13 ⟨by decide, by decide⟩ (by decide) ?_
  refine y_arf (t := 1) (N := 26) (q := 144) (q1 := 145) 145 0 0 dX3_init_15 rfl (by decide) zb_153 (by decide +kernel) (by decide) (by decide) (by decide) (by decide) rfl rfl rfl i (by decide) (by decide) (fun h i => ?_)
  refine y_fldF (k := 5) (kz := 5) pk3 dX3_init_17 (by decide) zb_395 rfl rfl rfl (by decide) (zFit_arr _ _) (zOb.lit (by decide +kernel)) rfl i (by decide) (by decide +kernel) (fun h i => ?_)
  refine y_iconst dX3_init_20 ⟨by decide, by decide⟩ ?_
  refine y_istore_n (lv' := [(1, xI 0), (0, xR 142)]) dX3_init_21 (by decide) rfl ?_
  have i : zIn 142 145 hh h [(143, []), (142, [5, 4]), (144, [])] := by
    refine ⟨i.1, fun x a b => ?_⟩
    have q := i.2 x a b
    by_cases e1 : x = 142
    · rw [e1] at q ⊢; exact q
    · by_cases e2 : x = 143
      · rw [e2] at q ⊢; exact q
      · have e3 : x = 144 := by omega
        rw [e3] at q ⊢; exact q
  exact k_142a 52 0 h rfl i
theorem k_156b {X : zX} {dep : Nat} {h0 : zH} : ∀ (k j : Nat) (h : zH), j + k = 26 → zIn 156 159 h0 h [(158, zUp j), (156, [5, 4])] → yW mX3_init X dep 0 0 159 43 [(1, xI j), (0, xR 156)] [] h (zKq 156 159 159 h0) := by
  intro k
  induction k with
  | zero =>
    intro j h hj i
    refine y_iload_n 0 dX3_init_43 rfl ?_
    refine y_bipush dX3_init_44 ⟨by decide, by decide⟩ (by decide) ?_
    refine y_icmp_ge dX3_init_46 rfl (fun _ => ?_) (fun c => absurd (show (26 : Int) ≤ j by omega) c)
    have i := i.made2 (fun k hk => by
      rw [zUp_in] at hk
      rw [zJ0_L (by decide) (by decide), zd_0 (N := 26) (by decide +kernel), if_neg (by omega)]) rfl
    exact y_end dX3_init_62 rfl rfl i (by decide +kernel)
  | succ k ih =>
    intro j h hj i
    refine y_iload_n 0 dX3_init_43 rfl ?_
    refine y_bipush dX3_init_44 ⟨by decide, by decide⟩ (by decide) ?_
    refine y_icmp_ge dX3_init_46 rfl (fun c => absurd c (by omega)) (fun _ => ?_)
    refine y_aload_n 1 dX3_init_49 rfl ?_
    refine y_gt (k := 5) (kz := 5) (v := 158) (L := [5, 4]) pk3 dX3_init_50 (by decide) zb_395 rfl (zOb.lit (by decide +kernel)) rfl i (by decide) (by
      rw [zEl_t (by decide)]; exact zEl_h) (by decide) (by decide +kernel) ?_
    refine y_iload_n 0 dX3_init_53 rfl ?_
    refine y_iload_n 0 dX3_init_54 rfl ?_
    refine y_is (N := 26) dX3_init_55 (zOb.lit (by decide +kernel)) (by omega) (by omega) i (by decide) (by
      rw [zJ0_L (by decide) (by decide), if_pos (by omega)]) (fun h i => ?_)
    refine y_iinc (lv' := [(1, xI ((j + 1 : Nat) : Int)), (0, xR 156)]) 0 dX3_init_56 rfl (by decide) (by rw [w32_id (by omega) (by omega)]; rfl) ?_
    refine y_goto dX3_init_59 rfl ?_
    exact ih (j + 1) h (by omega) i
theorem k_156a {X : zX} {dep : Nat} {h0 : zH} : ∀ (k j : Nat) (h : zH), j + k = 52 → zIn 156 159 h0 h [(157, zUp j), (156, [5, 4]), (158, [])] → yW mX3_init X dep 0 0 159 22 [(1, xI j), (0, xR 156)] [] h (zKq 156 159 159 h0) := by
  intro k
  induction k with
  | zero =>
    intro j h hj i
    refine y_iload_n 0 dX3_init_22 rfl ?_
    refine y_bipush dX3_init_23 ⟨by decide, by decide⟩ (by decide) ?_
    refine y_icmp_ge dX3_init_25 rfl (fun _ => ?_) (fun c => absurd (show (52 : Int) ≤ j by omega) c)
    have i := i.made2 (fun k hk => by
      rw [zUp_in] at hk
      rw [zJ0_W (by decide), zd_0 (N := 52) (by decide +kernel), if_neg (by omega)]) rfl
    have i := i.swap (by decide)
    refine y_iconst dX3_init_41 ⟨by decide, by decide⟩ ?_
    refine y_istore_n (lv' := [(1, xI 0), (0, xR 156)]) dX3_init_42 (by decide) rfl ?_
    exact k_156b 26 0 h rfl i
  | succ k ih =>
    intro j h hj i
    refine y_iload_n 0 dX3_init_22 rfl ?_
    refine y_bipush dX3_init_23 ⟨by decide, by decide⟩ (by decide) ?_
    refine y_icmp_ge dX3_init_25 rfl (fun c => absurd c (by omega)) (fun _ => ?_)
    refine y_aload_n 1 dX3_init_28 rfl ?_
    refine y_gt (k := 4) (kz := 4) (v := 157) (L := [5, 4]) pk3 dX3_init_29 (by decide) zb_393 rfl (zOb.lit (by decide +kernel)) rfl i (by decide) (by
      rw [zEl_t (by decide)]; exact zEl_h) (by decide) (by decide +kernel) ?_
    refine y_iload_n 0 dX3_init_32 rfl ?_
    refine y_iload_n 0 dX3_init_33 rfl ?_
    refine y_is (N := 52) dX3_init_34 (zOb.lit (by decide +kernel)) (by omega) (by omega) i (by decide) (by
      rw [zJ0_W (by decide), if_pos (by omega)]) (fun h i => ?_)
    refine y_iinc (lv' := [(1, xI ((j + 1 : Nat) : Int)), (0, xR 156)]) 0 dX3_init_35 rfl (by decide) (by rw [w32_id (by omega) (by omega)]; rfl) ?_
    refine y_goto dX3_init_38 rfl ?_
    exact ih (j + 1) h (by omega) i
theorem k_156 {X : zX} {dep : Nat} {hh : zH} (h0 : hh 156 = zd 156) (hdep : 1 ≤ dep) : yW mX3_init X dep 2 78 157 0 (zar 0 [xR 156]) [] hh (zKq 156 159 159 hh) := by
  have i := zIn.start h0
  have i : zIn 156 157 hh hh [(156, [])] := i
  refine y_aload_n 0 dX3_init_0 rfl ?_
  refine y_obj dX3_init_1 zb_386 zb_111 zb_112 (by decide) (by omega) (by decide) (by decide) ?_
  refine y_aload_n 0 dX3_init_4 rfl ?_
  refine y_bipush dX3_init_5 ⟨by decide, by decide⟩ (by decide) ?_
  refine y_arf (t := 1) (N := 52) (q := 157) (q1 := 158) 158 1 26 dX3_init_7 rfl (by decide) zb_153 (by decide +kernel) (by decide) (by decide) (by decide) (by decide) rfl rfl rfl i (by decide) (by decide) (fun h i => ?_)
  refine y_fldF (k := 4) (kz := 4) pk3 dX3_init_9 (by decide) zb_393 rfl rfl rfl (by decide) (zFit_arr _ _) (zOb.lit (by decide +kernel)) rfl i (by decide) (by decide +kernel) (fun h i => ?_)
  refine y_aload_n 0 dX3_init_12 rfl ?_
  refine y_bipush dX3_init_13 ⟨by decide, by decide⟩ (by decide) ?_
  refine y_arf (t := 1) (N := 26) (q := 158) (q1 := 159) 159 0 0 dX3_init_15 rfl (by decide) zb_153 (by decide +kernel) (by decide) (by decide) (by decide) (by decide) rfl rfl rfl i (by decide) (by decide) (fun h i => ?_)
  refine y_fldF (k := 5) (kz := 5) pk3 dX3_init_17 (by decide) zb_395 rfl rfl rfl (by decide) (zFit_arr _ _) (zOb.lit (by decide +kernel)) rfl i (by decide) (by decide +kernel) (fun h i => ?_)
  refine y_iconst dX3_init_20 ⟨by decide, by decide⟩ ?_
  refine y_istore_n (lv' := [(1, xI 0), (0, xR 156)]) dX3_init_21 (by decide) rfl ?_
  have i : zIn 156 159 hh h [(157, []), (156, [5, 4]), (158, [])] := by
    refine ⟨i.1, fun x a b => ?_⟩
    have q := i.2 x a b
    by_cases e1 : x = 156
    · rw [e1] at q ⊢; exact q
    · by_cases e2 : x = 157
      · rw [e2] at q ⊢; exact q
      · have e3 : x = 158 := by omega
        rw [e3] at q ⊢; exact q
  exact k_156a 52 0 h rfl i
