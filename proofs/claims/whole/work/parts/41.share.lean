/-! sharing out -/
/-- the place of the greatest of k + 1, the first of them -/
def zgm (f : Int → Int) : Nat → Int
  | 0 => 0
  | k + 1 => if f ((k : Int) + 1) ≤ f (zgm f k) then zgm f k else (k : Int) + 1
theorem zgm_in (f : Int → Int) : ∀ k : Nat, 0 ≤ zgm f k ∧ zgm f k ≤ k
  | 0 => ⟨Int.le_refl _, Int.le_refl _⟩
  | k + 1 => by
    have := zgm_in f k
    unfold zgm
    split <;> omega
theorem zgm_ag {f g : Int → Int} : ∀ k : Nat, (∀ i : Int, 0 ≤ i → i ≤ k → f i = g i) → zgm f k = zgm g k
  | 0, _ => rfl
  | k + 1, hh => by
    have e := zgm_ag k (fun i h0 h1 => hh i h0 (by omega))
    have := zgm_in g k
    unfold zgm
    rw [e, hh _ this.1 (by omega), hh _ (show (0 : Int) ≤ (k : Int) + 1 by omega) (by omega)]
def zsh1 (h : zH) (o : Int) : zH := zst (zst h (o + 10) (zgm (h (o + 11)) 7) (h (o + 10) (zgm (h (o + 11)) 7) + 1)) (o + 11) (zgm (h (o + 11)) 7) (-1)

set_option maxRecDepth 20000 in
theorem bX6_shareOneMore_0 {X : zX} {dep bc bs : Nat} (o : Int) {h : zH} {Q : Nat → zH → List zV → Prop} (ho : zRollO o)
    (k1 : zW mX6_shareOneMore X dep bc bs 239 4 [(0, xR o), (1, xI 0), (2, xI 1)] [] h Q) : zW mX6_shareOneMore X dep bc bs 239 0 [(0, xR o)] [] h Q := by
  refine z_iconst dX6_shareOneMore_0 (zi32_d rfl) ?_
  refine z_istore_n (lv' := [(1, xI 0), (0, xR o)]) dX6_shareOneMore_1 (by decide) rfl ?_
  refine z_iconst dX6_shareOneMore_2 (zi32_d rfl) ?_
  refine z_istore_n (lv' := [(2, xI 1), (1, xI 0), (0, xR o)]) dX6_shareOneMore_3 (by decide) rfl ?_
  refine zW.sub (lv' := [(0, xR o), (1, xI 0), (2, xI 1)]) [2, 1, 0] rfl ?_
  exact k1

set_option maxRecDepth 20000 in
theorem bX6_shareOneMore_4 {X : zX} {dep bc bs : Nat} (o : Int) (j : Int) (p : Int) {h : zH} {Q : Nat → zH → List zV → Prop} (ho : zRollO o) (hj : 0 ≤ j ∧ j < 8) (hp : 1 ≤ p ∧ p ≤ 8) (hq : -1000 ≤ h (o + 10) j ∧ h (o + 10) j ≤ 1000)
    (k1 : 8 ≤ p → Q 239 (zst (zst h (o + 10) j ((h (o + 10) j) + 1)) (o + 11) j (-1)) [])
    (k2 : ¬ (8 ≤ p) → (h (o + 11) p) ≤ (h (o + 11) j) → zW mX6_shareOneMore X dep bc bs 239 4 [(0, xR o), (1, xI j), (2, xI (p + 1))] [] h Q)
    (k3 : ¬ (8 ≤ p) → ¬ ((h (o + 11) p) ≤ (h (o + 11) j)) → zW mX6_shareOneMore X dep bc bs 239 4 [(0, xR o), (1, xI p), (2, xI (p + 1))] [] h Q) : zW mX6_shareOneMore X dep bc bs 239 4 [(0, xR o), (1, xI j), (2, xI p)] [] h Q := by
  refine z_iload_n 2 dX6_shareOneMore_4 rfl ?_
  refine z_bipush dX6_shareOneMore_5 (zi32_d rfl) (by decide) ?_
  refine z_icmp_ge (tgt := 33) dX6_shareOneMore_7 (by decide) (fun c1 => ?_) (fun c1 => ?_)
  ·
    refine z_aload_n 0 dX6_shareOneMore_33 rfl ?_
    refine z_getS (v := (o + 10)) (k := 8) (kz := 8) pk6 dX6_shareOneMore_34 (by decide) zb_422 rfl ho.1 rfl ho.2.2.2.2.2.2.2.2.2.2.2.2.2.2.2.2.2.2.2.2.2.1 ?_
    refine z_iload_n 1 dX6_shareOneMore_37 rfl ?_
    refine z_dup2 dX6_shareOneMore_38 zt0 zt2 ?_
    refine z_iald dX6_shareOneMore_39 ho.2.2.2.2.2.2.2.2.2.2.1 hj.1 hj.2 ?_
    refine z_iconst dX6_shareOneMore_40 (zi32_d rfl) ?_
    refine z_iaddN dX6_shareOneMore_41 (show -2147483648 ≤ (h (o + 10) j) + 1 ∧ (h (o + 10) j) + 1 < 2147483648 from ⟨by omega, by omega⟩).1 (show -2147483648 ≤ (h (o + 10) j) + 1 ∧ (h (o + 10) j) + 1 < 2147483648 from ⟨by omega, by omega⟩).2 ?_
    refine z_iast dX6_shareOneMore_42 ho.2.2.2.2.2.2.2.2.2.2.1 hj.1 hj.2 ?_
    refine z_aload_n 0 dX6_shareOneMore_43 rfl ?_
    refine z_getS (v := (o + 11)) (k := 9) (kz := 9) pk6 dX6_shareOneMore_44 (by decide) zb_425 rfl ho.1 rfl ho.2.2.2.2.2.2.2.2.2.2.2.2.2.2.2.2.2.2.2.2.2.2.1 ?_
    refine z_iload_n 1 dX6_shareOneMore_47 rfl ?_
    refine z_iconst dX6_shareOneMore_48 (zi32_d rfl) ?_
    refine z_iast dX6_shareOneMore_49 ho.2.2.2.2.2.2.2.2.2.2.2.1 hj.1 hj.2 ?_
    exact z_ret dX6_shareOneMore_50 rfl (k1 c1)
  ·
    refine z_aload_n 0 dX6_shareOneMore_10 rfl ?_
    refine z_getS (v := (o + 11)) (k := 9) (kz := 9) pk6 dX6_shareOneMore_11 (by decide) zb_425 rfl ho.1 rfl ho.2.2.2.2.2.2.2.2.2.2.2.2.2.2.2.2.2.2.2.2.2.2.1 ?_
    refine z_iload_n 2 dX6_shareOneMore_14 rfl ?_
    refine z_iald dX6_shareOneMore_15 ho.2.2.2.2.2.2.2.2.2.2.2.1 (show 0 ≤ p ∧ p < 8 from ⟨by omega, by omega⟩).1 (show 0 ≤ p ∧ p < 8 from ⟨by omega, by omega⟩).2 ?_
    refine z_aload_n 0 dX6_shareOneMore_16 rfl ?_
    refine z_getS (v := (o + 11)) (k := 9) (kz := 9) pk6 dX6_shareOneMore_17 (by decide) zb_425 rfl ho.1 rfl ho.2.2.2.2.2.2.2.2.2.2.2.2.2.2.2.2.2.2.2.2.2.2.1 ?_
    refine z_iload_n 1 dX6_shareOneMore_20 rfl ?_
    refine z_iald dX6_shareOneMore_21 ho.2.2.2.2.2.2.2.2.2.2.2.1 hj.1 hj.2 ?_
    refine z_icmp_le (tgt := 27) dX6_shareOneMore_22 (by decide) (fun c2 => ?_) (fun c2 => ?_)
    ·
      refine z_iincN (lv' := [(2, xI (p + 1)), (0, xR o), (1, xI j)]) 2 dX6_shareOneMore_27 rfl (by decide) rfl (show -2147483648 ≤ p + 1 ∧ p + 1 < 2147483648 from ⟨by omega, by omega⟩).1 (show -2147483648 ≤ p + 1 ∧ p + 1 < 2147483648 from ⟨by omega, by omega⟩).2 ?_
      refine z_goto (tgt := 4) dX6_shareOneMore_30 (by decide) ?_
      refine zW.sub (lv' := [(0, xR o), (1, xI j), (2, xI (p + 1))]) [1, 2, 0] rfl ?_
      exact k2 c1 c2
    ·
      refine z_iload_n 2 dX6_shareOneMore_25 rfl ?_
      refine z_istore_n (lv' := [(1, xI p), (0, xR o), (2, xI p)]) dX6_shareOneMore_26 (by decide) rfl ?_
      refine z_iincN (lv' := [(2, xI (p + 1)), (1, xI p), (0, xR o)]) 2 dX6_shareOneMore_27 rfl (by decide) rfl (show -2147483648 ≤ p + 1 ∧ p + 1 < 2147483648 from ⟨by omega, by omega⟩).1 (show -2147483648 ≤ p + 1 ∧ p + 1 < 2147483648 from ⟨by omega, by omega⟩).2 ?_
      refine z_goto (tgt := 4) dX6_shareOneMore_30 (by decide) ?_
      refine zW.sub (lv' := [(0, xR o), (1, xI p), (2, xI (p + 1))]) [2, 1, 0] rfl ?_
      exact k3 c1 c2

theorem l_X6_shareOneMore {X : zX} {dep : Nat} (o : Int) {h : zH} (ho : zRollO o) (hq : ∀ p : Int, 0 ≤ p → p < 8 → -1000 ≤ h (o + 10) p ∧ h (o + 10) p ≤ 1000) : ∀ (k j : Nat), j + k = 7 → zW mX6_shareOneMore X dep 0 0 239 4 [(0, xR o), (1, xI (zgm (h (o + 11)) j)), (2, xI ((j : Int) + 1))] [] h (zF (zsh1 h o) []) := by
  intro k
  induction k with
  | zero =>
    intro j hk
    have := zgm_in (h (o + 11)) j
    obtain rfl : j = 7 := by omega
    refine bX6_shareOneMore_4 o _ _ ho (by omega) (by omega) (hq _ (by omega) (by omega)) ?_ ?_ ?_
    all_goals intros
    all_goals first | (exfalso; omega) | skip
    exact ⟨rfl, rfl, rfl⟩
  | succ k ih =>
    intro j hk
    have := zgm_in (h (o + 11)) j
    have ih1 := ih (j + 1) (by omega)
    unfold zgm at ih1
    rw [show ((j + 1 : Nat) : Int) + 1 = (j : Int) + 1 + 1 by omega] at ih1
    refine bX6_shareOneMore_4 o _ _ ho (by omega) (by omega) (hq _ (by omega) (by omega)) ?_ ?_ ?_
    · intro c; exfalso; omega
    · intro c c1
      rw [if_pos c1] at ih1
      exact ih1
    · intro c c1
      rw [if_neg c1] at ih1
      exact ih1
theorem f_X6_shareOneMore {X : zX} {dep : Nat} (o : Int) {h : zH} (ho : zRollO o) (hq : ∀ p : Int, 0 ≤ p → p < 8 → -1000 ≤ h (o + 10) p ∧ h (o + 10) p ≤ 1000) : zW mX6_shareOneMore X dep 0 0 239 0 (zar 0 [xR o]) [] h (zF (zsh1 h o) []) := by
  refine bX6_shareOneMore_0 o ho ?_
  exact l_X6_shareOneMore o ho hq 7 0 rfl

set_option maxRecDepth 20000 in
theorem bX6_share_0 {X : zX} {dep bc bs : Nat} (o : Int) {h : zH} {Q : Nat → zH → List zV → Prop} (ho : zRollO o) (hdep : 1 ≤ dep)
    (k1 : zW mX6_share X dep bc bs 239 12 [(0, xR o), (1, xR 3), (2, xI 0), (3, xI 0)] [] (zfill h (o + 9) 0 8) Q) : zW mX6_share X dep bc bs 239 0 [(0, xR o), (1, xR 3)] [] h Q := by
  refine z_iconst dX6_share_0 (zi32_d rfl) ?_
  refine z_istore_n (lv' := [(2, xI 0), (0, xR o), (1, xR 3)]) dX6_share_1 (by decide) rfl ?_
  refine z_aload_n 1 dX6_share_2 rfl ?_
  refine z_getS (v := (o + 9)) (k := 7) (kz := 7) pk6 dX6_share_3 (by decide) zb_421 rfl ho.1 rfl ho.2.2.2.2.2.2.2.2.2.2.2.2.2.2.2.2.2.2.2.2.1 ?_
  refine z_iconst dX6_share_6 (zi32_d rfl) ?_
  refine z_invSF (as := [xR (o + 9), xI 0]) (st := []) (ra := [xI 0, xR (o + 9)]) (dep' := dep - 1) (rs := []) (h' := (zfill h (o + 9) 0 8)) (f_J7_fill_53178 (N := 8) (o + 9) 0 (h := h) ho.2.2.2.2.2.2.2.2.2.1 (by decide)) dX6_share_7 nJ7_fill_53178 zb_881 zb_843 zb_100 (by omega) zne_0 (Nat.le_of_ble_eq_true rfl) (Nat.le_of_ble_eq_true rfl) rfl ?_
  refine z_iconst dX6_share_10 (zi32_d rfl) ?_
  refine z_istore_n (lv' := [(3, xI 0), (2, xI 0), (0, xR o), (1, xR 3)]) dX6_share_11 (by decide) rfl ?_
  refine zW.sub (lv' := [(0, xR o), (1, xR 3), (2, xI 0), (3, xI 0)]) [2, 3, 1, 0] rfl ?_
  exact k1

set_option maxRecDepth 20000 in
theorem bX6_share_12 {X : zX} {dep bc bs : Nat} (o : Int) (a : Int) (i : Int) {g : zH} {Q : Nat → zH → List zV → Prop} (ho : zRollO o) (h3 : 0 ≤ g 3 0 ∧ g 3 0 ≤ 60) (hi : 0 ≤ i) (ha : 0 ≤ a ∧ a ≤ i) (hp : i < g 3 0 → 0 ≤ g 4 i ∧ g 4 i < 8) (hl : i < g 3 0 → -1000 ≤ g (o + 9) (g 4 i) ∧ g (o + 9) (g 4 i) ≤ 1000) (hdep : 1 ≤ dep)
    (k1 : (g 3 0) ≤ i → zW mX6_share X dep bc bs 239 52 [(0, xR o), (1, xR 3), (2, xI a)] [] g Q)
    (k2 : ¬ ((g 3 0) ≤ i) → ¬ (g (o + 5) i = 4 ∨ g (o + 5) i = 5) → zW mX6_share X dep bc bs 239 12 [(0, xR o), (1, xR 3), (2, xI a), (3, xI (i + 1))] [] g Q)
    (k3 : ¬ ((g 3 0) ≤ i) → g (o + 5) i = 4 ∨ g (o + 5) i = 5 → zW mX6_share X dep bc bs 239 12 [(0, xR o), (1, xR 3), (2, xI (a + 1)), (3, xI (i + 1))] [] (zst g (o + 9) (g 4 i) ((g (o + 9) (g 4 i)) + 1)) Q) : zW mX6_share X dep bc bs 239 12 [(0, xR o), (1, xR 3), (2, xI a), (3, xI i)] [] g Q := by
  refine z_iload_n 3 dX6_share_12 rfl ?_
  refine z_aload_n 1 dX6_share_13 rfl ?_
  refine z_getI (k := 0) (kz := 0) pk4 dX6_share_14 (by decide) zb_155 rfl (zOb.lit (by decide +kernel)) rfl ?_
  refine z_icmp_ge (tgt := 52) dX6_share_17 (by decide) (fun c1 => ?_) (fun c1 => ?_)
  ·
    refine zW.sub (lv' := [(0, xR o), (1, xR 3), (2, xI a)]) [0, 1, 2] rfl ?_
    exact k1 c1
  ·
    refine z_aload_n 0 dX6_share_20 rfl ?_
    refine z_iload_n 3 dX6_share_21 rfl ?_
    refine z_invF (ci := 6) (N := 13) (as := [xI i]) (st := []) (ra := [xI i]) (dep' := dep - 1) (rs := [xI (zb (g (o + 5) i = 4 ∨ g (o + 5) i = 5))]) (h' := g) (f_X6_isListed o i (h := g) ho (show 0 ≤ i ∧ i < 60 from ⟨by omega, by omega⟩)) dX6_share_22 nX6_isListed zb_930 zb_931 zb_932 zb_90 ho.1 rfl (by omega) zne_I (Nat.le_of_ble_eq_true rfl) (Nat.le_of_ble_eq_true rfl) rfl ?_
    refine z_ifB_eq (C := g (o + 5) i = 4 ∨ g (o + 5) i = 5) (tgt := 46) dX6_share_25 (by decide) (fun c2 => ?_) (fun c2 => ?_)
    ·
      refine z_iincN (lv' := [(3, xI (i + 1)), (0, xR o), (1, xR 3), (2, xI a)]) 3 dX6_share_46 rfl (by decide) rfl (show -2147483648 ≤ i + 1 ∧ i + 1 < 2147483648 from ⟨by omega, by omega⟩).1 (show -2147483648 ≤ i + 1 ∧ i + 1 < 2147483648 from ⟨by omega, by omega⟩).2 ?_
      refine z_goto (tgt := 12) dX6_share_49 (by decide) ?_
      refine zW.sub (lv' := [(0, xR o), (1, xR 3), (2, xI a), (3, xI (i + 1))]) [1, 2, 3, 0] rfl ?_
      exact k2 c1 c2
    ·
      refine z_aload_n 0 dX6_share_28 rfl ?_
      refine z_getS (v := (o + 9)) (k := 7) (kz := 7) pk6 dX6_share_29 (by decide) zb_421 rfl ho.1 rfl ho.2.2.2.2.2.2.2.2.2.2.2.2.2.2.2.2.2.2.2.2.1 ?_
      refine z_aload_n 1 dX6_share_32 rfl ?_
      refine z_getS (v := 4) (k := 1) (kz := 1) pk4 dX6_share_33 (by decide) zb_158 rfl (zOb.lit (by decide +kernel)) rfl (by decide +kernel) ?_
      refine z_iload_n 3 dX6_share_36 rfl ?_
      refine z_iald dX6_share_37 (zOb.lit (by decide +kernel)) (show 0 ≤ i ∧ i < 60 from ⟨by omega, by omega⟩).1 (show 0 ≤ i ∧ i < 60 from ⟨by omega, by omega⟩).2 ?_
      refine z_dup2 dX6_share_38 zt0 zt2 ?_
      refine z_iald dX6_share_39 ho.2.2.2.2.2.2.2.2.2.1 (show 0 ≤ (g 4 i) ∧ (g 4 i) < 8 from ⟨by omega, by omega⟩).1 (show 0 ≤ (g 4 i) ∧ (g 4 i) < 8 from ⟨by omega, by omega⟩).2 ?_
      refine z_iconst dX6_share_40 (zi32_d rfl) ?_
      refine z_iaddN dX6_share_41 (show -2147483648 ≤ (g (o + 9) (g 4 i)) + 1 ∧ (g (o + 9) (g 4 i)) + 1 < 2147483648 from ⟨by omega, by omega⟩).1 (show -2147483648 ≤ (g (o + 9) (g 4 i)) + 1 ∧ (g (o + 9) (g 4 i)) + 1 < 2147483648 from ⟨by omega, by omega⟩).2 ?_
      refine z_iast dX6_share_42 ho.2.2.2.2.2.2.2.2.2.1 (show 0 ≤ (g 4 i) ∧ (g 4 i) < 8 from ⟨by omega, by omega⟩).1 (show 0 ≤ (g 4 i) ∧ (g 4 i) < 8 from ⟨by omega, by omega⟩).2 ?_
      refine z_iincN (lv' := [(2, xI (a + 1)), (0, xR o), (1, xR 3), (3, xI i)]) 2 dX6_share_43 rfl (by decide) rfl (show -2147483648 ≤ a + 1 ∧ a + 1 < 2147483648 from ⟨by omega, by omega⟩).1 (show -2147483648 ≤ a + 1 ∧ a + 1 < 2147483648 from ⟨by omega, by omega⟩).2 ?_
      refine z_iincN (lv' := [(3, xI (i + 1)), (2, xI (a + 1)), (0, xR o), (1, xR 3)]) 3 dX6_share_46 rfl (by decide) rfl (show -2147483648 ≤ i + 1 ∧ i + 1 < 2147483648 from ⟨by omega, by omega⟩).1 (show -2147483648 ≤ i + 1 ∧ i + 1 < 2147483648 from ⟨by omega, by omega⟩).2 ?_
      refine z_goto (tgt := 12) dX6_share_49 (by decide) ?_
      refine zW.sub (lv' := [(0, xR o), (1, xR 3), (2, xI (a + 1)), (3, xI (i + 1))]) [2, 3, 1, 0] rfl ?_
      exact k3 c1 c2

set_option maxRecDepth 20000 in
theorem bX6_share_52 {X : zX} {dep bc bs : Nat} (o : Int) (a : Int) {g : zH} {Q : Nat → zH → List zV → Prop} (ho : zRollO o) (hdep : 1 ≤ dep)
    (k1 : zW mX6_share X dep bc bs 239 75 [(0, xR o), (2, xI a), (3, xI (min (g (o + 1) 1) a)), (4, xI 0)] [] (zst g o 10 (min (g (o + 1) 1) a)) Q) : zW mX6_share X dep bc bs 239 52 [(0, xR o), (1, xR 3), (2, xI a)] [] g Q := by
  refine z_aload_n 0 dX6_share_52 rfl ?_
  refine z_aload_n 0 dX6_share_53 rfl ?_
  refine z_getS (v := (o + 1)) (k := 1) (kz := 1) pk6 dX6_share_54 (by decide) zb_411 rfl ho.1 rfl ho.2.2.2.2.2.2.2.2.2.2.2.2.2.2.1 ?_
  refine z_getI (k := 1) (kz := 1) pk3 dX6_share_57 (by decide) zb_389 rfl ho.2.1 rfl ?_
  refine z_iload_n 2 dX6_share_60 rfl ?_
  refine z_invSF (as := [xI (g (o + 1) 1), xI a]) (st := [xR o]) (ra := [xI a, xI (g (o + 1) 1)]) (dep' := dep - 1) (rs := [xI (min (g (o + 1) 1) a)]) (h' := g) (f_J9_min_7cf53 (g (o + 1) 1) a (h := g) ) dX6_share_61 nJ9_min_7cf53 zb_898 zb_605 zb_93 (by omega) zne_I (Nat.le_of_ble_eq_true rfl) (Nat.le_of_ble_eq_true rfl) rfl ?_
  refine z_putI (k := 10) (kz := 10) pk6 dX6_share_64 (by decide) zb_426 rfl (zFit_int _) ho.1 rfl ?_
  refine z_aload_n 0 dX6_share_67 rfl ?_
  refine z_getIV (v := min (g (o + 1) 1) a) (k := 10) (kz := 10) pk6 dX6_share_68 (by decide) zb_426 rfl ho.1 rfl (zst_self _ _ _ _) ?_
  refine z_istore_n (lv' := [(3, xI (min (g (o + 1) 1) a)), (0, xR o), (1, xR 3), (2, xI a)]) dX6_share_71 (by decide) rfl ?_
  refine z_iconst dX6_share_72 (zi32_d rfl) ?_
  refine z_istore (lv' := [(4, xI 0), (3, xI (min (g (o + 1) 1) a)), (0, xR o), (1, xR 3), (2, xI a)]) dX6_share_73 (by decide) rfl ?_
  refine zW.sub (lv' := [(0, xR o), (2, xI a), (3, xI (min (g (o + 1) 1) a)), (4, xI 0)]) [2, 4, 1, 0] rfl ?_
  exact k1

set_option maxRecDepth 20000 in
theorem bX6_share_75 {X : zX} {dep bc bs : Nat} (o : Int) (a : Int) (l : Int) (p : Int) {g : zH} {Q : Nat → zH → List zV → Prop} (ho : zRollO o) (hp : 0 ≤ p) (hc : 0 ≤ g o 10 ∧ g o 10 ≤ 60) (hl : p < 8 → 0 ≤ g (o + 9) p ∧ g (o + 9) p ≤ 60) (hx : p < 8 → 0 ≤ g o 10 * g (o + 9) p ∧ g o 10 * g (o + 9) p ≤ 3600) (hv : p < 8 → a ≠ 0 → 0 ≤ zdiv (g o 10 * g (o + 9) p) a ∧ zdiv (g o 10 * g (o + 9) p) a ≤ 3600) (hz : -30000 ≤ l ∧ l ≤ 60)
    (k1 : 8 ≤ p → zW mX6_share X dep bc bs 239 159 [(0, xR o), (3, xI l), (4, xI 0)] [] g Q)
    (k2 : ¬ (8 ≤ p) → ¬ a = 0 → ¬ a = 0 → zW mX6_share X dep bc bs 239 75 [(0, xR o), (2, xI a), (3, xI (l - (zdiv ((g o 10) * (g (o + 9) p)) a))), (4, xI (p + 1))] [] (zst (zst g (o + 10) p (zdiv ((g o 10) * (g (o + 9) p)) a)) (o + 11) p (zrem ((g o 10) * (g (o + 9) p)) a)) Q)
    (k3 : ¬ (8 ≤ p) → ¬ a = 0 → a = 0 → zW mX6_share X dep bc bs 239 75 [(0, xR o), (2, xI a), (3, xI (l - (zdiv ((g o 10) * (g (o + 9) p)) a))), (4, xI (p + 1))] [] (zst (zst g (o + 10) p (zdiv ((g o 10) * (g (o + 9) p)) a)) (o + 11) p 0) Q)
    (k4 : ¬ (8 ≤ p) → a = 0 → ¬ a = 0 → zW mX6_share X dep bc bs 239 75 [(0, xR o), (2, xI a), (3, xI (l - 0)), (4, xI (p + 1))] [] (zst (zst g (o + 10) p 0) (o + 11) p (zrem ((g o 10) * (g (o + 9) p)) a)) Q)
    (k5 : ¬ (8 ≤ p) → a = 0 → a = 0 → zW mX6_share X dep bc bs 239 75 [(0, xR o), (2, xI a), (3, xI (l - 0)), (4, xI (p + 1))] [] (zst (zst g (o + 10) p 0) (o + 11) p 0) Q) : zW mX6_share X dep bc bs 239 75 [(0, xR o), (2, xI a), (3, xI l), (4, xI p)] [] g Q := by
  refine z_iload 3 dX6_share_75 rfl ?_
  refine z_bipush dX6_share_77 (zi32_d rfl) (by decide) ?_
  refine z_icmp_ge (tgt := 156) dX6_share_79 (by decide) (fun c1 => ?_) (fun c1 => ?_)
  ·
    refine z_iconst dX6_share_156 (zi32_d rfl) ?_
    refine z_istore (lv' := [(4, xI 0), (0, xR o), (2, xI a), (3, xI l)]) dX6_share_157 (by decide) rfl ?_
    refine zW.sub (lv' := [(0, xR o), (3, xI l), (4, xI 0)]) [1, 3, 0] rfl ?_
    exact k1 c1
  ·
    refine z_aload_n 0 dX6_share_82 rfl ?_
    refine z_getS (v := (o + 10)) (k := 8) (kz := 8) pk6 dX6_share_83 (by decide) zb_422 rfl ho.1 rfl ho.2.2.2.2.2.2.2.2.2.2.2.2.2.2.2.2.2.2.2.2.2.1 ?_
    refine z_iload 3 dX6_share_86 rfl ?_
    refine z_iload_n 1 dX6_share_88 rfl ?_
    refine z_if_ne (tgt := 96) dX6_share_89 (by decide) (fun c2 => ?_) (fun c2 => ?_)
    ·
      refine z_aload_n 0 dX6_share_96 rfl ?_
      refine z_getI (k := 10) (kz := 10) pk6 dX6_share_97 (by decide) zb_426 rfl ho.1 rfl ?_
      refine z_aload_n 0 dX6_share_100 rfl ?_
      refine z_getS (v := (o + 9)) (k := 7) (kz := 7) pk6 dX6_share_101 (by decide) zb_421 rfl ho.1 rfl ho.2.2.2.2.2.2.2.2.2.2.2.2.2.2.2.2.2.2.2.2.1 ?_
      refine z_iload 3 dX6_share_104 rfl ?_
      refine z_iald dX6_share_106 ho.2.2.2.2.2.2.2.2.2.1 (show 0 ≤ p ∧ p < 8 from ⟨by omega, by omega⟩).1 (show 0 ≤ p ∧ p < 8 from ⟨by omega, by omega⟩).2 ?_
      refine z_imulN dX6_share_107 (show -2147483648 ≤ (g o 10) * (g (o + 9) p) ∧ (g o 10) * (g (o + 9) p) < 2147483648 from ⟨by omega, by omega⟩).1 (show -2147483648 ≤ (g o 10) * (g (o + 9) p) ∧ (g o 10) * (g (o + 9) p) < 2147483648 from ⟨by omega, by omega⟩).2 ?_
      refine z_iload_n 1 dX6_share_108 rfl ?_
      refine z_idiv dX6_share_109 (show a ≠ 0 by omega) ?_
      refine z_iast dX6_share_110 ho.2.2.2.2.2.2.2.2.2.2.1 (show 0 ≤ p ∧ p < 8 from ⟨by omega, by omega⟩).1 (show 0 ≤ p ∧ p < 8 from ⟨by omega, by omega⟩).2 ?_
      refine z_aload_n 0 dX6_share_111 rfl ?_
      refine z_getS (v := (o + 11)) (k := 9) (kz := 9) pk6 dX6_share_112 (by decide) zb_425 rfl ho.1 rfl ho.2.2.2.2.2.2.2.2.2.2.2.2.2.2.2.2.2.2.2.2.2.2.1 ?_
      refine z_iload 3 dX6_share_115 rfl ?_
      refine z_iload_n 1 dX6_share_117 rfl ?_
      refine z_if_ne (tgt := 125) dX6_share_118 (by decide) (fun c3 => ?_) (fun c3 => ?_)
      ·
        refine z_aload_n 0 dX6_share_125 rfl ?_
        refine z_getIV (v := (g o 10)) (k := 10) (kz := 10) pk6 dX6_share_126 (by decide) zb_426 rfl ho.1 rfl (zst_ne (Or.inl (by omega))) ?_
        refine z_aload_n 0 dX6_share_129 rfl ?_
        refine z_getS (v := (o + 9)) (k := 7) (kz := 7) pk6 dX6_share_130 (by decide) zb_421 rfl ho.1 rfl ho.2.2.2.2.2.2.2.2.2.2.2.2.2.2.2.2.2.2.2.2.1 ?_
        refine z_iload 3 dX6_share_133 rfl ?_
        refine z_ialdV (v := (g (o + 9) p)) dX6_share_135 ho.2.2.2.2.2.2.2.2.2.1 (show 0 ≤ p ∧ p < 8 from ⟨by omega, by omega⟩).1 (show 0 ≤ p ∧ p < 8 from ⟨by omega, by omega⟩).2 (zst_ne (Or.inl (by omega))) ?_
        refine z_imulN dX6_share_136 (show -2147483648 ≤ (g o 10) * (g (o + 9) p) ∧ (g o 10) * (g (o + 9) p) < 2147483648 from ⟨by omega, by omega⟩).1 (show -2147483648 ≤ (g o 10) * (g (o + 9) p) ∧ (g o 10) * (g (o + 9) p) < 2147483648 from ⟨by omega, by omega⟩).2 ?_
        refine z_iload_n 1 dX6_share_137 rfl ?_
        refine z_irem dX6_share_138 (show a ≠ 0 by omega) ?_
        refine z_iast dX6_share_139 ho.2.2.2.2.2.2.2.2.2.2.2.1 (show 0 ≤ p ∧ p < 8 from ⟨by omega, by omega⟩).1 (show 0 ≤ p ∧ p < 8 from ⟨by omega, by omega⟩).2 ?_
        refine z_iload_n 2 dX6_share_140 rfl ?_
        refine z_aload_n 0 dX6_share_141 rfl ?_
        refine z_getS (v := (o + 10)) (k := 8) (kz := 8) pk6 dX6_share_142 (by decide) zb_422 rfl ho.1 rfl ho.2.2.2.2.2.2.2.2.2.2.2.2.2.2.2.2.2.2.2.2.2.1 ?_
        refine z_iload 3 dX6_share_145 rfl ?_
        refine z_ialdV (v := (zdiv ((g o 10) * (g (o + 9) p)) a)) dX6_share_147 ho.2.2.2.2.2.2.2.2.2.2.1 (show 0 ≤ p ∧ p < 8 from ⟨by omega, by omega⟩).1 (show 0 ≤ p ∧ p < 8 from ⟨by omega, by omega⟩).2 ((zst_ne (Or.inl (by omega))).trans (zst_self _ _ _ _)) ?_
        refine z_isubN dX6_share_148 (show -2147483648 ≤ l - (zdiv ((g o 10) * (g (o + 9) p)) a) ∧ l - (zdiv ((g o 10) * (g (o + 9) p)) a) < 2147483648 from ⟨by omega, by omega⟩).1 (show -2147483648 ≤ l - (zdiv ((g o 10) * (g (o + 9) p)) a) ∧ l - (zdiv ((g o 10) * (g (o + 9) p)) a) < 2147483648 from ⟨by omega, by omega⟩).2 ?_
        refine z_istore_n (lv' := [(3, xI (l - (zdiv ((g o 10) * (g (o + 9) p)) a))), (0, xR o), (2, xI a), (4, xI p)]) dX6_share_149 (by decide) rfl ?_
        refine z_iincN (lv' := [(4, xI (p + 1)), (3, xI (l - (zdiv ((g o 10) * (g (o + 9) p)) a))), (0, xR o), (2, xI a)]) 3 dX6_share_150 rfl (by decide) rfl (show -2147483648 ≤ p + 1 ∧ p + 1 < 2147483648 from ⟨by omega, by omega⟩).1 (show -2147483648 ≤ p + 1 ∧ p + 1 < 2147483648 from ⟨by omega, by omega⟩).2 ?_
        refine z_goto (tgt := 75) dX6_share_153 (by decide) ?_
        refine zW.sub (lv' := [(0, xR o), (2, xI a), (3, xI (l - (zdiv ((g o 10) * (g (o + 9) p)) a))), (4, xI (p + 1))]) [2, 3, 1, 0] rfl ?_
        exact k2 c1 c2 c3
      ·
        refine z_iconst dX6_share_121 (zi32_d rfl) ?_
        refine z_goto (tgt := 139) dX6_share_122 (by decide) ?_
        refine z_iast dX6_share_139 ho.2.2.2.2.2.2.2.2.2.2.2.1 (show 0 ≤ p ∧ p < 8 from ⟨by omega, by omega⟩).1 (show 0 ≤ p ∧ p < 8 from ⟨by omega, by omega⟩).2 ?_
        refine z_iload_n 2 dX6_share_140 rfl ?_
        refine z_aload_n 0 dX6_share_141 rfl ?_
        refine z_getS (v := (o + 10)) (k := 8) (kz := 8) pk6 dX6_share_142 (by decide) zb_422 rfl ho.1 rfl ho.2.2.2.2.2.2.2.2.2.2.2.2.2.2.2.2.2.2.2.2.2.1 ?_
        refine z_iload 3 dX6_share_145 rfl ?_
        refine z_ialdV (v := (zdiv ((g o 10) * (g (o + 9) p)) a)) dX6_share_147 ho.2.2.2.2.2.2.2.2.2.2.1 (show 0 ≤ p ∧ p < 8 from ⟨by omega, by omega⟩).1 (show 0 ≤ p ∧ p < 8 from ⟨by omega, by omega⟩).2 ((zst_ne (Or.inl (by omega))).trans (zst_self _ _ _ _)) ?_
        refine z_isubN dX6_share_148 (show -2147483648 ≤ l - (zdiv ((g o 10) * (g (o + 9) p)) a) ∧ l - (zdiv ((g o 10) * (g (o + 9) p)) a) < 2147483648 from ⟨by omega, by omega⟩).1 (show -2147483648 ≤ l - (zdiv ((g o 10) * (g (o + 9) p)) a) ∧ l - (zdiv ((g o 10) * (g (o + 9) p)) a) < 2147483648 from ⟨by omega, by omega⟩).2 ?_
        refine z_istore_n (lv' := [(3, xI (l - (zdiv ((g o 10) * (g (o + 9) p)) a))), (0, xR o), (2, xI a), (4, xI p)]) dX6_share_149 (by decide) rfl ?_
        refine z_iincN (lv' := [(4, xI (p + 1)), (3, xI (l - (zdiv ((g o 10) * (g (o + 9) p)) a))), (0, xR o), (2, xI a)]) 3 dX6_share_150 rfl (by decide) rfl (show -2147483648 ≤ p + 1 ∧ p + 1 < 2147483648 from ⟨by omega, by omega⟩).1 (show -2147483648 ≤ p + 1 ∧ p + 1 < 2147483648 from ⟨by omega, by omega⟩).2 ?_
        refine z_goto (tgt := 75) dX6_share_153 (by decide) ?_
        refine zW.sub (lv' := [(0, xR o), (2, xI a), (3, xI (l - (zdiv ((g o 10) * (g (o + 9) p)) a))), (4, xI (p + 1))]) [2, 3, 1, 0] rfl ?_
        exact k3 c1 c2 c3
    ·
      refine z_iconst dX6_share_92 (zi32_d rfl) ?_
      refine z_goto (tgt := 110) dX6_share_93 (by decide) ?_
      refine z_iast dX6_share_110 ho.2.2.2.2.2.2.2.2.2.2.1 (show 0 ≤ p ∧ p < 8 from ⟨by omega, by omega⟩).1 (show 0 ≤ p ∧ p < 8 from ⟨by omega, by omega⟩).2 ?_
      refine z_aload_n 0 dX6_share_111 rfl ?_
      refine z_getS (v := (o + 11)) (k := 9) (kz := 9) pk6 dX6_share_112 (by decide) zb_425 rfl ho.1 rfl ho.2.2.2.2.2.2.2.2.2.2.2.2.2.2.2.2.2.2.2.2.2.2.1 ?_
      refine z_iload 3 dX6_share_115 rfl ?_
      refine z_iload_n 1 dX6_share_117 rfl ?_
      refine z_if_ne (tgt := 125) dX6_share_118 (by decide) (fun c3 => ?_) (fun c3 => ?_)
      ·
        refine z_aload_n 0 dX6_share_125 rfl ?_
        refine z_getIV (v := (g o 10)) (k := 10) (kz := 10) pk6 dX6_share_126 (by decide) zb_426 rfl ho.1 rfl (zst_ne (Or.inl (by omega))) ?_
        refine z_aload_n 0 dX6_share_129 rfl ?_
        refine z_getS (v := (o + 9)) (k := 7) (kz := 7) pk6 dX6_share_130 (by decide) zb_421 rfl ho.1 rfl ho.2.2.2.2.2.2.2.2.2.2.2.2.2.2.2.2.2.2.2.2.1 ?_
        refine z_iload 3 dX6_share_133 rfl ?_
        refine z_ialdV (v := (g (o + 9) p)) dX6_share_135 ho.2.2.2.2.2.2.2.2.2.1 (show 0 ≤ p ∧ p < 8 from ⟨by omega, by omega⟩).1 (show 0 ≤ p ∧ p < 8 from ⟨by omega, by omega⟩).2 (zst_ne (Or.inl (by omega))) ?_
        refine z_imulN dX6_share_136 (show -2147483648 ≤ (g o 10) * (g (o + 9) p) ∧ (g o 10) * (g (o + 9) p) < 2147483648 from ⟨by omega, by omega⟩).1 (show -2147483648 ≤ (g o 10) * (g (o + 9) p) ∧ (g o 10) * (g (o + 9) p) < 2147483648 from ⟨by omega, by omega⟩).2 ?_
        refine z_iload_n 1 dX6_share_137 rfl ?_
        refine z_irem dX6_share_138 (show a ≠ 0 by omega) ?_
        refine z_iast dX6_share_139 ho.2.2.2.2.2.2.2.2.2.2.2.1 (show 0 ≤ p ∧ p < 8 from ⟨by omega, by omega⟩).1 (show 0 ≤ p ∧ p < 8 from ⟨by omega, by omega⟩).2 ?_
        refine z_iload_n 2 dX6_share_140 rfl ?_
        refine z_aload_n 0 dX6_share_141 rfl ?_
        refine z_getS (v := (o + 10)) (k := 8) (kz := 8) pk6 dX6_share_142 (by decide) zb_422 rfl ho.1 rfl ho.2.2.2.2.2.2.2.2.2.2.2.2.2.2.2.2.2.2.2.2.2.1 ?_
        refine z_iload 3 dX6_share_145 rfl ?_
        refine z_ialdV (v := 0) dX6_share_147 ho.2.2.2.2.2.2.2.2.2.2.1 (show 0 ≤ p ∧ p < 8 from ⟨by omega, by omega⟩).1 (show 0 ≤ p ∧ p < 8 from ⟨by omega, by omega⟩).2 ((zst_ne (Or.inl (by omega))).trans (zst_self _ _ _ _)) ?_
        refine z_isubN dX6_share_148 (show -2147483648 ≤ l - 0 ∧ l - 0 < 2147483648 from ⟨by omega, by omega⟩).1 (show -2147483648 ≤ l - 0 ∧ l - 0 < 2147483648 from ⟨by omega, by omega⟩).2 ?_
        refine z_istore_n (lv' := [(3, xI (l - 0)), (0, xR o), (2, xI a), (4, xI p)]) dX6_share_149 (by decide) rfl ?_
        refine z_iincN (lv' := [(4, xI (p + 1)), (3, xI (l - 0)), (0, xR o), (2, xI a)]) 3 dX6_share_150 rfl (by decide) rfl (show -2147483648 ≤ p + 1 ∧ p + 1 < 2147483648 from ⟨by omega, by omega⟩).1 (show -2147483648 ≤ p + 1 ∧ p + 1 < 2147483648 from ⟨by omega, by omega⟩).2 ?_
        refine z_goto (tgt := 75) dX6_share_153 (by decide) ?_
        refine zW.sub (lv' := [(0, xR o), (2, xI a), (3, xI (l - 0)), (4, xI (p + 1))]) [2, 3, 1, 0] rfl ?_
        exact k4 c1 c2 c3
      ·
        refine z_iconst dX6_share_121 (zi32_d rfl) ?_
        refine z_goto (tgt := 139) dX6_share_122 (by decide) ?_
        refine z_iast dX6_share_139 ho.2.2.2.2.2.2.2.2.2.2.2.1 (show 0 ≤ p ∧ p < 8 from ⟨by omega, by omega⟩).1 (show 0 ≤ p ∧ p < 8 from ⟨by omega, by omega⟩).2 ?_
        refine z_iload_n 2 dX6_share_140 rfl ?_
        refine z_aload_n 0 dX6_share_141 rfl ?_
        refine z_getS (v := (o + 10)) (k := 8) (kz := 8) pk6 dX6_share_142 (by decide) zb_422 rfl ho.1 rfl ho.2.2.2.2.2.2.2.2.2.2.2.2.2.2.2.2.2.2.2.2.2.1 ?_
        refine z_iload 3 dX6_share_145 rfl ?_
        refine z_ialdV (v := 0) dX6_share_147 ho.2.2.2.2.2.2.2.2.2.2.1 (show 0 ≤ p ∧ p < 8 from ⟨by omega, by omega⟩).1 (show 0 ≤ p ∧ p < 8 from ⟨by omega, by omega⟩).2 ((zst_ne (Or.inl (by omega))).trans (zst_self _ _ _ _)) ?_
        refine z_isubN dX6_share_148 (show -2147483648 ≤ l - 0 ∧ l - 0 < 2147483648 from ⟨by omega, by omega⟩).1 (show -2147483648 ≤ l - 0 ∧ l - 0 < 2147483648 from ⟨by omega, by omega⟩).2 ?_
        refine z_istore_n (lv' := [(3, xI (l - 0)), (0, xR o), (2, xI a), (4, xI p)]) dX6_share_149 (by decide) rfl ?_
        refine z_iincN (lv' := [(4, xI (p + 1)), (3, xI (l - 0)), (0, xR o), (2, xI a)]) 3 dX6_share_150 rfl (by decide) rfl (show -2147483648 ≤ p + 1 ∧ p + 1 < 2147483648 from ⟨by omega, by omega⟩).1 (show -2147483648 ≤ p + 1 ∧ p + 1 < 2147483648 from ⟨by omega, by omega⟩).2 ?_
        refine z_goto (tgt := 75) dX6_share_153 (by decide) ?_
        refine zW.sub (lv' := [(0, xR o), (2, xI a), (3, xI (l - 0)), (4, xI (p + 1))]) [2, 3, 1, 0] rfl ?_
        exact k5 c1 c2 c3

set_option maxRecDepth 20000 in
theorem bX6_share_159 {X : zX} {dep bc bs : Nat} (o : Int) (l : Int) (n : Int) {g : zH} {Q : Nat → zH → List zV → Prop} (ho : zRollO o) (hn : 0 ≤ n) (hl9 : l ≤ 60) (hq : ∀ p : Int, 0 ≤ p → p < 8 → -1000 ≤ g (o + 10) p ∧ g (o + 10) p ≤ 1000) (hdep : 1 ≤ dep)
    (k1 : l ≤ n → Q 239 g [])
    (k2 : ¬ (l ≤ n) → zW mX6_share X dep bc bs 239 159 [(0, xR o), (3, xI l), (4, xI (n + 1))] [] (zsh1 g o) Q) : zW mX6_share X dep bc bs 239 159 [(0, xR o), (3, xI l), (4, xI n)] [] g Q := by
  refine z_iload 2 dX6_share_159 rfl ?_
  refine z_iload_n 1 dX6_share_161 rfl ?_
  refine z_icmp_ge (tgt := 175) dX6_share_162 (by decide) (fun c1 => ?_) (fun c1 => ?_)
  ·
    exact z_ret dX6_share_175 rfl (k1 c1)
  ·
    refine z_aload_n 0 dX6_share_165 rfl ?_
    refine z_invF (ci := 6) (N := 13) (as := []) (st := []) (ra := []) (dep' := dep - 1) (rs := []) (h' := (zsh1 g o)) (f_X6_shareOneMore o (h := g) ho hq) dX6_share_166 nX6_shareOneMore zb_934 zb_936 zb_29 zb_90 ho.1 rfl (by omega) zne_0 (Nat.le_of_ble_eq_true rfl) (Nat.le_of_ble_eq_true rfl) rfl ?_
    refine z_iincN (lv' := [(4, xI (n + 1)), (0, xR o), (3, xI l)]) 2 dX6_share_169 rfl (by decide) rfl (show -2147483648 ≤ n + 1 ∧ n + 1 < 2147483648 from ⟨by omega, by omega⟩).1 (show -2147483648 ≤ n + 1 ∧ n + 1 < 2147483648 from ⟨by omega, by omega⟩).2 ?_
    refine z_goto (tgt := 159) dX6_share_172 (by decide) ?_
    refine zW.sub (lv' := [(0, xR o), (3, xI l), (4, xI (n + 1))]) [1, 2, 0] rfl ?_
    exact k2 c1

/-- who is listed; how many of a parish among the first; how many are called; the first share and what is left over -/
abbrev zli (h : zH) (o i : Int) : Prop := h (o + 5) i = 4 ∨ h (o + 5) i = 5
noncomputable def zlp (h : zH) (o p : Int) (n : Nat) : Int := zcnt (fun i => zli h o i ∧ h 4 i = p) n
noncomputable def zla (h : zH) (o : Int) (n : Nat) : Int := zcnt (zli h o) n
noncomputable def zcl (h : zH) (o : Int) : Int := min (h (o + 1) 1) (zla h o (h 3 0).toNat)
noncomputable def zq0 (h : zH) (o p : Int) : Int := if zla h o (h 3 0).toNat = 0 then 0 else zdiv (zcl h o * zlp h o p (h 3 0).toNat) (zla h o (h 3 0).toNat)
noncomputable def zr0 (h : zH) (o p : Int) : Int := if zla h o (h 3 0).toNat = 0 then 0 else zrem (zcl h o * zlp h o p (h 3 0).toNat) (zla h o (h 3 0).toNat)
def zsm (f : Int → Int) : Nat → Int
  | 0 => 0
  | k + 1 => zsm f k + f k
def zqr (q r : Int → Int) : Nat → (Int → Int) × (Int → Int)
  | 0 => (q, r)
  | n + 1 => (fun p => if p = zgm (zqr q r n).2 7 then (zqr q r n).1 p + 1 else (zqr q r n).1 p, fun p => if p = zgm (zqr q r n).2 7 then -1 else (zqr q r n).2 p)
noncomputable def zleft (h : zH) (o : Int) : Int := zcl h o - zsm (zq0 h o) 8
noncomputable def zquo (h : zH) (o p : Int) : Int := (zqr (zq0 h o) (zr0 h o) (zleft h o).toNat).1 p
/-- what sharing has changed so far -/
def zSh (h : zH) (o : Int) (g : zH) : Prop := (zap (fun q => q = o ∨ q = o + 9 ∨ q = o + 10 ∨ q = o + 11) h g ∧ ∀ k : Int, k ≠ 10 → g o k = h o k)
theorem zSh.rf (h : zH) (o : Int) : zSh h o h := ⟨zap.rf _ h, fun _ _ => rfl⟩
theorem zSh.st {h g : zH} {o : Int} (a : zSh h o g) {q : Int} (hq : q = o + 9 ∨ q = o + 10 ∨ q = o + 11) (k x : Int) : zSh h o (zst g q k x) :=
  ⟨a.1.st (Or.inr hq) k x, fun k hk => (zst_ne (Or.inl (by omega))).trans (a.2 k hk)⟩
theorem zSh.st0 {h g : zH} {o : Int} (a : zSh h o g) (x : Int) : zSh h o (zst g o 10 x) :=
  ⟨a.1.st (Or.inl rfl) 10 x, fun k hk => (zst_ne (Or.inr hk)).trans (a.2 k hk)⟩
theorem zSh.eq {h g : zH} {o : Int} (a : zSh h o g) {q : Int} (hq : q < o ∨ o < q ∧ q < o + 9 ∨ o + 11 < q) (k : Int) : g q k = h q k := a.1 q k (by omega)
theorem zSh.one {h g : zH} {o : Int} (a : zSh h o g) : zSh h o (zsh1 g o) := (a.st (Or.inr (Or.inl rfl)) _ _).st (Or.inr (Or.inr rfl)) _ _
theorem zlp_in (h : zH) (o p : Int) (n : Nat) : 0 ≤ zlp h o p n ∧ zlp h o p n ≤ n := zcnt_in _ n
theorem zla_in (h : zH) (o : Int) (n : Nat) : 0 ≤ zla h o n ∧ zla h o n ≤ n := zcnt_in _ n
theorem zlp_le (h : zH) (o p : Int) : ∀ n : Nat, zlp h o p n ≤ zla h o n
  | 0 => Int.le_refl _
  | k + 1 => by
    have ih := zlp_le h o p k
    unfold zlp zla at ih ⊢
    by_cases c : zli h o k
    · rw [zcnt_1 (P := zli h o) (k := k) c]
      by_cases d : h 4 k = p
      · rw [zcnt_1 (P := fun i => zli h o i ∧ h 4 i = p) (k := k) ⟨c, d⟩]
        omega
      · rw [zcnt_0 (P := fun i => zli h o i ∧ h 4 i = p) (k := k) (fun z => d z.2)]
        omega
    · rw [zcnt_0 (P := zli h o) (k := k) c, zcnt_0 (P := fun i => zli h o i ∧ h 4 i = p) (k := k) (fun z => c z.1)]
      exact ih
theorem l_X6_share_12 {X : zX} {dep : Nat} {Q : Nat → zH → List zV → Prop} (o : Int) {h : zH} (ho : zRollO o) (hb : 113 ≤ o ∧ o ≤ 155) (h3 : 0 ≤ h 3 0 ∧ h 3 0 ≤ 60) (hp : ∀ i : Int, 0 ≤ i → i < h 3 0 → 0 ≤ h 4 i ∧ h 4 i < 8) (hdep : 1 ≤ dep)
    (K : ∀ g : zH, zSh h o g → (∀ p : Int, 0 ≤ p → p < 8 → g (o + 9) p = zlp h o p (h 3 0).toNat) → zW mX6_share X dep 0 0 239 52 [(0, xR o), (1, xR 3), (2, xI (zla h o (h 3 0).toNat))] [] g Q) :
    ∀ (k j : Nat) (g : zH), (j : Int) + k = h 3 0 → zSh h o g → (∀ p : Int, 0 ≤ p → p < 8 → g (o + 9) p = zlp h o p j) → zW mX6_share X dep 0 0 239 12 [(0, xR o), (1, xR 3), (2, xI (zla h o j)), (3, xI j)] [] g Q := by
  intro k
  induction k with
  | zero =>
    intro j g hk a hl
    have e3 := a.eq (q := 3) (by omega) 0
    have := zla_in h o j
    refine bX6_share_12 o _ j ho (by rw [e3]; exact h3) (by omega) (by omega) (fun z => by omega) (fun z => by omega) hdep ?_ ?_ ?_
    · intro c
      have hj : (h 3 0).toNat = j := by omega
      rw [hj] at K
      exact K g a hl
    all_goals intros; exfalso; omega
  | succ k ih =>
    intro j g hk a hl
    have e3 := a.eq (q := 3) (by omega) 0
    have e4 := a.eq (q := 4) (by omega) j
    have e5 := a.eq (q := o + 5) (by omega) j
    have hpj := hp j (by omega) (by omega)
    have lj := hl _ hpj.1 hpj.2
    have lb := zlp_in h o (h 4 j) j
    have := zla_in h o j
    refine bX6_share_12 o _ j ho (by rw [e3]; exact h3) (by omega) (by omega) (fun z => by rw [e4]; exact hpj) (fun z => by rw [e4]; omega) hdep ?_ ?_ ?_
    · intro c; exfalso; omega
    · intro c c1
      rw [e5] at c1
      have ih1 := ih (j + 1) g (by omega) a (fun p p0 p1 => by
        rw [hl p p0 p1]
        exact (zcnt_0 (P := fun i => zli h o i ∧ h 4 i = p) (k := j) (fun z => c1 z.1)).symm)
      rw [show ((j + 1 : Nat) : Int) = (j : Int) + 1 by omega] at ih1
      unfold zla at ih1 ⊢
      rw [zcnt_0 (P := zli h o) (k := j) c1] at ih1
      exact ih1
    · intro c c1
      rw [e5] at c1
      rw [e4, lj]
      have ih1 := ih (j + 1) (zst g (o + 9) (h 4 j) (zlp h o (h 4 j) j + 1)) (by omega) (a.st (Or.inl rfl) _ _) (fun p p0 p1 => by
        by_cases d : p = h 4 j
        · rw [d, zst_self]
          exact (zcnt_1 (P := fun i => zli h o i ∧ h 4 i = h 4 j) (k := j) ⟨c1, rfl⟩).symm
        · rw [zst_ne (Or.inr d), hl p p0 p1]
          exact (zcnt_0 (P := fun i => zli h o i ∧ h 4 i = p) (k := j) (fun z => d z.2.symm)).symm)
      rw [show ((j + 1 : Nat) : Int) = (j : Int) + 1 by omega] at ih1
      unfold zla at ih1 ⊢
      rw [zcnt_1 (P := zli h o) (k := j) c1] at ih1
      exact ih1
theorem zq0_in (h : zH) (o p : Int) (h3 : 0 ≤ h 3 0 ∧ h 3 0 ≤ 60) (hw : 0 ≤ h (o + 1) 1) : 0 ≤ zq0 h o p ∧ zq0 h o p ≤ 60 := by
  have l1 := zlp_in h o p (h 3 0).toNat
  have l2 := zla_in h o (h 3 0).toNat
  have l3 := zlp_le h o p (h 3 0).toNat
  have c1 : 0 ≤ zcl h o ∧ zcl h o ≤ zla h o (h 3 0).toNat := by unfold zcl; omega
  unfold zq0
  by_cases c : zla h o (h 3 0).toNat = 0
  · rw [if_pos c]; omega
  · rw [if_neg c]
    have m0 : 0 ≤ zcl h o * zlp h o p (h 3 0).toNat := Int.mul_nonneg c1.1 l1.1
    have m1 : zcl h o * zlp h o p (h 3 0).toNat ≤ zla h o (h 3 0).toNat * 60 := Int.mul_le_mul c1.2 (by omega) l1.1 l2.1
    rw [zdiv_eq m0 (by omega) (by omega) (by omega)]
    refine ⟨Int.ediv_nonneg m0 l2.1, ?_⟩
    have := Int.ediv_le_ediv (show (0 : Int) < zla h o (h 3 0).toNat by omega) m1
    rw [Int.mul_ediv_cancel_left _ c] at this
    exact this
theorem zsm_in {f : Int → Int} {b : Int} (hf : ∀ p : Int, 0 ≤ f p ∧ f p ≤ b) (hb : 0 ≤ b) : ∀ n : Nat, 0 ≤ zsm f n ∧ zsm f n ≤ n * b
  | 0 => ⟨Int.le_refl _, by simp [zsm]⟩
  | k + 1 => by
    have i1 := zsm_in hf hb k
    have i2 := hf k
    unfold zsm
    rw [show ((k + 1 : Nat) : Int) * b = k * b + b by rw [Int.natCast_add, Int.add_mul]; simp]
    omega
theorem l_X6_share_75 {X : zX} {dep : Nat} {Q : Nat → zH → List zV → Prop} (o : Int) {h : zH} (ho : zRollO o) (hb : 113 ≤ o ∧ o ≤ 155) (h3 : 0 ≤ h 3 0 ∧ h 3 0 ≤ 60) (hw : 0 ≤ h (o + 1) 1)
    (K : ∀ g : zH, zSh h o g → g o 10 = zcl h o → (∀ p : Int, 0 ≤ p → p < 8 → g (o + 10) p = zq0 h o p ∧ g (o + 11) p = zr0 h o p) → zW mX6_share X dep 0 0 239 159 [(0, xR o), (3, xI (zleft h o)), (4, xI 0)] [] g Q) :
    ∀ (k j : Nat) (g : zH), j + k = 8 → zSh h o g → g o 10 = zcl h o → (∀ p : Int, 0 ≤ p → p < 8 → g (o + 9) p = zlp h o p (h 3 0).toNat) → (∀ p : Int, 0 ≤ p → p < j → g (o + 10) p = zq0 h o p ∧ g (o + 11) p = zr0 h o p) → zW mX6_share X dep 0 0 239 75 [(0, xR o), (2, xI (zla h o (h 3 0).toNat)), (3, xI (zcl h o - zsm (zq0 h o) j)), (4, xI j)] [] g Q := by
  have l2 := zla_in h o (h 3 0).toNat
  have c1 : 0 ≤ zcl h o ∧ zcl h o ≤ zla h o (h 3 0).toNat := by unfold zcl; omega
  have hz := zsm_in (f := zq0 h o) (b := 60) (fun p => zq0_in h o p h3 hw) (by omega)
  intro k
  induction k with
  | zero =>
    intro j g hk a hc hl hq
    have z1 := hz j
    obtain rfl : j = 8 := by omega
    refine bX6_share_75 o _ _ _ ho (by omega) (by omega) (fun z => by omega) (fun z => by omega) (fun z => by omega) (by omega) ?_ ?_ ?_ ?_ ?_
    · intro c
      exact K g a hc hq
    all_goals intros; exfalso; omega
  | succ k ih =>
    intro j g hk a hc hl hq
    have z1 := hz j
    have lj := hl j (by omega) (by omega)
    have l1 := zlp_in h o j (h 3 0).toNat
    have m0 : 0 ≤ zcl h o * zlp h o j (h 3 0).toNat := Int.mul_nonneg c1.1 l1.1
    have m1 : zcl h o * zlp h o j (h 3 0).toNat ≤ 60 * 60 := Int.mul_le_mul (by omega) (by omega) l1.1 (by omega)
    have q1 := zq0_in h o j h3 hw
    refine bX6_share_75 o _ _ _ ho (by omega) (by omega) (fun z => by omega) (fun z => by rw [hc, lj]; omega) (fun z1 z2 => by
      rw [hc, lj]
      unfold zq0 at q1
      rw [if_neg z2] at q1
      omega) (by omega) ?_ ?_ ?_ ?_ ?_
    · intro c; exfalso; omega
    · intro c c2 _
      rw [hc, lj]
      have eq : zq0 h o j = zdiv (zcl h o * zlp h o j (h 3 0).toNat) (zla h o (h 3 0).toNat) := by unfold zq0; rw [if_neg c2]
      have er : zr0 h o j = zrem (zcl h o * zlp h o j (h 3 0).toNat) (zla h o (h 3 0).toNat) := by unfold zr0; rw [if_neg c2]
      rw [← eq, ← er]
      have ih1 := ih (j + 1) (zst (zst g (o + 10) j (zq0 h o j)) (o + 11) j (zr0 h o j)) (by omega) ((a.st (Or.inr (Or.inl rfl)) _ _).st (Or.inr (Or.inr rfl)) _ _) (by rw [zst_ne (Or.inl (by omega)), zst_ne (Or.inl (by omega))]; exact hc) (fun p p0 p1 => by rw [zst_ne (Or.inl (by omega)), zst_ne (Or.inl (by omega))]; exact hl p p0 p1) (fun p p0 p1 => by
        by_cases d : p = j
        · rw [d, zst_self, zst_ne (Or.inl (by omega)), zst_self]
          exact ⟨rfl, rfl⟩
        · rw [zst_ne (o' := o + 11) (o := o + 11) (Or.inr d), zst_ne (o' := o + 10) (o := o + 11) (Or.inl (by omega)), zst_ne (o' := o + 11) (o := o + 10) (Or.inl (by omega)), zst_ne (o' := o + 10) (o := o + 10) (Or.inr d)]
          exact hq p p0 (by omega))
      unfold zsm at ih1
      rw [show ((j + 1 : Nat) : Int) = (j : Int) + 1 by omega, show zcl h o - (zsm (zq0 h o) j + zq0 h o j) = zcl h o - zsm (zq0 h o) j - zq0 h o j by omega] at ih1
      exact ih1
    · intro _ c2 c3; exact absurd c3 c2
    · intro _ c2 c3; exact absurd c2 c3
    · intro c c2 _
      have eq : zq0 h o j = 0 := by unfold zq0; rw [if_pos c2]
      have er : zr0 h o j = 0 := by unfold zr0; rw [if_pos c2]
      have ih1 := ih (j + 1) (zst (zst g (o + 10) j (zq0 h o j)) (o + 11) j (zr0 h o j)) (by omega) ((a.st (Or.inr (Or.inl rfl)) _ _).st (Or.inr (Or.inr rfl)) _ _) (by rw [zst_ne (Or.inl (by omega)), zst_ne (Or.inl (by omega))]; exact hc) (fun p p0 p1 => by rw [zst_ne (Or.inl (by omega)), zst_ne (Or.inl (by omega))]; exact hl p p0 p1) (fun p p0 p1 => by
        by_cases d : p = j
        · rw [d, zst_self, zst_ne (Or.inl (by omega)), zst_self]
          exact ⟨rfl, rfl⟩
        · rw [zst_ne (o' := o + 11) (o := o + 11) (Or.inr d), zst_ne (o' := o + 10) (o := o + 11) (Or.inl (by omega)), zst_ne (o' := o + 11) (o := o + 10) (Or.inl (by omega)), zst_ne (o' := o + 10) (o := o + 10) (Or.inr d)]
          exact hq p p0 (by omega))
      unfold zsm at ih1
      rw [show ((j + 1 : Nat) : Int) = (j : Int) + 1 by omega, show zcl h o - (zsm (zq0 h o) j + zq0 h o j) = zcl h o - zsm (zq0 h o) j - 0 by omega, eq, er] at ih1
      exact ih1
theorem zqr_s1 (q r : Int → Int) (n : Nat) (p : Int) : (zqr q r (n + 1)).1 p = if p = zgm (zqr q r n).2 7 then (zqr q r n).1 p + 1 else (zqr q r n).1 p := rfl
theorem zqr_s2 (q r : Int → Int) (n : Nat) (p : Int) : (zqr q r (n + 1)).2 p = if p = zgm (zqr q r n).2 7 then -1 else (zqr q r n).2 p := rfl
theorem zqr_in {q r : Int → Int} (hq : ∀ p : Int, 0 ≤ q p ∧ q p ≤ 60) : ∀ (n : Nat) (p : Int), 0 ≤ (zqr q r n).1 p ∧ (zqr q r n).1 p ≤ 60 + n
  | 0, p => by
    have := hq p
    show 0 ≤ q p ∧ q p ≤ 60 + ((0 : Nat) : Int)
    omega
  | n + 1, p => by
    have := zqr_in (r := r) hq n p
    rw [zqr_s1]
    split <;> omega
theorem l_X6_share_159 {X : zX} {dep : Nat} (o : Int) {h : zH} (ho : zRollO o) (hb : 113 ≤ o ∧ o ≤ 155) (h3 : 0 ≤ h 3 0 ∧ h 3 0 ≤ 60) (hw : 0 ≤ h (o + 1) 1) (hdep : 1 ≤ dep) :
    ∀ (k n : Nat) (g : zH), n + k = (zleft h o).toNat → zSh h o g → g o 10 = zcl h o → (∀ p : Int, 0 ≤ p → p < 8 → g (o + 10) p = (zqr (zq0 h o) (zr0 h o) n).1 p ∧ g (o + 11) p = (zqr (zq0 h o) (zr0 h o) n).2 p) → zW mX6_share X dep 0 0 239 159 [(0, xR o), (3, xI (zleft h o)), (4, xI n)] [] g (zQ0 (fun g => zSh h o g ∧ g o 10 = zcl h o ∧ ∀ p : Int, 0 ≤ p → p < 8 → g (o + 10) p = zquo h o p)) := by
  have l2 := zla_in h o (h 3 0).toNat
  have c1 : 0 ≤ zcl h o ∧ zcl h o ≤ zla h o (h 3 0).toNat := by unfold zcl; omega
  have hz := zsm_in (f := zq0 h o) (b := 60) (fun p => zq0_in h o p h3 hw) (by omega) 8
  have hle : zleft h o ≤ 60 := by unfold zleft; omega
  have qb : ∀ (n : Nat), n ≤ 60 → ∀ g : zH, (∀ p : Int, 0 ≤ p → p < 8 → g (o + 10) p = (zqr (zq0 h o) (zr0 h o) n).1 p ∧ g (o + 11) p = (zqr (zq0 h o) (zr0 h o) n).2 p) → ∀ p : Int, 0 ≤ p → p < 8 → -1000 ≤ g (o + 10) p ∧ g (o + 10) p ≤ 1000 := fun n hn g hq p p0 p1 => by
    have := zqr_in (q := zq0 h o) (r := zr0 h o) (fun p => zq0_in h o p h3 hw) n p
    rw [(hq p p0 p1).1]
    omega
  intro k
  induction k with
  | zero =>
    intro n g hk a hc hq
    refine bX6_share_159 o _ n ho (by omega) hle (qb n (by omega) g hq) hdep ?_ ?_
    · intro c
      refine ⟨rfl, rfl, a, hc, fun p p0 p1 => ?_⟩
      rw [(hq p p0 p1).1]
      unfold zquo
      rw [show (zleft h o).toNat = n by omega]
    · intros; exfalso; omega
  | succ k ih =>
    intro n g hk a hc hq
    refine bX6_share_159 o _ n ho (by omega) hle (qb n (by omega) g hq) hdep ?_ ?_
    · intros; exfalso; omega
    · intro c
      have eg : zgm (g (o + 11)) 7 = zgm (zqr (zq0 h o) (zr0 h o) n).2 7 := zgm_ag 7 (fun i i0 i1 => (hq i i0 (by omega)).2)
      have gi := zgm_in (zqr (zq0 h o) (zr0 h o) n).2 7
      have ih1 := ih (n + 1) (zsh1 g o) (by omega) a.one (by
        unfold zsh1
        rw [zst_ne (Or.inl (by omega)), zst_ne (Or.inl (by omega))]
        exact hc) (fun p p0 p1 => by
        have q1 := hq p p0 p1
        unfold zsh1
        rw [eg, zst_ne (o' := o + 10) (o := o + 11) (Or.inl (by omega))]
        rw [zqr_s1, zqr_s2]
        by_cases d : p = zgm (zqr (zq0 h o) (zr0 h o) n).2 7
        · rw [if_pos d, if_pos d, ← d, zst_self, zst_self, q1.1]
          exact ⟨rfl, rfl⟩
        · rw [if_neg d, if_neg d, zst_ne (Or.inr d), zst_ne (o' := o + 11) (o := o + 11) (Or.inr d), zst_ne (Or.inl (by omega))]
          exact q1)
      rw [show ((n + 1 : Nat) : Int) = (n : Int) + 1 by omega] at ih1
      exact ih1
theorem f_X6_share {X : zX} {dep : Nat} (o : Int) {h : zH} (ho : zRollO o) (hb : 113 ≤ o ∧ o ≤ 155) (h3 : 0 ≤ h 3 0 ∧ h 3 0 ≤ 60) (hp : ∀ i : Int, 0 ≤ i → i < h 3 0 → 0 ≤ h 4 i ∧ h 4 i < 8) (hw : 0 ≤ h (o + 1) 1) (hdep : 1 ≤ dep) :
    zW mX6_share X dep 0 0 239 0 (zar 0 [xR o, xR 3]) [] h (zQ0 (fun g => zSh h o g ∧ g o 10 = zcl h o ∧ ∀ p : Int, 0 ≤ p → p < 8 → g (o + 10) p = zquo h o p)) := by
  refine bX6_share_0 o ho hdep ?_
  refine l_X6_share_12 o ho hb h3 hp hdep (fun g a hl => ?_) (h 3 0).toNat 0 _ (by omega) ⟨zfill_ap (zap.rf _ h) (Or.inr (Or.inl rfl)) 0 8, fun k hk => ?_⟩ (fun p p0 p1 => ?_)
  · refine bX6_share_52 o _ ho hdep ?_
    rw [a.eq (q := o + 1) (by omega) 1]
    have go := l_X6_share_75 (X := X) (dep := dep) o ho hb h3 hw (fun g a hc hq => l_X6_share_159 o ho hb h3 hw hdep (zleft h o).toNat 0 g (by omega) a hc hq) 8 0 (zst g o 10 (zcl h o)) rfl (a.st0 _) (zst_self _ _ _ _) (fun p p0 p1 => by rw [zst_ne (Or.inl (by omega))]; exact hl p p0 p1) (fun p p0 p1 => by omega)
    rw [show zcl h o - zsm (zq0 h o) 0 = zcl h o by unfold zsm; omega] at go
    exact go
  · unfold zfill
    rw [if_neg (by omega)]
  · unfold zfill
    rw [if_pos ⟨rfl, p0, p1⟩]
    rfl
