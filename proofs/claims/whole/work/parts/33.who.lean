/-! who is who -/
/-- g is h but in the objects S -/
def zag (S : List Int) (h g : zH) : Prop := ∀ o k : Int, o ∉ S → g o k = h o k
theorem zag.rf (S : List Int) (h : zH) : zag S h h := fun _ _ _ => rfl
theorem zag.st {S : List Int} {h g : zH} (a : zag S h g) {o : Int} (ho : o ∈ S) (k x : Int) : zag S h (zst g o k x) := fun o' k' hn => by
  rw [zst_ne (o' := o') (k' := k') (Or.inl (fun e => hn (by rw [e]; exact ho)))]
  exact a o' k' hn
theorem zag.tr {S : List Int} {h g f : zH} (a : zag S h g) (b : zag S g f) : zag S h f := fun o k hn => (b o k hn).trans (a o k hn)
theorem zag.mono {S S' : List Int} {h g : zH} (a : zag S h g) (hs : ∀ o ∈ S, o ∈ S') : zag S' h g := fun o k hn => a o k (fun z => hn (hs o z))
theorem zst_or (h : zH) (o k x k' : Int) : zst h o k x o k' = if k' = k then x else h o k' := by
  by_cases e : k' = k
  · rw [e, zst_self, if_pos rfl]
  · rw [zst_ne (Or.inr e), if_neg e]
theorem zget_ag {S : List Int} {h g : zH} (a : zag S h g) {o r c : Int} (h1 : o ∉ S) (h2 : o + 1 ∉ S) : zget g o r c = zget h o r c := by
  unfold zget
  rw [a o 2 h1, a (o + 1) _ h2]
theorem zkn_ag {S : List Int} {h g : zH} (a : zag S h g) {o t : Int} (h2 : o + 1 ∉ S) : ∀ k : Nat, zkn g o t k = zkn h o t k
  | 0 => rfl
  | k + 1 => by
    unfold zkn
    rw [a (o + 1) _ h2, zkn_ag a h2 k]
theorem zknown_ag {S : List Int} {h g : zH} (a : zag S h g) {o t : Int} (h1 : o ∉ S) (h2 : o + 1 ∉ S) : zknown g o t = zknown h o t := by
  unfold zknown
  rw [a o 2 h1, zkn_ag a h2]
theorem zkn_le (h : zH) (o t : Int) : ∀ k : Nat, 0 ≤ zkn h o t k ∧ zkn h o t k ≤ k
  | 0 => ⟨Int.le_refl _, Int.le_refl _⟩
  | k + 1 => by
    have ih := zkn_le h o t k
    unfold zkn
    split <;> omega
theorem zknown_le {h : zH} {o t : Int} (hs : 0 ≤ h o 2) : 0 ≤ zknown h o t ∧ zknown h o t ≤ h o 2 := by
  have := zkn_le h o t (h o 2).toNat
  unfold zknown
  omega
theorem zget_in {h : zH} {o r c : Int} (h1 : 0 ≤ r) (h2 : r < h o 2) (h3 : 0 ≤ c) (h4 : c < 6) : zget h o r c = h (o + 1) (r * 6 + c) := if_pos ⟨h1, h2, h3, h4⟩
/-- the man of a name, by the first rows of what was told -/
def zwho (h : zH) : Nat → Int → Int
  | 0, m => m
  | r + 1, m => if zwho h r m = max (zwho h r (zget h 13 r 1)) (zwho h r (zget h 13 r 2)) then min (zwho h r (zget h 13 r 1)) (zwho h r (zget h 13 r 2)) else zwho h r m
/-- what is told of SAMES names men -/
def zSameOK (h : zH) : Prop := (0 ≤ h 13 2 ∧ h 13 2 ≤ 40) ∧ ∀ r : Int, 0 ≤ r → r < h 13 2 → (0 ≤ zget h 13 r 1 ∧ zget h 13 r 1 < h 3 0) ∧ 0 ≤ zget h 13 r 2 ∧ zget h 13 r 2 < h 3 0
theorem zwho_in {h : zH} (hs : zSameOK h) : ∀ (r : Nat), (r : Int) ≤ h 13 2 → ∀ m : Int, 0 ≤ m → m < h 3 0 → 0 ≤ zwho h r m ∧ zwho h r m < h 3 0
  | 0, _, m, h0, h1 => ⟨h0, h1⟩
  | r + 1, hr, m, h0, h1 => by
    have i1 := zwho_in hs r (by omega) m h0 h1
    have e := hs.2 r (by omega) (by omega)
    have i2 := zwho_in hs r (by omega) _ e.1.1 e.1.2
    have i3 := zwho_in hs r (by omega) _ e.2.1 e.2.2
    unfold zwho
    split
    · omega
    · exact i1

set_option maxRecDepth 20000 in
theorem bX4_lookWho_2 {X : zX} {dep bc bs : Nat} (i : Int) {g : zH} {Q : Nat → zH → List zV → Prop} (hm : 0 ≤ g 3 0 ∧ g 3 0 ≤ 60) (hi : 0 ≤ i)
    (k1 : (g 3 0) ≤ i → zW mX4_lookWho X dep bc bs 239 23 [(0, xR 3)] [] g Q)
    (k2 : ¬ ((g 3 0) ≤ i) → zW mX4_lookWho X dep bc bs 239 2 [(0, xR 3), (1, xI (i + 1))] [] (zst g 17 i i) Q) : zW mX4_lookWho X dep bc bs 239 2 [(0, xR 3), (1, xI i)] [] g Q := by
  refine z_iload_n 1 dX4_lookWho_2 rfl ?_
  refine z_aload_n 0 dX4_lookWho_3 rfl ?_
  refine z_getI (k := 0) (kz := 0) pk4 dX4_lookWho_4 (by decide) zb_154 rfl (zOb.lit (by decide +kernel)) rfl ?_
  refine z_icmp_ge (tgt := 23) dX4_lookWho_7 (by decide) (fun c1 => ?_) (fun c1 => ?_)
  ·
    refine zW.sub (lv' := [(0, xR 3)]) [0] rfl ?_
    exact k1 c1
  ·
    refine z_aload_n 0 dX4_lookWho_10 rfl ?_
    refine z_getS (v := 17) (k := 10) (kz := 10) pk4 dX4_lookWho_11 (by decide) zb_177 rfl (zOb.lit (by decide +kernel)) rfl (by decide +kernel) ?_
    refine z_iload_n 1 dX4_lookWho_14 rfl ?_
    refine z_iload_n 1 dX4_lookWho_15 rfl ?_
    refine z_iast dX4_lookWho_16 (zOb.lit (by decide +kernel)) (show 0 ≤ i ∧ i < 60 from ⟨by omega, by omega⟩).1 (show 0 ≤ i ∧ i < 60 from ⟨by omega, by omega⟩).2 ?_
    refine z_iincN (lv' := [(1, xI (i + 1)), (0, xR 3)]) 1 dX4_lookWho_17 rfl (by decide) rfl (show -2147483648 ≤ i + 1 ∧ i + 1 < 2147483648 from ⟨by omega, by omega⟩).1 (show -2147483648 ≤ i + 1 ∧ i + 1 < 2147483648 from ⟨by omega, by omega⟩).2 ?_
    refine z_goto (tgt := 2) dX4_lookWho_20 (by decide) ?_
    refine zW.sub (lv' := [(0, xR 3), (1, xI (i + 1))]) [1, 0] rfl ?_
    exact k2 c1

theorem l_X4_lookWho_2 {X : zX} {dep : Nat} {h : zH} {Q : Nat → zH → List zV → Prop} (hm : 0 ≤ h 3 0 ∧ h 3 0 ≤ 60)
    (kx : ∀ g : zH, zag [17] h g → (∀ m, 0 ≤ m → m < h 3 0 → g 17 m = m) → zW mX4_lookWho X dep 0 0 239 23 [(0, xR 3)] [] g Q) :
    ∀ (k : Nat) (i : Int) (g : zH), 0 ≤ i → i + k = h 3 0 → zag [17] h g → (∀ m, 0 ≤ m → m < i → g 17 m = m) → zW mX4_lookWho X dep 0 0 239 2 [(0, xR 3), (1, xI i)] [] g Q := by
  intro k
  induction k with
  | zero =>
    intro i g h0 hk ha hi
    have e3 := ha 3 0 (by decide)
    refine bX4_lookWho_2 i (by rw [e3]; exact hm) h0 ?_ ?_
    · intro c
      exact kx g ha (fun m q1 q2 => hi m q1 (by omega))
    · intro c
      rw [e3] at c
      exfalso
      omega
  | succ k ih =>
    intro i g h0 hk ha hi
    have e3 := ha 3 0 (by decide)
    refine bX4_lookWho_2 i (by rw [e3]; exact hm) h0 ?_ ?_
    · intro c
      rw [e3] at c
      exfalso
      omega
    · intro c
      refine ih (i + 1) _ (by omega) (by omega) (ha.st (by decide) _ _) (fun m q1 q2 => ?_)
      rw [zst_or]
      split
      · omega
      · exact hi m q1 (by omega)

set_option maxRecDepth 20000 in
theorem bX4_lookWho_92 {X : zX} {dep bc bs : Nat} (i : Int) (mx : Int) (mn : Int) (r : Int) (n : Int) {g : zH} {Q : Nat → zH → List zV → Prop} (hm : 0 ≤ g 3 0 ∧ g 3 0 ≤ 60) (hi : 0 ≤ i) (hr : 0 ≤ r ∧ r < 100)
    (k1 : (g 3 0) ≤ i → zW mX4_lookWho X dep bc bs 239 37 [(0, xR 3), (1, xI n), (2, xI (r + 1))] [] g Q)
    (k2 : ¬ ((g 3 0) ≤ i) → ¬ (g 17 i) = mx → zW mX4_lookWho X dep bc bs 239 92 [(0, xR 3), (1, xI n), (2, xI r), (5, xI mn), (6, xI mx), (7, xI (i + 1))] [] (zst g 17 i (g 17 i)) Q)
    (k3 : ¬ ((g 3 0) ≤ i) → (g 17 i) = mx → zW mX4_lookWho X dep bc bs 239 92 [(0, xR 3), (1, xI n), (2, xI r), (5, xI mn), (6, xI mx), (7, xI (i + 1))] [] (zst g 17 i mn) Q) : zW mX4_lookWho X dep bc bs 239 92 [(0, xR 3), (1, xI n), (2, xI r), (5, xI mn), (6, xI mx), (7, xI i)] [] g Q := by
  refine z_iload 5 dX4_lookWho_92 rfl ?_
  refine z_aload_n 0 dX4_lookWho_94 rfl ?_
  refine z_getI (k := 0) (kz := 0) pk4 dX4_lookWho_95 (by decide) zb_154 rfl (zOb.lit (by decide +kernel)) rfl ?_
  refine z_icmp_ge (tgt := 138) dX4_lookWho_98 (by decide) (fun c1 => ?_) (fun c1 => ?_)
  ·
    refine z_iincN (lv' := [(2, xI (r + 1)), (0, xR 3), (1, xI n), (5, xI mn), (6, xI mx), (7, xI i)]) 2 dX4_lookWho_138 rfl (by decide) rfl (show -2147483648 ≤ r + 1 ∧ r + 1 < 2147483648 from ⟨by omega, by omega⟩).1 (show -2147483648 ≤ r + 1 ∧ r + 1 < 2147483648 from ⟨by omega, by omega⟩).2 ?_
    refine z_goto (tgt := 37) dX4_lookWho_141 (by decide) ?_
    refine zW.sub (lv' := [(0, xR 3), (1, xI n), (2, xI (r + 1))]) [1, 2, 0] rfl ?_
    exact k1 c1
  ·
    refine z_aload_n 0 dX4_lookWho_101 rfl ?_
    refine z_getS (v := 17) (k := 10) (kz := 10) pk4 dX4_lookWho_102 (by decide) zb_177 rfl (zOb.lit (by decide +kernel)) rfl (by decide +kernel) ?_
    refine z_iload 5 dX4_lookWho_105 rfl ?_
    refine z_aload_n 0 dX4_lookWho_107 rfl ?_
    refine z_getS (v := 17) (k := 10) (kz := 10) pk4 dX4_lookWho_108 (by decide) zb_177 rfl (zOb.lit (by decide +kernel)) rfl (by decide +kernel) ?_
    refine z_iload 5 dX4_lookWho_111 rfl ?_
    refine z_iald dX4_lookWho_113 (zOb.lit (by decide +kernel)) (show 0 ≤ i ∧ i < 60 from ⟨by omega, by omega⟩).1 (show 0 ≤ i ∧ i < 60 from ⟨by omega, by omega⟩).2 ?_
    refine z_iload 4 dX4_lookWho_114 rfl ?_
    refine z_icmp_ne (tgt := 124) dX4_lookWho_116 (by decide) (fun c2 => ?_) (fun c2 => ?_)
    ·
      refine z_aload_n 0 dX4_lookWho_124 rfl ?_
      refine z_getS (v := 17) (k := 10) (kz := 10) pk4 dX4_lookWho_125 (by decide) zb_177 rfl (zOb.lit (by decide +kernel)) rfl (by decide +kernel) ?_
      refine z_iload 5 dX4_lookWho_128 rfl ?_
      refine z_iald dX4_lookWho_130 (zOb.lit (by decide +kernel)) (show 0 ≤ i ∧ i < 60 from ⟨by omega, by omega⟩).1 (show 0 ≤ i ∧ i < 60 from ⟨by omega, by omega⟩).2 ?_
      refine z_iast dX4_lookWho_131 (zOb.lit (by decide +kernel)) (show 0 ≤ i ∧ i < 60 from ⟨by omega, by omega⟩).1 (show 0 ≤ i ∧ i < 60 from ⟨by omega, by omega⟩).2 ?_
      refine z_iincN (lv' := [(7, xI (i + 1)), (0, xR 3), (1, xI n), (2, xI r), (5, xI mn), (6, xI mx)]) 5 dX4_lookWho_132 rfl (by decide) rfl (show -2147483648 ≤ i + 1 ∧ i + 1 < 2147483648 from ⟨by omega, by omega⟩).1 (show -2147483648 ≤ i + 1 ∧ i + 1 < 2147483648 from ⟨by omega, by omega⟩).2 ?_
      refine z_goto (tgt := 92) dX4_lookWho_135 (by decide) ?_
      refine zW.sub (lv' := [(0, xR 3), (1, xI n), (2, xI r), (5, xI mn), (6, xI mx), (7, xI (i + 1))]) [1, 2, 3, 4, 5, 0] rfl ?_
      exact k2 c1 c2
    ·
      refine z_iload 3 dX4_lookWho_119 rfl ?_
      refine z_goto (tgt := 131) dX4_lookWho_121 (by decide) ?_
      refine z_iast dX4_lookWho_131 (zOb.lit (by decide +kernel)) (show 0 ≤ i ∧ i < 60 from ⟨by omega, by omega⟩).1 (show 0 ≤ i ∧ i < 60 from ⟨by omega, by omega⟩).2 ?_
      refine z_iincN (lv' := [(7, xI (i + 1)), (0, xR 3), (1, xI n), (2, xI r), (5, xI mn), (6, xI mx)]) 5 dX4_lookWho_132 rfl (by decide) rfl (show -2147483648 ≤ i + 1 ∧ i + 1 < 2147483648 from ⟨by omega, by omega⟩).1 (show -2147483648 ≤ i + 1 ∧ i + 1 < 2147483648 from ⟨by omega, by omega⟩).2 ?_
      refine z_goto (tgt := 92) dX4_lookWho_135 (by decide) ?_
      refine zW.sub (lv' := [(0, xR 3), (1, xI n), (2, xI r), (5, xI mn), (6, xI mx), (7, xI (i + 1))]) [1, 2, 3, 4, 5, 0] rfl ?_
      exact k3 c1 c2

theorem l_X4_lookWho_92 {X : zX} {dep : Nat} {h f : zH} {Q : Nat → zH → List zV → Prop} (hm : 0 ≤ h 3 0 ∧ h 3 0 ≤ 60) (mx mn r n : Int) (hr : 0 ≤ r ∧ r < 100)
    (kx : ∀ g : zH, zag [17] h g → (∀ m, 0 ≤ m → m < h 3 0 → g 17 m = if f 17 m = mx then mn else f 17 m) → zW mX4_lookWho X dep 0 0 239 37 [(0, xR 3), (1, xI n), (2, xI (r + 1))] [] g Q) :
    ∀ (k : Nat) (i : Int) (g : zH), 0 ≤ i → i + k = h 3 0 → zag [17] h g → (∀ m, 0 ≤ m → m < i → g 17 m = if f 17 m = mx then mn else f 17 m) → (∀ m, i ≤ m → m < h 3 0 → g 17 m = f 17 m) → zW mX4_lookWho X dep 0 0 239 92 [(0, xR 3), (1, xI n), (2, xI r), (5, xI mn), (6, xI mx), (7, xI i)] [] g Q := by
  intro k
  induction k with
  | zero =>
    intro i g h0 hk ha hi hj
    have e3 := ha 3 0 (by decide)
    refine bX4_lookWho_92 i mx mn r n (by rw [e3]; exact hm) h0 hr ?_ ?_ ?_
    · intro c
      exact kx g ha (fun m q1 q2 => hi m q1 (by omega))
    all_goals
      intro c
      rw [e3] at c
      exfalso
      omega
  | succ k ih =>
    intro i g h0 hk ha hi hj
    have e3 := ha 3 0 (by decide)
    refine bX4_lookWho_92 i mx mn r n (by rw [e3]; exact hm) h0 hr ?_ ?_ ?_
    · intro c
      rw [e3] at c
      exfalso
      omega
    all_goals
      intro c c2
      rw [hj i (by omega) (by omega)] at c2
      refine ih (i + 1) _ (by omega) (by omega) (ha.st (by decide) _ _) (fun m q1 q2 => ?_) (fun m q1 q2 => ?_)
      · rw [zst_or]
        by_cases e : m = i
        · subst e
          first | rw [if_pos rfl, if_pos c2] | rw [if_pos rfl, if_neg c2, hj m (by omega) (by omega)]
        · rw [if_neg e]
          exact hi m q1 (by omega)
      · rw [zst_or, if_neg (by omega)]
        exact hj m (by omega) q2

set_option maxRecDepth 20000 in
theorem bX4_lookWho_37 {X : zX} {dep bc bs : Nat} (n : Int) (r : Int) {g : zH} {Q : Nat → zH → List zV → Prop} (hm : 0 ≤ g 3 0 ∧ g 3 0 ≤ 60) (hr : 0 ≤ r ∧ r < 100) (hl : 0 ≤ g 13 2 ∧ g 13 2 ≤ 240 ∧ 6 * g 13 2 ≤ 240 ∧ 240 ≤ 1440) (hdep : 1 ≤ dep) (s1 : ¬ (n ≤ r) → 0 ≤ zget g 13 r 1 ∧ zget g 13 r 1 < 60) (s2 : ¬ (n ≤ r) → 0 ≤ zget g 13 r 2 ∧ zget g 13 r 2 < 60)
    (k1 : n ≤ r → Q 239 g [])
    (k2 : ¬ (n ≤ r) → zW mX4_lookWho X dep bc bs 239 92 [(0, xR 3), (1, xI n), (2, xI r), (5, xI (min (g 17 (zget g 13 r 1)) (g 17 (zget g 13 r 2)))), (6, xI (max (g 17 (zget g 13 r 1)) (g 17 (zget g 13 r 2)))), (7, xI 0)] [] g Q) : zW mX4_lookWho X dep bc bs 239 37 [(0, xR 3), (1, xI n), (2, xI r)] [] g Q := by
  refine z_iload_n 2 dX4_lookWho_37 rfl ?_
  refine z_iload_n 1 dX4_lookWho_38 rfl ?_
  refine z_icmp_ge (tgt := 144) dX4_lookWho_39 (by decide) (fun c1 => ?_) (fun c1 => ?_)
  ·
    exact z_ret dX4_lookWho_144 rfl (k1 c1)
  ·
    refine z_aload_n 0 dX4_lookWho_42 rfl ?_
    refine z_getS (v := 17) (k := 10) (kz := 10) pk4 dX4_lookWho_43 (by decide) zb_177 rfl (zOb.lit (by decide +kernel)) rfl (by decide +kernel) ?_
    refine z_aload_n 0 dX4_lookWho_46 rfl ?_
    refine z_getS (v := 13) (k := 7) (kz := 7) pk4 dX4_lookWho_47 (by decide) zb_170 rfl (zOb.lit (by decide +kernel)) rfl (by decide +kernel) ?_
    refine z_iload_n 2 dX4_lookWho_50 rfl ?_
    refine z_iconst dX4_lookWho_51 (zi32_d rfl) ?_
    refine z_invF (ci := 2) (N := 3) (as := [xI r, xI 1]) (st := [xR 17]) (ra := [xI 1, xI r]) (dep' := dep - 1) (rs := [xI (zget g 13 r 1)]) (h' := g) (f_X2_get 13 r 1 (h := g) zLedO_13 hl) dX4_lookWho_52 nX2_get zb_833 zb_830 zb_831 zb_85 (zOb.lit (by decide +kernel)) rfl (by omega) zne_I (Nat.le_of_ble_eq_true rfl) (Nat.le_of_ble_eq_true rfl) rfl ?_
    refine z_iald dX4_lookWho_55 (zOb.lit (by decide +kernel)) (s1 c1).1 (s1 c1).2 ?_
    refine z_istore_n (lv' := [(3, xI (g 17 (zget g 13 r 1))), (0, xR 3), (1, xI n), (2, xI r)]) dX4_lookWho_56 (by decide) rfl ?_
    refine z_aload_n 1 dX4_lookWho_57 rfl ?_
    refine z_getS (v := 17) (k := 10) (kz := 10) pk4 dX4_lookWho_58 (by decide) zb_177 rfl (zOb.lit (by decide +kernel)) rfl (by decide +kernel) ?_
    refine z_aload_n 1 dX4_lookWho_61 rfl ?_
    refine z_getS (v := 13) (k := 7) (kz := 7) pk4 dX4_lookWho_62 (by decide) zb_170 rfl (zOb.lit (by decide +kernel)) rfl (by decide +kernel) ?_
    refine z_iload_n 3 dX4_lookWho_65 rfl ?_
    refine z_iconst dX4_lookWho_66 (zi32_d rfl) ?_
    refine z_invF (ci := 2) (N := 3) (as := [xI r, xI 2]) (st := [xR 17]) (ra := [xI 2, xI r]) (dep' := dep - 1) (rs := [xI (zget g 13 r 2)]) (h' := g) (f_X2_get 13 r 2 (h := g) zLedO_13 hl) dX4_lookWho_67 nX2_get zb_833 zb_830 zb_831 zb_85 (zOb.lit (by decide +kernel)) rfl (by omega) zne_I (Nat.le_of_ble_eq_true rfl) (Nat.le_of_ble_eq_true rfl) rfl ?_
    refine z_iald dX4_lookWho_70 (zOb.lit (by decide +kernel)) (s2 c1).1 (s2 c1).2 ?_
    refine z_istore (lv' := [(4, xI (g 17 (zget g 13 r 2))), (3, xI (g 17 (zget g 13 r 1))), (0, xR 3), (1, xI n), (2, xI r)]) dX4_lookWho_71 (by decide) rfl ?_
    refine z_iload_n 1 dX4_lookWho_73 rfl ?_
    refine z_iload 0 dX4_lookWho_74 rfl ?_
    refine z_invSF (as := [xI (g 17 (zget g 13 r 1)), xI (g 17 (zget g 13 r 2))]) (st := []) (ra := [xI (g 17 (zget g 13 r 2)), xI (g 17 (zget g 13 r 1))]) (dep' := dep - 1) (rs := [xI (min (g 17 (zget g 13 r 1)) (g 17 (zget g 13 r 2)))]) (h' := g) (f_J9_min_7cf53 (g 17 (zget g 13 r 1)) (g 17 (zget g 13 r 2)) (h := g) ) dX4_lookWho_76 nJ9_min_7cf53 zb_834 zb_605 zb_93 (by omega) zne_I (Nat.le_of_ble_eq_true rfl) (Nat.le_of_ble_eq_true rfl) rfl ?_
    refine z_istore (lv' := [(5, xI (min (g 17 (zget g 13 r 1)) (g 17 (zget g 13 r 2)))), (4, xI (g 17 (zget g 13 r 2))), (3, xI (g 17 (zget g 13 r 1))), (0, xR 3), (1, xI n), (2, xI r)]) dX4_lookWho_79 (by decide) rfl ?_
    refine z_iload_n 2 dX4_lookWho_81 rfl ?_
    refine z_iload 1 dX4_lookWho_82 rfl ?_
    refine z_invSF (as := [xI (g 17 (zget g 13 r 1)), xI (g 17 (zget g 13 r 2))]) (st := []) (ra := [xI (g 17 (zget g 13 r 2)), xI (g 17 (zget g 13 r 1))]) (dep' := dep - 1) (rs := [xI (max (g 17 (zget g 13 r 1)) (g 17 (zget g 13 r 2)))]) (h' := g) (f_J9_max_7cf53 (g 17 (zget g 13 r 1)) (g 17 (zget g 13 r 2)) (h := g) ) dX4_lookWho_84 nJ9_max_7cf53 zb_835 zb_836 zb_93 (by omega) zne_I (Nat.le_of_ble_eq_true rfl) (Nat.le_of_ble_eq_true rfl) rfl ?_
    refine z_istore (lv' := [(6, xI (max (g 17 (zget g 13 r 1)) (g 17 (zget g 13 r 2)))), (5, xI (min (g 17 (zget g 13 r 1)) (g 17 (zget g 13 r 2)))), (4, xI (g 17 (zget g 13 r 2))), (3, xI (g 17 (zget g 13 r 1))), (0, xR 3), (1, xI n), (2, xI r)]) dX4_lookWho_87 (by decide) rfl ?_
    refine z_iconst dX4_lookWho_89 (zi32_d rfl) ?_
    refine z_istore (lv' := [(7, xI 0), (6, xI (max (g 17 (zget g 13 r 1)) (g 17 (zget g 13 r 2)))), (5, xI (min (g 17 (zget g 13 r 1)) (g 17 (zget g 13 r 2)))), (4, xI (g 17 (zget g 13 r 2))), (3, xI (g 17 (zget g 13 r 1))), (0, xR 3), (1, xI n), (2, xI r)]) dX4_lookWho_90 (by decide) rfl ?_
    refine zW.sub (lv' := [(0, xR 3), (1, xI n), (2, xI r), (5, xI (min (g 17 (zget g 13 r 1)) (g 17 (zget g 13 r 2)))), (6, xI (max (g 17 (zget g 13 r 1)) (g 17 (zget g 13 r 2)))), (7, xI 0)]) [5, 6, 7, 2, 1, 0] rfl ?_
    exact k2 c1

set_option maxRecDepth 20000 in
theorem bX4_lookWho_0 {X : zX} {dep bc bs : Nat} {h : zH} {Q : Nat → zH → List zV → Prop}
    (k1 : zW mX4_lookWho X dep bc bs 239 2 [(0, xR 3), (1, xI 0)] [] h Q) : zW mX4_lookWho X dep bc bs 239 0 [(0, xR 3)] [] h Q := by
  refine z_iconst dX4_lookWho_0 (zi32_d rfl) ?_
  refine z_istore_n (lv' := [(1, xI 0), (0, xR 3)]) dX4_lookWho_1 (by decide) rfl ?_
  refine zW.sub (lv' := [(0, xR 3), (1, xI 0)]) [1, 0] rfl ?_
  exact k1

set_option maxRecDepth 20000 in
theorem bX4_lookWho_23 {X : zX} {dep bc bs : Nat} {g : zH} {Q : Nat → zH → List zV → Prop} (hl : 0 ≤ g 13 2 ∧ g 13 2 ≤ 240 ∧ 6 * g 13 2 ≤ 240 ∧ 240 ≤ 1440) (hdep : 2 ≤ dep)
    (k1 : zW mX4_lookWho X dep bc bs 239 37 [(0, xR 3), (1, xI (zknown g 13 (g 3 9))), (2, xI 0)] [] g Q) : zW mX4_lookWho X dep bc bs 239 23 [(0, xR 3)] [] g Q := by
  refine z_aload_n 0 dX4_lookWho_23 rfl ?_
  refine z_getS (v := 13) (k := 7) (kz := 7) pk4 dX4_lookWho_24 (by decide) zb_170 rfl (zOb.lit (by decide +kernel)) rfl (by decide +kernel) ?_
  refine z_aload_n 0 dX4_lookWho_27 rfl ?_
  refine z_getI (k := 9) (kz := 9) pk4 dX4_lookWho_28 (by decide) zb_175 rfl (zOb.lit (by decide +kernel)) rfl ?_
  refine z_invF (ci := 2) (N := 3) (as := [xI (g 3 9)]) (st := []) (ra := [xI (g 3 9)]) (dep' := dep - 1) (rs := [xI (zknown g 13 (g 3 9))]) (h' := g) (f_X2_knownBy 13 (g 3 9) (h := g) zLedO_13 hl (by omega)) dX4_lookWho_31 nX2_knownBy zb_825 zb_826 zb_827 zb_85 (zOb.lit (by decide +kernel)) rfl (by omega) zne_I (Nat.le_of_ble_eq_true rfl) (Nat.le_of_ble_eq_true rfl) rfl ?_
  refine z_istore_n (lv' := [(1, xI (zknown g 13 (g 3 9))), (0, xR 3)]) dX4_lookWho_34 (by decide) rfl ?_
  refine z_iconst dX4_lookWho_35 (zi32_d rfl) ?_
  refine z_istore_n (lv' := [(2, xI 0), (1, xI (zknown g 13 (g 3 9))), (0, xR 3)]) dX4_lookWho_36 (by decide) rfl ?_
  refine zW.sub (lv' := [(0, xR 3), (1, xI (zknown g 13 (g 3 9))), (2, xI 0)]) [2, 1, 0] rfl ?_
  exact k1

theorem l_X4_lookWho_37 {X : zX} {dep : Nat} {h : zH} {Q : Nat → zH → List zV → Prop} (hm : 0 ≤ h 3 0 ∧ h 3 0 ≤ 60) (hs : zSameOK h) (n : Int) (hn : n ≤ h 13 2) (hdep : 2 ≤ dep)
    (kx : ∀ g : zH, zag [17] h g → (∀ m, 0 ≤ m → m < h 3 0 → g 17 m = zwho h n.toNat m) → Q 239 g []) :
    ∀ (k r : Nat) (g : zH), (r : Int) + k = n → zag [17] h g → (∀ m, 0 ≤ m → m < h 3 0 → g 17 m = zwho h r m) → zW mX4_lookWho X dep 0 0 239 37 [(0, xR 3), (1, xI n), (2, xI r)] [] g Q := by
  have h40 := hs.1
  intro k
  induction k with
  | zero =>
    intro r g hk ha hw
    have e2 := ha 13 2 (by decide)
    have e3 := ha 3 0 (by decide)
    refine bX4_lookWho_37 n r (by rw [e3]; exact hm) ⟨by omega, by omega⟩ (by rw [e2]; omega) (by omega) ?_ ?_ ?_ ?_
    · intro c; exfalso; omega
    · intro c; exfalso; omega
    · intro c
      exact kx g ha (by rw [show n.toNat = r by omega]; exact hw)
    · intro c; exfalso; omega
  | succ k ih =>
    intro r g hk ha hw
    have e2 := ha 13 2 (by decide)
    have e3 := ha 3 0 (by decide)
    have g1 : zget g 13 r 1 = zget h 13 r 1 := zget_ag ha (by decide) (by decide)
    have g2 : zget g 13 r 2 = zget h 13 r 2 := zget_ag ha (by decide) (by decide)
    have hr := hs.2 r (by omega) (by omega)
    refine bX4_lookWho_37 n r (by rw [e3]; exact hm) ⟨by omega, by omega⟩ (by rw [e2]; omega) (by omega) ?_ ?_ ?_ ?_
    · intro c
      rw [g1]
      exact ⟨hr.1.1, by omega⟩
    · intro c
      rw [g2]
      exact ⟨hr.2.1, by omega⟩
    · intro c; exfalso; omega
    · intro c
      rw [g1, g2, hw _ hr.1.1 hr.1.2, hw _ hr.2.1 hr.2.2]
      refine l_X4_lookWho_92 (h := h) (f := g) hm _ _ r n ⟨by omega, by omega⟩ (fun g' ha' hw' => ?_) (h 3 0).toNat 0 g (by omega) (by omega) ha (fun m q1 q2 => by omega) (fun m q1 q2 => rfl)
      have := ih (r + 1) g' (by omega) ha' (fun m q1 q2 => by
        rw [hw' m q1 q2, hw m q1 q2]
        rfl)
      rw [show ((r + 1 : Nat) : Int) = (r : Int) + 1 by omega] at this
      exact this
/-- who is who as of the day looked at -/
theorem f_X4_lookWho {X : zX} {dep : Nat} {h : zH} (hm : 0 ≤ h 3 0 ∧ h 3 0 ≤ 60) (hs : zSameOK h) (hdep : 2 ≤ dep) : zW mX4_lookWho X dep 0 0 239 0 (zar 0 [xR 3]) [] h (fun n1 g rs => n1 = 239 ∧ rs = [] ∧ zag [17] h g ∧ ∀ m, 0 ≤ m → m < h 3 0 → g 17 m = zwho h (zknown h 13 (h 3 9)).toNat m) := by
  have h40 := hs.1
  have hk := zknown_le (t := h 3 9) h40.1
  refine bX4_lookWho_0 ?_
  refine l_X4_lookWho_2 hm (fun g ha hw => ?_) (h 3 0).toNat 0 h (by omega) (by omega) (zag.rf _ _) (fun m q1 q2 => by omega)
  have e2 := ha 13 2 (by decide)
  refine bX4_lookWho_23 (by rw [e2]; omega) (by omega) ?_
  rw [zknown_ag ha (by decide) (by decide), ha 3 9 (by decide)]
  exact l_X4_lookWho_37 hm hs _ hk.2 hdep (fun g' ha' hw' => ⟨rfl, rfl, ha', hw'⟩) (zknown h 13 (h 3 9)).toNat 0 g (by omega) ha hw
