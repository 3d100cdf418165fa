/-! births -/
/-- a row filled -/
def zfill (h : zH) (a v : Int) (n : Int) : zH := fun o k => if o = a ∧ 0 ≤ k ∧ k < n then v else h o k
theorem zfill_s (h : zH) (a v : Int) {i : Int} (h0 : 0 ≤ i) : zst (zfill h a v i) a i v = zfill h a v (i + 1) := by
  funext o k
  unfold zst zfill
  by_cases e : o = a
  · by_cases e2 : k = i
    · rw [if_pos ⟨e, e2⟩, if_pos ⟨e, by omega, by omega⟩]
    · rw [if_neg (fun z => e2 z.2)]
      by_cases e3 : 0 ≤ k ∧ k < i
      · rw [if_pos ⟨e, e3⟩, if_pos ⟨e, by omega, by omega⟩]
      · rw [if_neg (fun z => e3 z.2), if_neg (fun z => e3 ⟨z.2.1, by omega⟩)]
  · rw [if_neg (fun z => e z.1), if_neg (fun z => e z.1), if_neg (fun z => e z.1)]
theorem zfill_0 (h : zH) (a v : Int) : zfill h a v 0 = h := by
  funext o k
  unfold zfill
  rw [if_neg (by omega)]
theorem zfill_in (h : zH) {a v n k : Int} (h0 : 0 ≤ k) (h1 : k < n) : zfill h a v n a k = v := if_pos ⟨rfl, h0, h1⟩
theorem zfill_ag {S : List Int} {h g : zH} (ha : zag S h g) {a : Int} (hs : a ∈ S) (v n : Int) : zag S h (zfill g a v n) := fun o k hn => by
  unfold zfill
  rw [if_neg (fun z => hn (by rw [z.1]; exact hs))]
  exact ha o k hn

set_option maxRecDepth 20000 in
theorem bJ7_fill_53178_0 {X : zX} {dep bc bs : Nat} {N : Nat} (a : Int) (v : Int) {h : zH} {Q : Nat → zH → List zV → Prop} (ho : zOb 239 a (1, 0, N)) (hN : N < 100000)
    (k1 : zW mJ7_fill_53178 X dep bc bs 239 5 [(0, xR a), (1, xI v), (2, xI 0), (3, xI N)] [] h Q) : zW mJ7_fill_53178 X dep bc bs 239 0 [(0, xR a), (1, xI v)] [] h Q := by
  refine z_iconst dJ7_fill_53178_0 (zi32_d rfl) ?_
  refine z_istore_n (lv' := [(2, xI 0), (0, xR a), (1, xI v)]) dJ7_fill_53178_1 (by decide) rfl ?_
  refine z_aload_n 1 dJ7_fill_53178_2 rfl ?_
  refine z_alen (kd := 0) dJ7_fill_53178_3 ho (by omega) ?_
  show zW mJ7_fill_53178 X dep bc bs 239 4 [(2, xI 0), (0, xR a), (1, xI v)] [xI N] h Q
  refine z_istore_n (lv' := [(3, xI N), (2, xI 0), (0, xR a), (1, xI v)]) dJ7_fill_53178_4 (by decide) rfl ?_
  refine zW.sub (lv' := [(0, xR a), (1, xI v), (2, xI 0), (3, xI N)]) [2, 3, 1, 0] rfl ?_
  exact k1

set_option maxRecDepth 20000 in
theorem bJ7_fill_53178_5 {X : zX} {dep bc bs : Nat} {N : Nat} (a : Int) (v : Int) (i : Int) {h : zH} {Q : Nat → zH → List zV → Prop} (ho : zOb 239 a (1, 0, N)) (hN : N < 100000) (hi : 0 ≤ i)
    (k1 : N ≤ i → Q 239 h [])
    (k2 : ¬ (N ≤ i) → zW mJ7_fill_53178 X dep bc bs 239 5 [(0, xR a), (1, xI v), (2, xI (i + 1)), (3, xI N)] [] (zst h a i v) Q) : zW mJ7_fill_53178 X dep bc bs 239 5 [(0, xR a), (1, xI v), (2, xI i), (3, xI N)] [] h Q := by
  refine z_iload_n 2 dJ7_fill_53178_5 rfl ?_
  refine z_iload_n 3 dJ7_fill_53178_6 rfl ?_
  refine z_icmp_ge (tgt := 20) dJ7_fill_53178_7 (by decide) (fun c1 => ?_) (fun c1 => ?_)
  ·
    exact z_ret dJ7_fill_53178_20 rfl (k1 c1)
  ·
    refine z_aload_n 0 dJ7_fill_53178_10 rfl ?_
    refine z_iload_n 2 dJ7_fill_53178_11 rfl ?_
    refine z_iload_n 1 dJ7_fill_53178_12 rfl ?_
    refine z_iast dJ7_fill_53178_13 ho (show 0 ≤ i ∧ i < N from ⟨by omega, by omega⟩).1 (show 0 ≤ i ∧ i < N from ⟨by omega, by omega⟩).2 ?_
    refine z_iincN (lv' := [(2, xI (i + 1)), (0, xR a), (1, xI v), (3, xI N)]) 2 dJ7_fill_53178_14 rfl (by decide) rfl (show -2147483648 ≤ i + 1 ∧ i + 1 < 2147483648 from ⟨by omega, by omega⟩).1 (show -2147483648 ≤ i + 1 ∧ i + 1 < 2147483648 from ⟨by omega, by omega⟩).2 ?_
    refine z_goto (tgt := 5) dJ7_fill_53178_17 (by decide) ?_
    refine zW.sub (lv' := [(0, xR a), (1, xI v), (2, xI (i + 1)), (3, xI N)]) [1, 2, 0, 3] rfl ?_
    exact k2 c1

theorem l_J7_fill {X : zX} {dep N : Nat} (a v : Int) {h : zH} (ho : zOb 239 a (1, 0, N)) (hN : N < 100000) : ∀ (k : Nat) (i : Int), 0 ≤ i → i + k = N → zW mJ7_fill_53178 X dep 0 0 239 5 [(0, xR a), (1, xI v), (2, xI i), (3, xI N)] [] (zfill h a v i) (zF (zfill h a v N) []) := by
  intro k
  induction k with
  | zero =>
    intro i h0 hk
    refine bJ7_fill_53178_5 a v i ho hN h0 ?_ ?_
    · intro c
      rw [show i = N by omega]
      exact ⟨rfl, rfl, rfl⟩
    · intro c; exfalso; omega
  | succ k ih =>
    intro i h0 hk
    refine bJ7_fill_53178_5 a v i ho hN h0 ?_ ?_
    · intro c; exfalso; omega
    · intro c
      rw [zfill_s h a v h0]
      exact ih (i + 1) (by omega) (by omega)
theorem f_J7_fill_53178 {X : zX} {dep N : Nat} (a v : Int) {h : zH} (ho : zOb 239 a (1, 0, N)) (hN : N < 100000) : zW mJ7_fill_53178 X dep 0 0 239 0 (zar 0 [xR a, xI v]) [] h (zF (zfill h a v N) []) := by
  refine bJ7_fill_53178_0 a v ho hN ?_
  have := l_J7_fill (X := X) (dep := dep) a v (h := h) ho hN N 0 (by omega) (by omega)
  rw [zfill_0] at this
  exact this

/-- born, and in which week, by the first rows told -/
def zbn (h : zH) : Nat → Int → Int
  | 0, _ => 0
  | r + 1, m => if zget h 7 r 1 = m then 1 else zbn h r m
def zbw (h : zH) : Nat → Int → Int
  | 0, _ => 0
  | r + 1, m => if zget h 7 r 1 = m then zget h 7 r 2 else zbw h r m
def zBirthOK (h : zH) : Prop := (0 ≤ h 7 2 ∧ h 7 2 ≤ 100) ∧ ∀ r : Int, 0 ≤ r → r < h 7 2 → (0 ≤ zget h 7 r 1 ∧ zget h 7 r 1 < h 3 0) ∧ -3120 ≤ zget h 7 r 2 ∧ zget h 7 r 2 < 520
theorem zbw_in {h : zH} (hb : zBirthOK h) : ∀ (r : Nat), (r : Int) ≤ h 7 2 → ∀ m, -3120 ≤ zbw h r m ∧ zbw h r m < 520
  | 0, _, m => ⟨by unfold zbw; omega, by unfold zbw; omega⟩
  | r + 1, hr, m => by
    have i1 := zbw_in hb r (by omega) m
    have e := hb.2 r (by omega) (by omega)
    unfold zbw
    split
    · exact e.2
    · exact i1
theorem zbn01 (h : zH) : ∀ (r : Nat) (m : Int), zbn h r m = 0 ∨ zbn h r m = 1
  | 0, m => Or.inl rfl
  | r + 1, m => by
    unfold zbn
    split
    · exact Or.inr rfl
    · exact zbn01 h r m

set_option maxRecDepth 20000 in
theorem bX4_lookBirths_2 {X : zX} {dep bc bs : Nat} (i : Int) {g : zH} {Q : Nat → zH → List zV → Prop} (hm : 0 ≤ g 3 0 ∧ g 3 0 ≤ 60) (hi : 0 ≤ i)
    (k1 : (g 3 0) ≤ i → zW mX4_lookBirths X dep bc bs 239 30 [(0, xR 3)] [] g Q)
    (k2 : ¬ ((g 3 0) ≤ i) → zW mX4_lookBirths X dep bc bs 239 2 [(0, xR 3), (1, xI (i + 1))] [] (zst (zst g 18 i 0) 19 i 0) Q) : zW mX4_lookBirths X dep bc bs 239 2 [(0, xR 3), (1, xI i)] [] g Q := by
  refine z_iload_n 1 dX4_lookBirths_2 rfl ?_
  refine z_aload_n 0 dX4_lookBirths_3 rfl ?_
  refine z_getI (k := 0) (kz := 0) pk4 dX4_lookBirths_4 (by decide) zb_154 rfl (zOb.lit (by decide +kernel)) rfl ?_
  refine z_icmp_ge (tgt := 30) dX4_lookBirths_7 (by decide) (fun c1 => ?_) (fun c1 => ?_)
  ·
    refine zW.sub (lv' := [(0, xR 3)]) [0] rfl ?_
    exact k1 c1
  ·
    refine z_aload_n 0 dX4_lookBirths_10 rfl ?_
    refine z_getS (v := 18) (k := 11) (kz := 11) pk4 dX4_lookBirths_11 (by decide) zb_179 rfl (zOb.lit (by decide +kernel)) rfl (by decide +kernel) ?_
    refine z_iload_n 1 dX4_lookBirths_14 rfl ?_
    refine z_iconst dX4_lookBirths_15 (zi32_d rfl) ?_
    refine z_zast dX4_lookBirths_16 (zOb.lit (by decide +kernel)) (show 0 ≤ i ∧ i < 60 from ⟨by omega, by omega⟩).1 (show 0 ≤ i ∧ i < 60 from ⟨by omega, by omega⟩).2 (Or.inl rfl) ?_
    refine z_aload_n 0 dX4_lookBirths_17 rfl ?_
    refine z_getS (v := 19) (k := 12) (kz := 12) pk4 dX4_lookBirths_18 (by decide) zb_181 rfl (zOb.lit (by decide +kernel)) rfl (by decide +kernel) ?_
    refine z_iload_n 1 dX4_lookBirths_21 rfl ?_
    refine z_iconst dX4_lookBirths_22 (zi32_d rfl) ?_
    refine z_iast dX4_lookBirths_23 (zOb.lit (by decide +kernel)) (show 0 ≤ i ∧ i < 60 from ⟨by omega, by omega⟩).1 (show 0 ≤ i ∧ i < 60 from ⟨by omega, by omega⟩).2 ?_
    refine z_iincN (lv' := [(1, xI (i + 1)), (0, xR 3)]) 1 dX4_lookBirths_24 rfl (by decide) rfl (show -2147483648 ≤ i + 1 ∧ i + 1 < 2147483648 from ⟨by omega, by omega⟩).1 (show -2147483648 ≤ i + 1 ∧ i + 1 < 2147483648 from ⟨by omega, by omega⟩).2 ?_
    refine z_goto (tgt := 2) dX4_lookBirths_27 (by decide) ?_
    refine zW.sub (lv' := [(0, xR 3), (1, xI (i + 1))]) [1, 0] rfl ?_
    exact k2 c1

theorem l_X4_lookBirths_2 {X : zX} {dep : Nat} {h : zH} {Q : Nat → zH → List zV → Prop} (hm : 0 ≤ h 3 0 ∧ h 3 0 ≤ 60)
    (kx : ∀ g : zH, zag [18, 19] h g → (∀ m, 0 ≤ m → m < h 3 0 → g 18 m = 0 ∧ g 19 m = 0) → zW mX4_lookBirths X dep 0 0 239 30 [(0, xR 3)] [] g Q) :
    ∀ (k : Nat) (i : Int) (g : zH), 0 ≤ i → i + k = h 3 0 → (zag [18, 19] h g) → (∀ m, 0 ≤ m → m < i → g 18 m = 0 ∧ g 19 m = 0) → zW mX4_lookBirths X dep 0 0 239 2 [(0, xR 3), (1, xI i)] [] g Q := by
  intro k
  induction k with
  | zero =>
    intro i g h0 hk ha hi
    have e3 := ha 3 0 (by decide)
    refine bX4_lookBirths_2 i (by omega) (by omega) ?_ ?_
    · intro c
      exact kx g ha (fun m q1 q2 => hi m q1 (by omega))
    · intro c
      exfalso
      omega
  | succ k ih =>
    intro i g h0 hk ha hi
    have e3 := ha 3 0 (by decide)
    refine bX4_lookBirths_2 i (by omega) (by omega) ?_ ?_
    · intro c
      exfalso
      omega
    · intro c
      refine ih (i + 1) _ (by omega) (by omega) ((ha.st (by decide) _ _).st (by decide) _ _) (fun m q1 q2 => ?_)
      rw [zst_ne (Or.inl (by decide)), zst_or, zst_or, zst_ne (Or.inl (by decide))]
      by_cases e : m = i
      · rw [if_pos e, if_pos e]
        exact ⟨rfl, rfl⟩
      · rw [if_neg e, if_neg e]
        exact hi m q1 (by omega)

set_option maxRecDepth 20000 in
theorem bX4_lookBirths_0 {X : zX} {dep bc bs : Nat} {h : zH} {Q : Nat → zH → List zV → Prop}
    (k1 : zW mX4_lookBirths X dep bc bs 239 2 [(0, xR 3), (1, xI 0)] [] h Q) : zW mX4_lookBirths X dep bc bs 239 0 [(0, xR 3)] [] h Q := by
  refine z_iconst dX4_lookBirths_0 (zi32_d rfl) ?_
  refine z_istore_n (lv' := [(1, xI 0), (0, xR 3)]) dX4_lookBirths_1 (by decide) rfl ?_
  refine zW.sub (lv' := [(0, xR 3), (1, xI 0)]) [1, 0] rfl ?_
  exact k1

set_option maxRecDepth 20000 in
theorem bX4_lookBirths_30 {X : zX} {dep bc bs : Nat} {g : zH} {Q : Nat → zH → List zV → Prop} (hl : 0 ≤ g 7 2 ∧ g 7 2 ≤ 240 ∧ 6 * g 7 2 ≤ 600 ∧ 600 ≤ 1440) (hdep : 2 ≤ dep)
    (k1 : zW mX4_lookBirths X dep bc bs 239 44 [(0, xR 3), (1, xI (zknown g 7 (g 3 9))), (2, xI 0)] [] g Q) : zW mX4_lookBirths X dep bc bs 239 30 [(0, xR 3)] [] g Q := by
  refine z_aload_n 0 dX4_lookBirths_30 rfl ?_
  refine z_getS (v := 7) (k := 4) (kz := 4) pk4 dX4_lookBirths_31 (by decide) zb_162 rfl (zOb.lit (by decide +kernel)) rfl (by decide +kernel) ?_
  refine z_aload_n 0 dX4_lookBirths_34 rfl ?_
  refine z_getI (k := 9) (kz := 9) pk4 dX4_lookBirths_35 (by decide) zb_175 rfl (zOb.lit (by decide +kernel)) rfl ?_
  refine z_invF (ci := 2) (N := 3) (as := [xI (g 3 9)]) (st := []) (ra := [xI (g 3 9)]) (dep' := dep - 1) (rs := [xI (zknown g 7 (g 3 9))]) (h' := g) (f_X2_knownBy 7 (g 3 9) (h := g) zLedO_7 hl (by omega)) dX4_lookBirths_38 nX2_knownBy zb_825 zb_826 zb_827 zb_85 (zOb.lit (by decide +kernel)) rfl (by omega) zne_I (Nat.le_of_ble_eq_true rfl) (Nat.le_of_ble_eq_true rfl) rfl ?_
  refine z_istore_n (lv' := [(1, xI (zknown g 7 (g 3 9))), (0, xR 3)]) dX4_lookBirths_41 (by decide) rfl ?_
  refine z_iconst dX4_lookBirths_42 (zi32_d rfl) ?_
  refine z_istore_n (lv' := [(2, xI 0), (1, xI (zknown g 7 (g 3 9))), (0, xR 3)]) dX4_lookBirths_43 (by decide) rfl ?_
  refine zW.sub (lv' := [(0, xR 3), (1, xI (zknown g 7 (g 3 9))), (2, xI 0)]) [2, 1, 0] rfl ?_
  exact k1

set_option maxRecDepth 20000 in
theorem bX4_lookBirths_44 {X : zX} {dep bc bs : Nat} (n : Int) (r : Int) {g : zH} {Q : Nat → zH → List zV → Prop} (hl : 0 ≤ g 7 2 ∧ g 7 2 ≤ 240 ∧ 6 * g 7 2 ≤ 600 ∧ 600 ≤ 1440) (hr : 0 ≤ r ∧ r < 200) (hdep : 1 ≤ dep) (s1 : ¬ (n ≤ r) → 0 ≤ zget g 7 r 1 ∧ zget g 7 r 1 < 60)
    (k1 : n ≤ r → Q 239 g [])
    (k2 : ¬ (n ≤ r) → zW mX4_lookBirths X dep bc bs 239 44 [(0, xR 3), (1, xI n), (2, xI (r + 1))] [] (zst (zst g 18 (zget g 7 r 1) 1) 19 (zget g 7 r 1) (zget (zst g 18 (zget g 7 r 1) 1) 7 r 2)) Q) : zW mX4_lookBirths X dep bc bs 239 44 [(0, xR 3), (1, xI n), (2, xI r)] [] g Q := by
  refine z_iload_n 2 dX4_lookBirths_44 rfl ?_
  refine z_iload_n 1 dX4_lookBirths_45 rfl ?_
  refine z_icmp_ge (tgt := 87) dX4_lookBirths_46 (by decide) (fun c1 => ?_) (fun c1 => ?_)
  ·
    exact z_ret dX4_lookBirths_87 rfl (k1 c1)
  ·
    refine z_aload_n 0 dX4_lookBirths_49 rfl ?_
    refine z_getS (v := 7) (k := 4) (kz := 4) pk4 dX4_lookBirths_50 (by decide) zb_162 rfl (zOb.lit (by decide +kernel)) rfl (by decide +kernel) ?_
    refine z_iload_n 2 dX4_lookBirths_53 rfl ?_
    refine z_iconst dX4_lookBirths_54 (zi32_d rfl) ?_
    refine z_invF (ci := 2) (N := 3) (as := [xI r, xI 1]) (st := []) (ra := [xI 1, xI r]) (dep' := dep - 1) (rs := [xI (zget g 7 r 1)]) (h' := g) (f_X2_get 7 r 1 (h := g) zLedO_7 hl) dX4_lookBirths_55 nX2_get zb_833 zb_830 zb_831 zb_85 (zOb.lit (by decide +kernel)) rfl (by omega) zne_I (Nat.le_of_ble_eq_true rfl) (Nat.le_of_ble_eq_true rfl) rfl ?_
    refine z_istore_n (lv' := [(3, xI (zget g 7 r 1)), (0, xR 3), (1, xI n), (2, xI r)]) dX4_lookBirths_58 (by decide) rfl ?_
    refine z_aload_n 1 dX4_lookBirths_59 rfl ?_
    refine z_getS (v := 18) (k := 11) (kz := 11) pk4 dX4_lookBirths_60 (by decide) zb_179 rfl (zOb.lit (by decide +kernel)) rfl (by decide +kernel) ?_
    refine z_iload_n 0 dX4_lookBirths_63 rfl ?_
    refine z_iconst dX4_lookBirths_64 (zi32_d rfl) ?_
    refine z_zast dX4_lookBirths_65 (zOb.lit (by decide +kernel)) (s1 c1).1 (s1 c1).2 (Or.inr rfl) ?_
    refine z_aload_n 1 dX4_lookBirths_66 rfl ?_
    refine z_getS (v := 19) (k := 12) (kz := 12) pk4 dX4_lookBirths_67 (by decide) zb_181 rfl (zOb.lit (by decide +kernel)) rfl (by decide +kernel) ?_
    refine z_iload_n 0 dX4_lookBirths_70 rfl ?_
    refine z_aload_n 1 dX4_lookBirths_71 rfl ?_
    refine z_getS (v := 7) (k := 4) (kz := 4) pk4 dX4_lookBirths_72 (by decide) zb_162 rfl (zOb.lit (by decide +kernel)) rfl (by decide +kernel) ?_
    refine z_iload_n 3 dX4_lookBirths_75 rfl ?_
    refine z_iconst dX4_lookBirths_76 (zi32_d rfl) ?_
    refine z_invF (ci := 2) (N := 3) (as := [xI r, xI 2]) (st := [xI (zget g 7 r 1), xR 19]) (ra := [xI 2, xI r]) (dep' := dep - 1) (rs := [xI (zget (zst g 18 (zget g 7 r 1) 1) 7 r 2)]) (h' := (zst g 18 (zget g 7 r 1) 1)) (f_X2_get 7 r 2 (h := (zst g 18 (zget g 7 r 1) 1)) zLedO_7 (by have : (zst g 18 (zget g 7 r 1) 1) 7 2 = (g 7 2) := (zst_ne (Or.inl (by decide))); omega)) dX4_lookBirths_77 nX2_get zb_833 zb_830 zb_831 zb_85 (zOb.lit (by decide +kernel)) rfl (by omega) zne_I (Nat.le_of_ble_eq_true rfl) (Nat.le_of_ble_eq_true rfl) rfl ?_
    refine z_iast dX4_lookBirths_80 (zOb.lit (by decide +kernel)) (s1 c1).1 (s1 c1).2 ?_
    refine z_iincN (lv' := [(2, xI (r + 1)), (3, xI (zget g 7 r 1)), (0, xR 3), (1, xI n)]) 3 dX4_lookBirths_81 rfl (by decide) rfl (show -2147483648 ≤ r + 1 ∧ r + 1 < 2147483648 from ⟨by omega, by omega⟩).1 (show -2147483648 ≤ r + 1 ∧ r + 1 < 2147483648 from ⟨by omega, by omega⟩).2 ?_
    refine z_goto (tgt := 44) dX4_lookBirths_84 (by decide) ?_
    refine zW.sub (lv' := [(0, xR 3), (1, xI n), (2, xI (r + 1))]) [2, 3, 0] rfl ?_
    exact k2 c1

theorem l_X4_lookBirths_44 {X : zX} {dep : Nat} {h : zH} {Q : Nat → zH → List zV → Prop} (hm : 0 ≤ h 3 0 ∧ h 3 0 ≤ 60) (hs : zBirthOK h) (n : Int) (hn : n ≤ h 7 2) (hdep : 2 ≤ dep)
    (kx : ∀ g : zH, zag [18, 19] h g → (∀ m, 0 ≤ m → m < h 3 0 → g 18 m = zbn h n.toNat m ∧ g 19 m = zbw h n.toNat m) → Q 239 g []) :
    ∀ (k r : Nat) (g : zH), (r : Int) + k = n → zag [18, 19] h g → (∀ m, 0 ≤ m → m < h 3 0 → g 18 m = zbn h r m ∧ g 19 m = zbw h r m) → zW mX4_lookBirths X dep 0 0 239 44 [(0, xR 3), (1, xI n), (2, xI r)] [] g Q := by
  have h40 := hs.1
  intro k
  induction k with
  | zero =>
    intro r g hk ha hw
    have e2 := ha 7 2 (by decide)
    refine bX4_lookBirths_44 n r (by omega) (by omega) (by omega) ?_ ?_ ?_
    · intro c; exfalso; omega
    · intro c
      exact kx g ha (by rw [show n.toNat = r by omega]; exact hw)
    · intro c; exfalso; omega
  | succ k ih =>
    intro r g hk ha hw
    have e2 := ha 7 2 (by decide)
    have g1 : zget g 7 r 1 = zget h 7 r 1 := zget_ag ha (by decide) (by decide)
    have g3 : ∀ x : Int, zget (zst g 18 (zget h 7 r 1) 1) 7 r x = zget h 7 r x := fun x => zget_ag (ha.st (by decide) _ _) (by decide) (by decide)
    have hr := hs.2 r (by omega) (by omega)
    refine bX4_lookBirths_44 n r (by omega) (by omega) (by omega) ?_ ?_ ?_
    · intro c
      rw [g1]
      omega
    · intro c; exfalso; omega
    · intro c
      rw [g1, g3]
      have := ih (r + 1) _ (by omega) ((ha.st (o := 18) (by decide) (zget h 7 r 1) 1).st (o := 19) (by decide) (zget h 7 r 1) (zget h 7 r 2)) (fun m q1 q2 => by
        rw [zst_ne (Or.inl (by decide)), zst_or, zst_or, zst_ne (Or.inl (by decide))]
        unfold zbn zbw
        by_cases e : zget h 7 r 1 = m
        · rw [if_pos e, if_pos e, if_pos e.symm, if_pos e.symm]
          exact ⟨rfl, rfl⟩
        · rw [if_neg e, if_neg e, if_neg (fun z => e z.symm), if_neg (fun z => e z.symm)]
          exact hw m q1 q2)
      rw [show ((r + 1 : Nat) : Int) = (r : Int) + 1 by omega] at this
      exact this
theorem f_X4_lookBirths {X : zX} {dep : Nat} {h : zH} (hm : 0 ≤ h 3 0 ∧ h 3 0 ≤ 60) (hs : zBirthOK h) (hdep : 2 ≤ dep) : zW mX4_lookBirths X dep 0 0 239 0 (zar 0 [xR 3]) [] h (fun n1 g rs => n1 = 239 ∧ rs = [] ∧ zag [18, 19] h g ∧ ∀ m, 0 ≤ m → m < h 3 0 → g 18 m = zbn h (zknown h 7 (h 3 9)).toNat m ∧ g 19 m = zbw h (zknown h 7 (h 3 9)).toNat m) := by
  have h40 := hs.1
  have hk := zknown_le (t := h 3 9) h40.1
  refine bX4_lookBirths_0 ?_
  refine l_X4_lookBirths_2 hm (fun g ha hw => ?_) (h 3 0).toNat 0 h (by omega) (by omega) (zag.rf _ _) (fun m q1 q2 => by omega)
  have e2 := ha 7 2 (by decide)
  refine bX4_lookBirths_30 (by omega) (by omega) ?_
  rw [zknown_ag ha (by decide) (by decide), ha 3 9 (by decide)]
  exact l_X4_lookBirths_44 hm hs _ hk.2 hdep (fun g' ha' hw' => ⟨rfl, rfl, ha', hw'⟩) (zknown h 7 (h 3 9)).toNat 0 g (by omega) ha hw
