/-! what a law asks: facts, grades -/
/-- the fact of a kind that holds on a day, by the first rows told; b without any -/
def zfa (h : zH) (d : Int) : Nat → Int → Int → Int → Int
  | 0, _, _, b => b
  | r + 1, m, c, b => if (zget h 9 r 4 ≤ d ∧ d ≤ zget h 9 r 5) ∧ zget h 9 r 1 = m ∧ zget h 9 r 2 = c then zget h 9 r 3 else zfa h d r m c b
def zgr (h : zH) : Nat → Int → Int → Int
  | 0, _, b => b
  | r + 1, m, b => if zget h 11 r 1 = m then zget h 11 r 3 else zgr h r m b
def zFactOK (h : zH) : Prop := (0 ≤ h 9 2 ∧ h 9 2 ≤ 240) ∧ ∀ r : Int, 0 ≤ r → r < h 9 2 → (0 ≤ zget h 9 r 1 ∧ zget h 9 r 1 < h 3 0) ∧ 0 ≤ zget h 9 r 2 ∧ zget h 9 r 2 < 6
def zExamOK (h : zH) : Prop := (0 ≤ h 11 2 ∧ h 11 2 ≤ 60) ∧ ∀ r : Int, 0 ≤ r → r < h 11 2 → 0 ≤ zget h 11 r 1 ∧ zget h 11 r 1 < h 3 0
theorem zget_ap {S : Int → Prop} {h g : zH} (a : zap S h g) {o r c : Int} (h1 : ¬ S o) (h2 : ¬ S (o + 1)) : zget g o r c = zget h o r c := by
  unfold zget
  rw [a o 2 h1, a (o + 1) _ h2]
theorem zkn_ap {S : Int → Prop} {h g : zH} (a : zap S h g) {o t : Int} (h2 : ¬ S (o + 1)) : ∀ k : Nat, zkn g o t k = zkn h o t k
  | 0 => rfl
  | k + 1 => by
    unfold zkn
    rw [a (o + 1) _ h2, zkn_ap a h2 k]
theorem zknown_ap {S : Int → Prop} {h g : zH} (a : zap S h g) {o t : Int} (h1 : ¬ S o) (h2 : ¬ S (o + 1)) : zknown g o t = zknown h o t := by
  unfold zknown
  rw [a o 2 h1, zkn_ap a h2]

set_option maxRecDepth 20000 in
theorem bX6_askFacts_0 {X : zX} {dep bc bs : Nat} (o : Int) {g : zH} {Q : Nat → zH → List zV → Prop} (hl : 0 ≤ g 9 2 ∧ g 9 2 ≤ 240 ∧ 6 * g 9 2 ≤ 1440 ∧ 1440 ≤ 1440) (hdep : 2 ≤ dep)
    (k1 : zW mX6_askFacts X dep bc bs 239 17 [(0, xR o), (2, xR 9), (3, xI (zknown g 9 (g 3 9))), (4, xI 0)] [] g Q) : zW mX6_askFacts X dep bc bs 239 0 [(0, xR o), (1, xR 3)] [] g Q := by
  refine z_aload_n 1 dX6_askFacts_0 rfl ?_
  refine z_getS (v := 9) (k := 5) (kz := 5) pk4 dX6_askFacts_1 (by decide) zb_166 rfl (zOb.lit (by decide +kernel)) rfl (by decide +kernel) ?_
  refine z_astore_n (lv' := [(2, xR 9), (0, xR o), (1, xR 3)]) dX6_askFacts_4 (by decide) rfl ?_
  refine z_aload_n 0 dX6_askFacts_5 rfl ?_
  refine z_aload_n 2 dX6_askFacts_6 rfl ?_
  refine z_getI (k := 9) (kz := 9) pk4 dX6_askFacts_7 (by decide) zb_176 rfl (zOb.lit (by decide +kernel)) rfl ?_
  refine z_invF (ci := 2) (N := 3) (as := [xI (g 3 9)]) (st := []) (ra := [xI (g 3 9)]) (dep' := dep - 1) (rs := [xI (zknown g 9 (g 3 9))]) (h' := g) (f_X2_knownBy 9 (g 3 9) (h := g) zLedO_9 hl (by omega)) dX6_askFacts_10 nX2_knownBy zb_892 zb_826 zb_827 zb_85 (zOb.lit (by decide +kernel)) rfl (by omega) zne_I (Nat.le_of_ble_eq_true rfl) (Nat.le_of_ble_eq_true rfl) rfl ?_
  refine z_istore_n (lv' := [(3, xI (zknown g 9 (g 3 9))), (2, xR 9), (0, xR o), (1, xR 3)]) dX6_askFacts_13 (by decide) rfl ?_
  refine z_iconst dX6_askFacts_14 (zi32_d rfl) ?_
  refine z_istore (lv' := [(4, xI 0), (3, xI (zknown g 9 (g 3 9))), (2, xR 9), (0, xR o), (1, xR 3)]) dX6_askFacts_15 (by decide) rfl ?_
  refine zW.sub (lv' := [(0, xR o), (2, xR 9), (3, xI (zknown g 9 (g 3 9))), (4, xI 0)]) [3, 2, 1, 0] rfl ?_
  exact k1

set_option maxRecDepth 20000 in
theorem bX6_askFacts_17 {X : zX} {dep bc bs : Nat} (o : Int) (n : Int) (r : Int) {g : zH} {Q : Nat → zH → List zV → Prop} (ho : zRollO o) (hl : 0 ≤ g 9 2 ∧ g 9 2 ≤ 240 ∧ 6 * g 9 2 ≤ 1440 ∧ 1440 ≤ 1440) (hr : 0 ≤ r ∧ r < 1000) (hq : r < n → (0 ≤ zget g 9 r 1 ∧ zget g 9 r 1 < 60) ∧ 0 ≤ zget g 9 r 2 ∧ zget g 9 r 2 < 6) (hdep : 1 ≤ dep)
    (k1 : n ≤ r → Q 239 g [])
    (k2 : ¬ (n ≤ r) → (g (o + 1) 0) < (zget g 9 r 4) → zW mX6_askFacts X dep bc bs 239 17 [(0, xR o), (2, xR 9), (3, xI n), (4, xI (r + 1))] [] g Q)
    (k3 : ¬ (n ≤ r) → ¬ ((g (o + 1) 0) < (zget g 9 r 4)) → (zget g 9 r 5) < (g (o + 1) 0) → zW mX6_askFacts X dep bc bs 239 17 [(0, xR o), (2, xR 9), (3, xI n), (4, xI (r + 1))] [] g Q)
    (k4 : ¬ (n ≤ r) → ¬ ((g (o + 1) 0) < (zget g 9 r 4)) → ¬ ((zget g 9 r 5) < (g (o + 1) 0)) → zW mX6_askFacts X dep bc bs 239 17 [(0, xR o), (2, xR 9), (3, xI n), (4, xI (r + 1))] [] (zst g (o + 4) (((zget g 9 r 1) * 11) + (zget g 9 r 2)) (zget g 9 r 3)) Q) : zW mX6_askFacts X dep bc bs 239 17 [(0, xR o), (2, xR 9), (3, xI n), (4, xI r)] [] g Q := by
  refine z_iload 3 dX6_askFacts_17 rfl ?_
  refine z_iload_n 2 dX6_askFacts_19 rfl ?_
  refine z_icmp_ge (tgt := 97) dX6_askFacts_20 (by decide) (fun c1 => ?_) (fun c1 => ?_)
  ·
    exact z_ret dX6_askFacts_97 rfl (k1 c1)
  ·
    refine z_aload_n 1 dX6_askFacts_23 rfl ?_
    refine z_iload 3 dX6_askFacts_24 rfl ?_
    refine z_iconst dX6_askFacts_26 (zi32_d rfl) ?_
    refine z_invF (ci := 2) (N := 3) (as := [xI r, xI 4]) (st := []) (ra := [xI 4, xI r]) (dep' := dep - 1) (rs := [xI (zget g 9 r 4)]) (h' := g) (f_X2_get 9 r 4 (h := g) zLedO_9 hl) dX6_askFacts_27 nX2_get zb_893 zb_830 zb_831 zb_85 (zOb.lit (by decide +kernel)) rfl (by omega) zne_I (Nat.le_of_ble_eq_true rfl) (Nat.le_of_ble_eq_true rfl) rfl ?_
    refine z_aload_n 0 dX6_askFacts_30 rfl ?_
    refine z_getS (v := (o + 1)) (k := 1) (kz := 1) pk6 dX6_askFacts_31 (by decide) zb_411 rfl ho.1 rfl ho.2.2.2.2.2.2.2.2.2.2.2.2.2.2.1 ?_
    refine z_getI (k := 0) (kz := 0) pk3 dX6_askFacts_34 (by decide) zb_387 rfl ho.2.1 rfl ?_
    refine z_icmp_gt (tgt := 91) dX6_askFacts_37 (by decide) (fun c2 => ?_) (fun c2 => ?_)
    ·
      refine z_iincN (lv' := [(4, xI (r + 1)), (0, xR o), (2, xR 9), (3, xI n)]) 3 dX6_askFacts_91 rfl (by decide) rfl (show -2147483648 ≤ r + 1 ∧ r + 1 < 2147483648 from ⟨by omega, by omega⟩).1 (show -2147483648 ≤ r + 1 ∧ r + 1 < 2147483648 from ⟨by omega, by omega⟩).2 ?_
      refine z_goto (tgt := 17) dX6_askFacts_94 (by decide) ?_
      refine zW.sub (lv' := [(0, xR o), (2, xR 9), (3, xI n), (4, xI (r + 1))]) [1, 2, 3, 0] rfl ?_
      exact k2 c1 c2
    ·
      refine z_aload_n 0 dX6_askFacts_40 rfl ?_
      refine z_getS (v := (o + 1)) (k := 1) (kz := 1) pk6 dX6_askFacts_41 (by decide) zb_411 rfl ho.1 rfl ho.2.2.2.2.2.2.2.2.2.2.2.2.2.2.1 ?_
      refine z_getI (k := 0) (kz := 0) pk3 dX6_askFacts_44 (by decide) zb_387 rfl ho.2.1 rfl ?_
      refine z_aload_n 1 dX6_askFacts_47 rfl ?_
      refine z_iload 3 dX6_askFacts_48 rfl ?_
      refine z_iconst dX6_askFacts_50 (zi32_d rfl) ?_
      refine z_invF (ci := 2) (N := 3) (as := [xI r, xI 5]) (st := [xI (g (o + 1) 0)]) (ra := [xI 5, xI r]) (dep' := dep - 1) (rs := [xI (zget g 9 r 5)]) (h' := g) (f_X2_get 9 r 5 (h := g) zLedO_9 hl) dX6_askFacts_51 nX2_get zb_893 zb_830 zb_831 zb_85 (zOb.lit (by decide +kernel)) rfl (by omega) zne_I (Nat.le_of_ble_eq_true rfl) (Nat.le_of_ble_eq_true rfl) rfl ?_
      refine z_icmp_gt (tgt := 91) dX6_askFacts_54 (by decide) (fun c3 => ?_) (fun c3 => ?_)
      ·
        refine z_iincN (lv' := [(4, xI (r + 1)), (0, xR o), (2, xR 9), (3, xI n)]) 3 dX6_askFacts_91 rfl (by decide) rfl (show -2147483648 ≤ r + 1 ∧ r + 1 < 2147483648 from ⟨by omega, by omega⟩).1 (show -2147483648 ≤ r + 1 ∧ r + 1 < 2147483648 from ⟨by omega, by omega⟩).2 ?_
        refine z_goto (tgt := 17) dX6_askFacts_94 (by decide) ?_
        refine zW.sub (lv' := [(0, xR o), (2, xR 9), (3, xI n), (4, xI (r + 1))]) [1, 2, 3, 0] rfl ?_
        exact k3 c1 c2 c3
      ·
        refine z_aload_n 1 dX6_askFacts_57 rfl ?_
        refine z_iload 3 dX6_askFacts_58 rfl ?_
        refine z_iconst dX6_askFacts_60 (zi32_d rfl) ?_
        refine z_invF (ci := 2) (N := 3) (as := [xI r, xI 1]) (st := []) (ra := [xI 1, xI r]) (dep' := dep - 1) (rs := [xI (zget g 9 r 1)]) (h' := g) (f_X2_get 9 r 1 (h := g) zLedO_9 hl) dX6_askFacts_61 nX2_get zb_893 zb_830 zb_831 zb_85 (zOb.lit (by decide +kernel)) rfl (by omega) zne_I (Nat.le_of_ble_eq_true rfl) (Nat.le_of_ble_eq_true rfl) rfl ?_
        refine z_bipush dX6_askFacts_64 (zi32_d rfl) (by decide) ?_
        refine z_imulN dX6_askFacts_66 (show -2147483648 ≤ (zget g 9 r 1) * 11 ∧ (zget g 9 r 1) * 11 < 2147483648 from ⟨by omega, by omega⟩).1 (show -2147483648 ≤ (zget g 9 r 1) * 11 ∧ (zget g 9 r 1) * 11 < 2147483648 from ⟨by omega, by omega⟩).2 ?_
        refine z_aload_n 1 dX6_askFacts_67 rfl ?_
        refine z_iload 3 dX6_askFacts_68 rfl ?_
        refine z_iconst dX6_askFacts_70 (zi32_d rfl) ?_
        refine z_invF (ci := 2) (N := 3) (as := [xI r, xI 2]) (st := [xI ((zget g 9 r 1) * 11)]) (ra := [xI 2, xI r]) (dep' := dep - 1) (rs := [xI (zget g 9 r 2)]) (h' := g) (f_X2_get 9 r 2 (h := g) zLedO_9 hl) dX6_askFacts_71 nX2_get zb_893 zb_830 zb_831 zb_85 (zOb.lit (by decide +kernel)) rfl (by omega) zne_I (Nat.le_of_ble_eq_true rfl) (Nat.le_of_ble_eq_true rfl) rfl ?_
        refine z_iaddN dX6_askFacts_74 (show -2147483648 ≤ ((zget g 9 r 1) * 11) + (zget g 9 r 2) ∧ ((zget g 9 r 1) * 11) + (zget g 9 r 2) < 2147483648 from ⟨by omega, by omega⟩).1 (show -2147483648 ≤ ((zget g 9 r 1) * 11) + (zget g 9 r 2) ∧ ((zget g 9 r 1) * 11) + (zget g 9 r 2) < 2147483648 from ⟨by omega, by omega⟩).2 ?_
        refine z_istore (lv' := [(5, xI (((zget g 9 r 1) * 11) + (zget g 9 r 2))), (0, xR o), (2, xR 9), (3, xI n), (4, xI r)]) dX6_askFacts_75 (by decide) rfl ?_
        refine z_aload_n 1 dX6_askFacts_77 rfl ?_
        refine z_getS (v := (o + 4)) (k := 2) (kz := 2) pk6 dX6_askFacts_78 (by decide) zb_413 rfl ho.1 rfl ho.2.2.2.2.2.2.2.2.2.2.2.2.2.2.2.1 ?_
        refine z_iload 0 dX6_askFacts_81 rfl ?_
        refine z_aload_n 2 dX6_askFacts_83 rfl ?_
        refine z_iload 4 dX6_askFacts_84 rfl ?_
        refine z_iconst dX6_askFacts_86 (zi32_d rfl) ?_
        refine z_invF (ci := 2) (N := 3) (as := [xI r, xI 3]) (st := [xI (((zget g 9 r 1) * 11) + (zget g 9 r 2)), xR (o + 4)]) (ra := [xI 3, xI r]) (dep' := dep - 1) (rs := [xI (zget g 9 r 3)]) (h' := g) (f_X2_get 9 r 3 (h := g) zLedO_9 hl) dX6_askFacts_87 nX2_get zb_893 zb_830 zb_831 zb_85 (zOb.lit (by decide +kernel)) rfl (by omega) zne_I (Nat.le_of_ble_eq_true rfl) (Nat.le_of_ble_eq_true rfl) rfl ?_
        refine z_iast dX6_askFacts_90 ho.2.2.2.2.1 (show 0 ≤ (((zget g 9 r 1) * 11) + (zget g 9 r 2)) ∧ (((zget g 9 r 1) * 11) + (zget g 9 r 2)) < 660 from ⟨by omega, by omega⟩).1 (show 0 ≤ (((zget g 9 r 1) * 11) + (zget g 9 r 2)) ∧ (((zget g 9 r 1) * 11) + (zget g 9 r 2)) < 660 from ⟨by omega, by omega⟩).2 ?_
        refine z_iincN (lv' := [(4, xI (r + 1)), (5, xI (((zget g 9 r 1) * 11) + (zget g 9 r 2))), (0, xR o), (2, xR 9), (3, xI n)]) 4 dX6_askFacts_91 rfl (by decide) rfl (show -2147483648 ≤ r + 1 ∧ r + 1 < 2147483648 from ⟨by omega, by omega⟩).1 (show -2147483648 ≤ r + 1 ∧ r + 1 < 2147483648 from ⟨by omega, by omega⟩).2 ?_
        refine z_goto (tgt := 17) dX6_askFacts_94 (by decide) ?_
        refine zW.sub (lv' := [(0, xR o), (2, xR 9), (3, xI n), (4, xI (r + 1))]) [2, 3, 4, 0] rfl ?_
        exact k4 c1 c2 c3

set_option maxRecDepth 20000 in
theorem bX6_askGrades_0 {X : zX} {dep bc bs : Nat} (o : Int) {g : zH} {Q : Nat → zH → List zV → Prop} (ho : zRollO o) (hl : 0 ≤ g 11 2 ∧ g 11 2 ≤ 240 ∧ 6 * g 11 2 ≤ 360 ∧ 360 ≤ 1440) (hdep : 2 ≤ dep)
    (k1 : zW mX6_askGrades X dep bc bs 239 27 [(0, xR o), (2, xR 11), (3, xI (zknown g 11 (min (g 3 9) (g (o + 1) 0)))), (4, xI 0)] [] g Q) : zW mX6_askGrades X dep bc bs 239 0 [(0, xR o), (1, xR 3)] [] g Q := by
  refine z_aload_n 1 dX6_askGrades_0 rfl ?_
  refine z_getS (v := 11) (k := 6) (kz := 6) pk4 dX6_askGrades_1 (by decide) zb_169 rfl (zOb.lit (by decide +kernel)) rfl (by decide +kernel) ?_
  refine z_astore_n (lv' := [(2, xR 11), (0, xR o), (1, xR 3)]) dX6_askGrades_4 (by decide) rfl ?_
  refine z_aload_n 0 dX6_askGrades_5 rfl ?_
  refine z_aload_n 2 dX6_askGrades_6 rfl ?_
  refine z_getI (k := 9) (kz := 9) pk4 dX6_askGrades_7 (by decide) zb_176 rfl (zOb.lit (by decide +kernel)) rfl ?_
  refine z_aload_n 1 dX6_askGrades_10 rfl ?_
  refine z_getS (v := (o + 1)) (k := 1) (kz := 1) pk6 dX6_askGrades_11 (by decide) zb_411 rfl ho.1 rfl ho.2.2.2.2.2.2.2.2.2.2.2.2.2.2.1 ?_
  refine z_getI (k := 0) (kz := 0) pk3 dX6_askGrades_14 (by decide) zb_387 rfl ho.2.1 rfl ?_
  refine z_invSF (as := [xI (g 3 9), xI (g (o + 1) 0)]) (st := [xR 11]) (ra := [xI (g (o + 1) 0), xI (g 3 9)]) (dep' := dep - 1) (rs := [xI (min (g 3 9) (g (o + 1) 0))]) (h' := g) (f_J9_min_7cf53 (g 3 9) (g (o + 1) 0) (h := g) ) dX6_askGrades_17 nJ9_min_7cf53 zb_898 zb_605 zb_93 (by omega) zne_I (Nat.le_of_ble_eq_true rfl) (Nat.le_of_ble_eq_true rfl) rfl ?_
  refine z_invF (ci := 2) (N := 3) (as := [xI (min (g 3 9) (g (o + 1) 0))]) (st := []) (ra := [xI (min (g 3 9) (g (o + 1) 0))]) (dep' := dep - 1) (rs := [xI (zknown g 11 (min (g 3 9) (g (o + 1) 0)))]) (h' := g) (f_X2_knownBy 11 (min (g 3 9) (g (o + 1) 0)) (h := g) zLedO_11 hl (by omega)) dX6_askGrades_20 nX2_knownBy zb_892 zb_826 zb_827 zb_85 (zOb.lit (by decide +kernel)) rfl (by omega) zne_I (Nat.le_of_ble_eq_true rfl) (Nat.le_of_ble_eq_true rfl) rfl ?_
  refine z_istore_n (lv' := [(3, xI (zknown g 11 (min (g 3 9) (g (o + 1) 0)))), (2, xR 11), (0, xR o), (1, xR 3)]) dX6_askGrades_23 (by decide) rfl ?_
  refine z_iconst dX6_askGrades_24 (zi32_d rfl) ?_
  refine z_istore (lv' := [(4, xI 0), (3, xI (zknown g 11 (min (g 3 9) (g (o + 1) 0)))), (2, xR 11), (0, xR o), (1, xR 3)]) dX6_askGrades_25 (by decide) rfl ?_
  refine zW.sub (lv' := [(0, xR o), (2, xR 11), (3, xI (zknown g 11 (min (g 3 9) (g (o + 1) 0)))), (4, xI 0)]) [3, 2, 1, 0] rfl ?_
  exact k1

set_option maxRecDepth 20000 in
theorem bX6_askGrades_27 {X : zX} {dep bc bs : Nat} (o : Int) (n : Int) (r : Int) {g : zH} {Q : Nat → zH → List zV → Prop} (ho : zRollO o) (hl : 0 ≤ g 11 2 ∧ g 11 2 ≤ 240 ∧ 6 * g 11 2 ≤ 360 ∧ 360 ≤ 1440) (hr : 0 ≤ r ∧ r < 1000) (hq : r < n → (0 ≤ zget g 11 r 1 ∧ zget g 11 r 1 < 60)) (hdep : 1 ≤ dep)
    (k1 : n ≤ r → Q 239 g [])
    (k2 : ¬ (n ≤ r) → zW mX6_askGrades X dep bc bs 239 27 [(0, xR o), (2, xR 11), (3, xI n), (4, xI (r + 1))] [] (zst g (o + 4) (((zget g 11 r 1) * 11) + 7) (zget g 11 r 3)) Q) : zW mX6_askGrades X dep bc bs 239 27 [(0, xR o), (2, xR 11), (3, xI n), (4, xI r)] [] g Q := by
  refine z_iload 3 dX6_askGrades_27 rfl ?_
  refine z_iload_n 2 dX6_askGrades_29 rfl ?_
  refine z_icmp_ge (tgt := 64) dX6_askGrades_30 (by decide) (fun c1 => ?_) (fun c1 => ?_)
  ·
    exact z_ret dX6_askGrades_64 rfl (k1 c1)
  ·
    refine z_aload_n 0 dX6_askGrades_33 rfl ?_
    refine z_getS (v := (o + 4)) (k := 2) (kz := 2) pk6 dX6_askGrades_34 (by decide) zb_413 rfl ho.1 rfl ho.2.2.2.2.2.2.2.2.2.2.2.2.2.2.2.1 ?_
    refine z_aload_n 1 dX6_askGrades_37 rfl ?_
    refine z_iload 3 dX6_askGrades_38 rfl ?_
    refine z_iconst dX6_askGrades_40 (zi32_d rfl) ?_
    refine z_invF (ci := 2) (N := 3) (as := [xI r, xI 1]) (st := [xR (o + 4)]) (ra := [xI 1, xI r]) (dep' := dep - 1) (rs := [xI (zget g 11 r 1)]) (h' := g) (f_X2_get 11 r 1 (h := g) zLedO_11 hl) dX6_askGrades_41 nX2_get zb_893 zb_830 zb_831 zb_85 (zOb.lit (by decide +kernel)) rfl (by omega) zne_I (Nat.le_of_ble_eq_true rfl) (Nat.le_of_ble_eq_true rfl) rfl ?_
    refine z_bipush dX6_askGrades_44 (zi32_d rfl) (by decide) ?_
    refine z_imulN dX6_askGrades_46 (show -2147483648 ≤ (zget g 11 r 1) * 11 ∧ (zget g 11 r 1) * 11 < 2147483648 from ⟨by omega, by omega⟩).1 (show -2147483648 ≤ (zget g 11 r 1) * 11 ∧ (zget g 11 r 1) * 11 < 2147483648 from ⟨by omega, by omega⟩).2 ?_
    refine z_bipush dX6_askGrades_47 (zi32_d rfl) (by decide) ?_
    refine z_iaddN dX6_askGrades_49 (show -2147483648 ≤ ((zget g 11 r 1) * 11) + 7 ∧ ((zget g 11 r 1) * 11) + 7 < 2147483648 from ⟨by omega, by omega⟩).1 (show -2147483648 ≤ ((zget g 11 r 1) * 11) + 7 ∧ ((zget g 11 r 1) * 11) + 7 < 2147483648 from ⟨by omega, by omega⟩).2 ?_
    refine z_aload_n 1 dX6_askGrades_50 rfl ?_
    refine z_iload 3 dX6_askGrades_51 rfl ?_
    refine z_iconst dX6_askGrades_53 (zi32_d rfl) ?_
    refine z_invF (ci := 2) (N := 3) (as := [xI r, xI 3]) (st := [xI (((zget g 11 r 1) * 11) + 7), xR (o + 4)]) (ra := [xI 3, xI r]) (dep' := dep - 1) (rs := [xI (zget g 11 r 3)]) (h' := g) (f_X2_get 11 r 3 (h := g) zLedO_11 hl) dX6_askGrades_54 nX2_get zb_893 zb_830 zb_831 zb_85 (zOb.lit (by decide +kernel)) rfl (by omega) zne_I (Nat.le_of_ble_eq_true rfl) (Nat.le_of_ble_eq_true rfl) rfl ?_
    refine z_iast dX6_askGrades_57 ho.2.2.2.2.1 (show 0 ≤ (((zget g 11 r 1) * 11) + 7) ∧ (((zget g 11 r 1) * 11) + 7) < 660 from ⟨by omega, by omega⟩).1 (show 0 ≤ (((zget g 11 r 1) * 11) + 7) ∧ (((zget g 11 r 1) * 11) + 7) < 660 from ⟨by omega, by omega⟩).2 ?_
    refine z_iincN (lv' := [(4, xI (r + 1)), (0, xR o), (2, xR 11), (3, xI n)]) 3 dX6_askGrades_58 rfl (by decide) rfl (show -2147483648 ≤ r + 1 ∧ r + 1 < 2147483648 from ⟨by omega, by omega⟩).1 (show -2147483648 ≤ r + 1 ∧ r + 1 < 2147483648 from ⟨by omega, by omega⟩).2 ?_
    refine z_goto (tgt := 27) dX6_askGrades_61 (by decide) ?_
    refine zW.sub (lv' := [(0, xR o), (2, xR 11), (3, xI n), (4, xI (r + 1))]) [1, 2, 3, 0] rfl ?_
    exact k2 c1

theorem l_X6_askFacts {X : zX} {dep : Nat} {h f : zH} {Q : Nat → zH → List zV → Prop} (o : Int) (ho : zRollO o) (hb : 113 ≤ o ∧ o ≤ 155) (hm : 0 ≤ h 3 0 ∧ h 3 0 ≤ 60) (hF : zFactOK h) (n : Int) (hn : n ≤ h 9 2) (hdep : 2 ≤ dep) (hf : zap (fun q => q = o + 4) h f)
    (kx : ∀ g : zH, zap (fun q => q = o + 4) h g → (∀ m c : Int, 0 ≤ m → m < 60 → 0 ≤ c → c < 11 → g (o + 4) (m * 11 + c) = zfa h (h (o + 1) 0) n.toNat m c (f (o + 4) (m * 11 + c))) → Q 239 g []) :
    ∀ (k r : Nat) (g : zH), (r : Int) + k = n → zap (fun q => q = o + 4) h g → (∀ m c : Int, 0 ≤ m → m < 60 → 0 ≤ c → c < 11 → g (o + 4) (m * 11 + c) = zfa h (h (o + 1) 0) r m c (f (o + 4) (m * 11 + c))) → zW mX6_askFacts X dep 0 0 239 17 [(0, xR o), (2, xR 9), (3, xI n), (4, xI r)] [] g Q := by
  have h40 := hF.1
  intro k
  induction k with
  | zero =>
    intro r g hk ha hv
    have e2 := ha 9 2 (by omega)
    refine bX6_askFacts_17 o n r ho (by omega) (by omega) (fun c => by exfalso; omega) (by omega) ?_ ?_ ?_ ?_
    · intro c
      exact kx g ha (by rw [show n.toNat = r by omega]; exact hv)
    all_goals
      intros
      exfalso
      omega
  | succ k ih =>
    intro r g hk ha hv
    have e2 := ha 9 2 (by omega)
    have ed := ha (o + 1) 0 (by omega)
    have eg : ∀ c : Int, zget g 9 r c = zget h 9 r c := fun c => zget_ap ha (by omega) (by omega)
    have hr := hF.2 r (by omega) (by omega)
    have ih1 := ih (r + 1)
    rw [show ((r + 1 : Nat) : Int) = (r : Int) + 1 by omega] at ih1
    refine bX6_askFacts_17 o n r ho (by omega) (by omega) (fun c => by rw [eg, eg]; omega) (by omega) ?_ ?_ ?_ ?_
    · intro c; exfalso; omega
    · intro c c1
      rw [eg, ed] at c1
      refine ih1 g (by omega) ha (fun m c q1 q2 q3 q4 => ?_)
      rw [hv m c q1 q2 q3 q4]
      show _ = if _ then _ else _
      rw [if_neg (fun z => by have := z.1.1; omega)]
    · intro c c1 c2
      rw [eg, ed] at c2
      refine ih1 g (by omega) ha (fun m c q1 q2 q3 q4 => ?_)
      rw [hv m c q1 q2 q3 q4]
      show _ = if _ then _ else _
      rw [if_neg (fun z => by have := z.1.2; omega)]
    · intro c c1 c2
      rw [eg, ed] at c1 c2
      rw [eg, eg, eg]
      refine ih1 _ (by omega) (ha.st rfl _ _) (fun m c q1 q2 q3 q4 => ?_)
      rw [zst_or, hv m c q1 q2 q3 q4]
      show _ = if _ then _ else _
      by_cases e : zget h 9 r 1 = m ∧ zget h 9 r 2 = c
      · rw [if_pos (by omega), if_pos ⟨by omega, e⟩]
      · rw [if_neg (by omega), if_neg (fun z => e z.2)]
theorem f_X6_askFacts {X : zX} {dep : Nat} {h : zH} (o : Int) (ho : zRollO o) (hb : 113 ≤ o ∧ o ≤ 155) (hm : 0 ≤ h 3 0 ∧ h 3 0 ≤ 60) (hF : zFactOK h) (hdep : 2 ≤ dep) : zW mX6_askFacts X dep 0 0 239 0 (zar 0 [xR o, xR 3]) [] h
    (zQ0 (fun g => zap (fun q => q = o + 4) h g ∧ ∀ m c : Int, 0 ≤ m → m < 60 → 0 ≤ c → c < 11 → g (o + 4) (m * 11 + c) = zfa h (h (o + 1) 0) (zknown h 9 (h 3 9)).toNat m c (h (o + 4) (m * 11 + c)))) := by
  have h40 := hF.1
  have hk := zknown_le (t := h 3 9) h40.1
  refine bX6_askFacts_0 o (by omega) (by omega) ?_
  exact l_X6_askFacts (f := h) o ho hb hm hF _ hk.2 hdep (zap.rf _ _) (fun g ha hv => ⟨rfl, rfl, ha, hv⟩) (zknown h 9 (h 3 9)).toNat 0 h (by omega) (zap.rf _ _) (fun m c _ _ _ _ => rfl)
theorem l_X6_askGrades {X : zX} {dep : Nat} {h f : zH} {Q : Nat → zH → List zV → Prop} (o : Int) (ho : zRollO o) (hb : 113 ≤ o ∧ o ≤ 155) (hm : 0 ≤ h 3 0 ∧ h 3 0 ≤ 60) (hF : zExamOK h) (n : Int) (hn : n ≤ h 11 2) (hdep : 2 ≤ dep)
    (kx : ∀ g : zH, zap (fun q => q = o + 4) h g → (∀ m c : Int, 0 ≤ m → m < 60 → 0 ≤ c → c < 11 → g (o + 4) (m * 11 + c) = if c = 7 then zgr h n.toNat m (f (o + 4) (m * 11 + c)) else f (o + 4) (m * 11 + c)) → Q 239 g []) :
    ∀ (k r : Nat) (g : zH), (r : Int) + k = n → zap (fun q => q = o + 4) h g → (∀ m c : Int, 0 ≤ m → m < 60 → 0 ≤ c → c < 11 → g (o + 4) (m * 11 + c) = if c = 7 then zgr h r m (f (o + 4) (m * 11 + c)) else f (o + 4) (m * 11 + c)) → zW mX6_askGrades X dep 0 0 239 27 [(0, xR o), (2, xR 11), (3, xI n), (4, xI r)] [] g Q := by
  have h40 := hF.1
  intro k
  induction k with
  | zero =>
    intro r g hk ha hv
    have e2 := ha 11 2 (by omega)
    refine bX6_askGrades_27 o n r ho (by omega) (by omega) (fun c => by exfalso; omega) (by omega) ?_ ?_
    · intro c
      exact kx g ha (by rw [show n.toNat = r by omega]; exact hv)
    · intros
      exfalso
      omega
  | succ k ih =>
    intro r g hk ha hv
    have e2 := ha 11 2 (by omega)
    have eg : ∀ c : Int, zget g 11 r c = zget h 11 r c := fun c => zget_ap ha (by omega) (by omega)
    have hr := hF.2 r (by omega) (by omega)
    have ih1 := ih (r + 1)
    rw [show ((r + 1 : Nat) : Int) = (r : Int) + 1 by omega] at ih1
    refine bX6_askGrades_27 o n r ho (by omega) (by omega) (fun c => by rw [eg]; omega) (by omega) ?_ ?_
    · intro c; exfalso; omega
    · intro c
      rw [eg, eg]
      refine ih1 _ (by omega) (ha.st rfl _ _) (fun m c q1 q2 q3 q4 => ?_)
      rw [zst_or, hv m c q1 q2 q3 q4]
      by_cases e7 : c = 7
      · rw [if_pos e7, if_pos e7]
        show _ = if _ then _ else _
        by_cases e : zget h 11 r 1 = m
        · rw [if_pos (by omega), if_pos e]
        · rw [if_neg (by omega), if_neg e]
      · rw [if_neg e7, if_neg e7, if_neg (by omega)]
theorem f_X6_askGrades {X : zX} {dep : Nat} {h : zH} (o : Int) (ho : zRollO o) (hb : 113 ≤ o ∧ o ≤ 155) (hm : 0 ≤ h 3 0 ∧ h 3 0 ≤ 60) (hF : zExamOK h) (hdep : 2 ≤ dep) : zW mX6_askGrades X dep 0 0 239 0 (zar 0 [xR o, xR 3]) [] h
    (zQ0 (fun g => zap (fun q => q = o + 4) h g ∧ ∀ m c : Int, 0 ≤ m → m < 60 → 0 ≤ c → c < 11 → g (o + 4) (m * 11 + c) = if c = 7 then zgr h (zknown h 11 (min (h 3 9) (h (o + 1) 0))).toNat m (h (o + 4) (m * 11 + c)) else h (o + 4) (m * 11 + c))) := by
  have h40 := hF.1
  have hk := zknown_le (t := min (h 3 9) (h (o + 1) 0)) h40.1
  refine bX6_askGrades_0 o ho (by omega) (by omega) ?_
  exact l_X6_askGrades (f := h) o ho hb hm hF _ hk.2 hdep (fun g ha hv => ⟨rfl, rfl, ha, hv⟩) (zknown h 11 (min (h 3 9) (h (o + 1) 0))).toNat 0 h (by omega) (zap.rf _ _) (fun m c _ _ _ _ => by split <;> rfl)

set_option maxRecDepth 20000 in
theorem rX6_ask_107 {X : zX} {dep bc bs : Nat} (o : Int) {h : zH} {Q : Nat → zH → List zV → Prop} {P : zH → Prop} (ho : zRollO o)
    (hZ : zW mX6_askFacts X (dep - 1) 0 0 239 0 (zar 0 [xR o, xR 3]) [] h (zQ0 P)) (hdep : 1 ≤ dep)
    (k : ∀ g : zH, P g → zW mX6_ask X dep bc bs 239 110 [(0, xR o), (1, xR 3)] [] g Q) : zW mX6_ask X dep bc bs 239 107 [(0, xR o), (1, xR 3)] [xR 3, xR o] h Q :=
  z_invQ0 (ci := 6) (N := 13) (as := [xR 3]) (st := []) (ra := [xR 3]) hZ dX6_ask_107 nX6_askFacts zb_888 zb_890 zb_23 zb_90 ho.1 rfl (by omega) (Nat.le_of_ble_eq_true rfl) (Nat.le_of_ble_eq_true rfl) rfl (fun g hg => k g hg)
set_option maxRecDepth 20000 in
theorem rX6_ask_112 {X : zX} {dep bc bs : Nat} (o : Int) {h : zH} {Q : Nat → zH → List zV → Prop} {P : zH → Prop} (ho : zRollO o)
    (hZ : zW mX6_askGrades X (dep - 1) 0 0 239 0 (zar 0 [xR o, xR 3]) [] h (zQ0 P)) (hdep : 1 ≤ dep)
    (k : ∀ g : zH, P g → zW mX6_ask X dep bc bs 239 115 [(0, xR o), (1, xR 3)] [] g Q) : zW mX6_ask X dep bc bs 239 112 [(0, xR o), (1, xR 3)] [xR 3, xR o] h Q :=
  z_invQ0 (ci := 6) (N := 13) (as := [xR 3]) (st := []) (ra := [xR 3]) hZ dX6_ask_112 nX6_askGrades zb_894 zb_896 zb_24 zb_90 ho.1 rfl (by omega) (Nat.le_of_ble_eq_true rfl) (Nat.le_of_ble_eq_true rfl) rfl (fun g hg => k g hg)
set_option maxRecDepth 20000 in
theorem bX6_ask_105 {X : zX} {dep bc bs : Nat} (o : Int) {h : zH} {Q : Nat → zH → List zV → Prop}
    (k1 : zW mX6_ask X dep bc bs 239 107 [(0, xR o), (1, xR 3)] [xR 3, xR o] h Q) : zW mX6_ask X dep bc bs 239 105 [(0, xR o), (1, xR 3)] [] h Q := by
  refine z_aload_n 0 dX6_ask_105 rfl ?_
  refine z_aload_n 1 dX6_ask_106 rfl ?_
  exact k1
set_option maxRecDepth 20000 in
theorem bX6_ask_110 {X : zX} {dep bc bs : Nat} (o : Int) {h : zH} {Q : Nat → zH → List zV → Prop}
    (k1 : zW mX6_ask X dep bc bs 239 112 [(0, xR o), (1, xR 3)] [xR 3, xR o] h Q) : zW mX6_ask X dep bc bs 239 110 [(0, xR o), (1, xR 3)] [] h Q := by
  refine z_aload_n 0 dX6_ask_110 rfl ?_
  refine z_aload_n 1 dX6_ask_111 rfl ?_
  exact k1
set_option maxRecDepth 20000 in
theorem bX6_ask_115 {X : zX} {dep bc bs : Nat} (o : Int) {h : zH} {Q : Nat → zH → List zV → Prop}
    (k1 : Q 239 h []) : zW mX6_ask X dep bc bs 239 115 [(0, xR o), (1, xR 3)] [] h Q := by
  exact z_ret dX6_ask_115 rfl (k1)
/-- what is asked of a man for a lot: his facts, grade, age, brothers, those that serve, his parish -/
noncomputable def zask (h : zH) (o L : Int) (m c : Int) : Int :=
  if c = 7 then zgr h (zknown h 11 (min (h 3 9) (h (o + 1) 0))).toNat m 0 else zfa h (h (o + 1) 0) (zknown h 9 (h 3 9)).toNat m c (if m < h 3 0 then zask0 h o L m c else 0)
theorem zfa_ap {S : Int → Prop} {h g : zH} (a : zap S h g) (h1 : ¬ S 9) (h2 : ¬ S 10) (d : Int) : ∀ (r : Nat) (m c b : Int), zfa g d r m c b = zfa h d r m c b
  | 0, _, _, _ => rfl
  | r + 1, m, c, b => by
    have e : ∀ q x : Int, zget g 9 q x = zget h 9 q x := fun q x => zget_ap a h1 h2
    unfold zfa
    simp only [e, zfa_ap a h1 h2 d r m c b]
theorem zgr_ap {S : Int → Prop} {h g : zH} (a : zap S h g) (h1 : ¬ S 11) (h2 : ¬ S 12) : ∀ (r : Nat) (m b : Int), zgr g r m b = zgr h r m b
  | 0, _, _ => rfl
  | r + 1, m, b => by
    have e : ∀ q x : Int, zget g 11 q x = zget h 11 q x := fun q x => zget_ap a h1 h2
    unfold zgr
    simp only [e, zgr_ap a h1 h2 r m b]
theorem zfa_7 {h : zH} (hF : zFactOK h) (d : Int) : ∀ (r : Nat), (r : Int) ≤ h 9 2 → ∀ (m c b : Int), 6 ≤ c → zfa h d r m c b = b
  | 0, _, _, _, _, _ => rfl
  | r + 1, hr, m, c, b, hc => by
    have e := hF.2 r (by omega) (by omega)
    unfold zfa
    rw [if_neg (fun z => by have := z.2.2; omega)]
    exact zfa_7 hF d r (by omega) m c b hc
theorem f_X6_ask {X : zX} {dep : Nat} {h : zH} (o L : Int) (ho : zRollO o) (hb : 113 ≤ o ∧ o ≤ 155) (hL : zLawO L) (hbl : 30 ≤ L ∧ L ≤ 107) (hP : zPeo h) (hd : 0 ≤ h (o + 1) 0 ∧ h (o + 1) 0 ≤ 3639) (hF : zFactOK h) (hG : zExamOK h) (hdep : 3 ≤ dep) : zW mX6_ask X dep 0 0 239 0 (zar 0 [xR o, xR 3, xR L]) [] h
    (zQ0 (fun g => zap (fun q => q = o + 4) h g ∧ ∀ m c : Int, 0 ≤ m → m < 60 → 0 ≤ c → c < 11 → g (o + 4) (m * 11 + c) = zask h o L m c)) := by
  have hm1 := hP.1.1
  have hk := zknown_le (t := h 3 9) hF.1.1
  refine bX6_ask_0 o L ho (by omega) ?_
  refine l_X6_ask_10 o L ho hb hL hbl hP hd (by omega) (fun g ha hv => ?_) (h 3 0).toNat 0 _ (by omega) (by omega) (zfill_ap (S := fun q => q = o + 4) (zap.rf _ _) rfl _ _) (fun m c q1 q2 q3 q4 => by rw [zfill_in _ (by omega) (by omega), if_neg (by omega)])
  refine bX6_ask_105 o ?_
  have hF1 : zFactOK g := by
    unfold zFactOK
    rw [ha 9 2 (by omega), ha 3 0 (by omega)]
    simp only [zget_ap ha (show ¬ (9 : Int) = o + 4 by omega) (show ¬ (9 : Int) + 1 = o + 4 by omega)]
    exact hF
  refine rX6_ask_107 o ho (f_X6_askFacts o ho hb (by rw [ha 3 0 (by omega)]; exact hm1) hF1 (by omega)) (by omega) (fun g1 hg1 => ?_)
  obtain ⟨a1, v1⟩ := hg1
  rw [ha (o + 1) 0 (by omega), ha 3 9 (by omega), zknown_ap ha (by omega) (by omega)] at v1
  have a2 := ha.tr a1
  refine bX6_ask_110 o ?_
  have hG1 : zExamOK g1 := by
    unfold zExamOK
    rw [a2 11 2 (by omega), a2 3 0 (by omega)]
    simp only [zget_ap a2 (show ¬ (11 : Int) = o + 4 by omega) (show ¬ (11 : Int) + 1 = o + 4 by omega)]
    exact hG
  refine rX6_ask_112 o ho (f_X6_askGrades o ho hb (by rw [a2 3 0 (by omega)]; exact hm1) hG1 (by omega)) (by omega) (fun g2 hg2 => ?_)
  obtain ⟨b1, v2⟩ := hg2
  rw [a2 (o + 1) 0 (by omega), a2 3 9 (by omega), zknown_ap a2 (by omega) (by omega)] at v2
  refine bX6_ask_115 o ⟨rfl, rfl, a2.tr b1, fun m c q1 q2 q3 q4 => ?_⟩
  rw [v2 m c q1 q2 q3 q4, v1 m c q1 q2 q3 q4, hv m c q1 q2 q3 q4, zgr_ap a2 (by omega) (by omega), zfa_ap ha (by omega) (by omega)]
  unfold zask
  by_cases e : c = 7
  · rw [if_pos e, if_pos e, zfa_7 hF _ _ (by omega) _ _ _ (by omega)]
    congr 1
    unfold zask0
    (repeat' split) <;> first | rfl | (exfalso; omega)
  · rw [if_neg e, if_neg e]
