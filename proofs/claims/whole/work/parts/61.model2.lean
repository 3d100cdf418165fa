/-! the model: people -/
/-- what the model keeps of SAMES and births names men -/
def mSaOK (h : zH) : Prop := (0 ≤ h 169 29 ∧ h 169 29 ≤ 40) ∧ ∀ k : Int, 0 ≤ k → k < h 169 29 → (0 ≤ h 187 k ∧ h 187 k < h 169 25) ∧ 0 ≤ h 188 k ∧ h 188 k < h 169 25
def mBiOK (h : zH) : Prop := (0 ≤ h 169 26 ∧ h 169 26 ≤ 100) ∧ ∀ k : Int, 0 ≤ k → k < h 169 26 → (0 ≤ h 174 k ∧ h 174 k < h 169 25) ∧ -3120 ≤ h 175 k ∧ h 175 k < 520
/-- a function that tells no difference between those who are known to be the same -/
def mInv (h : zH) (t : Int) (f : Int → Int) : Prop := ∀ k : Int, 0 ≤ k → k < h 169 29 → h 189 k ≤ t → f (h 187 k) = f (h 188 k)
/-- never later than the man himself, and the same man -/
def mLow (h : zH) (t : Int) (H : Int → Int) : Prop := ∀ m : Int, 0 ≤ m → m < h 169 25 → (0 ≤ H m ∧ H m ≤ m) ∧ ∀ f : Int → Int, mInv h t f → f (H m) = f m
def mWho (h : zH) (t : Int) (H : Int → Int) : Prop := mLow h t H ∧ mInv h t H
/-- the last that was written, of those rows that count -/
noncomputable def zlw (C : Int → Prop) (K V f : Int → Int) : Nat → Int → Int
  | 0, q => f q
  | r + 1, q => @ite Int (C r ∧ K r = q) (Classical.propDecidable _) (V r) (zlw C K V f r q)
theorem zlw_t {C : Int → Prop} {K V f : Int → Int} {r : Nat} (c : C r) (q : Int) : zlw C K V f (r + 1) q = if q = K r then V r else zlw C K V f r q := by
  by_cases e : q = K r
  · rw [if_pos e]
    exact if_pos ⟨c, e.symm⟩
  · rw [if_neg e]
    exact if_neg (fun z => e z.2.symm)
theorem zlw_f {C : Int → Prop} {K V f : Int → Int} {r : Nat} (c : ¬ C r) (q : Int) : zlw C K V f (r + 1) q = zlw C K V f r q := if_neg (fun z => c z.1)
theorem zsm_s (f : Int → Int) (n : Nat) : zsm f (n + 1) = zsm f n + f n := rfl
theorem zsm_le {f g : Int → Int} : ∀ n : Nat, (∀ k : Int, 0 ≤ k → k < n → f k ≤ g k) → zsm f n ≤ zsm g n
  | 0, _ => Int.le_refl _
  | n + 1, hh => by
    have i1 := zsm_le n (fun k a b => hh k a (by omega))
    have i2 := hh n (by omega) (by omega)
    rw [zsm_s, zsm_s]
    omega
theorem zsm_lt {f g : Int → Int} (m : Int) (m0 : 0 ≤ m) (hm : f m < g m) : ∀ n : Nat, m < n → (∀ k : Int, 0 ≤ k → k < n → f k ≤ g k) → zsm f n < zsm g n
  | 0, c, _ => by omega
  | n + 1, c, hh => by
    have i2 := hh n (by omega) (by omega)
    rw [zsm_s, zsm_s]
    by_cases e : m = n
    · have i1 := zsm_le n (fun k a b => hh k a (by omega))
      rw [e] at hm
      omega
    · have i1 := zsm_lt m m0 hm n (by omega) (fun k a b => hh k a (by omega))
      omega

set_option maxRecDepth 20000 in
theorem bX11_people_0 {X : zX} {dep bc bs : Nat} (t : Int) {h : zH} {Q : Nat → zH → List zV → Prop}
    (k1 : zW mX11_people X dep bc bs 239 2 [(0, xR 169), (1, xI t), (2, xI 0)] [] h Q) : zW mX11_people X dep bc bs 239 0 [(0, xR 169), (1, xI t)] [] h Q := by
  refine z_iconst dX11_people_0 (zi32_d rfl) ?_
  refine z_istore_n (lv' := [(2, xI 0), (0, xR 169), (1, xI t)]) dX11_people_1 (by decide) rfl ?_
  refine zW.sub (lv' := [(0, xR 169), (1, xI t), (2, xI 0)]) [1, 2, 0] rfl ?_
  exact k1

set_option maxRecDepth 20000 in
theorem bX11_people_2 {X : zX} {dep bc bs : Nat} (t : Int) (i : Int) {g : zH} {Q : Nat → zH → List zV → Prop} (hm : 0 ≤ g 169 25 ∧ g 169 25 ≤ 60) (hi : 0 ≤ i)
    (k1 : (g 169 25) ≤ i → zW mX11_people X dep bc bs 239 32 [(0, xR 169), (1, xI t), (2, xI 1)] [] g Q)
    (k2 : ¬ ((g 169 25) ≤ i) → zW mX11_people X dep bc bs 239 2 [(0, xR 169), (1, xI t), (2, xI (i + 1))] [] (zst (zst g 213 i i) 216 i 0) Q) : zW mX11_people X dep bc bs 239 2 [(0, xR 169), (1, xI t), (2, xI i)] [] g Q := by
  refine z_iload_n 2 dX11_people_2 rfl ?_
  refine z_aload_n 0 dX11_people_3 rfl ?_
  refine z_getI (k := 25) (kz := 25) pk11 dX11_people_4 (by decide) zb_1149 rfl (zOb.lit (by decide +kernel)) rfl ?_
  refine z_icmp_ge (tgt := 30) dX11_people_7 (by decide) (fun c1 => ?_) (fun c1 => ?_)
  ·
    refine z_iconst dX11_people_30 (zi32_d rfl) ?_
    refine z_istore_n (lv' := [(2, xI 1), (0, xR 169), (1, xI t)]) dX11_people_31 (by decide) rfl ?_
    refine zW.sub (lv' := [(0, xR 169), (1, xI t), (2, xI 1)]) [1, 2, 0] rfl ?_
    exact k1 c1
  ·
    refine z_aload_n 0 dX11_people_10 rfl ?_
    refine z_getS (v := 213) (k := 66) (kz := 66) pk11 dX11_people_11 (by decide) zb_1190 rfl (zOb.lit (by decide +kernel)) rfl (by decide +kernel) ?_
    refine z_iload_n 2 dX11_people_14 rfl ?_
    refine z_iload_n 2 dX11_people_15 rfl ?_
    refine z_iast dX11_people_16 (zOb.lit (by decide +kernel)) (show 0 ≤ i ∧ i < 60 from ⟨by omega, by omega⟩).1 (show 0 ≤ i ∧ i < 60 from ⟨by omega, by omega⟩).2 ?_
    refine z_aload_n 0 dX11_people_17 rfl ?_
    refine z_getS (v := 216) (k := 69) (kz := 69) pk11 dX11_people_18 (by decide) zb_1193 rfl (zOb.lit (by decide +kernel)) rfl (by decide +kernel) ?_
    refine z_iload_n 2 dX11_people_21 rfl ?_
    refine z_iconst dX11_people_22 (zi32_d rfl) ?_
    refine z_zast dX11_people_23 (zOb.lit (by decide +kernel)) (show 0 ≤ i ∧ i < 60 from ⟨by omega, by omega⟩).1 (show 0 ≤ i ∧ i < 60 from ⟨by omega, by omega⟩).2 (Or.inl rfl) ?_
    refine z_iincN (lv' := [(2, xI (i + 1)), (0, xR 169), (1, xI t)]) 2 dX11_people_24 rfl (by decide) rfl (show -2147483648 ≤ i + 1 ∧ i + 1 < 2147483648 from ⟨by omega, by omega⟩).1 (show -2147483648 ≤ i + 1 ∧ i + 1 < 2147483648 from ⟨by omega, by omega⟩).2 ?_
    refine z_goto (tgt := 2) dX11_people_27 (by decide) ?_
    refine zW.sub (lv' := [(0, xR 169), (1, xI t), (2, xI (i + 1))]) [1, 2, 0] rfl ?_
    exact k2 c1

set_option maxRecDepth 20000 in
theorem bX11_people_32 {X : zX} {dep bc bs : Nat} (t : Int) (y : Int) {g : zH} {Q : Nat → zH → List zV → Prop}
    (k1 : y = 0 → zW mX11_people X dep bc bs 239 160 [(0, xR 169), (1, xI t), (3, xI 0)] [] g Q)
    (k2 : ¬ (y = 0) → zW mX11_people X dep bc bs 239 40 [(0, xR 169), (1, xI t), (2, xI 0), (3, xI 0)] [] g Q) : zW mX11_people X dep bc bs 239 32 [(0, xR 169), (1, xI t), (2, xI y)] [] g Q := by
  refine z_iload_n 2 dX11_people_32 rfl ?_
  refine z_if_eq (tgt := 158) dX11_people_33 (by decide) (fun c1 => ?_) (fun c1 => ?_)
  ·
    refine z_iconst dX11_people_158 (zi32_d rfl) ?_
    refine z_istore_n (lv' := [(3, xI 0), (0, xR 169), (1, xI t), (2, xI y)]) dX11_people_159 (by decide) rfl ?_
    refine zW.sub (lv' := [(0, xR 169), (1, xI t), (3, xI 0)]) [1, 2, 0] rfl ?_
    exact k1 c1
  ·
    refine z_iconst dX11_people_36 (zi32_d rfl) ?_
    refine z_istore_n (lv' := [(2, xI 0), (0, xR 169), (1, xI t)]) dX11_people_37 (by decide) rfl ?_
    refine z_iconst dX11_people_38 (zi32_d rfl) ?_
    refine z_istore_n (lv' := [(3, xI 0), (2, xI 0), (0, xR 169), (1, xI t)]) dX11_people_39 (by decide) rfl ?_
    refine zW.sub (lv' := [(0, xR 169), (1, xI t), (2, xI 0), (3, xI 0)]) [2, 3, 1, 0] rfl ?_
    exact k2 c1

set_option maxRecDepth 20000 in
theorem bX11_people_40 {X : zX} {dep bc bs : Nat} (t : Int) (y : Int) (k : Int) {g : zH} {Q : Nat → zH → List zV → Prop} (hm : 0 ≤ g 169 25 ∧ g 169 25 ≤ 60) (hs : 0 ≤ g 169 29 ∧ g 169 29 ≤ 40) (hk : 0 ≤ k) (h1 : g 169 29 ≤ k ∨ (0 ≤ g 187 k ∧ g 187 k < g 169 25)) (h2 : g 169 29 ≤ k ∨ (0 ≤ g 188 k ∧ g 188 k < g 169 25))
    (k1 : (g 169 29) ≤ k → zW mX11_people X dep bc bs 239 32 [(0, xR 169), (1, xI t), (2, xI y)] [] g Q)
    (k2 : ¬ ((g 169 29) ≤ k) → (g 189 k) ≤ t → ¬ (g 213 (g 187 k)) = (g 213 (g 188 k)) → (g 213 (g 188 k)) ≤ (g 213 (g 187 k)) → (g 213 (g 188 k)) ≤ (g 213 (g 187 k)) → zW mX11_people X dep bc bs 239 40 [(0, xR 169), (1, xI t), (2, xI 1), (3, xI (k + 1))] [] (zst (zst g 213 (g 187 k) (g 213 (g 188 k))) 213 (g 188 k) (g 213 (g 188 k))) Q)
    (k3 : ¬ ((g 169 29) ≤ k) → (g 189 k) ≤ t → ¬ (g 213 (g 187 k)) = (g 213 (g 188 k)) → (g 213 (g 188 k)) ≤ (g 213 (g 187 k)) → ¬ ((g 213 (g 188 k)) ≤ (g 213 (g 187 k))) → zW mX11_people X dep bc bs 239 40 [(0, xR 169), (1, xI t), (2, xI 1), (3, xI (k + 1))] [] (zst (zst g 213 (g 187 k) (g 213 (g 188 k))) 213 (g 188 k) (g 213 (g 187 k))) Q)
    (k4 : ¬ ((g 169 29) ≤ k) → (g 189 k) ≤ t → ¬ (g 213 (g 187 k)) = (g 213 (g 188 k)) → ¬ ((g 213 (g 188 k)) ≤ (g 213 (g 187 k))) → (g 213 (g 188 k)) ≤ (g 213 (g 187 k)) → zW mX11_people X dep bc bs 239 40 [(0, xR 169), (1, xI t), (2, xI 1), (3, xI (k + 1))] [] (zst (zst g 213 (g 187 k) (g 213 (g 187 k))) 213 (g 188 k) (g 213 (g 188 k))) Q)
    (k5 : ¬ ((g 169 29) ≤ k) → (g 189 k) ≤ t → ¬ (g 213 (g 187 k)) = (g 213 (g 188 k)) → ¬ ((g 213 (g 188 k)) ≤ (g 213 (g 187 k))) → ¬ ((g 213 (g 188 k)) ≤ (g 213 (g 187 k))) → zW mX11_people X dep bc bs 239 40 [(0, xR 169), (1, xI t), (2, xI 1), (3, xI (k + 1))] [] (zst (zst g 213 (g 187 k) (g 213 (g 187 k))) 213 (g 188 k) (g 213 (g 187 k))) Q)
    (k6 : ¬ ((g 169 29) ≤ k) → (g 189 k) ≤ t → (g 213 (g 187 k)) = (g 213 (g 188 k)) → zW mX11_people X dep bc bs 239 40 [(0, xR 169), (1, xI t), (2, xI y), (3, xI (k + 1))] [] g Q)
    (k7 : ¬ ((g 169 29) ≤ k) → ¬ ((g 189 k) ≤ t) → zW mX11_people X dep bc bs 239 40 [(0, xR 169), (1, xI t), (2, xI y), (3, xI (k + 1))] [] g Q) : zW mX11_people X dep bc bs 239 40 [(0, xR 169), (1, xI t), (2, xI y), (3, xI k)] [] g Q := by
  refine z_iload_n 3 dX11_people_40 rfl ?_
  refine z_aload_n 0 dX11_people_41 rfl ?_
  refine z_getI (k := 29) (kz := 29) pk11 dX11_people_42 (by decide) zb_1153 rfl (zOb.lit (by decide +kernel)) rfl ?_
  refine z_icmp_ge (tgt := 155) dX11_people_45 (by decide) (fun c1 => ?_) (fun c1 => ?_)
  ·
    refine z_goto (tgt := 32) dX11_people_155 (by decide) ?_
    refine zW.sub (lv' := [(0, xR 169), (1, xI t), (2, xI y)]) [0, 1, 2] rfl ?_
    exact k1 c1
  ·
    refine z_aload_n 0 dX11_people_48 rfl ?_
    refine z_getS (v := 189) (k := 24) (kz := 24) pk11 dX11_people_49 (by decide) zb_1148 rfl (zOb.lit (by decide +kernel)) rfl (by decide +kernel) ?_
    refine z_iload_n 3 dX11_people_52 rfl ?_
    refine z_iald dX11_people_53 (zOb.lit (by decide +kernel)) (show 0 ≤ k ∧ k < 40 from ⟨by omega, by omega⟩).1 (show 0 ≤ k ∧ k < 40 from ⟨by omega, by omega⟩).2 ?_
    refine z_iload_n 1 dX11_people_54 rfl ?_
    refine z_icmp_le (tgt := 61) dX11_people_55 (by decide) (fun c2 => ?_) (fun c2 => ?_)
    ·
      refine z_aload_n 0 dX11_people_61 rfl ?_
      refine z_getS (v := 213) (k := 66) (kz := 66) pk11 dX11_people_62 (by decide) zb_1190 rfl (zOb.lit (by decide +kernel)) rfl (by decide +kernel) ?_
      refine z_aload_n 0 dX11_people_65 rfl ?_
      refine z_getS (v := 187) (k := 22) (kz := 22) pk11 dX11_people_66 (by decide) zb_1146 rfl (zOb.lit (by decide +kernel)) rfl (by decide +kernel) ?_
      refine z_iload_n 3 dX11_people_69 rfl ?_
      refine z_iald dX11_people_70 (zOb.lit (by decide +kernel)) (show 0 ≤ k ∧ k < 40 from ⟨by omega, by omega⟩).1 (show 0 ≤ k ∧ k < 40 from ⟨by omega, by omega⟩).2 ?_
      refine z_iald dX11_people_71 (zOb.lit (by decide +kernel)) (show 0 ≤ (g 187 k) ∧ (g 187 k) < 60 from ⟨by omega, by omega⟩).1 (show 0 ≤ (g 187 k) ∧ (g 187 k) < 60 from ⟨by omega, by omega⟩).2 ?_
      refine z_istore (lv' := [(4, xI (g 213 (g 187 k))), (0, xR 169), (1, xI t), (2, xI y), (3, xI k)]) dX11_people_72 (by decide) rfl ?_
      refine z_aload_n 1 dX11_people_74 rfl ?_
      refine z_getS (v := 213) (k := 66) (kz := 66) pk11 dX11_people_75 (by decide) zb_1190 rfl (zOb.lit (by decide +kernel)) rfl (by decide +kernel) ?_
      refine z_aload_n 1 dX11_people_78 rfl ?_
      refine z_getS (v := 188) (k := 23) (kz := 23) pk11 dX11_people_79 (by decide) zb_1147 rfl (zOb.lit (by decide +kernel)) rfl (by decide +kernel) ?_
      refine z_iload_n 4 dX11_people_82 rfl ?_
      refine z_iald dX11_people_83 (zOb.lit (by decide +kernel)) (show 0 ≤ k ∧ k < 40 from ⟨by omega, by omega⟩).1 (show 0 ≤ k ∧ k < 40 from ⟨by omega, by omega⟩).2 ?_
      refine z_iald dX11_people_84 (zOb.lit (by decide +kernel)) (show 0 ≤ (g 188 k) ∧ (g 188 k) < 60 from ⟨by omega, by omega⟩).1 (show 0 ≤ (g 188 k) ∧ (g 188 k) < 60 from ⟨by omega, by omega⟩).2 ?_
      refine z_istore (lv' := [(5, xI (g 213 (g 188 k))), (4, xI (g 213 (g 187 k))), (0, xR 169), (1, xI t), (2, xI y), (3, xI k)]) dX11_people_85 (by decide) rfl ?_
      refine z_iload 1 dX11_people_87 rfl ?_
      refine z_iload 0 dX11_people_89 rfl ?_
      refine z_icmp_ne (tgt := 97) dX11_people_91 (by decide) (fun c3 => ?_) (fun c3 => ?_)
      ·
        refine z_aload_n 2 dX11_people_97 rfl ?_
        refine z_getS (v := 213) (k := 66) (kz := 66) pk11 dX11_people_98 (by decide) zb_1190 rfl (zOb.lit (by decide +kernel)) rfl (by decide +kernel) ?_
        refine z_aload_n 2 dX11_people_101 rfl ?_
        refine z_getS (v := 187) (k := 22) (kz := 22) pk11 dX11_people_102 (by decide) zb_1146 rfl (zOb.lit (by decide +kernel)) rfl (by decide +kernel) ?_
        refine z_iload_n 5 dX11_people_105 rfl ?_
        refine z_iald dX11_people_106 (zOb.lit (by decide +kernel)) (show 0 ≤ k ∧ k < 40 from ⟨by omega, by omega⟩).1 (show 0 ≤ k ∧ k < 40 from ⟨by omega, by omega⟩).2 ?_
        refine z_iload 1 dX11_people_107 rfl ?_
        refine z_iload 0 dX11_people_109 rfl ?_
        refine z_icmp_ge (tgt := 119) dX11_people_111 (by decide) (fun c4 => ?_) (fun c4 => ?_)
        ·
          refine z_iload 0 dX11_people_119 rfl ?_
          refine z_iast dX11_people_121 (zOb.lit (by decide +kernel)) (show 0 ≤ (g 187 k) ∧ (g 187 k) < 60 from ⟨by omega, by omega⟩).1 (show 0 ≤ (g 187 k) ∧ (g 187 k) < 60 from ⟨by omega, by omega⟩).2 ?_
          refine z_aload_n 2 dX11_people_122 rfl ?_
          refine z_getS (v := 213) (k := 66) (kz := 66) pk11 dX11_people_123 (by decide) zb_1190 rfl (zOb.lit (by decide +kernel)) rfl (by decide +kernel) ?_
          refine z_aload_n 2 dX11_people_126 rfl ?_
          refine z_getS (v := 188) (k := 23) (kz := 23) pk11 dX11_people_127 (by decide) zb_1147 rfl (zOb.lit (by decide +kernel)) rfl (by decide +kernel) ?_
          refine z_iload_n 5 dX11_people_130 rfl ?_
          refine z_ialdV (v := (g 188 k)) dX11_people_131 (zOb.lit (by decide +kernel)) (show 0 ≤ k ∧ k < 40 from ⟨by omega, by omega⟩).1 (show 0 ≤ k ∧ k < 40 from ⟨by omega, by omega⟩).2 (zst_ne (Or.inl (by decide))) ?_
          refine z_iload 1 dX11_people_132 rfl ?_
          refine z_iload 0 dX11_people_134 rfl ?_
          refine z_icmp_ge (tgt := 144) dX11_people_136 (by decide) (fun c5 => ?_) (fun c5 => ?_)
          ·
            refine z_iload 0 dX11_people_144 rfl ?_
            refine z_iast dX11_people_146 (zOb.lit (by decide +kernel)) (show 0 ≤ (g 188 k) ∧ (g 188 k) < 60 from ⟨by omega, by omega⟩).1 (show 0 ≤ (g 188 k) ∧ (g 188 k) < 60 from ⟨by omega, by omega⟩).2 ?_
            refine z_iconst dX11_people_147 (zi32_d rfl) ?_
            refine z_istore_n (lv' := [(2, xI 1), (5, xI (g 213 (g 188 k))), (4, xI (g 213 (g 187 k))), (0, xR 169), (1, xI t), (3, xI k)]) dX11_people_148 (by decide) rfl ?_
            refine z_iincN (lv' := [(3, xI (k + 1)), (2, xI 1), (5, xI (g 213 (g 188 k))), (4, xI (g 213 (g 187 k))), (0, xR 169), (1, xI t)]) 5 dX11_people_149 rfl (by decide) rfl (show -2147483648 ≤ k + 1 ∧ k + 1 < 2147483648 from ⟨by omega, by omega⟩).1 (show -2147483648 ≤ k + 1 ∧ k + 1 < 2147483648 from ⟨by omega, by omega⟩).2 ?_
            refine z_goto (tgt := 40) dX11_people_152 (by decide) ?_
            refine zW.sub (lv' := [(0, xR 169), (1, xI t), (2, xI 1), (3, xI (k + 1))]) [4, 5, 1, 0] rfl ?_
            exact k2 c1 c2 c3 c4 c5
          ·
            refine z_iload 1 dX11_people_139 rfl ?_
            refine z_goto (tgt := 146) dX11_people_141 (by decide) ?_
            refine z_iast dX11_people_146 (zOb.lit (by decide +kernel)) (show 0 ≤ (g 188 k) ∧ (g 188 k) < 60 from ⟨by omega, by omega⟩).1 (show 0 ≤ (g 188 k) ∧ (g 188 k) < 60 from ⟨by omega, by omega⟩).2 ?_
            refine z_iconst dX11_people_147 (zi32_d rfl) ?_
            refine z_istore_n (lv' := [(2, xI 1), (5, xI (g 213 (g 188 k))), (4, xI (g 213 (g 187 k))), (0, xR 169), (1, xI t), (3, xI k)]) dX11_people_148 (by decide) rfl ?_
            refine z_iincN (lv' := [(3, xI (k + 1)), (2, xI 1), (5, xI (g 213 (g 188 k))), (4, xI (g 213 (g 187 k))), (0, xR 169), (1, xI t)]) 5 dX11_people_149 rfl (by decide) rfl (show -2147483648 ≤ k + 1 ∧ k + 1 < 2147483648 from ⟨by omega, by omega⟩).1 (show -2147483648 ≤ k + 1 ∧ k + 1 < 2147483648 from ⟨by omega, by omega⟩).2 ?_
            refine z_goto (tgt := 40) dX11_people_152 (by decide) ?_
            refine zW.sub (lv' := [(0, xR 169), (1, xI t), (2, xI 1), (3, xI (k + 1))]) [4, 5, 1, 0] rfl ?_
            exact k3 c1 c2 c3 c4 c5
        ·
          refine z_iload 1 dX11_people_114 rfl ?_
          refine z_goto (tgt := 121) dX11_people_116 (by decide) ?_
          refine z_iast dX11_people_121 (zOb.lit (by decide +kernel)) (show 0 ≤ (g 187 k) ∧ (g 187 k) < 60 from ⟨by omega, by omega⟩).1 (show 0 ≤ (g 187 k) ∧ (g 187 k) < 60 from ⟨by omega, by omega⟩).2 ?_
          refine z_aload_n 2 dX11_people_122 rfl ?_
          refine z_getS (v := 213) (k := 66) (kz := 66) pk11 dX11_people_123 (by decide) zb_1190 rfl (zOb.lit (by decide +kernel)) rfl (by decide +kernel) ?_
          refine z_aload_n 2 dX11_people_126 rfl ?_
          refine z_getS (v := 188) (k := 23) (kz := 23) pk11 dX11_people_127 (by decide) zb_1147 rfl (zOb.lit (by decide +kernel)) rfl (by decide +kernel) ?_
          refine z_iload_n 5 dX11_people_130 rfl ?_
          refine z_ialdV (v := (g 188 k)) dX11_people_131 (zOb.lit (by decide +kernel)) (show 0 ≤ k ∧ k < 40 from ⟨by omega, by omega⟩).1 (show 0 ≤ k ∧ k < 40 from ⟨by omega, by omega⟩).2 (zst_ne (Or.inl (by decide))) ?_
          refine z_iload 1 dX11_people_132 rfl ?_
          refine z_iload 0 dX11_people_134 rfl ?_
          refine z_icmp_ge (tgt := 144) dX11_people_136 (by decide) (fun c5 => ?_) (fun c5 => ?_)
          ·
            refine z_iload 0 dX11_people_144 rfl ?_
            refine z_iast dX11_people_146 (zOb.lit (by decide +kernel)) (show 0 ≤ (g 188 k) ∧ (g 188 k) < 60 from ⟨by omega, by omega⟩).1 (show 0 ≤ (g 188 k) ∧ (g 188 k) < 60 from ⟨by omega, by omega⟩).2 ?_
            refine z_iconst dX11_people_147 (zi32_d rfl) ?_
            refine z_istore_n (lv' := [(2, xI 1), (5, xI (g 213 (g 188 k))), (4, xI (g 213 (g 187 k))), (0, xR 169), (1, xI t), (3, xI k)]) dX11_people_148 (by decide) rfl ?_
            refine z_iincN (lv' := [(3, xI (k + 1)), (2, xI 1), (5, xI (g 213 (g 188 k))), (4, xI (g 213 (g 187 k))), (0, xR 169), (1, xI t)]) 5 dX11_people_149 rfl (by decide) rfl (show -2147483648 ≤ k + 1 ∧ k + 1 < 2147483648 from ⟨by omega, by omega⟩).1 (show -2147483648 ≤ k + 1 ∧ k + 1 < 2147483648 from ⟨by omega, by omega⟩).2 ?_
            refine z_goto (tgt := 40) dX11_people_152 (by decide) ?_
            refine zW.sub (lv' := [(0, xR 169), (1, xI t), (2, xI 1), (3, xI (k + 1))]) [4, 5, 1, 0] rfl ?_
            exact k4 c1 c2 c3 c4 c5
          ·
            refine z_iload 1 dX11_people_139 rfl ?_
            refine z_goto (tgt := 146) dX11_people_141 (by decide) ?_
            refine z_iast dX11_people_146 (zOb.lit (by decide +kernel)) (show 0 ≤ (g 188 k) ∧ (g 188 k) < 60 from ⟨by omega, by omega⟩).1 (show 0 ≤ (g 188 k) ∧ (g 188 k) < 60 from ⟨by omega, by omega⟩).2 ?_
            refine z_iconst dX11_people_147 (zi32_d rfl) ?_
            refine z_istore_n (lv' := [(2, xI 1), (5, xI (g 213 (g 188 k))), (4, xI (g 213 (g 187 k))), (0, xR 169), (1, xI t), (3, xI k)]) dX11_people_148 (by decide) rfl ?_
            refine z_iincN (lv' := [(3, xI (k + 1)), (2, xI 1), (5, xI (g 213 (g 188 k))), (4, xI (g 213 (g 187 k))), (0, xR 169), (1, xI t)]) 5 dX11_people_149 rfl (by decide) rfl (show -2147483648 ≤ k + 1 ∧ k + 1 < 2147483648 from ⟨by omega, by omega⟩).1 (show -2147483648 ≤ k + 1 ∧ k + 1 < 2147483648 from ⟨by omega, by omega⟩).2 ?_
            refine z_goto (tgt := 40) dX11_people_152 (by decide) ?_
            refine zW.sub (lv' := [(0, xR 169), (1, xI t), (2, xI 1), (3, xI (k + 1))]) [4, 5, 1, 0] rfl ?_
            exact k5 c1 c2 c3 c4 c5
      ·
        refine z_goto (tgt := 149) dX11_people_94 (by decide) ?_
        refine z_iincN (lv' := [(3, xI (k + 1)), (5, xI (g 213 (g 188 k))), (4, xI (g 213 (g 187 k))), (0, xR 169), (1, xI t), (2, xI y)]) 5 dX11_people_149 rfl (by decide) rfl (show -2147483648 ≤ k + 1 ∧ k + 1 < 2147483648 from ⟨by omega, by omega⟩).1 (show -2147483648 ≤ k + 1 ∧ k + 1 < 2147483648 from ⟨by omega, by omega⟩).2 ?_
        refine z_goto (tgt := 40) dX11_people_152 (by decide) ?_
        refine zW.sub (lv' := [(0, xR 169), (1, xI t), (2, xI y), (3, xI (k + 1))]) [3, 4, 5, 0] rfl ?_
        exact k6 c1 c2 c3
    ·
      refine z_goto (tgt := 149) dX11_people_58 (by decide) ?_
      refine z_iincN (lv' := [(3, xI (k + 1)), (0, xR 169), (1, xI t), (2, xI y)]) 3 dX11_people_149 rfl (by decide) rfl (show -2147483648 ≤ k + 1 ∧ k + 1 < 2147483648 from ⟨by omega, by omega⟩).1 (show -2147483648 ≤ k + 1 ∧ k + 1 < 2147483648 from ⟨by omega, by omega⟩).2 ?_
      refine z_goto (tgt := 40) dX11_people_152 (by decide) ?_
      refine zW.sub (lv' := [(0, xR 169), (1, xI t), (2, xI y), (3, xI (k + 1))]) [1, 2, 3, 0] rfl ?_
      exact k7 c1 c2

set_option maxRecDepth 20000 in
theorem bX11_people_160 {X : zX} {dep bc bs : Nat} (t : Int) (k : Int) {g : zH} {Q : Nat → zH → List zV → Prop} (hm : 0 ≤ g 169 25 ∧ g 169 25 ≤ 60) (hs : 0 ≤ g 169 26 ∧ g 169 26 ≤ 100) (hk : 0 ≤ k) (h1 : g 169 26 ≤ k ∨ (0 ≤ g 174 k ∧ g 174 k < g 169 25))
    (k1 : (g 169 26) ≤ k → zW mX11_people X dep bc bs 239 218 [(0, xR 169), (1, xI t), (3, xI 0)] [] g Q)
    (k2 : ¬ ((g 169 26) ≤ k) → (g 176 k) ≤ t → zW mX11_people X dep bc bs 239 160 [(0, xR 169), (1, xI t), (3, xI (k + 1))] [] (zst (zst g 216 (g 174 k) 1) 214 (g 174 k) (g 175 k)) Q)
    (k3 : ¬ ((g 169 26) ≤ k) → ¬ ((g 176 k) ≤ t) → zW mX11_people X dep bc bs 239 160 [(0, xR 169), (1, xI t), (3, xI (k + 1))] [] g Q) : zW mX11_people X dep bc bs 239 160 [(0, xR 169), (1, xI t), (3, xI k)] [] g Q := by
  refine z_iload_n 2 dX11_people_160 rfl ?_
  refine z_aload_n 0 dX11_people_161 rfl ?_
  refine z_getI (k := 26) (kz := 26) pk11 dX11_people_162 (by decide) zb_1150 rfl (zOb.lit (by decide +kernel)) rfl ?_
  refine z_icmp_ge (tgt := 216) dX11_people_165 (by decide) (fun c1 => ?_) (fun c1 => ?_)
  ·
    refine z_iconst dX11_people_216 (zi32_d rfl) ?_
    refine z_istore_n (lv' := [(3, xI 0), (0, xR 169), (1, xI t)]) dX11_people_217 (by decide) rfl ?_
    refine zW.sub (lv' := [(0, xR 169), (1, xI t), (3, xI 0)]) [1, 2, 0] rfl ?_
    exact k1 c1
  ·
    refine z_aload_n 0 dX11_people_168 rfl ?_
    refine z_getS (v := 176) (k := 11) (kz := 11) pk11 dX11_people_169 (by decide) zb_1135 rfl (zOb.lit (by decide +kernel)) rfl (by decide +kernel) ?_
    refine z_iload_n 2 dX11_people_172 rfl ?_
    refine z_iald dX11_people_173 (zOb.lit (by decide +kernel)) (show 0 ≤ k ∧ k < 100 from ⟨by omega, by omega⟩).1 (show 0 ≤ k ∧ k < 100 from ⟨by omega, by omega⟩).2 ?_
    refine z_iload_n 1 dX11_people_174 rfl ?_
    refine z_icmp_le (tgt := 181) dX11_people_175 (by decide) (fun c2 => ?_) (fun c2 => ?_)
    ·
      refine z_aload_n 0 dX11_people_181 rfl ?_
      refine z_getS (v := 216) (k := 69) (kz := 69) pk11 dX11_people_182 (by decide) zb_1193 rfl (zOb.lit (by decide +kernel)) rfl (by decide +kernel) ?_
      refine z_aload_n 0 dX11_people_185 rfl ?_
      refine z_getS (v := 174) (k := 9) (kz := 9) pk11 dX11_people_186 (by decide) zb_1133 rfl (zOb.lit (by decide +kernel)) rfl (by decide +kernel) ?_
      refine z_iload_n 2 dX11_people_189 rfl ?_
      refine z_iald dX11_people_190 (zOb.lit (by decide +kernel)) (show 0 ≤ k ∧ k < 100 from ⟨by omega, by omega⟩).1 (show 0 ≤ k ∧ k < 100 from ⟨by omega, by omega⟩).2 ?_
      refine z_iconst dX11_people_191 (zi32_d rfl) ?_
      refine z_zast dX11_people_192 (zOb.lit (by decide +kernel)) (show 0 ≤ (g 174 k) ∧ (g 174 k) < 60 from ⟨by omega, by omega⟩).1 (show 0 ≤ (g 174 k) ∧ (g 174 k) < 60 from ⟨by omega, by omega⟩).2 (Or.inr rfl) ?_
      refine z_aload_n 0 dX11_people_193 rfl ?_
      refine z_getS (v := 214) (k := 67) (kz := 67) pk11 dX11_people_194 (by decide) zb_1191 rfl (zOb.lit (by decide +kernel)) rfl (by decide +kernel) ?_
      refine z_aload_n 0 dX11_people_197 rfl ?_
      refine z_getS (v := 174) (k := 9) (kz := 9) pk11 dX11_people_198 (by decide) zb_1133 rfl (zOb.lit (by decide +kernel)) rfl (by decide +kernel) ?_
      refine z_iload_n 2 dX11_people_201 rfl ?_
      refine z_ialdV (v := (g 174 k)) dX11_people_202 (zOb.lit (by decide +kernel)) (show 0 ≤ k ∧ k < 100 from ⟨by omega, by omega⟩).1 (show 0 ≤ k ∧ k < 100 from ⟨by omega, by omega⟩).2 (zst_ne (Or.inl (by decide))) ?_
      refine z_aload_n 0 dX11_people_203 rfl ?_
      refine z_getS (v := 175) (k := 10) (kz := 10) pk11 dX11_people_204 (by decide) zb_1134 rfl (zOb.lit (by decide +kernel)) rfl (by decide +kernel) ?_
      refine z_iload_n 2 dX11_people_207 rfl ?_
      refine z_ialdV (v := (g 175 k)) dX11_people_208 (zOb.lit (by decide +kernel)) (show 0 ≤ k ∧ k < 100 from ⟨by omega, by omega⟩).1 (show 0 ≤ k ∧ k < 100 from ⟨by omega, by omega⟩).2 (zst_ne (Or.inl (by decide))) ?_
      refine z_iast dX11_people_209 (zOb.lit (by decide +kernel)) (show 0 ≤ (g 174 k) ∧ (g 174 k) < 60 from ⟨by omega, by omega⟩).1 (show 0 ≤ (g 174 k) ∧ (g 174 k) < 60 from ⟨by omega, by omega⟩).2 ?_
      refine z_iincN (lv' := [(3, xI (k + 1)), (0, xR 169), (1, xI t)]) 2 dX11_people_210 rfl (by decide) rfl (show -2147483648 ≤ k + 1 ∧ k + 1 < 2147483648 from ⟨by omega, by omega⟩).1 (show -2147483648 ≤ k + 1 ∧ k + 1 < 2147483648 from ⟨by omega, by omega⟩).2 ?_
      refine z_goto (tgt := 160) dX11_people_213 (by decide) ?_
      refine zW.sub (lv' := [(0, xR 169), (1, xI t), (3, xI (k + 1))]) [1, 2, 0] rfl ?_
      exact k2 c1 c2
    ·
      refine z_goto (tgt := 210) dX11_people_178 (by decide) ?_
      refine z_iincN (lv' := [(3, xI (k + 1)), (0, xR 169), (1, xI t)]) 2 dX11_people_210 rfl (by decide) rfl (show -2147483648 ≤ k + 1 ∧ k + 1 < 2147483648 from ⟨by omega, by omega⟩).1 (show -2147483648 ≤ k + 1 ∧ k + 1 < 2147483648 from ⟨by omega, by omega⟩).2 ?_
      refine z_goto (tgt := 160) dX11_people_213 (by decide) ?_
      refine zW.sub (lv' := [(0, xR 169), (1, xI t), (3, xI (k + 1))]) [1, 2, 0] rfl ?_
      exact k3 c1 c2

set_option maxRecDepth 20000 in
theorem bX11_people_218 {X : zX} {dep bc bs : Nat} (t : Int) (i : Int) {g : zH} {Q : Nat → zH → List zV → Prop} (hm : 0 ≤ g 169 25 ∧ g 169 25 ≤ 60) (hi : 0 ≤ i)
    (k1 : (g 169 25) ≤ i → Q 239 g [])
    (k2 : ¬ ((g 169 25) ≤ i) → zW mX11_people X dep bc bs 239 218 [(0, xR 169), (1, xI t), (3, xI (i + 1))] [] (zst g 215 i (if (g 213 i) = i then if (g 216 i) = 0 then 0 else 1 else 0 : Int)) Q) : zW mX11_people X dep bc bs 239 218 [(0, xR 169), (1, xI t), (3, xI i)] [] g Q := by
  refine z_iload_n 2 dX11_people_218 rfl ?_
  refine z_aload_n 0 dX11_people_219 rfl ?_
  refine z_getI (k := 25) (kz := 25) pk11 dX11_people_220 (by decide) zb_1149 rfl (zOb.lit (by decide +kernel)) rfl ?_
  refine z_icmp_ge (tgt := 262) dX11_people_223 (by decide) (fun c1 => ?_) (fun c1 => ?_)
  ·
    exact z_ret dX11_people_262 rfl (k1 c1)
  ·
    refine z_aload_n 0 dX11_people_226 rfl ?_
    refine z_getS (v := 215) (k := 68) (kz := 68) pk11 dX11_people_227 (by decide) zb_1192 rfl (zOb.lit (by decide +kernel)) rfl (by decide +kernel) ?_
    refine z_iload_n 2 dX11_people_230 rfl ?_
    refine z_aload_n 0 dX11_people_231 rfl ?_
    refine z_getS (v := 213) (k := 66) (kz := 66) pk11 dX11_people_232 (by decide) zb_1190 rfl (zOb.lit (by decide +kernel)) rfl (by decide +kernel) ?_
    refine z_iload_n 2 dX11_people_235 rfl ?_
    refine z_iald dX11_people_236 (zOb.lit (by decide +kernel)) (show 0 ≤ i ∧ i < 60 from ⟨by omega, by omega⟩).1 (show 0 ≤ i ∧ i < 60 from ⟨by omega, by omega⟩).2 ?_
    refine z_iload_n 2 dX11_people_237 rfl ?_
    suffices KJ : zW mX11_people X dep bc bs 239 255 [(0, xR 169), (1, xI t), (3, xI i)] [xI (if (g 213 i) = i then if (g 216 i) = 0 then 0 else 1 else 0 : Int), xI i, xR 215] g Q by
      refine z_icmp_ne (tgt := 254) dX11_people_238 (by decide) (fun j1 => ?_) (fun j1 => ?_)
      ·
        refine z_iconst dX11_people_254 (zi32_d rfl) ?_
        rw [if_neg j1] at KJ
        exact KJ
      ·
        refine z_aload_n 0 dX11_people_241 rfl ?_
        refine z_getS (v := 216) (k := 69) (kz := 69) pk11 dX11_people_242 (by decide) zb_1193 rfl (zOb.lit (by decide +kernel)) rfl (by decide +kernel) ?_
        refine z_iload_n 2 dX11_people_245 rfl ?_
        refine z_zald dX11_people_246 (zOb.lit (by decide +kernel)) (show 0 ≤ i ∧ i < 60 from ⟨by omega, by omega⟩).1 (show 0 ≤ i ∧ i < 60 from ⟨by omega, by omega⟩).2 ?_
        refine z_if_eq (tgt := 254) dX11_people_247 (by decide) (fun j2 => ?_) (fun j2 => ?_)
        ·
          refine z_iconst dX11_people_254 (zi32_d rfl) ?_
          rw [if_pos j1] at KJ
          rw [if_pos j2] at KJ
          exact KJ
        ·
          refine z_iconst dX11_people_250 (zi32_d rfl) ?_
          refine z_goto (tgt := 255) dX11_people_251 (by decide) ?_
          rw [if_pos j1] at KJ
          rw [if_neg j2] at KJ
          exact KJ
    refine z_zast dX11_people_255 (zOb.lit (by decide +kernel)) (show 0 ≤ i ∧ i < 60 from ⟨by omega, by omega⟩).1 (show 0 ≤ i ∧ i < 60 from ⟨by omega, by omega⟩).2 (by repeat (first | (left; rfl) | (right; rfl) | split)) ?_
    refine z_iincN (lv' := [(3, xI (i + 1)), (0, xR 169), (1, xI t)]) 2 dX11_people_256 rfl (by decide) rfl (show -2147483648 ≤ i + 1 ∧ i + 1 < 2147483648 from ⟨by omega, by omega⟩).1 (show -2147483648 ≤ i + 1 ∧ i + 1 < 2147483648 from ⟨by omega, by omega⟩).2 ?_
    refine z_goto (tgt := 218) dX11_people_259 (by decide) ?_
    refine zW.sub (lv' := [(0, xR 169), (1, xI t), (3, xI (i + 1))]) [1, 2, 0] rfl ?_
    exact k2 c1


theorem zlw_b {C : Int → Prop} {K V f f' : Int → Int} {q : Int} (e : f q = f' q) : ∀ r : Nat, zlw C K V f r q = zlw C K V f' r q
  | 0 => e
  | r + 1 => by
    unfold zlw
    rw [zlw_b e r]
abbrev mSp : List Int := [213, 214, 215, 216]
theorem l_X11_people_2 {X : zX} {dep : Nat} {h : zH} {Q : Nat → zH → List zV → Prop} (hm : 0 ≤ h 169 25 ∧ h 169 25 ≤ 60) (t : Int)
    (kx : ∀ g : zH, zag mSp h g → (∀ q : Int, g 214 q = h 214 q) → (∀ m, 0 ≤ m → m < h 169 25 → g 213 m = m ∧ g 216 m = 0) → zW mX11_people X dep 0 0 239 32 [(0, xR 169), (1, xI t), (2, xI 1)] [] g Q) :
    ∀ (k : Nat) (i : Int) (g : zH), 0 ≤ i → i + k = h 169 25 → zag mSp h g → (∀ q : Int, g 214 q = h 214 q) → (∀ m, 0 ≤ m → m < i → g 213 m = m ∧ g 216 m = 0) → zW mX11_people X dep 0 0 239 2 [(0, xR 169), (1, xI t), (2, xI i)] [] g Q := by
  intro k
  induction k with
  | zero =>
    intro i g h0 hk ha hb hi
    have e3 := ha 169 25 (by decide)
    refine bX11_people_2 t i (by rw [e3]; exact hm) h0 ?_ ?_
    · intro c
      exact kx g ha hb (fun m q1 q2 => hi m q1 (by omega))
    · intro c
      exfalso
      omega
  | succ k ih =>
    intro i g h0 hk ha hb hi
    have e3 := ha 169 25 (by decide)
    refine bX11_people_2 t i (by rw [e3]; exact hm) h0 ?_ ?_
    · intro c
      exfalso
      omega
    · intro c
      refine ih (i + 1) _ (by omega) (by omega) ((ha.st (by decide) _ _).st (by decide) _ _) (fun q => ?_) (fun m q1 q2 => ?_)
      · rw [zst_ne (Or.inl (by decide)), zst_ne (Or.inl (by decide))]
        exact hb q
      · rw [zst_ne (o := 216) (o' := 213) (Or.inl (by decide)), zst_or, zst_or, zst_ne (o := 213) (o' := 216) (Or.inl (by decide))]
        by_cases e : m = i
        · rw [if_pos e, if_pos e]
          exact ⟨e.symm, rfl⟩
        · rw [if_neg e, if_neg e]
          exact hi m q1 (by omega)
theorem mLow_two {h g : zH} {t p q c : Int} (hl : mLow h t (g 213)) (hpq : ∀ f : Int → Int, mInv h t f → f p = f q) (p0 : 0 ≤ p ∧ p < h 169 25) (q0 : 0 ≤ q ∧ q < h 169 25) (c0 : c = g 213 p ∨ c = g 213 q) (c1 : c ≤ g 213 p ∧ c ≤ g 213 q) :
    mLow h t ((zst (zst g 213 p c) 213 q c) 213) := by
  have a1 := hl p p0.1 p0.2
  have a2 := hl q q0.1 q0.2
  have cc : 0 ≤ c := by
    rcases c0 with e | e <;> omega
  have cf : ∀ f : Int → Int, mInv h t f → f c = f p ∧ f c = f q := fun f hf => by
    have e1 := hpq f hf
    rcases c0 with e | e
    · have e2 := a1.2 f hf
      rw [e]
      omega
    · have e2 := a2.2 f hf
      rw [e]
      omega
  intro m m0 m1
  rw [zst_or, zst_or]
  by_cases eq : m = q
  · rw [if_pos eq, eq]
    exact ⟨⟨cc, by omega⟩, fun f hf => (cf f hf).2⟩
  · rw [if_neg eq]
    by_cases ep : m = p
    · rw [if_pos ep, ep]
      exact ⟨⟨cc, by omega⟩, fun f hf => (cf f hf).1⟩
    · rw [if_neg ep]
      exact hl m m0 m1
theorem mLow_less {h g : zH} {p q c : Int} (p0 : 0 ≤ p ∧ p < h 169 25) (q0 : 0 ≤ q ∧ q < h 169 25) (c1 : c ≤ g 213 p ∧ c ≤ g 213 q) (c2 : c < g 213 p ∨ c < g 213 q) :
    zsm ((zst (zst g 213 p c) 213 q c) 213) (h 169 25).toNat < zsm (g 213) (h 169 25).toNat := by
  have le : ∀ k : Int, zst (zst g 213 p c) 213 q c 213 k ≤ g 213 k := fun k => by
    rw [zst_or, zst_or]
    by_cases e : k = q
    · rw [if_pos e, e]
      exact c1.2
    · rw [if_neg e]
      by_cases e2 : k = p
      · rw [if_pos e2, e2]
        exact c1.1
      · rw [if_neg e2]
        exact Int.le_refl _
  rcases c2 with c2 | c2
  · refine zsm_lt p p0.1 ?_ _ (by omega) (fun k _ _ => le k)
    rw [zst_or, zst_or]
    split
    · omega
    · rw [if_pos rfl]
      exact c2
  · refine zsm_lt q q0.1 ?_ _ (by omega) (fun k _ _ => le k)
    rw [zst_or, if_pos rfl]
    exact c2
theorem l_X11_people_40 {X : zX} {dep : Nat} {h f : zH} {Q : Nat → zH → List zV → Prop} (hm : 0 ≤ h 169 25 ∧ h 169 25 ≤ 60) (hs : mSaOK h) (t s : Int)
    (kx : ∀ (g : zH) (y : Int), zag mSp h g → (∀ q : Int, g 214 q = f 214 q ∧ g 216 q = f 216 q) → mLow h t (g 213) → (y = 0 ∧ mInv h t (g 213) ∨ y = 1 ∧ zsm (g 213) (h 169 25).toNat < s) → zW mX11_people X dep 0 0 239 32 [(0, xR 169), (1, xI t), (2, xI y)] [] g Q) :
    ∀ (j : Nat) (k y : Int) (g : zH), 0 ≤ k → k + j = h 169 29 → zag mSp h g → (∀ q : Int, g 214 q = f 214 q ∧ g 216 q = f 216 q) → mLow h t (g 213) → (y = 0 ∧ (∀ i : Int, 0 ≤ i → i < k → h 189 i ≤ t → g 213 (h 187 i) = g 213 (h 188 i)) ∧ zsm (g 213) (h 169 25).toNat ≤ s ∨ y = 1 ∧ zsm (g 213) (h 169 25).toNat < s) → zW mX11_people X dep 0 0 239 40 [(0, xR 169), (1, xI t), (2, xI y), (3, xI k)] [] g Q := by
  intro j
  induction j with
  | zero =>
    intro k y g h0 hk ha hb hl hy
    have e3 := ha 169 25 (by decide)
    have e4 := ha 169 29 (by decide)
    refine bX11_people_40 t y k (by rw [e3]; exact hm) (by rw [e4]; exact hs.1) h0 (Or.inl (by omega)) (Or.inl (by omega)) ?_ ?_ ?_ ?_ ?_ ?_ ?_
    · intro c
      refine kx g y ha hb hl ?_
      rcases hy with hy | hy
      · exact Or.inl ⟨hy.1, fun i i0 i1 i2 => hy.2.1 i i0 (by omega) i2⟩
      · exact Or.inr hy
    all_goals
      intro c
      exfalso
      omega
  | succ j ih =>
    intro k y g h0 hk ha hb hl hy
    have e3 := ha 169 25 (by decide)
    have e4 := ha 169 29 (by decide)
    have e5 := ha 187 k (by decide)
    have e6 := ha 188 k (by decide)
    have e7 := ha 189 k (by decide)
    have hr := hs.2 k h0 (by omega)
    have two : ∀ c : Int, h 189 k ≤ t → g 213 (h 187 k) ≠ g 213 (h 188 k) → (c = g 213 (h 187 k) ∨ c = g 213 (h 188 k)) → (c ≤ g 213 (h 187 k) ∧ c ≤ g 213 (h 188 k)) → zW mX11_people X dep 0 0 239 40 [(0, xR 169), (1, xI t), (2, xI 1), (3, xI (k + 1))] [] (zst (zst g 213 (h 187 k) c) 213 (h 188 k) c) Q := fun c d0 d1 d2 d3 => by
      have ls := mLow_less (h := h) (g := g) hr.1 hr.2 d3 (by omega)
      refine ih (k + 1) 1 _ (by omega) (by omega) ((ha.st (by decide) _ _).st (by decide) _ _) (fun q => ?_) (mLow_two hl (fun f' hf => hf k h0 (by omega) d0) hr.1 hr.2 d2 d3) (Or.inr ⟨rfl, ?_⟩)
      · rw [zst_ne (Or.inl (by decide)), zst_ne (Or.inl (by decide)), zst_ne (Or.inl (by decide)), zst_ne (Or.inl (by decide))]
        exact hb q
      · rcases hy with hy | hy <;> omega
    refine bX11_people_40 t y k (by rw [e3]; exact hm) (by rw [e4]; exact hs.1) h0 (Or.inr (by omega)) (Or.inr (by omega)) ?_ ?_ ?_ ?_ ?_ ?_ ?_
    · intro c
      exfalso
      omega
    · intro c1 c2 c3 c4 c5
      rw [e5, e6] at c3 c4 ⊢
      exact two _ (by omega) c3 (Or.inr rfl) ⟨c4, Int.le_refl _⟩
    · intro c1 c2 c3 c4 c5
      exact absurd c4 c5
    · intro c1 c2 c3 c4 c5
      exact absurd c5 c4
    · intro c1 c2 c3 c4 c5
      rw [e5, e6] at c3 c4 ⊢
      exact two _ (by omega) c3 (Or.inl rfl) ⟨Int.le_refl _, by omega⟩
    · intro c1 c2 c3
      rw [e5, e6] at c3
      refine ih (k + 1) y g (by omega) (by omega) ha hb hl ?_
      rcases hy with hy | hy
      · refine Or.inl ⟨hy.1, fun i i0 i1 i2 => ?_, hy.2.2⟩
        by_cases e : i = k
        · rw [e]
          exact c3
        · exact hy.2.1 i i0 (by omega) i2
      · exact Or.inr hy
    · intro c1 c2
      refine ih (k + 1) y g (by omega) (by omega) ha hb hl ?_
      rcases hy with hy | hy
      · refine Or.inl ⟨hy.1, fun i i0 i1 i2 => ?_, hy.2.2⟩
        by_cases e : i = k
        · rw [e] at i2
          exfalso
          omega
        · exact hy.2.1 i i0 (by omega) i2
      · exact Or.inr hy
theorem zsm_nn {f : Int → Int} : ∀ n : Nat, (∀ k : Int, 0 ≤ k → k < n → 0 ≤ f k) → 0 ≤ zsm f n
  | 0, _ => Int.le_refl _
  | n + 1, hh => by
    have i1 := zsm_nn n (fun k a b => hh k a (by omega))
    have i2 := hh n (by omega) (by omega)
    rw [zsm_s]
    omega
theorem l_X11_people_32 {X : zX} {dep : Nat} {h f : zH} {Q : Nat → zH → List zV → Prop} (hm : 0 ≤ h 169 25 ∧ h 169 25 ≤ 60) (hs : mSaOK h) (t : Int)
    (kx : ∀ (g : zH), zag mSp h g → (∀ q : Int, g 214 q = f 214 q ∧ g 216 q = f 216 q) → mWho h t (g 213) → zW mX11_people X dep 0 0 239 160 [(0, xR 169), (1, xI t), (3, xI 0)] [] g Q) :
    ∀ (N : Nat) (g : zH), zag mSp h g → (∀ q : Int, g 214 q = f 214 q ∧ g 216 q = f 216 q) → mLow h t (g 213) → zsm (g 213) (h 169 25).toNat < N → zW mX11_people X dep 0 0 239 32 [(0, xR 169), (1, xI t), (2, xI 1)] [] g Q := by
  intro N
  induction N with
  | zero =>
    intro g ha hb hl hN
    have := zsm_nn (f := g 213) (h 169 25).toNat (fun k k0 k1 => (hl k k0 (by omega)).1.1)
    exfalso
    omega
  | succ N ih =>
    intro g ha hb hl hN
    refine bX11_people_32 t 1 ?_ ?_
    · intro c
      exfalso
      omega
    · intro c
      refine l_X11_people_40 hm hs t N (fun g' y ha' hb' hl' hy' => ?_) (h 169 29).toNat 0 0 g (by omega) (by have := hs.1; omega) ha hb hl (Or.inl ⟨rfl, fun i i0 i1 => by omega, by omega⟩)
      rcases hy' with ⟨rfl, hi⟩ | ⟨rfl, hi⟩
      · refine bX11_people_32 t 0 ?_ ?_
        · intro c
          exact kx g' ha' hb' ⟨hl', hi⟩
        · intro c
          exfalso
          omega
      · exact ih g' ha' hb' hl' hi
theorem l_X11_people_160 {X : zX} {dep : Nat} {h f : zH} {Q : Nat → zH → List zV → Prop} (hm : 0 ≤ h 169 25 ∧ h 169 25 ≤ 60) (hs : mBiOK h) (t : Int)
    (kx : ∀ (g : zH), zag mSp h g → (∀ q : Int, g 213 q = f 213 q) → (∀ m : Int, g 216 m = zlw (fun r => h 176 r ≤ t) (h 174) (fun _ => 1) (f 216) (h 169 26).toNat m ∧ g 214 m = zlw (fun r => h 176 r ≤ t) (h 174) (h 175) (f 214) (h 169 26).toNat m) → zW mX11_people X dep 0 0 239 218 [(0, xR 169), (1, xI t), (3, xI 0)] [] g Q) :
    ∀ (j r : Nat) (g : zH), (r : Int) + j = h 169 26 → zag mSp h g → (∀ q : Int, g 213 q = f 213 q) → (∀ m : Int, g 216 m = zlw (fun r => h 176 r ≤ t) (h 174) (fun _ => 1) (f 216) r m ∧ g 214 m = zlw (fun r => h 176 r ≤ t) (h 174) (h 175) (f 214) r m) → zW mX11_people X dep 0 0 239 160 [(0, xR 169), (1, xI t), (3, xI r)] [] g Q := by
  intro j
  induction j with
  | zero =>
    intro r g hk ha hb hw
    have e3 := ha 169 25 (by decide)
    have e4 := ha 169 26 (by decide)
    refine bX11_people_160 t r (by rw [e3]; exact hm) (by rw [e4]; exact hs.1) (by omega) (Or.inl (by omega)) ?_ ?_ ?_
    · intro c
      refine kx g ha hb ?_
      rw [show (h 169 26).toNat = r by omega]
      exact hw
    all_goals
      intro c
      exfalso
      omega
  | succ j ih =>
    intro r g hk ha hb hw
    have e3 := ha 169 25 (by decide)
    have e4 := ha 169 26 (by decide)
    have e5 := ha 174 r (by decide)
    have e6 := ha 175 r (by decide)
    have e7 := ha 176 r (by decide)
    have hr := hs.2 r (by omega) (by omega)
    refine bX11_people_160 t r (by rw [e3]; exact hm) (by rw [e4]; exact hs.1) (by omega) (Or.inr (by omega)) ?_ ?_ ?_
    · intro c
      exfalso
      omega
    · intro c1 c2
      rw [e5, e6]
      rw [e7] at c2
      have := ih (r + 1) _ (by omega) ((ha.st (o := 216) (by decide) (h 174 r) 1).st (o := 214) (by decide) (h 174 r) (h 175 r)) (fun q => by
        rw [zst_ne (Or.inl (by decide)), zst_ne (Or.inl (by decide))]
        exact hb q) (fun m => by
        rw [zlw_t c2, zlw_t c2, zst_ne (o := 214) (o' := 216) (Or.inl (by decide)), zst_or, zst_or, zst_ne (o := 216) (o' := 214) (Or.inl (by decide))]
        by_cases e : m = h 174 r
        · rw [if_pos e, if_pos e, if_pos e, if_pos e]
          exact ⟨rfl, rfl⟩
        · rw [if_neg e, if_neg e, if_neg e, if_neg e]
          exact hw m)
      rw [show ((r + 1 : Nat) : Int) = (r : Int) + 1 by omega] at this
      exact this
    · intro c1 c2
      rw [e7] at c2
      have := ih (r + 1) g (by omega) ha hb (fun m => by
        rw [zlw_f c2, zlw_f c2]
        exact hw m)
      rw [show ((r + 1 : Nat) : Int) = (r : Int) + 1 by omega] at this
      exact this
theorem l_X11_people_218 {X : zX} {dep : Nat} {h f : zH} {Q : Nat → zH → List zV → Prop} (hm : 0 ≤ h 169 25 ∧ h 169 25 ≤ 60) (t : Int)
    (kx : ∀ (g : zH), zag mSp h g → (∀ q : Int, g 213 q = f 213 q ∧ g 214 q = f 214 q ∧ g 216 q = f 216 q) → (∀ m : Int, 0 ≤ m → m < h 169 25 → g 215 m = zb (f 213 m = m ∧ f 216 m ≠ 0)) → Q 239 g []) :
    ∀ (k : Nat) (i : Int) (g : zH), 0 ≤ i → i + k = h 169 25 → zag mSp h g → (∀ q : Int, g 213 q = f 213 q ∧ g 214 q = f 214 q ∧ g 216 q = f 216 q) → (∀ m : Int, 0 ≤ m → m < i → g 215 m = zb (f 213 m = m ∧ f 216 m ≠ 0)) → zW mX11_people X dep 0 0 239 218 [(0, xR 169), (1, xI t), (3, xI i)] [] g Q := by
  intro k
  induction k with
  | zero =>
    intro i g h0 hk ha hb hi
    have e3 := ha 169 25 (by decide)
    refine bX11_people_218 t i (by rw [e3]; exact hm) h0 ?_ ?_
    · intro c
      exact kx g ha hb (fun m q1 q2 => hi m q1 (by omega))
    · intro c
      exfalso
      omega
  | succ k ih =>
    intro i g h0 hk ha hb hi
    have e3 := ha 169 25 (by decide)
    have e4 := hb i
    refine bX11_people_218 t i (by rw [e3]; exact hm) h0 ?_ ?_
    · intro c
      exfalso
      omega
    · intro c
      refine ih (i + 1) _ (by omega) (by omega) (ha.st (by decide) _ _) (fun q => ?_) (fun m q1 q2 => ?_)
      · rw [zst_ne (Or.inl (by decide)), zst_ne (Or.inl (by decide)), zst_ne (Or.inl (by decide))]
        exact hb q
      · rw [zst_or]
        by_cases e : m = i
        · rw [if_pos e, e4.1, e4.2.2, e]
          unfold zb
          (repeat' split) <;> first | rfl | omega
        · rw [if_neg e]
          exact hi m q1 (by omega)
/-- the people as of day t -/
def mPeo (h : zH) (t : Int) (g : zH) : Prop := zag mSp h g ∧ mWho h t (g 213) ∧ ∀ m : Int, 0 ≤ m → m < h 169 25 → g 216 m = zlw (fun r => h 176 r ≤ t) (h 174) (fun _ => 1) (fun _ => 0) (h 169 26).toNat m ∧ g 214 m = zlw (fun r => h 176 r ≤ t) (h 174) (h 175) (h 214) (h 169 26).toNat m ∧ g 215 m = zb (g 213 m = m ∧ g 216 m ≠ 0)
theorem f_X11_people {X : zX} {dep : Nat} (t : Int) {h : zH} (hm : 0 ≤ h 169 25 ∧ h 169 25 ≤ 60) (hs : mSaOK h) (hbi : mBiOK h) : zW mX11_people X dep 0 0 239 0 (zar 0 [xR 169, xI t]) [] h (zQ0 (mPeo h t)) := by
  refine bX11_people_0 t ?_
  refine l_X11_people_2 hm t (fun g ha h214 hw => ?_) (h 169 25).toNat 0 h (by omega) (by omega) (zag.rf _ _) (fun _ => rfl) (fun m q1 q2 => by omega)
  refine l_X11_people_32 (f := g) hm hs t (fun g2 ha2 hb2 hw2 => ?_) ((zsm (g 213) (h 169 25).toNat).toNat + 1) g ha (fun _ => ⟨rfl, rfl⟩) (fun m m0 m1 => ⟨by rw [(hw m m0 m1).1]; exact ⟨m0, Int.le_refl _⟩, fun f _ => by rw [(hw m m0 m1).1]⟩) (by omega)
  refine l_X11_people_160 (f := g2) hm hbi t (fun g3 ha3 hb3 hw3 => ?_) (h 169 26).toNat 0 g2 (by have := hbi.1; omega) ha2 (fun _ => rfl) (fun m => ⟨rfl, rfl⟩)
  refine l_X11_people_218 (f := g3) hm t (fun g4 ha4 hb4 hw4 => ?_) (h 169 25).toNat 0 g3 (by omega) (by omega) ha3 (fun _ => ⟨rfl, rfl, rfl⟩) (fun m q1 q2 => by omega)
  refine ⟨rfl, rfl, ha4, ?_, fun m m0 m1 => ⟨?_, ?_, ?_⟩⟩
  · rw [show g4 213 = g2 213 from funext fun q => (hb4 q).1.trans (hb3 q)]
    exact hw2
  · rw [(hb4 m).2.2, (hw3 m).1]
    refine zlw_b ?_ _
    rw [(hb2 m).2, (hw m m0 m1).2]
  · rw [(hb4 m).2.1, (hw3 m).2]
    refine zlw_b ?_ _
    rw [(hb2 m).1, h214 m]
  · rw [hw4 m m0 m1, (hb4 m).1, (hb4 m).2.2]
