/-! the model: chance -/
set_option maxRecDepth 20000 in
theorem bX11_choose_0 {X : zX} {dep bc bs : Nat} (n : Int) (c : Int) {h : zH} {Q : Nat → zH → List zV → Prop}
    (k1 : c < 0 → Q 239 h [xL 0])
    (k2 : ¬ (c < 0) → c ≤ n → zW mX11_choose X dep bc bs 239 16 [(0, xI n), (1, xI c), (2, xL 1), (4, xI 0)] [] h Q)
    (k3 : ¬ (c < 0) → ¬ (c ≤ n) → Q 239 h [xL 0]) : zW mX11_choose X dep bc bs 239 0 [(0, xI n), (1, xI c)] [] h Q := by
  refine z_iload_n 1 dX11_choose_0 rfl ?_
  refine z_if_lt (tgt := 9) dX11_choose_1 (by decide) (fun c1 => ?_) (fun c1 => ?_)
  ·
    refine z_lconst dX11_choose_9 ?_
    show zW mX11_choose X dep bc bs 239 10 [(0, xI n), (1, xI c)] [xL 0] h Q
    exact z_lret dX11_choose_10 rfl (k1 c1)
  ·
    refine z_iload_n 1 dX11_choose_4 rfl ?_
    refine z_iload_n 0 dX11_choose_5 rfl ?_
    refine z_icmp_le (tgt := 11) dX11_choose_6 (by decide) (fun c2 => ?_) (fun c2 => ?_)
    ·
      refine z_lconst dX11_choose_11 ?_
      show zW mX11_choose X dep bc bs 239 12 [(0, xI n), (1, xI c)] [xL 1] h Q
      refine z_lstore_n (lv' := [(2, xL 1), (0, xI n), (1, xI c)]) dX11_choose_12 (by decide) rfl ?_
      refine z_iconst dX11_choose_13 (zi32_d rfl) ?_
      refine z_istore (lv' := [(4, xI 0), (2, xL 1), (0, xI n), (1, xI c)]) dX11_choose_14 (by decide) rfl ?_
      refine zW.sub (lv' := [(0, xI n), (1, xI c), (2, xL 1), (4, xI 0)]) [2, 3, 1, 0] rfl ?_
      exact k2 c1 c2
    ·
      refine z_lconst dX11_choose_9 ?_
      show zW mX11_choose X dep bc bs 239 10 [(0, xI n), (1, xI c)] [xL 0] h Q
      exact z_lret dX11_choose_10 rfl (k3 c1 c2)

set_option maxRecDepth 20000 in
theorem bX11_choose_16 {X : zX} {dep bc bs : Nat} (n : Int) (c : Int) (f : Int) (i : Int) {h : zH} {Q : Nat → zH → List zV → Prop} (hn : 0 ≤ n ∧ n ≤ 60) (hi : 0 ≤ i ∧ i ≤ 60)
    (k1 : c ≤ i → Q 239 h [xL f])
    (k2 : ¬ (c ≤ i) → zW mX11_choose X dep bc bs 239 16 [(0, xI n), (1, xI c), (2, xL (zldiv (w64 (f * (n - i))) (i + 1))), (4, xI (i + 1))] [] h Q) : zW mX11_choose X dep bc bs 239 16 [(0, xI n), (1, xI c), (2, xL f), (4, xI i)] [] h Q := by
  refine z_iload 3 dX11_choose_16 rfl ?_
  refine z_iload_n 1 dX11_choose_18 rfl ?_
  refine z_icmp_ge (tgt := 42) dX11_choose_19 (by decide) (fun c1 => ?_) (fun c1 => ?_)
  ·
    refine z_lload_n 2 dX11_choose_42 rfl ?_
    exact z_lret dX11_choose_43 rfl (k1 c1)
  ·
    refine z_lload_n 2 dX11_choose_22 rfl ?_
    refine z_iload_n 0 dX11_choose_23 rfl ?_
    refine z_iload 3 dX11_choose_24 rfl ?_
    refine z_isubN dX11_choose_26 (show -2147483648 ≤ n - i ∧ n - i < 2147483648 from ⟨by omega, by omega⟩).1 (show -2147483648 ≤ n - i ∧ n - i < 2147483648 from ⟨by omega, by omega⟩).2 ?_
    refine z_i2l dX11_choose_27 ?_
    refine z_lmul dX11_choose_28 ?_
    refine z_iload 3 dX11_choose_29 rfl ?_
    refine z_iconst dX11_choose_31 (zi32_d rfl) ?_
    refine z_iaddN dX11_choose_32 (show -2147483648 ≤ i + 1 ∧ i + 1 < 2147483648 from ⟨by omega, by omega⟩).1 (show -2147483648 ≤ i + 1 ∧ i + 1 < 2147483648 from ⟨by omega, by omega⟩).2 ?_
    refine z_i2l dX11_choose_33 ?_
    refine z_ldiv dX11_choose_34 (show (i + 1) ≠ 0 by omega) ?_
    refine z_lstore_n (lv' := [(2, xL (zldiv (w64 (f * (n - i))) (i + 1))), (0, xI n), (1, xI c), (4, xI i)]) dX11_choose_35 (by decide) rfl ?_
    refine z_iincN (lv' := [(4, xI (i + 1)), (2, xL (zldiv (w64 (f * (n - i))) (i + 1))), (0, xI n), (1, xI c)]) 3 dX11_choose_36 rfl (by decide) rfl (show -2147483648 ≤ i + 1 ∧ i + 1 < 2147483648 from ⟨by omega, by omega⟩).1 (show -2147483648 ≤ i + 1 ∧ i + 1 < 2147483648 from ⟨by omega, by omega⟩).2 ?_
    refine z_goto (tgt := 16) dX11_choose_39 (by decide) ?_
    refine zW.sub (lv' := [(0, xI n), (1, xI c), (2, xL (zldiv (w64 (f * (n - i))) (i + 1))), (4, xI (i + 1))]) [2, 3, 1, 0] rfl ?_
    exact k2 c1

set_option maxRecDepth 20000 in
theorem bX11_take_0 {X : zX} {dep bc bs : Nat} (n : Int) (m : Int) (c : Int) (x : Int) {h : zH} {Q : Nat → zH → List zV → Prop}
    (k1 : zW mX11_take X dep bc bs 239 7 [(0, xR 169), (1, xI n), (2, xI m), (3, xI c), (5, xL 0), (7, xI x)] [] h Q) : zW mX11_take X dep bc bs 239 0 [(0, xR 169), (1, xI n), (2, xI m), (3, xI c), (4, xI x)] [] h Q := by
  refine z_lconst dX11_take_0 ?_
  show zW mX11_take X dep bc bs 239 1 [(0, xR 169), (1, xI n), (2, xI m), (3, xI c), (4, xI x)] [xL 0] h Q
  refine z_lstore (lv' := [(5, xL 0), (0, xR 169), (1, xI n), (2, xI m), (3, xI c), (4, xI x)]) dX11_take_1 (by decide) rfl ?_
  refine z_iload 5 dX11_take_3 rfl ?_
  refine z_istore (lv' := [(7, xI x), (5, xL 0), (0, xR 169), (1, xI n), (2, xI m), (3, xI c), (4, xI x)]) dX11_take_5 (by decide) rfl ?_
  refine zW.sub (lv' := [(0, xR 169), (1, xI n), (2, xI m), (3, xI c), (5, xL 0), (7, xI x)]) [2, 3, 4, 5, 1, 0] rfl ?_
  exact k1

set_option maxRecDepth 20000 in
theorem bX11_take_7 {X : zX} {dep bc bs : Nat} (n : Int) (m : Int) (c : Int) (u : Int) (i : Int) {h : zH} {Q : Nat → zH → List zV → Prop} (hn : 0 ≤ m ∧ m ≤ n ∧ n ≤ 60 ∧ 0 ≤ c ∧ c ≤ 60) (hi : 0 ≤ i)
    (k1 : c < i → zW mX11_take X dep bc bs 239 41 [(0, xR 169), (1, xI n), (3, xI c), (5, xL u)] [] h Q)
    (k2 : ¬ (c < i) → zW mX11_take X dep bc bs 239 18 [(0, xR 169), (1, xI n), (2, xI m), (3, xI c), (5, xL u), (7, xI i)] [xI i, xI m, xL u] h Q) : zW mX11_take X dep bc bs 239 7 [(0, xR 169), (1, xI n), (2, xI m), (3, xI c), (5, xL u), (7, xI i)] [] h Q := by
  refine z_iload 5 dX11_take_7 rfl ?_
  refine z_iload_n 3 dX11_take_9 rfl ?_
  refine z_icmp_gt (tgt := 41) dX11_take_10 (by decide) (fun c1 => ?_) (fun c1 => ?_)
  ·
    refine zW.sub (lv' := [(0, xR 169), (1, xI n), (3, xI c), (5, xL u)]) [0, 1, 3, 4] rfl ?_
    exact k1 c1
  ·
    refine z_lload 4 dX11_take_13 rfl ?_
    refine z_iload_n 2 dX11_take_15 rfl ?_
    refine z_iload 5 dX11_take_16 rfl ?_
    exact k2 c1

set_option maxRecDepth 20000 in
theorem rX11_take_18 {X : zX} {dep bc bs : Nat} (n : Int) (m : Int) (c : Int) (u : Int) (i : Int) {h : zH} {Q : Nat → zH → List zV → Prop} {P : Int → zH → Prop}
    (hZ : zW mX11_choose X (dep - 1) 0 0 239 0 (zar 0 [xI m, xI i]) [] h (zQL P)) (hdep : 1 ≤ dep)
    (k : ∀ (v : Int) (g : zH), P v g → zW mX11_take X dep bc bs 239 21 [(0, xR 169), (1, xI n), (2, xI m), (3, xI c), (5, xL u), (7, xI i)] [xL v, xL u] g Q) : zW mX11_take X dep bc bs 239 18 [(0, xR 169), (1, xI n), (2, xI m), (3, xI c), (5, xL u), (7, xI i)] [xI i, xI m, xL u] h Q :=
  z_invSQL (as := [xI m, xI i]) (st := [xL u]) (ra := [xI i, xI m]) hZ dX11_take_18 nX11_choose zb_1743 zb_1744 zb_92 (by omega) (Nat.le_of_ble_eq_true rfl) (Nat.le_of_ble_eq_true rfl) rfl (fun v g hg => k v g hg)

set_option maxRecDepth 20000 in
theorem bX11_take_21 {X : zX} {dep bc bs : Nat} (n : Int) (m : Int) (c : Int) (u : Int) (i : Int) (f : Int) {h : zH} {Q : Nat → zH → List zV → Prop} (hn : 0 ≤ m ∧ m ≤ n ∧ n ≤ 60 ∧ 0 ≤ c ∧ c ≤ 60) (hi : 0 ≤ i ∧ i ≤ 60)
    (k1 : zW mX11_take X dep bc bs 239 28 [(0, xR 169), (1, xI n), (2, xI m), (3, xI c), (5, xL u), (7, xI i)] [xI (c - i), xI (n - m), xL f, xL u] h Q) : zW mX11_take X dep bc bs 239 21 [(0, xR 169), (1, xI n), (2, xI m), (3, xI c), (5, xL u), (7, xI i)] [xL f, xL u] h Q := by
  refine z_iload_n 1 dX11_take_21 rfl ?_
  refine z_iload_n 2 dX11_take_22 rfl ?_
  refine z_isubN dX11_take_23 (show -2147483648 ≤ n - m ∧ n - m < 2147483648 from ⟨by omega, by omega⟩).1 (show -2147483648 ≤ n - m ∧ n - m < 2147483648 from ⟨by omega, by omega⟩).2 ?_
  refine z_iload_n 3 dX11_take_24 rfl ?_
  refine z_iload 5 dX11_take_25 rfl ?_
  refine z_isubN dX11_take_27 (show -2147483648 ≤ c - i ∧ c - i < 2147483648 from ⟨by omega, by omega⟩).1 (show -2147483648 ≤ c - i ∧ c - i < 2147483648 from ⟨by omega, by omega⟩).2 ?_
  exact k1

set_option maxRecDepth 20000 in
theorem rX11_take_28 {X : zX} {dep bc bs : Nat} (n : Int) (m : Int) (c : Int) (u : Int) (i : Int) (f : Int) {h : zH} {Q : Nat → zH → List zV → Prop} {P : Int → zH → Prop}
    (hZ : zW mX11_choose X (dep - 1) 0 0 239 0 (zar 0 [xI (n - m), xI (c - i)]) [] h (zQL P)) (hdep : 1 ≤ dep)
    (k : ∀ (v : Int) (g : zH), P v g → zW mX11_take X dep bc bs 239 31 [(0, xR 169), (1, xI n), (2, xI m), (3, xI c), (5, xL u), (7, xI i)] [xL v, xL f, xL u] g Q) : zW mX11_take X dep bc bs 239 28 [(0, xR 169), (1, xI n), (2, xI m), (3, xI c), (5, xL u), (7, xI i)] [xI (c - i), xI (n - m), xL f, xL u] h Q :=
  z_invSQL (as := [xI (n - m), xI (c - i)]) (st := [xL f, xL u]) (ra := [xI (c - i), xI (n - m)]) hZ dX11_take_28 nX11_choose zb_1743 zb_1744 zb_92 (by omega) (Nat.le_of_ble_eq_true rfl) (Nat.le_of_ble_eq_true rfl) rfl (fun v g hg => k v g hg)

set_option maxRecDepth 20000 in
theorem bX11_take_31 {X : zX} {dep bc bs : Nat} (n : Int) (m : Int) (c : Int) (u : Int) (i : Int) (f : Int) (y : Int) {h : zH} {Q : Nat → zH → List zV → Prop} (hn : 0 ≤ m ∧ m ≤ n ∧ n ≤ 60 ∧ 0 ≤ c ∧ c ≤ 60) (hi : 0 ≤ i ∧ i ≤ 60)
    (k1 : zW mX11_take X dep bc bs 239 7 [(0, xR 169), (1, xI n), (2, xI m), (3, xI c), (5, xL (w64 (u + (w64 (f * y))))), (7, xI (i + 1))] [] h Q) : zW mX11_take X dep bc bs 239 31 [(0, xR 169), (1, xI n), (2, xI m), (3, xI c), (5, xL u), (7, xI i)] [xL y, xL f, xL u] h Q := by
  refine z_lmul dX11_take_31 ?_
  refine z_ladd dX11_take_32 ?_
  refine z_lstore (lv' := [(5, xL (w64 (u + (w64 (f * y))))), (0, xR 169), (1, xI n), (2, xI m), (3, xI c), (7, xI i)]) dX11_take_33 (by decide) rfl ?_
  refine z_iincN (lv' := [(7, xI (i + 1)), (5, xL (w64 (u + (w64 (f * y))))), (0, xR 169), (1, xI n), (2, xI m), (3, xI c)]) 5 dX11_take_35 rfl (by decide) rfl (show -2147483648 ≤ i + 1 ∧ i + 1 < 2147483648 from ⟨by omega, by omega⟩).1 (show -2147483648 ≤ i + 1 ∧ i + 1 < 2147483648 from ⟨by omega, by omega⟩).2 ?_
  refine z_goto (tgt := 7) dX11_take_38 (by decide) ?_
  refine zW.sub (lv' := [(0, xR 169), (1, xI n), (2, xI m), (3, xI c), (5, xL (w64 (u + (w64 (f * y))))), (7, xI (i + 1))]) [2, 3, 4, 5, 1, 0] rfl ?_
  exact k1

set_option maxRecDepth 20000 in
theorem bX11_take_41 {X : zX} {dep bc bs : Nat} (n : Int) (c : Int) (u : Int) {h : zH} {Q : Nat → zH → List zV → Prop}
    (k1 : zW mX11_take X dep bc bs 239 43 [(0, xR 169), (1, xI n), (3, xI c), (5, xL u)] [xI c, xI n] h Q) : zW mX11_take X dep bc bs 239 41 [(0, xR 169), (1, xI n), (3, xI c), (5, xL u)] [] h Q := by
  refine z_iload_n 1 dX11_take_41 rfl ?_
  refine z_iload_n 2 dX11_take_42 rfl ?_
  exact k1

set_option maxRecDepth 20000 in
theorem rX11_take_43 {X : zX} {dep bc bs : Nat} (n : Int) (c : Int) (u : Int) {h : zH} {Q : Nat → zH → List zV → Prop} {P : Int → zH → Prop}
    (hZ : zW mX11_choose X (dep - 1) 0 0 239 0 (zar 0 [xI n, xI c]) [] h (zQL P)) (hdep : 1 ≤ dep)
    (k : ∀ (v : Int) (g : zH), P v g → zW mX11_take X dep bc bs 239 46 [(0, xR 169), (1, xI n), (3, xI c), (5, xL u)] [xL v] g Q) : zW mX11_take X dep bc bs 239 43 [(0, xR 169), (1, xI n), (3, xI c), (5, xL u)] [xI c, xI n] h Q :=
  z_invSQL (as := [xI n, xI c]) (st := []) (ra := [xI c, xI n]) hZ dX11_take_43 nX11_choose zb_1743 zb_1744 zb_92 (by omega) (Nat.le_of_ble_eq_true rfl) (Nat.le_of_ble_eq_true rfl) rfl (fun v g hg => k v g hg)

set_option maxRecDepth 20000 in
theorem bX11_take_46 {X : zX} {dep bc bs : Nat} (n : Int) (c : Int) (u : Int) (f : Int) {h : zH} {Q : Nat → zH → List zV → Prop}
    (k1 : zW mX11_take X dep bc bs 239 56 [(0, xR 169), (5, xL u), (7, xL f), (9, xL u), (11, xL f)] [] h Q) : zW mX11_take X dep bc bs 239 46 [(0, xR 169), (1, xI n), (3, xI c), (5, xL u)] [xL f] h Q := by
  refine z_lstore (lv' := [(7, xL f), (0, xR 169), (1, xI n), (3, xI c), (5, xL u)]) dX11_take_46 (by decide) rfl ?_
  refine z_lload 4 dX11_take_48 rfl ?_
  refine z_lstore (lv' := [(9, xL u), (7, xL f), (0, xR 169), (1, xI n), (3, xI c), (5, xL u)]) dX11_take_50 (by decide) rfl ?_
  refine z_lload 1 dX11_take_52 rfl ?_
  refine z_lstore (lv' := [(11, xL f), (9, xL u), (7, xL f), (0, xR 169), (1, xI n), (3, xI c), (5, xL u)]) dX11_take_54 (by decide) rfl ?_
  refine zW.sub (lv' := [(0, xR 169), (5, xL u), (7, xL f), (9, xL u), (11, xL f)]) [3, 6, 2, 1, 0] rfl ?_
  exact k1

set_option maxRecDepth 20000 in
theorem bX11_take_56 {X : zX} {dep bc bs : Nat} (u : Int) (f : Int) (a : Int) (b : Int) {h : zH} {Q : Nat → zH → List zV → Prop} (s1 : ¬ ((zcmp b 0) = 0) → b ≠ 0)
    (k1 : (zcmp b 0) = 0 → zW mX11_take X dep bc bs 239 81 [(0, xR 169), (5, xL u), (7, xL f), (9, xL a)] [] h Q)
    (k2 : ¬ ((zcmp b 0) = 0) → zW mX11_take X dep bc bs 239 56 [(0, xR 169), (5, xL u), (7, xL f), (9, xL b), (11, xL (zlrem a b))] [] h Q) : zW mX11_take X dep bc bs 239 56 [(0, xR 169), (5, xL u), (7, xL f), (9, xL a), (11, xL b)] [] h Q := by
  refine z_lload 4 dX11_take_56 rfl ?_
  refine z_lconst dX11_take_58 ?_
  show zW mX11_take X dep bc bs 239 59 [(0, xR 169), (5, xL u), (7, xL f), (9, xL a), (11, xL b)] [xL 0, xL b] h Q
  refine z_lcmp dX11_take_59 ?_
  refine z_if_eq (tgt := 81) dX11_take_60 (by decide) (fun c1 => ?_) (fun c1 => ?_)
  ·
    refine zW.sub (lv' := [(0, xR 169), (5, xL u), (7, xL f), (9, xL a)]) [0, 1, 2, 3] rfl ?_
    exact k1 c1
  ·
    refine z_lload 3 dX11_take_63 rfl ?_
    refine z_lload 4 dX11_take_65 rfl ?_
    refine z_lrem dX11_take_67 (s1 c1) ?_
    refine z_lstore (lv' := [(13, xL (zlrem a b)), (0, xR 169), (5, xL u), (7, xL f), (9, xL a), (11, xL b)]) dX11_take_68 (by decide) rfl ?_
    refine z_lload 5 dX11_take_70 rfl ?_
    refine z_lstore (lv' := [(9, xL b), (13, xL (zlrem a b)), (0, xR 169), (5, xL u), (7, xL f), (11, xL b)]) dX11_take_72 (by decide) rfl ?_
    refine z_lload 1 dX11_take_74 rfl ?_
    refine z_lstore (lv' := [(11, xL (zlrem a b)), (9, xL b), (13, xL (zlrem a b)), (0, xR 169), (5, xL u), (7, xL f)]) dX11_take_76 (by decide) rfl ?_
    refine z_goto (tgt := 56) dX11_take_78 (by decide) ?_
    refine zW.sub (lv' := [(0, xR 169), (5, xL u), (7, xL f), (9, xL b), (11, xL (zlrem a b))]) [3, 4, 5, 1, 0] rfl ?_
    exact k2 c1

set_option maxRecDepth 20000 in
theorem bX11_take_81 {X : zX} {dep bc bs : Nat} (u : Int) (f : Int) (a : Int) {g : zH} {Q : Nat → zH → List zV → Prop} (s1 : a ≠ 0)
    (k1 : Q 239 (zst (zst g 234 0 (zldiv u a)) 234 1 (zldiv f a)) []) : zW mX11_take X dep bc bs 239 81 [(0, xR 169), (5, xL u), (7, xL f), (9, xL a)] [] g Q := by
  refine z_aload_n 0 dX11_take_81 rfl ?_
  refine z_getS (v := 234) (k := 92) (kz := 92) pk11 dX11_take_82 (by decide) zb_1216 rfl (zOb.lit (by decide +kernel)) rfl (by decide +kernel) ?_
  refine z_iconst dX11_take_85 (zi32_d rfl) ?_
  refine z_lload 1 dX11_take_86 rfl ?_
  refine z_lload 3 dX11_take_88 rfl ?_
  refine z_ldiv dX11_take_90 (s1) ?_
  refine z_last (N := 2) dX11_take_91 (zOb.lit (by decide +kernel)) (by decide) (by decide) ?_
  refine z_aload_n 0 dX11_take_92 rfl ?_
  refine z_getS (v := 234) (k := 92) (kz := 92) pk11 dX11_take_93 (by decide) zb_1216 rfl (zOb.lit (by decide +kernel)) rfl (by decide +kernel) ?_
  refine z_iconst dX11_take_96 (zi32_d rfl) ?_
  refine z_lload 2 dX11_take_97 rfl ?_
  refine z_lload 3 dX11_take_99 rfl ?_
  refine z_ldiv dX11_take_101 (s1) ?_
  refine z_last (N := 2) dX11_take_102 (zOb.lit (by decide +kernel)) (by decide) (by decide) ?_
  exact z_ret dX11_take_103 rfl (k1)

set_option maxRecDepth 20000 in
theorem bX11_mixed_0 {X : zX} {dep bc bs : Nat} (l : Int) (c : Int) (a : Int) (b : Int) (w : Int) {h : zH} {Q : Nat → zH → List zV → Prop} (hl : 0 ≤ h 169 65 ∧ h 169 65 ≤ 4) (hdep : 2 ≤ dep)
    (k1 : ¬ (0 ≤ l ∧ l < h 169 65) → Q 239 (zst h 169 0 1) [xL 0])
    (k2 : 0 ≤ l ∧ l < h 169 65 → ¬ (0 ≤ c ∧ c ≤ 52) → Q 239 (zst h 169 0 1) [xL 0])
    (k3 : 0 ≤ l ∧ l < h 169 65 → 0 ≤ c ∧ c ≤ 52 → ¬ (0 ≤ a ∧ a ≤ 51) → Q 239 (zst h 169 0 1) [xL 0])
    (k4 : 0 ≤ l ∧ l < h 169 65 → 0 ≤ c ∧ c ≤ 52 → 0 ≤ a ∧ a ≤ 51 → ¬ (a ≤ b ∧ b ≤ 51) → Q 239 (zst h 169 0 1) [xL 0])
    (k5 : 0 ≤ l ∧ l < h 169 65 → 0 ≤ c ∧ c ≤ 52 → 0 ≤ a ∧ a ≤ 51 → a ≤ b ∧ b ≤ 51 → 0 ≤ w ∧ w ≤ 2 → zW mX11_mixed X dep bc bs 239 69 [(0, xR 169), (1, xI l), (2, xI c), (3, xI a), (4, xI b), (5, xI w), (6, xI 0), (7, xI 0)] [] (zst h 169 0 0) Q)
    (k6 : 0 ≤ l ∧ l < h 169 65 → 0 ≤ c ∧ c ≤ 52 → 0 ≤ a ∧ a ≤ 51 → a ≤ b ∧ b ≤ 51 → ¬ (0 ≤ w ∧ w ≤ 2) → Q 239 (zst h 169 0 1) [xL 0]) : zW mX11_mixed X dep bc bs 239 0 [(0, xR 169), (1, xI l), (2, xI c), (3, xI a), (4, xI b), (5, xI w)] [] h Q := by
  refine z_aload_n 0 dX11_mixed_0 rfl ?_
  refine z_aload_n 0 dX11_mixed_1 rfl ?_
  refine z_iload_n 1 dX11_mixed_2 rfl ?_
  refine z_invF (ci := 11) (N := 97) (as := [xI l]) (st := [xR 169]) (ra := [xI l]) (dep' := dep - 1) (rs := [xI (zb (0 ≤ l ∧ l < h 169 65))]) (h' := h) (f_X11_isLot l (h := h) hl (by omega)) dX11_mixed_3 nX11_isLot zb_1583 zb_1585 zb_55 zb_92 (zOb.lit (by decide +kernel)) rfl (by omega) zne_I (Nat.le_of_ble_eq_true rfl) (Nat.le_of_ble_eq_true rfl) rfl ?_
  refine z_ifB_eq (C := 0 ≤ l ∧ l < h 169 65) (tgt := 50) dX11_mixed_6 (by decide) (fun c1 => ?_) (fun c1 => ?_)
  ·
    refine z_iconst dX11_mixed_50 (zi32_d rfl) ?_
    refine z_goto (tgt := 55) dX11_mixed_51 (by decide) ?_
    refine z_invF (ci := 11) (N := 97) (as := [xI 1]) (st := []) (ra := [xI 1]) (dep' := dep - 1) (rs := [xI 1]) (h' := (zst h 169 0 1)) (f_X11_throwsIf 1 (h := h) (show 1 = 0 ∨ 1 = 1 by omega)) dX11_mixed_55 nX11_throwsIf zb_1735 zb_1737 zb_78 zb_92 (zOb.lit (by decide +kernel)) rfl (by omega) zne_I (Nat.le_of_ble_eq_true rfl) (Nat.le_of_ble_eq_true rfl) rfl ?_
    refine z_if_eq (tgt := 63) dX11_mixed_58 (by decide) (fun c => absurd c (by decide)) (fun _ => ?_)
    refine z_lconst dX11_mixed_61 ?_
    show zW mX11_mixed X dep bc bs 239 62 [(0, xR 169), (1, xI l), (2, xI c), (3, xI a), (4, xI b), (5, xI w)] [xL 0] (zst h 169 0 1) Q
    exact z_lret dX11_mixed_62 rfl (k1 c1)
  ·
    refine z_iload_n 2 dX11_mixed_9 rfl ?_
    refine z_iconst dX11_mixed_10 (zi32_d rfl) ?_
    refine z_bipush dX11_mixed_11 (zi32_d rfl) (by decide) ?_
    refine z_invSF (as := [xI c, xI 0, xI 52]) (st := [xR 169]) (ra := [xI 52, xI 0, xI c]) (dep' := dep - 1) (rs := [xI (zb (0 ≤ c ∧ c ≤ 52))]) (h' := h) (f_X11_isIn c 0 52 (h := h) ) dX11_mixed_13 nX11_isIn zb_1437 zb_1438 zb_92 (by omega) zne_I (Nat.le_of_ble_eq_true rfl) (Nat.le_of_ble_eq_true rfl) rfl ?_
    refine z_ifB_eq (C := 0 ≤ c ∧ c ≤ 52) (tgt := 50) dX11_mixed_16 (by decide) (fun c2 => ?_) (fun c2 => ?_)
    ·
      refine z_iconst dX11_mixed_50 (zi32_d rfl) ?_
      refine z_goto (tgt := 55) dX11_mixed_51 (by decide) ?_
      refine z_invF (ci := 11) (N := 97) (as := [xI 1]) (st := []) (ra := [xI 1]) (dep' := dep - 1) (rs := [xI 1]) (h' := (zst h 169 0 1)) (f_X11_throwsIf 1 (h := h) (show 1 = 0 ∨ 1 = 1 by omega)) dX11_mixed_55 nX11_throwsIf zb_1735 zb_1737 zb_78 zb_92 (zOb.lit (by decide +kernel)) rfl (by omega) zne_I (Nat.le_of_ble_eq_true rfl) (Nat.le_of_ble_eq_true rfl) rfl ?_
      refine z_if_eq (tgt := 63) dX11_mixed_58 (by decide) (fun c => absurd c (by decide)) (fun _ => ?_)
      refine z_lconst dX11_mixed_61 ?_
      show zW mX11_mixed X dep bc bs 239 62 [(0, xR 169), (1, xI l), (2, xI c), (3, xI a), (4, xI b), (5, xI w)] [xL 0] (zst h 169 0 1) Q
      exact z_lret dX11_mixed_62 rfl (k2 c1 c2)
    ·
      refine z_iload_n 3 dX11_mixed_19 rfl ?_
      refine z_iconst dX11_mixed_20 (zi32_d rfl) ?_
      refine z_bipush dX11_mixed_21 (zi32_d rfl) (by decide) ?_
      refine z_invSF (as := [xI a, xI 0, xI 51]) (st := [xR 169]) (ra := [xI 51, xI 0, xI a]) (dep' := dep - 1) (rs := [xI (zb (0 ≤ a ∧ a ≤ 51))]) (h' := h) (f_X11_isIn a 0 51 (h := h) ) dX11_mixed_23 nX11_isIn zb_1437 zb_1438 zb_92 (by omega) zne_I (Nat.le_of_ble_eq_true rfl) (Nat.le_of_ble_eq_true rfl) rfl ?_
      refine z_ifB_eq (C := 0 ≤ a ∧ a ≤ 51) (tgt := 50) dX11_mixed_26 (by decide) (fun c3 => ?_) (fun c3 => ?_)
      ·
        refine z_iconst dX11_mixed_50 (zi32_d rfl) ?_
        refine z_goto (tgt := 55) dX11_mixed_51 (by decide) ?_
        refine z_invF (ci := 11) (N := 97) (as := [xI 1]) (st := []) (ra := [xI 1]) (dep' := dep - 1) (rs := [xI 1]) (h' := (zst h 169 0 1)) (f_X11_throwsIf 1 (h := h) (show 1 = 0 ∨ 1 = 1 by omega)) dX11_mixed_55 nX11_throwsIf zb_1735 zb_1737 zb_78 zb_92 (zOb.lit (by decide +kernel)) rfl (by omega) zne_I (Nat.le_of_ble_eq_true rfl) (Nat.le_of_ble_eq_true rfl) rfl ?_
        refine z_if_eq (tgt := 63) dX11_mixed_58 (by decide) (fun c => absurd c (by decide)) (fun _ => ?_)
        refine z_lconst dX11_mixed_61 ?_
        show zW mX11_mixed X dep bc bs 239 62 [(0, xR 169), (1, xI l), (2, xI c), (3, xI a), (4, xI b), (5, xI w)] [xL 0] (zst h 169 0 1) Q
        exact z_lret dX11_mixed_62 rfl (k3 c1 c2 c3)
      ·
        refine z_iload 4 dX11_mixed_29 rfl ?_
        refine z_iload_n 3 dX11_mixed_31 rfl ?_
        refine z_bipush dX11_mixed_32 (zi32_d rfl) (by decide) ?_
        refine z_invSF (as := [xI b, xI a, xI 51]) (st := [xR 169]) (ra := [xI 51, xI a, xI b]) (dep' := dep - 1) (rs := [xI (zb (a ≤ b ∧ b ≤ 51))]) (h' := h) (f_X11_isIn b a 51 (h := h) ) dX11_mixed_34 nX11_isIn zb_1437 zb_1438 zb_92 (by omega) zne_I (Nat.le_of_ble_eq_true rfl) (Nat.le_of_ble_eq_true rfl) rfl ?_
        refine z_ifB_eq (C := a ≤ b ∧ b ≤ 51) (tgt := 50) dX11_mixed_37 (by decide) (fun c4 => ?_) (fun c4 => ?_)
        ·
          refine z_iconst dX11_mixed_50 (zi32_d rfl) ?_
          refine z_goto (tgt := 55) dX11_mixed_51 (by decide) ?_
          refine z_invF (ci := 11) (N := 97) (as := [xI 1]) (st := []) (ra := [xI 1]) (dep' := dep - 1) (rs := [xI 1]) (h' := (zst h 169 0 1)) (f_X11_throwsIf 1 (h := h) (show 1 = 0 ∨ 1 = 1 by omega)) dX11_mixed_55 nX11_throwsIf zb_1735 zb_1737 zb_78 zb_92 (zOb.lit (by decide +kernel)) rfl (by omega) zne_I (Nat.le_of_ble_eq_true rfl) (Nat.le_of_ble_eq_true rfl) rfl ?_
          refine z_if_eq (tgt := 63) dX11_mixed_58 (by decide) (fun c => absurd c (by decide)) (fun _ => ?_)
          refine z_lconst dX11_mixed_61 ?_
          show zW mX11_mixed X dep bc bs 239 62 [(0, xR 169), (1, xI l), (2, xI c), (3, xI a), (4, xI b), (5, xI w)] [xL 0] (zst h 169 0 1) Q
          exact z_lret dX11_mixed_62 rfl (k4 c1 c2 c3 c4)
        ·
          refine z_iload 5 dX11_mixed_40 rfl ?_
          refine z_iconst dX11_mixed_42 (zi32_d rfl) ?_
          refine z_iconst dX11_mixed_43 (zi32_d rfl) ?_
          refine z_invSF (as := [xI w, xI 0, xI 2]) (st := [xR 169]) (ra := [xI 2, xI 0, xI w]) (dep' := dep - 1) (rs := [xI (zb (0 ≤ w ∧ w ≤ 2))]) (h' := h) (f_X11_isIn w 0 2 (h := h) ) dX11_mixed_44 nX11_isIn zb_1437 zb_1438 zb_92 (by omega) zne_I (Nat.le_of_ble_eq_true rfl) (Nat.le_of_ble_eq_true rfl) rfl ?_
          refine z_ifB_ne (C := 0 ≤ w ∧ w ≤ 2) (tgt := 54) dX11_mixed_47 (by decide) (fun c5 => ?_) (fun c5 => ?_)
          ·
            refine z_iconst dX11_mixed_54 (zi32_d rfl) ?_
            refine z_invF (ci := 11) (N := 97) (as := [xI 0]) (st := []) (ra := [xI 0]) (dep' := dep - 1) (rs := [xI 0]) (h' := (zst h 169 0 0)) (f_X11_throwsIf 0 (h := h) (show 0 = 0 ∨ 0 = 1 by omega)) dX11_mixed_55 nX11_throwsIf zb_1735 zb_1737 zb_78 zb_92 (zOb.lit (by decide +kernel)) rfl (by omega) zne_I (Nat.le_of_ble_eq_true rfl) (Nat.le_of_ble_eq_true rfl) rfl ?_
            refine z_if_eq (tgt := 63) dX11_mixed_58 (by decide) (fun _ => ?_) (fun c => absurd c (by decide))
            refine z_iconst dX11_mixed_63 (zi32_d rfl) ?_
            refine z_istore (lv' := [(6, xI 0), (0, xR 169), (1, xI l), (2, xI c), (3, xI a), (4, xI b), (5, xI w)]) dX11_mixed_64 (by decide) rfl ?_
            refine z_iconst dX11_mixed_66 (zi32_d rfl) ?_
            refine z_istore (lv' := [(7, xI 0), (6, xI 0), (0, xR 169), (1, xI l), (2, xI c), (3, xI a), (4, xI b), (5, xI w)]) dX11_mixed_67 (by decide) rfl ?_
            refine zW.sub (lv' := [(0, xR 169), (1, xI l), (2, xI c), (3, xI a), (4, xI b), (5, xI w), (6, xI 0), (7, xI 0)]) [2, 3, 4, 5, 6, 7, 1, 0] rfl ?_
            exact k5 c1 c2 c3 c4 c5
          ·
            refine z_iconst dX11_mixed_50 (zi32_d rfl) ?_
            refine z_goto (tgt := 55) dX11_mixed_51 (by decide) ?_
            refine z_invF (ci := 11) (N := 97) (as := [xI 1]) (st := []) (ra := [xI 1]) (dep' := dep - 1) (rs := [xI 1]) (h' := (zst h 169 0 1)) (f_X11_throwsIf 1 (h := h) (show 1 = 0 ∨ 1 = 1 by omega)) dX11_mixed_55 nX11_throwsIf zb_1735 zb_1737 zb_78 zb_92 (zOb.lit (by decide +kernel)) rfl (by omega) zne_I (Nat.le_of_ble_eq_true rfl) (Nat.le_of_ble_eq_true rfl) rfl ?_
            refine z_if_eq (tgt := 63) dX11_mixed_58 (by decide) (fun c => absurd c (by decide)) (fun _ => ?_)
            refine z_lconst dX11_mixed_61 ?_
            show zW mX11_mixed X dep bc bs 239 62 [(0, xR 169), (1, xI l), (2, xI c), (3, xI a), (4, xI b), (5, xI w)] [xL 0] (zst h 169 0 1) Q
            exact z_lret dX11_mixed_62 rfl (k6 c1 c2 c3 c4 c5)

set_option maxRecDepth 20000 in
theorem bX11_mixed_69 {X : zX} {dep bc bs : Nat} (l : Int) (c : Int) (a : Int) (b : Int) (w : Int) (x : Int) (i : Int) {g : zH} {Q : Nat → zH → List zV → Prop} (hl : 0 ≤ l ∧ l < 4) (hc : 0 ≤ c ∧ c ≤ 52) (hab : 0 ≤ a ∧ a ≤ b ∧ b < 52) (hx : 0 ≤ x ∧ x ≤ 52) (hi : 0 ≤ i ∧ i ≤ 52) (hdep : 1 ≤ dep)
    (k1 : c ≤ i → zW mX11_mixed X dep bc bs 239 112 [(0, xR 169), (1, xI l), (2, xI c), (3, xI a), (4, xI b), (5, xI w), (6, xI x)] [] g Q)
    (k2 : ¬ (c ≤ i) → ¬ (a ≤ (g 207 ((52 * l) + i)) ∧ (g 207 ((52 * l) + i)) ≤ b) → zW mX11_mixed X dep bc bs 239 69 [(0, xR 169), (1, xI l), (2, xI c), (3, xI a), (4, xI b), (5, xI w), (6, xI (x + 0)), (7, xI (i + 1))] [] g Q)
    (k3 : ¬ (c ≤ i) → a ≤ (g 207 ((52 * l) + i)) ∧ (g 207 ((52 * l) + i)) ≤ b → zW mX11_mixed X dep bc bs 239 69 [(0, xR 169), (1, xI l), (2, xI c), (3, xI a), (4, xI b), (5, xI w), (6, xI (x + 1)), (7, xI (i + 1))] [] g Q) : zW mX11_mixed X dep bc bs 239 69 [(0, xR 169), (1, xI l), (2, xI c), (3, xI a), (4, xI b), (5, xI w), (6, xI x), (7, xI i)] [] g Q := by
  refine z_iload 7 dX11_mixed_69 rfl ?_
  refine z_iload_n 2 dX11_mixed_71 rfl ?_
  refine z_icmp_ge (tgt := 112) dX11_mixed_72 (by decide) (fun c1 => ?_) (fun c1 => ?_)
  ·
    refine zW.sub (lv' := [(0, xR 169), (1, xI l), (2, xI c), (3, xI a), (4, xI b), (5, xI w), (6, xI x)]) [0, 1, 2, 3, 4, 5, 6] rfl ?_
    exact k1 c1
  ·
    refine z_iload 6 dX11_mixed_75 rfl ?_
    refine z_aload_n 0 dX11_mixed_77 rfl ?_
    refine z_getS (v := 207) (k := 59) (kz := 59) pk11 dX11_mixed_78 (by decide) zb_1183 rfl (zOb.lit (by decide +kernel)) rfl (by decide +kernel) ?_
    refine z_bipush dX11_mixed_81 (zi32_d rfl) (by decide) ?_
    refine z_iload_n 1 dX11_mixed_83 rfl ?_
    refine z_imulN dX11_mixed_84 (show -2147483648 ≤ 52 * l ∧ 52 * l < 2147483648 from ⟨by omega, by omega⟩).1 (show -2147483648 ≤ 52 * l ∧ 52 * l < 2147483648 from ⟨by omega, by omega⟩).2 ?_
    refine z_iload 7 dX11_mixed_85 rfl ?_
    refine z_iaddN dX11_mixed_87 (show -2147483648 ≤ (52 * l) + i ∧ (52 * l) + i < 2147483648 from ⟨by omega, by omega⟩).1 (show -2147483648 ≤ (52 * l) + i ∧ (52 * l) + i < 2147483648 from ⟨by omega, by omega⟩).2 ?_
    refine z_iald dX11_mixed_88 (zOb.lit (by decide +kernel)) (show 0 ≤ ((52 * l) + i) ∧ ((52 * l) + i) < 208 from ⟨by omega, by omega⟩).1 (show 0 ≤ ((52 * l) + i) ∧ ((52 * l) + i) < 208 from ⟨by omega, by omega⟩).2 ?_
    refine z_iload_n 3 dX11_mixed_89 rfl ?_
    refine z_iload 4 dX11_mixed_90 rfl ?_
    refine z_invSF (as := [xI (g 207 ((52 * l) + i)), xI a, xI b]) (st := [xI x]) (ra := [xI b, xI a, xI (g 207 ((52 * l) + i))]) (dep' := dep - 1) (rs := [xI (zb (a ≤ (g 207 ((52 * l) + i)) ∧ (g 207 ((52 * l) + i)) ≤ b))]) (h' := g) (f_X11_isIn (g 207 ((52 * l) + i)) a b (h := g) ) dX11_mixed_92 nX11_isIn zb_1437 zb_1438 zb_92 (by omega) zne_I (Nat.le_of_ble_eq_true rfl) (Nat.le_of_ble_eq_true rfl) rfl ?_
    refine z_ifB_eq (C := a ≤ (g 207 ((52 * l) + i)) ∧ (g 207 ((52 * l) + i)) ≤ b) (tgt := 102) dX11_mixed_95 (by decide) (fun c2 => ?_) (fun c2 => ?_)
    ·
      refine z_iconst dX11_mixed_102 (zi32_d rfl) ?_
      refine z_iaddN dX11_mixed_103 (show -2147483648 ≤ x + 0 ∧ x + 0 < 2147483648 from ⟨by omega, by omega⟩).1 (show -2147483648 ≤ x + 0 ∧ x + 0 < 2147483648 from ⟨by omega, by omega⟩).2 ?_
      refine z_istore (lv' := [(6, xI (x + 0)), (0, xR 169), (1, xI l), (2, xI c), (3, xI a), (4, xI b), (5, xI w), (7, xI i)]) dX11_mixed_104 (by decide) rfl ?_
      refine z_iincN (lv' := [(7, xI (i + 1)), (6, xI (x + 0)), (0, xR 169), (1, xI l), (2, xI c), (3, xI a), (4, xI b), (5, xI w)]) 7 dX11_mixed_106 rfl (by decide) rfl (show -2147483648 ≤ i + 1 ∧ i + 1 < 2147483648 from ⟨by omega, by omega⟩).1 (show -2147483648 ≤ i + 1 ∧ i + 1 < 2147483648 from ⟨by omega, by omega⟩).2 ?_
      refine z_goto (tgt := 69) dX11_mixed_109 (by decide) ?_
      refine zW.sub (lv' := [(0, xR 169), (1, xI l), (2, xI c), (3, xI a), (4, xI b), (5, xI w), (6, xI (x + 0)), (7, xI (i + 1))]) [2, 3, 4, 5, 6, 7, 1, 0] rfl ?_
      exact k2 c1 c2
    ·
      refine z_iconst dX11_mixed_98 (zi32_d rfl) ?_
      refine z_goto (tgt := 103) dX11_mixed_99 (by decide) ?_
      refine z_iaddN dX11_mixed_103 (show -2147483648 ≤ x + 1 ∧ x + 1 < 2147483648 from ⟨by omega, by omega⟩).1 (show -2147483648 ≤ x + 1 ∧ x + 1 < 2147483648 from ⟨by omega, by omega⟩).2 ?_
      refine z_istore (lv' := [(6, xI (x + 1)), (0, xR 169), (1, xI l), (2, xI c), (3, xI a), (4, xI b), (5, xI w), (7, xI i)]) dX11_mixed_104 (by decide) rfl ?_
      refine z_iincN (lv' := [(7, xI (i + 1)), (6, xI (x + 1)), (0, xR 169), (1, xI l), (2, xI c), (3, xI a), (4, xI b), (5, xI w)]) 7 dX11_mixed_106 rfl (by decide) rfl (show -2147483648 ≤ i + 1 ∧ i + 1 < 2147483648 from ⟨by omega, by omega⟩).1 (show -2147483648 ≤ i + 1 ∧ i + 1 < 2147483648 from ⟨by omega, by omega⟩).2 ?_
      refine z_goto (tgt := 69) dX11_mixed_109 (by decide) ?_
      refine zW.sub (lv' := [(0, xR 169), (1, xI l), (2, xI c), (3, xI a), (4, xI b), (5, xI w), (6, xI (x + 1)), (7, xI (i + 1))]) [2, 3, 4, 5, 6, 7, 1, 0] rfl ?_
      exact k3 c1 c2

set_option maxRecDepth 20000 in
theorem bX11_mixed_112 {X : zX} {dep bc bs : Nat} (l : Int) (c : Int) (a : Int) (b : Int) (w : Int) (x : Int) {g : zH} {Q : Nat → zH → List zV → Prop} (hl : 0 ≤ l ∧ l < 4) (hc : 0 ≤ c ∧ c ≤ 52) (hab : 0 ≤ a ∧ a ≤ b ∧ b < 52) (hx : 0 ≤ x ∧ x ≤ 52)
    (k1 : ¬ w = 2 → zW mX11_mixed X dep bc bs 239 134 [(0, xR 169), (5, xI w)] [xI x, xI c, xI ((b - a) + 1), xI 52, xR 169] g Q)
    (k2 : w = 2 → Q 239 g [xL x]) : zW mX11_mixed X dep bc bs 239 112 [(0, xR 169), (1, xI l), (2, xI c), (3, xI a), (4, xI b), (5, xI w), (6, xI x)] [] g Q := by
  refine z_iload 5 dX11_mixed_112 rfl ?_
  refine z_iconst dX11_mixed_114 (zi32_d rfl) ?_
  refine z_icmp_ne (tgt := 122) dX11_mixed_115 (by decide) (fun c1 => ?_) (fun c1 => ?_)
  ·
    refine z_aload_n 0 dX11_mixed_122 rfl ?_
    refine z_bipush dX11_mixed_123 (zi32_d rfl) (by decide) ?_
    refine z_iload 4 dX11_mixed_125 rfl ?_
    refine z_iload_n 3 dX11_mixed_127 rfl ?_
    refine z_isubN dX11_mixed_128 (show -2147483648 ≤ b - a ∧ b - a < 2147483648 from ⟨by omega, by omega⟩).1 (show -2147483648 ≤ b - a ∧ b - a < 2147483648 from ⟨by omega, by omega⟩).2 ?_
    refine z_iconst dX11_mixed_129 (zi32_d rfl) ?_
    refine z_iaddN dX11_mixed_130 (show -2147483648 ≤ (b - a) + 1 ∧ (b - a) + 1 < 2147483648 from ⟨by omega, by omega⟩).1 (show -2147483648 ≤ (b - a) + 1 ∧ (b - a) + 1 < 2147483648 from ⟨by omega, by omega⟩).2 ?_
    refine z_iload_n 2 dX11_mixed_131 rfl ?_
    refine z_iload 6 dX11_mixed_132 rfl ?_
    refine zW.sub (lv' := [(0, xR 169), (5, xI w)]) [0, 5] rfl ?_
    exact k1 c1
  ·
    refine z_iload 6 dX11_mixed_118 rfl ?_
    refine z_i2l dX11_mixed_120 ?_
    exact z_lret dX11_mixed_121 rfl (k2 c1)

set_option maxRecDepth 20000 in
theorem rX11_mixed_134 {X : zX} {dep bc bs : Nat} (w : Int) (x : Int) (c : Int) (m : Int) {g : zH} {Q : Nat → zH → List zV → Prop} {P : zH → Prop}
    (hZ : zW mX11_take X (dep - 1) 0 0 239 0 (zar 0 [xR 169, xI 52, xI m, xI c, xI x]) [] g (zQ0 P)) (hdep : 1 ≤ dep)
    (k : ∀ g : zH, P g → zW mX11_mixed X dep bc bs 239 137 [(0, xR 169), (5, xI w)] [] g Q) : zW mX11_mixed X dep bc bs 239 134 [(0, xR 169), (5, xI w)] [xI x, xI c, xI m, xI 52, xR 169] g Q :=
  z_invQ0 (ci := 11) (N := 97) (as := [xI 52, xI m, xI c, xI x]) (st := []) (ra := [xI x, xI c, xI m, xI 52]) hZ dX11_mixed_134 nX11_take zb_1739 zb_1741 zb_79 zb_92 (zOb.lit (by decide +kernel)) rfl (by omega) (Nat.le_of_ble_eq_true rfl) (Nat.le_of_ble_eq_true rfl) rfl (fun g hg => k g hg)

set_option maxRecDepth 20000 in
theorem bX11_mixed_137 {X : zX} {dep bc bs : Nat} (w : Int) {g : zH} {Q : Nat → zH → List zV → Prop} (hw : 0 ≤ w ∧ w < 2)
    (k1 : Q 239 g [xL (g 234 w)]) : zW mX11_mixed X dep bc bs 239 137 [(0, xR 169), (5, xI w)] [] g Q := by
  refine z_aload_n 0 dX11_mixed_137 rfl ?_
  refine z_getS (v := 234) (k := 92) (kz := 92) pk11 dX11_mixed_138 (by decide) zb_1216 rfl (zOb.lit (by decide +kernel)) rfl (by decide +kernel) ?_
  refine z_iload 1 dX11_mixed_141 rfl ?_
  refine z_lald dX11_mixed_143 (zOb.lit (by decide +kernel)) hw.1 hw.2 ?_
  exact z_lret dX11_mixed_144 rfl (k1)

set_option maxRecDepth 20000 in
theorem bX11_doubt_0 {X : zX} {dep bc bs : Nat} (d : Int) (t : Int) (w : Int) {h : zH} {Q : Nat → zH → List zV → Prop} (hdep : 1 ≤ dep)
    (k1 : ¬ (0 ≤ d ∧ d ≤ 7) → Q 239 (zst h 169 0 1) [xL 0])
    (k2 : 0 ≤ d ∧ d ≤ 7 → 0 ≤ w ∧ w ≤ 2 → zW mX11_doubt X dep bc bs 239 48 [(0, xR 169), (1, xI d), (2, xI t), (3, xI w), (4, xI 0), (5, xI 0), (6, xI 0), (7, xI 0), (8, xI 0)] [] (zst h 169 0 0) Q)
    (k3 : 0 ≤ d ∧ d ≤ 7 → ¬ (0 ≤ w ∧ w ≤ 2) → Q 239 (zst h 169 0 1) [xL 0]) : zW mX11_doubt X dep bc bs 239 0 [(0, xR 169), (1, xI d), (2, xI t), (3, xI w)] [] h Q := by
  refine z_aload_n 0 dX11_doubt_0 rfl ?_
  refine z_iload_n 1 dX11_doubt_1 rfl ?_
  refine z_iconst dX11_doubt_2 (zi32_d rfl) ?_
  refine z_bipush dX11_doubt_3 (zi32_d rfl) (by decide) ?_
  refine z_invSF (as := [xI d, xI 0, xI 7]) (st := [xR 169]) (ra := [xI 7, xI 0, xI d]) (dep' := dep - 1) (rs := [xI (zb (0 ≤ d ∧ d ≤ 7))]) (h' := h) (f_X11_isIn d 0 7 (h := h) ) dX11_doubt_5 nX11_isIn zb_1437 zb_1438 zb_92 (by omega) zne_I (Nat.le_of_ble_eq_true rfl) (Nat.le_of_ble_eq_true rfl) rfl ?_
  refine z_ifB_eq (C := 0 ≤ d ∧ d ≤ 7) (tgt := 20) dX11_doubt_8 (by decide) (fun c1 => ?_) (fun c1 => ?_)
  ·
    refine z_iconst dX11_doubt_20 (zi32_d rfl) ?_
    refine z_goto (tgt := 25) dX11_doubt_21 (by decide) ?_
    refine z_invF (ci := 11) (N := 97) (as := [xI 1]) (st := []) (ra := [xI 1]) (dep' := dep - 1) (rs := [xI 1]) (h' := (zst h 169 0 1)) (f_X11_throwsIf 1 (h := h) (show 1 = 0 ∨ 1 = 1 by omega)) dX11_doubt_25 nX11_throwsIf zb_1735 zb_1737 zb_78 zb_92 (zOb.lit (by decide +kernel)) rfl (by omega) zne_I (Nat.le_of_ble_eq_true rfl) (Nat.le_of_ble_eq_true rfl) rfl ?_
    refine z_if_eq (tgt := 33) dX11_doubt_28 (by decide) (fun c => absurd c (by decide)) (fun _ => ?_)
    refine z_lconst dX11_doubt_31 ?_
    show zW mX11_doubt X dep bc bs 239 32 [(0, xR 169), (1, xI d), (2, xI t), (3, xI w)] [xL 0] (zst h 169 0 1) Q
    exact z_lret dX11_doubt_32 rfl (k1 c1)
  ·
    refine z_iload_n 3 dX11_doubt_11 rfl ?_
    refine z_iconst dX11_doubt_12 (zi32_d rfl) ?_
    refine z_iconst dX11_doubt_13 (zi32_d rfl) ?_
    refine z_invSF (as := [xI w, xI 0, xI 2]) (st := [xR 169]) (ra := [xI 2, xI 0, xI w]) (dep' := dep - 1) (rs := [xI (zb (0 ≤ w ∧ w ≤ 2))]) (h' := h) (f_X11_isIn w 0 2 (h := h) ) dX11_doubt_14 nX11_isIn zb_1437 zb_1438 zb_92 (by omega) zne_I (Nat.le_of_ble_eq_true rfl) (Nat.le_of_ble_eq_true rfl) rfl ?_
    refine z_ifB_ne (C := 0 ≤ w ∧ w ≤ 2) (tgt := 24) dX11_doubt_17 (by decide) (fun c2 => ?_) (fun c2 => ?_)
    ·
      refine z_iconst dX11_doubt_24 (zi32_d rfl) ?_
      refine z_invF (ci := 11) (N := 97) (as := [xI 0]) (st := []) (ra := [xI 0]) (dep' := dep - 1) (rs := [xI 0]) (h' := (zst h 169 0 0)) (f_X11_throwsIf 0 (h := h) (show 0 = 0 ∨ 0 = 1 by omega)) dX11_doubt_25 nX11_throwsIf zb_1735 zb_1737 zb_78 zb_92 (zOb.lit (by decide +kernel)) rfl (by omega) zne_I (Nat.le_of_ble_eq_true rfl) (Nat.le_of_ble_eq_true rfl) rfl ?_
      refine z_if_eq (tgt := 33) dX11_doubt_28 (by decide) (fun _ => ?_) (fun c => absurd c (by decide))
      refine z_iconst dX11_doubt_33 (zi32_d rfl) ?_
      refine z_istore (lv' := [(4, xI 0), (0, xR 169), (1, xI d), (2, xI t), (3, xI w)]) dX11_doubt_34 (by decide) rfl ?_
      refine z_iconst dX11_doubt_36 (zi32_d rfl) ?_
      refine z_istore (lv' := [(5, xI 0), (4, xI 0), (0, xR 169), (1, xI d), (2, xI t), (3, xI w)]) dX11_doubt_37 (by decide) rfl ?_
      refine z_iconst dX11_doubt_39 (zi32_d rfl) ?_
      refine z_istore (lv' := [(6, xI 0), (5, xI 0), (4, xI 0), (0, xR 169), (1, xI d), (2, xI t), (3, xI w)]) dX11_doubt_40 (by decide) rfl ?_
      refine z_iconst dX11_doubt_42 (zi32_d rfl) ?_
      refine z_istore (lv' := [(7, xI 0), (6, xI 0), (5, xI 0), (4, xI 0), (0, xR 169), (1, xI d), (2, xI t), (3, xI w)]) dX11_doubt_43 (by decide) rfl ?_
      refine z_iconst dX11_doubt_45 (zi32_d rfl) ?_
      refine z_istore (lv' := [(8, xI 0), (7, xI 0), (6, xI 0), (5, xI 0), (4, xI 0), (0, xR 169), (1, xI d), (2, xI t), (3, xI w)]) dX11_doubt_46 (by decide) rfl ?_
      refine zW.sub (lv' := [(0, xR 169), (1, xI d), (2, xI t), (3, xI w), (4, xI 0), (5, xI 0), (6, xI 0), (7, xI 0), (8, xI 0)]) [5, 6, 7, 8, 4, 3, 2, 1, 0] rfl ?_
      exact k2 c1 c2
    ·
      refine z_iconst dX11_doubt_20 (zi32_d rfl) ?_
      refine z_goto (tgt := 25) dX11_doubt_21 (by decide) ?_
      refine z_invF (ci := 11) (N := 97) (as := [xI 1]) (st := []) (ra := [xI 1]) (dep' := dep - 1) (rs := [xI 1]) (h' := (zst h 169 0 1)) (f_X11_throwsIf 1 (h := h) (show 1 = 0 ∨ 1 = 1 by omega)) dX11_doubt_25 nX11_throwsIf zb_1735 zb_1737 zb_78 zb_92 (zOb.lit (by decide +kernel)) rfl (by omega) zne_I (Nat.le_of_ble_eq_true rfl) (Nat.le_of_ble_eq_true rfl) rfl ?_
      refine z_if_eq (tgt := 33) dX11_doubt_28 (by decide) (fun c => absurd c (by decide)) (fun _ => ?_)
      refine z_lconst dX11_doubt_31 ?_
      show zW mX11_doubt X dep bc bs 239 32 [(0, xR 169), (1, xI d), (2, xI t), (3, xI w)] [xL 0] (zst h 169 0 1) Q
      exact z_lret dX11_doubt_32 rfl (k3 c1 c2)

set_option maxRecDepth 20000 in
theorem bX11_doubt_48 {X : zX} {dep bc bs : Nat} (d : Int) (t : Int) (w : Int) (n : Int) (m : Int) (c : Int) (x : Int) (e : Int) {g : zH} {Q : Nat → zH → List zV → Prop} (he : 0 ≤ g 169 28 ∧ g 169 28 ≤ 60) (hn : 0 ≤ e ∧ e ≤ 60 ∧ 0 ≤ n ∧ n ≤ e ∧ 0 ≤ m ∧ m ≤ e ∧ 0 ≤ c ∧ c ≤ e ∧ 0 ≤ x ∧ x ≤ e)
    (k1 : (g 169 28) ≤ e → zW mX11_doubt X dep bc bs 239 160 [(0, xR 169), (3, xI w), (4, xI n), (5, xI m), (6, xI c), (7, xI x)] [] g Q)
    (k2 : ¬ ((g 169 28) ≤ e) → (g 186 e) ≤ t → zW mX11_doubt X dep bc bs 239 71 [(0, xR 169), (1, xI d), (2, xI t), (3, xI w), (4, xI n), (5, xI m), (6, xI c), (7, xI x), (8, xI e)] [] g Q)
    (k3 : ¬ ((g 169 28) ≤ e) → ¬ ((g 186 e) ≤ t) → zW mX11_doubt X dep bc bs 239 48 [(0, xR 169), (1, xI d), (2, xI t), (3, xI w), (4, xI n), (5, xI m), (6, xI c), (7, xI x), (8, xI (e + 1))] [] g Q) : zW mX11_doubt X dep bc bs 239 48 [(0, xR 169), (1, xI d), (2, xI t), (3, xI w), (4, xI n), (5, xI m), (6, xI c), (7, xI x), (8, xI e)] [] g Q := by
  refine z_iload 8 dX11_doubt_48 rfl ?_
  refine z_aload_n 0 dX11_doubt_50 rfl ?_
  refine z_getI (k := 28) (kz := 28) pk11 dX11_doubt_51 (by decide) zb_1152 rfl (zOb.lit (by decide +kernel)) rfl ?_
  refine z_icmp_ge (tgt := 160) dX11_doubt_54 (by decide) (fun c1 => ?_) (fun c1 => ?_)
  ·
    refine zW.sub (lv' := [(0, xR 169), (3, xI w), (4, xI n), (5, xI m), (6, xI c), (7, xI x)]) [0, 3, 4, 5, 6, 7] rfl ?_
    exact k1 c1
  ·
    refine z_aload_n 0 dX11_doubt_57 rfl ?_
    refine z_getS (v := 186) (k := 21) (kz := 21) pk11 dX11_doubt_58 (by decide) zb_1145 rfl (zOb.lit (by decide +kernel)) rfl (by decide +kernel) ?_
    refine z_iload 8 dX11_doubt_61 rfl ?_
    refine z_iald dX11_doubt_63 (zOb.lit (by decide +kernel)) (show 0 ≤ e ∧ e < 60 from ⟨by omega, by omega⟩).1 (show 0 ≤ e ∧ e < 60 from ⟨by omega, by omega⟩).2 ?_
    refine z_iload_n 2 dX11_doubt_64 rfl ?_
    refine z_icmp_le (tgt := 71) dX11_doubt_65 (by decide) (fun c2 => ?_) (fun c2 => ?_)
    ·
      exact k2 c1 c2
    ·
      refine z_goto (tgt := 154) dX11_doubt_68 (by decide) ?_
      refine z_iincN (lv' := [(8, xI (e + 1)), (0, xR 169), (1, xI d), (2, xI t), (3, xI w), (4, xI n), (5, xI m), (6, xI c), (7, xI x)]) 8 dX11_doubt_154 rfl (by decide) rfl (show -2147483648 ≤ e + 1 ∧ e + 1 < 2147483648 from ⟨by omega, by omega⟩).1 (show -2147483648 ≤ e + 1 ∧ e + 1 < 2147483648 from ⟨by omega, by omega⟩).2 ?_
      refine z_goto (tgt := 48) dX11_doubt_157 (by decide) ?_
      refine zW.sub (lv' := [(0, xR 169), (1, xI d), (2, xI t), (3, xI w), (4, xI n), (5, xI m), (6, xI c), (7, xI x), (8, xI (e + 1))]) [1, 2, 3, 4, 5, 6, 7, 8, 0] rfl ?_
      exact k3 c1 c2

set_option maxRecDepth 20000 in
theorem bX11_doubt_71 {X : zX} {dep bc bs : Nat} (d : Int) (t : Int) (w : Int) (n : Int) (m : Int) (c : Int) (x : Int) (e : Int) {g : zH} {Q : Nat → zH → List zV → Prop} (hn : 0 ≤ e ∧ e ≤ 60 ∧ 0 ≤ n ∧ n ≤ e ∧ 0 ≤ m ∧ m ≤ e ∧ 0 ≤ c ∧ c ≤ e ∧ 0 ≤ x ∧ x ≤ e) (he2 : e < 60)
    (k1 : zW mX11_doubt X dep bc bs 239 89 [(0, xR 169), (1, xI d), (2, xI t), (3, xI w), (4, xI n), (5, xI m), (6, xI c), (7, xI x), (8, xI e), (9, xI (if (g 185 e) ≤ 4 then 0 else 1 : Int))] [] g Q) : zW mX11_doubt X dep bc bs 239 71 [(0, xR 169), (1, xI d), (2, xI t), (3, xI w), (4, xI n), (5, xI m), (6, xI c), (7, xI x), (8, xI e)] [] g Q := by
  refine z_aload_n 0 dX11_doubt_71 rfl ?_
  refine z_getS (v := 185) (k := 20) (kz := 20) pk11 dX11_doubt_72 (by decide) zb_1144 rfl (zOb.lit (by decide +kernel)) rfl (by decide +kernel) ?_
  refine z_iload 8 dX11_doubt_75 rfl ?_
  refine z_iald dX11_doubt_77 (zOb.lit (by decide +kernel)) (show 0 ≤ e ∧ e < 60 from ⟨by omega, by omega⟩).1 (show 0 ≤ e ∧ e < 60 from ⟨by omega, by omega⟩).2 ?_
  refine z_iconst dX11_doubt_78 (zi32_d rfl) ?_
  suffices KJ : zW mX11_doubt X dep bc bs 239 87 [(0, xR 169), (1, xI d), (2, xI t), (3, xI w), (4, xI n), (5, xI m), (6, xI c), (7, xI x), (8, xI e)] [xI (if (g 185 e) ≤ 4 then 0 else 1 : Int)] g Q by
    refine z_icmp_le (tgt := 86) dX11_doubt_79 (by decide) (fun j1 => ?_) (fun j1 => ?_)
    ·
      refine z_iconst dX11_doubt_86 (zi32_d rfl) ?_
      rw [if_pos j1] at KJ
      exact KJ
    ·
      refine z_iconst dX11_doubt_82 (zi32_d rfl) ?_
      refine z_goto (tgt := 87) dX11_doubt_83 (by decide) ?_
      rw [if_neg j1] at KJ
      exact KJ
  refine z_istore (lv' := [(9, xI (if (g 185 e) ≤ 4 then 0 else 1 : Int)), (0, xR 169), (1, xI d), (2, xI t), (3, xI w), (4, xI n), (5, xI m), (6, xI c), (7, xI x), (8, xI e)]) dX11_doubt_87 (by decide) rfl ?_
  refine zW.sub (lv' := [(0, xR 169), (1, xI d), (2, xI t), (3, xI w), (4, xI n), (5, xI m), (6, xI c), (7, xI x), (8, xI e), (9, xI (if (g 185 e) ≤ 4 then 0 else 1 : Int))]) [1, 2, 3, 4, 5, 6, 7, 8, 9, 0] rfl ?_
  exact k1

set_option maxRecDepth 20000 in
theorem bX11_doubt_89 {X : zX} {dep bc bs : Nat} (d : Int) (t : Int) (w : Int) (n : Int) (m : Int) (c : Int) (x : Int) (e : Int) (y : Int) {g : zH} {Q : Nat → zH → List zV → Prop} (hn : 0 ≤ e ∧ e ≤ 60 ∧ 0 ≤ n ∧ n ≤ e ∧ 0 ≤ m ∧ m ≤ e ∧ 0 ≤ c ∧ c ≤ e ∧ 0 ≤ x ∧ x ≤ e) (he2 : e < 60)
    (k1 : zW mX11_doubt X dep bc bs 239 107 [(0, xR 169), (1, xI d), (2, xI t), (3, xI w), (4, xI (n + 1)), (5, xI (m + (if y = 0 then 0 else 1 : Int))), (6, xI c), (7, xI x), (8, xI e), (9, xI y)] [] g Q) : zW mX11_doubt X dep bc bs 239 89 [(0, xR 169), (1, xI d), (2, xI t), (3, xI w), (4, xI n), (5, xI m), (6, xI c), (7, xI x), (8, xI e), (9, xI y)] [] g Q := by
  refine z_iincN (lv' := [(4, xI (n + 1)), (0, xR 169), (1, xI d), (2, xI t), (3, xI w), (5, xI m), (6, xI c), (7, xI x), (8, xI e), (9, xI y)]) 4 dX11_doubt_89 rfl (by decide) rfl (show -2147483648 ≤ n + 1 ∧ n + 1 < 2147483648 from ⟨by omega, by omega⟩).1 (show -2147483648 ≤ n + 1 ∧ n + 1 < 2147483648 from ⟨by omega, by omega⟩).2 ?_
  refine z_iload 5 dX11_doubt_92 rfl ?_
  refine z_iload 9 dX11_doubt_94 rfl ?_
  suffices KJ : zW mX11_doubt X dep bc bs 239 104 [(4, xI (n + 1)), (0, xR 169), (1, xI d), (2, xI t), (3, xI w), (5, xI m), (6, xI c), (7, xI x), (8, xI e), (9, xI y)] [xI (if y = 0 then 0 else 1 : Int), xI m] g Q by
    refine z_if_eq (tgt := 103) dX11_doubt_96 (by decide) (fun j1 => ?_) (fun j1 => ?_)
    ·
      refine z_iconst dX11_doubt_103 (zi32_d rfl) ?_
      rw [if_pos j1] at KJ
      exact KJ
    ·
      refine z_iconst dX11_doubt_99 (zi32_d rfl) ?_
      refine z_goto (tgt := 104) dX11_doubt_100 (by decide) ?_
      rw [if_neg j1] at KJ
      exact KJ
  refine z_iaddN dX11_doubt_104 (show -2147483648 ≤ m + (if y = 0 then 0 else 1 : Int) ∧ m + (if y = 0 then 0 else 1 : Int) < 2147483648 from ⟨by omega, by omega⟩).1 (show -2147483648 ≤ m + (if y = 0 then 0 else 1 : Int) ∧ m + (if y = 0 then 0 else 1 : Int) < 2147483648 from ⟨by omega, by omega⟩).2 ?_
  refine z_istore (lv' := [(5, xI (m + (if y = 0 then 0 else 1 : Int))), (4, xI (n + 1)), (0, xR 169), (1, xI d), (2, xI t), (3, xI w), (6, xI c), (7, xI x), (8, xI e), (9, xI y)]) dX11_doubt_105 (by decide) rfl ?_
  refine zW.sub (lv' := [(0, xR 169), (1, xI d), (2, xI t), (3, xI w), (4, xI (n + 1)), (5, xI (m + (if y = 0 then 0 else 1 : Int))), (6, xI c), (7, xI x), (8, xI e), (9, xI y)]) [2, 3, 4, 5, 1, 0, 6, 7, 8, 9] rfl ?_
  exact k1

set_option maxRecDepth 20000 in
theorem bX11_doubt_107 {X : zX} {dep bc bs : Nat} (d : Int) (t : Int) (w : Int) (n : Int) (m : Int) (c : Int) (x : Int) (e : Int) (y : Int) {g : zH} {Q : Nat → zH → List zV → Prop} (hn : 0 ≤ e ∧ e < 60 ∧ 0 ≤ n ∧ n ≤ 61 ∧ 0 ≤ m ∧ m ≤ 61 ∧ 0 ≤ c ∧ c ≤ e ∧ 0 ≤ x ∧ x ≤ e)
    (k1 : zW mX11_doubt X dep bc bs 239 128 [(0, xR 169), (1, xI d), (2, xI t), (3, xI w), (4, xI n), (5, xI m), (6, xI (c + (if (g 184 e) = d then 1 else 0 : Int))), (7, xI x), (8, xI e), (9, xI y)] [] g Q) : zW mX11_doubt X dep bc bs 239 107 [(0, xR 169), (1, xI d), (2, xI t), (3, xI w), (4, xI n), (5, xI m), (6, xI c), (7, xI x), (8, xI e), (9, xI y)] [] g Q := by
  refine z_iload 6 dX11_doubt_107 rfl ?_
  refine z_aload_n 0 dX11_doubt_109 rfl ?_
  refine z_getS (v := 184) (k := 19) (kz := 19) pk11 dX11_doubt_110 (by decide) zb_1143 rfl (zOb.lit (by decide +kernel)) rfl (by decide +kernel) ?_
  refine z_iload 8 dX11_doubt_113 rfl ?_
  refine z_iald dX11_doubt_115 (zOb.lit (by decide +kernel)) (show 0 ≤ e ∧ e < 60 from ⟨by omega, by omega⟩).1 (show 0 ≤ e ∧ e < 60 from ⟨by omega, by omega⟩).2 ?_
  refine z_iload_n 1 dX11_doubt_116 rfl ?_
  suffices KJ : zW mX11_doubt X dep bc bs 239 125 [(0, xR 169), (1, xI d), (2, xI t), (3, xI w), (4, xI n), (5, xI m), (6, xI c), (7, xI x), (8, xI e), (9, xI y)] [xI (if (g 184 e) = d then 1 else 0 : Int), xI c] g Q by
    refine z_icmp_ne (tgt := 124) dX11_doubt_117 (by decide) (fun j1 => ?_) (fun j1 => ?_)
    ·
      refine z_iconst dX11_doubt_124 (zi32_d rfl) ?_
      rw [if_neg j1] at KJ
      exact KJ
    ·
      refine z_iconst dX11_doubt_120 (zi32_d rfl) ?_
      refine z_goto (tgt := 125) dX11_doubt_121 (by decide) ?_
      rw [if_pos j1] at KJ
      exact KJ
  refine z_iaddN dX11_doubt_125 (show -2147483648 ≤ c + (if (g 184 e) = d then 1 else 0 : Int) ∧ c + (if (g 184 e) = d then 1 else 0 : Int) < 2147483648 from ⟨by omega, by omega⟩).1 (show -2147483648 ≤ c + (if (g 184 e) = d then 1 else 0 : Int) ∧ c + (if (g 184 e) = d then 1 else 0 : Int) < 2147483648 from ⟨by omega, by omega⟩).2 ?_
  refine z_istore (lv' := [(6, xI (c + (if (g 184 e) = d then 1 else 0 : Int))), (0, xR 169), (1, xI d), (2, xI t), (3, xI w), (4, xI n), (5, xI m), (7, xI x), (8, xI e), (9, xI y)]) dX11_doubt_126 (by decide) rfl ?_
  refine zW.sub (lv' := [(0, xR 169), (1, xI d), (2, xI t), (3, xI w), (4, xI n), (5, xI m), (6, xI (c + (if (g 184 e) = d then 1 else 0 : Int))), (7, xI x), (8, xI e), (9, xI y)]) [1, 2, 3, 4, 5, 6, 0, 7, 8, 9] rfl ?_
  exact k1

set_option maxRecDepth 20000 in
theorem bX11_doubt_128 {X : zX} {dep bc bs : Nat} (d : Int) (t : Int) (w : Int) (n : Int) (m : Int) (c : Int) (x : Int) (e : Int) (y : Int) {g : zH} {Q : Nat → zH → List zV → Prop} (hn : 0 ≤ e ∧ e < 60 ∧ 0 ≤ x ∧ x ≤ e)
    (k1 : zW mX11_doubt X dep bc bs 239 48 [(0, xR 169), (1, xI d), (2, xI t), (3, xI w), (4, xI n), (5, xI m), (6, xI c), (7, xI (x + (if (g 184 e) = d then if y = 0 then 0 else 1 else 0 : Int))), (8, xI (e + 1))] [] g Q) : zW mX11_doubt X dep bc bs 239 128 [(0, xR 169), (1, xI d), (2, xI t), (3, xI w), (4, xI n), (5, xI m), (6, xI c), (7, xI x), (8, xI e), (9, xI y)] [] g Q := by
  refine z_iload 7 dX11_doubt_128 rfl ?_
  refine z_aload_n 0 dX11_doubt_130 rfl ?_
  refine z_getS (v := 184) (k := 19) (kz := 19) pk11 dX11_doubt_131 (by decide) zb_1143 rfl (zOb.lit (by decide +kernel)) rfl (by decide +kernel) ?_
  refine z_iload 8 dX11_doubt_134 rfl ?_
  refine z_iald dX11_doubt_136 (zOb.lit (by decide +kernel)) (show 0 ≤ e ∧ e < 60 from ⟨by omega, by omega⟩).1 (show 0 ≤ e ∧ e < 60 from ⟨by omega, by omega⟩).2 ?_
  refine z_iload_n 1 dX11_doubt_137 rfl ?_
  suffices KJ : zW mX11_doubt X dep bc bs 239 151 [(0, xR 169), (1, xI d), (2, xI t), (3, xI w), (4, xI n), (5, xI m), (6, xI c), (7, xI x), (8, xI e), (9, xI y)] [xI (if (g 184 e) = d then if y = 0 then 0 else 1 else 0 : Int), xI x] g Q by
    refine z_icmp_ne (tgt := 150) dX11_doubt_138 (by decide) (fun j1 => ?_) (fun j1 => ?_)
    ·
      refine z_iconst dX11_doubt_150 (zi32_d rfl) ?_
      rw [if_neg j1] at KJ
      exact KJ
    ·
      refine z_iload 9 dX11_doubt_141 rfl ?_
      refine z_if_eq (tgt := 150) dX11_doubt_143 (by decide) (fun j2 => ?_) (fun j2 => ?_)
      ·
        refine z_iconst dX11_doubt_150 (zi32_d rfl) ?_
        rw [if_pos j1] at KJ
        rw [if_pos j2] at KJ
        exact KJ
      ·
        refine z_iconst dX11_doubt_146 (zi32_d rfl) ?_
        refine z_goto (tgt := 151) dX11_doubt_147 (by decide) ?_
        rw [if_pos j1] at KJ
        rw [if_neg j2] at KJ
        exact KJ
  refine z_iaddN dX11_doubt_151 (show -2147483648 ≤ x + (if (g 184 e) = d then if y = 0 then 0 else 1 else 0 : Int) ∧ x + (if (g 184 e) = d then if y = 0 then 0 else 1 else 0 : Int) < 2147483648 from ⟨by omega, by omega⟩).1 (show -2147483648 ≤ x + (if (g 184 e) = d then if y = 0 then 0 else 1 else 0 : Int) ∧ x + (if (g 184 e) = d then if y = 0 then 0 else 1 else 0 : Int) < 2147483648 from ⟨by omega, by omega⟩).2 ?_
  refine z_istore (lv' := [(7, xI (x + (if (g 184 e) = d then if y = 0 then 0 else 1 else 0 : Int))), (0, xR 169), (1, xI d), (2, xI t), (3, xI w), (4, xI n), (5, xI m), (6, xI c), (8, xI e), (9, xI y)]) dX11_doubt_152 (by decide) rfl ?_
  refine z_iincN (lv' := [(8, xI (e + 1)), (7, xI (x + (if (g 184 e) = d then if y = 0 then 0 else 1 else 0 : Int))), (0, xR 169), (1, xI d), (2, xI t), (3, xI w), (4, xI n), (5, xI m), (6, xI c), (9, xI y)]) 8 dX11_doubt_154 rfl (by decide) rfl (show -2147483648 ≤ e + 1 ∧ e + 1 < 2147483648 from ⟨by omega, by omega⟩).1 (show -2147483648 ≤ e + 1 ∧ e + 1 < 2147483648 from ⟨by omega, by omega⟩).2 ?_
  refine z_goto (tgt := 48) dX11_doubt_157 (by decide) ?_
  refine zW.sub (lv' := [(0, xR 169), (1, xI d), (2, xI t), (3, xI w), (4, xI n), (5, xI m), (6, xI c), (7, xI (x + (if (g 184 e) = d then if y = 0 then 0 else 1 else 0 : Int))), (8, xI (e + 1))]) [2, 3, 4, 5, 6, 7, 8, 1, 0] rfl ?_
  exact k1

set_option maxRecDepth 20000 in
theorem bX11_doubt_160 {X : zX} {dep bc bs : Nat} (w : Int) (n : Int) (m : Int) (c : Int) (x : Int) {g : zH} {Q : Nat → zH → List zV → Prop}
    (k1 : ¬ w = 2 → zW mX11_doubt X dep bc bs 239 178 [(0, xR 169), (3, xI w)] [xI x, xI c, xI m, xI n, xR 169] g Q)
    (k2 : w = 2 → Q 239 g [xL x]) : zW mX11_doubt X dep bc bs 239 160 [(0, xR 169), (3, xI w), (4, xI n), (5, xI m), (6, xI c), (7, xI x)] [] g Q := by
  refine z_iload_n 1 dX11_doubt_160 rfl ?_
  refine z_iconst dX11_doubt_161 (zi32_d rfl) ?_
  refine z_icmp_ne (tgt := 169) dX11_doubt_162 (by decide) (fun c1 => ?_) (fun c1 => ?_)
  ·
    refine z_aload_n 0 dX11_doubt_169 rfl ?_
    refine z_iload 2 dX11_doubt_170 rfl ?_
    refine z_iload 3 dX11_doubt_172 rfl ?_
    refine z_iload 4 dX11_doubt_174 rfl ?_
    refine z_iload 5 dX11_doubt_176 rfl ?_
    refine zW.sub (lv' := [(0, xR 169), (3, xI w)]) [0, 1] rfl ?_
    exact k1 c1
  ·
    refine z_iload 5 dX11_doubt_165 rfl ?_
    refine z_i2l dX11_doubt_167 ?_
    exact z_lret dX11_doubt_168 rfl (k2 c1)

set_option maxRecDepth 20000 in
theorem rX11_doubt_178 {X : zX} {dep bc bs : Nat} (w : Int) (n : Int) (m : Int) (c : Int) (x : Int) {g : zH} {Q : Nat → zH → List zV → Prop} {P : zH → Prop}
    (hZ : zW mX11_take X (dep - 1) 0 0 239 0 (zar 0 [xR 169, xI n, xI m, xI c, xI x]) [] g (zQ0 P)) (hdep : 1 ≤ dep)
    (k : ∀ g : zH, P g → zW mX11_doubt X dep bc bs 239 181 [(0, xR 169), (3, xI w)] [] g Q) : zW mX11_doubt X dep bc bs 239 178 [(0, xR 169), (3, xI w)] [xI x, xI c, xI m, xI n, xR 169] g Q :=
  z_invQ0 (ci := 11) (N := 97) (as := [xI n, xI m, xI c, xI x]) (st := []) (ra := [xI x, xI c, xI m, xI n]) hZ dX11_doubt_178 nX11_take zb_1739 zb_1741 zb_79 zb_92 (zOb.lit (by decide +kernel)) rfl (by omega) (Nat.le_of_ble_eq_true rfl) (Nat.le_of_ble_eq_true rfl) rfl (fun g hg => k g hg)

set_option maxRecDepth 20000 in
theorem bX11_doubt_181 {X : zX} {dep bc bs : Nat} (w : Int) {g : zH} {Q : Nat → zH → List zV → Prop} (hw : 0 ≤ w ∧ w < 2)
    (k1 : Q 239 g [xL (g 234 w)]) : zW mX11_doubt X dep bc bs 239 181 [(0, xR 169), (3, xI w)] [] g Q := by
  refine z_aload_n 0 dX11_doubt_181 rfl ?_
  refine z_getS (v := 234) (k := 92) (kz := 92) pk11 dX11_doubt_182 (by decide) zb_1216 rfl (zOb.lit (by decide +kernel)) rfl (by decide +kernel) ?_
  refine z_iload_n 1 dX11_doubt_185 rfl ?_
  refine z_lald dX11_doubt_186 (zOb.lit (by decide +kernel)) hw.1 hw.2 ?_
  exact z_lret dX11_doubt_187 rfl (k1)


theorem f_X11_choose {X : zX} {dep : Nat} (n c : Int) {h : zH} (hn : 0 ≤ n ∧ n ≤ 60) : zW mX11_choose X dep 0 0 239 0 (zar 0 [xI n, xI c]) [] h (zF h [xL (zCi n c)]) := by
  refine bX11_choose_0 n c (fun q => ?_) (fun q q2 => ?_) (fun q q2 => ?_)
  · refine ⟨rfl, rfl, ?_⟩
    unfold zCi
    rw [if_pos (Or.inl q)]
  · have main : ∀ (k j : Nat), (j : Int) + k = c → zW mX11_choose X dep 0 0 239 16 [(0, xI n), (1, xI c), (2, xL (zC n.toNat j : Nat)), (4, xI j)] [] h (zF h [xL (zC n.toNat c.toNat : Nat)]) := by
      intro k
      induction k with
      | zero =>
        intro j hk
        refine bX11_choose_16 n c _ j hn (by omega) (fun q => ?_) (fun q => absurd (by omega) q)
        rw [show c.toNat = j by omega]
        exact ⟨rfl, rfl, rfl⟩
      | succ k ih =>
        intro j hk
        refine bX11_choose_16 n c _ j hn (by omega) (fun q => absurd q (by omega)) (fun q => ?_)
        rw [zC_step hn.2 (by omega)]
        exact ih (j + 1) (by omega)
    have go := main c.toNat 0 (by omega)
    unfold zCi
    rw [if_neg (by omega)]
    exact go
  · refine ⟨rfl, rfl, ?_⟩
    unfold zCi
    rw [if_pos (Or.inr (by omega))]
theorem l_X11_take_56 {X : zX} {dep : Nat} {Q : Nat → zH → List zV → Prop} {h : zH} (u f : Int) (G : Nat) (kx : zW mX11_take X dep 0 0 239 81 [(0, xR 169), (5, xL u), (7, xL f), (9, xL (G : Int))] [] h Q) :
    ∀ (N a b : Nat), b < N → a < 9223372036854775808 → b < 9223372036854775808 → Nat.gcd a b = G → zW mX11_take X dep 0 0 239 56 [(0, xR 169), (5, xL u), (7, xL f), (9, xL (a : Int)), (11, xL (b : Int))] [] h Q
  | 0, a, b, hb, _, _, _ => by omega
  | N + 1, a, b, hb, a9, b9, hG => by
    refine bX11_take_56 u f a b (fun q z => q (zcmp_z.1.mpr z)) (fun q => ?_) (fun q => ?_)
    · have : b = 0 := by have := zcmp_z.1.mp q; omega
      subst this
      rw [Nat.gcd_zero_right] at hG
      rw [hG]
      exact kx
    · have b0 : 0 < b := by
        rcases Nat.eq_zero_or_pos b with z | z
        · subst z; exact absurd (zcmp_z.1.mpr rfl) q
        · exact z
      have r1 := Nat.mod_lt a b0
      rw [zlrem_eq (by omega) (by omega) (by omega) (by omega), show (a : Int) % (b : Int) = ((a % b : Nat) : Int) from rfl]
      exact l_X11_take_56 u f G kx N b (a % b) (by omega) (by omega) (by omega) (by rw [← zgcd_s]; exact hG)
def mTkn (h : zH) (n m c x : Int) (g : zH) : Prop := zag [234] h g ∧ g 234 0 = zch n m c x 0 ∧ g 234 1 = zch n m c x 1
theorem f_X11_take {X : zX} {dep : Nat} (n m c x : Int) {h : zH} (hn : 0 ≤ m ∧ m ≤ n ∧ n ≤ 60 ∧ 0 ≤ c ∧ c ≤ n) (hx : 0 ≤ x) (hdep : 1 ≤ dep) : zW mX11_take X dep 0 0 239 0 (zar 0 [xR 169, xI n, xI m, xI c, xI x]) [] h (zQ0 (mTkn h n m c x)) := by
  obtain ⟨B, B1, B2, B3⟩ := zus_in (m := m) (p := n - m) (by omega) (by omega) (by omega) c x
  have fin : zW mX11_take X dep 0 0 239 41 [(0, xR 169), (1, xI n), (3, xI c), (5, xL (zus m (n - m) c x (c + 1 - x).toNat))] [] h (zQ0 (mTkn h n m c x)) := by
    have u := B3 (c + 1 - x).toNat
    have ub : ((c + 1 - x).toNat : Int) * (B : Int) ≤ 61 * B := Int.mul_le_mul_of_nonneg_right (by omega) (by omega)
    have d0 := zCi_pos (n := n) (k := c) (by omega) (by omega) (by omega)
    have d1 : zCi n c < 9223372036854775808 := by
      have := zC_big (n := n) (by omega) c.toNat (by omega)
      unfold zCi
      rw [if_neg (by omega)]
      exact this
    have eU : ((zchU n m c x : Nat) : Int) = zus m (n - m) c x (c + 1 - x).toNat := by unfold zchU; omega
    have eD : (((zCi n c).toNat : Nat) : Int) = zCi n c := by omega
    have gp : 0 < Nat.gcd (zchU n m c x) (zCi n c).toNat := Nat.gcd_pos_of_pos_right _ (by omega)
    have gle := Nat.le_of_dvd (by omega) (Nat.gcd_dvd_right (zchU n m c x) (zCi n c).toNat)
    refine bX11_take_41 n c _ ?_
    refine rX11_take_43 n c _ (zfL (f_X11_choose n c (by omega))) hdep (fun f g hf => ?_)
    obtain ⟨rfl, rfl⟩ := hf
    refine bX11_take_46 n c _ _ ?_
    have go := l_X11_take_56 (X := X) (dep := dep) (h := h) (Q := zQ0 (mTkn h n m c x)) (zus m (n - m) c x (c + 1 - x).toNat) (zCi n c) (Nat.gcd (zchU n m c x) (zCi n c).toNat) ?_ ((zCi n c).toNat + 1) (zchU n m c x) (zCi n c).toNat (by omega) (by omega) (by omega) rfl
    · rw [eU, eD] at go
      exact go
    · refine bX11_take_81 _ _ _ (by omega) ⟨rfl, rfl, ((zag.rf _ h).st (by decide) _ _).st (by decide) _ _, ?_, ?_⟩
      · rw [zst_ne (Or.inr (by decide)), zst_self]
        unfold zch
        rw [if_pos rfl, zldiv_eq (by omega) (by omega) (by omega) (by omega), ← eU]
        rfl
      · rw [zst_self]
        unfold zch
        rw [if_neg (by decide), zldiv_eq (by omega) (by omega) (by omega) (by omega), ← eD]
        rfl
  have main : ∀ (k j : Nat), j + k = (c + 1 - x).toNat → zW mX11_take X dep 0 0 239 7 [(0, xR 169), (1, xI n), (2, xI m), (3, xI c), (5, xL (zus m (n - m) c x j)), (7, xI (x + j))] [] h (zQ0 (mTkn h n m c x)) := by
    intro k
    induction k with
    | zero =>
      intro j hk
      have ej : j = (c + 1 - x).toNat := by omega
      refine bX11_take_7 n m c _ _ (by omega) (by omega) (fun q => ?_) (fun q => by exfalso; omega)
      rw [← ej] at fin
      exact fin
    | succ k ih =>
      intro j hk
      refine bX11_take_7 n m c _ _ (by omega) (by omega) (fun q => by exfalso; omega) (fun q => ?_)
      refine rX11_take_18 n m c _ _ (zfL (f_X11_choose m _ (by omega))) hdep (fun f g hf => ?_)
      obtain ⟨rfl, rfl⟩ := hf
      refine bX11_take_21 n m c _ _ _ (by omega) (by omega) ?_
      refine rX11_take_28 n m c _ _ _ (zfL (f_X11_choose (n - m) _ (by omega))) hdep (fun f g hf => ?_)
      obtain ⟨rfl, rfl⟩ := hf
      refine bX11_take_31 n m c _ _ _ _ (by omega) (by omega) ?_
      have p := B2 (x + j) (c - (x + j))
      have u := B3 (j + 1)
      have ub : ((j + 1 : Nat) : Int) * (B : Int) ≤ 61 * B := Int.mul_le_mul_of_nonneg_right (by omega) (by omega)
      have es : zus m (n - m) c x (j + 1) = zus m (n - m) c x j + zCi m (x + j) * zCi (n - m) (c - (x + j)) := rfl
      rw [w64_id (x := zCi m (x + j) * zCi (n - m) (c - (x + j))) (by omega) (by omega), ← es, w64_id (by omega) (by omega)]
      have go := ih (j + 1) (by omega)
      rw [show x + ((j + 1 : Nat) : Int) = x + (j : Int) + 1 by omega] at go
      exact go
  refine bX11_take_0 n m c x ?_
  have go := main (c + 1 - x).toNat 0 (by omega)
  rw [show x + ((0 : Nat) : Int) = x by omega] at go
  exact go
abbrev mMxC (h : zH) (l c a b w : Int) : Prop := mCl h l ∧ (0 ≤ c ∧ c ≤ 52) ∧ (0 ≤ a ∧ a ≤ 51) ∧ (a ≤ b ∧ b ≤ 51) ∧ 0 ≤ w ∧ w ≤ 2
noncomputable def mMxN (h : zH) (l c a b : Int) : Int := zcnt (fun i => a ≤ h 207 (52 * l + i) ∧ h 207 (52 * l + i) ≤ b) c.toNat
theorem f_X11_mixed {X : zX} {dep : Nat} (l c a b w : Int) {h : zH} (hl : 0 ≤ h 169 65 ∧ h 169 65 ≤ 4) (hdep : 2 ≤ dep) : zW mX11_mixed X dep 0 0 239 0 (zar 0 [xR 169, xI l, xI c, xI a, xI b, xI w]) [] h
    (zQL (fun v g => mMxC h l c a b w ∧ v = (if w = 2 then mMxN h l c a b else zch 52 (b - a + 1) c (mMxN h l c a b) w) ∧ zag [234] (zst h 169 0 0) g ∨ ¬ mMxC h l c a b w ∧ v = 0 ∧ g = zst h 169 0 1)) := by
  have e207 : ∀ i : Int, zst h 169 0 0 207 i = h 207 i := fun i => zst_ne (Or.inl (by decide))
  have no : ¬ mMxC h l c a b w → zQL (fun v g => mMxC h l c a b w ∧ v = (if w = 2 then mMxN h l c a b else zch 52 (b - a + 1) c (mMxN h l c a b) w) ∧ zag [234] (zst h 169 0 0) g ∨ ¬ mMxC h l c a b w ∧ v = 0 ∧ g = zst h 169 0 1) 239 (zst h 169 0 1) [xL 0] := fun q => ⟨rfl, _, rfl, Or.inr ⟨q, rfl, rfl⟩⟩
  refine bX11_mixed_0 l c a b w hl hdep (fun q => no (fun z => q z.1)) (fun _ q => no (fun z => q z.2.1)) (fun _ _ q => no (fun z => q z.2.2.1)) (fun _ _ _ q => no (fun z => q z.2.2.2.1)) (fun q1 q2 q3 q4 q5 => ?_) (fun _ _ _ _ q => no (fun z => q z.2.2.2.2))
  have C : mMxC h l c a b w := ⟨q1, q2, q3, q4, q5⟩
  have main : ∀ (k j : Nat), (j : Int) + k = c → zW mX11_mixed X dep 0 0 239 69 [(0, xR 169), (1, xI l), (2, xI c), (3, xI a), (4, xI b), (5, xI w), (6, xI (zcnt (fun i => a ≤ h 207 (52 * l + i) ∧ h 207 (52 * l + i) ≤ b) j)), (7, xI j)] [] (zst h 169 0 0) (zQL (fun v g => mMxC h l c a b w ∧ v = (if w = 2 then mMxN h l c a b else zch 52 (b - a + 1) c (mMxN h l c a b) w) ∧ zag [234] (zst h 169 0 0) g ∨ ¬ mMxC h l c a b w ∧ v = 0 ∧ g = zst h 169 0 1)) := by
    intro k
    induction k with
    | zero =>
      intro j hk
      have ci := zcnt_in (fun i => a ≤ h 207 (52 * l + i) ∧ h 207 (52 * l + i) ≤ b) j
      refine bX11_mixed_69 l c a b w _ j (by omega) q2 (by omega) (by omega) (by omega) (by omega) (fun _ => ?_) (fun z => by exfalso; omega) (fun z => by exfalso; omega)
      have ev : mMxN h l c a b = zcnt (fun i => a ≤ h 207 (52 * l + i) ∧ h 207 (52 * l + i) ≤ b) j := by
        unfold mMxN
        rw [show c.toNat = j by omega]
      refine bX11_mixed_112 l c a b w _ (by omega) q2 (by omega) (by omega) (fun z => ?_) (fun z => ?_)
      · refine rX11_mixed_134 w _ c _ (f_X11_take 52 (b - a + 1) c _ (by omega) ci.1 (by omega)) (by omega) (fun g hg => ?_)
        refine bX11_mixed_137 w (by omega) ?_
        refine ⟨rfl, _, rfl, Or.inl ⟨C, ?_, hg.1⟩⟩
        rw [if_neg z, ev]
        by_cases w0 : w = 0
        · rw [w0]
          exact hg.2.1
        · rw [show w = 1 by omega]
          exact hg.2.2
      · refine ⟨rfl, _, rfl, Or.inl ⟨C, ?_, zag.rf _ _⟩⟩
        rw [if_pos z, ev]
    | succ k ih =>
      intro j hk
      have ci := zcnt_in (fun i => a ≤ h 207 (52 * l + i) ∧ h 207 (52 * l + i) ≤ b) j
      have go := ih (j + 1) (by omega)
      rw [zcnt_s, show ((j + 1 : Nat) : Int) = (j : Int) + 1 by omega] at go
      refine bX11_mixed_69 l c a b w _ j (by omega) q2 (by omega) (by omega) (by omega) (by omega) (fun z => by exfalso; omega) (fun _ z => ?_) (fun _ z => ?_)
      · rw [e207] at z
        rw [zb_f z] at go
        exact go
      · rw [e207] at z
        rw [zb_t z] at go
        exact go
  exact main c.toNat 0 (by omega)
theorem zcnt_le {P R : Int → Prop} (hh : ∀ k, P k → R k) : ∀ n : Nat, zcnt P n ≤ zcnt R n
  | 0 => Int.le_refl _
  | n + 1 => by
    have ih := zcnt_le hh n
    rw [zcnt_s, zcnt_s]
    by_cases c : P n
    · rw [zb_t c, zb_t (hh _ c)]
      omega
    · rw [zb_f c]
      have := zb01 (R n)
      omega
abbrev mD1 (h : zH) (t : Int) : Int → Prop := fun e => h 186 e ≤ t
abbrev mD2 (h : zH) (t : Int) : Int → Prop := fun e => h 186 e ≤ t ∧ 4 < h 185 e
abbrev mD3 (h : zH) (t d : Int) : Int → Prop := fun e => h 186 e ≤ t ∧ h 184 e = d
abbrev mD4 (h : zH) (t d : Int) : Int → Prop := fun e => h 186 e ≤ t ∧ h 184 e = d ∧ 4 < h 185 e
abbrev mDoC (d w : Int) : Prop := (0 ≤ d ∧ d ≤ 7) ∧ 0 ≤ w ∧ w ≤ 2
noncomputable def mDoV (h : zH) (d t w : Int) : Int := if w = 2 then zcnt (mD4 h t d) (h 169 28).toNat else zch (zcnt (mD1 h t) (h 169 28).toNat) (zcnt (mD2 h t) (h 169 28).toNat) (zcnt (mD3 h t d) (h 169 28).toNat) (zcnt (mD4 h t d) (h 169 28).toNat) w
theorem f_X11_doubt {X : zX} {dep : Nat} (d t w : Int) {h : zH} (he : 0 ≤ h 169 28 ∧ h 169 28 ≤ 60) (hdep : 2 ≤ dep) : zW mX11_doubt X dep 0 0 239 0 (zar 0 [xR 169, xI d, xI t, xI w]) [] h
    (zQL (fun v g => mDoC d w ∧ v = mDoV h d t w ∧ zag [234] (zst h 169 0 0) g ∨ ¬ mDoC d w ∧ v = 0 ∧ g = zst h 169 0 1)) := by
  have e28 : zst h 169 0 0 169 28 = h 169 28 := zst_ne (Or.inr (by decide))
  have e184 : ∀ i : Int, zst h 169 0 0 184 i = h 184 i := fun i => zst_ne (Or.inl (by decide))
  have e185 : ∀ i : Int, zst h 169 0 0 185 i = h 185 i := fun i => zst_ne (Or.inl (by decide))
  have e186 : ∀ i : Int, zst h 169 0 0 186 i = h 186 i := fun i => zst_ne (Or.inl (by decide))
  have no : ¬ mDoC d w → zQL (fun v g => mDoC d w ∧ v = mDoV h d t w ∧ zag [234] (zst h 169 0 0) g ∨ ¬ mDoC d w ∧ v = 0 ∧ g = zst h 169 0 1) 239 (zst h 169 0 1) [xL 0] := fun q => ⟨rfl, _, rfl, Or.inr ⟨q, rfl, rfl⟩⟩
  refine bX11_doubt_0 d t w (by omega) (fun q => no (fun z => q z.1)) (fun q1 q2 => ?_) (fun _ q => no (fun z => q z.2))
  have C : mDoC d w := ⟨q1, q2⟩
  have main : ∀ (k j : Nat), (j : Int) + k = h 169 28 → zW mX11_doubt X dep 0 0 239 48 [(0, xR 169), (1, xI d), (2, xI t), (3, xI w), (4, xI (zcnt (mD1 h t) j)), (5, xI (zcnt (mD2 h t) j)), (6, xI (zcnt (mD3 h t d) j)), (7, xI (zcnt (mD4 h t d) j)), (8, xI j)] [] (zst h 169 0 0) (zQL (fun v g => mDoC d w ∧ v = mDoV h d t w ∧ zag [234] (zst h 169 0 0) g ∨ ¬ mDoC d w ∧ v = 0 ∧ g = zst h 169 0 1)) := by
    intro k
    induction k with
    | zero =>
      intro j hk
      have c1 := zcnt_in (mD1 h t) j
      have c2 := zcnt_in (mD2 h t) j
      have c3 := zcnt_in (mD3 h t d) j
      have c4 := zcnt_in (mD4 h t d) j
      have d2 := zcnt_le (P := mD2 h t) (R := mD1 h t) (fun k z => z.1) j
      have d3 := zcnt_le (P := mD3 h t d) (R := mD1 h t) (fun k z => z.1) j
      refine bX11_doubt_48 d t w _ _ _ _ j (by rw [e28]; exact he) (by omega) (fun _ => ?_) (fun z => by exfalso; omega) (fun z => by exfalso; omega)
      have ej : (h 169 28).toNat = j := by omega
      refine bX11_doubt_160 w _ _ _ _ (fun z => ?_) (fun z => ?_)
      · refine rX11_doubt_178 w _ _ _ _ (f_X11_take _ _ _ _ (by omega) c4.1 (by omega)) (by omega) (fun g hg => ?_)
        refine bX11_doubt_181 w (by omega) ?_
        refine ⟨rfl, _, rfl, Or.inl ⟨C, ?_, hg.1⟩⟩
        unfold mDoV
        rw [if_neg z, ej]
        by_cases w0 : w = 0
        · rw [w0]
          exact hg.2.1
        · rw [show w = 1 by omega]
          exact hg.2.2
      · refine ⟨rfl, _, rfl, Or.inl ⟨C, ?_, zag.rf _ _⟩⟩
        unfold mDoV
        rw [if_pos z, ej]
    | succ k ih =>
      intro j hk
      have c1 := zcnt_in (mD1 h t) j
      have c2 := zcnt_in (mD2 h t) j
      have c3 := zcnt_in (mD3 h t d) j
      have c4 := zcnt_in (mD4 h t d) j
      have go := ih (j + 1) (by omega)
      rw [zcnt_s, zcnt_s, zcnt_s, zcnt_s, show ((j + 1 : Nat) : Int) = (j : Int) + 1 by omega] at go
      refine bX11_doubt_48 d t w _ _ _ _ j (by rw [e28]; exact he) (by omega) (fun z => by exfalso; omega) (fun _ z => ?_) (fun _ z => ?_)
      · rw [e186] at z
        refine bX11_doubt_71 d t w _ _ _ _ j (by omega) (by omega) ?_
        have x1 : zb (mD1 h t j) = 1 := zb_t z
        have x2 : zb (mD2 h t j) = if (if h 185 j ≤ 4 then 0 else 1 : Int) = 0 then 0 else 1 := by
          by_cases y : h 185 j ≤ 4
          · rw [if_pos y, if_pos rfl, zb_f (fun q => by have := q.2; omega)]
          · rw [if_neg y, if_neg (by decide), zb_t ⟨z, by omega⟩]
        have x3 : zb (mD3 h t d j) = if h 184 j = d then 1 else 0 := by
          by_cases y : h 184 j = d
          · rw [if_pos y, zb_t ⟨z, y⟩]
          · rw [if_neg y, zb_f (fun q => y q.2)]
        have x4 : zb (mD4 h t d j) = if h 184 j = d then (if (if h 185 j ≤ 4 then 0 else 1 : Int) = 0 then 0 else 1) else 0 := by
          by_cases y : h 184 j = d
          · rw [if_pos y]
            by_cases y2 : h 185 j ≤ 4
            · rw [if_pos y2, if_pos rfl, zb_f (fun q => by have := q.2.2; omega)]
            · rw [if_neg y2, if_neg (by decide), zb_t ⟨z, y, by omega⟩]
          · rw [if_neg y, zb_f (fun q => y q.2.1)]
        rw [x1, x2, x3, x4] at go
        have b2 : 0 ≤ (if (if h 185 j ≤ 4 then 0 else 1 : Int) = 0 then 0 else 1 : Int) ∧ (if (if h 185 j ≤ 4 then 0 else 1 : Int) = 0 then 0 else 1 : Int) ≤ 1 := by
          split <;> omega
        rw [e185]
        refine bX11_doubt_89 d t w _ _ _ _ j _ (by omega) (by omega) ?_
        refine bX11_doubt_107 d t w _ _ _ _ j _ (by omega) ?_
        rw [e184]
        refine bX11_doubt_128 d t w _ _ _ _ j _ (by omega) ?_
        rw [e184]
        exact go
      · rw [e186] at z
        rw [zb_f (show ¬ mD1 h t j from z), zb_f (show ¬ mD2 h t j from fun q => z q.1), zb_f (show ¬ mD3 h t d j from fun q => z q.1), zb_f (show ¬ mD4 h t d j from fun q => z q.1)] at go
        simp only [Int.add_zero] at go
        exact go
  exact main (h 169 28).toNat 0 (by omega)
