/-! chance, mixed, doubt -/
theorem z_thr {d : zMd} {X : zX} {dep bc bs n pc j : Nat} {lv : List (Nat × zV)} {h : zH} {Q : Nat → zH → List zV → Prop} (hn : 0 < n) (hdg : decode d.by pc = .ok (.new j, 3)) (q : Q n h [(9, 0)]) : zW d X dep bc bs n pc lv [] h Q := by
  intro p l e R s m args below meth c H locs cells slots A E ls Z hF h1 h2 hD hE
  exact hE H locs cells slots E ls n h pc [(9, 0)] [] (.new j) 3 (by omega) (by omega) (hD.end _ (fun v hv => by rw [List.mem_singleton.mp hv]; exact (show (0 : Int) = -1 ∨ (0 ≤ (0 : Int) ∧ (0 : Int) < n) ∨ 1000000 ≤ (0 : Int) from Or.inr (Or.inl ⟨Int.le_refl _, by omega⟩)))) (zEx.rf E n) q hdg (Or.inr (Or.inr (Or.inr (Or.inr ⟨⟨j, rfl⟩, rfl, rfl, rfl⟩))))

set_option maxRecDepth 20000 in
theorem bX10_ways_0 {X : zX} {dep bc bs : Nat} (n : Int) (c : Int) {h : zH} {Q : Nat → zH → List zV → Prop}
    (k1 : c < 0 → Q 239 h [xL 0])
    (k2 : ¬ (c < 0) → c ≤ n → zW mX10_ways X dep bc bs 239 16 [(0, xI n), (1, xI c), (2, xL 1), (4, xI 0)] [] h Q)
    (k3 : ¬ (c < 0) → ¬ (c ≤ n) → Q 239 h [xL 0]) : zW mX10_ways X dep bc bs 239 0 [(0, xI n), (1, xI c)] [] h Q := by
  refine z_iload_n 1 dX10_ways_0 rfl ?_
  refine z_if_lt (tgt := 9) dX10_ways_1 (by decide) (fun c1 => ?_) (fun c1 => ?_)
  ·
    refine z_lconst dX10_ways_9 ?_
    show zW mX10_ways X dep bc bs 239 10 [(0, xI n), (1, xI c)] [xL 0] h Q
    exact z_lret dX10_ways_10 rfl (k1 c1)
  ·
    refine z_iload_n 1 dX10_ways_4 rfl ?_
    refine z_iload_n 0 dX10_ways_5 rfl ?_
    refine z_icmp_le (tgt := 11) dX10_ways_6 (by decide) (fun c2 => ?_) (fun c2 => ?_)
    ·
      refine z_lconst dX10_ways_11 ?_
      show zW mX10_ways X dep bc bs 239 12 [(0, xI n), (1, xI c)] [xL 1] h Q
      refine z_lstore_n (lv' := [(2, xL 1), (0, xI n), (1, xI c)]) dX10_ways_12 (by decide) rfl ?_
      refine z_iconst dX10_ways_13 (zi32_d rfl) ?_
      refine z_istore (lv' := [(4, xI 0), (2, xL 1), (0, xI n), (1, xI c)]) dX10_ways_14 (by decide) rfl ?_
      refine zW.sub (lv' := [(0, xI n), (1, xI c), (2, xL 1), (4, xI 0)]) [2, 3, 1, 0] rfl ?_
      exact k2 c1 c2
    ·
      refine z_lconst dX10_ways_9 ?_
      show zW mX10_ways X dep bc bs 239 10 [(0, xI n), (1, xI c)] [xL 0] h Q
      exact z_lret dX10_ways_10 rfl (k3 c1 c2)

set_option maxRecDepth 20000 in
theorem bX10_ways_16 {X : zX} {dep bc bs : Nat} (n : Int) (c : Int) (f : Int) (i : Int) {h : zH} {Q : Nat → zH → List zV → Prop} (hn : 0 ≤ n ∧ n ≤ 60) (hi : 0 ≤ i ∧ i ≤ 60)
    (k1 : c ≤ i → Q 239 h [xL f])
    (k2 : ¬ (c ≤ i) → zW mX10_ways X dep bc bs 239 16 [(0, xI n), (1, xI c), (2, xL (zldiv (w64 (f * (n - i))) (i + 1))), (4, xI (i + 1))] [] h Q) : zW mX10_ways X dep bc bs 239 16 [(0, xI n), (1, xI c), (2, xL f), (4, xI i)] [] h Q := by
  refine z_iload 3 dX10_ways_16 rfl ?_
  refine z_iload_n 1 dX10_ways_18 rfl ?_
  refine z_icmp_ge (tgt := 42) dX10_ways_19 (by decide) (fun c1 => ?_) (fun c1 => ?_)
  ·
    refine z_lload_n 2 dX10_ways_42 rfl ?_
    exact z_lret dX10_ways_43 rfl (k1 c1)
  ·
    refine z_lload_n 2 dX10_ways_22 rfl ?_
    refine z_iload_n 0 dX10_ways_23 rfl ?_
    refine z_iload 3 dX10_ways_24 rfl ?_
    refine z_isubN dX10_ways_26 (show -2147483648 ≤ n - i ∧ n - i < 2147483648 from ⟨by omega, by omega⟩).1 (show -2147483648 ≤ n - i ∧ n - i < 2147483648 from ⟨by omega, by omega⟩).2 ?_
    refine z_i2l dX10_ways_27 ?_
    refine z_lmul dX10_ways_28 ?_
    refine z_iload 3 dX10_ways_29 rfl ?_
    refine z_iconst dX10_ways_31 (zi32_d rfl) ?_
    refine z_iaddN dX10_ways_32 (show -2147483648 ≤ i + 1 ∧ i + 1 < 2147483648 from ⟨by omega, by omega⟩).1 (show -2147483648 ≤ i + 1 ∧ i + 1 < 2147483648 from ⟨by omega, by omega⟩).2 ?_
    refine z_i2l dX10_ways_33 ?_
    refine z_ldiv dX10_ways_34 (show (i + 1) ≠ 0 by omega) ?_
    refine z_lstore_n (lv' := [(2, xL (zldiv (w64 (f * (n - i))) (i + 1))), (0, xI n), (1, xI c), (4, xI i)]) dX10_ways_35 (by decide) rfl ?_
    refine z_iincN (lv' := [(4, xI (i + 1)), (2, xL (zldiv (w64 (f * (n - i))) (i + 1))), (0, xI n), (1, xI c)]) 3 dX10_ways_36 rfl (by decide) rfl (show -2147483648 ≤ i + 1 ∧ i + 1 < 2147483648 from ⟨by omega, by omega⟩).1 (show -2147483648 ≤ i + 1 ∧ i + 1 < 2147483648 from ⟨by omega, by omega⟩).2 ?_
    refine z_goto (tgt := 16) dX10_ways_39 (by decide) ?_
    refine zW.sub (lv' := [(0, xI n), (1, xI c), (2, xL (zldiv (w64 (f * (n - i))) (i + 1))), (4, xI (i + 1))]) [2, 3, 1, 0] rfl ?_
    exact k2 c1

set_option maxRecDepth 20000 in
theorem bX10_commonDivisor_0 {X : zX} {dep bc bs : Nat} (a : Int) (b : Int) {h : zH} {Q : Nat → zH → List zV → Prop}
    (k1 : zW mX10_commonDivisor X dep bc bs 239 9 [(4, xL a), (6, xL b), (8, xI 0)] [] h Q) : zW mX10_commonDivisor X dep bc bs 239 0 [(0, xL a), (2, xL b)] [] h Q := by
  refine z_lload_n 0 dX10_commonDivisor_0 rfl ?_
  refine z_lstore (lv' := [(4, xL a), (0, xL a), (2, xL b)]) dX10_commonDivisor_1 (by decide) rfl ?_
  refine z_lload_n 2 dX10_commonDivisor_3 rfl ?_
  refine z_lstore (lv' := [(6, xL b), (4, xL a), (0, xL a), (2, xL b)]) dX10_commonDivisor_4 (by decide) rfl ?_
  refine z_iconst dX10_commonDivisor_6 (zi32_d rfl) ?_
  refine z_istore (lv' := [(8, xI 0), (6, xL b), (4, xL a), (0, xL a), (2, xL b)]) dX10_commonDivisor_7 (by decide) rfl ?_
  refine zW.sub (lv' := [(4, xL a), (6, xL b), (8, xI 0)]) [2, 1, 0] rfl ?_
  exact k1

set_option maxRecDepth 20000 in
theorem bX10_commonDivisor_9 {X : zX} {dep bc bs : Nat} (a : Int) (b : Int) (i : Int) {h : zH} {Q : Nat → zH → List zV → Prop} (hi : 0 ≤ i ∧ i ≤ 1000) (s1 : ¬ (1000 ≤ i) → ¬ ((zcmp b 0) = 0) → b ≠ 0)
    (k1 : 1000 ≤ i → Q 239 h [xL a])
    (k2 : ¬ (1000 ≤ i) → (zcmp b 0) = 0 → Q 239 h [xL a])
    (k3 : ¬ (1000 ≤ i) → ¬ ((zcmp b 0) = 0) → zW mX10_commonDivisor X dep bc bs 239 9 [(4, xL b), (6, xL (zlrem a b)), (8, xI (i + 1))] [] h Q) : zW mX10_commonDivisor X dep bc bs 239 9 [(4, xL a), (6, xL b), (8, xI i)] [] h Q := by
  refine z_iload 2 dX10_commonDivisor_9 rfl ?_
  refine z_sipush dX10_commonDivisor_11 (zi32_d rfl) (by decide) ?_
  refine z_icmp_ge (tgt := 45) dX10_commonDivisor_14 (by decide) (fun c1 => ?_) (fun c1 => ?_)
  ·
    refine z_lload 0 dX10_commonDivisor_45 rfl ?_
    exact z_lret dX10_commonDivisor_47 rfl (k1 c1)
  ·
    refine z_lload 1 dX10_commonDivisor_17 rfl ?_
    refine z_lconst dX10_commonDivisor_19 ?_
    show zW mX10_commonDivisor X dep bc bs 239 20 [(4, xL a), (6, xL b), (8, xI i)] [xL 0, xL b] h Q
    refine z_lcmp dX10_commonDivisor_20 ?_
    refine z_if_eq (tgt := 45) dX10_commonDivisor_21 (by decide) (fun c2 => ?_) (fun c2 => ?_)
    ·
      refine z_lload 0 dX10_commonDivisor_45 rfl ?_
      exact z_lret dX10_commonDivisor_47 rfl (k2 c1 c2)
    ·
      refine z_lload 0 dX10_commonDivisor_24 rfl ?_
      refine z_lload 1 dX10_commonDivisor_26 rfl ?_
      refine z_lrem dX10_commonDivisor_28 (s1 c1 c2) ?_
      refine z_lstore (lv' := [(9, xL (zlrem a b)), (4, xL a), (6, xL b), (8, xI i)]) dX10_commonDivisor_29 (by decide) rfl ?_
      refine z_lload 2 dX10_commonDivisor_31 rfl ?_
      refine z_lstore (lv' := [(4, xL b), (9, xL (zlrem a b)), (6, xL b), (8, xI i)]) dX10_commonDivisor_33 (by decide) rfl ?_
      refine z_lload 1 dX10_commonDivisor_35 rfl ?_
      refine z_lstore (lv' := [(6, xL (zlrem a b)), (4, xL b), (9, xL (zlrem a b)), (8, xI i)]) dX10_commonDivisor_37 (by decide) rfl ?_
      refine z_iincN (lv' := [(8, xI (i + 1)), (6, xL (zlrem a b)), (4, xL b), (9, xL (zlrem a b))]) 3 dX10_commonDivisor_39 rfl (by decide) rfl (show -2147483648 ≤ i + 1 ∧ i + 1 < 2147483648 from ⟨by omega, by omega⟩).1 (show -2147483648 ≤ i + 1 ∧ i + 1 < 2147483648 from ⟨by omega, by omega⟩).2 ?_
      refine z_goto (tgt := 9) dX10_commonDivisor_42 (by decide) ?_
      refine zW.sub (lv' := [(4, xL b), (6, xL (zlrem a b)), (8, xI (i + 1))]) [2, 1, 0] rfl ?_
      exact k3 c1 c2

set_option maxRecDepth 20000 in
theorem bX10_chance_0 {X : zX} {dep bc bs : Nat} (n : Int) (m : Int) (c : Int) (x : Int) (w : Int) {h : zH} {Q : Nat → zH → List zV → Prop}
    (k1 : zW mX10_chance X dep bc bs 239 6 [(0, xI n), (1, xI m), (2, xI c), (4, xI w), (5, xL 0), (7, xI x)] [] h Q) : zW mX10_chance X dep bc bs 239 0 [(0, xI n), (1, xI m), (2, xI c), (3, xI x), (4, xI w)] [] h Q := by
  refine z_lconst dX10_chance_0 ?_
  show zW mX10_chance X dep bc bs 239 1 [(0, xI n), (1, xI m), (2, xI c), (3, xI x), (4, xI w)] [xL 0] h Q
  refine z_lstore (lv' := [(5, xL 0), (0, xI n), (1, xI m), (2, xI c), (3, xI x), (4, xI w)]) dX10_chance_1 (by decide) rfl ?_
  refine z_iload_n 4 dX10_chance_3 rfl ?_
  refine z_istore (lv' := [(7, xI x), (5, xL 0), (0, xI n), (1, xI m), (2, xI c), (3, xI x), (4, xI w)]) dX10_chance_4 (by decide) rfl ?_
  refine zW.sub (lv' := [(0, xI n), (1, xI m), (2, xI c), (4, xI w), (5, xL 0), (7, xI x)]) [2, 3, 4, 6, 1, 0] rfl ?_
  exact k1

set_option maxRecDepth 20000 in
theorem bX10_chance_6 {X : zX} {dep bc bs : Nat} (n : Int) (m : Int) (c : Int) (w : Int) (u : Int) (i : Int) {h : zH} {Q : Nat → zH → List zV → Prop} (hn : 0 ≤ m ∧ m ≤ n ∧ n ≤ 60 ∧ 0 ≤ c ∧ c ≤ 60) (hi : 0 ≤ i)
    (k1 : c < i → zW mX10_chance X dep bc bs 239 46 [(0, xI n), (2, xI c), (4, xI w), (5, xL u)] [] h Q)
    (k2 : ¬ (c < i) → m < i → zW mX10_chance X dep bc bs 239 46 [(0, xI n), (2, xI c), (4, xI w), (5, xL u)] [] h Q)
    (k3 : ¬ (c < i) → ¬ (m < i) → zW mX10_chance X dep bc bs 239 23 [(0, xI n), (1, xI m), (2, xI c), (4, xI w), (5, xL u), (7, xI i)] [xI i, xI m, xL u] h Q) : zW mX10_chance X dep bc bs 239 6 [(0, xI n), (1, xI m), (2, xI c), (4, xI w), (5, xL u), (7, xI i)] [] h Q := by
  refine z_iload 5 dX10_chance_6 rfl ?_
  refine z_iload_n 2 dX10_chance_8 rfl ?_
  refine z_icmp_gt (tgt := 46) dX10_chance_9 (by decide) (fun c1 => ?_) (fun c1 => ?_)
  ·
    refine zW.sub (lv' := [(0, xI n), (2, xI c), (4, xI w), (5, xL u)]) [0, 2, 3, 4] rfl ?_
    exact k1 c1
  ·
    refine z_iload 5 dX10_chance_12 rfl ?_
    refine z_iload_n 1 dX10_chance_14 rfl ?_
    refine z_icmp_gt (tgt := 46) dX10_chance_15 (by decide) (fun c2 => ?_) (fun c2 => ?_)
    ·
      refine zW.sub (lv' := [(0, xI n), (2, xI c), (4, xI w), (5, xL u)]) [0, 2, 3, 4] rfl ?_
      exact k2 c1 c2
    ·
      refine z_lload 4 dX10_chance_18 rfl ?_
      refine z_iload_n 1 dX10_chance_20 rfl ?_
      refine z_iload 5 dX10_chance_21 rfl ?_
      exact k3 c1 c2

set_option maxRecDepth 20000 in
theorem rX10_chance_23 {X : zX} {dep bc bs : Nat} (n : Int) (m : Int) (c : Int) (w : Int) (u : Int) (i : Int) {h : zH} {Q : Nat → zH → List zV → Prop} {P : Int → zH → Prop}
    (hZ : zW mX10_ways X (dep - 1) 0 0 239 0 (zar 0 [xI m, xI i]) [] h (zQL P)) (hdep : 1 ≤ dep)
    (k : ∀ (v : Int) (g : zH), P v g → zW mX10_chance X dep bc bs 239 26 [(0, xI n), (1, xI m), (2, xI c), (4, xI w), (5, xL u), (7, xI i)] [xL v, xL u] g Q) : zW mX10_chance X dep bc bs 239 23 [(0, xI n), (1, xI m), (2, xI c), (4, xI w), (5, xL u), (7, xI i)] [xI i, xI m, xL u] h Q :=
  z_invSQL (as := [xI m, xI i]) (st := [xL u]) (ra := [xI i, xI m]) hZ dX10_chance_23 nX10_ways zb_1103 zb_1104 zb_82 (by omega) (Nat.le_of_ble_eq_true rfl) (Nat.le_of_ble_eq_true rfl) rfl (fun v g hg => k v g hg)

set_option maxRecDepth 20000 in
theorem bX10_chance_26 {X : zX} {dep bc bs : Nat} (n : Int) (m : Int) (c : Int) (w : Int) (u : Int) (i : Int) (f : Int) {h : zH} {Q : Nat → zH → List zV → Prop} (hn : 0 ≤ m ∧ m ≤ n ∧ n ≤ 60 ∧ 0 ≤ c ∧ c ≤ 60) (hi : 0 ≤ i ∧ i ≤ 60)
    (k1 : zW mX10_chance X dep bc bs 239 33 [(0, xI n), (1, xI m), (2, xI c), (4, xI w), (5, xL u), (7, xI i)] [xI (c - i), xI (n - m), xL f, xL u] h Q) : zW mX10_chance X dep bc bs 239 26 [(0, xI n), (1, xI m), (2, xI c), (4, xI w), (5, xL u), (7, xI i)] [xL f, xL u] h Q := by
  refine z_iload_n 0 dX10_chance_26 rfl ?_
  refine z_iload_n 1 dX10_chance_27 rfl ?_
  refine z_isubN dX10_chance_28 (show -2147483648 ≤ n - m ∧ n - m < 2147483648 from ⟨by omega, by omega⟩).1 (show -2147483648 ≤ n - m ∧ n - m < 2147483648 from ⟨by omega, by omega⟩).2 ?_
  refine z_iload_n 2 dX10_chance_29 rfl ?_
  refine z_iload 5 dX10_chance_30 rfl ?_
  refine z_isubN dX10_chance_32 (show -2147483648 ≤ c - i ∧ c - i < 2147483648 from ⟨by omega, by omega⟩).1 (show -2147483648 ≤ c - i ∧ c - i < 2147483648 from ⟨by omega, by omega⟩).2 ?_
  exact k1

set_option maxRecDepth 20000 in
theorem rX10_chance_33 {X : zX} {dep bc bs : Nat} (n : Int) (m : Int) (c : Int) (w : Int) (u : Int) (i : Int) (f : Int) {h : zH} {Q : Nat → zH → List zV → Prop} {P : Int → zH → Prop}
    (hZ : zW mX10_ways X (dep - 1) 0 0 239 0 (zar 0 [xI (n - m), xI (c - i)]) [] h (zQL P)) (hdep : 1 ≤ dep)
    (k : ∀ (v : Int) (g : zH), P v g → zW mX10_chance X dep bc bs 239 36 [(0, xI n), (1, xI m), (2, xI c), (4, xI w), (5, xL u), (7, xI i)] [xL v, xL f, xL u] g Q) : zW mX10_chance X dep bc bs 239 33 [(0, xI n), (1, xI m), (2, xI c), (4, xI w), (5, xL u), (7, xI i)] [xI (c - i), xI (n - m), xL f, xL u] h Q :=
  z_invSQL (as := [xI (n - m), xI (c - i)]) (st := [xL f, xL u]) (ra := [xI (c - i), xI (n - m)]) hZ dX10_chance_33 nX10_ways zb_1103 zb_1104 zb_82 (by omega) (Nat.le_of_ble_eq_true rfl) (Nat.le_of_ble_eq_true rfl) rfl (fun v g hg => k v g hg)

set_option maxRecDepth 20000 in
theorem bX10_chance_36 {X : zX} {dep bc bs : Nat} (n : Int) (m : Int) (c : Int) (w : Int) (u : Int) (i : Int) (f : Int) (y : Int) {h : zH} {Q : Nat → zH → List zV → Prop} (hn : 0 ≤ m ∧ m ≤ n ∧ n ≤ 60 ∧ 0 ≤ c ∧ c ≤ 60) (hi : 0 ≤ i ∧ i ≤ 60)
    (k1 : zW mX10_chance X dep bc bs 239 6 [(0, xI n), (1, xI m), (2, xI c), (4, xI w), (5, xL (w64 (u + (w64 (f * y))))), (7, xI (i + 1))] [] h Q) : zW mX10_chance X dep bc bs 239 36 [(0, xI n), (1, xI m), (2, xI c), (4, xI w), (5, xL u), (7, xI i)] [xL y, xL f, xL u] h Q := by
  refine z_lmul dX10_chance_36 ?_
  refine z_ladd dX10_chance_37 ?_
  refine z_lstore (lv' := [(5, xL (w64 (u + (w64 (f * y))))), (0, xI n), (1, xI m), (2, xI c), (4, xI w), (7, xI i)]) dX10_chance_38 (by decide) rfl ?_
  refine z_iincN (lv' := [(7, xI (i + 1)), (5, xL (w64 (u + (w64 (f * y))))), (0, xI n), (1, xI m), (2, xI c), (4, xI w)]) 5 dX10_chance_40 rfl (by decide) rfl (show -2147483648 ≤ i + 1 ∧ i + 1 < 2147483648 from ⟨by omega, by omega⟩).1 (show -2147483648 ≤ i + 1 ∧ i + 1 < 2147483648 from ⟨by omega, by omega⟩).2 ?_
  refine z_goto (tgt := 6) dX10_chance_43 (by decide) ?_
  refine zW.sub (lv' := [(0, xI n), (1, xI m), (2, xI c), (4, xI w), (5, xL (w64 (u + (w64 (f * y))))), (7, xI (i + 1))]) [2, 3, 4, 5, 1, 0] rfl ?_
  exact k1

set_option maxRecDepth 20000 in
theorem bX10_chance_46 {X : zX} {dep bc bs : Nat} (n : Int) (c : Int) (w : Int) (u : Int) {h : zH} {Q : Nat → zH → List zV → Prop}
    (k1 : zW mX10_chance X dep bc bs 239 48 [(0, xI n), (2, xI c), (4, xI w), (5, xL u)] [xI c, xI n] h Q) : zW mX10_chance X dep bc bs 239 46 [(0, xI n), (2, xI c), (4, xI w), (5, xL u)] [] h Q := by
  refine z_iload_n 0 dX10_chance_46 rfl ?_
  refine z_iload_n 1 dX10_chance_47 rfl ?_
  exact k1

set_option maxRecDepth 20000 in
theorem rX10_chance_48 {X : zX} {dep bc bs : Nat} (n : Int) (c : Int) (w : Int) (u : Int) {h : zH} {Q : Nat → zH → List zV → Prop} {P : Int → zH → Prop}
    (hZ : zW mX10_ways X (dep - 1) 0 0 239 0 (zar 0 [xI n, xI c]) [] h (zQL P)) (hdep : 1 ≤ dep)
    (k : ∀ (v : Int) (g : zH), P v g → zW mX10_chance X dep bc bs 239 51 [(0, xI n), (2, xI c), (4, xI w), (5, xL u)] [xL v] g Q) : zW mX10_chance X dep bc bs 239 48 [(0, xI n), (2, xI c), (4, xI w), (5, xL u)] [xI c, xI n] h Q :=
  z_invSQL (as := [xI n, xI c]) (st := []) (ra := [xI c, xI n]) hZ dX10_chance_48 nX10_ways zb_1103 zb_1104 zb_82 (by omega) (Nat.le_of_ble_eq_true rfl) (Nat.le_of_ble_eq_true rfl) rfl (fun v g hg => k v g hg)

set_option maxRecDepth 20000 in
theorem bX10_chance_51 {X : zX} {dep bc bs : Nat} (n : Int) (c : Int) (w : Int) (u : Int) (f : Int) {h : zH} {Q : Nat → zH → List zV → Prop}
    (k1 : zW mX10_chance X dep bc bs 239 57 [(7, xL f), (0, xI n), (2, xI c), (4, xI w), (5, xL u)] [xL f, xL u] h Q) : zW mX10_chance X dep bc bs 239 51 [(0, xI n), (2, xI c), (4, xI w), (5, xL u)] [xL f] h Q := by
  refine z_lstore (lv' := [(7, xL f), (0, xI n), (2, xI c), (4, xI w), (5, xL u)]) dX10_chance_51 (by decide) rfl ?_
  refine z_lload 4 dX10_chance_53 rfl ?_
  refine z_lload 0 dX10_chance_55 rfl ?_
  exact k1

set_option maxRecDepth 20000 in
theorem rX10_chance_57 {X : zX} {dep bc bs : Nat} (w : Int) (u : Int) (f : Int) {h : zH} {Q : Nat → zH → List zV → Prop} {P : Int → zH → Prop}
    (hZ : zW mX10_commonDivisor X (dep - 1) 0 0 239 0 (zar 0 [xL u, xL f]) [] h (zQL P)) (hdep : 1 ≤ dep)
    (k : ∀ (v : Int) (g : zH), P v g → zW mX10_chance X dep bc bs 239 60 [(4, xI w), (5, xL u), (7, xL f)] [xL v] g Q) : zW mX10_chance X dep bc bs 239 57 [(4, xI w), (5, xL u), (7, xL f)] [xL f, xL u] h Q :=
  z_invSQL (as := [xL u, xL f]) (st := []) (ra := [xL f, xL u]) hZ dX10_chance_57 nX10_commonDivisor zb_1106 zb_1107 zb_82 (by omega) (Nat.le_of_ble_eq_true rfl) (Nat.le_of_ble_eq_true rfl) rfl (fun v g hg => k v g hg)

set_option maxRecDepth 20000 in
theorem bX10_chance_60 {X : zX} {dep bc bs : Nat} (w : Int) (u : Int) (f : Int) (y : Int) {h : zH} {Q : Nat → zH → List zV → Prop} (hy : 0 < y) (s1 : 0 < (zcmp y 0) → ¬ w = 0 → y ≠ 0) (s2 : 0 < (zcmp y 0) → w = 0 → y ≠ 0)
    (k1 : 0 < (zcmp y 0) → ¬ w = 0 → Q 239 h [xL (zldiv f y)])
    (k2 : 0 < (zcmp y 0) → w = 0 → Q 239 h [xL (zldiv u y)])
    (k3 : ¬ (0 < (zcmp y 0)) → Q 239 h [xL 0]) : zW mX10_chance X dep bc bs 239 60 [(4, xI w), (5, xL u), (7, xL f)] [xL y] h Q := by
  refine z_lstore (lv' := [(9, xL y), (4, xI w), (5, xL u), (7, xL f)]) dX10_chance_60 (by decide) rfl ?_
  refine z_lload 0 dX10_chance_62 rfl ?_
  refine z_lconst dX10_chance_64 ?_
  show zW mX10_chance X dep bc bs 239 65 [(9, xL y), (4, xI w), (5, xL u), (7, xL f)] [xL 0, xL y] h Q
  refine z_lcmp dX10_chance_65 ?_
  refine z_if_gt (tgt := 71) dX10_chance_66 (by decide) (fun c1 => ?_) (fun c1 => ?_)
  ·
    refine z_iload 1 dX10_chance_71 rfl ?_
    refine z_if_ne (tgt := 84) dX10_chance_73 (by decide) (fun c2 => ?_) (fun c2 => ?_)
    ·
      refine z_lload 3 dX10_chance_84 rfl ?_
      refine z_lload 0 dX10_chance_86 rfl ?_
      refine z_ldiv dX10_chance_88 (s1 c1 c2) ?_
      exact z_lret dX10_chance_89 rfl (k1 c1 c2)
    ·
      refine z_lload 2 dX10_chance_76 rfl ?_
      refine z_lload 0 dX10_chance_78 rfl ?_
      refine z_ldiv dX10_chance_80 (s2 c1 c2) ?_
      refine z_goto (tgt := 89) dX10_chance_81 (by decide) ?_
      exact z_lret dX10_chance_89 rfl (k2 c1 c2)
  ·
    refine z_lconst dX10_chance_69 ?_
    show zW mX10_chance X dep bc bs 239 70 [(9, xL y), (4, xI w), (5, xL u), (7, xL f)] [xL 0] h Q
    exact z_lret dX10_chance_70 rfl (k3 c1)

set_option maxRecDepth 20000 in
theorem bX10_mixed_0 {X : zX} {dep bc bs : Nat} (l : Int) (c : Int) (a : Int) (b : Int) (w : Int) {h : zH} {Q : Nat → zH → List zV → Prop} (hn : h 0 12 ≤ 4) (hdep : 1 ≤ dep)
    (k1 : ¬ (0 ≤ l ∧ l < h 0 12) → Q 239 h [(9, 0)])
    (k2 : 0 ≤ l ∧ l < h 0 12 → c < 0 → Q 239 h [(9, 0)])
    (k3 : 0 ≤ l ∧ l < h 0 12 → ¬ (c < 0) → 52 < c → Q 239 h [(9, 0)])
    (k4 : 0 ≤ l ∧ l < h 0 12 → ¬ (c < 0) → ¬ (52 < c) → ¬ (0 ≤ a ∧ a < 52) → Q 239 h [(9, 0)])
    (k5 : 0 ≤ l ∧ l < h 0 12 → ¬ (c < 0) → ¬ (52 < c) → 0 ≤ a ∧ a < 52 → ¬ (0 ≤ b ∧ b < 52) → Q 239 h [(9, 0)])
    (k6 : 0 ≤ l ∧ l < h 0 12 → ¬ (c < 0) → ¬ (52 < c) → 0 ≤ a ∧ a < 52 → 0 ≤ b ∧ b < 52 → b < a → Q 239 h [(9, 0)])
    (k7 : 0 ≤ l ∧ l < h 0 12 → ¬ (c < 0) → ¬ (52 < c) → 0 ≤ a ∧ a < 52 → 0 ≤ b ∧ b < 52 → ¬ (b < a) → 0 ≤ w ∧ w ≤ 2 → zW mX10_mixed X dep bc bs 239 55 [(0, xR 0), (1, xI l), (2, xI c), (3, xI a), (4, xI b), (5, xI w)] [] h Q)
    (k8 : 0 ≤ l ∧ l < h 0 12 → ¬ (c < 0) → ¬ (52 < c) → 0 ≤ a ∧ a < 52 → 0 ≤ b ∧ b < 52 → ¬ (b < a) → ¬ (0 ≤ w ∧ w ≤ 2) → Q 239 h [(9, 0)]) : zW mX10_mixed X dep bc bs 239 0 [(0, xR 0), (1, xI l), (2, xI c), (3, xI a), (4, xI b), (5, xI w)] [] h Q := by
  refine z_aload_n 0 dX10_mixed_0 rfl ?_
  refine z_iload_n 1 dX10_mixed_1 rfl ?_
  refine z_invF (ci := 10) (N := 17) (as := [xI l]) (st := []) (ra := [xI l]) (dep' := dep - 1) (rs := [xI (zb (0 ≤ l ∧ l < h 0 12))]) (h' := h) (f_X10_isLot l (h := h) ) dX10_mixed_2 nX10_isLot zb_782 zb_784 zb_17 zb_82 (zOb.lit (by decide +kernel)) rfl (by omega) zne_I (Nat.le_of_ble_eq_true rfl) (Nat.le_of_ble_eq_true rfl) rfl ?_
  refine z_ifB_eq (C := 0 ≤ l ∧ l < h 0 12) (tgt := 47) dX10_mixed_5 (by decide) (fun c1 => ?_) (fun c1 => ?_)
  ·
    exact z_thr (by decide) dX10_mixed_47 (k1 c1)
  ·
    refine z_iload_n 2 dX10_mixed_8 rfl ?_
    refine z_if_lt (tgt := 47) dX10_mixed_9 (by decide) (fun c2 => ?_) (fun c2 => ?_)
    ·
      exact z_thr (by decide) dX10_mixed_47 (k2 c1 c2)
    ·
      refine z_iload_n 2 dX10_mixed_12 rfl ?_
      refine z_bipush dX10_mixed_13 (zi32_d rfl) (by decide) ?_
      refine z_icmp_gt (tgt := 47) dX10_mixed_15 (by decide) (fun c3 => ?_) (fun c3 => ?_)
      ·
        exact z_thr (by decide) dX10_mixed_47 (k3 c1 c2 c3)
      ·
        refine z_iload_n 3 dX10_mixed_18 rfl ?_
        refine z_invSF (as := [xI a]) (st := []) (ra := [xI a]) (dep' := dep - 1) (rs := [xI (zb (0 ≤ a ∧ a < 52))]) (h' := h) (f_X10_isWeek a (h := h) ) dX10_mixed_19 nX10_isWeek zb_563 zb_564 zb_82 (by omega) zne_I (Nat.le_of_ble_eq_true rfl) (Nat.le_of_ble_eq_true rfl) rfl ?_
        refine z_ifB_eq (C := 0 ≤ a ∧ a < 52) (tgt := 47) dX10_mixed_22 (by decide) (fun c4 => ?_) (fun c4 => ?_)
        ·
          exact z_thr (by decide) dX10_mixed_47 (k4 c1 c2 c3 c4)
        ·
          refine z_iload 4 dX10_mixed_25 rfl ?_
          refine z_invSF (as := [xI b]) (st := []) (ra := [xI b]) (dep' := dep - 1) (rs := [xI (zb (0 ≤ b ∧ b < 52))]) (h' := h) (f_X10_isWeek b (h := h) ) dX10_mixed_27 nX10_isWeek zb_563 zb_564 zb_82 (by omega) zne_I (Nat.le_of_ble_eq_true rfl) (Nat.le_of_ble_eq_true rfl) rfl ?_
          refine z_ifB_eq (C := 0 ≤ b ∧ b < 52) (tgt := 47) dX10_mixed_30 (by decide) (fun c5 => ?_) (fun c5 => ?_)
          ·
            exact z_thr (by decide) dX10_mixed_47 (k5 c1 c2 c3 c4 c5)
          ·
            refine z_iload_n 3 dX10_mixed_33 rfl ?_
            refine z_iload 4 dX10_mixed_34 rfl ?_
            refine z_icmp_gt (tgt := 47) dX10_mixed_36 (by decide) (fun c6 => ?_) (fun c6 => ?_)
            ·
              exact z_thr (by decide) dX10_mixed_47 (k6 c1 c2 c3 c4 c5 c6)
            ·
              refine z_iload 5 dX10_mixed_39 rfl ?_
              refine z_invSF (as := [xI w]) (st := []) (ra := [xI w]) (dep' := dep - 1) (rs := [xI (zb (0 ≤ w ∧ w ≤ 2))]) (h' := h) (f_X10_isWhat w (h := h) ) dX10_mixed_41 nX10_isWhat zb_1034 zb_1035 zb_82 (by omega) zne_I (Nat.le_of_ble_eq_true rfl) (Nat.le_of_ble_eq_true rfl) rfl ?_
              refine z_ifB_ne (C := 0 ≤ w ∧ w ≤ 2) (tgt := 55) dX10_mixed_44 (by decide) (fun c7 => ?_) (fun c7 => ?_)
              ·
                exact k7 c1 c2 c3 c4 c5 c6 c7
              ·
                exact z_thr (by decide) dX10_mixed_47 (k8 c1 c2 c3 c4 c5 c6 c7)

set_option maxRecDepth 20000 in
theorem bX10_mixed_55 {X : zX} {dep bc bs : Nat} (l : Int) (c : Int) (a : Int) (b : Int) (w : Int) {h : zH} {Q : Nat → zH → List zV → Prop} (hl : 0 ≤ l ∧ l < 4)
    (k1 : zW mX10_mixed X dep bc bs 239 68 [(0, xR 0), (1, xI l), (2, xI c), (3, xI a), (4, xI b), (5, xI w)] [xI b, xI a, xI c, xR ((113 + 14 * l) + 1)] h Q) : zW mX10_mixed X dep bc bs 239 55 [(0, xR 0), (1, xI l), (2, xI c), (3, xI a), (4, xI b), (5, xI w)] [] h Q := by
  refine z_aload_n 0 dX10_mixed_55 rfl ?_
  refine z_getS (v := 43) (k := 5) (kz := 5) pk10 dX10_mixed_56 (by decide) zb_462 rfl (zOb.lit (by decide +kernel)) rfl (by decide +kernel) ?_
  refine z_iload_n 1 dX10_mixed_59 rfl ?_
  refine z_aaldSR (v := (113 + 14 * l)) dX10_mixed_60 (zOb.lit (by decide +kernel)) hl.1 hl.2 (zRF_rolls hl.1 hl.2) ?_
  refine z_getS (v := ((113 + 14 * l) + 1)) (k := 1) (kz := 1) pk6 dX10_mixed_61 (by decide) zb_412 rfl (zRollO_rolls hl.1 hl.2).1 rfl (zRollO_rolls hl.1 hl.2).2.2.2.2.2.2.2.2.2.2.2.2.2.2.1 ?_
  refine z_iload_n 2 dX10_mixed_64 rfl ?_
  refine z_iload_n 3 dX10_mixed_65 rfl ?_
  refine z_iload 4 dX10_mixed_66 rfl ?_
  exact k1

set_option maxRecDepth 20000 in
theorem rX10_mixed_68 {X : zX} {dep bc bs : Nat} (l : Int) (c : Int) (a : Int) (b : Int) (w : Int) {h : zH} {Q : Nat → zH → List zV → Prop} {P : Int → zH → Prop} (hl : 0 ≤ l ∧ l < 4)
    (hZ : zW mX3_pickedAhead X (dep - 1) 0 0 239 0 (zar 0 [xR ((113 + 14 * l) + 1), xI c, xI a, xI b]) [] h (zQI P)) (hdep : 1 ≤ dep)
    (k : ∀ (v : Int) (g : zH), P v g → zW mX10_mixed X dep bc bs 239 71 [(0, xR 0), (1, xI l), (2, xI c), (3, xI a), (4, xI b), (5, xI w)] [xI v] g Q) : zW mX10_mixed X dep bc bs 239 68 [(0, xR 0), (1, xI l), (2, xI c), (3, xI a), (4, xI b), (5, xI w)] [xI b, xI a, xI c, xR ((113 + 14 * l) + 1)] h Q :=
  z_invQI (ci := 3) (N := 6) (as := [xI c, xI a, xI b]) (st := []) (ra := [xI b, xI a, xI c]) hZ dX10_mixed_68 nX3_pickedAhead zb_1096 zb_1097 zb_1098 zb_91 (zLotO_rolls hl.1 hl.2).1 rfl (by omega) (Nat.le_of_ble_eq_true rfl) (Nat.le_of_ble_eq_true rfl) rfl (fun v g hg => k v g hg)

set_option maxRecDepth 20000 in
theorem bX10_mixed_71 {X : zX} {dep bc bs : Nat} (l : Int) (c : Int) (a : Int) (b : Int) (w : Int) (f : Int) {h : zH} {Q : Nat → zH → List zV → Prop} (ha : 0 ≤ a ∧ a ≤ b ∧ b < 52)
    (k1 : ¬ w = 2 → zW mX10_mixed X dep bc bs 239 98 [(6, xI f), (0, xR 0), (1, xI l), (2, xI c), (3, xI a), (4, xI b), (5, xI w)] [xI w, xI f, xI c, xI ((b - a) + 1), xI 52] h Q)
    (k2 : w = 2 → Q 239 h [xL f]) : zW mX10_mixed X dep bc bs 239 71 [(0, xR 0), (1, xI l), (2, xI c), (3, xI a), (4, xI b), (5, xI w)] [xI f] h Q := by
  refine z_istore (lv' := [(6, xI f), (0, xR 0), (1, xI l), (2, xI c), (3, xI a), (4, xI b), (5, xI w)]) dX10_mixed_71 (by decide) rfl ?_
  refine z_iload 6 dX10_mixed_73 rfl ?_
  refine z_iconst dX10_mixed_75 (zi32_d rfl) ?_
  refine z_icmp_ne (tgt := 85) dX10_mixed_76 (by decide) (fun c1 => ?_) (fun c1 => ?_)
  ·
    refine z_bipush dX10_mixed_85 (zi32_d rfl) (by decide) ?_
    refine z_iload 5 dX10_mixed_87 rfl ?_
    refine z_iload_n 4 dX10_mixed_89 rfl ?_
    refine z_isubN dX10_mixed_90 (show -2147483648 ≤ b - a ∧ b - a < 2147483648 from ⟨by omega, by omega⟩).1 (show -2147483648 ≤ b - a ∧ b - a < 2147483648 from ⟨by omega, by omega⟩).2 ?_
    refine z_iconst dX10_mixed_91 (zi32_d rfl) ?_
    refine z_iaddN dX10_mixed_92 (show -2147483648 ≤ (b - a) + 1 ∧ (b - a) + 1 < 2147483648 from ⟨by omega, by omega⟩).1 (show -2147483648 ≤ (b - a) + 1 ∧ (b - a) + 1 < 2147483648 from ⟨by omega, by omega⟩).2 ?_
    refine z_iload_n 3 dX10_mixed_93 rfl ?_
    refine z_iload 0 dX10_mixed_94 rfl ?_
    refine z_iload 6 dX10_mixed_96 rfl ?_
    exact k1 c1
  ·
    refine z_iload 0 dX10_mixed_79 rfl ?_
    refine z_i2l dX10_mixed_81 ?_
    refine z_goto (tgt := 101) dX10_mixed_82 (by decide) ?_
    exact z_lret dX10_mixed_101 rfl (k2 c1)

set_option maxRecDepth 20000 in
theorem rX10_mixed_98 {X : zX} {dep bc bs : Nat} (l : Int) (c : Int) (a : Int) (b : Int) (w : Int) (f : Int) {h : zH} {Q : Nat → zH → List zV → Prop} {P : Int → zH → Prop}
    (hZ : zW mX10_chance X (dep - 1) 0 0 239 0 (zar 0 [xI 52, xI (b - a + 1), xI c, xI f, xI w]) [] h (zQL P)) (hdep : 1 ≤ dep)
    (k : ∀ (v : Int) (g : zH), P v g → zW mX10_mixed X dep bc bs 239 101 [(0, xR 0), (1, xI l), (2, xI c), (3, xI a), (4, xI b), (5, xI w), (6, xI f)] [xL v] g Q) : zW mX10_mixed X dep bc bs 239 98 [(0, xR 0), (1, xI l), (2, xI c), (3, xI a), (4, xI b), (5, xI w), (6, xI f)] [xI w, xI f, xI c, xI (b - a + 1), xI 52] h Q :=
  z_invSQL (as := [xI 52, xI (b - a + 1), xI c, xI f, xI w]) (st := []) (ra := [xI w, xI f, xI c, xI (b - a + 1), xI 52]) hZ dX10_mixed_98 nX10_chance zb_1100 zb_1101 zb_82 (by omega) (Nat.le_of_ble_eq_true rfl) (Nat.le_of_ble_eq_true rfl) rfl (fun v g hg => k v g hg)

set_option maxRecDepth 20000 in
theorem bX10_mixed_101 {X : zX} {dep bc bs : Nat} (l : Int) (c : Int) (a : Int) (b : Int) (w : Int) (f : Int) (y : Int) {h : zH} {Q : Nat → zH → List zV → Prop}
    (k1 : Q 239 h [xL y]) : zW mX10_mixed X dep bc bs 239 101 [(0, xR 0), (1, xI l), (2, xI c), (3, xI a), (4, xI b), (5, xI w), (6, xI f)] [xL y] h Q := by
  exact z_lret dX10_mixed_101 rfl (k1)

set_option maxRecDepth 20000 in
theorem bX10_doubt_0 {X : zX} {dep bc bs : Nat} (d : Int) (t : Int) (w : Int) {h : zH} {Q : Nat → zH → List zV → Prop} (he : 0 ≤ h 11 2 ∧ h 11 2 ≤ 60) (hdep : 2 ≤ dep)
    (k1 : ¬ (0 ≤ d ∧ d < 8) → Q 239 h [(9, 0)])
    (k2 : 0 ≤ d ∧ d < 8 → 0 ≤ w ∧ w ≤ 2 → zW mX10_doubt X dep bc bs 239 47 [(0, xR 0), (1, xI d), (3, xI w), (4, xI (zknown h 11 t)), (5, xI 0), (6, xI 0), (7, xI 0), (8, xI 0)] [] h Q)
    (k3 : 0 ≤ d ∧ d < 8 → ¬ (0 ≤ w ∧ w ≤ 2) → Q 239 h [(9, 0)]) : zW mX10_doubt X dep bc bs 239 0 [(0, xR 0), (1, xI d), (2, xI t), (3, xI w)] [] h Q := by
  refine z_iload_n 1 dX10_doubt_0 rfl ?_
  refine z_invSF (as := [xI d]) (st := []) (ra := [xI d]) (dep' := dep - 1) (rs := [xI (zb (0 ≤ d ∧ d < 8))]) (h' := h) (f_X10_isDoctor d (h := h) ) dX10_doubt_1 nX10_isDoctor zb_581 zb_582 zb_82 (by omega) zne_I (Nat.le_of_ble_eq_true rfl) (Nat.le_of_ble_eq_true rfl) rfl ?_
  refine z_ifB_eq (C := 0 ≤ d ∧ d < 8) (tgt := 14) dX10_doubt_4 (by decide) (fun c1 => ?_) (fun c1 => ?_)
  ·
    exact z_thr (by decide) dX10_doubt_14 (k1 c1)
  ·
    refine z_iload_n 3 dX10_doubt_7 rfl ?_
    refine z_invSF (as := [xI w]) (st := []) (ra := [xI w]) (dep' := dep - 1) (rs := [xI (zb (0 ≤ w ∧ w ≤ 2))]) (h' := h) (f_X10_isWhat w (h := h) ) dX10_doubt_8 nX10_isWhat zb_1034 zb_1035 zb_82 (by omega) zne_I (Nat.le_of_ble_eq_true rfl) (Nat.le_of_ble_eq_true rfl) rfl ?_
    refine z_ifB_ne (C := 0 ≤ w ∧ w ≤ 2) (tgt := 22) dX10_doubt_11 (by decide) (fun c2 => ?_) (fun c2 => ?_)
    ·
      refine z_aload_n 0 dX10_doubt_22 rfl ?_
      refine z_getS (v := 3) (k := 1) (kz := 1) pk10 dX10_doubt_23 (by decide) zb_458 rfl (zOb.lit (by decide +kernel)) rfl (by decide +kernel) ?_
      refine z_getS (v := 11) (k := 6) (kz := 6) pk4 dX10_doubt_26 (by decide) zb_168 rfl (zOb.lit (by decide +kernel)) rfl (by decide +kernel) ?_
      refine z_iload_n 2 dX10_doubt_29 rfl ?_
      refine z_invF (ci := 2) (N := 3) (as := [xI t]) (st := []) (ra := [xI t]) (dep' := dep - 1) (rs := [xI (zknown h 11 t)]) (h' := h) (f_X2_knownBy 11 t (h := h) zLedO_11 (show 0 ≤ h 11 2 ∧ h 11 2 ≤ 240 ∧ 6 * h 11 2 ≤ 360 ∧ 360 ≤ 1440 from ⟨by omega, by omega, by omega, by omega⟩) (by omega)) dX10_doubt_30 nX2_knownBy zb_1116 zb_826 zb_827 zb_85 (zOb.lit (by decide +kernel)) rfl (by omega) zne_I (Nat.le_of_ble_eq_true rfl) (Nat.le_of_ble_eq_true rfl) rfl ?_
      refine z_istore (lv' := [(4, xI (zknown h 11 t)), (0, xR 0), (1, xI d), (2, xI t), (3, xI w)]) dX10_doubt_33 (by decide) rfl ?_
      refine z_iconst dX10_doubt_35 (zi32_d rfl) ?_
      refine z_istore (lv' := [(5, xI 0), (4, xI (zknown h 11 t)), (0, xR 0), (1, xI d), (2, xI t), (3, xI w)]) dX10_doubt_36 (by decide) rfl ?_
      refine z_iconst dX10_doubt_38 (zi32_d rfl) ?_
      refine z_istore (lv' := [(6, xI 0), (5, xI 0), (4, xI (zknown h 11 t)), (0, xR 0), (1, xI d), (2, xI t), (3, xI w)]) dX10_doubt_39 (by decide) rfl ?_
      refine z_iconst dX10_doubt_41 (zi32_d rfl) ?_
      refine z_istore (lv' := [(7, xI 0), (6, xI 0), (5, xI 0), (4, xI (zknown h 11 t)), (0, xR 0), (1, xI d), (2, xI t), (3, xI w)]) dX10_doubt_42 (by decide) rfl ?_
      refine z_iconst dX10_doubt_44 (zi32_d rfl) ?_
      refine z_istore (lv' := [(8, xI 0), (7, xI 0), (6, xI 0), (5, xI 0), (4, xI (zknown h 11 t)), (0, xR 0), (1, xI d), (2, xI t), (3, xI w)]) dX10_doubt_45 (by decide) rfl ?_
      refine zW.sub (lv' := [(0, xR 0), (1, xI d), (3, xI w), (4, xI (zknown h 11 t)), (5, xI 0), (6, xI 0), (7, xI 0), (8, xI 0)]) [5, 6, 8, 4, 3, 2, 1, 0] rfl ?_
      exact k2 c1 c2
    ·
      exact z_thr (by decide) dX10_doubt_14 (k3 c1 c2)

set_option maxRecDepth 20000 in
theorem bX10_doubt_47 {X : zX} {dep bc bs : Nat} (d : Int) (w : Int) (n : Int) (m : Int) (c : Int) (x : Int) (r : Int) {h : zH} {Q : Nat → zH → List zV → Prop} (he : 0 ≤ h 11 2 ∧ h 11 2 ≤ 60) (hn : 0 ≤ r ∧ r ≤ 60 ∧ 0 ≤ m ∧ m ≤ 60 ∧ 0 ≤ c ∧ c ≤ 60 ∧ 0 ≤ x ∧ x ≤ 60) (hdep : 1 ≤ dep)
    (k1 : n ≤ r → zW mX10_doubt X dep bc bs 239 158 [(3, xI w), (4, xI n), (5, xI m), (6, xI c), (7, xI x)] [] h Q)
    (k2 : ¬ (n ≤ r) → zW mX10_doubt X dep bc bs 239 102 [(0, xR 0), (1, xI d), (3, xI w), (4, xI n), (5, xI m), (6, xI c), (7, xI x), (8, xI r), (9, xI (if (zget h 11 r 3) ≤ 4 then 0 else 1 : Int)), (10, xI (if (zget h 11 r 2) = d then 1 else 0 : Int))] [] h Q) : zW mX10_doubt X dep bc bs 239 47 [(0, xR 0), (1, xI d), (3, xI w), (4, xI n), (5, xI m), (6, xI c), (7, xI x), (8, xI r)] [] h Q := by
  refine z_iload 7 dX10_doubt_47 rfl ?_
  refine z_iload 3 dX10_doubt_49 rfl ?_
  refine z_icmp_ge (tgt := 158) dX10_doubt_51 (by decide) (fun c1 => ?_) (fun c1 => ?_)
  ·
    refine zW.sub (lv' := [(3, xI w), (4, xI n), (5, xI m), (6, xI c), (7, xI x)]) [2, 3, 4, 5, 6] rfl ?_
    exact k1 c1
  ·
    refine z_aload_n 0 dX10_doubt_54 rfl ?_
    refine z_getS (v := 3) (k := 1) (kz := 1) pk10 dX10_doubt_55 (by decide) zb_458 rfl (zOb.lit (by decide +kernel)) rfl (by decide +kernel) ?_
    refine z_getS (v := 11) (k := 6) (kz := 6) pk4 dX10_doubt_58 (by decide) zb_168 rfl (zOb.lit (by decide +kernel)) rfl (by decide +kernel) ?_
    refine z_iload 7 dX10_doubt_61 rfl ?_
    refine z_iconst dX10_doubt_63 (zi32_d rfl) ?_
    refine z_invF (ci := 2) (N := 3) (as := [xI r, xI 3]) (st := []) (ra := [xI 3, xI r]) (dep' := dep - 1) (rs := [xI (zget h 11 r 3)]) (h' := h) (f_X2_get 11 r 3 (h := h) zLedO_11 (show 0 ≤ h 11 2 ∧ h 11 2 ≤ 240 ∧ 6 * h 11 2 ≤ 360 ∧ 360 ≤ 1440 from ⟨by omega, by omega, by omega, by omega⟩)) dX10_doubt_64 nX2_get zb_1117 zb_830 zb_831 zb_85 (zOb.lit (by decide +kernel)) rfl (by omega) zne_I (Nat.le_of_ble_eq_true rfl) (Nat.le_of_ble_eq_true rfl) rfl ?_
    refine z_iconst dX10_doubt_67 (zi32_d rfl) ?_
    suffices KJ : zW mX10_doubt X dep bc bs 239 76 [(0, xR 0), (1, xI d), (3, xI w), (4, xI n), (5, xI m), (6, xI c), (7, xI x), (8, xI r)] [xI (if (zget h 11 r 3) ≤ 4 then 0 else 1 : Int)] h Q by
      refine z_icmp_le (tgt := 75) dX10_doubt_68 (by decide) (fun j1 => ?_) (fun j1 => ?_)
      ·
        refine z_iconst dX10_doubt_75 (zi32_d rfl) ?_
        rw [if_pos j1] at KJ
        exact KJ
      ·
        refine z_iconst dX10_doubt_71 (zi32_d rfl) ?_
        refine z_goto (tgt := 76) dX10_doubt_72 (by decide) ?_
        rw [if_neg j1] at KJ
        exact KJ
    refine z_istore (lv' := [(9, xI (if (zget h 11 r 3) ≤ 4 then 0 else 1 : Int)), (0, xR 0), (1, xI d), (3, xI w), (4, xI n), (5, xI m), (6, xI c), (7, xI x), (8, xI r)]) dX10_doubt_76 (by decide) rfl ?_
    refine z_aload_n 1 dX10_doubt_78 rfl ?_
    refine z_getS (v := 3) (k := 1) (kz := 1) pk10 dX10_doubt_79 (by decide) zb_458 rfl (zOb.lit (by decide +kernel)) rfl (by decide +kernel) ?_
    refine z_getS (v := 11) (k := 6) (kz := 6) pk4 dX10_doubt_82 (by decide) zb_168 rfl (zOb.lit (by decide +kernel)) rfl (by decide +kernel) ?_
    refine z_iload 8 dX10_doubt_85 rfl ?_
    refine z_iconst dX10_doubt_87 (zi32_d rfl) ?_
    refine z_invF (ci := 2) (N := 3) (as := [xI r, xI 2]) (st := []) (ra := [xI 2, xI r]) (dep' := dep - 1) (rs := [xI (zget h 11 r 2)]) (h' := h) (f_X2_get 11 r 2 (h := h) zLedO_11 (show 0 ≤ h 11 2 ∧ h 11 2 ≤ 240 ∧ 6 * h 11 2 ≤ 360 ∧ 360 ≤ 1440 from ⟨by omega, by omega, by omega, by omega⟩)) dX10_doubt_88 nX2_get zb_1117 zb_830 zb_831 zb_85 (zOb.lit (by decide +kernel)) rfl (by omega) zne_I (Nat.le_of_ble_eq_true rfl) (Nat.le_of_ble_eq_true rfl) rfl ?_
    refine z_iload_n 2 dX10_doubt_91 rfl ?_
    suffices KJ : zW mX10_doubt X dep bc bs 239 100 [(9, xI (if (zget h 11 r 3) ≤ 4 then 0 else 1 : Int)), (0, xR 0), (1, xI d), (3, xI w), (4, xI n), (5, xI m), (6, xI c), (7, xI x), (8, xI r)] [xI (if (zget h 11 r 2) = d then 1 else 0 : Int)] h Q by
      refine z_icmp_ne (tgt := 99) dX10_doubt_92 (by decide) (fun j1 => ?_) (fun j1 => ?_)
      ·
        refine z_iconst dX10_doubt_99 (zi32_d rfl) ?_
        rw [if_neg j1] at KJ
        exact KJ
      ·
        refine z_iconst dX10_doubt_95 (zi32_d rfl) ?_
        refine z_goto (tgt := 100) dX10_doubt_96 (by decide) ?_
        rw [if_pos j1] at KJ
        exact KJ
    refine z_istore (lv' := [(10, xI (if (zget h 11 r 2) = d then 1 else 0 : Int)), (9, xI (if (zget h 11 r 3) ≤ 4 then 0 else 1 : Int)), (0, xR 0), (1, xI d), (3, xI w), (4, xI n), (5, xI m), (6, xI c), (7, xI x), (8, xI r)]) dX10_doubt_100 (by decide) rfl ?_
    refine zW.sub (lv' := [(0, xR 0), (1, xI d), (3, xI w), (4, xI n), (5, xI m), (6, xI c), (7, xI x), (8, xI r), (9, xI (if (zget h 11 r 3) ≤ 4 then 0 else 1 : Int)), (10, xI (if (zget h 11 r 2) = d then 1 else 0 : Int))]) [2, 3, 4, 5, 6, 7, 8, 9, 1, 0] rfl ?_
    exact k2 c1

set_option maxRecDepth 20000 in
theorem bX10_doubt_102 {X : zX} {dep bc bs : Nat} (d : Int) (w : Int) (n : Int) (m : Int) (c : Int) (x : Int) (r : Int) (a : Int) (b : Int) {h : zH} {Q : Nat → zH → List zV → Prop} (hn : 0 ≤ r ∧ r ≤ 60 ∧ 0 ≤ m ∧ m ≤ 60 ∧ 0 ≤ c ∧ c ≤ 60 ∧ 0 ≤ x ∧ x ≤ 60)
    (k1 : zW mX10_doubt X dep bc bs 239 117 [(0, xR 0), (1, xI d), (3, xI w), (4, xI n), (5, xI (m + (if a = 0 then 0 else 1 : Int))), (6, xI c), (7, xI x), (8, xI r), (9, xI a), (10, xI b)] [] h Q) : zW mX10_doubt X dep bc bs 239 102 [(0, xR 0), (1, xI d), (3, xI w), (4, xI n), (5, xI m), (6, xI c), (7, xI x), (8, xI r), (9, xI a), (10, xI b)] [] h Q := by
  refine z_iload 4 dX10_doubt_102 rfl ?_
  refine z_iload 8 dX10_doubt_104 rfl ?_
  suffices KJ : zW mX10_doubt X dep bc bs 239 114 [(0, xR 0), (1, xI d), (3, xI w), (4, xI n), (5, xI m), (6, xI c), (7, xI x), (8, xI r), (9, xI a), (10, xI b)] [xI (if a = 0 then 0 else 1 : Int), xI m] h Q by
    refine z_if_eq (tgt := 113) dX10_doubt_106 (by decide) (fun j1 => ?_) (fun j1 => ?_)
    ·
      refine z_iconst dX10_doubt_113 (zi32_d rfl) ?_
      rw [if_pos j1] at KJ
      exact KJ
    ·
      refine z_iconst dX10_doubt_109 (zi32_d rfl) ?_
      refine z_goto (tgt := 114) dX10_doubt_110 (by decide) ?_
      rw [if_neg j1] at KJ
      exact KJ
  refine z_iaddN dX10_doubt_114 (show -2147483648 ≤ m + (if a = 0 then 0 else 1 : Int) ∧ m + (if a = 0 then 0 else 1 : Int) < 2147483648 from ⟨by omega, by omega⟩).1 (show -2147483648 ≤ m + (if a = 0 then 0 else 1 : Int) ∧ m + (if a = 0 then 0 else 1 : Int) < 2147483648 from ⟨by omega, by omega⟩).2 ?_
  refine z_istore (lv' := [(5, xI (m + (if a = 0 then 0 else 1 : Int))), (0, xR 0), (1, xI d), (3, xI w), (4, xI n), (6, xI c), (7, xI x), (8, xI r), (9, xI a), (10, xI b)]) dX10_doubt_115 (by decide) rfl ?_
  refine zW.sub (lv' := [(0, xR 0), (1, xI d), (3, xI w), (4, xI n), (5, xI (m + (if a = 0 then 0 else 1 : Int))), (6, xI c), (7, xI x), (8, xI r), (9, xI a), (10, xI b)]) [1, 2, 3, 4, 0, 5, 6, 7, 8, 9] rfl ?_
  exact k1

set_option maxRecDepth 20000 in
theorem bX10_doubt_117 {X : zX} {dep bc bs : Nat} (d : Int) (w : Int) (n : Int) (m : Int) (c : Int) (x : Int) (r : Int) (a : Int) (b : Int) {h : zH} {Q : Nat → zH → List zV → Prop} (hn : 0 ≤ r ∧ r ≤ 60 ∧ 0 ≤ m ∧ m ≤ 60 ∧ 0 ≤ c ∧ c ≤ 60 ∧ 0 ≤ x ∧ x ≤ 60)
    (k1 : zW mX10_doubt X dep bc bs 239 132 [(0, xR 0), (1, xI d), (3, xI w), (4, xI n), (5, xI m), (6, xI (c + (if b = 0 then 0 else 1 : Int))), (7, xI x), (8, xI r), (9, xI a), (10, xI b)] [] h Q) : zW mX10_doubt X dep bc bs 239 117 [(0, xR 0), (1, xI d), (3, xI w), (4, xI n), (5, xI m), (6, xI c), (7, xI x), (8, xI r), (9, xI a), (10, xI b)] [] h Q := by
  refine z_iload 5 dX10_doubt_117 rfl ?_
  refine z_iload 9 dX10_doubt_119 rfl ?_
  suffices KJ : zW mX10_doubt X dep bc bs 239 129 [(0, xR 0), (1, xI d), (3, xI w), (4, xI n), (5, xI m), (6, xI c), (7, xI x), (8, xI r), (9, xI a), (10, xI b)] [xI (if b = 0 then 0 else 1 : Int), xI c] h Q by
    refine z_if_eq (tgt := 128) dX10_doubt_121 (by decide) (fun j1 => ?_) (fun j1 => ?_)
    ·
      refine z_iconst dX10_doubt_128 (zi32_d rfl) ?_
      rw [if_pos j1] at KJ
      exact KJ
    ·
      refine z_iconst dX10_doubt_124 (zi32_d rfl) ?_
      refine z_goto (tgt := 129) dX10_doubt_125 (by decide) ?_
      rw [if_neg j1] at KJ
      exact KJ
  refine z_iaddN dX10_doubt_129 (show -2147483648 ≤ c + (if b = 0 then 0 else 1 : Int) ∧ c + (if b = 0 then 0 else 1 : Int) < 2147483648 from ⟨by omega, by omega⟩).1 (show -2147483648 ≤ c + (if b = 0 then 0 else 1 : Int) ∧ c + (if b = 0 then 0 else 1 : Int) < 2147483648 from ⟨by omega, by omega⟩).2 ?_
  refine z_istore (lv' := [(6, xI (c + (if b = 0 then 0 else 1 : Int))), (0, xR 0), (1, xI d), (3, xI w), (4, xI n), (5, xI m), (7, xI x), (8, xI r), (9, xI a), (10, xI b)]) dX10_doubt_130 (by decide) rfl ?_
  refine zW.sub (lv' := [(0, xR 0), (1, xI d), (3, xI w), (4, xI n), (5, xI m), (6, xI (c + (if b = 0 then 0 else 1 : Int))), (7, xI x), (8, xI r), (9, xI a), (10, xI b)]) [1, 2, 3, 4, 5, 0, 6, 7, 8, 9] rfl ?_
  exact k1

set_option maxRecDepth 20000 in
theorem bX10_doubt_132 {X : zX} {dep bc bs : Nat} (d : Int) (w : Int) (n : Int) (m : Int) (c : Int) (x : Int) (r : Int) (a : Int) (b : Int) {h : zH} {Q : Nat → zH → List zV → Prop} (hn : 0 ≤ r ∧ r ≤ 60 ∧ 0 ≤ m ∧ m ≤ 60 ∧ 0 ≤ c ∧ c ≤ 60 ∧ 0 ≤ x ∧ x ≤ 60)
    (k1 : zW mX10_doubt X dep bc bs 239 47 [(0, xR 0), (1, xI d), (3, xI w), (4, xI n), (5, xI m), (6, xI c), (7, xI (x + (if a = 0 then 0 else if b = 0 then 0 else 1 : Int))), (8, xI (r + 1))] [] h Q) : zW mX10_doubt X dep bc bs 239 132 [(0, xR 0), (1, xI d), (3, xI w), (4, xI n), (5, xI m), (6, xI c), (7, xI x), (8, xI r), (9, xI a), (10, xI b)] [] h Q := by
  refine z_iload 6 dX10_doubt_132 rfl ?_
  refine z_iload 8 dX10_doubt_134 rfl ?_
  suffices KJ : zW mX10_doubt X dep bc bs 239 149 [(0, xR 0), (1, xI d), (3, xI w), (4, xI n), (5, xI m), (6, xI c), (7, xI x), (8, xI r), (9, xI a), (10, xI b)] [xI (if a = 0 then 0 else if b = 0 then 0 else 1 : Int), xI x] h Q by
    refine z_if_eq (tgt := 148) dX10_doubt_136 (by decide) (fun j1 => ?_) (fun j1 => ?_)
    ·
      refine z_iconst dX10_doubt_148 (zi32_d rfl) ?_
      rw [if_pos j1] at KJ
      exact KJ
    ·
      refine z_iload 9 dX10_doubt_139 rfl ?_
      refine z_if_eq (tgt := 148) dX10_doubt_141 (by decide) (fun j2 => ?_) (fun j2 => ?_)
      ·
        refine z_iconst dX10_doubt_148 (zi32_d rfl) ?_
        rw [if_neg j1] at KJ
        rw [if_pos j2] at KJ
        exact KJ
      ·
        refine z_iconst dX10_doubt_144 (zi32_d rfl) ?_
        refine z_goto (tgt := 149) dX10_doubt_145 (by decide) ?_
        rw [if_neg j1] at KJ
        rw [if_neg j2] at KJ
        exact KJ
  refine z_iaddN dX10_doubt_149 (show -2147483648 ≤ x + (if a = 0 then 0 else if b = 0 then 0 else 1 : Int) ∧ x + (if a = 0 then 0 else if b = 0 then 0 else 1 : Int) < 2147483648 from ⟨by omega, by omega⟩).1 (show -2147483648 ≤ x + (if a = 0 then 0 else if b = 0 then 0 else 1 : Int) ∧ x + (if a = 0 then 0 else if b = 0 then 0 else 1 : Int) < 2147483648 from ⟨by omega, by omega⟩).2 ?_
  refine z_istore (lv' := [(7, xI (x + (if a = 0 then 0 else if b = 0 then 0 else 1 : Int))), (0, xR 0), (1, xI d), (3, xI w), (4, xI n), (5, xI m), (6, xI c), (8, xI r), (9, xI a), (10, xI b)]) dX10_doubt_150 (by decide) rfl ?_
  refine z_iincN (lv' := [(8, xI (r + 1)), (7, xI (x + (if a = 0 then 0 else if b = 0 then 0 else 1 : Int))), (0, xR 0), (1, xI d), (3, xI w), (4, xI n), (5, xI m), (6, xI c), (9, xI a), (10, xI b)]) 7 dX10_doubt_152 rfl (by decide) rfl (show -2147483648 ≤ r + 1 ∧ r + 1 < 2147483648 from ⟨by omega, by omega⟩).1 (show -2147483648 ≤ r + 1 ∧ r + 1 < 2147483648 from ⟨by omega, by omega⟩).2 ?_
  refine z_goto (tgt := 47) dX10_doubt_155 (by decide) ?_
  refine zW.sub (lv' := [(0, xR 0), (1, xI d), (3, xI w), (4, xI n), (5, xI m), (6, xI c), (7, xI (x + (if a = 0 then 0 else if b = 0 then 0 else 1 : Int))), (8, xI (r + 1))]) [2, 3, 4, 5, 6, 7, 1, 0] rfl ?_
  exact k1

set_option maxRecDepth 20000 in
theorem bX10_doubt_158 {X : zX} {dep bc bs : Nat} (w : Int) (n : Int) (m : Int) (c : Int) (x : Int) {h : zH} {Q : Nat → zH → List zV → Prop}
    (k1 : ¬ w = 2 → zW mX10_doubt X dep bc bs 239 178 [(3, xI w), (4, xI n), (5, xI m), (6, xI c), (7, xI x)] [xI w, xI x, xI c, xI m, xI n] h Q)
    (k2 : w = 2 → Q 239 h [xL x]) : zW mX10_doubt X dep bc bs 239 158 [(3, xI w), (4, xI n), (5, xI m), (6, xI c), (7, xI x)] [] h Q := by
  refine z_iload_n 0 dX10_doubt_158 rfl ?_
  refine z_iconst dX10_doubt_159 (zi32_d rfl) ?_
  refine z_icmp_ne (tgt := 169) dX10_doubt_160 (by decide) (fun c1 => ?_) (fun c1 => ?_)
  ·
    refine z_iload 1 dX10_doubt_169 rfl ?_
    refine z_iload 2 dX10_doubt_171 rfl ?_
    refine z_iload 3 dX10_doubt_173 rfl ?_
    refine z_iload 4 dX10_doubt_175 rfl ?_
    refine z_iload_n 0 dX10_doubt_177 rfl ?_
    exact k1 c1
  ·
    refine z_iload 4 dX10_doubt_163 rfl ?_
    refine z_i2l dX10_doubt_165 ?_
    refine z_goto (tgt := 181) dX10_doubt_166 (by decide) ?_
    exact z_lret dX10_doubt_181 rfl (k2 c1)

set_option maxRecDepth 20000 in
theorem rX10_doubt_178 {X : zX} {dep bc bs : Nat} (w : Int) (n : Int) (m : Int) (c : Int) (x : Int) {h : zH} {Q : Nat → zH → List zV → Prop} {P : Int → zH → Prop}
    (hZ : zW mX10_chance X (dep - 1) 0 0 239 0 (zar 0 [xI n, xI m, xI c, xI x, xI w]) [] h (zQL P)) (hdep : 1 ≤ dep)
    (k : ∀ (v : Int) (g : zH), P v g → zW mX10_doubt X dep bc bs 239 181 [(3, xI w), (4, xI n), (5, xI m), (6, xI c), (7, xI x)] [xL v] g Q) : zW mX10_doubt X dep bc bs 239 178 [(3, xI w), (4, xI n), (5, xI m), (6, xI c), (7, xI x)] [xI w, xI x, xI c, xI m, xI n] h Q :=
  z_invSQL (as := [xI n, xI m, xI c, xI x, xI w]) (st := []) (ra := [xI w, xI x, xI c, xI m, xI n]) hZ dX10_doubt_178 nX10_chance zb_1100 zb_1101 zb_82 (by omega) (Nat.le_of_ble_eq_true rfl) (Nat.le_of_ble_eq_true rfl) rfl (fun v g hg => k v g hg)

set_option maxRecDepth 20000 in
theorem bX10_doubt_181 {X : zX} {dep bc bs : Nat} (w : Int) (n : Int) (m : Int) (c : Int) (x : Int) (y : Int) {h : zH} {Q : Nat → zH → List zV → Prop}
    (k1 : Q 239 h [xL y]) : zW mX10_doubt X dep bc bs 239 181 [(3, xI w), (4, xI n), (5, xI m), (6, xI c), (7, xI x)] [xL y] h Q := by
  exact z_lret dX10_doubt_181 rfl (k1)

theorem zldiv_eq {a b : Int} (h0 : 0 ≤ a) (h1 : a < 9223372036854775808) (h2 : 0 < b) (h3 : b < 9223372036854775808) : zldiv a b = a / b := by
  unfold zldiv
  rw [Int64.toInt_div_of_ne_right _ _ (fun e => by
    have := congrArg Int64.toInt e
    rw [Int64.toInt_ofInt_of_le (by omega) h3] at this
    rw [show Int64.toInt (-1) = -1 from rfl] at this
    omega), Int64.toInt_ofInt_of_le (by omega) h1, Int64.toInt_ofInt_of_le (by omega) h3, Int.tdiv_eq_ediv_of_nonneg h0]
theorem zlrem_eq {a b : Int} (h0 : 0 ≤ a) (h1 : a < 9223372036854775808) (h2 : 0 < b) (h3 : b < 9223372036854775808) : zlrem a b = a % b := by
  have q0 : 0 ≤ a / b := Int.ediv_nonneg h0 (by omega)
  have q1 : a / b ≤ a := Int.ediv_le_self b h0
  have e1 : Int64.ofInt a / Int64.ofInt b = Int64.ofInt (a / b) := by
    rw [← Int64.toInt_inj, Int64.toInt_ofInt_of_le (by omega) (by omega)]
    exact zldiv_eq h0 h1 h2 h3
  have r0 := Int.emod_nonneg a (show b ≠ 0 by omega)
  have r1 := Int.emod_lt_of_pos a h2
  have e2 : a - a / b * b = a % b := by
    have := Int.emod_def a b
    rw [Int.mul_comm] at this
    omega
  unfold zlrem
  rw [e1, ← Int64.ofInt_mul, ← Int64.ofInt_sub, e2, Int64.toInt_ofInt_of_le (by omega) (by omega)]
theorem zcmp_z {y : Int} : (zcmp y 0 = 0 ↔ y = 0) ∧ (0 < zcmp y 0 ↔ 0 < y) := by
  unfold zcmp
  by_cases c : 0 < y
  · rw [if_pos c]
    omega
  · rw [if_neg c]
    by_cases d : y = 0
    · rw [if_pos d]
      omega
    · rw [if_neg d]
      omega
/-- how many ways to take k out of n -/
def zC (n : Nat) : Nat → Nat
  | 0 => 1
  | i + 1 => zC n i * (n - i) / (i + 1)
theorem zC_ok0 : ∀ n : Nat, n < 61 → ∀ i : Nat, i < 61 → (n < i ∨ 0 < zC n i) ∧ zC n i * (n - i) < 9223372036854775808 ∧ zC n i ≤ zC n (n / 2) := by decide +kernel
theorem zC_ok1 : ∀ m : Nat, m < 61 → ∀ p : Nat, p < 61 → 60 < m + p ∨ zC m (m / 2) * zC p (p / 2) * 61 < 9223372036854775808 := by decide +kernel
def zCi (n k : Int) : Int := if k < 0 ∨ n < k then 0 else (zC n.toNat k.toNat : Nat)
theorem zCi_in {n : Int} (h1 : n ≤ 60) (k : Int) : 0 ≤ zCi n k ∧ zCi n k ≤ (zC n.toNat (n.toNat / 2) : Nat) := by
  unfold zCi
  split
  · omega
  · have := (zC_ok0 n.toNat (by omega) k.toNat (by omega)).2.2
    omega
theorem zCi_pos {n k : Int} (h1 : n ≤ 60) (h2 : 0 ≤ k) (h3 : k ≤ n) : 0 < zCi n k := by
  unfold zCi
  rw [if_neg (by omega)]
  have := (zC_ok0 n.toNat (by omega) k.toNat (by omega)).1
  omega
theorem zC_step {n : Int} (h1 : n ≤ 60) {j : Nat} (h3 : (j : Int) < n) : zldiv (w64 ((zC n.toNat j : Nat) * (n - j))) (j + 1) = (zC n.toNat (j + 1) : Nat) := by
  have o := (zC_ok0 n.toNat (by omega) j (by omega)).2.1
  have e : ((zC n.toNat j : Nat) : Int) * (n - j) = ((zC n.toNat j * (n.toNat - j) : Nat) : Int) := by
    rw [Int.natCast_mul, show ((n.toNat - j : Nat) : Int) = n - j by omega]
  rw [e, w64_id (by omega) (by omega), zldiv_eq (by omega) (by omega) (by omega) (by omega)]
  rfl
theorem zC_big {n : Int} (h1 : n ≤ 60) (j : Nat) (h2 : (j : Int) ≤ n) : ((zC n.toNat j : Nat) : Int) < 9223372036854775808 := by
  have a := (zC_ok0 n.toNat (by omega) j (by omega)).2.2
  have b := zC_ok1 n.toNat (by omega) 0 (by omega)
  have c : zC 0 (0 / 2) = 1 := rfl
  rw [c] at b
  omega
theorem l_X10_ways {X : zX} {dep : Nat} (n c : Int) {h : zH} (hn : 0 ≤ n ∧ n ≤ 60) (hc : 0 ≤ c ∧ c ≤ n) : ∀ (k j : Nat), (j : Int) + k = c → zW mX10_ways X dep 0 0 239 16 [(0, xI n), (1, xI c), (2, xL (zC n.toNat j : Nat)), (4, xI j)] [] h (zF h [xL (zC n.toNat c.toNat : Nat)]) := by
  intro k
  induction k with
  | zero =>
    intro j hk
    refine bX10_ways_16 n c _ j hn (by omega) (fun q => ?_) (fun q => absurd (by omega) q)
    rw [show c.toNat = j by omega]
    exact ⟨rfl, rfl, rfl⟩
  | succ k ih =>
    intro j hk
    refine bX10_ways_16 n c _ j hn (by omega) (fun q => absurd q (by omega)) (fun q => ?_)
    rw [zC_step hn.2 (by omega)]
    exact ih (j + 1) (by omega)
theorem f_X10_ways {X : zX} {dep : Nat} (n c : Int) {h : zH} (hn : 0 ≤ n ∧ n ≤ 60) : zW mX10_ways X dep 0 0 239 0 (zar 0 [xI n, xI c]) [] h (zF h [xL (zCi n c)]) := by
  refine bX10_ways_0 n c (fun q => ?_) (fun q q2 => ?_) (fun q q2 => ?_)
  · refine ⟨rfl, rfl, ?_⟩
    unfold zCi
    rw [if_pos (Or.inl q)]
  · have go := l_X10_ways (X := X) (dep := dep) n c (h := h) hn (by omega) c.toNat 0 (by omega)
    unfold zCi
    rw [if_neg (by omega)]
    exact go
  · refine ⟨rfl, rfl, ?_⟩
    unfold zCi
    rw [if_pos (Or.inr (by omega))]
theorem zgcd_s (a b : Nat) : Nat.gcd a b = Nat.gcd b (a % b) := by
  rw [Nat.gcd_comm a b, Nat.gcd_rec b a, Nat.gcd_comm]
theorem l_X10_commonDivisor {X : zX} {dep : Nat} {h : zH} : ∀ (f a b i : Nat), b < 2 ^ f → i + 2 * f + 1 ≤ 1000 → a < 9223372036854775808 → b < 9223372036854775808 →
    zW mX10_commonDivisor X dep 0 0 239 9 [(4, xL (a : Int)), (6, xL (b : Int)), (8, xI (i : Int))] [] h (zF h [xL (Nat.gcd a b : Nat)])
  | 0, a, b, i, hb, hi, a9, b9 => by
    have b0 : b = 0 := by
      have : (2 : Nat) ^ 0 = 1 := rfl
      omega
    subst b0
    refine bX10_commonDivisor_9 a _ i (by omega) (fun _ q => absurd (zcmp_z.1.mpr rfl) q) (fun q => absurd q (by omega)) (fun _ _ => ?_) (fun _ q => absurd (zcmp_z.1.mpr rfl) q)
    rw [Nat.gcd_zero_right]
    exact ⟨rfl, rfl, rfl⟩
  | f + 1, a, b, i, hb, hi, a9, b9 => by
    refine bX10_commonDivisor_9 a b i (by omega) (fun _ q z => q (zcmp_z.1.mpr z)) (fun q => absurd q (by omega)) (fun _ q => ?_) (fun _ q => ?_)
    · have : b = 0 := by have := zcmp_z.1.mp q; omega
      subst this
      rw [Nat.gcd_zero_right]
      exact ⟨rfl, rfl, rfl⟩
    · have b0 : 0 < b := by
        rcases Nat.eq_zero_or_pos b with z | z
        · subst z; exact absurd (zcmp_z.1.mpr rfl) q
        · exact z
      have r1 := Nat.mod_lt a b0
      rw [zlrem_eq (by omega) (by omega) (by omega) (by omega), zgcd_s a b, show (a : Int) % (b : Int) = ((a % b : Nat) : Int) from rfl]
      refine bX10_commonDivisor_9 b _ (i + 1) (by omega) (fun _ q z => q (zcmp_z.1.mpr z)) (fun q => absurd q (by omega)) (fun _ q => ?_) (fun _ q => ?_)
      · have z : a % b = 0 := by have := zcmp_z.1.mp q; omega
        rw [z, Nat.gcd_zero_right]
        exact ⟨rfl, rfl, rfl⟩
      · have r0 : 0 < a % b := by
          rcases Nat.eq_zero_or_pos (a % b) with z | z
          · rw [z] at q; exact absurd (zcmp_z.1.mpr rfl) q
          · exact z
        have r2 := Nat.mod_lt b r0
        have r3 : b % (a % b) + a % b ≤ b := by
          have d := Nat.div_add_mod b (a % b)
          have e : 0 < b / (a % b) := Nat.div_pos (by omega) r0
          have m := Nat.le_mul_of_pos_right (a % b) e
          omega
        have p : (2 : Nat) ^ (f + 1) = 2 * 2 ^ f := by rw [Nat.pow_succ, Nat.mul_comm]
        rw [zlrem_eq (by omega) (by omega) (by omega) (by omega), zgcd_s b (a % b), show (b : Int) % ((a % b : Nat) : Int) = ((b % (a % b) : Nat) : Int) from rfl, show (i : Int) + 1 + 1 = ((i + 2 : Nat) : Int) by omega]
        exact l_X10_commonDivisor f (a % b) (b % (a % b)) (i + 2) (by omega) (by omega) (by omega) (by omega)
theorem f_X10_commonDivisor {X : zX} {dep : Nat} (a b : Nat) {h : zH} (a9 : a < 9223372036854775808) (b9 : b < 9223372036854775808) : zW mX10_commonDivisor X dep 0 0 239 0 (zar 0 [xL a, xL b]) [] h (zF h [xL (Nat.gcd a b : Nat)]) :=
  bX10_commonDivisor_0 a b (l_X10_commonDivisor 64 a b 0 (Nat.lt_trans b9 (by decide)) (by omega) a9 b9)
/-- the upper number, not yet shortened -/
def zus (m p k x : Int) : Nat → Int
  | 0 => 0
  | r + 1 => zus m p k x r + zCi m (x + r) * zCi p (k - (x + r))
theorem zus_in {m p : Int} (hm : 0 ≤ m) (hp : 0 ≤ p) (hs : m + p ≤ 60) (k x : Int) : ∃ B : Nat, B * 61 < 9223372036854775808 ∧ (∀ i j : Int, 0 ≤ zCi m i * zCi p j ∧ zCi m i * zCi p j ≤ B) ∧ ∀ r : Nat, 0 ≤ zus m p k x r ∧ zus m p k x r ≤ r * B := by
  have o := zC_ok1 m.toNat (by omega) p.toNat (by omega)
  refine ⟨zC m.toNat (m.toNat / 2) * zC p.toNat (p.toNat / 2), by omega, ?_⟩
  have key : ∀ i j : Int, 0 ≤ zCi m i * zCi p j ∧ zCi m i * zCi p j ≤ ((zC m.toNat (m.toNat / 2) * zC p.toNat (p.toNat / 2) : Nat) : Int) := by
    intro i j
    have a := zCi_in (n := m) (by omega) i
    have b := zCi_in (n := p) (by omega) j
    refine ⟨Int.mul_nonneg a.1 b.1, ?_⟩
    rw [Int.natCast_mul]
    exact Int.mul_le_mul a.2 b.2 b.1 (by omega)
  refine ⟨key, fun r => ?_⟩
  induction r with
  | zero => exact ⟨Int.le_refl _, by unfold zus; omega⟩
  | succ r ih =>
    have a := key (x + r) (k - (x + r))
    have e : ((r + 1 : Nat) : Int) * ((zC m.toNat (m.toNat / 2) * zC p.toNat (p.toNat / 2) : Nat) : Int) = (r : Int) * ((zC m.toNat (m.toNat / 2) * zC p.toNat (p.toNat / 2) : Nat) : Int) + ((zC m.toNat (m.toNat / 2) * zC p.toNat (p.toNat / 2) : Nat) : Int) := by
      rw [Int.natCast_succ, Int.add_mul, Int.one_mul]
    show 0 ≤ zus m p k x r + zCi m (x + r) * zCi p (k - (x + r)) ∧ zus m p k x r + zCi m (x + r) * zCi p (k - (x + r)) ≤ _
    rw [e]
    omega
theorem zus_more {m p k x : Int} {r : Nat} (hr : m < x + r) : ∀ q : Nat, zus m p k x (r + q) = zus m p k x r
  | 0 => rfl
  | q + 1 => by
    show zus m p k x (r + q) + zCi m (x + ((r + q : Nat) : Int)) * zCi p (k - (x + ((r + q : Nat) : Int))) = zus m p k x r
    rw [zus_more hr q, show zCi m (x + ((r + q : Nat) : Int)) = 0 from if_pos (Or.inr (by omega)), Int.zero_mul, Int.add_zero]
/-- the chance: its upper number (w 0) or its lower one -/
def zchU (n m k x : Int) : Nat := (zus m (n - m) k x (k + 1 - x).toNat).toNat
def zch (n m k x w : Int) : Int := if w = 0 then ((zchU n m k x / Nat.gcd (zchU n m k x) (zCi n k).toNat : Nat) : Int) else (((zCi n k).toNat / Nat.gcd (zchU n m k x) (zCi n k).toNat : Nat) : Int)
theorem zfL {d : zMd} {X : zX} {dep n pc : Nat} {lv : List (Nat × zV)} {st : List zV} {h h' : zH} {v : Int} (a : zW d X dep 0 0 n pc lv st h (zF h' [xL v])) : zW d X dep 0 0 n pc lv st h (zQL (fun f g => f = v ∧ h' = g)) :=
  a.weaken (fun _ _ _ q => ⟨q.1, _, q.2.2, rfl, q.2.1.symm⟩)
theorem zfI {d : zMd} {X : zX} {dep n pc : Nat} {lv : List (Nat × zV)} {st : List zV} {h h' : zH} {v : Int} (a : zW d X dep 0 0 n pc lv st h (zF h' [xI v])) : zW d X dep 0 0 n pc lv st h (zQI (fun f g => f = v ∧ h' = g)) :=
  a.weaken (fun _ _ _ q => ⟨q.1, _, q.2.2, rfl, q.2.1.symm⟩)
theorem l_X10_chance_46 {X : zX} {dep : Nat} (n m c x w : Int) {h : zH} (hn : 0 ≤ m ∧ m ≤ n ∧ n ≤ 60 ∧ 0 ≤ c ∧ c ≤ n) (hx : 0 ≤ x) (hdep : 1 ≤ dep) : zW mX10_chance X dep 0 0 239 46 [(0, xI n), (2, xI c), (4, xI w), (5, xL (zus m (n - m) c x (c + 1 - x).toNat))] [] h (zF h [xL (zch n m c x w)]) := by
  obtain ⟨B, B1, B2, B3⟩ := zus_in (m := m) (p := n - m) (by omega) (by omega) (by omega) c x
  have u := B3 (c + 1 - x).toNat
  have ub : ((c + 1 - x).toNat : Int) * (B : Int) ≤ 61 * B := Int.mul_le_mul_of_nonneg_right (by omega) (by omega)
  have d0 := zCi_pos (n := n) (k := c) (by omega) (by omega) (by omega)
  have d1 : zCi n c < 9223372036854775808 := by
    have := zC_big (n := n) (by omega) c.toNat (by omega)
    unfold zCi
    rw [if_neg (by omega)]
    exact this
  have eU : ((zchU n m c x : Nat) : Int) = zus m (n - m) c x (c + 1 - x).toNat := by unfold zchU; omega
  have eD : (((zCi n c).toNat : Nat) : Int) = zCi n c := by omega
  have gp : 0 < Nat.gcd (zchU n m c x) (zCi n c).toNat := Nat.gcd_pos_of_pos_right _ (by omega)
  have gle := Nat.le_of_dvd (by omega) (Nat.gcd_dvd_right (zchU n m c x) (zCi n c).toNat)
  refine bX10_chance_46 n c w _ ?_
  refine rX10_chance_48 n c w _ (zfL (f_X10_ways n c (by omega))) hdep (fun f g hf => ?_)
  obtain ⟨rfl, rfl⟩ := hf
  refine bX10_chance_51 n c w _ _ ?_
  refine zW.sub (lv' := [(4, xI w), (5, xL (zus m (n - m) c x (c + 1 - x).toNat)), (7, xL (zCi n c))]) [3, 4, 0] rfl ?_
  have cd := f_X10_commonDivisor (X := X) (dep := dep - 1) (zchU n m c x) (zCi n c).toNat (h := h) (by omega) (by omega)
  rw [eU, eD] at cd
  refine rX10_chance_57 w _ _ (zfL cd) hdep (fun f g hf => ?_)
  obtain ⟨rfl, rfl⟩ := hf
  refine bX10_chance_60 w _ _ _ (by omega) (fun _ _ => by omega) (fun _ _ => by omega) (fun _ q2 => ?_) (fun _ q2 => ?_) (fun q => absurd (zcmp_z.2.mpr (by omega)) q)
  · refine ⟨rfl, rfl, ?_⟩
    unfold zch
    rw [if_neg q2, zldiv_eq (by omega) (by omega) (by omega) (by omega), ← eD]
    rfl
  · refine ⟨rfl, rfl, ?_⟩
    unfold zch
    rw [if_pos q2, zldiv_eq (by omega) (by omega) (by omega) (by omega), ← eU]
    rfl
theorem l_X10_chance_6 {X : zX} {dep : Nat} (n m c x w : Int) {h : zH} (hn : 0 ≤ m ∧ m ≤ n ∧ n ≤ 60 ∧ 0 ≤ c ∧ c ≤ n) (hx : 0 ≤ x) (hdep : 1 ≤ dep) :
    ∀ (k j : Nat), j + k = (c + 1 - x).toNat → zW mX10_chance X dep 0 0 239 6 [(0, xI n), (1, xI m), (2, xI c), (4, xI w), (5, xL (zus m (n - m) c x j)), (7, xI (x + j))] [] h (zF h [xL (zch n m c x w)]) := by
  have fin := l_X10_chance_46 (X := X) (dep := dep) n m c x w (h := h) hn hx hdep
  obtain ⟨B, B1, B2, B3⟩ := zus_in (m := m) (p := n - m) (by omega) (by omega) (by omega) c x
  intro k
  induction k with
  | zero =>
    intro j hk
    have ej : j = (c + 1 - x).toNat := by omega
    refine bX10_chance_6 n m c w _ _ (by omega) (by omega) (fun q => ?_) (fun q q2 => ?_) (fun q => absurd (by omega) q)
    · rw [← ej] at fin; exact fin
    · rw [← ej] at fin; exact fin
  | succ k ih =>
    intro j hk
    refine bX10_chance_6 n m c w _ _ (by omega) (by omega) (fun q => absurd q (by omega)) (fun q q2 => ?_) (fun q q2 => ?_)
    · have e := zus_more (m := m) (p := n - m) (k := c) (x := x) (r := j) (by omega) (k + 1)
      rw [hk] at e
      rw [e] at fin
      exact fin
    · refine rX10_chance_23 n m c w _ _ (zfL (f_X10_ways m _ (by omega))) hdep (fun f g hf => ?_)
      obtain ⟨rfl, rfl⟩ := hf
      refine bX10_chance_26 n m c w _ _ _ (by omega) (by omega) ?_
      refine rX10_chance_33 n m c w _ _ _ (zfL (f_X10_ways (n - m) _ (by omega))) hdep (fun f g hf => ?_)
      obtain ⟨rfl, rfl⟩ := hf
      refine bX10_chance_36 n m c w _ _ _ _ (by omega) (by omega) ?_
      have p := B2 (x + j) (c - (x + j))
      have u := B3 (j + 1)
      have ub : ((j + 1 : Nat) : Int) * (B : Int) ≤ 61 * B := Int.mul_le_mul_of_nonneg_right (by omega) (by omega)
      have es : zus m (n - m) c x (j + 1) = zus m (n - m) c x j + zCi m (x + j) * zCi (n - m) (c - (x + j)) := rfl
      rw [w64_id (x := zCi m (x + j) * zCi (n - m) (c - (x + j))) (by omega) (by omega), ← es, w64_id (by omega) (by omega)]
      have go := ih (j + 1) (by omega)
      rw [show x + ((j + 1 : Nat) : Int) = x + (j : Int) + 1 by omega] at go
      exact go
theorem f_X10_chance {X : zX} {dep : Nat} (n m c x w : Int) {h : zH} (hn : 0 ≤ m ∧ m ≤ n ∧ n ≤ 60 ∧ 0 ≤ c ∧ c ≤ n) (hx : 0 ≤ x) (hdep : 1 ≤ dep) : zW mX10_chance X dep 0 0 239 0 (zar 0 [xI n, xI m, xI c, xI x, xI w]) [] h (zF h [xL (zch n m c x w)]) := by
  refine bX10_chance_0 n m c x w ?_
  have go := l_X10_chance_6 (X := X) (dep := dep) n m c x w (h := h) hn hx hdep (c + 1 - x).toNat 0 (by omega)
  rw [show x + ((0 : Nat) : Int) = x by omega] at go
  exact go
abbrev zMxC (h : zH) (l k a b w : Int) : Prop := (0 ≤ l ∧ l < h 0 12) ∧ (0 ≤ k ∧ k ≤ 52) ∧ (0 ≤ a ∧ a < 52) ∧ (a ≤ b ∧ b < 52) ∧ 0 ≤ w ∧ w ≤ 2
def zMxV (h : zH) (l k a b w : Int) : Int := if w = 2 then zpa h (113 + 14 * l + 1) k a (b + 1 - a).toNat else zch 52 (b - a + 1) k (zpa h (113 + 14 * l + 1) k a (b + 1 - a).toNat) w
theorem f_X10_mixed {X : zX} {dep : Nat} (l c a b w : Int) {h : zH} (hn : 0 ≤ h 0 12 ∧ h 0 12 ≤ 4) (hdep : 2 ≤ dep) : zW mX10_mixed X dep 0 0 239 0 (zar 0 [xR 0, xI l, xI c, xI a, xI b, xI w]) [] h
    (fun n1 g rs => n1 = 239 ∧ g = h ∧ (zMxC h l c a b w ∧ rs = [xL (zMxV h l c a b w)] ∨ ¬ zMxC h l c a b w ∧ rs = [(9, 0)])) := by
  refine bX10_mixed_0 l c a b w hn.2 (by omega) (fun q => ?_) (fun q q2 => ?_) (fun q q2 q3 => ?_) (fun q q2 q3 q4 => ?_) (fun q q2 q3 q4 q5 => ?_) (fun q q2 q3 q4 q5 q6 => ?_) (fun q q2 q3 q4 q5 q6 q7 => ?_) (fun q q2 q3 q4 q5 q6 q7 => ?_)
  · exact ⟨rfl, rfl, Or.inr ⟨fun z => q z.1, rfl⟩⟩
  · exact ⟨rfl, rfl, Or.inr ⟨fun z => by omega, rfl⟩⟩
  · exact ⟨rfl, rfl, Or.inr ⟨fun z => by omega, rfl⟩⟩
  · exact ⟨rfl, rfl, Or.inr ⟨fun z => by omega, rfl⟩⟩
  · exact ⟨rfl, rfl, Or.inr ⟨fun z => by omega, rfl⟩⟩
  · exact ⟨rfl, rfl, Or.inr ⟨fun z => by omega, rfl⟩⟩
  · have ok : zMxC h l c a b w := ⟨q, by omega, by omega, by omega, q7⟩
    refine bX10_mixed_55 l c a b w (by omega) ?_
    refine rX10_mixed_68 l c a b w (by omega) (zfI (f_X3_pickedAhead _ c a b (zLotO_rolls (by omega) (by omega)) (by omega) (by omega) (by omega))) (by omega) (fun f g hf => ?_)
    obtain ⟨rfl, rfl⟩ := hf
    refine bX10_mixed_71 l c a b w _ (by omega) (fun q8 => ?_) (fun q8 => ?_)
    · refine zW.sub (lv' := [(0, xR 0), (1, xI l), (2, xI c), (3, xI a), (4, xI b), (5, xI w), (6, xI (zpa h (113 + 14 * l + 1) c a (b + 1 - a).toNat))]) [1, 2, 3, 4, 5, 6, 0] rfl ?_
      refine rX10_mixed_98 l c a b w _ (zfL (f_X10_chance 52 (b - a + 1) c _ w (by omega) (zpa_in _ _ _ _ _).1 (by omega))) (by omega) (fun f g hf => ?_)
      obtain ⟨rfl, rfl⟩ := hf
      refine bX10_mixed_101 l c a b w _ _ ?_
      refine ⟨rfl, rfl, Or.inl ⟨ok, ?_⟩⟩
      unfold zMxV
      rw [if_neg q8]
    · refine ⟨rfl, rfl, Or.inl ⟨ok, ?_⟩⟩
      unfold zMxV
      rw [if_pos q8]
  · exact ⟨rfl, rfl, Or.inr ⟨fun z => by omega, rfl⟩⟩
abbrev zDoC (d w : Int) : Prop := (0 ≤ d ∧ d < 8) ∧ 0 ≤ w ∧ w ≤ 2
noncomputable def zDoV (h : zH) (d t w : Int) : Int := if w = 2 then zcnt (fun r => 4 < zget h 11 r 3 ∧ zget h 11 r 2 = d) (zknown h 11 t).toNat else
  zch (zknown h 11 t) (zcnt (fun r => 4 < zget h 11 r 3) (zknown h 11 t).toNat) (zcnt (fun r => zget h 11 r 2 = d) (zknown h 11 t).toNat) (zcnt (fun r => 4 < zget h 11 r 3 ∧ zget h 11 r 2 = d) (zknown h 11 t).toNat) w
theorem l_X10_doubt {X : zX} {dep : Nat} {Q : Nat → zH → List zV → Prop} (d w n : Int) {h : zH} (he : 0 ≤ h 11 2 ∧ h 11 2 ≤ 60) (hn : 0 ≤ n ∧ n ≤ 60) (hdep : 1 ≤ dep)
    (kx : zW mX10_doubt X dep 0 0 239 158 [(3, xI w), (4, xI n), (5, xI (zcnt (fun r => 4 < zget h 11 r 3) n.toNat)), (6, xI (zcnt (fun r => zget h 11 r 2 = d) n.toNat)), (7, xI (zcnt (fun r => 4 < zget h 11 r 3 ∧ zget h 11 r 2 = d) n.toNat))] [] h Q) :
    ∀ (k j : Nat), (j : Int) + k = n → zW mX10_doubt X dep 0 0 239 47 [(0, xR 0), (1, xI d), (3, xI w), (4, xI n), (5, xI (zcnt (fun r => 4 < zget h 11 r 3) j)), (6, xI (zcnt (fun r => zget h 11 r 2 = d) j)), (7, xI (zcnt (fun r => 4 < zget h 11 r 3 ∧ zget h 11 r 2 = d) j)), (8, xI j)] [] h Q := by
  intro k
  induction k with
  | zero =>
    intro j hk
    have a1 := zcnt_in (fun r => 4 < zget h 11 r 3) j
    have a2 := zcnt_in (fun r => zget h 11 r 2 = d) j
    have a3 := zcnt_in (fun r => 4 < zget h 11 r 3 ∧ zget h 11 r 2 = d) j
    refine bX10_doubt_47 d w n _ _ _ j he (by omega) (by omega) (fun q => ?_) (fun q => absurd (by omega) q)
    rw [show n.toNat = j by omega] at kx
    exact kx
  | succ k ih =>
    intro j hk
    have a1 := zcnt_in (fun r => 4 < zget h 11 r 3) j
    have a2 := zcnt_in (fun r => zget h 11 r 2 = d) j
    have a3 := zcnt_in (fun r => 4 < zget h 11 r 3 ∧ zget h 11 r 2 = d) j
    have b1 := zb01 (4 < zget h 11 j 3)
    have b2 := zb01 (zget h 11 j 2 = d)
    have b3 := zb01 (4 < zget h 11 j 3 ∧ zget h 11 j 2 = d)
    refine bX10_doubt_47 d w n _ _ _ j he (by omega) (by omega) (fun q => absurd q (by omega)) (fun q => ?_)
    have go := ih (j + 1) (by omega)
    rw [zcnt_s, zcnt_s, zcnt_s] at go
    have e1 : (if (zget h 11 j 3) ≤ 4 then 0 else 1 : Int) = zb (4 < zget h 11 j 3) := by
      by_cases c : zget h 11 j 3 ≤ 4
      · rw [if_pos c, zb_f (by omega)]
      · rw [if_neg c, zb_t (by omega)]
    have e2 : (if (zget h 11 j 2) = d then 1 else 0 : Int) = zb (zget h 11 j 2 = d) := by
      by_cases c : zget h 11 j 2 = d
      · rw [if_pos c, zb_t c]
      · rw [if_neg c, zb_f c]
    have e3 : ∀ y : Int, y = 0 ∨ y = 1 → (if y = 0 then 0 else 1 : Int) = y := fun y hy => by
      rcases hy with z | z
      · rw [z]; rfl
      · rw [z]; rfl
    have e4 : (if zb (4 < zget h 11 j 3) = 0 then 0 else if zb (zget h 11 j 2 = d) = 0 then 0 else 1 : Int) = zb (4 < zget h 11 j 3 ∧ zget h 11 j 2 = d) := by
      by_cases c : 4 < zget h 11 j 3
      · rw [zb_t c, if_neg (by decide)]
        by_cases c2 : zget h 11 j 2 = d
        · rw [zb_t c2, if_neg (by decide), zb_t ⟨c, c2⟩]
        · rw [zb_f c2, if_pos rfl, zb_f (fun z => c2 z.2)]
      · rw [zb_f c, if_pos rfl, zb_f (fun z => c z.1)]
    rw [e1, e2]
    refine bX10_doubt_102 d w n _ _ _ j _ _ (by omega) ?_
    rw [e3 _ b1]
    refine bX10_doubt_117 d w n _ _ _ j _ _ (by omega) ?_
    rw [e3 _ b2]
    refine bX10_doubt_132 d w n _ _ _ j _ _ (by omega) ?_
    rw [e4]
    exact go
theorem f_X10_doubt {X : zX} {dep : Nat} (d t w : Int) {h : zH} (he : 0 ≤ h 11 2 ∧ h 11 2 ≤ 60) (hdep : 2 ≤ dep) : zW mX10_doubt X dep 0 0 239 0 (zar 0 [xR 0, xI d, xI t, xI w]) [] h
    (fun n1 g rs => n1 = 239 ∧ g = h ∧ (zDoC d w ∧ rs = [xL (zDoV h d t w)] ∨ ¬ zDoC d w ∧ rs = [(9, 0)])) := by
  have kn := zknown_le (h := h) (o := 11) (t := t) he.1
  refine bX10_doubt_0 d t w he (by omega) (fun q => ?_) (fun q q2 => ?_) (fun q q2 => ?_)
  · exact ⟨rfl, rfl, Or.inr ⟨fun z => q z.1, rfl⟩⟩
  · refine l_X10_doubt d w _ he (by omega) (by omega) ?_ (zknown h 11 t).toNat 0 (by omega)
    have a1 := zcnt_in (fun r => 4 < zget h 11 r 3) (zknown h 11 t).toNat
    have a2 := zcnt_in (fun r => zget h 11 r 2 = d) (zknown h 11 t).toNat
    have a3 := zcnt_in (fun r => 4 < zget h 11 r 3 ∧ zget h 11 r 2 = d) (zknown h 11 t).toNat
    refine bX10_doubt_158 w _ _ _ _ (fun q3 => ?_) (fun q3 => ?_)
    · refine rX10_doubt_178 w _ _ _ _ (zfL (f_X10_chance _ _ _ _ w (by omega) a3.1 (by omega))) (by omega) (fun f g hf => ?_)
      obtain ⟨rfl, rfl⟩ := hf
      refine bX10_doubt_181 w _ _ _ _ _ ?_
      refine ⟨rfl, rfl, Or.inl ⟨⟨q, q2⟩, ?_⟩⟩
      unfold zDoV
      rw [if_neg q3]
    · refine ⟨rfl, rfl, Or.inl ⟨⟨q, q2⟩, ?_⟩⟩
      unfold zDoV
      rw [if_pos q3]
  · exact ⟨rfl, rfl, Or.inr ⟨fun z => q2 z.2, rfl⟩⟩
