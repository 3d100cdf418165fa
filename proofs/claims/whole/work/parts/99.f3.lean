/-! the law's loop -/

theorem C_0 {nm : String} {X : zX} {dep : Nat} (hL : X.1 ≤ 3072) (hdep : 46 ≤ dep) : zCase nm X dep 184 := fun _ _ _ _ _ I h0 hi next => xW.more (Nat.le_add_right _ _) (Nat.le_add_right _ _) (L_0 I h0 hi hL hdep next)
theorem C_1 {nm : String} {X : zX} {dep : Nat} (hL : X.1 ≤ 3072) (hdep : 46 ≤ dep) : zCase nm X dep 257 := fun _ _ _ _ _ I h0 hi next => xW.more (Nat.le_add_right _ _) (Nat.le_add_right _ _) (L_1 I h0 hi hL hdep next)
theorem C_2 {nm : String} {X : zX} {dep : Nat} (hL : X.1 ≤ 3072) (hdep : 46 ≤ dep) : zCase nm X dep 282 := fun _ _ _ _ _ I h0 hi next => xW.more (Nat.le_add_right _ _) (Nat.le_add_right _ _) (L_2 I h0 hi hL hdep next)
theorem C_3 {nm : String} {X : zX} {dep : Nat} (hL : X.1 ≤ 3072) (hdep : 46 ≤ dep) : zCase nm X dep 307 := fun _ _ _ _ _ I h0 hi next => xW.more (Nat.le_add_right _ _) (Nat.le_add_right _ _) (L_3 I h0 hi hL hdep next)
theorem C_4 {nm : String} {X : zX} {dep : Nat} (hL : X.1 ≤ 3072) (hdep : 46 ≤ dep) : zCase nm X dep 344 := fun _ _ _ _ _ I h0 hi next => xW.more (Nat.le_add_right _ _) (Nat.le_add_right _ _) (L_4 I h0 hi hL hdep next)
theorem C_5 {nm : String} {X : zX} {dep : Nat} (hL : X.1 ≤ 3072) (hdep : 46 ≤ dep) : zCase nm X dep 393 := fun _ _ _ _ _ I h0 hi next => xW.more (Nat.le_add_right _ _) (Nat.le_add_right _ _) (L_5 I h0 hi hL hdep next)
theorem C_6 {nm : String} {X : zX} {dep : Nat} (hL : X.1 ≤ 3072) (hdep : 46 ≤ dep) : zCase nm X dep 466 := fun _ _ _ _ _ I h0 hi next => xW.more (Nat.le_add_right _ _) (Nat.le_add_right _ _) (L_6 I h0 hi hL hdep next)
theorem C_7 {nm : String} {X : zX} {dep : Nat} (hL : X.1 ≤ 3072) (hdep : 46 ≤ dep) : zCase nm X dep 515 := fun _ _ _ _ _ I h0 hi next => xW.more (Nat.le_add_right _ _) (Nat.le_add_right _ _) (L_7 I h0 hi hL hdep next)
theorem C_8 {nm : String} {X : zX} {dep : Nat} (hL : X.1 ≤ 3072) (hdep : 46 ≤ dep) : zCase nm X dep 552 := fun _ _ _ _ _ I h0 hi next => xW.more (Nat.le_add_right _ _) (Nat.le_add_right _ _) (L_8 I h0 hi hL hdep next)
theorem C_9 {nm : String} {X : zX} {dep : Nat} (hL : X.1 ≤ 3072) (hdep : 46 ≤ dep) : zCase nm X dep 577 := fun _ _ _ _ _ I h0 hi next => xW.more (Nat.le_add_right _ _) (Nat.le_add_right _ _) (L_9 I h0 hi hL hdep next)
theorem C_10 {nm : String} {X : zX} {dep : Nat} (hL : X.1 ≤ 3072) (hdep : 46 ≤ dep) : zCase nm X dep 590 := fun _ _ _ _ _ I h0 hi next => xW.more (Nat.le_add_right _ _) (Nat.le_add_right _ _) (L_10 I h0 hi hL hdep next)
theorem C_11 {nm : String} {X : zX} {dep : Nat} (hL : X.1 ≤ 3072) (hdep : 46 ≤ dep) : zCase nm X dep 627 := fun _ _ _ _ _ I h0 hi next => xW.more (Nat.le_add_right _ _) (Nat.le_add_right _ _) (L_11 I h0 hi hL hdep next)
theorem C_12 {nm : String} {X : zX} {dep : Nat} (hL : X.1 ≤ 3072) (hdep : 46 ≤ dep) : zCase nm X dep 652 := fun _ _ _ _ _ I h0 hi next => xW.more (Nat.le_add_right _ _) (Nat.le_add_right _ _) (L_12 I h0 hi hL hdep next)
theorem C_13 {nm : String} {X : zX} {dep : Nat} (hL : X.1 ≤ 3072) (hdep : 46 ≤ dep) : zCase nm X dep 677 := fun _ _ _ _ _ I h0 hi next => xW.more (Nat.le_add_right _ _) (Nat.le_add_right _ _) (L_13 I h0 hi hL hdep next)
theorem C_14 {nm : String} {X : zX} {dep : Nat} (hL : X.1 ≤ 3072) (hdep : 46 ≤ dep) : zCase nm X dep 726 := fun _ _ _ _ _ I h0 hi next => xW.more (Nat.le_add_right _ _) (Nat.le_add_right _ _) (L_14 I h0 hi hL hdep next)
theorem C_15 {nm : String} {X : zX} {dep : Nat} (hL : X.1 ≤ 3072) (hdep : 46 ≤ dep) : zCase nm X dep 763 := fun _ _ _ _ _ I h0 hi next => xW.more (Nat.le_add_right _ _) (Nat.le_add_right _ _) (L_15 I h0 hi hL hdep next)
theorem C_16 {nm : String} {X : zX} {dep : Nat} (hL : X.1 ≤ 3072) (hdep : 46 ≤ dep) : zCase nm X dep 812 := fun _ _ _ _ _ I h0 hi next => xW.more (Nat.le_add_right _ _) (Nat.le_add_right _ _) (L_16 I h0 hi hL hdep next)
theorem C_17 {nm : String} {X : zX} {dep : Nat} (hL : X.1 ≤ 3072) (hdep : 46 ≤ dep) : zCase nm X dep 849 := fun _ _ _ _ _ I h0 hi next => xW.more (Nat.le_add_right _ _) (Nat.le_add_right _ _) (L_17 I h0 hi hL hdep next)
theorem C_18 {nm : String} {X : zX} {dep : Nat} (hL : X.1 ≤ 3072) (hdep : 46 ≤ dep) : zCase nm X dep 898 := fun _ _ _ _ _ I h0 hi next => xW.more (Nat.le_add_right _ _) (Nat.le_add_right _ _) (L_18 I h0 hi hL hdep next)
theorem C_19 {nm : String} {X : zX} {dep : Nat} (hL : X.1 ≤ 3072) (hdep : 46 ≤ dep) : zCase nm X dep 911 := fun _ _ _ _ _ I h0 hi next => xW.more (Nat.le_add_right _ _) (Nat.le_add_right _ _) (L_19 I h0 hi hL hdep next)
theorem C_20 {nm : String} {X : zX} {dep : Nat} (hL : X.1 ≤ 3072) (hdep : 46 ≤ dep) : zCase nm X dep 960 := fun _ _ _ _ _ I h0 hi next => xW.more (Nat.le_add_right _ _) (Nat.le_add_right _ _) (L_20 I h0 hi hL hdep next)
theorem C_21 {nm : String} {X : zX} {dep : Nat} (hL : X.1 ≤ 3072) (hdep : 46 ≤ dep) : zCase nm X dep 1009 := fun _ _ _ _ _ I h0 hi next => xW.more (Nat.le_add_right _ _) (Nat.le_add_right _ _) (L_21 I h0 hi hL hdep next)
theorem C_22 {nm : String} {X : zX} {dep : Nat} (hL : X.1 ≤ 3072) (hdep : 46 ≤ dep) : zCase nm X dep 1046 := fun _ _ _ _ _ I h0 hi next => xW.more (Nat.le_add_right _ _) (Nat.le_add_right _ _) (L_22 I h0 hi hL hdep next)
theorem C_23 {nm : String} {X : zX} {dep : Nat} (hL : X.1 ≤ 3072) (hdep : 46 ≤ dep) : zCase nm X dep 1095 := fun _ _ _ _ _ I h0 hi next => xW.more (Nat.le_add_right _ _) (Nat.le_add_right _ _) (L_23 I h0 hi hL hdep next)
theorem C_24 {nm : String} {X : zX} {dep : Nat} (hL : X.1 ≤ 3072) (hdep : 46 ≤ dep) : zCase nm X dep 1144 := fun _ _ _ _ _ I h0 hi next => xW.more (Nat.le_add_right _ _) (Nat.le_add_right _ _) (L_24 I h0 hi hL hdep next)
theorem C_25 {nm : String} {X : zX} {dep : Nat} (hL : X.1 ≤ 3072) (hdep : 46 ≤ dep) : zCase nm X dep 1221 := fun _ _ _ _ _ I h0 hi next => xW.more (Nat.le_add_right _ _) (Nat.le_add_right _ _) (L_25 I h0 hi hL hdep next)
theorem C_26 {nm : String} {X : zX} {dep : Nat} (hL : X.1 ≤ 3072) (hdep : 46 ≤ dep) : zCase nm X dep 1246 := fun _ _ _ _ _ I h0 hi next => xW.more (Nat.le_add_right _ _) (Nat.le_add_right _ _) (L_26 I h0 hi hL hdep next)
theorem C_29 {nm : String} {X : zX} {dep : Nat} (hL : X.1 ≤ 3072) (hdep : 46 ≤ dep) : zCase nm X dep 1465 := fun _ _ _ _ _ I h0 hi next => xW.more (Nat.le_add_right _ _) (Nat.le_add_right _ _) (L_29 I h0 hi hL hdep next)
theorem C_30 {nm : String} {X : zX} {dep : Nat} (hL : X.1 ≤ 3072) (hdep : 46 ≤ dep) : zCase nm X dep 1502 := fun _ _ _ _ _ I h0 hi next => xW.more (Nat.le_add_right _ _) (Nat.le_add_right _ _) (L_30 I h0 hi hL hdep next)
theorem C_31 {nm : String} {X : zX} {dep : Nat} (hL : X.1 ≤ 3072) (hdep : 46 ≤ dep) : zCase nm X dep 1539 := fun _ _ _ _ _ I h0 hi next => xW.more (Nat.le_add_right _ _) (Nat.le_add_right _ _) (L_31 I h0 hi hL hdep next)
theorem z_pick {nm : String} {X : zX} {dep : Nat} (hL : X.1 ≤ 3072) (hdep : 46 ≤ dep) (H27 : zCase nm X dep 1283) (H28 : zCase nm X dep 1386) (x : Nat) (hx : x < 32) : ∃ off : Int, ∃ tgt : Nat, (#[144, 217, 242, 267, 304, 353, 426, 475, 512, 537, 550, 587, 612, 637, 686, 723, 772, 809, 858, 871, 920, 969, 1006, 1055, 1104, 1181, 1206, 1243, 1346, 1425, 1462, 1499] : Array Int)[x]? = some off ∧ (40 : Int) + off = (tgt : Int) ∧ zCase nm X dep tgt := by
  have hc : x = 0 ∨ x = 1 ∨ x = 2 ∨ x = 3 ∨ x = 4 ∨ x = 5 ∨ x = 6 ∨ x = 7 ∨ x = 8 ∨ x = 9 ∨ x = 10 ∨ x = 11 ∨ x = 12 ∨ x = 13 ∨ x = 14 ∨ x = 15 ∨ x = 16 ∨ x = 17 ∨ x = 18 ∨ x = 19 ∨ x = 20 ∨ x = 21 ∨ x = 22 ∨ x = 23 ∨ x = 24 ∨ x = 25 ∨ x = 26 ∨ x = 27 ∨ x = 28 ∨ x = 29 ∨ x = 30 ∨ x = 31 := by omega
  rcases hc with rfl | rfl | rfl | rfl | rfl | rfl | rfl | rfl | rfl | rfl | rfl | rfl | rfl | rfl | rfl | rfl | rfl | rfl | rfl | rfl | rfl | rfl | rfl | rfl | rfl | rfl | rfl | rfl | rfl | rfl | rfl | rfl
  · exact ⟨144, 184, rfl, rfl, C_0 hL hdep⟩
  · exact ⟨217, 257, rfl, rfl, C_1 hL hdep⟩
  · exact ⟨242, 282, rfl, rfl, C_2 hL hdep⟩
  · exact ⟨267, 307, rfl, rfl, C_3 hL hdep⟩
  · exact ⟨304, 344, rfl, rfl, C_4 hL hdep⟩
  · exact ⟨353, 393, rfl, rfl, C_5 hL hdep⟩
  · exact ⟨426, 466, rfl, rfl, C_6 hL hdep⟩
  · exact ⟨475, 515, rfl, rfl, C_7 hL hdep⟩
  · exact ⟨512, 552, rfl, rfl, C_8 hL hdep⟩
  · exact ⟨537, 577, rfl, rfl, C_9 hL hdep⟩
  · exact ⟨550, 590, rfl, rfl, C_10 hL hdep⟩
  · exact ⟨587, 627, rfl, rfl, C_11 hL hdep⟩
  · exact ⟨612, 652, rfl, rfl, C_12 hL hdep⟩
  · exact ⟨637, 677, rfl, rfl, C_13 hL hdep⟩
  · exact ⟨686, 726, rfl, rfl, C_14 hL hdep⟩
  · exact ⟨723, 763, rfl, rfl, C_15 hL hdep⟩
  · exact ⟨772, 812, rfl, rfl, C_16 hL hdep⟩
  · exact ⟨809, 849, rfl, rfl, C_17 hL hdep⟩
  · exact ⟨858, 898, rfl, rfl, C_18 hL hdep⟩
  · exact ⟨871, 911, rfl, rfl, C_19 hL hdep⟩
  · exact ⟨920, 960, rfl, rfl, C_20 hL hdep⟩
  · exact ⟨969, 1009, rfl, rfl, C_21 hL hdep⟩
  · exact ⟨1006, 1046, rfl, rfl, C_22 hL hdep⟩
  · exact ⟨1055, 1095, rfl, rfl, C_23 hL hdep⟩
  · exact ⟨1104, 1144, rfl, rfl, C_24 hL hdep⟩
  · exact ⟨1181, 1221, rfl, rfl, C_25 hL hdep⟩
  · exact ⟨1206, 1246, rfl, rfl, C_26 hL hdep⟩
  · exact ⟨1243, 1283, rfl, rfl, H27⟩
  · exact ⟨1346, 1386, rfl, rfl, H28⟩
  · exact ⟨1425, 1465, rfl, rfl, C_29 hL hdep⟩
  · exact ⟨1462, 1502, rfl, rfl, C_30 hL hdep⟩
  · exact ⟨1499, 1539, rfl, rfl, C_31 hL hdep⟩
/-- the law's loop -/
theorem z_loop {nm : String} {X : zX} {dep : Nat} (hL : X.1 ≤ 3072) (hdep : 46 ≤ dep) (H27 : zCase nm X dep 1283) (H28 : zCase nm X dep 1386) : ∀ (r : Nat) (i : Int) (h : zH), vI h → 0 ≤ i → i ≤ 3072 → (X.1 : Int) ≤ i + 6 * r → xW xA (mLw nm) X dep r (6 * r) 239 23 (zLp i) [] h (fun _ _ rs => rs = [xI 1]) := by
  have key : ∀ (bc bs : Nat) (i : Int) (h : zH), 0 ≤ i → i ≤ 3072 → ((X.1 : Int) - 6 < i → xW xA (mLw nm) X dep bc bs 239 1570 (zLp i) [] h (fun _ _ rs => rs = [xI 1])) → (i + 6 ≤ X.1 → xW xA (mLw nm) X dep bc bs 239 33 (zLp i) [] h (fun _ _ rs => rs = [xI 1])) → xW xA (mLw nm) X dep bc bs 239 23 (zLp i) [] h (fun _ _ rs => rs = [xI 1]) := by
    intro bc bs i h h0 h1 k1 k2
    refine x_iload (pc := 23) 0 dL_law_23 rfl ?_
    refine x_aload_n (pc := 25) 1 dL_law_25 rfl ?_
    refine x_slen (pc := 26) dL_law_26 (by omega) ?_
    refine x_bipush (pc := 27) dL_law_27 ⟨by decide, by decide⟩ (by decide) ?_
    refine x_isubN (pc := 29) dL_law_29 (by omega) (by omega) ?_
    exact x_icmp_gt (pc := 30) dL_law_30 (tgt := 1570) rfl k1 (fun c => k2 (by omega))
  have fin : ∀ (bc bs : Nat) (i : Int) (h : zH), xW xA (mLw nm) X dep bc bs 239 1570 (zLp i) [] h (fun _ _ rs => rs = [xI 1]) := by
    intro bc bs i h
    refine x_iconst (pc := 1570) dL_law_1570 ⟨by decide, by decide⟩ ?_
    exact x_zret (pc := 1571) dL_law_1571 rfl (Or.inr rfl) rfl
  intro r
  induction r with
  | zero => exact fun i h I h0 h1 hr => key _ _ i h h0 h1 (fun _ => fin _ _ i h) (fun c => absurd c (by omega))
  | succ r ih =>
    intro i h I h0 h1 hr
    refine key _ _ i h h0 h1 (fun _ => fin _ _ i h) (fun c => ?_)
    refine x_aload_n (pc := 33) 1 dL_law_33 rfl ?_
    refine x_iload (pc := 34) 0 dL_law_34 rfl ?_
    refine x_sld (pc := 36) dL_law_36 h0 (by omega) (by omega) ?_
    refine x_bipush (pc := 37) dL_law_37 ⟨by decide, by decide⟩ (by decide) ?_
    refine x_iand (pc := 39) dL_law_39 ?_
    have hz := zand_le (zsc X i) (c := 31) (by decide) (by decide)
    obtain ⟨off, tgt, ho, ht, hk⟩ := z_pick hL hdep H27 H28 (zand (zsc X i) 31).toNat (by omega)
    refine x_tsIn (pc := 40) dL_law_40 hz.1 hz.2 (by rw [Int.sub_zero]; exact ho) ht ?_
    refine hk r (6 * r) i h _ I h0 c (fun h' I' => ?_)
    refine x_iincN (pc := 1564) 0 dL_law_1564 rfl (show 4 < 8 by decide) rfl (by omega) (by omega) ?_
    refine x_goto (pc := 1567) dL_law_1567 (tgt := 23) rfl ?_
    exact ih (i + 6) h' I' (by omega) (by omega) (by omega)
