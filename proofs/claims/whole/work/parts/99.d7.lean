/-! the first heap keeps the invariant -/
theorem zJ0_a {o : Int} (h1 : (zIW o || zIL o || zIT.any (fun e => e.1 == o && !(([] : List Int).contains e.2.1))) = false) (hs : (zS o.toNat).1 = 1 ∨ (zS o.toNat).1 = 3) (k : Int) : zJ0 o k = 0 := by
  rw [zJ0_z h1]
  unfold zd
  generalize zS o.toNat = sh at hs
  obtain ⟨t, c, N⟩ := sh
  rcases hs with e | e
  · have e : t = 1 := e
    subst e; rfl
  · have e : t = 3 := e
    subst e; rfl
theorem v_start {h : zH} (H : ∀ x : Int, 0 ≤ x → x < 238 → h x = zJ0 x) : vI h := by
  have g : ∀ (o k v : Int), 0 ≤ o → o < 238 → zJ0 o k = v → h o k = v := fun o k v h0 h1 e => by rw [H o h0 h1]; exact e
  have r9 : ∀ (k : Int), k = 2 ∨ k = 5 ∨ k = 25 ∨ k = 26 ∨ k = 27 ∨ k = 28 ∨ k = 29 ∨ k = 45 ∨ k = 53 ∨ k = 65 ∨ k = 85 ∨ k = 89 ∨ k = 90 ∨ k = 91 ∨ k = 96 → h 169 k = 0 := fun k hk => g 169 k 0 (by decide) (by decide) (by
    rcases hk with rfl | rfl | rfl | rfl | rfl | rfl | rfl | rfl | rfl | rfl | rfl | rfl | rfl | rfl | rfl <;> decide +kernel)
  have r0 : ∀ (k : Int), 9 ≤ k ∧ k ≤ 13 ∨ k = 15 ∨ k = 16 → h 0 k = 0 := fun k hk => g 0 k 0 (by decide) (by decide) (by
    rcases (show k = 9 ∨ k = 10 ∨ k = 11 ∨ k = 12 ∨ k = 13 ∨ k = 15 ∨ k = 16 by omega) with rfl | rfl | rfl | rfl | rfl | rfl | rfl <;> decide +kernel)
  have lg : ∀ (o most n : Int) (ar : List (Int × Int)), 0 ≤ most → h o 1 = most → h o 2 = 0 → h 169 n = 0 → vLg h o most n ar := fun o most n ar h0 h1 h2 h9 =>
    ⟨by omega, h1, by omega, fun r a b => absurd b (by omega), fun r s a b c => absurd c (by omega), fun r a b => absurd b (by omega)⟩
  have m3 : h 3 0 = 0 := g 3 0 0 (by decide) (by decide) (by decide +kernel)
  have d7 : h 7 1 = 100 ∧ h 7 2 = 0 := ⟨g 7 1 100 (by decide) (by decide) (by decide +kernel), g 7 2 0 (by decide) (by decide) (by decide +kernel)⟩
  have d9 : h 9 1 = 240 ∧ h 9 2 = 0 := ⟨g 9 1 240 (by decide) (by decide) (by decide +kernel), g 9 2 0 (by decide) (by decide) (by decide +kernel)⟩
  have d11 : h 11 1 = 60 ∧ h 11 2 = 0 := ⟨g 11 1 60 (by decide) (by decide) (by decide +kernel), g 11 2 0 (by decide) (by decide) (by decide +kernel)⟩
  have d13 : h 13 1 = 40 ∧ h 13 2 = 0 := ⟨g 13 1 40 (by decide) (by decide) (by decide +kernel), g 13 2 0 (by decide) (by decide) (by decide +kernel)⟩
  have d15 : h 15 1 = 60 ∧ h 15 2 = 0 := ⟨g 15 1 60 (by decide) (by decide) (by decide +kernel), g 15 2 0 (by decide) (by decide) (by decide +kernel)⟩
  have e1 : h 1 1 = 0 := g 1 1 0 (by decide) (by decide) (by decide +kernel)
  have e36 : ∀ (k v : Int), zJ0 36 k = v → h 36 k = v := fun k v e => g 36 k v (by decide) (by decide) e
  have e14 : h 0 14 = -1 := g 0 14 (-1) (by decide) (by decide) (by decide +kernel)
  have e87 : h 169 87 = -1 := g 169 87 (-1) (by decide) (by decide) (by decide +kernel)
  have z0 : ∀ (o : Int), 0 ≤ o → o < 238 → (zIW o || zIL o || zIT.any (fun e => e.1 == o && !(([] : List Int).contains e.2.1))) = false → (zS o.toNat).1 = 1 ∨ (zS o.toNat).1 = 3 → ∀ k, h o k = 0 := fun o a b c d k => g o k 0 a b (zJ0_a c d k)
  have z205 : ∀ k, h 205 k = 0 := z0 205 (by decide) (by decide) (by decide +kernel) (by decide +kernel)
  have z206 : ∀ k, h 206 k = 0 := z0 206 (by decide) (by decide) (by decide +kernel) (by decide +kernel)
  have z208 : ∀ k, h 208 k = 0 := z0 208 (by decide) (by decide) (by decide +kernel) (by decide +kernel)
  have z209 : ∀ k, h 209 k = 0 := z0 209 (by decide) (by decide) (by decide +kernel) (by decide +kernel)
  have z210 : ∀ k, h 210 k = 0 := z0 210 (by decide) (by decide) (by decide +kernel) (by decide +kernel)
  have z211 : ∀ k, h 211 k = 0 := z0 211 (by decide) (by decide) (by decide +kernel) (by decide +kernel)
  have z235 : ∀ k, h 235 k = 0 := z0 235 (by decide) (by decide) (by decide +kernel) (by decide +kernel)
  have z236 : ∀ k, h 236 k = 0 := z0 236 (by decide) (by decide) (by decide +kernel) (by decide +kernel)
  have z200 : ∀ k, h 200 k = 0 := z0 200 (by decide) (by decide) (by decide +kernel) (by decide +kernel)
  have x9 : ∀ k, k = 2 ∨ k = 5 ∨ k = 25 ∨ k = 26 ∨ k = 27 ∨ k = 28 ∨ k = 29 ∨ k = 45 ∨ k = 53 ∨ k = 65 ∨ k = 85 ∨ k = 89 ∨ k = 90 ∨ k = 91 ∨ k = 96 → h 169 k = 0 := r9
  have lot : ∀ l : Int, 0 ≤ l → l < 4 → (h (114 + 14 * l) 0 = 0 ∧ h (114 + 14 * l) 1 = 0 ∧ h (114 + 14 * l) 2 = 0 ∧ h (114 + 14 * l) 3 = 0) ∧ (∀ k, h (115 + 14 * l) k = if 0 ≤ k ∧ k < 52 then k else 0) ∧ (∀ k, h (116 + 14 * l) k = if 0 ≤ k ∧ k < 26 then k else 0) ∧ (∀ k, h (125 + 14 * l) k = 0) ∧ h (113 + 14 * l) 0 = l := fun l l0 l1 => by
    rcases (show l = 0 ∨ l = 1 ∨ l = 2 ∨ l = 3 by omega) with rfl | rfl | rfl | rfl
    · exact ⟨⟨g 114 0 0 (by decide) (by decide) (by decide +kernel), g 114 1 0 (by decide) (by decide) (by decide +kernel), g 114 2 0 (by decide) (by decide) (by decide +kernel), g 114 3 0 (by decide) (by decide) (by decide +kernel)⟩, fun k => g 115 k _ (by decide) (by decide) (zJ0_W (by decide) k), fun k => g 116 k _ (by decide) (by decide) (zJ0_L (by decide) (by decide) k), z0 125 (by decide) (by decide) (by decide +kernel) (by decide +kernel), g 113 0 0 (by decide) (by decide) (by decide +kernel)⟩
    · exact ⟨⟨g 128 0 0 (by decide) (by decide) (by decide +kernel), g 128 1 0 (by decide) (by decide) (by decide +kernel), g 128 2 0 (by decide) (by decide) (by decide +kernel), g 128 3 0 (by decide) (by decide) (by decide +kernel)⟩, fun k => g 129 k _ (by decide) (by decide) (zJ0_W (by decide) k), fun k => g 130 k _ (by decide) (by decide) (zJ0_L (by decide) (by decide) k), z0 139 (by decide) (by decide) (by decide +kernel) (by decide +kernel), g 127 0 1 (by decide) (by decide) (by decide +kernel)⟩
    · exact ⟨⟨g 142 0 0 (by decide) (by decide) (by decide +kernel), g 142 1 0 (by decide) (by decide) (by decide +kernel), g 142 2 0 (by decide) (by decide) (by decide +kernel), g 142 3 0 (by decide) (by decide) (by decide +kernel)⟩, fun k => g 143 k _ (by decide) (by decide) (zJ0_W (by decide) k), fun k => g 144 k _ (by decide) (by decide) (zJ0_L (by decide) (by decide) k), z0 153 (by decide) (by decide) (by decide +kernel) (by decide +kernel), g 141 0 2 (by decide) (by decide) (by decide +kernel)⟩
    · exact ⟨⟨g 156 0 0 (by decide) (by decide) (by decide +kernel), g 156 1 0 (by decide) (by decide) (by decide +kernel), g 156 2 0 (by decide) (by decide) (by decide +kernel), g 156 3 0 (by decide) (by decide) (by decide +kernel)⟩, fun k => g 157 k _ (by decide) (by decide) (zJ0_W (by decide) k), fun k => g 158 k _ (by decide) (by decide) (zJ0_L (by decide) (by decide) k), z0 167 (by decide) (by decide) (by decide +kernel) (by decide +kernel), g 155 0 3 (by decide) (by decide) (by decide +kernel)⟩
  refine ⟨⟨by omega, by rw [x9 2 (by decide), e1], fun i a b => absurd b (by omega)⟩, ⟨⟨by rw [x9 5 (by decide), r0 10 (by decide)], by rw [r0 10 (by decide)]; decide, by rw [r0 10 (by decide)]; decide⟩, by rw [x9 53 (by decide), r0 13 (by decide)], by rw [e87, e14], ⟨by rw [x9 90 (by decide), r0 15 (by decide)], by rw [r0 15 (by decide)]; decide, by rw [r0 15 (by decide)]; decide⟩, by rw [x9 91 (by decide), r0 16 (by decide)], by rw [r0 16 (by decide)]; decide, by rw [r0 16 (by decide), r0 15 (by decide)]; decide⟩, ⟨by omega, by rw [x9 25 (by decide), m3], fun m a b => absurd b (by omega)⟩,
    ⟨lg 7 100 26 _ (by decide) d7.1 d7.2 (x9 26 (by decide)), fun r a b => absurd b (by omega)⟩, ⟨lg 9 240 27 _ (by decide) d9.1 d9.2 (x9 27 (by decide)), fun r a b => absurd b (by omega)⟩, ⟨lg 11 60 28 _ (by decide) d11.1 d11.2 (x9 28 (by decide)), fun r a b => absurd b (by omega)⟩, ⟨lg 13 40 29 _ (by decide) d13.1 d13.2 (x9 29 (by decide)), fun r a b => absurd b (by omega)⟩, ⟨lg 15 60 85 _ (by decide) d15.1 d15.2 (x9 85 (by decide)), fun r a b => absurd b (by omega)⟩,
    ⟨by rw [r0 11 (by decide)]; decide, by rw [x9 45 (by decide), r0 11 (by decide)], fun i a b => absurd b (by rw [r0 11 (by decide)]; omega), ⟨e36 6 0 (by decide +kernel), e36 12 0 (by decide +kernel), e36 2 20 (by decide +kernel), e36 3 25 (by decide +kernel), e36 4 30 (by decide +kernel), ⟨fun _ x hx => absurd hx List.not_mem_nil, fun _ => e36 5 0 (by decide +kernel)⟩, fun i hi => absurd hi (Nat.not_lt_zero i), fun i hi => absurd hi (Nat.not_lt_zero i)⟩, e36 0 0 (by decide +kernel), e36 1 (-1) (by decide +kernel)⟩,
    ⟨by rw [r0 12 (by decide)]; decide, by rw [x9 65 (by decide), r0 12 (by decide)], fun l a b => absurd b (by rw [r0 12 (by decide)]; omega), fun l a b => ?_, fun l k a b c => absurd c (by rw [r0 12 (by decide)]; omega), fun l q a b c e => ?_⟩,
    ⟨by rw [x9 96 (by decide), g 44 2 0 (by decide) (by decide) (by decide +kernel)], fun q w a b c e => ?_⟩, ⟨by rw [r0 9 (by decide)]; decide, by rw [x9 89 (by decide), r0 9 (by decide)], fun k a b => absurd b (by rw [r0 9 (by decide)]; omega)⟩, fun k a b => by rw [z200]; decide⟩
  · rw [r0 12 (by decide)] at a
    have L := lot l a b
    refine ⟨by rw [L.1.1]; decide, by rw [L.1.2.1]; decide, by rw [z205]; decide, by rw [z206]; decide, ⟨z210 l, L.1.2.2.1⟩, ⟨z211 l, L.1.2.2.2⟩, fun k k0 k1 => ⟨by rw [L.2.1, if_pos ⟨k0, k1⟩], z208 _⟩, fun k k0 k1 => ⟨by rw [L.2.2.1, if_pos ⟨k0, k1⟩], z209 _⟩⟩
  · have L := lot l a b
    exact ⟨by rw [L.2.2.2.1]; decide, L.2.2.2.2⟩
  · have h1 : h (46 + q) w = 0 := by
      have z := zJ0_45j q a b
      rw [show (45 : Int) + 1 + q = 46 + q by omega] at z
      rw [H (46 + q) (by omega) (by omega), z]
    have h2 : h (55 + q) w = 0 := by
      have z := zJ0_54j q a b
      rw [show (54 : Int) + 1 + q = 55 + q by omega] at z
      rw [H (55 + q) (by omega) (by omega), z]
    rw [h1, h2, z235, z236]
    decide
/-- the references that stay, stand -/
theorem zRef_start {h : zH} (H : ∀ x : Int, 0 ≤ x → x < 238 → h x = zJ0 x) : zRefOK h := fun o k v hv => by
  have e := zRF_mem hv
  have b : ∀ e ∈ zRT, ((0 ≤ e.1 ∧ e.1 < 238) ∧ zJ0 e.1 e.2.1 = e.2.2) := by decide +kernel
  have q := b _ e
  rw [H o q.1.1 q.1.2]
  exact q.2
