/-! judging a man: both sides -/
/-- law L of the class is law w of the model, or there is none -/
def vLr (c m : zH) (L w : Int) : Prop := w < 0 ∧ zLi c L ([], [], 20, 25, 30) ∨ 0 ≤ w ∧ ∃ V : zLV, zLi c L V ∧ mLwr m w V ∧ V.1.length ≤ 20 ∧ V.2.1.length ≤ 120 ∧ zVok V ∧ zVrp V
theorem v_lineR {c m : zH} {o mm l L w : Int} (hm : 0 ≤ mm ∧ mm < 60) (r : vLr c m L w) (q : vAq c m o mm l) (q9 : c L 5 ≠ 0 → vAs c m o mm l) (kd : Int) : zline c L (o + 4) (mm * 11) kd = -1 ∧ mline m w kd mm l = -1 ∨ ((0 ≤ zline c L (o + 4) (mm * 11) kd ∧ zline c L (o + 4) (mm * 11) kd < c L 6) ∧ c L 6 ≤ 20) ∧ 0 ≤ w ∧ mline m w kd mm l = 20 * w + zline c L (o + 4) (mm * 11) kd ∧ (kd = 3 → m 197 (mline m w kd mm l) = c (L + 2) (zline c L (o + 4) (mm * 11) kd)) := by
  rcases r with ⟨w0, zl⟩ | ⟨w0, V, zl, ml, h20, hV, ok, rp⟩
  · left
    have l6 : c L 6 = 0 := zl.1
    unfold zline mline
    rw [if_pos w0, l6]
    exact ⟨rfl, rfl⟩
  · have q9' : (∃ x ∈ V.2.1, zSrv x) → vAs c m o mm l := fun ⟨x, hx, sx⟩ => q9 (fun z => (zl.2.2.2.2.2.1.mp z) x hx sx)
    have z := v_line hm w0 zl ml h20 hV ok rp q q9' kd
    have kk := zlf_kind c L (o + 4) (mm * 11) kd (c L 6).toNat 0
    have ez : zlf c L (o + 4) (mm * 11) kd (c L 6).toNat 0 = zline c L (o + 4) (mm * 11) kd := rfl
    rw [ez] at kk
    rcases z with z | ⟨z1, z2⟩
    · exact Or.inl z
    · refine Or.inr ⟨⟨by rw [zl.1]; exact z1, by rw [zl.1]; omega⟩, w0, z2, fun k3 => ?_⟩
      have k := kk (by omega)
      generalize zline c L (o + 4) (mm * 11) kd = i at *
      have r1 := zl.2.2.2.2.2.2.1 i.toNat (by omega)
      have r2 := ml.2.2.2.2.1 i.toNat (by omega)
      rw [Int.toNat_of_nonneg z1.1] at r1 r2
      rw [z2, r1.2.1]
      exact r2.2.1 (by rw [← r1.1, k, k3])
/-- a man's state, his LINE, his class -/
theorem v_judge {c m : zH} {o mm l L w : Int} (hm : 0 ≤ mm ∧ mm < 60) (r : vLr c m L w) (q : vAq c m o mm l) (q9 : c L 5 ≠ 0 → vAs c m o mm l) (th : m 215 mm = c 20 mm) : mjs m l w mm = zjs c o L mm ∧ mjt m l w mm = zjl c o L mm ∧ (zjs c o L mm = 4 → mjc m l w mm = zjc c o L mm) := by
  have l1 := v_lineR hm r q q9 1
  have l2 := v_lineR hm r q q9 2
  have l3 := v_lineR hm r q q9 3
  have ages : (if w < 0 then 20 else m 192 w) = c L 2 ∧ (if w < 0 then 25 else m 193 w) = c L 3 := by
    rcases r with ⟨w0, zl⟩ | ⟨w0, V, zl, ml, -⟩
    · rw [if_pos w0, if_pos w0]
      exact ⟨zl.2.2.1.symm, zl.2.2.2.1.symm⟩
    · rw [if_neg (by omega), if_neg (by omega), ml.2.1, ml.2.2.1]
      exact ⟨zl.2.2.1.symm, zl.2.2.2.1.symm⟩
  have ag := q.2.2.2.2.2.2.1
  have s : mjs m l w mm = zjs c o L mm := by
    unfold mjs zjs
    rw [th, ages.1, ages.2, ← ag]
    by_cases y : c 20 mm = 0
    · rw [if_pos y, if_pos y]
    · rw [if_neg y, if_neg y]
      by_cases y2 : c (o + 4) (mm * 11 + 6) < c L 2 ∨ c L 3 < c (o + 4) (mm * 11 + 6)
      · rw [if_pos y2, if_neg (by omega)]
      · rw [if_neg y2, if_pos (by omega)]
        by_cases y3 : zline c L (o + 4) (mm * 11) 1 ≠ -1
        · rw [if_pos y3, if_pos (by omega)]
        · rw [if_neg y3, if_neg (by omega)]
          by_cases y4 : zline c L (o + 4) (mm * 11) 2 ≠ -1
          · rw [if_pos y4, if_pos (by omega)]
          · rw [if_neg y4, if_neg (by omega)]
  have zs2 : zjs c o L mm = 2 → zline c L (o + 4) (mm * 11) 1 ≠ -1 := fun e => by
    unfold zjs at e
    by_cases y : c 20 mm = 0
    · rw [if_pos y] at e; omega
    · rw [if_neg y] at e
      by_cases y2 : c (o + 4) (mm * 11 + 6) < c L 2 ∨ c L 3 < c (o + 4) (mm * 11 + 6)
      · rw [if_pos y2] at e; omega
      · rw [if_neg y2] at e
        by_cases y3 : zline c L (o + 4) (mm * 11) 1 ≠ -1
        · exact y3
        · rw [if_neg y3] at e
          split at e <;> omega
  have zs3 : zjs c o L mm = 3 → zline c L (o + 4) (mm * 11) 2 ≠ -1 := fun e => by
    unfold zjs at e
    by_cases y : c 20 mm = 0
    · rw [if_pos y] at e; omega
    · rw [if_neg y] at e
      by_cases y2 : c (o + 4) (mm * 11 + 6) < c L 2 ∨ c L 3 < c (o + 4) (mm * 11 + 6)
      · rw [if_pos y2] at e; omega
      · rw [if_neg y2] at e
        by_cases y3 : zline c L (o + 4) (mm * 11) 1 ≠ -1
        · rw [if_pos y3] at e; omega
        · rw [if_neg y3] at e
          by_cases y4 : zline c L (o + 4) (mm * 11) 2 ≠ -1
          · exact y4
          · rw [if_neg y4] at e; omega
  refine ⟨s, ?_, fun e => ?_⟩
  · unfold mjt zjl
    rw [s]
    by_cases e2 : zjs c o L mm = 2
    · rw [if_pos e2, if_pos e2]
      have := zs2 e2
      omega
    · rw [if_neg e2, if_neg e2]
      by_cases e3 : zjs c o L mm = 3
      · rw [if_pos e3, if_pos e3]
        have := zs3 e3
        omega
      · rw [if_neg e3, if_neg e3]
        by_cases e4 : zjs c o L mm = 4
        · rw [if_pos e4]
          by_cases y : 0 ≤ mline m w 3 mm l
          · rw [if_pos ⟨e4, y⟩]; omega
          · rw [if_neg (fun z => y z.2)]; omega
        · rw [if_neg e4, if_neg (fun z => e4 z.1)]
  · unfold mjc zjc
    rw [s]
    rcases l3 with z | ⟨z1, z2, z3, z4⟩
    · rw [if_neg (by omega), if_pos (by omega)]
    · rw [if_pos ⟨e, by omega⟩, if_neg (by omega)]
      exact z4 rfl
