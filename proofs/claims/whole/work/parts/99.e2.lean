/-! the law's loop: the script -/
/-- the script's number j -/
def zsc (X : zX) (j : Int) : Int := (X.2 j.toNat).toInt
theorem zsc_in (X : zX) (j : Int) : zi32 (zsc X j) := ⟨Int32.le_toInt _, Int32.toInt_lt _⟩
abbrev zLp (i : Int) : List (Nat × zV) := [(4, xI i), (0, xR 2000000), (1, xR 0), (2, xR 169), (3, xR 238)]
section ZLAW
variable {d : zMd} {X : zX} {dep bc bs n pc : Nat} {lv : List (Nat × zV)} {st : List zV} {h : zH} {Q : Nat → zH → List zV → Prop}
theorem z_slen (hdg : decode d.by pc = .ok (.arraylength, 1)) (hL : X.1 < 2147483648) (kk : zW d X dep bc bs n (pc + 1) lv (xI X.1 :: st) h Q) : zW d X dep bc bs n pc lv (xR 2000000 :: st) h Q := by
  intro p l e R s m args below meth c H locs cells slots A E ls Z hF h1 h2 hD hE
  have kk1 := kk p l e R s m args below meth c H locs cells slots A E ls Z hF h1 h2 (hD.stk (xI X.1 :: st) (zok_c1 (show zi32 (X.1 : Int) from ⟨by omega, by omega⟩) hD.tl)) hE
  rw [List.map_cons, show zcv E.2.1 (xI (X.1 : Int)) = .int (Int32.ofNat X.1) from congrArg Value.int (Int32.ofInt_eq_ofNat)] at kk1
  rw [List.map_cons, zcvR (by decide)]
  have hX := hD.2.2.1.2.1
  obtain ⟨scr, g1, -⟩ := id hX.1
  exact va_slen hF.1 hF.2.1 hX.1 (Array.getElem?_eq_some_iff.mp g1).1 hX.2 hD.1 hdg kk1
theorem z_sld {i : Int} (hdg : decode d.by pc = .ok (.iaload, 1)) (h0 : 0 ≤ i) (hi : i < X.1) (hL : X.1 < 2147483648) (kk : zW d X dep bc bs n (pc + 1) lv (xI (zsc X i) :: st) h Q) : zW d X dep bc bs n pc lv (xI i :: xR 2000000 :: st) h Q := by
  intro p l e R s m args below meth c H locs cells slots A E ls Z hF h1 h2 hD hE
  have hst : ∀ v ∈ st, zok n v := fun w hw => hD.tl w (List.mem_cons_of_mem _ hw)
  have kk1 := kk p l e R s m args below meth c H locs cells slots A E ls Z hF h1 h2 (hD.stk (xI (zsc X i) :: st) (zok_c1 (zsc_in X i) hst)) hE
  rw [List.map_cons, show zcv E.2.1 (xI (zsc X i)) = .int (X.2 (Int32.ofInt i).toNatClampNeg) from congrArg Value.int (by rw [zclamp h0 (by omega)]; exact Int32.ofInt_toInt _)] at kk1
  rw [List.map_cons, List.map_cons, zcvR (show ¬ (2000000 : Int) < 0 by decide)]
  have hX := hD.2.2.1.2.1
  have hb : i < 2147483648 := by omega
  obtain ⟨scr, g1, -⟩ := id hX.1
  exact va_sld hF.1 hF.2.1 hX.1 (Array.getElem?_eq_some_iff.mp g1).1 hX.2 hD.1 (zin h0 hb hi) hdg kk1
/-- script[i + k] -/
theorem z_sc {i k : Int} (d1 : decode d.by pc = .ok (.aload_n 0, 1)) (d2 : decode d.by (pc + 1) = .ok (.iload 4, 2)) (d3 : decode d.by (pc + 3) = .ok (.iconst k, 1)) (d4 : decode d.by (pc + 4) = .ok (.iadd, 1)) (d5 : decode d.by (pc + 5) = .ok (.iaload, 1)) (h0 : 0 ≤ i) (hi : i + 6 ≤ X.1) (hk : 0 ≤ k ∧ k < 6) (hL : X.1 ≤ 3072) (kk : zW d X dep bc bs n (pc + 6) (zLp i) (xI (zsc X (i + k)) :: st) h Q) : zW d X dep bc bs n pc (zLp i) st h Q := by
  refine z_aload_n 1 d1 rfl ?_
  refine z_iload 0 d2 rfl ?_
  refine z_iconst d3 ⟨by omega, by omega⟩ ?_
  refine z_iadd d4 ?_
  rw [w32_id (by omega) (by omega)]
  exact z_sld d5 (by omega) (by omega) (by omega) kk
end ZLAW
abbrev mLw (nm : String) : zMd := (⟨RL, nm, "([I)Z"⟩, cL_law, 8, some .boolean)
/-- two numbers: not the same, 'false' -/
theorem z_same {d : zMd} {X : zX} {dep bc bs n pc : Nat} {lv : List (Nat × zV)} {h : zH} {Q : Nat → zH → List zV → Prop} {a b off : Int} {tgt : Nat} (hdg : decode d.by pc = .ok (.if_icmp .eq off, 3)) (ht : (pc : Int) + off = (tgt : Int)) (e : b = a) (k : zW d X dep bc bs n tgt lv [] h Q) : zW d X dep bc bs n pc lv [xI b, xI a] h Q :=
  z_icmp_eq hdg ht (fun _ => k) (fun c => absurd e.symm c)
