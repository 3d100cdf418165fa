/-! the two that catch -/
theorem zrun_err {α β : Type} {r : Decoder α} {f : α → Decoder β} {b : ByteArray} {p : Nat} {e : DecodeError} (h : r.runAt b p = .error e) : (r >>= f).runAt b p = .error e := by
  unfold Reader.runAt at h ⊢
  rw [ReaderT.run_bind, StateT.run_bind, h]
  rfl
theorem zu1_err {b : ByteArray} {p : Nat} (h : ¬ p < b.size) : ∃ e : DecodeError, (Reader.u1 : Decoder Nat).runAt b p = .error e := by
  unfold Reader.u1 Reader.runAt
  refine ⟨HasTruncated.truncated p, ?_⟩
  change (ReaderT.run (dite (p < b.size) (fun h => (do set (p + 1); Pure.pure b[p].toNat : Decoder Nat)) (fun _ => (throw (HasTruncated.truncated p) : Decoder Nat))) b).run p = _
  rw [dif_neg h]
  rfl
theorem zdec_lt {cc : ByteArray} {pc : Nat} {r : Instr × Nat} (h : decode cc pc = .ok r) : pc < cc.size := by
  apply Decidable.byContradiction
  intro hc
  obtain ⟨e, he⟩ := zu1_err hc
  have h1 : (Decoder.instr pc).runAt cc pc = .error e := by
    unfold Decoder.instr
    exact zrun_err he
  unfold decode at h
  rw [h1] at h
  cases h
theorem znew1 : ∀ pc j, decode cX10_mixed pc = .ok (.new j, 3) → pc = 47 ∧ j = 264 := by
  intro pc j h
  have h0 : pc < 102 := Nat.lt_of_lt_of_le (zdec_lt h) (by decide +kernel)
  have a : ∀ pc < 102, (match decode cX10_mixed pc with | .ok (.new j, 3) => decide (pc = 47 ∧ j = 264) | _ => true) = true := by decide +kernel
  have b := a pc h0
  rw [h] at b
  exact of_decide_eq_true b
theorem znew2 : ∀ pc j, decode cX10_doubt pc = .ok (.new j, 3) → pc = 14 ∧ j = 264 := by
  intro pc j h
  have h0 : pc < 182 := Nat.lt_of_lt_of_le (zdec_lt h) (by decide +kernel)
  have a : ∀ pc < 182, (match decode cX10_doubt pc with | .ok (.new j, 3) => decide (pc = 14 ∧ j = 264) | _ => true) = true := by decide +kernel
  have b := a pc h0
  rw [h] at b
  exact of_decide_eq_true b
abbrev hhx : List (Nat × Nat × Nat × Nat) := [(0, 15, 18, 13)]
abbrev hhd : List (Nat × Nat × Nat × Nat) := [(0, 11, 14, 13)]
abbrev mLmx : zMd := (⟨RL, "mixed", "(LLotOffice;IIIII[J)I"⟩, cL_mixed, 8, some .int)
abbrev mLdo : zMd := (⟨RL, "doubt", "(LLotOffice;III[J)I"⟩, cL_doubt, 6, some .int)
/-- the law's own 'mixed': 0 and the number kept, or 1 -/
theorem s_mixed {X : zX} {dep : Nat} (l c a b w : Int) {h : zH} (hn : 0 ≤ h 0 12 ∧ h 0 12 ≤ 4) (hdep : 8 ≤ dep) : xW (xT hhx) mLmx X dep 1 6 239 0 (zar 0 [xR 0, xI l, xI c, xI a, xI b, xI w, xR 238]) [] h
    (fun n1 g rs => n1 = 239 ∧ ((zMxC h l c a b w ∧ rs = [xI 0] ∧ g = zst h 238 0 (zMxV h l c a b w)) ∨ (¬ zMxC h l c a b w ∧ rs = [xI 1] ∧ g = h))) := by
  refine x_aload (pc := 0) 6 dL_mixed_0 rfl ?_
  refine x_iconst (pc := 2) dL_mixed_2 ⟨by decide, by decide⟩ ?_
  refine x_aload_n (pc := 3) 0 dL_mixed_3 rfl ?_
  refine x_iload_n (pc := 4) 1 dL_mixed_4 rfl ?_
  refine x_iload_n (pc := 5) 2 dL_mixed_5 rfl ?_
  refine x_iload_n (pc := 6) 3 dL_mixed_6 rfl ?_
  refine x_iload (pc := 7) 4 dL_mixed_7 rfl ?_
  refine x_iload (pc := 9) 5 dL_mixed_9 rfl ?_
  refine x_invT (d := mLmx) (pc := 11) (index := 7) (o := 0) (ci := 10) (N := 17) (as := [xI l, xI c, xI a, xI b, xI w]) (ra := [xI w, xI b, xI a, xI c, xI l]) (st := [xI 0, xR 238]) (dep' := 7) (pcT := 47) (hpc := 18) (j := 7) (x := ⟨0, 15, 18, 13⟩) (fun c hc => hc) (by decide) rfl rfl dL_mixed_18 (show 7 < 8 by decide) zb_1029 (f_X10_mixed l c a b w hn (by decide)) (by decide) znew1 dX10_mixed_50 dX10_mixed_51 dX10_mixed_54 rfl dL_mixed_11 nX10_mixed zb_1030 zb_1031 zb_1032 zb_82 (zOb.lit (by decide +kernel)) rfl (by omega) (by decide) (by decide) (Nat.le_of_ble_eq_true rfl) (Nat.le_of_ble_eq_true rfl) rfl ?_ ?_
  · rintro n' g rs ⟨⟨rfl, hg, hc⟩, hne⟩ -
    rcases hc with ⟨C, hr⟩ | ⟨-, hr⟩
    · rw [hr, hg]
      refine x_last (pc := 14) (N := 1) dL_mixed_14 (zOb.lit (by decide +kernel)) (by decide) (by decide) ?_
      refine x_goto (pc := 15) dL_mixed_15 (tgt := 22) rfl ?_
      refine x_iconst (pc := 22) dL_mixed_22 ⟨by decide, by decide⟩ ?_
      exact x_iret (pc := 23) dL_mixed_23 rfl ⟨rfl, Or.inl ⟨C, rfl, rfl⟩⟩
    · exact absurd hr hne
  · rintro n' g ⟨rfl, hg, hc⟩ -
    rcases hc with ⟨C, hr⟩ | ⟨C, hr⟩
    · exact absurd hr.symm (fun z => zne_L z)
    · rw [hg]
      refine x_iconst (pc := 20) dL_mixed_20 ⟨by decide, by decide⟩ ?_
      exact x_iret (pc := 21) dL_mixed_21 rfl ⟨rfl, Or.inr ⟨C, rfl, rfl⟩⟩
theorem s_doubt {X : zX} {dep : Nat} (d t w : Int) {h : zH} (he : 0 ≤ h 11 2 ∧ h 11 2 ≤ 60) (hdep : 8 ≤ dep) : xW (xT hhd) mLdo X dep 1 6 239 0 (zar 0 [xR 0, xI d, xI t, xI w, xR 238]) [] h
    (fun n1 g rs => n1 = 239 ∧ ((zDoC d w ∧ rs = [xI 0] ∧ g = zst h 238 0 (zDoV h d t w)) ∨ (¬ zDoC d w ∧ rs = [xI 1] ∧ g = h))) := by
  refine x_aload (pc := 0) 4 dL_doubt_0 rfl ?_
  refine x_iconst (pc := 2) dL_doubt_2 ⟨by decide, by decide⟩ ?_
  refine x_aload_n (pc := 3) 0 dL_doubt_3 rfl ?_
  refine x_iload_n (pc := 4) 1 dL_doubt_4 rfl ?_
  refine x_iload_n (pc := 5) 2 dL_doubt_5 rfl ?_
  refine x_iload_n (pc := 6) 3 dL_doubt_6 rfl ?_
  refine x_invT (d := mLdo) (pc := 7) (index := 15) (o := 0) (ci := 10) (N := 17) (as := [xI d, xI t, xI w]) (ra := [xI w, xI t, xI d]) (st := [xI 0, xR 238]) (dep' := 7) (pcT := 14) (hpc := 14) (j := 5) (x := ⟨0, 11, 14, 13⟩) (fun c hc => hc) (by decide) rfl rfl dL_doubt_14 (show 5 < 6 by decide) zb_1029 (f_X10_doubt d t w he (by decide)) (by decide) znew2 dX10_doubt_17 dX10_doubt_18 dX10_doubt_21 rfl dL_doubt_7 nX10_doubt zb_1112 zb_1113 zb_1114 zb_82 (zOb.lit (by decide +kernel)) rfl (by omega) (by decide) (by decide) (Nat.le_of_ble_eq_true rfl) (Nat.le_of_ble_eq_true rfl) rfl ?_ ?_
  · rintro n' g rs ⟨⟨rfl, hg, hc⟩, hne⟩ -
    rcases hc with ⟨C, hr⟩ | ⟨-, hr⟩
    · rw [hr, hg]
      refine x_last (pc := 10) (N := 1) dL_doubt_10 (zOb.lit (by decide +kernel)) (by decide) (by decide) ?_
      refine x_goto (pc := 11) dL_doubt_11 (tgt := 18) rfl ?_
      refine x_iconst (pc := 18) dL_doubt_18 ⟨by decide, by decide⟩ ?_
      exact x_iret (pc := 19) dL_doubt_19 rfl ⟨rfl, Or.inl ⟨C, rfl, rfl⟩⟩
    · exact absurd hr hne
  · rintro n' g ⟨rfl, hg, hc⟩ -
    rcases hc with ⟨C, hr⟩ | ⟨C, hr⟩
    · exact absurd hr.symm (fun z => zne_L z)
    · rw [hg]
      refine x_iconst (pc := 16) dL_doubt_16 ⟨by decide, by decide⟩ ?_
      exact x_iret (pc := 17) dL_doubt_17 rfl ⟨rfl, Or.inr ⟨C, rfl, rfl⟩⟩
