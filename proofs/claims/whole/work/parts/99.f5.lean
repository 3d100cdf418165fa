/-! the classes; the start -/
theorem z_kcls {args : Array Value} {s : State} (hz : ∀ w ∈ zBIG, w.before args s = true) : ∀ q ∈ zcls, ∃ (cC : ClassId) (iS : Nat → Nat), u_Kn s q.1 q.2.1 q.2.2 cC iS := by
  have k7 : ∃ (cC : ClassId) (iS : Nat → Nat), u_Kn s RX7 TX7 2 cC iS := u_known hz zu7 (hz _ zb_114)
  refine List.forall_mem_cons.mpr ⟨u_known hz zu0 (hz _ zb_356), List.forall_mem_cons.mpr ⟨u_known hz zu1 (hz _ zb_267), List.forall_mem_cons.mpr ⟨u_known hz zu2 (hz _ zb_137), List.forall_mem_cons.mpr ⟨u_known hz zu3 (hz _ zb_382), List.forall_mem_cons.mpr ⟨u_known hz zu4 (hz _ zb_131), List.forall_mem_cons.mpr ⟨u_known hz zu5 (hz _ zb_228), List.forall_mem_cons.mpr ⟨u_known hz zu6 (hz _ zb_376), List.forall_mem_cons.mpr ⟨k7, List.forall_mem_cons.mpr ⟨u_known hz zu8 (hz _ zb_234), List.forall_mem_cons.mpr ⟨k7, List.forall_mem_cons.mpr ⟨u_known hz zu10 (hz _ zb_106), List.forall_mem_cons.mpr ⟨u_known hz zu11 (hz _ zb_1119), fun _ h => absurd h List.not_mem_nil⟩⟩⟩⟩⟩⟩⟩⟩⟩⟩⟩⟩
theorem z_K {args : Array Value} {s : State} (hz : ∀ w ∈ zBIG, w.before args s = true) : ∃ D : va_G, va_K D zcls [] s := by
  have h : ∀ c : Nat, ∃ z : ClassId × (Nat → Nat), ∀ q, zcls[c]? = some q → u_Kn s q.1 q.2.1 q.2.2 z.1 z.2 := fun c => by
    match hc : zcls[c]? with
    | none => exact ⟨(0, fun _ => 0), fun q hq => nomatch hq⟩
    | some q0 =>
      obtain ⟨cC, iS, hk⟩ := z_kcls hz q0 (List.mem_of_getElem? hc)
      exact ⟨(cC, iS), fun q hq => by cases hq; exact hk⟩
  obtain ⟨f, hf⟩ := Classical.axiomOfChoice h
  exact ⟨(fun c => (f c).1, fun c => (f c).2), fun c q hq => hf c q hq, fun k q hq => nomatch hq⟩
theorem z_ao {args : Array Value} {s : State} (ht : ∀ w ∈ lw_tbl, w.before args s = true) (hz : ∀ w ∈ zBIG, w.before args s = true) : zAO s :=
  ⟨va_AO.of (ht _ (zmT2 (List.mem_of_getElem? (i := 31) (by decide +kernel)))), va_AO.of (ht _ (zmT2 (List.mem_of_getElem? (i := 33) (by decide +kernel)))), va_AO.of (ht _ (zmT1 (List.mem_of_getElem? (i := 159) (by decide +kernel)))), va_AOA.of (ht _ (zmT2 (List.mem_of_getElem? (i := 41) (by decide +kernel)))), fun w hw => by
    obtain ⟨a, i, x, b, rfl, hm⟩ := hw
    exact va_Nw.of rfl (ht _ hm)⟩
theorem z_xO {args : Array Value} {s : State} {l : Launch} {c : Code} {A : Nat → Prop} (hl : l.stackTraces = false) (hn : ∀ w ∈ zNar, w.before args s = true) (ht : ∀ w ∈ lw_tbl, w.before args s = true) (hA : ∀ a : Nat, a < s.heap.size → ¬ A a) : xO xA l s A c :=
  ⟨trivial, hl, fun w hw => va_Nw.of (zThW_on hw) (ht w (zTh_in w (List.mem_filter.mp hw).1)), vx_Zqof (args := args) (ht _ zn_lU) (ht _ (List.mem_filter.mp zb_101).1) (hn _ zn_U) hA, vx_Zqof (args := args) (ht _ zn_lS) (ht _ (List.mem_filter.mp zb_101).1) (hn _ zn_S) hA⟩
theorem z_flags {l : Launch} (h : l.flags = flags0) : l.stackTraces = false := by
  unfold Launch.stackTraces
  rw [h]
  decide +kernel
