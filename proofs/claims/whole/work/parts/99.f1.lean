/-! the law's cases of mixed and doubt -/
section
variable {h : zH}
theorem vI.out {f : zH} (I : vI h) (eo : ∀ o : Int, o ≠ 238 → f o = h o) : vI f := by
  have eq : ∀ l q : Int, 0 ≤ l → l < 4 → 0 ≤ q → q < 60 → (-1 ≤ f (125 + 14 * l) q ∧ f (125 + 14 * l) q < 60) ∧ f (113 + 14 * l) 0 = l := fun l q a b c d => by
    rw [eo (125 + 14 * l) (by omega), eo (113 + 14 * l) (by omega)]
    exact I.2.2.2.2.2.2.2.2.2.1.2.2.2.2.2 l q a b c d
  exact I.to (I.1.tr (by rw [eo 1 (by omega)]) ((congrFun (eo 169 (by decide)) 2)) (eo 170 (by omega)) (eo 2 (by omega))) (I.2.1.tr (fun k _ _ => by rw [eo 0 (by omega)]) (fun k _ => congrFun (eo 169 (by decide)) k)) (I.2.2.1.tr ((congrFun (eo 3 (by decide)) 0)) ((congrFun (eo 169 (by decide)) 25)) (fun o ho => eo o (by omega))) ((congrFun (eo 3 (by decide)) 0)) (by rw [eo 0 (by omega)]) (by rw [eo 0 (by omega)]; exact ⟨rfl, rfl, rfl⟩) (fun o ho => eo o (by omega)) (fun o l l0 l1 o0 o1 => eo o (by omega)) eq (fun o ho => eo o (by omega)) (fun k _ => congrFun (eo 169 (by decide)) k)
theorem vI.t1 (I : vI h) : vI (zst h 169 0 1) :=
  I.tape (I.1.tr (zst_ne (Or.inl (by decide))) (zst_ne (Or.inr (by decide))) (zfn (by decide)) (zfn (by decide))) (fun o _ _ _ h9 => zfn h9) (fun k h0 _ _ _ => zst_ne (Or.inr h0))
theorem vI.s234 {f : zH} (I : vI h) (a : zag [234] h f) : vI f := by
  have eo : ∀ o : Int, o ≠ 234 → f o = h o := fun o ho => funext fun k => a o k (by simpa using ho)
  exact vI.scr I (fun o ho => eo o (fun z => ho (by unfold vScr; omega))) (fun k _ => by rw [eo 3 (by decide)]) (fun k _ => by rw [eo 169 (by decide)]) (fun l q a b c d => by
    rw [eo (125 + 14 * l) (by omega), eo (113 + 14 * l) (by omega)]
    exact I.2.2.2.2.2.2.2.2.2.1.2.2.2.2.2 l q a b c d)
theorem mDoV_cg {g : zH} (d t w : Int) (e : ∀ o : Int, o ≠ 238 → g o = h o) : mDoV g d t w = mDoV h d t w := by
  unfold mDoV mD1 mD2 mD3 mD4
  rw [e 169 (by decide), e 184 (by decide), e 185 (by decide), e 186 (by decide)]
theorem mMxN_cg {g : zH} (l c a b : Int) (e : ∀ o : Int, o ≠ 238 → g o = h o) : mMxN g l c a b = mMxN h l c a b := by
  unfold mMxN
  rw [e 207 (by decide)]
/-- what both sides make of a mixed: the same -/
theorem v_mixed1 (I : vI h) {l c a b w v : Int} {f : zH} (C : zMxC h l c a b w) (P : mMxC (zst h 238 0 (zMxV h l c a b w)) l c a b w ∧ v = (if w = 2 then mMxN (zst h 238 0 (zMxV h l c a b w)) l c a b else zch 52 (b - a + 1) c (mMxN (zst h 238 0 (zMxV h l c a b w)) l c a b) w) ∧ zag [234] (zst (zst h 238 0 (zMxV h l c a b w)) 169 0 0) f ∨ ¬ mMxC (zst h 238 0 (zMxV h l c a b w)) l c a b w ∧ v = 0 ∧ f = zst (zst h 238 0 (zMxV h l c a b w)) 169 0 1) : vI f ∧ f 169 0 = 0 ∧ f 238 0 = v := by
  have I1 : vI (zst h 238 0 (zMxV h l c a b w)) := I.out (fun o ho => zfn ho)
  have e65 : zst h 238 0 (zMxV h l c a b w) 169 65 = h 0 12 := (zst_ne (Or.inl (by decide))).trans I.2.2.2.2.2.2.2.2.2.1.2.1
  have hM : mMxC (zst h 238 0 (zMxV h l c a b w)) l c a b w := by
    obtain ⟨c1, c2, c3, c4, c5⟩ := C
    refine ⟨⟨c1.1, by rw [e65]; exact c1.2⟩, c2, ⟨c3.1, by omega⟩, ⟨c4.1, by omega⟩, c5⟩
  rcases P with ⟨-, hv, ha⟩ | ⟨hn, -⟩
  · refine ⟨I1.th.s234 ha, (ha 169 0 (by decide)).trans (by rw [zst_or, if_pos rfl]), ?_⟩
    have e1 : f 238 0 = zMxV h l c a b w := (ha 238 0 (by decide)).trans ((zst_ne (Or.inl (by decide))).trans (by rw [zst_or, if_pos rfl]))
    rw [e1, hv, mMxN_cg (h := h) l c a b (fun o ho => zfn ho)]
    unfold zMxV
    rw [v_mixN I C.1 C.2.1 C.2.2.1.1 C.2.2.2.1.1 C.2.2.2.1.2]
  · exact absurd hM hn
theorem v_mixed2 (I : vI h) {l c a b w v : Int} {f : zH} (C : ¬ zMxC h l c a b w) {V : Int} {N : Prop} (P : mMxC h l c a b w ∧ v = V ∧ N ∨ ¬ mMxC h l c a b w ∧ v = 0 ∧ f = zst h 169 0 1) : vI f ∧ f 169 0 = 1 := by
  have e65 : h 169 65 = h 0 12 := I.2.2.2.2.2.2.2.2.2.1.2.1
  rcases P with ⟨M, -⟩ | ⟨-, -, e⟩
  · obtain ⟨c1, c2, c3, c4, c5⟩ := M
    exact absurd ⟨⟨c1.1, by rw [← e65]; exact c1.2⟩, c2, ⟨c3.1, by omega⟩, ⟨c4.1, by omega⟩, c5⟩ C
  · rw [e]
    exact ⟨I.t1, by rw [zst_or, if_pos rfl]⟩
theorem v_doubt1 (I : vI h) {d t w v : Int} {f : zH} (C : zDoC d w) (P : mDoC d w ∧ v = mDoV (zst h 238 0 (zDoV h d t w)) d t w ∧ zag [234] (zst (zst h 238 0 (zDoV h d t w)) 169 0 0) f ∨ ¬ mDoC d w ∧ v = 0 ∧ f = zst (zst h 238 0 (zDoV h d t w)) 169 0 1) : vI f ∧ f 169 0 = 0 ∧ f 238 0 = v := by
  have I1 : vI (zst h 238 0 (zDoV h d t w)) := I.out (fun o ho => zfn ho)
  have hM : mDoC d w := ⟨⟨C.1.1, by have := C.1.2; omega⟩, C.2⟩
  rcases P with ⟨-, hv, ha⟩ | ⟨hn, -⟩
  · refine ⟨I1.th.s234 ha, (ha 169 0 (by decide)).trans (by rw [zst_or, if_pos rfl]), ?_⟩
    have e1 : f 238 0 = zDoV h d t w := (ha 238 0 (by decide)).trans ((zst_ne (Or.inl (by decide))).trans (by rw [zst_or, if_pos rfl]))
    rw [e1, hv, mDoV_cg (h := h) d t w (fun o ho => zfn ho), v_doubtV I d t w]
  · exact absurd hM hn
theorem v_doubt2 (I : vI h) {d w v : Int} {f : zH} (C : ¬ zDoC d w) {V : Int} {N : Prop} (P : mDoC d w ∧ v = V ∧ N ∨ ¬ mDoC d w ∧ v = 0 ∧ f = zst h 169 0 1) : vI f ∧ f 169 0 = 1 := by
  rcases P with ⟨M, -⟩ | ⟨-, -, e⟩
  · exact absurd ⟨⟨M.1.1, by have := M.1.2; omega⟩, M.2⟩ C
  · rw [e]
    exact ⟨I.t1, by rw [zst_or, if_pos rfl]⟩
end
abbrev xA : Code → Prop := fun _ => True
theorem zCw27 : Cond.codeWith mLmx.1 mLmx.by mLmx.nl mLmx.rt hhx ∈ zBIG := zBIG_in (List.mem_of_getElem? (l := lw_tbl) (i := 1028) (by decide +kernel)) rfl
theorem zCw28 : Cond.codeWith mLdo.1 mLdo.by mLdo.nl mLdo.rt hhd ∈ zBIG := zBIG_in (List.mem_of_getElem? (l := lw_tbl) (i := 1113) (by decide +kernel)) rfl
theorem x_scG {d : zMd} {X : zX} {dep bc bs n pc : Nat} {lv : List (Nat × zV)} {st : List zV} {h : zH} {Q : Nat → zH → List zV → Prop} {i k : Int} (j0 j4 : Nat) (g0 : lv[j0]? = some (0, xR 2000000)) (g4 : lv[j4]? = some (4, xI i)) (d1 : decode d.by pc = .ok (.aload_n 0, 1)) (d2 : decode d.by (pc + 1) = .ok (.iload 4, 2)) (d3 : decode d.by (pc + 3) = .ok (.iconst k, 1)) (d4 : decode d.by (pc + 4) = .ok (.iadd, 1)) (d5 : decode d.by (pc + 5) = .ok (.iaload, 1)) (h0 : 0 ≤ i) (hi : i + 6 ≤ X.1) (hk : 0 ≤ k ∧ k < 6) (hL : X.1 ≤ 3072) (kk : xW xA d X dep bc bs n (pc + 6) lv (xI (zsc X (i + k)) :: st) h Q) : xW xA d X dep bc bs n pc lv st h Q := by
  refine x_aload_n j0 d1 g0 ?_
  refine x_iload j4 d2 g4 ?_
  refine x_iconst d3 ⟨by omega, by omega⟩ ?_
  refine x_iadd d4 ?_
  rw [w32_id (by omega) (by omega)]
  exact x_sld d5 (by omega) (by omega) (by omega) kk
/-- a case of the law: from its entry to the loop's head, for at most a cell and six slots -/
def zCase (nm : String) (X : zX) (dep pc : Nat) : Prop := ∀ (bc bs : Nat) (i : Int) (h : zH) (Q : Nat → zH → List zV → Prop), vI h → 0 ≤ i → i + 6 ≤ X.1 → (∀ h', vI h' → xW xA (mLw nm) X dep bc bs 239 1564 (zLp i) [] h' Q) → xW xA (mLw nm) X dep (bc + 1) (bs + 6) 239 pc (zLp i) [] h Q
theorem zcmp_self (v : Int) : zcmp v v = 0 := by unfold zcmp; simp
theorem v_28 {h : zH} (I : vI h) : 0 ≤ h 169 28 ∧ h 169 28 ≤ 60 := by
  have ex := I.2.2.2.2.2.1.1
  have a := ex.1
  have b := ex.2.1
  have c := ex.2.2.1
  omega
theorem v_11 {h : zH} (I : vI h) : 0 ≤ h 11 2 ∧ h 11 2 ≤ 60 := by
  have ex := I.2.2.2.2.2.1.1
  have a := ex.1
  have b := ex.2.1
  have c := ex.2.2.1
  omega
theorem C_27 {nm : String} {X : zX} {dep : Nat} (hL : X.1 ≤ 3072) (hdep : 46 ≤ dep) : zCase nm X dep 1283 := by
  intro bc bs i h Q I h0 hi next
  refine x_aload_n (pc := 1283) 2 dL_law_1283 rfl ?_
  refine x_scG (pc := 1284) (k := 1) 1 0 rfl rfl dL_law_1284 dL_law_1285 dL_law_1287 dL_law_1288 dL_law_1289 h0 hi (by decide) hL ?_
  refine x_scG (pc := 1290) (k := 2) 1 0 rfl rfl dL_law_1290 dL_law_1291 dL_law_1293 dL_law_1294 dL_law_1295 h0 hi (by decide) hL ?_
  refine x_scG (pc := 1296) (k := 3) 1 0 rfl rfl dL_law_1296 dL_law_1297 dL_law_1299 dL_law_1300 dL_law_1301 h0 hi (by decide) hL ?_
  refine x_scG (pc := 1302) (k := 4) 1 0 rfl rfl dL_law_1302 dL_law_1303 dL_law_1305 dL_law_1306 dL_law_1307 h0 hi (by decide) hL ?_
  refine x_scG (pc := 1308) (k := 5) 1 0 rfl rfl dL_law_1308 dL_law_1309 dL_law_1311 dL_law_1312 dL_law_1313 h0 hi (by decide) hL ?_
  refine x_aload_n (pc := 1314) 4 dL_law_1314 rfl ?_
  refine x_invH (d := mLw nm) (pc := 1315) (index := 141) (hh := hhx) (as := [xR 0, xI (zsc X (i + 1)), xI (zsc X (i + 2)), xI (zsc X (i + 3)), xI (zsc X (i + 4)), xI (zsc X (i + 5)), xR 238]) (ra := [xR 238, xI (zsc X (i + 5)), xI (zsc X (i + 4)), xI (zsc X (i + 3)), xI (zsc X (i + 2)), xI (zsc X (i + 1)), xR 0]) (st := []) (dep' := 45) (bc' := 1) (bs' := 6) (s_mixed (zsc X (i + 1)) (zsc X (i + 2)) (zsc X (i + 3)) (zsc X (i + 4)) (zsc X (i + 5)) I.2.2.2.2.2.2.2.2.2.1.1 (by omega)) (fun n' h' q => ?_) dL_law_1315 (by decide +kernel) ⟨by decide, by decide, rfl⟩ (by decide) zCw27 zb_1026 zb_1027 zb_81 (by omega) (Nat.le_add_left _ _) (Nat.le_add_left _ _) (Nat.le_of_ble_eq_true rfl) (Nat.le_of_ble_eq_true rfl) rfl ?_
  · rcases q.2 with ⟨-, z, -⟩ | ⟨-, z, -⟩
    · exact zne_I z.symm
    · exact zne_I z.symm
  have key : ∀ (k : Int) (g : zH), (k = 0 ∨ k = 1) → (∀ v f, (mMxC g (zsc X (i + 1)) (zsc X (i + 2)) (zsc X (i + 3)) (zsc X (i + 4)) (zsc X (i + 5)) ∧ v = (if (zsc X (i + 5)) = 2 then mMxN g (zsc X (i + 1)) (zsc X (i + 2)) (zsc X (i + 3)) (zsc X (i + 4)) else zch 52 ((zsc X (i + 4)) - (zsc X (i + 3)) + 1) (zsc X (i + 2)) (mMxN g (zsc X (i + 1)) (zsc X (i + 2)) (zsc X (i + 3)) (zsc X (i + 4))) (zsc X (i + 5))) ∧ zag [234] (zst g 169 0 0) f ∨ ¬ mMxC g (zsc X (i + 1)) (zsc X (i + 2)) (zsc X (i + 3)) (zsc X (i + 4)) (zsc X (i + 5)) ∧ v = 0 ∧ f = zst g 169 0 1) → vI f ∧ f 169 0 = k ∧ (k = 0 → f 238 0 = v)) → (0 ≤ g 169 65 ∧ g 169 65 ≤ 4) → xW xA (mLw nm) X dep bc bs 239 1318 (zLp i) [xI k] g Q := by
    intro k g hk hP hb
    refine x_istore (pc := 1318) dL_law_1318 (show 5 < 8 by decide) rfl ?_
    refine x_aload_n (pc := 1320) 4 dL_law_1320 rfl ?_
    refine x_scG (pc := 1321) (k := 1) 2 1 rfl rfl dL_law_1321 dL_law_1322 dL_law_1324 dL_law_1325 dL_law_1326 h0 hi (by decide) hL ?_
    refine x_scG (pc := 1327) (k := 2) 2 1 rfl rfl dL_law_1327 dL_law_1328 dL_law_1330 dL_law_1331 dL_law_1332 h0 hi (by decide) hL ?_
    refine x_scG (pc := 1333) (k := 3) 2 1 rfl rfl dL_law_1333 dL_law_1334 dL_law_1336 dL_law_1337 dL_law_1338 h0 hi (by decide) hL ?_
    refine x_scG (pc := 1339) (k := 4) 2 1 rfl rfl dL_law_1339 dL_law_1340 dL_law_1342 dL_law_1343 dL_law_1344 h0 hi (by decide) hL ?_
    refine x_scG (pc := 1345) (k := 5) 2 1 rfl rfl dL_law_1345 dL_law_1346 dL_law_1348 dL_law_1349 dL_law_1350 h0 hi (by decide) hL ?_
    refine x_invQL (d := mLw nm) (pc := 1351) (index := 146) (ci := 11) (N := 97) (as := [xI (zsc X (i + 1)), xI (zsc X (i + 2)), xI (zsc X (i + 3)), xI (zsc X (i + 4)), xI (zsc X (i + 5))]) (ra := [xI (zsc X (i + 5)), xI (zsc X (i + 4)), xI (zsc X (i + 3)), xI (zsc X (i + 2)), xI (zsc X (i + 1))]) (st := []) (dep' := 45) (f_X11_mixed (zsc X (i + 1)) (zsc X (i + 2)) (zsc X (i + 3)) (zsc X (i + 4)) (zsc X (i + 5)) hb (by decide)) dL_law_1351 nX11_mixed zb_1731 zb_1732 zb_1733 zb_92 (zOb.lit (by decide +kernel)) rfl (by omega) (Nat.le_of_ble_eq_true rfl) (Nat.le_of_ble_eq_true rfl) rfl (fun v f P => ?_)
    obtain ⟨If, f0, f8⟩ := hP v f P
    refine x_lstore (pc := 1354) dL_law_1354 (show 7 < 8 by decide) rfl ?_
    refine x_aload_n (pc := 1356) 5 dL_law_1356 rfl ?_
    refine x_invQI (d := mLw nm) (pc := 1357) (index := 147) (ci := 11) (N := 97) (as := []) (ra := []) (st := []) (dep' := 45) (zfI f_X11_thrown) dL_law_1357 nX11_thrown zb_1417 zb_1418 zb_1419 zb_92 (zOb.lit (by decide +kernel)) rfl (by omega) (Nat.le_of_ble_eq_true rfl) (Nat.le_of_ble_eq_true rfl) rfl (fun u f' P' => ?_)
    obtain ⟨eu, ef⟩ : u = f 169 0 ∧ f = f' := P'
    rw [← ef, eu, f0]
    refine x_iload (pc := 1360) 1 dL_law_1360 rfl ?_
    refine x_icmp_eq (pc := 1362) (tgt := 1367) dL_law_1362 rfl (fun _ => ?_) (fun z => absurd rfl z)
    refine x_iload (pc := 1367) 1 dL_law_1367 rfl ?_
    have fin : xW xA (mLw nm) X dep bc bs 239 1383 [(6, xL v), (5, xI k), (4, xI i), (0, xR 2000000), (1, xR 0), (2, xR 169), (3, xR 238)] [] f Q := by
      refine x_goto (pc := 1383) dL_law_1383 (tgt := 1564) rfl ?_
      exact xW.sub [2, 3, 4, 5, 6] rfl (next f If)
    refine x_if_ne (pc := 1369) (tgt := 1383) dL_law_1369 rfl (fun _ => fin) (fun z => ?_)
    refine x_aload_n (pc := 1372) 6 dL_law_1372 rfl ?_
    refine x_iconst (pc := 1373) dL_law_1373 ⟨by decide, by decide⟩ ?_
    refine x_lald (pc := 1374) (N := 1) dL_law_1374 (zOb.lit (by decide +kernel)) (by decide) (by decide) ?_
    refine x_lload (pc := 1375) 0 dL_law_1375 rfl ?_
    refine x_lcmp (pc := 1377) dL_law_1377 ?_
    rw [f8 z]
    exact x_if_eq (pc := 1378) (tgt := 1383) dL_law_1378 rfl (fun _ => fin) (fun y => absurd (zcmp_self v) y)
  rintro n' g rs ⟨rfl, q⟩ -
  rcases q with ⟨C, rfl, eg⟩ | ⟨C, rfl, eg⟩
  · rw [eg]
    refine key 0 _ (Or.inl rfl) (fun v f P => ?_) ?_
    · obtain ⟨a1, a2, a3⟩ := v_mixed1 I C P
      exact ⟨a1, a2, fun _ => a3⟩
    · rw [show zst h 238 0 (zMxV h (zsc X (i + 1)) (zsc X (i + 2)) (zsc X (i + 3)) (zsc X (i + 4)) (zsc X (i + 5))) 169 65 = h 169 65 from zst_ne (Or.inl (by decide)), I.2.2.2.2.2.2.2.2.2.1.2.1]
      exact I.2.2.2.2.2.2.2.2.2.1.1
  · rw [eg]
    refine key 1 _ (Or.inr rfl) (fun v f P => ?_) ?_
    · obtain ⟨a1, a2⟩ := v_mixed2 I C P
      exact ⟨a1, a2, fun z => absurd z (by decide)⟩
    · rw [I.2.2.2.2.2.2.2.2.2.1.2.1]
      exact I.2.2.2.2.2.2.2.2.2.1.1
theorem C_28 {nm : String} {X : zX} {dep : Nat} (hL : X.1 ≤ 3072) (hdep : 46 ≤ dep) : zCase nm X dep 1386 := by
  intro bc bs i h Q I h0 hi next
  refine x_aload_n (pc := 1386) 2 dL_law_1386 rfl ?_
  refine x_scG (pc := 1387) (k := 1) 1 0 rfl rfl dL_law_1387 dL_law_1388 dL_law_1390 dL_law_1391 dL_law_1392 h0 hi (by decide) hL ?_
  refine x_scG (pc := 1393) (k := 2) 1 0 rfl rfl dL_law_1393 dL_law_1394 dL_law_1396 dL_law_1397 dL_law_1398 h0 hi (by decide) hL ?_
  refine x_scG (pc := 1399) (k := 3) 1 0 rfl rfl dL_law_1399 dL_law_1400 dL_law_1402 dL_law_1403 dL_law_1404 h0 hi (by decide) hL ?_
  refine x_aload_n (pc := 1405) 4 dL_law_1405 rfl ?_
  refine x_invH (d := mLw nm) (pc := 1406) (index := 150) (hh := hhd) (as := [xR 0, xI (zsc X (i + 1)), xI (zsc X (i + 2)), xI (zsc X (i + 3)), xR 238]) (ra := [xR 238, xI (zsc X (i + 3)), xI (zsc X (i + 2)), xI (zsc X (i + 1)), xR 0]) (st := []) (dep' := 45) (bc' := 1) (bs' := 6) (s_doubt (zsc X (i + 1)) (zsc X (i + 2)) (zsc X (i + 3)) (v_11 I) (by omega)) (fun n' h' q => ?_) dL_law_1406 (by decide +kernel) ⟨by decide, by decide, rfl⟩ (by decide) zCw28 zb_1109 zb_1110 zb_81 (by omega) (Nat.le_add_left _ _) (Nat.le_add_left _ _) (Nat.le_of_ble_eq_true rfl) (Nat.le_of_ble_eq_true rfl) rfl ?_
  · rcases q.2 with ⟨-, z, -⟩ | ⟨-, z, -⟩
    · exact zne_I z.symm
    · exact zne_I z.symm
  have key : ∀ (k : Int) (g : zH), (k = 0 ∨ k = 1) → (∀ v f, (mDoC (zsc X (i + 1)) (zsc X (i + 3)) ∧ v = mDoV g (zsc X (i + 1)) (zsc X (i + 2)) (zsc X (i + 3)) ∧ zag [234] (zst g 169 0 0) f ∨ ¬ mDoC (zsc X (i + 1)) (zsc X (i + 3)) ∧ v = 0 ∧ f = zst g 169 0 1) → vI f ∧ f 169 0 = k ∧ (k = 0 → f 238 0 = v)) → (0 ≤ g 169 28 ∧ g 169 28 ≤ 60) → xW xA (mLw nm) X dep bc bs 239 1409 (zLp i) [xI k] g Q := by
    intro k g hk hP hb
    refine x_istore (pc := 1409) dL_law_1409 (show 5 < 8 by decide) rfl ?_
    refine x_aload_n (pc := 1411) 4 dL_law_1411 rfl ?_
    refine x_scG (pc := 1412) (k := 1) 2 1 rfl rfl dL_law_1412 dL_law_1413 dL_law_1415 dL_law_1416 dL_law_1417 h0 hi (by decide) hL ?_
    refine x_scG (pc := 1418) (k := 2) 2 1 rfl rfl dL_law_1418 dL_law_1419 dL_law_1421 dL_law_1422 dL_law_1423 h0 hi (by decide) hL ?_
    refine x_scG (pc := 1424) (k := 3) 2 1 rfl rfl dL_law_1424 dL_law_1425 dL_law_1427 dL_law_1428 dL_law_1429 h0 hi (by decide) hL ?_
    refine x_invQL (d := mLw nm) (pc := 1430) (index := 153) (ci := 11) (N := 97) (as := [xI (zsc X (i + 1)), xI (zsc X (i + 2)), xI (zsc X (i + 3))]) (ra := [xI (zsc X (i + 3)), xI (zsc X (i + 2)), xI (zsc X (i + 1))]) (st := []) (dep' := 45) (f_X11_doubt (zsc X (i + 1)) (zsc X (i + 2)) (zsc X (i + 3)) hb (by decide)) dL_law_1430 nX11_doubt zb_1746 zb_1747 zb_1748 zb_92 (zOb.lit (by decide +kernel)) rfl (by omega) (Nat.le_of_ble_eq_true rfl) (Nat.le_of_ble_eq_true rfl) rfl (fun v f P => ?_)
    obtain ⟨If, f0, f8⟩ := hP v f P
    refine x_lstore (pc := 1433) dL_law_1433 (show 7 < 8 by decide) rfl ?_
    refine x_aload_n (pc := 1435) 5 dL_law_1435 rfl ?_
    refine x_invQI (d := mLw nm) (pc := 1436) (index := 147) (ci := 11) (N := 97) (as := []) (ra := []) (st := []) (dep' := 45) (zfI f_X11_thrown) dL_law_1436 nX11_thrown zb_1417 zb_1418 zb_1419 zb_92 (zOb.lit (by decide +kernel)) rfl (by omega) (Nat.le_of_ble_eq_true rfl) (Nat.le_of_ble_eq_true rfl) rfl (fun u f' P' => ?_)
    obtain ⟨eu, ef⟩ : u = f 169 0 ∧ f = f' := P'
    rw [← ef, eu, f0]
    refine x_iload (pc := 1439) 1 dL_law_1439 rfl ?_
    refine x_icmp_eq (pc := 1441) (tgt := 1446) dL_law_1441 rfl (fun _ => ?_) (fun z => absurd rfl z)
    refine x_iload (pc := 1446) 1 dL_law_1446 rfl ?_
    have fin : xW xA (mLw nm) X dep bc bs 239 1462 [(6, xL v), (5, xI k), (4, xI i), (0, xR 2000000), (1, xR 0), (2, xR 169), (3, xR 238)] [] f Q := by
      refine x_goto (pc := 1462) dL_law_1462 (tgt := 1564) rfl ?_
      exact xW.sub [2, 3, 4, 5, 6] rfl (next f If)
    refine x_if_ne (pc := 1448) (tgt := 1462) dL_law_1448 rfl (fun _ => fin) (fun z => ?_)
    refine x_aload_n (pc := 1451) 6 dL_law_1451 rfl ?_
    refine x_iconst (pc := 1452) dL_law_1452 ⟨by decide, by decide⟩ ?_
    refine x_lald (pc := 1453) (N := 1) dL_law_1453 (zOb.lit (by decide +kernel)) (by decide) (by decide) ?_
    refine x_lload (pc := 1454) 0 dL_law_1454 rfl ?_
    refine x_lcmp (pc := 1456) dL_law_1456 ?_
    rw [f8 z]
    exact x_if_eq (pc := 1457) (tgt := 1462) dL_law_1457 rfl (fun _ => fin) (fun y => absurd (zcmp_self v) y)
  rintro n' g rs ⟨rfl, q⟩ -
  rcases q with ⟨C, rfl, eg⟩ | ⟨C, rfl, eg⟩
  · rw [eg]
    refine key 0 _ (Or.inl rfl) (fun v f P => ?_) ?_
    · obtain ⟨a1, a2, a3⟩ := v_doubt1 I C P
      exact ⟨a1, a2, fun _ => a3⟩
    · rw [show zst h 238 0 (zDoV h (zsc X (i + 1)) (zsc X (i + 2)) (zsc X (i + 3))) 169 28 = h 169 28 from zst_ne (Or.inl (by decide))]
      exact v_28 I
  · rw [eg]
    refine key 1 _ (Or.inr rfl) (fun v f P => ?_) ?_
    · obtain ⟨a1, a2⟩ := v_doubt2 I C P
      exact ⟨a1, a2, fun z => absurd z (by decide)⟩
    · exact v_28 I
