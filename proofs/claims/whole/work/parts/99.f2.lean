/-! the law's cases but mixed and doubt -/
theorem x_same {Ψ : Code → Prop} {d : zMd} {X : zX} {dep bc bs n pc : Nat} {lv : List (Nat × zV)} {h : zH} {Q : Nat → zH → List zV → Prop} {a b off : Int} {tgt : Nat} (hdg : decode d.by pc = .ok (.if_icmp .eq off, 3)) (ht : (pc : Int) + off = (tgt : Int)) (e : b = a) (k : xW Ψ d X dep bc bs n tgt lv [] h Q) : xW Ψ d X dep bc bs n pc lv [xI b, xI a] h Q :=
  x_icmp_eq hdg ht (fun _ => k) (fun c => absurd e.symm c)
theorem L_0 {nm : String} {X : zX} {dep bc bs : Nat} {i : Int} {h : zH} {Q : Nat → zH → List zV → Prop} (I : vI h) (h0 : 0 ≤ i) (hi : i + 6 ≤ X.1) (hL : X.1 ≤ 3072) (hdep : 46 ≤ dep) (next : ∀ h', vI h' → xW xA (mLw nm) X dep bc bs 239 1564 (zLp i) [] h' Q) : xW xA (mLw nm) X dep bc bs 239 184 (zLp i) [] h Q := by
  refine x_aload_n (pc := 184) 2 dL_law_184 rfl ?_
  refine x_sc (pc := 185) (k := 1) dL_law_185 dL_law_186 dL_law_188 dL_law_189 dL_law_190 h0 hi (by decide) hL ?_
  refine x_sc (pc := 191) (k := 2) dL_law_191 dL_law_192 dL_law_194 dL_law_195 dL_law_196 h0 hi (by decide) hL ?_
  refine x_sc (pc := 197) (k := 3) dL_law_197 dL_law_198 dL_law_200 dL_law_201 dL_law_202 h0 hi (by decide) hL ?_
  refine x_sc (pc := 203) (k := 4) dL_law_203 dL_law_204 dL_law_206 dL_law_207 dL_law_208 h0 hi (by decide) hL ?_
  refine x_sc (pc := 209) (k := 5) dL_law_209 dL_law_210 dL_law_212 dL_law_213 dL_law_214 h0 hi (by decide) hL ?_
  refine x_invQI (d := mLw nm) (pc := 215) (index := 23) (ci := 10) (N := 17) (as := [xI (zsc X (i + 1)), xI (zsc X (i + 2)), xI (zsc X (i + 3)), xI (zsc X (i + 4)), xI (zsc X (i + 5))]) (st := []) (ra := [xI (zsc X (i + 5)), xI (zsc X (i + 4)), xI (zsc X (i + 3)), xI (zsc X (i + 2)), xI (zsc X (i + 1))]) (dep' := 45) (v_feed _ _ _ _ _ I (by decide)) dL_law_215 nX10_feed zb_509 zb_510 zb_511 zb_82 (zOb.lit (by decide +kernel)) rfl (by omega) (Nat.le_of_ble_eq_true rfl) (Nat.le_of_ble_eq_true rfl) rfl (fun v g P => ?_)
  refine x_aload_n (pc := 218) 3 dL_law_218 rfl ?_
  refine x_sc (pc := 219) (k := 1) dL_law_219 dL_law_220 dL_law_222 dL_law_223 dL_law_224 h0 hi (by decide) hL ?_
  refine x_sc (pc := 225) (k := 2) dL_law_225 dL_law_226 dL_law_228 dL_law_229 dL_law_230 h0 hi (by decide) hL ?_
  refine x_sc (pc := 231) (k := 3) dL_law_231 dL_law_232 dL_law_234 dL_law_235 dL_law_236 h0 hi (by decide) hL ?_
  refine x_sc (pc := 237) (k := 4) dL_law_237 dL_law_238 dL_law_240 dL_law_241 dL_law_242 h0 hi (by decide) hL ?_
  refine x_sc (pc := 243) (k := 5) dL_law_243 dL_law_244 dL_law_246 dL_law_247 dL_law_248 h0 hi (by decide) hL ?_
  refine x_invQI (d := mLw nm) (pc := 249) (index := 27) (ci := 11) (N := 97) (as := [xI (zsc X (i + 1)), xI (zsc X (i + 2)), xI (zsc X (i + 3)), xI (zsc X (i + 4)), xI (zsc X (i + 5))]) (st := [xI v]) (ra := [xI (zsc X (i + 5)), xI (zsc X (i + 4)), xI (zsc X (i + 3)), xI (zsc X (i + 2)), xI (zsc X (i + 1))]) (dep' := 45) P dL_law_249 nX11_feed zb_1421 zb_1422 zb_1423 zb_92 (zOb.lit (by decide +kernel)) rfl (by omega) (Nat.le_of_ble_eq_true rfl) (Nat.le_of_ble_eq_true rfl) rfl (fun w f q => ?_)
  exact x_same (pc := 252) dL_law_252 rfl q.1 (next f q.2)
theorem L_1 {nm : String} {X : zX} {dep bc bs : Nat} {i : Int} {h : zH} {Q : Nat → zH → List zV → Prop} (I : vI h) (h0 : 0 ≤ i) (hi : i + 6 ≤ X.1) (hL : X.1 ≤ 3072) (hdep : 46 ≤ dep) (next : ∀ h', vI h' → xW xA (mLw nm) X dep bc bs 239 1564 (zLp i) [] h' Q) : xW xA (mLw nm) X dep bc bs 239 257 (zLp i) [] h Q := by
  refine x_aload_n (pc := 257) 2 dL_law_257 rfl ?_
  refine x_sc (pc := 258) (k := 1) dL_law_258 dL_law_259 dL_law_261 dL_law_262 dL_law_263 h0 hi (by decide) hL ?_
  refine x_invQI (d := mLw nm) (pc := 264) (index := 28) (ci := 10) (N := 17) (as := [xI (zsc X (i + 1))]) (st := []) (ra := [xI (zsc X (i + 1))]) (dep' := 45) (v_end _ I) dL_law_264 nX10_end zb_517 zb_518 zb_519 zb_82 (zOb.lit (by decide +kernel)) rfl (by omega) (Nat.le_of_ble_eq_true rfl) (Nat.le_of_ble_eq_true rfl) rfl (fun v g P => ?_)
  refine x_aload_n (pc := 267) 3 dL_law_267 rfl ?_
  refine x_sc (pc := 268) (k := 1) dL_law_268 dL_law_269 dL_law_271 dL_law_272 dL_law_273 h0 hi (by decide) hL ?_
  refine x_invQI (d := mLw nm) (pc := 274) (index := 32) (ci := 11) (N := 97) (as := [xI (zsc X (i + 1))]) (st := [xI v]) (ra := [xI (zsc X (i + 1))]) (dep' := 45) P dL_law_274 nX11_end zb_1429 zb_1430 zb_1431 zb_92 (zOb.lit (by decide +kernel)) rfl (by omega) (Nat.le_of_ble_eq_true rfl) (Nat.le_of_ble_eq_true rfl) rfl (fun w f q => ?_)
  exact x_same (pc := 277) dL_law_277 rfl q.1 (next f q.2)
theorem L_2 {nm : String} {X : zX} {dep bc bs : Nat} {i : Int} {h : zH} {Q : Nat → zH → List zV → Prop} (I : vI h) (h0 : 0 ≤ i) (hi : i + 6 ≤ X.1) (hL : X.1 ≤ 3072) (hdep : 46 ≤ dep) (next : ∀ h', vI h' → xW xA (mLw nm) X dep bc bs 239 1564 (zLp i) [] h' Q) : xW xA (mLw nm) X dep bc bs 239 282 (zLp i) [] h Q := by
  refine x_aload_n (pc := 282) 2 dL_law_282 rfl ?_
  refine x_sc (pc := 283) (k := 1) dL_law_283 dL_law_284 dL_law_286 dL_law_287 dL_law_288 h0 hi (by decide) hL ?_
  refine x_invQI (d := mLw nm) (pc := 289) (index := 33) (ci := 10) (N := 17) (as := [xI (zsc X (i + 1))]) (st := []) (ra := [xI (zsc X (i + 1))]) (dep' := 45) (v_next _ I (by decide)) dL_law_289 nX10_next zb_521 zb_522 zb_523 zb_82 (zOb.lit (by decide +kernel)) rfl (by omega) (Nat.le_of_ble_eq_true rfl) (Nat.le_of_ble_eq_true rfl) rfl (fun v g P => ?_)
  refine x_aload_n (pc := 292) 3 dL_law_292 rfl ?_
  refine x_sc (pc := 293) (k := 1) dL_law_293 dL_law_294 dL_law_296 dL_law_297 dL_law_298 h0 hi (by decide) hL ?_
  refine x_invQI (d := mLw nm) (pc := 299) (index := 37) (ci := 11) (N := 97) (as := [xI (zsc X (i + 1))]) (st := [xI v]) (ra := [xI (zsc X (i + 1))]) (dep' := 45) P dL_law_299 nX11_next zb_1433 zb_1434 zb_1435 zb_92 (zOb.lit (by decide +kernel)) rfl (by omega) (Nat.le_of_ble_eq_true rfl) (Nat.le_of_ble_eq_true rfl) rfl (fun w f q => ?_)
  exact x_same (pc := 302) dL_law_302 rfl q.1 (next f q.2)
theorem L_3 {nm : String} {X : zX} {dep bc bs : Nat} {i : Int} {h : zH} {Q : Nat → zH → List zV → Prop} (I : vI h) (h0 : 0 ≤ i) (hi : i + 6 ≤ X.1) (hL : X.1 ≤ 3072) (hdep : 46 ≤ dep) (next : ∀ h', vI h' → xW xA (mLw nm) X dep bc bs 239 1564 (zLp i) [] h' Q) : xW xA (mLw nm) X dep bc bs 239 307 (zLp i) [] h Q := by
  refine x_aload_n (pc := 307) 2 dL_law_307 rfl ?_
  refine x_sc (pc := 308) (k := 1) dL_law_308 dL_law_309 dL_law_311 dL_law_312 dL_law_313 h0 hi (by decide) hL ?_
  refine x_sc (pc := 314) (k := 2) dL_law_314 dL_law_315 dL_law_317 dL_law_318 dL_law_319 h0 hi (by decide) hL ?_
  refine x_invQI (d := mLw nm) (pc := 320) (index := 38) (ci := 10) (N := 17) (as := [xI (zsc X (i + 1)), xI (zsc X (i + 2))]) (st := []) (ra := [xI (zsc X (i + 2)), xI (zsc X (i + 1))]) (dep' := 45) (v_man _ _ I (by decide)) dL_law_320 nX10_man zb_528 zb_529 zb_530 zb_82 (zOb.lit (by decide +kernel)) rfl (by omega) (Nat.le_of_ble_eq_true rfl) (Nat.le_of_ble_eq_true rfl) rfl (fun v g P => ?_)
  refine x_aload_n (pc := 323) 3 dL_law_323 rfl ?_
  refine x_sc (pc := 324) (k := 1) dL_law_324 dL_law_325 dL_law_327 dL_law_328 dL_law_329 h0 hi (by decide) hL ?_
  refine x_sc (pc := 330) (k := 2) dL_law_330 dL_law_331 dL_law_333 dL_law_334 dL_law_335 h0 hi (by decide) hL ?_
  refine x_invQI (d := mLw nm) (pc := 336) (index := 42) (ci := 11) (N := 97) (as := [xI (zsc X (i + 1)), xI (zsc X (i + 2))]) (st := [xI v]) (ra := [xI (zsc X (i + 2)), xI (zsc X (i + 1))]) (dep' := 45) P dL_law_336 nX11_man zb_1440 zb_1441 zb_1442 zb_92 (zOb.lit (by decide +kernel)) rfl (by omega) (Nat.le_of_ble_eq_true rfl) (Nat.le_of_ble_eq_true rfl) rfl (fun w f q => ?_)
  exact x_same (pc := 339) dL_law_339 rfl q.1 (next f q.2)
theorem L_4 {nm : String} {X : zX} {dep bc bs : Nat} {i : Int} {h : zH} {Q : Nat → zH → List zV → Prop} (I : vI h) (h0 : 0 ≤ i) (hi : i + 6 ≤ X.1) (hL : X.1 ≤ 3072) (hdep : 46 ≤ dep) (next : ∀ h', vI h' → xW xA (mLw nm) X dep bc bs 239 1564 (zLp i) [] h' Q) : xW xA (mLw nm) X dep bc bs 239 344 (zLp i) [] h Q := by
  refine x_aload_n (pc := 344) 2 dL_law_344 rfl ?_
  refine x_sc (pc := 345) (k := 1) dL_law_345 dL_law_346 dL_law_348 dL_law_349 dL_law_350 h0 hi (by decide) hL ?_
  refine x_sc (pc := 351) (k := 2) dL_law_351 dL_law_352 dL_law_354 dL_law_355 dL_law_356 h0 hi (by decide) hL ?_
  refine x_sc (pc := 357) (k := 3) dL_law_357 dL_law_358 dL_law_360 dL_law_361 dL_law_362 h0 hi (by decide) hL ?_
  refine x_invQI (d := mLw nm) (pc := 363) (index := 43) (ci := 10) (N := 17) (as := [xI (zsc X (i + 1)), xI (zsc X (i + 2)), xI (zsc X (i + 3))]) (st := []) (ra := [xI (zsc X (i + 3)), xI (zsc X (i + 2)), xI (zsc X (i + 1))]) (dep' := 45) (v_birth _ _ _ I (by decide)) dL_law_363 nX10_birth zb_555 zb_556 zb_557 zb_82 (zOb.lit (by decide +kernel)) rfl (by omega) (Nat.le_of_ble_eq_true rfl) (Nat.le_of_ble_eq_true rfl) rfl (fun v g P => ?_)
  refine x_aload_n (pc := 366) 3 dL_law_366 rfl ?_
  refine x_sc (pc := 367) (k := 1) dL_law_367 dL_law_368 dL_law_370 dL_law_371 dL_law_372 h0 hi (by decide) hL ?_
  refine x_sc (pc := 373) (k := 2) dL_law_373 dL_law_374 dL_law_376 dL_law_377 dL_law_378 h0 hi (by decide) hL ?_
  refine x_sc (pc := 379) (k := 3) dL_law_379 dL_law_380 dL_law_382 dL_law_383 dL_law_384 h0 hi (by decide) hL ?_
  refine x_invQI (d := mLw nm) (pc := 385) (index := 47) (ci := 11) (N := 97) (as := [xI (zsc X (i + 1)), xI (zsc X (i + 2)), xI (zsc X (i + 3))]) (st := [xI v]) (ra := [xI (zsc X (i + 3)), xI (zsc X (i + 2)), xI (zsc X (i + 1))]) (dep' := 45) P dL_law_385 nX11_birth zb_1451 zb_1452 zb_1453 zb_92 (zOb.lit (by decide +kernel)) rfl (by omega) (Nat.le_of_ble_eq_true rfl) (Nat.le_of_ble_eq_true rfl) rfl (fun w f q => ?_)
  exact x_same (pc := 388) dL_law_388 rfl q.1 (next f q.2)
theorem L_5 {nm : String} {X : zX} {dep bc bs : Nat} {i : Int} {h : zH} {Q : Nat → zH → List zV → Prop} (I : vI h) (h0 : 0 ≤ i) (hi : i + 6 ≤ X.1) (hL : X.1 ≤ 3072) (hdep : 46 ≤ dep) (next : ∀ h', vI h' → xW xA (mLw nm) X dep bc bs 239 1564 (zLp i) [] h' Q) : xW xA (mLw nm) X dep bc bs 239 393 (zLp i) [] h Q := by
  refine x_aload_n (pc := 393) 2 dL_law_393 rfl ?_
  refine x_sc (pc := 394) (k := 1) dL_law_394 dL_law_395 dL_law_397 dL_law_398 dL_law_399 h0 hi (by decide) hL ?_
  refine x_sc (pc := 400) (k := 2) dL_law_400 dL_law_401 dL_law_403 dL_law_404 dL_law_405 h0 hi (by decide) hL ?_
  refine x_sc (pc := 406) (k := 3) dL_law_406 dL_law_407 dL_law_409 dL_law_410 dL_law_411 h0 hi (by decide) hL ?_
  refine x_sc (pc := 412) (k := 4) dL_law_412 dL_law_413 dL_law_415 dL_law_416 dL_law_417 h0 hi (by decide) hL ?_
  refine x_sc (pc := 418) (k := 5) dL_law_418 dL_law_419 dL_law_421 dL_law_422 dL_law_423 h0 hi (by decide) hL ?_
  refine x_invQI (d := mLw nm) (pc := 424) (index := 48) (ci := 10) (N := 17) (as := [xI (zsc X (i + 1)), xI (zsc X (i + 2)), xI (zsc X (i + 3)), xI (zsc X (i + 4)), xI (zsc X (i + 5))]) (st := []) (ra := [xI (zsc X (i + 5)), xI (zsc X (i + 4)), xI (zsc X (i + 3)), xI (zsc X (i + 2)), xI (zsc X (i + 1))]) (dep' := 45) (v_fact _ _ _ _ _ I (by decide)) dL_law_424 nX10_fact zb_570 zb_571 zb_572 zb_82 (zOb.lit (by decide +kernel)) rfl (by omega) (Nat.le_of_ble_eq_true rfl) (Nat.le_of_ble_eq_true rfl) rfl (fun v g P => ?_)
  refine x_aload_n (pc := 427) 3 dL_law_427 rfl ?_
  refine x_sc (pc := 428) (k := 1) dL_law_428 dL_law_429 dL_law_431 dL_law_432 dL_law_433 h0 hi (by decide) hL ?_
  refine x_sc (pc := 434) (k := 2) dL_law_434 dL_law_435 dL_law_437 dL_law_438 dL_law_439 h0 hi (by decide) hL ?_
  refine x_sc (pc := 440) (k := 3) dL_law_440 dL_law_441 dL_law_443 dL_law_444 dL_law_445 h0 hi (by decide) hL ?_
  refine x_sc (pc := 446) (k := 4) dL_law_446 dL_law_447 dL_law_449 dL_law_450 dL_law_451 h0 hi (by decide) hL ?_
  refine x_sc (pc := 452) (k := 5) dL_law_452 dL_law_453 dL_law_455 dL_law_456 dL_law_457 h0 hi (by decide) hL ?_
  refine x_invQI (d := mLw nm) (pc := 458) (index := 52) (ci := 11) (N := 97) (as := [xI (zsc X (i + 1)), xI (zsc X (i + 2)), xI (zsc X (i + 3)), xI (zsc X (i + 4)), xI (zsc X (i + 5))]) (st := [xI v]) (ra := [xI (zsc X (i + 5)), xI (zsc X (i + 4)), xI (zsc X (i + 3)), xI (zsc X (i + 2)), xI (zsc X (i + 1))]) (dep' := 45) P dL_law_458 nX11_fact zb_1459 zb_1460 zb_1461 zb_92 (zOb.lit (by decide +kernel)) rfl (by omega) (Nat.le_of_ble_eq_true rfl) (Nat.le_of_ble_eq_true rfl) rfl (fun w f q => ?_)
  exact x_same (pc := 461) dL_law_461 rfl q.1 (next f q.2)
theorem L_6 {nm : String} {X : zX} {dep bc bs : Nat} {i : Int} {h : zH} {Q : Nat → zH → List zV → Prop} (I : vI h) (h0 : 0 ≤ i) (hi : i + 6 ≤ X.1) (hL : X.1 ≤ 3072) (hdep : 46 ≤ dep) (next : ∀ h', vI h' → xW xA (mLw nm) X dep bc bs 239 1564 (zLp i) [] h' Q) : xW xA (mLw nm) X dep bc bs 239 466 (zLp i) [] h Q := by
  refine x_aload_n (pc := 466) 2 dL_law_466 rfl ?_
  refine x_sc (pc := 467) (k := 1) dL_law_467 dL_law_468 dL_law_470 dL_law_471 dL_law_472 h0 hi (by decide) hL ?_
  refine x_sc (pc := 473) (k := 2) dL_law_473 dL_law_474 dL_law_476 dL_law_477 dL_law_478 h0 hi (by decide) hL ?_
  refine x_sc (pc := 479) (k := 3) dL_law_479 dL_law_480 dL_law_482 dL_law_483 dL_law_484 h0 hi (by decide) hL ?_
  refine x_invQI (d := mLw nm) (pc := 485) (index := 53) (ci := 10) (N := 17) (as := [xI (zsc X (i + 1)), xI (zsc X (i + 2)), xI (zsc X (i + 3))]) (st := []) (ra := [xI (zsc X (i + 3)), xI (zsc X (i + 2)), xI (zsc X (i + 1))]) (dep' := 45) (v_exam _ _ _ I (by decide)) dL_law_485 nX10_exam zb_577 zb_578 zb_579 zb_82 (zOb.lit (by decide +kernel)) rfl (by omega) (Nat.le_of_ble_eq_true rfl) (Nat.le_of_ble_eq_true rfl) rfl (fun v g P => ?_)
  refine x_aload_n (pc := 488) 3 dL_law_488 rfl ?_
  refine x_sc (pc := 489) (k := 1) dL_law_489 dL_law_490 dL_law_492 dL_law_493 dL_law_494 h0 hi (by decide) hL ?_
  refine x_sc (pc := 495) (k := 2) dL_law_495 dL_law_496 dL_law_498 dL_law_499 dL_law_500 h0 hi (by decide) hL ?_
  refine x_sc (pc := 501) (k := 3) dL_law_501 dL_law_502 dL_law_504 dL_law_505 dL_law_506 h0 hi (by decide) hL ?_
  refine x_invQI (d := mLw nm) (pc := 507) (index := 56) (ci := 11) (N := 97) (as := [xI (zsc X (i + 1)), xI (zsc X (i + 2)), xI (zsc X (i + 3))]) (st := [xI v]) (ra := [xI (zsc X (i + 3)), xI (zsc X (i + 2)), xI (zsc X (i + 1))]) (dep' := 45) P dL_law_507 nX11_exam zb_1463 zb_1464 zb_1465 zb_92 (zOb.lit (by decide +kernel)) rfl (by omega) (Nat.le_of_ble_eq_true rfl) (Nat.le_of_ble_eq_true rfl) rfl (fun w f q => ?_)
  exact x_same (pc := 510) dL_law_510 rfl q.1 (next f q.2)
theorem L_7 {nm : String} {X : zX} {dep bc bs : Nat} {i : Int} {h : zH} {Q : Nat → zH → List zV → Prop} (I : vI h) (h0 : 0 ≤ i) (hi : i + 6 ≤ X.1) (hL : X.1 ≤ 3072) (hdep : 46 ≤ dep) (next : ∀ h', vI h' → xW xA (mLw nm) X dep bc bs 239 1564 (zLp i) [] h' Q) : xW xA (mLw nm) X dep bc bs 239 515 (zLp i) [] h Q := by
  refine x_aload_n (pc := 515) 2 dL_law_515 rfl ?_
  refine x_sc (pc := 516) (k := 1) dL_law_516 dL_law_517 dL_law_519 dL_law_520 dL_law_521 h0 hi (by decide) hL ?_
  refine x_sc (pc := 522) (k := 2) dL_law_522 dL_law_523 dL_law_525 dL_law_526 dL_law_527 h0 hi (by decide) hL ?_
  refine x_invQI (d := mLw nm) (pc := 528) (index := 57) (ci := 10) (N := 17) (as := [xI (zsc X (i + 1)), xI (zsc X (i + 2))]) (st := []) (ra := [xI (zsc X (i + 2)), xI (zsc X (i + 1))]) (dep' := 45) (v_same _ _ I (by decide)) dL_law_528 nX10_same zb_584 zb_585 zb_586 zb_82 (zOb.lit (by decide +kernel)) rfl (by omega) (Nat.le_of_ble_eq_true rfl) (Nat.le_of_ble_eq_true rfl) rfl (fun v g P => ?_)
  refine x_aload_n (pc := 531) 3 dL_law_531 rfl ?_
  refine x_sc (pc := 532) (k := 1) dL_law_532 dL_law_533 dL_law_535 dL_law_536 dL_law_537 h0 hi (by decide) hL ?_
  refine x_sc (pc := 538) (k := 2) dL_law_538 dL_law_539 dL_law_541 dL_law_542 dL_law_543 h0 hi (by decide) hL ?_
  refine x_invQI (d := mLw nm) (pc := 544) (index := 61) (ci := 11) (N := 97) (as := [xI (zsc X (i + 1)), xI (zsc X (i + 2))]) (st := [xI v]) (ra := [xI (zsc X (i + 2)), xI (zsc X (i + 1))]) (dep' := 45) P dL_law_544 nX11_same zb_1467 zb_1468 zb_1469 zb_92 (zOb.lit (by decide +kernel)) rfl (by omega) (Nat.le_of_ble_eq_true rfl) (Nat.le_of_ble_eq_true rfl) rfl (fun w f q => ?_)
  exact x_same (pc := 547) dL_law_547 rfl q.1 (next f q.2)
theorem L_8 {nm : String} {X : zX} {dep bc bs : Nat} {i : Int} {h : zH} {Q : Nat → zH → List zV → Prop} (I : vI h) (h0 : 0 ≤ i) (hi : i + 6 ≤ X.1) (hL : X.1 ≤ 3072) (hdep : 46 ≤ dep) (next : ∀ h', vI h' → xW xA (mLw nm) X dep bc bs 239 1564 (zLp i) [] h' Q) : xW xA (mLw nm) X dep bc bs 239 552 (zLp i) [] h Q := by
  refine x_aload_n (pc := 552) 2 dL_law_552 rfl ?_
  refine x_sc (pc := 553) (k := 1) dL_law_553 dL_law_554 dL_law_556 dL_law_557 dL_law_558 h0 hi (by decide) hL ?_
  refine x_invQI (d := mLw nm) (pc := 559) (index := 62) (ci := 10) (N := 17) (as := [xI (zsc X (i + 1))]) (st := []) (ra := [xI (zsc X (i + 1))]) (dep' := 45) (v_law _ I (by decide)) dL_law_559 nX10_law zb_588 zb_589 zb_590 zb_82 (zOb.lit (by decide +kernel)) rfl (by omega) (Nat.le_of_ble_eq_true rfl) (Nat.le_of_ble_eq_true rfl) rfl (fun v g P => ?_)
  refine x_aload_n (pc := 562) 3 dL_law_562 rfl ?_
  refine x_sc (pc := 563) (k := 1) dL_law_563 dL_law_564 dL_law_566 dL_law_567 dL_law_568 h0 hi (by decide) hL ?_
  refine x_invQI (d := mLw nm) (pc := 569) (index := 65) (ci := 11) (N := 97) (as := [xI (zsc X (i + 1))]) (st := [xI v]) (ra := [xI (zsc X (i + 1))]) (dep' := 45) P dL_law_569 nX11_law zb_1471 zb_1472 zb_1473 zb_92 (zOb.lit (by decide +kernel)) rfl (by omega) (Nat.le_of_ble_eq_true rfl) (Nat.le_of_ble_eq_true rfl) rfl (fun w f q => ?_)
  exact x_same (pc := 572) dL_law_572 rfl q.1 (next f q.2)
theorem L_9 {nm : String} {X : zX} {dep bc bs : Nat} {i : Int} {h : zH} {Q : Nat → zH → List zV → Prop} (I : vI h) (h0 : 0 ≤ i) (hi : i + 6 ≤ X.1) (hL : X.1 ≤ 3072) (hdep : 46 ≤ dep) (next : ∀ h', vI h' → xW xA (mLw nm) X dep bc bs 239 1564 (zLp i) [] h' Q) : xW xA (mLw nm) X dep bc bs 239 577 (zLp i) [] h Q := by
  refine x_aload_n (pc := 577) 2 dL_law_577 rfl ?_
  refine x_invQI (d := mLw nm) (pc := 578) (index := 66) (ci := 10) (N := 17) (as := []) (st := []) (ra := []) (dep' := 45) (v_fault I) dL_law_578 nX10_fault zb_770 zb_771 zb_772 zb_82 (zOb.lit (by decide +kernel)) rfl (by omega) (Nat.le_of_ble_eq_true rfl) (Nat.le_of_ble_eq_true rfl) rfl (fun v g P => ?_)
  refine x_aload_n (pc := 581) 3 dL_law_581 rfl ?_
  refine x_invQI (d := mLw nm) (pc := 582) (index := 70) (ci := 11) (N := 97) (as := []) (st := [xI v]) (ra := []) (dep' := 45) P dL_law_582 nX11_fault zb_1571 zb_1572 zb_1573 zb_92 (zOb.lit (by decide +kernel)) rfl (by omega) (Nat.le_of_ble_eq_true rfl) (Nat.le_of_ble_eq_true rfl) rfl (fun w f q => ?_)
  exact x_same (pc := 585) dL_law_585 rfl q.1 (next f q.2)
theorem L_10 {nm : String} {X : zX} {dep bc bs : Nat} {i : Int} {h : zH} {Q : Nat → zH → List zV → Prop} (I : vI h) (h0 : 0 ≤ i) (hi : i + 6 ≤ X.1) (hL : X.1 ≤ 3072) (hdep : 46 ≤ dep) (next : ∀ h', vI h' → xW xA (mLw nm) X dep bc bs 239 1564 (zLp i) [] h' Q) : xW xA (mLw nm) X dep bc bs 239 590 (zLp i) [] h Q := by
  refine x_aload_n (pc := 590) 2 dL_law_590 rfl ?_
  refine x_sc (pc := 591) (k := 1) dL_law_591 dL_law_592 dL_law_594 dL_law_595 dL_law_596 h0 hi (by decide) hL ?_
  refine x_sc (pc := 597) (k := 2) dL_law_597 dL_law_598 dL_law_600 dL_law_601 dL_law_602 h0 hi (by decide) hL ?_
  refine x_invQI (d := mLw nm) (pc := 603) (index := 71) (ci := 10) (N := 17) (as := [xI (zsc X (i + 1)), xI (zsc X (i + 2))]) (st := []) (ra := [xI (zsc X (i + 2)), xI (zsc X (i + 1))]) (dep' := 45) (v_lot _ _ I (by decide)) dL_law_603 nX10_lot zb_774 zb_775 zb_776 zb_82 (zOb.lit (by decide +kernel)) rfl (by omega) (Nat.le_of_ble_eq_true rfl) (Nat.le_of_ble_eq_true rfl) rfl (fun v g P => ?_)
  refine x_aload_n (pc := 606) 3 dL_law_606 rfl ?_
  refine x_sc (pc := 607) (k := 1) dL_law_607 dL_law_608 dL_law_610 dL_law_611 dL_law_612 h0 hi (by decide) hL ?_
  refine x_sc (pc := 613) (k := 2) dL_law_613 dL_law_614 dL_law_616 dL_law_617 dL_law_618 h0 hi (by decide) hL ?_
  refine x_invQI (d := mLw nm) (pc := 619) (index := 74) (ci := 11) (N := 97) (as := [xI (zsc X (i + 1)), xI (zsc X (i + 2))]) (st := [xI v]) (ra := [xI (zsc X (i + 2)), xI (zsc X (i + 1))]) (dep' := 45) P dL_law_619 nX11_lot zb_1575 zb_1576 zb_1577 zb_92 (zOb.lit (by decide +kernel)) rfl (by omega) (Nat.le_of_ble_eq_true rfl) (Nat.le_of_ble_eq_true rfl) rfl (fun w f q => ?_)
  exact x_same (pc := 622) dL_law_622 rfl q.1 (next f q.2)
theorem L_11 {nm : String} {X : zX} {dep bc bs : Nat} {i : Int} {h : zH} {Q : Nat → zH → List zV → Prop} (I : vI h) (h0 : 0 ≤ i) (hi : i + 6 ≤ X.1) (hL : X.1 ≤ 3072) (hdep : 46 ≤ dep) (next : ∀ h', vI h' → xW xA (mLw nm) X dep bc bs 239 1564 (zLp i) [] h' Q) : xW xA (mLw nm) X dep bc bs 239 627 (zLp i) [] h Q := by
  refine x_aload_n (pc := 627) 2 dL_law_627 rfl ?_
  refine x_sc (pc := 628) (k := 1) dL_law_628 dL_law_629 dL_law_631 dL_law_632 dL_law_633 h0 hi (by decide) hL ?_
  refine x_invQI (d := mLw nm) (pc := 634) (index := 75) (ci := 10) (N := 17) (as := [xI (zsc X (i + 1))]) (st := []) (ra := [xI (zsc X (i + 1))]) (dep' := 45) (v_weeks _ I (by decide)) dL_law_634 nX10_weeks zb_778 zb_779 zb_780 zb_82 (zOb.lit (by decide +kernel)) rfl (by omega) (Nat.le_of_ble_eq_true rfl) (Nat.le_of_ble_eq_true rfl) rfl (fun v g P => ?_)
  refine x_aload_n (pc := 637) 3 dL_law_637 rfl ?_
  refine x_sc (pc := 638) (k := 1) dL_law_638 dL_law_639 dL_law_641 dL_law_642 dL_law_643 h0 hi (by decide) hL ?_
  refine x_invQI (d := mLw nm) (pc := 644) (index := 78) (ci := 11) (N := 97) (as := [xI (zsc X (i + 1))]) (st := [xI v]) (ra := [xI (zsc X (i + 1))]) (dep' := 45) P dL_law_644 nX11_weeks zb_1579 zb_1580 zb_1581 zb_92 (zOb.lit (by decide +kernel)) rfl (by omega) (Nat.le_of_ble_eq_true rfl) (Nat.le_of_ble_eq_true rfl) rfl (fun w f q => ?_)
  exact x_same (pc := 647) dL_law_647 rfl q.1 (next f q.2)
theorem L_12 {nm : String} {X : zX} {dep bc bs : Nat} {i : Int} {h : zH} {Q : Nat → zH → List zV → Prop} (I : vI h) (h0 : 0 ≤ i) (hi : i + 6 ≤ X.1) (hL : X.1 ≤ 3072) (hdep : 46 ≤ dep) (next : ∀ h', vI h' → xW xA (mLw nm) X dep bc bs 239 1564 (zLp i) [] h' Q) : xW xA (mLw nm) X dep bc bs 239 652 (zLp i) [] h Q := by
  refine x_aload_n (pc := 652) 2 dL_law_652 rfl ?_
  refine x_sc (pc := 653) (k := 1) dL_law_653 dL_law_654 dL_law_656 dL_law_657 dL_law_658 h0 hi (by decide) hL ?_
  refine x_invQI (d := mLw nm) (pc := 659) (index := 79) (ci := 10) (N := 17) (as := [xI (zsc X (i + 1))]) (st := []) (ra := [xI (zsc X (i + 1))]) (dep' := 45) (v_letters _ I (by decide)) dL_law_659 nX10_letters zb_798 zb_799 zb_800 zb_82 (zOb.lit (by decide +kernel)) rfl (by omega) (Nat.le_of_ble_eq_true rfl) (Nat.le_of_ble_eq_true rfl) rfl (fun v g P => ?_)
  refine x_aload_n (pc := 662) 3 dL_law_662 rfl ?_
  refine x_sc (pc := 663) (k := 1) dL_law_663 dL_law_664 dL_law_666 dL_law_667 dL_law_668 h0 hi (by decide) hL ?_
  refine x_invQI (d := mLw nm) (pc := 669) (index := 82) (ci := 11) (N := 97) (as := [xI (zsc X (i + 1))]) (st := [xI v]) (ra := [xI (zsc X (i + 1))]) (dep' := 45) P dL_law_669 nX11_letters zb_1591 zb_1592 zb_1593 zb_92 (zOb.lit (by decide +kernel)) rfl (by omega) (Nat.le_of_ble_eq_true rfl) (Nat.le_of_ble_eq_true rfl) rfl (fun w f q => ?_)
  exact x_same (pc := 672) dL_law_672 rfl q.1 (next f q.2)
theorem L_13 {nm : String} {X : zX} {dep bc bs : Nat} {i : Int} {h : zH} {Q : Nat → zH → List zV → Prop} (I : vI h) (h0 : 0 ≤ i) (hi : i + 6 ≤ X.1) (hL : X.1 ≤ 3072) (hdep : 46 ≤ dep) (next : ∀ h', vI h' → xW xA (mLw nm) X dep bc bs 239 1564 (zLp i) [] h' Q) : xW xA (mLw nm) X dep bc bs 239 677 (zLp i) [] h Q := by
  refine x_aload_n (pc := 677) 2 dL_law_677 rfl ?_
  refine x_sc (pc := 678) (k := 1) dL_law_678 dL_law_679 dL_law_681 dL_law_682 dL_law_683 h0 hi (by decide) hL ?_
  refine x_sc (pc := 684) (k := 2) dL_law_684 dL_law_685 dL_law_687 dL_law_688 dL_law_689 h0 hi (by decide) hL ?_
  refine x_sc (pc := 690) (k := 3) dL_law_690 dL_law_691 dL_law_693 dL_law_694 dL_law_695 h0 hi (by decide) hL ?_
  refine x_invQI (d := mLw nm) (pc := 696) (index := 83) (ci := 10) (N := 17) (as := [xI (zsc X (i + 1)), xI (zsc X (i + 2)), xI (zsc X (i + 3))]) (st := []) (ra := [xI (zsc X (i + 3)), xI (zsc X (i + 2)), xI (zsc X (i + 1))]) (dep' := 45) (v_hands _ _ _ I (by decide)) dL_law_696 nX10_hands zb_806 zb_807 zb_808 zb_82 (zOb.lit (by decide +kernel)) rfl (by omega) (Nat.le_of_ble_eq_true rfl) (Nat.le_of_ble_eq_true rfl) rfl (fun v g P => ?_)
  refine x_aload_n (pc := 699) 3 dL_law_699 rfl ?_
  refine x_sc (pc := 700) (k := 1) dL_law_700 dL_law_701 dL_law_703 dL_law_704 dL_law_705 h0 hi (by decide) hL ?_
  refine x_sc (pc := 706) (k := 2) dL_law_706 dL_law_707 dL_law_709 dL_law_710 dL_law_711 h0 hi (by decide) hL ?_
  refine x_sc (pc := 712) (k := 3) dL_law_712 dL_law_713 dL_law_715 dL_law_716 dL_law_717 h0 hi (by decide) hL ?_
  refine x_invQI (d := mLw nm) (pc := 718) (index := 86) (ci := 11) (N := 97) (as := [xI (zsc X (i + 1)), xI (zsc X (i + 2)), xI (zsc X (i + 3))]) (st := [xI v]) (ra := [xI (zsc X (i + 3)), xI (zsc X (i + 2)), xI (zsc X (i + 1))]) (dep' := 45) P dL_law_718 nX11_hands zb_1750 zb_1751 zb_1752 zb_92 (zOb.lit (by decide +kernel)) rfl (by omega) (Nat.le_of_ble_eq_true rfl) (Nat.le_of_ble_eq_true rfl) rfl (fun w f q => ?_)
  exact x_same (pc := 721) dL_law_721 rfl q.1 (next f q.2)
theorem L_14 {nm : String} {X : zX} {dep bc bs : Nat} {i : Int} {h : zH} {Q : Nat → zH → List zV → Prop} (I : vI h) (h0 : 0 ≤ i) (hi : i + 6 ≤ X.1) (hL : X.1 ≤ 3072) (hdep : 46 ≤ dep) (next : ∀ h', vI h' → xW xA (mLw nm) X dep bc bs 239 1564 (zLp i) [] h' Q) : xW xA (mLw nm) X dep bc bs 239 726 (zLp i) [] h Q := by
  refine x_aload_n (pc := 726) 2 dL_law_726 rfl ?_
  refine x_sc (pc := 727) (k := 1) dL_law_727 dL_law_728 dL_law_730 dL_law_731 dL_law_732 h0 hi (by decide) hL ?_
  refine x_sc (pc := 733) (k := 2) dL_law_733 dL_law_734 dL_law_736 dL_law_737 dL_law_738 h0 hi (by decide) hL ?_
  refine x_invQI (d := mLw nm) (pc := 739) (index := 87) (ci := 10) (N := 17) (as := [xI (zsc X (i + 1)), xI (zsc X (i + 2))]) (st := []) (ra := [xI (zsc X (i + 2)), xI (zsc X (i + 1))]) (dep' := 45) (v_who _ _ I (by decide)) dL_law_739 nX10_who zb_813 zb_814 zb_815 zb_82 (zOb.lit (by decide +kernel)) rfl (by omega) (Nat.le_of_ble_eq_true rfl) (Nat.le_of_ble_eq_true rfl) rfl (fun v g P => ?_)
  refine x_aload_n (pc := 742) 3 dL_law_742 rfl ?_
  refine x_sc (pc := 743) (k := 1) dL_law_743 dL_law_744 dL_law_746 dL_law_747 dL_law_748 h0 hi (by decide) hL ?_
  refine x_sc (pc := 749) (k := 2) dL_law_749 dL_law_750 dL_law_752 dL_law_753 dL_law_754 h0 hi (by decide) hL ?_
  refine x_invQI (d := mLw nm) (pc := 755) (index := 90) (ci := 11) (N := 97) (as := [xI (zsc X (i + 1)), xI (zsc X (i + 2))]) (st := [xI v]) (ra := [xI (zsc X (i + 2)), xI (zsc X (i + 1))]) (dep' := 45) P dL_law_755 nX11_who zb_1595 zb_1596 zb_1597 zb_92 (zOb.lit (by decide +kernel)) rfl (by omega) (Nat.le_of_ble_eq_true rfl) (Nat.le_of_ble_eq_true rfl) rfl (fun w f q => ?_)
  exact x_same (pc := 758) dL_law_758 rfl q.1 (next f q.2)
theorem L_15 {nm : String} {X : zX} {dep bc bs : Nat} {i : Int} {h : zH} {Q : Nat → zH → List zV → Prop} (I : vI h) (h0 : 0 ≤ i) (hi : i + 6 ≤ X.1) (hL : X.1 ≤ 3072) (hdep : 46 ≤ dep) (next : ∀ h', vI h' → xW xA (mLw nm) X dep bc bs 239 1564 (zLp i) [] h' Q) : xW xA (mLw nm) X dep bc bs 239 763 (zLp i) [] h Q := by
  refine x_aload_n (pc := 763) 2 dL_law_763 rfl ?_
  refine x_sc (pc := 764) (k := 1) dL_law_764 dL_law_765 dL_law_767 dL_law_768 dL_law_769 h0 hi (by decide) hL ?_
  refine x_sc (pc := 770) (k := 2) dL_law_770 dL_law_771 dL_law_773 dL_law_774 dL_law_775 h0 hi (by decide) hL ?_
  refine x_sc (pc := 776) (k := 3) dL_law_776 dL_law_777 dL_law_779 dL_law_780 dL_law_781 h0 hi (by decide) hL ?_
  refine x_invQI (d := mLw nm) (pc := 782) (index := 91) (ci := 10) (N := 17) (as := [xI (zsc X (i + 1)), xI (zsc X (i + 2)), xI (zsc X (i + 3))]) (st := []) (ra := [xI (zsc X (i + 3)), xI (zsc X (i + 2)), xI (zsc X (i + 1))]) (dep' := 45) (v_age _ _ _ I (by decide)) dL_law_782 nX10_age zb_845 zb_846 zb_847 zb_82 (zOb.lit (by decide +kernel)) rfl (by omega) (Nat.le_of_ble_eq_true rfl) (Nat.le_of_ble_eq_true rfl) rfl (fun v g P => ?_)
  refine x_aload_n (pc := 785) 3 dL_law_785 rfl ?_
  refine x_sc (pc := 786) (k := 1) dL_law_786 dL_law_787 dL_law_789 dL_law_790 dL_law_791 h0 hi (by decide) hL ?_
  refine x_sc (pc := 792) (k := 2) dL_law_792 dL_law_793 dL_law_795 dL_law_796 dL_law_797 h0 hi (by decide) hL ?_
  refine x_sc (pc := 798) (k := 3) dL_law_798 dL_law_799 dL_law_801 dL_law_802 dL_law_803 h0 hi (by decide) hL ?_
  refine x_invQI (d := mLw nm) (pc := 804) (index := 95) (ci := 11) (N := 97) (as := [xI (zsc X (i + 1)), xI (zsc X (i + 2)), xI (zsc X (i + 3))]) (st := [xI v]) (ra := [xI (zsc X (i + 3)), xI (zsc X (i + 2)), xI (zsc X (i + 1))]) (dep' := 45) P dL_law_804 nX11_age zb_1603 zb_1604 zb_1605 zb_92 (zOb.lit (by decide +kernel)) rfl (by omega) (Nat.le_of_ble_eq_true rfl) (Nat.le_of_ble_eq_true rfl) rfl (fun w f q => ?_)
  exact x_same (pc := 807) dL_law_807 rfl q.1 (next f q.2)
theorem L_16 {nm : String} {X : zX} {dep bc bs : Nat} {i : Int} {h : zH} {Q : Nat → zH → List zV → Prop} (I : vI h) (h0 : 0 ≤ i) (hi : i + 6 ≤ X.1) (hL : X.1 ≤ 3072) (hdep : 46 ≤ dep) (next : ∀ h', vI h' → xW xA (mLw nm) X dep bc bs 239 1564 (zLp i) [] h' Q) : xW xA (mLw nm) X dep bc bs 239 812 (zLp i) [] h Q := by
  refine x_aload_n (pc := 812) 2 dL_law_812 rfl ?_
  refine x_sc (pc := 813) (k := 1) dL_law_813 dL_law_814 dL_law_816 dL_law_817 dL_law_818 h0 hi (by decide) hL ?_
  refine x_sc (pc := 819) (k := 2) dL_law_819 dL_law_820 dL_law_822 dL_law_823 dL_law_824 h0 hi (by decide) hL ?_
  refine x_invQI (d := mLw nm) (pc := 825) (index := 96) (ci := 10) (N := 17) (as := [xI (zsc X (i + 1)), xI (zsc X (i + 2))]) (st := []) (ra := [xI (zsc X (i + 2)), xI (zsc X (i + 1))]) (dep' := 45) (v_brothers _ _ I (by decide)) dL_law_825 nX10_brothers zb_853 zb_854 zb_855 zb_82 (zOb.lit (by decide +kernel)) rfl (by omega) (Nat.le_of_ble_eq_true rfl) (Nat.le_of_ble_eq_true rfl) rfl (fun v g P => ?_)
  refine x_aload_n (pc := 828) 3 dL_law_828 rfl ?_
  refine x_sc (pc := 829) (k := 1) dL_law_829 dL_law_830 dL_law_832 dL_law_833 dL_law_834 h0 hi (by decide) hL ?_
  refine x_sc (pc := 835) (k := 2) dL_law_835 dL_law_836 dL_law_838 dL_law_839 dL_law_840 h0 hi (by decide) hL ?_
  refine x_invQI (d := mLw nm) (pc := 841) (index := 99) (ci := 11) (N := 97) (as := [xI (zsc X (i + 1)), xI (zsc X (i + 2))]) (st := [xI v]) (ra := [xI (zsc X (i + 2)), xI (zsc X (i + 1))]) (dep' := 45) P dL_law_841 nX11_brothers zb_1611 zb_1612 zb_1613 zb_92 (zOb.lit (by decide +kernel)) rfl (by omega) (Nat.le_of_ble_eq_true rfl) (Nat.le_of_ble_eq_true rfl) rfl (fun w f q => ?_)
  exact x_same (pc := 844) dL_law_844 rfl q.1 (next f q.2)
theorem L_17 {nm : String} {X : zX} {dep bc bs : Nat} {i : Int} {h : zH} {Q : Nat → zH → List zV → Prop} (I : vI h) (h0 : 0 ≤ i) (hi : i + 6 ≤ X.1) (hL : X.1 ≤ 3072) (hdep : 46 ≤ dep) (next : ∀ h', vI h' → xW xA (mLw nm) X dep bc bs 239 1564 (zLp i) [] h' Q) : xW xA (mLw nm) X dep bc bs 239 849 (zLp i) [] h Q := by
  refine x_aload_n (pc := 849) 2 dL_law_849 rfl ?_
  refine x_sc (pc := 850) (k := 1) dL_law_850 dL_law_851 dL_law_853 dL_law_854 dL_law_855 h0 hi (by decide) hL ?_
  refine x_sc (pc := 856) (k := 2) dL_law_856 dL_law_857 dL_law_859 dL_law_860 dL_law_861 h0 hi (by decide) hL ?_
  refine x_sc (pc := 862) (k := 3) dL_law_862 dL_law_863 dL_law_865 dL_law_866 dL_law_867 h0 hi (by decide) hL ?_
  refine x_invQI (d := mLw nm) (pc := 868) (index := 100) (ci := 10) (N := 17) (as := [xI (zsc X (i + 1)), xI (zsc X (i + 2)), xI (zsc X (i + 3))]) (st := []) (ra := [xI (zsc X (i + 3)), xI (zsc X (i + 2)), xI (zsc X (i + 1))]) (dep' := 45) (v_state _ _ _ I (by decide)) dL_law_868 nX10_state zb_861 zb_862 zb_863 zb_82 (zOb.lit (by decide +kernel)) rfl (by omega) (Nat.le_of_ble_eq_true rfl) (Nat.le_of_ble_eq_true rfl) rfl (fun v g P => ?_)
  refine x_aload_n (pc := 871) 3 dL_law_871 rfl ?_
  refine x_sc (pc := 872) (k := 1) dL_law_872 dL_law_873 dL_law_875 dL_law_876 dL_law_877 h0 hi (by decide) hL ?_
  refine x_sc (pc := 878) (k := 2) dL_law_878 dL_law_879 dL_law_881 dL_law_882 dL_law_883 h0 hi (by decide) hL ?_
  refine x_sc (pc := 884) (k := 3) dL_law_884 dL_law_885 dL_law_887 dL_law_888 dL_law_889 h0 hi (by decide) hL ?_
  refine x_invQI (d := mLw nm) (pc := 890) (index := 103) (ci := 11) (N := 97) (as := [xI (zsc X (i + 1)), xI (zsc X (i + 2)), xI (zsc X (i + 3))]) (st := [xI v]) (ra := [xI (zsc X (i + 3)), xI (zsc X (i + 2)), xI (zsc X (i + 1))]) (dep' := 45) P dL_law_890 nX11_state zb_1623 zb_1624 zb_1625 zb_92 (zOb.lit (by decide +kernel)) rfl (by omega) (Nat.le_of_ble_eq_true rfl) (Nat.le_of_ble_eq_true rfl) rfl (fun w f q => ?_)
  exact x_same (pc := 893) dL_law_893 rfl q.1 (next f q.2)
theorem L_18 {nm : String} {X : zX} {dep bc bs : Nat} {i : Int} {h : zH} {Q : Nat → zH → List zV → Prop} (I : vI h) (h0 : 0 ≤ i) (hi : i + 6 ≤ X.1) (hL : X.1 ≤ 3072) (hdep : 46 ≤ dep) (next : ∀ h', vI h' → xW xA (mLw nm) X dep bc bs 239 1564 (zLp i) [] h' Q) : xW xA (mLw nm) X dep bc bs 239 898 (zLp i) [] h Q := by
  refine x_aload_n (pc := 898) 2 dL_law_898 rfl ?_
  refine x_invQI (d := mLw nm) (pc := 899) (index := 104) (ci := 10) (N := 17) (as := []) (st := []) (ra := []) (dep' := 45) (v_why I) dL_law_899 nX10_why zb_954 zb_955 zb_956 zb_82 (zOb.lit (by decide +kernel)) rfl (by omega) (Nat.le_of_ble_eq_true rfl) (Nat.le_of_ble_eq_true rfl) rfl (fun v g P => ?_)
  refine x_aload_n (pc := 902) 3 dL_law_902 rfl ?_
  refine x_invQI (d := mLw nm) (pc := 903) (index := 107) (ci := 11) (N := 97) (as := []) (st := [xI v]) (ra := []) (dep' := 45) P dL_law_903 nX11_why zb_1687 zb_1688 zb_1689 zb_92 (zOb.lit (by decide +kernel)) rfl (by omega) (Nat.le_of_ble_eq_true rfl) (Nat.le_of_ble_eq_true rfl) rfl (fun w f q => ?_)
  exact x_same (pc := 906) dL_law_906 rfl q.1 (next f q.2)
theorem L_19 {nm : String} {X : zX} {dep bc bs : Nat} {i : Int} {h : zH} {Q : Nat → zH → List zV → Prop} (I : vI h) (h0 : 0 ≤ i) (hi : i + 6 ≤ X.1) (hL : X.1 ≤ 3072) (hdep : 46 ≤ dep) (next : ∀ h', vI h' → xW xA (mLw nm) X dep bc bs 239 1564 (zLp i) [] h' Q) : xW xA (mLw nm) X dep bc bs 239 911 (zLp i) [] h Q := by
  refine x_aload_n (pc := 911) 2 dL_law_911 rfl ?_
  refine x_sc (pc := 912) (k := 1) dL_law_912 dL_law_913 dL_law_915 dL_law_916 dL_law_917 h0 hi (by decide) hL ?_
  refine x_sc (pc := 918) (k := 2) dL_law_918 dL_law_919 dL_law_921 dL_law_922 dL_law_923 h0 hi (by decide) hL ?_
  refine x_sc (pc := 924) (k := 3) dL_law_924 dL_law_925 dL_law_927 dL_law_928 dL_law_929 h0 hi (by decide) hL ?_
  refine x_invQI (d := mLw nm) (pc := 930) (index := 108) (ci := 10) (N := 17) (as := [xI (zsc X (i + 1)), xI (zsc X (i + 2)), xI (zsc X (i + 3))]) (st := []) (ra := [xI (zsc X (i + 3)), xI (zsc X (i + 2)), xI (zsc X (i + 1))]) (dep' := 45) (v_quota _ _ _ I (by decide)) dL_law_930 nX10_quota zb_958 zb_959 zb_960 zb_82 (zOb.lit (by decide +kernel)) rfl (by omega) (Nat.le_of_ble_eq_true rfl) (Nat.le_of_ble_eq_true rfl) rfl (fun v g P => ?_)
  refine x_aload_n (pc := 933) 3 dL_law_933 rfl ?_
  refine x_sc (pc := 934) (k := 1) dL_law_934 dL_law_935 dL_law_937 dL_law_938 dL_law_939 h0 hi (by decide) hL ?_
  refine x_sc (pc := 940) (k := 2) dL_law_940 dL_law_941 dL_law_943 dL_law_944 dL_law_945 h0 hi (by decide) hL ?_
  refine x_sc (pc := 946) (k := 3) dL_law_946 dL_law_947 dL_law_949 dL_law_950 dL_law_951 h0 hi (by decide) hL ?_
  refine x_invQI (d := mLw nm) (pc := 952) (index := 111) (ci := 11) (N := 97) (as := [xI (zsc X (i + 1)), xI (zsc X (i + 2)), xI (zsc X (i + 3))]) (st := [xI v]) (ra := [xI (zsc X (i + 3)), xI (zsc X (i + 2)), xI (zsc X (i + 1))]) (dep' := 45) P dL_law_952 nX11_quota zb_1691 zb_1692 zb_1693 zb_92 (zOb.lit (by decide +kernel)) rfl (by omega) (Nat.le_of_ble_eq_true rfl) (Nat.le_of_ble_eq_true rfl) rfl (fun w f q => ?_)
  exact x_same (pc := 955) dL_law_955 rfl q.1 (next f q.2)
theorem L_20 {nm : String} {X : zX} {dep bc bs : Nat} {i : Int} {h : zH} {Q : Nat → zH → List zV → Prop} (I : vI h) (h0 : 0 ≤ i) (hi : i + 6 ≤ X.1) (hL : X.1 ≤ 3072) (hdep : 46 ≤ dep) (next : ∀ h', vI h' → xW xA (mLw nm) X dep bc bs 239 1564 (zLp i) [] h' Q) : xW xA (mLw nm) X dep bc bs 239 960 (zLp i) [] h Q := by
  refine x_aload_n (pc := 960) 2 dL_law_960 rfl ?_
  refine x_sc (pc := 961) (k := 1) dL_law_961 dL_law_962 dL_law_964 dL_law_965 dL_law_966 h0 hi (by decide) hL ?_
  refine x_sc (pc := 967) (k := 2) dL_law_967 dL_law_968 dL_law_970 dL_law_971 dL_law_972 h0 hi (by decide) hL ?_
  refine x_sc (pc := 973) (k := 3) dL_law_973 dL_law_974 dL_law_976 dL_law_977 dL_law_978 h0 hi (by decide) hL ?_
  refine x_invQI (d := mLw nm) (pc := 979) (index := 112) (ci := 10) (N := 17) (as := [xI (zsc X (i + 1)), xI (zsc X (i + 2)), xI (zsc X (i + 3))]) (st := []) (ra := [xI (zsc X (i + 3)), xI (zsc X (i + 2)), xI (zsc X (i + 1))]) (dep' := 45) (v_place _ _ _ I (by decide)) dL_law_979 nX10_place zb_962 zb_963 zb_964 zb_82 (zOb.lit (by decide +kernel)) rfl (by omega) (Nat.le_of_ble_eq_true rfl) (Nat.le_of_ble_eq_true rfl) rfl (fun v g P => ?_)
  refine x_aload_n (pc := 982) 3 dL_law_982 rfl ?_
  refine x_sc (pc := 983) (k := 1) dL_law_983 dL_law_984 dL_law_986 dL_law_987 dL_law_988 h0 hi (by decide) hL ?_
  refine x_sc (pc := 989) (k := 2) dL_law_989 dL_law_990 dL_law_992 dL_law_993 dL_law_994 h0 hi (by decide) hL ?_
  refine x_sc (pc := 995) (k := 3) dL_law_995 dL_law_996 dL_law_998 dL_law_999 dL_law_1000 h0 hi (by decide) hL ?_
  refine x_invQI (d := mLw nm) (pc := 1001) (index := 115) (ci := 11) (N := 97) (as := [xI (zsc X (i + 1)), xI (zsc X (i + 2)), xI (zsc X (i + 3))]) (st := [xI v]) (ra := [xI (zsc X (i + 3)), xI (zsc X (i + 2)), xI (zsc X (i + 1))]) (dep' := 45) P dL_law_1001 nX11_place zb_1695 zb_1696 zb_1697 zb_92 (zOb.lit (by decide +kernel)) rfl (by omega) (Nat.le_of_ble_eq_true rfl) (Nat.le_of_ble_eq_true rfl) rfl (fun w f q => ?_)
  exact x_same (pc := 1004) dL_law_1004 rfl q.1 (next f q.2)
theorem L_21 {nm : String} {X : zX} {dep bc bs : Nat} {i : Int} {h : zH} {Q : Nat → zH → List zV → Prop} (I : vI h) (h0 : 0 ≤ i) (hi : i + 6 ≤ X.1) (hL : X.1 ≤ 3072) (hdep : 46 ≤ dep) (next : ∀ h', vI h' → xW xA (mLw nm) X dep bc bs 239 1564 (zLp i) [] h' Q) : xW xA (mLw nm) X dep bc bs 239 1009 (zLp i) [] h Q := by
  refine x_aload_n (pc := 1009) 2 dL_law_1009 rfl ?_
  refine x_sc (pc := 1010) (k := 1) dL_law_1010 dL_law_1011 dL_law_1013 dL_law_1014 dL_law_1015 h0 hi (by decide) hL ?_
  refine x_sc (pc := 1016) (k := 2) dL_law_1016 dL_law_1017 dL_law_1019 dL_law_1020 dL_law_1021 h0 hi (by decide) hL ?_
  refine x_invQI (d := mLw nm) (pc := 1022) (index := 116) (ci := 10) (N := 17) (as := [xI (zsc X (i + 1)), xI (zsc X (i + 2))]) (st := []) (ra := [xI (zsc X (i + 2)), xI (zsc X (i + 1))]) (dep' := 45) (v_called _ _ I (by decide)) dL_law_1022 nX10_called zb_967 zb_968 zb_969 zb_82 (zOb.lit (by decide +kernel)) rfl (by omega) (Nat.le_of_ble_eq_true rfl) (Nat.le_of_ble_eq_true rfl) rfl (fun v g P => ?_)
  refine x_aload_n (pc := 1025) 3 dL_law_1025 rfl ?_
  refine x_sc (pc := 1026) (k := 1) dL_law_1026 dL_law_1027 dL_law_1029 dL_law_1030 dL_law_1031 h0 hi (by decide) hL ?_
  refine x_sc (pc := 1032) (k := 2) dL_law_1032 dL_law_1033 dL_law_1035 dL_law_1036 dL_law_1037 h0 hi (by decide) hL ?_
  refine x_invQI (d := mLw nm) (pc := 1038) (index := 119) (ci := 11) (N := 97) (as := [xI (zsc X (i + 1)), xI (zsc X (i + 2))]) (st := [xI v]) (ra := [xI (zsc X (i + 2)), xI (zsc X (i + 1))]) (dep' := 45) P dL_law_1038 nX11_called zb_1699 zb_1700 zb_1701 zb_92 (zOb.lit (by decide +kernel)) rfl (by omega) (Nat.le_of_ble_eq_true rfl) (Nat.le_of_ble_eq_true rfl) rfl (fun w f q => ?_)
  exact x_same (pc := 1041) dL_law_1041 rfl q.1 (next f q.2)
theorem L_22 {nm : String} {X : zX} {dep bc bs : Nat} {i : Int} {h : zH} {Q : Nat → zH → List zV → Prop} (I : vI h) (h0 : 0 ≤ i) (hi : i + 6 ≤ X.1) (hL : X.1 ≤ 3072) (hdep : 46 ≤ dep) (next : ∀ h', vI h' → xW xA (mLw nm) X dep bc bs 239 1564 (zLp i) [] h' Q) : xW xA (mLw nm) X dep bc bs 239 1046 (zLp i) [] h Q := by
  refine x_aload_n (pc := 1046) 2 dL_law_1046 rfl ?_
  refine x_sc (pc := 1047) (k := 1) dL_law_1047 dL_law_1048 dL_law_1050 dL_law_1051 dL_law_1052 h0 hi (by decide) hL ?_
  refine x_sc (pc := 1053) (k := 2) dL_law_1053 dL_law_1054 dL_law_1056 dL_law_1057 dL_law_1058 h0 hi (by decide) hL ?_
  refine x_sc (pc := 1059) (k := 3) dL_law_1059 dL_law_1060 dL_law_1062 dL_law_1063 dL_law_1064 h0 hi (by decide) hL ?_
  refine x_invQI (d := mLw nm) (pc := 1065) (index := 120) (ci := 10) (N := 17) (as := [xI (zsc X (i + 1)), xI (zsc X (i + 2)), xI (zsc X (i + 3))]) (st := []) (ra := [xI (zsc X (i + 3)), xI (zsc X (i + 2)), xI (zsc X (i + 1))]) (dep' := 45) (v_send _ _ _ I (by decide)) dL_law_1065 nX10_send zb_971 zb_972 zb_973 zb_82 (zOb.lit (by decide +kernel)) rfl (by omega) (Nat.le_of_ble_eq_true rfl) (Nat.le_of_ble_eq_true rfl) rfl (fun v g P => ?_)
  refine x_aload_n (pc := 1068) 3 dL_law_1068 rfl ?_
  refine x_sc (pc := 1069) (k := 1) dL_law_1069 dL_law_1070 dL_law_1072 dL_law_1073 dL_law_1074 h0 hi (by decide) hL ?_
  refine x_sc (pc := 1075) (k := 2) dL_law_1075 dL_law_1076 dL_law_1078 dL_law_1079 dL_law_1080 h0 hi (by decide) hL ?_
  refine x_sc (pc := 1081) (k := 3) dL_law_1081 dL_law_1082 dL_law_1084 dL_law_1085 dL_law_1086 h0 hi (by decide) hL ?_
  refine x_invQI (d := mLw nm) (pc := 1087) (index := 123) (ci := 11) (N := 97) (as := [xI (zsc X (i + 1)), xI (zsc X (i + 2)), xI (zsc X (i + 3))]) (st := [xI v]) (ra := [xI (zsc X (i + 3)), xI (zsc X (i + 2)), xI (zsc X (i + 1))]) (dep' := 45) P dL_law_1087 nX11_send zb_1703 zb_1704 zb_1705 zb_92 (zOb.lit (by decide +kernel)) rfl (by omega) (Nat.le_of_ble_eq_true rfl) (Nat.le_of_ble_eq_true rfl) rfl (fun w f q => ?_)
  exact x_same (pc := 1090) dL_law_1090 rfl q.1 (next f q.2)
theorem L_23 {nm : String} {X : zX} {dep bc bs : Nat} {i : Int} {h : zH} {Q : Nat → zH → List zV → Prop} (I : vI h) (h0 : 0 ≤ i) (hi : i + 6 ≤ X.1) (hL : X.1 ≤ 3072) (hdep : 46 ≤ dep) (next : ∀ h', vI h' → xW xA (mLw nm) X dep bc bs 239 1564 (zLp i) [] h' Q) : xW xA (mLw nm) X dep bc bs 239 1095 (zLp i) [] h Q := by
  refine x_aload_n (pc := 1095) 2 dL_law_1095 rfl ?_
  refine x_sc (pc := 1096) (k := 1) dL_law_1096 dL_law_1097 dL_law_1099 dL_law_1100 dL_law_1101 h0 hi (by decide) hL ?_
  refine x_sc (pc := 1102) (k := 2) dL_law_1102 dL_law_1103 dL_law_1105 dL_law_1106 dL_law_1107 h0 hi (by decide) hL ?_
  refine x_sc (pc := 1108) (k := 3) dL_law_1108 dL_law_1109 dL_law_1111 dL_law_1112 dL_law_1113 h0 hi (by decide) hL ?_
  refine x_invQI (d := mLw nm) (pc := 1114) (index := 124) (ci := 10) (N := 17) (as := [xI (zsc X (i + 1)), xI (zsc X (i + 2)), xI (zsc X (i + 3))]) (st := []) (ra := [xI (zsc X (i + 3)), xI (zsc X (i + 2)), xI (zsc X (i + 1))]) (dep' := 45) (v_serves _ _ _ I (by decide)) dL_law_1114 nX10_serves zb_983 zb_984 zb_985 zb_82 (zOb.lit (by decide +kernel)) rfl (by omega) (Nat.le_of_ble_eq_true rfl) (Nat.le_of_ble_eq_true rfl) rfl (fun v g P => ?_)
  refine x_aload_n (pc := 1117) 3 dL_law_1117 rfl ?_
  refine x_sc (pc := 1118) (k := 1) dL_law_1118 dL_law_1119 dL_law_1121 dL_law_1122 dL_law_1123 h0 hi (by decide) hL ?_
  refine x_sc (pc := 1124) (k := 2) dL_law_1124 dL_law_1125 dL_law_1127 dL_law_1128 dL_law_1129 h0 hi (by decide) hL ?_
  refine x_sc (pc := 1130) (k := 3) dL_law_1130 dL_law_1131 dL_law_1133 dL_law_1134 dL_law_1135 h0 hi (by decide) hL ?_
  refine x_invQI (d := mLw nm) (pc := 1136) (index := 127) (ci := 11) (N := 97) (as := [xI (zsc X (i + 1)), xI (zsc X (i + 2)), xI (zsc X (i + 3))]) (st := [xI v]) (ra := [xI (zsc X (i + 3)), xI (zsc X (i + 2)), xI (zsc X (i + 1))]) (dep' := 45) P dL_law_1136 nX11_serves zb_1711 zb_1712 zb_1713 zb_92 (zOb.lit (by decide +kernel)) rfl (by omega) (Nat.le_of_ble_eq_true rfl) (Nat.le_of_ble_eq_true rfl) rfl (fun w f q => ?_)
  exact x_same (pc := 1139) dL_law_1139 rfl q.1 (next f q.2)
theorem L_24 {nm : String} {X : zX} {dep bc bs : Nat} {i : Int} {h : zH} {Q : Nat → zH → List zV → Prop} (I : vI h) (h0 : 0 ≤ i) (hi : i + 6 ≤ X.1) (hL : X.1 ≤ 3072) (hdep : 46 ≤ dep) (next : ∀ h', vI h' → xW xA (mLw nm) X dep bc bs 239 1564 (zLp i) [] h' Q) : xW xA (mLw nm) X dep bc bs 239 1144 (zLp i) [] h Q := by
  by_cases c : zsc X (i + 4) = 0
  · refine x_aload_n (pc := 1144) 2 dL_law_1144 rfl ?_
    refine x_sc (pc := 1145) (k := 1) dL_law_1145 dL_law_1146 dL_law_1148 dL_law_1149 dL_law_1150 h0 hi (by decide) hL ?_
    refine x_sc (pc := 1151) (k := 2) dL_law_1151 dL_law_1152 dL_law_1154 dL_law_1155 dL_law_1156 h0 hi (by decide) hL ?_
    refine x_sc (pc := 1157) (k := 3) dL_law_1157 dL_law_1158 dL_law_1160 dL_law_1161 dL_law_1162 h0 hi (by decide) hL ?_
    refine x_sc (pc := 1163) (k := 4) dL_law_1163 dL_law_1164 dL_law_1166 dL_law_1167 dL_law_1168 h0 hi (by decide) hL ?_
    refine x_if_eq (pc := 1169) dL_law_1169 rfl (fun _ => ?_) (fun z => absurd c z)
    refine x_iconst dL_law_1176 ⟨by decide, by decide⟩ ?_
    refine x_invQI (d := mLw nm) (pc := 1177) (index := 128) (ci := 10) (N := 17) (as := [xI (zsc X (i + 1)), xI (zsc X (i + 2)), xI (zsc X (i + 3)), xI 0]) (st := []) (ra := [xI 0, xI (zsc X (i + 3)), xI (zsc X (i + 2)), xI (zsc X (i + 1))]) (dep' := 45) (v_mended _ _ _ _ I (Or.inl rfl) (by decide)) dL_law_1177 nX10_mended zb_988 zb_989 zb_990 zb_82 (zOb.lit (by decide +kernel)) rfl (by omega) (Nat.le_of_ble_eq_true rfl) (Nat.le_of_ble_eq_true rfl) rfl (fun v g P => ?_)
    refine x_aload_n (pc := 1180) 3 dL_law_1180 rfl ?_
    refine x_sc (pc := 1181) (k := 1) dL_law_1181 dL_law_1182 dL_law_1184 dL_law_1185 dL_law_1186 h0 hi (by decide) hL ?_
    refine x_sc (pc := 1187) (k := 2) dL_law_1187 dL_law_1188 dL_law_1190 dL_law_1191 dL_law_1192 h0 hi (by decide) hL ?_
    refine x_sc (pc := 1193) (k := 3) dL_law_1193 dL_law_1194 dL_law_1196 dL_law_1197 dL_law_1198 h0 hi (by decide) hL ?_
    refine x_sc (pc := 1199) (k := 4) dL_law_1199 dL_law_1200 dL_law_1202 dL_law_1203 dL_law_1204 h0 hi (by decide) hL ?_
    refine x_if_eq (pc := 1205) dL_law_1205 rfl (fun _ => ?_) (fun z => absurd c z)
    refine x_iconst dL_law_1212 ⟨by decide, by decide⟩ ?_
    refine x_invQI (d := mLw nm) (pc := 1213) (index := 132) (ci := 11) (N := 97) (as := [xI (zsc X (i + 1)), xI (zsc X (i + 2)), xI (zsc X (i + 3)), xI 0]) (st := [xI v]) (ra := [xI 0, xI (zsc X (i + 3)), xI (zsc X (i + 2)), xI (zsc X (i + 1))]) (dep' := 45) P dL_law_1213 nX11_mended zb_1715 zb_1716 zb_1717 zb_92 (zOb.lit (by decide +kernel)) rfl (by omega) (Nat.le_of_ble_eq_true rfl) (Nat.le_of_ble_eq_true rfl) rfl (fun w f q => ?_)
    exact x_same (pc := 1216) dL_law_1216 rfl q.1 (next f q.2)
  · refine x_aload_n (pc := 1144) 2 dL_law_1144 rfl ?_
    refine x_sc (pc := 1145) (k := 1) dL_law_1145 dL_law_1146 dL_law_1148 dL_law_1149 dL_law_1150 h0 hi (by decide) hL ?_
    refine x_sc (pc := 1151) (k := 2) dL_law_1151 dL_law_1152 dL_law_1154 dL_law_1155 dL_law_1156 h0 hi (by decide) hL ?_
    refine x_sc (pc := 1157) (k := 3) dL_law_1157 dL_law_1158 dL_law_1160 dL_law_1161 dL_law_1162 h0 hi (by decide) hL ?_
    refine x_sc (pc := 1163) (k := 4) dL_law_1163 dL_law_1164 dL_law_1166 dL_law_1167 dL_law_1168 h0 hi (by decide) hL ?_
    refine x_if_eq (pc := 1169) dL_law_1169 rfl (fun z => absurd z c) (fun _ => ?_)
    refine x_iconst dL_law_1172 ⟨by decide, by decide⟩ ?_
    refine x_goto dL_law_1173 rfl ?_
    refine x_invQI (d := mLw nm) (pc := 1177) (index := 128) (ci := 10) (N := 17) (as := [xI (zsc X (i + 1)), xI (zsc X (i + 2)), xI (zsc X (i + 3)), xI 1]) (st := []) (ra := [xI 1, xI (zsc X (i + 3)), xI (zsc X (i + 2)), xI (zsc X (i + 1))]) (dep' := 45) (v_mended _ _ _ _ I (Or.inr rfl) (by decide)) dL_law_1177 nX10_mended zb_988 zb_989 zb_990 zb_82 (zOb.lit (by decide +kernel)) rfl (by omega) (Nat.le_of_ble_eq_true rfl) (Nat.le_of_ble_eq_true rfl) rfl (fun v g P => ?_)
    refine x_aload_n (pc := 1180) 3 dL_law_1180 rfl ?_
    refine x_sc (pc := 1181) (k := 1) dL_law_1181 dL_law_1182 dL_law_1184 dL_law_1185 dL_law_1186 h0 hi (by decide) hL ?_
    refine x_sc (pc := 1187) (k := 2) dL_law_1187 dL_law_1188 dL_law_1190 dL_law_1191 dL_law_1192 h0 hi (by decide) hL ?_
    refine x_sc (pc := 1193) (k := 3) dL_law_1193 dL_law_1194 dL_law_1196 dL_law_1197 dL_law_1198 h0 hi (by decide) hL ?_
    refine x_sc (pc := 1199) (k := 4) dL_law_1199 dL_law_1200 dL_law_1202 dL_law_1203 dL_law_1204 h0 hi (by decide) hL ?_
    refine x_if_eq (pc := 1205) dL_law_1205 rfl (fun z => absurd z c) (fun _ => ?_)
    refine x_iconst dL_law_1208 ⟨by decide, by decide⟩ ?_
    refine x_goto dL_law_1209 rfl ?_
    refine x_invQI (d := mLw nm) (pc := 1213) (index := 132) (ci := 11) (N := 97) (as := [xI (zsc X (i + 1)), xI (zsc X (i + 2)), xI (zsc X (i + 3)), xI 1]) (st := [xI v]) (ra := [xI 1, xI (zsc X (i + 3)), xI (zsc X (i + 2)), xI (zsc X (i + 1))]) (dep' := 45) P dL_law_1213 nX11_mended zb_1715 zb_1716 zb_1717 zb_92 (zOb.lit (by decide +kernel)) rfl (by omega) (Nat.le_of_ble_eq_true rfl) (Nat.le_of_ble_eq_true rfl) rfl (fun w f q => ?_)
    exact x_same (pc := 1216) dL_law_1216 rfl q.1 (next f q.2)
theorem L_25 {nm : String} {X : zX} {dep bc bs : Nat} {i : Int} {h : zH} {Q : Nat → zH → List zV → Prop} (I : vI h) (h0 : 0 ≤ i) (hi : i + 6 ≤ X.1) (hL : X.1 ≤ 3072) (hdep : 46 ≤ dep) (next : ∀ h', vI h' → xW xA (mLw nm) X dep bc bs 239 1564 (zLp i) [] h' Q) : xW xA (mLw nm) X dep bc bs 239 1221 (zLp i) [] h Q := by
  refine x_aload_n (pc := 1221) 2 dL_law_1221 rfl ?_
  refine x_sc (pc := 1222) (k := 1) dL_law_1222 dL_law_1223 dL_law_1225 dL_law_1226 dL_law_1227 h0 hi (by decide) hL ?_
  refine x_invQI (d := mLw nm) (pc := 1228) (index := 133) (ci := 10) (N := 17) (as := [xI (zsc X (i + 1))]) (st := []) (ra := [xI (zsc X (i + 1))]) (dep' := 45) (v_mendedAt _ I) dL_law_1228 nX10_mendedAt zb_992 zb_993 zb_994 zb_82 (zOb.lit (by decide +kernel)) rfl (by omega) (Nat.le_of_ble_eq_true rfl) (Nat.le_of_ble_eq_true rfl) rfl (fun v g P => ?_)
  refine x_aload_n (pc := 1231) 3 dL_law_1231 rfl ?_
  refine x_sc (pc := 1232) (k := 1) dL_law_1232 dL_law_1233 dL_law_1235 dL_law_1236 dL_law_1237 h0 hi (by decide) hL ?_
  refine x_invQI (d := mLw nm) (pc := 1238) (index := 136) (ci := 11) (N := 97) (as := [xI (zsc X (i + 1))]) (st := [xI v]) (ra := [xI (zsc X (i + 1))]) (dep' := 45) P dL_law_1238 nX11_mendedAt zb_1723 zb_1724 zb_1725 zb_92 (zOb.lit (by decide +kernel)) rfl (by omega) (Nat.le_of_ble_eq_true rfl) (Nat.le_of_ble_eq_true rfl) rfl (fun w f q => ?_)
  exact x_same (pc := 1241) dL_law_1241 rfl q.1 (next f q.2)
theorem L_26 {nm : String} {X : zX} {dep bc bs : Nat} {i : Int} {h : zH} {Q : Nat → zH → List zV → Prop} (I : vI h) (h0 : 0 ≤ i) (hi : i + 6 ≤ X.1) (hL : X.1 ≤ 3072) (hdep : 46 ≤ dep) (next : ∀ h', vI h' → xW xA (mLw nm) X dep bc bs 239 1564 (zLp i) [] h' Q) : xW xA (mLw nm) X dep bc bs 239 1246 (zLp i) [] h Q := by
  refine x_aload_n (pc := 1246) 2 dL_law_1246 rfl ?_
  refine x_sc (pc := 1247) (k := 1) dL_law_1247 dL_law_1248 dL_law_1250 dL_law_1251 dL_law_1252 h0 hi (by decide) hL ?_
  refine x_sc (pc := 1253) (k := 2) dL_law_1253 dL_law_1254 dL_law_1256 dL_law_1257 dL_law_1258 h0 hi (by decide) hL ?_
  refine x_invQI (d := mLw nm) (pc := 1259) (index := 137) (ci := 10) (N := 17) (as := [xI (zsc X (i + 1)), xI (zsc X (i + 2))]) (st := []) (ra := [xI (zsc X (i + 2)), xI (zsc X (i + 1))]) (dep' := 45) (v_appeal _ _ I (by decide)) dL_law_1259 nX10_appeal zb_996 zb_997 zb_998 zb_82 (zOb.lit (by decide +kernel)) rfl (by omega) (Nat.le_of_ble_eq_true rfl) (Nat.le_of_ble_eq_true rfl) rfl (fun v g P => ?_)
  refine x_aload_n (pc := 1262) 3 dL_law_1262 rfl ?_
  refine x_sc (pc := 1263) (k := 1) dL_law_1263 dL_law_1264 dL_law_1266 dL_law_1267 dL_law_1268 h0 hi (by decide) hL ?_
  refine x_sc (pc := 1269) (k := 2) dL_law_1269 dL_law_1270 dL_law_1272 dL_law_1273 dL_law_1274 h0 hi (by decide) hL ?_
  refine x_invQI (d := mLw nm) (pc := 1275) (index := 140) (ci := 11) (N := 97) (as := [xI (zsc X (i + 1)), xI (zsc X (i + 2))]) (st := [xI v]) (ra := [xI (zsc X (i + 2)), xI (zsc X (i + 1))]) (dep' := 45) P dL_law_1275 nX11_appeal zb_1727 zb_1728 zb_1729 zb_92 (zOb.lit (by decide +kernel)) rfl (by omega) (Nat.le_of_ble_eq_true rfl) (Nat.le_of_ble_eq_true rfl) rfl (fun w f q => ?_)
  exact x_same (pc := 1278) dL_law_1278 rfl q.1 (next f q.2)
theorem L_29 {nm : String} {X : zX} {dep bc bs : Nat} {i : Int} {h : zH} {Q : Nat → zH → List zV → Prop} (I : vI h) (h0 : 0 ≤ i) (hi : i + 6 ≤ X.1) (hL : X.1 ≤ 3072) (hdep : 46 ≤ dep) (next : ∀ h', vI h' → xW xA (mLw nm) X dep bc bs 239 1564 (zLp i) [] h' Q) : xW xA (mLw nm) X dep bc bs 239 1465 (zLp i) [] h Q := by
  refine x_aload_n (pc := 1465) 2 dL_law_1465 rfl ?_
  refine x_sc (pc := 1466) (k := 1) dL_law_1466 dL_law_1467 dL_law_1469 dL_law_1470 dL_law_1471 h0 hi (by decide) hL ?_
  refine x_sc (pc := 1472) (k := 2) dL_law_1472 dL_law_1473 dL_law_1475 dL_law_1476 dL_law_1477 h0 hi (by decide) hL ?_
  refine x_invQI (d := mLw nm) (pc := 1478) (index := 154) (ci := 10) (N := 17) (as := [xI (zsc X (i + 1)), xI (zsc X (i + 2))]) (st := []) (ra := [xI (zsc X (i + 2)), xI (zsc X (i + 1))]) (dep' := 45) (v_leaves _ _ I (by decide)) dL_law_1478 nX10_leaves zb_1000 zb_1001 zb_1002 zb_82 (zOb.lit (by decide +kernel)) rfl (by omega) (Nat.le_of_ble_eq_true rfl) (Nat.le_of_ble_eq_true rfl) rfl (fun v g P => ?_)
  refine x_aload_n (pc := 1481) 3 dL_law_1481 rfl ?_
  refine x_sc (pc := 1482) (k := 1) dL_law_1482 dL_law_1483 dL_law_1485 dL_law_1486 dL_law_1487 h0 hi (by decide) hL ?_
  refine x_sc (pc := 1488) (k := 2) dL_law_1488 dL_law_1489 dL_law_1491 dL_law_1492 dL_law_1493 h0 hi (by decide) hL ?_
  refine x_invQI (d := mLw nm) (pc := 1494) (index := 157) (ci := 11) (N := 97) (as := [xI (zsc X (i + 1)), xI (zsc X (i + 2))]) (st := [xI v]) (ra := [xI (zsc X (i + 2)), xI (zsc X (i + 1))]) (dep' := 45) P dL_law_1494 nX11_leaves zb_1754 zb_1755 zb_1756 zb_92 (zOb.lit (by decide +kernel)) rfl (by omega) (Nat.le_of_ble_eq_true rfl) (Nat.le_of_ble_eq_true rfl) rfl (fun w f q => ?_)
  exact x_same (pc := 1497) dL_law_1497 rfl q.1 (next f q.2)
theorem L_30 {nm : String} {X : zX} {dep bc bs : Nat} {i : Int} {h : zH} {Q : Nat → zH → List zV → Prop} (I : vI h) (h0 : 0 ≤ i) (hi : i + 6 ≤ X.1) (hL : X.1 ≤ 3072) (hdep : 46 ≤ dep) (next : ∀ h', vI h' → xW xA (mLw nm) X dep bc bs 239 1564 (zLp i) [] h' Q) : xW xA (mLw nm) X dep bc bs 239 1502 (zLp i) [] h Q := by
  refine x_aload_n (pc := 1502) 2 dL_law_1502 rfl ?_
  refine x_sc (pc := 1503) (k := 1) dL_law_1503 dL_law_1504 dL_law_1506 dL_law_1507 dL_law_1508 h0 hi (by decide) hL ?_
  refine x_sc (pc := 1509) (k := 2) dL_law_1509 dL_law_1510 dL_law_1512 dL_law_1513 dL_law_1514 h0 hi (by decide) hL ?_
  refine x_invQI (d := mLw nm) (pc := 1515) (index := 158) (ci := 10) (N := 17) (as := [xI (zsc X (i + 1)), xI (zsc X (i + 2))]) (st := []) (ra := [xI (zsc X (i + 2)), xI (zsc X (i + 1))]) (dep' := 45) (v_gone _ _ I (by decide)) dL_law_1515 nX10_gone zb_1018 zb_1019 zb_1020 zb_82 (zOb.lit (by decide +kernel)) rfl (by omega) (Nat.le_of_ble_eq_true rfl) (Nat.le_of_ble_eq_true rfl) rfl (fun v g P => ?_)
  refine x_aload_n (pc := 1518) 3 dL_law_1518 rfl ?_
  refine x_sc (pc := 1519) (k := 1) dL_law_1519 dL_law_1520 dL_law_1522 dL_law_1523 dL_law_1524 h0 hi (by decide) hL ?_
  refine x_sc (pc := 1525) (k := 2) dL_law_1525 dL_law_1526 dL_law_1528 dL_law_1529 dL_law_1530 h0 hi (by decide) hL ?_
  refine x_invQI (d := mLw nm) (pc := 1531) (index := 161) (ci := 11) (N := 97) (as := [xI (zsc X (i + 1)), xI (zsc X (i + 2))]) (st := [xI v]) (ra := [xI (zsc X (i + 2)), xI (zsc X (i + 1))]) (dep' := 45) P dL_law_1531 nX11_gone zb_1762 zb_1763 zb_1764 zb_92 (zOb.lit (by decide +kernel)) rfl (by omega) (Nat.le_of_ble_eq_true rfl) (Nat.le_of_ble_eq_true rfl) rfl (fun w f q => ?_)
  exact x_same (pc := 1534) dL_law_1534 rfl q.1 (next f q.2)
theorem L_31 {nm : String} {X : zX} {dep bc bs : Nat} {i : Int} {h : zH} {Q : Nat → zH → List zV → Prop} (I : vI h) (h0 : 0 ≤ i) (hi : i + 6 ≤ X.1) (hL : X.1 ≤ 3072) (hdep : 46 ≤ dep) (next : ∀ h', vI h' → xW xA (mLw nm) X dep bc bs 239 1564 (zLp i) [] h' Q) : xW xA (mLw nm) X dep bc bs 239 1539 (zLp i) [] h Q := by
  refine x_aload_n (pc := 1539) 2 dL_law_1539 rfl ?_
  refine x_sc (pc := 1540) (k := 1) dL_law_1540 dL_law_1541 dL_law_1543 dL_law_1544 dL_law_1545 h0 hi (by decide) hL ?_
  refine x_invQI (d := mLw nm) (pc := 1546) (index := 162) (ci := 10) (N := 17) (as := [xI (zsc X (i + 1))]) (st := []) (ra := [xI (zsc X (i + 1))]) (dep' := 45) (v_count _ I) dL_law_1546 nX10_count zb_1022 zb_1023 zb_1024 zb_82 (zOb.lit (by decide +kernel)) rfl (by omega) (Nat.le_of_ble_eq_true rfl) (Nat.le_of_ble_eq_true rfl) rfl (fun v g P => ?_)
  refine x_aload_n (pc := 1549) 3 dL_law_1549 rfl ?_
  refine x_sc (pc := 1550) (k := 1) dL_law_1550 dL_law_1551 dL_law_1553 dL_law_1554 dL_law_1555 h0 hi (by decide) hL ?_
  refine x_invQI (d := mLw nm) (pc := 1556) (index := 165) (ci := 11) (N := 97) (as := [xI (zsc X (i + 1))]) (st := [xI v]) (ra := [xI (zsc X (i + 1))]) (dep' := 45) P dL_law_1556 nX11_count zb_1766 zb_1767 zb_1768 zb_92 (zOb.lit (by decide +kernel)) rfl (by omega) (Nat.le_of_ble_eq_true rfl) (Nat.le_of_ble_eq_true rfl) rfl (fun w f q => ?_)
  exact x_same (pc := 1559) dL_law_1559 rfl q.1 (next f q.2)
