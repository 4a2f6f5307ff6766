set_option maxHeartbeats 1000000 in
set_option maxRecDepth 20000 in
theorem lwc_status {D : va_G} {cy : Nat → ClassId} {B : Nat} {p : Program} {l : Launch} {e : Env} {s : State} {m : MethodId} {b L X0 i : Nat} {xs : Nat → Int32} {below : List Frame} {meth : Method} {c : Code} {Q : State → Prop} (X : CXd D cy B p s m #[.ref b] c cL_law RL 4) (S : LSc s B b L xs) {h : Hp} {k n : Nat} (hi : i + 6 ≤ L) (hkn : k + 31 ≤ 600000 ∧ n + 292 ≤ 7302250) (I : Inv h X0) (K : ∀ (h' : Hp) (k' n' : Nat), Inv h' X0 → k' ≤ k + 31 → n' ≤ n + 292 → AWd D cy B p l e room_1 s m #[.ref b] below meth c 4 Q h' k' n' 2132 (LVs b X0 i) []) : AWd D cy B p l e room_1 s m #[.ref b] below meth c 4 Q h k n 276 (LVs b X0 i) [] := by
  obtain ⟨c9, J, -, -, -⟩ := id I
  have g1 : (hK h X0).1 = 11 := J.x.k
  obtain ⟨v, h2, e1, e2, I2⟩ := ok_status I
  have e1 : fX11_status h X0 = some v := e1
  have e2 : fX12_status h (X0 + 121) = some (v, h2) := e2
  have g2 : (hK h (X0 + 121)).1 = 12 := by
    have z := e2
    rw [fX12_status.eq_1] at z
    exact (gd_some z).1
  refine aw_aload_n (pc := 276) X dL_law_276 2 rfl ?_
  refine aw_invV (pc := 277) X (kX11_status e1) mw_yX11_status kw_537 kw_538 kw_539 g1 rfl (by decide) rfl ⟨(Nat.le_of_ble_eq_true rfl), (Nat.le_of_ble_eq_true rfl)⟩ rfl (Nat.le_of_ble_eq_true rfl) (lw_rm ⟨by omega, by omega⟩) dL_law_277 ?_
  refine aw_ret1 (k' := k + 0) (n' := n + 0) rfl rfl ?_
  refine aw_aload_n (pc := 280) X dL_law_280 3 rfl ?_
  refine aw_invV (pc := 281) X (kX12_status e2) mw_yX12_status kw_1632 kw_1633 kw_1634 g2 rfl (by decide) rfl ⟨(Nat.le_of_ble_eq_true rfl), (Nat.le_of_ble_eq_true rfl)⟩ rfl (Nat.le_of_ble_eq_true rfl) (lw_rm ⟨by omega, by omega⟩) dL_law_281 ?_
  refine aw_ret1 (k' := k + 0 + 0) (n' := n + 0 + 0) rfl rfl ?_
  refine aw_icmp_eq (pc := 284) (tgt := 2132) X (gX11_status e1) (gX12_status e2) dL_law_284 (by decide) (fun _ => ?_) (fun z => absurd rfl z)
  exact K _ _ _ I2 (by omega) (by omega)
set_option maxHeartbeats 1000000 in
set_option maxRecDepth 20000 in
theorem lwc_top {D : va_G} {cy : Nat → ClassId} {B : Nat} {p : Program} {l : Launch} {e : Env} {s : State} {m : MethodId} {b L X0 i : Nat} {xs : Nat → Int32} {below : List Frame} {meth : Method} {c : Code} {Q : State → Prop} (X : CXd D cy B p s m #[.ref b] c cL_law RL 4) (S : LSc s B b L xs) {h : Hp} {k n : Nat} (hi : i + 6 ≤ L) (hkn : k + 31 ≤ 600000 ∧ n + 292 ≤ 7302250) (I : Inv h X0) (K : ∀ (h' : Hp) (k' n' : Nat), Inv h' X0 → k' ≤ k + 31 → n' ≤ n + 292 → AWd D cy B p l e room_1 s m #[.ref b] below meth c 4 Q h' k' n' 2132 (LVs b X0 i) []) : AWd D cy B p l e room_1 s m #[.ref b] below meth c 4 Q h k n 289 (LVs b X0 i) [] := by
  obtain ⟨c9, J, -, -, -⟩ := id I
  have g1 : (hK h X0).1 = 11 := J.x.k
  obtain ⟨v, h2, e1, e2, I2⟩ := ok_top I
  have e1 : fX11_top h X0 = some v := e1
  have e2 : fX12_top h (X0 + 121) = some (v, h2) := e2
  have g2 : (hK h (X0 + 121)).1 = 12 := by
    have z := e2
    rw [fX12_top.eq_1] at z
    exact (gd_some z).1
  refine aw_aload_n (pc := 289) X dL_law_289 2 rfl ?_
  refine aw_invV (pc := 290) X (kX11_top e1) mw_yX11_top kw_541 kw_542 kw_543 g1 rfl (by decide) rfl ⟨(Nat.le_of_ble_eq_true rfl), (Nat.le_of_ble_eq_true rfl)⟩ rfl (Nat.le_of_ble_eq_true rfl) (lw_rm ⟨by omega, by omega⟩) dL_law_290 ?_
  refine aw_ret1 (k' := k + 0) (n' := n + 0) rfl rfl ?_
  refine aw_aload_n (pc := 293) X dL_law_293 3 rfl ?_
  refine aw_invV (pc := 294) X (kX12_top e2) mw_yX12_top kw_1636 kw_1637 kw_1638 g2 rfl (by decide) rfl ⟨(Nat.le_of_ble_eq_true rfl), (Nat.le_of_ble_eq_true rfl)⟩ rfl (Nat.le_of_ble_eq_true rfl) (lw_rm ⟨by omega, by omega⟩) dL_law_294 ?_
  refine aw_ret1 (k' := k + 0 + 0) (n' := n + 0 + 0) rfl rfl ?_
  refine aw_lc_eq (pc := 297) (tgt := 2132) X (gX11_top e1) (gX12_top e2) dL_law_297 dL_law_298 (by decide) (fun _ => ?_) (fun z => absurd rfl z)
  exact K _ _ _ I2 (by omega) (by omega)
set_option maxHeartbeats 1000000 in
set_option maxRecDepth 20000 in
theorem lwc_bottom {D : va_G} {cy : Nat → ClassId} {B : Nat} {p : Program} {l : Launch} {e : Env} {s : State} {m : MethodId} {b L X0 i : Nat} {xs : Nat → Int32} {below : List Frame} {meth : Method} {c : Code} {Q : State → Prop} (X : CXd D cy B p s m #[.ref b] c cL_law RL 4) (S : LSc s B b L xs) {h : Hp} {k n : Nat} (hi : i + 6 ≤ L) (hkn : k + 31 ≤ 600000 ∧ n + 292 ≤ 7302250) (I : Inv h X0) (K : ∀ (h' : Hp) (k' n' : Nat), Inv h' X0 → k' ≤ k + 31 → n' ≤ n + 292 → AWd D cy B p l e room_1 s m #[.ref b] below meth c 4 Q h' k' n' 2132 (LVs b X0 i) []) : AWd D cy B p l e room_1 s m #[.ref b] below meth c 4 Q h k n 303 (LVs b X0 i) [] := by
  obtain ⟨c9, J, -, -, -⟩ := id I
  have g1 : (hK h X0).1 = 11 := J.x.k
  obtain ⟨v, h2, e1, e2, I2⟩ := ok_bottom I
  have e1 : fX11_bottom h X0 = some v := e1
  have e2 : fX12_bottom h (X0 + 121) = some (v, h2) := e2
  have g2 : (hK h (X0 + 121)).1 = 12 := by
    have z := e2
    rw [fX12_bottom.eq_1] at z
    exact (gd_some z).1
  refine aw_aload_n (pc := 303) X dL_law_303 2 rfl ?_
  refine aw_invV (pc := 304) X (kX11_bottom e1) mw_yX11_bottom kw_545 kw_546 kw_547 g1 rfl (by decide) rfl ⟨(Nat.le_of_ble_eq_true rfl), (Nat.le_of_ble_eq_true rfl)⟩ rfl (Nat.le_of_ble_eq_true rfl) (lw_rm ⟨by omega, by omega⟩) dL_law_304 ?_
  refine aw_ret1 (k' := k + 0) (n' := n + 0) rfl rfl ?_
  refine aw_aload_n (pc := 307) X dL_law_307 3 rfl ?_
  refine aw_invV (pc := 308) X (kX12_bottom e2) mw_yX12_bottom kw_1640 kw_1641 kw_1642 g2 rfl (by decide) rfl ⟨(Nat.le_of_ble_eq_true rfl), (Nat.le_of_ble_eq_true rfl)⟩ rfl (Nat.le_of_ble_eq_true rfl) (lw_rm ⟨by omega, by omega⟩) dL_law_308 ?_
  refine aw_ret1 (k' := k + 0 + 0) (n' := n + 0 + 0) rfl rfl ?_
  refine aw_lc_eq (pc := 311) (tgt := 2132) X (gX11_bottom e1) (gX12_bottom e2) dL_law_311 dL_law_312 (by decide) (fun _ => ?_) (fun z => absurd rfl z)
  exact K _ _ _ I2 (by omega) (by omega)
set_option maxHeartbeats 1000000 in
set_option maxRecDepth 20000 in
theorem lwc_tray {D : va_G} {cy : Nat → ClassId} {B : Nat} {p : Program} {l : Launch} {e : Env} {s : State} {m : MethodId} {b L X0 i : Nat} {xs : Nat → Int32} {below : List Frame} {meth : Method} {c : Code} {Q : State → Prop} (X : CXd D cy B p s m #[.ref b] c cL_law RL 4) (S : LSc s B b L xs) {h : Hp} {k n : Nat} (hi : i + 6 ≤ L) (hkn : k + 31 ≤ 600000 ∧ n + 292 ≤ 7302250) (I : Inv h X0) (K : ∀ (h' : Hp) (k' n' : Nat), Inv h' X0 → k' ≤ k + 31 → n' ≤ n + 292 → AWd D cy B p l e room_1 s m #[.ref b] below meth c 4 Q h' k' n' 2132 (LVs b X0 i) []) : AWd D cy B p l e room_1 s m #[.ref b] below meth c 4 Q h k n 317 (LVs b X0 i) [] := by
  obtain ⟨c9, J, -, -, -⟩ := id I
  have g1 : (hK h X0).1 = 11 := J.x.k
  obtain ⟨v, h1, h2, e1, e2, I2⟩ := ok_tray (t := sx xs i 1) (s := sx xs i 2) (m := sx xs i 3) I
  have e1 : fX11_tray h X0 (sx xs i 1) (sx xs i 2) (sx xs i 3) = some (v, h1) := e1
  have e2 : fX12_tray h1 (X0 + 121) (sx xs i 1) (sx xs i 2) (sx xs i 3) = some (v, h2) := e2
  have g2 : (hK h1 (X0 + 121)).1 = 12 := by
    have z := e2
    rw [fX12_tray.eq_1] at z
    exact (gd_some z).1
  refine aw_aload_n (pc := 317) X dL_law_317 2 rfl ?_
  refine aw_word (pc := 318) X S hi 1 (by decide) rfl dL_law_318 dL_law_319 dL_law_320 dL_law_321 dL_law_322 ?_
  refine aw_word (pc := 323) X S hi 2 (by decide) rfl dL_law_323 dL_law_324 dL_law_325 dL_law_326 dL_law_327 ?_
  refine aw_word (pc := 328) X S hi 3 (by decide) rfl dL_law_328 dL_law_329 dL_law_330 dL_law_331 dL_law_332 ?_
  refine aw_invV (pc := 333) X (kX11_tray sx_rg sx_rg sx_rg e1) mw_yX11_tray kw_549 kw_550 kw_551 g1 rfl (by decide) rfl ⟨(Nat.le_of_ble_eq_true rfl), (Nat.le_of_ble_eq_true rfl)⟩ rfl (Nat.le_of_ble_eq_true rfl) (lw_rm ⟨by omega, by omega⟩) dL_law_333 ?_
  refine aw_ret1 (k' := k + 0) (n' := n + 0) rfl rfl ?_
  refine aw_aload_n (pc := 336) X dL_law_336 3 rfl ?_
  refine aw_word (pc := 337) X S hi 1 (by decide) rfl dL_law_337 dL_law_338 dL_law_339 dL_law_340 dL_law_341 ?_
  refine aw_word (pc := 342) X S hi 2 (by decide) rfl dL_law_342 dL_law_343 dL_law_344 dL_law_345 dL_law_346 ?_
  refine aw_word (pc := 347) X S hi 3 (by decide) rfl dL_law_347 dL_law_348 dL_law_349 dL_law_350 dL_law_351 ?_
  refine aw_invV (pc := 352) X (kX12_tray sx_rg sx_rg sx_rg e2) mw_yX12_tray kw_1644 kw_1645 kw_1646 g2 rfl (by decide) rfl ⟨(Nat.le_of_ble_eq_true rfl), (Nat.le_of_ble_eq_true rfl)⟩ rfl (Nat.le_of_ble_eq_true rfl) (lw_rm ⟨by omega, by omega⟩) dL_law_352 ?_
  refine aw_ret1 (k' := k + 0 + 0) (n' := n + 0 + 0) rfl rfl ?_
  refine aw_icmp_eq (pc := 355) (tgt := 2132) X (rg_01 (gX11_tray sx_rg sx_rg sx_rg e1)) (rg_01 (gX12_tray sx_rg sx_rg sx_rg e2)) dL_law_355 (by decide) (fun _ => ?_) (fun z => absurd rfl z)
  exact K _ _ _ I2 (by omega) (by omega)
set_option maxHeartbeats 1000000 in
set_option maxRecDepth 20000 in
theorem lwc_write {D : va_G} {cy : Nat → ClassId} {B : Nat} {p : Program} {l : Launch} {e : Env} {s : State} {m : MethodId} {b L X0 i : Nat} {xs : Nat → Int32} {below : List Frame} {meth : Method} {c : Code} {Q : State → Prop} (X : CXd D cy B p s m #[.ref b] c cL_law RL 4) (S : LSc s B b L xs) {h : Hp} {k n : Nat} (hi : i + 6 ≤ L) (hkn : k + 31 ≤ 600000 ∧ n + 292 ≤ 7302250) (I : Inv h X0) (K : ∀ (h' : Hp) (k' n' : Nat), Inv h' X0 → k' ≤ k + 31 → n' ≤ n + 292 → AWd D cy B p l e room_1 s m #[.ref b] below meth c 4 Q h' k' n' 2132 (LVs b X0 i) []) : AWd D cy B p l e room_1 s m #[.ref b] below meth c 4 Q h k n 360 (LVs b X0 i) [] := by
  obtain ⟨c9, J, -, -, -⟩ := id I
  have g1 : (hK h X0).1 = 11 := J.x.k
  obtain ⟨v, h1, h2, e1, e2, I2⟩ := ok_write (t := sx xs i 1) (k := sx xs i 2) (v := lor (lsh (sx xs i 3) 32) (lnd (sx xs i 4) 4294967295)) I sx_rg
  have e1 : fX11_write h X0 (sx xs i 1) (sx xs i 2) (lor (lsh (sx xs i 3) 32) (lnd (sx xs i 4) 4294967295)) = some (v, h1) := e1
  have e2 : fX12_write h1 (X0 + 121) (sx xs i 1) (sx xs i 2) (lor (lsh (sx xs i 3) 32) (lnd (sx xs i 4) 4294967295)) = some (v, h2) := e2
  have g2 : (hK h1 (X0 + 121)).1 = 12 := by
    have z := e2
    rw [fX12_write.eq_1] at z
    exact (gd_some z).1
  refine aw_aload_n (pc := 360) X dL_law_360 2 rfl ?_
  refine aw_word (pc := 361) X S hi 1 (by decide) rfl dL_law_361 dL_law_362 dL_law_363 dL_law_364 dL_law_365 ?_
  refine aw_word (pc := 366) X S hi 2 (by decide) rfl dL_law_366 dL_law_367 dL_law_368 dL_law_369 dL_law_370 ?_
  refine aw_word (pc := 371) X S hi 3 (by decide) rfl dL_law_371 dL_law_372 dL_law_373 dL_law_374 dL_law_375 ?_
  refine aw_i2l (pc := 376) X sx_rg dL_law_376 ?_
  refine aw_bipush (pc := 377) X dL_law_377 rfl ?_
  refine aw_lshl (pc := 379) X dL_law_379 ?_
  refine aw_word (pc := 380) X S hi 4 (by decide) rfl dL_law_380 dL_law_381 dL_law_382 dL_law_383 dL_law_384 ?_
  refine aw_i2l (pc := 385) X sx_rg dL_law_385 ?_
  refine aw_ldc2 (pc := 386) X dL_law_386 kw_2253 ?_
  refine aw_land (pc := 389) X dL_law_389 ?_
  refine aw_lor (pc := 390) X dL_law_390 ?_
  refine aw_invV (pc := 391) X (kX11_write sx_rg sx_rg (tj_rl _) e1) mw_yX11_write kw_575 kw_576 kw_577 g1 rfl (by decide) rfl ⟨(Nat.le_of_ble_eq_true rfl), (Nat.le_of_ble_eq_true rfl)⟩ rfl (Nat.le_of_ble_eq_true rfl) (lw_rm ⟨by omega, by omega⟩) dL_law_391 ?_
  refine aw_ret1 (k' := k + 0) (n' := n + 0) rfl rfl ?_
  refine aw_aload_n (pc := 394) X dL_law_394 3 rfl ?_
  refine aw_word (pc := 395) X S hi 1 (by decide) rfl dL_law_395 dL_law_396 dL_law_397 dL_law_398 dL_law_399 ?_
  refine aw_word (pc := 400) X S hi 2 (by decide) rfl dL_law_400 dL_law_401 dL_law_402 dL_law_403 dL_law_404 ?_
  refine aw_word (pc := 405) X S hi 3 (by decide) rfl dL_law_405 dL_law_406 dL_law_407 dL_law_408 dL_law_409 ?_
  refine aw_i2l (pc := 410) X sx_rg dL_law_410 ?_
  refine aw_bipush (pc := 411) X dL_law_411 rfl ?_
  refine aw_lshl (pc := 413) X dL_law_413 ?_
  refine aw_word (pc := 414) X S hi 4 (by decide) rfl dL_law_414 dL_law_415 dL_law_416 dL_law_417 dL_law_418 ?_
  refine aw_i2l (pc := 419) X sx_rg dL_law_419 ?_
  refine aw_ldc2 (pc := 420) X dL_law_420 kw_2253 ?_
  refine aw_land (pc := 423) X dL_law_423 ?_
  refine aw_lor (pc := 424) X dL_law_424 ?_
  refine aw_invV (pc := 425) X (kX12_write sx_rg sx_rg (tj_rl _) e2) mw_yX12_write kw_1652 kw_1653 kw_1654 g2 rfl (by decide) rfl ⟨(Nat.le_of_ble_eq_true rfl), (Nat.le_of_ble_eq_true rfl)⟩ rfl (Nat.le_of_ble_eq_true rfl) (lw_rm ⟨by omega, by omega⟩) dL_law_425 ?_
  refine aw_ret1 (k' := k + 0 + 0) (n' := n + 0 + 0) rfl rfl ?_
  refine aw_icmp_eq (pc := 428) (tgt := 2132) X (rg_01 (gX11_write sx_rg sx_rg (tj_rl _) e1)) (rg_01 (gX12_write sx_rg sx_rg (tj_rl _) e2)) dL_law_428 (by decide) (fun _ => ?_) (fun z => absurd rfl z)
  exact K _ _ _ I2 (by omega) (by omega)
set_option maxHeartbeats 1000000 in
set_option maxRecDepth 20000 in
theorem lwc_read {D : va_G} {cy : Nat → ClassId} {B : Nat} {p : Program} {l : Launch} {e : Env} {s : State} {m : MethodId} {b L X0 i : Nat} {xs : Nat → Int32} {below : List Frame} {meth : Method} {c : Code} {Q : State → Prop} (X : CXd D cy B p s m #[.ref b] c cL_law RL 4) (S : LSc s B b L xs) {h : Hp} {k n : Nat} (hi : i + 6 ≤ L) (hkn : k + 31 ≤ 600000 ∧ n + 292 ≤ 7302250) (I : Inv h X0) (K : ∀ (h' : Hp) (k' n' : Nat), Inv h' X0 → k' ≤ k + 31 → n' ≤ n + 292 → AWd D cy B p l e room_1 s m #[.ref b] below meth c 4 Q h' k' n' 2132 (LVs b X0 i) []) : AWd D cy B p l e room_1 s m #[.ref b] below meth c 4 Q h k n 433 (LVs b X0 i) [] := by
  obtain ⟨c9, J, -, -, -⟩ := id I
  have g1 : (hK h X0).1 = 11 := J.x.k
  obtain ⟨v, h1, h2, e1, e2, I2⟩ := ok_read (t := sx xs i 1) (k := sx xs i 2) I sx_rg
  have e1 : fX11_read h X0 (sx xs i 1) (sx xs i 2) = some (v, h1) := e1
  have e2 : fX12_read h1 (X0 + 121) (sx xs i 1) (sx xs i 2) = some (v, h2) := e2
  have g2 : (hK h1 (X0 + 121)).1 = 12 := by
    have z := e2
    rw [fX12_read.eq_1] at z
    exact (gd_some z).1
  refine aw_aload_n (pc := 433) X dL_law_433 2 rfl ?_
  refine aw_word (pc := 434) X S hi 1 (by decide) rfl dL_law_434 dL_law_435 dL_law_436 dL_law_437 dL_law_438 ?_
  refine aw_word (pc := 439) X S hi 2 (by decide) rfl dL_law_439 dL_law_440 dL_law_441 dL_law_442 dL_law_443 ?_
  refine aw_invV (pc := 444) X (kX11_read sx_rg sx_rg e1) mw_yX11_read kw_600 kw_601 kw_602 g1 rfl (by decide) rfl ⟨(Nat.le_of_ble_eq_true rfl), (Nat.le_of_ble_eq_true rfl)⟩ rfl (Nat.le_of_ble_eq_true rfl) (lw_rm ⟨by omega, by omega⟩) dL_law_444 ?_
  refine aw_ret1 (k' := k + 0) (n' := n + 0) rfl rfl ?_
  refine aw_aload_n (pc := 447) X dL_law_447 3 rfl ?_
  refine aw_word (pc := 448) X S hi 1 (by decide) rfl dL_law_448 dL_law_449 dL_law_450 dL_law_451 dL_law_452 ?_
  refine aw_word (pc := 453) X S hi 2 (by decide) rfl dL_law_453 dL_law_454 dL_law_455 dL_law_456 dL_law_457 ?_
  refine aw_invV (pc := 458) X (kX12_read sx_rg sx_rg e2) mw_yX12_read kw_1667 kw_1668 kw_1669 g2 rfl (by decide) rfl ⟨(Nat.le_of_ble_eq_true rfl), (Nat.le_of_ble_eq_true rfl)⟩ rfl (Nat.le_of_ble_eq_true rfl) (lw_rm ⟨by omega, by omega⟩) dL_law_458 ?_
  refine aw_ret1 (k' := k + 0 + 0) (n' := n + 0 + 0) rfl rfl ?_
  refine aw_lc_eq (pc := 461) (tgt := 2132) X (gX11_read sx_rg sx_rg e1) (gX12_read sx_rg sx_rg e2) dL_law_461 dL_law_462 (by decide) (fun _ => ?_) (fun z => absurd rfl z)
  exact K _ _ _ I2 (by omega) (by omega)
set_option maxHeartbeats 1000000 in
set_option maxRecDepth 20000 in
theorem lwc_pour {D : va_G} {cy : Nat → ClassId} {B : Nat} {p : Program} {l : Launch} {e : Env} {s : State} {m : MethodId} {b L X0 i : Nat} {xs : Nat → Int32} {below : List Frame} {meth : Method} {c : Code} {Q : State → Prop} (X : CXd D cy B p s m #[.ref b] c cL_law RL 4) (S : LSc s B b L xs) {h : Hp} {k n : Nat} (hi : i + 6 ≤ L) (hkn : k + 31 ≤ 600000 ∧ n + 292 ≤ 7302250) (I : Inv h X0) (K : ∀ (h' : Hp) (k' n' : Nat), Inv h' X0 → k' ≤ k + 31 → n' ≤ n + 292 → AWd D cy B p l e room_1 s m #[.ref b] below meth c 4 Q h' k' n' 2132 (LVs b X0 i) []) : AWd D cy B p l e room_1 s m #[.ref b] below meth c 4 Q h k n 467 (LVs b X0 i) [] := by
  obtain ⟨c9, J, -, -, -⟩ := id I
  have g1 : (hK h X0).1 = 11 := J.x.k
  obtain ⟨v, h1, h2, e1, e2, I2⟩ := ok_pour (a := sx xs i 1) (i := sx xs i 2) (b := sx xs i 3) (j := sx xs i 4) (n := sx xs i 5) I sx_rg sx_rg sx_rg
  have e1 : fX11_pour h X0 (sx xs i 1) (sx xs i 2) (sx xs i 3) (sx xs i 4) (sx xs i 5) = some (v, h1) := e1
  have e2 : fX12_pour h1 (X0 + 121) (sx xs i 1) (sx xs i 2) (sx xs i 3) (sx xs i 4) (sx xs i 5) = some (v, h2) := e2
  have g2 : (hK h1 (X0 + 121)).1 = 12 := by
    have z := e2
    rw [fX12_pour.eq_1] at z
    exact (gd_some z).1
  refine aw_aload_n (pc := 467) X dL_law_467 2 rfl ?_
  refine aw_word (pc := 468) X S hi 1 (by decide) rfl dL_law_468 dL_law_469 dL_law_470 dL_law_471 dL_law_472 ?_
  refine aw_word (pc := 473) X S hi 2 (by decide) rfl dL_law_473 dL_law_474 dL_law_475 dL_law_476 dL_law_477 ?_
  refine aw_word (pc := 478) X S hi 3 (by decide) rfl dL_law_478 dL_law_479 dL_law_480 dL_law_481 dL_law_482 ?_
  refine aw_word (pc := 483) X S hi 4 (by decide) rfl dL_law_483 dL_law_484 dL_law_485 dL_law_486 dL_law_487 ?_
  refine aw_word (pc := 488) X S hi 5 (by decide) rfl dL_law_488 dL_law_489 dL_law_490 dL_law_491 dL_law_492 ?_
  refine aw_invV (pc := 493) X (kX11_pour sx_rg sx_rg sx_rg sx_rg sx_rg e1) mw_yX11_pour kw_613 kw_614 kw_615 g1 rfl (by decide) rfl ⟨(Nat.le_of_ble_eq_true rfl), (Nat.le_of_ble_eq_true rfl)⟩ rfl (Nat.le_of_ble_eq_true rfl) (lw_rm ⟨by omega, by omega⟩) dL_law_493 ?_
  refine aw_ret1 (k' := k + 0) (n' := n + 0) rfl rfl ?_
  refine aw_aload_n (pc := 496) X dL_law_496 3 rfl ?_
  refine aw_word (pc := 497) X S hi 1 (by decide) rfl dL_law_497 dL_law_498 dL_law_499 dL_law_500 dL_law_501 ?_
  refine aw_word (pc := 502) X S hi 2 (by decide) rfl dL_law_502 dL_law_503 dL_law_504 dL_law_505 dL_law_506 ?_
  refine aw_word (pc := 507) X S hi 3 (by decide) rfl dL_law_507 dL_law_508 dL_law_509 dL_law_510 dL_law_511 ?_
  refine aw_word (pc := 512) X S hi 4 (by decide) rfl dL_law_512 dL_law_513 dL_law_514 dL_law_515 dL_law_516 ?_
  refine aw_word (pc := 517) X S hi 5 (by decide) rfl dL_law_517 dL_law_518 dL_law_519 dL_law_520 dL_law_521 ?_
  refine aw_invV (pc := 522) X (kX12_pour sx_rg sx_rg sx_rg sx_rg sx_rg e2) mw_yX12_pour kw_1672 kw_1673 kw_1674 g2 rfl (by decide) rfl ⟨(Nat.le_of_ble_eq_true rfl), (Nat.le_of_ble_eq_true rfl)⟩ rfl (Nat.le_of_ble_eq_true rfl) (lw_rm ⟨by omega, by omega⟩) dL_law_522 ?_
  refine aw_ret1 (k' := k + 0 + 0) (n' := n + 0 + 0) rfl rfl ?_
  refine aw_icmp_eq (pc := 525) (tgt := 2132) X (rg_01 (gX11_pour sx_rg sx_rg sx_rg sx_rg sx_rg e1)) (rg_01 (gX12_pour sx_rg sx_rg sx_rg sx_rg sx_rg e2)) dL_law_525 (by decide) (fun _ => ?_) (fun z => absurd rfl z)
  exact K _ _ _ I2 (by omega) (by omega)
set_option maxHeartbeats 1000000 in
set_option maxRecDepth 20000 in
theorem lwc_feed {D : va_G} {cy : Nat → ClassId} {B : Nat} {p : Program} {l : Launch} {e : Env} {s : State} {m : MethodId} {b L X0 i : Nat} {xs : Nat → Int32} {below : List Frame} {meth : Method} {c : Code} {Q : State → Prop} (X : CXd D cy B p s m #[.ref b] c cL_law RL 4) (S : LSc s B b L xs) {h : Hp} {k n : Nat} (hi : i + 6 ≤ L) (hkn : k + 31 ≤ 600000 ∧ n + 292 ≤ 7302250) (I : Inv h X0) (K : ∀ (h' : Hp) (k' n' : Nat), Inv h' X0 → k' ≤ k + 31 → n' ≤ n + 292 → AWd D cy B p l e room_1 s m #[.ref b] below meth c 4 Q h' k' n' 2132 (LVs b X0 i) []) : AWd D cy B p l e room_1 s m #[.ref b] below meth c 4 Q h k n 530 (LVs b X0 i) [] := by
  obtain ⟨c9, J, -, -, -⟩ := id I
  have g1 : (hK h X0).1 = 11 := J.x.k
  obtain ⟨v, h1, h2, e1, e2, I2⟩ := ok_feed (a := sx xs i 1) (b := sx xs i 2) (d := sx xs i 3) (e := sx xs i 4) (f := sx xs i 5) I
  have e1 : fX11_feed h X0 (sx xs i 1) (sx xs i 2) (sx xs i 3) (sx xs i 4) (sx xs i 5) = some (v, h1) := e1
  have e2 : fX12_feed h1 (X0 + 121) (sx xs i 1) (sx xs i 2) (sx xs i 3) (sx xs i 4) (sx xs i 5) = some (v, h2) := e2
  have g2 : (hK h1 (X0 + 121)).1 = 12 := by
    have z := e2
    rw [fX12_feed.eq_1] at z
    exact (gd_some z).1
  refine aw_aload_n (pc := 530) X dL_law_530 2 rfl ?_
  refine aw_word (pc := 531) X S hi 1 (by decide) rfl dL_law_531 dL_law_532 dL_law_533 dL_law_534 dL_law_535 ?_
  refine aw_word (pc := 536) X S hi 2 (by decide) rfl dL_law_536 dL_law_537 dL_law_538 dL_law_539 dL_law_540 ?_
  refine aw_word (pc := 541) X S hi 3 (by decide) rfl dL_law_541 dL_law_542 dL_law_543 dL_law_544 dL_law_545 ?_
  refine aw_word (pc := 546) X S hi 4 (by decide) rfl dL_law_546 dL_law_547 dL_law_548 dL_law_549 dL_law_550 ?_
  refine aw_word (pc := 551) X S hi 5 (by decide) rfl dL_law_551 dL_law_552 dL_law_553 dL_law_554 dL_law_555 ?_
  refine aw_invV (pc := 556) X (kX11_feed sx_rg sx_rg sx_rg sx_rg sx_rg e1) mw_yX11_feed kw_620 kw_621 kw_622 g1 rfl (by decide) rfl ⟨(Nat.le_of_ble_eq_true rfl), (Nat.le_of_ble_eq_true rfl)⟩ rfl (Nat.le_of_ble_eq_true rfl) (lw_rm ⟨by omega, by omega⟩) dL_law_556 ?_
  refine aw_ret1 (k' := k + 0) (n' := n + 0) rfl rfl ?_
  refine aw_aload_n (pc := 559) X dL_law_559 3 rfl ?_
  refine aw_word (pc := 560) X S hi 1 (by decide) rfl dL_law_560 dL_law_561 dL_law_562 dL_law_563 dL_law_564 ?_
  refine aw_word (pc := 565) X S hi 2 (by decide) rfl dL_law_565 dL_law_566 dL_law_567 dL_law_568 dL_law_569 ?_
  refine aw_word (pc := 570) X S hi 3 (by decide) rfl dL_law_570 dL_law_571 dL_law_572 dL_law_573 dL_law_574 ?_
  refine aw_word (pc := 575) X S hi 4 (by decide) rfl dL_law_575 dL_law_576 dL_law_577 dL_law_578 dL_law_579 ?_
  refine aw_word (pc := 580) X S hi 5 (by decide) rfl dL_law_580 dL_law_581 dL_law_582 dL_law_583 dL_law_584 ?_
  refine aw_invV (pc := 585) X (kX12_feed sx_rg sx_rg sx_rg sx_rg sx_rg e2) mw_yX12_feed kw_1676 kw_1677 kw_1678 g2 rfl (by decide) rfl ⟨(Nat.le_of_ble_eq_true rfl), (Nat.le_of_ble_eq_true rfl)⟩ rfl (Nat.le_of_ble_eq_true rfl) (lw_rm ⟨by omega, by omega⟩) dL_law_585 ?_
  refine aw_ret1 (k' := k + 0 + 0) (n' := n + 0 + 0) rfl rfl ?_
  refine aw_icmp_eq (pc := 588) (tgt := 2132) X (gX11_feed sx_rg sx_rg sx_rg sx_rg sx_rg e1) (gX12_feed sx_rg sx_rg sx_rg sx_rg sx_rg e2) dL_law_588 (by decide) (fun _ => ?_) (fun z => absurd rfl z)
  exact K _ _ _ I2 (by omega) (by omega)
set_option maxHeartbeats 1000000 in
set_option maxRecDepth 20000 in
theorem lwc_shop {D : va_G} {cy : Nat → ClassId} {B : Nat} {p : Program} {l : Launch} {e : Env} {s : State} {m : MethodId} {b L X0 i : Nat} {xs : Nat → Int32} {below : List Frame} {meth : Method} {c : Code} {Q : State → Prop} (X : CXd D cy B p s m #[.ref b] c cL_law RL 4) (S : LSc s B b L xs) {h : Hp} {k n : Nat} (hi : i + 6 ≤ L) (hkn : k + 31 ≤ 600000 ∧ n + 292 ≤ 7302250) (I : Inv h X0) (K : ∀ (h' : Hp) (k' n' : Nat), Inv h' X0 → k' ≤ k + 31 → n' ≤ n + 292 → AWd D cy B p l e room_1 s m #[.ref b] below meth c 4 Q h' k' n' 2132 (LVs b X0 i) []) : AWd D cy B p l e room_1 s m #[.ref b] below meth c 4 Q h k n 593 (LVs b X0 i) [] := by
  obtain ⟨c9, J, -, -, -⟩ := id I
  have g1 : (hK h X0).1 = 11 := J.x.k
  obtain ⟨v, h1, h2, e1, e2, I2⟩ := ok_shop (n := sx xs i 1) I
  have e1 : fX11_shop h X0 (sx xs i 1) = some (v, h1) := e1
  have e2 : fX12_shop h1 (X0 + 121) (sx xs i 1) = some (v, h2) := e2
  have g2 : (hK h1 (X0 + 121)).1 = 12 := by
    have z := e2
    rw [fX12_shop.eq_1] at z
    exact (gd_some z).1
  refine aw_aload_n (pc := 593) X dL_law_593 2 rfl ?_
  refine aw_word (pc := 594) X S hi 1 (by decide) rfl dL_law_594 dL_law_595 dL_law_596 dL_law_597 dL_law_598 ?_
  refine aw_invV (pc := 599) X (kX11_shop sx_rg e1) mw_yX11_shop kw_632 kw_633 kw_634 g1 rfl (by decide) rfl ⟨(Nat.le_of_ble_eq_true rfl), (Nat.le_of_ble_eq_true rfl)⟩ rfl (Nat.le_of_ble_eq_true rfl) (lw_rm ⟨by omega, by omega⟩) dL_law_599 ?_
  refine aw_ret1 (k' := k + 31) (n' := n + 292) rfl rfl ?_
  refine aw_aload_n (pc := 602) X dL_law_602 3 rfl ?_
  refine aw_word (pc := 603) X S hi 1 (by decide) rfl dL_law_603 dL_law_604 dL_law_605 dL_law_606 dL_law_607 ?_
  refine aw_invV (pc := 608) X (kX12_shop sx_rg e2) mw_yX12_shop kw_1688 kw_1689 kw_1690 g2 rfl (by decide) rfl ⟨(Nat.le_of_ble_eq_true rfl), (Nat.le_of_ble_eq_true rfl)⟩ rfl (Nat.le_of_ble_eq_true rfl) (lw_rm ⟨by omega, by omega⟩) dL_law_608 ?_
  refine aw_ret1 (k' := k + 31 + 0) (n' := n + 292 + 0) rfl rfl ?_
  refine aw_icmp_eq (pc := 611) (tgt := 2132) X (gX11_shop sx_rg e1) (gX12_shop sx_rg e2) dL_law_611 (by decide) (fun _ => ?_) (fun z => absurd rfl z)
  exact K _ _ _ I2 (by omega) (by omega)
set_option maxHeartbeats 1000000 in
set_option maxRecDepth 20000 in
theorem lwc_law {D : va_G} {cy : Nat → ClassId} {B : Nat} {p : Program} {l : Launch} {e : Env} {s : State} {m : MethodId} {b L X0 i : Nat} {xs : Nat → Int32} {below : List Frame} {meth : Method} {c : Code} {Q : State → Prop} (X : CXd D cy B p s m #[.ref b] c cL_law RL 4) (S : LSc s B b L xs) {h : Hp} {k n : Nat} (hi : i + 6 ≤ L) (hkn : k + 31 ≤ 600000 ∧ n + 292 ≤ 7302250) (I : Inv h X0) (K : ∀ (h' : Hp) (k' n' : Nat), Inv h' X0 → k' ≤ k + 31 → n' ≤ n + 292 → AWd D cy B p l e room_1 s m #[.ref b] below meth c 4 Q h' k' n' 2132 (LVs b X0 i) []) : AWd D cy B p l e room_1 s m #[.ref b] below meth c 4 Q h k n 616 (LVs b X0 i) [] := by
  obtain ⟨c9, J, -, -, -⟩ := id I
  have g1 : (hK h X0).1 = 11 := J.x.k
  obtain ⟨v, h1, h2, e1, e2, I2⟩ := ok_law (n := sx xs i 1) I
  have e1 : fX11_law h X0 (sx xs i 1) = some (v, h1) := e1
  have e2 : fX12_law h1 (X0 + 121) (sx xs i 1) = some (v, h2) := e2
  have g2 : (hK h1 (X0 + 121)).1 = 12 := by
    have z := e2
    rw [fX12_law.eq_1] at z
    exact (gd_some z).1
  refine aw_aload_n (pc := 616) X dL_law_616 2 rfl ?_
  refine aw_word (pc := 617) X S hi 1 (by decide) rfl dL_law_617 dL_law_618 dL_law_619 dL_law_620 dL_law_621 ?_
  refine aw_invV (pc := 622) X (kX11_law sx_rg e1) mw_yX11_law kw_850 kw_851 kw_852 g1 rfl (by decide) rfl ⟨(Nat.le_of_ble_eq_true rfl), (Nat.le_of_ble_eq_true rfl)⟩ rfl (Nat.le_of_ble_eq_true rfl) (lw_rm ⟨by omega, by omega⟩) dL_law_622 ?_
  refine aw_ret1 (k' := k + 4) (n' := n + 40) rfl rfl ?_
  refine aw_aload_n (pc := 625) X dL_law_625 3 rfl ?_
  refine aw_word (pc := 626) X S hi 1 (by decide) rfl dL_law_626 dL_law_627 dL_law_628 dL_law_629 dL_law_630 ?_
  refine aw_invV (pc := 631) X (kX12_law sx_rg e2) mw_yX12_law kw_1863 kw_1864 kw_1865 g2 rfl (by decide) rfl ⟨(Nat.le_of_ble_eq_true rfl), (Nat.le_of_ble_eq_true rfl)⟩ rfl (Nat.le_of_ble_eq_true rfl) (lw_rm ⟨by omega, by omega⟩) dL_law_631 ?_
  refine aw_ret1 (k' := k + 4 + 0) (n' := n + 40 + 0) rfl rfl ?_
  refine aw_icmp_eq (pc := 634) (tgt := 2132) X (gX11_law sx_rg e1) (gX12_law sx_rg e2) dL_law_634 (by decide) (fun _ => ?_) (fun z => absurd rfl z)
  exact K _ _ _ I2 (by omega) (by omega)
set_option maxHeartbeats 1000000 in
set_option maxRecDepth 20000 in
theorem lwc_fault {D : va_G} {cy : Nat → ClassId} {B : Nat} {p : Program} {l : Launch} {e : Env} {s : State} {m : MethodId} {b L X0 i : Nat} {xs : Nat → Int32} {below : List Frame} {meth : Method} {c : Code} {Q : State → Prop} (X : CXd D cy B p s m #[.ref b] c cL_law RL 4) (S : LSc s B b L xs) {h : Hp} {k n : Nat} (hi : i + 6 ≤ L) (hkn : k + 31 ≤ 600000 ∧ n + 292 ≤ 7302250) (I : Inv h X0) (K : ∀ (h' : Hp) (k' n' : Nat), Inv h' X0 → k' ≤ k + 31 → n' ≤ n + 292 → AWd D cy B p l e room_1 s m #[.ref b] below meth c 4 Q h' k' n' 2132 (LVs b X0 i) []) : AWd D cy B p l e room_1 s m #[.ref b] below meth c 4 Q h k n 639 (LVs b X0 i) [] := by
  obtain ⟨c9, J, -, -, -⟩ := id I
  have g1 : (hK h X0).1 = 11 := J.x.k
  obtain ⟨v, h2, e1, e2, I2⟩ := ok_fault (a := sx xs i 1) I
  have e1 : fX11_fault h X0 (sx xs i 1) = some v := e1
  have e2 : fX12_fault h (X0 + 121) (sx xs i 1) = some (v, h2) := e2
  have g2 : (hK h (X0 + 121)).1 = 12 := by
    have z := e2
    rw [fX12_fault.eq_1] at z
    exact (gd_some z).1
  refine aw_aload_n (pc := 639) X dL_law_639 2 rfl ?_
  refine aw_word (pc := 640) X S hi 1 (by decide) rfl dL_law_640 dL_law_641 dL_law_642 dL_law_643 dL_law_644 ?_
  refine aw_invV (pc := 645) X (kX11_fault sx_rg e1) mw_yX11_fault kw_899 kw_900 kw_901 g1 rfl (by decide) rfl ⟨(Nat.le_of_ble_eq_true rfl), (Nat.le_of_ble_eq_true rfl)⟩ rfl (Nat.le_of_ble_eq_true rfl) (lw_rm ⟨by omega, by omega⟩) dL_law_645 ?_
  refine aw_ret1 (k' := k + 0) (n' := n + 0) rfl rfl ?_
  refine aw_aload_n (pc := 648) X dL_law_648 3 rfl ?_
  refine aw_word (pc := 649) X S hi 1 (by decide) rfl dL_law_649 dL_law_650 dL_law_651 dL_law_652 dL_law_653 ?_
  refine aw_invV (pc := 654) X (kX12_fault sx_rg e2) mw_yX12_fault kw_1684 kw_1685 kw_1686 g2 rfl (by decide) rfl ⟨(Nat.le_of_ble_eq_true rfl), (Nat.le_of_ble_eq_true rfl)⟩ rfl (Nat.le_of_ble_eq_true rfl) (lw_rm ⟨by omega, by omega⟩) dL_law_654 ?_
  refine aw_ret1 (k' := k + 0 + 0) (n' := n + 0 + 0) rfl rfl ?_
  refine aw_icmp_eq (pc := 657) (tgt := 2132) X (gX11_fault sx_rg e1) (gX12_fault sx_rg e2) dL_law_657 (by decide) (fun _ => ?_) (fun z => absurd rfl z)
  exact K _ _ _ I2 (by omega) (by omega)
set_option maxHeartbeats 1000000 in
set_option maxRecDepth 20000 in
theorem lwc_many {D : va_G} {cy : Nat → ClassId} {B : Nat} {p : Program} {l : Launch} {e : Env} {s : State} {m : MethodId} {b L X0 i : Nat} {xs : Nat → Int32} {below : List Frame} {meth : Method} {c : Code} {Q : State → Prop} (X : CXd D cy B p s m #[.ref b] c cL_law RL 4) (S : LSc s B b L xs) {h : Hp} {k n : Nat} (hi : i + 6 ≤ L) (hkn : k + 31 ≤ 600000 ∧ n + 292 ≤ 7302250) (I : Inv h X0) (K : ∀ (h' : Hp) (k' n' : Nat), Inv h' X0 → k' ≤ k + 31 → n' ≤ n + 292 → AWd D cy B p l e room_1 s m #[.ref b] below meth c 4 Q h' k' n' 2132 (LVs b X0 i) []) : AWd D cy B p l e room_1 s m #[.ref b] below meth c 4 Q h k n 662 (LVs b X0 i) [] := by
  obtain ⟨c9, J, -, -, -⟩ := id I
  have g1 : (hK h X0).1 = 11 := J.x.k
  obtain ⟨v, h1, h2, e1, e2, I2⟩ := ok3 I J (ok_many (u := sx xs i 1) J.x J.m)
  have e1 : fX11_many h X0 (sx xs i 1) = some (v, h1) := e1
  have e2 : fX12_many h1 (X0 + 121) (sx xs i 1) = some (v, h2) := e2
  have g2 : (hK h1 (X0 + 121)).1 = 12 := by
    have z := e2
    rw [fX12_many.eq_1] at z
    exact (gd_some z).1
  refine aw_aload_n (pc := 662) X dL_law_662 2 rfl ?_
  refine aw_word (pc := 663) X S hi 1 (by decide) rfl dL_law_663 dL_law_664 dL_law_665 dL_law_666 dL_law_667 ?_
  refine aw_invV (pc := 668) X (kX11_many sx_rg e1) mw_yX11_many kw_903 kw_904 kw_905 g1 rfl (by decide) rfl ⟨(Nat.le_of_ble_eq_true rfl), (Nat.le_of_ble_eq_true rfl)⟩ rfl (Nat.le_of_ble_eq_true rfl) (lw_rm ⟨by omega, by omega⟩) dL_law_668 ?_
  refine aw_ret1 (k' := k + 0) (n' := n + 0) rfl rfl ?_
  refine aw_aload_n (pc := 671) X dL_law_671 3 rfl ?_
  refine aw_word (pc := 672) X S hi 1 (by decide) rfl dL_law_672 dL_law_673 dL_law_674 dL_law_675 dL_law_676 ?_
  refine aw_invV (pc := 677) X (kX12_many sx_rg e2) mw_yX12_many kw_1879 kw_1880 kw_1881 g2 rfl (by decide) rfl ⟨(Nat.le_of_ble_eq_true rfl), (Nat.le_of_ble_eq_true rfl)⟩ rfl (Nat.le_of_ble_eq_true rfl) (lw_rm ⟨by omega, by omega⟩) dL_law_677 ?_
  refine aw_ret1 (k' := k + 0 + 0) (n' := n + 0 + 0) rfl rfl ?_
  refine aw_icmp_eq (pc := 680) (tgt := 2132) X (gX11_many sx_rg e1) (gX12_many sx_rg e2) dL_law_680 (by decide) (fun _ => ?_) (fun z => absurd rfl z)
  exact K _ _ _ I2 (by omega) (by omega)
