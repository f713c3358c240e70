theorem dl_376 : decode code 376 = .ok (.aload_n 1, 1) := by decide +kernel
theorem dl_377 : decode code 377 = .ok (.aload_n 0, 1) := by decide +kernel
theorem dl_378 : decode code 378 = .ok (.iload 4, 2) := by decide +kernel
theorem dl_380 : decode code 380 = .ok (.iconst 1, 1) := by decide +kernel
theorem dl_381 : decode code 381 = .ok (.iadd, 1) := by decide +kernel
theorem dl_382 : decode code 382 = .ok (.iaload, 1) := by decide +kernel
theorem dl_383 : decode code 383 = .ok (.aload_n 0, 1) := by decide +kernel
theorem dl_384 : decode code 384 = .ok (.iload 4, 2) := by decide +kernel
theorem dl_386 : decode code 386 = .ok (.iconst 2, 1) := by decide +kernel
theorem dl_387 : decode code 387 = .ok (.iadd, 1) := by decide +kernel
theorem dl_388 : decode code 388 = .ok (.iaload, 1) := by decide +kernel
theorem dl_389 : decode code 389 = .ok (.aload_n 0, 1) := by decide +kernel
theorem dl_390 : decode code 390 = .ok (.iload 4, 2) := by decide +kernel
theorem dl_392 : decode code 392 = .ok (.iconst 3, 1) := by decide +kernel
theorem dl_393 : decode code 393 = .ok (.iadd, 1) := by decide +kernel
theorem dl_394 : decode code 394 = .ok (.iaload, 1) := by decide +kernel
theorem dl_395 : decode code 395 = .ok (.invokestatic 111, 3) := by decide +kernel
theorem dl_398 : decode code 398 = .ok (.istore 5, 2) := by decide +kernel
theorem dl_400 : decode code 400 = .ok (.aload_n 2, 1) := by decide +kernel
theorem dl_401 : decode code 401 = .ok (.aload_n 0, 1) := by decide +kernel
theorem dl_402 : decode code 402 = .ok (.iload 4, 2) := by decide +kernel
theorem dl_404 : decode code 404 = .ok (.iconst 1, 1) := by decide +kernel
theorem dl_405 : decode code 405 = .ok (.iadd, 1) := by decide +kernel
theorem dl_406 : decode code 406 = .ok (.iaload, 1) := by decide +kernel
theorem dl_407 : decode code 407 = .ok (.aload_n 0, 1) := by decide +kernel
theorem dl_408 : decode code 408 = .ok (.iload 4, 2) := by decide +kernel
theorem dl_410 : decode code 410 = .ok (.iconst 2, 1) := by decide +kernel
theorem dl_411 : decode code 411 = .ok (.iadd, 1) := by decide +kernel
theorem dl_412 : decode code 412 = .ok (.iaload, 1) := by decide +kernel
theorem dl_413 : decode code 413 = .ok (.aload_n 0, 1) := by decide +kernel
theorem dl_414 : decode code 414 = .ok (.iload 4, 2) := by decide +kernel
theorem dl_416 : decode code 416 = .ok (.iconst 3, 1) := by decide +kernel
theorem dl_417 : decode code 417 = .ok (.iadd, 1) := by decide +kernel
theorem dl_418 : decode code 418 = .ok (.iaload, 1) := by decide +kernel
theorem dl_419 : decode code 419 = .ok (.invokevirtual 114, 3) := by decide +kernel
theorem dl_422 : decode code 422 = .ok (.aload_n 2, 1) := by decide +kernel
theorem dl_423 : decode code 423 = .ok (.invokevirtual 100, 3) := by decide +kernel
theorem dl_426 : decode code 426 = .ok (.iload 5, 2) := by decide +kernel
theorem dl_428 : decode code 428 = .ok (.if_icmp .eq 5, 3) := by decide +kernel
theorem dl_431 : decode code 431 = .ok (.iconst 0, 1) := by decide +kernel
theorem dl_432 : decode code 432 = .ok (.ireturn, 1) := by decide +kernel
theorem dl_433 : decode code 433 = .ok (.goto 1248, 3) := by decide +kernel
set_option maxHeartbeats 4000000 in
set_option maxRecDepth 100000 in
theorem lc_3 {Iv : CS → MS → Prop} (P : PP_move Iv) {p : Program} {l : Launch} {e : Env} {sv : State} {m : MethodId} {args : Array Value} {below : List Frame} {meth : Method} {c : Code} {Q : State → Prop} {b L : Nat} {xs : Nat → Int32} {g : Gx} {A : Nat → Prop} (hl0 : l.stackTraces = false) (C0 : ct_Cx R_La code 8 p sv m args meth c g A) (hX : va_X b L xs sv sv.heap) (hbl : b < sv.heap.size) (hbA : ¬ A b) {i : Int32} (hi : vp_in i L ∧ vp_in (i + 1) L ∧ vp_in (i + 2) L ∧ vp_in (i + 3) L ∧ vp_in (i + 4) L) {ws : va_W} {H : Heap} {locs : List Loc} {cells slots : Nat} {s : CS} {t : MS} {out : Nat → Int64} {ls : Array Slot} (hw : ct_Wd g A sv ws H locs) (hW : LWd g ws s t out) (hI : Iv s t) (hl : lv_has ls 8 [(4, .int i), (0, .ref b), (1, .ref (g.2.1 0)), (2, .ref (g.2.1 35)), (3, .ref (g.2.1 47))]) (hc : cells + 20 ≤ 601024) (hs : slots + 120 ≤ 7293034)
    (kk : ∀ (ws : va_W) (H : Heap) (locs : List Loc) (cells1 slots1 : Nat) (s : CS) (t : MS) (out : Nat → Int64) (ls : Array Slot), ct_Wd g A sv ws H locs → LWd g ws s t out → Iv s t → lv_has ls 8 [(4, .int i), (0, .ref b), (1, .ref (g.2.1 0)), (2, .ref (g.2.1 35)), (3, .ref (g.2.1 47))] → cells1 ≤ cells + 20 → slots1 ≤ slots + 120 → W p l e room_1 sv m args below meth c H locs cells1 slots1 Q (F0 m 1681 ls [])) : W p l e room_1 sv m args below meth c H locs cells slots Q (F0 m 376 ls []) := by
  have hx := C0.1
  have hb := C0.2.1
  refine lv_aload_n hx hb dl_376 rfl (lv_at hl 2 rfl) ?_
  refine lv_aload_n hx hb dl_377 rfl (lv_at hl 1 rfl) ?_
  refine lv_iload hx hb dl_378 (lv_at hl 0 rfl) ?_
  refine lv_iconst (v := 1) hx hb dl_380 (by decide) ?_
  refine lv_iadd hx hb dl_381 ?_
  refine va_sld hx hb hX hbl hbA hw.2.2 hi.2.1 dl_382 ?_
  refine lv_aload_n hx hb dl_383 rfl (lv_at hl 1 rfl) ?_
  refine lv_iload hx hb dl_384 (lv_at hl 0 rfl) ?_
  refine lv_iconst (v := 2) hx hb dl_386 (by decide) ?_
  refine lv_iadd hx hb dl_387 ?_
  refine va_sld hx hb hX hbl hbA hw.2.2 hi.2.2.1 dl_388 ?_
  refine lv_aload_n hx hb dl_389 rfl (lv_at hl 1 rfl) ?_
  refine lv_iload hx hb dl_390 (lv_at hl 0 rfl) ?_
  refine lv_iconst (v := 3) hx hb dl_392 (by decide) ?_
  refine lv_iadd hx hb dl_393 ?_
  refine va_sld hx hb hX hbl hbA hw.2.2 hi.2.2.2.1 dl_394 ?_
  obtain ⟨o9, t9, e1, e2, hk, hth, hI⟩ := P s t hI (xs (i + 1).toNatClampNeg) (xs (i + 2).toNatClampNeg) (xs (i + 3).toNatClampNeg)
  refine ct_callW (hh := hh_La_move) C0 hw hl.1 wd_367 wd_368 wd_0 wd_369 (fun sz => w_La_move l g ws sz hW.cs hW.2.2 hl0 e1 hk) (nA := 4) (rm := rm_La_move) (by decide +kernel) rfl ⟨rfl, rfl⟩ (by decide) ⟨by show cells + 3 ≤ 601024; omega, by show slots + 18 ≤ 7293034; omega⟩ (As := [.ref (g.2.1 0), .int (xs (i + 1).toNatClampNeg), .int (xs (i + 2).toNatClampNeg), .int (xs (i + 3).toNatClampNeg)]) (rest := []) rfl (Nat.le_of_ble_eq_true rfl) dl_395 (fun ws H locs hw hp => ?_)
  have hW := hW.wr hp
  clear hp
  refine lv_istore (lv' := [(5, .int (wr_code o9)), (4, .int i), (0, .ref b), (1, .ref (g.2.1 0)), (2, .ref (g.2.1 35)), (3, .ref (g.2.1 47))]) hx hb dl_398 hl (by decide) rfl (fun ls hl => ?_)
  refine lv_aload_n hx hb dl_400 rfl (lv_at hl 4 rfl) ?_
  refine lv_aload_n hx hb dl_401 rfl (lv_at hl 2 rfl) ?_
  refine lv_iload hx hb dl_402 (lv_at hl 1 rfl) ?_
  refine lv_iconst (v := 1) hx hb dl_404 (by decide) ?_
  refine lv_iadd hx hb dl_405 ?_
  refine va_sld hx hb hX hbl hbA hw.2.2 hi.2.1 dl_406 ?_
  refine lv_aload_n hx hb dl_407 rfl (lv_at hl 2 rfl) ?_
  refine lv_iload hx hb dl_408 (lv_at hl 1 rfl) ?_
  refine lv_iconst (v := 2) hx hb dl_410 (by decide) ?_
  refine lv_iadd hx hb dl_411 ?_
  refine va_sld hx hb hX hbl hbA hw.2.2 hi.2.2.1 dl_412 ?_
  refine lv_aload_n hx hb dl_413 rfl (lv_at hl 2 rfl) ?_
  refine lv_iload hx hb dl_414 (lv_at hl 1 rfl) ?_
  refine lv_iconst (v := 3) hx hb dl_416 (by decide) ?_
  refine lv_iadd hx hb dl_417 ?_
  refine va_sld hx hb hX hbl hbA hw.2.2 hi.2.2.2.1 dl_418 ?_
  refine ct_callVv C0 hw hl.1 (q0 := 35) (hW.2.1 35 (by decide) (by decide)) rfl (ct_giV wd_822 wd_823 wd_824 wd_7 wd_825) (fun sz => s_Mo_move l g ws sz hW.ms e2) (nA := 3) (rm := rm_Mo_move) (by decide +kernel) rfl ⟨rfl, rfl⟩ (by decide) ⟨by show cells + 3 + 0 ≤ 601024; omega, by show slots + 18 + 0 ≤ 7293034; omega⟩ (As := [.int (xs (i + 1).toNatClampNeg), .int (xs (i + 2).toNatClampNeg), .int (xs (i + 3).toNatClampNeg)]) (rest := []) rfl (Nat.le_of_ble_eq_true rfl) dl_419 (fun ws1 H locs hw hp => ?_)
  have hW := hW.mo hp
  clear hp
  generalize ws1 = ws at hw hW
  refine lv_aload_n hx hb dl_422 rfl (lv_at hl 4 rfl) ?_
  refine ct_callVi C0 hw hl.1 (q0 := 35) (hW.2.1 35 (by decide) (by decide)) rfl (ct_giV wd_790 wd_791 wd_792 wd_7 wd_793) (fun sz => s_Mo_thrown l g ws sz hW.ms (show fn_Mo_thrown t9 = some (ms_I t9 0) from rfl)) (nA := 0) (rm := rm_Mo_thrown) (by decide +kernel) rfl ⟨rfl, rfl⟩ (by decide) ⟨by show cells + 3 + 0 ≤ 601024; omega, by show slots + 18 + 0 ≤ 7293034; omega⟩ (As := []) (rest := []) rfl (Nat.le_of_ble_eq_true rfl) dl_423 (fun ws1 H locs hw hp => ?_)
  rw [hp] at hw
  clear hp
  refine lv_iload hx hb dl_426 (lv_at hl 0 rfl) ?_
  refine lv_icmp_eq hx hb (tgt := 433) dl_428 (by decide) (fun _ => ?_) (fun hc9 => absurd hth hc9)
  refine lv_goto hx hb (tgt := 1681) dl_433 (by decide) ?_
  exact kk ws H locs _ _ _ _ _ ls hw hW hI (lv_sub hl [1, 2, 3, 4, 5] rfl) (by omega) (by omega)
theorem dl_436 : decode code 436 = .ok (.aload_n 1, 1) := by decide +kernel
theorem dl_437 : decode code 437 = .ok (.aload_n 0, 1) := by decide +kernel
theorem dl_438 : decode code 438 = .ok (.iload 4, 2) := by decide +kernel
theorem dl_440 : decode code 440 = .ok (.iconst 1, 1) := by decide +kernel
theorem dl_441 : decode code 441 = .ok (.iadd, 1) := by decide +kernel
theorem dl_442 : decode code 442 = .ok (.iaload, 1) := by decide +kernel
theorem dl_443 : decode code 443 = .ok (.aload_n 0, 1) := by decide +kernel
theorem dl_444 : decode code 444 = .ok (.iload 4, 2) := by decide +kernel
theorem dl_446 : decode code 446 = .ok (.iconst 2, 1) := by decide +kernel
theorem dl_447 : decode code 447 = .ok (.iadd, 1) := by decide +kernel
theorem dl_448 : decode code 448 = .ok (.iaload, 1) := by decide +kernel
theorem dl_449 : decode code 449 = .ok (.aload_n 0, 1) := by decide +kernel
theorem dl_450 : decode code 450 = .ok (.iload 4, 2) := by decide +kernel
theorem dl_452 : decode code 452 = .ok (.iconst 3, 1) := by decide +kernel
theorem dl_453 : decode code 453 = .ok (.iadd, 1) := by decide +kernel
theorem dl_454 : decode code 454 = .ok (.iaload, 1) := by decide +kernel
theorem dl_455 : decode code 455 = .ok (.invokestatic 115, 3) := by decide +kernel
theorem dl_458 : decode code 458 = .ok (.istore 5, 2) := by decide +kernel
theorem dl_460 : decode code 460 = .ok (.aload_n 2, 1) := by decide +kernel
theorem dl_461 : decode code 461 = .ok (.aload_n 0, 1) := by decide +kernel
theorem dl_462 : decode code 462 = .ok (.iload 4, 2) := by decide +kernel
theorem dl_464 : decode code 464 = .ok (.iconst 1, 1) := by decide +kernel
theorem dl_465 : decode code 465 = .ok (.iadd, 1) := by decide +kernel
theorem dl_466 : decode code 466 = .ok (.iaload, 1) := by decide +kernel
theorem dl_467 : decode code 467 = .ok (.aload_n 0, 1) := by decide +kernel
theorem dl_468 : decode code 468 = .ok (.iload 4, 2) := by decide +kernel
theorem dl_470 : decode code 470 = .ok (.iconst 2, 1) := by decide +kernel
theorem dl_471 : decode code 471 = .ok (.iadd, 1) := by decide +kernel
theorem dl_472 : decode code 472 = .ok (.iaload, 1) := by decide +kernel
theorem dl_473 : decode code 473 = .ok (.aload_n 0, 1) := by decide +kernel
theorem dl_474 : decode code 474 = .ok (.iload 4, 2) := by decide +kernel
theorem dl_476 : decode code 476 = .ok (.iconst 3, 1) := by decide +kernel
theorem dl_477 : decode code 477 = .ok (.iadd, 1) := by decide +kernel
theorem dl_478 : decode code 478 = .ok (.iaload, 1) := by decide +kernel
theorem dl_479 : decode code 479 = .ok (.invokevirtual 117, 3) := by decide +kernel
theorem dl_482 : decode code 482 = .ok (.aload_n 2, 1) := by decide +kernel
theorem dl_483 : decode code 483 = .ok (.invokevirtual 100, 3) := by decide +kernel
theorem dl_486 : decode code 486 = .ok (.iload 5, 2) := by decide +kernel
theorem dl_488 : decode code 488 = .ok (.if_icmp .eq 5, 3) := by decide +kernel
theorem dl_491 : decode code 491 = .ok (.iconst 0, 1) := by decide +kernel
theorem dl_492 : decode code 492 = .ok (.ireturn, 1) := by decide +kernel
theorem dl_493 : decode code 493 = .ok (.goto 1188, 3) := by decide +kernel
set_option maxHeartbeats 4000000 in
set_option maxRecDepth 100000 in
theorem lc_4 {Iv : CS → MS → Prop} (P : PP_premium Iv) {p : Program} {l : Launch} {e : Env} {sv : State} {m : MethodId} {args : Array Value} {below : List Frame} {meth : Method} {c : Code} {Q : State → Prop} {b L : Nat} {xs : Nat → Int32} {g : Gx} {A : Nat → Prop} (hl0 : l.stackTraces = false) (C0 : ct_Cx R_La code 8 p sv m args meth c g A) (hX : va_X b L xs sv sv.heap) (hbl : b < sv.heap.size) (hbA : ¬ A b) {i : Int32} (hi : vp_in i L ∧ vp_in (i + 1) L ∧ vp_in (i + 2) L ∧ vp_in (i + 3) L ∧ vp_in (i + 4) L) {ws : va_W} {H : Heap} {locs : List Loc} {cells slots : Nat} {s : CS} {t : MS} {out : Nat → Int64} {ls : Array Slot} (hw : ct_Wd g A sv ws H locs) (hW : LWd g ws s t out) (hI : Iv s t) (hl : lv_has ls 8 [(4, .int i), (0, .ref b), (1, .ref (g.2.1 0)), (2, .ref (g.2.1 35)), (3, .ref (g.2.1 47))]) (hc : cells + 20 ≤ 601024) (hs : slots + 120 ≤ 7293034)
    (kk : ∀ (ws : va_W) (H : Heap) (locs : List Loc) (cells1 slots1 : Nat) (s : CS) (t : MS) (out : Nat → Int64) (ls : Array Slot), ct_Wd g A sv ws H locs → LWd g ws s t out → Iv s t → lv_has ls 8 [(4, .int i), (0, .ref b), (1, .ref (g.2.1 0)), (2, .ref (g.2.1 35)), (3, .ref (g.2.1 47))] → cells1 ≤ cells + 20 → slots1 ≤ slots + 120 → W p l e room_1 sv m args below meth c H locs cells1 slots1 Q (F0 m 1681 ls [])) : W p l e room_1 sv m args below meth c H locs cells slots Q (F0 m 436 ls []) := by
  have hx := C0.1
  have hb := C0.2.1
  refine lv_aload_n hx hb dl_436 rfl (lv_at hl 2 rfl) ?_
  refine lv_aload_n hx hb dl_437 rfl (lv_at hl 1 rfl) ?_
  refine lv_iload hx hb dl_438 (lv_at hl 0 rfl) ?_
  refine lv_iconst (v := 1) hx hb dl_440 (by decide) ?_
  refine lv_iadd hx hb dl_441 ?_
  refine va_sld hx hb hX hbl hbA hw.2.2 hi.2.1 dl_442 ?_
  refine lv_aload_n hx hb dl_443 rfl (lv_at hl 1 rfl) ?_
  refine lv_iload hx hb dl_444 (lv_at hl 0 rfl) ?_
  refine lv_iconst (v := 2) hx hb dl_446 (by decide) ?_
  refine lv_iadd hx hb dl_447 ?_
  refine va_sld hx hb hX hbl hbA hw.2.2 hi.2.2.1 dl_448 ?_
  refine lv_aload_n hx hb dl_449 rfl (lv_at hl 1 rfl) ?_
  refine lv_iload hx hb dl_450 (lv_at hl 0 rfl) ?_
  refine lv_iconst (v := 3) hx hb dl_452 (by decide) ?_
  refine lv_iadd hx hb dl_453 ?_
  refine va_sld hx hb hX hbl hbA hw.2.2 hi.2.2.2.1 dl_454 ?_
  obtain ⟨o9, t9, e1, e2, hk, hth, hI⟩ := P s t hI (xs (i + 1).toNatClampNeg) (xs (i + 2).toNatClampNeg) (xs (i + 3).toNatClampNeg)
  refine ct_callW (hh := hh_La_premium) C0 hw hl.1 wd_374 wd_375 wd_0 wd_376 (fun sz => w_La_premium l g ws sz hW.cs hW.2.2 hl0 e1 hk) (nA := 4) (rm := rm_La_premium) (by decide +kernel) rfl ⟨rfl, rfl⟩ (by decide) ⟨by show cells + 1 ≤ 601024; omega, by show slots + 6 ≤ 7293034; omega⟩ (As := [.ref (g.2.1 0), .int (xs (i + 1).toNatClampNeg), .int (xs (i + 2).toNatClampNeg), .int (xs (i + 3).toNatClampNeg)]) (rest := []) rfl (Nat.le_of_ble_eq_true rfl) dl_455 (fun ws H locs hw hp => ?_)
  have hW := hW.wr hp
  clear hp
  refine lv_istore (lv' := [(5, .int (wr_code o9)), (4, .int i), (0, .ref b), (1, .ref (g.2.1 0)), (2, .ref (g.2.1 35)), (3, .ref (g.2.1 47))]) hx hb dl_458 hl (by decide) rfl (fun ls hl => ?_)
  refine lv_aload_n hx hb dl_460 rfl (lv_at hl 4 rfl) ?_
  refine lv_aload_n hx hb dl_461 rfl (lv_at hl 2 rfl) ?_
  refine lv_iload hx hb dl_462 (lv_at hl 1 rfl) ?_
  refine lv_iconst (v := 1) hx hb dl_464 (by decide) ?_
  refine lv_iadd hx hb dl_465 ?_
  refine va_sld hx hb hX hbl hbA hw.2.2 hi.2.1 dl_466 ?_
  refine lv_aload_n hx hb dl_467 rfl (lv_at hl 2 rfl) ?_
  refine lv_iload hx hb dl_468 (lv_at hl 1 rfl) ?_
  refine lv_iconst (v := 2) hx hb dl_470 (by decide) ?_
  refine lv_iadd hx hb dl_471 ?_
  refine va_sld hx hb hX hbl hbA hw.2.2 hi.2.2.1 dl_472 ?_
  refine lv_aload_n hx hb dl_473 rfl (lv_at hl 2 rfl) ?_
  refine lv_iload hx hb dl_474 (lv_at hl 1 rfl) ?_
  refine lv_iconst (v := 3) hx hb dl_476 (by decide) ?_
  refine lv_iadd hx hb dl_477 ?_
  refine va_sld hx hb hX hbl hbA hw.2.2 hi.2.2.2.1 dl_478 ?_
  refine ct_callVv C0 hw hl.1 (q0 := 35) (hW.2.1 35 (by decide) (by decide)) rfl (ct_giV wd_826 wd_827 wd_828 wd_7 wd_829) (fun sz => s_Mo_premium l g ws sz hW.ms e2) (nA := 3) (rm := rm_Mo_premium) (by decide +kernel) rfl ⟨rfl, rfl⟩ (by decide) ⟨by show cells + 1 + 0 ≤ 601024; omega, by show slots + 6 + 0 ≤ 7293034; omega⟩ (As := [.int (xs (i + 1).toNatClampNeg), .int (xs (i + 2).toNatClampNeg), .int (xs (i + 3).toNatClampNeg)]) (rest := []) rfl (Nat.le_of_ble_eq_true rfl) dl_479 (fun ws1 H locs hw hp => ?_)
  have hW := hW.mo hp
  clear hp
  generalize ws1 = ws at hw hW
  refine lv_aload_n hx hb dl_482 rfl (lv_at hl 4 rfl) ?_
  refine ct_callVi C0 hw hl.1 (q0 := 35) (hW.2.1 35 (by decide) (by decide)) rfl (ct_giV wd_790 wd_791 wd_792 wd_7 wd_793) (fun sz => s_Mo_thrown l g ws sz hW.ms (show fn_Mo_thrown t9 = some (ms_I t9 0) from rfl)) (nA := 0) (rm := rm_Mo_thrown) (by decide +kernel) rfl ⟨rfl, rfl⟩ (by decide) ⟨by show cells + 1 + 0 ≤ 601024; omega, by show slots + 6 + 0 ≤ 7293034; omega⟩ (As := []) (rest := []) rfl (Nat.le_of_ble_eq_true rfl) dl_483 (fun ws1 H locs hw hp => ?_)
  rw [hp] at hw
  clear hp
  refine lv_iload hx hb dl_486 (lv_at hl 0 rfl) ?_
  refine lv_icmp_eq hx hb (tgt := 493) dl_488 (by decide) (fun _ => ?_) (fun hc9 => absurd hth hc9)
  refine lv_goto hx hb (tgt := 1681) dl_493 (by decide) ?_
  exact kk ws H locs _ _ _ _ _ ls hw hW hI (lv_sub hl [1, 2, 3, 4, 5] rfl) (by omega) (by omega)
theorem dl_496 : decode code 496 = .ok (.aload_n 1, 1) := by decide +kernel
theorem dl_497 : decode code 497 = .ok (.aload_n 0, 1) := by decide +kernel
theorem dl_498 : decode code 498 = .ok (.iload 4, 2) := by decide +kernel
theorem dl_500 : decode code 500 = .ok (.iconst 1, 1) := by decide +kernel
theorem dl_501 : decode code 501 = .ok (.iadd, 1) := by decide +kernel
theorem dl_502 : decode code 502 = .ok (.iaload, 1) := by decide +kernel
theorem dl_503 : decode code 503 = .ok (.aload_n 0, 1) := by decide +kernel
theorem dl_504 : decode code 504 = .ok (.iload 4, 2) := by decide +kernel
theorem dl_506 : decode code 506 = .ok (.iconst 2, 1) := by decide +kernel
theorem dl_507 : decode code 507 = .ok (.iadd, 1) := by decide +kernel
theorem dl_508 : decode code 508 = .ok (.iaload, 1) := by decide +kernel
theorem dl_509 : decode code 509 = .ok (.aload_n 0, 1) := by decide +kernel
theorem dl_510 : decode code 510 = .ok (.iload 4, 2) := by decide +kernel
theorem dl_512 : decode code 512 = .ok (.iconst 3, 1) := by decide +kernel
theorem dl_513 : decode code 513 = .ok (.iadd, 1) := by decide +kernel
theorem dl_514 : decode code 514 = .ok (.iaload, 1) := by decide +kernel
theorem dl_515 : decode code 515 = .ok (.invokestatic 118, 3) := by decide +kernel
theorem dl_518 : decode code 518 = .ok (.istore 5, 2) := by decide +kernel
theorem dl_520 : decode code 520 = .ok (.aload_n 2, 1) := by decide +kernel
theorem dl_521 : decode code 521 = .ok (.aload_n 0, 1) := by decide +kernel
theorem dl_522 : decode code 522 = .ok (.iload 4, 2) := by decide +kernel
theorem dl_524 : decode code 524 = .ok (.iconst 1, 1) := by decide +kernel
theorem dl_525 : decode code 525 = .ok (.iadd, 1) := by decide +kernel
theorem dl_526 : decode code 526 = .ok (.iaload, 1) := by decide +kernel
theorem dl_527 : decode code 527 = .ok (.aload_n 0, 1) := by decide +kernel
theorem dl_528 : decode code 528 = .ok (.iload 4, 2) := by decide +kernel
theorem dl_530 : decode code 530 = .ok (.iconst 2, 1) := by decide +kernel
theorem dl_531 : decode code 531 = .ok (.iadd, 1) := by decide +kernel
theorem dl_532 : decode code 532 = .ok (.iaload, 1) := by decide +kernel
theorem dl_533 : decode code 533 = .ok (.aload_n 0, 1) := by decide +kernel
theorem dl_534 : decode code 534 = .ok (.iload 4, 2) := by decide +kernel
theorem dl_536 : decode code 536 = .ok (.iconst 3, 1) := by decide +kernel
theorem dl_537 : decode code 537 = .ok (.iadd, 1) := by decide +kernel
theorem dl_538 : decode code 538 = .ok (.iaload, 1) := by decide +kernel
theorem dl_539 : decode code 539 = .ok (.invokevirtual 120, 3) := by decide +kernel
theorem dl_542 : decode code 542 = .ok (.aload_n 2, 1) := by decide +kernel
theorem dl_543 : decode code 543 = .ok (.invokevirtual 100, 3) := by decide +kernel
theorem dl_546 : decode code 546 = .ok (.iload 5, 2) := by decide +kernel
theorem dl_548 : decode code 548 = .ok (.if_icmp .eq 5, 3) := by decide +kernel
theorem dl_551 : decode code 551 = .ok (.iconst 0, 1) := by decide +kernel
theorem dl_552 : decode code 552 = .ok (.ireturn, 1) := by decide +kernel
theorem dl_553 : decode code 553 = .ok (.goto 1128, 3) := by decide +kernel
set_option maxHeartbeats 4000000 in
set_option maxRecDepth 100000 in
theorem lc_5 {Iv : CS → MS → Prop} (P : PP_ratio Iv) {p : Program} {l : Launch} {e : Env} {sv : State} {m : MethodId} {args : Array Value} {below : List Frame} {meth : Method} {c : Code} {Q : State → Prop} {b L : Nat} {xs : Nat → Int32} {g : Gx} {A : Nat → Prop} (hl0 : l.stackTraces = false) (C0 : ct_Cx R_La code 8 p sv m args meth c g A) (hX : va_X b L xs sv sv.heap) (hbl : b < sv.heap.size) (hbA : ¬ A b) {i : Int32} (hi : vp_in i L ∧ vp_in (i + 1) L ∧ vp_in (i + 2) L ∧ vp_in (i + 3) L ∧ vp_in (i + 4) L) {ws : va_W} {H : Heap} {locs : List Loc} {cells slots : Nat} {s : CS} {t : MS} {out : Nat → Int64} {ls : Array Slot} (hw : ct_Wd g A sv ws H locs) (hW : LWd g ws s t out) (hI : Iv s t) (hl : lv_has ls 8 [(4, .int i), (0, .ref b), (1, .ref (g.2.1 0)), (2, .ref (g.2.1 35)), (3, .ref (g.2.1 47))]) (hc : cells + 20 ≤ 601024) (hs : slots + 120 ≤ 7293034)
    (kk : ∀ (ws : va_W) (H : Heap) (locs : List Loc) (cells1 slots1 : Nat) (s : CS) (t : MS) (out : Nat → Int64) (ls : Array Slot), ct_Wd g A sv ws H locs → LWd g ws s t out → Iv s t → lv_has ls 8 [(4, .int i), (0, .ref b), (1, .ref (g.2.1 0)), (2, .ref (g.2.1 35)), (3, .ref (g.2.1 47))] → cells1 ≤ cells + 20 → slots1 ≤ slots + 120 → W p l e room_1 sv m args below meth c H locs cells1 slots1 Q (F0 m 1681 ls [])) : W p l e room_1 sv m args below meth c H locs cells slots Q (F0 m 496 ls []) := by
  have hx := C0.1
  have hb := C0.2.1
  refine lv_aload_n hx hb dl_496 rfl (lv_at hl 2 rfl) ?_
  refine lv_aload_n hx hb dl_497 rfl (lv_at hl 1 rfl) ?_
  refine lv_iload hx hb dl_498 (lv_at hl 0 rfl) ?_
  refine lv_iconst (v := 1) hx hb dl_500 (by decide) ?_
  refine lv_iadd hx hb dl_501 ?_
  refine va_sld hx hb hX hbl hbA hw.2.2 hi.2.1 dl_502 ?_
  refine lv_aload_n hx hb dl_503 rfl (lv_at hl 1 rfl) ?_
  refine lv_iload hx hb dl_504 (lv_at hl 0 rfl) ?_
  refine lv_iconst (v := 2) hx hb dl_506 (by decide) ?_
  refine lv_iadd hx hb dl_507 ?_
  refine va_sld hx hb hX hbl hbA hw.2.2 hi.2.2.1 dl_508 ?_
  refine lv_aload_n hx hb dl_509 rfl (lv_at hl 1 rfl) ?_
  refine lv_iload hx hb dl_510 (lv_at hl 0 rfl) ?_
  refine lv_iconst (v := 3) hx hb dl_512 (by decide) ?_
  refine lv_iadd hx hb dl_513 ?_
  refine va_sld hx hb hX hbl hbA hw.2.2 hi.2.2.2.1 dl_514 ?_
  obtain ⟨o9, t9, e1, e2, hk, hth, hI⟩ := P s t hI (xs (i + 1).toNatClampNeg) (xs (i + 2).toNatClampNeg) (xs (i + 3).toNatClampNeg)
  refine ct_callW (hh := hh_La_ratio) C0 hw hl.1 wd_381 wd_382 wd_0 wd_383 (fun sz => w_La_ratio l g ws sz hW.cs hW.2.2 hl0 e1 hk) (nA := 4) (rm := rm_La_ratio) (by decide +kernel) rfl ⟨rfl, rfl⟩ (by decide) ⟨by show cells + 2 ≤ 601024; omega, by show slots + 12 ≤ 7293034; omega⟩ (As := [.ref (g.2.1 0), .int (xs (i + 1).toNatClampNeg), .int (xs (i + 2).toNatClampNeg), .int (xs (i + 3).toNatClampNeg)]) (rest := []) rfl (Nat.le_of_ble_eq_true rfl) dl_515 (fun ws H locs hw hp => ?_)
  have hW := hW.wr hp
  clear hp
  refine lv_istore (lv' := [(5, .int (wr_code o9)), (4, .int i), (0, .ref b), (1, .ref (g.2.1 0)), (2, .ref (g.2.1 35)), (3, .ref (g.2.1 47))]) hx hb dl_518 hl (by decide) rfl (fun ls hl => ?_)
  refine lv_aload_n hx hb dl_520 rfl (lv_at hl 4 rfl) ?_
  refine lv_aload_n hx hb dl_521 rfl (lv_at hl 2 rfl) ?_
  refine lv_iload hx hb dl_522 (lv_at hl 1 rfl) ?_
  refine lv_iconst (v := 1) hx hb dl_524 (by decide) ?_
  refine lv_iadd hx hb dl_525 ?_
  refine va_sld hx hb hX hbl hbA hw.2.2 hi.2.1 dl_526 ?_
  refine lv_aload_n hx hb dl_527 rfl (lv_at hl 2 rfl) ?_
  refine lv_iload hx hb dl_528 (lv_at hl 1 rfl) ?_
  refine lv_iconst (v := 2) hx hb dl_530 (by decide) ?_
  refine lv_iadd hx hb dl_531 ?_
  refine va_sld hx hb hX hbl hbA hw.2.2 hi.2.2.1 dl_532 ?_
  refine lv_aload_n hx hb dl_533 rfl (lv_at hl 2 rfl) ?_
  refine lv_iload hx hb dl_534 (lv_at hl 1 rfl) ?_
  refine lv_iconst (v := 3) hx hb dl_536 (by decide) ?_
  refine lv_iadd hx hb dl_537 ?_
  refine va_sld hx hb hX hbl hbA hw.2.2 hi.2.2.2.1 dl_538 ?_
  refine ct_callVv C0 hw hl.1 (q0 := 35) (hW.2.1 35 (by decide) (by decide)) rfl (ct_giV wd_830 wd_831 wd_832 wd_7 wd_833) (fun sz => s_Mo_ratio l g ws sz hW.ms e2) (nA := 3) (rm := rm_Mo_ratio) (by decide +kernel) rfl ⟨rfl, rfl⟩ (by decide) ⟨by show cells + 2 + 0 ≤ 601024; omega, by show slots + 12 + 0 ≤ 7293034; omega⟩ (As := [.int (xs (i + 1).toNatClampNeg), .int (xs (i + 2).toNatClampNeg), .int (xs (i + 3).toNatClampNeg)]) (rest := []) rfl (Nat.le_of_ble_eq_true rfl) dl_539 (fun ws1 H locs hw hp => ?_)
  have hW := hW.mo hp
  clear hp
  generalize ws1 = ws at hw hW
  refine lv_aload_n hx hb dl_542 rfl (lv_at hl 4 rfl) ?_
  refine ct_callVi C0 hw hl.1 (q0 := 35) (hW.2.1 35 (by decide) (by decide)) rfl (ct_giV wd_790 wd_791 wd_792 wd_7 wd_793) (fun sz => s_Mo_thrown l g ws sz hW.ms (show fn_Mo_thrown t9 = some (ms_I t9 0) from rfl)) (nA := 0) (rm := rm_Mo_thrown) (by decide +kernel) rfl ⟨rfl, rfl⟩ (by decide) ⟨by show cells + 2 + 0 ≤ 601024; omega, by show slots + 12 + 0 ≤ 7293034; omega⟩ (As := []) (rest := []) rfl (Nat.le_of_ble_eq_true rfl) dl_543 (fun ws1 H locs hw hp => ?_)
  rw [hp] at hw
  clear hp
  refine lv_iload hx hb dl_546 (lv_at hl 0 rfl) ?_
  refine lv_icmp_eq hx hb (tgt := 553) dl_548 (by decide) (fun _ => ?_) (fun hc9 => absurd hth hc9)
  refine lv_goto hx hb (tgt := 1681) dl_553 (by decide) ?_
  exact kk ws H locs _ _ _ _ _ ls hw hW hI (lv_sub hl [1, 2, 3, 4, 5] rfl) (by omega) (by omega)
theorem dl_556 : decode code 556 = .ok (.aload_n 1, 1) := by decide +kernel
theorem dl_557 : decode code 557 = .ok (.aload_n 0, 1) := by decide +kernel
theorem dl_558 : decode code 558 = .ok (.iload 4, 2) := by decide +kernel
theorem dl_560 : decode code 560 = .ok (.iconst 1, 1) := by decide +kernel
theorem dl_561 : decode code 561 = .ok (.iadd, 1) := by decide +kernel
theorem dl_562 : decode code 562 = .ok (.iaload, 1) := by decide +kernel
theorem dl_563 : decode code 563 = .ok (.aload_n 0, 1) := by decide +kernel
theorem dl_564 : decode code 564 = .ok (.iload 4, 2) := by decide +kernel
theorem dl_566 : decode code 566 = .ok (.iconst 2, 1) := by decide +kernel
theorem dl_567 : decode code 567 = .ok (.iadd, 1) := by decide +kernel
theorem dl_568 : decode code 568 = .ok (.iaload, 1) := by decide +kernel
theorem dl_569 : decode code 569 = .ok (.aload_n 0, 1) := by decide +kernel
theorem dl_570 : decode code 570 = .ok (.iload 4, 2) := by decide +kernel
theorem dl_572 : decode code 572 = .ok (.iconst 3, 1) := by decide +kernel
theorem dl_573 : decode code 573 = .ok (.iadd, 1) := by decide +kernel
theorem dl_574 : decode code 574 = .ok (.iaload, 1) := by decide +kernel
theorem dl_575 : decode code 575 = .ok (.ifCond .eq 7, 3) := by decide +kernel
theorem dl_578 : decode code 578 = .ok (.iconst 1, 1) := by decide +kernel
theorem dl_579 : decode code 579 = .ok (.goto 4, 3) := by decide +kernel
theorem dl_582 : decode code 582 = .ok (.iconst 0, 1) := by decide +kernel
theorem dl_583 : decode code 583 = .ok (.aload_n 0, 1) := by decide +kernel
theorem dl_584 : decode code 584 = .ok (.iload 4, 2) := by decide +kernel
theorem dl_586 : decode code 586 = .ok (.iconst 4, 1) := by decide +kernel
theorem dl_587 : decode code 587 = .ok (.iadd, 1) := by decide +kernel
theorem dl_588 : decode code 588 = .ok (.iaload, 1) := by decide +kernel
theorem dl_589 : decode code 589 = .ok (.invokestatic 121, 3) := by decide +kernel
theorem dl_592 : decode code 592 = .ok (.istore 5, 2) := by decide +kernel
theorem dl_594 : decode code 594 = .ok (.aload_n 2, 1) := by decide +kernel
theorem dl_595 : decode code 595 = .ok (.aload_n 0, 1) := by decide +kernel
theorem dl_596 : decode code 596 = .ok (.iload 4, 2) := by decide +kernel
theorem dl_598 : decode code 598 = .ok (.iconst 1, 1) := by decide +kernel
theorem dl_599 : decode code 599 = .ok (.iadd, 1) := by decide +kernel
theorem dl_600 : decode code 600 = .ok (.iaload, 1) := by decide +kernel
theorem dl_601 : decode code 601 = .ok (.aload_n 0, 1) := by decide +kernel
theorem dl_602 : decode code 602 = .ok (.iload 4, 2) := by decide +kernel
theorem dl_604 : decode code 604 = .ok (.iconst 2, 1) := by decide +kernel
theorem dl_605 : decode code 605 = .ok (.iadd, 1) := by decide +kernel
theorem dl_606 : decode code 606 = .ok (.iaload, 1) := by decide +kernel
theorem dl_607 : decode code 607 = .ok (.aload_n 0, 1) := by decide +kernel
theorem dl_608 : decode code 608 = .ok (.iload 4, 2) := by decide +kernel
theorem dl_610 : decode code 610 = .ok (.iconst 3, 1) := by decide +kernel
theorem dl_611 : decode code 611 = .ok (.iadd, 1) := by decide +kernel
theorem dl_612 : decode code 612 = .ok (.iaload, 1) := by decide +kernel
theorem dl_613 : decode code 613 = .ok (.ifCond .eq 7, 3) := by decide +kernel
theorem dl_616 : decode code 616 = .ok (.iconst 1, 1) := by decide +kernel
theorem dl_617 : decode code 617 = .ok (.goto 4, 3) := by decide +kernel
theorem dl_620 : decode code 620 = .ok (.iconst 0, 1) := by decide +kernel
theorem dl_621 : decode code 621 = .ok (.aload_n 0, 1) := by decide +kernel
theorem dl_622 : decode code 622 = .ok (.iload 4, 2) := by decide +kernel
theorem dl_624 : decode code 624 = .ok (.iconst 4, 1) := by decide +kernel
theorem dl_625 : decode code 625 = .ok (.iadd, 1) := by decide +kernel
theorem dl_626 : decode code 626 = .ok (.iaload, 1) := by decide +kernel
theorem dl_627 : decode code 627 = .ok (.invokevirtual 124, 3) := by decide +kernel
theorem dl_630 : decode code 630 = .ok (.aload_n 2, 1) := by decide +kernel
theorem dl_631 : decode code 631 = .ok (.invokevirtual 100, 3) := by decide +kernel
theorem dl_634 : decode code 634 = .ok (.iload 5, 2) := by decide +kernel
theorem dl_636 : decode code 636 = .ok (.if_icmp .eq 5, 3) := by decide +kernel
theorem dl_639 : decode code 639 = .ok (.iconst 0, 1) := by decide +kernel
theorem dl_640 : decode code 640 = .ok (.ireturn, 1) := by decide +kernel
theorem dl_641 : decode code 641 = .ok (.goto 1040, 3) := by decide +kernel
set_option maxHeartbeats 4000000 in
set_option maxRecDepth 100000 in
theorem lc_6 {Iv : CS → MS → Prop} (P : PP_build Iv) {p : Program} {l : Launch} {e : Env} {sv : State} {m : MethodId} {args : Array Value} {below : List Frame} {meth : Method} {c : Code} {Q : State → Prop} {b L : Nat} {xs : Nat → Int32} {g : Gx} {A : Nat → Prop} (hl0 : l.stackTraces = false) (C0 : ct_Cx R_La code 8 p sv m args meth c g A) (hX : va_X b L xs sv sv.heap) (hbl : b < sv.heap.size) (hbA : ¬ A b) {i : Int32} (hi : vp_in i L ∧ vp_in (i + 1) L ∧ vp_in (i + 2) L ∧ vp_in (i + 3) L ∧ vp_in (i + 4) L) {ws : va_W} {H : Heap} {locs : List Loc} {cells slots : Nat} {s : CS} {t : MS} {out : Nat → Int64} {ls : Array Slot} (hw : ct_Wd g A sv ws H locs) (hW : LWd g ws s t out) (hI : Iv s t) (hl : lv_has ls 8 [(4, .int i), (0, .ref b), (1, .ref (g.2.1 0)), (2, .ref (g.2.1 35)), (3, .ref (g.2.1 47))]) (hc : cells + 20 ≤ 601024) (hs : slots + 120 ≤ 7293034)
    (kk : ∀ (ws : va_W) (H : Heap) (locs : List Loc) (cells1 slots1 : Nat) (s : CS) (t : MS) (out : Nat → Int64) (ls : Array Slot), ct_Wd g A sv ws H locs → LWd g ws s t out → Iv s t → lv_has ls 8 [(4, .int i), (0, .ref b), (1, .ref (g.2.1 0)), (2, .ref (g.2.1 35)), (3, .ref (g.2.1 47))] → cells1 ≤ cells + 20 → slots1 ≤ slots + 120 → W p l e room_1 sv m args below meth c H locs cells1 slots1 Q (F0 m 1681 ls [])) : W p l e room_1 sv m args below meth c H locs cells slots Q (F0 m 556 ls []) := by
  have hx := C0.1
  have hb := C0.2.1
  refine lv_aload_n hx hb dl_556 rfl (lv_at hl 2 rfl) ?_
  refine lv_aload_n hx hb dl_557 rfl (lv_at hl 1 rfl) ?_
  refine lv_iload hx hb dl_558 (lv_at hl 0 rfl) ?_
  refine lv_iconst (v := 1) hx hb dl_560 (by decide) ?_
  refine lv_iadd hx hb dl_561 ?_
  refine va_sld hx hb hX hbl hbA hw.2.2 hi.2.1 dl_562 ?_
  refine lv_aload_n hx hb dl_563 rfl (lv_at hl 1 rfl) ?_
  refine lv_iload hx hb dl_564 (lv_at hl 0 rfl) ?_
  refine lv_iconst (v := 2) hx hb dl_566 (by decide) ?_
  refine lv_iadd hx hb dl_567 ?_
  refine va_sld hx hb hX hbl hbA hw.2.2 hi.2.2.1 dl_568 ?_
  refine lv_aload_n hx hb dl_569 rfl (lv_at hl 1 rfl) ?_
  refine lv_iload hx hb dl_570 (lv_at hl 0 rfl) ?_
  refine lv_iconst (v := 3) hx hb dl_572 (by decide) ?_
  refine lv_iadd hx hb dl_573 ?_
  refine va_sld hx hb hX hbl hbA hw.2.2 hi.2.2.2.1 dl_574 ?_
  refine lw_bz (L := 582) (M := 583) hx hb dl_575 (by decide) dl_578 dl_579 (by decide) dl_582 rfl ?_
  refine lv_aload_n hx hb dl_583 rfl (lv_at hl 1 rfl) ?_
  refine lv_iload hx hb dl_584 (lv_at hl 0 rfl) ?_
  refine lv_iconst (v := 4) hx hb dl_586 (by decide) ?_
  refine lv_iadd hx hb dl_587 ?_
  refine va_sld hx hb hX hbl hbA hw.2.2 hi.2.2.2.2 dl_588 ?_
  obtain ⟨o9, t9, e1, e2, hk, hth, hI⟩ := P s t hI (xs (i + 1).toNatClampNeg) (xs (i + 2).toNatClampNeg) (bz (xs (i + 3).toNatClampNeg)) (xs (i + 4).toNatClampNeg) (bz_01 _)
  refine ct_callW (hh := hh_La_build) C0 hw hl.1 wd_405 wd_406 wd_0 wd_407 (fun sz => w_La_build l g ws sz hW.cs hW.2.2 hl0 e1 hk) (nA := 5) (rm := rm_La_build) (by decide +kernel) rfl ⟨rfl, rfl⟩ (by decide) ⟨by show cells + 1 ≤ 601024; omega, by show slots + 6 ≤ 7293034; omega⟩ (As := [.ref (g.2.1 0), .int (xs (i + 1).toNatClampNeg), .int (xs (i + 2).toNatClampNeg), .int (bz (xs (i + 3).toNatClampNeg)), .int (xs (i + 4).toNatClampNeg)]) (rest := []) rfl (Nat.le_of_ble_eq_true rfl) dl_589 (fun ws H locs hw hp => ?_)
  have hW := hW.wr hp
  clear hp
  refine lv_istore (lv' := [(5, .int (wr_code o9)), (4, .int i), (0, .ref b), (1, .ref (g.2.1 0)), (2, .ref (g.2.1 35)), (3, .ref (g.2.1 47))]) hx hb dl_592 hl (by decide) rfl (fun ls hl => ?_)
  refine lv_aload_n hx hb dl_594 rfl (lv_at hl 4 rfl) ?_
  refine lv_aload_n hx hb dl_595 rfl (lv_at hl 2 rfl) ?_
  refine lv_iload hx hb dl_596 (lv_at hl 1 rfl) ?_
  refine lv_iconst (v := 1) hx hb dl_598 (by decide) ?_
  refine lv_iadd hx hb dl_599 ?_
  refine va_sld hx hb hX hbl hbA hw.2.2 hi.2.1 dl_600 ?_
  refine lv_aload_n hx hb dl_601 rfl (lv_at hl 2 rfl) ?_
  refine lv_iload hx hb dl_602 (lv_at hl 1 rfl) ?_
  refine lv_iconst (v := 2) hx hb dl_604 (by decide) ?_
  refine lv_iadd hx hb dl_605 ?_
  refine va_sld hx hb hX hbl hbA hw.2.2 hi.2.2.1 dl_606 ?_
  refine lv_aload_n hx hb dl_607 rfl (lv_at hl 2 rfl) ?_
  refine lv_iload hx hb dl_608 (lv_at hl 1 rfl) ?_
  refine lv_iconst (v := 3) hx hb dl_610 (by decide) ?_
  refine lv_iadd hx hb dl_611 ?_
  refine va_sld hx hb hX hbl hbA hw.2.2 hi.2.2.2.1 dl_612 ?_
  refine lw_bz (L := 620) (M := 621) hx hb dl_613 (by decide) dl_616 dl_617 (by decide) dl_620 rfl ?_
  refine lv_aload_n hx hb dl_621 rfl (lv_at hl 2 rfl) ?_
  refine lv_iload hx hb dl_622 (lv_at hl 1 rfl) ?_
  refine lv_iconst (v := 4) hx hb dl_624 (by decide) ?_
  refine lv_iadd hx hb dl_625 ?_
  refine va_sld hx hb hX hbl hbA hw.2.2 hi.2.2.2.2 dl_626 ?_
  refine ct_callVv C0 hw hl.1 (q0 := 35) (hW.2.1 35 (by decide) (by decide)) rfl (ct_giV wd_838 wd_839 wd_840 wd_7 wd_841) (fun sz => s_Mo_build l g ws sz hW.ms e2) (nA := 4) (rm := rm_Mo_build) (by decide +kernel) rfl ⟨rfl, rfl⟩ (by decide) ⟨by show cells + 1 + 0 ≤ 601024; omega, by show slots + 6 + 0 ≤ 7293034; omega⟩ (As := [.int (xs (i + 1).toNatClampNeg), .int (xs (i + 2).toNatClampNeg), .int (bz (xs (i + 3).toNatClampNeg)), .int (xs (i + 4).toNatClampNeg)]) (rest := []) rfl (Nat.le_of_ble_eq_true rfl) dl_627 (fun ws1 H locs hw hp => ?_)
  have hW := hW.mo hp
  clear hp
  generalize ws1 = ws at hw hW
  refine lv_aload_n hx hb dl_630 rfl (lv_at hl 4 rfl) ?_
  refine ct_callVi C0 hw hl.1 (q0 := 35) (hW.2.1 35 (by decide) (by decide)) rfl (ct_giV wd_790 wd_791 wd_792 wd_7 wd_793) (fun sz => s_Mo_thrown l g ws sz hW.ms (show fn_Mo_thrown t9 = some (ms_I t9 0) from rfl)) (nA := 0) (rm := rm_Mo_thrown) (by decide +kernel) rfl ⟨rfl, rfl⟩ (by decide) ⟨by show cells + 1 + 0 ≤ 601024; omega, by show slots + 6 + 0 ≤ 7293034; omega⟩ (As := []) (rest := []) rfl (Nat.le_of_ble_eq_true rfl) dl_631 (fun ws1 H locs hw hp => ?_)
  rw [hp] at hw
  clear hp
  refine lv_iload hx hb dl_634 (lv_at hl 0 rfl) ?_
  refine lv_icmp_eq hx hb (tgt := 641) dl_636 (by decide) (fun _ => ?_) (fun hc9 => absurd hth hc9)
  refine lv_goto hx hb (tgt := 1681) dl_641 (by decide) ?_
  exact kk ws H locs _ _ _ _ _ ls hw hW hI (lv_sub hl [1, 2, 3, 4, 5] rfl) (by omega) (by omega)
