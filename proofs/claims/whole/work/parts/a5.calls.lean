/-! THE LAW: the calls that change nothing that is told -/
theorem op_3 (G : GX) (X : XC) {Qp : Option Value → AH → Prop} {sc L b k uc us : Nat} {xs : Nat → Int32} (hX : SCR X sc L xs) (hk : 6 * k + 6 ≤ L) (hL : L ≤ 3072) (hu : uc ≤ 500000 ∧ us ≤ 7000000) {c : CT} {co : Nat → Nat → Option Nat} {m : CT} {ml : Nat → Nat → Int64} {r : Nat → Option AE} {n : Nat} (hJ : LJ b c co m ml r n) (kk : LN X G Qp sc b k uc us) : LW X G Qp sc b k uc us 315 (HCM b c co m ml r n) := by
  obtain ⟨nv, nc, nf, nl, wk, L1, S, I, ow, hJ⟩ := hJ
  obtain ⟨h1, h2, h3, h4, h5, h6, h7, h8, h9⟩ := id hJ
  unfold LW
  refine A_aload_n dL_law_315 rfl rfl ?_
  refine A_aload_n dL_law_316 rfl rfl ?_
  refine A_iload_n dL_law_317 rfl rfl ?_
  refine A_iconst (v := 1) dL_law_318 (by decide) ?_
  refine A_iadd dL_law_319 ?_
  refine A_sld hX (ix_k hk hL (by decide)) dL_law_320 ?_
  unfold HCM
  refine A_callVi dL_law_321 m_L_28 cb_X9_fault (As := [_]) rfl HC_at0 rfl (c_fault G) rfl ⟨by decide, by decide⟩ (Nat.le_of_ble_eq_true rfl) ⟨by omega, by omega⟩ (fun x0 h0 hq => ?_)
  obtain ⟨rfl, rfl⟩ := hq
  show WA X G RL cL_law false (some .boolean) Qp 20 510000 7100000 (HCM b c co m ml r n) _ _ _ _ _
  refine A_aload_n dL_law_324 rfl rfl ?_
  refine A_aload_n dL_law_325 rfl rfl ?_
  refine A_iload_n dL_law_326 rfl rfl ?_
  refine A_iconst (v := 1) dL_law_327 (by decide) ?_
  refine A_iadd dL_law_328 ?_
  refine A_sld hX (ix_k hk hL (by decide)) dL_law_329 ?_
  refine WA_h HCM_sw ?_
  refine A_callVi dL_law_330 m_L_31 cb_X10_fault (As := [_]) rfl HM_at0 rfl (k_fault G h4.1 h4.2) rfl ⟨by decide, by decide⟩ (Nat.le_of_ble_eq_true rfl) ⟨by omega, by omega⟩ (fun x1 h1 hq => ?_)
  obtain ⟨rfl, rfl⟩ := hq
  refine A_icmp_eq 1444 dL_law_333 (by decide) (fun c333 => ?_) (fun c333 => ?_)
  · refine WA_h HCM_sw.symm ?_
    exact kk _ _ _ _ _ _ _ _ hJ.lj (by omega) (by omega)
  · exact absurd rfl c333
theorem op_4 (G : GX) (X : XC) {Qp : Option Value → AH → Prop} {sc L b k uc us : Nat} {xs : Nat → Int32} (hX : SCR X sc L xs) (hk : 6 * k + 6 ≤ L) (hL : L ≤ 3072) (hu : uc ≤ 500000 ∧ us ≤ 7000000) {c : CT} {co : Nat → Nat → Option Nat} {m : CT} {ml : Nat → Nat → Int64} {r : Nat → Option AE} {n : Nat} (hJ : LJ b c co m ml r n) (kk : LN X G Qp sc b k uc us) : LW X G Qp sc b k uc us 338 (HCM b c co m ml r n) := by
  obtain ⟨nv, nc, nf, nl, wk, L1, S, I, ow, hJ⟩ := hJ
  obtain ⟨h1, h2, h3, h4, h5, h6, h7, h8, h9⟩ := id hJ
  unfold LW
  refine A_aload_n dL_law_338 rfl rfl ?_
  refine A_aload_n dL_law_339 rfl rfl ?_
  refine A_iload_n dL_law_340 rfl rfl ?_
  refine A_iconst (v := 1) dL_law_341 (by decide) ?_
  refine A_iadd dL_law_342 ?_
  refine A_sld hX (ix_k hk hL (by decide)) dL_law_343 ?_
  refine A_aload_n dL_law_344 rfl rfl ?_
  refine A_iload_n dL_law_345 rfl rfl ?_
  refine A_iconst (v := 2) dL_law_346 (by decide) ?_
  refine A_iadd dL_law_347 ?_
  refine A_sld hX (ix_k hk hL (by decide)) dL_law_348 ?_
  unfold HCM
  refine A_callVi dL_law_349 m_L_32 cb_X9_village (As := [_, _]) rfl HC_at0 rfl (c_village G h1.ix) rfl ⟨by decide, by decide⟩ (Nat.le_of_ble_eq_true rfl) ⟨by omega, by omega⟩ (fun x0 h0 hq => ?_)
  obtain ⟨rfl, rfl⟩ := hq
  show WA X G RL cL_law false (some .boolean) Qp 20 510000 7100000 (HCM b c co m ml r n) _ _ _ _ _
  refine A_aload_n dL_law_352 rfl rfl ?_
  refine A_aload_n dL_law_353 rfl rfl ?_
  refine A_iload_n dL_law_354 rfl rfl ?_
  refine A_iconst (v := 1) dL_law_355 (by decide) ?_
  refine A_iadd dL_law_356 ?_
  refine A_sld hX (ix_k hk hL (by decide)) dL_law_357 ?_
  refine A_aload_n dL_law_358 rfl rfl ?_
  refine A_iload_n dL_law_359 rfl rfl ?_
  refine A_iconst (v := 2) dL_law_360 (by decide) ?_
  refine A_iadd dL_law_361 ?_
  refine A_sld hX (ix_k hk hL (by decide)) dL_law_362 ?_
  refine WA_h HCM_sw ?_
  refine A_callVi dL_law_363 m_L_36 cb_X10_village (As := [_, _]) rfl HM_at0 rfl (k_village G h1) rfl ⟨by decide, by decide⟩ (Nat.le_of_ble_eq_true rfl) ⟨by omega, by omega⟩ (fun x1 h1 hq => ?_)
  obtain ⟨rfl, rfl⟩ := hq
  refine A_icmp_eq 1444 dL_law_366 (by decide) (fun c366 => ?_) (fun c366 => ?_)
  · refine WA_h HCM_sw.symm ?_
    exact kk _ _ _ _ _ _ _ _ hJ.lj (by omega) (by omega)
  · exact absurd rfl c366
theorem op_6 (G : GX) (X : XC) {Qp : Option Value → AH → Prop} {sc L b k uc us : Nat} {xs : Nat → Int32} (hX : SCR X sc L xs) (hk : 6 * k + 6 ≤ L) (hL : L ≤ 3072) (hu : uc ≤ 500000 ∧ us ≤ 7000000) {c : CT} {co : Nat → Nat → Option Nat} {m : CT} {ml : Nat → Nat → Int64} {r : Nat → Option AE} {n : Nat} (hJ : LJ b c co m ml r n) (kk : LN X G Qp sc b k uc us) : LW X G Qp sc b k uc us 404 (HCM b c co m ml r n) := by
  obtain ⟨nv, nc, nf, nl, wk, L1, S, I, ow, hJ⟩ := hJ
  obtain ⟨h1, h2, h3, h4, h5, h6, h7, h8, h9⟩ := id hJ
  unfold LW
  refine A_aload_n dL_law_404 rfl rfl ?_
  refine A_aload_n dL_law_405 rfl rfl ?_
  refine A_iload_n dL_law_406 rfl rfl ?_
  refine A_iconst (v := 1) dL_law_407 (by decide) ?_
  refine A_iadd dL_law_408 ?_
  refine A_sld hX (ix_k hk hL (by decide)) dL_law_409 ?_
  refine A_aload_n dL_law_410 rfl rfl ?_
  refine A_iload_n dL_law_411 rfl rfl ?_
  refine A_iconst (v := 2) dL_law_412 (by decide) ?_
  refine A_iadd dL_law_413 ?_
  refine A_sld hX (ix_k hk hL (by decide)) dL_law_414 ?_
  unfold HCM
  refine A_callVi dL_law_415 m_L_41 cb_X9_water (As := [_, _]) rfl HC_at0 rfl (c_water G h1.ix h1.kx h2) rfl ⟨by decide, by decide⟩ (Nat.le_of_ble_eq_true rfl) ⟨by omega, by omega⟩ (fun x0 h0 hq => ?_)
  obtain ⟨rfl, c1, rfl, hkc⟩ := hq
  show WA X G RL cL_law false (some .boolean) Qp 20 510000 7100000 (HCM b c1 co m ml r n) _ _ _ _ _
  refine A_aload_n dL_law_418 rfl rfl ?_
  refine A_aload_n dL_law_419 rfl rfl ?_
  refine A_iload_n dL_law_420 rfl rfl ?_
  refine A_iconst (v := 1) dL_law_421 (by decide) ?_
  refine A_iadd dL_law_422 ?_
  refine A_sld hX (ix_k hk hL (by decide)) dL_law_423 ?_
  refine A_aload_n dL_law_424 rfl rfl ?_
  refine A_iload_n dL_law_425 rfl rfl ?_
  refine A_iconst (v := 2) dL_law_426 (by decide) ?_
  refine A_iadd dL_law_427 ?_
  refine A_sld hX (ix_k hk hL (by decide)) dL_law_428 ?_
  refine WA_h HCM_sw ?_
  refine A_callVi dL_law_429 m_L_44 cb_X10_water (As := [_, _]) rfl HM_at0 rfl (k_water G h1) rfl ⟨by decide, by decide⟩ (Nat.le_of_ble_eq_true rfl) ⟨by omega, by omega⟩ (fun x1 h1 hq => ?_)
  obtain ⟨rfl, m1, ml1, rfl, hkm⟩ := hq
  refine A_icmp_eq 1444 dL_law_432 (by decide) (fun c432 => ?_) (fun c432 => ?_)
  · refine WA_h HCM_sw.symm ?_
    exact kk _ _ _ _ _ _ _ _ (hJ.keep hkc hkm) (by omega) (by omega)
  · exact absurd rfl c432
theorem op_7 (G : GX) (X : XC) {Qp : Option Value → AH → Prop} {sc L b k uc us : Nat} {xs : Nat → Int32} (hX : SCR X sc L xs) (hk : 6 * k + 6 ≤ L) (hL : L ≤ 3072) (hu : uc ≤ 500000 ∧ us ≤ 7000000) {c : CT} {co : Nat → Nat → Option Nat} {m : CT} {ml : Nat → Nat → Int64} {r : Nat → Option AE} {n : Nat} (hJ : LJ b c co m ml r n) (kk : LN X G Qp sc b k uc us) : LW X G Qp sc b k uc us 437 (HCM b c co m ml r n) := by
  obtain ⟨nv, nc, nf, nl, wk, L1, S, I, ow, hJ⟩ := hJ
  obtain ⟨h1, h2, h3, h4, h5, h6, h7, h8, h9⟩ := id hJ
  unfold LW
  refine A_aload_n dL_law_437 rfl rfl ?_
  refine A_aload_n dL_law_438 rfl rfl ?_
  refine A_iload_n dL_law_439 rfl rfl ?_
  refine A_iconst (v := 1) dL_law_440 (by decide) ?_
  refine A_iadd dL_law_441 ?_
  refine A_sld hX (ix_k hk hL (by decide)) dL_law_442 ?_
  refine A_aload_n dL_law_443 rfl rfl ?_
  refine A_iload_n dL_law_444 rfl rfl ?_
  refine A_iconst (v := 2) dL_law_445 (by decide) ?_
  refine A_iadd dL_law_446 ?_
  refine A_sld hX (ix_k hk hL (by decide)) dL_law_447 ?_
  unfold HCM
  refine A_callVi dL_law_448 m_L_45 cb_X9_flood (As := [_, _]) rfl HC_at0 rfl (c_flood G h1.ix h1.kx h2) rfl ⟨by decide, by decide⟩ (Nat.le_of_ble_eq_true rfl) ⟨by omega, by omega⟩ (fun x0 h0 hq => ?_)
  obtain ⟨rfl, c1, rfl, hkc⟩ := hq
  show WA X G RL cL_law false (some .boolean) Qp 20 510000 7100000 (HCM b c1 co m ml r n) _ _ _ _ _
  refine A_aload_n dL_law_451 rfl rfl ?_
  refine A_aload_n dL_law_452 rfl rfl ?_
  refine A_iload_n dL_law_453 rfl rfl ?_
  refine A_iconst (v := 1) dL_law_454 (by decide) ?_
  refine A_iadd dL_law_455 ?_
  refine A_sld hX (ix_k hk hL (by decide)) dL_law_456 ?_
  refine A_aload_n dL_law_457 rfl rfl ?_
  refine A_iload_n dL_law_458 rfl rfl ?_
  refine A_iconst (v := 2) dL_law_459 (by decide) ?_
  refine A_iadd dL_law_460 ?_
  refine A_sld hX (ix_k hk hL (by decide)) dL_law_461 ?_
  refine WA_h HCM_sw ?_
  refine A_callVi dL_law_462 m_L_48 cb_X10_flood (As := [_, _]) rfl HM_at0 rfl (k_flood G h1) rfl ⟨by decide, by decide⟩ (Nat.le_of_ble_eq_true rfl) ⟨by omega, by omega⟩ (fun x1 h1 hq => ?_)
  obtain ⟨rfl, m1, ml1, rfl, hkm⟩ := hq
  refine A_icmp_eq 1444 dL_law_465 (by decide) (fun c465 => ?_) (fun c465 => ?_)
  · refine WA_h HCM_sw.symm ?_
    exact kk _ _ _ _ _ _ _ _ (hJ.keep hkc hkm) (by omega) (by omega)
  · exact absurd rfl c465
theorem op_8 (G : GX) (X : XC) {Qp : Option Value → AH → Prop} {sc L b k uc us : Nat} {xs : Nat → Int32} (hX : SCR X sc L xs) (hk : 6 * k + 6 ≤ L) (hL : L ≤ 3072) (hu : uc ≤ 500000 ∧ us ≤ 7000000) {c : CT} {co : Nat → Nat → Option Nat} {m : CT} {ml : Nat → Nat → Int64} {r : Nat → Option AE} {n : Nat} (hJ : LJ b c co m ml r n) (kk : LN X G Qp sc b k uc us) : LW X G Qp sc b k uc us 470 (HCM b c co m ml r n) := by
  obtain ⟨nv, nc, nf, nl, wk, L1, S, I, ow, hJ⟩ := hJ
  obtain ⟨h1, h2, h3, h4, h5, h6, h7, h8, h9⟩ := id hJ
  unfold LW
  refine A_aload_n dL_law_470 rfl rfl ?_
  refine A_aload_n dL_law_471 rfl rfl ?_
  refine A_iload_n dL_law_472 rfl rfl ?_
  refine A_iconst (v := 1) dL_law_473 (by decide) ?_
  refine A_iadd dL_law_474 ?_
  refine A_sld hX (ix_k hk hL (by decide)) dL_law_475 ?_
  refine A_aload_n dL_law_476 rfl rfl ?_
  refine A_iload_n dL_law_477 rfl rfl ?_
  refine A_iconst (v := 2) dL_law_478 (by decide) ?_
  refine A_iadd dL_law_479 ?_
  refine A_sld hX (ix_k hk hL (by decide)) dL_law_480 ?_
  unfold HCM
  refine A_callVi dL_law_481 m_L_49 cb_X9_loan (As := [_, _]) rfl HC_at0 rfl (c_loan G h1.ix h1.kx h2) rfl ⟨by decide, by decide⟩ (Nat.le_of_ble_eq_true rfl) ⟨by omega, by omega⟩ (fun x0 h0 hq => ?_)
  obtain ⟨rfl, c1, rfl, hkc⟩ := hq
  show WA X G RL cL_law false (some .boolean) Qp 20 510000 7100000 (HCM b c1 co m ml r n) _ _ _ _ _
  refine A_aload_n dL_law_484 rfl rfl ?_
  refine A_aload_n dL_law_485 rfl rfl ?_
  refine A_iload_n dL_law_486 rfl rfl ?_
  refine A_iconst (v := 1) dL_law_487 (by decide) ?_
  refine A_iadd dL_law_488 ?_
  refine A_sld hX (ix_k hk hL (by decide)) dL_law_489 ?_
  refine A_aload_n dL_law_490 rfl rfl ?_
  refine A_iload_n dL_law_491 rfl rfl ?_
  refine A_iconst (v := 2) dL_law_492 (by decide) ?_
  refine A_iadd dL_law_493 ?_
  refine A_sld hX (ix_k hk hL (by decide)) dL_law_494 ?_
  refine WA_h HCM_sw ?_
  refine A_callVi dL_law_495 m_L_52 cb_X10_loan (As := [_, _]) rfl HM_at0 rfl (k_loan G h1) rfl ⟨by decide, by decide⟩ (Nat.le_of_ble_eq_true rfl) ⟨by omega, by omega⟩ (fun x1 h1 hq => ?_)
  obtain ⟨rfl, m1, ml1, rfl, hkm⟩ := hq
  refine A_icmp_eq 1444 dL_law_498 (by decide) (fun c498 => ?_) (fun c498 => ?_)
  · refine WA_h HCM_sw.symm ?_
    exact kk _ _ _ _ _ _ _ _ (hJ.keep hkc hkm) (by omega) (by omega)
  · exact absurd rfl c498
theorem op_9 (G : GX) (X : XC) {Qp : Option Value → AH → Prop} {sc L b k uc us : Nat} {xs : Nat → Int32} (hX : SCR X sc L xs) (hk : 6 * k + 6 ≤ L) (hL : L ≤ 3072) (hu : uc ≤ 500000 ∧ us ≤ 7000000) {c : CT} {co : Nat → Nat → Option Nat} {m : CT} {ml : Nat → Nat → Int64} {r : Nat → Option AE} {n : Nat} (hJ : LJ b c co m ml r n) (kk : LN X G Qp sc b k uc us) : LW X G Qp sc b k uc us 503 (HCM b c co m ml r n) := by
  obtain ⟨nv, nc, nf, nl, wk, L1, S, I, ow, hJ⟩ := hJ
  obtain ⟨h1, h2, h3, h4, h5, h6, h7, h8, h9⟩ := id hJ
  unfold LW
  refine A_aload_n dL_law_503 rfl rfl ?_
  refine A_aload_n dL_law_504 rfl rfl ?_
  refine A_iload_n dL_law_505 rfl rfl ?_
  refine A_iconst (v := 1) dL_law_506 (by decide) ?_
  refine A_iadd dL_law_507 ?_
  refine A_sld hX (ix_k hk hL (by decide)) dL_law_508 ?_
  refine A_aload_n dL_law_509 rfl rfl ?_
  refine A_iload_n dL_law_510 rfl rfl ?_
  refine A_iconst (v := 2) dL_law_511 (by decide) ?_
  refine A_iadd dL_law_512 ?_
  refine A_sld hX (ix_k hk hL (by decide)) dL_law_513 ?_
  unfold HCM
  refine A_callVi dL_law_514 m_L_53 cb_X9_crop (As := [_, _]) rfl HC_at0 rfl (c_crop G h1.ix h1.kx h2) rfl ⟨by decide, by decide⟩ (Nat.le_of_ble_eq_true rfl) ⟨by omega, by omega⟩ (fun x0 h0 hq => ?_)
  obtain ⟨rfl, c1, rfl, hkc⟩ := hq
  show WA X G RL cL_law false (some .boolean) Qp 20 510000 7100000 (HCM b c1 co m ml r n) _ _ _ _ _
  refine A_aload_n dL_law_517 rfl rfl ?_
  refine A_aload_n dL_law_518 rfl rfl ?_
  refine A_iload_n dL_law_519 rfl rfl ?_
  refine A_iconst (v := 1) dL_law_520 (by decide) ?_
  refine A_iadd dL_law_521 ?_
  refine A_sld hX (ix_k hk hL (by decide)) dL_law_522 ?_
  refine A_aload_n dL_law_523 rfl rfl ?_
  refine A_iload_n dL_law_524 rfl rfl ?_
  refine A_iconst (v := 2) dL_law_525 (by decide) ?_
  refine A_iadd dL_law_526 ?_
  refine A_sld hX (ix_k hk hL (by decide)) dL_law_527 ?_
  refine WA_h HCM_sw ?_
  refine A_callVi dL_law_528 m_L_56 cb_X10_crop (As := [_, _]) rfl HM_at0 rfl (k_crop G h1) rfl ⟨by decide, by decide⟩ (Nat.le_of_ble_eq_true rfl) ⟨by omega, by omega⟩ (fun x1 h1 hq => ?_)
  obtain ⟨rfl, m1, ml1, rfl, hkm⟩ := hq
  refine A_icmp_eq 1444 dL_law_531 (by decide) (fun c531 => ?_) (fun c531 => ?_)
  · refine WA_h HCM_sw.symm ?_
    exact kk _ _ _ _ _ _ _ _ (hJ.keep hkc hkm) (by omega) (by omega)
  · exact absurd rfl c531
theorem op_10 (G : GX) (X : XC) {Qp : Option Value → AH → Prop} {sc L b k uc us : Nat} {xs : Nat → Int32} (hX : SCR X sc L xs) (hk : 6 * k + 6 ≤ L) (hL : L ≤ 3072) (hu : uc ≤ 500000 ∧ us ≤ 7000000) {c : CT} {co : Nat → Nat → Option Nat} {m : CT} {ml : Nat → Nat → Int64} {r : Nat → Option AE} {n : Nat} (hJ : LJ b c co m ml r n) (kk : LN X G Qp sc b k uc us) : LW X G Qp sc b k uc us 536 (HCM b c co m ml r n) := by
  obtain ⟨nv, nc, nf, nl, wk, L1, S, I, ow, hJ⟩ := hJ
  obtain ⟨h1, h2, h3, h4, h5, h6, h7, h8, h9⟩ := id hJ
  unfold LW
  refine A_aload_n dL_law_536 rfl rfl ?_
  refine A_aload_n dL_law_537 rfl rfl ?_
  refine A_iload_n dL_law_538 rfl rfl ?_
  refine A_iconst (v := 1) dL_law_539 (by decide) ?_
  refine A_iadd dL_law_540 ?_
  refine A_sld hX (ix_k hk hL (by decide)) dL_law_541 ?_
  unfold HCM
  refine A_callVi dL_law_542 m_L_57 cb_X9_sum (As := [_]) rfl HC_at0 rfl (c_sum G h1.ix h1.kx h2) rfl ⟨by decide, by decide⟩ (Nat.le_of_ble_eq_true rfl) ⟨by omega, by omega⟩ (fun x0 h0 hq => ?_)
  obtain ⟨rfl, c1, rfl, hkc⟩ := hq
  show WA X G RL cL_law false (some .boolean) Qp 20 510000 7100000 (HCM b c1 co m ml r n) _ _ _ _ _
  refine A_aload_n dL_law_545 rfl rfl ?_
  refine A_aload_n dL_law_546 rfl rfl ?_
  refine A_iload_n dL_law_547 rfl rfl ?_
  refine A_iconst (v := 1) dL_law_548 (by decide) ?_
  refine A_iadd dL_law_549 ?_
  refine A_sld hX (ix_k hk hL (by decide)) dL_law_550 ?_
  refine WA_h HCM_sw ?_
  refine A_callVi dL_law_551 m_L_60 cb_X10_sum (As := [_]) rfl HM_at0 rfl (k_sum G h1) rfl ⟨by decide, by decide⟩ (Nat.le_of_ble_eq_true rfl) ⟨by omega, by omega⟩ (fun x1 h1 hq => ?_)
  obtain ⟨rfl, m1, ml1, rfl, hkm⟩ := hq
  refine A_icmp_eq 1444 dL_law_554 (by decide) (fun c554 => ?_) (fun c554 => ?_)
  · refine WA_h HCM_sw.symm ?_
    exact kk _ _ _ _ _ _ _ _ (hJ.keep hkc hkm) (by omega) (by omega)
  · exact absurd rfl c554
theorem op_11 (G : GX) (X : XC) {Qp : Option Value → AH → Prop} {sc L b k uc us : Nat} {xs : Nat → Int32} (hX : SCR X sc L xs) (hk : 6 * k + 6 ≤ L) (hL : L ≤ 3072) (hu : uc ≤ 500000 ∧ us ≤ 7000000) {c : CT} {co : Nat → Nat → Option Nat} {m : CT} {ml : Nat → Nat → Int64} {r : Nat → Option AE} {n : Nat} (hJ : LJ b c co m ml r n) (kk : LN X G Qp sc b k uc us) : LW X G Qp sc b k uc us 559 (HCM b c co m ml r n) := by
  obtain ⟨nv, nc, nf, nl, wk, L1, S, I, ow, hJ⟩ := hJ
  obtain ⟨h1, h2, h3, h4, h5, h6, h7, h8, h9⟩ := id hJ
  unfold LW
  refine A_aload_n dL_law_559 rfl rfl ?_
  unfold HCM
  refine A_callVi dL_law_560 m_L_61 cb_X9_first (As := []) rfl HC_at0 rfl (c_first G h1.ix h1.kx h2) rfl ⟨by decide, by decide⟩ (Nat.le_of_ble_eq_true rfl) ⟨by omega, by omega⟩ (fun x0 h0 hq => ?_)
  obtain ⟨rfl, c1, rfl, hkc⟩ := hq
  show WA X G RL cL_law false (some .boolean) Qp 20 510000 7100000 (HCM b c1 co m ml r n) _ _ _ _ _
  refine A_aload_n dL_law_563 rfl rfl ?_
  refine WA_h HCM_sw ?_
  refine A_callVi dL_law_564 m_L_64 cb_X10_first (As := []) rfl HM_at0 rfl (k_first G h1) rfl ⟨by decide, by decide⟩ (Nat.le_of_ble_eq_true rfl) ⟨by omega, by omega⟩ (fun x1 h1 hq => ?_)
  obtain ⟨rfl, m1, ml1, rfl, hkm⟩ := hq
  refine A_icmp_eq 1444 dL_law_567 (by decide) (fun c567 => ?_) (fun c567 => ?_)
  · refine WA_h HCM_sw.symm ?_
    exact kk _ _ _ _ _ _ _ _ (hJ.keep hkc hkm) (by omega) (by omega)
  · exact absurd rfl c567
theorem op_12 (G : GX) (X : XC) {Qp : Option Value → AH → Prop} {sc L b k uc us : Nat} {xs : Nat → Int32} (hX : SCR X sc L xs) (hk : 6 * k + 6 ≤ L) (hL : L ≤ 3072) (hu : uc ≤ 500000 ∧ us ≤ 7000000) {c : CT} {co : Nat → Nat → Option Nat} {m : CT} {ml : Nat → Nat → Int64} {r : Nat → Option AE} {n : Nat} (hJ : LJ b c co m ml r n) (kk : LN X G Qp sc b k uc us) : LW X G Qp sc b k uc us 572 (HCM b c co m ml r n) := by
  obtain ⟨nv, nc, nf, nl, wk, L1, S, I, ow, hJ⟩ := hJ
  obtain ⟨h1, h2, h3, h4, h5, h6, h7, h8, h9⟩ := id hJ
  unfold LW
  refine A_aload_n dL_law_572 rfl rfl ?_
  unfold HCM
  refine A_callVi dL_law_573 m_L_65 cb_X9_best (As := []) rfl HC_at0 rfl (c_best G h1.ix h1.kx h2) rfl ⟨by decide, by decide⟩ (Nat.le_of_ble_eq_true rfl) ⟨by omega, by omega⟩ (fun x0 h0 hq => ?_)
  obtain ⟨rfl, c1, rfl, hkc⟩ := hq
  show WA X G RL cL_law false (some .boolean) Qp 20 510000 7100000 (HCM b c1 co m ml r n) _ _ _ _ _
  refine A_aload_n dL_law_576 rfl rfl ?_
  refine WA_h HCM_sw ?_
  refine A_callVi dL_law_577 m_L_68 cb_X10_best (As := []) rfl HM_at0 rfl (k_best G h1) rfl ⟨by decide, by decide⟩ (Nat.le_of_ble_eq_true rfl) ⟨by omega, by omega⟩ (fun x1 h1 hq => ?_)
  obtain ⟨rfl, m1, ml1, rfl, hkm⟩ := hq
  refine A_icmp_eq 1444 dL_law_580 (by decide) (fun c580 => ?_) (fun c580 => ?_)
  · refine WA_h HCM_sw.symm ?_
    exact kk _ _ _ _ _ _ _ _ (hJ.keep hkc hkm) (by omega) (by omega)
  · exact absurd rfl c580
theorem op_13 (G : GX) (X : XC) {Qp : Option Value → AH → Prop} {sc L b k uc us : Nat} {xs : Nat → Int32} (hX : SCR X sc L xs) (hk : 6 * k + 6 ≤ L) (hL : L ≤ 3072) (hu : uc ≤ 500000 ∧ us ≤ 7000000) {c : CT} {co : Nat → Nat → Option Nat} {m : CT} {ml : Nat → Nat → Int64} {r : Nat → Option AE} {n : Nat} (hJ : LJ b c co m ml r n) (kk : LN X G Qp sc b k uc us) : LW X G Qp sc b k uc us 585 (HCM b c co m ml r n) := by
  obtain ⟨nv, nc, nf, nl, wk, L1, S, I, ow, hJ⟩ := hJ
  obtain ⟨h1, h2, h3, h4, h5, h6, h7, h8, h9⟩ := id hJ
  unfold LW
  refine A_aload_n dL_law_585 rfl rfl ?_
  refine A_aload_n dL_law_586 rfl rfl ?_
  refine A_iload_n dL_law_587 rfl rfl ?_
  refine A_iconst (v := 1) dL_law_588 (by decide) ?_
  refine A_iadd dL_law_589 ?_
  refine A_sld hX (ix_k hk hL (by decide)) dL_law_590 ?_
  unfold HCM
  refine A_callVi dL_law_591 m_L_69 cb_X9_taker (As := [_]) rfl HC_at0 rfl (c_taker G h1.ix h1.kx h2) rfl ⟨by decide, by decide⟩ (Nat.le_of_ble_eq_true rfl) ⟨by omega, by omega⟩ (fun x0 h0 hq => ?_)
  obtain ⟨rfl, c1, rfl, hkc⟩ := hq
  show WA X G RL cL_law false (some .boolean) Qp 20 510000 7100000 (HCM b c1 co m ml r n) _ _ _ _ _
  refine A_aload_n dL_law_594 rfl rfl ?_
  refine A_aload_n dL_law_595 rfl rfl ?_
  refine A_iload_n dL_law_596 rfl rfl ?_
  refine A_iconst (v := 1) dL_law_597 (by decide) ?_
  refine A_iadd dL_law_598 ?_
  refine A_sld hX (ix_k hk hL (by decide)) dL_law_599 ?_
  refine WA_h HCM_sw ?_
  refine A_callVi dL_law_600 m_L_72 cb_X10_taker (As := [_]) rfl HM_at0 rfl (k_taker G h1) rfl ⟨by decide, by decide⟩ (Nat.le_of_ble_eq_true rfl) ⟨by omega, by omega⟩ (fun x1 h1 hq => ?_)
  obtain ⟨rfl, m1, ml1, rfl, hkm⟩ := hq
  refine A_icmp_eq 1444 dL_law_603 (by decide) (fun c603 => ?_) (fun c603 => ?_)
  · refine WA_h HCM_sw.symm ?_
    exact kk _ _ _ _ _ _ _ _ (hJ.keep hkc hkm) (by omega) (by omega)
  · exact absurd rfl c603
theorem op_14 (G : GX) (X : XC) {Qp : Option Value → AH → Prop} {sc L b k uc us : Nat} {xs : Nat → Int32} (hX : SCR X sc L xs) (hk : 6 * k + 6 ≤ L) (hL : L ≤ 3072) (hu : uc ≤ 500000 ∧ us ≤ 7000000) {c : CT} {co : Nat → Nat → Option Nat} {m : CT} {ml : Nat → Nat → Int64} {r : Nat → Option AE} {n : Nat} (hJ : LJ b c co m ml r n) (kk : LN X G Qp sc b k uc us) : LW X G Qp sc b k uc us 608 (HCM b c co m ml r n) := by
  obtain ⟨nv, nc, nf, nl, wk, L1, S, I, ow, hJ⟩ := hJ
  obtain ⟨h1, h2, h3, h4, h5, h6, h7, h8, h9⟩ := id hJ
  unfold LW
  refine A_aload_n dL_law_608 rfl rfl ?_
  unfold HCM
  refine A_callVi dL_law_609 m_L_73 cb_X9_safe (As := []) rfl HC_at0 rfl (c_safe G h1.ix h1.kx h2) rfl ⟨by decide, by decide⟩ (Nat.le_of_ble_eq_true rfl) ⟨by omega, by omega⟩ (fun x0 h0 hq => ?_)
  obtain ⟨rfl, c1, rfl, hkc⟩ := hq
  show WA X G RL cL_law false (some .boolean) Qp 20 510000 7100000 (HCM b c1 co m ml r n) _ _ _ _ _
  refine A_aload_n dL_law_612 rfl rfl ?_
  refine WA_h HCM_sw ?_
  refine A_callVi dL_law_613 m_L_76 cb_X10_safe (As := []) rfl HM_at0 rfl (k_safe G h1) rfl ⟨by decide, by decide⟩ (Nat.le_of_ble_eq_true rfl) ⟨by omega, by omega⟩ (fun x1 h1 hq => ?_)
  obtain ⟨rfl, m1, ml1, rfl, hkm⟩ := hq
  refine A_icmp_eq 1444 dL_law_616 (by decide) (fun c616 => ?_) (fun c616 => ?_)
  · refine WA_h HCM_sw.symm ?_
    exact kk _ _ _ _ _ _ _ _ (hJ.keep hkc hkm) (by omega) (by omega)
  · exact absurd rfl c616
theorem op_15 (G : GX) (X : XC) {Qp : Option Value → AH → Prop} {sc L b k uc us : Nat} {xs : Nat → Int32} (hX : SCR X sc L xs) (hk : 6 * k + 6 ≤ L) (hL : L ≤ 3072) (hu : uc ≤ 500000 ∧ us ≤ 7000000) {c : CT} {co : Nat → Nat → Option Nat} {m : CT} {ml : Nat → Nat → Int64} {r : Nat → Option AE} {n : Nat} (hJ : LJ b c co m ml r n) (kk : LN X G Qp sc b k uc us) : LW X G Qp sc b k uc us 621 (HCM b c co m ml r n) := by
  obtain ⟨nv, nc, nf, nl, wk, L1, S, I, ow, hJ⟩ := hJ
  obtain ⟨h1, h2, h3, h4, h5, h6, h7, h8, h9⟩ := id hJ
  unfold LW
  refine A_aload_n dL_law_621 rfl rfl ?_
  refine A_aload_n dL_law_622 rfl rfl ?_
  refine A_iload_n dL_law_623 rfl rfl ?_
  refine A_iconst (v := 1) dL_law_624 (by decide) ?_
  refine A_iadd dL_law_625 ?_
  refine A_sld hX (ix_k hk hL (by decide)) dL_law_626 ?_
  unfold HCM
  refine A_callVl dL_law_627 m_L_77 cb_X9_hope (As := [_]) rfl HC_at0 rfl (c_hope G h1.ix h1.kx h2) rfl ⟨by decide, by decide⟩ (Nat.le_of_ble_eq_true rfl) ⟨by omega, by omega⟩ (fun x0 h0 hq => ?_)
  obtain ⟨rfl, c1, rfl, hkc⟩ := hq
  show WA X G RL cL_law false (some .boolean) Qp 20 510000 7100000 (HCM b c1 co m ml r n) _ _ _ _ _
  refine A_aload_n dL_law_630 rfl rfl ?_
  refine A_aload_n dL_law_631 rfl rfl ?_
  refine A_iload_n dL_law_632 rfl rfl ?_
  refine A_iconst (v := 1) dL_law_633 (by decide) ?_
  refine A_iadd dL_law_634 ?_
  refine A_sld hX (ix_k hk hL (by decide)) dL_law_635 ?_
  refine WA_h HCM_sw ?_
  refine A_callVl dL_law_636 m_L_81 cb_X10_hope (As := [_]) rfl HM_at0 rfl (k_hope G h1) rfl ⟨by decide, by decide⟩ (Nat.le_of_ble_eq_true rfl) ⟨by omega, by omega⟩ (fun x1 h1 hq => ?_)
  obtain ⟨rfl, m1, ml1, rfl, hkm⟩ := hq
  refine A_lcmp dL_law_639 ?_
  refine A_if_eq 1444 dL_law_640 (by decide) (fun c640 => ?_) (fun c640 => ?_)
  · refine WA_h HCM_sw.symm ?_
    exact kk _ _ _ _ _ _ _ _ (hJ.keep hkc hkm) (by omega) (by omega)
  · exact absurd (lg_self _) c640
theorem op_16 (G : GX) (X : XC) {Qp : Option Value → AH → Prop} {sc L b k uc us : Nat} {xs : Nat → Int32} (hX : SCR X sc L xs) (hk : 6 * k + 6 ≤ L) (hL : L ≤ 3072) (hu : uc ≤ 500000 ∧ us ≤ 7000000) {c : CT} {co : Nat → Nat → Option Nat} {m : CT} {ml : Nat → Nat → Int64} {r : Nat → Option AE} {n : Nat} (hJ : LJ b c co m ml r n) (kk : LN X G Qp sc b k uc us) : LW X G Qp sc b k uc us 645 (HCM b c co m ml r n) := by
  obtain ⟨nv, nc, nf, nl, wk, L1, S, I, ow, hJ⟩ := hJ
  obtain ⟨h1, h2, h3, h4, h5, h6, h7, h8, h9⟩ := id hJ
  unfold LW
  refine A_aload_n dL_law_645 rfl rfl ?_
  refine A_aload_n dL_law_646 rfl rfl ?_
  refine A_iload_n dL_law_647 rfl rfl ?_
  refine A_iconst (v := 1) dL_law_648 (by decide) ?_
  refine A_iadd dL_law_649 ?_
  refine A_sld hX (ix_k hk hL (by decide)) dL_law_650 ?_
  unfold HCM
  refine A_callVi dL_law_651 m_L_82 cb_X9_wise (As := [_]) rfl HC_at0 rfl (c_wise G h1.ix h1.kx h2) rfl ⟨by decide, by decide⟩ (Nat.le_of_ble_eq_true rfl) ⟨by omega, by omega⟩ (fun x0 h0 hq => ?_)
  obtain ⟨rfl, c1, rfl, hkc⟩ := hq
  show WA X G RL cL_law false (some .boolean) Qp 20 510000 7100000 (HCM b c1 co m ml r n) _ _ _ _ _
  refine A_aload_n dL_law_654 rfl rfl ?_
  refine A_aload_n dL_law_655 rfl rfl ?_
  refine A_iload_n dL_law_656 rfl rfl ?_
  refine A_iconst (v := 1) dL_law_657 (by decide) ?_
  refine A_iadd dL_law_658 ?_
  refine A_sld hX (ix_k hk hL (by decide)) dL_law_659 ?_
  refine WA_h HCM_sw ?_
  refine A_callVi dL_law_660 m_L_85 cb_X10_wise (As := [_]) rfl HM_at0 rfl (k_wise G h1) rfl ⟨by decide, by decide⟩ (Nat.le_of_ble_eq_true rfl) ⟨by omega, by omega⟩ (fun x1 h1 hq => ?_)
  obtain ⟨rfl, m1, ml1, rfl, hkm⟩ := hq
  refine A_icmp_eq 1444 dL_law_663 (by decide) (fun c663 => ?_) (fun c663 => ?_)
  · refine WA_h HCM_sw.symm ?_
    exact kk _ _ _ _ _ _ _ _ (hJ.keep hkc hkm) (by omega) (by omega)
  · exact absurd rfl c663
theorem op_17 (G : GX) (X : XC) {Qp : Option Value → AH → Prop} {sc L b k uc us : Nat} {xs : Nat → Int32} (hX : SCR X sc L xs) (hk : 6 * k + 6 ≤ L) (hL : L ≤ 3072) (hu : uc ≤ 500000 ∧ us ≤ 7000000) {c : CT} {co : Nat → Nat → Option Nat} {m : CT} {ml : Nat → Nat → Int64} {r : Nat → Option AE} {n : Nat} (hJ : LJ b c co m ml r n) (kk : LN X G Qp sc b k uc us) : LW X G Qp sc b k uc us 668 (HCM b c co m ml r n) := by
  obtain ⟨nv, nc, nf, nl, wk, L1, S, I, ow, hJ⟩ := hJ
  obtain ⟨h1, h2, h3, h4, h5, h6, h7, h8, h9⟩ := id hJ
  unfold LW
  refine A_aload_n dL_law_668 rfl rfl ?_
  refine A_aload_n dL_law_669 rfl rfl ?_
  refine A_iload_n dL_law_670 rfl rfl ?_
  refine A_iconst (v := 1) dL_law_671 (by decide) ?_
  refine A_iadd dL_law_672 ?_
  refine A_sld hX (ix_k hk hL (by decide)) dL_law_673 ?_
  unfold HCM
  refine A_callVl dL_law_674 m_L_86 cb_X9_wisest (As := [_]) rfl HC_at0 rfl (c_wisest G h1.ix h1.kx h2) rfl ⟨by decide, by decide⟩ (Nat.le_of_ble_eq_true rfl) ⟨by omega, by omega⟩ (fun x0 h0 hq => ?_)
  obtain ⟨rfl, c1, rfl, hkc⟩ := hq
  show WA X G RL cL_law false (some .boolean) Qp 20 510000 7100000 (HCM b c1 co m ml r n) _ _ _ _ _
  refine A_aload_n dL_law_677 rfl rfl ?_
  refine A_aload_n dL_law_678 rfl rfl ?_
  refine A_iload_n dL_law_679 rfl rfl ?_
  refine A_iconst (v := 1) dL_law_680 (by decide) ?_
  refine A_iadd dL_law_681 ?_
  refine A_sld hX (ix_k hk hL (by decide)) dL_law_682 ?_
  refine WA_h HCM_sw ?_
  refine A_callVl dL_law_683 m_L_89 cb_X10_wisest (As := [_]) rfl HM_at0 rfl (k_wisest G h1) rfl ⟨by decide, by decide⟩ (Nat.le_of_ble_eq_true rfl) ⟨by omega, by omega⟩ (fun x1 h1 hq => ?_)
  obtain ⟨rfl, m1, ml1, rfl, hkm⟩ := hq
  refine A_lcmp dL_law_686 ?_
  refine A_if_eq 1444 dL_law_687 (by decide) (fun c687 => ?_) (fun c687 => ?_)
  · refine WA_h HCM_sw.symm ?_
    exact kk _ _ _ _ _ _ _ _ (hJ.keep hkc hkm) (by omega) (by omega)
  · exact absurd (lg_self _) c687
theorem op_18 (G : GX) (X : XC) {Qp : Option Value → AH → Prop} {sc L b k uc us : Nat} {xs : Nat → Int32} (hX : SCR X sc L xs) (hk : 6 * k + 6 ≤ L) (hL : L ≤ 3072) (hu : uc ≤ 500000 ∧ us ≤ 7000000) {c : CT} {co : Nat → Nat → Option Nat} {m : CT} {ml : Nat → Nat → Int64} {r : Nat → Option AE} {n : Nat} (hJ : LJ b c co m ml r n) (kk : LN X G Qp sc b k uc us) : LW X G Qp sc b k uc us 692 (HCM b c co m ml r n) := by
  obtain ⟨nv, nc, nf, nl, wk, L1, S, I, ow, hJ⟩ := hJ
  obtain ⟨h1, h2, h3, h4, h5, h6, h7, h8, h9⟩ := id hJ
  unfold LW
  refine A_aload_n dL_law_692 rfl rfl ?_
  refine A_aload_n dL_law_693 rfl rfl ?_
  refine A_iload_n dL_law_694 rfl rfl ?_
  refine A_iconst (v := 1) dL_law_695 (by decide) ?_
  refine A_iadd dL_law_696 ?_
  refine A_sld hX (ix_k hk hL (by decide)) dL_law_697 ?_
  unfold HCM
  refine A_callVi dL_law_698 m_L_90 cb_X9_agree (As := [_]) rfl HC_at0 rfl (c_agree G h1.ix h1.kx h2 h5.ok) rfl ⟨by decide, by decide⟩ (Nat.le_of_ble_eq_true rfl) ⟨by omega, by omega⟩ (fun x0 h0 hq => ?_)
  obtain ⟨rfl, c1, rfl, hkc⟩ := hq
  show WA X G RL cL_law false (some .boolean) Qp 20 510000 7100000 (HCM b c1 co m ml r n) _ _ _ _ _
  refine A_aload_n dL_law_701 rfl rfl ?_
  refine A_aload_n dL_law_702 rfl rfl ?_
  refine A_iload_n dL_law_703 rfl rfl ?_
  refine A_iconst (v := 1) dL_law_704 (by decide) ?_
  refine A_iadd dL_law_705 ?_
  refine A_sld hX (ix_k hk hL (by decide)) dL_law_706 ?_
  refine WA_h HCM_sw ?_
  refine A_callVi dL_law_707 m_L_93 cb_X10_agree (As := [_]) rfl HM_at0 rfl (k_agree G h1 h6) rfl ⟨by decide, by decide⟩ (Nat.le_of_ble_eq_true rfl) ⟨by omega, by omega⟩ (fun x1 h1 hq => ?_)
  obtain ⟨rfl, m1, ml1, rfl, hkm⟩ := hq
  refine A_icmp_eq 1444 dL_law_710 (by decide) (fun c710 => ?_) (fun c710 => ?_)
  · refine WA_h HCM_sw.symm ?_
    exact kk _ _ _ _ _ _ _ _ (hJ.keep hkc hkm) (by omega) (by omega)
  · exact absurd rfl c710
theorem op_19 (G : GX) (X : XC) {Qp : Option Value → AH → Prop} {sc L b k uc us : Nat} {xs : Nat → Int32} (hX : SCR X sc L xs) (hk : 6 * k + 6 ≤ L) (hL : L ≤ 3072) (hu : uc ≤ 500000 ∧ us ≤ 7000000) {c : CT} {co : Nat → Nat → Option Nat} {m : CT} {ml : Nat → Nat → Int64} {r : Nat → Option AE} {n : Nat} (hJ : LJ b c co m ml r n) (kk : LN X G Qp sc b k uc us) : LW X G Qp sc b k uc us 715 (HCM b c co m ml r n) := by
  obtain ⟨nv, nc, nf, nl, wk, L1, S, I, ow, hJ⟩ := hJ
  obtain ⟨h1, h2, h3, h4, h5, h6, h7, h8, h9⟩ := id hJ
  unfold LW
  refine A_aload_n dL_law_715 rfl rfl ?_
  refine A_aload_n dL_law_716 rfl rfl ?_
  refine A_iload_n dL_law_717 rfl rfl ?_
  refine A_iconst (v := 1) dL_law_718 (by decide) ?_
  refine A_iadd dL_law_719 ?_
  refine A_sld hX (ix_k hk hL (by decide)) dL_law_720 ?_
  refine A_aload_n dL_law_721 rfl rfl ?_
  refine A_iload_n dL_law_722 rfl rfl ?_
  refine A_iconst (v := 2) dL_law_723 (by decide) ?_
  refine A_iadd dL_law_724 ?_
  refine A_sld hX (ix_k hk hL (by decide)) dL_law_725 ?_
  unfold HCM
  refine A_callVi dL_law_726 m_L_94 cb_X9_who (As := [_, _]) rfl HC_at0 rfl (c_who G h1.ix h1.kx h2 h5.ok) rfl ⟨by decide, by decide⟩ (Nat.le_of_ble_eq_true rfl) ⟨by omega, by omega⟩ (fun x0 h0 hq => ?_)
  obtain ⟨rfl, c1, rfl, hkc⟩ := hq
  show WA X G RL cL_law false (some .boolean) Qp 20 510000 7100000 (HCM b c1 co m ml r n) _ _ _ _ _
  refine A_aload_n dL_law_729 rfl rfl ?_
  refine A_aload_n dL_law_730 rfl rfl ?_
  refine A_iload_n dL_law_731 rfl rfl ?_
  refine A_iconst (v := 1) dL_law_732 (by decide) ?_
  refine A_iadd dL_law_733 ?_
  refine A_sld hX (ix_k hk hL (by decide)) dL_law_734 ?_
  refine A_aload_n dL_law_735 rfl rfl ?_
  refine A_iload_n dL_law_736 rfl rfl ?_
  refine A_iconst (v := 2) dL_law_737 (by decide) ?_
  refine A_iadd dL_law_738 ?_
  refine A_sld hX (ix_k hk hL (by decide)) dL_law_739 ?_
  refine WA_h HCM_sw ?_
  refine A_callVi dL_law_740 m_L_97 cb_X10_who (As := [_, _]) rfl HM_at0 rfl (k_who G h1 h6) rfl ⟨by decide, by decide⟩ (Nat.le_of_ble_eq_true rfl) ⟨by omega, by omega⟩ (fun x1 h1 hq => ?_)
  obtain ⟨rfl, m1, ml1, rfl, hkm⟩ := hq
  refine A_icmp_eq 1444 dL_law_743 (by decide) (fun c743 => ?_) (fun c743 => ?_)
  · refine WA_h HCM_sw.symm ?_
    exact kk _ _ _ _ _ _ _ _ (hJ.keep hkc hkm) (by omega) (by omega)
  · exact absurd rfl c743
theorem op_20 (G : GX) (X : XC) {Qp : Option Value → AH → Prop} {sc L b k uc us : Nat} {xs : Nat → Int32} (hX : SCR X sc L xs) (hk : 6 * k + 6 ≤ L) (hL : L ≤ 3072) (hu : uc ≤ 500000 ∧ us ≤ 7000000) {c : CT} {co : Nat → Nat → Option Nat} {m : CT} {ml : Nat → Nat → Int64} {r : Nat → Option AE} {n : Nat} (hJ : LJ b c co m ml r n) (kk : LN X G Qp sc b k uc us) : LW X G Qp sc b k uc us 748 (HCM b c co m ml r n) := by
  obtain ⟨nv, nc, nf, nl, wk, L1, S, I, ow, hJ⟩ := hJ
  obtain ⟨h1, h2, h3, h4, h5, h6, h7, h8, h9⟩ := id hJ
  unfold LW
  refine A_aload_n dL_law_748 rfl rfl ?_
  refine A_aload_n dL_law_749 rfl rfl ?_
  refine A_iload_n dL_law_750 rfl rfl ?_
  refine A_iconst (v := 1) dL_law_751 (by decide) ?_
  refine A_iadd dL_law_752 ?_
  refine A_sld hX (ix_k hk hL (by decide)) dL_law_753 ?_
  refine A_aload_n dL_law_754 rfl rfl ?_
  refine A_iload_n dL_law_755 rfl rfl ?_
  refine A_iconst (v := 2) dL_law_756 (by decide) ?_
  refine A_iadd dL_law_757 ?_
  refine A_sld hX (ix_k hk hL (by decide)) dL_law_758 ?_
  refine A_aload_n dL_law_759 rfl rfl ?_
  refine A_iload_n dL_law_760 rfl rfl ?_
  refine A_iconst (v := 3) dL_law_761 (by decide) ?_
  refine A_iadd dL_law_762 ?_
  refine A_sld hX (ix_k hk hL (by decide)) dL_law_763 ?_
  unfold HCM
  refine A_callVi dL_law_764 m_L_98 cb_X9_sure (As := [_, _, _]) rfl HC_at0 rfl (c_sure G h1.ix h1.kx h2 h5.ok) rfl ⟨by decide, by decide⟩ (Nat.le_of_ble_eq_true rfl) ⟨by omega, by omega⟩ (fun x0 h0 hq => ?_)
  obtain ⟨rfl, c1, rfl, hkc⟩ := hq
  show WA X G RL cL_law false (some .boolean) Qp 20 510000 7100000 (HCM b c1 co m ml r n) _ _ _ _ _
  refine A_aload_n dL_law_767 rfl rfl ?_
  refine A_aload_n dL_law_768 rfl rfl ?_
  refine A_iload_n dL_law_769 rfl rfl ?_
  refine A_iconst (v := 1) dL_law_770 (by decide) ?_
  refine A_iadd dL_law_771 ?_
  refine A_sld hX (ix_k hk hL (by decide)) dL_law_772 ?_
  refine A_aload_n dL_law_773 rfl rfl ?_
  refine A_iload_n dL_law_774 rfl rfl ?_
  refine A_iconst (v := 2) dL_law_775 (by decide) ?_
  refine A_iadd dL_law_776 ?_
  refine A_sld hX (ix_k hk hL (by decide)) dL_law_777 ?_
  refine A_aload_n dL_law_778 rfl rfl ?_
  refine A_iload_n dL_law_779 rfl rfl ?_
  refine A_iconst (v := 3) dL_law_780 (by decide) ?_
  refine A_iadd dL_law_781 ?_
  refine A_sld hX (ix_k hk hL (by decide)) dL_law_782 ?_
  refine WA_h HCM_sw ?_
  refine A_callVi dL_law_783 m_L_102 cb_X10_sure (As := [_, _, _]) rfl HM_at0 rfl (k_sure G h1 h6) rfl ⟨by decide, by decide⟩ (Nat.le_of_ble_eq_true rfl) ⟨by omega, by omega⟩ (fun x1 h1 hq => ?_)
  obtain ⟨rfl, m1, ml1, rfl, hkm⟩ := hq
  refine A_icmp_eq 1444 dL_law_786 (by decide) (fun c786 => ?_) (fun c786 => ?_)
  · refine WA_h HCM_sw.symm ?_
    exact kk _ _ _ _ _ _ _ _ (hJ.keep hkc hkm) (by omega) (by omega)
  · exact absurd rfl c786
theorem op_21 (G : GX) (X : XC) {Qp : Option Value → AH → Prop} {sc L b k uc us : Nat} {xs : Nat → Int32} (hX : SCR X sc L xs) (hk : 6 * k + 6 ≤ L) (hL : L ≤ 3072) (hu : uc ≤ 500000 ∧ us ≤ 7000000) {c : CT} {co : Nat → Nat → Option Nat} {m : CT} {ml : Nat → Nat → Int64} {r : Nat → Option AE} {n : Nat} (hJ : LJ b c co m ml r n) (kk : LN X G Qp sc b k uc us) : LW X G Qp sc b k uc us 791 (HCM b c co m ml r n) := by
  obtain ⟨nv, nc, nf, nl, wk, L1, S, I, ow, hJ⟩ := hJ
  obtain ⟨h1, h2, h3, h4, h5, h6, h7, h8, h9⟩ := id hJ
  unfold LW
  refine A_aload_n dL_law_791 rfl rfl ?_
  refine A_aload_n dL_law_792 rfl rfl ?_
  refine A_iload_n dL_law_793 rfl rfl ?_
  refine A_iconst (v := 1) dL_law_794 (by decide) ?_
  refine A_iadd dL_law_795 ?_
  refine A_sld hX (ix_k hk hL (by decide)) dL_law_796 ?_
  unfold HCM
  refine A_callVi dL_law_797 m_L_103 cb_X9_needed (As := [_]) rfl HC_at0 rfl (c_needed G h1.ix h1.kx h2 h5.ok) rfl ⟨by decide, by decide⟩ (Nat.le_of_ble_eq_true rfl) ⟨by omega, by omega⟩ (fun x0 h0 hq => ?_)
  obtain ⟨rfl, c1, rfl, hkc⟩ := hq
  show WA X G RL cL_law false (some .boolean) Qp 20 510000 7100000 (HCM b c1 co m ml r n) _ _ _ _ _
  refine A_aload_n dL_law_800 rfl rfl ?_
  refine A_aload_n dL_law_801 rfl rfl ?_
  refine A_iload_n dL_law_802 rfl rfl ?_
  refine A_iconst (v := 1) dL_law_803 (by decide) ?_
  refine A_iadd dL_law_804 ?_
  refine A_sld hX (ix_k hk hL (by decide)) dL_law_805 ?_
  refine WA_h HCM_sw ?_
  refine A_callVi dL_law_806 m_L_106 cb_X10_needed (As := [_]) rfl HM_at0 rfl (k_needed G h1 h6) rfl ⟨by decide, by decide⟩ (Nat.le_of_ble_eq_true rfl) ⟨by omega, by omega⟩ (fun x1 h1 hq => ?_)
  obtain ⟨rfl, m1, ml1, rfl, hkm⟩ := hq
  refine A_icmp_eq 1444 dL_law_809 (by decide) (fun c809 => ?_) (fun c809 => ?_)
  · refine WA_h HCM_sw.symm ?_
    exact kk _ _ _ _ _ _ _ _ (hJ.keep hkc hkm) (by omega) (by omega)
  · exact absurd rfl c809
theorem op_22 (G : GX) (X : XC) {Qp : Option Value → AH → Prop} {sc L b k uc us : Nat} {xs : Nat → Int32} (hX : SCR X sc L xs) (hk : 6 * k + 6 ≤ L) (hL : L ≤ 3072) (hu : uc ≤ 500000 ∧ us ≤ 7000000) {c : CT} {co : Nat → Nat → Option Nat} {m : CT} {ml : Nat → Nat → Int64} {r : Nat → Option AE} {n : Nat} (hJ : LJ b c co m ml r n) (kk : LN X G Qp sc b k uc us) : LW X G Qp sc b k uc us 814 (HCM b c co m ml r n) := by
  obtain ⟨nv, nc, nf, nl, wk, L1, S, I, ow, hJ⟩ := hJ
  obtain ⟨h1, h2, h3, h4, h5, h6, h7, h8, h9⟩ := id hJ
  unfold LW
  refine A_aload_n dL_law_814 rfl rfl ?_
  refine A_aload_n dL_law_815 rfl rfl ?_
  refine A_iload_n dL_law_816 rfl rfl ?_
  refine A_iconst (v := 1) dL_law_817 (by decide) ?_
  refine A_iadd dL_law_818 ?_
  refine A_sld hX (ix_k hk hL (by decide)) dL_law_819 ?_
  unfold HCM
  refine A_callVi dL_law_820 m_L_107 cb_X9_fair (As := [_]) rfl HC_at0 rfl (c_fair G h1.ix h1.kx h2) rfl ⟨by decide, by decide⟩ (Nat.le_of_ble_eq_true rfl) ⟨by omega, by omega⟩ (fun x0 h0 hq => ?_)
  obtain ⟨rfl, c1, rfl, hkc⟩ := hq
  show WA X G RL cL_law false (some .boolean) Qp 20 510000 7100000 (HCM b c1 co m ml r n) _ _ _ _ _
  refine A_aload_n dL_law_823 rfl rfl ?_
  refine A_aload_n dL_law_824 rfl rfl ?_
  refine A_iload_n dL_law_825 rfl rfl ?_
  refine A_iconst (v := 1) dL_law_826 (by decide) ?_
  refine A_iadd dL_law_827 ?_
  refine A_sld hX (ix_k hk hL (by decide)) dL_law_828 ?_
  refine WA_h HCM_sw ?_
  refine A_callVi dL_law_829 m_L_110 cb_X10_fair (As := [_]) rfl HM_at0 rfl (k_fair G h1) rfl ⟨by decide, by decide⟩ (Nat.le_of_ble_eq_true rfl) ⟨by omega, by omega⟩ (fun x1 h1 hq => ?_)
  obtain ⟨rfl, m1, ml1, rfl, hkm⟩ := hq
  refine A_icmp_eq 1444 dL_law_832 (by decide) (fun c832 => ?_) (fun c832 => ?_)
  · refine WA_h HCM_sw.symm ?_
    exact kk _ _ _ _ _ _ _ _ (hJ.keep hkc hkm) (by omega) (by omega)
  · exact absurd rfl c832
theorem op_24 (G : GX) (X : XC) {Qp : Option Value → AH → Prop} {sc L b k uc us : Nat} {xs : Nat → Int32} (hX : SCR X sc L xs) (hk : 6 * k + 6 ≤ L) (hL : L ≤ 3072) (hu : uc ≤ 500000 ∧ us ≤ 7000000) {c : CT} {co : Nat → Nat → Option Nat} {m : CT} {ml : Nat → Nat → Int64} {r : Nat → Option AE} {n : Nat} (hJ : LJ b c co m ml r n) (kk : LN X G Qp sc b k uc us) : LW X G Qp sc b k uc us 860 (HCM b c co m ml r n) := by
  obtain ⟨nv, nc, nf, nl, wk, L1, S, I, ow, hJ⟩ := hJ
  obtain ⟨h1, h2, h3, h4, h5, h6, h7, h8, h9⟩ := id hJ
  unfold LW
  refine A_aload_n dL_law_860 rfl rfl ?_
  refine A_aload_n dL_law_861 rfl rfl ?_
  refine A_iload_n dL_law_862 rfl rfl ?_
  refine A_iconst (v := 1) dL_law_863 (by decide) ?_
  refine A_iadd dL_law_864 ?_
  refine A_sld hX (ix_k hk hL (by decide)) dL_law_865 ?_
  refine A_aload_n dL_law_866 rfl rfl ?_
  refine A_iload_n dL_law_867 rfl rfl ?_
  refine A_iconst (v := 2) dL_law_868 (by decide) ?_
  refine A_iadd dL_law_869 ?_
  refine A_sld hX (ix_k hk hL (by decide)) dL_law_870 ?_
  unfold HCM
  refine A_callVi dL_law_871 m_L_115 cb_X9_owes (As := [_, _]) rfl HC_at0 rfl (c_owes G h1.ix h1.kx h2) rfl ⟨by decide, by decide⟩ (Nat.le_of_ble_eq_true rfl) ⟨by omega, by omega⟩ (fun x0 h0 hq => ?_)
  obtain ⟨rfl, c1, rfl, hkc⟩ := hq
  show WA X G RL cL_law false (some .boolean) Qp 20 510000 7100000 (HCM b c1 co m ml r n) _ _ _ _ _
  refine A_aload_n dL_law_874 rfl rfl ?_
  refine A_aload_n dL_law_875 rfl rfl ?_
  refine A_iload_n dL_law_876 rfl rfl ?_
  refine A_iconst (v := 1) dL_law_877 (by decide) ?_
  refine A_iadd dL_law_878 ?_
  refine A_sld hX (ix_k hk hL (by decide)) dL_law_879 ?_
  refine A_aload_n dL_law_880 rfl rfl ?_
  refine A_iload_n dL_law_881 rfl rfl ?_
  refine A_iconst (v := 2) dL_law_882 (by decide) ?_
  refine A_iadd dL_law_883 ?_
  refine A_sld hX (ix_k hk hL (by decide)) dL_law_884 ?_
  refine WA_h HCM_sw ?_
  refine A_callVi dL_law_885 m_L_118 cb_X10_owes (As := [_, _]) rfl HM_at0 rfl (k_owes G h1) rfl ⟨by decide, by decide⟩ (Nat.le_of_ble_eq_true rfl) ⟨by omega, by omega⟩ (fun x1 h1 hq => ?_)
  obtain ⟨rfl, m1, ml1, rfl, hkm⟩ := hq
  refine A_icmp_eq 1444 dL_law_888 (by decide) (fun c888 => ?_) (fun c888 => ?_)
  · refine WA_h HCM_sw.symm ?_
    exact kk _ _ _ _ _ _ _ _ (hJ.keep hkc hkm) (by omega) (by omega)
  · exact absurd rfl c888
theorem op_25 (G : GX) (X : XC) {Qp : Option Value → AH → Prop} {sc L b k uc us : Nat} {xs : Nat → Int32} (hX : SCR X sc L xs) (hk : 6 * k + 6 ≤ L) (hL : L ≤ 3072) (hu : uc ≤ 500000 ∧ us ≤ 7000000) {c : CT} {co : Nat → Nat → Option Nat} {m : CT} {ml : Nat → Nat → Int64} {r : Nat → Option AE} {n : Nat} (hJ : LJ b c co m ml r n) (kk : LN X G Qp sc b k uc us) : LW X G Qp sc b k uc us 893 (HCM b c co m ml r n) := by
  obtain ⟨nv, nc, nf, nl, wk, L1, S, I, ow, hJ⟩ := hJ
  obtain ⟨h1, h2, h3, h4, h5, h6, h7, h8, h9⟩ := id hJ
  unfold LW
  refine A_aload_n dL_law_893 rfl rfl ?_
  refine A_aload_n dL_law_894 rfl rfl ?_
  refine A_iload_n dL_law_895 rfl rfl ?_
  refine A_iconst (v := 1) dL_law_896 (by decide) ?_
  refine A_iadd dL_law_897 ?_
  refine A_sld hX (ix_k hk hL (by decide)) dL_law_898 ?_
  unfold HCM
  refine A_callVi dL_law_899 m_L_119 cb_X9_rings (As := [_]) rfl HC_at0 rfl (c_rings G h1.ix h1.kx h2) rfl ⟨by decide, by decide⟩ (Nat.le_of_ble_eq_true rfl) ⟨by omega, by omega⟩ (fun x0 h0 hq => ?_)
  obtain ⟨rfl, c1, rfl, hkc⟩ := hq
  show WA X G RL cL_law false (some .boolean) Qp 20 510000 7100000 (HCM b c1 co m ml r n) _ _ _ _ _
  refine A_aload_n dL_law_902 rfl rfl ?_
  refine A_aload_n dL_law_903 rfl rfl ?_
  refine A_iload_n dL_law_904 rfl rfl ?_
  refine A_iconst (v := 1) dL_law_905 (by decide) ?_
  refine A_iadd dL_law_906 ?_
  refine A_sld hX (ix_k hk hL (by decide)) dL_law_907 ?_
  refine WA_h HCM_sw ?_
  refine A_callVi dL_law_908 m_L_122 cb_X10_rings (As := [_]) rfl HM_at0 rfl (k_rings G h1) rfl ⟨by decide, by decide⟩ (Nat.le_of_ble_eq_true rfl) ⟨by omega, by omega⟩ (fun x1 h1 hq => ?_)
  obtain ⟨rfl, m1, ml1, rfl, hkm⟩ := hq
  refine A_icmp_eq 1444 dL_law_911 (by decide) (fun c911 => ?_) (fun c911 => ?_)
  · refine WA_h HCM_sw.symm ?_
    exact kk _ _ _ _ _ _ _ _ (hJ.keep hkc hkm) (by omega) (by omega)
  · exact absurd rfl c911
theorem op_26 (G : GX) (X : XC) {Qp : Option Value → AH → Prop} {sc L b k uc us : Nat} {xs : Nat → Int32} (hX : SCR X sc L xs) (hk : 6 * k + 6 ≤ L) (hL : L ≤ 3072) (hu : uc ≤ 500000 ∧ us ≤ 7000000) {c : CT} {co : Nat → Nat → Option Nat} {m : CT} {ml : Nat → Nat → Int64} {r : Nat → Option AE} {n : Nat} (hJ : LJ b c co m ml r n) (kk : LN X G Qp sc b k uc us) : LW X G Qp sc b k uc us 916 (HCM b c co m ml r n) := by
  obtain ⟨nv, nc, nf, nl, wk, L1, S, I, ow, hJ⟩ := hJ
  obtain ⟨h1, h2, h3, h4, h5, h6, h7, h8, h9⟩ := id hJ
  unfold LW
  refine A_aload_n dL_law_916 rfl rfl ?_
  refine A_aload_n dL_law_917 rfl rfl ?_
  refine A_iload_n dL_law_918 rfl rfl ?_
  refine A_iconst (v := 1) dL_law_919 (by decide) ?_
  refine A_iadd dL_law_920 ?_
  refine A_sld hX (ix_k hk hL (by decide)) dL_law_921 ?_
  unfold HCM
  refine A_callVi dL_law_922 m_L_123 cb_X9_ring (As := [_]) rfl HC_at0 rfl (c_ring G h1.ix h1.kx h2) rfl ⟨by decide, by decide⟩ (Nat.le_of_ble_eq_true rfl) ⟨by omega, by omega⟩ (fun x0 h0 hq => ?_)
  obtain ⟨rfl, c1, rfl, hkc⟩ := hq
  show WA X G RL cL_law false (some .boolean) Qp 20 510000 7100000 (HCM b c1 co m ml r n) _ _ _ _ _
  refine A_aload_n dL_law_925 rfl rfl ?_
  refine A_aload_n dL_law_926 rfl rfl ?_
  refine A_iload_n dL_law_927 rfl rfl ?_
  refine A_iconst (v := 1) dL_law_928 (by decide) ?_
  refine A_iadd dL_law_929 ?_
  refine A_sld hX (ix_k hk hL (by decide)) dL_law_930 ?_
  refine WA_h HCM_sw ?_
  refine A_callVi dL_law_931 m_L_126 cb_X10_ring (As := [_]) rfl HM_at0 rfl (k_ring G h1) rfl ⟨by decide, by decide⟩ (Nat.le_of_ble_eq_true rfl) ⟨by omega, by omega⟩ (fun x1 h1 hq => ?_)
  obtain ⟨rfl, m1, ml1, rfl, hkm⟩ := hq
  refine A_icmp_eq 1444 dL_law_934 (by decide) (fun c934 => ?_) (fun c934 => ?_)
  · refine WA_h HCM_sw.symm ?_
    exact kk _ _ _ _ _ _ _ _ (hJ.keep hkc hkm) (by omega) (by omega)
  · exact absurd rfl c934
theorem op_27 (G : GX) (X : XC) {Qp : Option Value → AH → Prop} {sc L b k uc us : Nat} {xs : Nat → Int32} (hX : SCR X sc L xs) (hk : 6 * k + 6 ≤ L) (hL : L ≤ 3072) (hu : uc ≤ 500000 ∧ us ≤ 7000000) {c : CT} {co : Nat → Nat → Option Nat} {m : CT} {ml : Nat → Nat → Int64} {r : Nat → Option AE} {n : Nat} (hJ : LJ b c co m ml r n) (kk : LN X G Qp sc b k uc us) : LW X G Qp sc b k uc us 939 (HCM b c co m ml r n) := by
  obtain ⟨nv, nc, nf, nl, wk, L1, S, I, ow, hJ⟩ := hJ
  obtain ⟨h1, h2, h3, h4, h5, h6, h7, h8, h9⟩ := id hJ
  unfold LW
  refine A_aload_n dL_law_939 rfl rfl ?_
  refine A_aload_n dL_law_940 rfl rfl ?_
  refine A_iload_n dL_law_941 rfl rfl ?_
  refine A_iconst (v := 1) dL_law_942 (by decide) ?_
  refine A_iadd dL_law_943 ?_
  refine A_sld hX (ix_k hk hL (by decide)) dL_law_944 ?_
  refine A_aload_n dL_law_945 rfl rfl ?_
  refine A_iload_n dL_law_946 rfl rfl ?_
  refine A_iconst (v := 2) dL_law_947 (by decide) ?_
  refine A_iadd dL_law_948 ?_
  refine A_sld hX (ix_k hk hL (by decide)) dL_law_949 ?_
  unfold HCM
  refine A_callVi dL_law_950 m_L_127 cb_X9_left (As := [_, _]) rfl HC_at0 rfl (c_left G h1.ix h1.kx h2) rfl ⟨by decide, by decide⟩ (Nat.le_of_ble_eq_true rfl) ⟨by omega, by omega⟩ (fun x0 h0 hq => ?_)
  obtain ⟨rfl, c1, rfl, hkc⟩ := hq
  show WA X G RL cL_law false (some .boolean) Qp 20 510000 7100000 (HCM b c1 co m ml r n) _ _ _ _ _
  refine A_aload_n dL_law_953 rfl rfl ?_
  refine A_aload_n dL_law_954 rfl rfl ?_
  refine A_iload_n dL_law_955 rfl rfl ?_
  refine A_iconst (v := 1) dL_law_956 (by decide) ?_
  refine A_iadd dL_law_957 ?_
  refine A_sld hX (ix_k hk hL (by decide)) dL_law_958 ?_
  refine A_aload_n dL_law_959 rfl rfl ?_
  refine A_iload_n dL_law_960 rfl rfl ?_
  refine A_iconst (v := 2) dL_law_961 (by decide) ?_
  refine A_iadd dL_law_962 ?_
  refine A_sld hX (ix_k hk hL (by decide)) dL_law_963 ?_
  refine WA_h HCM_sw ?_
  refine A_callVi dL_law_964 m_L_130 cb_X10_left (As := [_, _]) rfl HM_at0 rfl (k_left G h1) rfl ⟨by decide, by decide⟩ (Nat.le_of_ble_eq_true rfl) ⟨by omega, by omega⟩ (fun x1 h1 hq => ?_)
  obtain ⟨rfl, m1, ml1, rfl, hkm⟩ := hq
  refine A_icmp_eq 1444 dL_law_967 (by decide) (fun c967 => ?_) (fun c967 => ?_)
  · refine WA_h HCM_sw.symm ?_
    exact kk _ _ _ _ _ _ _ _ (hJ.keep hkc hkm) (by omega) (by omega)
  · exact absurd rfl c967
theorem op_28 (G : GX) (X : XC) {Qp : Option Value → AH → Prop} {sc L b k uc us : Nat} {xs : Nat → Int32} (hX : SCR X sc L xs) (hk : 6 * k + 6 ≤ L) (hL : L ≤ 3072) (hu : uc ≤ 500000 ∧ us ≤ 7000000) {c : CT} {co : Nat → Nat → Option Nat} {m : CT} {ml : Nat → Nat → Int64} {r : Nat → Option AE} {n : Nat} (hJ : LJ b c co m ml r n) (kk : LN X G Qp sc b k uc us) : LW X G Qp sc b k uc us 972 (HCM b c co m ml r n) := by
  obtain ⟨nv, nc, nf, nl, wk, L1, S, I, ow, hJ⟩ := hJ
  obtain ⟨h1, h2, h3, h4, h5, h6, h7, h8, h9⟩ := id hJ
  unfold LW
  refine A_aload_n dL_law_972 rfl rfl ?_
  refine A_aload_n dL_law_973 rfl rfl ?_
  refine A_iload_n dL_law_974 rfl rfl ?_
  refine A_iconst (v := 1) dL_law_975 (by decide) ?_
  refine A_iadd dL_law_976 ?_
  refine A_sld hX (ix_k hk hL (by decide)) dL_law_977 ?_
  refine A_aload_n dL_law_978 rfl rfl ?_
  refine A_iload_n dL_law_979 rfl rfl ?_
  refine A_iconst (v := 2) dL_law_980 (by decide) ?_
  refine A_iadd dL_law_981 ?_
  refine A_sld hX (ix_k hk hL (by decide)) dL_law_982 ?_
  unfold HCM
  refine A_callVi dL_law_983 m_L_131 cb_X9_struck (As := [_, _]) rfl HC_at0 rfl (c_struck G h1.ix h1.kx h2) rfl ⟨by decide, by decide⟩ (Nat.le_of_ble_eq_true rfl) ⟨by omega, by omega⟩ (fun x0 h0 hq => ?_)
  obtain ⟨rfl, c1, rfl, hkc⟩ := hq
  show WA X G RL cL_law false (some .boolean) Qp 20 510000 7100000 (HCM b c1 co m ml r n) _ _ _ _ _
  refine A_aload_n dL_law_986 rfl rfl ?_
  refine A_aload_n dL_law_987 rfl rfl ?_
  refine A_iload_n dL_law_988 rfl rfl ?_
  refine A_iconst (v := 1) dL_law_989 (by decide) ?_
  refine A_iadd dL_law_990 ?_
  refine A_sld hX (ix_k hk hL (by decide)) dL_law_991 ?_
  refine A_aload_n dL_law_992 rfl rfl ?_
  refine A_iload_n dL_law_993 rfl rfl ?_
  refine A_iconst (v := 2) dL_law_994 (by decide) ?_
  refine A_iadd dL_law_995 ?_
  refine A_sld hX (ix_k hk hL (by decide)) dL_law_996 ?_
  refine WA_h HCM_sw ?_
  refine A_callVi dL_law_997 m_L_134 cb_X10_struck (As := [_, _]) rfl HM_at0 rfl (k_struck G h1) rfl ⟨by decide, by decide⟩ (Nat.le_of_ble_eq_true rfl) ⟨by omega, by omega⟩ (fun x1 h1 hq => ?_)
  obtain ⟨rfl, m1, ml1, rfl, hkm⟩ := hq
  refine A_icmp_eq 1444 dL_law_1000 (by decide) (fun c1000 => ?_) (fun c1000 => ?_)
  · refine WA_h HCM_sw.symm ?_
    exact kk _ _ _ _ _ _ _ _ (hJ.keep hkc hkm) (by omega) (by omega)
  · exact absurd rfl c1000
theorem op_29 (G : GX) (X : XC) {Qp : Option Value → AH → Prop} {sc L b k uc us : Nat} {xs : Nat → Int32} (hX : SCR X sc L xs) (hk : 6 * k + 6 ≤ L) (hL : L ≤ 3072) (hu : uc ≤ 500000 ∧ us ≤ 7000000) {c : CT} {co : Nat → Nat → Option Nat} {m : CT} {ml : Nat → Nat → Int64} {r : Nat → Option AE} {n : Nat} (hJ : LJ b c co m ml r n) (kk : LN X G Qp sc b k uc us) : LW X G Qp sc b k uc us 1005 (HCM b c co m ml r n) := by
  obtain ⟨nv, nc, nf, nl, wk, L1, S, I, ow, hJ⟩ := hJ
  obtain ⟨h1, h2, h3, h4, h5, h6, h7, h8, h9⟩ := id hJ
  unfold LW
  refine A_aload_n dL_law_1005 rfl rfl ?_
  refine A_aload_n dL_law_1006 rfl rfl ?_
  refine A_iload_n dL_law_1007 rfl rfl ?_
  refine A_iconst (v := 1) dL_law_1008 (by decide) ?_
  refine A_iadd dL_law_1009 ?_
  refine A_sld hX (ix_k hk hL (by decide)) dL_law_1010 ?_
  refine A_aload_n dL_law_1011 rfl rfl ?_
  refine A_iload_n dL_law_1012 rfl rfl ?_
  refine A_iconst (v := 2) dL_law_1013 (by decide) ?_
  refine A_iadd dL_law_1014 ?_
  refine A_sld hX (ix_k hk hL (by decide)) dL_law_1015 ?_
  refine A_aload_n dL_law_1016 rfl rfl ?_
  refine A_iload_n dL_law_1017 rfl rfl ?_
  refine A_iconst (v := 3) dL_law_1018 (by decide) ?_
  refine A_iadd dL_law_1019 ?_
  refine A_sld hX (ix_k hk hL (by decide)) dL_law_1020 ?_
  unfold HCM
  refine A_callVi dL_law_1021 m_L_135 cb_X9_pays (As := [_, _, _]) rfl HC_at0 rfl (c_pays G h1.ix h1.kx h2) rfl ⟨by decide, by decide⟩ (Nat.le_of_ble_eq_true rfl) ⟨by omega, by omega⟩ (fun x0 h0 hq => ?_)
  obtain ⟨rfl, c1, rfl, hkc⟩ := hq
  show WA X G RL cL_law false (some .boolean) Qp 20 510000 7100000 (HCM b c1 co m ml r n) _ _ _ _ _
  refine A_aload_n dL_law_1024 rfl rfl ?_
  refine A_aload_n dL_law_1025 rfl rfl ?_
  refine A_iload_n dL_law_1026 rfl rfl ?_
  refine A_iconst (v := 1) dL_law_1027 (by decide) ?_
  refine A_iadd dL_law_1028 ?_
  refine A_sld hX (ix_k hk hL (by decide)) dL_law_1029 ?_
  refine A_aload_n dL_law_1030 rfl rfl ?_
  refine A_iload_n dL_law_1031 rfl rfl ?_
  refine A_iconst (v := 2) dL_law_1032 (by decide) ?_
  refine A_iadd dL_law_1033 ?_
  refine A_sld hX (ix_k hk hL (by decide)) dL_law_1034 ?_
  refine A_aload_n dL_law_1035 rfl rfl ?_
  refine A_iload_n dL_law_1036 rfl rfl ?_
  refine A_iconst (v := 3) dL_law_1037 (by decide) ?_
  refine A_iadd dL_law_1038 ?_
  refine A_sld hX (ix_k hk hL (by decide)) dL_law_1039 ?_
  refine WA_h HCM_sw ?_
  refine A_callVi dL_law_1040 m_L_138 cb_X10_pays (As := [_, _, _]) rfl HM_at0 rfl (k_pays G h1) rfl ⟨by decide, by decide⟩ (Nat.le_of_ble_eq_true rfl) ⟨by omega, by omega⟩ (fun x1 h1 hq => ?_)
  obtain ⟨rfl, m1, ml1, rfl, hkm⟩ := hq
  refine A_icmp_eq 1444 dL_law_1043 (by decide) (fun c1043 => ?_) (fun c1043 => ?_)
  · refine WA_h HCM_sw.symm ?_
    exact kk _ _ _ _ _ _ _ _ (hJ.keep hkc hkm) (by omega) (by omega)
  · exact absurd rfl c1043
theorem op_30 (G : GX) (X : XC) {Qp : Option Value → AH → Prop} {sc L b k uc us : Nat} {xs : Nat → Int32} (hX : SCR X sc L xs) (hk : 6 * k + 6 ≤ L) (hL : L ≤ 3072) (hu : uc ≤ 500000 ∧ us ≤ 7000000) {c : CT} {co : Nat → Nat → Option Nat} {m : CT} {ml : Nat → Nat → Int64} {r : Nat → Option AE} {n : Nat} (hJ : LJ b c co m ml r n) (kk : LN X G Qp sc b k uc us) : LW X G Qp sc b k uc us 1048 (HCM b c co m ml r n) := by
  obtain ⟨nv, nc, nf, nl, wk, L1, S, I, ow, hJ⟩ := hJ
  obtain ⟨h1, h2, h3, h4, h5, h6, h7, h8, h9⟩ := id hJ
  unfold LW
  refine A_aload_n dL_law_1048 rfl rfl ?_
  unfold HCM
  refine A_callVi dL_law_1049 m_L_139 cb_X9_law (As := []) rfl HC_at0 rfl (c_law G h1.ix h1.kx h2) rfl ⟨by decide, by decide⟩ (Nat.le_of_ble_eq_true rfl) ⟨by omega, by omega⟩ (fun x0 h0 hq => ?_)
  obtain ⟨rfl, c1, rfl, hkc⟩ := hq
  show WA X G RL cL_law false (some .boolean) Qp 20 510000 7100000 (HCM b c1 co m ml r n) _ _ _ _ _
  refine A_aload_n dL_law_1052 rfl rfl ?_
  refine WA_h HCM_sw ?_
  refine A_callVi dL_law_1053 m_L_142 cb_X10_law (As := []) rfl HM_at0 rfl (k_law G h1) rfl ⟨by decide, by decide⟩ (Nat.le_of_ble_eq_true rfl) ⟨by omega, by omega⟩ (fun x1 h1 hq => ?_)
  obtain ⟨rfl, m1, ml1, rfl, hkm⟩ := hq
  refine A_icmp_eq 1444 dL_law_1056 (by decide) (fun c1056 => ?_) (fun c1056 => ?_)
  · refine WA_h HCM_sw.symm ?_
    exact kk _ _ _ _ _ _ _ _ (hJ.keep hkc hkm) (by omega) (by omega)
  · exact absurd rfl c1056
theorem op_31 (G : GX) (X : XC) {Qp : Option Value → AH → Prop} {sc L b k uc us : Nat} {xs : Nat → Int32} (hX : SCR X sc L xs) (hk : 6 * k + 6 ≤ L) (hL : L ≤ 3072) (hu : uc ≤ 500000 ∧ us ≤ 7000000) {c : CT} {co : Nat → Nat → Option Nat} {m : CT} {ml : Nat → Nat → Int64} {r : Nat → Option AE} {n : Nat} (hJ : LJ b c co m ml r n) (kk : LN X G Qp sc b k uc us) : LW X G Qp sc b k uc us 1061 (HCM b c co m ml r n) := by
  obtain ⟨nv, nc, nf, nl, wk, L1, S, I, ow, hJ⟩ := hJ
  obtain ⟨h1, h2, h3, h4, h5, h6, h7, h8, h9⟩ := id hJ
  unfold LW
  refine A_aload_n dL_law_1061 rfl rfl ?_
  refine A_aload_n dL_law_1062 rfl rfl ?_
  refine A_iload_n dL_law_1063 rfl rfl ?_
  refine A_iconst (v := 1) dL_law_1064 (by decide) ?_
  refine A_iadd dL_law_1065 ?_
  refine A_sld hX (ix_k hk hL (by decide)) dL_law_1066 ?_
  unfold HCM
  refine A_callVi dL_law_1067 m_L_143 cb_X9_melons (As := [_]) rfl HC_at0 rfl (c_melons G h1.ix h1.kx h2) rfl ⟨by decide, by decide⟩ (Nat.le_of_ble_eq_true rfl) ⟨by omega, by omega⟩ (fun x0 h0 hq => ?_)
  obtain ⟨rfl, c1, rfl, hkc⟩ := hq
  show WA X G RL cL_law false (some .boolean) Qp 20 510000 7100000 (HCM b c1 co m ml r n) _ _ _ _ _
  refine A_aload_n dL_law_1070 rfl rfl ?_
  refine A_aload_n dL_law_1071 rfl rfl ?_
  refine A_iload_n dL_law_1072 rfl rfl ?_
  refine A_iconst (v := 1) dL_law_1073 (by decide) ?_
  refine A_iadd dL_law_1074 ?_
  refine A_sld hX (ix_k hk hL (by decide)) dL_law_1075 ?_
  refine WA_h HCM_sw ?_
  refine A_callVi dL_law_1076 m_L_146 cb_X10_melons (As := [_]) rfl HM_at0 rfl (k_melons G h1) rfl ⟨by decide, by decide⟩ (Nat.le_of_ble_eq_true rfl) ⟨by omega, by omega⟩ (fun x1 h1 hq => ?_)
  obtain ⟨rfl, m1, ml1, rfl, hkm⟩ := hq
  refine A_icmp_eq 1444 dL_law_1079 (by decide) (fun c1079 => ?_) (fun c1079 => ?_)
  · refine WA_h HCM_sw.symm ?_
    exact kk _ _ _ _ _ _ _ _ (hJ.keep hkc hkm) (by omega) (by omega)
  · exact absurd rfl c1079
theorem op_32 (G : GX) (X : XC) {Qp : Option Value → AH → Prop} {sc L b k uc us : Nat} {xs : Nat → Int32} (hX : SCR X sc L xs) (hk : 6 * k + 6 ≤ L) (hL : L ≤ 3072) (hu : uc ≤ 500000 ∧ us ≤ 7000000) {c : CT} {co : Nat → Nat → Option Nat} {m : CT} {ml : Nat → Nat → Int64} {r : Nat → Option AE} {n : Nat} (hJ : LJ b c co m ml r n) (kk : LN X G Qp sc b k uc us) : LW X G Qp sc b k uc us 1084 (HCM b c co m ml r n) := by
  obtain ⟨nv, nc, nf, nl, wk, L1, S, I, ow, hJ⟩ := hJ
  obtain ⟨h1, h2, h3, h4, h5, h6, h7, h8, h9⟩ := id hJ
  unfold LW
  refine A_aload_n dL_law_1084 rfl rfl ?_
  refine A_aload_n dL_law_1085 rfl rfl ?_
  refine A_iload_n dL_law_1086 rfl rfl ?_
  refine A_iconst (v := 1) dL_law_1087 (by decide) ?_
  refine A_iadd dL_law_1088 ?_
  refine A_sld hX (ix_k hk hL (by decide)) dL_law_1089 ?_
  unfold HCM
  refine A_callVi dL_law_1090 m_L_147 cb_X9_share (As := [_]) rfl HC_at0 rfl (c_share G h1.ix) rfl ⟨by decide, by decide⟩ (Nat.le_of_ble_eq_true rfl) ⟨by omega, by omega⟩ (fun x0 h0 hq => ?_)
  obtain ⟨rfl, rfl⟩ := hq
  show WA X G RL cL_law false (some .boolean) Qp 20 510000 7100000 (HCM b c co m ml r n) _ _ _ _ _
  refine A_aload_n dL_law_1093 rfl rfl ?_
  refine A_aload_n dL_law_1094 rfl rfl ?_
  refine A_iload_n dL_law_1095 rfl rfl ?_
  refine A_iconst (v := 1) dL_law_1096 (by decide) ?_
  refine A_iadd dL_law_1097 ?_
  refine A_sld hX (ix_k hk hL (by decide)) dL_law_1098 ?_
  refine WA_h HCM_sw ?_
  refine A_callVi dL_law_1099 m_L_150 cb_X10_share (As := [_]) rfl HM_at0 rfl (k_share G h1) rfl ⟨by decide, by decide⟩ (Nat.le_of_ble_eq_true rfl) ⟨by omega, by omega⟩ (fun x1 h1 hq => ?_)
  obtain ⟨rfl, rfl⟩ := hq
  refine A_icmp_eq 1444 dL_law_1102 (by decide) (fun c1102 => ?_) (fun c1102 => ?_)
  · refine WA_h HCM_sw.symm ?_
    exact kk _ _ _ _ _ _ _ _ hJ.lj (by omega) (by omega)
  · exact absurd rfl c1102
theorem op_33 (G : GX) (X : XC) {Qp : Option Value → AH → Prop} {sc L b k uc us : Nat} {xs : Nat → Int32} (hX : SCR X sc L xs) (hk : 6 * k + 6 ≤ L) (hL : L ≤ 3072) (hu : uc ≤ 500000 ∧ us ≤ 7000000) {c : CT} {co : Nat → Nat → Option Nat} {m : CT} {ml : Nat → Nat → Int64} {r : Nat → Option AE} {n : Nat} (hJ : LJ b c co m ml r n) (kk : LN X G Qp sc b k uc us) : LW X G Qp sc b k uc us 1107 (HCM b c co m ml r n) := by
  obtain ⟨nv, nc, nf, nl, wk, L1, S, I, ow, hJ⟩ := hJ
  obtain ⟨h1, h2, h3, h4, h5, h6, h7, h8, h9⟩ := id hJ
  unfold LW
  refine A_aload_n dL_law_1107 rfl rfl ?_
  refine A_aload_n dL_law_1108 rfl rfl ?_
  refine A_iload_n dL_law_1109 rfl rfl ?_
  refine A_iconst (v := 1) dL_law_1110 (by decide) ?_
  refine A_iadd dL_law_1111 ?_
  refine A_sld hX (ix_k hk hL (by decide)) dL_law_1112 ?_
  unfold HCM
  refine A_callVi dL_law_1113 m_L_151 cb_X9_enough (As := [_]) rfl HC_at0 rfl (c_enough G h1.ix h1.kx h2 (enP h1)) rfl ⟨by decide, by decide⟩ (Nat.le_of_ble_eq_true rfl) ⟨by omega, by omega⟩ (fun x0 h0 hq => ?_)
  obtain ⟨rfl, c1, rfl, hkc⟩ := hq
  show WA X G RL cL_law false (some .boolean) Qp 20 510000 7100000 (HCM b c1 co m ml r n) _ _ _ _ _
  refine A_aload_n dL_law_1116 rfl rfl ?_
  refine A_aload_n dL_law_1117 rfl rfl ?_
  refine A_iload_n dL_law_1118 rfl rfl ?_
  refine A_iconst (v := 1) dL_law_1119 (by decide) ?_
  refine A_iadd dL_law_1120 ?_
  refine A_sld hX (ix_k hk hL (by decide)) dL_law_1121 ?_
  refine WA_h HCM_sw ?_
  refine A_callVi dL_law_1122 m_L_154 cb_X10_enough (As := [_]) rfl HM_at0 rfl (k_enough G h1) rfl ⟨by decide, by decide⟩ (Nat.le_of_ble_eq_true rfl) ⟨by omega, by omega⟩ (fun x1 h1 hq => ?_)
  obtain ⟨rfl, m1, ml1, rfl, hkm⟩ := hq
  refine A_icmp_eq 1444 dL_law_1125 (by decide) (fun c1125 => ?_) (fun c1125 => ?_)
  · refine WA_h HCM_sw.symm ?_
    exact kk _ _ _ _ _ _ _ _ (hJ.keep hkc hkm) (by omega) (by omega)
  · exact absurd rfl c1125
theorem op_34 (G : GX) (X : XC) {Qp : Option Value → AH → Prop} {sc L b k uc us : Nat} {xs : Nat → Int32} (hX : SCR X sc L xs) (hk : 6 * k + 6 ≤ L) (hL : L ≤ 3072) (hu : uc ≤ 500000 ∧ us ≤ 7000000) {c : CT} {co : Nat → Nat → Option Nat} {m : CT} {ml : Nat → Nat → Int64} {r : Nat → Option AE} {n : Nat} (hJ : LJ b c co m ml r n) (kk : LN X G Qp sc b k uc us) : LW X G Qp sc b k uc us 1130 (HCM b c co m ml r n) := by
  obtain ⟨nv, nc, nf, nl, wk, L1, S, I, ow, hJ⟩ := hJ
  obtain ⟨h1, h2, h3, h4, h5, h6, h7, h8, h9⟩ := id hJ
  unfold LW
  refine A_aload_n dL_law_1130 rfl rfl ?_
  refine A_aload_n dL_law_1131 rfl rfl ?_
  refine A_iload_n dL_law_1132 rfl rfl ?_
  refine A_iconst (v := 1) dL_law_1133 (by decide) ?_
  refine A_iadd dL_law_1134 ?_
  refine A_sld hX (ix_k hk hL (by decide)) dL_law_1135 ?_
  refine A_aload_n dL_law_1136 rfl rfl ?_
  refine A_iload_n dL_law_1137 rfl rfl ?_
  refine A_iconst (v := 2) dL_law_1138 (by decide) ?_
  refine A_iadd dL_law_1139 ?_
  refine A_sld hX (ix_k hk hL (by decide)) dL_law_1140 ?_
  unfold HCM
  refine A_callVi dL_law_1141 m_L_155 cb_X9_year (As := [_, _]) rfl HC_at0 rfl (c_year G h1.ix h1.kx h2) rfl ⟨by decide, by decide⟩ (Nat.le_of_ble_eq_true rfl) ⟨by omega, by omega⟩ (fun x0 h0 hq => ?_)
  obtain ⟨rfl, c1, rfl, hkc⟩ := hq
  show WA X G RL cL_law false (some .boolean) Qp 20 510000 7100000 (HCM b c1 co m ml r n) _ _ _ _ _
  refine A_aload_n dL_law_1144 rfl rfl ?_
  refine A_aload_n dL_law_1145 rfl rfl ?_
  refine A_iload_n dL_law_1146 rfl rfl ?_
  refine A_iconst (v := 1) dL_law_1147 (by decide) ?_
  refine A_iadd dL_law_1148 ?_
  refine A_sld hX (ix_k hk hL (by decide)) dL_law_1149 ?_
  refine A_aload_n dL_law_1150 rfl rfl ?_
  refine A_iload_n dL_law_1151 rfl rfl ?_
  refine A_iconst (v := 2) dL_law_1152 (by decide) ?_
  refine A_iadd dL_law_1153 ?_
  refine A_sld hX (ix_k hk hL (by decide)) dL_law_1154 ?_
  refine WA_h HCM_sw ?_
  refine A_callVi dL_law_1155 m_L_158 cb_X10_year_ (As := [_, _]) rfl HM_at0 rfl (k_year_ G h1) rfl ⟨by decide, by decide⟩ (Nat.le_of_ble_eq_true rfl) ⟨by omega, by omega⟩ (fun x1 h1 hq => ?_)
  obtain ⟨rfl, m1, ml1, rfl, hkm⟩ := hq
  refine A_icmp_eq 1444 dL_law_1158 (by decide) (fun c1158 => ?_) (fun c1158 => ?_)
  · refine WA_h HCM_sw.symm ?_
    exact kk _ _ _ _ _ _ _ _ (hJ.keep hkc hkm) (by omega) (by omega)
  · exact absurd rfl c1158
theorem op_35 (G : GX) (X : XC) {Qp : Option Value → AH → Prop} {sc L b k uc us : Nat} {xs : Nat → Int32} (hX : SCR X sc L xs) (hk : 6 * k + 6 ≤ L) (hL : L ≤ 3072) (hu : uc ≤ 500000 ∧ us ≤ 7000000) {c : CT} {co : Nat → Nat → Option Nat} {m : CT} {ml : Nat → Nat → Int64} {r : Nat → Option AE} {n : Nat} (hJ : LJ b c co m ml r n) (kk : LN X G Qp sc b k uc us) : LW X G Qp sc b k uc us 1163 (HCM b c co m ml r n) := by
  obtain ⟨nv, nc, nf, nl, wk, L1, S, I, ow, hJ⟩ := hJ
  obtain ⟨h1, h2, h3, h4, h5, h6, h7, h8, h9⟩ := id hJ
  unfold LW
  refine A_aload_n dL_law_1163 rfl rfl ?_
  refine A_aload_n dL_law_1164 rfl rfl ?_
  refine A_iload_n dL_law_1165 rfl rfl ?_
  refine A_iconst (v := 1) dL_law_1166 (by decide) ?_
  refine A_iadd dL_law_1167 ?_
  refine A_sld hX (ix_k hk hL (by decide)) dL_law_1168 ?_
  refine A_aload_n dL_law_1169 rfl rfl ?_
  refine A_iload_n dL_law_1170 rfl rfl ?_
  refine A_iconst (v := 2) dL_law_1171 (by decide) ?_
  refine A_iadd dL_law_1172 ?_
  refine A_sld hX (ix_k hk hL (by decide)) dL_law_1173 ?_
  unfold HCM
  refine A_callVi dL_law_1174 m_L_159 cb_X9_years (As := [_, _]) rfl HC_at0 rfl (c_years G h1.ix h1.kx h2) rfl ⟨by decide, by decide⟩ (Nat.le_of_ble_eq_true rfl) ⟨by omega, by omega⟩ (fun x0 h0 hq => ?_)
  obtain ⟨rfl, c1, rfl, hkc⟩ := hq
  show WA X G RL cL_law false (some .boolean) Qp 20 510000 7100000 (HCM b c1 co m ml r n) _ _ _ _ _
  refine A_aload_n dL_law_1177 rfl rfl ?_
  refine A_aload_n dL_law_1178 rfl rfl ?_
  refine A_iload_n dL_law_1179 rfl rfl ?_
  refine A_iconst (v := 1) dL_law_1180 (by decide) ?_
  refine A_iadd dL_law_1181 ?_
  refine A_sld hX (ix_k hk hL (by decide)) dL_law_1182 ?_
  refine A_aload_n dL_law_1183 rfl rfl ?_
  refine A_iload_n dL_law_1184 rfl rfl ?_
  refine A_iconst (v := 2) dL_law_1185 (by decide) ?_
  refine A_iadd dL_law_1186 ?_
  refine A_sld hX (ix_k hk hL (by decide)) dL_law_1187 ?_
  refine WA_h HCM_sw ?_
  refine A_callVi dL_law_1188 m_L_162 cb_X10_years (As := [_, _]) rfl HM_at0 rfl (k_years G h1) rfl ⟨by decide, by decide⟩ (Nat.le_of_ble_eq_true rfl) ⟨by omega, by omega⟩ (fun x1 h1 hq => ?_)
  obtain ⟨rfl, m1, ml1, rfl, hkm⟩ := hq
  refine A_icmp_eq 1444 dL_law_1191 (by decide) (fun c1191 => ?_) (fun c1191 => ?_)
  · refine WA_h HCM_sw.symm ?_
    exact kk _ _ _ _ _ _ _ _ (hJ.keep hkc hkm) (by omega) (by omega)
  · exact absurd rfl c1191
theorem op_36 (G : GX) (X : XC) {Qp : Option Value → AH → Prop} {sc L b k uc us : Nat} {xs : Nat → Int32} (hX : SCR X sc L xs) (hk : 6 * k + 6 ≤ L) (hL : L ≤ 3072) (hu : uc ≤ 500000 ∧ us ≤ 7000000) {c : CT} {co : Nat → Nat → Option Nat} {m : CT} {ml : Nat → Nat → Int64} {r : Nat → Option AE} {n : Nat} (hJ : LJ b c co m ml r n) (kk : LN X G Qp sc b k uc us) : LW X G Qp sc b k uc us 1196 (HCM b c co m ml r n) := by
  obtain ⟨nv, nc, nf, nl, wk, L1, S, I, ow, hJ⟩ := hJ
  obtain ⟨h1, h2, h3, h4, h5, h6, h7, h8, h9⟩ := id hJ
  unfold LW
  refine A_aload_n dL_law_1196 rfl rfl ?_
  refine A_aload_n dL_law_1197 rfl rfl ?_
  refine A_iload_n dL_law_1198 rfl rfl ?_
  refine A_iconst (v := 1) dL_law_1199 (by decide) ?_
  refine A_iadd dL_law_1200 ?_
  refine A_sld hX (ix_k hk hL (by decide)) dL_law_1201 ?_
  unfold HCM
  refine A_callVi dL_law_1202 m_L_163 cb_X9_count (As := [_]) rfl HC_at0 rfl (c_count G) rfl ⟨by decide, by decide⟩ (Nat.le_of_ble_eq_true rfl) ⟨by omega, by omega⟩ (fun x0 h0 hq => ?_)
  obtain ⟨rfl, rfl⟩ := hq
  show WA X G RL cL_law false (some .boolean) Qp 20 510000 7100000 (HCM b c co m ml r n) _ _ _ _ _
  refine A_aload_n dL_law_1205 rfl rfl ?_
  refine A_aload_n dL_law_1206 rfl rfl ?_
  refine A_iload_n dL_law_1207 rfl rfl ?_
  refine A_iconst (v := 1) dL_law_1208 (by decide) ?_
  refine A_iadd dL_law_1209 ?_
  refine A_sld hX (ix_k hk hL (by decide)) dL_law_1210 ?_
  refine WA_h HCM_sw ?_
  refine A_callVi dL_law_1211 m_L_166 cb_X10_count (As := [_]) rfl HM_at0 rfl (k_count G h1 (h5.sn h6) (h3.1.trans h3.2.2.1.symm)) rfl ⟨by decide, by decide⟩ (Nat.le_of_ble_eq_true rfl) ⟨by omega, by omega⟩ (fun x1 h1 hq => ?_)
  obtain ⟨rfl, rfl⟩ := hq
  refine A_icmp_eq 1444 dL_law_1214 (by decide) (fun c1214 => ?_) (fun c1214 => ?_)
  · refine WA_h HCM_sw.symm ?_
    exact kk _ _ _ _ _ _ _ _ hJ.lj (by omega) (by omega)
  · exact absurd rfl c1214