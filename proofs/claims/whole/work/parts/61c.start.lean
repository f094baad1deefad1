section ZST0
variable (tA : Nat → ClassId) (b W H : Nat)
theorem sf_12 : lawW tA b W H 12 = zW tA b (sh0 W H) (m0 W H) 12 := (lw_sc tA b W H (s := 0) (i := 0) (by decide) (by decide) zsF_0).trans rfl
theorem sf_15 : lawW tA b W H 15 = zW tA b (sh0 W H) (m0 W H) 15 := (lw_sc tA b W H (s := 0) (i := 3) (by decide) (by decide) (zsF_lo (rfl : (zsB tA b (12 + 370 * 0))[3]? = some _) (by decide) (by decide) (by decide) (by decide) (by decide) (by decide) (by decide))).trans rfl
theorem sf_16 : lawW tA b W H 16 = zW tA b (sh0 W H) (m0 W H) 16 := (lw_sc tA b W H (s := 0) (i := 4) (by decide) (by decide) (zsF_lo (rfl : (zsB tA b (12 + 370 * 0))[4]? = some _) (by decide) (by decide) (by decide) (by decide) (by decide) (by decide) (by decide))).trans rfl
theorem sf_17 : lawW tA b W H 17 = zW tA b (sh0 W H) (m0 W H) 17 := (lw_sc tA b W H (s := 0) (i := 5) (by decide) (by decide) (zsF_lo (rfl : (zsB tA b (12 + 370 * 0))[5]? = some _) (by decide) (by decide) (by decide) (by decide) (by decide) (by decide) (by decide))).trans rfl
theorem sf_18 : lawW tA b W H 18 = zW tA b (sh0 W H) (m0 W H) 18 := (lw_sc tA b W H (s := 0) (i := 6) (by decide) (by decide) (zsF_lo (rfl : (zsB tA b (12 + 370 * 0))[6]? = some _) (by decide) (by decide) (by decide) (by decide) (by decide) (by decide) (by decide))).trans rfl
theorem sf_19 : lawW tA b W H 19 = zW tA b (sh0 W H) (m0 W H) 19 := (lw_sc tA b W H (s := 0) (i := 7) (by decide) (by decide) (zsF_lo (rfl : (zsB tA b (12 + 370 * 0))[7]? = some _) (by decide) (by decide) (by decide) (by decide) (by decide) (by decide) (by decide))).trans rfl
theorem sf_20 : lawW tA b W H 20 = zW tA b (sh0 W H) (m0 W H) 20 := (lw_sc tA b W H (s := 0) (i := 8) (by decide) (by decide) (zsF_lo (rfl : (zsB tA b (12 + 370 * 0))[8]? = some _) (by decide) (by decide) (by decide) (by decide) (by decide) (by decide) (by decide))).trans rfl
theorem sf_21 : lawW tA b W H 21 = zW tA b (sh0 W H) (m0 W H) 21 := (lw_sc tA b W H (s := 0) (i := 9) (by decide) (by decide) (zsF_lo (rfl : (zsB tA b (12 + 370 * 0))[9]? = some _) (by decide) (by decide) (by decide) (by decide) (by decide) (by decide) (by decide))).trans rfl
theorem sf_22 : lawW tA b W H 22 = zW tA b (sh0 W H) (m0 W H) 22 := (lw_sc tA b W H (s := 0) (i := 10) (by decide) (by decide) (zsF_lo (rfl : (zsB tA b (12 + 370 * 0))[10]? = some _) (by decide) (by decide) (by decide) (by decide) (by decide) (by decide) (by decide))).trans rfl
theorem sf_23 : lawW tA b W H 23 = zW tA b (sh0 W H) (m0 W H) 23 := (lw_sc tA b W H (s := 0) (i := 11) (by decide) (by decide) (zsF_lo (rfl : (zsB tA b (12 + 370 * 0))[11]? = some _) (by decide) (by decide) (by decide) (by decide) (by decide) (by decide) (by decide))).trans rfl
theorem sf_24 : lawW tA b W H 24 = zW tA b (sh0 W H) (m0 W H) 24 := (lw_sc tA b W H (s := 0) (i := 12) (by decide) (by decide) (zsF_lo (rfl : (zsB tA b (12 + 370 * 0))[12]? = some _) (by decide) (by decide) (by decide) (by decide) (by decide) (by decide) (by decide))).trans rfl
theorem sf_25 : lawW tA b W H 25 = zW tA b (sh0 W H) (m0 W H) 25 := (lw_sc tA b W H (s := 0) (i := 13) (by decide) (by decide) (zsF_lo (rfl : (zsB tA b (12 + 370 * 0))[13]? = some _) (by decide) (by decide) (by decide) (by decide) (by decide) (by decide) (by decide))).trans rfl
theorem sf_26 : lawW tA b W H 26 = zW tA b (sh0 W H) (m0 W H) 26 := (lw_sc tA b W H (s := 0) (i := 14) (by decide) (by decide) (zsF_lo (rfl : (zsB tA b (12 + 370 * 0))[14]? = some _) (by decide) (by decide) (by decide) (by decide) (by decide) (by decide) (by decide))).trans rfl
theorem sf_27 : lawW tA b W H 27 = zW tA b (sh0 W H) (m0 W H) 27 := (lw_sc tA b W H (s := 0) (i := 15) (by decide) (by decide) (zsF_lo (rfl : (zsB tA b (12 + 370 * 0))[15]? = some _) (by decide) (by decide) (by decide) (by decide) (by decide) (by decide) (by decide))).trans rfl
theorem sf_28 : lawW tA b W H 28 = zW tA b (sh0 W H) (m0 W H) 28 := (lw_sc tA b W H (s := 0) (i := 16) (by decide) (by decide) (zsF_lo (rfl : (zsB tA b (12 + 370 * 0))[16]? = some _) (by decide) (by decide) (by decide) (by decide) (by decide) (by decide) (by decide))).trans rfl
theorem sf_29 : lawW tA b W H 29 = zW tA b (sh0 W H) (m0 W H) 29 := (lw_sc tA b W H (s := 0) (i := 17) (by decide) (by decide) (zsF_lo (rfl : (zsB tA b (12 + 370 * 0))[17]? = some _) (by decide) (by decide) (by decide) (by decide) (by decide) (by decide) (by decide))).trans rfl
theorem sf_30 : lawW tA b W H 30 = zW tA b (sh0 W H) (m0 W H) 30 := (lw_sc tA b W H (s := 0) (i := 18) (by decide) (by decide) (zsF_lo (rfl : (zsB tA b (12 + 370 * 0))[18]? = some _) (by decide) (by decide) (by decide) (by decide) (by decide) (by decide) (by decide))).trans rfl
theorem sf_34 : lawW tA b W H 34 = zW tA b (sh0 W H) (m0 W H) 34 := (lw_sc tA b W H (s := 0) (i := 22) (by decide) (by decide) zsF_22).trans rfl
theorem sf_35 : lawW tA b W H 35 = zW tA b (sh0 W H) (m0 W H) 35 := (lw_sc tA b W H (s := 0) (i := 23) (by decide) (by decide) zsF_23).trans rfl
theorem sf_36 : lawW tA b W H 36 = zW tA b (sh0 W H) (m0 W H) 36 := (lw_sc tA b W H (s := 0) (i := 24) (by decide) (by decide) (zsF_lo (rfl : (zsB tA b (12 + 370 * 0))[24]? = some _) (by decide) (by decide) (by decide) (by decide) (by decide) (by decide) (by decide))).trans rfl
theorem stf_0 : ∀ j, j < 25 → lawW tA b W H (12 + j) = zW tA b (sh0 W H) (m0 W H) (12 + j) := by
  intro j hj
  match j, hj with
  | 0, _ => exact sf_12 tA b W H
  | 1, _ => exact st_13 tA b W H
  | 2, _ => exact st_14 tA b W H
  | 3, _ => exact sf_15 tA b W H
  | 4, _ => exact sf_16 tA b W H
  | 5, _ => exact sf_17 tA b W H
  | 6, _ => exact sf_18 tA b W H
  | 7, _ => exact sf_19 tA b W H
  | 8, _ => exact sf_20 tA b W H
  | 9, _ => exact sf_21 tA b W H
  | 10, _ => exact sf_22 tA b W H
  | 11, _ => exact sf_23 tA b W H
  | 12, _ => exact sf_24 tA b W H
  | 13, _ => exact sf_25 tA b W H
  | 14, _ => exact sf_26 tA b W H
  | 15, _ => exact sf_27 tA b W H
  | 16, _ => exact sf_28 tA b W H
  | 17, _ => exact sf_29 tA b W H
  | 18, _ => exact sf_30 tA b W H
  | 19, _ => exact st_31 tA b W H
  | 20, _ => exact st_32 tA b W H
  | 21, _ => exact st_33 tA b W H
  | 22, _ => exact sf_34 tA b W H
  | 23, _ => exact sf_35 tA b W H
  | 24, _ => exact sf_36 tA b W H
  | j + 25, h => exact absurd h (by omega)
theorem sf_382 : lawW tA b W H 382 = zW tA b (sh0 W H) (m0 W H) 382 := (lw_sc tA b W H (s := 1) (i := 0) (by decide) (by decide) zsF_0).trans rfl
theorem sf_385 : lawW tA b W H 385 = zW tA b (sh0 W H) (m0 W H) 385 := (lw_sc tA b W H (s := 1) (i := 3) (by decide) (by decide) (zsF_lo (rfl : (zsB tA b (12 + 370 * 1))[3]? = some _) (by decide) (by decide) (by decide) (by decide) (by decide) (by decide) (by decide))).trans rfl
theorem sf_386 : lawW tA b W H 386 = zW tA b (sh0 W H) (m0 W H) 386 := (lw_sc tA b W H (s := 1) (i := 4) (by decide) (by decide) (zsF_lo (rfl : (zsB tA b (12 + 370 * 1))[4]? = some _) (by decide) (by decide) (by decide) (by decide) (by decide) (by decide) (by decide))).trans rfl
theorem sf_387 : lawW tA b W H 387 = zW tA b (sh0 W H) (m0 W H) 387 := (lw_sc tA b W H (s := 1) (i := 5) (by decide) (by decide) (zsF_lo (rfl : (zsB tA b (12 + 370 * 1))[5]? = some _) (by decide) (by decide) (by decide) (by decide) (by decide) (by decide) (by decide))).trans rfl
theorem sf_388 : lawW tA b W H 388 = zW tA b (sh0 W H) (m0 W H) 388 := (lw_sc tA b W H (s := 1) (i := 6) (by decide) (by decide) (zsF_lo (rfl : (zsB tA b (12 + 370 * 1))[6]? = some _) (by decide) (by decide) (by decide) (by decide) (by decide) (by decide) (by decide))).trans rfl
theorem sf_389 : lawW tA b W H 389 = zW tA b (sh0 W H) (m0 W H) 389 := (lw_sc tA b W H (s := 1) (i := 7) (by decide) (by decide) (zsF_lo (rfl : (zsB tA b (12 + 370 * 1))[7]? = some _) (by decide) (by decide) (by decide) (by decide) (by decide) (by decide) (by decide))).trans rfl
theorem sf_390 : lawW tA b W H 390 = zW tA b (sh0 W H) (m0 W H) 390 := (lw_sc tA b W H (s := 1) (i := 8) (by decide) (by decide) (zsF_lo (rfl : (zsB tA b (12 + 370 * 1))[8]? = some _) (by decide) (by decide) (by decide) (by decide) (by decide) (by decide) (by decide))).trans rfl
theorem sf_391 : lawW tA b W H 391 = zW tA b (sh0 W H) (m0 W H) 391 := (lw_sc tA b W H (s := 1) (i := 9) (by decide) (by decide) (zsF_lo (rfl : (zsB tA b (12 + 370 * 1))[9]? = some _) (by decide) (by decide) (by decide) (by decide) (by decide) (by decide) (by decide))).trans rfl
theorem sf_392 : lawW tA b W H 392 = zW tA b (sh0 W H) (m0 W H) 392 := (lw_sc tA b W H (s := 1) (i := 10) (by decide) (by decide) (zsF_lo (rfl : (zsB tA b (12 + 370 * 1))[10]? = some _) (by decide) (by decide) (by decide) (by decide) (by decide) (by decide) (by decide))).trans rfl
theorem sf_393 : lawW tA b W H 393 = zW tA b (sh0 W H) (m0 W H) 393 := (lw_sc tA b W H (s := 1) (i := 11) (by decide) (by decide) (zsF_lo (rfl : (zsB tA b (12 + 370 * 1))[11]? = some _) (by decide) (by decide) (by decide) (by decide) (by decide) (by decide) (by decide))).trans rfl
theorem sf_394 : lawW tA b W H 394 = zW tA b (sh0 W H) (m0 W H) 394 := (lw_sc tA b W H (s := 1) (i := 12) (by decide) (by decide) (zsF_lo (rfl : (zsB tA b (12 + 370 * 1))[12]? = some _) (by decide) (by decide) (by decide) (by decide) (by decide) (by decide) (by decide))).trans rfl
theorem sf_395 : lawW tA b W H 395 = zW tA b (sh0 W H) (m0 W H) 395 := (lw_sc tA b W H (s := 1) (i := 13) (by decide) (by decide) (zsF_lo (rfl : (zsB tA b (12 + 370 * 1))[13]? = some _) (by decide) (by decide) (by decide) (by decide) (by decide) (by decide) (by decide))).trans rfl
theorem sf_396 : lawW tA b W H 396 = zW tA b (sh0 W H) (m0 W H) 396 := (lw_sc tA b W H (s := 1) (i := 14) (by decide) (by decide) (zsF_lo (rfl : (zsB tA b (12 + 370 * 1))[14]? = some _) (by decide) (by decide) (by decide) (by decide) (by decide) (by decide) (by decide))).trans rfl
theorem sf_397 : lawW tA b W H 397 = zW tA b (sh0 W H) (m0 W H) 397 := (lw_sc tA b W H (s := 1) (i := 15) (by decide) (by decide) (zsF_lo (rfl : (zsB tA b (12 + 370 * 1))[15]? = some _) (by decide) (by decide) (by decide) (by decide) (by decide) (by decide) (by decide))).trans rfl
theorem sf_398 : lawW tA b W H 398 = zW tA b (sh0 W H) (m0 W H) 398 := (lw_sc tA b W H (s := 1) (i := 16) (by decide) (by decide) (zsF_lo (rfl : (zsB tA b (12 + 370 * 1))[16]? = some _) (by decide) (by decide) (by decide) (by decide) (by decide) (by decide) (by decide))).trans rfl
theorem sf_399 : lawW tA b W H 399 = zW tA b (sh0 W H) (m0 W H) 399 := (lw_sc tA b W H (s := 1) (i := 17) (by decide) (by decide) (zsF_lo (rfl : (zsB tA b (12 + 370 * 1))[17]? = some _) (by decide) (by decide) (by decide) (by decide) (by decide) (by decide) (by decide))).trans rfl
theorem sf_400 : lawW tA b W H 400 = zW tA b (sh0 W H) (m0 W H) 400 := (lw_sc tA b W H (s := 1) (i := 18) (by decide) (by decide) (zsF_lo (rfl : (zsB tA b (12 + 370 * 1))[18]? = some _) (by decide) (by decide) (by decide) (by decide) (by decide) (by decide) (by decide))).trans rfl
theorem sf_404 : lawW tA b W H 404 = zW tA b (sh0 W H) (m0 W H) 404 := (lw_sc tA b W H (s := 1) (i := 22) (by decide) (by decide) zsF_22).trans rfl
theorem sf_405 : lawW tA b W H 405 = zW tA b (sh0 W H) (m0 W H) 405 := (lw_sc tA b W H (s := 1) (i := 23) (by decide) (by decide) zsF_23).trans rfl
theorem sf_406 : lawW tA b W H 406 = zW tA b (sh0 W H) (m0 W H) 406 := (lw_sc tA b W H (s := 1) (i := 24) (by decide) (by decide) (zsF_lo (rfl : (zsB tA b (12 + 370 * 1))[24]? = some _) (by decide) (by decide) (by decide) (by decide) (by decide) (by decide) (by decide))).trans rfl
theorem stf_1 : ∀ j, j < 25 → lawW tA b W H (382 + j) = zW tA b (sh0 W H) (m0 W H) (382 + j) := by
  intro j hj
  match j, hj with
  | 0, _ => exact sf_382 tA b W H
  | 1, _ => exact st_383 tA b W H
  | 2, _ => exact st_384 tA b W H
  | 3, _ => exact sf_385 tA b W H
  | 4, _ => exact sf_386 tA b W H
  | 5, _ => exact sf_387 tA b W H
  | 6, _ => exact sf_388 tA b W H
  | 7, _ => exact sf_389 tA b W H
  | 8, _ => exact sf_390 tA b W H
  | 9, _ => exact sf_391 tA b W H
  | 10, _ => exact sf_392 tA b W H
  | 11, _ => exact sf_393 tA b W H
  | 12, _ => exact sf_394 tA b W H
  | 13, _ => exact sf_395 tA b W H
  | 14, _ => exact sf_396 tA b W H
  | 15, _ => exact sf_397 tA b W H
  | 16, _ => exact sf_398 tA b W H
  | 17, _ => exact sf_399 tA b W H
  | 18, _ => exact sf_400 tA b W H
  | 19, _ => exact st_401 tA b W H
  | 20, _ => exact st_402 tA b W H
  | 21, _ => exact st_403 tA b W H
  | 22, _ => exact sf_404 tA b W H
  | 23, _ => exact sf_405 tA b W H
  | 24, _ => exact sf_406 tA b W H
  | j + 25, h => exact absurd h (by omega)
theorem sf_752 : lawW tA b W H 752 = zW tA b (sh0 W H) (m0 W H) 752 := (lw_sc tA b W H (s := 2) (i := 0) (by decide) (by decide) zsF_0).trans rfl
theorem sf_755 : lawW tA b W H 755 = zW tA b (sh0 W H) (m0 W H) 755 := (lw_sc tA b W H (s := 2) (i := 3) (by decide) (by decide) (zsF_lo (rfl : (zsB tA b (12 + 370 * 2))[3]? = some _) (by decide) (by decide) (by decide) (by decide) (by decide) (by decide) (by decide))).trans rfl
theorem sf_756 : lawW tA b W H 756 = zW tA b (sh0 W H) (m0 W H) 756 := (lw_sc tA b W H (s := 2) (i := 4) (by decide) (by decide) (zsF_lo (rfl : (zsB tA b (12 + 370 * 2))[4]? = some _) (by decide) (by decide) (by decide) (by decide) (by decide) (by decide) (by decide))).trans rfl
theorem sf_757 : lawW tA b W H 757 = zW tA b (sh0 W H) (m0 W H) 757 := (lw_sc tA b W H (s := 2) (i := 5) (by decide) (by decide) (zsF_lo (rfl : (zsB tA b (12 + 370 * 2))[5]? = some _) (by decide) (by decide) (by decide) (by decide) (by decide) (by decide) (by decide))).trans rfl
theorem sf_758 : lawW tA b W H 758 = zW tA b (sh0 W H) (m0 W H) 758 := (lw_sc tA b W H (s := 2) (i := 6) (by decide) (by decide) (zsF_lo (rfl : (zsB tA b (12 + 370 * 2))[6]? = some _) (by decide) (by decide) (by decide) (by decide) (by decide) (by decide) (by decide))).trans rfl
theorem sf_759 : lawW tA b W H 759 = zW tA b (sh0 W H) (m0 W H) 759 := (lw_sc tA b W H (s := 2) (i := 7) (by decide) (by decide) (zsF_lo (rfl : (zsB tA b (12 + 370 * 2))[7]? = some _) (by decide) (by decide) (by decide) (by decide) (by decide) (by decide) (by decide))).trans rfl
theorem sf_760 : lawW tA b W H 760 = zW tA b (sh0 W H) (m0 W H) 760 := (lw_sc tA b W H (s := 2) (i := 8) (by decide) (by decide) (zsF_lo (rfl : (zsB tA b (12 + 370 * 2))[8]? = some _) (by decide) (by decide) (by decide) (by decide) (by decide) (by decide) (by decide))).trans rfl
theorem sf_761 : lawW tA b W H 761 = zW tA b (sh0 W H) (m0 W H) 761 := (lw_sc tA b W H (s := 2) (i := 9) (by decide) (by decide) (zsF_lo (rfl : (zsB tA b (12 + 370 * 2))[9]? = some _) (by decide) (by decide) (by decide) (by decide) (by decide) (by decide) (by decide))).trans rfl
theorem sf_762 : lawW tA b W H 762 = zW tA b (sh0 W H) (m0 W H) 762 := (lw_sc tA b W H (s := 2) (i := 10) (by decide) (by decide) (zsF_lo (rfl : (zsB tA b (12 + 370 * 2))[10]? = some _) (by decide) (by decide) (by decide) (by decide) (by decide) (by decide) (by decide))).trans rfl
theorem sf_763 : lawW tA b W H 763 = zW tA b (sh0 W H) (m0 W H) 763 := (lw_sc tA b W H (s := 2) (i := 11) (by decide) (by decide) (zsF_lo (rfl : (zsB tA b (12 + 370 * 2))[11]? = some _) (by decide) (by decide) (by decide) (by decide) (by decide) (by decide) (by decide))).trans rfl
theorem sf_764 : lawW tA b W H 764 = zW tA b (sh0 W H) (m0 W H) 764 := (lw_sc tA b W H (s := 2) (i := 12) (by decide) (by decide) (zsF_lo (rfl : (zsB tA b (12 + 370 * 2))[12]? = some _) (by decide) (by decide) (by decide) (by decide) (by decide) (by decide) (by decide))).trans rfl
theorem sf_765 : lawW tA b W H 765 = zW tA b (sh0 W H) (m0 W H) 765 := (lw_sc tA b W H (s := 2) (i := 13) (by decide) (by decide) (zsF_lo (rfl : (zsB tA b (12 + 370 * 2))[13]? = some _) (by decide) (by decide) (by decide) (by decide) (by decide) (by decide) (by decide))).trans rfl
theorem sf_766 : lawW tA b W H 766 = zW tA b (sh0 W H) (m0 W H) 766 := (lw_sc tA b W H (s := 2) (i := 14) (by decide) (by decide) (zsF_lo (rfl : (zsB tA b (12 + 370 * 2))[14]? = some _) (by decide) (by decide) (by decide) (by decide) (by decide) (by decide) (by decide))).trans rfl
theorem sf_767 : lawW tA b W H 767 = zW tA b (sh0 W H) (m0 W H) 767 := (lw_sc tA b W H (s := 2) (i := 15) (by decide) (by decide) (zsF_lo (rfl : (zsB tA b (12 + 370 * 2))[15]? = some _) (by decide) (by decide) (by decide) (by decide) (by decide) (by decide) (by decide))).trans rfl
theorem sf_768 : lawW tA b W H 768 = zW tA b (sh0 W H) (m0 W H) 768 := (lw_sc tA b W H (s := 2) (i := 16) (by decide) (by decide) (zsF_lo (rfl : (zsB tA b (12 + 370 * 2))[16]? = some _) (by decide) (by decide) (by decide) (by decide) (by decide) (by decide) (by decide))).trans rfl
theorem sf_769 : lawW tA b W H 769 = zW tA b (sh0 W H) (m0 W H) 769 := (lw_sc tA b W H (s := 2) (i := 17) (by decide) (by decide) (zsF_lo (rfl : (zsB tA b (12 + 370 * 2))[17]? = some _) (by decide) (by decide) (by decide) (by decide) (by decide) (by decide) (by decide))).trans rfl
theorem sf_770 : lawW tA b W H 770 = zW tA b (sh0 W H) (m0 W H) 770 := (lw_sc tA b W H (s := 2) (i := 18) (by decide) (by decide) (zsF_lo (rfl : (zsB tA b (12 + 370 * 2))[18]? = some _) (by decide) (by decide) (by decide) (by decide) (by decide) (by decide) (by decide))).trans rfl
theorem sf_774 : lawW tA b W H 774 = zW tA b (sh0 W H) (m0 W H) 774 := (lw_sc tA b W H (s := 2) (i := 22) (by decide) (by decide) zsF_22).trans rfl
theorem sf_775 : lawW tA b W H 775 = zW tA b (sh0 W H) (m0 W H) 775 := (lw_sc tA b W H (s := 2) (i := 23) (by decide) (by decide) zsF_23).trans rfl
theorem sf_776 : lawW tA b W H 776 = zW tA b (sh0 W H) (m0 W H) 776 := (lw_sc tA b W H (s := 2) (i := 24) (by decide) (by decide) (zsF_lo (rfl : (zsB tA b (12 + 370 * 2))[24]? = some _) (by decide) (by decide) (by decide) (by decide) (by decide) (by decide) (by decide))).trans rfl
theorem stf_2 : ∀ j, j < 25 → lawW tA b W H (752 + j) = zW tA b (sh0 W H) (m0 W H) (752 + j) := by
  intro j hj
  match j, hj with
  | 0, _ => exact sf_752 tA b W H
  | 1, _ => exact st_753 tA b W H
  | 2, _ => exact st_754 tA b W H
  | 3, _ => exact sf_755 tA b W H
  | 4, _ => exact sf_756 tA b W H
  | 5, _ => exact sf_757 tA b W H
  | 6, _ => exact sf_758 tA b W H
  | 7, _ => exact sf_759 tA b W H
  | 8, _ => exact sf_760 tA b W H
  | 9, _ => exact sf_761 tA b W H
  | 10, _ => exact sf_762 tA b W H
  | 11, _ => exact sf_763 tA b W H
  | 12, _ => exact sf_764 tA b W H
  | 13, _ => exact sf_765 tA b W H
  | 14, _ => exact sf_766 tA b W H
  | 15, _ => exact sf_767 tA b W H
  | 16, _ => exact sf_768 tA b W H
  | 17, _ => exact sf_769 tA b W H
  | 18, _ => exact sf_770 tA b W H
  | 19, _ => exact st_771 tA b W H
  | 20, _ => exact st_772 tA b W H
  | 21, _ => exact st_773 tA b W H
  | 22, _ => exact sf_774 tA b W H
  | 23, _ => exact sf_775 tA b W H
  | 24, _ => exact sf_776 tA b W H
  | j + 25, h => exact absurd h (by omega)
end ZST0
