/-! The parts' constructors. -/
section GC
variable {L : Nat} {xs : Nat → Int32} {k z : Nat} {S : Nat → Nat → Bool} {I : Nat → Nat → Int32} {a n p : Nat}
theorem gS6 {i : Nat} (h : 234 ≤ p ∧ p < 354 ∧ (p - 234) % 10 = 0) (hi : 1 ≤ i ∧ i ≤ 4) : wS L (p + i) = (1, 20) := by
  unfold wS; rw [if_pos (by omega), if_pos (by omega), if_neg (by omega), if_neg (by omega), if_pos (by omega)]
theorem gS65 (h : 234 ≤ p ∧ p < 354 ∧ (p - 234) % 10 = 0) : wS L (p + 5) = (2, 20) := by
  unfold wS; rw [if_pos (by omega), if_pos (by omega), if_neg (by omega), if_pos (by omega)]
theorem gS4 {i : Nat} (h : 240 ≤ p ∧ p < 354 ∧ (p - 234) % 10 = 6) (hi : 1 ≤ i ∧ i ≤ 3) : wS L (p + i) = (1, 21) := by
  unfold wS; rw [if_pos (by omega), if_pos (by omega), if_neg (by omega), if_neg (by omega), if_neg (by omega), if_neg (by omega)]
theorem gN_0 (h1 : ∀ i, I 0 i = 0) (h2 : ∀ j, S 0 j = false) {m : Nat} : zNew (gm L xs 0 z S I) (0, 9) m = gm L xs 1 (z + m) S I := gm_new rfl h1 h2
theorem gN_1 (h1 : ∀ i, I 1 i = 0) (h2 : ∀ j, S 1 j = false) {m : Nat} : zNew (gm L xs 1 z S I) (4, 12) m = gm L xs 2 (z + m) S I := gm_new rfl h1 h2
theorem gN_2 (h1 : ∀ i, I 2 i = 0) (h2 : ∀ j, S 2 j = false) {m : Nat} : zNew (gm L xs 2 z S I) (5, 12) m = gm L xs 3 (z + m) S I := gm_new rfl h1 h2
theorem gN_3 (h1 : ∀ i, I 3 i = 0) (h2 : ∀ j, S 3 j = false) {m : Nat} : zNew (gm L xs 3 z S I) (1, 12) m = gm L xs 4 (z + m) S I := gm_new rfl h1 h2
theorem gN_4 (h1 : ∀ i, I 4 i = 0) (h2 : ∀ j, S 4 j = false) {m : Nat} : zNew (gm L xs 4 z S I) (0, 2) m = gm L xs 5 (z + m) S I := gm_new rfl h1 h2
theorem gN_5 (h1 : ∀ i, I 5 i = 0) (h2 : ∀ j, S 5 j = false) {m : Nat} : zNew (gm L xs 5 z S I) (6, 40) m = gm L xs 6 (z + m) S I := gm_new rfl h1 h2
theorem gN_46 (h1 : ∀ i, I 46 i = 0) (h2 : ∀ j, S 46 j = false) {m : Nat} : zNew (gm L xs 46 z S I) (0, 3) m = gm L xs 47 (z + m) S I := gm_new rfl h1 h2
theorem gN_47 (h1 : ∀ i, I 47 i = 0) (h2 : ∀ j, S 47 j = false) {m : Nat} : zNew (gm L xs 47 z S I) (1, 12) m = gm L xs 48 (z + m) S I := gm_new rfl h1 h2
theorem gN_48 (h1 : ∀ i, I 48 i = 0) (h2 : ∀ j, S 48 j = false) {m : Nat} : zNew (gm L xs 48 z S I) (1, 12) m = gm L xs 49 (z + m) S I := gm_new rfl h1 h2
theorem gN_49 (h1 : ∀ i, I 49 i = 0) (h2 : ∀ j, S 49 j = false) {m : Nat} : zNew (gm L xs 49 z S I) (1, 12) m = gm L xs 50 (z + m) S I := gm_new rfl h1 h2
theorem gN_50 (h1 : ∀ i, I 50 i = 0) (h2 : ∀ j, S 50 j = false) {m : Nat} : zNew (gm L xs 50 z S I) (1, 12) m = gm L xs 51 (z + m) S I := gm_new rfl h1 h2
theorem gN_51 (h1 : ∀ i, I 51 i = 0) (h2 : ∀ j, S 51 j = false) {m : Nat} : zNew (gm L xs 51 z S I) (1, 12) m = gm L xs 52 (z + m) S I := gm_new rfl h1 h2
theorem gN_52 (h1 : ∀ i, I 52 i = 0) (h2 : ∀ j, S 52 j = false) {m : Nat} : zNew (gm L xs 52 z S I) (0, 0) m = gm L xs 53 (z + m) S I := gm_new rfl h1 h2
theorem gN_53 (h1 : ∀ i, I 53 i = 0) (h2 : ∀ j, S 53 j = false) {m : Nat} : zNew (gm L xs 53 z S I) (1, 240) m = gm L xs 54 (z + m) S I := gm_new rfl h1 h2
theorem gN_54 (h1 : ∀ i, I 54 i = 0) (h2 : ∀ j, S 54 j = false) {m : Nat} : zNew (gm L xs 54 z S I) (1, 240) m = gm L xs 55 (z + m) S I := gm_new rfl h1 h2
theorem gN_55 (h1 : ∀ i, I 55 i = 0) (h2 : ∀ j, S 55 j = false) {m : Nat} : zNew (gm L xs 55 z S I) (1, 240) m = gm L xs 56 (z + m) S I := gm_new rfl h1 h2
theorem gN_56 (h1 : ∀ i, I 56 i = 0) (h2 : ∀ j, S 56 j = false) {m : Nat} : zNew (gm L xs 56 z S I) (0, 8) m = gm L xs 57 (z + m) S I := gm_new rfl h1 h2
theorem gN_57 (h1 : ∀ i, I 57 i = 0) (h2 : ∀ j, S 57 j = false) {m : Nat} : zNew (gm L xs 57 z S I) (7, 50) m = gm L xs 58 (z + m) S I := gm_new rfl h1 h2
theorem gN_108 (h1 : ∀ i, I 108 i = 0) (h2 : ∀ j, S 108 j = false) {m : Nat} : zNew (gm L xs 108 z S I) (0, 8) m = gm L xs 109 (z + m) S I := gm_new rfl h1 h2
theorem gN_109 (h1 : ∀ i, I 109 i = 0) (h2 : ∀ j, S 109 j = false) {m : Nat} : zNew (gm L xs 109 z S I) (7, 120) m = gm L xs 110 (z + m) S I := gm_new rfl h1 h2
theorem gN_230 (h1 : ∀ i, I 230 i = 0) (h2 : ∀ j, S 230 j = false) {m : Nat} : zNew (gm L xs 230 z S I) (0, 7) m = gm L xs 231 (z + m) S I := gm_new rfl h1 h2
theorem gN_231 (h1 : ∀ i, I 231 i = 0) (h2 : ∀ j, S 231 j = false) {m : Nat} : zNew (gm L xs 231 z S I) (0, 7) m = gm L xs 232 (z + m) S I := gm_new rfl h1 h2
theorem gN_232 (h1 : ∀ i, I 232 i = 0) (h2 : ∀ j, S 232 j = false) {m : Nat} : zNew (gm L xs 232 z S I) (0, 5) m = gm L xs 233 (z + m) S I := gm_new rfl h1 h2
theorem gN_233 (h1 : ∀ i, I 233 i = 0) (h2 : ∀ j, S 233 j = false) {m : Nat} : zNew (gm L xs 233 z S I) (1, 3) m = gm L xs 234 (z + m) S I := gm_new rfl h1 h2
theorem gN_354 (h1 : ∀ i, I 354 i = 0) (h2 : ∀ j, S 354 j = false) {m : Nat} : zNew (gm L xs 354 z S I) (0, 10) m = gm L xs 355 (z + m) S I := gm_new rfl h1 h2
theorem gN_355 (h1 : ∀ i, I 355 i = 0) (h2 : ∀ j, S 355 j = false) {m : Nat} : zNew (gm L xs 355 z S I) (1, 12) m = gm L xs 356 (z + m) S I := gm_new rfl h1 h2
theorem gN_356 (h1 : ∀ i, I 356 i = 0) (h2 : ∀ j, S 356 j = false) {m : Nat} : zNew (gm L xs 356 z S I) (1, 12) m = gm L xs 357 (z + m) S I := gm_new rfl h1 h2
theorem gN_357 (h1 : ∀ i, I 357 i = 0) (h2 : ∀ j, S 357 j = false) {m : Nat} : zNew (gm L xs 357 z S I) (2, 12) m = gm L xs 358 (z + m) S I := gm_new rfl h1 h2
theorem gN_358 (h1 : ∀ i, I 358 i = 0) (h2 : ∀ j, S 358 j = false) {m : Nat} : zNew (gm L xs 358 z S I) (1, 12) m = gm L xs 359 (z + m) S I := gm_new rfl h1 h2
theorem gN_359 (h1 : ∀ i, I 359 i = 0) (h2 : ∀ j, S 359 j = false) {m : Nat} : zNew (gm L xs 359 z S I) (1, 12) m = gm L xs 360 (z + m) S I := gm_new rfl h1 h2
theorem gN_360 (h1 : ∀ i, I 360 i = 0) (h2 : ∀ j, S 360 j = false) {m : Nat} : zNew (gm L xs 360 z S I) (1, 240) m = gm L xs 361 (z + m) S I := gm_new rfl h1 h2
theorem gN_361 (h1 : ∀ i, I 361 i = 0) (h2 : ∀ j, S 361 j = false) {m : Nat} : zNew (gm L xs 361 z S I) (1, 240) m = gm L xs 362 (z + m) S I := gm_new rfl h1 h2
theorem gN_362 (h1 : ∀ i, I 362 i = 0) (h2 : ∀ j, S 362 j = false) {m : Nat} : zNew (gm L xs 362 z S I) (2, 240) m = gm L xs 363 (z + m) S I := gm_new rfl h1 h2
theorem gN_363 (h1 : ∀ i, I 363 i = 0) (h2 : ∀ j, S 363 j = false) {m : Nat} : zNew (gm L xs 363 z S I) (1, 240) m = gm L xs 364 (z + m) S I := gm_new rfl h1 h2
theorem gN_364 (h1 : ∀ i, I 364 i = 0) (h2 : ∀ j, S 364 j = false) {m : Nat} : zNew (gm L xs 364 z S I) (1, 240) m = gm L xs 365 (z + m) S I := gm_new rfl h1 h2
theorem gN_365 (h1 : ∀ i, I 365 i = 0) (h2 : ∀ j, S 365 j = false) {m : Nat} : zNew (gm L xs 365 z S I) (2, 41) m = gm L xs 366 (z + m) S I := gm_new rfl h1 h2
theorem gN_366 (h1 : ∀ i, I 366 i = 0) (h2 : ∀ j, S 366 j = false) {m : Nat} : zNew (gm L xs 366 z S I) (1, 41) m = gm L xs 367 (z + m) S I := gm_new rfl h1 h2
theorem gN_367 (h1 : ∀ i, I 367 i = 0) (h2 : ∀ j, S 367 j = false) {m : Nat} : zNew (gm L xs 367 z S I) (1, 41) m = gm L xs 368 (z + m) S I := gm_new rfl h1 h2
theorem gN_368 (h1 : ∀ i, I 368 i = 0) (h2 : ∀ j, S 368 j = false) {m : Nat} : zNew (gm L xs 368 z S I) (1, 41) m = gm L xs 369 (z + m) S I := gm_new rfl h1 h2
theorem gN_369 (h1 : ∀ i, I 369 i = 0) (h2 : ∀ j, S 369 j = false) {m : Nat} : zNew (gm L xs 369 z S I) (1, 41) m = gm L xs 370 (z + m) S I := gm_new rfl h1 h2
theorem gN_370 (h1 : ∀ i, I 370 i = 0) (h2 : ∀ j, S 370 j = false) {m : Nat} : zNew (gm L xs 370 z S I) (1, 41) m = gm L xs 371 (z + m) S I := gm_new rfl h1 h2
theorem gN_371 (h1 : ∀ i, I 371 i = 0) (h2 : ∀ j, S 371 j = false) {m : Nat} : zNew (gm L xs 371 z S I) (1, 41) m = gm L xs 372 (z + m) S I := gm_new rfl h1 h2
theorem gN_372 (h1 : ∀ i, I 372 i = 0) (h2 : ∀ j, S 372 j = false) {m : Nat} : zNew (gm L xs 372 z S I) (2, 41) m = gm L xs 373 (z + m) S I := gm_new rfl h1 h2
theorem gN_373 (h1 : ∀ i, I 373 i = 0) (h2 : ∀ j, S 373 j = false) {m : Nat} : zNew (gm L xs 373 z S I) (1, 41) m = gm L xs 374 (z + m) S I := gm_new rfl h1 h2
theorem gN_374 (h1 : ∀ i, I 374 i = 0) (h2 : ∀ j, S 374 j = false) {m : Nat} : zNew (gm L xs 374 z S I) (1, 306) m = gm L xs 375 (z + m) S I := gm_new rfl h1 h2
theorem gN_375 (h1 : ∀ i, I 375 i = 0) (h2 : ∀ j, S 375 j = false) {m : Nat} : zNew (gm L xs 375 z S I) (1, 12) m = gm L xs 376 (z + m) S I := gm_new rfl h1 h2
theorem gN_376 (h1 : ∀ i, I 376 i = 0) (h2 : ∀ j, S 376 j = false) {m : Nat} : zNew (gm L xs 376 z S I) (2, 12) m = gm L xs 377 (z + m) S I := gm_new rfl h1 h2
theorem gN_377 (h1 : ∀ i, I 377 i = 0) (h2 : ∀ j, S 377 j = false) {m : Nat} : zNew (gm L xs 377 z S I) (1, 12) m = gm L xs 378 (z + m) S I := gm_new rfl h1 h2
theorem gN_378 (h1 : ∀ i, I 378 i = 0) (h2 : ∀ j, S 378 j = false) {m : Nat} : zNew (gm L xs 378 z S I) (2, 12) m = gm L xs 379 (z + m) S I := gm_new rfl h1 h2
theorem gN_379 (h1 : ∀ i, I 379 i = 0) (h2 : ∀ j, S 379 j = false) {m : Nat} : zNew (gm L xs 379 z S I) (1, 12) m = gm L xs 380 (z + m) S I := gm_new rfl h1 h2
theorem gN_380 (h1 : ∀ i, I 380 i = 0) (h2 : ∀ j, S 380 j = false) {m : Nat} : zNew (gm L xs 380 z S I) (1, 12) m = gm L xs 381 (z + m) S I := gm_new rfl h1 h2
theorem gN_381 (h1 : ∀ i, I 381 i = 0) (h2 : ∀ j, S 381 j = false) {m : Nat} : zNew (gm L xs 381 z S I) (1, 12) m = gm L xs 382 (z + m) S I := gm_new rfl h1 h2
theorem gN_382 (h1 : ∀ i, I 382 i = 0) (h2 : ∀ j, S 382 j = false) {m : Nat} : zNew (gm L xs 382 z S I) (1, 24) m = gm L xs 383 (z + m) S I := gm_new rfl h1 h2
theorem gN_383 (h1 : ∀ i, I 383 i = 0) (h2 : ∀ j, S 383 j = false) {m : Nat} : zNew (gm L xs 383 z S I) (1, 24) m = gm L xs 384 (z + m) S I := gm_new rfl h1 h2
theorem gN_384 (h1 : ∀ i, I 384 i = 0) (h2 : ∀ j, S 384 j = false) {m : Nat} : zNew (gm L xs 384 z S I) (1, 240) m = gm L xs 385 (z + m) S I := gm_new rfl h1 h2
theorem gN_385 (h1 : ∀ i, I 385 i = 0) (h2 : ∀ j, S 385 j = false) {m : Nat} : zNew (gm L xs 385 z S I) (1, 240) m = gm L xs 386 (z + m) S I := gm_new rfl h1 h2
theorem gN_386 (h1 : ∀ i, I 386 i = 0) (h2 : ∀ j, S 386 j = false) {m : Nat} : zNew (gm L xs 386 z S I) (1, 1928) m = gm L xs 387 (z + m) S I := gm_new rfl h1 h2
theorem gN_387 (h1 : ∀ i, I 387 i = 0) (h2 : ∀ j, S 387 j = false) {m : Nat} : zNew (gm L xs 387 z S I) (3, 1) m = gm L xs 388 (z + m) S I := gm_new rfl h1 h2
/-- Claims -/
theorem G0 (hS : ∀ b j, 53 ≤ b → S b j = false) (hI : ∀ b i, 53 ≤ b → I b i = 0) : p0_0 n 52 (gm L xs 53 z S I) ∧ b0_0 n 52 (gm L xs 53 z S I) = gm L xs 56 (z + 720) (s2 (s2 (s2 S 52 0) 52 1) 52 2) I := by
  simp (disch := (first | omega | rfl | decide | (intro q; simp (disch := omega) only [s2_off, z2_off, hS, hI]) | (simp (disch := omega) only [s2_off, s2_hit, hS]))) only [b0_31, p0_31, b0_28, p0_28, b0_22, p0_22, b0_19, p0_19, b0_13, p0_13, b0_10, p0_10, b0_0, p0_0, gV_0_9_0_0, gV_0_15_1_0, gV_0_18_2_0, gN_53, gN_54, gN_55, gm_WQ (hv := (rfl : gR 52 0 = some 53)), gm_WQ (hv := (rfl : gR 52 1 = some 54)), gm_WQ (hv := (rfl : gR 52 2 = some 55)), gm_WI, gm_N, gm_okM, gm_okW, lit_nI, ↓wM1_lit, tcl, Nat.reduceAdd, Nat.add_assoc, true_and, and_true, and_self, implies_true]
/-- Layout -/
theorem G21 (hS : ∀ b j, 47 ≤ b → S b j = false) (hI : ∀ b i, 47 ≤ b → I b i = 0) : p21_0 n 46 (gm L xs 47 z S I) ∧ b21_0 n 46 (gm L xs 47 z S I) = gm L xs 52 (z + 60) (s2 (s2 (s2 (s2 (s2 S 46 0) 46 1) 46 2) 46 3) 46 4) (z2 (z2 I 46 5 (nI 0)) 46 6 (nI 0)) := by
  simp (disch := (first | omega | rfl | decide | (intro q; simp (disch := omega) only [s2_off, z2_off, hS, hI]) | (simp (disch := omega) only [s2_off, s2_hit, hS]))) only [b21_54, p21_54, b21_49, p21_49, b21_44, p21_44, b21_41, p21_41, b21_36, p21_36, b21_33, p21_33, b21_28, p21_28, b21_25, p21_25, b21_20, p21_20, b21_17, p21_17, b21_12, p21_12, b21_9, p21_9, b21_0, p21_0, gW_21_27_5_3, gW_21_31_6_3, gV_21_9_0_3, gV_21_15_1_3, gV_21_18_2_3, gV_21_21_3_3, gV_21_24_4_3, gN_47, gN_48, gN_49, gN_50, gN_51, gm_WQ (hv := (rfl : gR 46 0 = some 47)), gm_WQ (hv := (rfl : gR 46 1 = some 48)), gm_WQ (hv := (rfl : gR 46 2 = some 49)), gm_WQ (hv := (rfl : gR 46 3 = some 50)), gm_WQ (hv := (rfl : gR 46 4 = some 51)), gm_WI, gm_N, gm_okM, gm_okW, lit_nI, ↓wM1_lit, tcl, Nat.reduceAdd, Nat.add_assoc, true_and, and_true, and_self, implies_true]
/-- Outline -/
theorem G28 (h : 240 ≤ p ∧ p < 354 ∧ (p - 234) % 10 = 6) (hS : ∀ b j, p + 1 ≤ b → S b j = false) (hI : ∀ b i, p ≤ b → I b i = nI 0) : p28_0 n p (gm L xs (p + 1) z S I) ∧ b28_0 n p (gm L xs (p + 1) z S I) = gm L xs (p + 4) (z + 63) (s2 (s2 (s2 S p 0) p 1) p 2) I := by
  have r0 : gR p 0 = some (p + 1) := wS4_0 h
  have r1 : gR p 1 = some (p + 2) := wS4_1 h
  have r2 : gR p 2 = some (p + 3) := wS4_2 h
  have n1 : ∀ z S', (∀ j, S' (p + 1) j = false) → zNew (gm L xs (p + 1) z S' I) (1, 21) 21 = gm L xs (p + 2) (z + 21) S' I := fun z S' hs => gm_new (gS4 h (by omega)) (fun i => hI _ _ (by omega)) hs
  have n2 : ∀ z S', (∀ j, S' (p + 2) j = false) → zNew (gm L xs (p + 2) z S' I) (1, 21) 21 = gm L xs (p + 3) (z + 21) S' I := fun z S' hs => gm_new (gS4 h (by omega)) (fun i => hI _ _ (by omega)) hs
  have n3 : ∀ z S', (∀ j, S' (p + 3) j = false) → zNew (gm L xs (p + 3) z S' I) (1, 21) 21 = gm L xs (p + 4) (z + 21) S' I := fun z S' hs => gm_new (gS4 h (by omega)) (fun i => hI _ _ (by omega)) hs
  have zz := z2_zero (I := I) (a := p) (fun i => hI p i (Nat.le_refl _))
  simp (disch := (first | omega | assumption | (intro q; simp (disch := omega) only [s2_off, hS]))) only [b28_58, p28_58, b28_53, p28_53, b28_48, p28_48, b28_43, p28_43, b28_38, p28_38, b28_33, p28_33, b28_28, p28_28, b28_25, p28_25, b28_20, p28_20, b28_17, p28_17, b28_12, p28_12, b28_9, p28_9, b28_0, p28_0, gW_28_21_3_4, gW_28_25_4_4, gW_28_28_5_4, gW_28_31_6_4, gW_28_34_7_4, gW_28_37_8_4, gV_28_9_0_4, gV_28_15_1_4, gV_28_18_2_4, n1, n2, n3, zz, gm_WI, gm_WQ (hv := r0), gm_WQ (hv := r1), gm_WQ (hv := r2), gm_N, gm_okM, gm_okW, lit_nI, tcl, Nat.reduceAdd, Nat.add_assoc, true_and, and_true, and_self]
/-- fill, as an array lies there -/
theorem G195 {v : Int32} {len : Nat} (ha : a < k) (hl : len ≤ 1000) (hs : wS L a = (1, len)) (hn : 2000 ≤ n) : p195_0 n a v (gm L xs k z S I) ∧ ∃ I2, b195_0 n a v (gm L xs k z S I) = gm L xs k z S I2 ∧ (∀ q, q < len → I2 a q = v) ∧ (∀ c q, (c ≠ a ∨ len ≤ q) → I2 c q = I c q) := by
  have loop : ∀ (r f i : Nat) (J : Nat → Nat → Int32), r + i = len → r < f → p195_5 n f a v (nI i) (nI len) (gm L xs k z S J) ∧ ∃ I2, b195_5 n f a v (nI i) (nI len) (gm L xs k z S J) = gm L xs k z S I2 ∧ (∀ q, i ≤ q → q < len → I2 a q = v) ∧ (∀ c q, (c ≠ a ∨ q < i ∨ len ≤ q) → I2 c q = J c q) := by
    intro r
    induction r with
    | zero =>
      intro f i J hr hf
      obtain ⟨f, rfl⟩ : ∃ m, f = m + 1 := ⟨f - 1, by omega⟩
      simp (disch := omega) only [p195_5, b195_5, c195_5, d195_5, wm_I, wm_X, wm_K, wm_WI, wm_HK, q0_0, q0_1, q0_2, q0_3, q0_4, q0_5, q0_6, q0_7, q0_8, q0_9, q0_10, q0_11, q354_1, q354_2, q354_3, q354_4, q354_5, q354_6, q354_7, q354_8, q354_9, q354_10, q354_17, q354_18, q354_19, q354_20, q354_21, q354_22, q354_23, q354_24, q354_25, q354_35, q354_37, q354_38, q354_39, q354_41, q354_42, q354_43, q354_44, q354_48, q354_49, q354_54, q354_55, q354_56, q4_0, q46_0, q46_1, q46_2, q46_3, q46_4, q52_0, q52_1, q52_2, q56_0, q108_0, q6_1, q6_2, q6_3, q6_4, q6_5, q6_6, q4x_0, q4x_1, q4x_2, q1, q2, q5, q57, q109, q1000007, oI_3, oT_3, oI_47, oT_47, oI_48, oT_48, oI_49, oT_49, oI_50, oT_50, oI_51, oT_51, oI_53, oT_53, oI_54, oT_54, oI_55, oT_55, oI_233, oT_233, oI_355, oT_355, oI_356, oT_356, oT_357, oI_358, oT_358, oI_359, oT_359, oI_360, oT_360, oI_361, oT_361, oT_362, oI_363, oT_363, oI_364, oT_364, oT_365, oI_366, oT_366, oI_367, oT_367, oI_368, oT_368, oI_369, oT_369, oI_370, oT_370, oI_371, oT_371, oT_372, oI_373, oT_373, oI_374, oT_374, oI_375, oT_375, oT_376, oI_377, oT_377, oT_378, oI_379, oT_379, oI_380, oT_380, oI_381, oT_381, oI_382, oT_382, oI_383, oT_383, oI_384, oT_384, oI_385, oT_385, oI_386, oT_386, oT_387, oI_S1, oT_S1, oI_S2, oT_S2, oI_S3, oT_S3, oI_S4, oT_S4, oT_S5, oI_O1, oT_O1, oI_O2, oT_O2, oI_O3, oT_O3, oI_X, oR_1, oR_2, oR_5, oR_57, oR_109, oR_K, oN_57, oN_109, oN_53, oN_233, oN_47, oN_S4, oN_O3, wM1_lt0, wM1_ge0, ↓wM1_lit, lit_nI, ofI_1, ofI_2, ofI_6, ofI_m1, kI_add, kI_mul, kI_sub, kI_le, kI_lt, kI_eq, kI_rem, kI_ne_m1, kI_m1_ne, kI_m1, tcl, z2_hit, z2_off, true_and, and_true, and_self, implies_true, if_true, if_false, not_true_eq_false, not_false_eq_true, or_true, true_or, false_or, or_false, or_self, false_and, and_false, decide_true, decide_false, Bool.false_eq_true, eq_self, ite_self, forall_const, false_implies, true_implies, ge_iff_le, gt_iff_lt, zNar_b, dLeT, dLeF, dLtT, dLtF, dEqT, dEqF]
      exact ⟨J, rfl, fun q h1 h2 => by omega, fun _ _ _ => rfl⟩
    | succ r ih =>
      intro f i J hr hf
      obtain ⟨f, rfl⟩ : ∃ m, f = m + 1 := ⟨f - 1, by omega⟩
      obtain ⟨u1, I2, u2, u3, u4⟩ := ih f (i + 1) (z2 J a i v) (by omega) (by omega)
      have ok : zOkT 1 a (nI i) (gm L xs k z S J) := ⟨⟨len, gm_S hs ha, win_nI (by omega) (by omega)⟩, ha⟩
      simp (disch := omega) only [p195_5, b195_5, c195_5, d195_5, p195_14, b195_14, wm_I, wm_X, wm_K, wm_WI, wm_HK, q0_0, q0_1, q0_2, q0_3, q0_4, q0_5, q0_6, q0_7, q0_8, q0_9, q0_10, q0_11, q354_1, q354_2, q354_3, q354_4, q354_5, q354_6, q354_7, q354_8, q354_9, q354_10, q354_17, q354_18, q354_19, q354_20, q354_21, q354_22, q354_23, q354_24, q354_25, q354_35, q354_37, q354_38, q354_39, q354_41, q354_42, q354_43, q354_44, q354_48, q354_49, q354_54, q354_55, q354_56, q4_0, q46_0, q46_1, q46_2, q46_3, q46_4, q52_0, q52_1, q52_2, q56_0, q108_0, q6_1, q6_2, q6_3, q6_4, q6_5, q6_6, q4x_0, q4x_1, q4x_2, q1, q2, q5, q57, q109, q1000007, oI_3, oT_3, oI_47, oT_47, oI_48, oT_48, oI_49, oT_49, oI_50, oT_50, oI_51, oT_51, oI_53, oT_53, oI_54, oT_54, oI_55, oT_55, oI_233, oT_233, oI_355, oT_355, oI_356, oT_356, oT_357, oI_358, oT_358, oI_359, oT_359, oI_360, oT_360, oI_361, oT_361, oT_362, oI_363, oT_363, oI_364, oT_364, oT_365, oI_366, oT_366, oI_367, oT_367, oI_368, oT_368, oI_369, oT_369, oI_370, oT_370, oI_371, oT_371, oT_372, oI_373, oT_373, oI_374, oT_374, oI_375, oT_375, oT_376, oI_377, oT_377, oT_378, oI_379, oT_379, oI_380, oT_380, oI_381, oT_381, oI_382, oT_382, oI_383, oT_383, oI_384, oT_384, oI_385, oT_385, oI_386, oT_386, oT_387, oI_S1, oT_S1, oI_S2, oT_S2, oI_S3, oT_S3, oI_S4, oT_S4, oT_S5, oI_O1, oT_O1, oI_O2, oT_O2, oI_O3, oT_O3, oI_X, oR_1, oR_2, oR_5, oR_57, oR_109, oR_K, oN_57, oN_109, oN_53, oN_233, oN_47, oN_S4, oN_O3, wM1_lt0, wM1_ge0, ↓wM1_lit, lit_nI, ofI_1, ofI_2, ofI_6, ofI_m1, kI_add, kI_mul, kI_sub, kI_le, kI_lt, kI_eq, kI_rem, kI_ne_m1, kI_m1_ne, kI_m1, tcl, z2_hit, z2_off, true_and, and_true, and_self, implies_true, if_true, if_false, not_true_eq_false, not_false_eq_true, or_true, true_or, false_or, or_false, or_self, false_and, and_false, decide_true, decide_false, Bool.false_eq_true, eq_self, ite_self, forall_const, false_implies, true_implies, ge_iff_le, gt_iff_lt, zNar_b, dLeT, dLeF, dLtT, dLtF, dEqT, dEqF, gm_WI, ok]
      refine ⟨u1, I2, u2, fun q h1 h2 => ?_, fun c q h => ?_⟩
      · by_cases e : q = i
        · subst e; rw [u4 _ _ (by omega)]; simp (disch := omega) only [wm_I, wm_X, wm_K, wm_WI, wm_HK, q0_0, q0_1, q0_2, q0_3, q0_4, q0_5, q0_6, q0_7, q0_8, q0_9, q0_10, q0_11, q354_1, q354_2, q354_3, q354_4, q354_5, q354_6, q354_7, q354_8, q354_9, q354_10, q354_17, q354_18, q354_19, q354_20, q354_21, q354_22, q354_23, q354_24, q354_25, q354_35, q354_37, q354_38, q354_39, q354_41, q354_42, q354_43, q354_44, q354_48, q354_49, q354_54, q354_55, q354_56, q4_0, q46_0, q46_1, q46_2, q46_3, q46_4, q52_0, q52_1, q52_2, q56_0, q108_0, q6_1, q6_2, q6_3, q6_4, q6_5, q6_6, q4x_0, q4x_1, q4x_2, q1, q2, q5, q57, q109, q1000007, oI_3, oT_3, oI_47, oT_47, oI_48, oT_48, oI_49, oT_49, oI_50, oT_50, oI_51, oT_51, oI_53, oT_53, oI_54, oT_54, oI_55, oT_55, oI_233, oT_233, oI_355, oT_355, oI_356, oT_356, oT_357, oI_358, oT_358, oI_359, oT_359, oI_360, oT_360, oI_361, oT_361, oT_362, oI_363, oT_363, oI_364, oT_364, oT_365, oI_366, oT_366, oI_367, oT_367, oI_368, oT_368, oI_369, oT_369, oI_370, oT_370, oI_371, oT_371, oT_372, oI_373, oT_373, oI_374, oT_374, oI_375, oT_375, oT_376, oI_377, oT_377, oT_378, oI_379, oT_379, oI_380, oT_380, oI_381, oT_381, oI_382, oT_382, oI_383, oT_383, oI_384, oT_384, oI_385, oT_385, oI_386, oT_386, oT_387, oI_S1, oT_S1, oI_S2, oT_S2, oI_S3, oT_S3, oI_S4, oT_S4, oT_S5, oI_O1, oT_O1, oI_O2, oT_O2, oI_O3, oT_O3, oI_X, oR_1, oR_2, oR_5, oR_57, oR_109, oR_K, oN_57, oN_109, oN_53, oN_233, oN_47, oN_S4, oN_O3, wM1_lt0, wM1_ge0, ↓wM1_lit, lit_nI, ofI_1, ofI_2, ofI_6, ofI_m1, kI_add, kI_mul, kI_sub, kI_le, kI_lt, kI_eq, kI_rem, kI_ne_m1, kI_m1_ne, kI_m1, tcl, z2_hit, z2_off, true_and, and_true, and_self, implies_true, if_true, if_false, not_true_eq_false, not_false_eq_true, or_true, true_or, false_or, or_false, or_self, false_and, and_false, decide_true, decide_false, Bool.false_eq_true, eq_self, ite_self, forall_const, false_implies, true_implies, ge_iff_le, gt_iff_lt, zNar_b]
        · exact u3 q (by omega) h2
      · rw [u4 c q (by omega)]; simp (disch := omega) only [wm_I, wm_X, wm_K, wm_WI, wm_HK, q0_0, q0_1, q0_2, q0_3, q0_4, q0_5, q0_6, q0_7, q0_8, q0_9, q0_10, q0_11, q354_1, q354_2, q354_3, q354_4, q354_5, q354_6, q354_7, q354_8, q354_9, q354_10, q354_17, q354_18, q354_19, q354_20, q354_21, q354_22, q354_23, q354_24, q354_25, q354_35, q354_37, q354_38, q354_39, q354_41, q354_42, q354_43, q354_44, q354_48, q354_49, q354_54, q354_55, q354_56, q4_0, q46_0, q46_1, q46_2, q46_3, q46_4, q52_0, q52_1, q52_2, q56_0, q108_0, q6_1, q6_2, q6_3, q6_4, q6_5, q6_6, q4x_0, q4x_1, q4x_2, q1, q2, q5, q57, q109, q1000007, oI_3, oT_3, oI_47, oT_47, oI_48, oT_48, oI_49, oT_49, oI_50, oT_50, oI_51, oT_51, oI_53, oT_53, oI_54, oT_54, oI_55, oT_55, oI_233, oT_233, oI_355, oT_355, oI_356, oT_356, oT_357, oI_358, oT_358, oI_359, oT_359, oI_360, oT_360, oI_361, oT_361, oT_362, oI_363, oT_363, oI_364, oT_364, oT_365, oI_366, oT_366, oI_367, oT_367, oI_368, oT_368, oI_369, oT_369, oI_370, oT_370, oI_371, oT_371, oT_372, oI_373, oT_373, oI_374, oT_374, oI_375, oT_375, oT_376, oI_377, oT_377, oT_378, oI_379, oT_379, oI_380, oT_380, oI_381, oT_381, oI_382, oT_382, oI_383, oT_383, oI_384, oT_384, oI_385, oT_385, oI_386, oT_386, oT_387, oI_S1, oT_S1, oI_S2, oT_S2, oI_S3, oT_S3, oI_S4, oT_S4, oT_S5, oI_O1, oT_O1, oI_O2, oT_O2, oI_O3, oT_O3, oI_X, oR_1, oR_2, oR_5, oR_57, oR_109, oR_K, oN_57, oN_109, oN_53, oN_233, oN_47, oN_S4, oN_O3, wM1_lt0, wM1_ge0, ↓wM1_lit, lit_nI, ofI_1, ofI_2, ofI_6, ofI_m1, kI_add, kI_mul, kI_sub, kI_le, kI_lt, kI_eq, kI_rem, kI_ne_m1, kI_m1_ne, kI_m1, tcl, z2_hit, z2_off, true_and, and_true, and_self, implies_true, if_true, if_false, not_true_eq_false, not_false_eq_true, or_true, true_or, false_or, or_false, or_self, false_and, and_false, decide_true, decide_false, Bool.false_eq_true, eq_self, ite_self, forall_const, false_implies, true_implies, ge_iff_le, gt_iff_lt, zNar_b]
  obtain ⟨u1, I2, u2, u3, u4⟩ := loop len n 0 I (by omega) (by omega)
  have e : zS (gm L xs k z S I) a = (1, len) := gm_S hs ha
  have hl2 : Int32.ofNat (zS (gm L xs k z S I) a).2 = nI len := by rw [e]; rfl
  have hN : zOkN a (gm L xs k z S I) := ⟨by rw [e]; show 1 ≤ 1; omega, Or.inl ⟨ha, by rw [e]; show 1 < 8; omega⟩⟩
  simp (disch := omega) only [p195_0, b195_0, hl2, lit_nI, hN, true_and]
  exact ⟨u1, I2, u2, fun q h => u3 q (by omega) h, fun c q h => u4 c q (by omega)⟩
/-- Sherd -/
theorem G41 {w : Int32} (h : 234 ≤ p ∧ p < 354 ∧ (p - 234) % 10 = 0) (hS : ∀ b j, p + 1 ≤ b → S b j = false) (hI : ∀ b i, p ≤ b → I b i = nI 0) (hn : 2000 ≤ n) : p41_0 n p w (gm L xs (p + 1) z S I) ∧ ∃ I2, b41_0 n p w (gm L xs (p + 1) z S I) = gm L xs (p + 6) (z + 100) (s2 (s2 (s2 (s2 (s2 (s2 S p 1) p 2) p 3) p 4) p 5) p 6) I2 ∧ I2 p 0 = w ∧ I2 p 9 = wM1 ∧ I2 p 10 = wM1 ∧ (∀ q, q < 20 → I2 (p + 4) q = wM1) ∧ (∀ c q, ¬ (c = p ∧ (q = 0 ∨ q = 9 ∨ q = 10)) → ¬ (c = p + 4 ∧ q < 20) → I2 c q = I c q) := by
  have r1 : gR p 1 = some (p + 1) := wS6_1 h
  have r2 : gR p 2 = some (p + 2) := wS6_2 h
  have r3 : gR p 3 = some (p + 3) := wS6_3 h
  have r4 : gR p 4 = some (p + 4) := wS6_4 h
  have r5 : gR p 5 = some (p + 5) := wS6_5 h
  have r6 : gR p 6 = some 1000000 := wS6_6 h
  have n1 : ∀ z S', (∀ j, S' (p + 1) j = false) → zNew (gm L xs (p + 1) z S' I) (1, 20) 20 = gm L xs (p + 2) (z + 20) S' I := fun z S' hs => gm_new (gS6 h (by omega)) (fun i => hI _ _ (by omega)) hs
  have n2 : ∀ z S', (∀ j, S' (p + 2) j = false) → zNew (gm L xs (p + 2) z S' I) (1, 20) 20 = gm L xs (p + 3) (z + 20) S' I := fun z S' hs => gm_new (gS6 h (by omega)) (fun i => hI _ _ (by omega)) hs
  have n3 : ∀ z S', (∀ j, S' (p + 3) j = false) → zNew (gm L xs (p + 3) z S' I) (1, 20) 20 = gm L xs (p + 4) (z + 20) S' I := fun z S' hs => gm_new (gS6 h (by omega)) (fun i => hI _ _ (by omega)) hs
  have n4 : ∀ z S', (∀ j, S' (p + 4) j = false) → zNew (gm L xs (p + 4) z S' I) (1, 20) 20 = gm L xs (p + 5) (z + 20) S' I := fun z S' hs => gm_new (gS6 h (by omega)) (fun i => hI _ _ (by omega)) hs
  have n5 : ∀ z S', (∀ j, S' (p + 5) j = false) → zNew (gm L xs (p + 5) z S' I) (2, 20) 20 = gm L xs (p + 6) (z + 20) S' I := fun z S' hs => gm_new (gS65 h) (fun i => hI _ _ (by omega)) hs
  have zz := z2_zero (I := I) (a := p) (fun i => hI p i (Nat.le_refl _))
  have hq : ∀ J, zQ (gm L xs (p + 6) (z + 100) (s2 (s2 (s2 (s2 (s2 (s2 S p 1) p 2) p 3) p 4) p 5) p 6) J) p 4 = p + 4 := fun J => gm_Q (by omega) (by simp (disch := omega) only [s2_off, s2_hit]) r4
  have hh : ∀ J, zHasQ 6 21 p (gm L xs (p + 6) (z + 100) (s2 (s2 (s2 (s2 (s2 (s2 S p 1) p 2) p 3) p 4) p 5) p 6) J) 4 := fun J => gQ_6_21_4_6 h (by omega) (by rw [gm_P (by omega) (by simp (disch := omega) only [s2_off, s2_hit]), r4]; exact fun h => nomatch h)
  obtain ⟨u1, I2, u2, u3, u4⟩ := G195 (n := n) (L := L) (xs := xs) (k := p + 6) (z := z + 100) (S := s2 (s2 (s2 (s2 (s2 (s2 S p 1) p 2) p 3) p 4) p 5) p 6) (I := z2 (z2 (z2 I p 9 wM1) p 10 wM1) p 0 w) (a := p + 4) (v := wM1) (len := 20) (by omega) (by omega) (gS6 h (by omega)) hn
  simp (disch := (first | omega | assumption | (intro q; simp (disch := omega) only [s2_off, hS]))) only [b41_84, p41_84, b41_76, p41_76, b41_71, p41_71, b41_66, p41_66, b41_61, p41_61, b41_56, p41_56, b41_51, p41_51, b41_44, p41_44, b41_41, p41_41, b41_36, p41_36, b41_33, p41_33, b41_28, p41_28, b41_25, p41_25, b41_20, p41_20, b41_17, p41_17, b41_12, p41_12, b41_9, p41_9, b41_0, p41_0, gW_41_37_7_6, gW_41_41_8_6, gW_41_45_9_6, gW_41_48_10_6, gW_41_51_0_6, gV_41_9_1_6, gV_41_15_2_6, gV_41_18_3_6, gV_41_21_4_6, gV_41_24_5_6, gV_41_34_6_6, n1, n2, n3, n4, n5, zz, gm_WI, gm_WQ (hv := r1), gm_WQ (hv := r2), gm_WQ (hv := r3), gm_WQ (hv := r4), gm_WQ (hv := r5), gm_WQ (hv := r6), gm_N, gm_okM, gm_okW, lit_nI, ↓wM1_lit, tcl, Nat.reduceAdd, Nat.add_assoc, true_and, and_true, and_self, hq, hh, u1, u2]
  refine ⟨I2, rfl, ?_, ?_, ?_, fun q hq => u3 q hq, fun c q g1 g2 => ?_⟩
  · rw [u4 _ _ (by omega)]; simp (disch := omega) only [z2_hit, z2_off]
  · rw [u4 _ _ (by omega)]; simp (disch := omega) only [z2_hit, z2_off]
  · rw [u4 _ _ (by omega)]; simp (disch := omega) only [z2_hit, z2_off]
  · rw [u4 _ _ (by omega)]; simp (disch := omega) only [z2_hit, z2_off]
end GC
