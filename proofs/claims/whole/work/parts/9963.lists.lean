/-! Lists, books, and all sherds. -/
def sR (S : Nat → Nat → Bool) (a m : Nat) : Nat → Nat → Bool := fun b i => if b = a ∧ i < m then true else S b i
theorem sR_off {S : Nat → Nat → Bool} {a m b i : Nat} (h : ¬ (b = a ∧ i < m)) : sR S a m b i = S b i := if_neg h
theorem sR_hit {S : Nat → Nat → Bool} {a m b i : Nat} (h : b = a ∧ i < m) : sR S a m b i = true := if_pos h
theorem sR_0 {S : Nat → Nat → Bool} {a : Nat} : sR S a 0 = S := by
  funext b i; rw [sR_off (by omega)]
theorem sR_s {S : Nat → Nat → Bool} {a m : Nat} : s2 (sR S a m) a m = sR S a (m + 1) := by
  funext b i
  by_cases h : b = a ∧ i = m
  · rw [s2_hit h, sR_hit (by omega)]
  · rw [s2_off h]
    by_cases h2 : b = a ∧ i < m
    · rw [sR_hit h2, sR_hit (by omega)]
    · rw [sR_off h2, sR_off (by omega)]
section GL
variable {L : Nat} {xs : Nat → Int32} {k z : Nat} {S : Nat → Nat → Bool} {I : Nat → Nat → Int32} {a n p : Nat}
/-- JoinBook -/
theorem G13 (hS : ∀ b j, 4 ≤ b → S b j = false) (hI : ∀ b i, 4 ≤ b → I b i = nI 0) (hn : 1000 ≤ n) : p13_0 n 4 (gm L xs 5 z S I) ∧ b13_0 n 4 (gm L xs 5 z S I) = gm L xs 46 (z + 40 + 40 * zNf 1) (sR (s2 S 4 0) 5 40) I := by
  have loop : ∀ (r f i : Nat), r + i = 40 → r < f → p13_25 n f 4 (nI i) (gm L xs (6 + i) (z + 40 + i * zNf 1) (sR (s2 S 4 0) 5 i) I) ∧ b13_25 n f 4 (nI i) (gm L xs (6 + i) (z + 40 + i * zNf 1) (sR (s2 S 4 0) 5 i) I) = gm L xs 46 (z + 40 + 40 * zNf 1) (sR (s2 S 4 0) 5 40) I := by
    intro r
    induction r with
    | zero =>
      intro f i hr hf
      obtain ⟨f, rfl⟩ : ∃ m, f = m + 1 := ⟨f - 1, by omega⟩
      have e : i = 40 := by omega
      subst e
      simp (disch := omega) only [p13_25, b13_25, c13_25, d13_25, wm_I, wm_X, wm_K, wm_WI, wm_HK, q0_0, q0_1, q0_2, q0_3, q0_4, q0_5, q0_6, q0_7, q0_8, q0_9, q0_10, q0_11, q354_1, q354_2, q354_3, q354_4, q354_5, q354_6, q354_7, q354_8, q354_9, q354_10, q354_17, q354_18, q354_19, q354_20, q354_21, q354_22, q354_23, q354_24, q354_25, q354_35, q354_37, q354_38, q354_39, q354_41, q354_42, q354_43, q354_44, q354_48, q354_49, q354_54, q354_55, q354_56, q4_0, q46_0, q46_1, q46_2, q46_3, q46_4, q52_0, q52_1, q52_2, q56_0, q108_0, q6_1, q6_2, q6_3, q6_4, q6_5, q6_6, q4x_0, q4x_1, q4x_2, q1, q2, q5, q57, q109, q1000007, oI_3, oT_3, oI_47, oT_47, oI_48, oT_48, oI_49, oT_49, oI_50, oT_50, oI_51, oT_51, oI_53, oT_53, oI_54, oT_54, oI_55, oT_55, oI_233, oT_233, oI_355, oT_355, oI_356, oT_356, oT_357, oI_358, oT_358, oI_359, oT_359, oI_360, oT_360, oI_361, oT_361, oT_362, oI_363, oT_363, oI_364, oT_364, oT_365, oI_366, oT_366, oI_367, oT_367, oI_368, oT_368, oI_369, oT_369, oI_370, oT_370, oI_371, oT_371, oT_372, oI_373, oT_373, oI_374, oT_374, oI_375, oT_375, oT_376, oI_377, oT_377, oT_378, oI_379, oT_379, oI_380, oT_380, oI_381, oT_381, oI_382, oT_382, oI_383, oT_383, oI_384, oT_384, oI_385, oT_385, oI_386, oT_386, oT_387, oI_S1, oT_S1, oI_S2, oT_S2, oI_S3, oT_S3, oI_S4, oT_S4, oT_S5, oI_O1, oT_O1, oI_O2, oT_O2, oI_O3, oT_O3, oI_X, oR_1, oR_2, oR_5, oR_57, oR_109, oR_K, oN_57, oN_109, oN_53, oN_233, oN_47, oN_S4, oN_O3, wM1_lt0, wM1_ge0, ↓wM1_lit, lit_nI, ofI_1, ofI_2, ofI_6, ofI_m1, kI_add, kI_mul, kI_sub, kI_le, kI_lt, kI_eq, kI_rem, kI_ne_m1, kI_m1_ne, kI_m1, tcl, z2_hit, z2_off, true_and, and_true, and_self, implies_true, if_true, if_false, not_true_eq_false, not_false_eq_true, or_true, true_or, false_or, or_false, or_self, false_and, and_false, decide_true, decide_false, Bool.false_eq_true, eq_self, ite_self, forall_const, false_implies, true_implies, ge_iff_le, gt_iff_lt, zNar_b, dLeT, dLeF, dLtT, dLtF, dEqT, dEqF]
    | succ r ih =>
      intro f i hr hf
      obtain ⟨f, rfl⟩ : ∃ m, f = m + 1 := ⟨f - 1, by omega⟩
      obtain ⟨y1, y2⟩ := ih f (i + 1) (by omega) (by omega)
      have st : sR (s2 S 4 0) 5 i 4 0 = true := by rw [sR_off (by omega), s2_hit (by omega)]
      have hq : zQ (gm L xs (6 + i) (z + 40 + i * zNf 1) (sR (s2 S 4 0) 5 i) I) 4 0 = 5 := gm_Q (by omega) st rfl
      have hh : zHasQ 2 11 4 (gm L xs (6 + i) (z + 40 + i * zNf 1) (sR (s2 S 4 0) 5 i) I) 0 := gQ_2_11_0_2 (by omega) (by omega) (by rw [gm_P (by omega) st]; exact fun h => nomatch h)
      have rv : gR 5 i = some (6 + i) := by show (if i < 40 then some (6 + i) else none) = _; rw [if_pos (by omega)]
      have nw : zNew (gm L xs (6 + i) (z + 40 + i * zNf 1) (sR (s2 S 4 0) 5 i) I) (0, 1) (zNf 1) = gm L xs (6 + i + 1) (z + 40 + i * zNf 1 + zNf 1) (sR (s2 S 4 0) 5 i) I := gm_new (wS_1 (by omega)) (fun q => hI _ _ (by omega)) (fun q => by rw [sR_off (by omega), s2_off (by omega)]; exact hS _ _ (by omega))
      have g := G12 (n := n) (L := L) (xs := xs) (k := 6 + i + 1) (z := z + 40 + i * zNf 1 + zNf 1) (S := sR (s2 S 4 0) 5 i) (I := I) (a := 6 + i) (by omega) (by omega) (fun q => hI _ _ (by omega))
      have os : zOkS 5 (6 + i) (nI i) (gm L xs (6 + i + 1) (z + 40 + i * zNf 1 + zNf 1) (sR (s2 S 4 0) 5 i) I) := ⟨6, 40, 1, gm_S rfl (by omega), gm_S (wS_1 (by omega)) (by omega), win_nI (by omega) (by omega), by rw [gm_N]; omega, by rw [gm_N]; omega, by omega, by omega, by omega, by decide +kernel⟩
      have om : zOkM (gm L xs (6 + i) (z + 40 + i * zNf 1) (sR (s2 S 4 0) 5 i) I) := gm_okM (by omega)
      have e1 : z + 40 + i * zNf 1 + zNf 1 = z + 40 + (i + 1) * zNf 1 := by rw [Nat.add_mul, Nat.one_mul]; omega
      have wq : zWQ (gm L xs (6 + i + 1) (z + 40 + i * zNf 1 + zNf 1) (sR (s2 S 4 0) 5 i) I) 5 i (some (6 + i)) = gm L xs (6 + (i + 1)) (z + 40 + (i + 1) * zNf 1) (sR (s2 S 4 0) 5 (i + 1)) I := by
        rw [gm_WQ (by omega) rv, sR_s, e1]; rfl
      simp (disch := omega) only [p13_25, b13_25, c13_25, d13_25, p13_39, b13_39, p13_43, b13_43, p13_44, b13_44, wm_I, wm_X, wm_K, wm_WI, wm_HK, q0_0, q0_1, q0_2, q0_3, q0_4, q0_5, q0_6, q0_7, q0_8, q0_9, q0_10, q0_11, q354_1, q354_2, q354_3, q354_4, q354_5, q354_6, q354_7, q354_8, q354_9, q354_10, q354_17, q354_18, q354_19, q354_20, q354_21, q354_22, q354_23, q354_24, q354_25, q354_35, q354_37, q354_38, q354_39, q354_41, q354_42, q354_43, q354_44, q354_48, q354_49, q354_54, q354_55, q354_56, q4_0, q46_0, q46_1, q46_2, q46_3, q46_4, q52_0, q52_1, q52_2, q56_0, q108_0, q6_1, q6_2, q6_3, q6_4, q6_5, q6_6, q4x_0, q4x_1, q4x_2, q1, q2, q5, q57, q109, q1000007, oI_3, oT_3, oI_47, oT_47, oI_48, oT_48, oI_49, oT_49, oI_50, oT_50, oI_51, oT_51, oI_53, oT_53, oI_54, oT_54, oI_55, oT_55, oI_233, oT_233, oI_355, oT_355, oI_356, oT_356, oT_357, oI_358, oT_358, oI_359, oT_359, oI_360, oT_360, oI_361, oT_361, oT_362, oI_363, oT_363, oI_364, oT_364, oT_365, oI_366, oT_366, oI_367, oT_367, oI_368, oT_368, oI_369, oT_369, oI_370, oT_370, oI_371, oT_371, oT_372, oI_373, oT_373, oI_374, oT_374, oI_375, oT_375, oT_376, oI_377, oT_377, oT_378, oI_379, oT_379, oI_380, oT_380, oI_381, oT_381, oI_382, oT_382, oI_383, oT_383, oI_384, oT_384, oI_385, oT_385, oI_386, oT_386, oT_387, oI_S1, oT_S1, oI_S2, oT_S2, oI_S3, oT_S3, oI_S4, oT_S4, oT_S5, oI_O1, oT_O1, oI_O2, oT_O2, oI_O3, oT_O3, oI_X, oR_1, oR_2, oR_5, oR_57, oR_109, oR_K, oN_57, oN_109, oN_53, oN_233, oN_47, oN_S4, oN_O3, wM1_lt0, wM1_ge0, ↓wM1_lit, lit_nI, ofI_1, ofI_2, ofI_6, ofI_m1, kI_add, kI_mul, kI_sub, kI_le, kI_lt, kI_eq, kI_rem, kI_ne_m1, kI_m1_ne, kI_m1, tcl, z2_hit, z2_off, true_and, and_true, and_self, implies_true, if_true, if_false, not_true_eq_false, not_false_eq_true, or_true, true_or, false_or, or_false, or_self, false_and, and_false, decide_true, decide_false, Bool.false_eq_true, eq_self, ite_self, forall_const, false_implies, true_implies, ge_iff_le, gt_iff_lt, zNar_b, dLeT, dLeF, dLtT, dLtF, dEqT, dEqF, gm_N, hq, hh, om, nw, g, os, wq]
      exact ⟨y1, y2⟩
  obtain ⟨y1, y2⟩ := loop 40 n 0 (by omega) (by omega)
  have e0 : sR (s2 S 4 0) 5 0 = s2 S 4 0 := sR_0
  rw [e0, Nat.zero_mul, Nat.add_zero, Nat.add_zero] at y1 y2
  have zz := z2_zero (I := I) (a := 4) (fun i => hI 4 i (Nat.le_refl _))
  have nn := fun m => gN_5 (L := L) (xs := xs) (z := z) (S := S) (I := I) (m := m) (fun i => hI 5 i (by omega)) (fun j => hS 5 j (by omega))
  simp (disch := omega) only [b13_44, p13_44, b13_43, p13_43, b13_39, p13_39, c13_25, d13_25, b13_23, p13_23, b13_18, p13_18, b13_13, p13_13, b13_10, p13_10, b13_0, p13_0, gW_13_17_1_2, gW_13_21_2_2, gV_13_11_0_2, nn, zz, gm_WI, gm_WQ (hv := (rfl : gR 4 0 = some 5)), gm_N, gm_okM, gm_okW, lit_nI, tcl, Nat.reduceAdd, true_and, and_true, and_self, y1, y2]
/-- SpanList -/
theorem G58_56 (hS : ∀ b j, 56 ≤ b → S b j = false) (hI : ∀ b i, 56 ≤ b → I b i = nI 0) (hn : 1000 ≤ n) : p58_0 n 56 (nI 50) (gm L xs 57 z S I) ∧ b58_0 n 56 (nI 50) (gm L xs 57 z S I) = gm L xs 108 (z + 50 + 50 * zNf 7) (sR (s2 S 56 0) 57 50) I := by
  have loop : ∀ (r f i : Nat), r + i = 50 → r < f → p58_19 n f 56 (nI 50) (nI i) (gm L xs (58 + i) (z + 50 + i * zNf 7) (sR (s2 S 56 0) 57 i) I) ∧ b58_19 n f 56 (nI 50) (nI i) (gm L xs (58 + i) (z + 50 + i * zNf 7) (sR (s2 S 56 0) 57 i) I) = gm L xs 108 (z + 50 + 50 * zNf 7) (sR (s2 S 56 0) 57 50) I := by
    intro r
    induction r with
    | zero =>
      intro f i hr hf
      obtain ⟨f, rfl⟩ : ∃ m, f = m + 1 := ⟨f - 1, by omega⟩
      have e : i = 50 := by omega
      subst e
      simp (disch := omega) only [p58_19, b58_19, c58_19, d58_19, wm_I, wm_X, wm_K, wm_WI, wm_HK, q0_0, q0_1, q0_2, q0_3, q0_4, q0_5, q0_6, q0_7, q0_8, q0_9, q0_10, q0_11, q354_1, q354_2, q354_3, q354_4, q354_5, q354_6, q354_7, q354_8, q354_9, q354_10, q354_17, q354_18, q354_19, q354_20, q354_21, q354_22, q354_23, q354_24, q354_25, q354_35, q354_37, q354_38, q354_39, q354_41, q354_42, q354_43, q354_44, q354_48, q354_49, q354_54, q354_55, q354_56, q4_0, q46_0, q46_1, q46_2, q46_3, q46_4, q52_0, q52_1, q52_2, q56_0, q108_0, q6_1, q6_2, q6_3, q6_4, q6_5, q6_6, q4x_0, q4x_1, q4x_2, q1, q2, q5, q57, q109, q1000007, oI_3, oT_3, oI_47, oT_47, oI_48, oT_48, oI_49, oT_49, oI_50, oT_50, oI_51, oT_51, oI_53, oT_53, oI_54, oT_54, oI_55, oT_55, oI_233, oT_233, oI_355, oT_355, oI_356, oT_356, oT_357, oI_358, oT_358, oI_359, oT_359, oI_360, oT_360, oI_361, oT_361, oT_362, oI_363, oT_363, oI_364, oT_364, oT_365, oI_366, oT_366, oI_367, oT_367, oI_368, oT_368, oI_369, oT_369, oI_370, oT_370, oI_371, oT_371, oT_372, oI_373, oT_373, oI_374, oT_374, oI_375, oT_375, oT_376, oI_377, oT_377, oT_378, oI_379, oT_379, oI_380, oT_380, oI_381, oT_381, oI_382, oT_382, oI_383, oT_383, oI_384, oT_384, oI_385, oT_385, oI_386, oT_386, oT_387, oI_S1, oT_S1, oI_S2, oT_S2, oI_S3, oT_S3, oI_S4, oT_S4, oT_S5, oI_O1, oT_O1, oI_O2, oT_O2, oI_O3, oT_O3, oI_X, oR_1, oR_2, oR_5, oR_57, oR_109, oR_K, oN_57, oN_109, oN_53, oN_233, oN_47, oN_S4, oN_O3, wM1_lt0, wM1_ge0, ↓wM1_lit, lit_nI, ofI_1, ofI_2, ofI_6, ofI_m1, kI_add, kI_mul, kI_sub, kI_le, kI_lt, kI_eq, kI_rem, kI_ne_m1, kI_m1_ne, kI_m1, tcl, z2_hit, z2_off, true_and, and_true, and_self, implies_true, if_true, if_false, not_true_eq_false, not_false_eq_true, or_true, true_or, false_or, or_false, or_self, false_and, and_false, decide_true, decide_false, Bool.false_eq_true, eq_self, ite_self, forall_const, false_implies, true_implies, ge_iff_le, gt_iff_lt, zNar_b, dLeT, dLeF, dLtT, dLtF, dEqT, dEqF]
    | succ r ih =>
      intro f i hr hf
      obtain ⟨f, rfl⟩ : ∃ m, f = m + 1 := ⟨f - 1, by omega⟩
      obtain ⟨y1, y2⟩ := ih f (i + 1) (by omega) (by omega)
      have st : sR (s2 S 56 0) 57 i 56 0 = true := by rw [sR_off (by omega), s2_hit (by omega)]
      have hq : zQ (gm L xs (58 + i) (z + 50 + i * zNf 7) (sR (s2 S 56 0) 57 i) I) 56 0 = 57 := gm_Q (by omega) st rfl
      have hh : zHasQ 8 15 56 (gm L xs (58 + i) (z + 50 + i * zNf 7) (sR (s2 S 56 0) 57 i) I) 0 := gQ_8_15_0_8 (by omega) (by omega) (by rw [gm_P (by omega) st]; exact fun h => nomatch h)
      have rv : gR 57 i = some (58 + i) := by show (if i < 50 then some (58 + i) else none) = _; rw [if_pos (by omega)]
      have nw : zNew (gm L xs (58 + i) (z + 50 + i * zNf 7) (sR (s2 S 56 0) 57 i) I) (0, 7) (zNf 7) = gm L xs (58 + i + 1) (z + 50 + i * zNf 7 + zNf 7) (sR (s2 S 56 0) 57 i) I := gm_new (wS_7 (by omega)) (fun q => hI _ _ (by omega)) (fun q => by rw [sR_off (by omega), s2_off (by omega)]; exact hS _ _ (by omega))
      have g := G54 (n := n) (L := L) (xs := xs) (k := 58 + i + 1) (z := z + 50 + i * zNf 7 + zNf 7) (S := sR (s2 S 56 0) 57 i) (I := I) (a := 58 + i) (by omega) (by omega) (fun q => hI _ _ (by omega))
      have os : zOkS 57 (58 + i) (nI i) (gm L xs (58 + i + 1) (z + 50 + i * zNf 7 + zNf 7) (sR (s2 S 56 0) 57 i) I) := ⟨7, 50, 7, gm_S rfl (by omega), gm_S (wS_7 (by omega)) (by omega), win_nI (by omega) (by omega), by rw [gm_N]; omega, by rw [gm_N]; omega, by omega, by omega, by omega, by decide +kernel⟩
      have om : zOkM (gm L xs (58 + i) (z + 50 + i * zNf 7) (sR (s2 S 56 0) 57 i) I) := gm_okM (by omega)
      have e1 : z + 50 + i * zNf 7 + zNf 7 = z + 50 + (i + 1) * zNf 7 := by rw [Nat.add_mul, Nat.one_mul]; omega
      have wq : zWQ (gm L xs (58 + i + 1) (z + 50 + i * zNf 7 + zNf 7) (sR (s2 S 56 0) 57 i) I) 57 i (some (58 + i)) = gm L xs (58 + (i + 1)) (z + 50 + (i + 1) * zNf 7) (sR (s2 S 56 0) 57 (i + 1)) I := by
        rw [gm_WQ (by omega) rv, sR_s, e1]; rfl
      simp (disch := omega) only [p58_19, b58_19, c58_19, d58_19, p58_32, b58_32, p58_36, b58_36, p58_37, b58_37, wm_I, wm_X, wm_K, wm_WI, wm_HK, q0_0, q0_1, q0_2, q0_3, q0_4, q0_5, q0_6, q0_7, q0_8, q0_9, q0_10, q0_11, q354_1, q354_2, q354_3, q354_4, q354_5, q354_6, q354_7, q354_8, q354_9, q354_10, q354_17, q354_18, q354_19, q354_20, q354_21, q354_22, q354_23, q354_24, q354_25, q354_35, q354_37, q354_38, q354_39, q354_41, q354_42, q354_43, q354_44, q354_48, q354_49, q354_54, q354_55, q354_56, q4_0, q46_0, q46_1, q46_2, q46_3, q46_4, q52_0, q52_1, q52_2, q56_0, q108_0, q6_1, q6_2, q6_3, q6_4, q6_5, q6_6, q4x_0, q4x_1, q4x_2, q1, q2, q5, q57, q109, q1000007, oI_3, oT_3, oI_47, oT_47, oI_48, oT_48, oI_49, oT_49, oI_50, oT_50, oI_51, oT_51, oI_53, oT_53, oI_54, oT_54, oI_55, oT_55, oI_233, oT_233, oI_355, oT_355, oI_356, oT_356, oT_357, oI_358, oT_358, oI_359, oT_359, oI_360, oT_360, oI_361, oT_361, oT_362, oI_363, oT_363, oI_364, oT_364, oT_365, oI_366, oT_366, oI_367, oT_367, oI_368, oT_368, oI_369, oT_369, oI_370, oT_370, oI_371, oT_371, oT_372, oI_373, oT_373, oI_374, oT_374, oI_375, oT_375, oT_376, oI_377, oT_377, oT_378, oI_379, oT_379, oI_380, oT_380, oI_381, oT_381, oI_382, oT_382, oI_383, oT_383, oI_384, oT_384, oI_385, oT_385, oI_386, oT_386, oT_387, oI_S1, oT_S1, oI_S2, oT_S2, oI_S3, oT_S3, oI_S4, oT_S4, oT_S5, oI_O1, oT_O1, oI_O2, oT_O2, oI_O3, oT_O3, oI_X, oR_1, oR_2, oR_5, oR_57, oR_109, oR_K, oN_57, oN_109, oN_53, oN_233, oN_47, oN_S4, oN_O3, wM1_lt0, wM1_ge0, ↓wM1_lit, lit_nI, ofI_1, ofI_2, ofI_6, ofI_m1, kI_add, kI_mul, kI_sub, kI_le, kI_lt, kI_eq, kI_rem, kI_ne_m1, kI_m1_ne, kI_m1, tcl, z2_hit, z2_off, true_and, and_true, and_self, implies_true, if_true, if_false, not_true_eq_false, not_false_eq_true, or_true, true_or, false_or, or_false, or_self, false_and, and_false, decide_true, decide_false, Bool.false_eq_true, eq_self, ite_self, forall_const, false_implies, true_implies, ge_iff_le, gt_iff_lt, zNar_b, dLeT, dLeF, dLtT, dLtF, dEqT, dEqF, gm_N, hq, hh, om, nw, g, os, wq]
      exact ⟨y1, y2⟩
  obtain ⟨y1, y2⟩ := loop 50 n 0 (by omega) (by omega)
  have e0 : sR (s2 S 56 0) 57 0 = s2 S 56 0 := sR_0
  rw [e0, Nat.zero_mul, Nat.add_zero, Nat.add_zero] at y1 y2
  have zz := z2_zero (I := I) (a := 56) (fun i => hI 56 i (Nat.le_refl _))
  have nn := fun m => gN_57 (L := L) (xs := xs) (z := z) (S := S) (I := I) (m := m) (fun i => hI 57 i (by omega)) (fun j => hS 57 j (by omega))
  simp (disch := omega) only [b58_37, p58_37, b58_36, p58_36, b58_32, p58_32, c58_19, d58_19, b58_17, p58_17, b58_14, p58_14, b58_9, p58_9, b58_0, p58_0, gW_58_7_1_8, gV_58_15_0_8, nn, zz, gm_WI, gm_WQ (hv := (rfl : gR 56 0 = some 57)), gm_N, gm_okM, gm_okW, lit_nI, tcl, Nat.reduceAdd, true_and, and_true, and_self, y1, y2]
/-- SpanList -/
theorem G58_108 (hS : ∀ b j, 108 ≤ b → S b j = false) (hI : ∀ b i, 108 ≤ b → I b i = nI 0) (hn : 1000 ≤ n) : p58_0 n 108 (nI 120) (gm L xs 109 z S I) ∧ b58_0 n 108 (nI 120) (gm L xs 109 z S I) = gm L xs 230 (z + 120 + 120 * zNf 7) (sR (s2 S 108 0) 109 120) I := by
  have loop : ∀ (r f i : Nat), r + i = 120 → r < f → p58_19 n f 108 (nI 120) (nI i) (gm L xs (110 + i) (z + 120 + i * zNf 7) (sR (s2 S 108 0) 109 i) I) ∧ b58_19 n f 108 (nI 120) (nI i) (gm L xs (110 + i) (z + 120 + i * zNf 7) (sR (s2 S 108 0) 109 i) I) = gm L xs 230 (z + 120 + 120 * zNf 7) (sR (s2 S 108 0) 109 120) I := by
    intro r
    induction r with
    | zero =>
      intro f i hr hf
      obtain ⟨f, rfl⟩ : ∃ m, f = m + 1 := ⟨f - 1, by omega⟩
      have e : i = 120 := by omega
      subst e
      simp (disch := omega) only [p58_19, b58_19, c58_19, d58_19, wm_I, wm_X, wm_K, wm_WI, wm_HK, q0_0, q0_1, q0_2, q0_3, q0_4, q0_5, q0_6, q0_7, q0_8, q0_9, q0_10, q0_11, q354_1, q354_2, q354_3, q354_4, q354_5, q354_6, q354_7, q354_8, q354_9, q354_10, q354_17, q354_18, q354_19, q354_20, q354_21, q354_22, q354_23, q354_24, q354_25, q354_35, q354_37, q354_38, q354_39, q354_41, q354_42, q354_43, q354_44, q354_48, q354_49, q354_54, q354_55, q354_56, q4_0, q46_0, q46_1, q46_2, q46_3, q46_4, q52_0, q52_1, q52_2, q56_0, q108_0, q6_1, q6_2, q6_3, q6_4, q6_5, q6_6, q4x_0, q4x_1, q4x_2, q1, q2, q5, q57, q109, q1000007, oI_3, oT_3, oI_47, oT_47, oI_48, oT_48, oI_49, oT_49, oI_50, oT_50, oI_51, oT_51, oI_53, oT_53, oI_54, oT_54, oI_55, oT_55, oI_233, oT_233, oI_355, oT_355, oI_356, oT_356, oT_357, oI_358, oT_358, oI_359, oT_359, oI_360, oT_360, oI_361, oT_361, oT_362, oI_363, oT_363, oI_364, oT_364, oT_365, oI_366, oT_366, oI_367, oT_367, oI_368, oT_368, oI_369, oT_369, oI_370, oT_370, oI_371, oT_371, oT_372, oI_373, oT_373, oI_374, oT_374, oI_375, oT_375, oT_376, oI_377, oT_377, oT_378, oI_379, oT_379, oI_380, oT_380, oI_381, oT_381, oI_382, oT_382, oI_383, oT_383, oI_384, oT_384, oI_385, oT_385, oI_386, oT_386, oT_387, oI_S1, oT_S1, oI_S2, oT_S2, oI_S3, oT_S3, oI_S4, oT_S4, oT_S5, oI_O1, oT_O1, oI_O2, oT_O2, oI_O3, oT_O3, oI_X, oR_1, oR_2, oR_5, oR_57, oR_109, oR_K, oN_57, oN_109, oN_53, oN_233, oN_47, oN_S4, oN_O3, wM1_lt0, wM1_ge0, ↓wM1_lit, lit_nI, ofI_1, ofI_2, ofI_6, ofI_m1, kI_add, kI_mul, kI_sub, kI_le, kI_lt, kI_eq, kI_rem, kI_ne_m1, kI_m1_ne, kI_m1, tcl, z2_hit, z2_off, true_and, and_true, and_self, implies_true, if_true, if_false, not_true_eq_false, not_false_eq_true, or_true, true_or, false_or, or_false, or_self, false_and, and_false, decide_true, decide_false, Bool.false_eq_true, eq_self, ite_self, forall_const, false_implies, true_implies, ge_iff_le, gt_iff_lt, zNar_b, dLeT, dLeF, dLtT, dLtF, dEqT, dEqF]
    | succ r ih =>
      intro f i hr hf
      obtain ⟨f, rfl⟩ : ∃ m, f = m + 1 := ⟨f - 1, by omega⟩
      obtain ⟨y1, y2⟩ := ih f (i + 1) (by omega) (by omega)
      have st : sR (s2 S 108 0) 109 i 108 0 = true := by rw [sR_off (by omega), s2_hit (by omega)]
      have hq : zQ (gm L xs (110 + i) (z + 120 + i * zNf 7) (sR (s2 S 108 0) 109 i) I) 108 0 = 109 := gm_Q (by omega) st rfl
      have hh : zHasQ 8 15 108 (gm L xs (110 + i) (z + 120 + i * zNf 7) (sR (s2 S 108 0) 109 i) I) 0 := gQ_8_15_0_8 (by omega) (by omega) (by rw [gm_P (by omega) st]; exact fun h => nomatch h)
      have rv : gR 109 i = some (110 + i) := by show (if i < 120 then some (110 + i) else none) = _; rw [if_pos (by omega)]
      have nw : zNew (gm L xs (110 + i) (z + 120 + i * zNf 7) (sR (s2 S 108 0) 109 i) I) (0, 7) (zNf 7) = gm L xs (110 + i + 1) (z + 120 + i * zNf 7 + zNf 7) (sR (s2 S 108 0) 109 i) I := gm_new (wS_7 (by omega)) (fun q => hI _ _ (by omega)) (fun q => by rw [sR_off (by omega), s2_off (by omega)]; exact hS _ _ (by omega))
      have g := G54 (n := n) (L := L) (xs := xs) (k := 110 + i + 1) (z := z + 120 + i * zNf 7 + zNf 7) (S := sR (s2 S 108 0) 109 i) (I := I) (a := 110 + i) (by omega) (by omega) (fun q => hI _ _ (by omega))
      have os : zOkS 109 (110 + i) (nI i) (gm L xs (110 + i + 1) (z + 120 + i * zNf 7 + zNf 7) (sR (s2 S 108 0) 109 i) I) := ⟨7, 120, 7, gm_S rfl (by omega), gm_S (wS_7 (by omega)) (by omega), win_nI (by omega) (by omega), by rw [gm_N]; omega, by rw [gm_N]; omega, by omega, by omega, by omega, by decide +kernel⟩
      have om : zOkM (gm L xs (110 + i) (z + 120 + i * zNf 7) (sR (s2 S 108 0) 109 i) I) := gm_okM (by omega)
      have e1 : z + 120 + i * zNf 7 + zNf 7 = z + 120 + (i + 1) * zNf 7 := by rw [Nat.add_mul, Nat.one_mul]; omega
      have wq : zWQ (gm L xs (110 + i + 1) (z + 120 + i * zNf 7 + zNf 7) (sR (s2 S 108 0) 109 i) I) 109 i (some (110 + i)) = gm L xs (110 + (i + 1)) (z + 120 + (i + 1) * zNf 7) (sR (s2 S 108 0) 109 (i + 1)) I := by
        rw [gm_WQ (by omega) rv, sR_s, e1]; rfl
      simp (disch := omega) only [p58_19, b58_19, c58_19, d58_19, p58_32, b58_32, p58_36, b58_36, p58_37, b58_37, wm_I, wm_X, wm_K, wm_WI, wm_HK, q0_0, q0_1, q0_2, q0_3, q0_4, q0_5, q0_6, q0_7, q0_8, q0_9, q0_10, q0_11, q354_1, q354_2, q354_3, q354_4, q354_5, q354_6, q354_7, q354_8, q354_9, q354_10, q354_17, q354_18, q354_19, q354_20, q354_21, q354_22, q354_23, q354_24, q354_25, q354_35, q354_37, q354_38, q354_39, q354_41, q354_42, q354_43, q354_44, q354_48, q354_49, q354_54, q354_55, q354_56, q4_0, q46_0, q46_1, q46_2, q46_3, q46_4, q52_0, q52_1, q52_2, q56_0, q108_0, q6_1, q6_2, q6_3, q6_4, q6_5, q6_6, q4x_0, q4x_1, q4x_2, q1, q2, q5, q57, q109, q1000007, oI_3, oT_3, oI_47, oT_47, oI_48, oT_48, oI_49, oT_49, oI_50, oT_50, oI_51, oT_51, oI_53, oT_53, oI_54, oT_54, oI_55, oT_55, oI_233, oT_233, oI_355, oT_355, oI_356, oT_356, oT_357, oI_358, oT_358, oI_359, oT_359, oI_360, oT_360, oI_361, oT_361, oT_362, oI_363, oT_363, oI_364, oT_364, oT_365, oI_366, oT_366, oI_367, oT_367, oI_368, oT_368, oI_369, oT_369, oI_370, oT_370, oI_371, oT_371, oT_372, oI_373, oT_373, oI_374, oT_374, oI_375, oT_375, oT_376, oI_377, oT_377, oT_378, oI_379, oT_379, oI_380, oT_380, oI_381, oT_381, oI_382, oT_382, oI_383, oT_383, oI_384, oT_384, oI_385, oT_385, oI_386, oT_386, oT_387, oI_S1, oT_S1, oI_S2, oT_S2, oI_S3, oT_S3, oI_S4, oT_S4, oT_S5, oI_O1, oT_O1, oI_O2, oT_O2, oI_O3, oT_O3, oI_X, oR_1, oR_2, oR_5, oR_57, oR_109, oR_K, oN_57, oN_109, oN_53, oN_233, oN_47, oN_S4, oN_O3, wM1_lt0, wM1_ge0, ↓wM1_lit, lit_nI, ofI_1, ofI_2, ofI_6, ofI_m1, kI_add, kI_mul, kI_sub, kI_le, kI_lt, kI_eq, kI_rem, kI_ne_m1, kI_m1_ne, kI_m1, tcl, z2_hit, z2_off, true_and, and_true, and_self, implies_true, if_true, if_false, not_true_eq_false, not_false_eq_true, or_true, true_or, false_or, or_false, or_self, false_and, and_false, decide_true, decide_false, Bool.false_eq_true, eq_self, ite_self, forall_const, false_implies, true_implies, ge_iff_le, gt_iff_lt, zNar_b, dLeT, dLeF, dLtT, dLtF, dEqT, dEqF, gm_N, hq, hh, om, nw, g, os, wq]
      exact ⟨y1, y2⟩
  obtain ⟨y1, y2⟩ := loop 120 n 0 (by omega) (by omega)
  have e0 : sR (s2 S 108 0) 109 0 = s2 S 108 0 := sR_0
  rw [e0, Nat.zero_mul, Nat.add_zero, Nat.add_zero] at y1 y2
  have zz := z2_zero (I := I) (a := 108) (fun i => hI 108 i (Nat.le_refl _))
  have nn := fun m => gN_109 (L := L) (xs := xs) (z := z) (S := S) (I := I) (m := m) (fun i => hI 109 i (by omega)) (fun j => hS 109 j (by omega))
  simp (disch := omega) only [b58_37, p58_37, b58_36, p58_36, b58_32, p58_32, c58_19, d58_19, b58_17, p58_17, b58_14, p58_14, b58_9, p58_9, b58_0, p58_0, gW_58_7_1_8, gV_58_15_0_8, nn, zz, gm_WI, gm_WQ (hv := (rfl : gR 108 0 = some 109)), gm_N, gm_okM, gm_okW, lit_nI, tcl, Nat.reduceAdd, true_and, and_true, and_self, y1, y2]

/-- what the sherds' loop leaves -/
def gDn (S : Nat → Nat → Bool) (I : Nat → Nat → Int32) (a : Nat) : Prop := S 1 a = true ∧ S 2 a = true ∧ (∀ j, 1 ≤ j → j ≤ 6 → S (234 + 10 * a) j = true) ∧ (∀ j, j < 3 → S (240 + 10 * a) j = true) ∧ I (234 + 10 * a) 0 = nI a ∧ I (234 + 10 * a) 9 = wM1 ∧ I (234 + 10 * a) 10 = wM1 ∧ (∀ q, q < 20 → I (234 + 10 * a + 4) q = wM1)
def gSp (c q : Nat) : Prop := 234 ≤ c ∧ c < 354 ∧ (((c - 234) % 10 = 0 ∧ (q = 0 ∨ q = 9 ∨ q = 10)) ∨ ((c - 234) % 10 = 4 ∧ q < 20))
theorem G61_L (hn : 2000 ≤ n) : ∀ (r f a z : Nat) (S : Nat → Nat → Bool) (I : Nat → Nat → Int32), r + a = 12 → r < f → (∀ b j, 234 + 10 * a ≤ b → S b j = false) → (∀ b i, 234 + 10 * a ≤ b → I b i = nI 0) → S 0 0 = true → S 0 1 = true → p61_187 n f 0 (nI a) (gm L xs (234 + 10 * a) z S I) ∧ ∃ S2 I2, b61_187 n f 0 (nI a) (gm L xs (234 + 10 * a) z S I) = gm L xs 354 (z + r * (zNf 6 + 100 + zNf 4 + 63)) S2 I2 ∧ (∀ b j, S b j = true → S2 b j = true) ∧ (∀ b j, 354 ≤ b → S2 b j = false) ∧ (∀ c, a ≤ c → c < 12 → gDn S2 I2 c) ∧ (∀ c q, ¬ (gSp c q ∧ 234 + 10 * a ≤ c) → I2 c q = I c q) := by
  intro r
  induction r with
  | zero =>
    intro f a z S I hr hf hS hI s0 s1
    obtain ⟨f, rfl⟩ : ∃ m, f = m + 1 := ⟨f - 1, by omega⟩
    have e : a = 12 := by omega
    subst e
    simp (disch := omega) only [p61_187, b61_187, c61_187, d61_187, wm_I, wm_X, wm_K, wm_WI, wm_HK, q0_0, q0_1, q0_2, q0_3, q0_4, q0_5, q0_6, q0_7, q0_8, q0_9, q0_10, q0_11, q354_1, q354_2, q354_3, q354_4, q354_5, q354_6, q354_7, q354_8, q354_9, q354_10, q354_17, q354_18, q354_19, q354_20, q354_21, q354_22, q354_23, q354_24, q354_25, q354_35, q354_37, q354_38, q354_39, q354_41, q354_42, q354_43, q354_44, q354_48, q354_49, q354_54, q354_55, q354_56, q4_0, q46_0, q46_1, q46_2, q46_3, q46_4, q52_0, q52_1, q52_2, q56_0, q108_0, q6_1, q6_2, q6_3, q6_4, q6_5, q6_6, q4x_0, q4x_1, q4x_2, q1, q2, q5, q57, q109, q1000007, oI_3, oT_3, oI_47, oT_47, oI_48, oT_48, oI_49, oT_49, oI_50, oT_50, oI_51, oT_51, oI_53, oT_53, oI_54, oT_54, oI_55, oT_55, oI_233, oT_233, oI_355, oT_355, oI_356, oT_356, oT_357, oI_358, oT_358, oI_359, oT_359, oI_360, oT_360, oI_361, oT_361, oT_362, oI_363, oT_363, oI_364, oT_364, oT_365, oI_366, oT_366, oI_367, oT_367, oI_368, oT_368, oI_369, oT_369, oI_370, oT_370, oI_371, oT_371, oT_372, oI_373, oT_373, oI_374, oT_374, oI_375, oT_375, oT_376, oI_377, oT_377, oT_378, oI_379, oT_379, oI_380, oT_380, oI_381, oT_381, oI_382, oT_382, oI_383, oT_383, oI_384, oT_384, oI_385, oT_385, oI_386, oT_386, oT_387, oI_S1, oT_S1, oI_S2, oT_S2, oI_S3, oT_S3, oI_S4, oT_S4, oT_S5, oI_O1, oT_O1, oI_O2, oT_O2, oI_O3, oT_O3, oI_X, oR_1, oR_2, oR_5, oR_57, oR_109, oR_K, oN_57, oN_109, oN_53, oN_233, oN_47, oN_S4, oN_O3, wM1_lt0, wM1_ge0, ↓wM1_lit, lit_nI, ofI_1, ofI_2, ofI_6, ofI_m1, kI_add, kI_mul, kI_sub, kI_le, kI_lt, kI_eq, kI_rem, kI_ne_m1, kI_m1_ne, kI_m1, tcl, z2_hit, z2_off, true_and, and_true, and_self, implies_true, if_true, if_false, not_true_eq_false, not_false_eq_true, or_true, true_or, false_or, or_false, or_self, false_and, and_false, decide_true, decide_false, Bool.false_eq_true, eq_self, ite_self, forall_const, false_implies, true_implies, ge_iff_le, gt_iff_lt, zNar_b, dLeT, dLeF, dLtT, dLtF, dEqT, dEqF]
    refine ⟨S, I, ?_, fun b j h => h, fun b j h => hS b j (by omega), fun c h1 h2 => by omega, fun _ _ _ => rfl⟩
    rw [Nat.zero_mul]; rfl
  | succ r ih =>
    intro f a z S I hr hf hS hI s0 s1
    obtain ⟨f, rfl⟩ : ∃ m, f = m + 1 := ⟨f - 1, by omega⟩
    have hp : 234 ≤ 234 + 10 * a ∧ 234 + 10 * a < 354 ∧ (234 + 10 * a - 234) % 10 = 0 := by omega
    have ho : 240 ≤ 234 + 10 * a + 6 ∧ 234 + 10 * a + 6 < 354 ∧ (234 + 10 * a + 6 - 234) % 10 = 6 := by omega
    generalize hP : 234 + 10 * a = p at *
    have hq0 : zQ (gm L xs p z S I) 0 0 = 1 := gm_Q (by omega) s0 rfl
    have hh0 : zHasQ 9 11 0 (gm L xs p z S I) 0 := gQ_9_11_0_9 (by omega) (by omega) (by rw [gm_P (by omega) s0]; exact fun h => nomatch h)
    have om : zOkM (gm L xs p z S I) := gm_okM (by omega)
    have nw : zNew (gm L xs p z S I) (0, 6) (zNf 6) = gm L xs (p + 1) (z + zNf 6) S I := gm_new (wS_6 hp) (fun q => hI _ _ (Nat.le_refl _)) (fun q => hS _ _ (Nat.le_refl _))
    obtain ⟨u1, I1, u2, u3, u4, u5, u6, u7⟩ := G41 (n := n) (L := L) (xs := xs) (z := z + zNf 6) (S := S) (I := I) (w := nI a) hp (fun b j h => hS b j (by omega)) hI hn
    generalize hS1 : s2 (s2 (s2 (s2 (s2 (s2 S p 1) p 2) p 3) p 4) p 5) p 6 = S1 at *
    have off1 : ∀ b j, b ≠ p → S1 b j = S b j := fun b j h => by rw [← hS1]; simp (disch := omega) only [s2_off]
    have on1 : ∀ j, 1 ≤ j → j ≤ 6 → S1 p j = true := fun j h1 h2 => by
      have hj : j = 1 ∨ j = 2 ∨ j = 3 ∨ j = 4 ∨ j = 5 ∨ j = 6 := by omega
      rw [← hS1]
      rcases hj with rfl | rfl | rfl | rfl | rfl | rfl <;> simp (disch := omega) only [s2_off, s2_hit]
    have rv1 : gR 1 a = some p := by show (if a < 12 then some (234 + 10 * a) else none) = _; rw [if_pos (by omega), hP]
    have rv2 : gR 2 a = some (p + 6) := by show (if a < 12 then some (240 + 10 * a) else none) = _; rw [if_pos (by omega), show 240 + 10 * a = p + 6 by omega]
    have os1 : zOkS 1 p (nI a) (gm L xs (p + 6) (z + zNf 6 + 100) S1 I1) := ⟨4, 12, 6, gm_S rfl (by omega), gm_S (wS_6 hp) (by omega), win_nI (by omega) (by omega), by rw [gm_N]; omega, by rw [gm_N]; omega, by omega, by omega, by omega, by decide +kernel⟩
    have wq1 : zWQ (gm L xs (p + 6) (z + zNf 6 + 100) S1 I1) 1 a (some p) = gm L xs (p + 6) (z + zNf 6 + 100) (s2 S1 1 a) I1 := gm_WQ (by omega) rv1
    have s1' : s2 S1 1 a 0 1 = true := by rw [s2_off (by omega), off1 _ _ (by omega)]; exact s1
    have hq1 : zQ (gm L xs (p + 6) (z + zNf 6 + 100) (s2 S1 1 a) I1) 0 1 = 2 := gm_Q (by omega) s1' rfl
    have hh1 : zHasQ 9 17 0 (gm L xs (p + 6) (z + zNf 6 + 100) (s2 S1 1 a) I1) 1 := gQ_9_17_1_9 (by omega) (by omega) (by rw [gm_P (by omega) s1']; exact fun h => nomatch h)
    have om1 : zOkM (gm L xs (p + 6) (z + zNf 6 + 100) (s2 S1 1 a) I1) := gm_okM (by omega)
    have hI1 : ∀ b i, p + 6 ≤ b → I1 b i = nI 0 := fun b i h => by rw [u7 b i (by omega) (by omega)]; exact hI b i (by omega)
    have hS1c : ∀ b j, p + 6 ≤ b → s2 S1 1 a b j = false := fun b j h => by rw [s2_off (by omega), off1 b j (by omega)]; exact hS b j (by omega)
    have nw1 : zNew (gm L xs (p + 6) (z + zNf 6 + 100) (s2 S1 1 a) I1) (0, 4) (zNf 4) = gm L xs (p + 6 + 1) (z + zNf 6 + 100 + zNf 4) (s2 S1 1 a) I1 := gm_new (wS_4 ho) (fun q => hI1 _ _ (Nat.le_refl _)) (fun q => hS1c _ _ (Nat.le_refl _))
    obtain ⟨v1, v2⟩ := G28 (n := n) (L := L) (xs := xs) (z := z + zNf 6 + 100 + zNf 4) (S := s2 S1 1 a) (I := I1) (p := p + 6) ho (fun b j h => hS1c b j (by omega)) hI1
    have os2 : zOkS 2 (p + 6) (nI a) (gm L xs (p + 6 + 4) (z + zNf 6 + 100 + zNf 4 + 63) (s2 (s2 (s2 (s2 S1 1 a) (p + 6) 0) (p + 6) 1) (p + 6) 2) I1) := ⟨5, 12, 4, gm_S rfl (by omega), gm_S (wS_4 ho) (by omega), win_nI (by omega) (by omega), by rw [gm_N]; omega, by rw [gm_N]; omega, by omega, by omega, by omega, by decide +kernel⟩
    have wq2 : zWQ (gm L xs (p + 6 + 4) (z + zNf 6 + 100 + zNf 4 + 63) (s2 (s2 (s2 (s2 S1 1 a) (p + 6) 0) (p + 6) 1) (p + 6) 2) I1) 2 a (some (p + 6)) = gm L xs (p + 6 + 4) (z + zNf 6 + 100 + zNf 4 + 63) (s2 (s2 (s2 (s2 (s2 S1 1 a) (p + 6) 0) (p + 6) 1) (p + 6) 2) 2 a) I1 := gm_WQ (by omega) rv2
    generalize hS2 : s2 (s2 (s2 (s2 (s2 S1 1 a) (p + 6) 0) (p + 6) 1) (p + 6) 2) 2 a = S2 at *
    have off2 : ∀ b j, b ≠ 1 → b ≠ 2 → b ≠ p → b ≠ p + 6 → S2 b j = S b j := fun b j h1 h2 h3 h4 => by
      rw [← hS2]; simp (disch := omega) only [s2_off]; exact off1 b j h3
    have up2 : ∀ b j, S b j = true → S2 b j = true := fun b j h => by
      have h1 : S1 b j = true := by
        rw [← hS1]; unfold s2
        split
        · rfl
        · split
          · rfl
          · split
            · rfl
            · split
              · rfl
              · split
                · rfl
                · split
                  · rfl
                  · exact h
      rw [← hS2]; unfold s2
      split
      · rfl
      · split
        · rfl
        · split
          · rfl
          · split
            · rfl
            · split
              · rfl
              · exact h1
    have e10 : p + 6 + 4 = 234 + 10 * (a + 1) := by omega
    obtain ⟨y1, S3, I3, y2, y3, y4, y5, y6⟩ := ih f (a + 1) (z + zNf 6 + 100 + zNf 4 + 63) S2 I1 (by omega) (by omega) (fun b j h => by rw [off2 b j (by omega) (by omega) (by omega) (by omega)]; exact hS b j (by omega)) (fun b i h => hI1 b i (by omega)) (up2 _ _ s0) (up2 _ _ s1)
    rw [← e10] at y1 y2
    have ez : z + zNf 6 + 100 + zNf 4 + 63 + r * (zNf 6 + 100 + zNf 4 + 63) = z + (r + 1) * (zNf 6 + 100 + zNf 4 + 63) := by rw [Nat.add_mul, Nat.one_mul]; omega
    rw [ez] at y2
    simp (disch := omega) only [p61_187, b61_187, c61_187, d61_187, p61_201, b61_201, p61_206, b61_206, p61_207, b61_207, p61_215, b61_215, p61_219, b61_219, p61_220, b61_220, wm_I, wm_X, wm_K, wm_WI, wm_HK, q0_0, q0_1, q0_2, q0_3, q0_4, q0_5, q0_6, q0_7, q0_8, q0_9, q0_10, q0_11, q354_1, q354_2, q354_3, q354_4, q354_5, q354_6, q354_7, q354_8, q354_9, q354_10, q354_17, q354_18, q354_19, q354_20, q354_21, q354_22, q354_23, q354_24, q354_25, q354_35, q354_37, q354_38, q354_39, q354_41, q354_42, q354_43, q354_44, q354_48, q354_49, q354_54, q354_55, q354_56, q4_0, q46_0, q46_1, q46_2, q46_3, q46_4, q52_0, q52_1, q52_2, q56_0, q108_0, q6_1, q6_2, q6_3, q6_4, q6_5, q6_6, q4x_0, q4x_1, q4x_2, q1, q2, q5, q57, q109, q1000007, oI_3, oT_3, oI_47, oT_47, oI_48, oT_48, oI_49, oT_49, oI_50, oT_50, oI_51, oT_51, oI_53, oT_53, oI_54, oT_54, oI_55, oT_55, oI_233, oT_233, oI_355, oT_355, oI_356, oT_356, oT_357, oI_358, oT_358, oI_359, oT_359, oI_360, oT_360, oI_361, oT_361, oT_362, oI_363, oT_363, oI_364, oT_364, oT_365, oI_366, oT_366, oI_367, oT_367, oI_368, oT_368, oI_369, oT_369, oI_370, oT_370, oI_371, oT_371, oT_372, oI_373, oT_373, oI_374, oT_374, oI_375, oT_375, oT_376, oI_377, oT_377, oT_378, oI_379, oT_379, oI_380, oT_380, oI_381, oT_381, oI_382, oT_382, oI_383, oT_383, oI_384, oT_384, oI_385, oT_385, oI_386, oT_386, oT_387, oI_S1, oT_S1, oI_S2, oT_S2, oI_S3, oT_S3, oI_S4, oT_S4, oT_S5, oI_O1, oT_O1, oI_O2, oT_O2, oI_O3, oT_O3, oI_X, oR_1, oR_2, oR_5, oR_57, oR_109, oR_K, oN_57, oN_109, oN_53, oN_233, oN_47, oN_S4, oN_O3, wM1_lt0, wM1_ge0, ↓wM1_lit, lit_nI, ofI_1, ofI_2, ofI_6, ofI_m1, kI_add, kI_mul, kI_sub, kI_le, kI_lt, kI_eq, kI_rem, kI_ne_m1, kI_m1_ne, kI_m1, tcl, z2_hit, z2_off, true_and, and_true, and_self, implies_true, if_true, if_false, not_true_eq_false, not_false_eq_true, or_true, true_or, false_or, or_false, or_self, false_and, and_false, decide_true, decide_false, Bool.false_eq_true, eq_self, ite_self, forall_const, false_implies, true_implies, ge_iff_le, gt_iff_lt, zNar_b, dLeT, dLeF, dLtT, dLtF, dEqT, dEqF, gm_N, hq0, hh0, om, nw, u1, u2, os1, wq1, hq1, hh1, om1, nw1, v1, v2, os2, wq2]
    refine ⟨y1, S3, I3, y2, fun b j h => y3 b j (up2 b j h), y4, fun c h1 h2 => ?_, fun c q h => ?_⟩
    · by_cases e : c = a
      · subst e
        have keep : ∀ q, I3 p q = I1 p q := fun q => y6 p q (by omega)
        have keep4 : ∀ q, I3 (p + 4) q = I1 (p + 4) q := fun q => y6 (p + 4) q (by omega)
        unfold gDn
        rw [hP, show 240 + 10 * c = p + 6 by omega]
        refine ⟨y3 _ _ (by rw [← hS2]; simp (disch := omega) only [s2_off, s2_hit]), y3 _ _ (by rw [← hS2]; simp (disch := omega) only [s2_off, s2_hit]), fun j g1 g2 => y3 _ _ (by rw [← hS2]; simp (disch := omega) only [s2_off]; exact on1 j g1 g2), fun j g1 => y3 _ _ (by
          have hj : j = 0 ∨ j = 1 ∨ j = 2 := by omega
          rw [← hS2]
          rcases hj with rfl | rfl | rfl <;> simp (disch := omega) only [s2_off, s2_hit]), (keep _).trans u3, (keep _).trans u4, (keep _).trans u5, fun q hq => (keep4 _).trans (u6 q hq)⟩
      · exact y5 c (by omega) h2
    · have h' : ¬ (gSp c q ∧ 234 + 10 * (a + 1) ≤ c) := fun g => h ⟨g.1, by omega⟩
      rw [y6 c q h']
      exact u7 c q (fun g => h ⟨by unfold gSp; omega, by omega⟩) (fun g => h ⟨by unfold gSp; omega, by omega⟩)
end GL
