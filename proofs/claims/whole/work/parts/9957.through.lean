/-! through, orders, order: the reference's side. -/
/-- what a walk through all spans keeps and does with each -/
def wTr (n : Nat) (how : Int32) (V : wV) (s : wG) (T : List wSp → (Nat → Nat → Int32) → Prop) : Prop :=
  (∀ L I, T L I → rR I s) ∧ (∀ L I I2, T L I → (∀ c k, (c ≠ 354 ∨ (k ≠ 27 ∧ k ≠ 28 ∧ k ≠ 29 ∧ k ≠ 32 ∧ k ≠ 33 ∧ k ≠ 34)) → I2 c k = I c k) → T L I2) ∧
  (∀ L I x, T L I → wOkC s x → (∀ y ∈ L, wCode y < wCode x) → I 354 32 = nI (spN x) → I 354 33 = nI (spL x) → I 354 34 = spM x →
    p179_0 n 354 (nI (spA x)) (nI (spI x)) (nI (spB x)) (nI (spJ x)) how (wm V I) ∧ ∃ I1 r, b179_0 n 354 (nI (spA x)) (nI (spI x)) (nI (spB x)) (nI (spJ x)) how (wm V I) = (r, wm V I1) ∧ ((r = nI 0 ∨ ¬ how = nI 1) → T (L ++ [x]) I1) ∧ (¬ r = nI 0 → how = nI 1 → p181_0 n 354 (nI (spA x)) (nI (spI x)) (nI (spB x)) (nI (spJ x)) (nI (spT x)) (wm V I1) ∧ ∃ I2, b181_0 n 354 (nI (spA x)) (nI (spI x)) (nI (spB x)) (nI (spJ x)) (nI (spT x)) (wm V I1) = wm V I2 ∧ T (L ++ [x]) I2))
section CS
variable {V : wV} {I : Nat → Nat → Int32} {s : wG} {n a b i j : Nat} {how : Int32} {T : List wSp → (Nat → Nat → Int32) → Prop}
theorem B180_65 (hW : wW s) (hT : wTr n how V s T) (hab : a < b) (hb : b < wMny s) (ca : s 357 a = 1) (cb : s 357 b = 1) (hi : i < wStp s a) (hj : j < wStp s b) (hn : 100 ≤ n) (L : List wSp) (hL : ∀ y ∈ L, wCode y < (((a * 12 + b) * 20 + i) * 20 + j) * 24) {k2 : Nat → Int32 → Int32 → zM → zM} {qq2 : Nat → Int32 → Int32 → zM → Prop} {k14 : Nat → Int32 → Int32 → Int32 → zM → zM} {q14 : Nat → Int32 → Int32 → Int32 → zM → Prop} {k37 : Nat → Int32 → Int32 → Int32 → Int32 → zM → zM} {q37 : Nat → Int32 → Int32 → Int32 → Int32 → zM → Prop} {k51 : Nat → Int32 → Int32 → Int32 → Int32 → Int32 → zM → zM} {q51 : Nat → Int32 → Int32 → Int32 → Int32 → Int32 → zM → Prop} : ∀ (r f t : Nat) (I : Nat → Nat → Int32), r + t = 24 → r < f → T (L ++ wL3 s a i b j t) I →
    ∃ I2, T (L ++ wL3 s a i b j 24) I2 ∧ (q51 354 how (nI a) (nI b) (nI i) (nI (j + 1)) (wm V I2) → p180_65 n qq2 q14 q37 q51 f 354 how (nI a) (nI b) (nI i) (nI j) (nI t) (wm V I)) ∧ b180_65 n k2 k14 k37 k51 f 354 how (nI a) (nI b) (nI i) (nI j) (nI t) (wm V I) = k51 354 how (nI a) (nI b) (nI i) (nI (j + 1)) (wm V I2) := by
  have hmm := hW.mny1
  have st2 := hW.stp1 (a := b) (by omega)
  intro r
  induction r with
  | zero =>
    intro f t I hr hf h
    obtain ⟨f, rfl⟩ : ∃ m, f = m + 1 := ⟨f - 1, by omega⟩
    have e : t = 24 := by omega
    subst e
    refine ⟨I, h, ?_⟩
    simp (disch := omega) only [p180_65, b180_65, c180_65, d180_65, aC_180_217_144_10, aC_180_240_148_10, aC_180_320_179_10, aC_180_323_181_10, aI_10_148_0_10, aQ_10_13_2_10, wm_I, wm_X, wm_K, wm_WI, wm_HK, q0_0, q0_1, q0_2, q0_3, q0_4, q0_5, q0_6, q0_7, q0_8, q0_9, q0_10, q0_11, q354_1, q354_2, q354_3, q354_4, q354_5, q354_6, q354_7, q354_8, q354_9, q354_10, q354_17, q354_18, q354_19, q354_20, q354_21, q354_22, q354_23, q354_24, q354_25, q354_35, q354_37, q354_38, q354_39, q354_41, q354_42, q354_43, q354_44, q354_48, q354_49, q354_54, q354_55, q354_56, q4_0, q46_0, q46_1, q46_2, q46_3, q46_4, q52_0, q52_1, q52_2, q56_0, q108_0, q6_1, q6_2, q6_3, q6_4, q6_5, q6_6, q4x_0, q4x_1, q4x_2, q1, q2, q5, q57, q109, q1000007, oI_3, oT_3, oI_47, oT_47, oI_48, oT_48, oI_49, oT_49, oI_50, oT_50, oI_51, oT_51, oI_53, oT_53, oI_54, oT_54, oI_55, oT_55, oI_233, oT_233, oI_355, oT_355, oI_356, oT_356, oT_357, oI_358, oT_358, oI_359, oT_359, oI_360, oT_360, oI_361, oT_361, oT_362, oI_363, oT_363, oI_364, oT_364, oT_365, oI_366, oT_366, oI_367, oT_367, oI_368, oT_368, oI_369, oT_369, oI_370, oT_370, oI_371, oT_371, oT_372, oI_373, oT_373, oI_374, oT_374, oI_375, oT_375, oT_376, oI_377, oT_377, oT_378, oI_379, oT_379, oI_380, oT_380, oI_381, oT_381, oI_382, oT_382, oI_383, oT_383, oI_384, oT_384, oI_385, oT_385, oI_386, oT_386, oT_387, oI_S1, oT_S1, oI_S2, oT_S2, oI_S3, oT_S3, oI_S4, oT_S4, oT_S5, oI_O1, oT_O1, oI_O2, oT_O2, oI_O3, oT_O3, oI_X, oR_1, oR_2, oR_5, oR_57, oR_109, oR_K, oN_57, oN_109, oN_53, oN_233, oN_47, oN_S4, oN_O3, wM1_lt0, wM1_ge0, ↓wM1_lit, lit_nI, ofI_1, ofI_2, ofI_6, ofI_m1, kI_add, kI_mul, kI_sub, kI_le, kI_lt, kI_eq, kI_rem, kI_ne_m1, kI_m1_ne, kI_m1, tcl, z2_hit, z2_off, true_and, and_true, and_self, implies_true, if_true, if_false, not_true_eq_false, not_false_eq_true, or_true, true_or, false_or, or_false, or_self, false_and, and_false, decide_true, decide_false, Bool.false_eq_true, eq_self, ite_self, forall_const, false_implies, true_implies, ge_iff_le, gt_iff_lt, zNar_b, dLeT, dLeF, dLtT, dLtF, dEqT, dEqF]
    exact fun h => h
  | succ r ih =>
    intro f t I hr hf h
    obtain ⟨f, rfl⟩ : ∃ m, f = m + 1 := ⟨f - 1, by omega⟩
    obtain ⟨t1, t2, t3⟩ := id hT
    obtain ⟨u1, I1, u2, u3, u4⟩ := B148 (n := n) (V := V) hW (t1 _ _ h) (show a < wMny s by omega) hb hi hj (show t < 24 by omega) hn
    have h1 := t2 _ _ _ h u4
    by_cases hs : wIsSp s a i b j t = true
    · rw [if_pos hs] at u2
      obtain ⟨v1, v2, v3⟩ := u3 hs
      have eL : L ++ wL3 s a i b j (t + 1) = L ++ wL3 s a i b j t ++ [wMes s a i b j t] := by rw [wL3, if_pos hs, List.append_assoc]
      have hcode : ∀ y ∈ L ++ wL3 s a i b j t, wCode y < wCode (wMes s a i b j t) := by
        intro y hy
        rw [(wMes_ok hW hab hb hi hj (show t < 24 by omega)).2.2]
        rcases List.mem_append.mp hy with hy | hy
        · have := hL y hy; omega
        · obtain ⟨t', g1, _, rfl⟩ := wL3_mem hy
          rw [(wMes_ok hW hab hb hi hj (show t' < 24 by omega)).2.2]; omega
      obtain ⟨w1, I2, rr, w2, w3, w4⟩ := t3 _ I1 (wMes s a i b j t) h1 ⟨hab, hb, hi, hj, by show t < 24; omega, rfl, hs, ca, cb⟩ hcode v1 v2 v3
      have w1' : p179_0 n 354 (nI a) (nI i) (nI b) (nI j) how (wm V I1) := w1
      have w2' : b179_0 n 354 (nI a) (nI i) (nI b) (nI j) how (wm V I1) = (rr, wm V I2) := w2
      by_cases c1 : rr = nI 0
      · have hT2 := w3 (Or.inl c1)
        rw [← eL] at hT2
        obtain ⟨I3, y1, y2, y3⟩ := ih f (t + 1) I2 (by omega) (by omega) hT2
        refine ⟨I3, y1, ?_⟩
        simp (disch := omega) only [p180_65, b180_65, c180_65, d180_65, p180_84, b180_84, p180_98, b180_98, p180_118, b180_118, aC_180_217_144_10, aC_180_240_148_10, aC_180_320_179_10, aC_180_323_181_10, aI_10_148_0_10, aQ_10_13_2_10, wm_I, wm_X, wm_K, wm_WI, wm_HK, q0_0, q0_1, q0_2, q0_3, q0_4, q0_5, q0_6, q0_7, q0_8, q0_9, q0_10, q0_11, q354_1, q354_2, q354_3, q354_4, q354_5, q354_6, q354_7, q354_8, q354_9, q354_10, q354_17, q354_18, q354_19, q354_20, q354_21, q354_22, q354_23, q354_24, q354_25, q354_35, q354_37, q354_38, q354_39, q354_41, q354_42, q354_43, q354_44, q354_48, q354_49, q354_54, q354_55, q354_56, q4_0, q46_0, q46_1, q46_2, q46_3, q46_4, q52_0, q52_1, q52_2, q56_0, q108_0, q6_1, q6_2, q6_3, q6_4, q6_5, q6_6, q4x_0, q4x_1, q4x_2, q1, q2, q5, q57, q109, q1000007, oI_3, oT_3, oI_47, oT_47, oI_48, oT_48, oI_49, oT_49, oI_50, oT_50, oI_51, oT_51, oI_53, oT_53, oI_54, oT_54, oI_55, oT_55, oI_233, oT_233, oI_355, oT_355, oI_356, oT_356, oT_357, oI_358, oT_358, oI_359, oT_359, oI_360, oT_360, oI_361, oT_361, oT_362, oI_363, oT_363, oI_364, oT_364, oT_365, oI_366, oT_366, oI_367, oT_367, oI_368, oT_368, oI_369, oT_369, oI_370, oT_370, oI_371, oT_371, oT_372, oI_373, oT_373, oI_374, oT_374, oI_375, oT_375, oT_376, oI_377, oT_377, oT_378, oI_379, oT_379, oI_380, oT_380, oI_381, oT_381, oI_382, oT_382, oI_383, oT_383, oI_384, oT_384, oI_385, oT_385, oI_386, oT_386, oT_387, oI_S1, oT_S1, oI_S2, oT_S2, oI_S3, oT_S3, oI_S4, oT_S4, oT_S5, oI_O1, oT_O1, oI_O2, oT_O2, oI_O3, oT_O3, oI_X, oR_1, oR_2, oR_5, oR_57, oR_109, oR_K, oN_57, oN_109, oN_53, oN_233, oN_47, oN_S4, oN_O3, wM1_lt0, wM1_ge0, ↓wM1_lit, lit_nI, ofI_1, ofI_2, ofI_6, ofI_m1, kI_add, kI_mul, kI_sub, kI_le, kI_lt, kI_eq, kI_rem, kI_ne_m1, kI_m1_ne, kI_m1, tcl, z2_hit, z2_off, true_and, and_true, and_self, implies_true, if_true, if_false, not_true_eq_false, not_false_eq_true, or_true, true_or, false_or, or_false, or_self, false_and, and_false, decide_true, decide_false, Bool.false_eq_true, eq_self, ite_self, forall_const, false_implies, true_implies, ge_iff_le, gt_iff_lt, zNar_b, dLeT, dLeF, dLtT, dLtF, dEqT, dEqF, u1, u2, w1', w2', c1]
        exact ⟨y2, y3⟩
      · by_cases c2 : how = nI 1
        · obtain ⟨z1, I3, z2', z3⟩ := w4 c1 c2
          have z1' : p181_0 n 354 (nI a) (nI i) (nI b) (nI j) (nI t) (wm V I2) := z1
          have z2'' : b181_0 n 354 (nI a) (nI i) (nI b) (nI j) (nI t) (wm V I2) = wm V I3 := z2'
          rw [← eL] at z3
          obtain ⟨I4, y1, y2, y3⟩ := ih f (t + 1) I3 (by omega) (by omega) z3
          refine ⟨I4, y1, ?_⟩
          subst c2
          simp (disch := omega) only [p180_65, b180_65, c180_65, d180_65, p180_84, b180_84, p180_98, b180_98, p180_118, b180_118, aC_180_217_144_10, aC_180_240_148_10, aC_180_320_179_10, aC_180_323_181_10, aI_10_148_0_10, aQ_10_13_2_10, wm_I, wm_X, wm_K, wm_WI, wm_HK, q0_0, q0_1, q0_2, q0_3, q0_4, q0_5, q0_6, q0_7, q0_8, q0_9, q0_10, q0_11, q354_1, q354_2, q354_3, q354_4, q354_5, q354_6, q354_7, q354_8, q354_9, q354_10, q354_17, q354_18, q354_19, q354_20, q354_21, q354_22, q354_23, q354_24, q354_25, q354_35, q354_37, q354_38, q354_39, q354_41, q354_42, q354_43, q354_44, q354_48, q354_49, q354_54, q354_55, q354_56, q4_0, q46_0, q46_1, q46_2, q46_3, q46_4, q52_0, q52_1, q52_2, q56_0, q108_0, q6_1, q6_2, q6_3, q6_4, q6_5, q6_6, q4x_0, q4x_1, q4x_2, q1, q2, q5, q57, q109, q1000007, oI_3, oT_3, oI_47, oT_47, oI_48, oT_48, oI_49, oT_49, oI_50, oT_50, oI_51, oT_51, oI_53, oT_53, oI_54, oT_54, oI_55, oT_55, oI_233, oT_233, oI_355, oT_355, oI_356, oT_356, oT_357, oI_358, oT_358, oI_359, oT_359, oI_360, oT_360, oI_361, oT_361, oT_362, oI_363, oT_363, oI_364, oT_364, oT_365, oI_366, oT_366, oI_367, oT_367, oI_368, oT_368, oI_369, oT_369, oI_370, oT_370, oI_371, oT_371, oT_372, oI_373, oT_373, oI_374, oT_374, oI_375, oT_375, oT_376, oI_377, oT_377, oT_378, oI_379, oT_379, oI_380, oT_380, oI_381, oT_381, oI_382, oT_382, oI_383, oT_383, oI_384, oT_384, oI_385, oT_385, oI_386, oT_386, oT_387, oI_S1, oT_S1, oI_S2, oT_S2, oI_S3, oT_S3, oI_S4, oT_S4, oT_S5, oI_O1, oT_O1, oI_O2, oT_O2, oI_O3, oT_O3, oI_X, oR_1, oR_2, oR_5, oR_57, oR_109, oR_K, oN_57, oN_109, oN_53, oN_233, oN_47, oN_S4, oN_O3, wM1_lt0, wM1_ge0, ↓wM1_lit, lit_nI, ofI_1, ofI_2, ofI_6, ofI_m1, kI_add, kI_mul, kI_sub, kI_le, kI_lt, kI_eq, kI_rem, kI_ne_m1, kI_m1_ne, kI_m1, tcl, z2_hit, z2_off, true_and, and_true, and_self, implies_true, if_true, if_false, not_true_eq_false, not_false_eq_true, or_true, true_or, false_or, or_false, or_self, false_and, and_false, decide_true, decide_false, Bool.false_eq_true, eq_self, ite_self, forall_const, false_implies, true_implies, ge_iff_le, gt_iff_lt, zNar_b, dLeT, dLeF, dLtT, dLtF, dEqT, dEqF, u1, u2, w1', w2', c1, z1', z2'']
          exact ⟨y2, y3⟩
        · have hT2 := w3 (Or.inr c2)
          rw [← eL] at hT2
          obtain ⟨I3, y1, y2, y3⟩ := ih f (t + 1) I2 (by omega) (by omega) hT2
          refine ⟨I3, y1, ?_⟩
          simp (disch := omega) only [p180_65, b180_65, c180_65, d180_65, p180_84, b180_84, p180_98, b180_98, p180_118, b180_118, aC_180_217_144_10, aC_180_240_148_10, aC_180_320_179_10, aC_180_323_181_10, aI_10_148_0_10, aQ_10_13_2_10, wm_I, wm_X, wm_K, wm_WI, wm_HK, q0_0, q0_1, q0_2, q0_3, q0_4, q0_5, q0_6, q0_7, q0_8, q0_9, q0_10, q0_11, q354_1, q354_2, q354_3, q354_4, q354_5, q354_6, q354_7, q354_8, q354_9, q354_10, q354_17, q354_18, q354_19, q354_20, q354_21, q354_22, q354_23, q354_24, q354_25, q354_35, q354_37, q354_38, q354_39, q354_41, q354_42, q354_43, q354_44, q354_48, q354_49, q354_54, q354_55, q354_56, q4_0, q46_0, q46_1, q46_2, q46_3, q46_4, q52_0, q52_1, q52_2, q56_0, q108_0, q6_1, q6_2, q6_3, q6_4, q6_5, q6_6, q4x_0, q4x_1, q4x_2, q1, q2, q5, q57, q109, q1000007, oI_3, oT_3, oI_47, oT_47, oI_48, oT_48, oI_49, oT_49, oI_50, oT_50, oI_51, oT_51, oI_53, oT_53, oI_54, oT_54, oI_55, oT_55, oI_233, oT_233, oI_355, oT_355, oI_356, oT_356, oT_357, oI_358, oT_358, oI_359, oT_359, oI_360, oT_360, oI_361, oT_361, oT_362, oI_363, oT_363, oI_364, oT_364, oT_365, oI_366, oT_366, oI_367, oT_367, oI_368, oT_368, oI_369, oT_369, oI_370, oT_370, oI_371, oT_371, oT_372, oI_373, oT_373, oI_374, oT_374, oI_375, oT_375, oT_376, oI_377, oT_377, oT_378, oI_379, oT_379, oI_380, oT_380, oI_381, oT_381, oI_382, oT_382, oI_383, oT_383, oI_384, oT_384, oI_385, oT_385, oI_386, oT_386, oT_387, oI_S1, oT_S1, oI_S2, oT_S2, oI_S3, oT_S3, oI_S4, oT_S4, oT_S5, oI_O1, oT_O1, oI_O2, oT_O2, oI_O3, oT_O3, oI_X, oR_1, oR_2, oR_5, oR_57, oR_109, oR_K, oN_57, oN_109, oN_53, oN_233, oN_47, oN_S4, oN_O3, wM1_lt0, wM1_ge0, ↓wM1_lit, lit_nI, ofI_1, ofI_2, ofI_6, ofI_m1, kI_add, kI_mul, kI_sub, kI_le, kI_lt, kI_eq, kI_rem, kI_ne_m1, kI_m1_ne, kI_m1, tcl, z2_hit, z2_off, true_and, and_true, and_self, implies_true, if_true, if_false, not_true_eq_false, not_false_eq_true, or_true, true_or, false_or, or_false, or_self, false_and, and_false, decide_true, decide_false, Bool.false_eq_true, eq_self, ite_self, forall_const, false_implies, true_implies, ge_iff_le, gt_iff_lt, zNar_b, dLeT, dLeF, dLtT, dLtF, dEqT, dEqF, u1, u2, w1', w2', c1, c2]
          exact ⟨y2, y3⟩
    · rw [if_neg hs] at u2
      have eL : L ++ wL3 s a i b j (t + 1) = L ++ wL3 s a i b j t := by rw [wL3, if_neg hs, List.append_nil]
      obtain ⟨I3, y1, y2, y3⟩ := ih f (t + 1) I1 (by omega) (by omega) (by rw [eL]; exact h1)
      refine ⟨I3, y1, ?_⟩
      simp (disch := omega) only [p180_65, b180_65, c180_65, d180_65, p180_84, b180_84, p180_118, b180_118, aC_180_217_144_10, aC_180_240_148_10, aC_180_320_179_10, aC_180_323_181_10, aI_10_148_0_10, aQ_10_13_2_10, wm_I, wm_X, wm_K, wm_WI, wm_HK, q0_0, q0_1, q0_2, q0_3, q0_4, q0_5, q0_6, q0_7, q0_8, q0_9, q0_10, q0_11, q354_1, q354_2, q354_3, q354_4, q354_5, q354_6, q354_7, q354_8, q354_9, q354_10, q354_17, q354_18, q354_19, q354_20, q354_21, q354_22, q354_23, q354_24, q354_25, q354_35, q354_37, q354_38, q354_39, q354_41, q354_42, q354_43, q354_44, q354_48, q354_49, q354_54, q354_55, q354_56, q4_0, q46_0, q46_1, q46_2, q46_3, q46_4, q52_0, q52_1, q52_2, q56_0, q108_0, q6_1, q6_2, q6_3, q6_4, q6_5, q6_6, q4x_0, q4x_1, q4x_2, q1, q2, q5, q57, q109, q1000007, oI_3, oT_3, oI_47, oT_47, oI_48, oT_48, oI_49, oT_49, oI_50, oT_50, oI_51, oT_51, oI_53, oT_53, oI_54, oT_54, oI_55, oT_55, oI_233, oT_233, oI_355, oT_355, oI_356, oT_356, oT_357, oI_358, oT_358, oI_359, oT_359, oI_360, oT_360, oI_361, oT_361, oT_362, oI_363, oT_363, oI_364, oT_364, oT_365, oI_366, oT_366, oI_367, oT_367, oI_368, oT_368, oI_369, oT_369, oI_370, oT_370, oI_371, oT_371, oT_372, oI_373, oT_373, oI_374, oT_374, oI_375, oT_375, oT_376, oI_377, oT_377, oT_378, oI_379, oT_379, oI_380, oT_380, oI_381, oT_381, oI_382, oT_382, oI_383, oT_383, oI_384, oT_384, oI_385, oT_385, oI_386, oT_386, oT_387, oI_S1, oT_S1, oI_S2, oT_S2, oI_S3, oT_S3, oI_S4, oT_S4, oT_S5, oI_O1, oT_O1, oI_O2, oT_O2, oI_O3, oT_O3, oI_X, oR_1, oR_2, oR_5, oR_57, oR_109, oR_K, oN_57, oN_109, oN_53, oN_233, oN_47, oN_S4, oN_O3, wM1_lt0, wM1_ge0, ↓wM1_lit, lit_nI, ofI_1, ofI_2, ofI_6, ofI_m1, kI_add, kI_mul, kI_sub, kI_le, kI_lt, kI_eq, kI_rem, kI_ne_m1, kI_m1_ne, kI_m1, tcl, z2_hit, z2_off, true_and, and_true, and_self, implies_true, if_true, if_false, not_true_eq_false, not_false_eq_true, or_true, true_or, false_or, or_false, or_self, false_and, and_false, decide_true, decide_false, Bool.false_eq_true, eq_self, ite_self, forall_const, false_implies, true_implies, ge_iff_le, gt_iff_lt, zNar_b, dLeT, dLeF, dLtT, dLtF, dEqT, dEqF, u1, u2]
      exact ⟨y2, y3⟩
theorem B180_51 (hW : wW s) (hT : wTr n how V s T) (hab : a < b) (hb : b < wMny s) (ca : s 357 a = 1) (cb : s 357 b = 1) (hi : i < wStp s a) (hn : 100 ≤ n) (L : List wSp) (hL : ∀ y ∈ L, wCode y < (((a * 12 + b) * 20 + i) * 20) * 24) {k2 : Nat → Int32 → Int32 → zM → zM} {qq2 : Nat → Int32 → Int32 → zM → Prop} {k14 : Nat → Int32 → Int32 → Int32 → zM → zM} {q14 : Nat → Int32 → Int32 → Int32 → zM → Prop} {k37 : Nat → Int32 → Int32 → Int32 → Int32 → zM → zM} {q37 : Nat → Int32 → Int32 → Int32 → Int32 → zM → Prop} : ∀ (r f j : Nat) (I : Nat → Nat → Int32), r + j = wStp s b → r < f → T (L ++ wL2 s a i b j) I →
    ∃ I2, T (L ++ wL2 s a i b (wStp s b)) I2 ∧ (q37 354 how (nI a) (nI b) (nI (i + 1)) (wm V I2) → p180_51 n qq2 q14 q37 f 354 how (nI a) (nI b) (nI i) (nI j) (wm V I)) ∧ b180_51 n k2 k14 k37 f 354 how (nI a) (nI b) (nI i) (nI j) (wm V I) = k37 354 how (nI a) (nI b) (nI (i + 1)) (wm V I2) := by
  have hmm := hW.mny1
  have st1 := hW.stp1 (a := a) (by omega)
  have st2 := hW.stp1 (a := b) (by omega)
  intro r
  induction r with
  | zero =>
    intro f j I hr hf h
    obtain ⟨f, rfl⟩ : ∃ m, f = m + 1 := ⟨f - 1, by omega⟩
    have e : j = wStp s b := by omega
    subst e
    refine ⟨I, h, ?_⟩
    have s0 := (hT.1 _ _ h).st0 (a := b) (by omega)
    simp (disch := omega) only [p180_51, b180_51, c180_51, d180_51, aC_180_217_144_10, aC_180_240_148_10, aC_180_320_179_10, aC_180_323_181_10, aI_10_148_0_10, aQ_10_13_2_10, wm_I, wm_X, wm_K, wm_WI, wm_HK, q0_0, q0_1, q0_2, q0_3, q0_4, q0_5, q0_6, q0_7, q0_8, q0_9, q0_10, q0_11, q354_1, q354_2, q354_3, q354_4, q354_5, q354_6, q354_7, q354_8, q354_9, q354_10, q354_17, q354_18, q354_19, q354_20, q354_21, q354_22, q354_23, q354_24, q354_25, q354_35, q354_37, q354_38, q354_39, q354_41, q354_42, q354_43, q354_44, q354_48, q354_49, q354_54, q354_55, q354_56, q4_0, q46_0, q46_1, q46_2, q46_3, q46_4, q52_0, q52_1, q52_2, q56_0, q108_0, q6_1, q6_2, q6_3, q6_4, q6_5, q6_6, q4x_0, q4x_1, q4x_2, q1, q2, q5, q57, q109, q1000007, oI_3, oT_3, oI_47, oT_47, oI_48, oT_48, oI_49, oT_49, oI_50, oT_50, oI_51, oT_51, oI_53, oT_53, oI_54, oT_54, oI_55, oT_55, oI_233, oT_233, oI_355, oT_355, oI_356, oT_356, oT_357, oI_358, oT_358, oI_359, oT_359, oI_360, oT_360, oI_361, oT_361, oT_362, oI_363, oT_363, oI_364, oT_364, oT_365, oI_366, oT_366, oI_367, oT_367, oI_368, oT_368, oI_369, oT_369, oI_370, oT_370, oI_371, oT_371, oT_372, oI_373, oT_373, oI_374, oT_374, oI_375, oT_375, oT_376, oI_377, oT_377, oT_378, oI_379, oT_379, oI_380, oT_380, oI_381, oT_381, oI_382, oT_382, oI_383, oT_383, oI_384, oT_384, oI_385, oT_385, oI_386, oT_386, oT_387, oI_S1, oT_S1, oI_S2, oT_S2, oI_S3, oT_S3, oI_S4, oT_S4, oT_S5, oI_O1, oT_O1, oI_O2, oT_O2, oI_O3, oT_O3, oI_X, oR_1, oR_2, oR_5, oR_57, oR_109, oR_K, oN_57, oN_109, oN_53, oN_233, oN_47, oN_S4, oN_O3, wM1_lt0, wM1_ge0, ↓wM1_lit, lit_nI, ofI_1, ofI_2, ofI_6, ofI_m1, kI_add, kI_mul, kI_sub, kI_le, kI_lt, kI_eq, kI_rem, kI_ne_m1, kI_m1_ne, kI_m1, tcl, z2_hit, z2_off, true_and, and_true, and_self, implies_true, if_true, if_false, not_true_eq_false, not_false_eq_true, or_true, true_or, false_or, or_false, or_self, false_and, and_false, decide_true, decide_false, Bool.false_eq_true, eq_self, ite_self, forall_const, false_implies, true_implies, ge_iff_le, gt_iff_lt, zNar_b, dLeT, dLeF, dLtT, dLtF, dEqT, dEqF, s0]
    exact fun h => h
  | succ r ih =>
    intro f j I hr hf h
    obtain ⟨f, rfl⟩ : ∃ m, f = m + 1 := ⟨f - 1, by omega⟩
    have s0 := (hT.1 _ _ h).st0 (a := b) (by omega)
    obtain ⟨I2, u1, u2, u3⟩ := B180_65 (n := n) (V := V) (k2 := k2) (qq2 := qq2) (k14 := k14) (q14 := q14) (k37 := k37) (q37 := q37) (k51 := b180_51 n k2 k14 k37 f) (q51 := p180_51 n qq2 q14 q37 f) hW hT hab hb ca cb hi (show j < wStp s b by omega) hn (L ++ wL2 s a i b j) (fun y hy => by
      rcases List.mem_append.mp hy with hy | hy
      · have := hL y hy; omega
      · obtain ⟨j', t', g1, g2, _, rfl⟩ := wL2_mem hy
        rw [(wMes_ok hW hab hb hi (show j' < wStp s b by omega) g2).2.2]; omega) 24 n 0 I (by omega) (by omega) (by
      have e : L ++ wL2 s a i b j ++ wL3 s a i b j 0 = L ++ wL2 s a i b j := by rw [wL3, List.append_nil]
      rw [e]; exact h)
    have eL : L ++ wL2 s a i b (j + 1) = L ++ wL2 s a i b j ++ wL3 s a i b j 24 := by rw [wL2, List.append_assoc]
    obtain ⟨I3, y1, y2, y3⟩ := ih f (j + 1) I2 (by omega) (by omega) (by rw [eL]; exact u1)
    refine ⟨I3, y1, ?_⟩
    simp (disch := omega) only [p180_51, b180_51, c180_51, d180_51, aC_180_217_144_10, aC_180_240_148_10, aC_180_320_179_10, aC_180_323_181_10, aI_10_148_0_10, aQ_10_13_2_10, wm_I, wm_X, wm_K, wm_WI, wm_HK, q0_0, q0_1, q0_2, q0_3, q0_4, q0_5, q0_6, q0_7, q0_8, q0_9, q0_10, q0_11, q354_1, q354_2, q354_3, q354_4, q354_5, q354_6, q354_7, q354_8, q354_9, q354_10, q354_17, q354_18, q354_19, q354_20, q354_21, q354_22, q354_23, q354_24, q354_25, q354_35, q354_37, q354_38, q354_39, q354_41, q354_42, q354_43, q354_44, q354_48, q354_49, q354_54, q354_55, q354_56, q4_0, q46_0, q46_1, q46_2, q46_3, q46_4, q52_0, q52_1, q52_2, q56_0, q108_0, q6_1, q6_2, q6_3, q6_4, q6_5, q6_6, q4x_0, q4x_1, q4x_2, q1, q2, q5, q57, q109, q1000007, oI_3, oT_3, oI_47, oT_47, oI_48, oT_48, oI_49, oT_49, oI_50, oT_50, oI_51, oT_51, oI_53, oT_53, oI_54, oT_54, oI_55, oT_55, oI_233, oT_233, oI_355, oT_355, oI_356, oT_356, oT_357, oI_358, oT_358, oI_359, oT_359, oI_360, oT_360, oI_361, oT_361, oT_362, oI_363, oT_363, oI_364, oT_364, oT_365, oI_366, oT_366, oI_367, oT_367, oI_368, oT_368, oI_369, oT_369, oI_370, oT_370, oI_371, oT_371, oT_372, oI_373, oT_373, oI_374, oT_374, oI_375, oT_375, oT_376, oI_377, oT_377, oT_378, oI_379, oT_379, oI_380, oT_380, oI_381, oT_381, oI_382, oT_382, oI_383, oT_383, oI_384, oT_384, oI_385, oT_385, oI_386, oT_386, oT_387, oI_S1, oT_S1, oI_S2, oT_S2, oI_S3, oT_S3, oI_S4, oT_S4, oT_S5, oI_O1, oT_O1, oI_O2, oT_O2, oI_O3, oT_O3, oI_X, oR_1, oR_2, oR_5, oR_57, oR_109, oR_K, oN_57, oN_109, oN_53, oN_233, oN_47, oN_S4, oN_O3, wM1_lt0, wM1_ge0, ↓wM1_lit, lit_nI, ofI_1, ofI_2, ofI_6, ofI_m1, kI_add, kI_mul, kI_sub, kI_le, kI_lt, kI_eq, kI_rem, kI_ne_m1, kI_m1_ne, kI_m1, tcl, z2_hit, z2_off, true_and, and_true, and_self, implies_true, if_true, if_false, not_true_eq_false, not_false_eq_true, or_true, true_or, false_or, or_false, or_self, false_and, and_false, decide_true, decide_false, Bool.false_eq_true, eq_self, ite_self, forall_const, false_implies, true_implies, ge_iff_le, gt_iff_lt, zNar_b, dLeT, dLeF, dLtT, dLtF, dEqT, dEqF, s0, u3]
    exact ⟨fun h => u2 (y2 h), y3⟩
theorem B180_37 (hW : wW s) (hT : wTr n how V s T) (hab : a < b) (hb : b < wMny s) (ca : s 357 a = 1) (cb : s 357 b = 1) (hn : 100 ≤ n) (L : List wSp) (hL : ∀ y ∈ L, wCode y < (((a * 12 + b) * 20) * 20) * 24) {k2 : Nat → Int32 → Int32 → zM → zM} {qq2 : Nat → Int32 → Int32 → zM → Prop} {k14 : Nat → Int32 → Int32 → Int32 → zM → zM} {q14 : Nat → Int32 → Int32 → Int32 → zM → Prop} : ∀ (r f i : Nat) (I : Nat → Nat → Int32), r + i = wStp s a → r < f → T (L ++ wL1 s a b i) I →
    ∃ I2, T (L ++ wSps s a b) I2 ∧ (q14 354 how (nI a) (nI (b + 1)) (wm V I2) → p180_37 n qq2 q14 f 354 how (nI a) (nI b) (nI i) (wm V I)) ∧ b180_37 n k2 k14 f 354 how (nI a) (nI b) (nI i) (wm V I) = k14 354 how (nI a) (nI (b + 1)) (wm V I2) := by
  have hmm := hW.mny1
  have st1 := hW.stp1 (a := a) (by omega)
  have st2 := hW.stp1 (a := b) (by omega)
  intro r
  induction r with
  | zero =>
    intro f i I hr hf h
    obtain ⟨f, rfl⟩ : ∃ m, f = m + 1 := ⟨f - 1, by omega⟩
    have e : i = wStp s a := by omega
    subst e
    refine ⟨I, h, ?_⟩
    have s0 := (hT.1 _ _ h).st0 (a := a) (by omega)
    simp (disch := omega) only [p180_37, b180_37, c180_37, d180_37, p180_136, b180_136, aC_180_217_144_10, aC_180_240_148_10, aC_180_320_179_10, aC_180_323_181_10, aI_10_148_0_10, aQ_10_13_2_10, wm_I, wm_X, wm_K, wm_WI, wm_HK, q0_0, q0_1, q0_2, q0_3, q0_4, q0_5, q0_6, q0_7, q0_8, q0_9, q0_10, q0_11, q354_1, q354_2, q354_3, q354_4, q354_5, q354_6, q354_7, q354_8, q354_9, q354_10, q354_17, q354_18, q354_19, q354_20, q354_21, q354_22, q354_23, q354_24, q354_25, q354_35, q354_37, q354_38, q354_39, q354_41, q354_42, q354_43, q354_44, q354_48, q354_49, q354_54, q354_55, q354_56, q4_0, q46_0, q46_1, q46_2, q46_3, q46_4, q52_0, q52_1, q52_2, q56_0, q108_0, q6_1, q6_2, q6_3, q6_4, q6_5, q6_6, q4x_0, q4x_1, q4x_2, q1, q2, q5, q57, q109, q1000007, oI_3, oT_3, oI_47, oT_47, oI_48, oT_48, oI_49, oT_49, oI_50, oT_50, oI_51, oT_51, oI_53, oT_53, oI_54, oT_54, oI_55, oT_55, oI_233, oT_233, oI_355, oT_355, oI_356, oT_356, oT_357, oI_358, oT_358, oI_359, oT_359, oI_360, oT_360, oI_361, oT_361, oT_362, oI_363, oT_363, oI_364, oT_364, oT_365, oI_366, oT_366, oI_367, oT_367, oI_368, oT_368, oI_369, oT_369, oI_370, oT_370, oI_371, oT_371, oT_372, oI_373, oT_373, oI_374, oT_374, oI_375, oT_375, oT_376, oI_377, oT_377, oT_378, oI_379, oT_379, oI_380, oT_380, oI_381, oT_381, oI_382, oT_382, oI_383, oT_383, oI_384, oT_384, oI_385, oT_385, oI_386, oT_386, oT_387, oI_S1, oT_S1, oI_S2, oT_S2, oI_S3, oT_S3, oI_S4, oT_S4, oT_S5, oI_O1, oT_O1, oI_O2, oT_O2, oI_O3, oT_O3, oI_X, oR_1, oR_2, oR_5, oR_57, oR_109, oR_K, oN_57, oN_109, oN_53, oN_233, oN_47, oN_S4, oN_O3, wM1_lt0, wM1_ge0, ↓wM1_lit, lit_nI, ofI_1, ofI_2, ofI_6, ofI_m1, kI_add, kI_mul, kI_sub, kI_le, kI_lt, kI_eq, kI_rem, kI_ne_m1, kI_m1_ne, kI_m1, tcl, z2_hit, z2_off, true_and, and_true, and_self, implies_true, if_true, if_false, not_true_eq_false, not_false_eq_true, or_true, true_or, false_or, or_false, or_self, false_and, and_false, decide_true, decide_false, Bool.false_eq_true, eq_self, ite_self, forall_const, false_implies, true_implies, ge_iff_le, gt_iff_lt, zNar_b, dLeT, dLeF, dLtT, dLtF, dEqT, dEqF, s0]
    exact fun h => h
  | succ r ih =>
    intro f i I hr hf h
    obtain ⟨f, rfl⟩ : ∃ m, f = m + 1 := ⟨f - 1, by omega⟩
    have s0 := (hT.1 _ _ h).st0 (a := a) (by omega)
    obtain ⟨I2, u1, u2, u3⟩ := B180_51 (n := n) (V := V) (k2 := k2) (qq2 := qq2) (k14 := k14) (q14 := q14) (k37 := b180_37 n k2 k14 f) (q37 := p180_37 n qq2 q14 f) hW hT hab hb ca cb (show i < wStp s a by omega) hn (L ++ wL1 s a b i) (fun y hy => by
      rcases List.mem_append.mp hy with hy | hy
      · have := hL y hy; omega
      · obtain ⟨i', j', t', g1, g2, g3, _, rfl⟩ := wL1_mem hy
        rw [(wMes_ok hW hab hb (show i' < wStp s a by omega) g2 g3).2.2]; omega) (wStp s b) n 0 I (by omega) (by omega) (by
      have e : L ++ wL1 s a b i ++ wL2 s a i b 0 = L ++ wL1 s a b i := by rw [wL2, List.append_nil]
      rw [e]; exact h)
    have eL : L ++ wL1 s a b (i + 1) = L ++ wL1 s a b i ++ wL2 s a i b (wStp s b) := by rw [wL1, List.append_assoc]
    obtain ⟨I3, y1, y2, y3⟩ := ih f (i + 1) I2 (by omega) (by omega) (by rw [eL]; exact u1)
    refine ⟨I3, y1, ?_⟩
    simp (disch := omega) only [p180_37, b180_37, c180_37, d180_37, aC_180_217_144_10, aC_180_240_148_10, aC_180_320_179_10, aC_180_323_181_10, aI_10_148_0_10, aQ_10_13_2_10, wm_I, wm_X, wm_K, wm_WI, wm_HK, q0_0, q0_1, q0_2, q0_3, q0_4, q0_5, q0_6, q0_7, q0_8, q0_9, q0_10, q0_11, q354_1, q354_2, q354_3, q354_4, q354_5, q354_6, q354_7, q354_8, q354_9, q354_10, q354_17, q354_18, q354_19, q354_20, q354_21, q354_22, q354_23, q354_24, q354_25, q354_35, q354_37, q354_38, q354_39, q354_41, q354_42, q354_43, q354_44, q354_48, q354_49, q354_54, q354_55, q354_56, q4_0, q46_0, q46_1, q46_2, q46_3, q46_4, q52_0, q52_1, q52_2, q56_0, q108_0, q6_1, q6_2, q6_3, q6_4, q6_5, q6_6, q4x_0, q4x_1, q4x_2, q1, q2, q5, q57, q109, q1000007, oI_3, oT_3, oI_47, oT_47, oI_48, oT_48, oI_49, oT_49, oI_50, oT_50, oI_51, oT_51, oI_53, oT_53, oI_54, oT_54, oI_55, oT_55, oI_233, oT_233, oI_355, oT_355, oI_356, oT_356, oT_357, oI_358, oT_358, oI_359, oT_359, oI_360, oT_360, oI_361, oT_361, oT_362, oI_363, oT_363, oI_364, oT_364, oT_365, oI_366, oT_366, oI_367, oT_367, oI_368, oT_368, oI_369, oT_369, oI_370, oT_370, oI_371, oT_371, oT_372, oI_373, oT_373, oI_374, oT_374, oI_375, oT_375, oT_376, oI_377, oT_377, oT_378, oI_379, oT_379, oI_380, oT_380, oI_381, oT_381, oI_382, oT_382, oI_383, oT_383, oI_384, oT_384, oI_385, oT_385, oI_386, oT_386, oT_387, oI_S1, oT_S1, oI_S2, oT_S2, oI_S3, oT_S3, oI_S4, oT_S4, oT_S5, oI_O1, oT_O1, oI_O2, oT_O2, oI_O3, oT_O3, oI_X, oR_1, oR_2, oR_5, oR_57, oR_109, oR_K, oN_57, oN_109, oN_53, oN_233, oN_47, oN_S4, oN_O3, wM1_lt0, wM1_ge0, ↓wM1_lit, lit_nI, ofI_1, ofI_2, ofI_6, ofI_m1, kI_add, kI_mul, kI_sub, kI_le, kI_lt, kI_eq, kI_rem, kI_ne_m1, kI_m1_ne, kI_m1, tcl, z2_hit, z2_off, true_and, and_true, and_self, implies_true, if_true, if_false, not_true_eq_false, not_false_eq_true, or_true, true_or, false_or, or_false, or_self, false_and, and_false, decide_true, decide_false, Bool.false_eq_true, eq_self, ite_self, forall_const, false_implies, true_implies, ge_iff_le, gt_iff_lt, zNar_b, dLeT, dLeF, dLtT, dLtF, dEqT, dEqF, s0, u3]
    exact ⟨fun h => u2 (y2 h), y3⟩
theorem wPair_nI (hW : wW s) (ha : a < wMny s) (hb : b < wMny s) (hab : a < b) : wPair s (nI a) (nI b) = decide (s 357 a = 1 ∧ s 357 b = 1) := by
  have hm := hW.mny1
  unfold wPair wCl
  rw [wIn_nI (by omega) (by omega), wIn_nI (by omega) (by omega), tcl (by omega), tcl (by omega), decide_eq_true ha, decide_eq_true hb]
  have hne : ¬ nI a = nI b := by rw [kI_eq (by omega) (by omega)]; omega
  rw [decide_eq_true hne]
  by_cases c1 : s 357 a = 1 <;> by_cases c2 : s 357 b = 1 <;> simp [c1, c2]
theorem B180_14 (hW : wW s) (hT : wTr n how V s T) (ha : a < wMny s) (hn : 100 ≤ n) {k2 : Nat → Int32 → Int32 → zM → zM} {qq2 : Nat → Int32 → Int32 → zM → Prop} : ∀ (r f b : Nat) (I : Nat → Nat → Int32), r + b = wMny s → r < f → a < b → T (wAa s a ++ wAb s a b) I →
    ∃ I2, T (wAa s a ++ wAb s a (wMny s)) I2 ∧ (qq2 354 how (nI (a + 1)) (wm V I2) → p180_14 n qq2 f 354 how (nI a) (nI b) (wm V I)) ∧ b180_14 n k2 f 354 how (nI a) (nI b) (wm V I) = k2 354 how (nI (a + 1)) (wm V I2) := by
  have hmm := hW.mny1
  have st1 := hW.stp1 (a := a) (by omega)
  intro r
  induction r with
  | zero =>
    intro f b I hr hf hab h
    obtain ⟨f, rfl⟩ : ∃ m, f = m + 1 := ⟨f - 1, by omega⟩
    have e : b = wMny s := by omega
    subst e
    refine ⟨I, h, ?_⟩
    have n0 := (hT.1 _ _ h).mny0
    simp (disch := omega) only [p180_14, b180_14, c180_14, d180_14, aC_180_217_144_10, aC_180_240_148_10, aC_180_320_179_10, aC_180_323_181_10, aI_10_148_0_10, aQ_10_13_2_10, wm_I, wm_X, wm_K, wm_WI, wm_HK, q0_0, q0_1, q0_2, q0_3, q0_4, q0_5, q0_6, q0_7, q0_8, q0_9, q0_10, q0_11, q354_1, q354_2, q354_3, q354_4, q354_5, q354_6, q354_7, q354_8, q354_9, q354_10, q354_17, q354_18, q354_19, q354_20, q354_21, q354_22, q354_23, q354_24, q354_25, q354_35, q354_37, q354_38, q354_39, q354_41, q354_42, q354_43, q354_44, q354_48, q354_49, q354_54, q354_55, q354_56, q4_0, q46_0, q46_1, q46_2, q46_3, q46_4, q52_0, q52_1, q52_2, q56_0, q108_0, q6_1, q6_2, q6_3, q6_4, q6_5, q6_6, q4x_0, q4x_1, q4x_2, q1, q2, q5, q57, q109, q1000007, oI_3, oT_3, oI_47, oT_47, oI_48, oT_48, oI_49, oT_49, oI_50, oT_50, oI_51, oT_51, oI_53, oT_53, oI_54, oT_54, oI_55, oT_55, oI_233, oT_233, oI_355, oT_355, oI_356, oT_356, oT_357, oI_358, oT_358, oI_359, oT_359, oI_360, oT_360, oI_361, oT_361, oT_362, oI_363, oT_363, oI_364, oT_364, oT_365, oI_366, oT_366, oI_367, oT_367, oI_368, oT_368, oI_369, oT_369, oI_370, oT_370, oI_371, oT_371, oT_372, oI_373, oT_373, oI_374, oT_374, oI_375, oT_375, oT_376, oI_377, oT_377, oT_378, oI_379, oT_379, oI_380, oT_380, oI_381, oT_381, oI_382, oT_382, oI_383, oT_383, oI_384, oT_384, oI_385, oT_385, oI_386, oT_386, oT_387, oI_S1, oT_S1, oI_S2, oT_S2, oI_S3, oT_S3, oI_S4, oT_S4, oT_S5, oI_O1, oT_O1, oI_O2, oT_O2, oI_O3, oT_O3, oI_X, oR_1, oR_2, oR_5, oR_57, oR_109, oR_K, oN_57, oN_109, oN_53, oN_233, oN_47, oN_S4, oN_O3, wM1_lt0, wM1_ge0, ↓wM1_lit, lit_nI, ofI_1, ofI_2, ofI_6, ofI_m1, kI_add, kI_mul, kI_sub, kI_le, kI_lt, kI_eq, kI_rem, kI_ne_m1, kI_m1_ne, kI_m1, tcl, z2_hit, z2_off, true_and, and_true, and_self, implies_true, if_true, if_false, not_true_eq_false, not_false_eq_true, or_true, true_or, false_or, or_false, or_self, false_and, and_false, decide_true, decide_false, Bool.false_eq_true, eq_self, ite_self, forall_const, false_implies, true_implies, ge_iff_le, gt_iff_lt, zNar_b, dLeT, dLeF, dLtT, dLtF, dEqT, dEqF, n0]
    exact fun h => h
  | succ r ih =>
    intro f b I hr hf hab h
    obtain ⟨f, rfl⟩ : ∃ m, f = m + 1 := ⟨f - 1, by omega⟩
    have n0 := (hT.1 _ _ h).mny0
    have e144 := B144 (n := n) (V := V) (x := nI a) (y := nI b) hW (hT.1 _ _ h)
    rw [wPair_nI hW ha (by omega) hab] at e144
    by_cases hc : s 357 a = 1 ∧ s 357 b = 1
    · rw [decide_eq_true hc, if_pos rfl] at e144
      obtain ⟨I2, u1, u2, u3⟩ := B180_37 (n := n) (V := V) (k2 := k2) (qq2 := qq2) (k14 := b180_14 n k2 f) (q14 := p180_14 n qq2 f) hW hT hab (by omega) hc.1 hc.2 hn (wAa s a ++ wAb s a b) (fun y hy => by
        rcases List.mem_append.mp hy with hy | hy
        · obtain ⟨g1, g2⟩ := wAa_in hy
          obtain ⟨o1, o2, o3, o4, o5, _⟩ := (g1.sp hW).1
          unfold wCode; omega
        · obtain ⟨g1, g2, g3⟩ := wAb_in (by omega) hy
          obtain ⟨o1, o2, o3, o4, o5, _⟩ := (g1.sp hW).1
          unfold wCode; omega) (wStp s a) n 0 I (by omega) (by omega) (by
        have e : wAa s a ++ wAb s a b ++ wL1 s a b 0 = wAa s a ++ wAb s a b := by rw [wL1, List.append_nil]
        rw [e]; exact h)
      have eL : wAa s a ++ wAb s a (b + 1) = wAa s a ++ wAb s a b ++ wSps s a b := by rw [wAb, if_pos ⟨hab, hc⟩, List.append_assoc]
      obtain ⟨I3, y1, y2, y3⟩ := ih f (b + 1) I2 (by omega) (by omega) (by omega) (by rw [eL]; exact u1)
      refine ⟨I3, y1, ?_⟩
      simp (disch := omega) only [p180_14, b180_14, c180_14, d180_14, p180_28, b180_28, aC_180_217_144_10, aC_180_240_148_10, aC_180_320_179_10, aC_180_323_181_10, aI_10_148_0_10, aQ_10_13_2_10, wm_I, wm_X, wm_K, wm_WI, wm_HK, q0_0, q0_1, q0_2, q0_3, q0_4, q0_5, q0_6, q0_7, q0_8, q0_9, q0_10, q0_11, q354_1, q354_2, q354_3, q354_4, q354_5, q354_6, q354_7, q354_8, q354_9, q354_10, q354_17, q354_18, q354_19, q354_20, q354_21, q354_22, q354_23, q354_24, q354_25, q354_35, q354_37, q354_38, q354_39, q354_41, q354_42, q354_43, q354_44, q354_48, q354_49, q354_54, q354_55, q354_56, q4_0, q46_0, q46_1, q46_2, q46_3, q46_4, q52_0, q52_1, q52_2, q56_0, q108_0, q6_1, q6_2, q6_3, q6_4, q6_5, q6_6, q4x_0, q4x_1, q4x_2, q1, q2, q5, q57, q109, q1000007, oI_3, oT_3, oI_47, oT_47, oI_48, oT_48, oI_49, oT_49, oI_50, oT_50, oI_51, oT_51, oI_53, oT_53, oI_54, oT_54, oI_55, oT_55, oI_233, oT_233, oI_355, oT_355, oI_356, oT_356, oT_357, oI_358, oT_358, oI_359, oT_359, oI_360, oT_360, oI_361, oT_361, oT_362, oI_363, oT_363, oI_364, oT_364, oT_365, oI_366, oT_366, oI_367, oT_367, oI_368, oT_368, oI_369, oT_369, oI_370, oT_370, oI_371, oT_371, oT_372, oI_373, oT_373, oI_374, oT_374, oI_375, oT_375, oT_376, oI_377, oT_377, oT_378, oI_379, oT_379, oI_380, oT_380, oI_381, oT_381, oI_382, oT_382, oI_383, oT_383, oI_384, oT_384, oI_385, oT_385, oI_386, oT_386, oT_387, oI_S1, oT_S1, oI_S2, oT_S2, oI_S3, oT_S3, oI_S4, oT_S4, oT_S5, oI_O1, oT_O1, oI_O2, oT_O2, oI_O3, oT_O3, oI_X, oR_1, oR_2, oR_5, oR_57, oR_109, oR_K, oN_57, oN_109, oN_53, oN_233, oN_47, oN_S4, oN_O3, wM1_lt0, wM1_ge0, ↓wM1_lit, lit_nI, ofI_1, ofI_2, ofI_6, ofI_m1, kI_add, kI_mul, kI_sub, kI_le, kI_lt, kI_eq, kI_rem, kI_ne_m1, kI_m1_ne, kI_m1, tcl, z2_hit, z2_off, true_and, and_true, and_self, implies_true, if_true, if_false, not_true_eq_false, not_false_eq_true, or_true, true_or, false_or, or_false, or_self, false_and, and_false, decide_true, decide_false, Bool.false_eq_true, eq_self, ite_self, forall_const, false_implies, true_implies, ge_iff_le, gt_iff_lt, zNar_b, dLeT, dLeF, dLtT, dLtF, dEqT, dEqF, n0, e144, u3]
      exact ⟨fun h => u2 (y2 h), y3⟩
    · rw [decide_eq_false hc, if_neg Bool.false_ne_true] at e144
      have eL : wAa s a ++ wAb s a (b + 1) = wAa s a ++ wAb s a b := by rw [wAb, if_neg (fun h => hc h.2), List.append_nil]
      obtain ⟨I3, y1, y2, y3⟩ := ih f (b + 1) I (by omega) (by omega) (by omega) (by rw [eL]; exact h)
      refine ⟨I3, y1, ?_⟩
      simp (disch := omega) only [p180_14, b180_14, c180_14, d180_14, p180_28, b180_28, p180_136, b180_136, aC_180_217_144_10, aC_180_240_148_10, aC_180_320_179_10, aC_180_323_181_10, aI_10_148_0_10, aQ_10_13_2_10, wm_I, wm_X, wm_K, wm_WI, wm_HK, q0_0, q0_1, q0_2, q0_3, q0_4, q0_5, q0_6, q0_7, q0_8, q0_9, q0_10, q0_11, q354_1, q354_2, q354_3, q354_4, q354_5, q354_6, q354_7, q354_8, q354_9, q354_10, q354_17, q354_18, q354_19, q354_20, q354_21, q354_22, q354_23, q354_24, q354_25, q354_35, q354_37, q354_38, q354_39, q354_41, q354_42, q354_43, q354_44, q354_48, q354_49, q354_54, q354_55, q354_56, q4_0, q46_0, q46_1, q46_2, q46_3, q46_4, q52_0, q52_1, q52_2, q56_0, q108_0, q6_1, q6_2, q6_3, q6_4, q6_5, q6_6, q4x_0, q4x_1, q4x_2, q1, q2, q5, q57, q109, q1000007, oI_3, oT_3, oI_47, oT_47, oI_48, oT_48, oI_49, oT_49, oI_50, oT_50, oI_51, oT_51, oI_53, oT_53, oI_54, oT_54, oI_55, oT_55, oI_233, oT_233, oI_355, oT_355, oI_356, oT_356, oT_357, oI_358, oT_358, oI_359, oT_359, oI_360, oT_360, oI_361, oT_361, oT_362, oI_363, oT_363, oI_364, oT_364, oT_365, oI_366, oT_366, oI_367, oT_367, oI_368, oT_368, oI_369, oT_369, oI_370, oT_370, oI_371, oT_371, oT_372, oI_373, oT_373, oI_374, oT_374, oI_375, oT_375, oT_376, oI_377, oT_377, oT_378, oI_379, oT_379, oI_380, oT_380, oI_381, oT_381, oI_382, oT_382, oI_383, oT_383, oI_384, oT_384, oI_385, oT_385, oI_386, oT_386, oT_387, oI_S1, oT_S1, oI_S2, oT_S2, oI_S3, oT_S3, oI_S4, oT_S4, oT_S5, oI_O1, oT_O1, oI_O2, oT_O2, oI_O3, oT_O3, oI_X, oR_1, oR_2, oR_5, oR_57, oR_109, oR_K, oN_57, oN_109, oN_53, oN_233, oN_47, oN_S4, oN_O3, wM1_lt0, wM1_ge0, ↓wM1_lit, lit_nI, ofI_1, ofI_2, ofI_6, ofI_m1, kI_add, kI_mul, kI_sub, kI_le, kI_lt, kI_eq, kI_rem, kI_ne_m1, kI_m1_ne, kI_m1, tcl, z2_hit, z2_off, true_and, and_true, and_self, implies_true, if_true, if_false, not_true_eq_false, not_false_eq_true, or_true, true_or, false_or, or_false, or_self, false_and, and_false, decide_true, decide_false, Bool.false_eq_true, eq_self, ite_self, forall_const, false_implies, true_implies, ge_iff_le, gt_iff_lt, zNar_b, dLeT, dLeF, dLtT, dLtF, dEqT, dEqF, n0, e144]
      exact ⟨y2, y3⟩
/-- through -/
theorem B180 (hW : wW s) (hT : wTr n how V s T) (hn : 100 ≤ n) (h : T [] I) : p180_0 n 354 how (wm V I) ∧ ∃ I2, b180_0 n 354 how (wm V I) = wm V I2 ∧ T (wSpa s) I2 := by
  have hmm := hW.mny1
  have outer : ∀ (r f a : Nat) (I : Nat → Nat → Int32), r + a = wMny s → r < f → T (wAa s a) I → p180_2 n f 354 how (nI a) (wm V I) ∧ ∃ I2, b180_2 n f 354 how (nI a) (wm V I) = wm V I2 ∧ T (wSpa s) I2 := by
    intro r
    induction r with
    | zero =>
      intro f a I hr hf h
      obtain ⟨f, rfl⟩ : ∃ m, f = m + 1 := ⟨f - 1, by omega⟩
      have e : a = wMny s := by omega
      subst e
      have n0 := (hT.1 _ _ h).mny0
      simp (disch := omega) only [p180_2, b180_2, c180_2, d180_2, aC_180_217_144_10, aC_180_240_148_10, aC_180_320_179_10, aC_180_323_181_10, aI_10_148_0_10, aQ_10_13_2_10, wm_I, wm_X, wm_K, wm_WI, wm_HK, q0_0, q0_1, q0_2, q0_3, q0_4, q0_5, q0_6, q0_7, q0_8, q0_9, q0_10, q0_11, q354_1, q354_2, q354_3, q354_4, q354_5, q354_6, q354_7, q354_8, q354_9, q354_10, q354_17, q354_18, q354_19, q354_20, q354_21, q354_22, q354_23, q354_24, q354_25, q354_35, q354_37, q354_38, q354_39, q354_41, q354_42, q354_43, q354_44, q354_48, q354_49, q354_54, q354_55, q354_56, q4_0, q46_0, q46_1, q46_2, q46_3, q46_4, q52_0, q52_1, q52_2, q56_0, q108_0, q6_1, q6_2, q6_3, q6_4, q6_5, q6_6, q4x_0, q4x_1, q4x_2, q1, q2, q5, q57, q109, q1000007, oI_3, oT_3, oI_47, oT_47, oI_48, oT_48, oI_49, oT_49, oI_50, oT_50, oI_51, oT_51, oI_53, oT_53, oI_54, oT_54, oI_55, oT_55, oI_233, oT_233, oI_355, oT_355, oI_356, oT_356, oT_357, oI_358, oT_358, oI_359, oT_359, oI_360, oT_360, oI_361, oT_361, oT_362, oI_363, oT_363, oI_364, oT_364, oT_365, oI_366, oT_366, oI_367, oT_367, oI_368, oT_368, oI_369, oT_369, oI_370, oT_370, oI_371, oT_371, oT_372, oI_373, oT_373, oI_374, oT_374, oI_375, oT_375, oT_376, oI_377, oT_377, oT_378, oI_379, oT_379, oI_380, oT_380, oI_381, oT_381, oI_382, oT_382, oI_383, oT_383, oI_384, oT_384, oI_385, oT_385, oI_386, oT_386, oT_387, oI_S1, oT_S1, oI_S2, oT_S2, oI_S3, oT_S3, oI_S4, oT_S4, oT_S5, oI_O1, oT_O1, oI_O2, oT_O2, oI_O3, oT_O3, oI_X, oR_1, oR_2, oR_5, oR_57, oR_109, oR_K, oN_57, oN_109, oN_53, oN_233, oN_47, oN_S4, oN_O3, wM1_lt0, wM1_ge0, ↓wM1_lit, lit_nI, ofI_1, ofI_2, ofI_6, ofI_m1, kI_add, kI_mul, kI_sub, kI_le, kI_lt, kI_eq, kI_rem, kI_ne_m1, kI_m1_ne, kI_m1, tcl, z2_hit, z2_off, true_and, and_true, and_self, implies_true, if_true, if_false, not_true_eq_false, not_false_eq_true, or_true, true_or, false_or, or_false, or_self, false_and, and_false, decide_true, decide_false, Bool.false_eq_true, eq_self, ite_self, forall_const, false_implies, true_implies, ge_iff_le, gt_iff_lt, zNar_b, dLeT, dLeF, dLtT, dLtF, dEqT, dEqF, n0]
      exact ⟨I, rfl, h⟩
    | succ r ih =>
      intro f a I hr hf h
      obtain ⟨f, rfl⟩ : ∃ m, f = m + 1 := ⟨f - 1, by omega⟩
      have n0 := (hT.1 _ _ h).mny0
      obtain ⟨I2, u1, u2, u3⟩ := B180_14 (n := n) (V := V) (k2 := b180_2 n f) (qq2 := p180_2 n f) hW hT (show a < wMny s by omega) hn (wMny s - (a + 1)) n (a + 1) I (by omega) (by omega) (by omega) (by rw [wAb_nil (a + 1) (Nat.le_refl _), List.append_nil]; exact h)
      obtain ⟨y1, I3, y2, y3⟩ := ih f (a + 1) I2 (by omega) (by omega) u1
      simp (disch := omega) only [p180_2, b180_2, c180_2, d180_2, aC_180_217_144_10, aC_180_240_148_10, aC_180_320_179_10, aC_180_323_181_10, aI_10_148_0_10, aQ_10_13_2_10, wm_I, wm_X, wm_K, wm_WI, wm_HK, q0_0, q0_1, q0_2, q0_3, q0_4, q0_5, q0_6, q0_7, q0_8, q0_9, q0_10, q0_11, q354_1, q354_2, q354_3, q354_4, q354_5, q354_6, q354_7, q354_8, q354_9, q354_10, q354_17, q354_18, q354_19, q354_20, q354_21, q354_22, q354_23, q354_24, q354_25, q354_35, q354_37, q354_38, q354_39, q354_41, q354_42, q354_43, q354_44, q354_48, q354_49, q354_54, q354_55, q354_56, q4_0, q46_0, q46_1, q46_2, q46_3, q46_4, q52_0, q52_1, q52_2, q56_0, q108_0, q6_1, q6_2, q6_3, q6_4, q6_5, q6_6, q4x_0, q4x_1, q4x_2, q1, q2, q5, q57, q109, q1000007, oI_3, oT_3, oI_47, oT_47, oI_48, oT_48, oI_49, oT_49, oI_50, oT_50, oI_51, oT_51, oI_53, oT_53, oI_54, oT_54, oI_55, oT_55, oI_233, oT_233, oI_355, oT_355, oI_356, oT_356, oT_357, oI_358, oT_358, oI_359, oT_359, oI_360, oT_360, oI_361, oT_361, oT_362, oI_363, oT_363, oI_364, oT_364, oT_365, oI_366, oT_366, oI_367, oT_367, oI_368, oT_368, oI_369, oT_369, oI_370, oT_370, oI_371, oT_371, oT_372, oI_373, oT_373, oI_374, oT_374, oI_375, oT_375, oT_376, oI_377, oT_377, oT_378, oI_379, oT_379, oI_380, oT_380, oI_381, oT_381, oI_382, oT_382, oI_383, oT_383, oI_384, oT_384, oI_385, oT_385, oI_386, oT_386, oT_387, oI_S1, oT_S1, oI_S2, oT_S2, oI_S3, oT_S3, oI_S4, oT_S4, oT_S5, oI_O1, oT_O1, oI_O2, oT_O2, oI_O3, oT_O3, oI_X, oR_1, oR_2, oR_5, oR_57, oR_109, oR_K, oN_57, oN_109, oN_53, oN_233, oN_47, oN_S4, oN_O3, wM1_lt0, wM1_ge0, ↓wM1_lit, lit_nI, ofI_1, ofI_2, ofI_6, ofI_m1, kI_add, kI_mul, kI_sub, kI_le, kI_lt, kI_eq, kI_rem, kI_ne_m1, kI_m1_ne, kI_m1, tcl, z2_hit, z2_off, true_and, and_true, and_self, implies_true, if_true, if_false, not_true_eq_false, not_false_eq_true, or_true, true_or, false_or, or_false, or_self, false_and, and_false, decide_true, decide_false, Bool.false_eq_true, eq_self, ite_self, forall_const, false_implies, true_implies, ge_iff_le, gt_iff_lt, zNar_b, dLeT, dLeF, dLtT, dLtF, dEqT, dEqF, n0, u3, y2]
      exact ⟨u2 y1, I3, rfl, y3⟩
  exact outer (wMny s) n 0 I (by omega) (by omega) h
/-- the first walk: the longest -/
def wT0 (s : wG) (I0 : Nat → Nat → Int32) (L : List wSp) (I : Nat → Nat → Int32) : Prop := wRv I (clA s L) ∧ (∀ z ∈ L, 1 ≤ spL z ∧ spL z ≤ 240) ∧ (∀ c k, c ≠ 384 → c ≠ 385 → (c ≠ 354 ∨ (k ≠ 27 ∧ k ≠ 28 ∧ k ≠ 29 ∧ k ≠ 32 ∧ k ≠ 33 ∧ k ≠ 34)) → I c k = I0 c k)
theorem wT0_tr {I0 : Nat → Nat → Int32} (hW : wW s) (hR : rR I0 s) (hn : 100 ≤ n) : wTr n (nI 0) V s (wT0 s I0) := by
  refine ⟨fun L I h => hR.congr (fun c k g => h.2.2 c k (by unfold wPM at g; omega) (by unfold wPM at g; omega) (by unfold wPM at g; omega)), fun L I I2 h g => ⟨fun k hk => ?_, h.2.1, fun c k g1 g2 g3 => by rw [g c k g3, h.2.2 c k g1 g2 g3]⟩, ?_⟩
  · rw [g _ _ (by omega), g _ _ (by omega)]; exact h.1 k hk
  · intro L I x h hx hcode i32 i33 i34
    have xb := hx.xb hW
    have xl := (hx.sp hW).2.2.1
    have hR1 : rR I s := hR.congr (fun c k g => h.2.2 c k (by unfold wPM at g; omega) (by unfold wPM at g; omega) (by unfold wPM at g; omega))
    obtain ⟨u1, I1, u2, u3, u4⟩ := B179_0 (n := n) (V := V) xb (fun a ha => hR1.st0 ha) i32 i33 (fun k => (clA_le (s := s) L h.2.1 k).1) h.1 hn
    refine ⟨u1, I1, nI 1, u2, fun _ => ⟨by rw [clA_snoc]; exact u3, ?_, fun c k g1 g2 g3 => by rw [u4 c k g1 g2, h.2.2 c k g1 g2 g3]⟩, fun _ h2 => absurd h2 (by decide)⟩
    intro z hz
    rcases List.mem_append.mp hz with hz | hz
    · exact h.2.1 z hz
    · have e : z = x := by simpa using hz
      subst e; exact ⟨xl, xb.2.2.2.2.2.2.2.2.1⟩
theorem wFdl_len (cap : Nat) : ∀ (L : List wSp) (l : wLs), (L.foldl (fun l x => wIns cap x l) l).1 ≤ l.1 + L.length
  | [], l => Nat.le_refl _
  | x :: t, l => by
    have := wFdl_len cap t (wIns cap x l)
    have e : (wIns cap x l).1 = min (l.1 + 1) cap := rfl
    show (t.foldl (fun l x => wIns cap x l) (wIns cap x l)).1 ≤ _
    rw [List.length_cons]; omega
theorem wFdl_in {cap : Nat} {L : List wSp} {k : Nat} (h : k < (wFdl cap L).1) : (wFdl cap L).2 k ∈ L := by
  rcases foldl_mem (cap := cap) L _ _ ⟨k, h, rfl⟩ with h | ⟨q, hq, _⟩
  · exact h
  · exact absurd hq (Nat.not_lt_zero q)
theorem wL3_has {t' : Nat} (hs : wIsSp s a i b j t' = true) : ∀ t, t' < t → wMes s a i b j t' ∈ wL3 s a i b j t
  | 0, h => absurd h (Nat.not_lt_zero t')
  | t + 1, h => by
    rw [wL3, List.mem_append]
    by_cases e : t' = t
    · subst e; right; rw [if_pos hs]; simp
    · left; exact wL3_has hs t (by omega)
theorem wL2_has {x : wSp} {j' : Nat} (hx : x ∈ wL3 s a i b j' 24) : ∀ j, j' < j → x ∈ wL2 s a i b j
  | 0, h => absurd h (Nat.not_lt_zero j')
  | j + 1, h => by
    rw [wL2, List.mem_append]
    by_cases e : j' = j
    · subst e; right; exact hx
    · left; exact wL2_has hx j (by omega)
theorem wL1_has {x : wSp} {i' : Nat} (hx : x ∈ wL2 s a i' b (wStp s b)) : ∀ i, i' < i → x ∈ wL1 s a b i
  | 0, h => absurd h (Nat.not_lt_zero i')
  | i + 1, h => by
    rw [wL1, List.mem_append]
    by_cases e : i' = i
    · subst e; right; exact hx
    · left; exact wL1_has hx i (by omega)
theorem wAb_has {x : wSp} {b' : Nat} (hx : x ∈ wSps s a b') (hc : a < b' ∧ s 357 a = 1 ∧ s 357 b' = 1) : ∀ b, b' < b → x ∈ wAb s a b
  | 0, h => absurd h (Nat.not_lt_zero b')
  | b + 1, h => by
    rw [wAb, List.mem_append]
    by_cases e : b' = b
    · subst e; right; rw [if_pos hc]; exact hx
    · left; exact wAb_has hx hc b (by omega)
theorem wAa_has {x : wSp} {a' : Nat} (hx : x ∈ wAb s a' (wMny s)) : ∀ a, a' < a → x ∈ wAa s a
  | 0, h => absurd h (Nat.not_lt_zero a')
  | a + 1, h => by
    rw [wAa, List.mem_append]
    by_cases e : a' = a
    · subst e; right; exact hx
    · left; exact wAa_has hx a (by omega)
theorem wOkC_in {x : wSp} (h : wOkC s x) : x ∈ wSpa s := by
  obtain ⟨h1, h2, h3, h4, h5, h6, h7, h8, h9⟩ := h
  have m3 := wL3_has h7 24 h5
  rw [← h6] at m3
  exact wAa_has (wAb_has (wL1_has (wL2_has m3 _ h4) _ h3) ⟨h1, h8, h9⟩ _ h2) _ (by omega)
/-- the second walk: those that are alone -/
def wT1 (s : wG) (I0 : Nat → Nat → Int32) (L : List wSp) (I : Nat → Nat → Int32) : Prop := wAl I (wFdl 241 (L.filter (wSol s (wSpa s)))) ∧ (∀ z ∈ L, wOkC s z) ∧ L.Pairwise (fun x y => wCode x < wCode y) ∧ (∀ c k, c ≠ 386 → (c ≠ 354 ∨ (k ≠ 27 ∧ k ≠ 28 ∧ k ≠ 29 ∧ k ≠ 32 ∧ k ≠ 33 ∧ k ≠ 34 ∧ k ≠ 57)) → I c k = I0 c k)
theorem wT1_tr {I0 : Nat → Nat → Int32} (hW : wW s) (hR : rR I0 s) (hv : wRv I0 (clA s (wSpa s))) (hn : 1000 ≤ n) : wTr n (nI 1) V s (wT1 s I0) := by
  have hL := wSpa_ok (s := s)
  have toR : ∀ L I, wT1 s I0 L I → rR I s := fun L I h => hR.congr (fun c k g => h.2.2.2 c k (by unfold wPM at g; omega) (by unfold wPM at g; omega))
  refine ⟨toR, fun L I I2 h g => ⟨⟨by rw [g _ _ (by omega)]; exact h.1.1, fun k hk u hu => by rw [g _ _ (by omega)]; exact h.1.2 k hk u hu⟩, h.2.1, h.2.2.1, fun c k g1 g2 => by rw [g c k (by omega), h.2.2.2 c k g1 g2]⟩, ?_⟩
  intro L I x h hx hcode i32 i33 i34
  obtain ⟨h1, h2, h3, h4⟩ := id h
  have xb := hx.xb hW
  obtain ⟨o1, o2, o3, o4, o5⟩ := hx.sp hW
  have hR1 := toR L I h
  have hv1 : wRv I (clA s (wSpa s)) := fun k hk => by rw [h4 _ _ (by omega) (by omega), h4 _ _ (by omega) (by omega)]; exact hv k hk
  obtain ⟨u1, u2⟩ := B179_1 (n := n) (V := V) xb (fun a ha => hR1.st0 ha) i32 i33 (clA_spa hW) hv1 (by omega)
  rw [wFl_sol xb] at u2
  have ok2 : ∀ z ∈ L ++ [x], wOkC s z := by
    intro z hz
    rcases List.mem_append.mp hz with hz | hz
    · exact h2 z hz
    · have e : z = x := by simpa using hz
      subst e; exact hx
  have pw2 : (L ++ [x]).Pairwise (fun x y => wCode x < wCode y) := by
    rw [List.pairwise_append]
    refine ⟨h3, List.pairwise_singleton _ _, fun y hy z hz => ?_⟩
    have e : z = x := by simpa using hz
    subst e; exact hcode y hy
  have lenf : ∀ M : List wSp, (∀ z ∈ M, wOkC s z) → M.Pairwise (fun x y => wCode x < wCode y) → (M.filter (wSol s (wSpa s))).length ≤ 120 := by
    intro M hM hp
    have pf := List.Pairwise.filter (wSol s (wSpa s)) hp
    exact wSol_120 hW hL _ (pf.imp (fun {x y} h e => by rw [e] at h; omega)) (fun z hz => by
      obtain ⟨z1, z2'⟩ := List.mem_filter.mp hz
      exact ⟨wOkC_in (hM z z1), z2'⟩)
  refine ⟨u1, I, _, u2, ?_, ?_⟩
  · intro hc
    have hs : ¬ wSol s (wSpa s) x = true := fun hs => by
      rw [if_pos hs] at hc
      rcases hc with hc | hc
      · exact absurd hc (by decide)
      · exact hc rfl
    have ef : (L ++ [x]).filter (wSol s (wSpa s)) = L.filter (wSol s (wSpa s)) := by
      rw [List.filter_append]; simp [hs]
    exact ⟨by rw [ef]; exact h1, ok2, pw2, h4⟩
  · intro hc _
    have hs : wSol s (wSpa s) x = true := by
      apply Classical.byContradiction
      intro hs
      rw [if_neg hs] at hc
      exact hc rfl
    have ef : (L ++ [x]).filter (wSol s (wSpa s)) = L.filter (wSol s (wSpa s)) ++ [x] := by
      rw [List.filter_append]; simp [hs]
    have l1 := lenf L h2 h3
    have l2 := wFdl_len 241 (L.filter (wSol s (wSpa s))) (0, fun _ => (0, 0, 0, 0, 0, 0, 0, 0))
    have l3 : (wFdl 241 (L.filter (wSol s (wSpa s)))).1 ≤ 0 + (L.filter (wSol s (wSpa s))).length := l2
    obtain ⟨v1, I2, v2, v3, v4⟩ := B181 (n := n) (V := V) (l := wFdl 241 (L.filter (wSol s (wSpa s)))) o1 o2 (by omega) (fun k hk => by
      have hm := List.mem_filter.mp (wFdl_in hk)
      obtain ⟨p1, p2, _⟩ := (h2 _ hm.1).sp hW
      exact ⟨p1, p2, hcode _ hm.1⟩) i32 i33 i34 h1 hn
    exact ⟨v1, I2, v2, by rw [ef, wFdl_snoc]; exact v3, ok2, pw2, fun c k g1 g2 => by rw [v4 c k g1 (by omega), h4 c k g1 g2]⟩
end CS
