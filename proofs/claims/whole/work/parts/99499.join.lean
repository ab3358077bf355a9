/-! join. -/
def oJx (s : wG) (z : wSp) : Int32 × wG := if wIsSp s (spA z) (spI z) (spB z) (spJ z) (spT z) then oTry s z else (-2, s)
def oJoin (s : wG) (x i y j t : Int32) : Int32 × wG :=
  if wMeet s x i y j && wIn t 24 then oJx s (wMo s x.toNatClampNeg i.toNatClampNeg y.toNatClampNeg j.toNatClampNeg t.toNatClampNeg) else (wM1, s)
section OK
variable {V : wV} {I : Nat → Nat → Int32} {s : wG} {n a b i j t : Nat} {X Y U W Z : Int32} {x : wSp}
theorem wFit_can : ∀ (f m : Nat) (dx dy : Int32) (la lb : Nat) (ms : Int32) (p : Nat), m ≤ p → p < (wFit s a i b j t f m dx dy la lb ms).1 → wCan s a ((i + p) % wStp s a) b ((j + wStp s b - p) % wStp s b) = true := by
  intro f
  induction f with
  | zero => intro m dx dy la lb ms p h1 h2; exact absurd h2 (by show ¬ p < m; omega)
  | succ f ih =>
    intro m dx dy la lb ms p h1 h2
    rw [wFit] at h2
    split at h2
    · rename_i hc
      split at h2
      · by_cases e : p = m
        · rw [e]; exact hc
        · exact ih _ _ _ _ _ _ _ (by omega) h2
      · exact absurd h2 (by show ¬ p < m; omega)
    · exact absurd h2 (by show ¬ p < m; omega)
theorem wOn_pair : ∀ (m q : Nat), wOn s x m q = true → ∃ p, p < m ∧ (q = 20 * spA x + (spI x + p) % wStp s (spA x) ∨ q = 20 * spB x + (spJ x + wStp s (spB x) - p) % wStp s (spB x)) := by
  intro m
  induction m with
  | zero => intro q h; exact (nomatch h)
  | succ m ih =>
    intro q h
    rw [wOn, Bool.or_eq_true, Bool.or_eq_true, decide_eq_true_eq, decide_eq_true_eq] at h
    rcases h with (h | h) | h
    · obtain ⟨p, h1, h2⟩ := ih q h; exact ⟨p, by omega, h2⟩
    · exact ⟨m, by omega, Or.inl h⟩
    · exact ⟨m, by omega, Or.inr h⟩
/-- the steps of what fits are in no join -/
theorem wMes_free : ∀ q, wOn s (wMes s a i b j t) (spN (wMes s a i b j t)) q = true → s 364 q = wM1 := by
  intro q h
  obtain ⟨p, h1, h2⟩ := wOn_pair _ _ h
  have hc := wFit_can (s := s) (a := a) (i := i) (b := b) (j := j) (t := t) _ _ _ _ _ _ _ p (Nat.zero_le p) h1
  have hc := of_decide_eq_true hc
  rcases h2 with h2 | h2
  · rw [h2]; exact hc.2.2.1
  · rw [h2]; exact hc.2.2.2.1
theorem wMes_xok (hW : wW s) (hab : a < b) (hb : b < wMny s) (hi : i < wStp s a) (hj : j < wStp s b) (ht : t < 24) (ca : s 357 a = 1) (cb : s 357 b = 1) (h : wIsSp s a i b j t = true) : wXok s (wMes s a i b j t) := by
  obtain ⟨b1, b2, b3, _, _⟩ := wMes_bd (t := t) hW (show a < wMny s by omega) hb hi hj
  have hl := (of_decide_eq_true h).1
  have h1 := hW.lst1
  exact ⟨hab, hb, hi, hj, ht, by omega, b1, b2, ca, cb⟩
theorem wMo_ex (h1 : a < wMny s) (h2 : b < wMny s) (hab : a ≠ b) (hi : i < wStp s a) (hj : j < wStp s b) (ca : s 357 a = 1) (cb : s 357 b = 1) : ∃ a' i' b' j', wMo s a i b j t = wMes s a' i' b' j' t ∧ a' < b' ∧ b' < wMny s ∧ i' < wStp s a' ∧ j' < wStp s b' ∧ s 357 a' = 1 ∧ s 357 b' = 1 := by
  unfold wMo
  by_cases h : a < b
  · rw [if_pos h]; exact ⟨a, i, b, j, rfl, h, h2, hi, hj, ca, cb⟩
  · rw [if_neg h]; exact ⟨b, j, a, i, rfl, by omega, h1, hj, hi, cb, ca⟩
theorem oJx_w (hW : wW s) (hab : a < b) (hb : b < wMny s) (hi : i < wStp s a) (hj : j < wStp s b) (ht : t < 24) (ca : s 357 a = 1) (cb : s 357 b = 1) (hm : wMad s < 1000000) (hg : wGst s < 100000000) : wW (oJx s (wMes s a i b j t)).2 := by
  unfold oJx
  by_cases h : wIsSp s a i b j t = true
  · rw [if_pos (show wIsSp s (spA (wMes s a i b j t)) (spI (wMes s a i b j t)) (spB (wMes s a i b j t)) (spJ (wMes s a i b j t)) (spT (wMes s a i b j t)) = true from h)]
    exact oTry_w hW (wMes_xok hW hab hb hi hj ht ca cb h) hm hg
  · rw [if_neg (show ¬ wIsSp s (spA (wMes s a i b j t)) (spI (wMes s a i b j t)) (spB (wMes s a i b j t)) (spJ (wMes s a i b j t)) (spT (wMes s a i b j t)) = true from h)]
    exact hW
theorem join_w (hW : wW s) (hm : wMad s < 1000000) (hg : wGst s < 100000000) : wW (oJoin s X U Y W Z).2 := by
  have hmm := hW.mny1
  unfold oJoin
  by_cases h : (wMeet s X U Y W && wIn Z 24) = true
  · rw [if_pos h]
    rw [Bool.and_eq_true] at h
    obtain ⟨a, b, i, j, g1, g2, g3, rfl, rfl, rfl, rfl, g4, g5, c1, c2, g6, g7, _, _⟩ := wMeet_ex hW h.1
    obtain ⟨t, ht, rfl⟩ := wIn_ex (by omega) h.2
    rw [tcl (by omega), tcl (by omega), tcl (by omega), tcl (by omega), tcl (by omega)]
    obtain ⟨a', i', b', j', e, k1, k2, k3, k4, k5, k6⟩ := wMo_ex (t := t) g1 g2 g3 g4 g5 c1 c2
    rw [e]
    exact oJx_w hW k1 k2 k3 k4 ht k5 k6 hm hg
  · rw [if_neg h]; exact hW
theorem join_c (hW : wW s) (hC : rC V I s) (hm : wMad s < 1000000) (hg : wGst s < 100000000) (hn : 20000 ≤ n) : p79_0 n 0 X U Y W Z (wm V I) ∧ cR V I (b79_0 n 0 X U Y W Z (wm V I)) (oJoin s X U Y W Z).1 (oJoin s X U Y W Z).2 := by
  have hmm := hW.mny1
  have e1 := B93 (n := n) (x := X) (z := U) (y := Y) (u := W) hW hC.N hC.S
  unfold oJoin
  by_cases h1 : wMeet s X U Y W = true
  · rw [if_pos h1] at e1
    obtain ⟨a, b, i, j, g1, g2, g3, rfl, rfl, rfl, rfl, g4, g5, c1, c2, g6, g7, _, _⟩ := wMeet_ex hW h1
    by_cases h2 : wIn Z 24 = true
    · obtain ⟨t, ht, rfl⟩ := wIn_ex (by omega) h2
      obtain ⟨u1, I1, u2, u3, u4⟩ := B98 (n := n) (V := V) (I := I) hW hC.S g1 g2 g3 g4 g5 ht (by omega)
      rw [h1, h2, Bool.and_true, if_pos rfl, tcl (by omega), tcl (by omega), tcl (by omega), tcl (by omega), tcl (by omega)]
      have hC1 := hC.congr (I2 := I1) hW (fun c k h => u4 c k (by omega))
      obtain ⟨a', i', b', j', e, k1, k2, k3, k4, k5, k6⟩ := wMo_ex (t := t) g1 g2 g3 g4 g5 c1 c2
      rw [e] at u3 ⊢
      obtain ⟨v1, I2, v2, v3⟩ := B99 (n := n) (V := V) hW hC1.N hC1.S (by omega) k2 k3 k4 ht u3 (by omega)
      have hC2 := hC1.congr (I2 := I2) hW (fun c k h => v3 c k (by omega))
      unfold oJx
      by_cases hs : wIsSp s a' i' b' j' t = true
      · rw [if_pos (show wIsSp s (spA (wMes s a' i' b' j' t)) (spI (wMes s a' i' b' j' t)) (spB (wMes s a' i' b' j' t)) (spJ (wMes s a' i' b' j' t)) (spT (wMes s a' i' b' j' t)) = true from hs)]
        rw [if_pos hs] at v2
        have hpa : wPa I2 230 s (wMes s a' i' b' j' t) := by
          obtain ⟨q0, q1, q2, q3, q4, q5, q6, q7⟩ := u3.pa
          exact ⟨by rw [v3 _ _ (by omega)]; exact q0, by rw [v3 _ _ (by omega)]; exact q1, by rw [v3 _ _ (by omega)]; exact q2, by rw [v3 _ _ (by omega)]; exact q3, by rw [v3 _ _ (by omega)]; exact q4, by rw [v3 _ _ (by omega)]; exact q5, by rw [v3 _ _ (by omega)]; exact q6, by rw [v3 _ _ (by omega)]; exact q7⟩
        obtain ⟨w1, I3, w2, w3, w4⟩ := B106 (n := n) (V := V) (p := 230) hW hC2 (by omega) (wMes_xok hW k1 k2 k3 k4 ht k5 k6 hs) hpa wMes_free hm hg hn
        simp (disch := omega) only [b79_20, p79_20, b79_55, p79_55, b79_41, p79_41, b79_33, p79_33, b79_17, p79_17, b79_9, p79_9, b79_0, p79_0, aC_79_237_93_9, aC_79_241_98_9, aC_79_295_99_9, aC_79_299_106_9, aQ_9_61_8_9, P95, B95w, wm_I, wm_X, wm_K, wm_WI, wm_HK, q0_0, q0_1, q0_2, q0_3, q0_4, q0_5, q0_6, q0_7, q0_8, q0_9, q0_10, q0_11, q354_1, q354_2, q354_3, q354_4, q354_5, q354_6, q354_7, q354_8, q354_9, q354_10, q354_17, q354_18, q354_19, q354_20, q354_21, q354_22, q354_23, q354_24, q354_25, q354_35, q354_37, q354_38, q354_39, q354_41, q354_42, q354_43, q354_44, q354_48, q354_49, q354_54, q354_55, q354_56, q4_0, q46_0, q46_1, q46_2, q46_3, q46_4, q52_0, q52_1, q52_2, q56_0, q108_0, q6_1, q6_2, q6_3, q6_4, q6_5, q6_6, q4x_0, q4x_1, q4x_2, q1, q2, q5, q57, q109, q1000007, oI_3, oT_3, oI_47, oT_47, oI_48, oT_48, oI_49, oT_49, oI_50, oT_50, oI_51, oT_51, oI_53, oT_53, oI_54, oT_54, oI_55, oT_55, oI_233, oT_233, oI_355, oT_355, oI_356, oT_356, oT_357, oI_358, oT_358, oI_359, oT_359, oI_360, oT_360, oI_361, oT_361, oT_362, oI_363, oT_363, oI_364, oT_364, oT_365, oI_366, oT_366, oI_367, oT_367, oI_368, oT_368, oI_369, oT_369, oI_370, oT_370, oI_371, oT_371, oT_372, oI_373, oT_373, oI_374, oT_374, oI_375, oT_375, oT_376, oI_377, oT_377, oT_378, oI_379, oT_379, oI_380, oT_380, oI_381, oT_381, oI_382, oT_382, oI_383, oT_383, oI_384, oT_384, oI_385, oT_385, oI_386, oT_386, oT_387, oI_S1, oT_S1, oI_S2, oT_S2, oI_S3, oT_S3, oI_S4, oT_S4, oT_S5, oI_O1, oT_O1, oI_O2, oT_O2, oI_O3, oT_O3, oI_X, oR_1, oR_2, oR_5, oR_57, oR_109, oR_K, oN_57, oN_109, oN_53, oN_233, oN_47, oN_S4, oN_O3, wM1_lt0, wM1_ge0, ↓wM1_lit, lit_nI, ofI_1, ofI_2, ofI_6, ofI_m1, kI_add, kI_mul, kI_sub, kI_le, kI_lt, kI_eq, kI_rem, kI_ne_m1, kI_m1_ne, kI_m1, tcl, z2_hit, z2_off, true_and, and_true, and_self, implies_true, if_true, if_false, not_true_eq_false, not_false_eq_true, or_true, true_or, false_or, or_false, or_self, false_and, and_false, decide_true, decide_false, Bool.false_eq_true, eq_self, ite_self, forall_const, false_implies, true_implies, ge_iff_le, gt_iff_lt, zNar_b, dLeT, dLeF, dLtT, dLtF, dEqT, dEqF, e1, h2, u1, u2, v1, v2, w1, w2]
        exact ⟨V, I3, rfl, wSV.rf V, w3, fun c k h => by rw [w4 c k (by omega), v3 c k (by omega), u4 c k (by omega)]⟩
      · rw [if_neg (show ¬ wIsSp s (spA (wMes s a' i' b' j' t)) (spI (wMes s a' i' b' j' t)) (spB (wMes s a' i' b' j' t)) (spJ (wMes s a' i' b' j' t)) (spT (wMes s a' i' b' j' t)) = true from hs)]
        rw [if_neg hs] at v2
        simp (disch := omega) only [b79_20, p79_20, b79_55, p79_55, b79_41, p79_41, b79_33, p79_33, b79_17, p79_17, b79_9, p79_9, b79_0, p79_0, aC_79_237_93_9, aC_79_241_98_9, aC_79_295_99_9, aC_79_299_106_9, aQ_9_61_8_9, P95, B95w, wm_I, wm_X, wm_K, wm_WI, wm_HK, q0_0, q0_1, q0_2, q0_3, q0_4, q0_5, q0_6, q0_7, q0_8, q0_9, q0_10, q0_11, q354_1, q354_2, q354_3, q354_4, q354_5, q354_6, q354_7, q354_8, q354_9, q354_10, q354_17, q354_18, q354_19, q354_20, q354_21, q354_22, q354_23, q354_24, q354_25, q354_35, q354_37, q354_38, q354_39, q354_41, q354_42, q354_43, q354_44, q354_48, q354_49, q354_54, q354_55, q354_56, q4_0, q46_0, q46_1, q46_2, q46_3, q46_4, q52_0, q52_1, q52_2, q56_0, q108_0, q6_1, q6_2, q6_3, q6_4, q6_5, q6_6, q4x_0, q4x_1, q4x_2, q1, q2, q5, q57, q109, q1000007, oI_3, oT_3, oI_47, oT_47, oI_48, oT_48, oI_49, oT_49, oI_50, oT_50, oI_51, oT_51, oI_53, oT_53, oI_54, oT_54, oI_55, oT_55, oI_233, oT_233, oI_355, oT_355, oI_356, oT_356, oT_357, oI_358, oT_358, oI_359, oT_359, oI_360, oT_360, oI_361, oT_361, oT_362, oI_363, oT_363, oI_364, oT_364, oT_365, oI_366, oT_366, oI_367, oT_367, oI_368, oT_368, oI_369, oT_369, oI_370, oT_370, oI_371, oT_371, oT_372, oI_373, oT_373, oI_374, oT_374, oI_375, oT_375, oT_376, oI_377, oT_377, oT_378, oI_379, oT_379, oI_380, oT_380, oI_381, oT_381, oI_382, oT_382, oI_383, oT_383, oI_384, oT_384, oI_385, oT_385, oI_386, oT_386, oT_387, oI_S1, oT_S1, oI_S2, oT_S2, oI_S3, oT_S3, oI_S4, oT_S4, oT_S5, oI_O1, oT_O1, oI_O2, oT_O2, oI_O3, oT_O3, oI_X, oR_1, oR_2, oR_5, oR_57, oR_109, oR_K, oN_57, oN_109, oN_53, oN_233, oN_47, oN_S4, oN_O3, wM1_lt0, wM1_ge0, ↓wM1_lit, lit_nI, ofI_1, ofI_2, ofI_6, ofI_m1, kI_add, kI_mul, kI_sub, kI_le, kI_lt, kI_eq, kI_rem, kI_ne_m1, kI_m1_ne, kI_m1, tcl, z2_hit, z2_off, true_and, and_true, and_self, implies_true, if_true, if_false, not_true_eq_false, not_false_eq_true, or_true, true_or, false_or, or_false, or_self, false_and, and_false, decide_true, decide_false, Bool.false_eq_true, eq_self, ite_self, forall_const, false_implies, true_implies, ge_iff_le, gt_iff_lt, zNar_b, dLeT, dLeF, dLtT, dLtF, dEqT, dEqF, e1, h2, u1, u2, v1, v2]
        exact ⟨V, I2, rfl, wSV.rf V, hC2, fun c k h => by rw [v3 c k (by omega), u4 c k (by omega)]⟩
    · rw [if_neg (by rw [Bool.and_eq_true]; exact fun h => h2 h.2)]
      simp (disch := omega) only [b79_20, p79_20, b79_55, p79_55, b79_41, p79_41, b79_33, p79_33, b79_17, p79_17, b79_9, p79_9, b79_0, p79_0, aC_79_237_93_9, aC_79_241_98_9, aC_79_295_99_9, aC_79_299_106_9, aQ_9_61_8_9, P95, B95w, wm_I, wm_X, wm_K, wm_WI, wm_HK, q0_0, q0_1, q0_2, q0_3, q0_4, q0_5, q0_6, q0_7, q0_8, q0_9, q0_10, q0_11, q354_1, q354_2, q354_3, q354_4, q354_5, q354_6, q354_7, q354_8, q354_9, q354_10, q354_17, q354_18, q354_19, q354_20, q354_21, q354_22, q354_23, q354_24, q354_25, q354_35, q354_37, q354_38, q354_39, q354_41, q354_42, q354_43, q354_44, q354_48, q354_49, q354_54, q354_55, q354_56, q4_0, q46_0, q46_1, q46_2, q46_3, q46_4, q52_0, q52_1, q52_2, q56_0, q108_0, q6_1, q6_2, q6_3, q6_4, q6_5, q6_6, q4x_0, q4x_1, q4x_2, q1, q2, q5, q57, q109, q1000007, oI_3, oT_3, oI_47, oT_47, oI_48, oT_48, oI_49, oT_49, oI_50, oT_50, oI_51, oT_51, oI_53, oT_53, oI_54, oT_54, oI_55, oT_55, oI_233, oT_233, oI_355, oT_355, oI_356, oT_356, oT_357, oI_358, oT_358, oI_359, oT_359, oI_360, oT_360, oI_361, oT_361, oT_362, oI_363, oT_363, oI_364, oT_364, oT_365, oI_366, oT_366, oI_367, oT_367, oI_368, oT_368, oI_369, oT_369, oI_370, oT_370, oI_371, oT_371, oT_372, oI_373, oT_373, oI_374, oT_374, oI_375, oT_375, oT_376, oI_377, oT_377, oT_378, oI_379, oT_379, oI_380, oT_380, oI_381, oT_381, oI_382, oT_382, oI_383, oT_383, oI_384, oT_384, oI_385, oT_385, oI_386, oT_386, oT_387, oI_S1, oT_S1, oI_S2, oT_S2, oI_S3, oT_S3, oI_S4, oT_S4, oT_S5, oI_O1, oT_O1, oI_O2, oT_O2, oI_O3, oT_O3, oI_X, oR_1, oR_2, oR_5, oR_57, oR_109, oR_K, oN_57, oN_109, oN_53, oN_233, oN_47, oN_S4, oN_O3, wM1_lt0, wM1_ge0, ↓wM1_lit, lit_nI, ofI_1, ofI_2, ofI_6, ofI_m1, kI_add, kI_mul, kI_sub, kI_le, kI_lt, kI_eq, kI_rem, kI_ne_m1, kI_m1_ne, kI_m1, tcl, z2_hit, z2_off, true_and, and_true, and_self, implies_true, if_true, if_false, not_true_eq_false, not_false_eq_true, or_true, true_or, false_or, or_false, or_self, false_and, and_false, decide_true, decide_false, Bool.false_eq_true, eq_self, ite_self, forall_const, false_implies, true_implies, ge_iff_le, gt_iff_lt, zNar_b, dLeT, dLeF, dLtT, dLtF, dEqT, dEqF, e1, h2]
      exact cR.same hC
  · rw [if_neg h1] at e1
    rw [if_neg (by rw [Bool.and_eq_true]; exact fun h => h1 h.1)]
    simp (disch := omega) only [b79_20, p79_20, b79_55, p79_55, b79_41, p79_41, b79_33, p79_33, b79_17, p79_17, b79_9, p79_9, b79_0, p79_0, aC_79_237_93_9, aC_79_241_98_9, aC_79_295_99_9, aC_79_299_106_9, aQ_9_61_8_9, P95, B95w, wm_I, wm_X, wm_K, wm_WI, wm_HK, q0_0, q0_1, q0_2, q0_3, q0_4, q0_5, q0_6, q0_7, q0_8, q0_9, q0_10, q0_11, q354_1, q354_2, q354_3, q354_4, q354_5, q354_6, q354_7, q354_8, q354_9, q354_10, q354_17, q354_18, q354_19, q354_20, q354_21, q354_22, q354_23, q354_24, q354_25, q354_35, q354_37, q354_38, q354_39, q354_41, q354_42, q354_43, q354_44, q354_48, q354_49, q354_54, q354_55, q354_56, q4_0, q46_0, q46_1, q46_2, q46_3, q46_4, q52_0, q52_1, q52_2, q56_0, q108_0, q6_1, q6_2, q6_3, q6_4, q6_5, q6_6, q4x_0, q4x_1, q4x_2, q1, q2, q5, q57, q109, q1000007, oI_3, oT_3, oI_47, oT_47, oI_48, oT_48, oI_49, oT_49, oI_50, oT_50, oI_51, oT_51, oI_53, oT_53, oI_54, oT_54, oI_55, oT_55, oI_233, oT_233, oI_355, oT_355, oI_356, oT_356, oT_357, oI_358, oT_358, oI_359, oT_359, oI_360, oT_360, oI_361, oT_361, oT_362, oI_363, oT_363, oI_364, oT_364, oT_365, oI_366, oT_366, oI_367, oT_367, oI_368, oT_368, oI_369, oT_369, oI_370, oT_370, oI_371, oT_371, oT_372, oI_373, oT_373, oI_374, oT_374, oI_375, oT_375, oT_376, oI_377, oT_377, oT_378, oI_379, oT_379, oI_380, oT_380, oI_381, oT_381, oI_382, oT_382, oI_383, oT_383, oI_384, oT_384, oI_385, oT_385, oI_386, oT_386, oT_387, oI_S1, oT_S1, oI_S2, oT_S2, oI_S3, oT_S3, oI_S4, oT_S4, oT_S5, oI_O1, oT_O1, oI_O2, oT_O2, oI_O3, oT_O3, oI_X, oR_1, oR_2, oR_5, oR_57, oR_109, oR_K, oN_57, oN_109, oN_53, oN_233, oN_47, oN_S4, oN_O3, wM1_lt0, wM1_ge0, ↓wM1_lit, lit_nI, ofI_1, ofI_2, ofI_6, ofI_m1, kI_add, kI_mul, kI_sub, kI_le, kI_lt, kI_eq, kI_rem, kI_ne_m1, kI_m1_ne, kI_m1, tcl, z2_hit, z2_off, true_and, and_true, and_self, implies_true, if_true, if_false, not_true_eq_false, not_false_eq_true, or_true, true_or, false_or, or_false, or_self, false_and, and_false, decide_true, decide_false, Bool.false_eq_true, eq_self, ite_self, forall_const, false_implies, true_implies, ge_iff_le, gt_iff_lt, zNar_b, dLeT, dLeF, dLtT, dLtF, dEqT, dEqF, e1]
    exact cR.same hC
/-- isSpan and tryJoin, by the reference -/
theorem C169 (hW : wW s) (hR : rR I s) (hT : rT I s) (k1 : a < b) (k2 : b < wMny s) (k3 : i < wStp s a) (k4 : j < wStp s b) (ht : t < 24) (k5 : s 357 a = 1) (k6 : s 357 b = 1) (hm : wMad s < 1000000) (hg : wGst s < 100000000) (hn : 20000 ≤ n) : p148_0 n 354 (nI a) (nI i) (nI b) (nI j) (nI t) (wm V I) ∧ ∃ I1, (∀ c k, c < 354 → I1 c k = I c k) ∧ b148_0 n 354 (nI a) (nI i) (nI b) (nI j) (nI t) (wm V I) = (if wIsSp s a i b j t then 1 else 0, wm V I1) ∧ (¬ wIsSp s a i b j t = true → rK V I (-2, wm V I1) (oJx s (wMes s a i b j t)).1 (oJx s (wMes s a i b j t)).2) ∧ (wIsSp s a i b j t = true → p168_0 n 354 (nI a) (nI i) (nI b) (nI j) (nI t) (I1 354 32) (wm V I1) ∧ rK V I (b168_0 n 354 (nI a) (nI i) (nI b) (nI j) (nI t) (I1 354 32) (wm V I1)) (oJx s (wMes s a i b j t)).1 (oJx s (wMes s a i b j t)).2) := by
  obtain ⟨u1, I1, u2, u3, u4⟩ := B148 (n := n) (V := V) hW hR (show a < wMny s by omega) k2 k3 k4 ht (by omega)
  have hR1 : rR I1 s := hR.congr (fun c k h => u4 c k (by unfold wPM at h; omega))
  have hT1 : rT I1 s := hT.congr (fun c k h => u4 c k (by omega))
  refine ⟨u1, I1, fun c k h => u4 c k (by omega), u2, fun hs => ?_, fun hs => ?_⟩
  · unfold oJx
    rw [if_neg (show ¬ wIsSp s (spA (wMes s a i b j t)) (spI (wMes s a i b j t)) (spB (wMes s a i b j t)) (spJ (wMes s a i b j t)) (spT (wMes s a i b j t)) = true from hs)]
    exact ⟨I1, rfl, hR1, hT1, fun c k h => u4 c k (by omega)⟩
  · unfold oJx
    rw [if_pos (show wIsSp s (spA (wMes s a i b j t)) (spI (wMes s a i b j t)) (spB (wMes s a i b j t)) (spJ (wMes s a i b j t)) (spT (wMes s a i b j t)) = true from hs)]
    obtain ⟨w1, I2, w2, w3, w4, w5⟩ := B168 (n := n) (V := V) hW hR1 hT1 (wMes_xok hW k1 k2 k3 k4 ht k5 k6 hs) hm hg hn
    have e : I1 354 32 = nI (spN (wMes s a i b j t)) := (u3 hs).1
    rw [e]
    exact ⟨w1, I2, w2, w3, w4, fun c k h => by rw [w5 c k (Or.inl h), u4 c k (by omega)]⟩
theorem join_r (hW : wW s) (hR : rR I s) (hT : rT I s) (hm : wMad s < 1000000) (hg : wGst s < 100000000) (hn : 20000 ≤ n) : p169_0 n 354 X U Y W Z (wm V I) ∧ rK V I (b169_0 n 354 X U Y W Z (wm V I)) (oJoin s X U Y W Z).1 (oJoin s X U Y W Z).2 := by
  have hmm := hW.mny1
  have e1 := B145 (n := n) (V := V) (x := X) (z := U) (y := Y) (u := W) (t := Z) hW hR.z26
  unfold oJoin
  have fz : ∀ c k, c < 354 → z2 I 354 26 (nI 0) c k = I c k := fun c k h => z2_off (by omega)
  by_cases h1 : (wMeet s X U Y W && wIn Z 24) = true
  · rw [if_pos h1] at e1
    rw [Bool.and_eq_true] at h1
    obtain ⟨a, b, i, j, g1, g2, g3, rfl, rfl, rfl, rfl, g4, g5, c1, c2, g6, g7, _⟩ := wMeet_ex hW h1.1
    obtain ⟨t, ht, rfl⟩ := wIn_ex (by omega) h1.2
    rw [h1.1, h1.2, Bool.and_true, if_pos rfl, tcl (by omega), tcl (by omega), tcl (by omega), tcl (by omega), tcl (by omega)]
    unfold wMo
    by_cases h : a < b
    · rw [if_pos h]
      obtain ⟨q1, I1, q2, q3, q4, q5⟩ := C169 (n := n) (V := V) hW hR.z26 hT.z26 h g2 g4 g5 ht c1 c2 hm hg hn
      by_cases hs : wIsSp s a i b j t = true
      · rw [if_pos hs] at q3
        obtain ⟨y1, y2⟩ := q5 hs
        simp (disch := omega) only [p169_0, b169_0, p169_5, b169_5, p169_16, b169_16, p169_37, b169_37, p169_51, b169_51, p169_81, b169_81, p169_99, b169_99, aC_169_220_145_10, aC_169_240_148_10, aC_169_303_168_10, aI_10_228_32_10, aW_169_138_26_10, wm_I, wm_X, wm_K, wm_WI, wm_HK, q0_0, q0_1, q0_2, q0_3, q0_4, q0_5, q0_6, q0_7, q0_8, q0_9, q0_10, q0_11, q354_1, q354_2, q354_3, q354_4, q354_5, q354_6, q354_7, q354_8, q354_9, q354_10, q354_17, q354_18, q354_19, q354_20, q354_21, q354_22, q354_23, q354_24, q354_25, q354_35, q354_37, q354_38, q354_39, q354_41, q354_42, q354_43, q354_44, q354_48, q354_49, q354_54, q354_55, q354_56, q4_0, q46_0, q46_1, q46_2, q46_3, q46_4, q52_0, q52_1, q52_2, q56_0, q108_0, q6_1, q6_2, q6_3, q6_4, q6_5, q6_6, q4x_0, q4x_1, q4x_2, q1, q2, q5, q57, q109, q1000007, oI_3, oT_3, oI_47, oT_47, oI_48, oT_48, oI_49, oT_49, oI_50, oT_50, oI_51, oT_51, oI_53, oT_53, oI_54, oT_54, oI_55, oT_55, oI_233, oT_233, oI_355, oT_355, oI_356, oT_356, oT_357, oI_358, oT_358, oI_359, oT_359, oI_360, oT_360, oI_361, oT_361, oT_362, oI_363, oT_363, oI_364, oT_364, oT_365, oI_366, oT_366, oI_367, oT_367, oI_368, oT_368, oI_369, oT_369, oI_370, oT_370, oI_371, oT_371, oT_372, oI_373, oT_373, oI_374, oT_374, oI_375, oT_375, oT_376, oI_377, oT_377, oT_378, oI_379, oT_379, oI_380, oT_380, oI_381, oT_381, oI_382, oT_382, oI_383, oT_383, oI_384, oT_384, oI_385, oT_385, oI_386, oT_386, oT_387, oI_S1, oT_S1, oI_S2, oT_S2, oI_S3, oT_S3, oI_S4, oT_S4, oT_S5, oI_O1, oT_O1, oI_O2, oT_O2, oI_O3, oT_O3, oI_X, oR_1, oR_2, oR_5, oR_57, oR_109, oR_K, oN_57, oN_109, oN_53, oN_233, oN_47, oN_S4, oN_O3, wM1_lt0, wM1_ge0, ↓wM1_lit, lit_nI, ofI_1, ofI_2, ofI_6, ofI_m1, kI_add, kI_mul, kI_sub, kI_le, kI_lt, kI_eq, kI_rem, kI_ne_m1, kI_m1_ne, kI_m1, tcl, z2_hit, z2_off, true_and, and_true, and_self, implies_true, if_true, if_false, not_true_eq_false, not_false_eq_true, or_true, true_or, false_or, or_false, or_self, false_and, and_false, decide_true, decide_false, Bool.false_eq_true, eq_self, ite_self, forall_const, false_implies, true_implies, ge_iff_le, gt_iff_lt, zNar_b, dLeT, dLeF, dLtT, dLtF, dEqT, dEqF, e1, q1, q3, y1]
        exact y2.from fz
      · rw [if_neg hs] at q3
        simp (disch := omega) only [p169_0, b169_0, p169_5, b169_5, p169_16, b169_16, p169_37, b169_37, p169_51, b169_51, aC_169_220_145_10, aC_169_240_148_10, aC_169_303_168_10, aI_10_228_32_10, aW_169_138_26_10, wm_I, wm_X, wm_K, wm_WI, wm_HK, q0_0, q0_1, q0_2, q0_3, q0_4, q0_5, q0_6, q0_7, q0_8, q0_9, q0_10, q0_11, q354_1, q354_2, q354_3, q354_4, q354_5, q354_6, q354_7, q354_8, q354_9, q354_10, q354_17, q354_18, q354_19, q354_20, q354_21, q354_22, q354_23, q354_24, q354_25, q354_35, q354_37, q354_38, q354_39, q354_41, q354_42, q354_43, q354_44, q354_48, q354_49, q354_54, q354_55, q354_56, q4_0, q46_0, q46_1, q46_2, q46_3, q46_4, q52_0, q52_1, q52_2, q56_0, q108_0, q6_1, q6_2, q6_3, q6_4, q6_5, q6_6, q4x_0, q4x_1, q4x_2, q1, q2, q5, q57, q109, q1000007, oI_3, oT_3, oI_47, oT_47, oI_48, oT_48, oI_49, oT_49, oI_50, oT_50, oI_51, oT_51, oI_53, oT_53, oI_54, oT_54, oI_55, oT_55, oI_233, oT_233, oI_355, oT_355, oI_356, oT_356, oT_357, oI_358, oT_358, oI_359, oT_359, oI_360, oT_360, oI_361, oT_361, oT_362, oI_363, oT_363, oI_364, oT_364, oT_365, oI_366, oT_366, oI_367, oT_367, oI_368, oT_368, oI_369, oT_369, oI_370, oT_370, oI_371, oT_371, oT_372, oI_373, oT_373, oI_374, oT_374, oI_375, oT_375, oT_376, oI_377, oT_377, oT_378, oI_379, oT_379, oI_380, oT_380, oI_381, oT_381, oI_382, oT_382, oI_383, oT_383, oI_384, oT_384, oI_385, oT_385, oI_386, oT_386, oT_387, oI_S1, oT_S1, oI_S2, oT_S2, oI_S3, oT_S3, oI_S4, oT_S4, oT_S5, oI_O1, oT_O1, oI_O2, oT_O2, oI_O3, oT_O3, oI_X, oR_1, oR_2, oR_5, oR_57, oR_109, oR_K, oN_57, oN_109, oN_53, oN_233, oN_47, oN_S4, oN_O3, wM1_lt0, wM1_ge0, ↓wM1_lit, lit_nI, ofI_1, ofI_2, ofI_6, ofI_m1, kI_add, kI_mul, kI_sub, kI_le, kI_lt, kI_eq, kI_rem, kI_ne_m1, kI_m1_ne, kI_m1, tcl, z2_hit, z2_off, true_and, and_true, and_self, implies_true, if_true, if_false, not_true_eq_false, not_false_eq_true, or_true, true_or, false_or, or_false, or_self, false_and, and_false, decide_true, decide_false, Bool.false_eq_true, eq_self, ite_self, forall_const, false_implies, true_implies, ge_iff_le, gt_iff_lt, zNar_b, dLeT, dLeF, dLtT, dLtF, dEqT, dEqF, e1, q1, q3]
        exact (q4 hs).from fz
    · rw [if_neg h]
      obtain ⟨q1, I1, q2, q3, q4, q5⟩ := C169 (n := n) (V := V) hW hR.z26 hT.z26 (show b < a by omega) g1 g5 g4 ht c2 c1 hm hg hn
      by_cases hs : wIsSp s b j a i t = true
      · rw [if_pos hs] at q3
        obtain ⟨y1, y2⟩ := q5 hs
        simp (disch := omega) only [p169_0, b169_0, p169_5, b169_5, p169_16, b169_16, p169_51, b169_51, p169_99, b169_99, aC_169_220_145_10, aC_169_240_148_10, aC_169_303_168_10, aI_10_228_32_10, aW_169_138_26_10, wm_I, wm_X, wm_K, wm_WI, wm_HK, q0_0, q0_1, q0_2, q0_3, q0_4, q0_5, q0_6, q0_7, q0_8, q0_9, q0_10, q0_11, q354_1, q354_2, q354_3, q354_4, q354_5, q354_6, q354_7, q354_8, q354_9, q354_10, q354_17, q354_18, q354_19, q354_20, q354_21, q354_22, q354_23, q354_24, q354_25, q354_35, q354_37, q354_38, q354_39, q354_41, q354_42, q354_43, q354_44, q354_48, q354_49, q354_54, q354_55, q354_56, q4_0, q46_0, q46_1, q46_2, q46_3, q46_4, q52_0, q52_1, q52_2, q56_0, q108_0, q6_1, q6_2, q6_3, q6_4, q6_5, q6_6, q4x_0, q4x_1, q4x_2, q1, q2, q5, q57, q109, q1000007, oI_3, oT_3, oI_47, oT_47, oI_48, oT_48, oI_49, oT_49, oI_50, oT_50, oI_51, oT_51, oI_53, oT_53, oI_54, oT_54, oI_55, oT_55, oI_233, oT_233, oI_355, oT_355, oI_356, oT_356, oT_357, oI_358, oT_358, oI_359, oT_359, oI_360, oT_360, oI_361, oT_361, oT_362, oI_363, oT_363, oI_364, oT_364, oT_365, oI_366, oT_366, oI_367, oT_367, oI_368, oT_368, oI_369, oT_369, oI_370, oT_370, oI_371, oT_371, oT_372, oI_373, oT_373, oI_374, oT_374, oI_375, oT_375, oT_376, oI_377, oT_377, oT_378, oI_379, oT_379, oI_380, oT_380, oI_381, oT_381, oI_382, oT_382, oI_383, oT_383, oI_384, oT_384, oI_385, oT_385, oI_386, oT_386, oT_387, oI_S1, oT_S1, oI_S2, oT_S2, oI_S3, oT_S3, oI_S4, oT_S4, oT_S5, oI_O1, oT_O1, oI_O2, oT_O2, oI_O3, oT_O3, oI_X, oR_1, oR_2, oR_5, oR_57, oR_109, oR_K, oN_57, oN_109, oN_53, oN_233, oN_47, oN_S4, oN_O3, wM1_lt0, wM1_ge0, ↓wM1_lit, lit_nI, ofI_1, ofI_2, ofI_6, ofI_m1, kI_add, kI_mul, kI_sub, kI_le, kI_lt, kI_eq, kI_rem, kI_ne_m1, kI_m1_ne, kI_m1, tcl, z2_hit, z2_off, true_and, and_true, and_self, implies_true, if_true, if_false, not_true_eq_false, not_false_eq_true, or_true, true_or, false_or, or_false, or_self, false_and, and_false, decide_true, decide_false, Bool.false_eq_true, eq_self, ite_self, forall_const, false_implies, true_implies, ge_iff_le, gt_iff_lt, zNar_b, dLeT, dLeF, dLtT, dLtF, dEqT, dEqF, e1, q1, q3, y1]
        exact y2.from fz
      · rw [if_neg hs] at q3
        simp (disch := omega) only [p169_0, b169_0, p169_5, b169_5, p169_16, b169_16, p169_51, b169_51, aC_169_220_145_10, aC_169_240_148_10, aC_169_303_168_10, aI_10_228_32_10, aW_169_138_26_10, wm_I, wm_X, wm_K, wm_WI, wm_HK, q0_0, q0_1, q0_2, q0_3, q0_4, q0_5, q0_6, q0_7, q0_8, q0_9, q0_10, q0_11, q354_1, q354_2, q354_3, q354_4, q354_5, q354_6, q354_7, q354_8, q354_9, q354_10, q354_17, q354_18, q354_19, q354_20, q354_21, q354_22, q354_23, q354_24, q354_25, q354_35, q354_37, q354_38, q354_39, q354_41, q354_42, q354_43, q354_44, q354_48, q354_49, q354_54, q354_55, q354_56, q4_0, q46_0, q46_1, q46_2, q46_3, q46_4, q52_0, q52_1, q52_2, q56_0, q108_0, q6_1, q6_2, q6_3, q6_4, q6_5, q6_6, q4x_0, q4x_1, q4x_2, q1, q2, q5, q57, q109, q1000007, oI_3, oT_3, oI_47, oT_47, oI_48, oT_48, oI_49, oT_49, oI_50, oT_50, oI_51, oT_51, oI_53, oT_53, oI_54, oT_54, oI_55, oT_55, oI_233, oT_233, oI_355, oT_355, oI_356, oT_356, oT_357, oI_358, oT_358, oI_359, oT_359, oI_360, oT_360, oI_361, oT_361, oT_362, oI_363, oT_363, oI_364, oT_364, oT_365, oI_366, oT_366, oI_367, oT_367, oI_368, oT_368, oI_369, oT_369, oI_370, oT_370, oI_371, oT_371, oT_372, oI_373, oT_373, oI_374, oT_374, oI_375, oT_375, oT_376, oI_377, oT_377, oT_378, oI_379, oT_379, oI_380, oT_380, oI_381, oT_381, oI_382, oT_382, oI_383, oT_383, oI_384, oT_384, oI_385, oT_385, oI_386, oT_386, oT_387, oI_S1, oT_S1, oI_S2, oT_S2, oI_S3, oT_S3, oI_S4, oT_S4, oT_S5, oI_O1, oT_O1, oI_O2, oT_O2, oI_O3, oT_O3, oI_X, oR_1, oR_2, oR_5, oR_57, oR_109, oR_K, oN_57, oN_109, oN_53, oN_233, oN_47, oN_S4, oN_O3, wM1_lt0, wM1_ge0, ↓wM1_lit, lit_nI, ofI_1, ofI_2, ofI_6, ofI_m1, kI_add, kI_mul, kI_sub, kI_le, kI_lt, kI_eq, kI_rem, kI_ne_m1, kI_m1_ne, kI_m1, tcl, z2_hit, z2_off, true_and, and_true, and_self, implies_true, if_true, if_false, not_true_eq_false, not_false_eq_true, or_true, true_or, false_or, or_false, or_self, false_and, and_false, decide_true, decide_false, Bool.false_eq_true, eq_self, ite_self, forall_const, false_implies, true_implies, ge_iff_le, gt_iff_lt, zNar_b, dLeT, dLeF, dLtT, dLtF, dEqT, dEqF, e1, q1, q3]
        exact (q4 hs).from fz
  · rw [if_neg h1] at e1 ⊢
    simp (disch := omega) only [p169_0, b169_0, p169_5, b169_5, p169_16, b169_16, aC_169_220_145_10, aC_169_240_148_10, aC_169_303_168_10, aI_10_228_32_10, aW_169_138_26_10, wm_I, wm_X, wm_K, wm_WI, wm_HK, q0_0, q0_1, q0_2, q0_3, q0_4, q0_5, q0_6, q0_7, q0_8, q0_9, q0_10, q0_11, q354_1, q354_2, q354_3, q354_4, q354_5, q354_6, q354_7, q354_8, q354_9, q354_10, q354_17, q354_18, q354_19, q354_20, q354_21, q354_22, q354_23, q354_24, q354_25, q354_35, q354_37, q354_38, q354_39, q354_41, q354_42, q354_43, q354_44, q354_48, q354_49, q354_54, q354_55, q354_56, q4_0, q46_0, q46_1, q46_2, q46_3, q46_4, q52_0, q52_1, q52_2, q56_0, q108_0, q6_1, q6_2, q6_3, q6_4, q6_5, q6_6, q4x_0, q4x_1, q4x_2, q1, q2, q5, q57, q109, q1000007, oI_3, oT_3, oI_47, oT_47, oI_48, oT_48, oI_49, oT_49, oI_50, oT_50, oI_51, oT_51, oI_53, oT_53, oI_54, oT_54, oI_55, oT_55, oI_233, oT_233, oI_355, oT_355, oI_356, oT_356, oT_357, oI_358, oT_358, oI_359, oT_359, oI_360, oT_360, oI_361, oT_361, oT_362, oI_363, oT_363, oI_364, oT_364, oT_365, oI_366, oT_366, oI_367, oT_367, oI_368, oT_368, oI_369, oT_369, oI_370, oT_370, oI_371, oT_371, oT_372, oI_373, oT_373, oI_374, oT_374, oI_375, oT_375, oT_376, oI_377, oT_377, oT_378, oI_379, oT_379, oI_380, oT_380, oI_381, oT_381, oI_382, oT_382, oI_383, oT_383, oI_384, oT_384, oI_385, oT_385, oI_386, oT_386, oT_387, oI_S1, oT_S1, oI_S2, oT_S2, oI_S3, oT_S3, oI_S4, oT_S4, oT_S5, oI_O1, oT_O1, oI_O2, oT_O2, oI_O3, oT_O3, oI_X, oR_1, oR_2, oR_5, oR_57, oR_109, oR_K, oN_57, oN_109, oN_53, oN_233, oN_47, oN_S4, oN_O3, wM1_lt0, wM1_ge0, ↓wM1_lit, lit_nI, ofI_1, ofI_2, ofI_6, ofI_m1, kI_add, kI_mul, kI_sub, kI_le, kI_lt, kI_eq, kI_rem, kI_ne_m1, kI_m1_ne, kI_m1, tcl, z2_hit, z2_off, true_and, and_true, and_self, implies_true, if_true, if_false, not_true_eq_false, not_false_eq_true, or_true, true_or, false_or, or_false, or_self, false_and, and_false, decide_true, decide_false, Bool.false_eq_true, eq_self, ite_self, forall_const, false_implies, true_implies, ge_iff_le, gt_iff_lt, zNar_b, dLeT, dLeF, dLtT, dLtF, dEqT, dEqF, e1]
    exact rK.same hR hT (fun c k h => z2_off (by unfold wPM at h; omega))
end OK
