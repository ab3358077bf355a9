/-! order: the class's side. -/
/-- the first of a row that can be joined is joined -/
def oFst (l : wLs) : Nat → Nat → wG → Bool × wG
  | 0, _, s => (false, s)
  | m + 1, k, s => if (oTry s (l.2 k)).1 < nI 0 then oFst l m (k + 1) (oTry s (l.2 k)).2 else (true, (oTry s (l.2 k)).2)
def oOrd (s : wG) : Bool × wG := oFst (wSur s) (wSur s).1 0 s
def oOr : Nat → Nat → wG → Nat × wG
  | 0, c, s => (c, s)
  | f + 1, c, s => if wFree s < 40 then (if (oOrd s).1 = true then oOr f (c + 1) (oOrd s).2 else (c, (oOrd s).2)) else (c, s)
def oOrder (s : wG) : Int32 × wG := (nI (oOr 41 0 s).1, (oOr 41 0 s).2)
/-- the same but for what was told of refusals -/
def wSm (s s2 : wG) : Prop := ∀ c q, ¬ ((c = 354 ∧ 50 ≤ q ∧ q ≤ 53) ∨ (c = 999 ∧ q = 0)) → s2 c q = s c q
section CQ
variable {V : wV} {I : Nat → Nat → Int32} {s s2 s3 : wG} {n : Nat} {x : wSp}
theorem wSm.rf (s : wG) : wSm s s := fun _ _ _ => rfl
theorem wSm.tr (h : wSm s s2) (h2 : wSm s2 s3) : wSm s s3 := fun c q g => (h2 c q g).trans (h c q g)
theorem wSm.stp (h : wSm s s2) (a : Nat) : wStp s2 a = wStp s a := by unfold wStp; rw [h _ _ (by omega)]
theorem wSm.mny (h : wSm s s2) : wMny s2 = wMny s := by unfold wMny; rw [h _ _ (by omega)]
theorem wSm.mad (h : wSm s s2) : wMad s2 = wMad s := by unfold wMad; rw [h _ _ (by omega)]
theorem wSm.cnt (h : wSm s s2) : wCnt s2 40 = wCnt s 40 := wCnt_cg (fun k _ => h _ _ (by omega)) 40 (Nat.le_refl _)
theorem wSm.xok (h : wSm s s2) (hx : wXok s x) : wXok s2 x := by
  unfold wXok at hx ⊢
  rw [h.mny, h.stp, h.stp, h _ _ (by omega), h _ _ (by omega)]
  exact hx
theorem wSm.on (h : wSm s s2) : ∀ m k, wOn s2 x m k = wOn s x m k
  | 0, _ => rfl
  | m + 1, k => by rw [wOn, wOn, wSm.on h m k, h.stp, h.stp]
theorem wSm.free (h : wSm s s2) (hf : ∀ q, wOn s x (spN x) q = true → s 364 q = wM1) : ∀ q, wOn s2 x (spN x) q = true → s2 364 q = wM1 := fun q hq => by
  rw [h _ _ (by omega)]; rw [h.on] at hq; exact hf q hq
theorem wSm.at (h : wSm s s2) {p : Nat} (ha : wAt I p s x) : wAt I p s2 x := by
  unfold wAt at ha ⊢
  rw [h.stp, h.stp]; exact ha
theorem oTry_no (hW : wW s) (hg : wGst s < 100000000) (h : (oTry s x).1 < nI 0) : wSm s (oTry s x).2 ∧ wGst (oTry s x).2 ≤ wGst s + 1 := by
  obtain ⟨f1, f2, f3⟩ := wFree_sp hW
  unfold oTry at h ⊢
  split at h
  · rename_i h1; rw [if_pos h1]; exact ⟨wSm.rf s, by show wGst s ≤ _; omega⟩
  · rename_i h1
    rw [if_neg h1]
    split at h
    · rename_i h2
      rw [if_pos h2]
      split at h
      · rename_i h3
        rw [if_pos h3]
        refine ⟨fun c q g => z2_off (by omega), ?_⟩
        have e : wGst (z2 s 354 50 (wMs s x)) = wGst s := by unfold wGst; rw [z2_off (by omega)]
        show wGst (z2 s 354 50 (wMs s x)) ≤ _
        omega
      · rename_i h3
        rw [if_neg h3]
        unfold oLie at h ⊢
        split at h
        · rename_i v hv
          refine ⟨fun c q g => ?_, ?_⟩
          · show sLie s v c q = _; exact sLie_off (by omega)
          · have e : wGst (sLie s v) = wGst (sTry s) := by unfold wGst; rw [sLie_t (by omega)]
            have e2 := sTry_gst hg
            show wGst (sLie s v) ≤ _
            omega
        · exact absurd h (by show ¬ nI (wFree s) < nI 0; rw [kI_lt (by omega) (by omega)]; omega)
    · rename_i h2; rw [if_neg h2]; exact ⟨wSm.rf s, by show wGst s ≤ _; omega⟩
theorem oTry_yes (h : ¬ (oTry s x).1 < nI 0) : wFree s < 40 ∧ (oTry s x).2 = sAdd s (wFree s) x (nI 0) := by
  unfold oTry at h ⊢
  split at h
  · exact absurd (by decide : (-3 : Int32) < nI 0) h
  · rename_i h1
    rw [if_neg h1]
    split at h
    · rename_i h2
      rw [if_pos h2]
      split at h
      · exact absurd (by decide : (-5 : Int32) < nI 0) h
      · rename_i h3
        rw [if_neg h3]
        unfold oLie at h ⊢
        split at h
        · exact absurd (by decide : (-6 : Int32) < nI 0) h
        · exact ⟨h2, rfl⟩
    · exact absurd (by decide : (-4 : Int32) < nI 0) h
theorem oFst_ok {l : wLs} (hx : ∀ k, k < l.1 → wXok s (l.2 k)) : ∀ (m k : Nat) (s2 : wG), m + k = l.1 → wSm s s2 → wW s2 → wMad s2 < 1000000 → wGst s2 + m < 100000000 → wW (oFst l m k s2).2 ∧ wGst (oFst l m k s2).2 ≤ wGst s2 + m ∧ ((oFst l m k s2).1 = true → wCnt (oFst l m k s2).2 40 = wCnt s2 40 + 1 ∧ wMad (oFst l m k s2).2 = wMad s2 + 1) ∧ ((oFst l m k s2).1 = false → wSm s2 (oFst l m k s2).2)
  | 0, k, s2, _, _, hW, _, _ => ⟨hW, Nat.le_refl _, fun h => (nomatch h), fun _ => wSm.rf s2⟩
  | m + 1, k, s2, hk, hs, hW, hm, hg => by
    have hx2 := hs.xok (hx k (by omega))
    have hw := oTry_w hW hx2 hm (by omega)
    rw [oFst]
    by_cases h : (oTry s2 (l.2 k)).1 < nI 0
    · rw [if_pos h]
      obtain ⟨n1, n2⟩ := oTry_no hW (by omega) h
      obtain ⟨i1, i2, i3, i4⟩ := oFst_ok hx m (k + 1) (oTry s2 (l.2 k)).2 (by omega) (hs.tr n1) hw (by rw [n1.mad]; exact hm) (by omega)
      exact ⟨i1, by omega, fun h => by have := i3 h; rw [n1.cnt, n1.mad] at this; exact this, fun h => n1.tr (i4 h)⟩
    · rw [if_neg h]
      obtain ⟨y1, y2⟩ := oTry_yes h
      obtain ⟨f1, f2, f3⟩ := wFree_sp hW
      refine ⟨hw, ?_, fun _ => ⟨?_, ?_⟩, fun h => (nomatch h)⟩
      · show wGst (oTry s2 (l.2 k)).2 ≤ _
        rw [y2, sA_gst (by omega)]; omega
      · show wCnt (oTry s2 (l.2 k)).2 40 = _
        rw [y2, wCnt_add (f2 y1), if_pos y1]
      · show wMad (oTry s2 (l.2 k)).2 = _
        rw [y2, sA_mad hm]
/-- joinFirstSure -/
theorem B110_L {l : wLs} (hn : 20000 ≤ n) (hl : l.1 ≤ 120) (hx : ∀ k, k < l.1 → wXok s (l.2 k) ∧ ∀ q, wOn s (l.2 k) (spN (l.2 k)) q = true → s 364 q = wM1) : ∀ (m f k : Nat) (s2 : wG) (I : Nat → Nat → Int32), m + k = l.1 → m < f → wSm s s2 → wW s2 → wMad s2 < 1000000 → wGst s2 + m < 100000000 → rC V I s2 → wKp108 V I s l → p110_2 n f 0 (nI k) (wm V I) ∧ ∃ I2, b110_2 n f 0 (nI k) (wm V I) = (if (oFst l m k s2).1 then 1 else 0, wm V I2) ∧ rC V I2 (oFst l m k s2).2 ∧ (∀ c q, 354 ≤ c → I2 c q = I c q) := by
  intro m
  induction m with
  | zero =>
    intro f k s2 I hk hf hs hW hm hg hC hK
    obtain ⟨f, rfl⟩ : ∃ m, f = m + 1 := ⟨f - 1, by omega⟩
    have e : k = l.1 := by omega
    subst e
    have k0 := hK.1
    rw [oFst]
    simp (disch := omega) only [p110_2, b110_2, c110_2, d110_2, aC_110_299_106_9, aI_9_272_1_8, aQ_9_275_0_8, aQ_9_55_7_9, wm_I, wm_X, wm_K, wm_WI, wm_HK, q0_0, q0_1, q0_2, q0_3, q0_4, q0_5, q0_6, q0_7, q0_8, q0_9, q0_10, q0_11, q354_1, q354_2, q354_3, q354_4, q354_5, q354_6, q354_7, q354_8, q354_9, q354_10, q354_17, q354_18, q354_19, q354_20, q354_21, q354_22, q354_23, q354_24, q354_25, q354_35, q354_37, q354_38, q354_39, q354_41, q354_42, q354_43, q354_44, q354_48, q354_49, q354_54, q354_55, q354_56, q4_0, q46_0, q46_1, q46_2, q46_3, q46_4, q52_0, q52_1, q52_2, q56_0, q108_0, q6_1, q6_2, q6_3, q6_4, q6_5, q6_6, q4x_0, q4x_1, q4x_2, q1, q2, q5, q57, q109, q1000007, oI_3, oT_3, oI_47, oT_47, oI_48, oT_48, oI_49, oT_49, oI_50, oT_50, oI_51, oT_51, oI_53, oT_53, oI_54, oT_54, oI_55, oT_55, oI_233, oT_233, oI_355, oT_355, oI_356, oT_356, oT_357, oI_358, oT_358, oI_359, oT_359, oI_360, oT_360, oI_361, oT_361, oT_362, oI_363, oT_363, oI_364, oT_364, oT_365, oI_366, oT_366, oI_367, oT_367, oI_368, oT_368, oI_369, oT_369, oI_370, oT_370, oI_371, oT_371, oT_372, oI_373, oT_373, oI_374, oT_374, oI_375, oT_375, oT_376, oI_377, oT_377, oT_378, oI_379, oT_379, oI_380, oT_380, oI_381, oT_381, oI_382, oT_382, oI_383, oT_383, oI_384, oT_384, oI_385, oT_385, oI_386, oT_386, oT_387, oI_S1, oT_S1, oI_S2, oT_S2, oI_S3, oT_S3, oI_S4, oT_S4, oT_S5, oI_O1, oT_O1, oI_O2, oT_O2, oI_O3, oT_O3, oI_X, oR_1, oR_2, oR_5, oR_57, oR_109, oR_K, oN_57, oN_109, oN_53, oN_233, oN_47, oN_S4, oN_O3, wM1_lt0, wM1_ge0, ↓wM1_lit, lit_nI, ofI_1, ofI_2, ofI_6, ofI_m1, kI_add, kI_mul, kI_sub, kI_le, kI_lt, kI_eq, kI_rem, kI_ne_m1, kI_m1_ne, kI_m1, tcl, z2_hit, z2_off, true_and, and_true, and_self, implies_true, if_true, if_false, not_true_eq_false, not_false_eq_true, or_true, true_or, false_or, or_false, or_self, false_and, and_false, decide_true, decide_false, Bool.false_eq_true, eq_self, ite_self, forall_const, false_implies, true_implies, ge_iff_le, gt_iff_lt, zNar_b, dLeT, dLeF, dLtT, dLtF, dEqT, dEqF, k0]
    exact ⟨I, rfl, hC, fun _ _ _ => rfl⟩
  | succ m ih =>
    intro f k s2 I hk hf hs hW hm hg hC hK
    obtain ⟨f, rfl⟩ : ∃ m, f = m + 1 := ⟨f - 1, by omega⟩
    obtain ⟨k0, k1, k2⟩ := id hK
    have hkl : k < l.1 := by omega
    obtain ⟨x1, x2⟩ := hx k hkl
    have hx2 := hs.xok x1
    have pu0 := hC.P.pru0 (k := k) (by omega)
    have pu1 := hC.P.pru1 (k := k) (by omega)
    obtain ⟨u1, I1, u2, u3, u4⟩ := B106 (n := n) (V := V) (p := vU V k) hW hC (by omega) hx2 (hs.at (k2 k hkl).1).pa (hs.free x2) hm (by omega) hn
    have hw := oTry_w hW hx2 hm (by omega)
    rw [oFst]
    by_cases h : (oTry s2 (l.2 k)).1 < nI 0
    · rw [if_pos h]
      obtain ⟨n1, n2⟩ := oTry_no hW (by omega) h
      have hK1 : wKp108 V I1 s l := ⟨by rw [u4 _ _ (by omega)]; exact k0, k1, fun q hq => ⟨(k2 q hq).1.keep (fun w => u4 _ _ (by have := hC.P.pru0 (k := q) (by omega); have := hC.P.pru1 (k := q) (by omega); omega)), (k2 q hq).2⟩⟩
      obtain ⟨v1, I2, v2, v3, v4⟩ := ih f (k + 1) (oTry s2 (l.2 k)).2 I1 (by omega) (by omega) (hs.tr n1) hw (by rw [n1.mad]; exact hm) (by omega) u3 hK1
      simp (disch := omega) only [p110_2, b110_2, c110_2, d110_2, p110_26, b110_26, aC_110_299_106_9, aI_9_272_1_8, aQ_9_275_0_8, aQ_9_55_7_9, wm_I, wm_X, wm_K, wm_WI, wm_HK, q0_0, q0_1, q0_2, q0_3, q0_4, q0_5, q0_6, q0_7, q0_8, q0_9, q0_10, q0_11, q354_1, q354_2, q354_3, q354_4, q354_5, q354_6, q354_7, q354_8, q354_9, q354_10, q354_17, q354_18, q354_19, q354_20, q354_21, q354_22, q354_23, q354_24, q354_25, q354_35, q354_37, q354_38, q354_39, q354_41, q354_42, q354_43, q354_44, q354_48, q354_49, q354_54, q354_55, q354_56, q4_0, q46_0, q46_1, q46_2, q46_3, q46_4, q52_0, q52_1, q52_2, q56_0, q108_0, q6_1, q6_2, q6_3, q6_4, q6_5, q6_6, q4x_0, q4x_1, q4x_2, q1, q2, q5, q57, q109, q1000007, oI_3, oT_3, oI_47, oT_47, oI_48, oT_48, oI_49, oT_49, oI_50, oT_50, oI_51, oT_51, oI_53, oT_53, oI_54, oT_54, oI_55, oT_55, oI_233, oT_233, oI_355, oT_355, oI_356, oT_356, oT_357, oI_358, oT_358, oI_359, oT_359, oI_360, oT_360, oI_361, oT_361, oT_362, oI_363, oT_363, oI_364, oT_364, oT_365, oI_366, oT_366, oI_367, oT_367, oI_368, oT_368, oI_369, oT_369, oI_370, oT_370, oI_371, oT_371, oT_372, oI_373, oT_373, oI_374, oT_374, oI_375, oT_375, oT_376, oI_377, oT_377, oT_378, oI_379, oT_379, oI_380, oT_380, oI_381, oT_381, oI_382, oT_382, oI_383, oT_383, oI_384, oT_384, oI_385, oT_385, oI_386, oT_386, oT_387, oI_S1, oT_S1, oI_S2, oT_S2, oI_S3, oT_S3, oI_S4, oT_S4, oT_S5, oI_O1, oT_O1, oI_O2, oT_O2, oI_O3, oT_O3, oI_X, oR_1, oR_2, oR_5, oR_57, oR_109, oR_K, oN_57, oN_109, oN_53, oN_233, oN_47, oN_S4, oN_O3, wM1_lt0, wM1_ge0, ↓wM1_lit, lit_nI, ofI_1, ofI_2, ofI_6, ofI_m1, kI_add, kI_mul, kI_sub, kI_le, kI_lt, kI_eq, kI_rem, kI_ne_m1, kI_m1_ne, kI_m1, tcl, z2_hit, z2_off, true_and, and_true, and_self, implies_true, if_true, if_false, not_true_eq_false, not_false_eq_true, or_true, true_or, false_or, or_false, or_self, false_and, and_false, decide_true, decide_false, Bool.false_eq_true, eq_self, ite_self, forall_const, false_implies, true_implies, ge_iff_le, gt_iff_lt, zNar_b, dLeT, dLeF, dLtT, dLtF, dEqT, dEqF, k0, u1, u2, h]
      exact ⟨v1, I2, v2, v3, fun c q h => by rw [v4 c q h, u4 c q (by omega)]⟩
    · rw [if_neg h]
      simp (disch := omega) only [p110_2, b110_2, c110_2, d110_2, p110_26, b110_26, aC_110_299_106_9, aI_9_272_1_8, aQ_9_275_0_8, aQ_9_55_7_9, wm_I, wm_X, wm_K, wm_WI, wm_HK, q0_0, q0_1, q0_2, q0_3, q0_4, q0_5, q0_6, q0_7, q0_8, q0_9, q0_10, q0_11, q354_1, q354_2, q354_3, q354_4, q354_5, q354_6, q354_7, q354_8, q354_9, q354_10, q354_17, q354_18, q354_19, q354_20, q354_21, q354_22, q354_23, q354_24, q354_25, q354_35, q354_37, q354_38, q354_39, q354_41, q354_42, q354_43, q354_44, q354_48, q354_49, q354_54, q354_55, q354_56, q4_0, q46_0, q46_1, q46_2, q46_3, q46_4, q52_0, q52_1, q52_2, q56_0, q108_0, q6_1, q6_2, q6_3, q6_4, q6_5, q6_6, q4x_0, q4x_1, q4x_2, q1, q2, q5, q57, q109, q1000007, oI_3, oT_3, oI_47, oT_47, oI_48, oT_48, oI_49, oT_49, oI_50, oT_50, oI_51, oT_51, oI_53, oT_53, oI_54, oT_54, oI_55, oT_55, oI_233, oT_233, oI_355, oT_355, oI_356, oT_356, oT_357, oI_358, oT_358, oI_359, oT_359, oI_360, oT_360, oI_361, oT_361, oT_362, oI_363, oT_363, oI_364, oT_364, oT_365, oI_366, oT_366, oI_367, oT_367, oI_368, oT_368, oI_369, oT_369, oI_370, oT_370, oI_371, oT_371, oT_372, oI_373, oT_373, oI_374, oT_374, oI_375, oT_375, oT_376, oI_377, oT_377, oT_378, oI_379, oT_379, oI_380, oT_380, oI_381, oT_381, oI_382, oT_382, oI_383, oT_383, oI_384, oT_384, oI_385, oT_385, oI_386, oT_386, oT_387, oI_S1, oT_S1, oI_S2, oT_S2, oI_S3, oT_S3, oI_S4, oT_S4, oT_S5, oI_O1, oT_O1, oI_O2, oT_O2, oI_O3, oT_O3, oI_X, oR_1, oR_2, oR_5, oR_57, oR_109, oR_K, oN_57, oN_109, oN_53, oN_233, oN_47, oN_S4, oN_O3, wM1_lt0, wM1_ge0, ↓wM1_lit, lit_nI, ofI_1, ofI_2, ofI_6, ofI_m1, kI_add, kI_mul, kI_sub, kI_le, kI_lt, kI_eq, kI_rem, kI_ne_m1, kI_m1_ne, kI_m1, tcl, z2_hit, z2_off, true_and, and_true, and_self, implies_true, if_true, if_false, not_true_eq_false, not_false_eq_true, or_true, true_or, false_or, or_false, or_self, false_and, and_false, decide_true, decide_false, Bool.false_eq_true, eq_self, ite_self, forall_const, false_implies, true_implies, ge_iff_le, gt_iff_lt, zNar_b, dLeT, dLeF, dLtT, dLtF, dEqT, dEqF, k0, u1, u2, h]
      exact ⟨I1, rfl, u3, fun c q h => u4 c q (by omega)⟩
theorem wSur_x (hW : wW s) {k : Nat} (hk : k < (wSur s).1) : wXok s ((wSur s).2 k) ∧ ∀ q, wOn s ((wSur s).2 k) (spN ((wSur s).2 k)) q = true → s 364 q = wM1 := by
  obtain ⟨h1, h2, h3, _⟩ := wSur_ok hW
  have hc := wSpa_ok _ (h3 k hk)
  refine ⟨(hc.sp hW).2.2.2.1, ?_⟩
  have e := hc.2.2.2.2.2.1
  intro q hq
  rw [e] at hq
  exact wMes_free q hq
/-- what one round of ordering keeps -/
theorem oOrd_ok (hW : wW s) (hm : wMad s < 1000000) (hg : wGst s + 121 < 100000000) : wW (oOrd s).2 ∧ wGst (oOrd s).2 ≤ wGst s + 120 ∧ ((oOrd s).1 = true → wCnt (oOrd s).2 40 = wCnt s 40 + 1 ∧ wMad (oOrd s).2 = wMad s + 1) ∧ ((oOrd s).1 = false → wSm s (oOrd s).2) := by
  have h1 := (wSur_ok hW).1
  obtain ⟨i1, i2, i3, i4⟩ := oFst_ok (s := s) (l := wSur s) (fun k hk => (wSur_x hW hk).1) (wSur s).1 0 s (by omega) (wSm.rf s) hW hm (by omega)
  unfold oOrd
  exact ⟨i1, by omega, i3, i4⟩
/-- room enough for ordering -/
def wRo (s : wG) : Prop := wMad s + (41 - wCnt s 40) ≤ 1000000 ∧ wGst s + 121 * (41 - wCnt s 40) + 121 ≤ 100000000
theorem wRo.next (hW : wW s) (h : wRo s) (hf : wFree s < 40) (ht : (oOrd s).1 = true) : wRo (oOrd s).2 ∧ wCnt (oOrd s).2 40 = wCnt s 40 + 1 ∧ wW (oOrd s).2 := by
  have hc : wCnt s 40 ≠ 40 := fun e => by have := wFree_40.mpr e; omega
  have cle := wCnt_le s 40
  obtain ⟨h1, h2⟩ := h
  obtain ⟨i1, i2, i3, i4⟩ := oOrd_ok hW (by omega) (by omega)
  obtain ⟨j1, j2⟩ := i3 ht
  exact ⟨⟨by omega, by omega⟩, j1, i1⟩
theorem oOr_w : ∀ (f c : Nat) (s : wG), wW s → wRo s → 41 ≤ f + wCnt s 40 → wW (oOr f c s).2 ∧ wMad (oOr f c s).2 ≤ wMad s + f ∧ wGst (oOr f c s).2 ≤ wGst s + 121 * f
  | 0, _, s, hW, _, _ => ⟨hW, Nat.le_refl _, Nat.le_refl _⟩
  | f + 1, c, s, hW, hR, hf => by
    rw [oOr]
    by_cases h1 : wFree s < 40
    · rw [if_pos h1]
      have hc : wCnt s 40 ≠ 40 := fun e => by have := wFree_40.mpr e; omega
      have cle := wCnt_le s 40
      have hR' := hR
      obtain ⟨r1, r2⟩ := hR'
      obtain ⟨i1, i2, i3, i4⟩ := oOrd_ok hW (by omega) (by omega)
      by_cases h2 : (oOrd s).1 = true
      · rw [if_pos h2]
        obtain ⟨k1, k2, k3⟩ := hR.next hW h1 h2
        obtain ⟨j1, j2, j3⟩ := oOr_w f (c + 1) (oOrd s).2 k3 k1 (by omega)
        have := (i3 h2).2
        exact ⟨j1, by omega, by omega⟩
      · rw [if_neg h2]
        have i5 := i4 (by cases h : (oOrd s).1 with | true => exact absurd h h2 | false => rfl)
        have := i5.mad
        exact ⟨i1, by show wMad (oOrd s).2 ≤ _; omega, by show wGst (oOrd s).2 ≤ _; omega⟩
    · rw [if_neg h1]; exact ⟨hW, by show wMad s ≤ _; omega, by show wGst s ≤ _; omega⟩
theorem order_w (hW : wW s) (hm : wMad s + 41 ≤ 1000000) (hg : wGst s + 5100 ≤ 100000000) : wW (oOrder s).2 ∧ wMad (oOrder s).2 ≤ wMad s + 41 ∧ wGst (oOrder s).2 ≤ wGst s + 4961 :=
  oOr_w 41 0 s hW ⟨by omega, by omega⟩ (by omega)
theorem B85_L (hn : 20000 ≤ n) : ∀ (f fu c : Nat) (s : wG) (V : wV) (I : Nat → Nat → Int32), wW s → wRo s → 41 ≤ f + wCnt s 40 → f < fu → c ≤ wCnt s 40 → rC V I s → p85_2 n fu 0 (nI c) (wm V I) ∧ cR V I (b85_2 n fu 0 (nI c) (wm V I)) (nI (oOr f c s).1) (oOr f c s).2 := by
  intro f
  induction f with
  | zero => intro fu c s V I hW hR hf _ _ _; have := wCnt_le s 40; omega
  | succ f ih =>
    intro fu c s V I hW hR hf hfu hc hC
    obtain ⟨fu, rfl⟩ : ∃ m, fu = m + 1 := ⟨fu - 1, by omega⟩
    obtain ⟨f1, f2, f3⟩ := wFree_sp hW
    have cle := wCnt_le s 40
    have e15 := B15 (n := n) (V := V) hW hC.J (by omega)
    rw [f3] at e15
    rw [oOr]
    by_cases h1 : wFree s < 40
    · rw [if_pos h1] at e15 ⊢
      have hc40 : wCnt s 40 ≠ 40 := fun e => by have := wFree_40.mpr e; omega
      have hR' := hR
      obtain ⟨r1, r2⟩ := hR'
      obtain ⟨u1, I1, u2, u3, u4⟩ := B111 (n := n) hW hC (by omega)
      have hC1 : rC V I1 s := hC.congr hW (fun c q h => u4 c q (by omega) (by omega) (by omega))
      obtain ⟨v1, V2, I2, v2, v3, v4, v5, v6⟩ := B112 (n := n) hW hC1 u3 (by omega)
      have hC2 : rC V2 I2 s := hC1.su hW v4 v5 v6
      have hsz := (wSur_ok hW).1
      obtain ⟨w1, I3, w2, w3, w4⟩ := B110_L (n := n) (V := V2) (s := s) hn hsz (fun k hk => wSur_x hW hk) (wSur s).1 n 0 s I2 (by omega) (by omega) (wSm.rf s) hW (by omega) (by omega) hC2 v3
      have w2' : b110_0 n 0 (wm V2 I2) = (if (oOrd s).1 then 1 else 0, wm V2 I3) := w2
      have w1' : p110_0 n 0 (wm V2 I2) := w1
      have w3' : rC V2 I3 (oOrd s).2 := w3
      have sv : wSV V V2 := by obtain ⟨U, rfl⟩ := v5; exact ⟨rfl, rfl, rfl⟩
      have fr : ∀ c q, 354 ≤ c → I3 c q = I c q := fun c q h => by rw [w4 c q h, v6 c q (by omega), u4 c q (by omega) (by omega) (by omega)]
      by_cases h2 : (oOrd s).1 = true
      · rw [if_pos h2] at w2' ⊢
        obtain ⟨k1, k2, k3⟩ := hR.next hW h1 h2
        obtain ⟨y1, V3, I4, y2, y3, y4, y5⟩ := ih fu (c + 1) (oOrd s).2 V2 I3 k3 k1 (by omega) (by omega) (by omega) w3'
        simp (disch := omega) only [p85_2, b85_2, c85_2, d85_2, p85_15, b85_15, p85_23, b85_23, p85_27, b85_27, p85_31, b85_31, aC_85_311_15_2, aC_85_351_111_9, aC_85_354_112_9, aC_85_357_110_9, aQ_9_28_3_9, wm_I, wm_X, wm_K, wm_WI, wm_HK, q0_0, q0_1, q0_2, q0_3, q0_4, q0_5, q0_6, q0_7, q0_8, q0_9, q0_10, q0_11, q354_1, q354_2, q354_3, q354_4, q354_5, q354_6, q354_7, q354_8, q354_9, q354_10, q354_17, q354_18, q354_19, q354_20, q354_21, q354_22, q354_23, q354_24, q354_25, q354_35, q354_37, q354_38, q354_39, q354_41, q354_42, q354_43, q354_44, q354_48, q354_49, q354_54, q354_55, q354_56, q4_0, q46_0, q46_1, q46_2, q46_3, q46_4, q52_0, q52_1, q52_2, q56_0, q108_0, q6_1, q6_2, q6_3, q6_4, q6_5, q6_6, q4x_0, q4x_1, q4x_2, q1, q2, q5, q57, q109, q1000007, oI_3, oT_3, oI_47, oT_47, oI_48, oT_48, oI_49, oT_49, oI_50, oT_50, oI_51, oT_51, oI_53, oT_53, oI_54, oT_54, oI_55, oT_55, oI_233, oT_233, oI_355, oT_355, oI_356, oT_356, oT_357, oI_358, oT_358, oI_359, oT_359, oI_360, oT_360, oI_361, oT_361, oT_362, oI_363, oT_363, oI_364, oT_364, oT_365, oI_366, oT_366, oI_367, oT_367, oI_368, oT_368, oI_369, oT_369, oI_370, oT_370, oI_371, oT_371, oT_372, oI_373, oT_373, oI_374, oT_374, oI_375, oT_375, oT_376, oI_377, oT_377, oT_378, oI_379, oT_379, oI_380, oT_380, oI_381, oT_381, oI_382, oT_382, oI_383, oT_383, oI_384, oT_384, oI_385, oT_385, oI_386, oT_386, oT_387, oI_S1, oT_S1, oI_S2, oT_S2, oI_S3, oT_S3, oI_S4, oT_S4, oT_S5, oI_O1, oT_O1, oI_O2, oT_O2, oI_O3, oT_O3, oI_X, oR_1, oR_2, oR_5, oR_57, oR_109, oR_K, oN_57, oN_109, oN_53, oN_233, oN_47, oN_S4, oN_O3, wM1_lt0, wM1_ge0, ↓wM1_lit, lit_nI, ofI_1, ofI_2, ofI_6, ofI_m1, kI_add, kI_mul, kI_sub, kI_le, kI_lt, kI_eq, kI_rem, kI_ne_m1, kI_m1_ne, kI_m1, tcl, z2_hit, z2_off, true_and, and_true, and_self, implies_true, if_true, if_false, not_true_eq_false, not_false_eq_true, or_true, true_or, false_or, or_false, or_self, false_and, and_false, decide_true, decide_false, Bool.false_eq_true, eq_self, ite_self, forall_const, false_implies, true_implies, ge_iff_le, gt_iff_lt, zNar_b, dLeT, dLeF, dLtT, dLtF, dEqT, dEqF, e15, u1, u2, v1, v2, w1', w2']
        exact ⟨y1, V3, I4, y2, sv.tr y3, y4, fun c q h => by rw [y5 c q h, fr c q h]⟩
      · rw [if_neg h2] at w2' ⊢
        simp (disch := omega) only [p85_2, b85_2, c85_2, d85_2, p85_15, b85_15, p85_23, b85_23, p85_27, b85_27, p85_31, b85_31, p85_43, b85_43, aC_85_311_15_2, aC_85_351_111_9, aC_85_354_112_9, aC_85_357_110_9, aQ_9_28_3_9, wm_I, wm_X, wm_K, wm_WI, wm_HK, q0_0, q0_1, q0_2, q0_3, q0_4, q0_5, q0_6, q0_7, q0_8, q0_9, q0_10, q0_11, q354_1, q354_2, q354_3, q354_4, q354_5, q354_6, q354_7, q354_8, q354_9, q354_10, q354_17, q354_18, q354_19, q354_20, q354_21, q354_22, q354_23, q354_24, q354_25, q354_35, q354_37, q354_38, q354_39, q354_41, q354_42, q354_43, q354_44, q354_48, q354_49, q354_54, q354_55, q354_56, q4_0, q46_0, q46_1, q46_2, q46_3, q46_4, q52_0, q52_1, q52_2, q56_0, q108_0, q6_1, q6_2, q6_3, q6_4, q6_5, q6_6, q4x_0, q4x_1, q4x_2, q1, q2, q5, q57, q109, q1000007, oI_3, oT_3, oI_47, oT_47, oI_48, oT_48, oI_49, oT_49, oI_50, oT_50, oI_51, oT_51, oI_53, oT_53, oI_54, oT_54, oI_55, oT_55, oI_233, oT_233, oI_355, oT_355, oI_356, oT_356, oT_357, oI_358, oT_358, oI_359, oT_359, oI_360, oT_360, oI_361, oT_361, oT_362, oI_363, oT_363, oI_364, oT_364, oT_365, oI_366, oT_366, oI_367, oT_367, oI_368, oT_368, oI_369, oT_369, oI_370, oT_370, oI_371, oT_371, oT_372, oI_373, oT_373, oI_374, oT_374, oI_375, oT_375, oT_376, oI_377, oT_377, oT_378, oI_379, oT_379, oI_380, oT_380, oI_381, oT_381, oI_382, oT_382, oI_383, oT_383, oI_384, oT_384, oI_385, oT_385, oI_386, oT_386, oT_387, oI_S1, oT_S1, oI_S2, oT_S2, oI_S3, oT_S3, oI_S4, oT_S4, oT_S5, oI_O1, oT_O1, oI_O2, oT_O2, oI_O3, oT_O3, oI_X, oR_1, oR_2, oR_5, oR_57, oR_109, oR_K, oN_57, oN_109, oN_53, oN_233, oN_47, oN_S4, oN_O3, wM1_lt0, wM1_ge0, ↓wM1_lit, lit_nI, ofI_1, ofI_2, ofI_6, ofI_m1, kI_add, kI_mul, kI_sub, kI_le, kI_lt, kI_eq, kI_rem, kI_ne_m1, kI_m1_ne, kI_m1, tcl, z2_hit, z2_off, true_and, and_true, and_self, implies_true, if_true, if_false, not_true_eq_false, not_false_eq_true, or_true, true_or, false_or, or_false, or_self, false_and, and_false, decide_true, decide_false, Bool.false_eq_true, eq_self, ite_self, forall_const, false_implies, true_implies, ge_iff_le, gt_iff_lt, zNar_b, dLeT, dLeF, dLtT, dLtF, dEqT, dEqF, e15, u1, u2, v1, v2, w1', w2']
        exact ⟨V2, I3, rfl, sv, w3', fr⟩
    · rw [if_neg h1] at e15 ⊢
      by_cases h4 : 40 ≤ c
      · simp (disch := omega) only [p85_2, b85_2, c85_2, d85_2, p85_43, b85_43, aC_85_311_15_2, aC_85_351_111_9, aC_85_354_112_9, aC_85_357_110_9, aQ_9_28_3_9, wm_I, wm_X, wm_K, wm_WI, wm_HK, q0_0, q0_1, q0_2, q0_3, q0_4, q0_5, q0_6, q0_7, q0_8, q0_9, q0_10, q0_11, q354_1, q354_2, q354_3, q354_4, q354_5, q354_6, q354_7, q354_8, q354_9, q354_10, q354_17, q354_18, q354_19, q354_20, q354_21, q354_22, q354_23, q354_24, q354_25, q354_35, q354_37, q354_38, q354_39, q354_41, q354_42, q354_43, q354_44, q354_48, q354_49, q354_54, q354_55, q354_56, q4_0, q46_0, q46_1, q46_2, q46_3, q46_4, q52_0, q52_1, q52_2, q56_0, q108_0, q6_1, q6_2, q6_3, q6_4, q6_5, q6_6, q4x_0, q4x_1, q4x_2, q1, q2, q5, q57, q109, q1000007, oI_3, oT_3, oI_47, oT_47, oI_48, oT_48, oI_49, oT_49, oI_50, oT_50, oI_51, oT_51, oI_53, oT_53, oI_54, oT_54, oI_55, oT_55, oI_233, oT_233, oI_355, oT_355, oI_356, oT_356, oT_357, oI_358, oT_358, oI_359, oT_359, oI_360, oT_360, oI_361, oT_361, oT_362, oI_363, oT_363, oI_364, oT_364, oT_365, oI_366, oT_366, oI_367, oT_367, oI_368, oT_368, oI_369, oT_369, oI_370, oT_370, oI_371, oT_371, oT_372, oI_373, oT_373, oI_374, oT_374, oI_375, oT_375, oT_376, oI_377, oT_377, oT_378, oI_379, oT_379, oI_380, oT_380, oI_381, oT_381, oI_382, oT_382, oI_383, oT_383, oI_384, oT_384, oI_385, oT_385, oI_386, oT_386, oT_387, oI_S1, oT_S1, oI_S2, oT_S2, oI_S3, oT_S3, oI_S4, oT_S4, oT_S5, oI_O1, oT_O1, oI_O2, oT_O2, oI_O3, oT_O3, oI_X, oR_1, oR_2, oR_5, oR_57, oR_109, oR_K, oN_57, oN_109, oN_53, oN_233, oN_47, oN_S4, oN_O3, wM1_lt0, wM1_ge0, ↓wM1_lit, lit_nI, ofI_1, ofI_2, ofI_6, ofI_m1, kI_add, kI_mul, kI_sub, kI_le, kI_lt, kI_eq, kI_rem, kI_ne_m1, kI_m1_ne, kI_m1, tcl, z2_hit, z2_off, true_and, and_true, and_self, implies_true, if_true, if_false, not_true_eq_false, not_false_eq_true, or_true, true_or, false_or, or_false, or_self, false_and, and_false, decide_true, decide_false, Bool.false_eq_true, eq_self, ite_self, forall_const, false_implies, true_implies, ge_iff_le, gt_iff_lt, zNar_b, dLeT, dLeF, dLtT, dLtF, dEqT, dEqF]
        exact cR.same hC
      · simp (disch := omega) only [p85_2, b85_2, c85_2, d85_2, p85_15, b85_15, p85_43, b85_43, aC_85_311_15_2, aC_85_351_111_9, aC_85_354_112_9, aC_85_357_110_9, aQ_9_28_3_9, wm_I, wm_X, wm_K, wm_WI, wm_HK, q0_0, q0_1, q0_2, q0_3, q0_4, q0_5, q0_6, q0_7, q0_8, q0_9, q0_10, q0_11, q354_1, q354_2, q354_3, q354_4, q354_5, q354_6, q354_7, q354_8, q354_9, q354_10, q354_17, q354_18, q354_19, q354_20, q354_21, q354_22, q354_23, q354_24, q354_25, q354_35, q354_37, q354_38, q354_39, q354_41, q354_42, q354_43, q354_44, q354_48, q354_49, q354_54, q354_55, q354_56, q4_0, q46_0, q46_1, q46_2, q46_3, q46_4, q52_0, q52_1, q52_2, q56_0, q108_0, q6_1, q6_2, q6_3, q6_4, q6_5, q6_6, q4x_0, q4x_1, q4x_2, q1, q2, q5, q57, q109, q1000007, oI_3, oT_3, oI_47, oT_47, oI_48, oT_48, oI_49, oT_49, oI_50, oT_50, oI_51, oT_51, oI_53, oT_53, oI_54, oT_54, oI_55, oT_55, oI_233, oT_233, oI_355, oT_355, oI_356, oT_356, oT_357, oI_358, oT_358, oI_359, oT_359, oI_360, oT_360, oI_361, oT_361, oT_362, oI_363, oT_363, oI_364, oT_364, oT_365, oI_366, oT_366, oI_367, oT_367, oI_368, oT_368, oI_369, oT_369, oI_370, oT_370, oI_371, oT_371, oT_372, oI_373, oT_373, oI_374, oT_374, oI_375, oT_375, oT_376, oI_377, oT_377, oT_378, oI_379, oT_379, oI_380, oT_380, oI_381, oT_381, oI_382, oT_382, oI_383, oT_383, oI_384, oT_384, oI_385, oT_385, oI_386, oT_386, oT_387, oI_S1, oT_S1, oI_S2, oT_S2, oI_S3, oT_S3, oI_S4, oT_S4, oT_S5, oI_O1, oT_O1, oI_O2, oT_O2, oI_O3, oT_O3, oI_X, oR_1, oR_2, oR_5, oR_57, oR_109, oR_K, oN_57, oN_109, oN_53, oN_233, oN_47, oN_S4, oN_O3, wM1_lt0, wM1_ge0, ↓wM1_lit, lit_nI, ofI_1, ofI_2, ofI_6, ofI_m1, kI_add, kI_mul, kI_sub, kI_le, kI_lt, kI_eq, kI_rem, kI_ne_m1, kI_m1_ne, kI_m1, tcl, z2_hit, z2_off, true_and, and_true, and_self, implies_true, if_true, if_false, not_true_eq_false, not_false_eq_true, or_true, true_or, false_or, or_false, or_self, false_and, and_false, decide_true, decide_false, Bool.false_eq_true, eq_self, ite_self, forall_const, false_implies, true_implies, ge_iff_le, gt_iff_lt, zNar_b, dLeT, dLeF, dLtT, dLtF, dEqT, dEqF, e15]
        exact cR.same hC
theorem order_c (hW : wW s) (hC : rC V I s) (hm : wMad s + 41 ≤ 1000000) (hg : wGst s + 5100 ≤ 100000000) (hn : 20000 ≤ n) : p85_0 n 0 (wm V I) ∧ cR V I (b85_0 n 0 (wm V I)) (oOrder s).1 (oOrder s).2 :=
  B85_L hn 41 n 0 s V I hW ⟨by omega, by omega⟩ (by omega) (by omega) (by omega) hC
end CQ
