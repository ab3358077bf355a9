/-! Arithmetic of both sides. -/
theorem i32_nle {x y : Int32} : ¬ x ≤ y ↔ y < x := by rw [Int32.le_iff_toInt_le, Int32.lt_iff_toInt_lt]; omega
theorem i32_nlt {x y : Int32} : ¬ x < y ↔ y ≤ x := by rw [Int32.le_iff_toInt_le, Int32.lt_iff_toInt_lt]; omega
def wGr (x y : Int32) : Int32 := wMax (wAbs x) (wAbs y)
section AR
variable {n : Nat} {x y : Int32} {M : zM}
theorem P190 : p190_0 n x M := by simp only [b190_10, p190_10, b190_0, p190_0, implies_true, and_self]
theorem B190 : b190_0 n x M = (wAbs x, M) := by
  simp only [b190_10, p190_10, b190_0, p190_0]; unfold wAbs
  by_cases h : x < 0
  · rw [if_pos h, if_neg (i32_nle.mpr h)]
  · rw [if_neg h, if_pos (i32_nlt.mp h)]
theorem P192 : p192_0 n x y M := by simp only [b192_10, p192_10, b192_0, p192_0, implies_true, and_self]
theorem B192 : b192_0 n x y M = (wMax x y, M) := by
  simp only [b192_10, p192_10, b192_0, p192_0]; unfold wMax
  split <;> rfl
theorem P194 : p194_0 n x y M := by simp only [b194_10, p194_10, b194_0, p194_0, implies_true, and_self]
theorem B194 : b194_0 n x y M = (wMin x y, M) := by
  simp only [b194_10, p194_10, b194_0, p194_0]; unfold wMin
  split <;> rfl
theorem P96 : p96_0 n x y M := by simp only [b96_11, p96_11, b96_8, p96_8, b96_4, p96_4, b96_0, p96_0, P190, P192, and_self]
theorem B96 : b96_0 n x y M = (wGr x y, M) := by simp only [b96_11, p96_11, b96_8, p96_8, b96_4, p96_4, b96_0, p96_0, B190, B192]; rfl
theorem P124 : p124_0 n x M := by simp only [b124_10, p124_10, b124_0, p124_0, implies_true, and_self]
theorem B124 : b124_0 n x M = (wAbs x, M) := by
  simp only [b124_10, p124_10, b124_0, p124_0]; unfold wAbs
  by_cases h : x < 0
  · rw [if_pos h, if_neg (i32_nle.mpr h)]
  · rw [if_neg h, if_pos (i32_nlt.mp h)]
theorem P125 : p125_0 n x y M := by simp only [b125_10, p125_10, b125_0, p125_0, implies_true, and_self]
theorem B125 : b125_0 n x y M = (wMax x y, M) := by
  simp only [b125_10, p125_10, b125_0, p125_0]; unfold wMax
  by_cases h : x < y
  · rw [if_pos h, if_pos (by rw [Int32.le_iff_toInt_le]; rw [Int32.lt_iff_toInt_lt] at h; omega)]
  · rw [if_neg h]
    split
    · rename_i h2
      congr 1
      apply i32_ext
      rw [Int32.le_iff_toInt_le] at h2; rw [Int32.lt_iff_toInt_lt] at h; omega
    · rfl
theorem P95 {t : Int32} : p95_0 n t M := by simp only [b95_15, p95_15, b95_14, p95_14, b95_0, p95_0, wm_I, wm_X, wm_K, wm_WI, wm_HK, q0_0, q0_1, q0_2, q0_3, q0_4, q0_5, q0_6, q0_7, q0_8, q0_9, q0_10, q0_11, q354_1, q354_2, q354_3, q354_4, q354_5, q354_6, q354_7, q354_8, q354_9, q354_10, q354_17, q354_18, q354_19, q354_20, q354_21, q354_22, q354_23, q354_24, q354_25, q354_35, q354_37, q354_38, q354_39, q354_41, q354_42, q354_43, q354_44, q354_48, q354_49, q354_54, q354_55, q354_56, q4_0, q46_0, q46_1, q46_2, q46_3, q46_4, q52_0, q52_1, q52_2, q56_0, q108_0, q6_1, q6_2, q6_3, q6_4, q6_5, q6_6, q4x_0, q4x_1, q4x_2, q1, q2, q5, q57, q109, q1000007, oI_3, oT_3, oI_47, oT_47, oI_48, oT_48, oI_49, oT_49, oI_50, oT_50, oI_51, oT_51, oI_53, oT_53, oI_54, oT_54, oI_55, oT_55, oI_233, oT_233, oI_355, oT_355, oI_356, oT_356, oT_357, oI_358, oT_358, oI_359, oT_359, oI_360, oT_360, oI_361, oT_361, oT_362, oI_363, oT_363, oI_364, oT_364, oT_365, oI_366, oT_366, oI_367, oT_367, oI_368, oT_368, oI_369, oT_369, oI_370, oT_370, oI_371, oT_371, oT_372, oI_373, oT_373, oI_374, oT_374, oI_375, oT_375, oT_376, oI_377, oT_377, oT_378, oI_379, oT_379, oI_380, oT_380, oI_381, oT_381, oI_382, oT_382, oI_383, oT_383, oI_384, oT_384, oI_385, oT_385, oI_386, oT_386, oT_387, oI_S1, oT_S1, oI_S2, oT_S2, oI_S3, oT_S3, oI_S4, oT_S4, oT_S5, oI_O1, oT_O1, oI_O2, oT_O2, oI_O3, oT_O3, oI_X, oR_1, oR_2, oR_5, oR_57, oR_109, oR_K, oN_57, oN_109, oN_53, oN_233, oN_47, oN_S4, oN_O3, wM1_lt0, wM1_ge0, ↓wM1_lit, lit_nI, ofI_1, ofI_2, ofI_6, ofI_m1, kI_add, kI_mul, kI_sub, kI_le, kI_lt, kI_eq, kI_rem, kI_ne_m1, kI_m1_ne, kI_m1, tcl, z2_hit, z2_off, true_and, and_true, and_self, implies_true, if_true, if_false, not_true_eq_false, not_false_eq_true, or_true, true_or, false_or, or_false, or_self, false_and, and_false, decide_true, decide_false, Bool.false_eq_true, eq_self, ite_self, forall_const, false_implies, true_implies, ge_iff_le, gt_iff_lt, zNar_b]
theorem B95 {t : Int32} : b95_0 n t M = (if 0 ≤ t ∧ t < 24 then 1 else 0, M) := by
  simp only [b95_15, p95_15, b95_14, p95_14, b95_0, p95_0]
  by_cases h : t < 0
  · rw [if_pos h, if_neg (fun h2 => i32_nlt.mpr h2.1 h)]
  · rw [if_neg h]
    by_cases h2 : t < 24
    · rw [if_neg (i32_nle.mpr h2), if_pos ⟨i32_nlt.mp h, h2⟩]
    · rw [if_pos (i32_nlt.mp h2), if_neg (fun h3 => h2 h3.2)]
theorem B120 {d : Nat} (hd : d < 100000) : b120_0 n (nI d) M = (wXt d, M) := by
  simp (disch := omega) only [b120_0, lit_nI, kI_rem, kI_add, kI_le]
  unfold wXt
  have h24 : d % 24 < 24 := Nat.mod_lt _ (by omega)
  have e1 : (d % 24 + 24) % 24 = d % 24 := by omega
  rw [e1]
  generalize d % 24 = e at *
  have hc : e = 0 ∨ e = 1 ∨ e = 2 ∨ e = 3 ∨ e = 4 ∨ e = 5 ∨ e = 6 ∨ e = 7 ∨ e = 8 ∨ e = 9 ∨ e = 10 ∨ e = 11 ∨ e = 12 ∨ e = 13 ∨ e = 14 ∨ e = 15 ∨ e = 16 ∨ e = 17 ∨ e = 18 ∨ e = 19 ∨ e = 20 ∨ e = 21 ∨ e = 22 ∨ e = 23 := by omega
  rcases hc with rfl | rfl | rfl | rfl | rfl | rfl | rfl | rfl | rfl | rfl | rfl | rfl | rfl | rfl | rfl | rfl | rfl | rfl | rfl | rfl | rfl | rfl | rfl | rfl <;> rfl
theorem P120 {d : Nat} : p120_0 n (nI d) M := by
  simp only [p120_0, p120_22, implies_true, and_self]
theorem B121 {d : Nat} (hd : d < 90000) : b121_0 n (nI d) M = (wXt (d + 18), M) := by
  simp (disch := omega) only [b121_7, p121_7, b121_0, p121_0, lit_nI, kI_add, B120]
theorem P121 {d : Nat} : p121_0 n (nI d) M := by
  simp only [b121_7, p121_7, b121_0, p121_0, lit_nI, kI_add, P120, and_self]
theorem fm_all : ∀ v, v < 160 → (if 0 ≤ ((nI v - nI 60) ^^^ (24 : Int32)) then ((nI v - nI 60) - (nI v - nI 60) / 24 * 24) else (if ((nI v - nI 60) - (nI v - nI 60) / 24 * 24) = 0 then ((nI v - nI 60) - (nI v - nI 60) / 24 * 24) else ((nI v - nI 60) - (nI v - nI 60) / 24 * 24) + 24)) = nI ((v + 12) % 24) := by decide +kernel
theorem P189 : p189_0 n x 24 M := by
  simp only [b189_18, p189_18, b189_0, p189_0, implies_true, and_self, and_true]; decide
theorem B189 {v : Nat} (hv : v < 160) : b189_0 n (nI v - nI 60) 24 M = (nI ((v + 12) % 24), M) := by
  have h := fm_all v hv
  simp only [b189_18, p189_18, b189_0, p189_0]
  split
  · rename_i h1
    rw [if_pos h1] at h
    rw [h]
  · rename_i h1
    rw [if_neg h1] at h
    split
    · rename_i h2
      rw [if_pos h2] at h
      rw [h]
    · rename_i h2
      rw [if_neg h2] at h
      rw [h]
/-- turns that come to a or less b -/
theorem B189_up {a : Nat} (ha : a < 90) : b189_0 n (nI a) 24 M = (nI (a % 24), M) := by
  have e : nI a = nI (a + 60) - nI 60 := by rw [← kI_add]; grind
  rw [e, B189 (by omega)]
  congr 2; omega
theorem B189_dn {a b : Nat} (ha : a < 60) (hb : b ≤ 60) : b189_0 n (nI a - nI b) 24 M = (nI ((a + (72 - b)) % 24), M) := by
  have e : nI a - nI b = nI (a + (60 - b)) - nI 60 := by
    have : nI 60 = nI (60 - b) + nI b := by rw [kI_add]; congr 1; omega
    rw [← kI_add, this]; grind
  rw [e, B189 (by omega)]
  congr 2; omega
theorem i32_xor_neg {x y : Int32} : 0 ≤ (x ^^^ y) ↔ (x.toInt < 0 ↔ y.toInt < 0) := by
  have h : (x ^^^ y).toBitVec.msb = (x.toBitVec.msb != y.toBitVec.msb) := by rw [Int32.toBitVec_xor, BitVec.msb_xor]
  rw [BitVec.msb_eq_toInt, BitVec.msb_eq_toInt, BitVec.msb_eq_toInt] at h
  have hx : x.toBitVec.toInt = x.toInt := rfl
  have hy : y.toBitVec.toInt = y.toInt := rfl
  have hz : (x ^^^ y).toBitVec.toInt = (x ^^^ y).toInt := rfl
  rw [hx, hy, hz] at h
  rw [Int32.le_iff_toInt_le, show (0 : Int32).toInt = 0 from rfl]
  by_cases h1 : x.toInt < 0 <;> by_cases h2 : y.toInt < 0
  · rw [decide_eq_true h1, decide_eq_true h2] at h; have h3 := of_decide_eq_false h; omega
  · rw [decide_eq_true h1, decide_eq_false h2] at h; have h3 := of_decide_eq_true h; omega
  · rw [decide_eq_false h1, decide_eq_true h2] at h; have h3 := of_decide_eq_true h; omega
  · rw [decide_eq_false h1, decide_eq_false h2] at h; have h3 := of_decide_eq_false h; omega
theorem i64_xor_neg {x y : Int64} : 0 ≤ (x ^^^ y).toInt ↔ (x.toInt < 0 ↔ y.toInt < 0) := by
  have h : (x ^^^ y).toBitVec.msb = (x.toBitVec.msb != y.toBitVec.msb) := by rw [Int64.toBitVec_xor, BitVec.msb_xor]
  rw [BitVec.msb_eq_toInt, BitVec.msb_eq_toInt, BitVec.msb_eq_toInt] at h
  have hx : x.toBitVec.toInt = x.toInt := rfl
  have hy : y.toBitVec.toInt = y.toInt := rfl
  have hz : (x ^^^ y).toBitVec.toInt = (x ^^^ y).toInt := rfl
  rw [hx, hy, hz] at h
  by_cases h1 : x.toInt < 0 <;> by_cases h2 : y.toInt < 0
  · rw [decide_eq_true h1, decide_eq_true h2] at h; have h3 := of_decide_eq_false h; omega
  · rw [decide_eq_true h1, decide_eq_false h2] at h; have h3 := of_decide_eq_true h; omega
  · rw [decide_eq_false h1, decide_eq_true h2] at h; have h3 := of_decide_eq_true h; omega
  · rw [decide_eq_false h1, decide_eq_false h2] at h; have h3 := of_decide_eq_false h; omega
theorem fdiv_tdiv {a b : Int} (hb : 0 < b) : Int.fdiv a b = if 0 ≤ a ∨ Int.tdiv a b * b = a then Int.tdiv a b else Int.tdiv a b - 1 := by
  rw [Int.fdiv_eq_ediv_of_nonneg _ (by omega)]
  have h1 := Int.mul_ediv_add_emod a b
  have h2 := Int.emod_nonneg a (show b ≠ 0 by omega)
  have h3 := Int.emod_lt_of_pos a hb
  by_cases ha : 0 ≤ a
  · rw [if_pos (Or.inl ha), Int.tdiv_eq_ediv_of_nonneg ha]
  · have e := Int.tdiv_eq_ediv (a := a) (b := b)
    have hs : b.sign = 1 := Int.sign_eq_one_of_pos hb
    rw [hs] at e
    by_cases hd : b ∣ a
    · have h4 : a % b = 0 := Int.emod_eq_zero_of_dvd hd
      rw [if_pos (Or.inr hd)] at e
      have : Int.tdiv a b * b = a := by rw [e, Int.add_zero, Int.mul_comm]; omega
      rw [if_pos (Or.inr this), e]; omega
    · have h4 : a % b ≠ 0 := fun h => hd (Int.dvd_of_emod_eq_zero h)
      rw [if_neg (by rintro (h | h); exact ha h; exact hd h)] at e
      have : ¬ Int.tdiv a b * b = a := by
        intro h
        exact hd ⟨_, by rw [Int.mul_comm]; exact h.symm⟩
      rw [if_neg (by rintro (h | h); exact ha h; exact this h), e]; omega
end AR
