/-! Memory as the constructors make it, cell by cell. -/
def gR : Nat → Nat → Option Nat := wR (fun _ => 0) (fun k => 58 + k) (fun k => 110 + k)
/-- k cells are made; S says which references are set -/
def gm (L : Nat) (xs : Nat → Int32) (k z : Nat) (S : Nat → Nat → Bool) (I : Nat → Nat → Int32) : zM := (k, (z, 0), (fun a => if a < k then wS L a else zgS L a), (fun a j => if a < k then I a j else zgI xs a j), (fun _ _ => 0), (fun a j => if a < k then (if S a j = true then gR a j else none) else zgP a j))
def s2 (S : Nat → Nat → Bool) (a j : Nat) : Nat → Nat → Bool := fun b i => if b = a ∧ i = j then true else S b i
theorem s2_off {S : Nat → Nat → Bool} {a j b i : Nat} (h : ¬ (b = a ∧ i = j)) : s2 S a j b i = S b i := if_neg h
theorem s2_hit {S : Nat → Nat → Bool} {a j b i : Nat} (h : b = a ∧ i = j) : s2 S a j b i = true := if_pos h
section GM
variable {L : Nat} {xs : Nat → Int32} {k z : Nat} {S : Nat → Nat → Bool} {I : Nat → Nat → Int32} {a j n : Nat}
theorem gm_N : zN (gm L xs k z S I) = k := rfl
theorem gm_S {c : Nat × Nat} (hs : wS L a = c) (ha : a < k) : zS (gm L xs k z S I) a = c := by
  show (if a < k then wS L a else zgS L a) = c
  rw [if_pos ha]; exact hs
theorem gm_new {sh : Nat × Nat} {m : Nat} (hs : wS L k = sh) (hI : ∀ i, I k i = 0) (hS : ∀ j, S k j = false) : zNew (gm L xs k z S I) sh m = gm L xs (k + 1) (z + m) S I := by
  have e1 : (fun b => if b = k then sh else if b < k then wS L b else zgS L b) = fun b => if b < k + 1 then wS L b else zgS L b := by
    funext b
    by_cases h : b = k
    · rw [if_pos h, if_pos (by omega), h, hs]
    · rw [if_neg h]
      by_cases h2 : b < k
      · rw [if_pos h2, if_pos (show b < k + 1 by omega)]
      · rw [if_neg h2, if_neg (show ¬ b < k + 1 by omega)]
  have e2 : (fun b i => if b = k then (0 : Int32) else if b < k then I b i else zgI xs b i) = fun b i => if b < k + 1 then I b i else zgI xs b i := by
    funext b i
    by_cases h : b = k
    · rw [if_pos h, if_pos (by omega), h, hI]
    · rw [if_neg h]
      by_cases h2 : b < k
      · rw [if_pos h2, if_pos (show b < k + 1 by omega)]
      · rw [if_neg h2, if_neg (show ¬ b < k + 1 by omega)]
  have e3 : (fun (b : Nat) (_ : Nat) => if b = k then (0 : Int64) else 0) = fun _ _ => 0 := by
    funext b i; split <;> rfl
  have e4 : (fun b i => if b = k then none else if b < k then (if S b i = true then gR b i else none) else zgP b i) = fun b i => if b < k + 1 then (if S b i = true then gR b i else none) else zgP b i := by
    funext b i
    by_cases h : b = k
    · rw [if_pos h, if_pos (by omega), h, hS, if_neg (by decide)]
    · rw [if_neg h]
      by_cases h2 : b < k
      · rw [if_pos h2, if_pos (show b < k + 1 by omega)]
      · rw [if_neg h2, if_neg (show ¬ b < k + 1 by omega)]
  show (k + 1, (z + m, 0), (fun b => if b = k then sh else if b < k then wS L b else zgS L b), (fun b i => if b = k then (0 : Int32) else if b < k then I b i else zgI xs b i), (fun (b : Nat) (_ : Nat) => if b = k then (0 : Int64) else 0), (fun b i => if b = k then none else if b < k then (if S b i = true then gR b i else none) else zgP b i)) = gm L xs (k + 1) (z + m) S I
  rw [e1, e2, e3, e4]; rfl
theorem gm_WI {x : Int32} (ha : a < k) : zWI (gm L xs k z S I) a j x = gm L xs k z S (z2 I a j x) := by
  have e : z2 (fun b i => if b < k then I b i else zgI xs b i) a j x = fun b i => if b < k then z2 I a j x b i else zgI xs b i := by
    funext b i
    by_cases hb : b < k
    · rw [if_pos hb]; unfold z2; split
      · split
        · rfl
        · exact if_pos hb
      · exact if_pos hb
    · rw [if_neg hb]; unfold z2; rw [if_neg (by omega)]; exact if_neg hb
  show (k, (z, 0), _, z2 (fun b i => if b < k then I b i else zgI xs b i) a j x, _) = _
  rw [e]; rfl
theorem gm_WQ {v : Nat} (ha : a < k) (hv : gR a j = some v) : zWQ (gm L xs k z S I) a j (some v) = gm L xs k z (s2 S a j) I := by
  have e : z2 (fun b i => if b < k then (if S b i = true then gR b i else none) else zgP b i) a j (some v) = fun b i => if b < k then (if s2 S a j b i = true then gR b i else none) else zgP b i := by
    funext b i
    by_cases hb : b = a ∧ i = j
    · rw [z2_hit hb, if_pos (by omega), s2_hit hb, if_pos rfl, hb.1, hb.2, hv]
    · rw [z2_off hb, s2_off hb]
  show (k, (z, 0), _, _, _, z2 (fun b i => if b < k then (if S b i = true then gR b i else none) else zgP b i) a j (some v)) = _
  rw [e]; rfl
theorem gm_P (ha : a < k) (hS : S a j = true) : zP (gm L xs k z S I) a j = gR a j := by
  show (if a < k then (if S a j = true then gR a j else none) else zgP a j) = _
  rw [if_pos ha, if_pos hS]
theorem gm_Q {v : Nat} (ha : a < k) (hS : S a j = true) (hv : gR a j = some v) : zQ (gm L xs k z S I) a j = v := by
  unfold zQ; rw [gm_P ha hS, hv]; rfl
theorem gm_okM (hk : k < 1000) : zOkM (gm L xs k z S I) := ⟨rfl, by show k < 999999; omega⟩
theorem gm_okW {w : Nat} (hw : w ≤ 100000) (hk : k < 1000) : zOkW (nI w) (gm L xs k z S I) := ⟨by rw [Int32.lt_iff_toInt_lt, kI_toInt (by omega)]; show ¬ (w : Int) < 0; omega, by rw [tcl (by omega)]; exact hw, gm_okM hk⟩
theorem z2_zero (h : ∀ i, I a i = nI 0) (j : Nat) : z2 I a j (nI 0) = I := by
  funext b i
  by_cases e : b = a ∧ i = j
  · rw [z2_hit e, e.1]; exact (h i).symm
  · rw [z2_off e]
theorem gW_12_7_8_1 (h : 6 ≤ a ∧ a < 46) (ha : a < k) : zPutI 12 7 a (gm L xs k z S I) 8 (nI 0) := ⟨ha, 1, gm_S (wS_1 h) ha, by decide +kernel, by decide, by decide +kernel⟩
theorem gW_12_13_9_1 {x : Int32} (h : 6 ≤ a ∧ a < 46) (ha : a < k) : zPutI 12 13 a (gm L xs k z S I) 9 x := ⟨ha, 1, gm_S (wS_1 h) ha, by decide +kernel, zNar_int (by decide +kernel), by decide +kernel⟩
theorem gW_13_17_1_2 {x : Int32} (h : a = 4) (ha : a < k) : zPutI 13 17 a (gm L xs k z S I) 1 x := ⟨ha, 2, gm_S (wS_2 h) ha, by decide +kernel, zNar_int (by decide +kernel), by decide +kernel⟩
theorem gW_13_21_2_2 {x : Int32} (h : a = 4) (ha : a < k) : zPutI 13 21 a (gm L xs k z S I) 2 x := ⟨ha, 2, gm_S (wS_2 h) ha, by decide +kernel, zNar_int (by decide +kernel), by decide +kernel⟩
theorem gW_21_27_5_3 {x : Int32} (h : a = 46) (ha : a < k) : zPutI 21 27 a (gm L xs k z S I) 5 x := ⟨ha, 3, gm_S (wS_3 h) ha, by decide +kernel, zNar_int (by decide +kernel), by decide +kernel⟩
theorem gW_21_31_6_3 {x : Int32} (h : a = 46) (ha : a < k) : zPutI 21 31 a (gm L xs k z S I) 6 x := ⟨ha, 3, gm_S (wS_3 h) ha, by decide +kernel, zNar_int (by decide +kernel), by decide +kernel⟩
theorem gW_28_21_3_4 {x : Int32} (h : 240 ≤ a ∧ a < 354 ∧ (a - 234) % 10 = 6) (ha : a < k) : zPutI 28 21 a (gm L xs k z S I) 3 x := ⟨ha, 4, gm_S (wS_4 h) ha, by decide +kernel, zNar_int (by decide +kernel), by decide +kernel⟩
theorem gW_28_25_4_4 {x : Int32} (h : 240 ≤ a ∧ a < 354 ∧ (a - 234) % 10 = 6) (ha : a < k) : zPutI 28 25 a (gm L xs k z S I) 4 x := ⟨ha, 4, gm_S (wS_4 h) ha, by decide +kernel, zNar_int (by decide +kernel), by decide +kernel⟩
theorem gW_28_28_5_4 {x : Int32} (h : 240 ≤ a ∧ a < 354 ∧ (a - 234) % 10 = 6) (ha : a < k) : zPutI 28 28 a (gm L xs k z S I) 5 x := ⟨ha, 4, gm_S (wS_4 h) ha, by decide +kernel, zNar_int (by decide +kernel), by decide +kernel⟩
theorem gW_28_31_6_4 {x : Int32} (h : 240 ≤ a ∧ a < 354 ∧ (a - 234) % 10 = 6) (ha : a < k) : zPutI 28 31 a (gm L xs k z S I) 6 x := ⟨ha, 4, gm_S (wS_4 h) ha, by decide +kernel, zNar_int (by decide +kernel), by decide +kernel⟩
theorem gW_28_34_7_4 {x : Int32} (h : 240 ≤ a ∧ a < 354 ∧ (a - 234) % 10 = 6) (ha : a < k) : zPutI 28 34 a (gm L xs k z S I) 7 x := ⟨ha, 4, gm_S (wS_4 h) ha, by decide +kernel, zNar_int (by decide +kernel), by decide +kernel⟩
theorem gW_28_37_8_4 {x : Int32} (h : 240 ≤ a ∧ a < 354 ∧ (a - 234) % 10 = 6) (ha : a < k) : zPutI 28 37 a (gm L xs k z S I) 8 x := ⟨ha, 4, gm_S (wS_4 h) ha, by decide +kernel, zNar_int (by decide +kernel), by decide +kernel⟩
theorem gW_35_9_0_1 {x : Int32} (h : 6 ≤ a ∧ a < 46) (ha : a < k) : zPutI 35 9 a (gm L xs k z S I) 0 x := ⟨ha, 1, gm_S (wS_1 h) ha, by decide +kernel, zNar_int (by decide +kernel), by decide +kernel⟩
theorem gW_35_9_0_5 {x : Int32} (h : a = 232) (ha : a < k) : zPutI 35 9 a (gm L xs k z S I) 0 x := ⟨ha, 5, gm_S (wS_5 h) ha, by decide +kernel, zNar_int (by decide +kernel), by decide +kernel⟩
theorem gW_35_9_0_7 {x : Int32} (h : 58 ≤ a ∧ a < 232 ∧ a ≠ 108 ∧ a ≠ 109) (ha : a < k) : zPutI 35 9 a (gm L xs k z S I) 0 x := ⟨ha, 7, gm_S (wS_7 h) ha, by decide +kernel, zNar_int (by decide +kernel), by decide +kernel⟩
theorem gW_35_15_1_1 {x : Int32} (h : 6 ≤ a ∧ a < 46) (ha : a < k) : zPutI 35 15 a (gm L xs k z S I) 1 x := ⟨ha, 1, gm_S (wS_1 h) ha, by decide +kernel, zNar_int (by decide +kernel), by decide +kernel⟩
theorem gW_35_15_1_5 {x : Int32} (h : a = 232) (ha : a < k) : zPutI 35 15 a (gm L xs k z S I) 1 x := ⟨ha, 5, gm_S (wS_5 h) ha, by decide +kernel, zNar_int (by decide +kernel), by decide +kernel⟩
theorem gW_35_15_1_7 {x : Int32} (h : 58 ≤ a ∧ a < 232 ∧ a ≠ 108 ∧ a ≠ 109) (ha : a < k) : zPutI 35 15 a (gm L xs k z S I) 1 x := ⟨ha, 7, gm_S (wS_7 h) ha, by decide +kernel, zNar_int (by decide +kernel), by decide +kernel⟩
theorem gW_35_18_2_1 {x : Int32} (h : 6 ≤ a ∧ a < 46) (ha : a < k) : zPutI 35 18 a (gm L xs k z S I) 2 x := ⟨ha, 1, gm_S (wS_1 h) ha, by decide +kernel, zNar_int (by decide +kernel), by decide +kernel⟩
theorem gW_35_18_2_5 {x : Int32} (h : a = 232) (ha : a < k) : zPutI 35 18 a (gm L xs k z S I) 2 x := ⟨ha, 5, gm_S (wS_5 h) ha, by decide +kernel, zNar_int (by decide +kernel), by decide +kernel⟩
theorem gW_35_18_2_7 {x : Int32} (h : 58 ≤ a ∧ a < 232 ∧ a ≠ 108 ∧ a ≠ 109) (ha : a < k) : zPutI 35 18 a (gm L xs k z S I) 2 x := ⟨ha, 7, gm_S (wS_7 h) ha, by decide +kernel, zNar_int (by decide +kernel), by decide +kernel⟩
theorem gW_35_21_3_1 {x : Int32} (h : 6 ≤ a ∧ a < 46) (ha : a < k) : zPutI 35 21 a (gm L xs k z S I) 3 x := ⟨ha, 1, gm_S (wS_1 h) ha, by decide +kernel, zNar_int (by decide +kernel), by decide +kernel⟩
theorem gW_35_21_3_5 {x : Int32} (h : a = 232) (ha : a < k) : zPutI 35 21 a (gm L xs k z S I) 3 x := ⟨ha, 5, gm_S (wS_5 h) ha, by decide +kernel, zNar_int (by decide +kernel), by decide +kernel⟩
theorem gW_35_21_3_7 {x : Int32} (h : 58 ≤ a ∧ a < 232 ∧ a ≠ 108 ∧ a ≠ 109) (ha : a < k) : zPutI 35 21 a (gm L xs k z S I) 3 x := ⟨ha, 7, gm_S (wS_7 h) ha, by decide +kernel, zNar_int (by decide +kernel), by decide +kernel⟩
theorem gW_35_24_4_1 {x : Int32} (h : 6 ≤ a ∧ a < 46) (ha : a < k) : zPutI 35 24 a (gm L xs k z S I) 4 x := ⟨ha, 1, gm_S (wS_1 h) ha, by decide +kernel, zNar_int (by decide +kernel), by decide +kernel⟩
theorem gW_35_24_4_5 {x : Int32} (h : a = 232) (ha : a < k) : zPutI 35 24 a (gm L xs k z S I) 4 x := ⟨ha, 5, gm_S (wS_5 h) ha, by decide +kernel, zNar_int (by decide +kernel), by decide +kernel⟩
theorem gW_35_24_4_7 {x : Int32} (h : 58 ≤ a ∧ a < 232 ∧ a ≠ 108 ∧ a ≠ 109) (ha : a < k) : zPutI 35 24 a (gm L xs k z S I) 4 x := ⟨ha, 7, gm_S (wS_7 h) ha, by decide +kernel, zNar_int (by decide +kernel), by decide +kernel⟩
theorem gW_35_27_5_1 {x : Int32} (h : 6 ≤ a ∧ a < 46) (ha : a < k) : zPutI 35 27 a (gm L xs k z S I) 5 x := ⟨ha, 1, gm_S (wS_1 h) ha, by decide +kernel, zNar_int (by decide +kernel), by decide +kernel⟩
theorem gW_35_27_5_5 {x : Int32} (h : a = 232) (ha : a < k) : zPutI 35 27 a (gm L xs k z S I) 5 x := ⟨ha, 5, gm_S (wS_5 h) ha, by decide +kernel, zNar_int (by decide +kernel), by decide +kernel⟩
theorem gW_35_27_5_7 {x : Int32} (h : 58 ≤ a ∧ a < 232 ∧ a ≠ 108 ∧ a ≠ 109) (ha : a < k) : zPutI 35 27 a (gm L xs k z S I) 5 x := ⟨ha, 7, gm_S (wS_7 h) ha, by decide +kernel, zNar_int (by decide +kernel), by decide +kernel⟩
theorem gW_35_30_6_1 {x : Int32} (h : 6 ≤ a ∧ a < 46) (ha : a < k) : zPutI 35 30 a (gm L xs k z S I) 6 x := ⟨ha, 1, gm_S (wS_1 h) ha, by decide +kernel, zNar_int (by decide +kernel), by decide +kernel⟩
theorem gW_35_30_6_5 {x : Int32} (h : a = 232) (ha : a < k) : zPutI 35 30 a (gm L xs k z S I) 6 x := ⟨ha, 5, gm_S (wS_5 h) ha, by decide +kernel, zNar_int (by decide +kernel), by decide +kernel⟩
theorem gW_35_30_6_7 {x : Int32} (h : 58 ≤ a ∧ a < 232 ∧ a ≠ 108 ∧ a ≠ 109) (ha : a < k) : zPutI 35 30 a (gm L xs k z S I) 6 x := ⟨ha, 7, gm_S (wS_7 h) ha, by decide +kernel, zNar_int (by decide +kernel), by decide +kernel⟩
theorem gW_35_33_7_1 {x : Int32} (h : 6 ≤ a ∧ a < 46) (ha : a < k) : zPutI 35 33 a (gm L xs k z S I) 7 x := ⟨ha, 1, gm_S (wS_1 h) ha, by decide +kernel, zNar_int (by decide +kernel), by decide +kernel⟩
theorem gW_35_33_7_5 {x : Int32} (h : a = 232) (ha : a < k) : zPutI 35 33 a (gm L xs k z S I) 7 x := ⟨ha, 5, gm_S (wS_5 h) ha, by decide +kernel, zNar_int (by decide +kernel), by decide +kernel⟩
theorem gW_35_33_7_7 {x : Int32} (h : 58 ≤ a ∧ a < 232 ∧ a ≠ 108 ∧ a ≠ 109) (ha : a < k) : zPutI 35 33 a (gm L xs k z S I) 7 x := ⟨ha, 7, gm_S (wS_7 h) ha, by decide +kernel, zNar_int (by decide +kernel), by decide +kernel⟩
theorem gW_41_37_7_6 {x : Int32} (h : 234 ≤ a ∧ a < 354 ∧ (a - 234) % 10 = 0) (ha : a < k) : zPutI 41 37 a (gm L xs k z S I) 7 x := ⟨ha, 6, gm_S (wS_6 h) ha, by decide +kernel, zNar_int (by decide +kernel), by decide +kernel⟩
theorem gW_41_41_8_6 (h : 234 ≤ a ∧ a < 354 ∧ (a - 234) % 10 = 0) (ha : a < k) : zPutI 41 41 a (gm L xs k z S I) 8 (nI 0) := ⟨ha, 6, gm_S (wS_6 h) ha, by decide +kernel, by decide, by decide +kernel⟩
theorem gW_41_45_9_6 {x : Int32} (h : 234 ≤ a ∧ a < 354 ∧ (a - 234) % 10 = 0) (ha : a < k) : zPutI 41 45 a (gm L xs k z S I) 9 x := ⟨ha, 6, gm_S (wS_6 h) ha, by decide +kernel, zNar_int (by decide +kernel), by decide +kernel⟩
theorem gW_41_48_10_6 {x : Int32} (h : 234 ≤ a ∧ a < 354 ∧ (a - 234) % 10 = 0) (ha : a < k) : zPutI 41 48 a (gm L xs k z S I) 10 x := ⟨ha, 6, gm_S (wS_6 h) ha, by decide +kernel, zNar_int (by decide +kernel), by decide +kernel⟩
theorem gW_41_51_0_6 {x : Int32} (h : 234 ≤ a ∧ a < 354 ∧ (a - 234) % 10 = 0) (ha : a < k) : zPutI 41 51 a (gm L xs k z S I) 0 x := ⟨ha, 6, gm_S (wS_6 h) ha, by decide +kernel, zNar_int (by decide +kernel), by decide +kernel⟩
theorem gW_54_9_8_7 {x : Int32} (h : 58 ≤ a ∧ a < 232 ∧ a ≠ 108 ∧ a ≠ 109) (ha : a < k) : zPutI 54 9 a (gm L xs k z S I) 8 x := ⟨ha, 7, gm_S (wS_7 h) ha, by decide +kernel, zNar_int (by decide +kernel), by decide +kernel⟩
theorem gW_54_15_9_7 {x : Int32} (h : 58 ≤ a ∧ a < 232 ∧ a ≠ 108 ∧ a ≠ 109) (ha : a < k) : zPutI 54 15 a (gm L xs k z S I) 9 x := ⟨ha, 7, gm_S (wS_7 h) ha, by decide +kernel, zNar_int (by decide +kernel), by decide +kernel⟩
theorem gW_58_7_1_8 {x : Int32} (h : a = 56 ∨ a = 108) (ha : a < k) : zPutI 58 7 a (gm L xs k z S I) 1 x := ⟨ha, 8, gm_S (wS_8 h) ha, by decide +kernel, zNar_int (by decide +kernel), by decide +kernel⟩
theorem gW_61_78_12_9 {x : Int32} (h : a = 0) (ha : a < k) : zPutI 61 78 a (gm L xs k z S I) 12 x := ⟨ha, 9, gm_S (wS_9 h) ha, by decide +kernel, zNar_int (by decide +kernel), by decide +kernel⟩
theorem gW_61_82_13_9 {x : Int32} (h : a = 0) (ha : a < k) : zPutI 61 82 a (gm L xs k z S I) 13 x := ⟨ha, 9, gm_S (wS_9 h) ha, by decide +kernel, zNar_int (by decide +kernel), by decide +kernel⟩
theorem gW_61_85_14_9 {x : Int32} (h : a = 0) (ha : a < k) : zPutI 61 85 a (gm L xs k z S I) 14 x := ⟨ha, 9, gm_S (wS_9 h) ha, by decide +kernel, zNar_int (by decide +kernel), by decide +kernel⟩
theorem gW_61_88_15_9 {x : Int32} (h : a = 0) (ha : a < k) : zPutI 61 88 a (gm L xs k z S I) 15 x := ⟨ha, 9, gm_S (wS_9 h) ha, by decide +kernel, zNar_int (by decide +kernel), by decide +kernel⟩
theorem gW_61_91_16_9 {x : Int32} (h : a = 0) (ha : a < k) : zPutI 61 91 a (gm L xs k z S I) 16 x := ⟨ha, 9, gm_S (wS_9 h) ha, by decide +kernel, zNar_int (by decide +kernel), by decide +kernel⟩
theorem gW_61_94_17_9 {x : Int32} (h : a = 0) (ha : a < k) : zPutI 61 94 a (gm L xs k z S I) 17 x := ⟨ha, 9, gm_S (wS_9 h) ha, by decide +kernel, zNar_int (by decide +kernel), by decide +kernel⟩
theorem gW_61_97_18_9 {x : Int32} (h : a = 0) (ha : a < k) : zPutI 61 97 a (gm L xs k z S I) 18 x := ⟨ha, 9, gm_S (wS_9 h) ha, by decide +kernel, zNar_int (by decide +kernel), by decide +kernel⟩
theorem gW_61_100_19_9 {x : Int32} (h : a = 0) (ha : a < k) : zPutI 61 100 a (gm L xs k z S I) 19 x := ⟨ha, 9, gm_S (wS_9 h) ha, by decide +kernel, zNar_int (by decide +kernel), by decide +kernel⟩
theorem gW_117_41_11_10 {x : Int32} (h : a = 354) (ha : a < k) : zPutI 117 41 a (gm L xs k z S I) 11 x := ⟨ha, 10, gm_S (wS_10 h) ha, by decide +kernel, zNar_int (by decide +kernel), by decide +kernel⟩
theorem gW_117_45_12_10 {x : Int32} (h : a = 354) (ha : a < k) : zPutI 117 45 a (gm L xs k z S I) 12 x := ⟨ha, 10, gm_S (wS_10 h) ha, by decide +kernel, zNar_int (by decide +kernel), by decide +kernel⟩
theorem gW_117_48_13_10 {x : Int32} (h : a = 354) (ha : a < k) : zPutI 117 48 a (gm L xs k z S I) 13 x := ⟨ha, 10, gm_S (wS_10 h) ha, by decide +kernel, zNar_int (by decide +kernel), by decide +kernel⟩
theorem gW_117_51_14_10 {x : Int32} (h : a = 354) (ha : a < k) : zPutI 117 51 a (gm L xs k z S I) 14 x := ⟨ha, 10, gm_S (wS_10 h) ha, by decide +kernel, zNar_int (by decide +kernel), by decide +kernel⟩
theorem gW_117_81_30_10 {x : Int32} (h : a = 354) (ha : a < k) : zPutI 117 81 a (gm L xs k z S I) 30 x := ⟨ha, 10, gm_S (wS_10 h) ha, by decide +kernel, zNar_int (by decide +kernel), by decide +kernel⟩
theorem gW_117_84_31_10 {x : Int32} (h : a = 354) (ha : a < k) : zPutI 117 84 a (gm L xs k z S I) 31 x := ⟨ha, 10, gm_S (wS_10 h) ha, by decide +kernel, zNar_int (by decide +kernel), by decide +kernel⟩
theorem gW_117_117_50_10 {x : Int32} (h : a = 354) (ha : a < k) : zPutI 117 117 a (gm L xs k z S I) 50 x := ⟨ha, 10, gm_S (wS_10 h) ha, by decide +kernel, zNar_int (by decide +kernel), by decide +kernel⟩
theorem gW_117_120_51_10 {x : Int32} (h : a = 354) (ha : a < k) : zPutI 117 120 a (gm L xs k z S I) 51 x := ⟨ha, 10, gm_S (wS_10 h) ha, by decide +kernel, zNar_int (by decide +kernel), by decide +kernel⟩
theorem gW_117_123_52_10 {x : Int32} (h : a = 354) (ha : a < k) : zPutI 117 123 a (gm L xs k z S I) 52 x := ⟨ha, 10, gm_S (wS_10 h) ha, by decide +kernel, zNar_int (by decide +kernel), by decide +kernel⟩
theorem gW_117_126_53_10 {x : Int32} (h : a = 354) (ha : a < k) : zPutI 117 126 a (gm L xs k z S I) 53 x := ⟨ha, 10, gm_S (wS_10 h) ha, by decide +kernel, zNar_int (by decide +kernel), by decide +kernel⟩
theorem gV_0_9_0_0 (h : a = 52) (ha : a < k) : zPutQ 0 9 a (gm L xs k z S I) 0 := ⟨ha, 0, gm_S (wS_0 h) ha, by decide +kernel, by decide +kernel⟩
theorem gV_0_15_1_0 (h : a = 52) (ha : a < k) : zPutQ 0 15 a (gm L xs k z S I) 1 := ⟨ha, 0, gm_S (wS_0 h) ha, by decide +kernel, by decide +kernel⟩
theorem gV_0_18_2_0 (h : a = 52) (ha : a < k) : zPutQ 0 18 a (gm L xs k z S I) 2 := ⟨ha, 0, gm_S (wS_0 h) ha, by decide +kernel, by decide +kernel⟩
theorem gV_13_11_0_2 (h : a = 4) (ha : a < k) : zPutQ 13 11 a (gm L xs k z S I) 0 := ⟨ha, 2, gm_S (wS_2 h) ha, by decide +kernel, by decide +kernel⟩
theorem gV_21_9_0_3 (h : a = 46) (ha : a < k) : zPutQ 21 9 a (gm L xs k z S I) 0 := ⟨ha, 3, gm_S (wS_3 h) ha, by decide +kernel, by decide +kernel⟩
theorem gV_21_15_1_3 (h : a = 46) (ha : a < k) : zPutQ 21 15 a (gm L xs k z S I) 1 := ⟨ha, 3, gm_S (wS_3 h) ha, by decide +kernel, by decide +kernel⟩
theorem gV_21_18_2_3 (h : a = 46) (ha : a < k) : zPutQ 21 18 a (gm L xs k z S I) 2 := ⟨ha, 3, gm_S (wS_3 h) ha, by decide +kernel, by decide +kernel⟩
theorem gV_21_21_3_3 (h : a = 46) (ha : a < k) : zPutQ 21 21 a (gm L xs k z S I) 3 := ⟨ha, 3, gm_S (wS_3 h) ha, by decide +kernel, by decide +kernel⟩
theorem gV_21_24_4_3 (h : a = 46) (ha : a < k) : zPutQ 21 24 a (gm L xs k z S I) 4 := ⟨ha, 3, gm_S (wS_3 h) ha, by decide +kernel, by decide +kernel⟩
theorem gV_28_9_0_4 (h : 240 ≤ a ∧ a < 354 ∧ (a - 234) % 10 = 6) (ha : a < k) : zPutQ 28 9 a (gm L xs k z S I) 0 := ⟨ha, 4, gm_S (wS_4 h) ha, by decide +kernel, by decide +kernel⟩
theorem gV_28_15_1_4 (h : 240 ≤ a ∧ a < 354 ∧ (a - 234) % 10 = 6) (ha : a < k) : zPutQ 28 15 a (gm L xs k z S I) 1 := ⟨ha, 4, gm_S (wS_4 h) ha, by decide +kernel, by decide +kernel⟩
theorem gV_28_18_2_4 (h : 240 ≤ a ∧ a < 354 ∧ (a - 234) % 10 = 6) (ha : a < k) : zPutQ 28 18 a (gm L xs k z S I) 2 := ⟨ha, 4, gm_S (wS_4 h) ha, by decide +kernel, by decide +kernel⟩
theorem gV_41_9_1_6 (h : 234 ≤ a ∧ a < 354 ∧ (a - 234) % 10 = 0) (ha : a < k) : zPutQ 41 9 a (gm L xs k z S I) 1 := ⟨ha, 6, gm_S (wS_6 h) ha, by decide +kernel, by decide +kernel⟩
theorem gV_41_15_2_6 (h : 234 ≤ a ∧ a < 354 ∧ (a - 234) % 10 = 0) (ha : a < k) : zPutQ 41 15 a (gm L xs k z S I) 2 := ⟨ha, 6, gm_S (wS_6 h) ha, by decide +kernel, by decide +kernel⟩
theorem gV_41_18_3_6 (h : 234 ≤ a ∧ a < 354 ∧ (a - 234) % 10 = 0) (ha : a < k) : zPutQ 41 18 a (gm L xs k z S I) 3 := ⟨ha, 6, gm_S (wS_6 h) ha, by decide +kernel, by decide +kernel⟩
theorem gV_41_21_4_6 (h : 234 ≤ a ∧ a < 354 ∧ (a - 234) % 10 = 0) (ha : a < k) : zPutQ 41 21 a (gm L xs k z S I) 4 := ⟨ha, 6, gm_S (wS_6 h) ha, by decide +kernel, by decide +kernel⟩
theorem gV_41_24_5_6 (h : 234 ≤ a ∧ a < 354 ∧ (a - 234) % 10 = 0) (ha : a < k) : zPutQ 41 24 a (gm L xs k z S I) 5 := ⟨ha, 6, gm_S (wS_6 h) ha, by decide +kernel, by decide +kernel⟩
theorem gV_41_34_6_6 (h : 234 ≤ a ∧ a < 354 ∧ (a - 234) % 10 = 0) (ha : a < k) : zPutQ 41 34 a (gm L xs k z S I) 6 := ⟨ha, 6, gm_S (wS_6 h) ha, by decide +kernel, by decide +kernel⟩
theorem gV_58_15_0_8 (h : a = 56 ∨ a = 108) (ha : a < k) : zPutQ 58 15 a (gm L xs k z S I) 0 := ⟨ha, 8, gm_S (wS_8 h) ha, by decide +kernel, by decide +kernel⟩
theorem gV_61_11_0_9 (h : a = 0) (ha : a < k) : zPutQ 61 11 a (gm L xs k z S I) 0 := ⟨ha, 9, gm_S (wS_9 h) ha, by decide +kernel, by decide +kernel⟩
theorem gV_61_17_1_9 (h : a = 0) (ha : a < k) : zPutQ 61 17 a (gm L xs k z S I) 1 := ⟨ha, 9, gm_S (wS_9 h) ha, by decide +kernel, by decide +kernel⟩
theorem gV_61_21_2_9 (h : a = 0) (ha : a < k) : zPutQ 61 21 a (gm L xs k z S I) 2 := ⟨ha, 9, gm_S (wS_9 h) ha, by decide +kernel, by decide +kernel⟩
theorem gV_61_28_3_9 (h : a = 0) (ha : a < k) : zPutQ 61 28 a (gm L xs k z S I) 3 := ⟨ha, 9, gm_S (wS_9 h) ha, by decide +kernel, by decide +kernel⟩
theorem gV_61_35_4_9 (h : a = 0) (ha : a < k) : zPutQ 61 35 a (gm L xs k z S I) 4 := ⟨ha, 9, gm_S (wS_9 h) ha, by decide +kernel, by decide +kernel⟩
theorem gV_61_42_5_9 (h : a = 0) (ha : a < k) : zPutQ 61 42 a (gm L xs k z S I) 5 := ⟨ha, 9, gm_S (wS_9 h) ha, by decide +kernel, by decide +kernel⟩
theorem gV_61_51_6_9 (h : a = 0) (ha : a < k) : zPutQ 61 51 a (gm L xs k z S I) 6 := ⟨ha, 9, gm_S (wS_9 h) ha, by decide +kernel, by decide +kernel⟩
theorem gV_61_55_7_9 (h : a = 0) (ha : a < k) : zPutQ 61 55 a (gm L xs k z S I) 7 := ⟨ha, 9, gm_S (wS_9 h) ha, by decide +kernel, by decide +kernel⟩
theorem gV_61_61_8_9 (h : a = 0) (ha : a < k) : zPutQ 61 61 a (gm L xs k z S I) 8 := ⟨ha, 9, gm_S (wS_9 h) ha, by decide +kernel, by decide +kernel⟩
theorem gV_61_65_9_9 (h : a = 0) (ha : a < k) : zPutQ 61 65 a (gm L xs k z S I) 9 := ⟨ha, 9, gm_S (wS_9 h) ha, by decide +kernel, by decide +kernel⟩
theorem gV_61_71_10_9 (h : a = 0) (ha : a < k) : zPutQ 61 71 a (gm L xs k z S I) 10 := ⟨ha, 9, gm_S (wS_9 h) ha, by decide +kernel, by decide +kernel⟩
theorem gV_61_75_11_9 (h : a = 0) (ha : a < k) : zPutQ 61 75 a (gm L xs k z S I) 11 := ⟨ha, 9, gm_S (wS_9 h) ha, by decide +kernel, by decide +kernel⟩
theorem gV_117_7_1_10 (h : a = 354) (ha : a < k) : zPutQ 117 7 a (gm L xs k z S I) 1 := ⟨ha, 10, gm_S (wS_10 h) ha, by decide +kernel, by decide +kernel⟩
theorem gV_117_13_2_10 (h : a = 354) (ha : a < k) : zPutQ 117 13 a (gm L xs k z S I) 2 := ⟨ha, 10, gm_S (wS_10 h) ha, by decide +kernel, by decide +kernel⟩
theorem gV_117_16_3_10 (h : a = 354) (ha : a < k) : zPutQ 117 16 a (gm L xs k z S I) 3 := ⟨ha, 10, gm_S (wS_10 h) ha, by decide +kernel, by decide +kernel⟩
theorem gV_117_20_4_10 (h : a = 354) (ha : a < k) : zPutQ 117 20 a (gm L xs k z S I) 4 := ⟨ha, 10, gm_S (wS_10 h) ha, by decide +kernel, by decide +kernel⟩
theorem gV_117_23_5_10 (h : a = 354) (ha : a < k) : zPutQ 117 23 a (gm L xs k z S I) 5 := ⟨ha, 10, gm_S (wS_10 h) ha, by decide +kernel, by decide +kernel⟩
theorem gV_117_26_6_10 (h : a = 354) (ha : a < k) : zPutQ 117 26 a (gm L xs k z S I) 6 := ⟨ha, 10, gm_S (wS_10 h) ha, by decide +kernel, by decide +kernel⟩
theorem gV_117_29_7_10 (h : a = 354) (ha : a < k) : zPutQ 117 29 a (gm L xs k z S I) 7 := ⟨ha, 10, gm_S (wS_10 h) ha, by decide +kernel, by decide +kernel⟩
theorem gV_117_32_8_10 (h : a = 354) (ha : a < k) : zPutQ 117 32 a (gm L xs k z S I) 8 := ⟨ha, 10, gm_S (wS_10 h) ha, by decide +kernel, by decide +kernel⟩
theorem gV_117_35_9_10 (h : a = 354) (ha : a < k) : zPutQ 117 35 a (gm L xs k z S I) 9 := ⟨ha, 10, gm_S (wS_10 h) ha, by decide +kernel, by decide +kernel⟩
theorem gV_117_38_10_10 (h : a = 354) (ha : a < k) : zPutQ 117 38 a (gm L xs k z S I) 10 := ⟨ha, 10, gm_S (wS_10 h) ha, by decide +kernel, by decide +kernel⟩
theorem gV_117_54_17_10 (h : a = 354) (ha : a < k) : zPutQ 117 54 a (gm L xs k z S I) 17 := ⟨ha, 10, gm_S (wS_10 h) ha, by decide +kernel, by decide +kernel⟩
theorem gV_117_57_18_10 (h : a = 354) (ha : a < k) : zPutQ 117 57 a (gm L xs k z S I) 18 := ⟨ha, 10, gm_S (wS_10 h) ha, by decide +kernel, by decide +kernel⟩
theorem gV_117_60_19_10 (h : a = 354) (ha : a < k) : zPutQ 117 60 a (gm L xs k z S I) 19 := ⟨ha, 10, gm_S (wS_10 h) ha, by decide +kernel, by decide +kernel⟩
theorem gV_117_63_20_10 (h : a = 354) (ha : a < k) : zPutQ 117 63 a (gm L xs k z S I) 20 := ⟨ha, 10, gm_S (wS_10 h) ha, by decide +kernel, by decide +kernel⟩
theorem gV_117_66_21_10 (h : a = 354) (ha : a < k) : zPutQ 117 66 a (gm L xs k z S I) 21 := ⟨ha, 10, gm_S (wS_10 h) ha, by decide +kernel, by decide +kernel⟩
theorem gV_117_69_22_10 (h : a = 354) (ha : a < k) : zPutQ 117 69 a (gm L xs k z S I) 22 := ⟨ha, 10, gm_S (wS_10 h) ha, by decide +kernel, by decide +kernel⟩
theorem gV_117_72_23_10 (h : a = 354) (ha : a < k) : zPutQ 117 72 a (gm L xs k z S I) 23 := ⟨ha, 10, gm_S (wS_10 h) ha, by decide +kernel, by decide +kernel⟩
theorem gV_117_75_24_10 (h : a = 354) (ha : a < k) : zPutQ 117 75 a (gm L xs k z S I) 24 := ⟨ha, 10, gm_S (wS_10 h) ha, by decide +kernel, by decide +kernel⟩
theorem gV_117_78_25_10 (h : a = 354) (ha : a < k) : zPutQ 117 78 a (gm L xs k z S I) 25 := ⟨ha, 10, gm_S (wS_10 h) ha, by decide +kernel, by decide +kernel⟩
theorem gV_117_87_35_10 (h : a = 354) (ha : a < k) : zPutQ 117 87 a (gm L xs k z S I) 35 := ⟨ha, 10, gm_S (wS_10 h) ha, by decide +kernel, by decide +kernel⟩
theorem gV_117_90_37_10 (h : a = 354) (ha : a < k) : zPutQ 117 90 a (gm L xs k z S I) 37 := ⟨ha, 10, gm_S (wS_10 h) ha, by decide +kernel, by decide +kernel⟩
theorem gV_117_93_38_10 (h : a = 354) (ha : a < k) : zPutQ 117 93 a (gm L xs k z S I) 38 := ⟨ha, 10, gm_S (wS_10 h) ha, by decide +kernel, by decide +kernel⟩
theorem gV_117_96_39_10 (h : a = 354) (ha : a < k) : zPutQ 117 96 a (gm L xs k z S I) 39 := ⟨ha, 10, gm_S (wS_10 h) ha, by decide +kernel, by decide +kernel⟩
theorem gV_117_99_41_10 (h : a = 354) (ha : a < k) : zPutQ 117 99 a (gm L xs k z S I) 41 := ⟨ha, 10, gm_S (wS_10 h) ha, by decide +kernel, by decide +kernel⟩
theorem gV_117_102_42_10 (h : a = 354) (ha : a < k) : zPutQ 117 102 a (gm L xs k z S I) 42 := ⟨ha, 10, gm_S (wS_10 h) ha, by decide +kernel, by decide +kernel⟩
theorem gV_117_105_43_10 (h : a = 354) (ha : a < k) : zPutQ 117 105 a (gm L xs k z S I) 43 := ⟨ha, 10, gm_S (wS_10 h) ha, by decide +kernel, by decide +kernel⟩
theorem gV_117_108_44_10 (h : a = 354) (ha : a < k) : zPutQ 117 108 a (gm L xs k z S I) 44 := ⟨ha, 10, gm_S (wS_10 h) ha, by decide +kernel, by decide +kernel⟩
theorem gV_117_111_48_10 (h : a = 354) (ha : a < k) : zPutQ 117 111 a (gm L xs k z S I) 48 := ⟨ha, 10, gm_S (wS_10 h) ha, by decide +kernel, by decide +kernel⟩
theorem gV_117_114_49_10 (h : a = 354) (ha : a < k) : zPutQ 117 114 a (gm L xs k z S I) 49 := ⟨ha, 10, gm_S (wS_10 h) ha, by decide +kernel, by decide +kernel⟩
theorem gV_117_129_54_10 (h : a = 354) (ha : a < k) : zPutQ 117 129 a (gm L xs k z S I) 54 := ⟨ha, 10, gm_S (wS_10 h) ha, by decide +kernel, by decide +kernel⟩
theorem gV_117_132_55_10 (h : a = 354) (ha : a < k) : zPutQ 117 132 a (gm L xs k z S I) 55 := ⟨ha, 10, gm_S (wS_10 h) ha, by decide +kernel, by decide +kernel⟩
theorem gV_117_135_56_10 (h : a = 354) (ha : a < k) : zPutQ 117 135 a (gm L xs k z S I) 56 := ⟨ha, 10, gm_S (wS_10 h) ha, by decide +kernel, by decide +kernel⟩
theorem gQ_2_11_0_2 (h : a = 4) (ha : a < k) (hr : ¬ zP (gm L xs k z S I) a 0 = none) : zHasQ 2 11 a (gm L xs k z S I) 0 := ⟨ha, ⟨2, gm_S (wS_2 h) ha, by decide +kernel⟩, hr⟩
theorem gQ_6_21_4_6 (h : 234 ≤ a ∧ a < 354 ∧ (a - 234) % 10 = 0) (ha : a < k) (hr : ¬ zP (gm L xs k z S I) a 4 = none) : zHasQ 6 21 a (gm L xs k z S I) 4 := ⟨ha, ⟨6, gm_S (wS_6 h) ha, by decide +kernel⟩, hr⟩
theorem gQ_8_15_0_8 (h : a = 56 ∨ a = 108) (ha : a < k) (hr : ¬ zP (gm L xs k z S I) a 0 = none) : zHasQ 8 15 a (gm L xs k z S I) 0 := ⟨ha, ⟨8, gm_S (wS_8 h) ha, by decide +kernel⟩, hr⟩
theorem gQ_9_11_0_9 (h : a = 0) (ha : a < k) (hr : ¬ zP (gm L xs k z S I) a 0 = none) : zHasQ 9 11 a (gm L xs k z S I) 0 := ⟨ha, ⟨9, gm_S (wS_9 h) ha, by decide +kernel⟩, hr⟩
theorem gQ_9_17_1_9 (h : a = 0) (ha : a < k) (hr : ¬ zP (gm L xs k z S I) a 1 = none) : zHasQ 9 17 a (gm L xs k z S I) 1 := ⟨ha, ⟨9, gm_S (wS_9 h) ha, by decide +kernel⟩, hr⟩
/-- Pairs, Span, Join -/
theorem G35 (h : (6 ≤ a ∧ a < 46) ∨ a = 232 ∨ (58 ≤ a ∧ a < 232 ∧ a ≠ 108 ∧ a ≠ 109)) (ha : a < k) (hI : ∀ i, I a i = nI 0) : p35_0 n a (gm L xs k z S I) ∧ b35_0 n a (gm L xs k z S I) = gm L xs k z S I := by
  rcases h with h | h | h <;> simp (disch := omega) only [b35_44, p35_44, b35_39, p35_39, b35_34, p35_34, b35_29, p35_29, b35_24, p35_24, b35_19, p35_19, b35_14, p35_14, b35_9, p35_9, b35_0, p35_0, gW_35_9_0_1, gW_35_9_0_5, gW_35_9_0_7, gW_35_15_1_1, gW_35_15_1_5, gW_35_15_1_7, gW_35_18_2_1, gW_35_18_2_5, gW_35_18_2_7, gW_35_21_3_1, gW_35_21_3_5, gW_35_21_3_7, gW_35_24_4_1, gW_35_24_4_5, gW_35_24_4_7, gW_35_27_5_1, gW_35_27_5_5, gW_35_27_5_7, gW_35_30_6_1, gW_35_30_6_5, gW_35_30_6_7, gW_35_33_7_1, gW_35_33_7_5, gW_35_33_7_7, gm_WI, z2_zero hI, lit_nI, true_and, and_true, and_self]
theorem G54 (h : 58 ≤ a ∧ a < 232 ∧ a ≠ 108 ∧ a ≠ 109) (ha : a < k) (hI : ∀ i, I a i = nI 0) : p54_0 n a (gm L xs k z S I) ∧ b54_0 n a (gm L xs k z S I) = gm L xs k z S I := by
  have g := G35 (n := n) (L := L) (xs := xs) (z := z) (S := S) (Or.inr (Or.inr h)) ha hI
  simp (disch := omega) only [b54_14, p54_14, b54_9, p54_9, b54_4, p54_4, b54_0, p54_0, gW_54_9_8_7, gW_54_15_9_7, g, gm_WI, z2_zero hI, lit_nI, true_and, and_true, and_self]
theorem G12 (h : 6 ≤ a ∧ a < 46) (ha : a < k) (hI : ∀ i, I a i = nI 0) : p12_0 n a (gm L xs k z S I) ∧ b12_0 n a (gm L xs k z S I) = gm L xs k z S I := by
  have g := G35 (n := n) (L := L) (xs := xs) (z := z) (S := S) (Or.inl h) ha hI
  simp (disch := omega) only [b12_14, p12_14, b12_9, p12_9, b12_4, p12_4, b12_0, p12_0, gW_12_7_8_1, gW_12_13_9_1, g, gm_WI, z2_zero hI, lit_nI, true_and, and_true, and_self]
end GM
