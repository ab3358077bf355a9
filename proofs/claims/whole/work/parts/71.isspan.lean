/-! Spans, walked one by one. -/
def wBf (s : wG) (a i : Nat) : Nat := (i + wStp s a - 1) % wStp s a
def wBh (s : wG) (b j : Nat) : Nat := (j + 1) % wStp s b
def wIsSp (s : wG) (a i b j t : Nat) : Bool := decide (wLst s ≤ spL (wMes s a i b j t) ∧ spN (wMes s a (wBf s a i) b (wBh s b j) t) ≤ spN (wMes s a i b j t))
def wL3 (s : wG) (a i b j : Nat) : Nat → List wSp
  | 0 => []
  | t + 1 => wL3 s a i b j t ++ (if wIsSp s a i b j t then [wMes s a i b j t] else [])
def wL2 (s : wG) (a i b : Nat) : Nat → List wSp
  | 0 => []
  | j + 1 => wL2 s a i b j ++ wL3 s a i b j 24
def wL1 (s : wG) (a b : Nat) : Nat → List wSp
  | 0 => []
  | i + 1 => wL1 s a b i ++ wL2 s a i b (wStp s b)
def wSps (s : wG) (a b : Nat) : List wSp := wL1 s a b (wStp s a)
def wOkSp (s : wG) (x : wSp) : Prop := ∃ a i b j t, a < b ∧ b < wMny s ∧ i < wStp s a ∧ j < wStp s b ∧ t < 24 ∧ x = wMes s a i b j t ∧ wIsSp s a i b j t = true
/-- what a taker of spans does with a row of them: T row V I -/
def wTk (n l5 : Nat) (s : wG) (T : List wSp → wV → (Nat → Nat → Int32) → Prop) : Prop :=
  (∀ L V I, T L V I → rN V I s ∧ rS V I s) ∧ (∀ L V I I2, T L V I → (∀ c k, c ≠ 230 → c ≠ 231 → I2 c k = I c k) → T L V I2) ∧
  (∀ L V I x, T L V I → wAt I 230 s x → wOkSp s x → ((zHasF 101 414 l5 (wm V I) 0 2 1 ∧ p2_0 n l5 230 (wm V I)) ∨ (¬ zS (wm V I) l5 = (0, 0) ∧ zHasF 101 414 l5 (wm V I) 8 60 1 ∧ p60_0 n l5 230 (wm V I))) ∧ ∃ V2 I2, (if zS (wm V I) l5 = (0, 0) then b2_0 n l5 230 (wm V I) else b60_0 n l5 230 (wm V I)) = wm V2 I2 ∧ T (L ++ [x]) V2 I2)
theorem wMax_ge {x y : Int32} : x.toInt ≤ (wMax x y).toInt ∧ y.toInt ≤ (wMax x y).toInt := by
  unfold wMax
  split
  · rename_i h; rw [Int32.lt_iff_toInt_lt] at h; omega
  · rename_i h; rw [Int32.lt_iff_toInt_lt] at h; omega
theorem wGr_le {x y c : Int32} : wGr x y ≤ c ↔ wAbs x ≤ c ∧ wAbs y ≤ c := by
  unfold wGr wMax
  rw [Int32.le_iff_toInt_le, Int32.le_iff_toInt_le, Int32.le_iff_toInt_le]
  split
  · rename_i h; rw [Int32.lt_iff_toInt_lt] at h; omega
  · rename_i h; rw [Int32.lt_iff_toInt_lt] at h; omega
section WS
variable {V : wV} {I : Nat → Nat → Int32} {s : wG} {n a b i j t : Nat}
theorem wFit_more (hW : wW s) (ha : a < 12) (hb : b < 12) (hka : 0 < wStp s a) (hkb : 0 < wStp s b) : ∀ (f m : Nat) (dx dy : Int32) (la lb : Nat) (ms : Int32), la ≤ 12 * m → lb ≤ 12 * m → 0 ≤ ms.toInt → (wFit s a i b j t f m dx dy la lb ms).2.1 ≤ 12 * (wFit s a i b j t f m dx dy la lb ms).1 ∧ 0 ≤ (wFit s a i b j t f m dx dy la lb ms).2.2.toInt := by
  have h1 := hW.stp1 ha
  have h2 := hW.stp1 hb
  intro f
  induction f with
  | zero => intro m dx dy la lb ms h3 h4 h5; exact ⟨by show min la lb ≤ 12 * m; omega, h5⟩
  | succ f ih =>
    intro m dx dy la lb ms h3 h4 h5
    have hx : (i + m) % wStp s a < wStp s a := Nat.mod_lt _ hka
    have hy : (j + wStp s b - m) % wStp s b < wStp s b := Nat.mod_lt _ hkb
    have l1 := hW.len1 (k := 20 * a + (i + m) % wStp s a) (by omega)
    have l2 := hW.len1 (k := 20 * b + (j + wStp s b - m) % wStp s b) (by omega)
    rw [wFit]
    split
    · split
      · apply ih
        · omega
        · omega
        · have := (wMax_ge (x := ms) (y := wGr (dx + (nI (wLn s (20 * a + (i + m) % wStp s a)) * wXt (wDr s (20 * a + (i + m) % wStp s a)) - nI (wLn s (20 * b + (j + wStp s b - m) % wStp s b)) * wXt (wDr s (20 * b + (j + wStp s b - m) % wStp s b) + (t + 12)))) (dy + (nI (wLn s (20 * a + (i + m) % wStp s a)) * wXt (wDr s (20 * a + (i + m) % wStp s a) + 18) - nI (wLn s (20 * b + (j + wStp s b - m) % wStp s b)) * wXt (wDr s (20 * b + (j + wStp s b - m) % wStp s b) + (t + 12) + 18))))).1
          omega
      · exact ⟨by show min la lb ≤ 12 * m; omega, h5⟩
    · exact ⟨by show min la lb ≤ 12 * m; omega, h5⟩
theorem wMes_bd (hW : wW s) (ha : a < wMny s) (hb : b < wMny s) (hi : i < wStp s a) (hj : j < wStp s b) : spN (wMes s a i b j t) ≤ wStp s a ∧ spN (wMes s a i b j t) ≤ wStp s b ∧ spL (wMes s a i b j t) ≤ 12 * spN (wMes s a i b j t) ∧ spN (wMes s a i b j t) ≤ 20 ∧ 0 ≤ (spM (wMes s a i b j t)).toInt := by
  have hm := hW.mny1
  have h1 := hW.stp1 (a := a) (by omega)
  have h2 := hW.stp1 (a := b) (by omega)
  have h3 := wFit_bd (a := a) (i := i) (b := b) (j := j) (t := t) s (min (wStp s a) (wStp s b)) 0 0 0 0 0 0
  have h4 := wFit_more (a := a) (i := i) (b := b) (j := j) (t := t) hW (by omega) (by omega) (by omega) (by omega) (min (wStp s a) (wStp s b)) 0 0 0 0 0 0 (by omega) (by omega) (by decide)
  have e1 : spN (wMes s a i b j t) = (wFit s a i b j t (min (wStp s a) (wStp s b)) 0 0 0 0 0 0).1 := rfl
  have e2 : spL (wMes s a i b j t) = (wFit s a i b j t (min (wStp s a) (wStp s b)) 0 0 0 0 0 0).2.1 := rfl
  have e3 : spM (wMes s a i b j t) = (wFit s a i b j t (min (wStp s a) (wStp s b)) 0 0 0 0 0 0).2.2 := rfl
  rw [e1, e2, e3]
  omega
theorem wBf_lt (h : i < wStp s a) : wBf s a i < wStp s a := Nat.mod_lt _ (by omega)
theorem wBh_lt (h : j < wStp s b) : wBh s b j < wStp s b := Nat.mod_lt _ (by omega)
theorem wBf_eq (h : i < wStp s a) : (if 0 < i then i - 1 else wStp s a - 1) = wBf s a i := by
  unfold wBf
  rw [wmod (by omega)]
  split <;> split <;> omega
theorem wBh_eq (h : j < wStp s b) : (if j + 1 < wStp s b then j + 1 else 0) = wBh s b j := by
  unfold wBh
  rw [wmod (by omega)]
  split <;> omega
/-- where the first pair fails there is no span -/
theorem wNoSp (hW : wW s) (hi : i < wStp s a) (hj : j < wStp s b) (h : wCan s a i b j = true → ¬ (wAbs (nI (wLn s (20 * a + i)) * wXt (wDr s (20 * a + i)) - nI (wLn s (20 * b + j)) * wXt (wDr s (20 * b + j) + (t + 12))) ≤ wSlk s a b ∧ wAbs (nI (wLn s (20 * a + i)) * wXt (wDr s (20 * a + i) + 18) - nI (wLn s (20 * b + j)) * wXt (wDr s (20 * b + j) + (t + 12) + 18)) ≤ wSlk s a b)) : wIsSp s a i b j t = false := by
  have hl := hW.lst1
  have e1 : (i + 0) % wStp s a = i := Nat.mod_eq_of_lt (by omega)
  have e2 : (j + wStp s b - 0) % wStp s b = j := by rw [Nat.sub_zero, Nat.add_mod_right]; exact Nat.mod_eq_of_lt hj
  have z : ∀ x : Int32, 0 + x = x := fun x => by grind
  have hz : spL (wMes s a i b j t) = 0 := by
    show (wFit s a i b j t (min (wStp s a) (wStp s b)) 0 0 0 0 0 0).2.1 = 0
    obtain ⟨f, hf⟩ : ∃ f, min (wStp s a) (wStp s b) = f + 1 := ⟨min (wStp s a) (wStp s b) - 1, by omega⟩
    rw [hf, wFit, e1, e2, z, z]
    by_cases hc : wCan s a i b j = true
    · rw [if_pos hc, if_neg (fun hg => h hc (wGr_le.mp hg))]; rfl
    · rw [if_neg hc]; rfl
  unfold wIsSp
  rw [hz]
  apply decide_eq_false
  omega
theorem B99 (hW : wW s) (hN : rN V I s) (hS : rS V I s) (ha : a < wMny s) (hb : b < wMny s) (hi : i < wStp s a) (hj : j < wStp s b) (ht : t < 24) (hx : wAt I 230 s (wMes s a i b j t)) (hn : 100 ≤ n) :
    p99_0 n 0 230 (wm V I) ∧ ∃ I2, b99_0 n 0 230 (wm V I) = (if wIsSp s a i b j t then 1 else 0, wm V I2) ∧ (∀ c k, c ≠ 231 → I2 c k = I c k) := by
  have hm := hW.mny1
  have h1 := hW.stp1 (a := a) (by omega)
  have h2 := hW.stp1 (a := b) (by omega)
  have hl := hW.lst2
  have bd := wMes_bd (t := t) hW ha hb hi hj
  have bd2 := wMes_bd (t := t) hW ha hb (wBf_lt hi) (wBh_lt hj)
  obtain ⟨x0, x1, x2, x3, x4, x5, x6, x7, x8, x9⟩ := hx
  replace x0 : I 230 0 = nI a := x0
  replace x1 : I 230 1 = nI i := x1
  replace x2 : I 230 2 = nI b := x2
  replace x3 : I 230 3 = nI j := x3
  replace x4 : I 230 4 = nI t := x4
  have e47 := B47 (n := n) (V := V) (a := a) (i := i) hS (by omega) h1 hi
  have e46 := B46 (n := n) (V := V) (a := b) (i := j) hS (by omega) h2 hj
  rw [wBf_eq hi] at e47
  rw [wBh_eq hj] at e46
  unfold wIsSp
  by_cases hc : wLst s ≤ spL (wMes s a i b j t)
  · obtain ⟨u1, I2, u2, u3, u4⟩ := B55 (n := n) (V := V) (I := I) (p := 231) hW hS ha hb (wBf_lt hi) (wBh_lt hj) ht (by omega) hn
    have u5 := u3.2.2.2.2.2.1
    have u6 : I2 230 5 = nI (spN (wMes s a i b j t)) := (u4 230 5 (by omega)).trans x5
    by_cases hd : spN (wMes s a (wBf s a i) b (wBh s b j) t) ≤ spN (wMes s a i b j t)
    · simp (disch := omega) only [b99_81, p99_81, b99_62, p99_62, b99_55, p99_55, b99_46, p99_46, b99_0, p99_0, aC_99_386_55_7, aC_99_390_47_6, aC_99_393_46_6, aI_9_245_8_7, aI_9_251_5_7, aI_9_279_1_7, aI_9_282_3_7, aI_9_285_4_7, aI_9_388_0_7, aI_9_389_2_7, aI_9_82_13_9, aQ_9_11_0_9, aQ_9_65_9_9, wm_I, wm_X, wm_K, wm_WI, wm_HK, q0_0, q0_1, q0_2, q0_3, q0_4, q0_5, q0_6, q0_7, q0_8, q0_9, q0_10, q0_11, q354_1, q354_2, q354_3, q354_4, q354_5, q354_6, q354_7, q354_8, q354_9, q354_10, q354_17, q354_18, q354_19, q354_20, q354_21, q354_22, q354_23, q354_24, q354_25, q354_35, q354_37, q354_38, q354_39, q354_41, q354_42, q354_43, q354_44, q354_48, q354_49, q354_54, q354_55, q354_56, q4_0, q46_0, q46_1, q46_2, q46_3, q46_4, q52_0, q52_1, q52_2, q56_0, q108_0, q6_1, q6_2, q6_3, q6_4, q6_5, q6_6, q4x_0, q4x_1, q4x_2, q1, q2, q5, q57, q109, q1000007, oI_3, oT_3, oI_47, oT_47, oI_48, oT_48, oI_49, oT_49, oI_50, oT_50, oI_51, oT_51, oI_53, oT_53, oI_54, oT_54, oI_55, oT_55, oI_233, oT_233, oI_355, oT_355, oI_356, oT_356, oT_357, oI_358, oT_358, oI_359, oT_359, oI_360, oT_360, oI_361, oT_361, oT_362, oI_363, oT_363, oI_364, oT_364, oT_365, oI_366, oT_366, oI_367, oT_367, oI_368, oT_368, oI_369, oT_369, oI_370, oT_370, oI_371, oT_371, oT_372, oI_373, oT_373, oI_374, oT_374, oI_375, oT_375, oT_376, oI_377, oT_377, oT_378, oI_379, oT_379, oI_380, oT_380, oI_381, oT_381, oI_382, oT_382, oI_383, oT_383, oI_384, oT_384, oI_385, oT_385, oI_386, oT_386, oT_387, oI_S1, oT_S1, oI_S2, oT_S2, oI_S3, oT_S3, oI_S4, oT_S4, oT_S5, oI_O1, oT_O1, oI_O2, oT_O2, oI_O3, oT_O3, oI_X, oR_1, oR_2, oR_5, oR_57, oR_109, oR_K, oN_57, oN_109, oN_53, oN_233, oN_47, oN_S4, oN_O3, wM1_lt0, wM1_ge0, ↓wM1_lit, lit_nI, ofI_1, ofI_2, ofI_6, ofI_m1, kI_add, kI_mul, kI_sub, kI_le, kI_lt, kI_eq, kI_rem, kI_ne_m1, kI_m1_ne, kI_m1, tcl, z2_hit, z2_off, true_and, and_true, and_self, implies_true, if_true, if_false, not_true_eq_false, not_false_eq_true, or_true, true_or, false_or, or_false, or_self, false_and, and_false, decide_true, decide_false, Bool.false_eq_true, eq_self, ite_self, forall_const, false_implies, true_implies, ge_iff_le, gt_iff_lt, zNar_b, dLeT, dLeF, dLtT, dLtF, dEqT, dEqF, hN.tel0, x0, x1, x2, x3, x4, x8, e47, e46, u1, u2, u5, u6, hc, hd]
      exact ⟨I2, rfl, fun c k h => u4 c k h⟩
    · simp (disch := omega) only [b99_81, p99_81, b99_62, p99_62, b99_55, p99_55, b99_46, p99_46, b99_0, p99_0, aC_99_386_55_7, aC_99_390_47_6, aC_99_393_46_6, aI_9_245_8_7, aI_9_251_5_7, aI_9_279_1_7, aI_9_282_3_7, aI_9_285_4_7, aI_9_388_0_7, aI_9_389_2_7, aI_9_82_13_9, aQ_9_11_0_9, aQ_9_65_9_9, wm_I, wm_X, wm_K, wm_WI, wm_HK, q0_0, q0_1, q0_2, q0_3, q0_4, q0_5, q0_6, q0_7, q0_8, q0_9, q0_10, q0_11, q354_1, q354_2, q354_3, q354_4, q354_5, q354_6, q354_7, q354_8, q354_9, q354_10, q354_17, q354_18, q354_19, q354_20, q354_21, q354_22, q354_23, q354_24, q354_25, q354_35, q354_37, q354_38, q354_39, q354_41, q354_42, q354_43, q354_44, q354_48, q354_49, q354_54, q354_55, q354_56, q4_0, q46_0, q46_1, q46_2, q46_3, q46_4, q52_0, q52_1, q52_2, q56_0, q108_0, q6_1, q6_2, q6_3, q6_4, q6_5, q6_6, q4x_0, q4x_1, q4x_2, q1, q2, q5, q57, q109, q1000007, oI_3, oT_3, oI_47, oT_47, oI_48, oT_48, oI_49, oT_49, oI_50, oT_50, oI_51, oT_51, oI_53, oT_53, oI_54, oT_54, oI_55, oT_55, oI_233, oT_233, oI_355, oT_355, oI_356, oT_356, oT_357, oI_358, oT_358, oI_359, oT_359, oI_360, oT_360, oI_361, oT_361, oT_362, oI_363, oT_363, oI_364, oT_364, oT_365, oI_366, oT_366, oI_367, oT_367, oI_368, oT_368, oI_369, oT_369, oI_370, oT_370, oI_371, oT_371, oT_372, oI_373, oT_373, oI_374, oT_374, oI_375, oT_375, oT_376, oI_377, oT_377, oT_378, oI_379, oT_379, oI_380, oT_380, oI_381, oT_381, oI_382, oT_382, oI_383, oT_383, oI_384, oT_384, oI_385, oT_385, oI_386, oT_386, oT_387, oI_S1, oT_S1, oI_S2, oT_S2, oI_S3, oT_S3, oI_S4, oT_S4, oT_S5, oI_O1, oT_O1, oI_O2, oT_O2, oI_O3, oT_O3, oI_X, oR_1, oR_2, oR_5, oR_57, oR_109, oR_K, oN_57, oN_109, oN_53, oN_233, oN_47, oN_S4, oN_O3, wM1_lt0, wM1_ge0, ↓wM1_lit, lit_nI, ofI_1, ofI_2, ofI_6, ofI_m1, kI_add, kI_mul, kI_sub, kI_le, kI_lt, kI_eq, kI_rem, kI_ne_m1, kI_m1_ne, kI_m1, tcl, z2_hit, z2_off, true_and, and_true, and_self, implies_true, if_true, if_false, not_true_eq_false, not_false_eq_true, or_true, true_or, false_or, or_false, or_self, false_and, and_false, decide_true, decide_false, Bool.false_eq_true, eq_self, ite_self, forall_const, false_implies, true_implies, ge_iff_le, gt_iff_lt, zNar_b, dLeT, dLeF, dLtT, dLtF, dEqT, dEqF, hN.tel0, x0, x1, x2, x3, x4, x8, e47, e46, u1, u2, u5, u6, hc, hd]
      exact ⟨I2, rfl, fun c k h => u4 c k h⟩
  · simp (disch := omega) only [b99_81, p99_81, b99_62, p99_62, b99_55, p99_55, b99_46, p99_46, b99_0, p99_0, aC_99_386_55_7, aC_99_390_47_6, aC_99_393_46_6, aI_9_245_8_7, aI_9_251_5_7, aI_9_279_1_7, aI_9_282_3_7, aI_9_285_4_7, aI_9_388_0_7, aI_9_389_2_7, aI_9_82_13_9, aQ_9_11_0_9, aQ_9_65_9_9, wm_I, wm_X, wm_K, wm_WI, wm_HK, q0_0, q0_1, q0_2, q0_3, q0_4, q0_5, q0_6, q0_7, q0_8, q0_9, q0_10, q0_11, q354_1, q354_2, q354_3, q354_4, q354_5, q354_6, q354_7, q354_8, q354_9, q354_10, q354_17, q354_18, q354_19, q354_20, q354_21, q354_22, q354_23, q354_24, q354_25, q354_35, q354_37, q354_38, q354_39, q354_41, q354_42, q354_43, q354_44, q354_48, q354_49, q354_54, q354_55, q354_56, q4_0, q46_0, q46_1, q46_2, q46_3, q46_4, q52_0, q52_1, q52_2, q56_0, q108_0, q6_1, q6_2, q6_3, q6_4, q6_5, q6_6, q4x_0, q4x_1, q4x_2, q1, q2, q5, q57, q109, q1000007, oI_3, oT_3, oI_47, oT_47, oI_48, oT_48, oI_49, oT_49, oI_50, oT_50, oI_51, oT_51, oI_53, oT_53, oI_54, oT_54, oI_55, oT_55, oI_233, oT_233, oI_355, oT_355, oI_356, oT_356, oT_357, oI_358, oT_358, oI_359, oT_359, oI_360, oT_360, oI_361, oT_361, oT_362, oI_363, oT_363, oI_364, oT_364, oT_365, oI_366, oT_366, oI_367, oT_367, oI_368, oT_368, oI_369, oT_369, oI_370, oT_370, oI_371, oT_371, oT_372, oI_373, oT_373, oI_374, oT_374, oI_375, oT_375, oT_376, oI_377, oT_377, oT_378, oI_379, oT_379, oI_380, oT_380, oI_381, oT_381, oI_382, oT_382, oI_383, oT_383, oI_384, oT_384, oI_385, oT_385, oI_386, oT_386, oT_387, oI_S1, oT_S1, oI_S2, oT_S2, oI_S3, oT_S3, oI_S4, oT_S4, oT_S5, oI_O1, oT_O1, oI_O2, oT_O2, oI_O3, oT_O3, oI_X, oR_1, oR_2, oR_5, oR_57, oR_109, oR_K, oN_57, oN_109, oN_53, oN_233, oN_47, oN_S4, oN_O3, wM1_lt0, wM1_ge0, ↓wM1_lit, lit_nI, ofI_1, ofI_2, ofI_6, ofI_m1, kI_add, kI_mul, kI_sub, kI_le, kI_lt, kI_eq, kI_rem, kI_ne_m1, kI_m1_ne, kI_m1, tcl, z2_hit, z2_off, true_and, and_true, and_self, implies_true, if_true, if_false, not_true_eq_false, not_false_eq_true, or_true, true_or, false_or, or_false, or_self, false_and, and_false, decide_true, decide_false, Bool.false_eq_true, eq_self, ite_self, forall_const, false_implies, true_implies, ge_iff_le, gt_iff_lt, zNar_b, dLeT, dLeF, dLtT, dLtF, dEqT, dEqF, hN.tel0, x8, hc]
    exact ⟨I, rfl, fun c k h => rfl⟩
end WS
