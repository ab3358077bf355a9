/-! points: the reference's count. -/
section OE
variable {V : wV} {I : Nat → Nat → Int32} {s : wG} {n a b t t2 : Nat} {X0 Y0 X2 Y2 : Int32}
/-- one where the point is in both -/
def gBoth (s : wG) (a t : Nat) (X0 Y0 : Int32) (b t2 : Nat) (X2 Y2 : Int32) (r g : Int) : Nat :=
  if gTs (gI (wOX s a t X0)) (gI (wOY s a t Y0)) (wStp s a + 1) (1000 * r + 500) (1000 * g + 500) (wStp s a + 1) % 2 = 1 ∧ gTs (gI (wOX s b t2 X2)) (gI (wOY s b t2 Y2)) (wStp s b + 1) (1000 * r + 500) (1000 * g + 500) (wStp s b + 1) % 2 = 1 then 1 else 0
theorem B163_I (hW : wW s) (hR : rB I s) (ha : a < 12) (hb : b < 12) (ht : t < 24) (ht2 : t2 < 24) (hP : wPl I s a t X0 Y0) (hQ : wPl I s b t2 X2 Y2) (bx : gBd (wOX s a t X0) (wStp s a)) (bY : gBd (wOY s a t Y0) (wStp s a)) (bx2 : gBd (wOX s b t2 X2) (wStp s b)) (bY2 : gBd (wOY s b t2 Y2) (wStp s b)) (hn : 20000 ≤ n) {G X1 Y1 py : Int32} {NG : Nat} {ry : Int} (hG : -7000 ≤ G.toInt ∧ G.toInt ≤ 7000) (hX1 : -6000000 ≤ X1.toInt ∧ X1.toInt ≤ 6000000) (hNG : NG = ((X1.toInt - 500) / 1000 + 1 - G.toInt).toNat) (hpy : py.toInt = 1000 * ry + 500) (hry : -7000 ≤ ry ∧ ry ≤ 7000)
    {k158 : Nat → Int32 → Int32 → Int32 → Int32 → Int32 → Int32 → Int32 → zM → Int32 × zM} {q158 : Nat → Int32 → Int32 → Int32 → Int32 → Int32 → Int32 → Int32 → zM → Prop} {c : Nat} : ∀ (r f p : Nat) (px : Int32), r + p = NG → r < f → px.toInt = 1000 * (G.toInt + p) + 500 →
    (q158 354 (nI a) (nI b) G X1 Y1 (nI (c + gSum (gBoth s a t X0 Y0 b t2 X2 Y2 ry) (gRg G.toInt NG))) (py + nI 1000) (wm V I) → p163_176 n q158 f 354 (nI a) (nI b) G X1 Y1 (nI (c + gSum (gBoth s a t X0 Y0 b t2 X2 Y2 ry) (gRg G.toInt p))) py px (wm V I)) ∧ b163_176 n k158 f 354 (nI a) (nI b) G X1 Y1 (nI (c + gSum (gBoth s a t X0 Y0 b t2 X2 Y2 ry) (gRg G.toInt p))) py px (wm V I) = k158 354 (nI a) (nI b) G X1 Y1 (nI (c + gSum (gBoth s a t X0 Y0 b t2 X2 Y2 ry) (gRg G.toInt NG))) (py + nI 1000) (wm V I) := by
  intro r
  induction r with
  | zero =>
    intro f p px hr hf hpx
    obtain ⟨f, rfl⟩ : ∃ m, f = m + 1 := ⟨f - 1, by omega⟩
    have e : p = NG := by omega
    rw [e] at hpx ⊢
    have c1 : X1 < px := by rw [Int32.lt_iff_toInt_lt]; omega
    have ek : Int32.ofInt 1000 = nI 1000 := rfl
    simp (disch := omega) only [p163_176, b163_176, c163_176, d163_176, aC_163_271_160_10, aQ_10_111_48_10, aQ_10_114_49_10, dLeT, dLeF, dLtT, dLtF, dEqT, dEqF, ek, c1, true_and, and_true, implies_true, not_true_eq_false, not_false_eq_true, false_implies, true_implies, if_true, if_false]
    exact fun h => h
  | succ r ih =>
    intro f p px hr hf hpx
    obtain ⟨f, rfl⟩ : ∃ m, f = m + 1 := ⟨f - 1, by omega⟩
    have c1 : ¬ X1 < px := by rw [Int32.lt_iff_toInt_lt]; omega
    have ek : Int32.ofInt 1000 = nI 1000 := rfl
    have ek1 : (nI 1000).toInt = 1000 := rfl
    have nx := ih f (p + 1) (px + nI 1000) (by omega) (by omega) (by rw [i32_add (by omega), ek1]; omega)
    obtain ⟨u1, u2⟩ := B160 (n := n) (V := V) (Px := px) (Py := py) hW hR ha ht hP bx bY (by omega) (by omega) (by omega)
    obtain ⟨v1, v2⟩ := B160 (n := n) (V := V) (Px := px) (Py := py) hW hR hb ht2 hQ bx2 bY2 (by omega) (by omega) (by omega)
    rw [hpy, hpx] at u2 v2
    have eS : gSum (gBoth s a t X0 Y0 b t2 X2 Y2 ry) (gRg G.toInt (p + 1)) = gSum (gBoth s a t X0 Y0 b t2 X2 Y2 ry) (gRg G.toInt p) + gBoth s a t X0 Y0 b t2 X2 Y2 ry (G.toInt + p) := by rw [gRg, gSum_app]; rfl
    have eB : gBoth s a t X0 Y0 b t2 X2 Y2 ry (G.toInt + p) = if gTs (gI (wOX s a t X0)) (gI (wOY s a t Y0)) (wStp s a + 1) (1000 * ry + 500) (1000 * (G.toInt + p) + 500) (wStp s a + 1) % 2 = 1 ∧ gTs (gI (wOX s b t2 X2)) (gI (wOY s b t2 Y2)) (wStp s b + 1) (1000 * ry + 500) (1000 * (G.toInt + p) + 500) (wStp s b + 1) % 2 = 1 then 1 else 0 := rfl
    rw [eS, eB] at nx
    generalize gSum (gBoth s a t X0 Y0 b t2 X2 Y2 ry) (gRg G.toInt NG) = SG at *
    generalize gSum (gBoth s a t X0 Y0 b t2 X2 Y2 ry) (gRg G.toInt p) = Sp at *
    rcases Nat.mod_two_eq_zero_or_one (gTs (gI (wOX s a t X0)) (gI (wOY s a t Y0)) (wStp s a + 1) (1000 * ry + 500) (1000 * (G.toInt + p) + 500) (wStp s a + 1)) with h0 | h0
    · rw [h0] at u2
      rw [if_neg (fun h => by rw [h0] at h; omega), Nat.add_zero] at nx
      simp (disch := omega) only [p163_176, b163_176, c163_176, d163_176, p163_192, b163_192, p163_210, b163_210, aC_163_271_160_10, aQ_10_111_48_10, aQ_10_114_49_10, lit_nI, ek, kI_eq, dLeT, dLeF, dLtT, dLtF, dEqT, dEqF, c1, u1, u2, true_and, and_true, and_self, implies_true, not_true_eq_false, not_false_eq_true, false_implies, true_implies, if_true, if_false]
      exact nx
    · rw [h0] at u2
      rcases Nat.mod_two_eq_zero_or_one (gTs (gI (wOX s b t2 X2)) (gI (wOY s b t2 Y2)) (wStp s b + 1) (1000 * ry + 500) (1000 * (G.toInt + p) + 500) (wStp s b + 1)) with h1 | h1
      · rw [h1] at v2
        rw [if_neg (fun h => by rw [h1] at h; omega), Nat.add_zero] at nx
        simp (disch := omega) only [p163_176, b163_176, c163_176, d163_176, p163_192, b163_192, p163_204, b163_204, p163_210, b163_210, aC_163_271_160_10, aQ_10_111_48_10, aQ_10_114_49_10, lit_nI, ek, kI_eq, dLeT, dLeF, dLtT, dLtF, dEqT, dEqF, c1, u1, u2, v1, v2, true_and, and_true, and_self, implies_true, not_true_eq_false, not_false_eq_true, false_implies, true_implies, if_true, if_false]
        exact nx
      · rw [h1] at v2
        rw [if_pos ⟨h0, h1⟩, ← Nat.add_assoc] at nx
        simp (disch := omega) only [p163_176, b163_176, c163_176, d163_176, p163_192, b163_192, p163_204, b163_204, p163_210, b163_210, aC_163_271_160_10, aQ_10_111_48_10, aQ_10_114_49_10, lit_nI, ofI_1, ek, kI_eq, kI_add, dLeT, dLeF, dLtT, dLtF, dEqT, dEqF, c1, u1, u2, v1, v2, true_and, and_true, and_self, implies_true, not_true_eq_false, not_false_eq_true, false_implies, true_implies, if_true, if_false]
        exact nx
theorem B163_O (hW : wW s) (hR : rB I s) (ha : a < 12) (hb : b < 12) (ht : t < 24) (ht2 : t2 < 24) (hP : wPl I s a t X0 Y0) (hQ : wPl I s b t2 X2 Y2) (bx : gBd (wOX s a t X0) (wStp s a)) (bY : gBd (wOY s a t Y0) (wStp s a)) (bx2 : gBd (wOX s b t2 X2) (wStp s b)) (bY2 : gBd (wOY s b t2 Y2) (wStp s b)) (hn : 20000 ≤ n) {G X1 Y1 : Int32} {NG NR : Nat} {r0 : Int} (hG : -7000 ≤ G.toInt ∧ G.toInt ≤ 7000) (hX1 : -6000000 ≤ X1.toInt ∧ X1.toInt ≤ 6000000) (hY1 : -6000000 ≤ Y1.toInt ∧ Y1.toInt ≤ 6000000) (hNG : NG = ((X1.toInt - 500) / 1000 + 1 - G.toInt).toNat) (hr0 : -7000 ≤ r0 ∧ r0 ≤ 7000) (hNR : NR = ((Y1.toInt - 500) / 1000 + 1 - r0).toNat) : ∀ (r f q : Nat) (py : Int32), r + q = NR → r < f → py.toInt = 1000 * (r0 + q) + 500 →
    p163_158 n f 354 (nI a) (nI b) G X1 Y1 (nI (gSum (fun r => gSum (gBoth s a t X0 Y0 b t2 X2 Y2 r) (gRg G.toInt NG)) (gRg r0 q))) py (wm V I) ∧ b163_158 n f 354 (nI a) (nI b) G X1 Y1 (nI (gSum (fun r => gSum (gBoth s a t X0 Y0 b t2 X2 Y2 r) (gRg G.toInt NG)) (gRg r0 q))) py (wm V I) = (nI (gSum (fun r => gSum (gBoth s a t X0 Y0 b t2 X2 Y2 r) (gRg G.toInt NG)) (gRg r0 NR)), wm V I) := by
  intro r
  induction r with
  | zero =>
    intro f q py hr hf hpy
    obtain ⟨f, rfl⟩ : ∃ m, f = m + 1 := ⟨f - 1, by omega⟩
    have e : q = NR := by omega
    rw [e] at hpy ⊢
    have c1 : Y1 < py := by rw [Int32.lt_iff_toInt_lt]; omega
    simp (disch := omega) only [p163_158, b163_158, c163_158, d163_158, aC_163_271_160_10, aQ_10_111_48_10, aQ_10_114_49_10, wm_I, wm_X, wm_K, wm_WI, wm_HK, q0_0, q0_1, q0_2, q0_3, q0_4, q0_5, q0_6, q0_7, q0_8, q0_9, q0_10, q0_11, q354_1, q354_2, q354_3, q354_4, q354_5, q354_6, q354_7, q354_8, q354_9, q354_10, q354_17, q354_18, q354_19, q354_20, q354_21, q354_22, q354_23, q354_24, q354_25, q354_35, q354_37, q354_38, q354_39, q354_41, q354_42, q354_43, q354_44, q354_48, q354_49, q354_54, q354_55, q354_56, q4_0, q46_0, q46_1, q46_2, q46_3, q46_4, q52_0, q52_1, q52_2, q56_0, q108_0, q6_1, q6_2, q6_3, q6_4, q6_5, q6_6, q4x_0, q4x_1, q4x_2, q1, q2, q5, q57, q109, q1000007, oI_3, oT_3, oI_47, oT_47, oI_48, oT_48, oI_49, oT_49, oI_50, oT_50, oI_51, oT_51, oI_53, oT_53, oI_54, oT_54, oI_55, oT_55, oI_233, oT_233, oI_355, oT_355, oI_356, oT_356, oT_357, oI_358, oT_358, oI_359, oT_359, oI_360, oT_360, oI_361, oT_361, oT_362, oI_363, oT_363, oI_364, oT_364, oT_365, oI_366, oT_366, oI_367, oT_367, oI_368, oT_368, oI_369, oT_369, oI_370, oT_370, oI_371, oT_371, oT_372, oI_373, oT_373, oI_374, oT_374, oI_375, oT_375, oT_376, oI_377, oT_377, oT_378, oI_379, oT_379, oI_380, oT_380, oI_381, oT_381, oI_382, oT_382, oI_383, oT_383, oI_384, oT_384, oI_385, oT_385, oI_386, oT_386, oT_387, oI_S1, oT_S1, oI_S2, oT_S2, oI_S3, oT_S3, oI_S4, oT_S4, oT_S5, oI_O1, oT_O1, oI_O2, oT_O2, oI_O3, oT_O3, oI_X, oR_1, oR_2, oR_5, oR_57, oR_109, oR_K, oN_57, oN_109, oN_53, oN_233, oN_47, oN_S4, oN_O3, wM1_lt0, wM1_ge0, ↓wM1_lit, lit_nI, ofI_1, ofI_2, ofI_6, ofI_m1, kI_add, kI_mul, kI_sub, kI_le, kI_lt, kI_eq, kI_rem, kI_ne_m1, kI_m1_ne, kI_m1, tcl, z2_hit, z2_off, true_and, and_true, and_self, implies_true, if_true, if_false, not_true_eq_false, not_false_eq_true, or_true, true_or, false_or, or_false, or_self, false_and, and_false, decide_true, decide_false, Bool.false_eq_true, eq_self, ite_self, forall_const, false_implies, true_implies, ge_iff_le, gt_iff_lt, zNar_b, dLeT, dLeF, dLtT, dLtF, dEqT, dEqF, c1]
  | succ r ih =>
    intro f q py hr hf hpy
    obtain ⟨f, rfl⟩ : ∃ m, f = m + 1 := ⟨f - 1, by omega⟩
    have c1 : ¬ Y1 < py := by rw [Int32.lt_iff_toInt_lt]; omega
    have ek1 : (nI 1000).toInt = 1000 := rfl
    have ek5 : (nI 500).toInt = 500 := rfl
    have nx := ih f (q + 1) (py + nI 1000) (by omega) (by omega) (by rw [i32_add (by omega), ek1]; omega)
    have em : (nI 1000 * G).toInt = 1000 * G.toInt := by rw [i32_mul (by rw [ek1]; omega), ek1]
    obtain ⟨i1, i2⟩ := B163_I (n := n) (V := V) (k158 := b163_158 n f) (q158 := p163_158 n f) (Y1 := Y1) (py := py) (ry := r0 + q) (c := gSum (fun r => gSum (gBoth s a t X0 Y0 b t2 X2 Y2 r) (gRg G.toInt NG)) (gRg r0 q)) hW hR ha hb ht ht2 hP hQ bx bY bx2 bY2 hn hG hX1 hNG hpy (by omega) NG n 0 (nI 1000 * G + nI 500) (by omega) (by omega) (by rw [i32_add (by omega), em, ek5]; omega)
    have eS : gSum (fun r => gSum (gBoth s a t X0 Y0 b t2 X2 Y2 r) (gRg G.toInt NG)) (gRg r0 (q + 1)) = gSum (fun r => gSum (gBoth s a t X0 Y0 b t2 X2 Y2 r) (gRg G.toInt NG)) (gRg r0 q) + gSum (gBoth s a t X0 Y0 b t2 X2 Y2 (r0 + q)) (gRg G.toInt NG) := by rw [gRg, gSum_app]; rfl
    rw [eS] at nx
    have e0 : gSum (gBoth s a t X0 Y0 b t2 X2 Y2 (r0 + q)) (gRg G.toInt 0) = 0 := rfl
    rw [e0, Nat.add_zero] at i1 i2
    simp (disch := omega) only [p163_158, b163_158, c163_158, d163_158, aC_163_271_160_10, aQ_10_111_48_10, aQ_10_114_49_10, lit_nI, dLeT, dLeF, dLtT, dLtF, dEqT, dEqF, c1, true_and, and_true, implies_true, not_true_eq_false, not_false_eq_true, false_implies, true_implies, if_true, if_false]
    exact ⟨i1 nx.1, i2.trans nx.2⟩
/-- points -/
theorem B163 (hW : wW s) (hR : rB I s) (ha : a < 12) (hb : b < 12) (ht : t < 24) (ht2 : t2 < 24) (hP : wPl I s a t X0 Y0) (hQ : wPl I s b t2 X2 Y2) (hBa : wBx I a (wOX s a t X0) (wOY s a t Y0) (wStp s a)) (hBb : wBx I b (wOX s b t2 X2) (wOY s b t2 Y2) (wStp s b)) (bx : gBd (wOX s a t X0) (wStp s a)) (bY : gBd (wOY s a t Y0) (wStp s a)) (bx2 : gBd (wOX s b t2 X2) (wStp s b)) (bY2 : gBd (wOY s b t2 Y2) (wStp s b)) (hn : 20000 ≤ n) :
    p163_0 n 354 (nI a) (nI b) (wm V I) ∧ b163_0 n 354 (nI a) (nI b) (wm V I) = (nI (gPts (wOX s a t X0) (wOY s a t Y0) (wStp s a) (wOX s b t2 X2) (wOY s b t2 Y2) (wStp s b)), wm V I) := by
  obtain ⟨l1, l2, l3, l4⟩ := hBa
  obtain ⟨m1, m2, m3, m4⟩ := hBb
  have z1 := bx.lo
  have z2' := bx.hi
  have z3 := bY.lo
  have z4 := bY.hi
  have z5 := bx2.lo
  have z6 := bx2.hi
  have z7 := bY2.lo
  have z8 := bY2.hi
  obtain ⟨u1, g, u2, u3⟩ := B162 (n := n) (M := wm V I) (x := wMax (gLo (wOX s a t X0) (wStp s a)) (gLo (wOX s b t2 X2) (wStp s b))) (by rw [wMax_i]; omega)
  obtain ⟨v1, w, v2, v3⟩ := B162 (n := n) (M := wm V I) (x := wMax (gLo (wOY s a t Y0) (wStp s a)) (gLo (wOY s b t2 Y2) (wStp s b))) (by rw [wMax_i]; omega)
  rw [wMax_i, Int.fdiv_eq_ediv_of_nonneg _ (by omega)] at u3 v3
  have o1 : (nI 1).toInt = 1 := rfl
  have ek1 : (nI 1000).toInt = 1000 := rfl
  have ek5 : (nI 500).toInt = 500 := rfl
  have eg : (g - nI 1).toInt = g.toInt - 1 := by rw [i32_sub (by omega), o1]
  have ew : (w - nI 1).toInt = w.toInt - 1 := by rw [i32_sub (by omega), o1]
  have em : (nI 1000 * (w - nI 1)).toInt = 1000 * (w.toInt - 1) := by rw [i32_mul (by rw [ek1, ew]; omega), ek1, ew]
  have main : ∀ X1 Y1 : Int32, X1.toInt = min (gHi (wOX s a t X0) (wStp s a)).toInt (gHi (wOX s b t2 X2) (wStp s b)).toInt → Y1.toInt = min (gHi (wOY s a t Y0) (wStp s a)).toInt (gHi (wOY s b t2 Y2) (wStp s b)).toInt →
      p163_158 n n 354 (nI a) (nI b) (g - nI 1) X1 Y1 (nI 0) (nI 1000 * (w - nI 1) + nI 500) (wm V I) ∧ b163_158 n n 354 (nI a) (nI b) (g - nI 1) X1 Y1 (nI 0) (nI 1000 * (w - nI 1) + nI 500) (wm V I) = (nI (gPts (wOX s a t X0) (wOY s a t Y0) (wStp s a) (wOX s b t2 X2) (wOY s b t2 Y2) (wStp s b)), wm V I) := by
    intro X1 Y1 hX hY
    have := B163_O (n := n) (V := V) (X1 := X1) (Y1 := Y1) (G := g - nI 1) (r0 := w.toInt - 1) hW hR ha hb ht ht2 hP hQ bx bY bx2 bY2 hn (by omega) (by omega) (by omega) rfl (by omega) rfl (((Y1.toInt - 500) / 1000 + 1 - (w.toInt - 1)).toNat) n 0 (nI 1000 * (w - nI 1) + nI 500) (by omega) (by omega) (by rw [i32_add (by omega), em, ek5]; omega)
    have A := gAll (x := gI (wOX s a t X0)) (y := gI (wOY s a t Y0)) (x2 := gI (wOX s b t2 X2)) (y2 := gI (wOY s b t2 Y2)) (m := wStp s a + 1) (m2 := wStp s b + 1) (r0 := w.toInt - 1) (nr := ((Y1.toInt - 500) / 1000 + 1 - (w.toInt - 1)).toNat) (g0 := (g - nI 1).toInt) (ng := ((X1.toInt - 500) / 1000 + 1 - (g - nI 1).toInt).toNat) (r1 := -20000) (nr1 := 40000) (by omega) (by omega) (gBox bx bY) (gBox bx2 bY2) (fun r h1 h2 => by omega) (fun r h1 h2 => by omega) (fun r h1 h2 => by omega)
    have eG : gSum (fun r => gSum (gBoth s a t X0 Y0 b t2 X2 Y2 r) (gRg (g - nI 1).toInt ((X1.toInt - 500) / 1000 + 1 - (g - nI 1).toInt).toNat)) (gRg (w.toInt - 1) ((Y1.toInt - 500) / 1000 + 1 - (w.toInt - 1)).toNat) = gPts (wOX s a t X0) (wOY s a t Y0) (wStp s a) (wOX s b t2 X2) (wOY s b t2 Y2) (wStp s b) := A
    rw [eG] at this
    exact this
  by_cases c1 : gHi (wOX s b t2 X2) (wStp s b) ≤ gHi (wOX s a t X0) (wStp s a) <;> by_cases c2 : gHi (wOY s b t2 Y2) (wStp s b) ≤ gHi (wOY s a t Y0) (wStp s a)
  · have := main (gHi (wOX s b t2 X2) (wStp s b)) (gHi (wOY s b t2 Y2) (wStp s b)) (by rw [Int32.le_iff_toInt_le] at c1; omega) (by rw [Int32.le_iff_toInt_le] at c2; omega)
    simp (disch := omega) only [p163_0, b163_0, p163_19, b163_19, p163_22, b163_22, p163_48, b163_48, p163_51, b163_51, p163_93, b163_93, p163_141, b163_141, aC_163_271_160_10, aQ_10_111_48_10, aQ_10_114_49_10, wm_I, wm_X, wm_K, wm_WI, wm_HK, q0_0, q0_1, q0_2, q0_3, q0_4, q0_5, q0_6, q0_7, q0_8, q0_9, q0_10, q0_11, q354_1, q354_2, q354_3, q354_4, q354_5, q354_6, q354_7, q354_8, q354_9, q354_10, q354_17, q354_18, q354_19, q354_20, q354_21, q354_22, q354_23, q354_24, q354_25, q354_35, q354_37, q354_38, q354_39, q354_41, q354_42, q354_43, q354_44, q354_48, q354_49, q354_54, q354_55, q354_56, q4_0, q46_0, q46_1, q46_2, q46_3, q46_4, q52_0, q52_1, q52_2, q56_0, q108_0, q6_1, q6_2, q6_3, q6_4, q6_5, q6_6, q4x_0, q4x_1, q4x_2, q1, q2, q5, q57, q109, q1000007, oI_3, oT_3, oI_47, oT_47, oI_48, oT_48, oI_49, oT_49, oI_50, oT_50, oI_51, oT_51, oI_53, oT_53, oI_54, oT_54, oI_55, oT_55, oI_233, oT_233, oI_355, oT_355, oI_356, oT_356, oT_357, oI_358, oT_358, oI_359, oT_359, oI_360, oT_360, oI_361, oT_361, oT_362, oI_363, oT_363, oI_364, oT_364, oT_365, oI_366, oT_366, oI_367, oT_367, oI_368, oT_368, oI_369, oT_369, oI_370, oT_370, oI_371, oT_371, oT_372, oI_373, oT_373, oI_374, oT_374, oI_375, oT_375, oT_376, oI_377, oT_377, oT_378, oI_379, oT_379, oI_380, oT_380, oI_381, oT_381, oI_382, oT_382, oI_383, oT_383, oI_384, oT_384, oI_385, oT_385, oI_386, oT_386, oT_387, oI_S1, oT_S1, oI_S2, oT_S2, oI_S3, oT_S3, oI_S4, oT_S4, oT_S5, oI_O1, oT_O1, oI_O2, oT_O2, oI_O3, oT_O3, oI_X, oR_1, oR_2, oR_5, oR_57, oR_109, oR_K, oN_57, oN_109, oN_53, oN_233, oN_47, oN_S4, oN_O3, wM1_lt0, wM1_ge0, ↓wM1_lit, lit_nI, ofI_1, ofI_2, ofI_6, ofI_m1, kI_add, kI_mul, kI_sub, kI_le, kI_lt, kI_eq, kI_rem, kI_ne_m1, kI_m1_ne, kI_m1, tcl, z2_hit, z2_off, true_and, and_true, and_self, implies_true, if_true, if_false, not_true_eq_false, not_false_eq_true, or_true, true_or, false_or, or_false, or_self, false_and, and_false, decide_true, decide_false, Bool.false_eq_true, eq_self, ite_self, forall_const, false_implies, true_implies, ge_iff_le, gt_iff_lt, zNar_b, dLeT, dLeF, dLtT, dLtF, dEqT, dEqF, P125, B125, l1, l2, l3, l4, m1, m2, m3, m4, u1, u2, v1, v2, c1, c2]
    exact this
  · have := main (gHi (wOX s b t2 X2) (wStp s b)) (gHi (wOY s a t Y0) (wStp s a)) (by rw [Int32.le_iff_toInt_le] at c1; omega) (by rw [Int32.le_iff_toInt_le] at c2; omega)
    simp (disch := omega) only [p163_0, b163_0, p163_19, b163_19, p163_22, b163_22, p163_48, b163_48, p163_51, b163_51, p163_93, b163_93, p163_141, b163_141, aC_163_271_160_10, aQ_10_111_48_10, aQ_10_114_49_10, wm_I, wm_X, wm_K, wm_WI, wm_HK, q0_0, q0_1, q0_2, q0_3, q0_4, q0_5, q0_6, q0_7, q0_8, q0_9, q0_10, q0_11, q354_1, q354_2, q354_3, q354_4, q354_5, q354_6, q354_7, q354_8, q354_9, q354_10, q354_17, q354_18, q354_19, q354_20, q354_21, q354_22, q354_23, q354_24, q354_25, q354_35, q354_37, q354_38, q354_39, q354_41, q354_42, q354_43, q354_44, q354_48, q354_49, q354_54, q354_55, q354_56, q4_0, q46_0, q46_1, q46_2, q46_3, q46_4, q52_0, q52_1, q52_2, q56_0, q108_0, q6_1, q6_2, q6_3, q6_4, q6_5, q6_6, q4x_0, q4x_1, q4x_2, q1, q2, q5, q57, q109, q1000007, oI_3, oT_3, oI_47, oT_47, oI_48, oT_48, oI_49, oT_49, oI_50, oT_50, oI_51, oT_51, oI_53, oT_53, oI_54, oT_54, oI_55, oT_55, oI_233, oT_233, oI_355, oT_355, oI_356, oT_356, oT_357, oI_358, oT_358, oI_359, oT_359, oI_360, oT_360, oI_361, oT_361, oT_362, oI_363, oT_363, oI_364, oT_364, oT_365, oI_366, oT_366, oI_367, oT_367, oI_368, oT_368, oI_369, oT_369, oI_370, oT_370, oI_371, oT_371, oT_372, oI_373, oT_373, oI_374, oT_374, oI_375, oT_375, oT_376, oI_377, oT_377, oT_378, oI_379, oT_379, oI_380, oT_380, oI_381, oT_381, oI_382, oT_382, oI_383, oT_383, oI_384, oT_384, oI_385, oT_385, oI_386, oT_386, oT_387, oI_S1, oT_S1, oI_S2, oT_S2, oI_S3, oT_S3, oI_S4, oT_S4, oT_S5, oI_O1, oT_O1, oI_O2, oT_O2, oI_O3, oT_O3, oI_X, oR_1, oR_2, oR_5, oR_57, oR_109, oR_K, oN_57, oN_109, oN_53, oN_233, oN_47, oN_S4, oN_O3, wM1_lt0, wM1_ge0, ↓wM1_lit, lit_nI, ofI_1, ofI_2, ofI_6, ofI_m1, kI_add, kI_mul, kI_sub, kI_le, kI_lt, kI_eq, kI_rem, kI_ne_m1, kI_m1_ne, kI_m1, tcl, z2_hit, z2_off, true_and, and_true, and_self, implies_true, if_true, if_false, not_true_eq_false, not_false_eq_true, or_true, true_or, false_or, or_false, or_self, false_and, and_false, decide_true, decide_false, Bool.false_eq_true, eq_self, ite_self, forall_const, false_implies, true_implies, ge_iff_le, gt_iff_lt, zNar_b, dLeT, dLeF, dLtT, dLtF, dEqT, dEqF, P125, B125, l1, l2, l3, l4, m1, m2, m3, m4, u1, u2, v1, v2, c1, c2]
    exact this
  · have := main (gHi (wOX s a t X0) (wStp s a)) (gHi (wOY s b t2 Y2) (wStp s b)) (by rw [Int32.le_iff_toInt_le] at c1; omega) (by rw [Int32.le_iff_toInt_le] at c2; omega)
    simp (disch := omega) only [p163_0, b163_0, p163_19, b163_19, p163_22, b163_22, p163_48, b163_48, p163_51, b163_51, p163_93, b163_93, p163_141, b163_141, aC_163_271_160_10, aQ_10_111_48_10, aQ_10_114_49_10, wm_I, wm_X, wm_K, wm_WI, wm_HK, q0_0, q0_1, q0_2, q0_3, q0_4, q0_5, q0_6, q0_7, q0_8, q0_9, q0_10, q0_11, q354_1, q354_2, q354_3, q354_4, q354_5, q354_6, q354_7, q354_8, q354_9, q354_10, q354_17, q354_18, q354_19, q354_20, q354_21, q354_22, q354_23, q354_24, q354_25, q354_35, q354_37, q354_38, q354_39, q354_41, q354_42, q354_43, q354_44, q354_48, q354_49, q354_54, q354_55, q354_56, q4_0, q46_0, q46_1, q46_2, q46_3, q46_4, q52_0, q52_1, q52_2, q56_0, q108_0, q6_1, q6_2, q6_3, q6_4, q6_5, q6_6, q4x_0, q4x_1, q4x_2, q1, q2, q5, q57, q109, q1000007, oI_3, oT_3, oI_47, oT_47, oI_48, oT_48, oI_49, oT_49, oI_50, oT_50, oI_51, oT_51, oI_53, oT_53, oI_54, oT_54, oI_55, oT_55, oI_233, oT_233, oI_355, oT_355, oI_356, oT_356, oT_357, oI_358, oT_358, oI_359, oT_359, oI_360, oT_360, oI_361, oT_361, oT_362, oI_363, oT_363, oI_364, oT_364, oT_365, oI_366, oT_366, oI_367, oT_367, oI_368, oT_368, oI_369, oT_369, oI_370, oT_370, oI_371, oT_371, oT_372, oI_373, oT_373, oI_374, oT_374, oI_375, oT_375, oT_376, oI_377, oT_377, oT_378, oI_379, oT_379, oI_380, oT_380, oI_381, oT_381, oI_382, oT_382, oI_383, oT_383, oI_384, oT_384, oI_385, oT_385, oI_386, oT_386, oT_387, oI_S1, oT_S1, oI_S2, oT_S2, oI_S3, oT_S3, oI_S4, oT_S4, oT_S5, oI_O1, oT_O1, oI_O2, oT_O2, oI_O3, oT_O3, oI_X, oR_1, oR_2, oR_5, oR_57, oR_109, oR_K, oN_57, oN_109, oN_53, oN_233, oN_47, oN_S4, oN_O3, wM1_lt0, wM1_ge0, ↓wM1_lit, lit_nI, ofI_1, ofI_2, ofI_6, ofI_m1, kI_add, kI_mul, kI_sub, kI_le, kI_lt, kI_eq, kI_rem, kI_ne_m1, kI_m1_ne, kI_m1, tcl, z2_hit, z2_off, true_and, and_true, and_self, implies_true, if_true, if_false, not_true_eq_false, not_false_eq_true, or_true, true_or, false_or, or_false, or_self, false_and, and_false, decide_true, decide_false, Bool.false_eq_true, eq_self, ite_self, forall_const, false_implies, true_implies, ge_iff_le, gt_iff_lt, zNar_b, dLeT, dLeF, dLtT, dLtF, dEqT, dEqF, P125, B125, l1, l2, l3, l4, m1, m2, m3, m4, u1, u2, v1, v2, c1, c2]
    exact this
  · have := main (gHi (wOX s a t X0) (wStp s a)) (gHi (wOY s a t Y0) (wStp s a)) (by rw [Int32.le_iff_toInt_le] at c1; omega) (by rw [Int32.le_iff_toInt_le] at c2; omega)
    simp (disch := omega) only [p163_0, b163_0, p163_19, b163_19, p163_22, b163_22, p163_48, b163_48, p163_51, b163_51, p163_93, b163_93, p163_141, b163_141, aC_163_271_160_10, aQ_10_111_48_10, aQ_10_114_49_10, wm_I, wm_X, wm_K, wm_WI, wm_HK, q0_0, q0_1, q0_2, q0_3, q0_4, q0_5, q0_6, q0_7, q0_8, q0_9, q0_10, q0_11, q354_1, q354_2, q354_3, q354_4, q354_5, q354_6, q354_7, q354_8, q354_9, q354_10, q354_17, q354_18, q354_19, q354_20, q354_21, q354_22, q354_23, q354_24, q354_25, q354_35, q354_37, q354_38, q354_39, q354_41, q354_42, q354_43, q354_44, q354_48, q354_49, q354_54, q354_55, q354_56, q4_0, q46_0, q46_1, q46_2, q46_3, q46_4, q52_0, q52_1, q52_2, q56_0, q108_0, q6_1, q6_2, q6_3, q6_4, q6_5, q6_6, q4x_0, q4x_1, q4x_2, q1, q2, q5, q57, q109, q1000007, oI_3, oT_3, oI_47, oT_47, oI_48, oT_48, oI_49, oT_49, oI_50, oT_50, oI_51, oT_51, oI_53, oT_53, oI_54, oT_54, oI_55, oT_55, oI_233, oT_233, oI_355, oT_355, oI_356, oT_356, oT_357, oI_358, oT_358, oI_359, oT_359, oI_360, oT_360, oI_361, oT_361, oT_362, oI_363, oT_363, oI_364, oT_364, oT_365, oI_366, oT_366, oI_367, oT_367, oI_368, oT_368, oI_369, oT_369, oI_370, oT_370, oI_371, oT_371, oT_372, oI_373, oT_373, oI_374, oT_374, oI_375, oT_375, oT_376, oI_377, oT_377, oT_378, oI_379, oT_379, oI_380, oT_380, oI_381, oT_381, oI_382, oT_382, oI_383, oT_383, oI_384, oT_384, oI_385, oT_385, oI_386, oT_386, oT_387, oI_S1, oT_S1, oI_S2, oT_S2, oI_S3, oT_S3, oI_S4, oT_S4, oT_S5, oI_O1, oT_O1, oI_O2, oT_O2, oI_O3, oT_O3, oI_X, oR_1, oR_2, oR_5, oR_57, oR_109, oR_K, oN_57, oN_109, oN_53, oN_233, oN_47, oN_S4, oN_O3, wM1_lt0, wM1_ge0, ↓wM1_lit, lit_nI, ofI_1, ofI_2, ofI_6, ofI_m1, kI_add, kI_mul, kI_sub, kI_le, kI_lt, kI_eq, kI_rem, kI_ne_m1, kI_m1_ne, kI_m1, tcl, z2_hit, z2_off, true_and, and_true, and_self, implies_true, if_true, if_false, not_true_eq_false, not_false_eq_true, or_true, true_or, false_or, or_false, or_self, false_and, and_false, decide_true, decide_false, Bool.false_eq_true, eq_self, ite_self, forall_const, false_implies, true_implies, ge_iff_le, gt_iff_lt, zNar_b, dLeT, dLeF, dLtT, dLtF, dEqT, dEqF, P125, B125, l1, l2, l3, l4, m1, m2, m3, m4, u1, u2, v1, v2, c1, c2]
    exact this
end OE
