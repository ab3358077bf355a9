/-! The law's start: what the constructors leave. -/
def gS3 (S : Nat → Nat → Bool) : Nat → Nat → Bool := (s2 (s2 (s2 (s2 (s2 (s2 (s2 (s2 (s2 (s2 (s2 (s2 (s2 (s2 (s2 (s2 (s2 (s2 (s2 (s2 (s2 (s2 (s2 (s2 (s2 (s2 (s2 (s2 (s2 (s2 (s2 (s2 S 354 1) 354 2) 354 3) 354 4) 354 5) 354 6) 354 7) 354 8) 354 9) 354 10) 354 17) 354 18) 354 19) 354 20) 354 21) 354 22) 354 23) 354 24) 354 25) 354 35) 354 37) 354 38) 354 39) 354 41) 354 42) 354 43) 354 44) 354 48) 354 49) 354 54) 354 55) 354 56)
def gI3 (I : Nat → Nat → Int32) : Nat → Nat → Int32 := (z2 (z2 (z2 (z2 (z2 (z2 (z2 (z2 (z2 (z2 I 354 11 (nI 6)) 354 12 (nI 10)) 354 13 (nI 3000)) 354 14 (nI 3)) 354 30 wM1) 354 31 wM1) 354 50 wM1) 354 51 wM1) 354 52 wM1) 354 53 wM1)
theorem s2_mono {S T : Nat → Nat → Bool} {a j b i : Nat} (h : S b i = true → T b i = true) : s2 S a j b i = true → s2 T a j b i = true := by
  unfold s2; split
  · exact id
  · exact h
theorem gS3_on {S : Nat → Nat → Bool} {j : Nat} (h : gS3 gS0 354 j = true) : gS3 S 354 j = true := by
  revert h; unfold gS3; exact (s2_mono (s2_mono (s2_mono (s2_mono (s2_mono (s2_mono (s2_mono (s2_mono (s2_mono (s2_mono (s2_mono (s2_mono (s2_mono (s2_mono (s2_mono (s2_mono (s2_mono (s2_mono (s2_mono (s2_mono (s2_mono (s2_mono (s2_mono (s2_mono (s2_mono (s2_mono (s2_mono (s2_mono (s2_mono (s2_mono (s2_mono (s2_mono (fun h => nomatch h)))))))))))))))))))))))))))))))))
theorem gS3_d : ∀ j, j < 57 → wR1 j ≠ none → gS3 gS0 354 j = true := by decide
theorem wR1_none {j : Nat} (h : 57 ≤ j) : wR1 j = none := by
  unfold wR1; simp (disch := omega) only [if_neg]
theorem wR0_none {j : Nat} (h : 12 ≤ j) : wR0 j = none := by
  unfold wR0; simp (disch := omega) only [if_neg]
theorem s2_up {S : Nat → Nat → Bool} {a j b i : Nat} (h : S b i = true) : s2 S a j b i = true := by
  unfold s2; split
  · rfl
  · exact h
theorem gS3_up {S : Nat → Nat → Bool} {b i : Nat} (h : S b i = true) : gS3 S b i = true := (s2_up (s2_up (s2_up (s2_up (s2_up (s2_up (s2_up (s2_up (s2_up (s2_up (s2_up (s2_up (s2_up (s2_up (s2_up (s2_up (s2_up (s2_up (s2_up (s2_up (s2_up (s2_up (s2_up (s2_up (s2_up (s2_up (s2_up (s2_up (s2_up (s2_up (s2_up (s2_up h))))))))))))))))))))))))))))))))
theorem gS3_off {S : Nat → Nat → Bool} {b i : Nat} (h : b ≠ 354) : gS3 S b i = S b i := by
  unfold gS3; simp (disch := omega) only [s2_off]
theorem gI3_off {I : Nat → Nat → Int32} {b i : Nat} (h : b ≠ 354) : gI3 I b i = I b i := by
  unfold gI3; simp (disch := omega) only [z2_off]
section GY
variable {L : Nat} {xs : Nat → Int32} {z : Nat} {S : Nat → Nat → Bool} {I : Nat → Nat → Int32} {n a j : Nat}
theorem gm0 : zM0 L xs = gm L xs 0 0 gS0 gI0 := by
  have e1 : (fun a => if a < 0 then wS L a else zgS L a) = zgS L := by funext a; exact if_neg (Nat.not_lt_zero a)
  have e2 : (fun a j => if a < 0 then gI0 a j else zgI xs a j) = zgI xs := by funext a j; exact if_neg (Nat.not_lt_zero a)
  have e3 : (fun a j => if a < 0 then (if gS0 a j = true then gR a j else none) else zgP a j) = zgP := by funext a j; exact if_neg (Nat.not_lt_zero a)
  unfold zM0 gm; rw [e1, e2, e3]
def gV0 (L : Nat) (xs : Nat → Int32) (z : Nat) : wV := ((z, 0), (L, xs), (fun _ _ => 0), (fun _ => 0), (fun k => 58 + k), (fun k => 110 + k))
theorem gm388 (hS : ∀ a j, a < 388 → gR a j ≠ none → S a j = true) : gm L xs 388 z S I = wm (gV0 L xs z) I := by
  have e1 : (fun a => if a < 388 then wS L a else zgS L a) = wS L := by
    funext a
    by_cases h : a < 388
    · rw [if_pos h]
    · rw [if_neg h]; unfold wS; rw [if_neg h]
  have e3 : (fun a j => if a < 388 then (if S a j = true then gR a j else none) else zgP a j) = wR (fun _ => 0) (fun k => 58 + k) (fun k => 110 + k) := by
    funext a j
    by_cases h : a < 388
    · rw [if_pos h]
      by_cases hg : gR a j = none
      · show (if S a j = true then gR a j else none) = gR a j
        rw [hg]; split <;> rfl
      · rw [if_pos (hS a j h hg)]; rfl
    · rw [if_neg h]; unfold wR; rw [if_neg h]
  show (388, (z, 0), (fun a => if a < 388 then wS L a else zgS L a), (fun a j => if a < 388 then I a j else zgI xs a j), (fun _ _ => (0 : Int64)), (fun a j => if a < 388 then (if S a j = true then gR a j else none) else zgP a j)) = (388, (z, 0), wS L, (fun a j => if a < 388 then I a j else zgI xs a j), (fun _ _ => (0 : Int64)), wR (fun _ => 0) (fun k => 58 + k) (fun k => 110 + k))
  rw [e1, e3]
theorem gR_on (ha : a < 388) (h : gR a j ≠ none) : (∃ c, c < 12 ∧ a = 234 + 10 * c ∧ 1 ≤ j ∧ j ≤ 6) ∨ (∃ c, c < 12 ∧ a = 240 + 10 * c ∧ j < 3) ∨ (a = 0 ∧ j < 12) ∨ (a = 1 ∧ j < 12) ∨ (a = 2 ∧ j < 12) ∨ (a = 4 ∧ j = 0) ∨ (a = 5 ∧ j < 40) ∨ (a = 46 ∧ j < 5) ∨ (a = 52 ∧ j < 3) ∨ (a = 56 ∧ j = 0) ∨ (a = 57 ∧ j < 50) ∨ (a = 108 ∧ j = 0) ∨ (a = 109 ∧ j < 120) ∨ (a = 354 ∧ wR1 j ≠ none) := by
  unfold gR wR at h
  rw [if_pos ha] at h
  by_cases hm : 234 ≤ a ∧ a < 354
  · rw [if_pos hm] at h
    by_cases h0 : (a - 234) % 10 = 0
    · rw [if_pos h0] at h
      by_cases h1 : 1 ≤ j ∧ j < 6
      · exact Or.inl ⟨(a - 234) / 10, by omega, by omega, by omega, by omega⟩
      · rw [if_neg h1] at h
        by_cases h6 : j = 6
        · exact Or.inl ⟨(a - 234) / 10, by omega, by omega, by omega, by omega⟩
        · rw [if_neg h6] at h; exact absurd rfl h
    · rw [if_neg h0] at h
      by_cases h6 : (a - 234) % 10 = 6
      · rw [if_pos h6] at h
        by_cases h3 : j < 3
        · exact Or.inr (Or.inl ⟨(a - 234) / 10, by omega, by omega, h3⟩)
        · rw [if_neg h3] at h; exact absurd rfl h
      · rw [if_neg h6] at h; exact absurd rfl h
  · rw [if_neg hm] at h
    by_cases a0 : a = 0
    · rw [if_pos a0] at h
      by_cases hj : j < 12
      · omega
      · exact absurd (wR0_none (by omega)) h
    · rw [if_neg a0] at h
      by_cases a1 : a = 1
      · rw [if_pos a1] at h
        by_cases hj : j < 12
        · omega
        · rw [if_neg hj] at h; exact absurd rfl h
      rw [if_neg a1] at h
      by_cases a2 : a = 2
      · rw [if_pos a2] at h
        by_cases hj : j < 12
        · omega
        · rw [if_neg hj] at h; exact absurd rfl h
      rw [if_neg a2] at h
      by_cases a4 : a = 4
      · rw [if_pos a4] at h
        by_cases hj : j = 0
        · omega
        · rw [if_neg hj] at h; exact absurd rfl h
      rw [if_neg a4] at h
      by_cases a5 : a = 5
      · rw [if_pos a5] at h
        by_cases hj : j < 40
        · omega
        · rw [if_neg hj] at h; exact absurd rfl h
      rw [if_neg a5] at h
      by_cases a46 : a = 46
      · rw [if_pos a46] at h
        by_cases hj : j < 5
        · omega
        · rw [if_neg hj] at h; exact absurd rfl h
      rw [if_neg a46] at h
      by_cases a52 : a = 52
      · rw [if_pos a52] at h
        by_cases hj : j < 3
        · omega
        · rw [if_neg hj] at h; exact absurd rfl h
      rw [if_neg a52] at h
      by_cases a56 : a = 56
      · rw [if_pos a56] at h
        by_cases hj : j = 0
        · omega
        · rw [if_neg hj] at h; exact absurd rfl h
      rw [if_neg a56] at h
      by_cases a57 : a = 57
      · rw [if_pos a57] at h
        by_cases hj : j < 50
        · omega
        · rw [if_neg hj] at h; exact absurd rfl h
      rw [if_neg a57] at h
      by_cases a108 : a = 108
      · rw [if_pos a108] at h
        by_cases hj : j = 0
        · omega
        · rw [if_neg hj] at h; exact absurd rfl h
      rw [if_neg a108] at h
      by_cases a109 : a = 109
      · rw [if_pos a109] at h
        by_cases hj : j < 120
        · omega
        · rw [if_neg hj] at h; exact absurd rfl h
      rw [if_neg a109] at h
      by_cases ae : a = 354
      · rw [if_pos ae] at h
        exact Or.inr (Or.inr (Or.inr (Or.inr (Or.inr (Or.inr (Or.inr (Or.inr (Or.inr (Or.inr (Or.inr (Or.inr (Or.inr ⟨ae, h⟩))))))))))))
      · rw [if_neg ae] at h; exact absurd rfl h
theorem g_all (h1 : ∀ b j, gS1 b j = true → S b j = true) (h2 : ∀ c, c < 12 → gDn S I c) : ∀ a j, a < 388 → gR a j ≠ none → gS3 S a j = true := by
  intro a j ha h
  obtain ⟨k0, k4, k5, k46, k52, k56, k57, k108, k109⟩ := gS1_on
  rcases gR_on ha h with ⟨c, hc, e, l1, l2⟩ | ⟨c, hc, e, l1⟩ | ⟨e, l1⟩ | ⟨e, l1⟩ | ⟨e, l1⟩ | ⟨e, l1⟩ | ⟨e, l1⟩ | ⟨e, l1⟩ | ⟨e, l1⟩ | ⟨e, l1⟩ | ⟨e, l1⟩ | ⟨e, l1⟩ | ⟨e, l1⟩ | ⟨e, l1⟩
  · rw [e]; exact gS3_up ((h2 c hc).2.2.1 j l1 l2)
  · rw [e]; exact gS3_up ((h2 c hc).2.2.2.1 j l1)
  · rw [e]; exact gS3_up (h1 _ _ (k0 j l1))
  · rw [e]; exact gS3_up (h2 j l1).1
  · rw [e]; exact gS3_up (h2 j l1).2.1
  · rw [e, l1]; exact gS3_up (h1 _ _ k4)
  · rw [e]; exact gS3_up (h1 _ _ (k5 j l1))
  · rw [e]; exact gS3_up (h1 _ _ (k46 j l1))
  · rw [e]; exact gS3_up (h1 _ _ (k52 j l1))
  · rw [e, l1]; exact gS3_up (h1 _ _ k56)
  · rw [e]; exact gS3_up (h1 _ _ (k57 j l1))
  · rw [e, l1]; exact gS3_up (h1 _ _ k108)
  · rw [e]; exact gS3_up (h1 _ _ (k109 j l1))
  · rw [e]
    by_cases hj : j < 57
    · exact gS3_on (gS3_d j hj l1)
    · exact absurd (wR1_none (by omega)) l1
end GY
section GZ
variable {s : wG} {I : Nat → Nat → Int32} {L z n : Nat} {xs : Nat → Int32} {S : Nat → Nat → Bool}
/-- the first numbers -/
def g0 (s : wG) : Prop := s 354 0 = 0 ∧ s 354 11 = nI 6 ∧ s 354 15 = 0 ∧ s 354 16 = 0 ∧ s 354 36 = 0 ∧ ∀ c q, 355 ≤ c → s c q = 0
theorem g0.m (h : g0 s) : s 354 0 = 0 := h.1
theorem g0.l (h : g0 s) : s 354 11 = nI 6 := h.2.1
theorem g0.c (h : g0 s) : s 354 15 = 0 := h.2.2.1
theorem g0.d (h : g0 s) : s 354 16 = 0 := h.2.2.2.1
theorem g0.t (h : g0 s) : s 354 36 = 0 := h.2.2.2.2.1
theorem g0.zr (h : g0 s) : ∀ c q, 355 ≤ c → s c q = 0 := h.2.2.2.2.2
theorem z_tcl : (0 : Int32).toNatClampNeg = 0 := by decide
theorem z_nI : nI 0 = 0 := by decide
theorem z_one : ¬ (0 : Int32) = 1 := by decide
theorem g0.mny (h : g0 s) : wMny s = 0 := by unfold wMny; rw [h.m]; exact z_tcl
theorem g0.stp (h : g0 s) (a : Nat) : wStp s a = 0 := by unfold wStp; rw [h.zr _ _ (by omega)]; exact z_tcl
theorem g0.dr (h : g0 s) (a : Nat) : wDr s a = 0 := by unfold wDr; rw [h.zr _ _ (by omega)]; exact z_tcl
theorem g0.ln (h : g0 s) (a : Nat) : wLn s a = 0 := by unfold wLn; rw [h.zr _ _ (by omega)]; exact z_tcl
theorem g0.mad (h : g0 s) : wMad s = 0 := by unfold wMad; rw [h.d]; exact z_tcl
theorem g0.tld (h : g0 s) : wTld s = 0 := by unfold wTld; rw [h.t]; exact z_tcl
theorem g0.gst (h : g0 s) : wGst s = 0 := by unfold wGst; rw [h.zr _ _ (by omega)]; exact z_tcl
theorem g0.lst (h : g0 s) : wLst s = 6 := by unfold wLst; rw [h.l]; decide
theorem g0.isj (h : g0 s) (k : Nat) : ¬ s 365 k = 1 := by rw [h.zr _ _ (by omega)]; exact z_one
theorem g0.cnt (h : g0 s) : ∀ k, wCnt s k = 0
  | 0 => rfl
  | k + 1 => by rw [wCnt, h.cnt k, if_neg (h.isj k)]
theorem g0.w (h : g0 s) : wW s := by
  have a1 := h.mny
  have a2 := h.stp
  have zz : ∀ c q, 355 ≤ c → s c q = nI 0 := fun c q hc => (h.zr c q hc).trans z_nI.symm
  refine ⟨⟨by rw [a1, h.m, z_nI], by omega⟩, fun a ha => absurd ha (by omega), fun a _ => ⟨by rw [a2 a]; exact zz _ _ (by omega), by rw [a2 a]; omega⟩, fun a _ _ => a2 a, fun a _ => Or.inl (h.zr _ _ (by omega)), fun a ha => absurd ha (by omega), fun a ha => absurd ha (by omega), fun k _ => ⟨by rw [h.dr k]; exact zz _ _ (by omega), by rw [h.dr k]; omega⟩, fun k _ => ⟨by rw [h.ln k]; exact zz _ _ (by omega), by rw [h.ln k]; omega⟩, fun k _ => Or.inl (h.zr _ _ (by omega)), fun a i ha => absurd ha (by omega), fun k _ => Or.inl (h.zr _ _ (by omega)), fun k _ hk => absurd hk (h.isj k), fun k _ hk => absurd hk (h.isj k), fun k _ hk => absurd hk (h.isj k), by rw [h.cnt 40, h.c, z_nI], ⟨by rw [h.mad, h.d, z_nI], by rw [h.mad]; omega⟩, fun k _ hk => absurd hk (h.isj k), fun k l _ _ hk => absurd hk (h.isj k), ⟨by rw [h.lst, h.l], by rw [h.lst]; omega, by rw [h.lst]; omega⟩, ⟨by rw [h.tld, h.t, z_nI], by rw [h.tld]; omega⟩, ⟨by rw [h.gst]; exact zz _ _ (by omega), by rw [h.gst]; omega⟩, fun a i ha => absurd ha (by omega)⟩
theorem g_start (hD : ∀ c, c < 12 → gDn S I c) (hI : ∀ c q, ¬ gSp c q → I c q = gI1 c q) : ∃ s, wW s ∧ rC (gV0 L xs z) (gI3 I) s ∧ rR (gI3 I) s ∧ rT (gI3 I) s ∧ wMad s = 0 ∧ wGst s = 0 := by
  have n1 : ∀ c q, (c < 234 ∨ 354 ≤ c) → I c q = gI1 c q := fun c q h => hI c q (fun g => by unfold gSp at g; omega)
  have i0 : ∀ c q, c < 234 → gI3 I c q = gI1 c q := fun c q h => (gI3_off (by omega)).trans (n1 c q (Or.inl h))
  have i1 : ∀ c q, 355 ≤ c → gI3 I c q = 0 := fun c q h => (gI3_off (by omega)).trans ((n1 c q (Or.inr (by omega))).trans (gI1_off (by omega)))
  have i2 : ∀ q, I 354 q = 0 := fun q => (n1 354 q (Or.inr (by omega))).trans (gI1_off (by omega))
  have i3 : ∀ q, (q = 0 ∨ q = 15 ∨ q = 16 ∨ q = 36) → gI3 I 354 q = 0 := fun q h => by unfold gI3; simp (disch := omega) only [z2_off, i2]
  have i4 : ∀ a, a < 12 → ∀ q, (q = 0 ∨ q = 9 ∨ q = 10) ∨ gI3 I (234 + 10 * a) q = 0 := fun a ha q => by
    by_cases hq : q = 0 ∨ q = 9 ∨ q = 10
    · exact Or.inl hq
    · exact Or.inr ((gI3_off (by omega)).trans ((hI _ _ (fun g => by unfold gSp at g; omega)).trans (gI1_off (by omega))))
  have i5 : ∀ a, a < 12 → ∀ r, (1 ≤ r ∧ r ≤ 3) → ∀ q, gI3 I (234 + 10 * a + r) q = 0 := fun a ha r hr q => (gI3_off (by omega)).trans ((hI _ _ (fun g => by unfold gSp at g; omega)).trans (gI1_off (by omega)))
  have i6 : ∀ a, a < 12 → ∀ q, gI3 I (234 + 10 * a) q = I (234 + 10 * a) q := fun a ha q => gI3_off (by omega)
  have i7 : ∀ a, a < 12 → ∀ q, gI3 I (234 + 10 * a + 4) q = I (234 + 10 * a + 4) q := fun a ha q => gI3_off (by omega)
  have sE : ∀ (c q : Nat), c < 999 → (fun c q => if c = 999 then (0 : Int32) else gI3 I c q) c q = gI3 I c q := fun c q h => if_neg (by omega)
  have hz : ∀ c q, 355 ≤ c → (fun c q => if c = 999 then (0 : Int32) else gI3 I c q) c q = 0 := fun c q h => by
    by_cases hc : c = 999
    · exact if_pos hc
    · exact (if_neg hc).trans (i1 c q h)
  generalize hs : (fun c q => if c = 999 then (0 : Int32) else gI3 I c q) = s at sE hz
  have g11 : gI3 I 354 11 = nI 6 := rfl
  have g : g0 s := ⟨(sE _ _ (by omega)).trans (i3 _ (by omega)), (sE _ _ (by omega)).trans g11, (sE _ _ (by omega)).trans (i3 _ (by omega)), (sE _ _ (by omega)).trans (i3 _ (by omega)), (sE _ _ (by omega)).trans (i3 _ (by omega)), hz⟩
  have a1 := g.mny
  have zz : ∀ c q, 355 ≤ c → s c q = nI 0 := fun c q hc => (hz c q hc).trans z_nI.symm
  have tr : ∀ c q c2 q2, c2 < 999 → gI3 I c q = gI3 I c2 q2 → gI3 I c q = s c2 q2 := fun c q c2 q2 h e => e.trans (sE c2 q2 h).symm
  have tz : ∀ c q c2 q2, 355 ≤ c2 → gI3 I c q = 0 → gI3 I c q = s c2 q2 := fun c q c2 q2 h e => e.trans (hz c2 q2 h).symm
  refine ⟨s, g.w, ⟨?_, ?_, ?_, ?_, ?_, ?_⟩, ?_, ?_, g.mad, g.gst⟩
  · refine ⟨by rw [a1]; exact (i0 _ _ (by omega)).trans (by decide), ⟨by rw [g.lst]; exact (i0 _ _ (by omega)).trans (by decide), tr _ _ _ _ (by omega) ((i0 _ _ (by omega)).trans (Eq.trans (by decide) (rfl : nI 10 = gI3 I 354 12))), tr _ _ _ _ (by omega) ((i0 _ _ (by omega)).trans (Eq.trans (by decide) (rfl : nI 3000 = gI3 I 354 13))), tr _ _ _ _ (by omega) ((i0 _ _ (by omega)).trans (Eq.trans (by decide) (rfl : nI 3 = gI3 I 354 14)))⟩, ⟨tr _ _ _ _ (by omega) ((i0 _ _ (by omega)).trans (Eq.trans (by decide) (rfl : wM1 = gI3 I 354 30))), tr _ _ _ _ (by omega) ((i0 _ _ (by omega)).trans (Eq.trans (by decide) (rfl : wM1 = gI3 I 354 31)))⟩, tr _ _ _ _ (by omega) ((i0 _ _ (by omega)).trans (Eq.trans (by decide) (rfl : wM1 = gI3 I 354 50))), tr _ _ _ _ (by omega) ((i0 _ _ (by omega)).trans (Eq.trans (by decide) (rfl : wM1 = gI3 I 354 51))), tr _ _ _ _ (by omega) ((i0 _ _ (by omega)).trans (Eq.trans (by decide) (rfl : wM1 = gI3 I 354 52))), tr _ _ _ _ (by omega) ((i0 _ _ (by omega)).trans (Eq.trans (by decide) (rfl : wM1 = gI3 I 354 53)))⟩
  · refine ⟨fun a ha => ⟨(i6 a ha _).trans (hD a ha).2.2.2.2.1, ?_, ?_⟩, fun a ha => absurd ha (by omega), fun a _ ha => ⟨(i6 a ha _).trans (hD a ha).2.2.2.2.2.1, (i6 a ha _).trans (hD a ha).2.2.2.2.2.2.1⟩, fun a i ha hi => ⟨?_, ?_, ?_⟩, fun a i ha => absurd ha (by omega), fun a i ha hi _ => ⟨(i7 a ha _).trans ((hD a ha).2.2.2.2.2.2.2 i hi), hz _ _ (by omega)⟩⟩
    · rw [g.stp a, z_nI]; exact (i4 a ha 7).resolve_left (by omega)
    · exact tz _ _ _ _ (by omega) ((i4 a ha 8).resolve_left (by omega))
    · rw [g.dr, z_nI]; exact i5 a ha 1 (by omega) i
    · rw [g.ln, z_nI]; exact i5 a ha 2 (by omega) i
    · exact tz _ _ _ _ (by omega) (i5 a ha 3 (by omega) i)
  · refine ⟨fun k hk _ => (i0 _ _ (by omega)).trans (gI1_off (by omega)), fun k _ hk => absurd hk (g.isj k), ?_, fun _ => 0, 0, ?_, Nat.zero_le _, fun k _ hk => absurd hk (g.isj k), fun k l _ _ hk => absurd hk (g.isj k)⟩
    · rw [g.cnt, z_nI]; exact (i0 _ _ (by omega)).trans (gI1_off (by omega))
    · rw [z_nI]; exact (i0 _ _ (by omega)).trans (gI1_off (by omega))
  · refine ⟨fun a ha => absurd ha (by omega), ?_⟩
    rw [a1]; show _ = nI 0; rw [z_nI]; exact (i0 _ _ (by omega)).trans (gI1_off (by omega))
  · refine ⟨?_, fun k hk => absurd hk (by rw [g.tld]; omega)⟩
    rw [g.tld, z_nI]; exact (i0 _ _ (by omega)).trans (gI1_off (by omega))
  · refine ⟨fun k hk => ?_, fun k l _ _ e => ?_, fun k hk => ?_, fun k l _ _ e => ?_⟩
    · show 58 ≤ 58 + k ∧ 58 + k < 108; omega
    · have e2 : 58 + k = 58 + l := e; omega
    · show 110 ≤ 110 + k ∧ 110 + k < 230; omega
    · have e2 : 110 + k = 110 + l := e; omega
  · refine ⟨⟨by rw [a1, z_nI]; exact i3 _ (by omega), by rw [g.lst]; rfl, (sE _ _ (by omega)).symm, (sE _ _ (by omega)).symm, (sE _ _ (by omega)).symm, by rw [g.cnt, z_nI]; exact i3 _ (by omega), by rw [g.mad, z_nI]; exact i3 _ (by omega), (sE _ _ (by omega)).symm, (sE _ _ (by omega)).symm, (sE _ _ (by omega)).symm, (sE _ _ (by omega)).symm, (sE _ _ (by omega)).symm, (sE _ _ (by omega)).symm⟩, fun a ha => absurd ha (by omega), fun a _ => ⟨by rw [g.stp a, z_nI]; exact i1 _ _ (by omega), (sE _ _ (by omega)).symm⟩, fun k _ => ⟨by rw [g.dr, z_nI]; exact i1 _ _ (by omega), by rw [g.ln, z_nI]; exact i1 _ _ (by omega), (sE _ _ (by omega)).symm, (sE _ _ (by omega)).symm, (sE _ _ (by omega)).symm⟩, fun k _ => (sE _ _ (by omega)).symm, fun k _ hk => absurd hk (g.isj k)⟩
  · refine ⟨by rw [g.tld, z_nI]; exact i3 _ (by omega), fun k hk => absurd hk (by rw [g.tld]; omega)⟩
theorem law_start (hn : 2000 ≤ n) : ∃ z0 I s, z0 ≤ 100000 ∧ wW s ∧ rC (gV0 L xs z0) I s ∧ rR I s ∧ rT I s ∧ wMad s = 0 ∧ wGst s = 0 ∧ (p198_23 n n 1000008 0 354 387 0 (wm (gV0 L xs z0) I) → p198_3 n 1000008 0 (zNew (zM0 L xs) (0, 9) (zNf 9))) ∧ b198_3 n 1000008 0 (zNew (zM0 L xs) (0, 9) (zNf 9)) = b198_23 n n 1000008 0 354 387 0 (wm (gV0 L xs z0) I) := by
  have e0 : zNew (zM0 L xs) (0, 9) (zNf 9) = gm L xs 1 (0 + zNf 9) gS0 gI0 := by rw [gm0]; exact gN_0 (fun _ => rfl) (fun _ => rfl)
  rw [e0]
  obtain ⟨p1, S2, I2, e1, u1, u2, u3, u4⟩ := G61 (n := n) (L := L) (xs := xs) (z := 0 + zNf 9) hn
  have hI2 : ∀ b i, 354 ≤ b → I2 b i = 0 := fun b i h => (u4 b i (fun g => by unfold gSp at g; omega)).trans (gI1_off (by omega))
  obtain ⟨s, w1, w2, w3, w4, w5, w6⟩ := g_start (L := L) (xs := xs) (z := (0 + zNf 9 + 12 + 12 + 12 + zNf 2 + 40 + 40 * zNf 1 + zNf 3 + 60 + zNf 0 + 720 + zNf 8 + 50 + 50 * zNf 7 + zNf 8 + 120 + 120 * zNf 7 + zNf 7 + zNf 7 + zNf 5 + 3) + 12 * (zNf 6 + 100 + zNf 4 + 63) + zNf 10 + 4475 + 1) u3 u4
  have e2 : zNew (gm L xs 354 ((0 + zNf 9 + 12 + 12 + 12 + zNf 2 + 40 + 40 * zNf 1 + zNf 3 + 60 + zNf 0 + 720 + zNf 8 + 50 + 50 * zNf 7 + zNf 8 + 120 + 120 * zNf 7 + zNf 7 + zNf 7 + zNf 5 + 3) + 12 * (zNf 6 + 100 + zNf 4 + 63)) S2 I2) (0, 10) (zNf 10) = gm L xs 355 ((0 + zNf 9 + 12 + 12 + 12 + zNf 2 + 40 + 40 * zNf 1 + zNf 3 + 60 + zNf 0 + 720 + zNf 8 + 50 + 50 * zNf 7 + zNf 8 + 120 + 120 * zNf 7 + zNf 7 + zNf 7 + zNf 5 + 3) + 12 * (zNf 6 + 100 + zNf 4 + 63) + zNf 10) S2 I2 := gN_354 (fun i => hI2 _ _ (by omega)) (fun j => u2 _ _ (by omega))
  obtain ⟨p2, e3⟩ := G117 (n := n) (L := L) (xs := xs) (z := (0 + zNf 9 + 12 + 12 + 12 + zNf 2 + 40 + 40 * zNf 1 + zNf 3 + 60 + zNf 0 + 720 + zNf 8 + 50 + 50 * zNf 7 + zNf 8 + 120 + 120 * zNf 7 + zNf 7 + zNf 7 + zNf 5 + 3) + 12 * (zNf 6 + 100 + zNf 4 + 63) + zNf 10) u2 hI2
  have e4 : zNew (gm L xs 387 ((0 + zNf 9 + 12 + 12 + 12 + zNf 2 + 40 + 40 * zNf 1 + zNf 3 + 60 + zNf 0 + 720 + zNf 8 + 50 + 50 * zNf 7 + zNf 8 + 120 + 120 * zNf 7 + zNf 7 + zNf 7 + zNf 5 + 3) + 12 * (zNf 6 + 100 + zNf 4 + 63) + zNf 10 + 4475) (gS3 S2) (gI3 I2)) (3, 1) 1 = gm L xs 388 ((0 + zNf 9 + 12 + 12 + 12 + zNf 2 + 40 + 40 * zNf 1 + zNf 3 + 60 + zNf 0 + 720 + zNf 8 + 50 + 50 * zNf 7 + zNf 8 + 120 + 120 * zNf 7 + zNf 7 + zNf 7 + zNf 5 + 3) + 12 * (zNf 6 + 100 + zNf 4 + 63) + zNf 10 + 4475 + 1) (gS3 S2) (gI3 I2) := gN_387 (fun i => (gI3_off (by omega)).trans (hI2 _ _ (by omega))) (fun j => (gS3_off (by omega)).trans (u2 _ _ (by omega)))
  rw [gm388 (g_all u1 u3)] at e4
  have t1 : (1 : Int32).toNatClampNeg = 1 := by decide
  have t2 : (1 : Int32) = nI 1 := by decide
  refine ⟨_, _, s, ?_, w1, w2, w3, w4, w5, w6, fun hp => ?_, ?_⟩
  · decide
  · refine ⟨p1, ?_⟩
    rw [e1]
    refine ⟨gm_okM (by omega), ?_⟩
    rw [e2, gm_N]
    refine ⟨p2, ?_⟩
    rw [e3]
    refine ⟨by rw [t2]; exact gm_okW (by omega) (by omega), ?_⟩
    rw [t1, gm_N]
    refine cast (congrArg (p198_19 n 1000008 0 354 387) e4.symm) hp
  · show b198_7 n 1000008 0 (b61_0 n 0 (gm L xs 1 (0 + zNf 9) gS0 gI0)) = _
    rw [e1]
    unfold b198_7
    rw [e2, gm_N]
    unfold b198_11
    rw [e3]
    unfold b198_15
    rw [t1, gm_N]
    exact congrArg (b198_19 n 1000008 0 354 387) e4
end GZ
