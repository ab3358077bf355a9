/-! Joins in the class's book against the numbers; the reference's holds, joins, takeAway. -/
def sTry (s : wG) : wG := z2 s 999 0 (nI (wGst s + 1))
section JC
variable {V : wV} {I : Nat → Nat → Int32} {s : wG} {n k : Nat} {x : wSp} {h v : Int32}
theorem rJ.add {I2 : Nat → Nat → Int32} {ls : Nat} (hW : wW s) (hJ : rJ V I s) (hk : k < 40) (hk0 : s 365 k = 0) (hx : wXok s x) (hm : wMad s < 1000000) (hg : wGst s < 100000000) (l1 : I 4 2 = nI ls) (l2 : ls ≤ wGst s) (p1 : wPa I2 (6 + k) s x) (p2 : I2 (6 + k) 8 = h) (p3 : I2 (6 + k) 9 = nI (ls + 1)) (p4 : I2 4 1 = nI (wCnt s 40 + 1)) (p5 : I2 4 2 = nI (ls + 1)) (p6 : ∀ c q, 6 ≤ c → c < 46 → c ≠ 6 + k → I2 c q = I c q) : rJ V I2 (sAdd s k x h) := by
  obtain ⟨n1, n2, n3, n4, n5, n6, n7⟩ := sA_new (k := k) (h := h) hx hW hm
  have hgs := hW.gst1
  refine ⟨?_, ?_, ?_, ?_⟩
  · intro q hq h0
    by_cases e : q = k
    · subst e; rw [sA_k (by omega), if_pos rfl] at h0; exact absurd h0 (by decide)
    · rw [sA_off (by omega)] at h0
      rw [p6 _ _ (by omega) (by omega) (by omega)]; exact hJ.jf hq h0
  · intro q hq hj
    rw [sA_stp, sA_stp]
    by_cases e : q = k
    · subst e
      rw [n1, n2, n3, n4, n5, n6, sA_k (by omega)]
      obtain ⟨a0, a1, a2, a3, a4, a5, a6, a7⟩ := p1
      exact ⟨a0, a1, a2, a3, a4, a5, a6, a7, p2⟩
    · obtain ⟨o1, o2, o3, o4, o5, o6, o7⟩ := sA_old (s := s) (x := x) (h := h) e
      rw [sA_off (by omega)] at hj
      have e2 : ∀ r, I2 (6 + q) r = I (6 + q) r := fun r => p6 _ _ (by omega) (by omega) (by omega)
      rw [o1, o2, o3, o4, o5, o6, sA_off (by omega)]
      simp only [e2]
      exact hJ.2.1 q hq hj
  · rw [wCnt_add hk0, if_pos hk]; exact p4
  · obtain ⟨st, ls', m1, m2, m3, m4⟩ := hJ.stm
    have els : ls' = ls := by
      have := m1.symm.trans l1
      rwa [kI_eq (by omega) (by omega)] at this
    subst els
    rw [sA_gst hg]
    refine ⟨fun q => if q = k then ls' + 1 else st q, ls' + 1, p5, by omega, ?_, ?_⟩
    · intro q hq hj
      by_cases e : q = k
      · subst e; show _ = nI (if q = q then ls' + 1 else st q) ∧ 1 ≤ (if q = q then ls' + 1 else st q) ∧ (if q = q then ls' + 1 else st q) ≤ ls' + 1
        rw [if_pos rfl]; exact ⟨p3, by omega, by omega⟩
      · show _ = nI (if q = k then ls' + 1 else st q) ∧ 1 ≤ (if q = k then ls' + 1 else st q) ∧ (if q = k then ls' + 1 else st q) ≤ ls' + 1
        rw [if_neg e, p6 _ _ (by omega) (by omega) (by omega)]
        rw [sA_off (by omega)] at hj
        have := m3 q hq hj
        exact ⟨this.1, this.2.1, by omega⟩
    · intro q r hq hr hj1 hj2
      show (if q = k then ls' + 1 else st q) < (if r = k then ls' + 1 else st r) ↔ _
      by_cases e : q = k
      · by_cases e2 : r = k
        · subst e; subst e2; constructor <;> (intro h9; omega)
        · rw [if_pos e, if_neg e2, e, n7, (sA_old (s := s) (x := x) (h := h) e2).2.2.2.2.2.2]
          rw [sA_off (by omega)] at hj2
          have g1 := m3 r hr hj2
          have g2 := hW.whn2 hr hj2
          omega
      · rw [if_neg e, (sA_old (s := s) (x := x) (h := h) e).2.2.2.2.2.2]
        rw [sA_off (by omega)] at hj1
        by_cases e2 : r = k
        · rw [if_pos e2, e2, n7]
          have g1 := m3 q hq hj1
          have g2 := hW.whn2 hq hj1
          omega
        · rw [if_neg e2, (sA_old (s := s) (x := x) (h := h) e2).2.2.2.2.2.2]
          rw [sA_off (by omega)] at hj2
          exact m4 q r hq hr hj1 hj2
theorem rJ.del {I2 : Nat → Nat → Int32} (hW : wW s) (hJ : rJ V I s) (hk : k < 40) (hj : s 365 k = 1) (p3 : I2 (6 + k) 9 = nI 0) (p4 : I2 4 1 = nI (wCnt s 40 - 1)) (p6 : ∀ c q, 4 ≤ c → c < 46 → ¬ (c = 4 ∧ q = 1) → ¬ (c = 6 + k ∧ q = 9) → I2 c q = I c q) : rJ V I2 (sDel s k) := by
  have hc := wCnt_del (s := s) hj 40
  rw [if_pos hk] at hc
  have ew : ∀ q, wWhn (sDel s k) q = wWhn s q := fun q => by unfold wWhn; rw [sD_off (by omega)]
  have eg : wGst (sDel s k) = wGst s := by unfold wGst; rw [sD_off (by omega)]
  refine ⟨?_, ?_, ?_, ?_⟩
  · intro q hq h0
    by_cases e : q = k
    · subst e; exact p3
    · rw [sD_off (by omega)] at h0
      rw [p6 _ _ (by omega) (by omega) (by omega) (by omega)]; exact hJ.jf hq h0
  · intro q hq hj2
    obtain ⟨e, hj3⟩ := sD_one hj2
    have e2 : ∀ r, I2 (6 + q) r = I (6 + q) r := fun r => p6 _ _ (by omega) (by omega) (by omega) (by omega)
    have g := hJ.2.1 q hq hj3
    rw [sD_stp, sD_stp, sD_off (by omega)]
    simp only [e2]
    simpa (disch := omega) only [wJA, wJI, wJB, wJJ, wJT, wJN, sD_off] using g
  · rw [p4]; congr 1; omega
  · obtain ⟨st, ls', m1, m2, m3, m4⟩ := hJ.stm
    rw [eg]
    refine ⟨st, ls', by rw [p6 _ _ (by omega) (by omega) (by omega) (by omega)]; exact m1, m2, ?_, ?_⟩
    · intro q hq hj2
      obtain ⟨e, hj3⟩ := sD_one hj2
      rw [p6 _ _ (by omega) (by omega) (by omega) (by omega)]
      exact m3 q hq hj3
    · intro q r hq hr h1 h2
      rw [ew, ew]
      exact m4 q r hq hr (sD_one h1).2 (sD_one h2).2
theorem sTry_gst (hg : wGst s < 100000000) : wGst (sTry s) = wGst s + 1 := by
  have : sTry s 999 0 = nI (wGst s + 1) := z2_hit ⟨rfl, rfl⟩
  generalize wGst s = m at *
  unfold wGst; rw [this, tcl (by omega)]
theorem sT_off {c q : Nat} (h : ¬ (c = 999 ∧ q = 0)) : sTry s c q = s c q := z2_off h
theorem sTry_w (hW : wW s) (hg : wGst s < 100000000) : wW (sTry s) := by
  have sT_cnt : wCnt (sTry s) 40 = wCnt s 40 := wCnt_cg (fun q _ => sT_off (by omega)) 40 (Nat.le_refl _)
  refine ⟨?_, ?_, ?_, ?_, ?_, ?_, ?_, ?_, ?_, ?_, ?_, ?_, ?_, ?_, ?_, ?_, ?_, ?_, ?_, ?_, ?_, ?_, ?_⟩
  · have h := hW.1; simpa (disch := omega) only [wMny, wKnd, wStp, wDr, wLn, wJA, wJI, wJB, wJJ, wJT, wJN, wMad, wWhn, wLst, wTld, sT_cnt, sT_off] using h
  · have h := hW.2.1; simpa (disch := omega) only [wMny, wKnd, wStp, wDr, wLn, wJA, wJI, wJB, wJJ, wJT, wJN, wMad, wWhn, wLst, wTld, sT_cnt, sT_off] using h
  · have h := hW.2.2.1; simpa (disch := omega) only [wMny, wKnd, wStp, wDr, wLn, wJA, wJI, wJB, wJJ, wJT, wJN, wMad, wWhn, wLst, wTld, sT_cnt, sT_off] using h
  · have h := hW.2.2.2.1; simpa (disch := omega) only [wMny, wKnd, wStp, wDr, wLn, wJA, wJI, wJB, wJJ, wJT, wJN, wMad, wWhn, wLst, wTld, sT_cnt, sT_off] using h
  · have h := hW.2.2.2.2.1; simpa (disch := omega) only [wMny, wKnd, wStp, wDr, wLn, wJA, wJI, wJB, wJJ, wJT, wJN, wMad, wWhn, wLst, wTld, sT_cnt, sT_off] using h
  · have h := hW.2.2.2.2.2.1; simpa (disch := omega) only [wMny, wKnd, wStp, wDr, wLn, wJA, wJI, wJB, wJJ, wJT, wJN, wMad, wWhn, wLst, wTld, sT_cnt, sT_off] using h
  · have h := hW.2.2.2.2.2.2.1; simpa (disch := omega) only [wMny, wKnd, wStp, wDr, wLn, wJA, wJI, wJB, wJJ, wJT, wJN, wMad, wWhn, wLst, wTld, sT_cnt, sT_off] using h
  · have h := hW.2.2.2.2.2.2.2.1; simpa (disch := omega) only [wMny, wKnd, wStp, wDr, wLn, wJA, wJI, wJB, wJJ, wJT, wJN, wMad, wWhn, wLst, wTld, sT_cnt, sT_off] using h
  · have h := hW.2.2.2.2.2.2.2.2.1; simpa (disch := omega) only [wMny, wKnd, wStp, wDr, wLn, wJA, wJI, wJB, wJJ, wJT, wJN, wMad, wWhn, wLst, wTld, sT_cnt, sT_off] using h
  · have h := hW.2.2.2.2.2.2.2.2.2.1; simpa (disch := omega) only [wMny, wKnd, wStp, wDr, wLn, wJA, wJI, wJB, wJJ, wJT, wJN, wMad, wWhn, wLst, wTld, sT_cnt, sT_off] using h
  · have h := hW.2.2.2.2.2.2.2.2.2.2.1; simpa (disch := omega) only [wMny, wKnd, wStp, wDr, wLn, wJA, wJI, wJB, wJJ, wJT, wJN, wMad, wWhn, wLst, wTld, sT_cnt, sT_off] using h
  · have h := hW.2.2.2.2.2.2.2.2.2.2.2.1; simpa (disch := omega) only [wMny, wKnd, wStp, wDr, wLn, wJA, wJI, wJB, wJJ, wJT, wJN, wMad, wWhn, wLst, wTld, sT_cnt, sT_off] using h
  · have h := hW.2.2.2.2.2.2.2.2.2.2.2.2.1; simpa (disch := omega) only [wMny, wKnd, wStp, wDr, wLn, wJA, wJI, wJB, wJJ, wJT, wJN, wMad, wWhn, wLst, wTld, sT_cnt, sT_off] using h
  · have h := hW.2.2.2.2.2.2.2.2.2.2.2.2.2.1; simpa (disch := omega) only [wMny, wKnd, wStp, wDr, wLn, wJA, wJI, wJB, wJJ, wJT, wJN, wMad, wWhn, wLst, wTld, sT_cnt, sT_off] using h
  · have h := hW.2.2.2.2.2.2.2.2.2.2.2.2.2.2.1; simpa (disch := omega) only [wMny, wKnd, wStp, wDr, wLn, wJA, wJI, wJB, wJJ, wJT, wJN, wMad, wWhn, wLst, wTld, sT_cnt, sT_off] using h
  · have h := hW.2.2.2.2.2.2.2.2.2.2.2.2.2.2.2.1; simpa (disch := omega) only [wMny, wKnd, wStp, wDr, wLn, wJA, wJI, wJB, wJJ, wJT, wJN, wMad, wWhn, wLst, wTld, sT_cnt, sT_off] using h
  · have h := hW.2.2.2.2.2.2.2.2.2.2.2.2.2.2.2.2.1; simpa (disch := omega) only [wMny, wKnd, wStp, wDr, wLn, wJA, wJI, wJB, wJJ, wJT, wJN, wMad, wWhn, wLst, wTld, sT_cnt, sT_off] using h
  · have h := hW.2.2.2.2.2.2.2.2.2.2.2.2.2.2.2.2.2.1; simpa (disch := omega) only [wMny, wKnd, wStp, wDr, wLn, wJA, wJI, wJB, wJJ, wJT, wJN, wMad, wWhn, wLst, wTld, sT_cnt, sT_off] using h
  · have h := hW.2.2.2.2.2.2.2.2.2.2.2.2.2.2.2.2.2.2.1; simpa (disch := omega) only [wMny, wKnd, wStp, wDr, wLn, wJA, wJI, wJB, wJJ, wJT, wJN, wMad, wWhn, wLst, wTld, sT_cnt, sT_off] using h
  · have h := hW.2.2.2.2.2.2.2.2.2.2.2.2.2.2.2.2.2.2.2.1; simpa (disch := omega) only [wMny, wKnd, wStp, wDr, wLn, wJA, wJI, wJB, wJJ, wJT, wJN, wMad, wWhn, wLst, wTld, sT_cnt, sT_off] using h
  · have h := hW.2.2.2.2.2.2.2.2.2.2.2.2.2.2.2.2.2.2.2.2.1; simpa (disch := omega) only [wMny, wKnd, wStp, wDr, wLn, wJA, wJI, wJB, wJJ, wJT, wJN, wMad, wWhn, wLst, wTld, sT_cnt, sT_off] using h
  · rw [sTry_gst hg]; exact ⟨z2_hit ⟨rfl, rfl⟩, by omega⟩
  · have h := hW.2.2.2.2.2.2.2.2.2.2.2.2.2.2.2.2.2.2.2.2.2.2; simpa (disch := omega) only [wMny, wKnd, wStp, wDr, wLn, wJA, wJI, wJB, wJJ, wJT, wJN, wMad, wWhn, wLst, wTld, sT_cnt, sT_off] using h
/-- a stamp that was given for nothing -/
theorem rJ.tried {I2 : Nat → Nat → Int32} {ls : Nat} (hW : wW s) (hJ : rJ V I s) (hk : k < 40) (hk0 : s 365 k = 0) (hg : wGst s < 100000000) (l1 : I 4 2 = nI ls) (l2 : ls ≤ wGst s) (p3 : I2 (6 + k) 9 = nI 0) (p4 : I2 4 1 = nI (wCnt s 40)) (p5 : I2 4 2 = nI (ls + 1)) (p6 : ∀ c q, 6 ≤ c → c < 46 → c ≠ 6 + k → I2 c q = I c q) : rJ V I2 (sTry s) := by
  have hgs := hW.gst1
  have es : ∀ c q, c ≠ 999 → sTry s c q = s c q := fun c q h => sT_off (by omega)
  refine ⟨?_, ?_, ?_, ?_⟩
  · intro q hq h0
    rw [es _ _ (by omega)] at h0
    by_cases e : q = k
    · subst e; exact p3
    · rw [p6 _ _ (by omega) (by omega) (by omega)]; exact hJ.jf hq h0
  · intro q hq hj
    rw [es _ _ (by omega)] at hj
    have e : q ≠ k := fun e => by subst e; rw [hk0] at hj; exact absurd hj (by decide)
    have e2 : ∀ r, I2 (6 + q) r = I (6 + q) r := fun r => p6 _ _ (by omega) (by omega) (by omega)
    have g := hJ.2.1 q hq hj
    simp only [e2]
    simpa (disch := omega) only [wJA, wJI, wJB, wJJ, wJT, wJN, wStp, es] using g
  · have : wCnt (sTry s) 40 = wCnt s 40 := wCnt_cg (fun q _ => es _ _ (by omega)) 40 (Nat.le_refl _)
    rw [this]; exact p4
  · obtain ⟨st, ls', m1, m2, m3, m4⟩ := hJ.stm
    have els : ls' = ls := by
      have := m1.symm.trans l1
      rwa [kI_eq (by omega) (by omega)] at this
    subst els
    have ew : ∀ q, wWhn (sTry s) q = wWhn s q := fun q => by unfold wWhn; rw [es _ _ (by omega)]
    rw [sTry_gst hg]
    refine ⟨st, ls' + 1, p5, by omega, ?_, ?_⟩
    · intro q hq hj
      rw [es _ _ (by omega)] at hj
      have e : q ≠ k := fun e => by subst e; rw [hk0] at hj; exact absurd hj (by decide)
      rw [p6 _ _ (by omega) (by omega) (by omega)]
      have := m3 q hq hj
      exact ⟨this.1, this.2.1, by omega⟩
    · intro q r hq hr h1 h2
      rw [es _ _ (by omega)] at h1 h2
      rw [ew, ew]
      exact m4 q r hq hr h1 h2
end JC
