/-! A join made, a join struck: the numbers. -/
/-- is the step q among the first p pairs of x -/
def wOn (s : wG) (x : wSp) : Nat → Nat → Bool
  | 0, _ => false
  | p + 1, q => wOn s x p q || decide (q = 20 * spA x + (spI x + p) % wStp s (spA x)) || decide (q = 20 * spB x + (spJ x + wStp s (spB x) - p) % wStp s (spB x))
def wXok (s : wG) (x : wSp) : Prop := spA x < spB x ∧ spB x < wMny s ∧ spI x < wStp s (spA x) ∧ spJ x < wStp s (spB x) ∧ spT x < 24 ∧ 1 ≤ spN x ∧ spN x ≤ wStp s (spA x) ∧ spN x ≤ wStp s (spB x) ∧ s 357 (spA x) = 1 ∧ s 357 (spB x) = 1
def jx (s : wG) (k : Nat) : wSp := (wJA s k, wJI s k, wJB s k, wJJ s k, wJT s k, wJN s k, 0, 0)
def sAdd (s : wG) (k : Nat) (x : wSp) (h : Int32) : wG := fun c q =>
  if c = 364 then (if wOn s x (spN x) q then nI k else s 364 q)
  else if q = k ∧ 365 ≤ c ∧ c ≤ 373 then (if c = 365 then nI 1 else if c = 366 then nI (spA x) else if c = 367 then nI (spI x) else if c = 368 then nI (spB x) else if c = 369 then nI (spJ x) else if c = 370 then nI (spT x) else if c = 371 then nI (spN x) else if c = 372 then h else nI (wMad s + 1))
  else if c = 354 ∧ q = 15 then nI (wCnt s 40 + 1) else if c = 354 ∧ q = 16 then nI (wMad s + 1) else if c = 999 ∧ q = 0 then nI (wGst s + 1) else s c q
def sDel (s : wG) (k : Nat) : wG := fun c q =>
  if c = 364 then (if wOn s (jx s k) (wJN s k) q then wM1 else s 364 q)
  else if c = 365 ∧ q = k then nI 0 else if c = 354 ∧ q = 15 then nI (wCnt s 40 - 1) else s c q
section JA
variable {s : wG} {k : Nat} {x : wSp} {h : Int32}
theorem sA_off {c q : Nat} (hc : ¬ (c = 364 ∨ (q = k ∧ 365 ≤ c ∧ c ≤ 373) ∨ (c = 354 ∧ (q = 15 ∨ q = 16)) ∨ (c = 999 ∧ q = 0))) : sAdd s k x h c q = s c q := by
  unfold sAdd; rw [if_neg (by omega), if_neg (by omega), if_neg (by omega), if_neg (by omega), if_neg (by omega)]
theorem sA_364 {q : Nat} : sAdd s k x h 364 q = if wOn s x (spN x) q then nI k else s 364 q := rfl
theorem sA_k {c : Nat} (hc : 365 ≤ c ∧ c ≤ 373) : sAdd s k x h c k = if c = 365 then nI 1 else if c = 366 then nI (spA x) else if c = 367 then nI (spI x) else if c = 368 then nI (spB x) else if c = 369 then nI (spJ x) else if c = 370 then nI (spT x) else if c = 371 then nI (spN x) else if c = 372 then h else nI (wMad s + 1) := by
  unfold sAdd; rw [if_neg (by omega), if_pos ⟨rfl, hc⟩]
theorem sA_15 : sAdd s k x h 354 15 = nI (wCnt s 40 + 1) := by
  unfold sAdd; rw [if_neg (by omega), if_neg (by omega), if_pos ⟨rfl, rfl⟩]
theorem sA_16 : sAdd s k x h 354 16 = nI (wMad s + 1) := by
  unfold sAdd; rw [if_neg (by omega), if_neg (by omega), if_neg (by omega), if_pos ⟨rfl, rfl⟩]
theorem sA_gh : sAdd s k x h 999 0 = nI (wGst s + 1) := by
  unfold sAdd; rw [if_neg (by omega), if_neg (by omega), if_neg (by omega), if_neg (by omega), if_pos ⟨rfl, rfl⟩]
theorem sD_off {c q : Nat} (hc : ¬ (c = 364 ∨ (c = 365 ∧ q = k) ∨ (c = 354 ∧ q = 15))) : sDel s k c q = s c q := by
  unfold sDel; rw [if_neg (by omega), if_neg (by omega), if_neg (by omega)]
theorem sD_365 : sDel s k 365 k = nI 0 := by
  unfold sDel; rw [if_neg (by omega), if_pos ⟨rfl, rfl⟩]
theorem sD_15 : sDel s k 354 15 = nI (wCnt s 40 - 1) := by
  unfold sDel; rw [if_neg (by omega), if_neg (by omega), if_pos ⟨rfl, rfl⟩]
theorem wCnt_le (s : wG) : ∀ m, wCnt s m ≤ m
  | 0 => Nat.le_refl _
  | m + 1 => by have := wCnt_le s m; rw [wCnt]; split <;> omega
theorem wCnt_add (hk0 : s 365 k = 0) : ∀ m, wCnt (sAdd s k x h) m = wCnt s m + (if k < m then 1 else 0)
  | 0 => by rw [if_neg (Nat.not_lt_zero _)]; rfl
  | m + 1 => by
    rw [wCnt, wCnt, wCnt_add hk0 m]
    by_cases e : m = k
    · subst e
      rw [sA_k (by omega), if_pos rfl, hk0]
      show wCnt s m + (if m < m then 1 else 0) + 1 = wCnt s m + 0 + (if m < m + 1 then 1 else 0)
      rw [if_neg (Nat.lt_irrefl _), if_pos (by omega)]
    · rw [sA_off (by omega)]
      by_cases h1 : k < m
      · rw [if_pos h1, if_pos (show k < m + 1 by omega)]; omega
      · rw [if_neg h1, if_neg (show ¬ k < m + 1 by omega)]; omega
theorem wCnt_del (hk1 : s 365 k = 1) : ∀ m, wCnt (sDel s k) m + (if k < m then 1 else 0) = wCnt s m
  | 0 => by rw [if_neg (Nat.not_lt_zero _)]; rfl
  | m + 1 => by
    have ih := wCnt_del hk1 m
    rw [wCnt, wCnt]
    by_cases e : m = k
    · subst e
      rw [sD_365, if_neg (by decide), hk1, if_pos rfl, if_pos (by omega)]
      rw [if_neg (Nat.lt_irrefl _)] at ih
      omega
    · rw [sD_off (by omega)]
      by_cases h1 : k < m
      · rw [if_pos h1] at ih; rw [if_pos (show k < m + 1 by omega)]; omega
      · rw [if_neg h1] at ih; rw [if_neg (show ¬ k < m + 1 by omega)]; omega
theorem sA_mny : wMny (sAdd s k x h) = wMny s := by unfold wMny; rw [sA_off (by omega)]
theorem sA_knd (q : Nat) : wKnd (sAdd s k x h) q = wKnd s q := by unfold wKnd; rw [sA_off (by omega)]
theorem sA_stp (q : Nat) : wStp (sAdd s k x h) q = wStp s q := by unfold wStp; rw [sA_off (by omega)]
theorem sA_dr (q : Nat) : wDr (sAdd s k x h) q = wDr s q := by unfold wDr; rw [sA_off (by omega)]
theorem sA_ln (q : Nat) : wLn (sAdd s k x h) q = wLn s q := by unfold wLn; rw [sA_off (by omega)]
theorem sA_brk (q i : Nat) : wBrk (sAdd s k x h) q i = wBrk s q i := by unfold wBrk; rw [sA_knd, sA_off (by omega)]
theorem sA_mad (hm : wMad s < 1000000) : wMad (sAdd s k x h) = wMad s + 1 := by
  have : sAdd s k x h 354 16 = nI (wMad s + 1) := sA_16
  generalize wMad s = m at *
  unfold wMad; rw [this, tcl (by omega)]
theorem sA_gst (hm : wGst s < 100000000) : wGst (sAdd s k x h) = wGst s + 1 := by
  have : sAdd s k x h 999 0 = nI (wGst s + 1) := sA_gh
  generalize wGst s = m at *
  unfold wGst; rw [this, tcl (by omega)]
/-- the new join's own numbers -/
theorem sA_new (hx : wXok s x) (hW : wW s) (hm : wMad s < 1000000) : wJA (sAdd s k x h) k = spA x ∧ wJI (sAdd s k x h) k = spI x ∧ wJB (sAdd s k x h) k = spB x ∧ wJJ (sAdd s k x h) k = spJ x ∧ wJT (sAdd s k x h) k = spT x ∧ wJN (sAdd s k x h) k = spN x ∧ wWhn (sAdd s k x h) k = wMad s + 1 := by
  obtain ⟨h1, h2, h3, h4, h5, h6, h7, h8, _, _⟩ := hx
  have hmn := hW.mny1
  have s1 := hW.stp1 (a := spA x) (by omega)
  have s2 := hW.stp1 (a := spB x) (by omega)
  unfold wJA wJI wJB wJJ wJT wJN wWhn
  rw [sA_k (by omega), sA_k (by omega), sA_k (by omega), sA_k (by omega), sA_k (by omega), sA_k (by omega), sA_k (by omega)]
  simp only [show ¬ (366 = 365) by omega, show ¬ (367 = 365) by omega, show ¬ (367 = 366) by omega, show ¬ (368 = 365) by omega, show ¬ (368 = 366) by omega, show ¬ (368 = 367) by omega, show ¬ (369 = 365) by omega, show ¬ (369 = 366) by omega, show ¬ (369 = 367) by omega, show ¬ (369 = 368) by omega, show ¬ (370 = 365) by omega, show ¬ (370 = 366) by omega, show ¬ (370 = 367) by omega, show ¬ (370 = 368) by omega, show ¬ (370 = 369) by omega, show ¬ (371 = 365) by omega, show ¬ (371 = 366) by omega, show ¬ (371 = 367) by omega, show ¬ (371 = 368) by omega, show ¬ (371 = 369) by omega, show ¬ (371 = 370) by omega, show ¬ (373 = 365) by omega, show ¬ (373 = 366) by omega, show ¬ (373 = 367) by omega, show ¬ (373 = 368) by omega, show ¬ (373 = 369) by omega, show ¬ (373 = 370) by omega, show ¬ (373 = 371) by omega, show ¬ (373 = 372) by omega, if_true, if_false]
  rw [tcl (by omega), tcl (by omega), tcl (by omega), tcl (by omega), tcl (by omega), tcl (by omega), tcl (by omega)]
  exact ⟨rfl, rfl, rfl, rfl, rfl, rfl, rfl⟩
theorem sA_old {q : Nat} (hq : q ≠ k) : wJA (sAdd s k x h) q = wJA s q ∧ wJI (sAdd s k x h) q = wJI s q ∧ wJB (sAdd s k x h) q = wJB s q ∧ wJJ (sAdd s k x h) q = wJJ s q ∧ wJT (sAdd s k x h) q = wJT s q ∧ wJN (sAdd s k x h) q = wJN s q ∧ wWhn (sAdd s k x h) q = wWhn s q := by
  unfold wJA wJI wJB wJJ wJT wJN wWhn
  rw [sA_off (by omega), sA_off (by omega), sA_off (by omega), sA_off (by omega), sA_off (by omega), sA_off (by omega), sA_off (by omega)]
  exact ⟨rfl, rfl, rfl, rfl, rfl, rfl, rfl⟩
theorem sAdd_w (hW : wW s) (hk : k < 40) (hk0 : s 365 k = 0) (hx : wXok s x) (hh : h = nI 0 ∨ h = nI 1) (hm : wMad s < 1000000) (hg : wGst s < 100000000) : wW (sAdd s k x h) := by
  obtain ⟨n1, n2, n3, n4, n5, n6, n7⟩ := sA_new (k := k) (h := h) hx hW hm
  have hx' := hx
  obtain ⟨x1, x2, x3, x4, x5, x6, x7, x8, x9, x10⟩ := hx'
  refine ⟨?_, ?_, ?_, ?_, ?_, ?_, ?_, ?_, ?_, ?_, ?_, ?_, ?_, ?_, ?_, ?_, ?_, ?_, ?_, ?_, ?_, ?_, ?_⟩
  · have h := hW.1; simpa (disch := omega) only [sA_mny, sA_knd, sA_stp, sA_dr, sA_ln, wLst, wTld, sA_off] using h
  · have h := hW.2.1; simpa (disch := omega) only [sA_mny, sA_knd, sA_stp, sA_dr, sA_ln, wLst, wTld, sA_off] using h
  · have h := hW.2.2.1; simpa (disch := omega) only [sA_mny, sA_knd, sA_stp, sA_dr, sA_ln, wLst, wTld, sA_off] using h
  · have h := hW.2.2.2.1; simpa (disch := omega) only [sA_mny, sA_knd, sA_stp, sA_dr, sA_ln, wLst, wTld, sA_off] using h
  · have h := hW.2.2.2.2.1; simpa (disch := omega) only [sA_mny, sA_knd, sA_stp, sA_dr, sA_ln, wLst, wTld, sA_off] using h
  · have h := hW.2.2.2.2.2.1; simpa (disch := omega) only [sA_mny, sA_knd, sA_stp, sA_dr, sA_ln, wLst, wTld, sA_off] using h
  · have h := hW.2.2.2.2.2.2.1; simpa (disch := omega) only [sA_mny, sA_knd, sA_stp, sA_dr, sA_ln, wLst, wTld, sA_off] using h
  · have h := hW.2.2.2.2.2.2.2.1; simpa (disch := omega) only [sA_mny, sA_knd, sA_stp, sA_dr, sA_ln, wLst, wTld, sA_off] using h
  · have h := hW.2.2.2.2.2.2.2.2.1; simpa (disch := omega) only [sA_mny, sA_knd, sA_stp, sA_dr, sA_ln, wLst, wTld, sA_off] using h
  · have h := hW.2.2.2.2.2.2.2.2.2.1; simpa (disch := omega) only [sA_mny, sA_knd, sA_stp, sA_dr, sA_ln, wLst, wTld, sA_off] using h
  · intro q i hq hi
    rw [sA_mny] at hq
    rw [sA_stp] at hi
    rw [sA_364]
    split
    · exact Or.inr ⟨k, hk, rfl⟩
    · exact hW.jof hq hi
  · intro q hq
    by_cases e : q = k
    · subst e; rw [sA_k (by omega), if_pos rfl]; exact Or.inr ⟨rfl, hk⟩
    · rw [sA_off (by omega)]; exact hW.isj hq
  · intro q hq hj
    by_cases e : q = k
    · subst e
      rw [n1, n2, n3, n4, n5, n6, sA_k (by omega), sA_k (by omega), sA_k (by omega), sA_k (by omega), sA_k (by omega), sA_k (by omega)]
      exact ⟨rfl, rfl, rfl, rfl, rfl, rfl⟩
    · obtain ⟨o1, o2, o3, o4, o5, o6, o7⟩ := sA_old (s := s) (x := x) (h := h) e
      rw [o1, o2, o3, o4, o5, o6, sA_off (by omega), sA_off (by omega), sA_off (by omega), sA_off (by omega), sA_off (by omega), sA_off (by omega)]
      rw [sA_off (by omega)] at hj
      exact hW.f_jnv q hq hj
  · intro q hq hj
    rw [sA_mny, sA_stp, sA_stp]
    by_cases e : q = k
    · subst e
      rw [n1, n2, n3, n4, n5, n6]
      exact ⟨x1, x2, x3, x4, x5, x6, x7, x8⟩
    · obtain ⟨o1, o2, o3, o4, o5, o6, o7⟩ := sA_old (s := s) (x := x) (h := h) e
      rw [o1, o2, o3, o4, o5, o6]
      rw [sA_off (by omega)] at hj
      exact hW.f_jnr q hq hj
  · intro q hq hj
    by_cases e : q = k
    · subst e
      rw [n1, n3, sA_off (by omega), sA_off (by omega), sA_k (by omega)]
      exact ⟨x9, x10, hh⟩
    · obtain ⟨o1, o2, o3, o4, o5, o6, o7⟩ := sA_old (s := s) (x := x) (h := h) e
      rw [o1, o3, sA_off (by omega), sA_off (by omega), sA_off (by omega)]
      rw [sA_off (by omega)] at hj
      exact hW.f_jnc q hq hj
  · rw [wCnt_add hk0, if_pos hk]; exact sA_15
  · rw [sA_mad hm]; exact ⟨sA_16, by omega⟩
  · intro q hq hj
    rw [sA_mad hm]
    by_cases e : q = k
    · subst e
      rw [n7, sA_k (by omega)]
      exact ⟨rfl, by omega, by omega⟩
    · obtain ⟨o1, o2, o3, o4, o5, o6, o7⟩ := sA_old (s := s) (x := x) (h := h) e
      rw [o7, sA_off (by omega)]
      rw [sA_off (by omega)] at hj
      have g := hW.f_whn q hq hj
      exact ⟨g.1, g.2.1, by omega⟩
  · intro q r hq hr hj1 hj2 he
    by_cases e : q = k
    · by_cases e2 : r = k
      · omega
      · rw [sA_off (by omega)] at hj2
        have o7 := (sA_old (s := s) (x := x) (h := h) e2).2.2.2.2.2.2
        rw [e, n7, o7] at he
        have := hW.whn2 hr hj2
        omega
    · rw [sA_off (by omega)] at hj1
      have o7 := (sA_old (s := s) (x := x) (h := h) e).2.2.2.2.2.2
      rw [o7] at he
      by_cases e2 : r = k
      · rw [e2, n7] at he
        have := hW.whn2 hq hj1
        omega
      · rw [sA_off (by omega)] at hj2
        have o8 := (sA_old (s := s) (x := x) (h := h) e2).2.2.2.2.2.2
        rw [o8] at he
        exact hW.wdf hq hr hj1 hj2 he
  · have h := hW.2.2.2.2.2.2.2.2.2.2.2.2.2.2.2.2.2.2.2.1; simpa (disch := omega) only [sA_mny, sA_knd, sA_stp, sA_dr, sA_ln, wLst, wTld, sA_off] using h
  · have h := hW.2.2.2.2.2.2.2.2.2.2.2.2.2.2.2.2.2.2.2.2.1; simpa (disch := omega) only [sA_mny, sA_knd, sA_stp, sA_dr, sA_ln, wLst, wTld, sA_off] using h
  · rw [sA_gst hg]; exact ⟨sA_gh, by omega⟩
  · have h := hW.2.2.2.2.2.2.2.2.2.2.2.2.2.2.2.2.2.2.2.2.2.2; simpa (disch := omega) only [sA_mny, sA_knd, sA_stp, sA_dr, sA_ln, wLst, wTld, sA_off] using h
theorem sD_mny : wMny (sDel s k) = wMny s := by unfold wMny; rw [sD_off (by omega)]
theorem sD_knd (q : Nat) : wKnd (sDel s k) q = wKnd s q := by unfold wKnd; rw [sD_off (by omega)]
theorem sD_stp (q : Nat) : wStp (sDel s k) q = wStp s q := by unfold wStp; rw [sD_off (by omega)]
theorem sD_brk (q i : Nat) : wBrk (sDel s k) q i = wBrk s q i := by unfold wBrk; rw [sD_knd, sD_off (by omega)]
theorem sD_one {q : Nat} (h : sDel s k 365 q = 1) : q ≠ k ∧ s 365 q = 1 := by
  by_cases e : q = k
  · subst e; rw [sD_365] at h; exact absurd h (by decide)
  · rw [sD_off (by omega)] at h; exact ⟨e, h⟩
theorem sDel_w (hW : wW s) (hk : k < 40) (hk1 : s 365 k = 1) : wW (sDel s k) := by
  have hc := wCnt_del (s := s) hk1 40
  rw [if_pos hk] at hc
  refine ⟨?_, ?_, ?_, ?_, ?_, ?_, ?_, ?_, ?_, ?_, ?_, ?_, ?_, ?_, ?_, ?_, ?_, ?_, ?_, ?_, ?_, ?_, ?_⟩
  · have h := hW.1; simpa (disch := omega) only [sD_mny, sD_knd, sD_stp, wDr, wLn, wJA, wJI, wJB, wJJ, wJT, wJN, wMad, wWhn, wLst, wTld, wGst, sD_off] using h
  · have h := hW.2.1; simpa (disch := omega) only [sD_mny, sD_knd, sD_stp, wDr, wLn, wJA, wJI, wJB, wJJ, wJT, wJN, wMad, wWhn, wLst, wTld, wGst, sD_off] using h
  · have h := hW.2.2.1; simpa (disch := omega) only [sD_mny, sD_knd, sD_stp, wDr, wLn, wJA, wJI, wJB, wJJ, wJT, wJN, wMad, wWhn, wLst, wTld, wGst, sD_off] using h
  · have h := hW.2.2.2.1; simpa (disch := omega) only [sD_mny, sD_knd, sD_stp, wDr, wLn, wJA, wJI, wJB, wJJ, wJT, wJN, wMad, wWhn, wLst, wTld, wGst, sD_off] using h
  · have h := hW.2.2.2.2.1; simpa (disch := omega) only [sD_mny, sD_knd, sD_stp, wDr, wLn, wJA, wJI, wJB, wJJ, wJT, wJN, wMad, wWhn, wLst, wTld, wGst, sD_off] using h
  · have h := hW.2.2.2.2.2.1; simpa (disch := omega) only [sD_mny, sD_knd, sD_stp, wDr, wLn, wJA, wJI, wJB, wJJ, wJT, wJN, wMad, wWhn, wLst, wTld, wGst, sD_off] using h
  · have h := hW.2.2.2.2.2.2.1; simpa (disch := omega) only [sD_mny, sD_knd, sD_stp, wDr, wLn, wJA, wJI, wJB, wJJ, wJT, wJN, wMad, wWhn, wLst, wTld, wGst, sD_off] using h
  · have h := hW.2.2.2.2.2.2.2.1; simpa (disch := omega) only [sD_mny, sD_knd, sD_stp, wDr, wLn, wJA, wJI, wJB, wJJ, wJT, wJN, wMad, wWhn, wLst, wTld, wGst, sD_off] using h
  · have h := hW.2.2.2.2.2.2.2.2.1; simpa (disch := omega) only [sD_mny, sD_knd, sD_stp, wDr, wLn, wJA, wJI, wJB, wJJ, wJT, wJN, wMad, wWhn, wLst, wTld, wGst, sD_off] using h
  · have h := hW.2.2.2.2.2.2.2.2.2.1; simpa (disch := omega) only [sD_mny, sD_knd, sD_stp, wDr, wLn, wJA, wJI, wJB, wJJ, wJT, wJN, wMad, wWhn, wLst, wTld, wGst, sD_off] using h
  · intro q i hq hi
    rw [sD_mny] at hq
    rw [sD_stp] at hi
    show (if wOn s (jx s k) (wJN s k) (20 * q + i) then wM1 else s 364 (20 * q + i)) = wM1 ∨ ∃ r, r < 40 ∧ (if wOn s (jx s k) (wJN s k) (20 * q + i) then wM1 else s 364 (20 * q + i)) = nI r
    split
    · exact Or.inl rfl
    · exact hW.jof hq hi
  · intro q hq
    by_cases e : q = k
    · subst e; rw [sD_365]; exact Or.inl rfl
    · rw [sD_off (by omega)]; exact hW.isj hq
  · intro q hq hj
    have g := hW.f_jnv q hq (sD_one hj).2
    simpa (disch := omega) only [wJA, wJI, wJB, wJJ, wJT, wJN, sD_off] using g
  · intro q hq hj
    have g := hW.f_jnr q hq (sD_one hj).2
    rw [sD_mny, sD_stp, sD_stp]
    simpa (disch := omega) only [wJA, wJI, wJB, wJJ, wJT, wJN, sD_off] using g
  · intro q hq hj
    have g := hW.f_jnc q hq (sD_one hj).2
    simpa (disch := omega) only [wJA, wJI, wJB, wJJ, wJT, wJN, sD_off] using g
  · rw [sD_15]; congr 1; omega
  · have h := hW.2.2.2.2.2.2.2.2.2.2.2.2.2.2.2.2.1; simpa (disch := omega) only [sD_mny, sD_knd, sD_stp, wDr, wLn, wJA, wJI, wJB, wJJ, wJT, wJN, wMad, wWhn, wLst, wTld, wGst, sD_off] using h
  · intro q hq hj
    have g := hW.f_whn q hq (sD_one hj).2
    simpa (disch := omega) only [wWhn, wMad, sD_off] using g
  · intro q r hq hr hj1 hj2 he
    have e1 : ∀ u, wWhn (sDel s k) u = wWhn s u := fun u => by unfold wWhn; rw [sD_off (by omega)]
    rw [e1, e1] at he
    exact hW.wdf hq hr (sD_one hj1).2 (sD_one hj2).2 he
  · have h := hW.2.2.2.2.2.2.2.2.2.2.2.2.2.2.2.2.2.2.2.1; simpa (disch := omega) only [sD_mny, sD_knd, sD_stp, wDr, wLn, wJA, wJI, wJB, wJJ, wJT, wJN, wMad, wWhn, wLst, wTld, wGst, sD_off] using h
  · have h := hW.2.2.2.2.2.2.2.2.2.2.2.2.2.2.2.2.2.2.2.2.1; simpa (disch := omega) only [sD_mny, sD_knd, sD_stp, wDr, wLn, wJA, wJI, wJB, wJJ, wJT, wJN, wMad, wWhn, wLst, wTld, wGst, sD_off] using h
  · have h := hW.2.2.2.2.2.2.2.2.2.2.2.2.2.2.2.2.2.2.2.2.2.1; simpa (disch := omega) only [sD_mny, sD_knd, sD_stp, wDr, wLn, wJA, wJI, wJB, wJJ, wJT, wJN, wMad, wWhn, wLst, wTld, wGst, sD_off] using h
  · have h := hW.2.2.2.2.2.2.2.2.2.2.2.2.2.2.2.2.2.2.2.2.2.2; simpa (disch := omega) only [sD_mny, sD_knd, sD_stp, wDr, wLn, wJA, wJI, wJB, wJJ, wJT, wJN, wMad, wWhn, wLst, wTld, wGst, sD_off] using h
end JA
