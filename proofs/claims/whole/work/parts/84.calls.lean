theorem wW.f_mny {s : wG} (h : wW s) : s 354 0 = nI (wMny s) ∧ wMny s ≤ 12 := h.1
theorem wW.f_knd {s : wG} (h : wW s) : ∀ a, a < wMny s → (s 355 a = nI (wKnd s a) ∧ wKnd s a < 6) := h.2.1
theorem wW.f_stp {s : wG} (h : wW s) : ∀ a, a < 12 → (s 356 a = nI (wStp s a) ∧ wStp s a ≤ 20) := h.2.2.1
theorem wW.f_stz {s : wG} (h : wW s) : ∀ a, wMny s ≤ a → a < 12 → (wStp s a = 0) := h.2.2.2.1
theorem wW.f_cls {s : wG} (h : wW s) : ∀ a, a < 12 → (s 357 a = 0 ∨ (s 357 a = 1 ∧ a < wMny s ∧ 3 ≤ wStp s a)) := h.2.2.2.2.1
theorem wW.f_ten {s : wG} (h : wW s) : ∀ a, a < wMny s → (-1 ≤ (s 358 a).toInt ∧ (s 358 a).toInt ≤ 10000) := h.2.2.2.2.2.1
theorem wW.f_cir {s : wG} (h : wW s) : ∀ a, a < wMny s → (s 359 a = wM1 ∨ (1 ≤ (s 359 a).toInt ∧ (s 359 a).toInt ≤ 200 ∧ wKnd s a = 1)) := h.2.2.2.2.2.2.1
theorem wW.f_dir {s : wG} (h : wW s) : ∀ k, k < 240 → (s 360 k = nI (wDr s k) ∧ wDr s k < 24) := h.2.2.2.2.2.2.2.1
theorem wW.f_len {s : wG} (h : wW s) : ∀ k, k < 240 → (s 361 k = nI (wLn s k) ∧ wLn s k ≤ 12) := h.2.2.2.2.2.2.2.2.1
theorem wW.f_mrk {s : wG} (h : wW s) : ∀ k, k < 240 → (s 362 k = 0 ∨ s 362 k = 1) := h.2.2.2.2.2.2.2.2.2.1
theorem wW.f_jof {s : wG} (h : wW s) : ∀ a i, a < wMny s → i < wStp s a → (s 364 (20 * a + i) = wM1 ∨ ∃ k, k < 40 ∧ s 364 (20 * a + i) = nI k) := h.2.2.2.2.2.2.2.2.2.2.1
theorem wW.f_isj {s : wG} (h : wW s) : ∀ k, k < 41 → (s 365 k = 0 ∨ (s 365 k = 1 ∧ k < 40)) := h.2.2.2.2.2.2.2.2.2.2.2.1
theorem wW.f_jnv {s : wG} (h : wW s) : ∀ k, k < 40 → s 365 k = 1 → (s 366 k = nI (wJA s k) ∧ s 367 k = nI (wJI s k) ∧ s 368 k = nI (wJB s k) ∧ s 369 k = nI (wJJ s k) ∧ s 370 k = nI (wJT s k) ∧ s 371 k = nI (wJN s k)) := h.2.2.2.2.2.2.2.2.2.2.2.2.1
theorem wW.f_jnr {s : wG} (h : wW s) : ∀ k, k < 40 → s 365 k = 1 → (wJA s k < wJB s k ∧ wJB s k < wMny s ∧ wJI s k < wStp s (wJA s k) ∧ wJJ s k < wStp s (wJB s k) ∧ wJT s k < 24 ∧ 1 ≤ wJN s k ∧ wJN s k ≤ wStp s (wJA s k) ∧ wJN s k ≤ wStp s (wJB s k)) := h.2.2.2.2.2.2.2.2.2.2.2.2.2.1
theorem wW.f_jnc {s : wG} (h : wW s) : ∀ k, k < 40 → s 365 k = 1 → (s 357 (wJA s k) = 1 ∧ s 357 (wJB s k) = 1 ∧ (s 372 k = 0 ∨ s 372 k = 1)) := h.2.2.2.2.2.2.2.2.2.2.2.2.2.2.1
theorem wW.f_cnt {s : wG} (h : wW s) : s 354 15 = nI (wCnt s 40) := h.2.2.2.2.2.2.2.2.2.2.2.2.2.2.2.1
theorem wW.f_mad {s : wG} (h : wW s) : s 354 16 = nI (wMad s) ∧ wMad s ≤ 1000000 := h.2.2.2.2.2.2.2.2.2.2.2.2.2.2.2.2.1
theorem wW.f_whn {s : wG} (h : wW s) : ∀ k, k < 40 → s 365 k = 1 → (s 373 k = nI (wWhn s k) ∧ 1 ≤ wWhn s k ∧ wWhn s k ≤ wMad s) := h.2.2.2.2.2.2.2.2.2.2.2.2.2.2.2.2.2.1
theorem wW.f_wdf {s : wG} (h : wW s) : ∀ k l, k < 40 → l < 40 → s 365 k = 1 → s 365 l = 1 → wWhn s k = wWhn s l → (k = l) := h.2.2.2.2.2.2.2.2.2.2.2.2.2.2.2.2.2.2.1
theorem wW.f_lst {s : wG} (h : wW s) : s 354 11 = nI (wLst s) ∧ 1 ≤ wLst s ∧ wLst s ≤ 100 := h.2.2.2.2.2.2.2.2.2.2.2.2.2.2.2.2.2.2.2.1
theorem wW.f_tld {s : wG} (h : wW s) : s 354 36 = nI (wTld s) ∧ wTld s ≤ 50 := h.2.2.2.2.2.2.2.2.2.2.2.2.2.2.2.2.2.2.2.2.1
theorem wW.f_gst {s : wG} (h : wW s) : s 999 0 = nI (wGst s) ∧ wGst s ≤ 100000000 := h.2.2.2.2.2.2.2.2.2.2.2.2.2.2.2.2.2.2.2.2.2.1
theorem wW.f_col {s : wG} (h : wW s) : ∀ a i, a < wMny s → i < wStp s a → ((wKnd s a = 3 ∨ wKnd s a = 4) ∨ s 363 (20 * a + i) = 0) := h.2.2.2.2.2.2.2.2.2.2.2.2.2.2.2.2.2.2.2.2.2.2
/-! What a call of the class and of the reference does; numbers that agree. -/
def wSV (V V2 : wV) : Prop := V2.1 = V.1 ∧ V2.2.1 = V.2.1 ∧ V2.2.2.1 = V.2.2.1
theorem wSV.rf (V : wV) : wSV V V := ⟨rfl, rfl, rfl⟩
theorem wSV.tr {V V2 V3 : wV} (h : wSV V V2) (h2 : wSV V2 V3) : wSV V V3 := ⟨h2.1.trans h.1, h2.2.1.trans h.2.1, h2.2.2.trans h.2.2⟩
def cR {α : Type} (V : wV) (I : Nat → Nat → Int32) (r : α × zM) (f : α) (s2 : wG) : Prop := ∃ V2 I2, r = (f, wm V2 I2) ∧ wSV V V2 ∧ rC V2 I2 s2 ∧ (∀ c k, 354 ≤ c → I2 c k = I c k)
def rK {α : Type} (V : wV) (I : Nat → Nat → Int32) (r : α × zM) (f : α) (s2 : wG) : Prop := ∃ I2, r = (f, wm V I2) ∧ rR I2 s2 ∧ rT I2 s2 ∧ (∀ c k, c < 354 → I2 c k = I c k)
theorem cR.same {α : Type} {V : wV} {I : Nat → Nat → Int32} {s : wG} {f : α} (h : rC V I s) : cR V I (f, wm V I) f s := ⟨V, I, rfl, wSV.rf V, h, fun _ _ _ => rfl⟩
theorem rK.same {α : Type} {V : wV} {I I2 : Nat → Nat → Int32} {s : wG} {f : α} (h : rR I s) (hT : rT I s) (hI : ∀ c k, (c < 354 ∨ wPM c k ∨ (c = 354 ∧ k = 36) ∨ c = 374) → I2 c k = I c k) : rK V I (f, wm V I2) f s := ⟨I2, rfl, h.congr (fun c k h => hI c k (Or.inr (Or.inl h))), hT.congr (fun c k h => hI c k (by omega)), fun c k h => hI c k (Or.inl h)⟩
section AG
variable {s s2 : wG}
theorem wPX_cg {a : Nat} (h : ∀ j, s2 360 j = s 360 j) (h2 : ∀ j, s2 361 j = s 361 j) : ∀ k t, wPX s2 a k t = wPX s a k t
  | 0, _ => rfl
  | k + 1, t => by rw [wPX, wPX, wPX_cg h h2 k t]; unfold wLn wDr; rw [h, h2]
theorem wPY_cg {a : Nat} (h : ∀ j, s2 360 j = s 360 j) (h2 : ∀ j, s2 361 j = s 361 j) : ∀ k t, wPY s2 a k t = wPY s a k t
  | 0, _ => rfl
  | k + 1, t => by rw [wPY, wPY, wPY_cg h h2 k t]; unfold wLn wDr; rw [h, h2]
theorem wPX_cl {a : Nat} (h : ∀ j, 20 * a ≤ j → j < 20 * a + 20 → s2 360 j = s 360 j) (h2 : ∀ j, 20 * a ≤ j → j < 20 * a + 20 → s2 361 j = s 361 j) : ∀ k t, k ≤ 20 → wPX s2 a k t = wPX s a k t
  | 0, _, _ => rfl
  | k + 1, t, hk => by rw [wPX, wPX, wPX_cl h h2 k t (by omega)]; unfold wLn wDr; rw [h _ (by omega) (by omega), h2 _ (by omega) (by omega)]
theorem wPY_cl {a : Nat} (h : ∀ j, 20 * a ≤ j → j < 20 * a + 20 → s2 360 j = s 360 j) (h2 : ∀ j, 20 * a ≤ j → j < 20 * a + 20 → s2 361 j = s 361 j) : ∀ k t, k ≤ 20 → wPY s2 a k t = wPY s a k t
  | 0, _, _ => rfl
  | k + 1, t, hk => by rw [wPY, wPY, wPY_cl h h2 k t (by omega)]; unfold wLn wDr; rw [h _ (by omega) (by omega), h2 _ (by omega) (by omega)]
/-- the joins say the same in both -/
def wSj (s s2 : wG) : Prop := ∀ k, k < 40 → s2 365 k = s 365 k ∧ (s 365 k = 1 → wJA s2 k = wJA s k ∧ wJB s2 k = wJB s k ∧ wJT s2 k = wJT s k ∧ ∀ t, wPX s2 (wJA s k) (wJI s2 k) t = wPX s (wJA s k) (wJI s k) t ∧ wPY s2 (wJA s k) (wJI s2 k) t = wPY s (wJA s k) (wJI s k) t ∧ wPX s2 (wJB s k) (wJJ s2 k + 1) t = wPX s (wJB s k) (wJJ s k + 1) t ∧ wPY s2 (wJB s k) (wJJ s2 k + 1) t = wPY s (wJB s k) (wJJ s k + 1) t)
theorem wNbs_cg (h : wSj s s2) (c : Nat) : ∀ k, k ≤ 40 → ∀ y, wNbs s2 c k y = wNbs s c k y
  | 0, _, _ => rfl
  | k + 1, hk, y => by
    rw [wNbs, wNbs, wNbs_cg h c k (by omega) y]
    obtain ⟨h1, h2⟩ := h k (by omega)
    generalize wNbs s c k y = y1
    unfold wNb
    rw [h1]
    by_cases hj : s 365 k = 1
    · obtain ⟨a1, a2, a3, a4⟩ := h2 hj
      rw [if_pos hj, if_pos hj]
      unfold wBy1 wBy2
      simp only [a1, a2, a3]
      simp only [(a4 _).1, (a4 _).2.1, (a4 _).2.2.1, (a4 _).2.2.2]
    · rw [if_neg hj, if_neg hj]
theorem wLoop_cg (h : wSj s s2) : ∀ f i y, wLoop s2 f i y = wLoop s f i y
  | 0, _, _ => rfl
  | f + 1, i, y => by
    rw [wLoop, wLoop]
    by_cases hc : i < y.1.length
    · rw [if_pos hc, if_pos hc, wNbs_cg h _ 40 (Nat.le_refl _), wLoop_cg h f]
    · rw [if_neg hc, if_neg hc]
theorem wLay_cg (h : wSj s s2) (r : Nat) : wLay s2 r = wLay s r := wLoop_cg h 12 0 _
theorem wGrp_cg (h : wSj s s2) (a : Nat) : wGrp s2 a = wGrp s a := by
  unfold wGrp
  have : (fun r => decide (a ∈ (wLay s2 r).1)) = fun r => decide (a ∈ (wLay s r).1) := by funext r; rw [wLay_cg h r]
  rw [this]
theorem wGrn_cg (h : wSj s s2) : ∀ k, wGrn s2 k = wGrn s k
  | 0 => rfl
  | k + 1 => by rw [wGrn, wGrn, wGrn_cg h k, wGrp_cg h k]
theorem wCnt_cg (h : ∀ k, k < 40 → s2 365 k = s 365 k) : ∀ k, k ≤ 40 → wCnt s2 k = wCnt s k
  | 0, _ => rfl
  | k + 1, hk => by rw [wCnt, wCnt, wCnt_cg h k (by omega), h k (by omega)]
theorem wSj.of (h : ∀ a j, (a = 360 ∨ a = 361 ∨ (365 ≤ a ∧ a ≤ 370)) → s2 a j = s a j) : wSj s s2 := by
  intro k hk
  have e : ∀ a, (a = 360 ∨ a = 361 ∨ (365 ≤ a ∧ a ≤ 370)) → s2 a k = s a k := fun a ha => h a k ha
  have x1 : ∀ a k t, wPX s2 a k t = wPX s a k t := fun a => wPX_cg (fun j => h _ _ (by omega)) (fun j => h _ _ (by omega))
  have x2 : ∀ a k t, wPY s2 a k t = wPY s a k t := fun a => wPY_cg (fun j => h _ _ (by omega)) (fun j => h _ _ (by omega))
  refine ⟨e _ (by omega), fun _ => ?_⟩
  unfold wJA wJB wJT wJI wJJ
  rw [e 366 (by omega), e 367 (by omega), e 368 (by omega), e 369 (by omega), e 370 (by omega)]
  exact ⟨rfl, rfl, rfl, fun t => ⟨x1 _ _ _, x2 _ _ _, x1 _ _ _, x2 _ _ _⟩⟩
/-- numbers of which the invariant speaks -/
def wWc (a j : Nat) : Prop := (a = 354 ∧ (j = 0 ∨ j = 11 ∨ j = 15 ∨ j = 16 ∨ j = 36)) ∨ (355 ≤ a ∧ a ≤ 373) ∨ (a = 999 ∧ j = 0)
theorem wW.cg (hW : wW s) (h : ∀ a j, wWc a j → s2 a j = s a j) : wW s2 := by
  unfold wWc at h
  have e1 : wMny s2 = wMny s := by unfold wMny; rw [h _ _ (by omega)]
  have e2 : ∀ a, wKnd s2 a = wKnd s a := fun a => by unfold wKnd; rw [h _ _ (by omega)]
  have e3 : ∀ a, wStp s2 a = wStp s a := fun a => by unfold wStp; rw [h _ _ (by omega)]
  have e4 : ∀ a, wDr s2 a = wDr s a := fun a => by unfold wDr; rw [h _ _ (by omega)]
  have e5 : ∀ a, wLn s2 a = wLn s a := fun a => by unfold wLn; rw [h _ _ (by omega)]
  have e6 : ∀ a, wJA s2 a = wJA s a := fun a => by unfold wJA; rw [h _ _ (by omega)]
  have e7 : ∀ a, wJI s2 a = wJI s a := fun a => by unfold wJI; rw [h _ _ (by omega)]
  have e8 : ∀ a, wJB s2 a = wJB s a := fun a => by unfold wJB; rw [h _ _ (by omega)]
  have e9 : ∀ a, wJJ s2 a = wJJ s a := fun a => by unfold wJJ; rw [h _ _ (by omega)]
  have e10 : ∀ a, wJT s2 a = wJT s a := fun a => by unfold wJT; rw [h _ _ (by omega)]
  have e11 : ∀ a, wJN s2 a = wJN s a := fun a => by unfold wJN; rw [h _ _ (by omega)]
  have e12 : wMad s2 = wMad s := by unfold wMad; rw [h _ _ (by omega)]
  have e13 : ∀ a, wWhn s2 a = wWhn s a := fun a => by unfold wWhn; rw [h _ _ (by omega)]
  have e14 : wLst s2 = wLst s := by unfold wLst; rw [h _ _ (by omega)]
  have e15 : wTld s2 = wTld s := by unfold wTld; rw [h _ _ (by omega)]
  have e16 : wCnt s2 40 = wCnt s 40 := wCnt_cg (fun k _ => h _ _ (by omega)) 40 (Nat.le_refl _)
  have e17 : wGst s2 = wGst s := by unfold wGst; rw [h _ _ (by omega)]
  unfold wW at hW ⊢
  simp (disch := omega) only [e1, e2, e3, e4, e5, e6, e7, e8, e9, e10, e11, e12, e13, e14, e15, e16, e17, h]
  exact hW
variable {V : wV} {I : Nat → Nat → Int32}
theorem rN.cg (hN : rN V I s) (h : ∀ j, (j = 0 ∨ (11 ≤ j ∧ j ≤ 14) ∨ j = 30 ∨ j = 31 ∨ (50 ≤ j ∧ j ≤ 53)) → s2 354 j = s 354 j) : rN V I s2 := by
  have e1 : wMny s2 = wMny s := by unfold wMny; rw [h _ (by omega)]
  have e14 : wLst s2 = wLst s := by unfold wLst; rw [h _ (by omega)]
  unfold rN at hN ⊢
  simp (disch := omega) only [e1, e14, h]
  exact hN
theorem rS.cg (hS : rS V I s) (h : ∀ a j, ((a = 354 ∧ j = 0) ∨ (355 ≤ a ∧ a ≤ 364)) → s2 a j = s a j) : rS V I s2 := by
  have e1 : wMny s2 = wMny s := by unfold wMny; rw [h _ _ (by omega)]
  have e2 : ∀ a, wKnd s2 a = wKnd s a := fun a => by unfold wKnd; rw [h _ _ (by omega)]
  have e3 : ∀ a, wStp s2 a = wStp s a := fun a => by unfold wStp; rw [h _ _ (by omega)]
  have e4 : ∀ a, wDr s2 a = wDr s a := fun a => by unfold wDr; rw [h _ _ (by omega)]
  have e5 : ∀ a, wLn s2 a = wLn s a := fun a => by unfold wLn; rw [h _ _ (by omega)]
  have e6 : ∀ a i, wBrk s2 a i = wBrk s a i := fun a i => by unfold wBrk; rw [e2, h _ _ (by omega)]
  unfold rS at hS ⊢
  simp (disch := omega) only [e1, e2, e3, e4, e5, e6, h]
  exact hS
theorem rJ.cg (hJ : rJ V I s) (h : ∀ a j, (a = 356 ∨ (365 ≤ a ∧ a ≤ 373) ∨ a = 999) → s2 a j = s a j) : rJ V I s2 := by
  have e17 : wGst s2 = wGst s := by unfold wGst; rw [h _ _ (by omega)]
  have e3 : ∀ a, wStp s2 a = wStp s a := fun a => by unfold wStp; rw [h _ _ (by omega)]
  have e6 : ∀ a, wJA s2 a = wJA s a := fun a => by unfold wJA; rw [h _ _ (by omega)]
  have e7 : ∀ a, wJI s2 a = wJI s a := fun a => by unfold wJI; rw [h _ _ (by omega)]
  have e8 : ∀ a, wJB s2 a = wJB s a := fun a => by unfold wJB; rw [h _ _ (by omega)]
  have e9 : ∀ a, wJJ s2 a = wJJ s a := fun a => by unfold wJJ; rw [h _ _ (by omega)]
  have e10 : ∀ a, wJT s2 a = wJT s a := fun a => by unfold wJT; rw [h _ _ (by omega)]
  have e11 : ∀ a, wJN s2 a = wJN s a := fun a => by unfold wJN; rw [h _ _ (by omega)]
  have e13 : ∀ a, wWhn s2 a = wWhn s a := fun a => by unfold wWhn; rw [h _ _ (by omega)]
  have e16 : wCnt s2 40 = wCnt s 40 := wCnt_cg (fun k _ => h _ _ (by omega)) 40 (Nat.le_refl _)
  unfold rJ at hJ ⊢
  simp (disch := omega) only [e3, e6, e7, e8, e9, e10, e11, e13, e16, e17, h]
  exact hJ
theorem rL.cg (hL : rL V I s) (hm : s2 354 0 = s 354 0) (h : wSj s s2) : rL V I s2 := by
  have e1 : wMny s2 = wMny s := by unfold wMny; rw [hm]
  unfold rL at hL ⊢
  simp only [e1, wGrp_cg h, wLay_cg h, wGrn_cg h]
  exact hL
theorem rF.cg (hF : rF V I s) (h : ∀ a j, ((a = 354 ∧ j = 36) ∨ a = 374) → s2 a j = s a j) : rF V I s2 := by
  have e15 : wTld s2 = wTld s := by unfold wTld; rw [h _ _ (by omega)]
  unfold rF at hF ⊢
  simp (disch := omega) only [e15, h]
  exact hF
theorem rT.cg (hT : rT I s) (h : ∀ a j, ((a = 354 ∧ j = 36) ∨ a = 374) → s2 a j = s a j) : rT I s2 := by
  have e15 : wTld s2 = wTld s := by unfold wTld; rw [h _ _ (by omega)]
  unfold rT at hT ⊢
  simp (disch := omega) only [e15, h]
  exact hT
theorem rR.cg (hR : rR I s) (h : ∀ a j, wPM a j → s2 a j = s a j) : rR I s2 := by
  unfold wPM at h
  have e1 : wMny s2 = wMny s := by unfold wMny; rw [h _ _ (by omega)]
  have e2 : ∀ a, wKnd s2 a = wKnd s a := fun a => by unfold wKnd; rw [h _ _ (by omega)]
  have e3 : ∀ a, wStp s2 a = wStp s a := fun a => by unfold wStp; rw [h _ _ (by omega)]
  have e4 : ∀ a, wDr s2 a = wDr s a := fun a => by unfold wDr; rw [h _ _ (by omega)]
  have e5 : ∀ a, wLn s2 a = wLn s a := fun a => by unfold wLn; rw [h _ _ (by omega)]
  have e6 : ∀ a, wJA s2 a = wJA s a := fun a => by unfold wJA; rw [h _ _ (by omega)]
  have e7 : ∀ a, wJI s2 a = wJI s a := fun a => by unfold wJI; rw [h _ _ (by omega)]
  have e8 : ∀ a, wJB s2 a = wJB s a := fun a => by unfold wJB; rw [h _ _ (by omega)]
  have e9 : ∀ a, wJJ s2 a = wJJ s a := fun a => by unfold wJJ; rw [h _ _ (by omega)]
  have e10 : ∀ a, wJT s2 a = wJT s a := fun a => by unfold wJT; rw [h _ _ (by omega)]
  have e11 : ∀ a, wJN s2 a = wJN s a := fun a => by unfold wJN; rw [h _ _ (by omega)]
  have e12 : wMad s2 = wMad s := by unfold wMad; rw [h _ _ (by omega)]
  have e13 : ∀ a, wWhn s2 a = wWhn s a := fun a => by unfold wWhn; rw [h _ _ (by omega)]
  have e14 : wLst s2 = wLst s := by unfold wLst; rw [h _ _ (by omega)]
  have e16 : wCnt s2 40 = wCnt s 40 := wCnt_cg (fun k _ => h _ _ (by omega)) 40 (Nat.le_refl _)
  unfold rR at hR ⊢
  simp (disch := omega) only [e1, e2, e3, e4, e5, e6, e7, e8, e9, e10, e11, e12, e13, e14, e16, h]
  exact hR
end AG
