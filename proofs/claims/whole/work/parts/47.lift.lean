/-! X11_join -/
def b79_20 (n : Nat)   (M : zM) : Int32 × zM := (((-1) : Int32), M)
def p79_20 (n : Nat)   (M : zM) : Prop := True
theorem s79_20 (n : Nat)     (M : zM) (hp : p79_20 n   M) {Q : Option Value → zM → Prop} (hQ : ∀ r M1, zRI (b79_20 n   M) r M1 → Q r M1) : zWP 79 20 [none, none, none, none, none, none] [] M Q := by
  unfold b79_20 at hQ
  unfold p79_20 at hp
  refine wp_go 1 (pc' := 21) (L' := [none, none, none, none, none, none]) (st' := [.int ((-1) : Int32)]) (M' := M) rfl ?_
  exact wp_ret (r := some (.int ((-1) : Int32))) rfl rfl (hQ _ _ ⟨rfl, rfl⟩)
def b79_55 (n : Nat)  (s0 : Int32) (M : zM) : Int32 × zM := (s0, M)
def p79_55 (n : Nat)  (s0 : Int32) (M : zM) : Prop := True
theorem s79_55 (n : Nat)    (s0 : Int32) (M : zM) (hp : p79_55 n  s0 M) {Q : Option Value → zM → Prop} (hQ : ∀ r M1, zRI (b79_55 n  s0 M) r M1 → Q r M1) : zWP 79 55 [none, none, none, none, none, none] [.int s0] M Q := by
  unfold b79_55 at hQ
  unfold p79_55 at hp
  exact wp_ret (r := some (.int s0)) rfl rfl (hQ _ _ ⟨rfl, rfl⟩)
def b79_41 (n : Nat)  (l0 : Nat) (s0 : Int32) (M : zM) : Int32 × zM := (if s0 = 0 then (((-2) : Int32), M) else b79_55 n  (b106_0 n l0 (zQ M l0 8) M).1 (b106_0 n l0 (zQ M l0 8) M).2)
def p79_41 (n : Nat)  (l0 : Nat) (s0 : Int32) (M : zM) : Prop := ((s0 = 0 → True) ∧ (¬ s0 = 0 → (zHasQ 9 61 l0 M 8) ∧ ((zHasC 79 299 l0 M 106 1) ∧ ((p106_0 n l0 (zQ M l0 8) M) ∧ (p79_55 n  (b106_0 n l0 (zQ M l0 8) M).1 (b106_0 n l0 (zQ M l0 8) M).2)))))
theorem s79_41 (n : Nat)    (l0 : Nat) (s0 : Int32) (M : zM) (hp : p79_41 n  l0 s0 M) {Q : Option Value → zM → Prop} (hQ : ∀ r M1, zRI (b79_41 n  l0 s0 M) r M1 → Q r M1) : zWP 79 41 [some (.ref l0), none, none, none, none, none] [.int s0] M Q := by
  unfold b79_41 at hQ
  unfold p79_41 at hp
  refine wp_if_ne (t := 47) rfl rfl (fun hc => ?_) (fun hc => ?_)
  · rw [if_neg hc] at hQ
    replace hp := hp.2 hc
    refine wp_go 2 (pc' := 49) (L' := [some (.ref l0), none, none, none, none, none]) (st' := [.ref l0, .ref l0]) (M' := M) rfl ?_
    obtain ⟨hc, hp⟩ := hp
    refine wq_getQ (j := 8) rfl hc ?_
    obtain ⟨hv, hp⟩ := hp
    obtain ⟨hc, hp⟩ := hp
    refine wp_calli (v := (b106_0 n l0 (zQ M l0 8) M).1) (M1 := (b106_0 n l0 (zQ M l0 8) M).2) rfl rfl rfl (zInv_v (np := 1) rfl rfl hv rfl) (s106_0 n l0 (zQ M l0 8) M hc (fun r M1 h => h)) ?_
    refine wp_le [none, none, none, none, none, none] (zLe_of (by simp [zLeB])) ?_
    exact s79_55 n    (b106_0 n l0 (zQ M l0 8) M).1 (b106_0 n l0 (zQ M l0 8) M).2 hp hQ
  · rw [if_pos hc] at hQ
    replace hp := hp.1 hc
    refine wp_go 1 (pc' := 46) (L' := [some (.ref l0), none, none, none, none, none]) (st' := [.int ((-2) : Int32)]) (M' := M) rfl ?_
    exact wp_ret (r := some (.int ((-2) : Int32))) rfl rfl (hQ _ _ ⟨rfl, rfl⟩)
def b79_33 (n : Nat)  (l0 : Nat) (M : zM) : Int32 × zM := b79_41 n  l0 (b99_0 n l0 (zQ M l0 8) M).1 (b99_0 n l0 (zQ M l0 8) M).2
def p79_33 (n : Nat)  (l0 : Nat) (M : zM) : Prop := (zHasQ 9 61 l0 M 8) ∧ ((zHasC 79 295 l0 M 99 1) ∧ ((p99_0 n l0 (zQ M l0 8) M) ∧ (p79_41 n  l0 (b99_0 n l0 (zQ M l0 8) M).1 (b99_0 n l0 (zQ M l0 8) M).2)))
theorem s79_33 (n : Nat)    (l0 : Nat) (M : zM) (hp : p79_33 n  l0 M) {Q : Option Value → zM → Prop} (hQ : ∀ r M1, zRI (b79_33 n  l0 M) r M1 → Q r M1) : zWP 79 33 [some (.ref l0), none, none, none, none, none] [] M Q := by
  unfold b79_33 at hQ
  unfold p79_33 at hp
  refine wp_go 2 (pc' := 35) (L' := [some (.ref l0), none, none, none, none, none]) (st' := [.ref l0, .ref l0]) (M' := M) rfl ?_
  obtain ⟨hc, hp⟩ := hp
  refine wq_getQ (j := 8) rfl hc ?_
  obtain ⟨hv, hp⟩ := hp
  obtain ⟨hc, hp⟩ := hp
  refine wp_calli (v := (b99_0 n l0 (zQ M l0 8) M).1) (M1 := (b99_0 n l0 (zQ M l0 8) M).2) rfl rfl rfl (zInv_v (np := 1) rfl rfl hv rfl) (s99_0 n l0 (zQ M l0 8) M hc (fun r M1 h => h)) ?_
  exact s79_41 n    l0 (b99_0 n l0 (zQ M l0 8) M).1 (b99_0 n l0 (zQ M l0 8) M).2 hp hQ
def b79_17 (n : Nat)  (l0 : Nat) (l1 : Int32) (l2 : Int32) (l3 : Int32) (l4 : Int32) (l5 : Int32) (s0 : Int32) (M : zM) : Int32 × zM := (if s0 = 0 then b79_20 n  M else b79_33 n  l0 (b98_0 n l0 l1 l2 l3 l4 l5 M))
def p79_17 (n : Nat)  (l0 : Nat) (l1 : Int32) (l2 : Int32) (l3 : Int32) (l4 : Int32) (l5 : Int32) (s0 : Int32) (M : zM) : Prop := ((s0 = 0 → p79_20 n  M) ∧ (¬ s0 = 0 → (zHasC 79 241 l0 M 98 5) ∧ ((p98_0 n l0 l1 l2 l3 l4 l5 M) ∧ (p79_33 n  l0 (b98_0 n l0 l1 l2 l3 l4 l5 M)))))
theorem s79_17 (n : Nat)    (l0 : Nat) (l1 : Int32) (l2 : Int32) (l3 : Int32) (l4 : Int32) (l5 : Int32) (s0 : Int32) (M : zM) (hp : p79_17 n  l0 l1 l2 l3 l4 l5 s0 M) {Q : Option Value → zM → Prop} (hQ : ∀ r M1, zRI (b79_17 n  l0 l1 l2 l3 l4 l5 s0 M) r M1 → Q r M1) : zWP 79 17 [some (.ref l0), some (.int l1), some (.int l2), some (.int l3), some (.int l4), some (.int l5)] [.int s0] M Q := by
  unfold b79_17 at hQ
  unfold p79_17 at hp
  refine wp_if_ne (t := 22) rfl rfl (fun hc => ?_) (fun hc => ?_)
  · rw [if_neg hc] at hQ
    replace hp := hp.2 hc
    refine wp_go 5 (pc' := 28) (L' := [some (.ref l0), some (.int l1), some (.int l2), some (.int l3), some (.int l4), some (.int l5)]) (st' := [.int l4, .int l3, .int l2, .int l1, .ref l0]) (M' := M) rfl ?_
    refine wp_go 1 (pc' := 30) (L' := [some (.ref l0), some (.int l1), some (.int l2), some (.int l3), some (.int l4), some (.int l5)]) (st' := [.int l5, .int l4, .int l3, .int l2, .int l1, .ref l0]) (M' := M) rfl ?_
    obtain ⟨hv, hp⟩ := hp
    obtain ⟨hc, hp⟩ := hp
    refine wp_callv (M1 := (b98_0 n l0 l1 l2 l3 l4 l5 M)) rfl rfl rfl (zInv_v (np := 5) rfl rfl hv rfl) (s98_0 n l0 l1 l2 l3 l4 l5 M hc (fun r M1 h => h)) ?_
    refine wp_le [some (.ref l0), none, none, none, none, none] (zLe_of (by simp [zLeB])) ?_
    exact s79_33 n    l0 (b98_0 n l0 l1 l2 l3 l4 l5 M) hp hQ
  · rw [if_pos hc] at hQ
    replace hp := hp.1 hc
    refine wp_le [none, none, none, none, none, none] (zLe_of (by simp [zLeB])) ?_
    exact s79_20 n    M hp hQ
def b79_9 (n : Nat)  (l0 : Nat) (l1 : Int32) (l2 : Int32) (l3 : Int32) (l4 : Int32) (l5 : Int32) (s0 : Int32) (M : zM) : Int32 × zM := (if s0 = 0 then b79_20 n  M else b79_17 n  l0 l1 l2 l3 l4 l5 (b95_0 n l5 M).1 (b95_0 n l5 M).2)
def p79_9 (n : Nat)  (l0 : Nat) (l1 : Int32) (l2 : Int32) (l3 : Int32) (l4 : Int32) (l5 : Int32) (s0 : Int32) (M : zM) : Prop := ((s0 = 0 → p79_20 n  M) ∧ (¬ s0 = 0 → (p95_0 n l5 M) ∧ (p79_17 n  l0 l1 l2 l3 l4 l5 (b95_0 n l5 M).1 (b95_0 n l5 M).2)))
theorem s79_9 (n : Nat)    (l0 : Nat) (l1 : Int32) (l2 : Int32) (l3 : Int32) (l4 : Int32) (l5 : Int32) (s0 : Int32) (M : zM) (hp : p79_9 n  l0 l1 l2 l3 l4 l5 s0 M) {Q : Option Value → zM → Prop} (hQ : ∀ r M1, zRI (b79_9 n  l0 l1 l2 l3 l4 l5 s0 M) r M1 → Q r M1) : zWP 79 9 [some (.ref l0), some (.int l1), some (.int l2), some (.int l3), some (.int l4), some (.int l5)] [.int s0] M Q := by
  unfold b79_9 at hQ
  unfold p79_9 at hp
  refine wp_if_eq (t := 20) rfl rfl (fun hc => ?_) (fun hc => ?_)
  · rw [if_pos hc] at hQ
    replace hp := hp.1 hc
    refine wp_le [none, none, none, none, none, none] (zLe_of (by simp [zLeB])) ?_
    exact s79_20 n    M hp hQ
  · rw [if_neg hc] at hQ
    replace hp := hp.2 hc
    refine wp_go 1 (pc' := 14) (L' := [some (.ref l0), some (.int l1), some (.int l2), some (.int l3), some (.int l4), some (.int l5)]) (st' := [.int l5]) (M' := M) rfl ?_
    obtain ⟨hc, hp⟩ := hp
    refine wp_calli (v := (b95_0 n l5 M).1) (M1 := (b95_0 n l5 M).2) rfl rfl rfl rfl (s95_0 n l5 M hc (fun r M1 h => h)) ?_
    exact s79_17 n    l0 l1 l2 l3 l4 l5 (b95_0 n l5 M).1 (b95_0 n l5 M).2 hp hQ
def b79_0 (n : Nat)  (l0 : Nat) (l1 : Int32) (l2 : Int32) (l3 : Int32) (l4 : Int32) (l5 : Int32) (M : zM) : Int32 × zM := b79_9 n  l0 l1 l2 l3 l4 l5 (b93_0 n l0 l1 l2 l3 l4 M).1 (b93_0 n l0 l1 l2 l3 l4 M).2
def p79_0 (n : Nat)  (l0 : Nat) (l1 : Int32) (l2 : Int32) (l3 : Int32) (l4 : Int32) (l5 : Int32) (M : zM) : Prop := (zHasC 79 237 l0 M 93 4) ∧ ((p93_0 n l0 l1 l2 l3 l4 M) ∧ (p79_9 n  l0 l1 l2 l3 l4 l5 (b93_0 n l0 l1 l2 l3 l4 M).1 (b93_0 n l0 l1 l2 l3 l4 M).2))
theorem s79_0 (n : Nat)    (l0 : Nat) (l1 : Int32) (l2 : Int32) (l3 : Int32) (l4 : Int32) (l5 : Int32) (M : zM) (hp : p79_0 n  l0 l1 l2 l3 l4 l5 M) {Q : Option Value → zM → Prop} (hQ : ∀ r M1, zRI (b79_0 n  l0 l1 l2 l3 l4 l5 M) r M1 → Q r M1) : zWP 79 0 [some (.ref l0), some (.int l1), some (.int l2), some (.int l3), some (.int l4), some (.int l5)] [] M Q := by
  unfold b79_0 at hQ
  unfold p79_0 at hp
  refine wp_go 5 (pc' := 6) (L' := [some (.ref l0), some (.int l1), some (.int l2), some (.int l3), some (.int l4), some (.int l5)]) (st' := [.int l4, .int l3, .int l2, .int l1, .ref l0]) (M' := M) rfl ?_
  obtain ⟨hv, hp⟩ := hp
  obtain ⟨hc, hp⟩ := hp
  refine wp_calli (v := (b93_0 n l0 l1 l2 l3 l4 M).1) (M1 := (b93_0 n l0 l1 l2 l3 l4 M).2) rfl rfl rfl (zInv_v (np := 4) rfl rfl hv rfl) (s93_0 n l0 l1 l2 l3 l4 M hc (fun r M1 h => h)) ?_
  exact s79_9 n    l0 l1 l2 l3 l4 l5 (b93_0 n l0 l1 l2 l3 l4 M).1 (b93_0 n l0 l1 l2 l3 l4 M).2 hp hQ
/-! X11_isAnyStepJoined -/
def b105_54 (n : Nat)   (M : zM) : Int32 × zM := ((1 : Int32), M)
def p105_54 (n : Nat)   (M : zM) : Prop := True
theorem s105_54 (n : Nat)     (M : zM) (hp : p105_54 n   M) {Q : Option Value → zM → Prop} (hQ : ∀ r M1, zRI (b105_54 n   M) r M1 → Q r M1) : zWP 105 54 [none, none, none] [] M Q := by
  unfold b105_54 at hQ
  unfold p105_54 at hp
  refine wp_go 1 (pc' := 55) (L' := [none, none, none]) (st' := [.int (1 : Int32)]) (M' := M) rfl ?_
  exact wp_ret (r := some (.int (1 : Int32))) rfl rfl (hQ _ _ ⟨rfl, rfl⟩)
def b105_49 (n : Nat) (k2 : Nat → Nat → Int32 → zM → Int32 × zM) (l0 : Nat) (l1 : Nat) (l2 : Int32) (s0 : Nat) (s1 : Int32) (M : zM) : Int32 × zM := (if (zI M s0 s1.toNatClampNeg) = ((-1) : Int32) then k2 l0 l1 (l2 + Int32.ofInt 1) M else b105_54 n  M)
def p105_49 (n : Nat) (q2 : Nat → Nat → Int32 → zM → Prop) (l0 : Nat) (l1 : Nat) (l2 : Int32) (s0 : Nat) (s1 : Int32) (M : zM) : Prop := (zOkI s0 s1 M) ∧ ((((zI M s0 s1.toNatClampNeg) = ((-1) : Int32) → q2 l0 l1 (l2 + Int32.ofInt 1) M) ∧ (¬ (zI M s0 s1.toNatClampNeg) = ((-1) : Int32) → p105_54 n  M)))
theorem s105_49 (n : Nat) (k2 : Nat → Nat → Int32 → zM → Int32 × zM) (q2 : Nat → Nat → Int32 → zM → Prop) (h2 : ∀ (l0 : Nat) (l1 : Nat) (l2 : Int32) (M : zM), q2 l0 l1 l2 M → ∀ {Q : Option Value → zM → Prop}, (∀ r M1, zRI (k2 l0 l1 l2 M) r M1 → Q r M1) → zWP 105 2 [some (.ref l0), some (.ref l1), some (.int l2)] [] M Q) (l0 : Nat) (l1 : Nat) (l2 : Int32) (s0 : Nat) (s1 : Int32) (M : zM) (hp : p105_49 n q2 l0 l1 l2 s0 s1 M) {Q : Option Value → zM → Prop} (hQ : ∀ r M1, zRI (b105_49 n k2 l0 l1 l2 s0 s1 M) r M1 → Q r M1) : zWP 105 49 [some (.ref l0), some (.ref l1), some (.int l2)] [.int s1, .ref s0] M Q := by
  unfold b105_49 at hQ
  unfold p105_49 at hp
  obtain ⟨hc, hp⟩ := hp
  refine wq_iald rfl hc ?_
  refine wp_go 1 (pc' := 51) (L' := [some (.ref l0), some (.ref l1), some (.int l2)]) (st' := [.int ((-1) : Int32), .int (zI M s0 s1.toNatClampNeg)]) (M' := M) rfl ?_
  refine wp_ic_eq (t := 56) rfl rfl (fun hc => ?_) (fun hc => ?_)
  · rw [if_pos hc] at hQ
    replace hp := hp.1 hc
    refine wp_go 2 (pc' := 2) (L' := [some (.ref l0), some (.ref l1), some (.int (l2 + Int32.ofInt 1))]) (st' := []) (M' := M) rfl ?_
    exact h2 l0 l1 (l2 + Int32.ofInt 1) M hp hQ
  · rw [if_neg hc] at hQ
    replace hp := hp.2 hc
    refine wp_le [none, none, none] (zLe_of (by simp [zLeB])) ?_
    exact s105_54 n    M hp hQ
def b105_27 (n : Nat) (k2 : Nat → Nat → Int32 → zM → Int32 × zM) (l0 : Nat) (l1 : Nat) (l2 : Int32) (s0 : Nat) (s1 : Int32) (M : zM) : Int32 × zM := (if (zI M s0 s1.toNatClampNeg) = ((-1) : Int32) then b105_49 n k2 l0 l1 l2 (zQ M (zQ M (zQ M l0 0) (zI M l1 2).toNatClampNeg) 4) (b40_0 n l1 l2 M).1 (b40_0 n l1 l2 M).2 else b105_54 n  M)
def p105_27 (n : Nat) (q2 : Nat → Nat → Int32 → zM → Prop) (l0 : Nat) (l1 : Nat) (l2 : Int32) (s0 : Nat) (s1 : Int32) (M : zM) : Prop := (zOkI s0 s1 M) ∧ ((((zI M s0 s1.toNatClampNeg) = ((-1) : Int32) → (zHasQ 9 11 l0 M 0) ∧ ((zHasI 9 431 l1 M 2) ∧ ((zOkR (zQ M l0 0) (zI M l1 2) M) ∧ ((zHasQ 9 228 (zQ M (zQ M l0 0) (zI M l1 2).toNatClampNeg) M 4) ∧ ((zHasC 105 432 l1 M 40 1) ∧ ((p40_0 n l1 l2 M) ∧ (p105_49 n q2 l0 l1 l2 (zQ M (zQ M (zQ M l0 0) (zI M l1 2).toNatClampNeg) 4) (b40_0 n l1 l2 M).1 (b40_0 n l1 l2 M).2))))))) ∧ (¬ (zI M s0 s1.toNatClampNeg) = ((-1) : Int32) → p105_54 n  M)))
theorem s105_27 (n : Nat) (k2 : Nat → Nat → Int32 → zM → Int32 × zM) (q2 : Nat → Nat → Int32 → zM → Prop) (h2 : ∀ (l0 : Nat) (l1 : Nat) (l2 : Int32) (M : zM), q2 l0 l1 l2 M → ∀ {Q : Option Value → zM → Prop}, (∀ r M1, zRI (k2 l0 l1 l2 M) r M1 → Q r M1) → zWP 105 2 [some (.ref l0), some (.ref l1), some (.int l2)] [] M Q) (l0 : Nat) (l1 : Nat) (l2 : Int32) (s0 : Nat) (s1 : Int32) (M : zM) (hp : p105_27 n q2 l0 l1 l2 s0 s1 M) {Q : Option Value → zM → Prop} (hQ : ∀ r M1, zRI (b105_27 n k2 l0 l1 l2 s0 s1 M) r M1 → Q r M1) : zWP 105 27 [some (.ref l0), some (.ref l1), some (.int l2)] [.int s1, .ref s0] M Q := by
  unfold b105_27 at hQ
  unfold p105_27 at hp
  obtain ⟨hc, hp⟩ := hp
  refine wq_iald rfl hc ?_
  refine wp_go 1 (pc' := 29) (L' := [some (.ref l0), some (.ref l1), some (.int l2)]) (st' := [.int ((-1) : Int32), .int (zI M s0 s1.toNatClampNeg)]) (M' := M) rfl ?_
  refine wp_ic_ne (t := 54) rfl rfl (fun hc => ?_) (fun hc => ?_)
  · rw [if_neg hc] at hQ
    replace hp := hp.2 hc
    refine wp_le [none, none, none] (zLe_of (by simp [zLeB])) ?_
    exact s105_54 n    M hp hQ
  · rw [if_pos hc] at hQ
    replace hp := hp.1 hc
    refine wp_go 1 (pc' := 33) (L' := [some (.ref l0), some (.ref l1), some (.int l2)]) (st' := [.ref l0]) (M' := M) rfl ?_
    obtain ⟨hc, hp⟩ := hp
    refine wq_getQ (j := 0) rfl hc ?_
    refine wp_go 1 (pc' := 37) (L' := [some (.ref l0), some (.ref l1), some (.int l2)]) (st' := [.ref l1, .ref (zQ M l0 0)]) (M' := M) rfl ?_
    obtain ⟨hc, hp⟩ := hp
    refine wq_getI (j := 2) rfl hc ?_
    obtain ⟨hc, hp⟩ := hp
    refine wq_aald rfl hc ?_
    obtain ⟨hc, hp⟩ := hp
    refine wq_getQ (j := 4) rfl hc ?_
    refine wp_go 2 (pc' := 46) (L' := [some (.ref l0), some (.ref l1), some (.int l2)]) (st' := [.int l2, .ref l1, .ref (zQ M (zQ M (zQ M l0 0) (zI M l1 2).toNatClampNeg) 4)]) (M' := M) rfl ?_
    obtain ⟨hv, hp⟩ := hp
    obtain ⟨hc, hp⟩ := hp
    refine wp_calli (v := (b40_0 n l1 l2 M).1) (M1 := (b40_0 n l1 l2 M).2) rfl rfl rfl (zInv_v (np := 1) rfl rfl hv rfl) (s40_0 n l1 l2 M hc (fun r M1 h => h)) ?_
    exact s105_49 n k2 q2 h2 l0 l1 l2 (zQ M (zQ M (zQ M l0 0) (zI M l1 2).toNatClampNeg) 4) (b40_0 n l1 l2 M).1 (b40_0 n l1 l2 M).2 hp hQ
def c105_2 (n : Nat) (k2 : Nat → Nat → Int32 → zM → Int32 × zM) (l0 : Nat) (l1 : Nat) (l2 : Int32) (M : zM) : Int32 × zM := (if (zI M l1 5) ≤ l2 then ((0 : Int32), M) else b105_27 n k2 l0 l1 l2 (zQ M (zQ M (zQ M l0 0) (zI M l1 0).toNatClampNeg) 4) (b39_0 n l1 l2 M).1 (b39_0 n l1 l2 M).2)
def d105_2 (n : Nat) (q2 : Nat → Nat → Int32 → zM → Prop) (l0 : Nat) (l1 : Nat) (l2 : Int32) (M : zM) : Prop := (zHasI 9 426 l1 M 5) ∧ ((((zI M l1 5) ≤ l2 → True) ∧ (¬ (zI M l1 5) ≤ l2 → (zHasQ 9 11 l0 M 0) ∧ ((zHasI 9 427 l1 M 0) ∧ ((zOkR (zQ M l0 0) (zI M l1 0) M) ∧ ((zHasQ 9 228 (zQ M (zQ M l0 0) (zI M l1 0).toNatClampNeg) M 4) ∧ ((zHasC 105 428 l1 M 39 1) ∧ ((p39_0 n l1 l2 M) ∧ (p105_27 n q2 l0 l1 l2 (zQ M (zQ M (zQ M l0 0) (zI M l1 0).toNatClampNeg) 4) (b39_0 n l1 l2 M).1 (b39_0 n l1 l2 M).2)))))))))
theorem t105_2 (n : Nat) (k2 : Nat → Nat → Int32 → zM → Int32 × zM) (q2 : Nat → Nat → Int32 → zM → Prop) (h2 : ∀ (l0 : Nat) (l1 : Nat) (l2 : Int32) (M : zM), q2 l0 l1 l2 M → ∀ {Q : Option Value → zM → Prop}, (∀ r M1, zRI (k2 l0 l1 l2 M) r M1 → Q r M1) → zWP 105 2 [some (.ref l0), some (.ref l1), some (.int l2)] [] M Q) (l0 : Nat) (l1 : Nat) (l2 : Int32) (M : zM) (hp : d105_2 n q2 l0 l1 l2 M) {Q : Option Value → zM → Prop} (hQ : ∀ r M1, zRI (c105_2 n k2 l0 l1 l2 M) r M1 → Q r M1) : zWP 105 2 [some (.ref l0), some (.ref l1), some (.int l2)] [] M Q := by
  unfold c105_2 at hQ
  unfold d105_2 at hp
  refine wp_go 2 (pc' := 4) (L' := [some (.ref l0), some (.ref l1), some (.int l2)]) (st' := [.ref l1, .int l2]) (M' := M) rfl ?_
  obtain ⟨hc, hp⟩ := hp
  refine wq_getI (j := 5) rfl hc ?_
  refine wp_ic_ge (t := 62) rfl rfl (fun hc => ?_) (fun hc => ?_)
  · rw [if_pos hc] at hQ
    replace hp := hp.1 hc
    refine wp_go 1 (pc' := 63) (L' := [some (.ref l0), some (.ref l1), some (.int l2)]) (st' := [.int (0 : Int32)]) (M' := M) rfl ?_
    exact wp_ret (r := some (.int (0 : Int32))) rfl rfl (hQ _ _ ⟨rfl, rfl⟩)
  · rw [if_neg hc] at hQ
    replace hp := hp.2 hc
    refine wp_go 1 (pc' := 11) (L' := [some (.ref l0), some (.ref l1), some (.int l2)]) (st' := [.ref l0]) (M' := M) rfl ?_
    obtain ⟨hc, hp⟩ := hp
    refine wq_getQ (j := 0) rfl hc ?_
    refine wp_go 1 (pc' := 15) (L' := [some (.ref l0), some (.ref l1), some (.int l2)]) (st' := [.ref l1, .ref (zQ M l0 0)]) (M' := M) rfl ?_
    obtain ⟨hc, hp⟩ := hp
    refine wq_getI (j := 0) rfl hc ?_
    obtain ⟨hc, hp⟩ := hp
    refine wq_aald rfl hc ?_
    obtain ⟨hc, hp⟩ := hp
    refine wq_getQ (j := 4) rfl hc ?_
    refine wp_go 2 (pc' := 24) (L' := [some (.ref l0), some (.ref l1), some (.int l2)]) (st' := [.int l2, .ref l1, .ref (zQ M (zQ M (zQ M l0 0) (zI M l1 0).toNatClampNeg) 4)]) (M' := M) rfl ?_
    obtain ⟨hv, hp⟩ := hp
    obtain ⟨hc, hp⟩ := hp
    refine wp_calli (v := (b39_0 n l1 l2 M).1) (M1 := (b39_0 n l1 l2 M).2) rfl rfl rfl (zInv_v (np := 1) rfl rfl hv rfl) (s39_0 n l1 l2 M hc (fun r M1 h => h)) ?_
    exact s105_27 n k2 q2 h2 l0 l1 l2 (zQ M (zQ M (zQ M l0 0) (zI M l1 0).toNatClampNeg) 4) (b39_0 n l1 l2 M).1 (b39_0 n l1 l2 M).2 hp hQ
def b105_2 (n : Nat)  : Nat → Nat → Nat → Int32 → zM → Int32 × zM
  | 0, _, _, _, M => (0, M)
  | k + 1, l0, l1, l2, M => c105_2 n  (b105_2 n  k) l0 l1 l2 M
def p105_2 (n : Nat)  : Nat → Nat → Nat → Int32 → zM → Prop
  | 0, _, _, _, _ => False
  | k + 1, l0, l1, l2, M => d105_2 n  (p105_2 n  k) l0 l1 l2 M
theorem s105_2 (n : Nat)    : ∀ (k : Nat) (l0 : Nat) (l1 : Nat) (l2 : Int32) (M : zM), p105_2 n  k l0 l1 l2 M → ∀ {Q : Option Value → zM → Prop}, (∀ r M1, zRI (b105_2 n  k l0 l1 l2 M) r M1 → Q r M1) → zWP 105 2 [some (.ref l0), some (.ref l1), some (.int l2)] [] M Q
  | 0, _, _, _, _, h, _, _ => h.elim
  | k + 1, l0, l1, l2, M, h, _, hQ => t105_2 n  (b105_2 n  k)  (p105_2 n  k)  (s105_2 n    k) l0 l1 l2 M h hQ
def b105_0 (n : Nat)  (l0 : Nat) (l1 : Nat) (M : zM) : Int32 × zM := b105_2 n  n l0 l1 (0 : Int32) M
def p105_0 (n : Nat)  (l0 : Nat) (l1 : Nat) (M : zM) : Prop := p105_2 n  n l0 l1 (0 : Int32) M
theorem s105_0 (n : Nat)    (l0 : Nat) (l1 : Nat) (M : zM) (hp : p105_0 n  l0 l1 M) {Q : Option Value → zM → Prop} (hQ : ∀ r M1, zRI (b105_0 n  l0 l1 M) r M1 → Q r M1) : zWP 105 0 [some (.ref l0), some (.ref l1), none] [] M Q := by
  unfold b105_0 at hQ
  unfold p105_0 at hp
  refine wp_go 2 (pc' := 2) (L' := [some (.ref l0), some (.ref l1), some (.int (0 : Int32))]) (st' := []) (M' := M) rfl ?_
  exact s105_2 n    n l0 l1 (0 : Int32) M hp hQ
/-! X11_hand -/
def b80_46 (n : Nat)   (M : zM) : Int32 × zM := (((-2) : Int32), M)
def p80_46 (n : Nat)   (M : zM) : Prop := True
theorem s80_46 (n : Nat)     (M : zM) (hp : p80_46 n   M) {Q : Option Value → zM → Prop} (hQ : ∀ r M1, zRI (b80_46 n   M) r M1 → Q r M1) : zWP 80 46 [none, none, none, none, none, none, none] [] M Q := by
  unfold b80_46 at hQ
  unfold p80_46 at hp
  refine wp_go 1 (pc' := 48) (L' := [none, none, none, none, none, none, none]) (st' := [.int ((-2) : Int32)]) (M' := M) rfl ?_
  exact wp_ret (r := some (.int ((-2) : Int32))) rfl rfl (hQ _ _ ⟨rfl, rfl⟩)
def b80_174 (n : Nat)  (l6 : Int32) (M : zM) : Int32 × zM := (l6, M)
def p80_174 (n : Nat)  (l6 : Int32) (M : zM) : Prop := True
theorem s80_174 (n : Nat)    (l6 : Int32) (M : zM) (hp : p80_174 n  l6 M) {Q : Option Value → zM → Prop} (hQ : ∀ r M1, zRI (b80_174 n  l6 M) r M1 → Q r M1) : zWP 80 174 [none, none, none, none, none, none, some (.int l6)] [] M Q := by
  unfold b80_174 at hQ
  unfold p80_174 at hp
  refine wp_go 1 (pc' := 176) (L' := [none, none, none, none, none, none, some (.int l6)]) (st' := [.int l6]) (M' := M) rfl ?_
  exact wp_ret (r := some (.int l6)) rfl rfl (hQ _ _ ⟨rfl, rfl⟩)
def b80_155 (n : Nat)  (l0 : Nat) (l6 : Int32) (M : zM) : Int32 × zM := b80_174 n  l6 (b22_0 n (zQ M l0 4) (zQ M l0 0) (zI M l0 12) (zQ M l0 3) M)
def p80_155 (n : Nat)  (l0 : Nat) (l6 : Int32) (M : zM) : Prop := (zHasQ 9 35 l0 M 4) ∧ ((zHasQ 9 11 l0 M 0) ∧ ((zHasI 9 78 l0 M 12) ∧ ((zHasQ 9 28 l0 M 3) ∧ ((zHasC 80 113 (zQ M l0 4) M 22 3) ∧ ((p22_0 n (zQ M l0 4) (zQ M l0 0) (zI M l0 12) (zQ M l0 3) M) ∧ (p80_174 n  l6 (b22_0 n (zQ M l0 4) (zQ M l0 0) (zI M l0 12) (zQ M l0 3) M)))))))
theorem s80_155 (n : Nat)    (l0 : Nat) (l6 : Int32) (M : zM) (hp : p80_155 n  l0 l6 M) {Q : Option Value → zM → Prop} (hQ : ∀ r M1, zRI (b80_155 n  l0 l6 M) r M1 → Q r M1) : zWP 80 155 [some (.ref l0), none, none, none, none, none, some (.int l6)] [] M Q := by
  unfold b80_155 at hQ
  unfold p80_155 at hp
  refine wp_go 1 (pc' := 156) (L' := [some (.ref l0), none, none, none, none, none, some (.int l6)]) (st' := [.ref l0]) (M' := M) rfl ?_
  obtain ⟨hc, hp⟩ := hp
  refine wq_getQ (j := 4) rfl hc ?_
  refine wp_go 1 (pc' := 160) (L' := [some (.ref l0), none, none, none, none, none, some (.int l6)]) (st' := [.ref l0, .ref (zQ M l0 4)]) (M' := M) rfl ?_
  obtain ⟨hc, hp⟩ := hp
  refine wq_getQ (j := 0) rfl hc ?_
  refine wp_go 1 (pc' := 164) (L' := [some (.ref l0), none, none, none, none, none, some (.int l6)]) (st' := [.ref l0, .ref (zQ M l0 0), .ref (zQ M l0 4)]) (M' := M) rfl ?_
  obtain ⟨hc, hp⟩ := hp
  refine wq_getI (j := 12) rfl hc ?_
  refine wp_go 1 (pc' := 168) (L' := [some (.ref l0), none, none, none, none, none, some (.int l6)]) (st' := [.ref l0, .int (zI M l0 12), .ref (zQ M l0 0), .ref (zQ M l0 4)]) (M' := M) rfl ?_
  obtain ⟨hc, hp⟩ := hp
  refine wq_getQ (j := 3) rfl hc ?_
  obtain ⟨hv, hp⟩ := hp
  obtain ⟨hc, hp⟩ := hp
  refine wp_callv (M1 := (b22_0 n (zQ M l0 4) (zQ M l0 0) (zI M l0 12) (zQ M l0 3) M)) rfl rfl rfl (zInv_v (np := 3) rfl rfl hv rfl) (s22_0 n (zQ M l0 4) (zQ M l0 0) (zI M l0 12) (zQ M l0 3) M hc (fun r M1 h => h)) ?_
  refine wp_le [none, none, none, none, none, none, some (.int l6)] (zLe_of (by simp [zLeB])) ?_
  exact s80_174 n    l6 (b22_0 n (zQ M l0 4) (zQ M l0 0) (zI M l0 12) (zQ M l0 3) M) hp hQ
def b80_126 (n : Nat)  (l0 : Nat) (s0 : Int32) (M : zM) : Int32 × zM := (if s0 = ((-1) : Int32) then (((-4) : Int32), M) else b80_155 n  l0 s0 (b17_0 n (zQ M l0 3) s0 (zQ M l0 10) (1 : Int32) (zQ M l0 0) M))
def p80_126 (n : Nat)  (l0 : Nat) (s0 : Int32) (M : zM) : Prop := ((s0 = ((-1) : Int32) → True) ∧ (¬ s0 = ((-1) : Int32) → (zHasQ 9 28 l0 M 3) ∧ ((zHasQ 9 71 l0 M 10) ∧ ((zHasQ 9 11 l0 M 0) ∧ ((zHasC 80 314 (zQ M l0 3) M 17 4) ∧ ((p17_0 n (zQ M l0 3) s0 (zQ M l0 10) (1 : Int32) (zQ M l0 0) M) ∧ (p80_155 n  l0 s0 (b17_0 n (zQ M l0 3) s0 (zQ M l0 10) (1 : Int32) (zQ M l0 0) M))))))))
theorem s80_126 (n : Nat)    (l0 : Nat) (s0 : Int32) (M : zM) (hp : p80_126 n  l0 s0 M) {Q : Option Value → zM → Prop} (hQ : ∀ r M1, zRI (b80_126 n  l0 s0 M) r M1 → Q r M1) : zWP 80 126 [some (.ref l0), none, none, none, none, none, none] [.int s0] M Q := by
  unfold b80_126 at hQ
  unfold p80_126 at hp
  refine wp_go 3 (pc' := 131) (L' := [some (.ref l0), none, none, none, none, none, some (.int s0)]) (st' := [.int ((-1) : Int32), .int s0]) (M' := M) rfl ?_
  refine wp_ic_ne (t := 137) rfl rfl (fun hc => ?_) (fun hc => ?_)
  · rw [if_neg hc] at hQ
    replace hp := hp.2 hc
    refine wp_go 1 (pc' := 138) (L' := [some (.ref l0), none, none, none, none, none, some (.int s0)]) (st' := [.ref l0]) (M' := M) rfl ?_
    obtain ⟨hc, hp⟩ := hp
    refine wq_getQ (j := 3) rfl hc ?_
    refine wp_go 2 (pc' := 144) (L' := [some (.ref l0), none, none, none, none, none, some (.int s0)]) (st' := [.ref l0, .int s0, .ref (zQ M l0 3)]) (M' := M) rfl ?_
    obtain ⟨hc, hp⟩ := hp
    refine wq_getQ (j := 10) rfl hc ?_
    refine wp_go 2 (pc' := 149) (L' := [some (.ref l0), none, none, none, none, none, some (.int s0)]) (st' := [.ref l0, .int (1 : Int32), .ref (zQ M l0 10), .int s0, .ref (zQ M l0 3)]) (M' := M) rfl ?_
    obtain ⟨hc, hp⟩ := hp
    refine wq_getQ (j := 0) rfl hc ?_
    obtain ⟨hv, hp⟩ := hp
    obtain ⟨hc, hp⟩ := hp
    refine wp_callv (M1 := (b17_0 n (zQ M l0 3) s0 (zQ M l0 10) (1 : Int32) (zQ M l0 0) M)) rfl rfl rfl (zInv_v (np := 4) rfl rfl hv rfl) (s17_0 n (zQ M l0 3) s0 (zQ M l0 10) (1 : Int32) (zQ M l0 0) M hc (fun r M1 h => h)) ?_
    exact s80_155 n    l0 s0 (b17_0 n (zQ M l0 3) s0 (zQ M l0 10) (1 : Int32) (zQ M l0 0) M) hp hQ
  · rw [if_pos hc] at hQ
    replace hp := hp.1 hc
    refine wp_go 1 (pc' := 136) (L' := [some (.ref l0), none, none, none, none, none, some (.int s0)]) (st' := [.int ((-4) : Int32)]) (M' := M) rfl ?_
    exact wp_ret (r := some (.int ((-4) : Int32))) rfl rfl (hQ _ _ ⟨rfl, rfl⟩)
def b80_113 (n : Nat)  (l0 : Nat) (s0 : Int32) (M : zM) : Int32 × zM := (if s0 = 0 then b80_126 n  l0 (b15_0 n (zQ M l0 3) M).1 (b15_0 n (zQ M l0 3) M).2 else (((-2) : Int32), M))
def p80_113 (n : Nat)  (l0 : Nat) (s0 : Int32) (M : zM) : Prop := ((s0 = 0 → (zHasQ 9 28 l0 M 3) ∧ ((zHasC 80 311 (zQ M l0 3) M 15 0) ∧ ((p15_0 n (zQ M l0 3) M) ∧ (p80_126 n  l0 (b15_0 n (zQ M l0 3) M).1 (b15_0 n (zQ M l0 3) M).2)))) ∧ (¬ s0 = 0 → True))
theorem s80_113 (n : Nat)    (l0 : Nat) (s0 : Int32) (M : zM) (hp : p80_113 n  l0 s0 M) {Q : Option Value → zM → Prop} (hQ : ∀ r M1, zRI (b80_113 n  l0 s0 M) r M1 → Q r M1) : zWP 80 113 [some (.ref l0), none, none, none, none, none, none] [.int s0] M Q := by
  unfold b80_113 at hQ
  unfold p80_113 at hp
  refine wp_if_eq (t := 119) rfl rfl (fun hc => ?_) (fun hc => ?_)
  · rw [if_pos hc] at hQ
    replace hp := hp.1 hc
    refine wp_go 1 (pc' := 120) (L' := [some (.ref l0), none, none, none, none, none, none]) (st' := [.ref l0]) (M' := M) rfl ?_
    obtain ⟨hc, hp⟩ := hp
    refine wq_getQ (j := 3) rfl hc ?_
    obtain ⟨hv, hp⟩ := hp
    obtain ⟨hc, hp⟩ := hp
    refine wp_calli (v := (b15_0 n (zQ M l0 3) M).1) (M1 := (b15_0 n (zQ M l0 3) M).2) rfl rfl rfl (zInv_v (np := 0) rfl rfl hv rfl) (s15_0 n (zQ M l0 3) M hc (fun r M1 h => h)) ?_
    exact s80_126 n    l0 (b15_0 n (zQ M l0 3) M).1 (b15_0 n (zQ M l0 3) M).2 hp hQ
  · rw [if_neg hc] at hQ
    replace hp := hp.2 hc
    refine wp_go 1 (pc' := 118) (L' := [some (.ref l0), none, none, none, none, none, none]) (st' := [.int ((-2) : Int32)]) (M' := M) rfl ?_
    exact wp_ret (r := some (.int ((-2) : Int32))) rfl rfl (hQ _ _ ⟨rfl, rfl⟩)
def b80_105 (n : Nat)  (l0 : Nat) (M : zM) : Int32 × zM := b80_113 n  l0 (b105_0 n l0 (zQ M l0 10) M).1 (b105_0 n l0 (zQ M l0 10) M).2
def p80_105 (n : Nat)  (l0 : Nat) (M : zM) : Prop := (zHasQ 9 71 l0 M 10) ∧ ((zHasC 80 307 l0 M 105 1) ∧ ((p105_0 n l0 (zQ M l0 10) M) ∧ (p80_113 n  l0 (b105_0 n l0 (zQ M l0 10) M).1 (b105_0 n l0 (zQ M l0 10) M).2)))
theorem s80_105 (n : Nat)    (l0 : Nat) (M : zM) (hp : p80_105 n  l0 M) {Q : Option Value → zM → Prop} (hQ : ∀ r M1, zRI (b80_105 n  l0 M) r M1 → Q r M1) : zWP 80 105 [some (.ref l0), none, none, none, none, none, none] [] M Q := by
  unfold b80_105 at hQ
  unfold p80_105 at hp
  refine wp_go 2 (pc' := 107) (L' := [some (.ref l0), none, none, none, none, none, none]) (st' := [.ref l0, .ref l0]) (M' := M) rfl ?_
  obtain ⟨hc, hp⟩ := hp
  refine wq_getQ (j := 10) rfl hc ?_
  obtain ⟨hv, hp⟩ := hp
  obtain ⟨hc, hp⟩ := hp
  refine wp_calli (v := (b105_0 n l0 (zQ M l0 10) M).1) (M1 := (b105_0 n l0 (zQ M l0 10) M).2) rfl rfl rfl (zInv_v (np := 1) rfl rfl hv rfl) (s105_0 n l0 (zQ M l0 10) M hc (fun r M1 h => h)) ?_
  exact s80_113 n    l0 (b105_0 n l0 (zQ M l0 10) M).1 (b105_0 n l0 (zQ M l0 10) M).2 hp hQ
def b80_78 (n : Nat)  (l0 : Nat) (M : zM) : Int32 × zM := b80_105 n  l0 M
def p80_78 (n : Nat)  (l0 : Nat) (M : zM) : Prop := p80_105 n  l0 M
theorem s80_78 (n : Nat)    (l0 : Nat) (M : zM) (hp : p80_78 n  l0 M) {Q : Option Value → zM → Prop} (hQ : ∀ r M1, zRI (b80_78 n  l0 M) r M1 → Q r M1) : zWP 80 78 [some (.ref l0), none, none, none, none, none, none] [] M Q := by
  unfold b80_78 at hQ
  unfold p80_78 at hp
  refine wp_go 1 (pc' := 105) (L' := [some (.ref l0), none, none, none, none, none, none]) (st' := []) (M' := M) rfl ?_
  exact s80_105 n    l0 M hp hQ
def b80_43 (n : Nat)  (l0 : Nat) (l1 : Int32) (l2 : Int32) (l3 : Int32) (l4 : Int32) (l5 : Int32) (s0 : Int32) (s1 : Int32) (M : zM) : Int32 × zM := (if s0 ≤ s1 then (if l3 ≤ l1 then b80_105 n  l0 (b37_0 n (zQ M l0 10) (zQ M (zQ M l0 0) l3.toNatClampNeg) l4 (zQ M (zQ M l0 0) l1.toNatClampNeg) l2 l5 M) else b80_78 n  l0 (b37_0 n (zQ M l0 10) (zQ M (zQ M l0 0) l1.toNatClampNeg) l2 (zQ M (zQ M l0 0) l3.toNatClampNeg) l4 l5 M)) else b80_46 n  M)
def p80_43 (n : Nat)  (l0 : Nat) (l1 : Int32) (l2 : Int32) (l3 : Int32) (l4 : Int32) (l5 : Int32) (s0 : Int32) (s1 : Int32) (M : zM) : Prop := ((s0 ≤ s1 → ((l3 ≤ l1 → (zHasQ 9 71 l0 M 10) ∧ ((zHasQ 9 11 l0 M 0) ∧ ((zOkR (zQ M l0 0) l3 M) ∧ ((zHasQ 9 11 l0 M 0) ∧ ((zOkR (zQ M l0 0) l1 M) ∧ ((zHasC 80 303 (zQ M l0 10) M 37 5) ∧ ((p37_0 n (zQ M l0 10) (zQ M (zQ M l0 0) l3.toNatClampNeg) l4 (zQ M (zQ M l0 0) l1.toNatClampNeg) l2 l5 M) ∧ (p80_105 n  l0 (b37_0 n (zQ M l0 10) (zQ M (zQ M l0 0) l3.toNatClampNeg) l4 (zQ M (zQ M l0 0) l1.toNatClampNeg) l2 l5 M))))))))) ∧ (¬ l3 ≤ l1 → (zHasQ 9 71 l0 M 10) ∧ ((zHasQ 9 11 l0 M 0) ∧ ((zOkR (zQ M l0 0) l1 M) ∧ ((zHasQ 9 11 l0 M 0) ∧ ((zOkR (zQ M l0 0) l3 M) ∧ ((zHasC 80 303 (zQ M l0 10) M 37 5) ∧ ((p37_0 n (zQ M l0 10) (zQ M (zQ M l0 0) l1.toNatClampNeg) l2 (zQ M (zQ M l0 0) l3.toNatClampNeg) l4 l5 M) ∧ (p80_78 n  l0 (b37_0 n (zQ M l0 10) (zQ M (zQ M l0 0) l1.toNatClampNeg) l2 (zQ M (zQ M l0 0) l3.toNatClampNeg) l4 l5 M))))))))))) ∧ (¬ s0 ≤ s1 → p80_46 n  M))
theorem s80_43 (n : Nat)    (l0 : Nat) (l1 : Int32) (l2 : Int32) (l3 : Int32) (l4 : Int32) (l5 : Int32) (s0 : Int32) (s1 : Int32) (M : zM) (hp : p80_43 n  l0 l1 l2 l3 l4 l5 s0 s1 M) {Q : Option Value → zM → Prop} (hQ : ∀ r M1, zRI (b80_43 n  l0 l1 l2 l3 l4 l5 s0 s1 M) r M1 → Q r M1) : zWP 80 43 [some (.ref l0), some (.int l1), some (.int l2), some (.int l3), some (.int l4), some (.int l5), none] [.int s1, .int s0] M Q := by
  unfold b80_43 at hQ
  unfold p80_43 at hp
  refine wp_ic_le (t := 49) rfl rfl (fun hc => ?_) (fun hc => ?_)
  · rw [if_pos hc] at hQ
    replace hp := hp.1 hc
    refine wp_go 2 (pc' := 51) (L' := [some (.ref l0), some (.int l1), some (.int l2), some (.int l3), some (.int l4), some (.int l5), none]) (st' := [.int l3, .int l1]) (M' := M) rfl ?_
    refine wp_ic_ge (t := 81) rfl rfl (fun hc => ?_) (fun hc => ?_)
    · rw [if_pos hc] at hQ
      replace hp := hp.1 hc
      refine wp_go 1 (pc' := 82) (L' := [some (.ref l0), some (.int l1), some (.int l2), some (.int l3), some (.int l4), some (.int l5), none]) (st' := [.ref l0]) (M' := M) rfl ?_
      obtain ⟨hc, hp⟩ := hp
      refine wq_getQ (j := 10) rfl hc ?_
      refine wp_go 1 (pc' := 86) (L' := [some (.ref l0), some (.int l1), some (.int l2), some (.int l3), some (.int l4), some (.int l5), none]) (st' := [.ref l0, .ref (zQ M l0 10)]) (M' := M) rfl ?_
      obtain ⟨hc, hp⟩ := hp
      refine wq_getQ (j := 0) rfl hc ?_
      refine wp_go 1 (pc' := 90) (L' := [some (.ref l0), some (.int l1), some (.int l2), some (.int l3), some (.int l4), some (.int l5), none]) (st' := [.int l3, .ref (zQ M l0 0), .ref (zQ M l0 10)]) (M' := M) rfl ?_
      obtain ⟨hc, hp⟩ := hp
      refine wq_aald rfl hc ?_
      refine wp_go 2 (pc' := 94) (L' := [some (.ref l0), some (.int l1), some (.int l2), some (.int l3), some (.int l4), some (.int l5), none]) (st' := [.ref l0, .int l4, .ref (zQ M (zQ M l0 0) l3.toNatClampNeg), .ref (zQ M l0 10)]) (M' := M) rfl ?_
      obtain ⟨hc, hp⟩ := hp
      refine wq_getQ (j := 0) rfl hc ?_
      refine wp_go 1 (pc' := 98) (L' := [some (.ref l0), some (.int l1), some (.int l2), some (.int l3), some (.int l4), some (.int l5), none]) (st' := [.int l1, .ref (zQ M l0 0), .int l4, .ref (zQ M (zQ M l0 0) l3.toNatClampNeg), .ref (zQ M l0 10)]) (M' := M) rfl ?_
      obtain ⟨hc, hp⟩ := hp
      refine wq_aald rfl hc ?_
      refine wp_go 2 (pc' := 102) (L' := [some (.ref l0), some (.int l1), some (.int l2), some (.int l3), some (.int l4), some (.int l5), none]) (st' := [.int l5, .int l2, .ref (zQ M (zQ M l0 0) l1.toNatClampNeg), .int l4, .ref (zQ M (zQ M l0 0) l3.toNatClampNeg), .ref (zQ M l0 10)]) (M' := M) rfl ?_
      obtain ⟨hv, hp⟩ := hp
      obtain ⟨hc, hp⟩ := hp
      refine wp_callv (M1 := (b37_0 n (zQ M l0 10) (zQ M (zQ M l0 0) l3.toNatClampNeg) l4 (zQ M (zQ M l0 0) l1.toNatClampNeg) l2 l5 M)) rfl rfl rfl (zInv_v (np := 5) rfl rfl hv rfl) (s37_0 n (zQ M l0 10) (zQ M (zQ M l0 0) l3.toNatClampNeg) l4 (zQ M (zQ M l0 0) l1.toNatClampNeg) l2 l5 M hc (fun r M1 h => h)) ?_
      refine wp_le [some (.ref l0), none, none, none, none, none, none] (zLe_of (by simp [zLeB])) ?_
      exact s80_105 n    l0 (b37_0 n (zQ M l0 10) (zQ M (zQ M l0 0) l3.toNatClampNeg) l4 (zQ M (zQ M l0 0) l1.toNatClampNeg) l2 l5 M) hp hQ
    · rw [if_neg hc] at hQ
      replace hp := hp.2 hc
      refine wp_go 1 (pc' := 55) (L' := [some (.ref l0), some (.int l1), some (.int l2), some (.int l3), some (.int l4), some (.int l5), none]) (st' := [.ref l0]) (M' := M) rfl ?_
      obtain ⟨hc, hp⟩ := hp
      refine wq_getQ (j := 10) rfl hc ?_
      refine wp_go 1 (pc' := 59) (L' := [some (.ref l0), some (.int l1), some (.int l2), some (.int l3), some (.int l4), some (.int l5), none]) (st' := [.ref l0, .ref (zQ M l0 10)]) (M' := M) rfl ?_
      obtain ⟨hc, hp⟩ := hp
      refine wq_getQ (j := 0) rfl hc ?_
      refine wp_go 1 (pc' := 63) (L' := [some (.ref l0), some (.int l1), some (.int l2), some (.int l3), some (.int l4), some (.int l5), none]) (st' := [.int l1, .ref (zQ M l0 0), .ref (zQ M l0 10)]) (M' := M) rfl ?_
      obtain ⟨hc, hp⟩ := hp
      refine wq_aald rfl hc ?_
      refine wp_go 2 (pc' := 66) (L' := [some (.ref l0), some (.int l1), some (.int l2), some (.int l3), some (.int l4), some (.int l5), none]) (st' := [.ref l0, .int l2, .ref (zQ M (zQ M l0 0) l1.toNatClampNeg), .ref (zQ M l0 10)]) (M' := M) rfl ?_
      obtain ⟨hc, hp⟩ := hp
      refine wq_getQ (j := 0) rfl hc ?_
      refine wp_go 1 (pc' := 70) (L' := [some (.ref l0), some (.int l1), some (.int l2), some (.int l3), some (.int l4), some (.int l5), none]) (st' := [.int l3, .ref (zQ M l0 0), .int l2, .ref (zQ M (zQ M l0 0) l1.toNatClampNeg), .ref (zQ M l0 10)]) (M' := M) rfl ?_
      obtain ⟨hc, hp⟩ := hp
      refine wq_aald rfl hc ?_
      refine wp_go 2 (pc' := 75) (L' := [some (.ref l0), some (.int l1), some (.int l2), some (.int l3), some (.int l4), some (.int l5), none]) (st' := [.int l5, .int l4, .ref (zQ M (zQ M l0 0) l3.toNatClampNeg), .int l2, .ref (zQ M (zQ M l0 0) l1.toNatClampNeg), .ref (zQ M l0 10)]) (M' := M) rfl ?_
      obtain ⟨hv, hp⟩ := hp
      obtain ⟨hc, hp⟩ := hp
      refine wp_callv (M1 := (b37_0 n (zQ M l0 10) (zQ M (zQ M l0 0) l1.toNatClampNeg) l2 (zQ M (zQ M l0 0) l3.toNatClampNeg) l4 l5 M)) rfl rfl rfl (zInv_v (np := 5) rfl rfl hv rfl) (s37_0 n (zQ M l0 10) (zQ M (zQ M l0 0) l1.toNatClampNeg) l2 (zQ M (zQ M l0 0) l3.toNatClampNeg) l4 l5 M hc (fun r M1 h => h)) ?_
      refine wp_le [some (.ref l0), none, none, none, none, none, none] (zLe_of (by simp [zLeB])) ?_
      exact s80_78 n    l0 (b37_0 n (zQ M l0 10) (zQ M (zQ M l0 0) l1.toNatClampNeg) l2 (zQ M (zQ M l0 0) l3.toNatClampNeg) l4 l5 M) hp hQ
  · rw [if_neg hc] at hQ
    replace hp := hp.2 hc
    refine wp_le [none, none, none, none, none, none, none] (zLe_of (by simp [zLeB])) ?_
    exact s80_46 n    M hp hQ
def b80_9 (n : Nat)  (l0 : Nat) (l1 : Int32) (l2 : Int32) (l3 : Int32) (l4 : Int32) (l5 : Int32) (s0 : Int32) (M : zM) : Int32 × zM := (if s0 = 0 then (((-1) : Int32), M) else (if l5 < (1 : Int32) then b80_46 n  M else b80_43 n  l0 l1 l2 l3 l4 l5 l5 (b194_0 n (zI M (zQ M (zQ M l0 0) l1.toNatClampNeg) 7) (zI M (zQ M (zQ M l0 0) l3.toNatClampNeg) 7) M).1 (b194_0 n (zI M (zQ M (zQ M l0 0) l1.toNatClampNeg) 7) (zI M (zQ M (zQ M l0 0) l3.toNatClampNeg) 7) M).2))
def p80_9 (n : Nat)  (l0 : Nat) (l1 : Int32) (l2 : Int32) (l3 : Int32) (l4 : Int32) (l5 : Int32) (s0 : Int32) (M : zM) : Prop := ((s0 = 0 → True) ∧ (¬ s0 = 0 → ((l5 < (1 : Int32) → p80_46 n  M) ∧ (¬ l5 < (1 : Int32) → (zHasQ 9 11 l0 M 0) ∧ ((zOkR (zQ M l0 0) l1 M) ∧ ((zHasI 9 128 (zQ M (zQ M l0 0) l1.toNatClampNeg) M 7) ∧ ((zHasQ 9 11 l0 M 0) ∧ ((zOkR (zQ M l0 0) l3 M) ∧ ((zHasI 9 128 (zQ M (zQ M l0 0) l3.toNatClampNeg) M 7) ∧ ((p194_0 n (zI M (zQ M (zQ M l0 0) l1.toNatClampNeg) 7) (zI M (zQ M (zQ M l0 0) l3.toNatClampNeg) 7) M) ∧ (p80_43 n  l0 l1 l2 l3 l4 l5 l5 (b194_0 n (zI M (zQ M (zQ M l0 0) l1.toNatClampNeg) 7) (zI M (zQ M (zQ M l0 0) l3.toNatClampNeg) 7) M).1 (b194_0 n (zI M (zQ M (zQ M l0 0) l1.toNatClampNeg) 7) (zI M (zQ M (zQ M l0 0) l3.toNatClampNeg) 7) M).2)))))))))))
theorem s80_9 (n : Nat)    (l0 : Nat) (l1 : Int32) (l2 : Int32) (l3 : Int32) (l4 : Int32) (l5 : Int32) (s0 : Int32) (M : zM) (hp : p80_9 n  l0 l1 l2 l3 l4 l5 s0 M) {Q : Option Value → zM → Prop} (hQ : ∀ r M1, zRI (b80_9 n  l0 l1 l2 l3 l4 l5 s0 M) r M1 → Q r M1) : zWP 80 9 [some (.ref l0), some (.int l1), some (.int l2), some (.int l3), some (.int l4), some (.int l5), none] [.int s0] M Q := by
  unfold b80_9 at hQ
  unfold p80_9 at hp
  refine wp_if_ne (t := 14) rfl rfl (fun hc => ?_) (fun hc => ?_)
  · rw [if_neg hc] at hQ
    replace hp := hp.2 hc
    refine wp_go 2 (pc' := 17) (L' := [some (.ref l0), some (.int l1), some (.int l2), some (.int l3), some (.int l4), some (.int l5), none]) (st' := [.int (1 : Int32), .int l5]) (M' := M) rfl ?_
    refine wp_ic_lt (t := 46) rfl rfl (fun hc => ?_) (fun hc => ?_)
    · rw [if_pos hc] at hQ
      replace hp := hp.1 hc
      refine wp_le [none, none, none, none, none, none, none] (zLe_of (by simp [zLeB])) ?_
      exact s80_46 n    M hp hQ
    · rw [if_neg hc] at hQ
      replace hp := hp.2 hc
      refine wp_go 2 (pc' := 23) (L' := [some (.ref l0), some (.int l1), some (.int l2), some (.int l3), some (.int l4), some (.int l5), none]) (st' := [.ref l0, .int l5]) (M' := M) rfl ?_
      obtain ⟨hc, hp⟩ := hp
      refine wq_getQ (j := 0) rfl hc ?_
      refine wp_go 1 (pc' := 27) (L' := [some (.ref l0), some (.int l1), some (.int l2), some (.int l3), some (.int l4), some (.int l5), none]) (st' := [.int l1, .ref (zQ M l0 0), .int l5]) (M' := M) rfl ?_
      obtain ⟨hc, hp⟩ := hp
      refine wq_aald rfl hc ?_
      obtain ⟨hc, hp⟩ := hp
      refine wq_getI (j := 7) rfl hc ?_
      refine wp_go 1 (pc' := 32) (L' := [some (.ref l0), some (.int l1), some (.int l2), some (.int l3), some (.int l4), some (.int l5), none]) (st' := [.ref l0, .int (zI M (zQ M (zQ M l0 0) l1.toNatClampNeg) 7), .int l5]) (M' := M) rfl ?_
      obtain ⟨hc, hp⟩ := hp
      refine wq_getQ (j := 0) rfl hc ?_
      refine wp_go 1 (pc' := 36) (L' := [some (.ref l0), some (.int l1), some (.int l2), some (.int l3), some (.int l4), some (.int l5), none]) (st' := [.int l3, .ref (zQ M l0 0), .int (zI M (zQ M (zQ M l0 0) l1.toNatClampNeg) 7), .int l5]) (M' := M) rfl ?_
      obtain ⟨hc, hp⟩ := hp
      refine wq_aald rfl hc ?_
      obtain ⟨hc, hp⟩ := hp
      refine wq_getI (j := 7) rfl hc ?_
      obtain ⟨hc, hp⟩ := hp
      refine wp_calli (v := (b194_0 n (zI M (zQ M (zQ M l0 0) l1.toNatClampNeg) 7) (zI M (zQ M (zQ M l0 0) l3.toNatClampNeg) 7) M).1) (M1 := (b194_0 n (zI M (zQ M (zQ M l0 0) l1.toNatClampNeg) 7) (zI M (zQ M (zQ M l0 0) l3.toNatClampNeg) 7) M).2) rfl rfl rfl rfl (s194_0 n (zI M (zQ M (zQ M l0 0) l1.toNatClampNeg) 7) (zI M (zQ M (zQ M l0 0) l3.toNatClampNeg) 7) M hc (fun r M1 h => h)) ?_
      exact s80_43 n    l0 l1 l2 l3 l4 l5 l5 (b194_0 n (zI M (zQ M (zQ M l0 0) l1.toNatClampNeg) 7) (zI M (zQ M (zQ M l0 0) l3.toNatClampNeg) 7) M).1 (b194_0 n (zI M (zQ M (zQ M l0 0) l1.toNatClampNeg) 7) (zI M (zQ M (zQ M l0 0) l3.toNatClampNeg) 7) M).2 hp hQ
  · rw [if_pos hc] at hQ
    replace hp := hp.1 hc
    refine wp_go 1 (pc' := 13) (L' := [some (.ref l0), some (.int l1), some (.int l2), some (.int l3), some (.int l4), some (.int l5), none]) (st' := [.int ((-1) : Int32)]) (M' := M) rfl ?_
    exact wp_ret (r := some (.int ((-1) : Int32))) rfl rfl (hQ _ _ ⟨rfl, rfl⟩)
def b80_0 (n : Nat)  (l0 : Nat) (l1 : Int32) (l2 : Int32) (l3 : Int32) (l4 : Int32) (l5 : Int32) (M : zM) : Int32 × zM := b80_9 n  l0 l1 l2 l3 l4 l5 (b93_0 n l0 l1 l2 l3 l4 M).1 (b93_0 n l0 l1 l2 l3 l4 M).2
def p80_0 (n : Nat)  (l0 : Nat) (l1 : Int32) (l2 : Int32) (l3 : Int32) (l4 : Int32) (l5 : Int32) (M : zM) : Prop := (zHasC 80 237 l0 M 93 4) ∧ ((p93_0 n l0 l1 l2 l3 l4 M) ∧ (p80_9 n  l0 l1 l2 l3 l4 l5 (b93_0 n l0 l1 l2 l3 l4 M).1 (b93_0 n l0 l1 l2 l3 l4 M).2))
theorem s80_0 (n : Nat)    (l0 : Nat) (l1 : Int32) (l2 : Int32) (l3 : Int32) (l4 : Int32) (l5 : Int32) (M : zM) (hp : p80_0 n  l0 l1 l2 l3 l4 l5 M) {Q : Option Value → zM → Prop} (hQ : ∀ r M1, zRI (b80_0 n  l0 l1 l2 l3 l4 l5 M) r M1 → Q r M1) : zWP 80 0 [some (.ref l0), some (.int l1), some (.int l2), some (.int l3), some (.int l4), some (.int l5), none] [] M Q := by
  unfold b80_0 at hQ
  unfold p80_0 at hp
  refine wp_go 5 (pc' := 6) (L' := [some (.ref l0), some (.int l1), some (.int l2), some (.int l3), some (.int l4), some (.int l5), none]) (st' := [.int l4, .int l3, .int l2, .int l1, .ref l0]) (M' := M) rfl ?_
  obtain ⟨hv, hp⟩ := hp
  obtain ⟨hc, hp⟩ := hp
  refine wp_calli (v := (b93_0 n l0 l1 l2 l3 l4 M).1) (M1 := (b93_0 n l0 l1 l2 l3 l4 M).2) rfl rfl rfl (zInv_v (np := 4) rfl rfl hv rfl) (s93_0 n l0 l1 l2 l3 l4 M hc (fun r M1 h => h)) ?_
  exact s80_9 n    l0 l1 l2 l3 l4 l5 (b93_0 n l0 l1 l2 l3 l4 M).1 (b93_0 n l0 l1 l2 l3 l4 M).2 hp hQ
/-! X11_part -/
def b81_44 (n : Nat)  (l0 : Nat) (M : zM) : Int32 × zM := ((zI M (zQ M l0 4) 6), M)
def p81_44 (n : Nat)  (l0 : Nat) (M : zM) : Prop := (zHasQ 9 35 l0 M 4) ∧ ((zHasI 9 325 (zQ M l0 4) M 6) ∧ (True))
theorem s81_44 (n : Nat)    (l0 : Nat) (M : zM) (hp : p81_44 n  l0 M) {Q : Option Value → zM → Prop} (hQ : ∀ r M1, zRI (b81_44 n  l0 M) r M1 → Q r M1) : zWP 81 44 [some (.ref l0), none] [] M Q := by
  unfold b81_44 at hQ
  unfold p81_44 at hp
  refine wp_go 1 (pc' := 45) (L' := [some (.ref l0), none]) (st' := [.ref l0]) (M' := M) rfl ?_
  obtain ⟨hc, hp⟩ := hp
  refine wq_getQ (j := 4) rfl hc ?_
  obtain ⟨hc, hp⟩ := hp
  refine wq_getI (j := 6) rfl hc ?_
  exact wp_ret (r := some (.int (zI M (zQ M l0 4) 6))) rfl rfl (hQ _ _ ⟨rfl, rfl⟩)
def b81_25 (n : Nat)  (l0 : Nat) (M : zM) : Int32 × zM := b81_44 n  l0 (b22_0 n (zQ M l0 4) (zQ M l0 0) (zI M l0 12) (zQ M l0 3) M)
def p81_25 (n : Nat)  (l0 : Nat) (M : zM) : Prop := (zHasQ 9 35 l0 M 4) ∧ ((zHasQ 9 11 l0 M 0) ∧ ((zHasI 9 78 l0 M 12) ∧ ((zHasQ 9 28 l0 M 3) ∧ ((zHasC 81 113 (zQ M l0 4) M 22 3) ∧ ((p22_0 n (zQ M l0 4) (zQ M l0 0) (zI M l0 12) (zQ M l0 3) M) ∧ (p81_44 n  l0 (b22_0 n (zQ M l0 4) (zQ M l0 0) (zI M l0 12) (zQ M l0 3) M)))))))
theorem s81_25 (n : Nat)    (l0 : Nat) (M : zM) (hp : p81_25 n  l0 M) {Q : Option Value → zM → Prop} (hQ : ∀ r M1, zRI (b81_25 n  l0 M) r M1 → Q r M1) : zWP 81 25 [some (.ref l0), none] [] M Q := by
  unfold b81_25 at hQ
  unfold p81_25 at hp
  refine wp_go 1 (pc' := 26) (L' := [some (.ref l0), none]) (st' := [.ref l0]) (M' := M) rfl ?_
  obtain ⟨hc, hp⟩ := hp
  refine wq_getQ (j := 4) rfl hc ?_
  refine wp_go 1 (pc' := 30) (L' := [some (.ref l0), none]) (st' := [.ref l0, .ref (zQ M l0 4)]) (M' := M) rfl ?_
  obtain ⟨hc, hp⟩ := hp
  refine wq_getQ (j := 0) rfl hc ?_
  refine wp_go 1 (pc' := 34) (L' := [some (.ref l0), none]) (st' := [.ref l0, .ref (zQ M l0 0), .ref (zQ M l0 4)]) (M' := M) rfl ?_
  obtain ⟨hc, hp⟩ := hp
  refine wq_getI (j := 12) rfl hc ?_
  refine wp_go 1 (pc' := 38) (L' := [some (.ref l0), none]) (st' := [.ref l0, .int (zI M l0 12), .ref (zQ M l0 0), .ref (zQ M l0 4)]) (M' := M) rfl ?_
  obtain ⟨hc, hp⟩ := hp
  refine wq_getQ (j := 3) rfl hc ?_
  obtain ⟨hv, hp⟩ := hp
  obtain ⟨hc, hp⟩ := hp
  refine wp_callv (M1 := (b22_0 n (zQ M l0 4) (zQ M l0 0) (zI M l0 12) (zQ M l0 3) M)) rfl rfl rfl (zInv_v (np := 3) rfl rfl hv rfl) (s22_0 n (zQ M l0 4) (zQ M l0 0) (zI M l0 12) (zQ M l0 3) M hc (fun r M1 h => h)) ?_
  exact s81_44 n    l0 (b22_0 n (zQ M l0 4) (zQ M l0 0) (zI M l0 12) (zQ M l0 3) M) hp hQ
def b81_8 (n : Nat)  (l0 : Nat) (l1 : Int32) (s0 : Int32) (M : zM) : Int32 × zM := (if s0 = 0 then (((-1) : Int32), M) else b81_25 n  l0 (b18_0 n (zQ M l0 3) l1 (zQ M l0 0) M))
def p81_8 (n : Nat)  (l0 : Nat) (l1 : Int32) (s0 : Int32) (M : zM) : Prop := ((s0 = 0 → True) ∧ (¬ s0 = 0 → (zHasQ 9 28 l0 M 3) ∧ ((zHasQ 9 11 l0 M 0) ∧ ((zHasC 81 321 (zQ M l0 3) M 18 2) ∧ ((p18_0 n (zQ M l0 3) l1 (zQ M l0 0) M) ∧ (p81_25 n  l0 (b18_0 n (zQ M l0 3) l1 (zQ M l0 0) M)))))))
theorem s81_8 (n : Nat)    (l0 : Nat) (l1 : Int32) (s0 : Int32) (M : zM) (hp : p81_8 n  l0 l1 s0 M) {Q : Option Value → zM → Prop} (hQ : ∀ r M1, zRI (b81_8 n  l0 l1 s0 M) r M1 → Q r M1) : zWP 81 8 [some (.ref l0), some (.int l1)] [.int s0] M Q := by
  unfold b81_8 at hQ
  unfold p81_8 at hp
  refine wp_if_ne (t := 13) rfl rfl (fun hc => ?_) (fun hc => ?_)
  · rw [if_neg hc] at hQ
    replace hp := hp.2 hc
    refine wp_go 1 (pc' := 14) (L' := [some (.ref l0), some (.int l1)]) (st' := [.ref l0]) (M' := M) rfl ?_
    obtain ⟨hc, hp⟩ := hp
    refine wq_getQ (j := 3) rfl hc ?_
    refine wp_go 2 (pc' := 19) (L' := [some (.ref l0), some (.int l1)]) (st' := [.ref l0, .int l1, .ref (zQ M l0 3)]) (M' := M) rfl ?_
    obtain ⟨hc, hp⟩ := hp
    refine wq_getQ (j := 0) rfl hc ?_
    obtain ⟨hv, hp⟩ := hp
    obtain ⟨hc, hp⟩ := hp
    refine wp_callv (M1 := (b18_0 n (zQ M l0 3) l1 (zQ M l0 0) M)) rfl rfl rfl (zInv_v (np := 2) rfl rfl hv rfl) (s18_0 n (zQ M l0 3) l1 (zQ M l0 0) M hc (fun r M1 h => h)) ?_
    refine wp_le [some (.ref l0), none] (zLe_of (by simp [zLeB])) ?_
    exact s81_25 n    l0 (b18_0 n (zQ M l0 3) l1 (zQ M l0 0) M) hp hQ
  · rw [if_pos hc] at hQ
    replace hp := hp.1 hc
    refine wp_go 1 (pc' := 12) (L' := [some (.ref l0), some (.int l1)]) (st' := [.int ((-1) : Int32)]) (M' := M) rfl ?_
    exact wp_ret (r := some (.int ((-1) : Int32))) rfl rfl (hQ _ _ ⟨rfl, rfl⟩)
def b81_0 (n : Nat)  (l0 : Nat) (l1 : Int32) (M : zM) : Int32 × zM := b81_8 n  l0 l1 (b14_0 n (zQ M l0 3) l1 M).1 (b14_0 n (zQ M l0 3) l1 M).2
def p81_0 (n : Nat)  (l0 : Nat) (l1 : Int32) (M : zM) : Prop := (zHasQ 9 28 l0 M 3) ∧ ((zHasC 81 318 (zQ M l0 3) M 14 1) ∧ ((p14_0 n (zQ M l0 3) l1 M) ∧ (p81_8 n  l0 l1 (b14_0 n (zQ M l0 3) l1 M).1 (b14_0 n (zQ M l0 3) l1 M).2)))
theorem s81_0 (n : Nat)    (l0 : Nat) (l1 : Int32) (M : zM) (hp : p81_0 n  l0 l1 M) {Q : Option Value → zM → Prop} (hQ : ∀ r M1, zRI (b81_0 n  l0 l1 M) r M1 → Q r M1) : zWP 81 0 [some (.ref l0), some (.int l1)] [] M Q := by
  unfold b81_0 at hQ
  unfold p81_0 at hp
  refine wp_go 1 (pc' := 1) (L' := [some (.ref l0), some (.int l1)]) (st' := [.ref l0]) (M' := M) rfl ?_
  obtain ⟨hc, hp⟩ := hp
  refine wq_getQ (j := 3) rfl hc ?_
  refine wp_go 1 (pc' := 5) (L' := [some (.ref l0), some (.int l1)]) (st' := [.int l1, .ref (zQ M l0 3)]) (M' := M) rfl ?_
  obtain ⟨hv, hp⟩ := hp
  obtain ⟨hc, hp⟩ := hp
  refine wp_calli (v := (b14_0 n (zQ M l0 3) l1 M).1) (M1 := (b14_0 n (zQ M l0 3) l1 M).2) rfl rfl rfl (zInv_v (np := 1) rfl rfl hv rfl) (s14_0 n (zQ M l0 3) l1 M hc (fun r M1 h => h)) ?_
  exact s81_8 n    l0 l1 (b14_0 n (zQ M l0 3) l1 M).1 (b14_0 n (zQ M l0 3) l1 M).2 hp hQ
/-! X11_joined -/
def b82_114 (n : Nat)  (s0 : Int32) (M : zM) : Int32 × zM := (s0, M)
def p82_114 (n : Nat)  (s0 : Int32) (M : zM) : Prop := True
theorem s82_114 (n : Nat)    (s0 : Int32) (M : zM) (hp : p82_114 n  s0 M) {Q : Option Value → zM → Prop} (hQ : ∀ r M1, zRI (b82_114 n  s0 M) r M1 → Q r M1) : zWP 82 114 [none, none, none, none] [.int s0] M Q := by
  unfold b82_114 at hQ
  unfold p82_114 at hp
  exact wp_ret (r := some (.int s0)) rfl rfl (hQ _ _ ⟨rfl, rfl⟩)
def b82_127 (n : Nat)  (s0 : Int32) (M : zM) : Int32 × zM := (s0, M)
def p82_127 (n : Nat)  (s0 : Int32) (M : zM) : Prop := True
theorem s82_127 (n : Nat)    (s0 : Int32) (M : zM) (hp : p82_127 n  s0 M) {Q : Option Value → zM → Prop} (hQ : ∀ r M1, zRI (b82_127 n  s0 M) r M1 → Q r M1) : zWP 82 127 [none, none, none, none] [.int s0] M Q := by
  unfold b82_127 at hQ
  unfold p82_127 at hp
  exact wp_ret (r := some (.int s0)) rfl rfl (hQ _ _ ⟨rfl, rfl⟩)
def b82_8 (n : Nat)  (l0 : Nat) (l1 : Int32) (l2 : Int32) (s0 : Int32) (M : zM) : Int32 × zM := (if s0 = 0 then (((-1) : Int32), M) else (if l2 = 0 then ((zI M (zQ M (zQ M (zQ M l0 3) 0) l1.toNatClampNeg) 0), M) else if l2 = 1 then ((zI M (zQ M (zQ M (zQ M l0 3) 0) l1.toNatClampNeg) 1), M) else if l2 = 2 then ((zI M (zQ M (zQ M (zQ M l0 3) 0) l1.toNatClampNeg) 2), M) else if l2 = 3 then ((zI M (zQ M (zQ M (zQ M l0 3) 0) l1.toNatClampNeg) 3), M) else if l2 = 4 then ((zI M (zQ M (zQ M (zQ M l0 3) 0) l1.toNatClampNeg) 4), M) else if l2 = 5 then ((zI M (zQ M (zQ M (zQ M l0 3) 0) l1.toNatClampNeg) 5), M) else if l2 = 6 then (if (zI M (zQ M (zQ M (zQ M l0 3) 0) l1.toNatClampNeg) 8) = 0 then b82_114 n  (0 : Int32) M else b82_114 n  (1 : Int32) M) else if l2 = 7 then b82_127 n  (b27_0 n (zQ M l0 4) (zQ M (zQ M (zQ M l0 3) 0) l1.toNatClampNeg) (zQ M l0 0) M).1 (b27_0 n (zQ M l0 4) (zQ M (zQ M (zQ M l0 3) 0) l1.toNatClampNeg) (zQ M l0 0) M).2 else (((-1) : Int32), M)))
def p82_8 (n : Nat)  (l0 : Nat) (l1 : Int32) (l2 : Int32) (s0 : Int32) (M : zM) : Prop := ((s0 = 0 → True) ∧ (¬ s0 = 0 → (zHasQ 9 28 l0 M 3) ∧ ((zHasQ 9 328 (zQ M l0 3) M 0) ∧ ((zOkR (zQ M (zQ M l0 3) 0) l1 M) ∧ (((l2 = 0 → (zHasI 9 332 (zQ M (zQ M (zQ M l0 3) 0) l1.toNatClampNeg) M 0) ∧ (True)) ∧ (¬ l2 = 0 → (l2 = 1 → (zHasI 9 337 (zQ M (zQ M (zQ M l0 3) 0) l1.toNatClampNeg) M 1) ∧ (True)) ∧ (¬ l2 = 1 → (l2 = 2 → (zHasI 9 338 (zQ M (zQ M (zQ M l0 3) 0) l1.toNatClampNeg) M 2) ∧ (True)) ∧ (¬ l2 = 2 → (l2 = 3 → (zHasI 9 341 (zQ M (zQ M (zQ M l0 3) 0) l1.toNatClampNeg) M 3) ∧ (True)) ∧ (¬ l2 = 3 → (l2 = 4 → (zHasI 9 342 (zQ M (zQ M (zQ M l0 3) 0) l1.toNatClampNeg) M 4) ∧ (True)) ∧ (¬ l2 = 4 → (l2 = 5 → (zHasI 9 343 (zQ M (zQ M (zQ M l0 3) 0) l1.toNatClampNeg) M 5) ∧ (True)) ∧ (¬ l2 = 5 → (l2 = 6 → (zHasI 9 344 (zQ M (zQ M (zQ M l0 3) 0) l1.toNatClampNeg) M 8) ∧ ((((zI M (zQ M (zQ M (zQ M l0 3) 0) l1.toNatClampNeg) 8) = 0 → p82_114 n  (0 : Int32) M) ∧ (¬ (zI M (zQ M (zQ M (zQ M l0 3) 0) l1.toNatClampNeg) 8) = 0 → p82_114 n  (1 : Int32) M)))) ∧ (¬ l2 = 6 → (l2 = 7 → (zHasQ 9 35 l0 M 4) ∧ ((zHasQ 9 11 l0 M 0) ∧ ((zHasC 82 347 (zQ M l0 4) M 27 2) ∧ ((p27_0 n (zQ M l0 4) (zQ M (zQ M (zQ M l0 3) 0) l1.toNatClampNeg) (zQ M l0 0) M) ∧ (p82_127 n  (b27_0 n (zQ M l0 4) (zQ M (zQ M (zQ M l0 3) 0) l1.toNatClampNeg) (zQ M l0 0) M).1 (b27_0 n (zQ M l0 4) (zQ M (zQ M (zQ M l0 3) 0) l1.toNatClampNeg) (zQ M l0 0) M).2))))) ∧ (¬ l2 = 7 → True))))))))))))))
theorem s82_8 (n : Nat)    (l0 : Nat) (l1 : Int32) (l2 : Int32) (s0 : Int32) (M : zM) (hp : p82_8 n  l0 l1 l2 s0 M) {Q : Option Value → zM → Prop} (hQ : ∀ r M1, zRI (b82_8 n  l0 l1 l2 s0 M) r M1 → Q r M1) : zWP 82 8 [some (.ref l0), some (.int l1), some (.int l2), none] [.int s0] M Q := by
  unfold b82_8 at hQ
  unfold p82_8 at hp
  refine wp_if_ne (t := 13) rfl rfl (fun hc => ?_) (fun hc => ?_)
  · rw [if_neg hc] at hQ
    replace hp := hp.2 hc
    refine wp_go 1 (pc' := 14) (L' := [some (.ref l0), some (.int l1), some (.int l2), none]) (st' := [.ref l0]) (M' := M) rfl ?_
    obtain ⟨hc, hp⟩ := hp
    refine wq_getQ (j := 3) rfl hc ?_
    obtain ⟨hc, hp⟩ := hp
    refine wq_getQ (j := 0) rfl hc ?_
    refine wp_go 1 (pc' := 21) (L' := [some (.ref l0), some (.int l1), some (.int l2), none]) (st' := [.int l1, .ref (zQ M (zQ M l0 3) 0)]) (M' := M) rfl ?_
    obtain ⟨hc, hp⟩ := hp
    refine wq_aald rfl hc ?_
    refine wp_go 2 (pc' := 24) (L' := [some (.ref l0), some (.int l1), some (.int l2), some (.ref (zQ M (zQ M (zQ M l0 3) 0) l1.toNatClampNeg))]) (st' := [.int l2]) (M' := M) rfl ?_
    by_cases hc0 : l2 = 0
    · rw [if_pos hc0] at hQ
      replace hp := hp.1 hc0
      refine wp_tabI rfl hc0 (t := 72) rfl ?_
      refine wp_go 1 (pc' := 73) (L' := [some (.ref l0), some (.int l1), some (.int l2), some (.ref (zQ M (zQ M (zQ M l0 3) 0) l1.toNatClampNeg))]) (st' := [.ref (zQ M (zQ M (zQ M l0 3) 0) l1.toNatClampNeg)]) (M' := M) rfl ?_
      obtain ⟨hc, hp⟩ := hp
      refine wq_getI (j := 0) rfl hc ?_
      exact wp_ret (r := some (.int (zI M (zQ M (zQ M (zQ M l0 3) 0) l1.toNatClampNeg) 0))) rfl rfl (hQ _ _ ⟨rfl, rfl⟩)
    rw [if_neg hc0] at hQ
    replace hp := hp.2 hc0
    by_cases hc1 : l2 = 1
    · rw [if_pos hc1] at hQ
      replace hp := hp.1 hc1
      refine wp_tabI rfl hc1 (t := 77) rfl ?_
      refine wp_go 1 (pc' := 78) (L' := [some (.ref l0), some (.int l1), some (.int l2), some (.ref (zQ M (zQ M (zQ M l0 3) 0) l1.toNatClampNeg))]) (st' := [.ref (zQ M (zQ M (zQ M l0 3) 0) l1.toNatClampNeg)]) (M' := M) rfl ?_
      obtain ⟨hc, hp⟩ := hp
      refine wq_getI (j := 1) rfl hc ?_
      exact wp_ret (r := some (.int (zI M (zQ M (zQ M (zQ M l0 3) 0) l1.toNatClampNeg) 1))) rfl rfl (hQ _ _ ⟨rfl, rfl⟩)
    rw [if_neg hc1] at hQ
    replace hp := hp.2 hc1
    by_cases hc2 : l2 = 2
    · rw [if_pos hc2] at hQ
      replace hp := hp.1 hc2
      refine wp_tabI rfl hc2 (t := 82) rfl ?_
      refine wp_go 1 (pc' := 83) (L' := [some (.ref l0), some (.int l1), some (.int l2), some (.ref (zQ M (zQ M (zQ M l0 3) 0) l1.toNatClampNeg))]) (st' := [.ref (zQ M (zQ M (zQ M l0 3) 0) l1.toNatClampNeg)]) (M' := M) rfl ?_
      obtain ⟨hc, hp⟩ := hp
      refine wq_getI (j := 2) rfl hc ?_
      exact wp_ret (r := some (.int (zI M (zQ M (zQ M (zQ M l0 3) 0) l1.toNatClampNeg) 2))) rfl rfl (hQ _ _ ⟨rfl, rfl⟩)
    rw [if_neg hc2] at hQ
    replace hp := hp.2 hc2
    by_cases hc3 : l2 = 3
    · rw [if_pos hc3] at hQ
      replace hp := hp.1 hc3
      refine wp_tabI rfl hc3 (t := 87) rfl ?_
      refine wp_go 1 (pc' := 88) (L' := [some (.ref l0), some (.int l1), some (.int l2), some (.ref (zQ M (zQ M (zQ M l0 3) 0) l1.toNatClampNeg))]) (st' := [.ref (zQ M (zQ M (zQ M l0 3) 0) l1.toNatClampNeg)]) (M' := M) rfl ?_
      obtain ⟨hc, hp⟩ := hp
      refine wq_getI (j := 3) rfl hc ?_
      exact wp_ret (r := some (.int (zI M (zQ M (zQ M (zQ M l0 3) 0) l1.toNatClampNeg) 3))) rfl rfl (hQ _ _ ⟨rfl, rfl⟩)
    rw [if_neg hc3] at hQ
    replace hp := hp.2 hc3
    by_cases hc4 : l2 = 4
    · rw [if_pos hc4] at hQ
      replace hp := hp.1 hc4
      refine wp_tabI rfl hc4 (t := 92) rfl ?_
      refine wp_go 1 (pc' := 93) (L' := [some (.ref l0), some (.int l1), some (.int l2), some (.ref (zQ M (zQ M (zQ M l0 3) 0) l1.toNatClampNeg))]) (st' := [.ref (zQ M (zQ M (zQ M l0 3) 0) l1.toNatClampNeg)]) (M' := M) rfl ?_
      obtain ⟨hc, hp⟩ := hp
      refine wq_getI (j := 4) rfl hc ?_
      exact wp_ret (r := some (.int (zI M (zQ M (zQ M (zQ M l0 3) 0) l1.toNatClampNeg) 4))) rfl rfl (hQ _ _ ⟨rfl, rfl⟩)
    rw [if_neg hc4] at hQ
    replace hp := hp.2 hc4
    by_cases hc5 : l2 = 5
    · rw [if_pos hc5] at hQ
      replace hp := hp.1 hc5
      refine wp_tabI rfl hc5 (t := 97) rfl ?_
      refine wp_go 1 (pc' := 98) (L' := [some (.ref l0), some (.int l1), some (.int l2), some (.ref (zQ M (zQ M (zQ M l0 3) 0) l1.toNatClampNeg))]) (st' := [.ref (zQ M (zQ M (zQ M l0 3) 0) l1.toNatClampNeg)]) (M' := M) rfl ?_
      obtain ⟨hc, hp⟩ := hp
      refine wq_getI (j := 5) rfl hc ?_
      exact wp_ret (r := some (.int (zI M (zQ M (zQ M (zQ M l0 3) 0) l1.toNatClampNeg) 5))) rfl rfl (hQ _ _ ⟨rfl, rfl⟩)
    rw [if_neg hc5] at hQ
    replace hp := hp.2 hc5
    by_cases hc6 : l2 = 6
    · rw [if_pos hc6] at hQ
      replace hp := hp.1 hc6
      refine wp_tabI rfl hc6 (t := 102) rfl ?_
      refine wp_go 1 (pc' := 103) (L' := [some (.ref l0), some (.int l1), some (.int l2), some (.ref (zQ M (zQ M (zQ M l0 3) 0) l1.toNatClampNeg))]) (st' := [.ref (zQ M (zQ M (zQ M l0 3) 0) l1.toNatClampNeg)]) (M' := M) rfl ?_
      obtain ⟨hc, hp⟩ := hp
      refine wq_getI (j := 8) rfl hc ?_
      refine wp_if_eq (t := 113) rfl rfl (fun hc => ?_) (fun hc => ?_)
      · rw [if_pos hc] at hQ
        replace hp := hp.1 hc
        refine wp_go 1 (pc' := 114) (L' := [some (.ref l0), some (.int l1), some (.int l2), some (.ref (zQ M (zQ M (zQ M l0 3) 0) l1.toNatClampNeg))]) (st' := [.int (0 : Int32)]) (M' := M) rfl ?_
        refine wp_le [none, none, none, none] (zLe_of (by simp [zLeB])) ?_
        exact s82_114 n    (0 : Int32) M hp hQ
      · rw [if_neg hc] at hQ
        replace hp := hp.2 hc
        refine wp_go 2 (pc' := 114) (L' := [some (.ref l0), some (.int l1), some (.int l2), some (.ref (zQ M (zQ M (zQ M l0 3) 0) l1.toNatClampNeg))]) (st' := [.int (1 : Int32)]) (M' := M) rfl ?_
        refine wp_le [none, none, none, none] (zLe_of (by simp [zLeB])) ?_
        exact s82_114 n    (1 : Int32) M hp hQ
    rw [if_neg hc6] at hQ
    replace hp := hp.2 hc6
    by_cases hc7 : l2 = 7
    · rw [if_pos hc7] at hQ
      replace hp := hp.1 hc7
      refine wp_tabI rfl hc7 (t := 115) rfl ?_
      refine wp_go 1 (pc' := 116) (L' := [some (.ref l0), some (.int l1), some (.int l2), some (.ref (zQ M (zQ M (zQ M l0 3) 0) l1.toNatClampNeg))]) (st' := [.ref l0]) (M' := M) rfl ?_
      obtain ⟨hc, hp⟩ := hp
      refine wq_getQ (j := 4) rfl hc ?_
      refine wp_go 2 (pc' := 121) (L' := [some (.ref l0), some (.int l1), some (.int l2), some (.ref (zQ M (zQ M (zQ M l0 3) 0) l1.toNatClampNeg))]) (st' := [.ref l0, .ref (zQ M (zQ M (zQ M l0 3) 0) l1.toNatClampNeg), .ref (zQ M l0 4)]) (M' := M) rfl ?_
      obtain ⟨hc, hp⟩ := hp
      refine wq_getQ (j := 0) rfl hc ?_
      obtain ⟨hv, hp⟩ := hp
      obtain ⟨hc, hp⟩ := hp
      refine wp_calli (v := (b27_0 n (zQ M l0 4) (zQ M (zQ M (zQ M l0 3) 0) l1.toNatClampNeg) (zQ M l0 0) M).1) (M1 := (b27_0 n (zQ M l0 4) (zQ M (zQ M (zQ M l0 3) 0) l1.toNatClampNeg) (zQ M l0 0) M).2) rfl rfl rfl (zInv_v (np := 2) rfl rfl hv rfl) (s27_0 n (zQ M l0 4) (zQ M (zQ M (zQ M l0 3) 0) l1.toNatClampNeg) (zQ M l0 0) M hc (fun r M1 h => h)) ?_
      refine wp_le [none, none, none, none] (zLe_of (by simp [zLeB])) ?_
      exact s82_127 n    (b27_0 n (zQ M l0 4) (zQ M (zQ M (zQ M l0 3) 0) l1.toNatClampNeg) (zQ M l0 0) M).1 (b27_0 n (zQ M l0 4) (zQ M (zQ M (zQ M l0 3) 0) l1.toNatClampNeg) (zQ M l0 0) M).2 hp hQ
    rw [if_neg hc7] at hQ
    replace hp := hp.2 hc7
    refine wp_tabO (t := 128) rfl (by have e0 : ¬ (l2).toInt = 0 := fun h => hc0 (Int32.toInt_inj.mp h); have e1 : ¬ (l2).toInt = 1 := fun h => hc1 (Int32.toInt_inj.mp h); have e2 : ¬ (l2).toInt = 2 := fun h => hc2 (Int32.toInt_inj.mp h); have e3 : ¬ (l2).toInt = 3 := fun h => hc3 (Int32.toInt_inj.mp h); have e4 : ¬ (l2).toInt = 4 := fun h => hc4 (Int32.toInt_inj.mp h); have e5 : ¬ (l2).toInt = 5 := fun h => hc5 (Int32.toInt_inj.mp h); have e6 : ¬ (l2).toInt = 6 := fun h => hc6 (Int32.toInt_inj.mp h); have e7 : ¬ (l2).toInt = 7 := fun h => hc7 (Int32.toInt_inj.mp h); omega) rfl ?_
    refine wp_go 1 (pc' := 129) (L' := [some (.ref l0), some (.int l1), some (.int l2), some (.ref (zQ M (zQ M (zQ M l0 3) 0) l1.toNatClampNeg))]) (st' := [.int ((-1) : Int32)]) (M' := M) rfl ?_
    exact wp_ret (r := some (.int ((-1) : Int32))) rfl rfl (hQ _ _ ⟨rfl, rfl⟩)
  · rw [if_pos hc] at hQ
    replace hp := hp.1 hc
    refine wp_go 1 (pc' := 12) (L' := [some (.ref l0), some (.int l1), some (.int l2), none]) (st' := [.int ((-1) : Int32)]) (M' := M) rfl ?_
    exact wp_ret (r := some (.int ((-1) : Int32))) rfl rfl (hQ _ _ ⟨rfl, rfl⟩)
def b82_0 (n : Nat)  (l0 : Nat) (l1 : Int32) (l2 : Int32) (M : zM) : Int32 × zM := b82_8 n  l0 l1 l2 (b14_0 n (zQ M l0 3) l1 M).1 (b14_0 n (zQ M l0 3) l1 M).2
def p82_0 (n : Nat)  (l0 : Nat) (l1 : Int32) (l2 : Int32) (M : zM) : Prop := (zHasQ 9 28 l0 M 3) ∧ ((zHasC 82 318 (zQ M l0 3) M 14 1) ∧ ((p14_0 n (zQ M l0 3) l1 M) ∧ (p82_8 n  l0 l1 l2 (b14_0 n (zQ M l0 3) l1 M).1 (b14_0 n (zQ M l0 3) l1 M).2)))
theorem s82_0 (n : Nat)    (l0 : Nat) (l1 : Int32) (l2 : Int32) (M : zM) (hp : p82_0 n  l0 l1 l2 M) {Q : Option Value → zM → Prop} (hQ : ∀ r M1, zRI (b82_0 n  l0 l1 l2 M) r M1 → Q r M1) : zWP 82 0 [some (.ref l0), some (.int l1), some (.int l2), none] [] M Q := by
  unfold b82_0 at hQ
  unfold p82_0 at hp
  refine wp_go 1 (pc' := 1) (L' := [some (.ref l0), some (.int l1), some (.int l2), none]) (st' := [.ref l0]) (M' := M) rfl ?_
  obtain ⟨hc, hp⟩ := hp
  refine wq_getQ (j := 3) rfl hc ?_
  refine wp_go 1 (pc' := 5) (L' := [some (.ref l0), some (.int l1), some (.int l2), none]) (st' := [.int l1, .ref (zQ M l0 3)]) (M' := M) rfl ?_
  obtain ⟨hv, hp⟩ := hp
  obtain ⟨hc, hp⟩ := hp
  refine wp_calli (v := (b14_0 n (zQ M l0 3) l1 M).1) (M1 := (b14_0 n (zQ M l0 3) l1 M).2) rfl rfl rfl (zInv_v (np := 1) rfl rfl hv rfl) (s14_0 n (zQ M l0 3) l1 M hc (fun r M1 h => h)) ?_
  exact s82_8 n    l0 l1 l2 (b14_0 n (zQ M l0 3) l1 M).1 (b14_0 n (zQ M l0 3) l1 M).2 hp hQ
/-! X11_round -/
def b83_0 (n : Nat)  (l0 : Nat) (M : zM) : Int32 × zM := ((zI M l0 19), M)
def p83_0 (n : Nat)  (l0 : Nat) (M : zM) : Prop := (zHasI 9 100 l0 M 19) ∧ (True)
theorem s83_0 (n : Nat)    (l0 : Nat) (M : zM) (hp : p83_0 n  l0 M) {Q : Option Value → zM → Prop} (hQ : ∀ r M1, zRI (b83_0 n  l0 M) r M1 → Q r M1) : zWP 83 0 [some (.ref l0)] [] M Q := by
  unfold b83_0 at hQ
  unfold p83_0 at hp
  refine wp_go 1 (pc' := 1) (L' := [some (.ref l0)]) (st' := [.ref l0]) (M' := M) rfl ?_
  obtain ⟨hc, hp⟩ := hp
  refine wq_getI (j := 19) rfl hc ?_
  exact wp_ret (r := some (.int (zI M l0 19))) rfl rfl (hQ _ _ ⟨rfl, rfl⟩)
/-! X11_lies -/
def b84_13 (n : Nat)   (M : zM) : Int32 × zM := (((-1) : Int32), M)
def p84_13 (n : Nat)   (M : zM) : Prop := True
theorem s84_13 (n : Nat)     (M : zM) (hp : p84_13 n   M) {Q : Option Value → zM → Prop} (hQ : ∀ r M1, zRI (b84_13 n   M) r M1 → Q r M1) : zWP 84 13 [none, none] [] M Q := by
  unfold b84_13 at hQ
  unfold p84_13 at hp
  refine wp_go 1 (pc' := 14) (L' := [none, none]) (st' := [.int ((-1) : Int32)]) (M' := M) rfl ?_
  exact wp_ret (r := some (.int ((-1) : Int32))) rfl rfl (hQ _ _ ⟨rfl, rfl⟩)
def b84_0 (n : Nat)  (l0 : Nat) (l1 : Int32) (M : zM) : Int32 × zM := (if l1 < 0 then b84_13 n  M else (if l1 < (Int32.ofNat (zS M (zQ M l0 11)).2) then ((zI M (zQ M l0 11) l1.toNatClampNeg), M) else b84_13 n  M))
def p84_0 (n : Nat)  (l0 : Nat) (l1 : Int32) (M : zM) : Prop := ((l1 < 0 → p84_13 n  M) ∧ (¬ l1 < 0 → (zHasQ 9 75 l0 M 11) ∧ ((zOkN (zQ M l0 11) M) ∧ (((l1 < (Int32.ofNat (zS M (zQ M l0 11)).2) → (zHasQ 9 75 l0 M 11) ∧ ((zOkI (zQ M l0 11) l1 M) ∧ (True))) ∧ (¬ l1 < (Int32.ofNat (zS M (zQ M l0 11)).2) → p84_13 n  M))))))
theorem s84_0 (n : Nat)    (l0 : Nat) (l1 : Int32) (M : zM) (hp : p84_0 n  l0 l1 M) {Q : Option Value → zM → Prop} (hQ : ∀ r M1, zRI (b84_0 n  l0 l1 M) r M1 → Q r M1) : zWP 84 0 [some (.ref l0), some (.int l1)] [] M Q := by
  unfold b84_0 at hQ
  unfold p84_0 at hp
  refine wp_go 1 (pc' := 1) (L' := [some (.ref l0), some (.int l1)]) (st' := [.int l1]) (M' := M) rfl ?_
  refine wp_if_lt (t := 13) rfl rfl (fun hc => ?_) (fun hc => ?_)
  · rw [if_pos hc] at hQ
    replace hp := hp.1 hc
    refine wp_le [none, none] (zLe_of (by simp [zLeB])) ?_
    exact s84_13 n    M hp hQ
  · rw [if_neg hc] at hQ
    replace hp := hp.2 hc
    refine wp_go 2 (pc' := 6) (L' := [some (.ref l0), some (.int l1)]) (st' := [.ref l0, .int l1]) (M' := M) rfl ?_
    obtain ⟨hc, hp⟩ := hp
    refine wq_getQ (j := 11) rfl hc ?_
    obtain ⟨hc, hp⟩ := hp
    refine wq_alen rfl hc ?_
    refine wp_ic_lt (t := 15) rfl rfl (fun hc => ?_) (fun hc => ?_)
    · rw [if_pos hc] at hQ
      replace hp := hp.1 hc
      refine wp_go 1 (pc' := 16) (L' := [some (.ref l0), some (.int l1)]) (st' := [.ref l0]) (M' := M) rfl ?_
      obtain ⟨hc, hp⟩ := hp
      refine wq_getQ (j := 11) rfl hc ?_
      refine wp_go 1 (pc' := 20) (L' := [some (.ref l0), some (.int l1)]) (st' := [.int l1, .ref (zQ M l0 11)]) (M' := M) rfl ?_
      obtain ⟨hc, hp⟩ := hp
      refine wq_iald rfl hc ?_
      exact wp_ret (r := some (.int (zI M (zQ M l0 11) l1.toNatClampNeg))) rfl rfl (hQ _ _ ⟨rfl, rfl⟩)
    · rw [if_neg hc] at hQ
      replace hp := hp.2 hc
      refine wp_le [none, none] (zLe_of (by simp [zLeB])) ?_
      exact s84_13 n    M hp hQ
/-! X11_joinFirstSure -/
def b110_26 (n : Nat) (k2 : Nat → Int32 → zM → Int32 × zM) (l0 : Nat) (l1 : Int32) (s0 : Int32) (M : zM) : Int32 × zM := (if s0 < 0 then k2 l0 (l1 + Int32.ofInt 1) M else ((1 : Int32), M))
def p110_26 (n : Nat) (q2 : Nat → Int32 → zM → Prop) (l0 : Nat) (l1 : Int32) (s0 : Int32) (M : zM) : Prop := ((s0 < 0 → q2 l0 (l1 + Int32.ofInt 1) M) ∧ (¬ s0 < 0 → True))
theorem s110_26 (n : Nat) (k2 : Nat → Int32 → zM → Int32 × zM) (q2 : Nat → Int32 → zM → Prop) (h2 : ∀ (l0 : Nat) (l1 : Int32) (M : zM), q2 l0 l1 M → ∀ {Q : Option Value → zM → Prop}, (∀ r M1, zRI (k2 l0 l1 M) r M1 → Q r M1) → zWP 110 2 [some (.ref l0), some (.int l1)] [] M Q) (l0 : Nat) (l1 : Int32) (s0 : Int32) (M : zM) (hp : p110_26 n q2 l0 l1 s0 M) {Q : Option Value → zM → Prop} (hQ : ∀ r M1, zRI (b110_26 n k2 l0 l1 s0 M) r M1 → Q r M1) : zWP 110 26 [some (.ref l0), some (.int l1)] [.int s0] M Q := by
  unfold b110_26 at hQ
  unfold p110_26 at hp
  refine wp_if_lt (t := 31) rfl rfl (fun hc => ?_) (fun hc => ?_)
  · rw [if_pos hc] at hQ
    replace hp := hp.1 hc
    refine wp_go 2 (pc' := 2) (L' := [some (.ref l0), some (.int (l1 + Int32.ofInt 1))]) (st' := []) (M' := M) rfl ?_
    exact h2 l0 (l1 + Int32.ofInt 1) M hp hQ
  · rw [if_neg hc] at hQ
    replace hp := hp.2 hc
    refine wp_go 1 (pc' := 30) (L' := [some (.ref l0), some (.int l1)]) (st' := [.int (1 : Int32)]) (M' := M) rfl ?_
    exact wp_ret (r := some (.int (1 : Int32))) rfl rfl (hQ _ _ ⟨rfl, rfl⟩)
def c110_2 (n : Nat) (k2 : Nat → Int32 → zM → Int32 × zM) (l0 : Nat) (l1 : Int32) (M : zM) : Int32 × zM := (if (zI M (zQ M l0 7) 1) ≤ l1 then ((0 : Int32), M) else b110_26 n k2 l0 l1 (b106_0 n l0 (zQ M (zQ M (zQ M l0 7) 0) l1.toNatClampNeg) M).1 (b106_0 n l0 (zQ M (zQ M (zQ M l0 7) 0) l1.toNatClampNeg) M).2)
def d110_2 (n : Nat) (q2 : Nat → Int32 → zM → Prop) (l0 : Nat) (l1 : Int32) (M : zM) : Prop := (zHasQ 9 55 l0 M 7) ∧ ((zHasI 9 272 (zQ M l0 7) M 1) ∧ ((((zI M (zQ M l0 7) 1) ≤ l1 → True) ∧ (¬ (zI M (zQ M l0 7) 1) ≤ l1 → (zHasQ 9 55 l0 M 7) ∧ ((zHasQ 9 275 (zQ M l0 7) M 0) ∧ ((zOkR (zQ M (zQ M l0 7) 0) l1 M) ∧ ((zHasC 110 299 l0 M 106 1) ∧ ((p106_0 n l0 (zQ M (zQ M (zQ M l0 7) 0) l1.toNatClampNeg) M) ∧ (p110_26 n q2 l0 l1 (b106_0 n l0 (zQ M (zQ M (zQ M l0 7) 0) l1.toNatClampNeg) M).1 (b106_0 n l0 (zQ M (zQ M (zQ M l0 7) 0) l1.toNatClampNeg) M).2)))))))))
theorem t110_2 (n : Nat) (k2 : Nat → Int32 → zM → Int32 × zM) (q2 : Nat → Int32 → zM → Prop) (h2 : ∀ (l0 : Nat) (l1 : Int32) (M : zM), q2 l0 l1 M → ∀ {Q : Option Value → zM → Prop}, (∀ r M1, zRI (k2 l0 l1 M) r M1 → Q r M1) → zWP 110 2 [some (.ref l0), some (.int l1)] [] M Q) (l0 : Nat) (l1 : Int32) (M : zM) (hp : d110_2 n q2 l0 l1 M) {Q : Option Value → zM → Prop} (hQ : ∀ r M1, zRI (c110_2 n k2 l0 l1 M) r M1 → Q r M1) : zWP 110 2 [some (.ref l0), some (.int l1)] [] M Q := by
  unfold c110_2 at hQ
  unfold d110_2 at hp
  refine wp_go 2 (pc' := 4) (L' := [some (.ref l0), some (.int l1)]) (st' := [.ref l0, .int l1]) (M' := M) rfl ?_
  obtain ⟨hc, hp⟩ := hp
  refine wq_getQ (j := 7) rfl hc ?_
  obtain ⟨hc, hp⟩ := hp
  refine wq_getI (j := 1) rfl hc ?_
  refine wp_ic_ge (t := 37) rfl rfl (fun hc => ?_) (fun hc => ?_)
  · rw [if_pos hc] at hQ
    replace hp := hp.1 hc
    refine wp_go 1 (pc' := 38) (L' := [some (.ref l0), some (.int l1)]) (st' := [.int (0 : Int32)]) (M' := M) rfl ?_
    exact wp_ret (r := some (.int (0 : Int32))) rfl rfl (hQ _ _ ⟨rfl, rfl⟩)
  · rw [if_neg hc] at hQ
    replace hp := hp.2 hc
    refine wp_go 2 (pc' := 15) (L' := [some (.ref l0), some (.int l1)]) (st' := [.ref l0, .ref l0]) (M' := M) rfl ?_
    obtain ⟨hc, hp⟩ := hp
    refine wq_getQ (j := 7) rfl hc ?_
    obtain ⟨hc, hp⟩ := hp
    refine wq_getQ (j := 0) rfl hc ?_
    refine wp_go 1 (pc' := 22) (L' := [some (.ref l0), some (.int l1)]) (st' := [.int l1, .ref (zQ M (zQ M l0 7) 0), .ref l0]) (M' := M) rfl ?_
    obtain ⟨hc, hp⟩ := hp
    refine wq_aald rfl hc ?_
    obtain ⟨hv, hp⟩ := hp
    obtain ⟨hc, hp⟩ := hp
    refine wp_calli (v := (b106_0 n l0 (zQ M (zQ M (zQ M l0 7) 0) l1.toNatClampNeg) M).1) (M1 := (b106_0 n l0 (zQ M (zQ M (zQ M l0 7) 0) l1.toNatClampNeg) M).2) rfl rfl rfl (zInv_v (np := 1) rfl rfl hv rfl) (s106_0 n l0 (zQ M (zQ M (zQ M l0 7) 0) l1.toNatClampNeg) M hc (fun r M1 h => h)) ?_
    exact s110_26 n k2 q2 h2 l0 l1 (b106_0 n l0 (zQ M (zQ M (zQ M l0 7) 0) l1.toNatClampNeg) M).1 (b106_0 n l0 (zQ M (zQ M (zQ M l0 7) 0) l1.toNatClampNeg) M).2 hp hQ
def b110_2 (n : Nat)  : Nat → Nat → Int32 → zM → Int32 × zM
  | 0, _, _, M => (0, M)
  | k + 1, l0, l1, M => c110_2 n  (b110_2 n  k) l0 l1 M
def p110_2 (n : Nat)  : Nat → Nat → Int32 → zM → Prop
  | 0, _, _, _ => False
  | k + 1, l0, l1, M => d110_2 n  (p110_2 n  k) l0 l1 M
theorem s110_2 (n : Nat)    : ∀ (k : Nat) (l0 : Nat) (l1 : Int32) (M : zM), p110_2 n  k l0 l1 M → ∀ {Q : Option Value → zM → Prop}, (∀ r M1, zRI (b110_2 n  k l0 l1 M) r M1 → Q r M1) → zWP 110 2 [some (.ref l0), some (.int l1)] [] M Q
  | 0, _, _, _, h, _, _ => h.elim
  | k + 1, l0, l1, M, h, _, hQ => t110_2 n  (b110_2 n  k)  (p110_2 n  k)  (s110_2 n    k) l0 l1 M h hQ
def b110_0 (n : Nat)  (l0 : Nat) (M : zM) : Int32 × zM := b110_2 n  n l0 (0 : Int32) M
def p110_0 (n : Nat)  (l0 : Nat) (M : zM) : Prop := p110_2 n  n l0 (0 : Int32) M
theorem s110_0 (n : Nat)    (l0 : Nat) (M : zM) (hp : p110_0 n  l0 M) {Q : Option Value → zM → Prop} (hQ : ∀ r M1, zRI (b110_0 n  l0 M) r M1 → Q r M1) : zWP 110 0 [some (.ref l0), none] [] M Q := by
  unfold b110_0 at hQ
  unfold p110_0 at hp
  refine wp_go 2 (pc' := 2) (L' := [some (.ref l0), some (.int (0 : Int32))]) (st' := []) (M' := M) rfl ?_
  exact s110_2 n    n l0 (0 : Int32) M hp hQ
/-! X11_gatherSure -/
def b112_117 (n : Nat) (k9 : Nat → Int32 → zM → zM) (k19 : Nat → Int32 → Int32 → zM → zM) (l0 : Nat) (l1 : Int32) (l2 : Int32) (M : zM) : zM := k19 l0 l1 (l2 + Int32.ofInt 1) M
def p112_117 (n : Nat) (q9 : Nat → Int32 → zM → Prop) (q19 : Nat → Int32 → Int32 → zM → Prop) (l0 : Nat) (l1 : Int32) (l2 : Int32) (M : zM) : Prop := q19 l0 l1 (l2 + Int32.ofInt 1) M
theorem s112_117 (n : Nat) (k9 : Nat → Int32 → zM → zM) (k19 : Nat → Int32 → Int32 → zM → zM) (q9 : Nat → Int32 → zM → Prop) (q19 : Nat → Int32 → Int32 → zM → Prop) (h9 : ∀ (l0 : Nat) (l1 : Int32) (M : zM), q9 l0 l1 M → ∀ {Q : Option Value → zM → Prop}, (∀ r M1, zRV (k9 l0 l1 M) r M1 → Q r M1) → zWP 112 9 [some (.ref l0), some (.int l1), none, none] [] M Q) (h19 : ∀ (l0 : Nat) (l1 : Int32) (l2 : Int32) (M : zM), q19 l0 l1 l2 M → ∀ {Q : Option Value → zM → Prop}, (∀ r M1, zRV (k19 l0 l1 l2 M) r M1 → Q r M1) → zWP 112 19 [some (.ref l0), some (.int l1), some (.int l2), none] [] M Q) (l0 : Nat) (l1 : Int32) (l2 : Int32) (M : zM) (hp : p112_117 n q9 q19 l0 l1 l2 M) {Q : Option Value → zM → Prop} (hQ : ∀ r M1, zRV (b112_117 n k9 k19 l0 l1 l2 M) r M1 → Q r M1) : zWP 112 117 [some (.ref l0), some (.int l1), some (.int l2), none] [] M Q := by
  unfold b112_117 at hQ
  unfold p112_117 at hp
  refine wp_go 2 (pc' := 19) (L' := [some (.ref l0), some (.int l1), some (.int (l2 + Int32.ofInt 1)), none]) (st' := []) (M' := M) rfl ?_
  exact h19 l0 l1 (l2 + Int32.ofInt 1) M hp hQ
def b112_103 (n : Nat) (k9 : Nat → Int32 → zM → zM) (k19 : Nat → Int32 → Int32 → zM → zM) (l0 : Nat) (l1 : Int32) (l2 : Int32) (s0 : Int32) (M : zM) : zM := (if s0 = 0 then b112_117 n k9 k19 l0 l1 l2 M else b112_117 n k9 k19 l0 l1 l2 (b60_0 n (zQ M l0 7) (zQ M l0 8) M))
def p112_103 (n : Nat) (q9 : Nat → Int32 → zM → Prop) (q19 : Nat → Int32 → Int32 → zM → Prop) (l0 : Nat) (l1 : Int32) (l2 : Int32) (s0 : Int32) (M : zM) : Prop := ((s0 = 0 → p112_117 n q9 q19 l0 l1 l2 M) ∧ (¬ s0 = 0 → (zHasQ 9 55 l0 M 7) ∧ ((zHasQ 9 61 l0 M 8) ∧ ((zHasC 112 468 (zQ M l0 7) M 60 1) ∧ ((p60_0 n (zQ M l0 7) (zQ M l0 8) M) ∧ (p112_117 n q9 q19 l0 l1 l2 (b60_0 n (zQ M l0 7) (zQ M l0 8) M)))))))
theorem s112_103 (n : Nat) (k9 : Nat → Int32 → zM → zM) (k19 : Nat → Int32 → Int32 → zM → zM) (q9 : Nat → Int32 → zM → Prop) (q19 : Nat → Int32 → Int32 → zM → Prop) (h9 : ∀ (l0 : Nat) (l1 : Int32) (M : zM), q9 l0 l1 M → ∀ {Q : Option Value → zM → Prop}, (∀ r M1, zRV (k9 l0 l1 M) r M1 → Q r M1) → zWP 112 9 [some (.ref l0), some (.int l1), none, none] [] M Q) (h19 : ∀ (l0 : Nat) (l1 : Int32) (l2 : Int32) (M : zM), q19 l0 l1 l2 M → ∀ {Q : Option Value → zM → Prop}, (∀ r M1, zRV (k19 l0 l1 l2 M) r M1 → Q r M1) → zWP 112 19 [some (.ref l0), some (.int l1), some (.int l2), none] [] M Q) (l0 : Nat) (l1 : Int32) (l2 : Int32) (s0 : Int32) (M : zM) (hp : p112_103 n q9 q19 l0 l1 l2 s0 M) {Q : Option Value → zM → Prop} (hQ : ∀ r M1, zRV (b112_103 n k9 k19 l0 l1 l2 s0 M) r M1 → Q r M1) : zWP 112 103 [some (.ref l0), some (.int l1), some (.int l2), none] [.int s0] M Q := by
  unfold b112_103 at hQ
  unfold p112_103 at hp
  refine wp_if_eq (t := 117) rfl rfl (fun hc => ?_) (fun hc => ?_)
  · rw [if_pos hc] at hQ
    replace hp := hp.1 hc
    exact s112_117 n k9 k19 q9 q19 h9 h19 l0 l1 l2 M hp hQ
  · rw [if_neg hc] at hQ
    replace hp := hp.2 hc
    refine wp_go 1 (pc' := 107) (L' := [some (.ref l0), some (.int l1), some (.int l2), none]) (st' := [.ref l0]) (M' := M) rfl ?_
    obtain ⟨hc, hp⟩ := hp
    refine wq_getQ (j := 7) rfl hc ?_
    refine wp_go 1 (pc' := 111) (L' := [some (.ref l0), some (.int l1), some (.int l2), none]) (st' := [.ref l0, .ref (zQ M l0 7)]) (M' := M) rfl ?_
    obtain ⟨hc, hp⟩ := hp
    refine wq_getQ (j := 8) rfl hc ?_
    obtain ⟨hv, hp⟩ := hp
    obtain ⟨hc, hp⟩ := hp
    refine wp_callv (M1 := (b60_0 n (zQ M l0 7) (zQ M l0 8) M)) rfl rfl rfl (zInv_v (np := 1) rfl rfl hv rfl) (s60_0 n (zQ M l0 7) (zQ M l0 8) M hc (fun r M1 h => h)) ?_
    exact s112_117 n k9 k19 q9 q19 h9 h19 l0 l1 l2 (b60_0 n (zQ M l0 7) (zQ M l0 8) M) hp hQ
def b112_92 (n : Nat) (k9 : Nat → Int32 → zM → zM) (k19 : Nat → Int32 → Int32 → zM → zM) (l0 : Nat) (l1 : Int32) (l2 : Int32) (M : zM) : zM := b112_103 n k9 k19 l0 l1 l2 (b9_0 n (zQ M l0 5) (zQ M l0 8) M).1 (b9_0 n (zQ M l0 5) (zQ M l0 8) M).2
def p112_92 (n : Nat) (q9 : Nat → Int32 → zM → Prop) (q19 : Nat → Int32 → Int32 → zM → Prop) (l0 : Nat) (l1 : Int32) (l2 : Int32) (M : zM) : Prop := (zHasQ 9 42 l0 M 5) ∧ ((zHasQ 9 61 l0 M 8) ∧ ((zHasC 112 465 (zQ M l0 5) M 9 1) ∧ ((p9_0 n (zQ M l0 5) (zQ M l0 8) M) ∧ (p112_103 n q9 q19 l0 l1 l2 (b9_0 n (zQ M l0 5) (zQ M l0 8) M).1 (b9_0 n (zQ M l0 5) (zQ M l0 8) M).2))))
theorem s112_92 (n : Nat) (k9 : Nat → Int32 → zM → zM) (k19 : Nat → Int32 → Int32 → zM → zM) (q9 : Nat → Int32 → zM → Prop) (q19 : Nat → Int32 → Int32 → zM → Prop) (h9 : ∀ (l0 : Nat) (l1 : Int32) (M : zM), q9 l0 l1 M → ∀ {Q : Option Value → zM → Prop}, (∀ r M1, zRV (k9 l0 l1 M) r M1 → Q r M1) → zWP 112 9 [some (.ref l0), some (.int l1), none, none] [] M Q) (h19 : ∀ (l0 : Nat) (l1 : Int32) (l2 : Int32) (M : zM), q19 l0 l1 l2 M → ∀ {Q : Option Value → zM → Prop}, (∀ r M1, zRV (k19 l0 l1 l2 M) r M1 → Q r M1) → zWP 112 19 [some (.ref l0), some (.int l1), some (.int l2), none] [] M Q) (l0 : Nat) (l1 : Int32) (l2 : Int32) (M : zM) (hp : p112_92 n q9 q19 l0 l1 l2 M) {Q : Option Value → zM → Prop} (hQ : ∀ r M1, zRV (b112_92 n k9 k19 l0 l1 l2 M) r M1 → Q r M1) : zWP 112 92 [some (.ref l0), some (.int l1), some (.int l2), none] [] M Q := by
  unfold b112_92 at hQ
  unfold p112_92 at hp
  refine wp_go 1 (pc' := 93) (L' := [some (.ref l0), some (.int l1), some (.int l2), none]) (st' := [.ref l0]) (M' := M) rfl ?_
  obtain ⟨hc, hp⟩ := hp
  refine wq_getQ (j := 5) rfl hc ?_
  refine wp_go 1 (pc' := 97) (L' := [some (.ref l0), some (.int l1), some (.int l2), none]) (st' := [.ref l0, .ref (zQ M l0 5)]) (M' := M) rfl ?_
  obtain ⟨hc, hp⟩ := hp
  refine wq_getQ (j := 8) rfl hc ?_
  obtain ⟨hv, hp⟩ := hp
  obtain ⟨hc, hp⟩ := hp
  refine wp_calli (v := (b9_0 n (zQ M l0 5) (zQ M l0 8) M).1) (M1 := (b9_0 n (zQ M l0 5) (zQ M l0 8) M).2) rfl rfl rfl (zInv_v (np := 1) rfl rfl hv rfl) (s9_0 n (zQ M l0 5) (zQ M l0 8) M hc (fun r M1 h => h)) ?_
  exact s112_103 n k9 k19 q9 q19 h9 h19 l0 l1 l2 (b9_0 n (zQ M l0 5) (zQ M l0 8) M).1 (b9_0 n (zQ M l0 5) (zQ M l0 8) M).2 hp hQ
def b112_89 (n : Nat) (k9 : Nat → Int32 → zM → zM) (k19 : Nat → Int32 → Int32 → zM → zM) (l0 : Nat) (l1 : Int32) (l2 : Int32) (s0 : Nat) (s1 : Nat) (s2 : Int32) (s3 : Nat) (s4 : Int32) (s5 : Int32) (M : zM) : zM := b112_92 n k9 k19 l0 l1 l2 (b55_0 n s0 s1 s2 s3 s4 s5 M)
def p112_89 (n : Nat) (q9 : Nat → Int32 → zM → Prop) (q19 : Nat → Int32 → Int32 → zM → Prop) (l0 : Nat) (l1 : Int32) (l2 : Int32) (s0 : Nat) (s1 : Nat) (s2 : Int32) (s3 : Nat) (s4 : Int32) (s5 : Int32) (M : zM) : Prop := (zHasC 112 386 s0 M 55 5) ∧ ((p55_0 n s0 s1 s2 s3 s4 s5 M) ∧ (p112_92 n q9 q19 l0 l1 l2 (b55_0 n s0 s1 s2 s3 s4 s5 M)))
theorem s112_89 (n : Nat) (k9 : Nat → Int32 → zM → zM) (k19 : Nat → Int32 → Int32 → zM → zM) (q9 : Nat → Int32 → zM → Prop) (q19 : Nat → Int32 → Int32 → zM → Prop) (h9 : ∀ (l0 : Nat) (l1 : Int32) (M : zM), q9 l0 l1 M → ∀ {Q : Option Value → zM → Prop}, (∀ r M1, zRV (k9 l0 l1 M) r M1 → Q r M1) → zWP 112 9 [some (.ref l0), some (.int l1), none, none] [] M Q) (h19 : ∀ (l0 : Nat) (l1 : Int32) (l2 : Int32) (M : zM), q19 l0 l1 l2 M → ∀ {Q : Option Value → zM → Prop}, (∀ r M1, zRV (k19 l0 l1 l2 M) r M1 → Q r M1) → zWP 112 19 [some (.ref l0), some (.int l1), some (.int l2), none] [] M Q) (l0 : Nat) (l1 : Int32) (l2 : Int32) (s0 : Nat) (s1 : Nat) (s2 : Int32) (s3 : Nat) (s4 : Int32) (s5 : Int32) (M : zM) (hp : p112_89 n q9 q19 l0 l1 l2 s0 s1 s2 s3 s4 s5 M) {Q : Option Value → zM → Prop} (hQ : ∀ r M1, zRV (b112_89 n k9 k19 l0 l1 l2 s0 s1 s2 s3 s4 s5 M) r M1 → Q r M1) : zWP 112 89 [some (.ref l0), some (.int l1), some (.int l2), none] [.int s5, .int s4, .ref s3, .int s2, .ref s1, .ref s0] M Q := by
  unfold b112_89 at hQ
  unfold p112_89 at hp
  obtain ⟨hv, hp⟩ := hp
  obtain ⟨hc, hp⟩ := hp
  refine wp_callv (M1 := (b55_0 n s0 s1 s2 s3 s4 s5 M)) rfl rfl rfl (zInv_v (np := 5) rfl rfl hv rfl) (s55_0 n s0 s1 s2 s3 s4 s5 M hc (fun r M1 h => h)) ?_
  exact s112_92 n k9 k19 q9 q19 h9 h19 l0 l1 l2 (b55_0 n s0 s1 s2 s3 s4 s5 M) hp hQ
def b112_80 (n : Nat) (k9 : Nat → Int32 → zM → zM) (k19 : Nat → Int32 → Int32 → zM → zM) (l0 : Nat) (l1 : Int32) (l2 : Int32) (s0 : Nat) (s1 : Nat) (s2 : Int32) (s3 : Nat) (s4 : Int32) (M : zM) : zM := b112_89 n k9 k19 l0 l1 l2 s0 s1 s2 s3 s4 (b8_0 n (zQ M l0 5) l1 l2 M).1 (b8_0 n (zQ M l0 5) l1 l2 M).2
def p112_80 (n : Nat) (q9 : Nat → Int32 → zM → Prop) (q19 : Nat → Int32 → Int32 → zM → Prop) (l0 : Nat) (l1 : Int32) (l2 : Int32) (s0 : Nat) (s1 : Nat) (s2 : Int32) (s3 : Nat) (s4 : Int32) (M : zM) : Prop := (zHasQ 9 42 l0 M 5) ∧ ((zHasC 112 462 (zQ M l0 5) M 8 2) ∧ ((p8_0 n (zQ M l0 5) l1 l2 M) ∧ (p112_89 n q9 q19 l0 l1 l2 s0 s1 s2 s3 s4 (b8_0 n (zQ M l0 5) l1 l2 M).1 (b8_0 n (zQ M l0 5) l1 l2 M).2)))
theorem s112_80 (n : Nat) (k9 : Nat → Int32 → zM → zM) (k19 : Nat → Int32 → Int32 → zM → zM) (q9 : Nat → Int32 → zM → Prop) (q19 : Nat → Int32 → Int32 → zM → Prop) (h9 : ∀ (l0 : Nat) (l1 : Int32) (M : zM), q9 l0 l1 M → ∀ {Q : Option Value → zM → Prop}, (∀ r M1, zRV (k9 l0 l1 M) r M1 → Q r M1) → zWP 112 9 [some (.ref l0), some (.int l1), none, none] [] M Q) (h19 : ∀ (l0 : Nat) (l1 : Int32) (l2 : Int32) (M : zM), q19 l0 l1 l2 M → ∀ {Q : Option Value → zM → Prop}, (∀ r M1, zRV (k19 l0 l1 l2 M) r M1 → Q r M1) → zWP 112 19 [some (.ref l0), some (.int l1), some (.int l2), none] [] M Q) (l0 : Nat) (l1 : Int32) (l2 : Int32) (s0 : Nat) (s1 : Nat) (s2 : Int32) (s3 : Nat) (s4 : Int32) (M : zM) (hp : p112_80 n q9 q19 l0 l1 l2 s0 s1 s2 s3 s4 M) {Q : Option Value → zM → Prop} (hQ : ∀ r M1, zRV (b112_80 n k9 k19 l0 l1 l2 s0 s1 s2 s3 s4 M) r M1 → Q r M1) : zWP 112 80 [some (.ref l0), some (.int l1), some (.int l2), none] [.int s4, .ref s3, .int s2, .ref s1, .ref s0] M Q := by
  unfold b112_80 at hQ
  unfold p112_80 at hp
  refine wp_go 1 (pc' := 81) (L' := [some (.ref l0), some (.int l1), some (.int l2), none]) (st' := [.ref l0, .int s4, .ref s3, .int s2, .ref s1, .ref s0]) (M' := M) rfl ?_
  obtain ⟨hc, hp⟩ := hp
  refine wq_getQ (j := 5) rfl hc ?_
  refine wp_go 2 (pc' := 86) (L' := [some (.ref l0), some (.int l1), some (.int l2), none]) (st' := [.int l2, .int l1, .ref (zQ M l0 5), .int s4, .ref s3, .int s2, .ref s1, .ref s0]) (M' := M) rfl ?_
  obtain ⟨hv, hp⟩ := hp
  obtain ⟨hc, hp⟩ := hp
  refine wp_calli (v := (b8_0 n (zQ M l0 5) l1 l2 M).1) (M1 := (b8_0 n (zQ M l0 5) l1 l2 M).2) rfl rfl rfl (zInv_v (np := 2) rfl rfl hv rfl) (s8_0 n (zQ M l0 5) l1 l2 M hc (fun r M1 h => h)) ?_
  exact s112_89 n k9 k19 q9 q19 h9 h19 l0 l1 l2 s0 s1 s2 s3 s4 (b8_0 n (zQ M l0 5) l1 l2 M).1 (b8_0 n (zQ M l0 5) l1 l2 M).2 hp hQ
def b112_57 (n : Nat) (k9 : Nat → Int32 → zM → zM) (k19 : Nat → Int32 → Int32 → zM → zM) (l0 : Nat) (l1 : Int32) (l2 : Int32) (s0 : Nat) (s1 : Int32) (M : zM) : zM := b112_80 n k9 k19 l0 l1 l2 (zQ M l0 8) (zQ M (zQ M l0 0) l1.toNatClampNeg) l2 (zQ M s0 s1.toNatClampNeg) (b7_0 n (zQ M l0 5) l1 l2 M).1 (b7_0 n (zQ M l0 5) l1 l2 M).2
def p112_57 (n : Nat) (q9 : Nat → Int32 → zM → Prop) (q19 : Nat → Int32 → Int32 → zM → Prop) (l0 : Nat) (l1 : Int32) (l2 : Int32) (s0 : Nat) (s1 : Int32) (M : zM) : Prop := (zOkR s0 s1 M) ∧ ((zHasQ 9 61 l0 M 8) ∧ ((zHasQ 9 11 l0 M 0) ∧ ((zOkR (zQ M l0 0) l1 M) ∧ ((zHasQ 9 42 l0 M 5) ∧ ((zHasC 112 459 (zQ M l0 5) M 7 2) ∧ ((p7_0 n (zQ M l0 5) l1 l2 M) ∧ (p112_80 n q9 q19 l0 l1 l2 (zQ M l0 8) (zQ M (zQ M l0 0) l1.toNatClampNeg) l2 (zQ M s0 s1.toNatClampNeg) (b7_0 n (zQ M l0 5) l1 l2 M).1 (b7_0 n (zQ M l0 5) l1 l2 M).2)))))))
theorem s112_57 (n : Nat) (k9 : Nat → Int32 → zM → zM) (k19 : Nat → Int32 → Int32 → zM → zM) (q9 : Nat → Int32 → zM → Prop) (q19 : Nat → Int32 → Int32 → zM → Prop) (h9 : ∀ (l0 : Nat) (l1 : Int32) (M : zM), q9 l0 l1 M → ∀ {Q : Option Value → zM → Prop}, (∀ r M1, zRV (k9 l0 l1 M) r M1 → Q r M1) → zWP 112 9 [some (.ref l0), some (.int l1), none, none] [] M Q) (h19 : ∀ (l0 : Nat) (l1 : Int32) (l2 : Int32) (M : zM), q19 l0 l1 l2 M → ∀ {Q : Option Value → zM → Prop}, (∀ r M1, zRV (k19 l0 l1 l2 M) r M1 → Q r M1) → zWP 112 19 [some (.ref l0), some (.int l1), some (.int l2), none] [] M Q) (l0 : Nat) (l1 : Int32) (l2 : Int32) (s0 : Nat) (s1 : Int32) (M : zM) (hp : p112_57 n q9 q19 l0 l1 l2 s0 s1 M) {Q : Option Value → zM → Prop} (hQ : ∀ r M1, zRV (b112_57 n k9 k19 l0 l1 l2 s0 s1 M) r M1 → Q r M1) : zWP 112 57 [some (.ref l0), some (.int l1), some (.int l2), none] [.int s1, .ref s0] M Q := by
  unfold b112_57 at hQ
  unfold p112_57 at hp
  obtain ⟨hc, hp⟩ := hp
  refine wq_aald rfl hc ?_
  refine wp_go 2 (pc' := 60) (L' := [some (.ref l0), some (.int l1), some (.int l2), some (.ref (zQ M s0 s1.toNatClampNeg))]) (st' := [.ref l0]) (M' := M) rfl ?_
  obtain ⟨hc, hp⟩ := hp
  refine wq_getQ (j := 8) rfl hc ?_
  refine wp_go 1 (pc' := 64) (L' := [some (.ref l0), some (.int l1), some (.int l2), some (.ref (zQ M s0 s1.toNatClampNeg))]) (st' := [.ref l0, .ref (zQ M l0 8)]) (M' := M) rfl ?_
  obtain ⟨hc, hp⟩ := hp
  refine wq_getQ (j := 0) rfl hc ?_
  refine wp_go 1 (pc' := 68) (L' := [some (.ref l0), some (.int l1), some (.int l2), some (.ref (zQ M s0 s1.toNatClampNeg))]) (st' := [.int l1, .ref (zQ M l0 0), .ref (zQ M l0 8)]) (M' := M) rfl ?_
  obtain ⟨hc, hp⟩ := hp
  refine wq_aald rfl hc ?_
  refine wp_go 3 (pc' := 72) (L' := [some (.ref l0), some (.int l1), some (.int l2), some (.ref (zQ M s0 s1.toNatClampNeg))]) (st' := [.ref l0, .ref (zQ M s0 s1.toNatClampNeg), .int l2, .ref (zQ M (zQ M l0 0) l1.toNatClampNeg), .ref (zQ M l0 8)]) (M' := M) rfl ?_
  obtain ⟨hc, hp⟩ := hp
  refine wq_getQ (j := 5) rfl hc ?_
  refine wp_go 2 (pc' := 77) (L' := [some (.ref l0), some (.int l1), some (.int l2), some (.ref (zQ M s0 s1.toNatClampNeg))]) (st' := [.int l2, .int l1, .ref (zQ M l0 5), .ref (zQ M s0 s1.toNatClampNeg), .int l2, .ref (zQ M (zQ M l0 0) l1.toNatClampNeg), .ref (zQ M l0 8)]) (M' := M) rfl ?_
  obtain ⟨hv, hp⟩ := hp
  obtain ⟨hc, hp⟩ := hp
  refine wp_calli (v := (b7_0 n (zQ M l0 5) l1 l2 M).1) (M1 := (b7_0 n (zQ M l0 5) l1 l2 M).2) rfl rfl rfl (zInv_v (np := 2) rfl rfl hv rfl) (s7_0 n (zQ M l0 5) l1 l2 M hc (fun r M1 h => h)) ?_
  refine wp_le [some (.ref l0), some (.int l1), some (.int l2), none] (zLe_of (by simp [zLeB])) ?_
  exact s112_80 n k9 k19 q9 q19 h9 h19 l0 l1 l2 (zQ M l0 8) (zQ M (zQ M l0 0) l1.toNatClampNeg) l2 (zQ M s0 s1.toNatClampNeg) (b7_0 n (zQ M l0 5) l1 l2 M).1 (b7_0 n (zQ M l0 5) l1 l2 M).2 hp hQ
def b112_41 (n : Nat) (k9 : Nat → Int32 → zM → zM) (k19 : Nat → Int32 → Int32 → zM → zM) (l0 : Nat) (l1 : Int32) (l2 : Int32) (s0 : Int32) (M : zM) : zM := (if s0 = 0 then b112_117 n k9 k19 l0 l1 l2 M else b112_57 n k9 k19 l0 l1 l2 (zQ M l0 0) (b6_0 n (zQ M l0 5) l1 l2 M).1 (b6_0 n (zQ M l0 5) l1 l2 M).2)
def p112_41 (n : Nat) (q9 : Nat → Int32 → zM → Prop) (q19 : Nat → Int32 → Int32 → zM → Prop) (l0 : Nat) (l1 : Int32) (l2 : Int32) (s0 : Int32) (M : zM) : Prop := ((s0 = 0 → p112_117 n q9 q19 l0 l1 l2 M) ∧ (¬ s0 = 0 → (zHasQ 9 11 l0 M 0) ∧ ((zHasQ 9 42 l0 M 5) ∧ ((zHasC 112 456 (zQ M l0 5) M 6 2) ∧ ((p6_0 n (zQ M l0 5) l1 l2 M) ∧ (p112_57 n q9 q19 l0 l1 l2 (zQ M l0 0) (b6_0 n (zQ M l0 5) l1 l2 M).1 (b6_0 n (zQ M l0 5) l1 l2 M).2))))))
theorem s112_41 (n : Nat) (k9 : Nat → Int32 → zM → zM) (k19 : Nat → Int32 → Int32 → zM → zM) (q9 : Nat → Int32 → zM → Prop) (q19 : Nat → Int32 → Int32 → zM → Prop) (h9 : ∀ (l0 : Nat) (l1 : Int32) (M : zM), q9 l0 l1 M → ∀ {Q : Option Value → zM → Prop}, (∀ r M1, zRV (k9 l0 l1 M) r M1 → Q r M1) → zWP 112 9 [some (.ref l0), some (.int l1), none, none] [] M Q) (h19 : ∀ (l0 : Nat) (l1 : Int32) (l2 : Int32) (M : zM), q19 l0 l1 l2 M → ∀ {Q : Option Value → zM → Prop}, (∀ r M1, zRV (k19 l0 l1 l2 M) r M1 → Q r M1) → zWP 112 19 [some (.ref l0), some (.int l1), some (.int l2), none] [] M Q) (l0 : Nat) (l1 : Int32) (l2 : Int32) (s0 : Int32) (M : zM) (hp : p112_41 n q9 q19 l0 l1 l2 s0 M) {Q : Option Value → zM → Prop} (hQ : ∀ r M1, zRV (b112_41 n k9 k19 l0 l1 l2 s0 M) r M1 → Q r M1) : zWP 112 41 [some (.ref l0), some (.int l1), some (.int l2), none] [.int s0] M Q := by
  unfold b112_41 at hQ
  unfold p112_41 at hp
  refine wp_if_eq (t := 117) rfl rfl (fun hc => ?_) (fun hc => ?_)
  · rw [if_pos hc] at hQ
    replace hp := hp.1 hc
    exact s112_117 n k9 k19 q9 q19 h9 h19 l0 l1 l2 M hp hQ
  · rw [if_neg hc] at hQ
    replace hp := hp.2 hc
    refine wp_go 1 (pc' := 45) (L' := [some (.ref l0), some (.int l1), some (.int l2), none]) (st' := [.ref l0]) (M' := M) rfl ?_
    obtain ⟨hc, hp⟩ := hp
    refine wq_getQ (j := 0) rfl hc ?_
    refine wp_go 1 (pc' := 49) (L' := [some (.ref l0), some (.int l1), some (.int l2), none]) (st' := [.ref l0, .ref (zQ M l0 0)]) (M' := M) rfl ?_
    obtain ⟨hc, hp⟩ := hp
    refine wq_getQ (j := 5) rfl hc ?_
    refine wp_go 2 (pc' := 54) (L' := [some (.ref l0), some (.int l1), some (.int l2), none]) (st' := [.int l2, .int l1, .ref (zQ M l0 5), .ref (zQ M l0 0)]) (M' := M) rfl ?_
    obtain ⟨hv, hp⟩ := hp
    obtain ⟨hc, hp⟩ := hp
    refine wp_calli (v := (b6_0 n (zQ M l0 5) l1 l2 M).1) (M1 := (b6_0 n (zQ M l0 5) l1 l2 M).2) rfl rfl rfl (zInv_v (np := 2) rfl rfl hv rfl) (s6_0 n (zQ M l0 5) l1 l2 M hc (fun r M1 h => h)) ?_
    exact s112_57 n k9 k19 q9 q19 h9 h19 l0 l1 l2 (zQ M l0 0) (b6_0 n (zQ M l0 5) l1 l2 M).1 (b6_0 n (zQ M l0 5) l1 l2 M).2 hp hQ
def c112_19 (n : Nat) (k9 : Nat → Int32 → zM → zM) (k19 : Nat → Int32 → Int32 → zM → zM) (l0 : Nat) (l1 : Int32) (l2 : Int32) (M : zM) : zM := (if (zI M (zQ M (zQ M l0 0) l1.toNatClampNeg) 7) ≤ l2 then k9 l0 (l1 + Int32.ofInt 1) M else b112_41 n k9 k19 l0 l1 l2 (b5_0 n (zQ M l0 5) l1 l2 M).1 (b5_0 n (zQ M l0 5) l1 l2 M).2)
def d112_19 (n : Nat) (q9 : Nat → Int32 → zM → Prop) (q19 : Nat → Int32 → Int32 → zM → Prop) (l0 : Nat) (l1 : Int32) (l2 : Int32) (M : zM) : Prop := (zHasQ 9 11 l0 M 0) ∧ ((zOkR (zQ M l0 0) l1 M) ∧ ((zHasI 9 128 (zQ M (zQ M l0 0) l1.toNatClampNeg) M 7) ∧ ((((zI M (zQ M (zQ M l0 0) l1.toNatClampNeg) 7) ≤ l2 → q9 l0 (l1 + Int32.ofInt 1) M) ∧ (¬ (zI M (zQ M (zQ M l0 0) l1.toNatClampNeg) 7) ≤ l2 → (zHasQ 9 42 l0 M 5) ∧ ((zHasC 112 453 (zQ M l0 5) M 5 2) ∧ ((p5_0 n (zQ M l0 5) l1 l2 M) ∧ (p112_41 n q9 q19 l0 l1 l2 (b5_0 n (zQ M l0 5) l1 l2 M).1 (b5_0 n (zQ M l0 5) l1 l2 M).2))))))))
theorem t112_19 (n : Nat) (k9 : Nat → Int32 → zM → zM) (k19 : Nat → Int32 → Int32 → zM → zM) (q9 : Nat → Int32 → zM → Prop) (q19 : Nat → Int32 → Int32 → zM → Prop) (h9 : ∀ (l0 : Nat) (l1 : Int32) (M : zM), q9 l0 l1 M → ∀ {Q : Option Value → zM → Prop}, (∀ r M1, zRV (k9 l0 l1 M) r M1 → Q r M1) → zWP 112 9 [some (.ref l0), some (.int l1), none, none] [] M Q) (h19 : ∀ (l0 : Nat) (l1 : Int32) (l2 : Int32) (M : zM), q19 l0 l1 l2 M → ∀ {Q : Option Value → zM → Prop}, (∀ r M1, zRV (k19 l0 l1 l2 M) r M1 → Q r M1) → zWP 112 19 [some (.ref l0), some (.int l1), some (.int l2), none] [] M Q) (l0 : Nat) (l1 : Int32) (l2 : Int32) (M : zM) (hp : d112_19 n q9 q19 l0 l1 l2 M) {Q : Option Value → zM → Prop} (hQ : ∀ r M1, zRV (c112_19 n k9 k19 l0 l1 l2 M) r M1 → Q r M1) : zWP 112 19 [some (.ref l0), some (.int l1), some (.int l2), none] [] M Q := by
  unfold c112_19 at hQ
  unfold d112_19 at hp
  refine wp_go 2 (pc' := 21) (L' := [some (.ref l0), some (.int l1), some (.int l2), none]) (st' := [.ref l0, .int l2]) (M' := M) rfl ?_
  obtain ⟨hc, hp⟩ := hp
  refine wq_getQ (j := 0) rfl hc ?_
  refine wp_go 1 (pc' := 25) (L' := [some (.ref l0), some (.int l1), some (.int l2), none]) (st' := [.int l1, .ref (zQ M l0 0), .int l2]) (M' := M) rfl ?_
  obtain ⟨hc, hp⟩ := hp
  refine wq_aald rfl hc ?_
  obtain ⟨hc, hp⟩ := hp
  refine wq_getI (j := 7) rfl hc ?_
  refine wp_ic_ge (t := 123) rfl rfl (fun hc => ?_) (fun hc => ?_)
  · rw [if_pos hc] at hQ
    replace hp := hp.1 hc
    refine wp_go 2 (pc' := 9) (L' := [some (.ref l0), some (.int (l1 + Int32.ofInt 1)), some (.int l2), none]) (st' := []) (M' := M) rfl ?_
    refine wp_le [some (.ref l0), some (.int (l1 + Int32.ofInt 1)), none, none] (zLe_of (by simp [zLeB])) ?_
    exact h9 l0 (l1 + Int32.ofInt 1) M hp hQ
  · rw [if_neg hc] at hQ
    replace hp := hp.2 hc
    refine wp_go 1 (pc' := 33) (L' := [some (.ref l0), some (.int l1), some (.int l2), none]) (st' := [.ref l0]) (M' := M) rfl ?_
    obtain ⟨hc, hp⟩ := hp
    refine wq_getQ (j := 5) rfl hc ?_
    refine wp_go 2 (pc' := 38) (L' := [some (.ref l0), some (.int l1), some (.int l2), none]) (st' := [.int l2, .int l1, .ref (zQ M l0 5)]) (M' := M) rfl ?_
    obtain ⟨hv, hp⟩ := hp
    obtain ⟨hc, hp⟩ := hp
    refine wp_calli (v := (b5_0 n (zQ M l0 5) l1 l2 M).1) (M1 := (b5_0 n (zQ M l0 5) l1 l2 M).2) rfl rfl rfl (zInv_v (np := 2) rfl rfl hv rfl) (s5_0 n (zQ M l0 5) l1 l2 M hc (fun r M1 h => h)) ?_
    exact s112_41 n k9 k19 q9 q19 h9 h19 l0 l1 l2 (b5_0 n (zQ M l0 5) l1 l2 M).1 (b5_0 n (zQ M l0 5) l1 l2 M).2 hp hQ
def b112_19 (n : Nat) (k9 : Nat → Int32 → zM → zM) : Nat → Nat → Int32 → Int32 → zM → zM
  | 0, _, _, _, M => M
  | k + 1, l0, l1, l2, M => c112_19 n k9 (b112_19 n k9 k) l0 l1 l2 M
def p112_19 (n : Nat) (q9 : Nat → Int32 → zM → Prop) : Nat → Nat → Int32 → Int32 → zM → Prop
  | 0, _, _, _, _ => False
  | k + 1, l0, l1, l2, M => d112_19 n q9 (p112_19 n q9 k) l0 l1 l2 M
theorem s112_19 (n : Nat) (k9 : Nat → Int32 → zM → zM) (q9 : Nat → Int32 → zM → Prop) (h9 : ∀ (l0 : Nat) (l1 : Int32) (M : zM), q9 l0 l1 M → ∀ {Q : Option Value → zM → Prop}, (∀ r M1, zRV (k9 l0 l1 M) r M1 → Q r M1) → zWP 112 9 [some (.ref l0), some (.int l1), none, none] [] M Q) : ∀ (k : Nat) (l0 : Nat) (l1 : Int32) (l2 : Int32) (M : zM), p112_19 n q9 k l0 l1 l2 M → ∀ {Q : Option Value → zM → Prop}, (∀ r M1, zRV (b112_19 n k9 k l0 l1 l2 M) r M1 → Q r M1) → zWP 112 19 [some (.ref l0), some (.int l1), some (.int l2), none] [] M Q
  | 0, _, _, _, _, h, _, _ => h.elim
  | k + 1, l0, l1, l2, M, h, _, hQ => t112_19 n k9 (b112_19 n k9 k) q9 (p112_19 n q9 k) h9 (s112_19 n k9 q9 h9 k) l0 l1 l2 M h hQ
def c112_9 (n : Nat) (k9 : Nat → Int32 → zM → zM) (l0 : Nat) (l1 : Int32) (M : zM) : zM := (if (zI M l0 12) ≤ l1 then M else b112_19 n k9 n l0 l1 (0 : Int32) M)
def d112_9 (n : Nat) (q9 : Nat → Int32 → zM → Prop) (l0 : Nat) (l1 : Int32) (M : zM) : Prop := (zHasI 9 78 l0 M 12) ∧ ((((zI M l0 12) ≤ l1 → True) ∧ (¬ (zI M l0 12) ≤ l1 → p112_19 n q9 n l0 l1 (0 : Int32) M)))
theorem t112_9 (n : Nat) (k9 : Nat → Int32 → zM → zM) (q9 : Nat → Int32 → zM → Prop) (h9 : ∀ (l0 : Nat) (l1 : Int32) (M : zM), q9 l0 l1 M → ∀ {Q : Option Value → zM → Prop}, (∀ r M1, zRV (k9 l0 l1 M) r M1 → Q r M1) → zWP 112 9 [some (.ref l0), some (.int l1), none, none] [] M Q) (l0 : Nat) (l1 : Int32) (M : zM) (hp : d112_9 n q9 l0 l1 M) {Q : Option Value → zM → Prop} (hQ : ∀ r M1, zRV (c112_9 n k9 l0 l1 M) r M1 → Q r M1) : zWP 112 9 [some (.ref l0), some (.int l1), none, none] [] M Q := by
  unfold c112_9 at hQ
  unfold d112_9 at hp
  refine wp_go 2 (pc' := 11) (L' := [some (.ref l0), some (.int l1), none, none]) (st' := [.ref l0, .int l1]) (M' := M) rfl ?_
  obtain ⟨hc, hp⟩ := hp
  refine wq_getI (j := 12) rfl hc ?_
  refine wp_ic_ge (t := 129) rfl rfl (fun hc => ?_) (fun hc => ?_)
  · rw [if_pos hc] at hQ
    replace hp := hp.1 hc
    exact wp_ret (r := none) rfl rfl (hQ _ _ ⟨rfl, rfl⟩)
  · rw [if_neg hc] at hQ
    replace hp := hp.2 hc
    refine wp_go 2 (pc' := 19) (L' := [some (.ref l0), some (.int l1), some (.int (0 : Int32)), none]) (st' := []) (M' := M) rfl ?_
    exact s112_19 n k9 q9 h9 n l0 l1 (0 : Int32) M hp hQ
def b112_9 (n : Nat)  : Nat → Nat → Int32 → zM → zM
  | 0, _, _, M => M
  | k + 1, l0, l1, M => c112_9 n  (b112_9 n  k) l0 l1 M
def p112_9 (n : Nat)  : Nat → Nat → Int32 → zM → Prop
  | 0, _, _, _ => False
  | k + 1, l0, l1, M => d112_9 n  (p112_9 n  k) l0 l1 M
theorem s112_9 (n : Nat)    : ∀ (k : Nat) (l0 : Nat) (l1 : Int32) (M : zM), p112_9 n  k l0 l1 M → ∀ {Q : Option Value → zM → Prop}, (∀ r M1, zRV (b112_9 n  k l0 l1 M) r M1 → Q r M1) → zWP 112 9 [some (.ref l0), some (.int l1), none, none] [] M Q
  | 0, _, _, _, h, _, _ => h.elim
  | k + 1, l0, l1, M, h, _, hQ => t112_9 n  (b112_9 n  k)  (p112_9 n  k)  (s112_9 n    k) l0 l1 M h hQ
def b112_7 (n : Nat)  (l0 : Nat) (M : zM) : zM := b112_9 n  n l0 (0 : Int32) M
def p112_7 (n : Nat)  (l0 : Nat) (M : zM) : Prop := p112_9 n  n l0 (0 : Int32) M
theorem s112_7 (n : Nat)    (l0 : Nat) (M : zM) (hp : p112_7 n  l0 M) {Q : Option Value → zM → Prop} (hQ : ∀ r M1, zRV (b112_7 n  l0 M) r M1 → Q r M1) : zWP 112 7 [some (.ref l0), none, none, none] [] M Q := by
  unfold b112_7 at hQ
  unfold p112_7 at hp
  refine wp_go 2 (pc' := 9) (L' := [some (.ref l0), some (.int (0 : Int32)), none, none]) (st' := []) (M' := M) rfl ?_
  exact s112_9 n    n l0 (0 : Int32) M hp hQ
def b112_0 (n : Nat)  (l0 : Nat) (M : zM) : zM := b112_7 n  l0 (b59_0 n (zQ M l0 7) M)
def p112_0 (n : Nat)  (l0 : Nat) (M : zM) : Prop := (zHasQ 9 55 l0 M 7) ∧ ((zHasC 112 257 (zQ M l0 7) M 59 0) ∧ ((p59_0 n (zQ M l0 7) M) ∧ (p112_7 n  l0 (b59_0 n (zQ M l0 7) M))))
theorem s112_0 (n : Nat)    (l0 : Nat) (M : zM) (hp : p112_0 n  l0 M) {Q : Option Value → zM → Prop} (hQ : ∀ r M1, zRV (b112_0 n  l0 M) r M1 → Q r M1) : zWP 112 0 [some (.ref l0), none, none, none] [] M Q := by
  unfold b112_0 at hQ
  unfold p112_0 at hp
  refine wp_go 1 (pc' := 1) (L' := [some (.ref l0), none, none, none]) (st' := [.ref l0]) (M' := M) rfl ?_
  obtain ⟨hc, hp⟩ := hp
  refine wq_getQ (j := 7) rfl hc ?_
  obtain ⟨hv, hp⟩ := hp
  obtain ⟨hc, hp⟩ := hp
  refine wp_callv (M1 := (b59_0 n (zQ M l0 7) M)) rfl rfl rfl (zInv_v (np := 0) rfl rfl hv rfl) (s59_0 n (zQ M l0 7) M hc (fun r M1 h => h)) ?_
  exact s112_7 n    l0 (b59_0 n (zQ M l0 7) M) hp hQ
/-! X11_groups -/
def b86_0 (n : Nat)  (l0 : Nat) (M : zM) : Int32 × zM := ((zI M (zQ M l0 4) 6), M)
def p86_0 (n : Nat)  (l0 : Nat) (M : zM) : Prop := (zHasQ 9 35 l0 M 4) ∧ ((zHasI 9 325 (zQ M l0 4) M 6) ∧ (True))
theorem s86_0 (n : Nat)    (l0 : Nat) (M : zM) (hp : p86_0 n  l0 M) {Q : Option Value → zM → Prop} (hQ : ∀ r M1, zRI (b86_0 n  l0 M) r M1 → Q r M1) : zWP 86 0 [some (.ref l0)] [] M Q := by
  unfold b86_0 at hQ
  unfold p86_0 at hp
  refine wp_go 1 (pc' := 1) (L' := [some (.ref l0)]) (st' := [.ref l0]) (M' := M) rfl ?_
  obtain ⟨hc, hp⟩ := hp
  refine wq_getQ (j := 4) rfl hc ?_
  obtain ⟨hc, hp⟩ := hp
  refine wq_getI (j := 6) rfl hc ?_
  exact wp_ret (r := some (.int (zI M (zQ M l0 4) 6))) rfl rfl (hQ _ _ ⟨rfl, rfl⟩)
/-! X11_joinsIn -/
def b114_48 (n : Nat) (k4 : Nat → Int32 → Int32 → Int32 → zM → Int32 × zM) (l0 : Nat) (l1 : Int32) (l2 : Int32) (l3 : Int32) (M : zM) : Int32 × zM := k4 l0 l1 l2 (l3 + Int32.ofInt 1) M
def p114_48 (n : Nat) (q4 : Nat → Int32 → Int32 → Int32 → zM → Prop) (l0 : Nat) (l1 : Int32) (l2 : Int32) (l3 : Int32) (M : zM) : Prop := q4 l0 l1 l2 (l3 + Int32.ofInt 1) M
theorem s114_48 (n : Nat) (k4 : Nat → Int32 → Int32 → Int32 → zM → Int32 × zM) (q4 : Nat → Int32 → Int32 → Int32 → zM → Prop) (h4 : ∀ (l0 : Nat) (l1 : Int32) (l2 : Int32) (l3 : Int32) (M : zM), q4 l0 l1 l2 l3 M → ∀ {Q : Option Value → zM → Prop}, (∀ r M1, zRI (k4 l0 l1 l2 l3 M) r M1 → Q r M1) → zWP 114 4 [some (.ref l0), some (.int l1), some (.int l2), some (.int l3)] [] M Q) (l0 : Nat) (l1 : Int32) (l2 : Int32) (l3 : Int32) (M : zM) (hp : p114_48 n q4 l0 l1 l2 l3 M) {Q : Option Value → zM → Prop} (hQ : ∀ r M1, zRI (b114_48 n k4 l0 l1 l2 l3 M) r M1 → Q r M1) : zWP 114 48 [some (.ref l0), some (.int l1), some (.int l2), some (.int l3)] [] M Q := by
  unfold b114_48 at hQ
  unfold p114_48 at hp
  refine wp_go 2 (pc' := 4) (L' := [some (.ref l0), some (.int l1), some (.int l2), some (.int (l3 + Int32.ofInt 1))]) (st' := []) (M' := M) rfl ?_
  exact h4 l0 l1 l2 (l3 + Int32.ofInt 1) M hp hQ
def b114_18 (n : Nat) (k4 : Nat → Int32 → Int32 → Int32 → zM → Int32 × zM) (l0 : Nat) (l1 : Int32) (l2 : Int32) (l3 : Int32) (s0 : Int32) (M : zM) : Int32 × zM := (if s0 = 0 then b114_48 n k4 l0 l1 l2 l3 M else (if (zI M (zQ M (zQ M l0 4) 0) (zI M (zQ M (zQ M (zQ M l0 3) 0) l3.toNatClampNeg) 0).toNatClampNeg) = l1 then b114_48 n k4 l0 l1 (l2 + Int32.ofInt 1) l3 M else b114_48 n k4 l0 l1 l2 l3 M))
def p114_18 (n : Nat) (q4 : Nat → Int32 → Int32 → Int32 → zM → Prop) (l0 : Nat) (l1 : Int32) (l2 : Int32) (l3 : Int32) (s0 : Int32) (M : zM) : Prop := ((s0 = 0 → p114_48 n q4 l0 l1 l2 l3 M) ∧ (¬ s0 = 0 → (zHasQ 9 35 l0 M 4) ∧ ((zHasQ 9 192 (zQ M l0 4) M 0) ∧ ((zHasQ 9 28 l0 M 3) ∧ ((zHasQ 9 328 (zQ M l0 3) M 0) ∧ ((zOkR (zQ M (zQ M l0 3) 0) l3 M) ∧ ((zHasI 9 332 (zQ M (zQ M (zQ M l0 3) 0) l3.toNatClampNeg) M 0) ∧ ((zOkI (zQ M (zQ M l0 4) 0) (zI M (zQ M (zQ M (zQ M l0 3) 0) l3.toNatClampNeg) 0) M) ∧ ((((zI M (zQ M (zQ M l0 4) 0) (zI M (zQ M (zQ M (zQ M l0 3) 0) l3.toNatClampNeg) 0).toNatClampNeg) = l1 → p114_48 n q4 l0 l1 (l2 + Int32.ofInt 1) l3 M) ∧ (¬ (zI M (zQ M (zQ M l0 4) 0) (zI M (zQ M (zQ M (zQ M l0 3) 0) l3.toNatClampNeg) 0).toNatClampNeg) = l1 → p114_48 n q4 l0 l1 l2 l3 M)))))))))))
theorem s114_18 (n : Nat) (k4 : Nat → Int32 → Int32 → Int32 → zM → Int32 × zM) (q4 : Nat → Int32 → Int32 → Int32 → zM → Prop) (h4 : ∀ (l0 : Nat) (l1 : Int32) (l2 : Int32) (l3 : Int32) (M : zM), q4 l0 l1 l2 l3 M → ∀ {Q : Option Value → zM → Prop}, (∀ r M1, zRI (k4 l0 l1 l2 l3 M) r M1 → Q r M1) → zWP 114 4 [some (.ref l0), some (.int l1), some (.int l2), some (.int l3)] [] M Q) (l0 : Nat) (l1 : Int32) (l2 : Int32) (l3 : Int32) (s0 : Int32) (M : zM) (hp : p114_18 n q4 l0 l1 l2 l3 s0 M) {Q : Option Value → zM → Prop} (hQ : ∀ r M1, zRI (b114_18 n k4 l0 l1 l2 l3 s0 M) r M1 → Q r M1) : zWP 114 18 [some (.ref l0), some (.int l1), some (.int l2), some (.int l3)] [.int s0] M Q := by
  unfold b114_18 at hQ
  unfold p114_18 at hp
  refine wp_if_eq (t := 48) rfl rfl (fun hc => ?_) (fun hc => ?_)
  · rw [if_pos hc] at hQ
    replace hp := hp.1 hc
    exact s114_48 n k4 q4 h4 l0 l1 l2 l3 M hp hQ
  · rw [if_neg hc] at hQ
    replace hp := hp.2 hc
    refine wp_go 1 (pc' := 22) (L' := [some (.ref l0), some (.int l1), some (.int l2), some (.int l3)]) (st' := [.ref l0]) (M' := M) rfl ?_
    obtain ⟨hc, hp⟩ := hp
    refine wq_getQ (j := 4) rfl hc ?_
    obtain ⟨hc, hp⟩ := hp
    refine wq_getQ (j := 0) rfl hc ?_
    refine wp_go 1 (pc' := 29) (L' := [some (.ref l0), some (.int l1), some (.int l2), some (.int l3)]) (st' := [.ref l0, .ref (zQ M (zQ M l0 4) 0)]) (M' := M) rfl ?_
    obtain ⟨hc, hp⟩ := hp
    refine wq_getQ (j := 3) rfl hc ?_
    obtain ⟨hc, hp⟩ := hp
    refine wq_getQ (j := 0) rfl hc ?_
    refine wp_go 1 (pc' := 36) (L' := [some (.ref l0), some (.int l1), some (.int l2), some (.int l3)]) (st' := [.int l3, .ref (zQ M (zQ M l0 3) 0), .ref (zQ M (zQ M l0 4) 0)]) (M' := M) rfl ?_
    obtain ⟨hc, hp⟩ := hp
    refine wq_aald rfl hc ?_
    obtain ⟨hc, hp⟩ := hp
    refine wq_getI (j := 0) rfl hc ?_
    obtain ⟨hc, hp⟩ := hp
    refine wq_iald rfl hc ?_
    refine wp_go 1 (pc' := 42) (L' := [some (.ref l0), some (.int l1), some (.int l2), some (.int l3)]) (st' := [.int l1, .int (zI M (zQ M (zQ M l0 4) 0) (zI M (zQ M (zQ M (zQ M l0 3) 0) l3.toNatClampNeg) 0).toNatClampNeg)]) (M' := M) rfl ?_
    refine wp_ic_ne (t := 48) rfl rfl (fun hc => ?_) (fun hc => ?_)
    · rw [if_neg hc] at hQ
      replace hp := hp.2 hc
      exact s114_48 n k4 q4 h4 l0 l1 l2 l3 M hp hQ
    · rw [if_pos hc] at hQ
      replace hp := hp.1 hc
      refine wp_go 1 (pc' := 48) (L' := [some (.ref l0), some (.int l1), some (.int (l2 + Int32.ofInt 1)), some (.int l3)]) (st' := []) (M' := M) rfl ?_
      exact s114_48 n k4 q4 h4 l0 l1 (l2 + Int32.ofInt 1) l3 M hp hQ
def c114_4 (n : Nat) (k4 : Nat → Int32 → Int32 → Int32 → zM → Int32 × zM) (l0 : Nat) (l1 : Int32) (l2 : Int32) (l3 : Int32) (M : zM) : Int32 × zM := (if (40 : Int32) ≤ l3 then (l2, M) else b114_18 n k4 l0 l1 l2 l3 (b14_0 n (zQ M l0 3) l3 M).1 (b14_0 n (zQ M l0 3) l3 M).2)
def d114_4 (n : Nat) (q4 : Nat → Int32 → Int32 → Int32 → zM → Prop) (l0 : Nat) (l1 : Int32) (l2 : Int32) (l3 : Int32) (M : zM) : Prop := (((40 : Int32) ≤ l3 → True) ∧ (¬ (40 : Int32) ≤ l3 → (zHasQ 9 28 l0 M 3) ∧ ((zHasC 114 318 (zQ M l0 3) M 14 1) ∧ ((p14_0 n (zQ M l0 3) l3 M) ∧ (p114_18 n q4 l0 l1 l2 l3 (b14_0 n (zQ M l0 3) l3 M).1 (b14_0 n (zQ M l0 3) l3 M).2)))))
theorem t114_4 (n : Nat) (k4 : Nat → Int32 → Int32 → Int32 → zM → Int32 × zM) (q4 : Nat → Int32 → Int32 → Int32 → zM → Prop) (h4 : ∀ (l0 : Nat) (l1 : Int32) (l2 : Int32) (l3 : Int32) (M : zM), q4 l0 l1 l2 l3 M → ∀ {Q : Option Value → zM → Prop}, (∀ r M1, zRI (k4 l0 l1 l2 l3 M) r M1 → Q r M1) → zWP 114 4 [some (.ref l0), some (.int l1), some (.int l2), some (.int l3)] [] M Q) (l0 : Nat) (l1 : Int32) (l2 : Int32) (l3 : Int32) (M : zM) (hp : d114_4 n q4 l0 l1 l2 l3 M) {Q : Option Value → zM → Prop} (hQ : ∀ r M1, zRI (c114_4 n k4 l0 l1 l2 l3 M) r M1 → Q r M1) : zWP 114 4 [some (.ref l0), some (.int l1), some (.int l2), some (.int l3)] [] M Q := by
  unfold c114_4 at hQ
  unfold d114_4 at hp
  refine wp_go 2 (pc' := 7) (L' := [some (.ref l0), some (.int l1), some (.int l2), some (.int l3)]) (st' := [.int (40 : Int32), .int l3]) (M' := M) rfl ?_
  refine wp_ic_ge (t := 54) rfl rfl (fun hc => ?_) (fun hc => ?_)
  · rw [if_pos hc] at hQ
    replace hp := hp.1 hc
    refine wp_go 1 (pc' := 55) (L' := [some (.ref l0), some (.int l1), some (.int l2), some (.int l3)]) (st' := [.int l2]) (M' := M) rfl ?_
    exact wp_ret (r := some (.int l2)) rfl rfl (hQ _ _ ⟨rfl, rfl⟩)
  · rw [if_neg hc] at hQ
    replace hp := hp.2 hc
    refine wp_go 1 (pc' := 11) (L' := [some (.ref l0), some (.int l1), some (.int l2), some (.int l3)]) (st' := [.ref l0]) (M' := M) rfl ?_
    obtain ⟨hc, hp⟩ := hp
    refine wq_getQ (j := 3) rfl hc ?_
    refine wp_go 1 (pc' := 15) (L' := [some (.ref l0), some (.int l1), some (.int l2), some (.int l3)]) (st' := [.int l3, .ref (zQ M l0 3)]) (M' := M) rfl ?_
    obtain ⟨hv, hp⟩ := hp
    obtain ⟨hc, hp⟩ := hp
    refine wp_calli (v := (b14_0 n (zQ M l0 3) l3 M).1) (M1 := (b14_0 n (zQ M l0 3) l3 M).2) rfl rfl rfl (zInv_v (np := 1) rfl rfl hv rfl) (s14_0 n (zQ M l0 3) l3 M hc (fun r M1 h => h)) ?_
    exact s114_18 n k4 q4 h4 l0 l1 l2 l3 (b14_0 n (zQ M l0 3) l3 M).1 (b14_0 n (zQ M l0 3) l3 M).2 hp hQ
def b114_4 (n : Nat)  : Nat → Nat → Int32 → Int32 → Int32 → zM → Int32 × zM
  | 0, _, _, _, _, M => (0, M)
  | k + 1, l0, l1, l2, l3, M => c114_4 n  (b114_4 n  k) l0 l1 l2 l3 M
def p114_4 (n : Nat)  : Nat → Nat → Int32 → Int32 → Int32 → zM → Prop
  | 0, _, _, _, _, _ => False
  | k + 1, l0, l1, l2, l3, M => d114_4 n  (p114_4 n  k) l0 l1 l2 l3 M
theorem s114_4 (n : Nat)    : ∀ (k : Nat) (l0 : Nat) (l1 : Int32) (l2 : Int32) (l3 : Int32) (M : zM), p114_4 n  k l0 l1 l2 l3 M → ∀ {Q : Option Value → zM → Prop}, (∀ r M1, zRI (b114_4 n  k l0 l1 l2 l3 M) r M1 → Q r M1) → zWP 114 4 [some (.ref l0), some (.int l1), some (.int l2), some (.int l3)] [] M Q
  | 0, _, _, _, _, _, h, _, _ => h.elim
  | k + 1, l0, l1, l2, l3, M, h, _, hQ => t114_4 n  (b114_4 n  k)  (p114_4 n  k)  (s114_4 n    k) l0 l1 l2 l3 M h hQ
def b114_0 (n : Nat)  (l0 : Nat) (l1 : Int32) (M : zM) : Int32 × zM := b114_4 n  n l0 l1 (0 : Int32) (0 : Int32) M
def p114_0 (n : Nat)  (l0 : Nat) (l1 : Int32) (M : zM) : Prop := p114_4 n  n l0 l1 (0 : Int32) (0 : Int32) M
theorem s114_0 (n : Nat)    (l0 : Nat) (l1 : Int32) (M : zM) (hp : p114_0 n  l0 l1 M) {Q : Option Value → zM → Prop} (hQ : ∀ r M1, zRI (b114_0 n  l0 l1 M) r M1 → Q r M1) : zWP 114 0 [some (.ref l0), some (.int l1), none, none] [] M Q := by
  unfold b114_0 at hQ
  unfold p114_0 at hp
  refine wp_go 4 (pc' := 4) (L' := [some (.ref l0), some (.int l1), some (.int (0 : Int32)), some (.int (0 : Int32))]) (st' := []) (M' := M) rfl ?_
  exact s114_4 n    n l0 l1 (0 : Int32) (0 : Int32) M hp hQ
