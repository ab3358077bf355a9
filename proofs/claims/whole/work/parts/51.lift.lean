/-! X12_edge -/
def b140_94 (n : Nat)  (s0 : Int32) (M : zM) : Int32 × zM := (s0, M)
def p140_94 (n : Nat)  (s0 : Int32) (M : zM) : Prop := True
theorem s140_94 (n : Nat)    (s0 : Int32) (M : zM) (hp : p140_94 n  s0 M) {Q : Option Value → zM → Prop} (hQ : ∀ r M1, zRI (b140_94 n  s0 M) r M1 → Q r M1) : zWP 140 94 [none, none, none, none] [.int s0] M Q := by
  unfold b140_94 at hQ
  unfold p140_94 at hp
  exact wp_ret (r := some (.int s0)) rfl rfl (hQ _ _ ⟨rfl, rfl⟩)
def b140_86 (n : Nat)  (s0 : Int32) (M : zM) : Int32 × zM := (if s0 = 0 then b140_94 n  (0 : Int32) M else b140_94 n  (1 : Int32) M)
def p140_86 (n : Nat)  (s0 : Int32) (M : zM) : Prop := ((s0 = 0 → p140_94 n  (0 : Int32) M) ∧ (¬ s0 = 0 → p140_94 n  (1 : Int32) M))
theorem s140_86 (n : Nat)    (s0 : Int32) (M : zM) (hp : p140_86 n  s0 M) {Q : Option Value → zM → Prop} (hQ : ∀ r M1, zRI (b140_86 n  s0 M) r M1 → Q r M1) : zWP 140 86 [none, none, none, none] [.int s0] M Q := by
  unfold b140_86 at hQ
  unfold p140_86 at hp
  refine wp_if_eq (t := 93) rfl rfl (fun hc => ?_) (fun hc => ?_)
  · rw [if_pos hc] at hQ
    replace hp := hp.1 hc
    refine wp_go 1 (pc' := 94) (L' := [none, none, none, none]) (st' := [.int (0 : Int32)]) (M' := M) rfl ?_
    exact s140_94 n    (0 : Int32) M hp hQ
  · rw [if_neg hc] at hQ
    replace hp := hp.2 hc
    refine wp_go 2 (pc' := 94) (L' := [none, none, none, none]) (st' := [.int (1 : Int32)]) (M' := M) rfl ?_
    exact s140_94 n    (1 : Int32) M hp hQ
def b140_118 (n : Nat)  (s0 : Int32) (M : zM) : Int32 × zM := (s0, M)
def p140_118 (n : Nat)  (s0 : Int32) (M : zM) : Prop := True
theorem s140_118 (n : Nat)    (s0 : Int32) (M : zM) (hp : p140_118 n  s0 M) {Q : Option Value → zM → Prop} (hQ : ∀ r M1, zRI (b140_118 n  s0 M) r M1 → Q r M1) : zWP 140 118 [none, none, none, none] [.int s0] M Q := by
  unfold b140_118 at hQ
  unfold p140_118 at hp
  exact wp_ret (r := some (.int s0)) rfl rfl (hQ _ _ ⟨rfl, rfl⟩)
def b140_100 (n : Nat)  (l0 : Nat) (l1 : Int32) (l2 : Int32) (s0 : Int32) (M : zM) : Int32 × zM := (if s0 = 0 then b140_118 n  (0 : Int32) M else b140_118 n  (zI M (zQ M l0 9) (((20 : Int32) * l1) + l2).toNatClampNeg) M)
def p140_100 (n : Nat)  (l0 : Nat) (l1 : Int32) (l2 : Int32) (s0 : Int32) (M : zM) : Prop := ((s0 = 0 → p140_118 n  (0 : Int32) M) ∧ (¬ s0 = 0 → (zHasQ 10 35 l0 M 9) ∧ ((zOkI (zQ M l0 9) (((20 : Int32) * l1) + l2) M) ∧ (p140_118 n  (zI M (zQ M l0 9) (((20 : Int32) * l1) + l2).toNatClampNeg) M))))
theorem s140_100 (n : Nat)    (l0 : Nat) (l1 : Int32) (l2 : Int32) (s0 : Int32) (M : zM) (hp : p140_100 n  l0 l1 l2 s0 M) {Q : Option Value → zM → Prop} (hQ : ∀ r M1, zRI (b140_100 n  l0 l1 l2 s0 M) r M1 → Q r M1) : zWP 140 100 [some (.ref l0), some (.int l1), some (.int l2), none] [.int s0] M Q := by
  unfold b140_100 at hQ
  unfold p140_100 at hp
  refine wp_if_eq (t := 117) rfl rfl (fun hc => ?_) (fun hc => ?_)
  · rw [if_pos hc] at hQ
    replace hp := hp.1 hc
    refine wp_go 1 (pc' := 118) (L' := [some (.ref l0), some (.int l1), some (.int l2), none]) (st' := [.int (0 : Int32)]) (M' := M) rfl ?_
    refine wp_le [none, none, none, none] (zLe_of (by simp [zLeB])) ?_
    exact s140_118 n    (0 : Int32) M hp hQ
  · rw [if_neg hc] at hQ
    replace hp := hp.2 hc
    refine wp_go 1 (pc' := 104) (L' := [some (.ref l0), some (.int l1), some (.int l2), none]) (st' := [.ref l0]) (M' := M) rfl ?_
    obtain ⟨hc, hp⟩ := hp
    refine wq_getQ (j := 9) rfl hc ?_
    refine wp_go 5 (pc' := 113) (L' := [some (.ref l0), some (.int l1), some (.int l2), none]) (st' := [.int (((20 : Int32) * l1) + l2), .ref (zQ M l0 9)]) (M' := M) rfl ?_
    obtain ⟨hc, hp⟩ := hp
    refine wq_iald rfl hc ?_
    refine wp_go 1 (pc' := 118) (L' := [some (.ref l0), some (.int l1), some (.int l2), none]) (st' := [.int (zI M (zQ M l0 9) (((20 : Int32) * l1) + l2).toNatClampNeg)]) (M' := M) rfl ?_
    refine wp_le [none, none, none, none] (zLe_of (by simp [zLeB])) ?_
    exact s140_118 n    (zI M (zQ M l0 9) (((20 : Int32) * l1) + l2).toNatClampNeg) M hp hQ
def b140_136 (n : Nat)  (s0 : Int32) (M : zM) : Int32 × zM := (s0, M)
def p140_136 (n : Nat)  (s0 : Int32) (M : zM) : Prop := True
theorem s140_136 (n : Nat)    (s0 : Int32) (M : zM) (hp : p140_136 n  s0 M) {Q : Option Value → zM → Prop} (hQ : ∀ r M1, zRI (b140_136 n  s0 M) r M1 → Q r M1) : zWP 140 136 [none, none, none, none] [.int s0] M Q := by
  unfold b140_136 at hQ
  unfold p140_136 at hp
  exact wp_ret (r := some (.int s0)) rfl rfl (hQ _ _ ⟨rfl, rfl⟩)
def b140_19 (n : Nat)  (s0 : Int32) (M : zM) : Int32 × zM := (s0, M)
def p140_19 (n : Nat)  (s0 : Int32) (M : zM) : Prop := True
theorem s140_19 (n : Nat)    (s0 : Int32) (M : zM) (hp : p140_19 n  s0 M) {Q : Option Value → zM → Prop} (hQ : ∀ r M1, zRI (b140_19 n  s0 M) r M1 → Q r M1) : zWP 140 19 [none, none, none, none] [.int s0] M Q := by
  unfold b140_19 at hQ
  unfold p140_19 at hp
  exact wp_ret (r := some (.int s0)) rfl rfl (hQ _ _ ⟨rfl, rfl⟩)
def b140_11 (n : Nat)  (l0 : Nat) (l1 : Int32) (l2 : Int32) (l3 : Int32) (s0 : Int32) (M : zM) : Int32 × zM := (if s0 = 0 then b140_19 n  (b119_0 n l0 (1 : Int32) M).1 (b119_0 n l0 (1 : Int32) M).2 else (if l3 = 0 then ((zI M (zQ M l0 6) (((20 : Int32) * l1) + l2).toNatClampNeg), M) else if l3 = 1 then ((zI M (zQ M l0 7) (((20 : Int32) * l1) + l2).toNatClampNeg), M) else if l3 = 2 then b140_86 n  (b134_0 n l0 l1 l2 M).1 (b134_0 n l0 l1 l2 M).2 else if l3 = 3 then b140_100 n  l0 l1 l2 (b132_0 n l0 l1 M).1 (b132_0 n l0 l1 M).2 else if l3 = 4 then ((zI M (zQ M l0 10) (((20 : Int32) * l1) + l2).toNatClampNeg), M) else b140_136 n  (b119_0 n l0 (2 : Int32) M).1 (b119_0 n l0 (2 : Int32) M).2))
def p140_11 (n : Nat)  (l0 : Nat) (l1 : Int32) (l2 : Int32) (l3 : Int32) (s0 : Int32) (M : zM) : Prop := ((s0 = 0 → (zHasC 140 196 l0 M 119 1) ∧ ((p119_0 n l0 (1 : Int32) M) ∧ (p140_19 n  (b119_0 n l0 (1 : Int32) M).1 (b119_0 n l0 (1 : Int32) M).2))) ∧ (¬ s0 = 0 → ((l3 = 0 → (zHasQ 10 26 l0 M 6) ∧ ((zOkI (zQ M l0 6) (((20 : Int32) * l1) + l2) M) ∧ (True))) ∧ (¬ l3 = 0 → (l3 = 1 → (zHasQ 10 29 l0 M 7) ∧ ((zOkI (zQ M l0 7) (((20 : Int32) * l1) + l2) M) ∧ (True))) ∧ (¬ l3 = 1 → (l3 = 2 → (zHasC 140 199 l0 M 134 2) ∧ ((p134_0 n l0 l1 l2 M) ∧ (p140_86 n  (b134_0 n l0 l1 l2 M).1 (b134_0 n l0 l1 l2 M).2))) ∧ (¬ l3 = 2 → (l3 = 3 → (zHasC 140 173 l0 M 132 1) ∧ ((p132_0 n l0 l1 M) ∧ (p140_100 n  l0 l1 l2 (b132_0 n l0 l1 M).1 (b132_0 n l0 l1 M).2))) ∧ (¬ l3 = 3 → (l3 = 4 → (zHasQ 10 38 l0 M 10) ∧ ((zOkI (zQ M l0 10) (((20 : Int32) * l1) + l2) M) ∧ (True))) ∧ (¬ l3 = 4 → (zHasC 140 196 l0 M 119 1) ∧ ((p119_0 n l0 (2 : Int32) M) ∧ (p140_136 n  (b119_0 n l0 (2 : Int32) M).1 (b119_0 n l0 (2 : Int32) M).2))))))))))
theorem s140_11 (n : Nat)    (l0 : Nat) (l1 : Int32) (l2 : Int32) (l3 : Int32) (s0 : Int32) (M : zM) (hp : p140_11 n  l0 l1 l2 l3 s0 M) {Q : Option Value → zM → Prop} (hQ : ∀ r M1, zRI (b140_11 n  l0 l1 l2 l3 s0 M) r M1 → Q r M1) : zWP 140 11 [some (.ref l0), some (.int l1), some (.int l2), some (.int l3)] [.int s0] M Q := by
  unfold b140_11 at hQ
  unfold p140_11 at hp
  refine wp_if_ne (t := 20) rfl rfl (fun hc => ?_) (fun hc => ?_)
  · rw [if_neg hc] at hQ
    replace hp := hp.2 hc
    refine wp_go 1 (pc' := 21) (L' := [some (.ref l0), some (.int l1), some (.int l2), some (.int l3)]) (st' := [.int l3]) (M' := M) rfl ?_
    by_cases hc0 : l3 = 0
    · rw [if_pos hc0] at hQ
      replace hp := hp.1 hc0
      refine wp_tabI rfl hc0 (t := 56) rfl ?_
      refine wp_go 1 (pc' := 57) (L' := [some (.ref l0), some (.int l1), some (.int l2), some (.int l3)]) (st' := [.ref l0]) (M' := M) rfl ?_
      obtain ⟨hc, hp⟩ := hp
      refine wq_getQ (j := 6) rfl hc ?_
      refine wp_go 5 (pc' := 66) (L' := [some (.ref l0), some (.int l1), some (.int l2), some (.int l3)]) (st' := [.int (((20 : Int32) * l1) + l2), .ref (zQ M l0 6)]) (M' := M) rfl ?_
      obtain ⟨hc, hp⟩ := hp
      refine wq_iald rfl hc ?_
      exact wp_ret (r := some (.int (zI M (zQ M l0 6) (((20 : Int32) * l1) + l2).toNatClampNeg))) rfl rfl (hQ _ _ ⟨rfl, rfl⟩)
    rw [if_neg hc0] at hQ
    replace hp := hp.2 hc0
    by_cases hc1 : l3 = 1
    · rw [if_pos hc1] at hQ
      replace hp := hp.1 hc1
      refine wp_tabI rfl hc1 (t := 68) rfl ?_
      refine wp_go 1 (pc' := 69) (L' := [some (.ref l0), some (.int l1), some (.int l2), some (.int l3)]) (st' := [.ref l0]) (M' := M) rfl ?_
      obtain ⟨hc, hp⟩ := hp
      refine wq_getQ (j := 7) rfl hc ?_
      refine wp_go 5 (pc' := 78) (L' := [some (.ref l0), some (.int l1), some (.int l2), some (.int l3)]) (st' := [.int (((20 : Int32) * l1) + l2), .ref (zQ M l0 7)]) (M' := M) rfl ?_
      obtain ⟨hc, hp⟩ := hp
      refine wq_iald rfl hc ?_
      exact wp_ret (r := some (.int (zI M (zQ M l0 7) (((20 : Int32) * l1) + l2).toNatClampNeg))) rfl rfl (hQ _ _ ⟨rfl, rfl⟩)
    rw [if_neg hc1] at hQ
    replace hp := hp.2 hc1
    by_cases hc2 : l3 = 2
    · rw [if_pos hc2] at hQ
      replace hp := hp.1 hc2
      refine wp_tabI rfl hc2 (t := 80) rfl ?_
      refine wp_go 3 (pc' := 83) (L' := [some (.ref l0), some (.int l1), some (.int l2), some (.int l3)]) (st' := [.int l2, .int l1, .ref l0]) (M' := M) rfl ?_
      obtain ⟨hv, hp⟩ := hp
      obtain ⟨hc, hp⟩ := hp
      refine wp_calli (v := (b134_0 n l0 l1 l2 M).1) (M1 := (b134_0 n l0 l1 l2 M).2) rfl rfl rfl (zInv_v (np := 2) rfl rfl hv rfl) (s134_0 n l0 l1 l2 M hc (fun r M1 h => h)) ?_
      refine wp_le [none, none, none, none] (zLe_of (by simp [zLeB])) ?_
      exact s140_86 n    (b134_0 n l0 l1 l2 M).1 (b134_0 n l0 l1 l2 M).2 hp hQ
    rw [if_neg hc2] at hQ
    replace hp := hp.2 hc2
    by_cases hc3 : l3 = 3
    · rw [if_pos hc3] at hQ
      replace hp := hp.1 hc3
      refine wp_tabI rfl hc3 (t := 95) rfl ?_
      refine wp_go 2 (pc' := 97) (L' := [some (.ref l0), some (.int l1), some (.int l2), some (.int l3)]) (st' := [.int l1, .ref l0]) (M' := M) rfl ?_
      obtain ⟨hv, hp⟩ := hp
      obtain ⟨hc, hp⟩ := hp
      refine wp_calli (v := (b132_0 n l0 l1 M).1) (M1 := (b132_0 n l0 l1 M).2) rfl rfl rfl (zInv_v (np := 1) rfl rfl hv rfl) (s132_0 n l0 l1 M hc (fun r M1 h => h)) ?_
      refine wp_le [some (.ref l0), some (.int l1), some (.int l2), none] (zLe_of (by simp [zLeB])) ?_
      exact s140_100 n    l0 l1 l2 (b132_0 n l0 l1 M).1 (b132_0 n l0 l1 M).2 hp hQ
    rw [if_neg hc3] at hQ
    replace hp := hp.2 hc3
    by_cases hc4 : l3 = 4
    · rw [if_pos hc4] at hQ
      replace hp := hp.1 hc4
      refine wp_tabI rfl hc4 (t := 119) rfl ?_
      refine wp_go 1 (pc' := 120) (L' := [some (.ref l0), some (.int l1), some (.int l2), some (.int l3)]) (st' := [.ref l0]) (M' := M) rfl ?_
      obtain ⟨hc, hp⟩ := hp
      refine wq_getQ (j := 10) rfl hc ?_
      refine wp_go 5 (pc' := 129) (L' := [some (.ref l0), some (.int l1), some (.int l2), some (.int l3)]) (st' := [.int (((20 : Int32) * l1) + l2), .ref (zQ M l0 10)]) (M' := M) rfl ?_
      obtain ⟨hc, hp⟩ := hp
      refine wq_iald rfl hc ?_
      exact wp_ret (r := some (.int (zI M (zQ M l0 10) (((20 : Int32) * l1) + l2).toNatClampNeg))) rfl rfl (hQ _ _ ⟨rfl, rfl⟩)
    rw [if_neg hc4] at hQ
    replace hp := hp.2 hc4
    refine wp_tabO (t := 131) rfl (by have e0 : ¬ (l3).toInt = 0 := fun h => hc0 (Int32.toInt_inj.mp h); have e1 : ¬ (l3).toInt = 1 := fun h => hc1 (Int32.toInt_inj.mp h); have e2 : ¬ (l3).toInt = 2 := fun h => hc2 (Int32.toInt_inj.mp h); have e3 : ¬ (l3).toInt = 3 := fun h => hc3 (Int32.toInt_inj.mp h); have e4 : ¬ (l3).toInt = 4 := fun h => hc4 (Int32.toInt_inj.mp h); omega) rfl ?_
    refine wp_go 2 (pc' := 133) (L' := [some (.ref l0), some (.int l1), some (.int l2), some (.int l3)]) (st' := [.int (2 : Int32), .ref l0]) (M' := M) rfl ?_
    obtain ⟨hv, hp⟩ := hp
    obtain ⟨hc, hp⟩ := hp
    refine wp_calli (v := (b119_0 n l0 (2 : Int32) M).1) (M1 := (b119_0 n l0 (2 : Int32) M).2) rfl rfl rfl (zInv_v (np := 1) rfl rfl hv rfl) (s119_0 n l0 (2 : Int32) M hc (fun r M1 h => h)) ?_
    refine wp_le [none, none, none, none] (zLe_of (by simp [zLeB])) ?_
    exact s140_136 n    (b119_0 n l0 (2 : Int32) M).1 (b119_0 n l0 (2 : Int32) M).2 hp hQ
  · rw [if_pos hc] at hQ
    replace hp := hp.1 hc
    refine wp_go 2 (pc' := 16) (L' := [some (.ref l0), some (.int l1), some (.int l2), some (.int l3)]) (st' := [.int (1 : Int32), .ref l0]) (M' := M) rfl ?_
    obtain ⟨hv, hp⟩ := hp
    obtain ⟨hc, hp⟩ := hp
    refine wp_calli (v := (b119_0 n l0 (1 : Int32) M).1) (M1 := (b119_0 n l0 (1 : Int32) M).2) rfl rfl rfl (zInv_v (np := 1) rfl rfl hv rfl) (s119_0 n l0 (1 : Int32) M hc (fun r M1 h => h)) ?_
    refine wp_le [none, none, none, none] (zLe_of (by simp [zLeB])) ?_
    exact s140_19 n    (b119_0 n l0 (1 : Int32) M).1 (b119_0 n l0 (1 : Int32) M).2 hp hQ
def b140_5 (n : Nat)  (l0 : Nat) (l1 : Int32) (l2 : Int32) (l3 : Int32) (M : zM) : Int32 × zM := b140_11 n  l0 l1 l2 l3 (b130_0 n l0 l1 l2 M).1 (b130_0 n l0 l1 l2 M).2
def p140_5 (n : Nat)  (l0 : Nat) (l1 : Int32) (l2 : Int32) (l3 : Int32) (M : zM) : Prop := (zHasC 140 169 l0 M 130 2) ∧ ((p130_0 n l0 l1 l2 M) ∧ (p140_11 n  l0 l1 l2 l3 (b130_0 n l0 l1 l2 M).1 (b130_0 n l0 l1 l2 M).2))
theorem s140_5 (n : Nat)    (l0 : Nat) (l1 : Int32) (l2 : Int32) (l3 : Int32) (M : zM) (hp : p140_5 n  l0 l1 l2 l3 M) {Q : Option Value → zM → Prop} (hQ : ∀ r M1, zRI (b140_5 n  l0 l1 l2 l3 M) r M1 → Q r M1) : zWP 140 5 [some (.ref l0), some (.int l1), some (.int l2), some (.int l3)] [] M Q := by
  unfold b140_5 at hQ
  unfold p140_5 at hp
  refine wp_go 3 (pc' := 8) (L' := [some (.ref l0), some (.int l1), some (.int l2), some (.int l3)]) (st' := [.int l2, .int l1, .ref l0]) (M' := M) rfl ?_
  obtain ⟨hv, hp⟩ := hp
  obtain ⟨hc, hp⟩ := hp
  refine wp_calli (v := (b130_0 n l0 l1 l2 M).1) (M1 := (b130_0 n l0 l1 l2 M).2) rfl rfl rfl (zInv_v (np := 2) rfl rfl hv rfl) (s130_0 n l0 l1 l2 M hc (fun r M1 h => h)) ?_
  exact s140_11 n    l0 l1 l2 l3 (b130_0 n l0 l1 l2 M).1 (b130_0 n l0 l1 l2 M).2 hp hQ
def b140_0 (n : Nat)  (l0 : Nat) (l1 : Int32) (l2 : Int32) (l3 : Int32) (M : zM) : Int32 × zM := b140_5 n  l0 l1 l2 l3 (zWI M l0 26 (0 : Int32))
def p140_0 (n : Nat)  (l0 : Nat) (l1 : Int32) (l2 : Int32) (l3 : Int32) (M : zM) : Prop := (zPutI 140 138 l0 M 26 (0 : Int32)) ∧ (p140_5 n  l0 l1 l2 l3 (zWI M l0 26 (0 : Int32)))
theorem s140_0 (n : Nat)    (l0 : Nat) (l1 : Int32) (l2 : Int32) (l3 : Int32) (M : zM) (hp : p140_0 n  l0 l1 l2 l3 M) {Q : Option Value → zM → Prop} (hQ : ∀ r M1, zRI (b140_0 n  l0 l1 l2 l3 M) r M1 → Q r M1) : zWP 140 0 [some (.ref l0), some (.int l1), some (.int l2), some (.int l3)] [] M Q := by
  unfold b140_0 at hQ
  unfold p140_0 at hp
  refine wp_go 2 (pc' := 2) (L' := [some (.ref l0), some (.int l1), some (.int l2), some (.int l3)]) (st' := [.int (0 : Int32), .ref l0]) (M' := M) rfl ?_
  obtain ⟨hc, hp⟩ := hp
  refine wq_putI (j := 26) rfl hc ?_
  exact s140_5 n    l0 l1 l2 l3 (zWI M l0 26 (0 : Int32)) hp hQ
/-! X12_areaOf -/
def b141_84 (n : Nat)  (s0 : Int64) (M : zM) : Int64 × zM := (s0, M)
def p141_84 (n : Nat)  (s0 : Int64) (M : zM) : Prop := True
theorem s141_84 (n : Nat)    (s0 : Int64) (M : zM) (hp : p141_84 n  s0 M) {Q : Option Value → zM → Prop} (hQ : ∀ r M1, zRJ (b141_84 n  s0 M) r M1 → Q r M1) : zWP 141 84 [none, none, none, none, none, none, none, none, none, none, none, none, none, none] [.long s0] M Q := by
  unfold b141_84 at hQ
  unfold p141_84 at hp
  exact wp_ret (r := some (.long s0)) rfl rfl (hQ _ _ ⟨rfl, rfl⟩)
def b141_41 (n : Nat) (k11 : Nat → Int32 → Int32 → Int64 → Int64 → Int64 → Int32 → zM → Int64 × zM) (l0 : Nat) (l1 : Int32) (l2 : Int32) (l3 : Int64) (l5 : Int64) (l7 : Int64) (l9 : Int32) (l10 : Int64) (s0 : Int32) (M : zM) : Int64 × zM := k11 l0 l1 l2 (l3 + ((l5 * s0.toInt64) - (l10 * l7))) l10 s0.toInt64 (l9 + Int32.ofInt 1) M
def p141_41 (n : Nat) (q11 : Nat → Int32 → Int32 → Int64 → Int64 → Int64 → Int32 → zM → Prop) (l0 : Nat) (l1 : Int32) (l2 : Int32) (l3 : Int64) (l5 : Int64) (l7 : Int64) (l9 : Int32) (l10 : Int64) (s0 : Int32) (M : zM) : Prop := q11 l0 l1 l2 (l3 + ((l5 * s0.toInt64) - (l10 * l7))) l10 s0.toInt64 (l9 + Int32.ofInt 1) M
theorem s141_41 (n : Nat) (k11 : Nat → Int32 → Int32 → Int64 → Int64 → Int64 → Int32 → zM → Int64 × zM) (q11 : Nat → Int32 → Int32 → Int64 → Int64 → Int64 → Int32 → zM → Prop) (h11 : ∀ (l0 : Nat) (l1 : Int32) (l2 : Int32) (l3 : Int64) (l5 : Int64) (l7 : Int64) (l9 : Int32) (M : zM), q11 l0 l1 l2 l3 l5 l7 l9 M → ∀ {Q : Option Value → zM → Prop}, (∀ r M1, zRJ (k11 l0 l1 l2 l3 l5 l7 l9 M) r M1 → Q r M1) → zWP 141 11 [some (.ref l0), some (.int l1), some (.int l2), some (.long l3), none, some (.long l5), none, some (.long l7), none, some (.int l9), none, none, none, none] [] M Q) (l0 : Nat) (l1 : Int32) (l2 : Int32) (l3 : Int64) (l5 : Int64) (l7 : Int64) (l9 : Int32) (l10 : Int64) (s0 : Int32) (M : zM) (hp : p141_41 n q11 l0 l1 l2 l3 l5 l7 l9 l10 s0 M) {Q : Option Value → zM → Prop} (hQ : ∀ r M1, zRJ (b141_41 n k11 l0 l1 l2 l3 l5 l7 l9 l10 s0 M) r M1 → Q r M1) : zWP 141 41 [some (.ref l0), some (.int l1), some (.int l2), some (.long l3), none, some (.long l5), none, some (.long l7), none, some (.int l9), some (.long l10), none, none, none] [.int s0] M Q := by
  unfold b141_41 at hQ
  unfold p141_41 at hp
  refine wp_go 5 (pc' := 49) (L' := [some (.ref l0), some (.int l1), some (.int l2), some (.long l3), none, some (.long l5), none, some (.long l7), none, some (.int l9), some (.long l10), none, some (.long s0.toInt64), none]) (st' := [.long s0.toInt64, .long l5, .long l3]) (M' := M) rfl ?_
  refine wp_go 5 (pc' := 56) (L' := [some (.ref l0), some (.int l1), some (.int l2), some (.long l3), none, some (.long l5), none, some (.long l7), none, some (.int l9), some (.long l10), none, some (.long s0.toInt64), none]) (st' := [.long ((l5 * s0.toInt64) - (l10 * l7)), .long l3]) (M' := M) rfl ?_
  refine wp_go 5 (pc' := 64) (L' := [some (.ref l0), some (.int l1), some (.int l2), some (.long (l3 + ((l5 * s0.toInt64) - (l10 * l7)))), none, some (.long l10), none, some (.long l7), none, some (.int l9), some (.long l10), none, some (.long s0.toInt64), none]) (st' := [.long s0.toInt64]) (M' := M) rfl ?_
  refine wp_go 3 (pc' := 11) (L' := [some (.ref l0), some (.int l1), some (.int l2), some (.long (l3 + ((l5 * s0.toInt64) - (l10 * l7)))), none, some (.long l10), none, some (.long s0.toInt64), none, some (.int (l9 + Int32.ofInt 1)), some (.long l10), none, some (.long s0.toInt64), none]) (st' := []) (M' := M) rfl ?_
  refine wp_le [some (.ref l0), some (.int l1), some (.int l2), some (.long (l3 + ((l5 * s0.toInt64) - (l10 * l7)))), none, some (.long l10), none, some (.long s0.toInt64), none, some (.int (l9 + Int32.ofInt 1)), none, none, none, none] (zLe_of (by simp [zLeB])) ?_
  exact h11 l0 l1 l2 (l3 + ((l5 * s0.toInt64) - (l10 * l7))) l10 s0.toInt64 (l9 + Int32.ofInt 1) M hp hQ
def b141_30 (n : Nat) (k11 : Nat → Int32 → Int32 → Int64 → Int64 → Int64 → Int32 → zM → Int64 × zM) (l0 : Nat) (l1 : Int32) (l2 : Int32) (l3 : Int64) (l5 : Int64) (l7 : Int64) (l9 : Int32) (s0 : Int32) (M : zM) : Int64 × zM := b141_41 n k11 l0 l1 l2 l3 l5 l7 l9 s0.toInt64 (b123_0 n l0 l1 l9 l2 M).1 (b123_0 n l0 l1 l9 l2 M).2
def p141_30 (n : Nat) (q11 : Nat → Int32 → Int32 → Int64 → Int64 → Int64 → Int32 → zM → Prop) (l0 : Nat) (l1 : Int32) (l2 : Int32) (l3 : Int64) (l5 : Int64) (l7 : Int64) (l9 : Int32) (s0 : Int32) (M : zM) : Prop := (zHasC 141 162 l0 M 123 3) ∧ ((p123_0 n l0 l1 l9 l2 M) ∧ (p141_41 n q11 l0 l1 l2 l3 l5 l7 l9 s0.toInt64 (b123_0 n l0 l1 l9 l2 M).1 (b123_0 n l0 l1 l9 l2 M).2))
theorem s141_30 (n : Nat) (k11 : Nat → Int32 → Int32 → Int64 → Int64 → Int64 → Int32 → zM → Int64 × zM) (q11 : Nat → Int32 → Int32 → Int64 → Int64 → Int64 → Int32 → zM → Prop) (h11 : ∀ (l0 : Nat) (l1 : Int32) (l2 : Int32) (l3 : Int64) (l5 : Int64) (l7 : Int64) (l9 : Int32) (M : zM), q11 l0 l1 l2 l3 l5 l7 l9 M → ∀ {Q : Option Value → zM → Prop}, (∀ r M1, zRJ (k11 l0 l1 l2 l3 l5 l7 l9 M) r M1 → Q r M1) → zWP 141 11 [some (.ref l0), some (.int l1), some (.int l2), some (.long l3), none, some (.long l5), none, some (.long l7), none, some (.int l9), none, none, none, none] [] M Q) (l0 : Nat) (l1 : Int32) (l2 : Int32) (l3 : Int64) (l5 : Int64) (l7 : Int64) (l9 : Int32) (s0 : Int32) (M : zM) (hp : p141_30 n q11 l0 l1 l2 l3 l5 l7 l9 s0 M) {Q : Option Value → zM → Prop} (hQ : ∀ r M1, zRJ (b141_30 n k11 l0 l1 l2 l3 l5 l7 l9 s0 M) r M1 → Q r M1) : zWP 141 30 [some (.ref l0), some (.int l1), some (.int l2), some (.long l3), none, some (.long l5), none, some (.long l7), none, some (.int l9), none, none, none, none] [.int s0] M Q := by
  unfold b141_30 at hQ
  unfold p141_30 at hp
  refine wp_go 5 (pc' := 37) (L' := [some (.ref l0), some (.int l1), some (.int l2), some (.long l3), none, some (.long l5), none, some (.long l7), none, some (.int l9), some (.long s0.toInt64), none, none, none]) (st' := [.int l9, .int l1, .ref l0]) (M' := M) rfl ?_
  refine wp_go 1 (pc' := 38) (L' := [some (.ref l0), some (.int l1), some (.int l2), some (.long l3), none, some (.long l5), none, some (.long l7), none, some (.int l9), some (.long s0.toInt64), none, none, none]) (st' := [.int l2, .int l9, .int l1, .ref l0]) (M' := M) rfl ?_
  obtain ⟨hv, hp⟩ := hp
  obtain ⟨hc, hp⟩ := hp
  refine wp_calli (v := (b123_0 n l0 l1 l9 l2 M).1) (M1 := (b123_0 n l0 l1 l9 l2 M).2) rfl rfl rfl (zInv_v (np := 3) rfl rfl hv rfl) (s123_0 n l0 l1 l9 l2 M hc (fun r M1 h => h)) ?_
  exact s141_41 n k11 q11 h11 l0 l1 l2 l3 l5 l7 l9 s0.toInt64 (b123_0 n l0 l1 l9 l2 M).1 (b123_0 n l0 l1 l9 l2 M).2 hp hQ
def c141_11 (n : Nat) (k11 : Nat → Int32 → Int32 → Int64 → Int64 → Int64 → Int32 → zM → Int64 × zM) (l0 : Nat) (l1 : Int32) (l2 : Int32) (l3 : Int64) (l5 : Int64) (l7 : Int64) (l9 : Int32) (M : zM) : Int64 × zM := (if (zI M (zQ M l0 2) l1.toNatClampNeg) < l9 then (if 0 ≤ (lg_cmp l3 (0 : Int64)) then b141_84 n  l3 M else b141_84 n  (-l3) M) else b141_30 n k11 l0 l1 l2 l3 l5 l7 l9 (b122_0 n l0 l1 l9 l2 M).1 (b122_0 n l0 l1 l9 l2 M).2)
def d141_11 (n : Nat) (q11 : Nat → Int32 → Int32 → Int64 → Int64 → Int64 → Int32 → zM → Prop) (l0 : Nat) (l1 : Int32) (l2 : Int32) (l3 : Int64) (l5 : Int64) (l7 : Int64) (l9 : Int32) (M : zM) : Prop := (zHasQ 10 13 l0 M 2) ∧ ((zOkI (zQ M l0 2) l1 M) ∧ ((((zI M (zQ M l0 2) l1.toNatClampNeg) < l9 → ((0 ≤ (lg_cmp l3 (0 : Int64)) → p141_84 n  l3 M) ∧ (¬ 0 ≤ (lg_cmp l3 (0 : Int64)) → p141_84 n  (-l3) M))) ∧ (¬ (zI M (zQ M l0 2) l1.toNatClampNeg) < l9 → (zHasC 141 155 l0 M 122 3) ∧ ((p122_0 n l0 l1 l9 l2 M) ∧ (p141_30 n q11 l0 l1 l2 l3 l5 l7 l9 (b122_0 n l0 l1 l9 l2 M).1 (b122_0 n l0 l1 l9 l2 M).2))))))
theorem t141_11 (n : Nat) (k11 : Nat → Int32 → Int32 → Int64 → Int64 → Int64 → Int32 → zM → Int64 × zM) (q11 : Nat → Int32 → Int32 → Int64 → Int64 → Int64 → Int32 → zM → Prop) (h11 : ∀ (l0 : Nat) (l1 : Int32) (l2 : Int32) (l3 : Int64) (l5 : Int64) (l7 : Int64) (l9 : Int32) (M : zM), q11 l0 l1 l2 l3 l5 l7 l9 M → ∀ {Q : Option Value → zM → Prop}, (∀ r M1, zRJ (k11 l0 l1 l2 l3 l5 l7 l9 M) r M1 → Q r M1) → zWP 141 11 [some (.ref l0), some (.int l1), some (.int l2), some (.long l3), none, some (.long l5), none, some (.long l7), none, some (.int l9), none, none, none, none] [] M Q) (l0 : Nat) (l1 : Int32) (l2 : Int32) (l3 : Int64) (l5 : Int64) (l7 : Int64) (l9 : Int32) (M : zM) (hp : d141_11 n q11 l0 l1 l2 l3 l5 l7 l9 M) {Q : Option Value → zM → Prop} (hQ : ∀ r M1, zRJ (c141_11 n k11 l0 l1 l2 l3 l5 l7 l9 M) r M1 → Q r M1) : zWP 141 11 [some (.ref l0), some (.int l1), some (.int l2), some (.long l3), none, some (.long l5), none, some (.long l7), none, some (.int l9), none, none, none, none] [] M Q := by
  unfold c141_11 at hQ
  unfold d141_11 at hp
  refine wp_go 2 (pc' := 14) (L' := [some (.ref l0), some (.int l1), some (.int l2), some (.long l3), none, some (.long l5), none, some (.long l7), none, some (.int l9), none, none, none, none]) (st' := [.ref l0, .int l9]) (M' := M) rfl ?_
  obtain ⟨hc, hp⟩ := hp
  refine wq_getQ (j := 2) rfl hc ?_
  refine wp_go 1 (pc' := 18) (L' := [some (.ref l0), some (.int l1), some (.int l2), some (.long l3), none, some (.long l5), none, some (.long l7), none, some (.int l9), none, none, none, none]) (st' := [.int l1, .ref (zQ M l0 2), .int l9]) (M' := M) rfl ?_
  obtain ⟨hc, hp⟩ := hp
  refine wq_iald rfl hc ?_
  refine wp_ic_gt (t := 72) rfl rfl (fun hc => ?_) (fun hc => ?_)
  · rw [if_pos hc] at hQ
    replace hp := hp.1 hc
    refine wp_go 3 (pc' := 75) (L' := [some (.ref l0), some (.int l1), some (.int l2), some (.long l3), none, some (.long l5), none, some (.long l7), none, some (.int l9), none, none, none, none]) (st' := [.int (lg_cmp l3 (0 : Int64))]) (M' := M) rfl ?_
    refine wp_if_ge (t := 83) rfl rfl (fun hc => ?_) (fun hc => ?_)
    · rw [if_pos hc] at hQ
      replace hp := hp.1 hc
      refine wp_go 1 (pc' := 84) (L' := [some (.ref l0), some (.int l1), some (.int l2), some (.long l3), none, some (.long l5), none, some (.long l7), none, some (.int l9), none, none, none, none]) (st' := [.long l3]) (M' := M) rfl ?_
      refine wp_le [none, none, none, none, none, none, none, none, none, none, none, none, none, none] (zLe_of (by simp [zLeB])) ?_
      exact s141_84 n    l3 M hp hQ
    · rw [if_neg hc] at hQ
      replace hp := hp.2 hc
      refine wp_go 3 (pc' := 84) (L' := [some (.ref l0), some (.int l1), some (.int l2), some (.long l3), none, some (.long l5), none, some (.long l7), none, some (.int l9), none, none, none, none]) (st' := [.long (-l3)]) (M' := M) rfl ?_
      refine wp_le [none, none, none, none, none, none, none, none, none, none, none, none, none, none] (zLe_of (by simp [zLeB])) ?_
      exact s141_84 n    (-l3) M hp hQ
  · rw [if_neg hc] at hQ
    replace hp := hp.2 hc
    refine wp_go 4 (pc' := 27) (L' := [some (.ref l0), some (.int l1), some (.int l2), some (.long l3), none, some (.long l5), none, some (.long l7), none, some (.int l9), none, none, none, none]) (st' := [.int l2, .int l9, .int l1, .ref l0]) (M' := M) rfl ?_
    obtain ⟨hv, hp⟩ := hp
    obtain ⟨hc, hp⟩ := hp
    refine wp_calli (v := (b122_0 n l0 l1 l9 l2 M).1) (M1 := (b122_0 n l0 l1 l9 l2 M).2) rfl rfl rfl (zInv_v (np := 3) rfl rfl hv rfl) (s122_0 n l0 l1 l9 l2 M hc (fun r M1 h => h)) ?_
    exact s141_30 n k11 q11 h11 l0 l1 l2 l3 l5 l7 l9 (b122_0 n l0 l1 l9 l2 M).1 (b122_0 n l0 l1 l9 l2 M).2 hp hQ
def b141_11 (n : Nat)  : Nat → Nat → Int32 → Int32 → Int64 → Int64 → Int64 → Int32 → zM → Int64 × zM
  | 0, _, _, _, _, _, _, _, M => (0, M)
  | k + 1, l0, l1, l2, l3, l5, l7, l9, M => c141_11 n  (b141_11 n  k) l0 l1 l2 l3 l5 l7 l9 M
def p141_11 (n : Nat)  : Nat → Nat → Int32 → Int32 → Int64 → Int64 → Int64 → Int32 → zM → Prop
  | 0, _, _, _, _, _, _, _, _ => False
  | k + 1, l0, l1, l2, l3, l5, l7, l9, M => d141_11 n  (p141_11 n  k) l0 l1 l2 l3 l5 l7 l9 M
theorem s141_11 (n : Nat)    : ∀ (k : Nat) (l0 : Nat) (l1 : Int32) (l2 : Int32) (l3 : Int64) (l5 : Int64) (l7 : Int64) (l9 : Int32) (M : zM), p141_11 n  k l0 l1 l2 l3 l5 l7 l9 M → ∀ {Q : Option Value → zM → Prop}, (∀ r M1, zRJ (b141_11 n  k l0 l1 l2 l3 l5 l7 l9 M) r M1 → Q r M1) → zWP 141 11 [some (.ref l0), some (.int l1), some (.int l2), some (.long l3), none, some (.long l5), none, some (.long l7), none, some (.int l9), none, none, none, none] [] M Q
  | 0, _, _, _, _, _, _, _, _, h, _, _ => h.elim
  | k + 1, l0, l1, l2, l3, l5, l7, l9, M, h, _, hQ => t141_11 n  (b141_11 n  k)  (p141_11 n  k)  (s141_11 n    k) l0 l1 l2 l3 l5 l7 l9 M h hQ
def b141_0 (n : Nat)  (l0 : Nat) (l1 : Int32) (l2 : Int32) (M : zM) : Int64 × zM := b141_11 n  n l0 l1 l2 (0 : Int64) (0 : Int64) (0 : Int64) (1 : Int32) M
def p141_0 (n : Nat)  (l0 : Nat) (l1 : Int32) (l2 : Int32) (M : zM) : Prop := p141_11 n  n l0 l1 l2 (0 : Int64) (0 : Int64) (0 : Int64) (1 : Int32) M
theorem s141_0 (n : Nat)    (l0 : Nat) (l1 : Int32) (l2 : Int32) (M : zM) (hp : p141_0 n  l0 l1 l2 M) {Q : Option Value → zM → Prop} (hQ : ∀ r M1, zRJ (b141_0 n  l0 l1 l2 M) r M1 → Q r M1) : zWP 141 0 [some (.ref l0), some (.int l1), some (.int l2), none, none, none, none, none, none, none, none, none, none, none] [] M Q := by
  unfold b141_0 at hQ
  unfold p141_0 at hp
  refine wp_go 5 (pc' := 6) (L' := [some (.ref l0), some (.int l1), some (.int l2), some (.long (0 : Int64)), none, some (.long (0 : Int64)), none, none, none, none, none, none, none, none]) (st' := [.long (0 : Int64)]) (M' := M) rfl ?_
  refine wp_go 3 (pc' := 11) (L' := [some (.ref l0), some (.int l1), some (.int l2), some (.long (0 : Int64)), none, some (.long (0 : Int64)), none, some (.long (0 : Int64)), none, some (.int (1 : Int32)), none, none, none, none]) (st' := []) (M' := M) rfl ?_
  exact s141_11 n    n l0 l1 l2 (0 : Int64) (0 : Int64) (0 : Int64) (1 : Int32) M hp hQ
/-! X12_area -/
def b142_44 (n : Nat)  (s0 : Int64) (M : zM) : Int64 × zM := (s0, M)
def p142_44 (n : Nat)  (s0 : Int64) (M : zM) : Prop := True
theorem s142_44 (n : Nat)    (s0 : Int64) (M : zM) (hp : p142_44 n  s0 M) {Q : Option Value → zM → Prop} (hQ : ∀ r M1, zRJ (b142_44 n  s0 M) r M1 → Q r M1) : zWP 142 44 [none, none, none] [.long s0] M Q := by
  unfold b142_44 at hQ
  unfold p142_44 at hp
  exact wp_ret (r := some (.long s0)) rfl rfl (hQ _ _ ⟨rfl, rfl⟩)
def b142_32 (n : Nat)   (M : zM) : Int64 × zM := b142_44 n  ((-1) : Int64) M
def p142_32 (n : Nat)   (M : zM) : Prop := p142_44 n  ((-1) : Int64) M
theorem s142_32 (n : Nat)     (M : zM) (hp : p142_32 n   M) {Q : Option Value → zM → Prop} (hQ : ∀ r M1, zRJ (b142_32 n   M) r M1 → Q r M1) : zWP 142 32 [none, none, none] [] M Q := by
  unfold b142_32 at hQ
  unfold p142_32 at hp
  refine wp_go 2 (pc' := 44) (L' := [none, none, none]) (st' := [.long ((-1) : Int64)]) (M' := M) rfl ?_
  exact s142_44 n    ((-1) : Int64) M hp hQ
def b142_10 (n : Nat)  (l0 : Nat) (l1 : Int32) (l2 : Int32) (s0 : Int32) (M : zM) : Int64 × zM := (if s0 = 0 then b142_32 n  M else (if l2 < 0 then b142_32 n  M else (if (23 : Int32) < l2 then b142_32 n  M else (if (zI M (zQ M l0 3) l1.toNatClampNeg) = 0 then b142_32 n  M else b142_44 n  (b141_0 n l0 l1 l2 M).1 (b141_0 n l0 l1 l2 M).2))))
def p142_10 (n : Nat)  (l0 : Nat) (l1 : Int32) (l2 : Int32) (s0 : Int32) (M : zM) : Prop := ((s0 = 0 → p142_32 n  M) ∧ (¬ s0 = 0 → ((l2 < 0 → p142_32 n  M) ∧ (¬ l2 < 0 → (((23 : Int32) < l2 → p142_32 n  M) ∧ (¬ (23 : Int32) < l2 → (zHasQ 10 16 l0 M 3) ∧ ((zOkT 2 (zQ M l0 3) l1 M) ∧ ((((zI M (zQ M l0 3) l1.toNatClampNeg) = 0 → p142_32 n  M) ∧ (¬ (zI M (zQ M l0 3) l1.toNatClampNeg) = 0 → (zHasC 142 204 l0 M 141 2) ∧ ((p141_0 n l0 l1 l2 M) ∧ (p142_44 n  (b141_0 n l0 l1 l2 M).1 (b141_0 n l0 l1 l2 M).2))))))))))))
theorem s142_10 (n : Nat)    (l0 : Nat) (l1 : Int32) (l2 : Int32) (s0 : Int32) (M : zM) (hp : p142_10 n  l0 l1 l2 s0 M) {Q : Option Value → zM → Prop} (hQ : ∀ r M1, zRJ (b142_10 n  l0 l1 l2 s0 M) r M1 → Q r M1) : zWP 142 10 [some (.ref l0), some (.int l1), some (.int l2)] [.int s0] M Q := by
  unfold b142_10 at hQ
  unfold p142_10 at hp
  refine wp_if_eq (t := 32) rfl rfl (fun hc => ?_) (fun hc => ?_)
  · rw [if_pos hc] at hQ
    replace hp := hp.1 hc
    refine wp_le [none, none, none] (zLe_of (by simp [zLeB])) ?_
    exact s142_32 n    M hp hQ
  · rw [if_neg hc] at hQ
    replace hp := hp.2 hc
    refine wp_go 1 (pc' := 14) (L' := [some (.ref l0), some (.int l1), some (.int l2)]) (st' := [.int l2]) (M' := M) rfl ?_
    refine wp_if_lt (t := 32) rfl rfl (fun hc => ?_) (fun hc => ?_)
    · rw [if_pos hc] at hQ
      replace hp := hp.1 hc
      refine wp_le [none, none, none] (zLe_of (by simp [zLeB])) ?_
      exact s142_32 n    M hp hQ
    · rw [if_neg hc] at hQ
      replace hp := hp.2 hc
      refine wp_go 2 (pc' := 20) (L' := [some (.ref l0), some (.int l1), some (.int l2)]) (st' := [.int (23 : Int32), .int l2]) (M' := M) rfl ?_
      refine wp_ic_gt (t := 32) rfl rfl (fun hc => ?_) (fun hc => ?_)
      · rw [if_pos hc] at hQ
        replace hp := hp.1 hc
        refine wp_le [none, none, none] (zLe_of (by simp [zLeB])) ?_
        exact s142_32 n    M hp hQ
      · rw [if_neg hc] at hQ
        replace hp := hp.2 hc
        refine wp_go 1 (pc' := 24) (L' := [some (.ref l0), some (.int l1), some (.int l2)]) (st' := [.ref l0]) (M' := M) rfl ?_
        obtain ⟨hc, hp⟩ := hp
        refine wq_getQ (j := 3) rfl hc ?_
        refine wp_go 1 (pc' := 28) (L' := [some (.ref l0), some (.int l1), some (.int l2)]) (st' := [.int l1, .ref (zQ M l0 3)]) (M' := M) rfl ?_
        obtain ⟨hc, hp⟩ := hp
        refine wq_zald rfl hc ?_
        refine wp_if_ne (t := 38) rfl rfl (fun hc => ?_) (fun hc => ?_)
        · rw [if_neg hc] at hQ
          replace hp := hp.2 hc
          refine wp_go 3 (pc' := 41) (L' := [some (.ref l0), some (.int l1), some (.int l2)]) (st' := [.int l2, .int l1, .ref l0]) (M' := M) rfl ?_
          obtain ⟨hv, hp⟩ := hp
          obtain ⟨hc, hp⟩ := hp
          refine wp_calll (v := (b141_0 n l0 l1 l2 M).1) (M1 := (b141_0 n l0 l1 l2 M).2) rfl rfl rfl (zInv_v (np := 2) rfl rfl hv rfl) (s141_0 n l0 l1 l2 M hc (fun r M1 h => h)) ?_
          refine wp_le [none, none, none] (zLe_of (by simp [zLeB])) ?_
          exact s142_44 n    (b141_0 n l0 l1 l2 M).1 (b141_0 n l0 l1 l2 M).2 hp hQ
        · rw [if_pos hc] at hQ
          replace hp := hp.1 hc
          refine wp_le [none, none, none] (zLe_of (by simp [zLeB])) ?_
          exact s142_32 n    M hp hQ
def b142_5 (n : Nat)  (l0 : Nat) (l1 : Int32) (l2 : Int32) (M : zM) : Int64 × zM := b142_10 n  l0 l1 l2 (b126_0 n l0 l1 M).1 (b126_0 n l0 l1 M).2
def p142_5 (n : Nat)  (l0 : Nat) (l1 : Int32) (l2 : Int32) (M : zM) : Prop := (zHasC 142 151 l0 M 126 1) ∧ ((p126_0 n l0 l1 M) ∧ (p142_10 n  l0 l1 l2 (b126_0 n l0 l1 M).1 (b126_0 n l0 l1 M).2))
theorem s142_5 (n : Nat)    (l0 : Nat) (l1 : Int32) (l2 : Int32) (M : zM) (hp : p142_5 n  l0 l1 l2 M) {Q : Option Value → zM → Prop} (hQ : ∀ r M1, zRJ (b142_5 n  l0 l1 l2 M) r M1 → Q r M1) : zWP 142 5 [some (.ref l0), some (.int l1), some (.int l2)] [] M Q := by
  unfold b142_5 at hQ
  unfold p142_5 at hp
  refine wp_go 2 (pc' := 7) (L' := [some (.ref l0), some (.int l1), some (.int l2)]) (st' := [.int l1, .ref l0]) (M' := M) rfl ?_
  obtain ⟨hv, hp⟩ := hp
  obtain ⟨hc, hp⟩ := hp
  refine wp_calli (v := (b126_0 n l0 l1 M).1) (M1 := (b126_0 n l0 l1 M).2) rfl rfl rfl (zInv_v (np := 1) rfl rfl hv rfl) (s126_0 n l0 l1 M hc (fun r M1 h => h)) ?_
  exact s142_10 n    l0 l1 l2 (b126_0 n l0 l1 M).1 (b126_0 n l0 l1 M).2 hp hQ
def b142_0 (n : Nat)  (l0 : Nat) (l1 : Int32) (l2 : Int32) (M : zM) : Int64 × zM := b142_5 n  l0 l1 l2 (zWI M l0 26 (0 : Int32))
def p142_0 (n : Nat)  (l0 : Nat) (l1 : Int32) (l2 : Int32) (M : zM) : Prop := (zPutI 142 138 l0 M 26 (0 : Int32)) ∧ (p142_5 n  l0 l1 l2 (zWI M l0 26 (0 : Int32)))
theorem s142_0 (n : Nat)    (l0 : Nat) (l1 : Int32) (l2 : Int32) (M : zM) (hp : p142_0 n  l0 l1 l2 M) {Q : Option Value → zM → Prop} (hQ : ∀ r M1, zRJ (b142_0 n  l0 l1 l2 M) r M1 → Q r M1) : zWP 142 0 [some (.ref l0), some (.int l1), some (.int l2)] [] M Q := by
  unfold b142_0 at hQ
  unfold p142_0 at hp
  refine wp_go 2 (pc' := 2) (L' := [some (.ref l0), some (.int l1), some (.int l2)]) (st' := [.int (0 : Int32), .ref l0]) (M' := M) rfl ?_
  obtain ⟨hc, hp⟩ := hp
  refine wq_putI (j := 26) rfl hc ?_
  exact s142_5 n    l0 l1 l2 (zWI M l0 26 (0 : Int32)) hp hQ
/-! X12_fits -/
def b143_453 (n : Nat)   (M : zM) : zM := M
def p143_453 (n : Nat)   (M : zM) : Prop := True
theorem s143_453 (n : Nat)     (M : zM) (hp : p143_453 n   M) {Q : Option Value → zM → Prop} (hQ : ∀ r M1, zRV (b143_453 n   M) r M1 → Q r M1) : zWP 143 453 [none, none, none, none, none, none, none, none, none, none, none, none, none, none, none, none, none, none, none] [] M Q := by
  unfold b143_453 at hQ
  unfold p143_453 at hp
  exact wp_ret (r := none) rfl rfl (hQ _ _ ⟨rfl, rfl⟩)
def b143_450 (n : Nat)  (s0 : Nat) (s1 : Int32) (M : zM) : zM := b143_453 n  (zWI M s0 28 s1)
def p143_450 (n : Nat)  (s0 : Nat) (s1 : Int32) (M : zM) : Prop := (zPutI 143 214 s0 M 28 s1) ∧ (p143_453 n  (zWI M s0 28 s1))
theorem s143_450 (n : Nat)    (s0 : Nat) (s1 : Int32) (M : zM) (hp : p143_450 n  s0 s1 M) {Q : Option Value → zM → Prop} (hQ : ∀ r M1, zRV (b143_450 n  s0 s1 M) r M1 → Q r M1) : zWP 143 450 [none, none, none, none, none, none, none, none, none, none, none, none, none, none, none, none, none, none, none] [.int s1, .ref s0] M Q := by
  unfold b143_450 at hQ
  unfold p143_450 at hp
  obtain ⟨hc, hp⟩ := hp
  refine wq_putI (j := 28) rfl hc ?_
  exact s143_453 n    (zWI M s0 28 s1) hp hQ
def b143_435 (n : Nat)  (l0 : Nat) (l11 : Int32) (l12 : Int32) (M : zM) : zM := (if l12 ≤ l11 then b143_450 n  l0 l12 M else b143_450 n  l0 l11 M)
def p143_435 (n : Nat)  (l0 : Nat) (l11 : Int32) (l12 : Int32) (M : zM) : Prop := ((l12 ≤ l11 → p143_450 n  l0 l12 M) ∧ (¬ l12 ≤ l11 → p143_450 n  l0 l11 M))
theorem s143_435 (n : Nat)    (l0 : Nat) (l11 : Int32) (l12 : Int32) (M : zM) (hp : p143_435 n  l0 l11 l12 M) {Q : Option Value → zM → Prop} (hQ : ∀ r M1, zRV (b143_435 n  l0 l11 l12 M) r M1 → Q r M1) : zWP 143 435 [some (.ref l0), none, none, none, none, none, none, none, none, none, none, some (.int l11), some (.int l12), none, none, none, none, none, none] [] M Q := by
  unfold b143_435 at hQ
  unfold p143_435 at hp
  refine wp_go 3 (pc' := 440) (L' := [some (.ref l0), none, none, none, none, none, none, none, none, none, none, some (.int l11), some (.int l12), none, none, none, none, none, none]) (st' := [.int l12, .int l11, .ref l0]) (M' := M) rfl ?_
  refine wp_ic_ge (t := 448) rfl rfl (fun hc => ?_) (fun hc => ?_)
  · rw [if_pos hc] at hQ
    replace hp := hp.1 hc
    refine wp_go 1 (pc' := 450) (L' := [some (.ref l0), none, none, none, none, none, none, none, none, none, none, some (.int l11), some (.int l12), none, none, none, none, none, none]) (st' := [.int l12, .ref l0]) (M' := M) rfl ?_
    refine wp_le [none, none, none, none, none, none, none, none, none, none, none, none, none, none, none, none, none, none, none] (zLe_of (by simp [zLeB])) ?_
    exact s143_450 n    l0 l12 M hp hQ
  · rw [if_neg hc] at hQ
    replace hp := hp.2 hc
    refine wp_go 2 (pc' := 450) (L' := [some (.ref l0), none, none, none, none, none, none, none, none, none, none, some (.int l11), some (.int l12), none, none, none, none, none, none]) (st' := [.int l11, .ref l0]) (M' := M) rfl ?_
    refine wp_le [none, none, none, none, none, none, none, none, none, none, none, none, none, none, none, none, none, none, none] (zLe_of (by simp [zLeB])) ?_
    exact s143_450 n    l0 l11 M hp hQ
def b143_432 (n : Nat) (k111 : Nat → Int32 → Int32 → Int32 → Int32 → Int32 → Int32 → Int32 → Int32 → Int32 → Int32 → Int32 → Int32 → Int32 → zM → zM) (l0 : Nat) (l1 : Int32) (l2 : Int32) (l3 : Int32) (l4 : Int32) (l5 : Int32) (l6 : Int32) (l7 : Int32) (l8 : Int32) (l9 : Int32) (l10 : Int32) (l11 : Int32) (l12 : Int32) (l13 : Int32) (M : zM) : zM := k111 l0 l1 l2 l3 l4 l5 l6 l7 l8 l9 l10 l11 l12 l13 M
def p143_432 (n : Nat) (q111 : Nat → Int32 → Int32 → Int32 → Int32 → Int32 → Int32 → Int32 → Int32 → Int32 → Int32 → Int32 → Int32 → Int32 → zM → Prop) (l0 : Nat) (l1 : Int32) (l2 : Int32) (l3 : Int32) (l4 : Int32) (l5 : Int32) (l6 : Int32) (l7 : Int32) (l8 : Int32) (l9 : Int32) (l10 : Int32) (l11 : Int32) (l12 : Int32) (l13 : Int32) (M : zM) : Prop := q111 l0 l1 l2 l3 l4 l5 l6 l7 l8 l9 l10 l11 l12 l13 M
theorem s143_432 (n : Nat) (k111 : Nat → Int32 → Int32 → Int32 → Int32 → Int32 → Int32 → Int32 → Int32 → Int32 → Int32 → Int32 → Int32 → Int32 → zM → zM) (q111 : Nat → Int32 → Int32 → Int32 → Int32 → Int32 → Int32 → Int32 → Int32 → Int32 → Int32 → Int32 → Int32 → Int32 → zM → Prop) (h111 : ∀ (l0 : Nat) (l1 : Int32) (l2 : Int32) (l3 : Int32) (l4 : Int32) (l5 : Int32) (l6 : Int32) (l7 : Int32) (l8 : Int32) (l9 : Int32) (l10 : Int32) (l11 : Int32) (l12 : Int32) (l13 : Int32) (M : zM), q111 l0 l1 l2 l3 l4 l5 l6 l7 l8 l9 l10 l11 l12 l13 M → ∀ {Q : Option Value → zM → Prop}, (∀ r M1, zRV (k111 l0 l1 l2 l3 l4 l5 l6 l7 l8 l9 l10 l11 l12 l13 M) r M1 → Q r M1) → zWP 143 111 [some (.ref l0), some (.int l1), some (.int l2), some (.int l3), some (.int l4), some (.int l5), some (.int l6), some (.int l7), some (.int l8), some (.int l9), some (.int l10), some (.int l11), some (.int l12), some (.int l13), none, none, none, none, none] [] M Q) (l0 : Nat) (l1 : Int32) (l2 : Int32) (l3 : Int32) (l4 : Int32) (l5 : Int32) (l6 : Int32) (l7 : Int32) (l8 : Int32) (l9 : Int32) (l10 : Int32) (l11 : Int32) (l12 : Int32) (l13 : Int32) (M : zM) (hp : p143_432 n q111 l0 l1 l2 l3 l4 l5 l6 l7 l8 l9 l10 l11 l12 l13 M) {Q : Option Value → zM → Prop} (hQ : ∀ r M1, zRV (b143_432 n k111 l0 l1 l2 l3 l4 l5 l6 l7 l8 l9 l10 l11 l12 l13 M) r M1 → Q r M1) : zWP 143 432 [some (.ref l0), some (.int l1), some (.int l2), some (.int l3), some (.int l4), some (.int l5), some (.int l6), some (.int l7), some (.int l8), some (.int l9), some (.int l10), some (.int l11), some (.int l12), some (.int l13), none, none, none, none, none] [] M Q := by
  unfold b143_432 at hQ
  unfold p143_432 at hp
  refine wp_go 1 (pc' := 111) (L' := [some (.ref l0), some (.int l1), some (.int l2), some (.int l3), some (.int l4), some (.int l5), some (.int l6), some (.int l7), some (.int l8), some (.int l9), some (.int l10), some (.int l11), some (.int l12), some (.int l13), none, none, none, none, none]) (st' := []) (M' := M) rfl ?_
  exact h111 l0 l1 l2 l3 l4 l5 l6 l7 l8 l9 l10 l11 l12 l13 M hp hQ
def b143_398 (n : Nat) (k111 : Nat → Int32 → Int32 → Int32 → Int32 → Int32 → Int32 → Int32 → Int32 → Int32 → Int32 → Int32 → Int32 → Int32 → zM → zM) (l0 : Nat) (l1 : Int32) (l2 : Int32) (l3 : Int32) (l4 : Int32) (l5 : Int32) (l6 : Int32) (l7 : Int32) (l8 : Int32) (l9 : Int32) (l10 : Int32) (l11 : Int32) (l12 : Int32) (l13 : Int32) (l16 : Int32) (l17 : Int32) (M : zM) : zM := b143_432 n k111 l0 l1 l2 l3 l4 l5 l6 l7 l8 l9 l10 (l11 + (zI M (zQ M l0 7) l16.toNatClampNeg)) (l12 + (zI M (zQ M l0 7) l17.toNatClampNeg)) l13 (zWI M l0 27 ((zI M l0 27) + (1 : Int32)))
def p143_398 (n : Nat) (q111 : Nat → Int32 → Int32 → Int32 → Int32 → Int32 → Int32 → Int32 → Int32 → Int32 → Int32 → Int32 → Int32 → Int32 → zM → Prop) (l0 : Nat) (l1 : Int32) (l2 : Int32) (l3 : Int32) (l4 : Int32) (l5 : Int32) (l6 : Int32) (l7 : Int32) (l8 : Int32) (l9 : Int32) (l10 : Int32) (l11 : Int32) (l12 : Int32) (l13 : Int32) (l16 : Int32) (l17 : Int32) (M : zM) : Prop := (zHasQ 10 29 l0 M 7) ∧ ((zOkI (zQ M l0 7) l16 M) ∧ ((zHasQ 10 29 l0 M 7) ∧ ((zOkI (zQ M l0 7) l17 M) ∧ ((zHasI 10 208 l0 M 27) ∧ ((zPutI 143 208 l0 M 27 ((zI M l0 27) + (1 : Int32))) ∧ (p143_432 n q111 l0 l1 l2 l3 l4 l5 l6 l7 l8 l9 l10 (l11 + (zI M (zQ M l0 7) l16.toNatClampNeg)) (l12 + (zI M (zQ M l0 7) l17.toNatClampNeg)) l13 (zWI M l0 27 ((zI M l0 27) + (1 : Int32)))))))))
theorem s143_398 (n : Nat) (k111 : Nat → Int32 → Int32 → Int32 → Int32 → Int32 → Int32 → Int32 → Int32 → Int32 → Int32 → Int32 → Int32 → Int32 → zM → zM) (q111 : Nat → Int32 → Int32 → Int32 → Int32 → Int32 → Int32 → Int32 → Int32 → Int32 → Int32 → Int32 → Int32 → Int32 → zM → Prop) (h111 : ∀ (l0 : Nat) (l1 : Int32) (l2 : Int32) (l3 : Int32) (l4 : Int32) (l5 : Int32) (l6 : Int32) (l7 : Int32) (l8 : Int32) (l9 : Int32) (l10 : Int32) (l11 : Int32) (l12 : Int32) (l13 : Int32) (M : zM), q111 l0 l1 l2 l3 l4 l5 l6 l7 l8 l9 l10 l11 l12 l13 M → ∀ {Q : Option Value → zM → Prop}, (∀ r M1, zRV (k111 l0 l1 l2 l3 l4 l5 l6 l7 l8 l9 l10 l11 l12 l13 M) r M1 → Q r M1) → zWP 143 111 [some (.ref l0), some (.int l1), some (.int l2), some (.int l3), some (.int l4), some (.int l5), some (.int l6), some (.int l7), some (.int l8), some (.int l9), some (.int l10), some (.int l11), some (.int l12), some (.int l13), none, none, none, none, none] [] M Q) (l0 : Nat) (l1 : Int32) (l2 : Int32) (l3 : Int32) (l4 : Int32) (l5 : Int32) (l6 : Int32) (l7 : Int32) (l8 : Int32) (l9 : Int32) (l10 : Int32) (l11 : Int32) (l12 : Int32) (l13 : Int32) (l16 : Int32) (l17 : Int32) (M : zM) (hp : p143_398 n q111 l0 l1 l2 l3 l4 l5 l6 l7 l8 l9 l10 l11 l12 l13 l16 l17 M) {Q : Option Value → zM → Prop} (hQ : ∀ r M1, zRV (b143_398 n k111 l0 l1 l2 l3 l4 l5 l6 l7 l8 l9 l10 l11 l12 l13 l16 l17 M) r M1 → Q r M1) : zWP 143 398 [some (.ref l0), some (.int l1), some (.int l2), some (.int l3), some (.int l4), some (.int l5), some (.int l6), some (.int l7), some (.int l8), some (.int l9), some (.int l10), some (.int l11), some (.int l12), some (.int l13), none, none, some (.int l16), some (.int l17), none] [] M Q := by
  unfold b143_398 at hQ
  unfold p143_398 at hp
  refine wp_go 2 (pc' := 401) (L' := [some (.ref l0), some (.int l1), some (.int l2), some (.int l3), some (.int l4), some (.int l5), some (.int l6), some (.int l7), some (.int l8), some (.int l9), some (.int l10), some (.int l11), some (.int l12), some (.int l13), none, none, some (.int l16), some (.int l17), none]) (st' := [.ref l0, .int l11]) (M' := M) rfl ?_
  obtain ⟨hc, hp⟩ := hp
  refine wq_getQ (j := 7) rfl hc ?_
  refine wp_go 1 (pc' := 406) (L' := [some (.ref l0), some (.int l1), some (.int l2), some (.int l3), some (.int l4), some (.int l5), some (.int l6), some (.int l7), some (.int l8), some (.int l9), some (.int l10), some (.int l11), some (.int l12), some (.int l13), none, none, some (.int l16), some (.int l17), none]) (st' := [.int l16, .ref (zQ M l0 7), .int l11]) (M' := M) rfl ?_
  obtain ⟨hc, hp⟩ := hp
  refine wq_iald rfl hc ?_
  refine wp_go 4 (pc' := 413) (L' := [some (.ref l0), some (.int l1), some (.int l2), some (.int l3), some (.int l4), some (.int l5), some (.int l6), some (.int l7), some (.int l8), some (.int l9), some (.int l10), some (.int (l11 + (zI M (zQ M l0 7) l16.toNatClampNeg))), some (.int l12), some (.int l13), none, none, some (.int l16), some (.int l17), none]) (st' := [.ref l0, .int l12]) (M' := M) rfl ?_
  obtain ⟨hc, hp⟩ := hp
  refine wq_getQ (j := 7) rfl hc ?_
  refine wp_go 1 (pc' := 418) (L' := [some (.ref l0), some (.int l1), some (.int l2), some (.int l3), some (.int l4), some (.int l5), some (.int l6), some (.int l7), some (.int l8), some (.int l9), some (.int l10), some (.int (l11 + (zI M (zQ M l0 7) l16.toNatClampNeg))), some (.int l12), some (.int l13), none, none, some (.int l16), some (.int l17), none]) (st' := [.int l17, .ref (zQ M l0 7), .int l12]) (M' := M) rfl ?_
  obtain ⟨hc, hp⟩ := hp
  refine wq_iald rfl hc ?_
  refine wp_go 4 (pc' := 424) (L' := [some (.ref l0), some (.int l1), some (.int l2), some (.int l3), some (.int l4), some (.int l5), some (.int l6), some (.int l7), some (.int l8), some (.int l9), some (.int l10), some (.int (l11 + (zI M (zQ M l0 7) l16.toNatClampNeg))), some (.int (l12 + (zI M (zQ M l0 7) l17.toNatClampNeg))), some (.int l13), none, none, some (.int l16), some (.int l17), none]) (st' := [.ref l0, .ref l0]) (M' := M) rfl ?_
  obtain ⟨hc, hp⟩ := hp
  refine wq_getI (j := 27) rfl hc ?_
  refine wp_go 2 (pc' := 429) (L' := [some (.ref l0), some (.int l1), some (.int l2), some (.int l3), some (.int l4), some (.int l5), some (.int l6), some (.int l7), some (.int l8), some (.int l9), some (.int l10), some (.int (l11 + (zI M (zQ M l0 7) l16.toNatClampNeg))), some (.int (l12 + (zI M (zQ M l0 7) l17.toNatClampNeg))), some (.int l13), none, none, some (.int l16), some (.int l17), none]) (st' := [.int ((zI M l0 27) + (1 : Int32)), .ref l0]) (M' := M) rfl ?_
  obtain ⟨hc, hp⟩ := hp
  refine wq_putI (j := 27) rfl hc ?_
  refine wp_le [some (.ref l0), some (.int l1), some (.int l2), some (.int l3), some (.int l4), some (.int l5), some (.int l6), some (.int l7), some (.int l8), some (.int l9), some (.int l10), some (.int (l11 + (zI M (zQ M l0 7) l16.toNatClampNeg))), some (.int (l12 + (zI M (zQ M l0 7) l17.toNatClampNeg))), some (.int l13), none, none, none, none, none] (zLe_of (by simp [zLeB])) ?_
  exact s143_432 n k111 q111 h111 l0 l1 l2 l3 l4 l5 l6 l7 l8 l9 l10 (l11 + (zI M (zQ M l0 7) l16.toNatClampNeg)) (l12 + (zI M (zQ M l0 7) l17.toNatClampNeg)) l13 (zWI M l0 27 ((zI M l0 27) + (1 : Int32))) hp hQ
def b143_395 (n : Nat) (k111 : Nat → Int32 → Int32 → Int32 → Int32 → Int32 → Int32 → Int32 → Int32 → Int32 → Int32 → Int32 → Int32 → Int32 → zM → zM) (l0 : Nat) (l1 : Int32) (l2 : Int32) (l3 : Int32) (l4 : Int32) (l5 : Int32) (l6 : Int32) (l7 : Int32) (l8 : Int32) (l9 : Int32) (l10 : Int32) (l11 : Int32) (l12 : Int32) (l13 : Int32) (l16 : Int32) (l17 : Int32) (s0 : Nat) (s1 : Int32) (M : zM) : zM := b143_398 n k111 l0 l1 l2 l3 l4 l5 l6 l7 l8 l9 l10 l11 l12 l13 l16 l17 (zWI M s0 29 s1)
def p143_395 (n : Nat) (q111 : Nat → Int32 → Int32 → Int32 → Int32 → Int32 → Int32 → Int32 → Int32 → Int32 → Int32 → Int32 → Int32 → Int32 → zM → Prop) (l0 : Nat) (l1 : Int32) (l2 : Int32) (l3 : Int32) (l4 : Int32) (l5 : Int32) (l6 : Int32) (l7 : Int32) (l8 : Int32) (l9 : Int32) (l10 : Int32) (l11 : Int32) (l12 : Int32) (l13 : Int32) (l16 : Int32) (l17 : Int32) (s0 : Nat) (s1 : Int32) (M : zM) : Prop := (zPutI 143 211 s0 M 29 s1) ∧ (p143_398 n q111 l0 l1 l2 l3 l4 l5 l6 l7 l8 l9 l10 l11 l12 l13 l16 l17 (zWI M s0 29 s1))
theorem s143_395 (n : Nat) (k111 : Nat → Int32 → Int32 → Int32 → Int32 → Int32 → Int32 → Int32 → Int32 → Int32 → Int32 → Int32 → Int32 → Int32 → zM → zM) (q111 : Nat → Int32 → Int32 → Int32 → Int32 → Int32 → Int32 → Int32 → Int32 → Int32 → Int32 → Int32 → Int32 → Int32 → zM → Prop) (h111 : ∀ (l0 : Nat) (l1 : Int32) (l2 : Int32) (l3 : Int32) (l4 : Int32) (l5 : Int32) (l6 : Int32) (l7 : Int32) (l8 : Int32) (l9 : Int32) (l10 : Int32) (l11 : Int32) (l12 : Int32) (l13 : Int32) (M : zM), q111 l0 l1 l2 l3 l4 l5 l6 l7 l8 l9 l10 l11 l12 l13 M → ∀ {Q : Option Value → zM → Prop}, (∀ r M1, zRV (k111 l0 l1 l2 l3 l4 l5 l6 l7 l8 l9 l10 l11 l12 l13 M) r M1 → Q r M1) → zWP 143 111 [some (.ref l0), some (.int l1), some (.int l2), some (.int l3), some (.int l4), some (.int l5), some (.int l6), some (.int l7), some (.int l8), some (.int l9), some (.int l10), some (.int l11), some (.int l12), some (.int l13), none, none, none, none, none] [] M Q) (l0 : Nat) (l1 : Int32) (l2 : Int32) (l3 : Int32) (l4 : Int32) (l5 : Int32) (l6 : Int32) (l7 : Int32) (l8 : Int32) (l9 : Int32) (l10 : Int32) (l11 : Int32) (l12 : Int32) (l13 : Int32) (l16 : Int32) (l17 : Int32) (s0 : Nat) (s1 : Int32) (M : zM) (hp : p143_395 n q111 l0 l1 l2 l3 l4 l5 l6 l7 l8 l9 l10 l11 l12 l13 l16 l17 s0 s1 M) {Q : Option Value → zM → Prop} (hQ : ∀ r M1, zRV (b143_395 n k111 l0 l1 l2 l3 l4 l5 l6 l7 l8 l9 l10 l11 l12 l13 l16 l17 s0 s1 M) r M1 → Q r M1) : zWP 143 395 [some (.ref l0), some (.int l1), some (.int l2), some (.int l3), some (.int l4), some (.int l5), some (.int l6), some (.int l7), some (.int l8), some (.int l9), some (.int l10), some (.int l11), some (.int l12), some (.int l13), none, none, some (.int l16), some (.int l17), none] [.int s1, .ref s0] M Q := by
  unfold b143_395 at hQ
  unfold p143_395 at hp
  obtain ⟨hc, hp⟩ := hp
  refine wq_putI (j := 29) rfl hc ?_
  exact s143_398 n k111 q111 h111 l0 l1 l2 l3 l4 l5 l6 l7 l8 l9 l10 l11 l12 l13 l16 l17 (zWI M s0 29 s1) hp hQ
def b143_378 (n : Nat) (k111 : Nat → Int32 → Int32 → Int32 → Int32 → Int32 → Int32 → Int32 → Int32 → Int32 → Int32 → Int32 → Int32 → Int32 → zM → zM) (l0 : Nat) (l1 : Int32) (l2 : Int32) (l3 : Int32) (l4 : Int32) (l5 : Int32) (l6 : Int32) (l7 : Int32) (l8 : Int32) (l9 : Int32) (l10 : Int32) (l11 : Int32) (l12 : Int32) (l16 : Int32) (l17 : Int32) (l18 : Int32) (s0 : Int32) (M : zM) : zM := (if s0 = 0 then b143_432 n k111 l0 l1 l2 l3 l4 l5 l6 l7 l8 l9 l10 l11 l12 s0 M else b143_395 n k111 l0 l1 l2 l3 l4 l5 l6 l7 l8 l9 l10 l11 l12 s0 l16 l17 l0 (b125_0 n (zI M l0 29) l18 M).1 (b125_0 n (zI M l0 29) l18 M).2)
def p143_378 (n : Nat) (q111 : Nat → Int32 → Int32 → Int32 → Int32 → Int32 → Int32 → Int32 → Int32 → Int32 → Int32 → Int32 → Int32 → Int32 → zM → Prop) (l0 : Nat) (l1 : Int32) (l2 : Int32) (l3 : Int32) (l4 : Int32) (l5 : Int32) (l6 : Int32) (l7 : Int32) (l8 : Int32) (l9 : Int32) (l10 : Int32) (l11 : Int32) (l12 : Int32) (l16 : Int32) (l17 : Int32) (l18 : Int32) (s0 : Int32) (M : zM) : Prop := ((s0 = 0 → p143_432 n q111 l0 l1 l2 l3 l4 l5 l6 l7 l8 l9 l10 l11 l12 s0 M) ∧ (¬ s0 = 0 → (zHasI 10 211 l0 M 29) ∧ ((p125_0 n (zI M l0 29) l18 M) ∧ (p143_395 n q111 l0 l1 l2 l3 l4 l5 l6 l7 l8 l9 l10 l11 l12 s0 l16 l17 l0 (b125_0 n (zI M l0 29) l18 M).1 (b125_0 n (zI M l0 29) l18 M).2))))
theorem s143_378 (n : Nat) (k111 : Nat → Int32 → Int32 → Int32 → Int32 → Int32 → Int32 → Int32 → Int32 → Int32 → Int32 → Int32 → Int32 → Int32 → zM → zM) (q111 : Nat → Int32 → Int32 → Int32 → Int32 → Int32 → Int32 → Int32 → Int32 → Int32 → Int32 → Int32 → Int32 → Int32 → zM → Prop) (h111 : ∀ (l0 : Nat) (l1 : Int32) (l2 : Int32) (l3 : Int32) (l4 : Int32) (l5 : Int32) (l6 : Int32) (l7 : Int32) (l8 : Int32) (l9 : Int32) (l10 : Int32) (l11 : Int32) (l12 : Int32) (l13 : Int32) (M : zM), q111 l0 l1 l2 l3 l4 l5 l6 l7 l8 l9 l10 l11 l12 l13 M → ∀ {Q : Option Value → zM → Prop}, (∀ r M1, zRV (k111 l0 l1 l2 l3 l4 l5 l6 l7 l8 l9 l10 l11 l12 l13 M) r M1 → Q r M1) → zWP 143 111 [some (.ref l0), some (.int l1), some (.int l2), some (.int l3), some (.int l4), some (.int l5), some (.int l6), some (.int l7), some (.int l8), some (.int l9), some (.int l10), some (.int l11), some (.int l12), some (.int l13), none, none, none, none, none] [] M Q) (l0 : Nat) (l1 : Int32) (l2 : Int32) (l3 : Int32) (l4 : Int32) (l5 : Int32) (l6 : Int32) (l7 : Int32) (l8 : Int32) (l9 : Int32) (l10 : Int32) (l11 : Int32) (l12 : Int32) (l16 : Int32) (l17 : Int32) (l18 : Int32) (s0 : Int32) (M : zM) (hp : p143_378 n q111 l0 l1 l2 l3 l4 l5 l6 l7 l8 l9 l10 l11 l12 l16 l17 l18 s0 M) {Q : Option Value → zM → Prop} (hQ : ∀ r M1, zRV (b143_378 n k111 l0 l1 l2 l3 l4 l5 l6 l7 l8 l9 l10 l11 l12 l16 l17 l18 s0 M) r M1 → Q r M1) : zWP 143 378 [some (.ref l0), some (.int l1), some (.int l2), some (.int l3), some (.int l4), some (.int l5), some (.int l6), some (.int l7), some (.int l8), some (.int l9), some (.int l10), some (.int l11), some (.int l12), none, none, none, some (.int l16), some (.int l17), some (.int l18)] [.int s0] M Q := by
  unfold b143_378 at hQ
  unfold p143_378 at hp
  refine wp_go 2 (pc' := 382) (L' := [some (.ref l0), some (.int l1), some (.int l2), some (.int l3), some (.int l4), some (.int l5), some (.int l6), some (.int l7), some (.int l8), some (.int l9), some (.int l10), some (.int l11), some (.int l12), some (.int s0), none, none, some (.int l16), some (.int l17), some (.int l18)]) (st' := [.int s0]) (M' := M) rfl ?_
  refine wp_if_eq (t := 432) rfl rfl (fun hc => ?_) (fun hc => ?_)
  · rw [if_pos hc] at hQ
    replace hp := hp.1 hc
    refine wp_le [some (.ref l0), some (.int l1), some (.int l2), some (.int l3), some (.int l4), some (.int l5), some (.int l6), some (.int l7), some (.int l8), some (.int l9), some (.int l10), some (.int l11), some (.int l12), some (.int s0), none, none, none, none, none] (zLe_of (by simp [zLeB])) ?_
    exact s143_432 n k111 q111 h111 l0 l1 l2 l3 l4 l5 l6 l7 l8 l9 l10 l11 l12 s0 M hp hQ
  · rw [if_neg hc] at hQ
    replace hp := hp.2 hc
    refine wp_go 2 (pc' := 387) (L' := [some (.ref l0), some (.int l1), some (.int l2), some (.int l3), some (.int l4), some (.int l5), some (.int l6), some (.int l7), some (.int l8), some (.int l9), some (.int l10), some (.int l11), some (.int l12), some (.int s0), none, none, some (.int l16), some (.int l17), some (.int l18)]) (st' := [.ref l0, .ref l0]) (M' := M) rfl ?_
    obtain ⟨hc, hp⟩ := hp
    refine wq_getI (j := 29) rfl hc ?_
    refine wp_go 1 (pc' := 392) (L' := [some (.ref l0), some (.int l1), some (.int l2), some (.int l3), some (.int l4), some (.int l5), some (.int l6), some (.int l7), some (.int l8), some (.int l9), some (.int l10), some (.int l11), some (.int l12), some (.int s0), none, none, some (.int l16), some (.int l17), some (.int l18)]) (st' := [.int l18, .int (zI M l0 29), .ref l0]) (M' := M) rfl ?_
    obtain ⟨hc, hp⟩ := hp
    refine wp_calli (v := (b125_0 n (zI M l0 29) l18 M).1) (M1 := (b125_0 n (zI M l0 29) l18 M).2) rfl rfl rfl rfl (s125_0 n (zI M l0 29) l18 M hc (fun r M1 h => h)) ?_
    refine wp_le [some (.ref l0), some (.int l1), some (.int l2), some (.int l3), some (.int l4), some (.int l5), some (.int l6), some (.int l7), some (.int l8), some (.int l9), some (.int l10), some (.int l11), some (.int l12), some (.int s0), none, none, some (.int l16), some (.int l17), none] (zLe_of (by simp [zLeB])) ?_
    exact s143_395 n k111 q111 h111 l0 l1 l2 l3 l4 l5 l6 l7 l8 l9 l10 l11 l12 s0 l16 l17 l0 (b125_0 n (zI M l0 29) l18 M).1 (b125_0 n (zI M l0 29) l18 M).2 hp hQ
def b143_364 (n : Nat) (k111 : Nat → Int32 → Int32 → Int32 → Int32 → Int32 → Int32 → Int32 → Int32 → Int32 → Int32 → Int32 → Int32 → Int32 → zM → zM) (l0 : Nat) (l1 : Int32) (l2 : Int32) (l3 : Int32) (l4 : Int32) (l5 : Int32) (l6 : Int32) (l7 : Int32) (l8 : Int32) (l9 : Int32) (l10 : Int32) (l11 : Int32) (l12 : Int32) (l16 : Int32) (l17 : Int32) (s0 : Int32) (M : zM) : zM := (if l6 < s0 then b143_378 n k111 l0 l1 l2 l3 l4 l5 l6 l7 l8 l9 l10 l11 l12 l16 l17 s0 (0 : Int32) M else b143_378 n k111 l0 l1 l2 l3 l4 l5 l6 l7 l8 l9 l10 l11 l12 l16 l17 s0 (1 : Int32) M)
def p143_364 (n : Nat) (q111 : Nat → Int32 → Int32 → Int32 → Int32 → Int32 → Int32 → Int32 → Int32 → Int32 → Int32 → Int32 → Int32 → Int32 → zM → Prop) (l0 : Nat) (l1 : Int32) (l2 : Int32) (l3 : Int32) (l4 : Int32) (l5 : Int32) (l6 : Int32) (l7 : Int32) (l8 : Int32) (l9 : Int32) (l10 : Int32) (l11 : Int32) (l12 : Int32) (l16 : Int32) (l17 : Int32) (s0 : Int32) (M : zM) : Prop := ((l6 < s0 → p143_378 n q111 l0 l1 l2 l3 l4 l5 l6 l7 l8 l9 l10 l11 l12 l16 l17 s0 (0 : Int32) M) ∧ (¬ l6 < s0 → p143_378 n q111 l0 l1 l2 l3 l4 l5 l6 l7 l8 l9 l10 l11 l12 l16 l17 s0 (1 : Int32) M))
theorem s143_364 (n : Nat) (k111 : Nat → Int32 → Int32 → Int32 → Int32 → Int32 → Int32 → Int32 → Int32 → Int32 → Int32 → Int32 → Int32 → Int32 → zM → zM) (q111 : Nat → Int32 → Int32 → Int32 → Int32 → Int32 → Int32 → Int32 → Int32 → Int32 → Int32 → Int32 → Int32 → Int32 → zM → Prop) (h111 : ∀ (l0 : Nat) (l1 : Int32) (l2 : Int32) (l3 : Int32) (l4 : Int32) (l5 : Int32) (l6 : Int32) (l7 : Int32) (l8 : Int32) (l9 : Int32) (l10 : Int32) (l11 : Int32) (l12 : Int32) (l13 : Int32) (M : zM), q111 l0 l1 l2 l3 l4 l5 l6 l7 l8 l9 l10 l11 l12 l13 M → ∀ {Q : Option Value → zM → Prop}, (∀ r M1, zRV (k111 l0 l1 l2 l3 l4 l5 l6 l7 l8 l9 l10 l11 l12 l13 M) r M1 → Q r M1) → zWP 143 111 [some (.ref l0), some (.int l1), some (.int l2), some (.int l3), some (.int l4), some (.int l5), some (.int l6), some (.int l7), some (.int l8), some (.int l9), some (.int l10), some (.int l11), some (.int l12), some (.int l13), none, none, none, none, none] [] M Q) (l0 : Nat) (l1 : Int32) (l2 : Int32) (l3 : Int32) (l4 : Int32) (l5 : Int32) (l6 : Int32) (l7 : Int32) (l8 : Int32) (l9 : Int32) (l10 : Int32) (l11 : Int32) (l12 : Int32) (l16 : Int32) (l17 : Int32) (s0 : Int32) (M : zM) (hp : p143_364 n q111 l0 l1 l2 l3 l4 l5 l6 l7 l8 l9 l10 l11 l12 l16 l17 s0 M) {Q : Option Value → zM → Prop} (hQ : ∀ r M1, zRV (b143_364 n k111 l0 l1 l2 l3 l4 l5 l6 l7 l8 l9 l10 l11 l12 l16 l17 s0 M) r M1 → Q r M1) : zWP 143 364 [some (.ref l0), some (.int l1), some (.int l2), some (.int l3), some (.int l4), some (.int l5), some (.int l6), some (.int l7), some (.int l8), some (.int l9), some (.int l10), some (.int l11), some (.int l12), none, none, none, some (.int l16), some (.int l17), none] [.int s0] M Q := by
  unfold b143_364 at hQ
  unfold p143_364 at hp
  refine wp_go 3 (pc' := 370) (L' := [some (.ref l0), some (.int l1), some (.int l2), some (.int l3), some (.int l4), some (.int l5), some (.int l6), some (.int l7), some (.int l8), some (.int l9), some (.int l10), some (.int l11), some (.int l12), none, none, none, some (.int l16), some (.int l17), some (.int s0)]) (st' := [.int l6, .int s0]) (M' := M) rfl ?_
  refine wp_ic_gt (t := 377) rfl rfl (fun hc => ?_) (fun hc => ?_)
  · rw [if_pos hc] at hQ
    replace hp := hp.1 hc
    refine wp_go 1 (pc' := 378) (L' := [some (.ref l0), some (.int l1), some (.int l2), some (.int l3), some (.int l4), some (.int l5), some (.int l6), some (.int l7), some (.int l8), some (.int l9), some (.int l10), some (.int l11), some (.int l12), none, none, none, some (.int l16), some (.int l17), some (.int s0)]) (st' := [.int (0 : Int32)]) (M' := M) rfl ?_
    exact s143_378 n k111 q111 h111 l0 l1 l2 l3 l4 l5 l6 l7 l8 l9 l10 l11 l12 l16 l17 s0 (0 : Int32) M hp hQ
  · rw [if_neg hc] at hQ
    replace hp := hp.2 hc
    refine wp_go 2 (pc' := 378) (L' := [some (.ref l0), some (.int l1), some (.int l2), some (.int l3), some (.int l4), some (.int l5), some (.int l6), some (.int l7), some (.int l8), some (.int l9), some (.int l10), some (.int l11), some (.int l12), none, none, none, some (.int l16), some (.int l17), some (.int s0)]) (st' := [.int (1 : Int32)]) (M' := M) rfl ?_
    exact s143_378 n k111 q111 h111 l0 l1 l2 l3 l4 l5 l6 l7 l8 l9 l10 l11 l12 l16 l17 s0 (1 : Int32) M hp hQ
def b143_361 (n : Nat) (k111 : Nat → Int32 → Int32 → Int32 → Int32 → Int32 → Int32 → Int32 → Int32 → Int32 → Int32 → Int32 → Int32 → Int32 → zM → zM) (l0 : Nat) (l1 : Int32) (l2 : Int32) (l3 : Int32) (l4 : Int32) (l5 : Int32) (l6 : Int32) (l7 : Int32) (l8 : Int32) (l9 : Int32) (l10 : Int32) (l11 : Int32) (l12 : Int32) (l16 : Int32) (l17 : Int32) (s0 : Int32) (s1 : Int32) (M : zM) : zM := b143_364 n k111 l0 l1 l2 l3 l4 l5 l6 l7 l8 l9 l10 l11 l12 l16 l17 (b125_0 n s0 s1 M).1 (b125_0 n s0 s1 M).2
def p143_361 (n : Nat) (q111 : Nat → Int32 → Int32 → Int32 → Int32 → Int32 → Int32 → Int32 → Int32 → Int32 → Int32 → Int32 → Int32 → Int32 → zM → Prop) (l0 : Nat) (l1 : Int32) (l2 : Int32) (l3 : Int32) (l4 : Int32) (l5 : Int32) (l6 : Int32) (l7 : Int32) (l8 : Int32) (l9 : Int32) (l10 : Int32) (l11 : Int32) (l12 : Int32) (l16 : Int32) (l17 : Int32) (s0 : Int32) (s1 : Int32) (M : zM) : Prop := (p125_0 n s0 s1 M) ∧ (p143_364 n q111 l0 l1 l2 l3 l4 l5 l6 l7 l8 l9 l10 l11 l12 l16 l17 (b125_0 n s0 s1 M).1 (b125_0 n s0 s1 M).2)
theorem s143_361 (n : Nat) (k111 : Nat → Int32 → Int32 → Int32 → Int32 → Int32 → Int32 → Int32 → Int32 → Int32 → Int32 → Int32 → Int32 → Int32 → zM → zM) (q111 : Nat → Int32 → Int32 → Int32 → Int32 → Int32 → Int32 → Int32 → Int32 → Int32 → Int32 → Int32 → Int32 → Int32 → zM → Prop) (h111 : ∀ (l0 : Nat) (l1 : Int32) (l2 : Int32) (l3 : Int32) (l4 : Int32) (l5 : Int32) (l6 : Int32) (l7 : Int32) (l8 : Int32) (l9 : Int32) (l10 : Int32) (l11 : Int32) (l12 : Int32) (l13 : Int32) (M : zM), q111 l0 l1 l2 l3 l4 l5 l6 l7 l8 l9 l10 l11 l12 l13 M → ∀ {Q : Option Value → zM → Prop}, (∀ r M1, zRV (k111 l0 l1 l2 l3 l4 l5 l6 l7 l8 l9 l10 l11 l12 l13 M) r M1 → Q r M1) → zWP 143 111 [some (.ref l0), some (.int l1), some (.int l2), some (.int l3), some (.int l4), some (.int l5), some (.int l6), some (.int l7), some (.int l8), some (.int l9), some (.int l10), some (.int l11), some (.int l12), some (.int l13), none, none, none, none, none] [] M Q) (l0 : Nat) (l1 : Int32) (l2 : Int32) (l3 : Int32) (l4 : Int32) (l5 : Int32) (l6 : Int32) (l7 : Int32) (l8 : Int32) (l9 : Int32) (l10 : Int32) (l11 : Int32) (l12 : Int32) (l16 : Int32) (l17 : Int32) (s0 : Int32) (s1 : Int32) (M : zM) (hp : p143_361 n q111 l0 l1 l2 l3 l4 l5 l6 l7 l8 l9 l10 l11 l12 l16 l17 s0 s1 M) {Q : Option Value → zM → Prop} (hQ : ∀ r M1, zRV (b143_361 n k111 l0 l1 l2 l3 l4 l5 l6 l7 l8 l9 l10 l11 l12 l16 l17 s0 s1 M) r M1 → Q r M1) : zWP 143 361 [some (.ref l0), some (.int l1), some (.int l2), some (.int l3), some (.int l4), some (.int l5), some (.int l6), some (.int l7), some (.int l8), some (.int l9), some (.int l10), some (.int l11), some (.int l12), none, none, none, some (.int l16), some (.int l17), none] [.int s1, .int s0] M Q := by
  unfold b143_361 at hQ
  unfold p143_361 at hp
  obtain ⟨hc, hp⟩ := hp
  refine wp_calli (v := (b125_0 n s0 s1 M).1) (M1 := (b125_0 n s0 s1 M).2) rfl rfl rfl rfl (s125_0 n s0 s1 M hc (fun r M1 h => h)) ?_
  exact s143_364 n k111 q111 h111 l0 l1 l2 l3 l4 l5 l6 l7 l8 l9 l10 l11 l12 l16 l17 (b125_0 n s0 s1 M).1 (b125_0 n s0 s1 M).2 hp hQ
def b143_356 (n : Nat) (k111 : Nat → Int32 → Int32 → Int32 → Int32 → Int32 → Int32 → Int32 → Int32 → Int32 → Int32 → Int32 → Int32 → Int32 → zM → zM) (l0 : Nat) (l1 : Int32) (l2 : Int32) (l3 : Int32) (l4 : Int32) (l5 : Int32) (l6 : Int32) (l7 : Int32) (l8 : Int32) (l9 : Int32) (l10 : Int32) (l11 : Int32) (l12 : Int32) (l16 : Int32) (l17 : Int32) (s0 : Int32) (M : zM) : zM := b143_361 n k111 l0 l1 l2 l3 l4 l5 l6 l7 l8 l9 l10 l11 l12 l16 l17 s0 (b124_0 n l10 M).1 (b124_0 n l10 M).2
def p143_356 (n : Nat) (q111 : Nat → Int32 → Int32 → Int32 → Int32 → Int32 → Int32 → Int32 → Int32 → Int32 → Int32 → Int32 → Int32 → Int32 → zM → Prop) (l0 : Nat) (l1 : Int32) (l2 : Int32) (l3 : Int32) (l4 : Int32) (l5 : Int32) (l6 : Int32) (l7 : Int32) (l8 : Int32) (l9 : Int32) (l10 : Int32) (l11 : Int32) (l12 : Int32) (l16 : Int32) (l17 : Int32) (s0 : Int32) (M : zM) : Prop := (p124_0 n l10 M) ∧ (p143_361 n q111 l0 l1 l2 l3 l4 l5 l6 l7 l8 l9 l10 l11 l12 l16 l17 s0 (b124_0 n l10 M).1 (b124_0 n l10 M).2)
theorem s143_356 (n : Nat) (k111 : Nat → Int32 → Int32 → Int32 → Int32 → Int32 → Int32 → Int32 → Int32 → Int32 → Int32 → Int32 → Int32 → Int32 → zM → zM) (q111 : Nat → Int32 → Int32 → Int32 → Int32 → Int32 → Int32 → Int32 → Int32 → Int32 → Int32 → Int32 → Int32 → Int32 → zM → Prop) (h111 : ∀ (l0 : Nat) (l1 : Int32) (l2 : Int32) (l3 : Int32) (l4 : Int32) (l5 : Int32) (l6 : Int32) (l7 : Int32) (l8 : Int32) (l9 : Int32) (l10 : Int32) (l11 : Int32) (l12 : Int32) (l13 : Int32) (M : zM), q111 l0 l1 l2 l3 l4 l5 l6 l7 l8 l9 l10 l11 l12 l13 M → ∀ {Q : Option Value → zM → Prop}, (∀ r M1, zRV (k111 l0 l1 l2 l3 l4 l5 l6 l7 l8 l9 l10 l11 l12 l13 M) r M1 → Q r M1) → zWP 143 111 [some (.ref l0), some (.int l1), some (.int l2), some (.int l3), some (.int l4), some (.int l5), some (.int l6), some (.int l7), some (.int l8), some (.int l9), some (.int l10), some (.int l11), some (.int l12), some (.int l13), none, none, none, none, none] [] M Q) (l0 : Nat) (l1 : Int32) (l2 : Int32) (l3 : Int32) (l4 : Int32) (l5 : Int32) (l6 : Int32) (l7 : Int32) (l8 : Int32) (l9 : Int32) (l10 : Int32) (l11 : Int32) (l12 : Int32) (l16 : Int32) (l17 : Int32) (s0 : Int32) (M : zM) (hp : p143_356 n q111 l0 l1 l2 l3 l4 l5 l6 l7 l8 l9 l10 l11 l12 l16 l17 s0 M) {Q : Option Value → zM → Prop} (hQ : ∀ r M1, zRV (b143_356 n k111 l0 l1 l2 l3 l4 l5 l6 l7 l8 l9 l10 l11 l12 l16 l17 s0 M) r M1 → Q r M1) : zWP 143 356 [some (.ref l0), some (.int l1), some (.int l2), some (.int l3), some (.int l4), some (.int l5), some (.int l6), some (.int l7), some (.int l8), some (.int l9), some (.int l10), some (.int l11), some (.int l12), none, none, none, some (.int l16), some (.int l17), none] [.int s0] M Q := by
  unfold b143_356 at hQ
  unfold p143_356 at hp
  refine wp_go 1 (pc' := 358) (L' := [some (.ref l0), some (.int l1), some (.int l2), some (.int l3), some (.int l4), some (.int l5), some (.int l6), some (.int l7), some (.int l8), some (.int l9), some (.int l10), some (.int l11), some (.int l12), none, none, none, some (.int l16), some (.int l17), none]) (st' := [.int l10, .int s0]) (M' := M) rfl ?_
  obtain ⟨hc, hp⟩ := hp
  refine wp_calli (v := (b124_0 n l10 M).1) (M1 := (b124_0 n l10 M).2) rfl rfl rfl rfl (s124_0 n l10 M hc (fun r M1 h => h)) ?_
  exact s143_361 n k111 q111 h111 l0 l1 l2 l3 l4 l5 l6 l7 l8 l9 l10 l11 l12 l16 l17 s0 (b124_0 n l10 M).1 (b124_0 n l10 M).2 hp hQ
def b143_346 (n : Nat) (k111 : Nat → Int32 → Int32 → Int32 → Int32 → Int32 → Int32 → Int32 → Int32 → Int32 → Int32 → Int32 → Int32 → Int32 → zM → zM) (l0 : Nat) (l1 : Int32) (l2 : Int32) (l3 : Int32) (l4 : Int32) (l5 : Int32) (l6 : Int32) (l7 : Int32) (l8 : Int32) (l9 : Int32) (l11 : Int32) (l12 : Int32) (l16 : Int32) (l17 : Int32) (s0 : Int32) (s1 : Int32) (s2 : Int32) (s3 : Int32) (M : zM) : zM := b143_356 n k111 l0 l1 l2 l3 l4 l5 l6 l7 l8 l9 (s0 + (s1 - (s2 * s3))) l11 l12 l16 l17 (b124_0 n l9 M).1 (b124_0 n l9 M).2
def p143_346 (n : Nat) (q111 : Nat → Int32 → Int32 → Int32 → Int32 → Int32 → Int32 → Int32 → Int32 → Int32 → Int32 → Int32 → Int32 → Int32 → zM → Prop) (l0 : Nat) (l1 : Int32) (l2 : Int32) (l3 : Int32) (l4 : Int32) (l5 : Int32) (l6 : Int32) (l7 : Int32) (l8 : Int32) (l9 : Int32) (l11 : Int32) (l12 : Int32) (l16 : Int32) (l17 : Int32) (s0 : Int32) (s1 : Int32) (s2 : Int32) (s3 : Int32) (M : zM) : Prop := (p124_0 n l9 M) ∧ (p143_356 n q111 l0 l1 l2 l3 l4 l5 l6 l7 l8 l9 (s0 + (s1 - (s2 * s3))) l11 l12 l16 l17 (b124_0 n l9 M).1 (b124_0 n l9 M).2)
theorem s143_346 (n : Nat) (k111 : Nat → Int32 → Int32 → Int32 → Int32 → Int32 → Int32 → Int32 → Int32 → Int32 → Int32 → Int32 → Int32 → Int32 → zM → zM) (q111 : Nat → Int32 → Int32 → Int32 → Int32 → Int32 → Int32 → Int32 → Int32 → Int32 → Int32 → Int32 → Int32 → Int32 → zM → Prop) (h111 : ∀ (l0 : Nat) (l1 : Int32) (l2 : Int32) (l3 : Int32) (l4 : Int32) (l5 : Int32) (l6 : Int32) (l7 : Int32) (l8 : Int32) (l9 : Int32) (l10 : Int32) (l11 : Int32) (l12 : Int32) (l13 : Int32) (M : zM), q111 l0 l1 l2 l3 l4 l5 l6 l7 l8 l9 l10 l11 l12 l13 M → ∀ {Q : Option Value → zM → Prop}, (∀ r M1, zRV (k111 l0 l1 l2 l3 l4 l5 l6 l7 l8 l9 l10 l11 l12 l13 M) r M1 → Q r M1) → zWP 143 111 [some (.ref l0), some (.int l1), some (.int l2), some (.int l3), some (.int l4), some (.int l5), some (.int l6), some (.int l7), some (.int l8), some (.int l9), some (.int l10), some (.int l11), some (.int l12), some (.int l13), none, none, none, none, none] [] M Q) (l0 : Nat) (l1 : Int32) (l2 : Int32) (l3 : Int32) (l4 : Int32) (l5 : Int32) (l6 : Int32) (l7 : Int32) (l8 : Int32) (l9 : Int32) (l11 : Int32) (l12 : Int32) (l16 : Int32) (l17 : Int32) (s0 : Int32) (s1 : Int32) (s2 : Int32) (s3 : Int32) (M : zM) (hp : p143_346 n q111 l0 l1 l2 l3 l4 l5 l6 l7 l8 l9 l11 l12 l16 l17 s0 s1 s2 s3 M) {Q : Option Value → zM → Prop} (hQ : ∀ r M1, zRV (b143_346 n k111 l0 l1 l2 l3 l4 l5 l6 l7 l8 l9 l11 l12 l16 l17 s0 s1 s2 s3 M) r M1 → Q r M1) : zWP 143 346 [some (.ref l0), some (.int l1), some (.int l2), some (.int l3), some (.int l4), some (.int l5), some (.int l6), some (.int l7), some (.int l8), some (.int l9), none, some (.int l11), some (.int l12), none, none, none, some (.int l16), some (.int l17), none] [.int s3, .int s2, .int s1, .int s0] M Q := by
  unfold b143_346 at hQ
  unfold p143_346 at hp
  refine wp_go 5 (pc' := 353) (L' := [some (.ref l0), some (.int l1), some (.int l2), some (.int l3), some (.int l4), some (.int l5), some (.int l6), some (.int l7), some (.int l8), some (.int l9), some (.int (s0 + (s1 - (s2 * s3)))), some (.int l11), some (.int l12), none, none, none, some (.int l16), some (.int l17), none]) (st' := [.int l9]) (M' := M) rfl ?_
  obtain ⟨hc, hp⟩ := hp
  refine wp_calli (v := (b124_0 n l9 M).1) (M1 := (b124_0 n l9 M).2) rfl rfl rfl rfl (s124_0 n l9 M hc (fun r M1 h => h)) ?_
  exact s143_356 n k111 q111 h111 l0 l1 l2 l3 l4 l5 l6 l7 l8 l9 (s0 + (s1 - (s2 * s3))) l11 l12 l16 l17 (b124_0 n l9 M).1 (b124_0 n l9 M).2 hp hQ
def b143_322 (n : Nat) (k111 : Nat → Int32 → Int32 → Int32 → Int32 → Int32 → Int32 → Int32 → Int32 → Int32 → Int32 → Int32 → Int32 → Int32 → zM → zM) (l0 : Nat) (l1 : Int32) (l2 : Int32) (l3 : Int32) (l4 : Int32) (l5 : Int32) (l6 : Int32) (l7 : Int32) (l8 : Int32) (l9 : Int32) (l11 : Int32) (l12 : Int32) (l16 : Int32) (l17 : Int32) (s0 : Int32) (s1 : Int32) (s2 : Int32) (M : zM) : zM := b143_346 n k111 l0 l1 l2 l3 l4 l5 l6 l7 l8 l9 l11 l12 l16 l17 s0 (s1 * s2) (zI M (zQ M l0 7) l17.toNatClampNeg) (b121_0 n (((zI M (zQ M l0 6) l17.toNatClampNeg) + (12 : Int32)) + l5) M).1 (b121_0 n (((zI M (zQ M l0 6) l17.toNatClampNeg) + (12 : Int32)) + l5) M).2
def p143_322 (n : Nat) (q111 : Nat → Int32 → Int32 → Int32 → Int32 → Int32 → Int32 → Int32 → Int32 → Int32 → Int32 → Int32 → Int32 → Int32 → zM → Prop) (l0 : Nat) (l1 : Int32) (l2 : Int32) (l3 : Int32) (l4 : Int32) (l5 : Int32) (l6 : Int32) (l7 : Int32) (l8 : Int32) (l9 : Int32) (l11 : Int32) (l12 : Int32) (l16 : Int32) (l17 : Int32) (s0 : Int32) (s1 : Int32) (s2 : Int32) (M : zM) : Prop := (zHasQ 10 29 l0 M 7) ∧ ((zOkI (zQ M l0 7) l17 M) ∧ ((zHasQ 10 26 l0 M 6) ∧ ((zOkI (zQ M l0 6) l17 M) ∧ ((p121_0 n (((zI M (zQ M l0 6) l17.toNatClampNeg) + (12 : Int32)) + l5) M) ∧ (p143_346 n q111 l0 l1 l2 l3 l4 l5 l6 l7 l8 l9 l11 l12 l16 l17 s0 (s1 * s2) (zI M (zQ M l0 7) l17.toNatClampNeg) (b121_0 n (((zI M (zQ M l0 6) l17.toNatClampNeg) + (12 : Int32)) + l5) M).1 (b121_0 n (((zI M (zQ M l0 6) l17.toNatClampNeg) + (12 : Int32)) + l5) M).2)))))
theorem s143_322 (n : Nat) (k111 : Nat → Int32 → Int32 → Int32 → Int32 → Int32 → Int32 → Int32 → Int32 → Int32 → Int32 → Int32 → Int32 → Int32 → zM → zM) (q111 : Nat → Int32 → Int32 → Int32 → Int32 → Int32 → Int32 → Int32 → Int32 → Int32 → Int32 → Int32 → Int32 → Int32 → zM → Prop) (h111 : ∀ (l0 : Nat) (l1 : Int32) (l2 : Int32) (l3 : Int32) (l4 : Int32) (l5 : Int32) (l6 : Int32) (l7 : Int32) (l8 : Int32) (l9 : Int32) (l10 : Int32) (l11 : Int32) (l12 : Int32) (l13 : Int32) (M : zM), q111 l0 l1 l2 l3 l4 l5 l6 l7 l8 l9 l10 l11 l12 l13 M → ∀ {Q : Option Value → zM → Prop}, (∀ r M1, zRV (k111 l0 l1 l2 l3 l4 l5 l6 l7 l8 l9 l10 l11 l12 l13 M) r M1 → Q r M1) → zWP 143 111 [some (.ref l0), some (.int l1), some (.int l2), some (.int l3), some (.int l4), some (.int l5), some (.int l6), some (.int l7), some (.int l8), some (.int l9), some (.int l10), some (.int l11), some (.int l12), some (.int l13), none, none, none, none, none] [] M Q) (l0 : Nat) (l1 : Int32) (l2 : Int32) (l3 : Int32) (l4 : Int32) (l5 : Int32) (l6 : Int32) (l7 : Int32) (l8 : Int32) (l9 : Int32) (l11 : Int32) (l12 : Int32) (l16 : Int32) (l17 : Int32) (s0 : Int32) (s1 : Int32) (s2 : Int32) (M : zM) (hp : p143_322 n q111 l0 l1 l2 l3 l4 l5 l6 l7 l8 l9 l11 l12 l16 l17 s0 s1 s2 M) {Q : Option Value → zM → Prop} (hQ : ∀ r M1, zRV (b143_322 n k111 l0 l1 l2 l3 l4 l5 l6 l7 l8 l9 l11 l12 l16 l17 s0 s1 s2 M) r M1 → Q r M1) : zWP 143 322 [some (.ref l0), some (.int l1), some (.int l2), some (.int l3), some (.int l4), some (.int l5), some (.int l6), some (.int l7), some (.int l8), some (.int l9), none, some (.int l11), some (.int l12), none, none, none, some (.int l16), some (.int l17), none] [.int s2, .int s1, .int s0] M Q := by
  unfold b143_322 at hQ
  unfold p143_322 at hp
  refine wp_go 2 (pc' := 324) (L' := [some (.ref l0), some (.int l1), some (.int l2), some (.int l3), some (.int l4), some (.int l5), some (.int l6), some (.int l7), some (.int l8), some (.int l9), none, some (.int l11), some (.int l12), none, none, none, some (.int l16), some (.int l17), none]) (st' := [.ref l0, .int (s1 * s2), .int s0]) (M' := M) rfl ?_
  obtain ⟨hc, hp⟩ := hp
  refine wq_getQ (j := 7) rfl hc ?_
  refine wp_go 1 (pc' := 329) (L' := [some (.ref l0), some (.int l1), some (.int l2), some (.int l3), some (.int l4), some (.int l5), some (.int l6), some (.int l7), some (.int l8), some (.int l9), none, some (.int l11), some (.int l12), none, none, none, some (.int l16), some (.int l17), none]) (st' := [.int l17, .ref (zQ M l0 7), .int (s1 * s2), .int s0]) (M' := M) rfl ?_
  obtain ⟨hc, hp⟩ := hp
  refine wq_iald rfl hc ?_
  refine wp_go 1 (pc' := 331) (L' := [some (.ref l0), some (.int l1), some (.int l2), some (.int l3), some (.int l4), some (.int l5), some (.int l6), some (.int l7), some (.int l8), some (.int l9), none, some (.int l11), some (.int l12), none, none, none, some (.int l16), some (.int l17), none]) (st' := [.ref l0, .int (zI M (zQ M l0 7) l17.toNatClampNeg), .int (s1 * s2), .int s0]) (M' := M) rfl ?_
  obtain ⟨hc, hp⟩ := hp
  refine wq_getQ (j := 6) rfl hc ?_
  refine wp_go 1 (pc' := 336) (L' := [some (.ref l0), some (.int l1), some (.int l2), some (.int l3), some (.int l4), some (.int l5), some (.int l6), some (.int l7), some (.int l8), some (.int l9), none, some (.int l11), some (.int l12), none, none, none, some (.int l16), some (.int l17), none]) (st' := [.int l17, .ref (zQ M l0 6), .int (zI M (zQ M l0 7) l17.toNatClampNeg), .int (s1 * s2), .int s0]) (M' := M) rfl ?_
  obtain ⟨hc, hp⟩ := hp
  refine wq_iald rfl hc ?_
  refine wp_go 4 (pc' := 343) (L' := [some (.ref l0), some (.int l1), some (.int l2), some (.int l3), some (.int l4), some (.int l5), some (.int l6), some (.int l7), some (.int l8), some (.int l9), none, some (.int l11), some (.int l12), none, none, none, some (.int l16), some (.int l17), none]) (st' := [.int (((zI M (zQ M l0 6) l17.toNatClampNeg) + (12 : Int32)) + l5), .int (zI M (zQ M l0 7) l17.toNatClampNeg), .int (s1 * s2), .int s0]) (M' := M) rfl ?_
  obtain ⟨hc, hp⟩ := hp
  refine wp_calli (v := (b121_0 n (((zI M (zQ M l0 6) l17.toNatClampNeg) + (12 : Int32)) + l5) M).1) (M1 := (b121_0 n (((zI M (zQ M l0 6) l17.toNatClampNeg) + (12 : Int32)) + l5) M).2) rfl rfl rfl rfl (s121_0 n (((zI M (zQ M l0 6) l17.toNatClampNeg) + (12 : Int32)) + l5) M hc (fun r M1 h => h)) ?_
  exact s143_346 n k111 q111 h111 l0 l1 l2 l3 l4 l5 l6 l7 l8 l9 l11 l12 l16 l17 s0 (s1 * s2) (zI M (zQ M l0 7) l17.toNatClampNeg) (b121_0 n (((zI M (zQ M l0 6) l17.toNatClampNeg) + (12 : Int32)) + l5) M).1 (b121_0 n (((zI M (zQ M l0 6) l17.toNatClampNeg) + (12 : Int32)) + l5) M).2 hp hQ
def b143_298 (n : Nat) (k111 : Nat → Int32 → Int32 → Int32 → Int32 → Int32 → Int32 → Int32 → Int32 → Int32 → Int32 → Int32 → Int32 → Int32 → zM → zM) (l0 : Nat) (l1 : Int32) (l2 : Int32) (l3 : Int32) (l4 : Int32) (l5 : Int32) (l6 : Int32) (l7 : Int32) (l8 : Int32) (l10 : Int32) (l11 : Int32) (l12 : Int32) (l16 : Int32) (l17 : Int32) (s0 : Int32) (s1 : Int32) (s2 : Int32) (s3 : Int32) (M : zM) : zM := b143_322 n k111 l0 l1 l2 l3 l4 l5 l6 l7 l8 (s0 + (s1 - (s2 * s3))) l11 l12 l16 l17 l10 (zI M (zQ M l0 7) l16.toNatClampNeg) (b121_0 n (zI M (zQ M l0 6) l16.toNatClampNeg) M).1 (b121_0 n (zI M (zQ M l0 6) l16.toNatClampNeg) M).2
def p143_298 (n : Nat) (q111 : Nat → Int32 → Int32 → Int32 → Int32 → Int32 → Int32 → Int32 → Int32 → Int32 → Int32 → Int32 → Int32 → Int32 → zM → Prop) (l0 : Nat) (l1 : Int32) (l2 : Int32) (l3 : Int32) (l4 : Int32) (l5 : Int32) (l6 : Int32) (l7 : Int32) (l8 : Int32) (l10 : Int32) (l11 : Int32) (l12 : Int32) (l16 : Int32) (l17 : Int32) (s0 : Int32) (s1 : Int32) (s2 : Int32) (s3 : Int32) (M : zM) : Prop := (zHasQ 10 29 l0 M 7) ∧ ((zOkI (zQ M l0 7) l16 M) ∧ ((zHasQ 10 26 l0 M 6) ∧ ((zOkI (zQ M l0 6) l16 M) ∧ ((p121_0 n (zI M (zQ M l0 6) l16.toNatClampNeg) M) ∧ (p143_322 n q111 l0 l1 l2 l3 l4 l5 l6 l7 l8 (s0 + (s1 - (s2 * s3))) l11 l12 l16 l17 l10 (zI M (zQ M l0 7) l16.toNatClampNeg) (b121_0 n (zI M (zQ M l0 6) l16.toNatClampNeg) M).1 (b121_0 n (zI M (zQ M l0 6) l16.toNatClampNeg) M).2)))))
theorem s143_298 (n : Nat) (k111 : Nat → Int32 → Int32 → Int32 → Int32 → Int32 → Int32 → Int32 → Int32 → Int32 → Int32 → Int32 → Int32 → Int32 → zM → zM) (q111 : Nat → Int32 → Int32 → Int32 → Int32 → Int32 → Int32 → Int32 → Int32 → Int32 → Int32 → Int32 → Int32 → Int32 → zM → Prop) (h111 : ∀ (l0 : Nat) (l1 : Int32) (l2 : Int32) (l3 : Int32) (l4 : Int32) (l5 : Int32) (l6 : Int32) (l7 : Int32) (l8 : Int32) (l9 : Int32) (l10 : Int32) (l11 : Int32) (l12 : Int32) (l13 : Int32) (M : zM), q111 l0 l1 l2 l3 l4 l5 l6 l7 l8 l9 l10 l11 l12 l13 M → ∀ {Q : Option Value → zM → Prop}, (∀ r M1, zRV (k111 l0 l1 l2 l3 l4 l5 l6 l7 l8 l9 l10 l11 l12 l13 M) r M1 → Q r M1) → zWP 143 111 [some (.ref l0), some (.int l1), some (.int l2), some (.int l3), some (.int l4), some (.int l5), some (.int l6), some (.int l7), some (.int l8), some (.int l9), some (.int l10), some (.int l11), some (.int l12), some (.int l13), none, none, none, none, none] [] M Q) (l0 : Nat) (l1 : Int32) (l2 : Int32) (l3 : Int32) (l4 : Int32) (l5 : Int32) (l6 : Int32) (l7 : Int32) (l8 : Int32) (l10 : Int32) (l11 : Int32) (l12 : Int32) (l16 : Int32) (l17 : Int32) (s0 : Int32) (s1 : Int32) (s2 : Int32) (s3 : Int32) (M : zM) (hp : p143_298 n q111 l0 l1 l2 l3 l4 l5 l6 l7 l8 l10 l11 l12 l16 l17 s0 s1 s2 s3 M) {Q : Option Value → zM → Prop} (hQ : ∀ r M1, zRV (b143_298 n k111 l0 l1 l2 l3 l4 l5 l6 l7 l8 l10 l11 l12 l16 l17 s0 s1 s2 s3 M) r M1 → Q r M1) : zWP 143 298 [some (.ref l0), some (.int l1), some (.int l2), some (.int l3), some (.int l4), some (.int l5), some (.int l6), some (.int l7), some (.int l8), none, some (.int l10), some (.int l11), some (.int l12), none, none, none, some (.int l16), some (.int l17), none] [.int s3, .int s2, .int s1, .int s0] M Q := by
  unfold b143_298 at hQ
  unfold p143_298 at hp
  refine wp_go 5 (pc' := 305) (L' := [some (.ref l0), some (.int l1), some (.int l2), some (.int l3), some (.int l4), some (.int l5), some (.int l6), some (.int l7), some (.int l8), some (.int (s0 + (s1 - (s2 * s3)))), some (.int l10), some (.int l11), some (.int l12), none, none, none, some (.int l16), some (.int l17), none]) (st' := [.int l10]) (M' := M) rfl ?_
  refine wp_go 1 (pc' := 306) (L' := [some (.ref l0), some (.int l1), some (.int l2), some (.int l3), some (.int l4), some (.int l5), some (.int l6), some (.int l7), some (.int l8), some (.int (s0 + (s1 - (s2 * s3)))), some (.int l10), some (.int l11), some (.int l12), none, none, none, some (.int l16), some (.int l17), none]) (st' := [.ref l0, .int l10]) (M' := M) rfl ?_
  obtain ⟨hc, hp⟩ := hp
  refine wq_getQ (j := 7) rfl hc ?_
  refine wp_go 1 (pc' := 311) (L' := [some (.ref l0), some (.int l1), some (.int l2), some (.int l3), some (.int l4), some (.int l5), some (.int l6), some (.int l7), some (.int l8), some (.int (s0 + (s1 - (s2 * s3)))), some (.int l10), some (.int l11), some (.int l12), none, none, none, some (.int l16), some (.int l17), none]) (st' := [.int l16, .ref (zQ M l0 7), .int l10]) (M' := M) rfl ?_
  obtain ⟨hc, hp⟩ := hp
  refine wq_iald rfl hc ?_
  refine wp_go 1 (pc' := 313) (L' := [some (.ref l0), some (.int l1), some (.int l2), some (.int l3), some (.int l4), some (.int l5), some (.int l6), some (.int l7), some (.int l8), some (.int (s0 + (s1 - (s2 * s3)))), some (.int l10), some (.int l11), some (.int l12), none, none, none, some (.int l16), some (.int l17), none]) (st' := [.ref l0, .int (zI M (zQ M l0 7) l16.toNatClampNeg), .int l10]) (M' := M) rfl ?_
  obtain ⟨hc, hp⟩ := hp
  refine wq_getQ (j := 6) rfl hc ?_
  refine wp_go 1 (pc' := 318) (L' := [some (.ref l0), some (.int l1), some (.int l2), some (.int l3), some (.int l4), some (.int l5), some (.int l6), some (.int l7), some (.int l8), some (.int (s0 + (s1 - (s2 * s3)))), some (.int l10), some (.int l11), some (.int l12), none, none, none, some (.int l16), some (.int l17), none]) (st' := [.int l16, .ref (zQ M l0 6), .int (zI M (zQ M l0 7) l16.toNatClampNeg), .int l10]) (M' := M) rfl ?_
  obtain ⟨hc, hp⟩ := hp
  refine wq_iald rfl hc ?_
  obtain ⟨hc, hp⟩ := hp
  refine wp_calli (v := (b121_0 n (zI M (zQ M l0 6) l16.toNatClampNeg) M).1) (M1 := (b121_0 n (zI M (zQ M l0 6) l16.toNatClampNeg) M).2) rfl rfl rfl rfl (s121_0 n (zI M (zQ M l0 6) l16.toNatClampNeg) M hc (fun r M1 h => h)) ?_
  refine wp_le [some (.ref l0), some (.int l1), some (.int l2), some (.int l3), some (.int l4), some (.int l5), some (.int l6), some (.int l7), some (.int l8), some (.int (s0 + (s1 - (s2 * s3)))), none, some (.int l11), some (.int l12), none, none, none, some (.int l16), some (.int l17), none] (zLe_of (by simp [zLeB])) ?_
  exact s143_322 n k111 q111 h111 l0 l1 l2 l3 l4 l5 l6 l7 l8 (s0 + (s1 - (s2 * s3))) l11 l12 l16 l17 l10 (zI M (zQ M l0 7) l16.toNatClampNeg) (b121_0 n (zI M (zQ M l0 6) l16.toNatClampNeg) M).1 (b121_0 n (zI M (zQ M l0 6) l16.toNatClampNeg) M).2 hp hQ
def b143_274 (n : Nat) (k111 : Nat → Int32 → Int32 → Int32 → Int32 → Int32 → Int32 → Int32 → Int32 → Int32 → Int32 → Int32 → Int32 → Int32 → zM → zM) (l0 : Nat) (l1 : Int32) (l2 : Int32) (l3 : Int32) (l4 : Int32) (l5 : Int32) (l6 : Int32) (l7 : Int32) (l8 : Int32) (l10 : Int32) (l11 : Int32) (l12 : Int32) (l16 : Int32) (l17 : Int32) (s0 : Int32) (s1 : Int32) (s2 : Int32) (M : zM) : zM := b143_298 n k111 l0 l1 l2 l3 l4 l5 l6 l7 l8 l10 l11 l12 l16 l17 s0 (s1 * s2) (zI M (zQ M l0 7) l17.toNatClampNeg) (b120_0 n (((zI M (zQ M l0 6) l17.toNatClampNeg) + (12 : Int32)) + l5) M).1 (b120_0 n (((zI M (zQ M l0 6) l17.toNatClampNeg) + (12 : Int32)) + l5) M).2
def p143_274 (n : Nat) (q111 : Nat → Int32 → Int32 → Int32 → Int32 → Int32 → Int32 → Int32 → Int32 → Int32 → Int32 → Int32 → Int32 → Int32 → zM → Prop) (l0 : Nat) (l1 : Int32) (l2 : Int32) (l3 : Int32) (l4 : Int32) (l5 : Int32) (l6 : Int32) (l7 : Int32) (l8 : Int32) (l10 : Int32) (l11 : Int32) (l12 : Int32) (l16 : Int32) (l17 : Int32) (s0 : Int32) (s1 : Int32) (s2 : Int32) (M : zM) : Prop := (zHasQ 10 29 l0 M 7) ∧ ((zOkI (zQ M l0 7) l17 M) ∧ ((zHasQ 10 26 l0 M 6) ∧ ((zOkI (zQ M l0 6) l17 M) ∧ ((p120_0 n (((zI M (zQ M l0 6) l17.toNatClampNeg) + (12 : Int32)) + l5) M) ∧ (p143_298 n q111 l0 l1 l2 l3 l4 l5 l6 l7 l8 l10 l11 l12 l16 l17 s0 (s1 * s2) (zI M (zQ M l0 7) l17.toNatClampNeg) (b120_0 n (((zI M (zQ M l0 6) l17.toNatClampNeg) + (12 : Int32)) + l5) M).1 (b120_0 n (((zI M (zQ M l0 6) l17.toNatClampNeg) + (12 : Int32)) + l5) M).2)))))
theorem s143_274 (n : Nat) (k111 : Nat → Int32 → Int32 → Int32 → Int32 → Int32 → Int32 → Int32 → Int32 → Int32 → Int32 → Int32 → Int32 → Int32 → zM → zM) (q111 : Nat → Int32 → Int32 → Int32 → Int32 → Int32 → Int32 → Int32 → Int32 → Int32 → Int32 → Int32 → Int32 → Int32 → zM → Prop) (h111 : ∀ (l0 : Nat) (l1 : Int32) (l2 : Int32) (l3 : Int32) (l4 : Int32) (l5 : Int32) (l6 : Int32) (l7 : Int32) (l8 : Int32) (l9 : Int32) (l10 : Int32) (l11 : Int32) (l12 : Int32) (l13 : Int32) (M : zM), q111 l0 l1 l2 l3 l4 l5 l6 l7 l8 l9 l10 l11 l12 l13 M → ∀ {Q : Option Value → zM → Prop}, (∀ r M1, zRV (k111 l0 l1 l2 l3 l4 l5 l6 l7 l8 l9 l10 l11 l12 l13 M) r M1 → Q r M1) → zWP 143 111 [some (.ref l0), some (.int l1), some (.int l2), some (.int l3), some (.int l4), some (.int l5), some (.int l6), some (.int l7), some (.int l8), some (.int l9), some (.int l10), some (.int l11), some (.int l12), some (.int l13), none, none, none, none, none] [] M Q) (l0 : Nat) (l1 : Int32) (l2 : Int32) (l3 : Int32) (l4 : Int32) (l5 : Int32) (l6 : Int32) (l7 : Int32) (l8 : Int32) (l10 : Int32) (l11 : Int32) (l12 : Int32) (l16 : Int32) (l17 : Int32) (s0 : Int32) (s1 : Int32) (s2 : Int32) (M : zM) (hp : p143_274 n q111 l0 l1 l2 l3 l4 l5 l6 l7 l8 l10 l11 l12 l16 l17 s0 s1 s2 M) {Q : Option Value → zM → Prop} (hQ : ∀ r M1, zRV (b143_274 n k111 l0 l1 l2 l3 l4 l5 l6 l7 l8 l10 l11 l12 l16 l17 s0 s1 s2 M) r M1 → Q r M1) : zWP 143 274 [some (.ref l0), some (.int l1), some (.int l2), some (.int l3), some (.int l4), some (.int l5), some (.int l6), some (.int l7), some (.int l8), none, some (.int l10), some (.int l11), some (.int l12), none, none, none, some (.int l16), some (.int l17), none] [.int s2, .int s1, .int s0] M Q := by
  unfold b143_274 at hQ
  unfold p143_274 at hp
  refine wp_go 2 (pc' := 276) (L' := [some (.ref l0), some (.int l1), some (.int l2), some (.int l3), some (.int l4), some (.int l5), some (.int l6), some (.int l7), some (.int l8), none, some (.int l10), some (.int l11), some (.int l12), none, none, none, some (.int l16), some (.int l17), none]) (st' := [.ref l0, .int (s1 * s2), .int s0]) (M' := M) rfl ?_
  obtain ⟨hc, hp⟩ := hp
  refine wq_getQ (j := 7) rfl hc ?_
  refine wp_go 1 (pc' := 281) (L' := [some (.ref l0), some (.int l1), some (.int l2), some (.int l3), some (.int l4), some (.int l5), some (.int l6), some (.int l7), some (.int l8), none, some (.int l10), some (.int l11), some (.int l12), none, none, none, some (.int l16), some (.int l17), none]) (st' := [.int l17, .ref (zQ M l0 7), .int (s1 * s2), .int s0]) (M' := M) rfl ?_
  obtain ⟨hc, hp⟩ := hp
  refine wq_iald rfl hc ?_
  refine wp_go 1 (pc' := 283) (L' := [some (.ref l0), some (.int l1), some (.int l2), some (.int l3), some (.int l4), some (.int l5), some (.int l6), some (.int l7), some (.int l8), none, some (.int l10), some (.int l11), some (.int l12), none, none, none, some (.int l16), some (.int l17), none]) (st' := [.ref l0, .int (zI M (zQ M l0 7) l17.toNatClampNeg), .int (s1 * s2), .int s0]) (M' := M) rfl ?_
  obtain ⟨hc, hp⟩ := hp
  refine wq_getQ (j := 6) rfl hc ?_
  refine wp_go 1 (pc' := 288) (L' := [some (.ref l0), some (.int l1), some (.int l2), some (.int l3), some (.int l4), some (.int l5), some (.int l6), some (.int l7), some (.int l8), none, some (.int l10), some (.int l11), some (.int l12), none, none, none, some (.int l16), some (.int l17), none]) (st' := [.int l17, .ref (zQ M l0 6), .int (zI M (zQ M l0 7) l17.toNatClampNeg), .int (s1 * s2), .int s0]) (M' := M) rfl ?_
  obtain ⟨hc, hp⟩ := hp
  refine wq_iald rfl hc ?_
  refine wp_go 4 (pc' := 295) (L' := [some (.ref l0), some (.int l1), some (.int l2), some (.int l3), some (.int l4), some (.int l5), some (.int l6), some (.int l7), some (.int l8), none, some (.int l10), some (.int l11), some (.int l12), none, none, none, some (.int l16), some (.int l17), none]) (st' := [.int (((zI M (zQ M l0 6) l17.toNatClampNeg) + (12 : Int32)) + l5), .int (zI M (zQ M l0 7) l17.toNatClampNeg), .int (s1 * s2), .int s0]) (M' := M) rfl ?_
  obtain ⟨hc, hp⟩ := hp
  refine wp_calli (v := (b120_0 n (((zI M (zQ M l0 6) l17.toNatClampNeg) + (12 : Int32)) + l5) M).1) (M1 := (b120_0 n (((zI M (zQ M l0 6) l17.toNatClampNeg) + (12 : Int32)) + l5) M).2) rfl rfl rfl rfl (s120_0 n (((zI M (zQ M l0 6) l17.toNatClampNeg) + (12 : Int32)) + l5) M hc (fun r M1 h => h)) ?_
  exact s143_298 n k111 q111 h111 l0 l1 l2 l3 l4 l5 l6 l7 l8 l10 l11 l12 l16 l17 s0 (s1 * s2) (zI M (zQ M l0 7) l17.toNatClampNeg) (b120_0 n (((zI M (zQ M l0 6) l17.toNatClampNeg) + (12 : Int32)) + l5) M).1 (b120_0 n (((zI M (zQ M l0 6) l17.toNatClampNeg) + (12 : Int32)) + l5) M).2 hp hQ
def b143_248 (n : Nat) (k111 : Nat → Int32 → Int32 → Int32 → Int32 → Int32 → Int32 → Int32 → Int32 → Int32 → Int32 → Int32 → Int32 → Int32 → zM → zM) (l0 : Nat) (l1 : Int32) (l2 : Int32) (l3 : Int32) (l4 : Int32) (l5 : Int32) (l6 : Int32) (l7 : Int32) (l8 : Int32) (l9 : Int32) (l10 : Int32) (l11 : Int32) (l12 : Int32) (l16 : Int32) (l17 : Int32) (s0 : Int32) (M : zM) : zM := (if s0 = 0 then b143_432 n k111 l0 l1 l2 l3 l4 l5 l6 l7 l8 l9 l10 l11 l12 s0 M else b143_274 n k111 l0 l1 l2 l3 l4 l5 l6 l7 l8 l10 l11 l12 l16 l17 l9 (zI M (zQ M l0 7) l16.toNatClampNeg) (b120_0 n (zI M (zQ M l0 6) l16.toNatClampNeg) M).1 (b120_0 n (zI M (zQ M l0 6) l16.toNatClampNeg) M).2)
def p143_248 (n : Nat) (q111 : Nat → Int32 → Int32 → Int32 → Int32 → Int32 → Int32 → Int32 → Int32 → Int32 → Int32 → Int32 → Int32 → Int32 → zM → Prop) (l0 : Nat) (l1 : Int32) (l2 : Int32) (l3 : Int32) (l4 : Int32) (l5 : Int32) (l6 : Int32) (l7 : Int32) (l8 : Int32) (l9 : Int32) (l10 : Int32) (l11 : Int32) (l12 : Int32) (l16 : Int32) (l17 : Int32) (s0 : Int32) (M : zM) : Prop := ((s0 = 0 → p143_432 n q111 l0 l1 l2 l3 l4 l5 l6 l7 l8 l9 l10 l11 l12 s0 M) ∧ (¬ s0 = 0 → (zHasQ 10 29 l0 M 7) ∧ ((zOkI (zQ M l0 7) l16 M) ∧ ((zHasQ 10 26 l0 M 6) ∧ ((zOkI (zQ M l0 6) l16 M) ∧ ((p120_0 n (zI M (zQ M l0 6) l16.toNatClampNeg) M) ∧ (p143_274 n q111 l0 l1 l2 l3 l4 l5 l6 l7 l8 l10 l11 l12 l16 l17 l9 (zI M (zQ M l0 7) l16.toNatClampNeg) (b120_0 n (zI M (zQ M l0 6) l16.toNatClampNeg) M).1 (b120_0 n (zI M (zQ M l0 6) l16.toNatClampNeg) M).2)))))))
theorem s143_248 (n : Nat) (k111 : Nat → Int32 → Int32 → Int32 → Int32 → Int32 → Int32 → Int32 → Int32 → Int32 → Int32 → Int32 → Int32 → Int32 → zM → zM) (q111 : Nat → Int32 → Int32 → Int32 → Int32 → Int32 → Int32 → Int32 → Int32 → Int32 → Int32 → Int32 → Int32 → Int32 → zM → Prop) (h111 : ∀ (l0 : Nat) (l1 : Int32) (l2 : Int32) (l3 : Int32) (l4 : Int32) (l5 : Int32) (l6 : Int32) (l7 : Int32) (l8 : Int32) (l9 : Int32) (l10 : Int32) (l11 : Int32) (l12 : Int32) (l13 : Int32) (M : zM), q111 l0 l1 l2 l3 l4 l5 l6 l7 l8 l9 l10 l11 l12 l13 M → ∀ {Q : Option Value → zM → Prop}, (∀ r M1, zRV (k111 l0 l1 l2 l3 l4 l5 l6 l7 l8 l9 l10 l11 l12 l13 M) r M1 → Q r M1) → zWP 143 111 [some (.ref l0), some (.int l1), some (.int l2), some (.int l3), some (.int l4), some (.int l5), some (.int l6), some (.int l7), some (.int l8), some (.int l9), some (.int l10), some (.int l11), some (.int l12), some (.int l13), none, none, none, none, none] [] M Q) (l0 : Nat) (l1 : Int32) (l2 : Int32) (l3 : Int32) (l4 : Int32) (l5 : Int32) (l6 : Int32) (l7 : Int32) (l8 : Int32) (l9 : Int32) (l10 : Int32) (l11 : Int32) (l12 : Int32) (l16 : Int32) (l17 : Int32) (s0 : Int32) (M : zM) (hp : p143_248 n q111 l0 l1 l2 l3 l4 l5 l6 l7 l8 l9 l10 l11 l12 l16 l17 s0 M) {Q : Option Value → zM → Prop} (hQ : ∀ r M1, zRV (b143_248 n k111 l0 l1 l2 l3 l4 l5 l6 l7 l8 l9 l10 l11 l12 l16 l17 s0 M) r M1 → Q r M1) : zWP 143 248 [some (.ref l0), some (.int l1), some (.int l2), some (.int l3), some (.int l4), some (.int l5), some (.int l6), some (.int l7), some (.int l8), some (.int l9), some (.int l10), some (.int l11), some (.int l12), none, none, none, some (.int l16), some (.int l17), none] [.int s0] M Q := by
  unfold b143_248 at hQ
  unfold p143_248 at hp
  refine wp_go 2 (pc' := 252) (L' := [some (.ref l0), some (.int l1), some (.int l2), some (.int l3), some (.int l4), some (.int l5), some (.int l6), some (.int l7), some (.int l8), some (.int l9), some (.int l10), some (.int l11), some (.int l12), some (.int s0), none, none, some (.int l16), some (.int l17), none]) (st' := [.int s0]) (M' := M) rfl ?_
  refine wp_if_eq (t := 432) rfl rfl (fun hc => ?_) (fun hc => ?_)
  · rw [if_pos hc] at hQ
    replace hp := hp.1 hc
    refine wp_le [some (.ref l0), some (.int l1), some (.int l2), some (.int l3), some (.int l4), some (.int l5), some (.int l6), some (.int l7), some (.int l8), some (.int l9), some (.int l10), some (.int l11), some (.int l12), some (.int s0), none, none, none, none, none] (zLe_of (by simp [zLeB])) ?_
    exact s143_432 n k111 q111 h111 l0 l1 l2 l3 l4 l5 l6 l7 l8 l9 l10 l11 l12 s0 M hp hQ
  · rw [if_neg hc] at hQ
    replace hp := hp.2 hc
    refine wp_go 2 (pc' := 258) (L' := [some (.ref l0), some (.int l1), some (.int l2), some (.int l3), some (.int l4), some (.int l5), some (.int l6), some (.int l7), some (.int l8), some (.int l9), some (.int l10), some (.int l11), some (.int l12), some (.int s0), none, none, some (.int l16), some (.int l17), none]) (st' := [.ref l0, .int l9]) (M' := M) rfl ?_
    obtain ⟨hc, hp⟩ := hp
    refine wq_getQ (j := 7) rfl hc ?_
    refine wp_go 1 (pc' := 263) (L' := [some (.ref l0), some (.int l1), some (.int l2), some (.int l3), some (.int l4), some (.int l5), some (.int l6), some (.int l7), some (.int l8), some (.int l9), some (.int l10), some (.int l11), some (.int l12), some (.int s0), none, none, some (.int l16), some (.int l17), none]) (st' := [.int l16, .ref (zQ M l0 7), .int l9]) (M' := M) rfl ?_
    obtain ⟨hc, hp⟩ := hp
    refine wq_iald rfl hc ?_
    refine wp_go 1 (pc' := 265) (L' := [some (.ref l0), some (.int l1), some (.int l2), some (.int l3), some (.int l4), some (.int l5), some (.int l6), some (.int l7), some (.int l8), some (.int l9), some (.int l10), some (.int l11), some (.int l12), some (.int s0), none, none, some (.int l16), some (.int l17), none]) (st' := [.ref l0, .int (zI M (zQ M l0 7) l16.toNatClampNeg), .int l9]) (M' := M) rfl ?_
    obtain ⟨hc, hp⟩ := hp
    refine wq_getQ (j := 6) rfl hc ?_
    refine wp_go 1 (pc' := 270) (L' := [some (.ref l0), some (.int l1), some (.int l2), some (.int l3), some (.int l4), some (.int l5), some (.int l6), some (.int l7), some (.int l8), some (.int l9), some (.int l10), some (.int l11), some (.int l12), some (.int s0), none, none, some (.int l16), some (.int l17), none]) (st' := [.int l16, .ref (zQ M l0 6), .int (zI M (zQ M l0 7) l16.toNatClampNeg), .int l9]) (M' := M) rfl ?_
    obtain ⟨hc, hp⟩ := hp
    refine wq_iald rfl hc ?_
    obtain ⟨hc, hp⟩ := hp
    refine wp_calli (v := (b120_0 n (zI M (zQ M l0 6) l16.toNatClampNeg) M).1) (M1 := (b120_0 n (zI M (zQ M l0 6) l16.toNatClampNeg) M).2) rfl rfl rfl rfl (s120_0 n (zI M (zQ M l0 6) l16.toNatClampNeg) M hc (fun r M1 h => h)) ?_
    refine wp_le [some (.ref l0), some (.int l1), some (.int l2), some (.int l3), some (.int l4), some (.int l5), some (.int l6), some (.int l7), some (.int l8), none, some (.int l10), some (.int l11), some (.int l12), none, none, none, some (.int l16), some (.int l17), none] (zLe_of (by simp [zLeB])) ?_
    exact s143_274 n k111 q111 h111 l0 l1 l2 l3 l4 l5 l6 l7 l8 l10 l11 l12 l16 l17 l9 (zI M (zQ M l0 7) l16.toNatClampNeg) (b120_0 n (zI M (zQ M l0 6) l16.toNatClampNeg) M).1 (b120_0 n (zI M (zQ M l0 6) l16.toNatClampNeg) M).2 hp hQ
def b143_247 (n : Nat) (k111 : Nat → Int32 → Int32 → Int32 → Int32 → Int32 → Int32 → Int32 → Int32 → Int32 → Int32 → Int32 → Int32 → Int32 → zM → zM) (l0 : Nat) (l1 : Int32) (l2 : Int32) (l3 : Int32) (l4 : Int32) (l5 : Int32) (l6 : Int32) (l7 : Int32) (l8 : Int32) (l9 : Int32) (l10 : Int32) (l11 : Int32) (l12 : Int32) (l16 : Int32) (l17 : Int32) (M : zM) : zM := b143_248 n k111 l0 l1 l2 l3 l4 l5 l6 l7 l8 l9 l10 l11 l12 l16 l17 (0 : Int32) M
def p143_247 (n : Nat) (q111 : Nat → Int32 → Int32 → Int32 → Int32 → Int32 → Int32 → Int32 → Int32 → Int32 → Int32 → Int32 → Int32 → Int32 → zM → Prop) (l0 : Nat) (l1 : Int32) (l2 : Int32) (l3 : Int32) (l4 : Int32) (l5 : Int32) (l6 : Int32) (l7 : Int32) (l8 : Int32) (l9 : Int32) (l10 : Int32) (l11 : Int32) (l12 : Int32) (l16 : Int32) (l17 : Int32) (M : zM) : Prop := p143_248 n q111 l0 l1 l2 l3 l4 l5 l6 l7 l8 l9 l10 l11 l12 l16 l17 (0 : Int32) M
theorem s143_247 (n : Nat) (k111 : Nat → Int32 → Int32 → Int32 → Int32 → Int32 → Int32 → Int32 → Int32 → Int32 → Int32 → Int32 → Int32 → Int32 → zM → zM) (q111 : Nat → Int32 → Int32 → Int32 → Int32 → Int32 → Int32 → Int32 → Int32 → Int32 → Int32 → Int32 → Int32 → Int32 → zM → Prop) (h111 : ∀ (l0 : Nat) (l1 : Int32) (l2 : Int32) (l3 : Int32) (l4 : Int32) (l5 : Int32) (l6 : Int32) (l7 : Int32) (l8 : Int32) (l9 : Int32) (l10 : Int32) (l11 : Int32) (l12 : Int32) (l13 : Int32) (M : zM), q111 l0 l1 l2 l3 l4 l5 l6 l7 l8 l9 l10 l11 l12 l13 M → ∀ {Q : Option Value → zM → Prop}, (∀ r M1, zRV (k111 l0 l1 l2 l3 l4 l5 l6 l7 l8 l9 l10 l11 l12 l13 M) r M1 → Q r M1) → zWP 143 111 [some (.ref l0), some (.int l1), some (.int l2), some (.int l3), some (.int l4), some (.int l5), some (.int l6), some (.int l7), some (.int l8), some (.int l9), some (.int l10), some (.int l11), some (.int l12), some (.int l13), none, none, none, none, none] [] M Q) (l0 : Nat) (l1 : Int32) (l2 : Int32) (l3 : Int32) (l4 : Int32) (l5 : Int32) (l6 : Int32) (l7 : Int32) (l8 : Int32) (l9 : Int32) (l10 : Int32) (l11 : Int32) (l12 : Int32) (l16 : Int32) (l17 : Int32) (M : zM) (hp : p143_247 n q111 l0 l1 l2 l3 l4 l5 l6 l7 l8 l9 l10 l11 l12 l16 l17 M) {Q : Option Value → zM → Prop} (hQ : ∀ r M1, zRV (b143_247 n k111 l0 l1 l2 l3 l4 l5 l6 l7 l8 l9 l10 l11 l12 l16 l17 M) r M1 → Q r M1) : zWP 143 247 [some (.ref l0), some (.int l1), some (.int l2), some (.int l3), some (.int l4), some (.int l5), some (.int l6), some (.int l7), some (.int l8), some (.int l9), some (.int l10), some (.int l11), some (.int l12), none, none, none, some (.int l16), some (.int l17), none] [] M Q := by
  unfold b143_247 at hQ
  unfold p143_247 at hp
  refine wp_go 1 (pc' := 248) (L' := [some (.ref l0), some (.int l1), some (.int l2), some (.int l3), some (.int l4), some (.int l5), some (.int l6), some (.int l7), some (.int l8), some (.int l9), some (.int l10), some (.int l11), some (.int l12), none, none, none, some (.int l16), some (.int l17), none]) (st' := [.int (0 : Int32)]) (M' := M) rfl ?_
  exact s143_248 n k111 q111 h111 l0 l1 l2 l3 l4 l5 l6 l7 l8 l9 l10 l11 l12 l16 l17 (0 : Int32) M hp hQ
def b143_243 (n : Nat) (k111 : Nat → Int32 → Int32 → Int32 → Int32 → Int32 → Int32 → Int32 → Int32 → Int32 → Int32 → Int32 → Int32 → Int32 → zM → zM) (l0 : Nat) (l1 : Int32) (l2 : Int32) (l3 : Int32) (l4 : Int32) (l5 : Int32) (l6 : Int32) (l7 : Int32) (l8 : Int32) (l9 : Int32) (l10 : Int32) (l11 : Int32) (l12 : Int32) (l16 : Int32) (l17 : Int32) (M : zM) : zM := b143_248 n k111 l0 l1 l2 l3 l4 l5 l6 l7 l8 l9 l10 l11 l12 l16 l17 (1 : Int32) M
def p143_243 (n : Nat) (q111 : Nat → Int32 → Int32 → Int32 → Int32 → Int32 → Int32 → Int32 → Int32 → Int32 → Int32 → Int32 → Int32 → Int32 → zM → Prop) (l0 : Nat) (l1 : Int32) (l2 : Int32) (l3 : Int32) (l4 : Int32) (l5 : Int32) (l6 : Int32) (l7 : Int32) (l8 : Int32) (l9 : Int32) (l10 : Int32) (l11 : Int32) (l12 : Int32) (l16 : Int32) (l17 : Int32) (M : zM) : Prop := p143_248 n q111 l0 l1 l2 l3 l4 l5 l6 l7 l8 l9 l10 l11 l12 l16 l17 (1 : Int32) M
theorem s143_243 (n : Nat) (k111 : Nat → Int32 → Int32 → Int32 → Int32 → Int32 → Int32 → Int32 → Int32 → Int32 → Int32 → Int32 → Int32 → Int32 → zM → zM) (q111 : Nat → Int32 → Int32 → Int32 → Int32 → Int32 → Int32 → Int32 → Int32 → Int32 → Int32 → Int32 → Int32 → Int32 → zM → Prop) (h111 : ∀ (l0 : Nat) (l1 : Int32) (l2 : Int32) (l3 : Int32) (l4 : Int32) (l5 : Int32) (l6 : Int32) (l7 : Int32) (l8 : Int32) (l9 : Int32) (l10 : Int32) (l11 : Int32) (l12 : Int32) (l13 : Int32) (M : zM), q111 l0 l1 l2 l3 l4 l5 l6 l7 l8 l9 l10 l11 l12 l13 M → ∀ {Q : Option Value → zM → Prop}, (∀ r M1, zRV (k111 l0 l1 l2 l3 l4 l5 l6 l7 l8 l9 l10 l11 l12 l13 M) r M1 → Q r M1) → zWP 143 111 [some (.ref l0), some (.int l1), some (.int l2), some (.int l3), some (.int l4), some (.int l5), some (.int l6), some (.int l7), some (.int l8), some (.int l9), some (.int l10), some (.int l11), some (.int l12), some (.int l13), none, none, none, none, none] [] M Q) (l0 : Nat) (l1 : Int32) (l2 : Int32) (l3 : Int32) (l4 : Int32) (l5 : Int32) (l6 : Int32) (l7 : Int32) (l8 : Int32) (l9 : Int32) (l10 : Int32) (l11 : Int32) (l12 : Int32) (l16 : Int32) (l17 : Int32) (M : zM) (hp : p143_243 n q111 l0 l1 l2 l3 l4 l5 l6 l7 l8 l9 l10 l11 l12 l16 l17 M) {Q : Option Value → zM → Prop} (hQ : ∀ r M1, zRV (b143_243 n k111 l0 l1 l2 l3 l4 l5 l6 l7 l8 l9 l10 l11 l12 l16 l17 M) r M1 → Q r M1) : zWP 143 243 [some (.ref l0), some (.int l1), some (.int l2), some (.int l3), some (.int l4), some (.int l5), some (.int l6), some (.int l7), some (.int l8), some (.int l9), some (.int l10), some (.int l11), some (.int l12), none, none, none, some (.int l16), some (.int l17), none] [] M Q := by
  unfold b143_243 at hQ
  unfold p143_243 at hp
  refine wp_go 2 (pc' := 248) (L' := [some (.ref l0), some (.int l1), some (.int l2), some (.int l3), some (.int l4), some (.int l5), some (.int l6), some (.int l7), some (.int l8), some (.int l9), some (.int l10), some (.int l11), some (.int l12), none, none, none, some (.int l16), some (.int l17), none]) (st' := [.int (1 : Int32)]) (M' := M) rfl ?_
  exact s143_248 n k111 q111 h111 l0 l1 l2 l3 l4 l5 l6 l7 l8 l9 l10 l11 l12 l16 l17 (1 : Int32) M hp hQ
def b143_198 (n : Nat) (k111 : Nat → Int32 → Int32 → Int32 → Int32 → Int32 → Int32 → Int32 → Int32 → Int32 → Int32 → Int32 → Int32 → Int32 → zM → zM) (l0 : Nat) (l1 : Int32) (l2 : Int32) (l3 : Int32) (l4 : Int32) (l5 : Int32) (l6 : Int32) (l7 : Int32) (l8 : Int32) (l9 : Int32) (l10 : Int32) (l11 : Int32) (l12 : Int32) (l16 : Int32) (l17 : Int32) (s0 : Int32) (M : zM) : zM := (if s0 = 0 then b143_247 n k111 l0 l1 l2 l3 l4 l5 l6 l7 l8 l9 l10 l11 l12 l16 l17 M else (if 0 ≤ (zI M (zQ M l0 10) l16.toNatClampNeg) then b143_247 n k111 l0 l1 l2 l3 l4 l5 l6 l7 l8 l9 l10 l11 l12 l16 l17 M else (if 0 ≤ (zI M (zQ M l0 10) l17.toNatClampNeg) then b143_247 n k111 l0 l1 l2 l3 l4 l5 l6 l7 l8 l9 l10 l11 l12 l16 l17 M else (if l8 = 0 then b143_243 n k111 l0 l1 l2 l3 l4 l5 l6 l7 l8 l9 l10 l11 l12 l16 l17 M else (if (zI M (zQ M l0 9) l16.toNatClampNeg) = (zI M (zQ M l0 9) l17.toNatClampNeg) then b143_243 n k111 l0 l1 l2 l3 l4 l5 l6 l7 l8 l9 l10 l11 l12 l16 l17 M else b143_247 n k111 l0 l1 l2 l3 l4 l5 l6 l7 l8 l9 l10 l11 l12 l16 l17 M)))))
def p143_198 (n : Nat) (q111 : Nat → Int32 → Int32 → Int32 → Int32 → Int32 → Int32 → Int32 → Int32 → Int32 → Int32 → Int32 → Int32 → Int32 → zM → Prop) (l0 : Nat) (l1 : Int32) (l2 : Int32) (l3 : Int32) (l4 : Int32) (l5 : Int32) (l6 : Int32) (l7 : Int32) (l8 : Int32) (l9 : Int32) (l10 : Int32) (l11 : Int32) (l12 : Int32) (l16 : Int32) (l17 : Int32) (s0 : Int32) (M : zM) : Prop := ((s0 = 0 → p143_247 n q111 l0 l1 l2 l3 l4 l5 l6 l7 l8 l9 l10 l11 l12 l16 l17 M) ∧ (¬ s0 = 0 → (zHasQ 10 38 l0 M 10) ∧ ((zOkI (zQ M l0 10) l16 M) ∧ (((0 ≤ (zI M (zQ M l0 10) l16.toNatClampNeg) → p143_247 n q111 l0 l1 l2 l3 l4 l5 l6 l7 l8 l9 l10 l11 l12 l16 l17 M) ∧ (¬ 0 ≤ (zI M (zQ M l0 10) l16.toNatClampNeg) → (zHasQ 10 38 l0 M 10) ∧ ((zOkI (zQ M l0 10) l17 M) ∧ (((0 ≤ (zI M (zQ M l0 10) l17.toNatClampNeg) → p143_247 n q111 l0 l1 l2 l3 l4 l5 l6 l7 l8 l9 l10 l11 l12 l16 l17 M) ∧ (¬ 0 ≤ (zI M (zQ M l0 10) l17.toNatClampNeg) → ((l8 = 0 → p143_243 n q111 l0 l1 l2 l3 l4 l5 l6 l7 l8 l9 l10 l11 l12 l16 l17 M) ∧ (¬ l8 = 0 → (zHasQ 10 35 l0 M 9) ∧ ((zOkI (zQ M l0 9) l16 M) ∧ ((zHasQ 10 35 l0 M 9) ∧ ((zOkI (zQ M l0 9) l17 M) ∧ ((((zI M (zQ M l0 9) l16.toNatClampNeg) = (zI M (zQ M l0 9) l17.toNatClampNeg) → p143_243 n q111 l0 l1 l2 l3 l4 l5 l6 l7 l8 l9 l10 l11 l12 l16 l17 M) ∧ (¬ (zI M (zQ M l0 9) l16.toNatClampNeg) = (zI M (zQ M l0 9) l17.toNatClampNeg) → p143_247 n q111 l0 l1 l2 l3 l4 l5 l6 l7 l8 l9 l10 l11 l12 l16 l17 M))))))))))))))))))
theorem s143_198 (n : Nat) (k111 : Nat → Int32 → Int32 → Int32 → Int32 → Int32 → Int32 → Int32 → Int32 → Int32 → Int32 → Int32 → Int32 → Int32 → zM → zM) (q111 : Nat → Int32 → Int32 → Int32 → Int32 → Int32 → Int32 → Int32 → Int32 → Int32 → Int32 → Int32 → Int32 → Int32 → zM → Prop) (h111 : ∀ (l0 : Nat) (l1 : Int32) (l2 : Int32) (l3 : Int32) (l4 : Int32) (l5 : Int32) (l6 : Int32) (l7 : Int32) (l8 : Int32) (l9 : Int32) (l10 : Int32) (l11 : Int32) (l12 : Int32) (l13 : Int32) (M : zM), q111 l0 l1 l2 l3 l4 l5 l6 l7 l8 l9 l10 l11 l12 l13 M → ∀ {Q : Option Value → zM → Prop}, (∀ r M1, zRV (k111 l0 l1 l2 l3 l4 l5 l6 l7 l8 l9 l10 l11 l12 l13 M) r M1 → Q r M1) → zWP 143 111 [some (.ref l0), some (.int l1), some (.int l2), some (.int l3), some (.int l4), some (.int l5), some (.int l6), some (.int l7), some (.int l8), some (.int l9), some (.int l10), some (.int l11), some (.int l12), some (.int l13), none, none, none, none, none] [] M Q) (l0 : Nat) (l1 : Int32) (l2 : Int32) (l3 : Int32) (l4 : Int32) (l5 : Int32) (l6 : Int32) (l7 : Int32) (l8 : Int32) (l9 : Int32) (l10 : Int32) (l11 : Int32) (l12 : Int32) (l16 : Int32) (l17 : Int32) (s0 : Int32) (M : zM) (hp : p143_198 n q111 l0 l1 l2 l3 l4 l5 l6 l7 l8 l9 l10 l11 l12 l16 l17 s0 M) {Q : Option Value → zM → Prop} (hQ : ∀ r M1, zRV (b143_198 n k111 l0 l1 l2 l3 l4 l5 l6 l7 l8 l9 l10 l11 l12 l16 l17 s0 M) r M1 → Q r M1) : zWP 143 198 [some (.ref l0), some (.int l1), some (.int l2), some (.int l3), some (.int l4), some (.int l5), some (.int l6), some (.int l7), some (.int l8), some (.int l9), some (.int l10), some (.int l11), some (.int l12), none, none, none, some (.int l16), some (.int l17), none] [.int s0] M Q := by
  unfold b143_198 at hQ
  unfold p143_198 at hp
  refine wp_if_eq (t := 247) rfl rfl (fun hc => ?_) (fun hc => ?_)
  · rw [if_pos hc] at hQ
    replace hp := hp.1 hc
    exact s143_247 n k111 q111 h111 l0 l1 l2 l3 l4 l5 l6 l7 l8 l9 l10 l11 l12 l16 l17 M hp hQ
  · rw [if_neg hc] at hQ
    replace hp := hp.2 hc
    refine wp_go 1 (pc' := 202) (L' := [some (.ref l0), some (.int l1), some (.int l2), some (.int l3), some (.int l4), some (.int l5), some (.int l6), some (.int l7), some (.int l8), some (.int l9), some (.int l10), some (.int l11), some (.int l12), none, none, none, some (.int l16), some (.int l17), none]) (st' := [.ref l0]) (M' := M) rfl ?_
    obtain ⟨hc, hp⟩ := hp
    refine wq_getQ (j := 10) rfl hc ?_
    refine wp_go 1 (pc' := 207) (L' := [some (.ref l0), some (.int l1), some (.int l2), some (.int l3), some (.int l4), some (.int l5), some (.int l6), some (.int l7), some (.int l8), some (.int l9), some (.int l10), some (.int l11), some (.int l12), none, none, none, some (.int l16), some (.int l17), none]) (st' := [.int l16, .ref (zQ M l0 10)]) (M' := M) rfl ?_
    obtain ⟨hc, hp⟩ := hp
    refine wq_iald rfl hc ?_
    refine wp_if_ge (t := 247) rfl rfl (fun hc => ?_) (fun hc => ?_)
    · rw [if_pos hc] at hQ
      replace hp := hp.1 hc
      exact s143_247 n k111 q111 h111 l0 l1 l2 l3 l4 l5 l6 l7 l8 l9 l10 l11 l12 l16 l17 M hp hQ
    · rw [if_neg hc] at hQ
      replace hp := hp.2 hc
      refine wp_go 1 (pc' := 212) (L' := [some (.ref l0), some (.int l1), some (.int l2), some (.int l3), some (.int l4), some (.int l5), some (.int l6), some (.int l7), some (.int l8), some (.int l9), some (.int l10), some (.int l11), some (.int l12), none, none, none, some (.int l16), some (.int l17), none]) (st' := [.ref l0]) (M' := M) rfl ?_
      obtain ⟨hc, hp⟩ := hp
      refine wq_getQ (j := 10) rfl hc ?_
      refine wp_go 1 (pc' := 217) (L' := [some (.ref l0), some (.int l1), some (.int l2), some (.int l3), some (.int l4), some (.int l5), some (.int l6), some (.int l7), some (.int l8), some (.int l9), some (.int l10), some (.int l11), some (.int l12), none, none, none, some (.int l16), some (.int l17), none]) (st' := [.int l17, .ref (zQ M l0 10)]) (M' := M) rfl ?_
      obtain ⟨hc, hp⟩ := hp
      refine wq_iald rfl hc ?_
      refine wp_if_ge (t := 247) rfl rfl (fun hc => ?_) (fun hc => ?_)
      · rw [if_pos hc] at hQ
        replace hp := hp.1 hc
        exact s143_247 n k111 q111 h111 l0 l1 l2 l3 l4 l5 l6 l7 l8 l9 l10 l11 l12 l16 l17 M hp hQ
      · rw [if_neg hc] at hQ
        replace hp := hp.2 hc
        refine wp_go 1 (pc' := 223) (L' := [some (.ref l0), some (.int l1), some (.int l2), some (.int l3), some (.int l4), some (.int l5), some (.int l6), some (.int l7), some (.int l8), some (.int l9), some (.int l10), some (.int l11), some (.int l12), none, none, none, some (.int l16), some (.int l17), none]) (st' := [.int l8]) (M' := M) rfl ?_
        refine wp_if_eq (t := 243) rfl rfl (fun hc => ?_) (fun hc => ?_)
        · rw [if_pos hc] at hQ
          replace hp := hp.1 hc
          exact s143_243 n k111 q111 h111 l0 l1 l2 l3 l4 l5 l6 l7 l8 l9 l10 l11 l12 l16 l17 M hp hQ
        · rw [if_neg hc] at hQ
          replace hp := hp.2 hc
          refine wp_go 1 (pc' := 227) (L' := [some (.ref l0), some (.int l1), some (.int l2), some (.int l3), some (.int l4), some (.int l5), some (.int l6), some (.int l7), some (.int l8), some (.int l9), some (.int l10), some (.int l11), some (.int l12), none, none, none, some (.int l16), some (.int l17), none]) (st' := [.ref l0]) (M' := M) rfl ?_
          obtain ⟨hc, hp⟩ := hp
          refine wq_getQ (j := 9) rfl hc ?_
          refine wp_go 1 (pc' := 232) (L' := [some (.ref l0), some (.int l1), some (.int l2), some (.int l3), some (.int l4), some (.int l5), some (.int l6), some (.int l7), some (.int l8), some (.int l9), some (.int l10), some (.int l11), some (.int l12), none, none, none, some (.int l16), some (.int l17), none]) (st' := [.int l16, .ref (zQ M l0 9)]) (M' := M) rfl ?_
          obtain ⟨hc, hp⟩ := hp
          refine wq_iald rfl hc ?_
          refine wp_go 1 (pc' := 234) (L' := [some (.ref l0), some (.int l1), some (.int l2), some (.int l3), some (.int l4), some (.int l5), some (.int l6), some (.int l7), some (.int l8), some (.int l9), some (.int l10), some (.int l11), some (.int l12), none, none, none, some (.int l16), some (.int l17), none]) (st' := [.ref l0, .int (zI M (zQ M l0 9) l16.toNatClampNeg)]) (M' := M) rfl ?_
          obtain ⟨hc, hp⟩ := hp
          refine wq_getQ (j := 9) rfl hc ?_
          refine wp_go 1 (pc' := 239) (L' := [some (.ref l0), some (.int l1), some (.int l2), some (.int l3), some (.int l4), some (.int l5), some (.int l6), some (.int l7), some (.int l8), some (.int l9), some (.int l10), some (.int l11), some (.int l12), none, none, none, some (.int l16), some (.int l17), none]) (st' := [.int l17, .ref (zQ M l0 9), .int (zI M (zQ M l0 9) l16.toNatClampNeg)]) (M' := M) rfl ?_
          obtain ⟨hc, hp⟩ := hp
          refine wq_iald rfl hc ?_
          refine wp_ic_ne (t := 247) rfl rfl (fun hc => ?_) (fun hc => ?_)
          · rw [if_neg hc] at hQ
            replace hp := hp.2 hc
            exact s143_247 n k111 q111 h111 l0 l1 l2 l3 l4 l5 l6 l7 l8 l9 l10 l11 l12 l16 l17 M hp hQ
          · rw [if_pos hc] at hQ
            replace hp := hp.1 hc
            exact s143_243 n k111 q111 h111 l0 l1 l2 l3 l4 l5 l6 l7 l8 l9 l10 l11 l12 l16 l17 M hp hQ
def b143_188 (n : Nat) (k111 : Nat → Int32 → Int32 → Int32 → Int32 → Int32 → Int32 → Int32 → Int32 → Int32 → Int32 → Int32 → Int32 → Int32 → zM → zM) (l0 : Nat) (l1 : Int32) (l2 : Int32) (l3 : Int32) (l4 : Int32) (l5 : Int32) (l6 : Int32) (l7 : Int32) (l8 : Int32) (l9 : Int32) (l10 : Int32) (l11 : Int32) (l12 : Int32) (l15 : Int32) (l16 : Int32) (l17 : Int32) (s0 : Int32) (M : zM) : zM := (if s0 = 0 then b143_247 n k111 l0 l1 l2 l3 l4 l5 l6 l7 l8 l9 l10 l11 l12 l16 l17 M else b143_198 n k111 l0 l1 l2 l3 l4 l5 l6 l7 l8 l9 l10 l11 l12 l16 l17 (b134_0 n l0 l3 l15 M).1 (b134_0 n l0 l3 l15 M).2)
def p143_188 (n : Nat) (q111 : Nat → Int32 → Int32 → Int32 → Int32 → Int32 → Int32 → Int32 → Int32 → Int32 → Int32 → Int32 → Int32 → Int32 → zM → Prop) (l0 : Nat) (l1 : Int32) (l2 : Int32) (l3 : Int32) (l4 : Int32) (l5 : Int32) (l6 : Int32) (l7 : Int32) (l8 : Int32) (l9 : Int32) (l10 : Int32) (l11 : Int32) (l12 : Int32) (l15 : Int32) (l16 : Int32) (l17 : Int32) (s0 : Int32) (M : zM) : Prop := ((s0 = 0 → p143_247 n q111 l0 l1 l2 l3 l4 l5 l6 l7 l8 l9 l10 l11 l12 l16 l17 M) ∧ (¬ s0 = 0 → (zHasC 143 199 l0 M 134 2) ∧ ((p134_0 n l0 l3 l15 M) ∧ (p143_198 n q111 l0 l1 l2 l3 l4 l5 l6 l7 l8 l9 l10 l11 l12 l16 l17 (b134_0 n l0 l3 l15 M).1 (b134_0 n l0 l3 l15 M).2))))
theorem s143_188 (n : Nat) (k111 : Nat → Int32 → Int32 → Int32 → Int32 → Int32 → Int32 → Int32 → Int32 → Int32 → Int32 → Int32 → Int32 → Int32 → zM → zM) (q111 : Nat → Int32 → Int32 → Int32 → Int32 → Int32 → Int32 → Int32 → Int32 → Int32 → Int32 → Int32 → Int32 → Int32 → zM → Prop) (h111 : ∀ (l0 : Nat) (l1 : Int32) (l2 : Int32) (l3 : Int32) (l4 : Int32) (l5 : Int32) (l6 : Int32) (l7 : Int32) (l8 : Int32) (l9 : Int32) (l10 : Int32) (l11 : Int32) (l12 : Int32) (l13 : Int32) (M : zM), q111 l0 l1 l2 l3 l4 l5 l6 l7 l8 l9 l10 l11 l12 l13 M → ∀ {Q : Option Value → zM → Prop}, (∀ r M1, zRV (k111 l0 l1 l2 l3 l4 l5 l6 l7 l8 l9 l10 l11 l12 l13 M) r M1 → Q r M1) → zWP 143 111 [some (.ref l0), some (.int l1), some (.int l2), some (.int l3), some (.int l4), some (.int l5), some (.int l6), some (.int l7), some (.int l8), some (.int l9), some (.int l10), some (.int l11), some (.int l12), some (.int l13), none, none, none, none, none] [] M Q) (l0 : Nat) (l1 : Int32) (l2 : Int32) (l3 : Int32) (l4 : Int32) (l5 : Int32) (l6 : Int32) (l7 : Int32) (l8 : Int32) (l9 : Int32) (l10 : Int32) (l11 : Int32) (l12 : Int32) (l15 : Int32) (l16 : Int32) (l17 : Int32) (s0 : Int32) (M : zM) (hp : p143_188 n q111 l0 l1 l2 l3 l4 l5 l6 l7 l8 l9 l10 l11 l12 l15 l16 l17 s0 M) {Q : Option Value → zM → Prop} (hQ : ∀ r M1, zRV (b143_188 n k111 l0 l1 l2 l3 l4 l5 l6 l7 l8 l9 l10 l11 l12 l15 l16 l17 s0 M) r M1 → Q r M1) : zWP 143 188 [some (.ref l0), some (.int l1), some (.int l2), some (.int l3), some (.int l4), some (.int l5), some (.int l6), some (.int l7), some (.int l8), some (.int l9), some (.int l10), some (.int l11), some (.int l12), none, none, some (.int l15), some (.int l16), some (.int l17), none] [.int s0] M Q := by
  unfold b143_188 at hQ
  unfold p143_188 at hp
  refine wp_if_eq (t := 247) rfl rfl (fun hc => ?_) (fun hc => ?_)
  · rw [if_pos hc] at hQ
    replace hp := hp.1 hc
    refine wp_le [some (.ref l0), some (.int l1), some (.int l2), some (.int l3), some (.int l4), some (.int l5), some (.int l6), some (.int l7), some (.int l8), some (.int l9), some (.int l10), some (.int l11), some (.int l12), none, none, none, some (.int l16), some (.int l17), none] (zLe_of (by simp [zLeB])) ?_
    exact s143_247 n k111 q111 h111 l0 l1 l2 l3 l4 l5 l6 l7 l8 l9 l10 l11 l12 l16 l17 M hp hQ
  · rw [if_neg hc] at hQ
    replace hp := hp.2 hc
    refine wp_go 3 (pc' := 195) (L' := [some (.ref l0), some (.int l1), some (.int l2), some (.int l3), some (.int l4), some (.int l5), some (.int l6), some (.int l7), some (.int l8), some (.int l9), some (.int l10), some (.int l11), some (.int l12), none, none, some (.int l15), some (.int l16), some (.int l17), none]) (st' := [.int l15, .int l3, .ref l0]) (M' := M) rfl ?_
    obtain ⟨hv, hp⟩ := hp
    obtain ⟨hc, hp⟩ := hp
    refine wp_calli (v := (b134_0 n l0 l3 l15 M).1) (M1 := (b134_0 n l0 l3 l15 M).2) rfl rfl rfl (zInv_v (np := 2) rfl rfl hv rfl) (s134_0 n l0 l3 l15 M hc (fun r M1 h => h)) ?_
    refine wp_le [some (.ref l0), some (.int l1), some (.int l2), some (.int l3), some (.int l4), some (.int l5), some (.int l6), some (.int l7), some (.int l8), some (.int l9), some (.int l10), some (.int l11), some (.int l12), none, none, none, some (.int l16), some (.int l17), none] (zLe_of (by simp [zLeB])) ?_
    exact s143_198 n k111 q111 h111 l0 l1 l2 l3 l4 l5 l6 l7 l8 l9 l10 l11 l12 l16 l17 (b134_0 n l0 l3 l15 M).1 (b134_0 n l0 l3 l15 M).2 hp hQ
def c143_111 (n : Nat) (k111 : Nat → Int32 → Int32 → Int32 → Int32 → Int32 → Int32 → Int32 → Int32 → Int32 → Int32 → Int32 → Int32 → Int32 → zM → zM) (l0 : Nat) (l1 : Int32) (l2 : Int32) (l3 : Int32) (l4 : Int32) (l5 : Int32) (l6 : Int32) (l7 : Int32) (l8 : Int32) (l9 : Int32) (l10 : Int32) (l11 : Int32) (l12 : Int32) (l13 : Int32) (M : zM) : zM := (if l13 = 0 then b143_435 n  l0 l11 l12 M else (if l7 ≤ (zI M l0 27) then b143_435 n  l0 l11 l12 M else b143_188 n k111 l0 l1 l2 l3 l4 l5 l6 l7 l8 l9 l10 l11 l12 (((l4 - (zI M l0 27)) + (zI M (zQ M l0 2) l3.toNatClampNeg)) - ((l4 - (zI M l0 27)) + (zI M (zQ M l0 2) l3.toNatClampNeg)) / (zI M (zQ M l0 2) l3.toNatClampNeg) * (zI M (zQ M l0 2) l3.toNatClampNeg)) (((20 : Int32) * l1) + ((l2 + (zI M l0 27)) - (l2 + (zI M l0 27)) / (zI M (zQ M l0 2) l1.toNatClampNeg) * (zI M (zQ M l0 2) l1.toNatClampNeg))) (((20 : Int32) * l3) + (((l4 - (zI M l0 27)) + (zI M (zQ M l0 2) l3.toNatClampNeg)) - ((l4 - (zI M l0 27)) + (zI M (zQ M l0 2) l3.toNatClampNeg)) / (zI M (zQ M l0 2) l3.toNatClampNeg) * (zI M (zQ M l0 2) l3.toNatClampNeg))) (b134_0 n l0 l1 ((l2 + (zI M l0 27)) - (l2 + (zI M l0 27)) / (zI M (zQ M l0 2) l1.toNatClampNeg) * (zI M (zQ M l0 2) l1.toNatClampNeg)) M).1 (b134_0 n l0 l1 ((l2 + (zI M l0 27)) - (l2 + (zI M l0 27)) / (zI M (zQ M l0 2) l1.toNatClampNeg) * (zI M (zQ M l0 2) l1.toNatClampNeg)) M).2))
def d143_111 (n : Nat) (q111 : Nat → Int32 → Int32 → Int32 → Int32 → Int32 → Int32 → Int32 → Int32 → Int32 → Int32 → Int32 → Int32 → Int32 → zM → Prop) (l0 : Nat) (l1 : Int32) (l2 : Int32) (l3 : Int32) (l4 : Int32) (l5 : Int32) (l6 : Int32) (l7 : Int32) (l8 : Int32) (l9 : Int32) (l10 : Int32) (l11 : Int32) (l12 : Int32) (l13 : Int32) (M : zM) : Prop := ((l13 = 0 → p143_435 n  l0 l11 l12 M) ∧ (¬ l13 = 0 → (zHasI 10 208 l0 M 27) ∧ (((l7 ≤ (zI M l0 27) → p143_435 n  l0 l11 l12 M) ∧ (¬ l7 ≤ (zI M l0 27) → (zHasI 10 208 l0 M 27) ∧ ((zHasQ 10 13 l0 M 2) ∧ ((zOkI (zQ M l0 2) l1 M) ∧ ((¬ (zI M (zQ M l0 2) l1.toNatClampNeg) = 0) ∧ ((zHasI 10 208 l0 M 27) ∧ ((zHasQ 10 13 l0 M 2) ∧ ((zOkI (zQ M l0 2) l3 M) ∧ ((zHasQ 10 13 l0 M 2) ∧ ((zOkI (zQ M l0 2) l3 M) ∧ ((¬ (zI M (zQ M l0 2) l3.toNatClampNeg) = 0) ∧ ((zHasC 143 199 l0 M 134 2) ∧ ((p134_0 n l0 l1 ((l2 + (zI M l0 27)) - (l2 + (zI M l0 27)) / (zI M (zQ M l0 2) l1.toNatClampNeg) * (zI M (zQ M l0 2) l1.toNatClampNeg)) M) ∧ (p143_188 n q111 l0 l1 l2 l3 l4 l5 l6 l7 l8 l9 l10 l11 l12 (((l4 - (zI M l0 27)) + (zI M (zQ M l0 2) l3.toNatClampNeg)) - ((l4 - (zI M l0 27)) + (zI M (zQ M l0 2) l3.toNatClampNeg)) / (zI M (zQ M l0 2) l3.toNatClampNeg) * (zI M (zQ M l0 2) l3.toNatClampNeg)) (((20 : Int32) * l1) + ((l2 + (zI M l0 27)) - (l2 + (zI M l0 27)) / (zI M (zQ M l0 2) l1.toNatClampNeg) * (zI M (zQ M l0 2) l1.toNatClampNeg))) (((20 : Int32) * l3) + (((l4 - (zI M l0 27)) + (zI M (zQ M l0 2) l3.toNatClampNeg)) - ((l4 - (zI M l0 27)) + (zI M (zQ M l0 2) l3.toNatClampNeg)) / (zI M (zQ M l0 2) l3.toNatClampNeg) * (zI M (zQ M l0 2) l3.toNatClampNeg))) (b134_0 n l0 l1 ((l2 + (zI M l0 27)) - (l2 + (zI M l0 27)) / (zI M (zQ M l0 2) l1.toNatClampNeg) * (zI M (zQ M l0 2) l1.toNatClampNeg)) M).1 (b134_0 n l0 l1 ((l2 + (zI M l0 27)) - (l2 + (zI M l0 27)) / (zI M (zQ M l0 2) l1.toNatClampNeg) * (zI M (zQ M l0 2) l1.toNatClampNeg)) M).2)))))))))))))))))
theorem t143_111 (n : Nat) (k111 : Nat → Int32 → Int32 → Int32 → Int32 → Int32 → Int32 → Int32 → Int32 → Int32 → Int32 → Int32 → Int32 → Int32 → zM → zM) (q111 : Nat → Int32 → Int32 → Int32 → Int32 → Int32 → Int32 → Int32 → Int32 → Int32 → Int32 → Int32 → Int32 → Int32 → zM → Prop) (h111 : ∀ (l0 : Nat) (l1 : Int32) (l2 : Int32) (l3 : Int32) (l4 : Int32) (l5 : Int32) (l6 : Int32) (l7 : Int32) (l8 : Int32) (l9 : Int32) (l10 : Int32) (l11 : Int32) (l12 : Int32) (l13 : Int32) (M : zM), q111 l0 l1 l2 l3 l4 l5 l6 l7 l8 l9 l10 l11 l12 l13 M → ∀ {Q : Option Value → zM → Prop}, (∀ r M1, zRV (k111 l0 l1 l2 l3 l4 l5 l6 l7 l8 l9 l10 l11 l12 l13 M) r M1 → Q r M1) → zWP 143 111 [some (.ref l0), some (.int l1), some (.int l2), some (.int l3), some (.int l4), some (.int l5), some (.int l6), some (.int l7), some (.int l8), some (.int l9), some (.int l10), some (.int l11), some (.int l12), some (.int l13), none, none, none, none, none] [] M Q) (l0 : Nat) (l1 : Int32) (l2 : Int32) (l3 : Int32) (l4 : Int32) (l5 : Int32) (l6 : Int32) (l7 : Int32) (l8 : Int32) (l9 : Int32) (l10 : Int32) (l11 : Int32) (l12 : Int32) (l13 : Int32) (M : zM) (hp : d143_111 n q111 l0 l1 l2 l3 l4 l5 l6 l7 l8 l9 l10 l11 l12 l13 M) {Q : Option Value → zM → Prop} (hQ : ∀ r M1, zRV (c143_111 n k111 l0 l1 l2 l3 l4 l5 l6 l7 l8 l9 l10 l11 l12 l13 M) r M1 → Q r M1) : zWP 143 111 [some (.ref l0), some (.int l1), some (.int l2), some (.int l3), some (.int l4), some (.int l5), some (.int l6), some (.int l7), some (.int l8), some (.int l9), some (.int l10), some (.int l11), some (.int l12), some (.int l13), none, none, none, none, none] [] M Q := by
  unfold c143_111 at hQ
  unfold d143_111 at hp
  refine wp_go 1 (pc' := 113) (L' := [some (.ref l0), some (.int l1), some (.int l2), some (.int l3), some (.int l4), some (.int l5), some (.int l6), some (.int l7), some (.int l8), some (.int l9), some (.int l10), some (.int l11), some (.int l12), some (.int l13), none, none, none, none, none]) (st' := [.int l13]) (M' := M) rfl ?_
  refine wp_if_eq (t := 435) rfl rfl (fun hc => ?_) (fun hc => ?_)
  · rw [if_pos hc] at hQ
    replace hp := hp.1 hc
    refine wp_le [some (.ref l0), none, none, none, none, none, none, none, none, none, none, some (.int l11), some (.int l12), none, none, none, none, none, none] (zLe_of (by simp [zLeB])) ?_
    exact s143_435 n    l0 l11 l12 M hp hQ
  · rw [if_neg hc] at hQ
    replace hp := hp.2 hc
    refine wp_go 1 (pc' := 117) (L' := [some (.ref l0), some (.int l1), some (.int l2), some (.int l3), some (.int l4), some (.int l5), some (.int l6), some (.int l7), some (.int l8), some (.int l9), some (.int l10), some (.int l11), some (.int l12), some (.int l13), none, none, none, none, none]) (st' := [.ref l0]) (M' := M) rfl ?_
    obtain ⟨hc, hp⟩ := hp
    refine wq_getI (j := 27) rfl hc ?_
    refine wp_go 1 (pc' := 122) (L' := [some (.ref l0), some (.int l1), some (.int l2), some (.int l3), some (.int l4), some (.int l5), some (.int l6), some (.int l7), some (.int l8), some (.int l9), some (.int l10), some (.int l11), some (.int l12), some (.int l13), none, none, none, none, none]) (st' := [.int l7, .int (zI M l0 27)]) (M' := M) rfl ?_
    refine wp_ic_ge (t := 435) rfl rfl (fun hc => ?_) (fun hc => ?_)
    · rw [if_pos hc] at hQ
      replace hp := hp.1 hc
      refine wp_le [some (.ref l0), none, none, none, none, none, none, none, none, none, none, some (.int l11), some (.int l12), none, none, none, none, none, none] (zLe_of (by simp [zLeB])) ?_
      exact s143_435 n    l0 l11 l12 M hp hQ
    · rw [if_neg hc] at hQ
      replace hp := hp.2 hc
      refine wp_go 2 (pc' := 127) (L' := [some (.ref l0), some (.int l1), some (.int l2), some (.int l3), some (.int l4), some (.int l5), some (.int l6), some (.int l7), some (.int l8), some (.int l9), some (.int l10), some (.int l11), some (.int l12), some (.int l13), none, none, none, none, none]) (st' := [.ref l0, .int l2]) (M' := M) rfl ?_
      obtain ⟨hc, hp⟩ := hp
      refine wq_getI (j := 27) rfl hc ?_
      refine wp_go 2 (pc' := 132) (L' := [some (.ref l0), some (.int l1), some (.int l2), some (.int l3), some (.int l4), some (.int l5), some (.int l6), some (.int l7), some (.int l8), some (.int l9), some (.int l10), some (.int l11), some (.int l12), some (.int l13), none, none, none, none, none]) (st' := [.ref l0, .int (l2 + (zI M l0 27))]) (M' := M) rfl ?_
      obtain ⟨hc, hp⟩ := hp
      refine wq_getQ (j := 2) rfl hc ?_
      refine wp_go 1 (pc' := 136) (L' := [some (.ref l0), some (.int l1), some (.int l2), some (.int l3), some (.int l4), some (.int l5), some (.int l6), some (.int l7), some (.int l8), some (.int l9), some (.int l10), some (.int l11), some (.int l12), some (.int l13), none, none, none, none, none]) (st' := [.int l1, .ref (zQ M l0 2), .int (l2 + (zI M l0 27))]) (M' := M) rfl ?_
      obtain ⟨hc, hp⟩ := hp
      refine wq_iald rfl hc ?_
      obtain ⟨hc, hp⟩ := hp
      refine wq_irem rfl hc ?_
      refine wp_go 3 (pc' := 143) (L' := [some (.ref l0), some (.int l1), some (.int l2), some (.int l3), some (.int l4), some (.int l5), some (.int l6), some (.int l7), some (.int l8), some (.int l9), some (.int l10), some (.int l11), some (.int l12), some (.int l13), some (.int ((l2 + (zI M l0 27)) - (l2 + (zI M l0 27)) / (zI M (zQ M l0 2) l1.toNatClampNeg) * (zI M (zQ M l0 2) l1.toNatClampNeg))), none, none, none, none]) (st' := [.ref l0, .int l4]) (M' := M) rfl ?_
      obtain ⟨hc, hp⟩ := hp
      refine wq_getI (j := 27) rfl hc ?_
      refine wp_go 2 (pc' := 148) (L' := [some (.ref l0), some (.int l1), some (.int l2), some (.int l3), some (.int l4), some (.int l5), some (.int l6), some (.int l7), some (.int l8), some (.int l9), some (.int l10), some (.int l11), some (.int l12), some (.int l13), some (.int ((l2 + (zI M l0 27)) - (l2 + (zI M l0 27)) / (zI M (zQ M l0 2) l1.toNatClampNeg) * (zI M (zQ M l0 2) l1.toNatClampNeg))), none, none, none, none]) (st' := [.ref l0, .int (l4 - (zI M l0 27))]) (M' := M) rfl ?_
      obtain ⟨hc, hp⟩ := hp
      refine wq_getQ (j := 2) rfl hc ?_
      refine wp_go 1 (pc' := 152) (L' := [some (.ref l0), some (.int l1), some (.int l2), some (.int l3), some (.int l4), some (.int l5), some (.int l6), some (.int l7), some (.int l8), some (.int l9), some (.int l10), some (.int l11), some (.int l12), some (.int l13), some (.int ((l2 + (zI M l0 27)) - (l2 + (zI M l0 27)) / (zI M (zQ M l0 2) l1.toNatClampNeg) * (zI M (zQ M l0 2) l1.toNatClampNeg))), none, none, none, none]) (st' := [.int l3, .ref (zQ M l0 2), .int (l4 - (zI M l0 27))]) (M' := M) rfl ?_
      obtain ⟨hc, hp⟩ := hp
      refine wq_iald rfl hc ?_
      refine wp_go 2 (pc' := 155) (L' := [some (.ref l0), some (.int l1), some (.int l2), some (.int l3), some (.int l4), some (.int l5), some (.int l6), some (.int l7), some (.int l8), some (.int l9), some (.int l10), some (.int l11), some (.int l12), some (.int l13), some (.int ((l2 + (zI M l0 27)) - (l2 + (zI M l0 27)) / (zI M (zQ M l0 2) l1.toNatClampNeg) * (zI M (zQ M l0 2) l1.toNatClampNeg))), none, none, none, none]) (st' := [.ref l0, .int ((l4 - (zI M l0 27)) + (zI M (zQ M l0 2) l3.toNatClampNeg))]) (M' := M) rfl ?_
      obtain ⟨hc, hp⟩ := hp
      refine wq_getQ (j := 2) rfl hc ?_
      refine wp_go 1 (pc' := 159) (L' := [some (.ref l0), some (.int l1), some (.int l2), some (.int l3), some (.int l4), some (.int l5), some (.int l6), some (.int l7), some (.int l8), some (.int l9), some (.int l10), some (.int l11), some (.int l12), some (.int l13), some (.int ((l2 + (zI M l0 27)) - (l2 + (zI M l0 27)) / (zI M (zQ M l0 2) l1.toNatClampNeg) * (zI M (zQ M l0 2) l1.toNatClampNeg))), none, none, none, none]) (st' := [.int l3, .ref (zQ M l0 2), .int ((l4 - (zI M l0 27)) + (zI M (zQ M l0 2) l3.toNatClampNeg))]) (M' := M) rfl ?_
      obtain ⟨hc, hp⟩ := hp
      refine wq_iald rfl hc ?_
      obtain ⟨hc, hp⟩ := hp
      refine wq_irem rfl hc ?_
      refine wp_go 5 (pc' := 169) (L' := [some (.ref l0), some (.int l1), some (.int l2), some (.int l3), some (.int l4), some (.int l5), some (.int l6), some (.int l7), some (.int l8), some (.int l9), some (.int l10), some (.int l11), some (.int l12), some (.int l13), some (.int ((l2 + (zI M l0 27)) - (l2 + (zI M l0 27)) / (zI M (zQ M l0 2) l1.toNatClampNeg) * (zI M (zQ M l0 2) l1.toNatClampNeg))), some (.int (((l4 - (zI M l0 27)) + (zI M (zQ M l0 2) l3.toNatClampNeg)) - ((l4 - (zI M l0 27)) + (zI M (zQ M l0 2) l3.toNatClampNeg)) / (zI M (zQ M l0 2) l3.toNatClampNeg) * (zI M (zQ M l0 2) l3.toNatClampNeg))), none, none, none]) (st' := [.int ((l2 + (zI M l0 27)) - (l2 + (zI M l0 27)) / (zI M (zQ M l0 2) l1.toNatClampNeg) * (zI M (zQ M l0 2) l1.toNatClampNeg)), .int ((20 : Int32) * l1)]) (M' := M) rfl ?_
      refine wp_go 5 (pc' := 176) (L' := [some (.ref l0), some (.int l1), some (.int l2), some (.int l3), some (.int l4), some (.int l5), some (.int l6), some (.int l7), some (.int l8), some (.int l9), some (.int l10), some (.int l11), some (.int l12), some (.int l13), some (.int ((l2 + (zI M l0 27)) - (l2 + (zI M l0 27)) / (zI M (zQ M l0 2) l1.toNatClampNeg) * (zI M (zQ M l0 2) l1.toNatClampNeg))), some (.int (((l4 - (zI M l0 27)) + (zI M (zQ M l0 2) l3.toNatClampNeg)) - ((l4 - (zI M l0 27)) + (zI M (zQ M l0 2) l3.toNatClampNeg)) / (zI M (zQ M l0 2) l3.toNatClampNeg) * (zI M (zQ M l0 2) l3.toNatClampNeg))), some (.int (((20 : Int32) * l1) + ((l2 + (zI M l0 27)) - (l2 + (zI M l0 27)) / (zI M (zQ M l0 2) l1.toNatClampNeg) * (zI M (zQ M l0 2) l1.toNatClampNeg)))), none, none]) (st' := [.int ((20 : Int32) * l3)]) (M' := M) rfl ?_
      refine wp_go 5 (pc' := 183) (L' := [some (.ref l0), some (.int l1), some (.int l2), some (.int l3), some (.int l4), some (.int l5), some (.int l6), some (.int l7), some (.int l8), some (.int l9), some (.int l10), some (.int l11), some (.int l12), some (.int l13), some (.int ((l2 + (zI M l0 27)) - (l2 + (zI M l0 27)) / (zI M (zQ M l0 2) l1.toNatClampNeg) * (zI M (zQ M l0 2) l1.toNatClampNeg))), some (.int (((l4 - (zI M l0 27)) + (zI M (zQ M l0 2) l3.toNatClampNeg)) - ((l4 - (zI M l0 27)) + (zI M (zQ M l0 2) l3.toNatClampNeg)) / (zI M (zQ M l0 2) l3.toNatClampNeg) * (zI M (zQ M l0 2) l3.toNatClampNeg))), some (.int (((20 : Int32) * l1) + ((l2 + (zI M l0 27)) - (l2 + (zI M l0 27)) / (zI M (zQ M l0 2) l1.toNatClampNeg) * (zI M (zQ M l0 2) l1.toNatClampNeg)))), some (.int (((20 : Int32) * l3) + (((l4 - (zI M l0 27)) + (zI M (zQ M l0 2) l3.toNatClampNeg)) - ((l4 - (zI M l0 27)) + (zI M (zQ M l0 2) l3.toNatClampNeg)) / (zI M (zQ M l0 2) l3.toNatClampNeg) * (zI M (zQ M l0 2) l3.toNatClampNeg)))), none]) (st' := [.int l1, .ref l0]) (M' := M) rfl ?_
      refine wp_go 1 (pc' := 185) (L' := [some (.ref l0), some (.int l1), some (.int l2), some (.int l3), some (.int l4), some (.int l5), some (.int l6), some (.int l7), some (.int l8), some (.int l9), some (.int l10), some (.int l11), some (.int l12), some (.int l13), some (.int ((l2 + (zI M l0 27)) - (l2 + (zI M l0 27)) / (zI M (zQ M l0 2) l1.toNatClampNeg) * (zI M (zQ M l0 2) l1.toNatClampNeg))), some (.int (((l4 - (zI M l0 27)) + (zI M (zQ M l0 2) l3.toNatClampNeg)) - ((l4 - (zI M l0 27)) + (zI M (zQ M l0 2) l3.toNatClampNeg)) / (zI M (zQ M l0 2) l3.toNatClampNeg) * (zI M (zQ M l0 2) l3.toNatClampNeg))), some (.int (((20 : Int32) * l1) + ((l2 + (zI M l0 27)) - (l2 + (zI M l0 27)) / (zI M (zQ M l0 2) l1.toNatClampNeg) * (zI M (zQ M l0 2) l1.toNatClampNeg)))), some (.int (((20 : Int32) * l3) + (((l4 - (zI M l0 27)) + (zI M (zQ M l0 2) l3.toNatClampNeg)) - ((l4 - (zI M l0 27)) + (zI M (zQ M l0 2) l3.toNatClampNeg)) / (zI M (zQ M l0 2) l3.toNatClampNeg) * (zI M (zQ M l0 2) l3.toNatClampNeg)))), none]) (st' := [.int ((l2 + (zI M l0 27)) - (l2 + (zI M l0 27)) / (zI M (zQ M l0 2) l1.toNatClampNeg) * (zI M (zQ M l0 2) l1.toNatClampNeg)), .int l1, .ref l0]) (M' := M) rfl ?_
      obtain ⟨hv, hp⟩ := hp
      obtain ⟨hc, hp⟩ := hp
      refine wp_calli (v := (b134_0 n l0 l1 ((l2 + (zI M l0 27)) - (l2 + (zI M l0 27)) / (zI M (zQ M l0 2) l1.toNatClampNeg) * (zI M (zQ M l0 2) l1.toNatClampNeg)) M).1) (M1 := (b134_0 n l0 l1 ((l2 + (zI M l0 27)) - (l2 + (zI M l0 27)) / (zI M (zQ M l0 2) l1.toNatClampNeg) * (zI M (zQ M l0 2) l1.toNatClampNeg)) M).2) rfl rfl rfl (zInv_v (np := 2) rfl rfl hv rfl) (s134_0 n l0 l1 ((l2 + (zI M l0 27)) - (l2 + (zI M l0 27)) / (zI M (zQ M l0 2) l1.toNatClampNeg) * (zI M (zQ M l0 2) l1.toNatClampNeg)) M hc (fun r M1 h => h)) ?_
      refine wp_le [some (.ref l0), some (.int l1), some (.int l2), some (.int l3), some (.int l4), some (.int l5), some (.int l6), some (.int l7), some (.int l8), some (.int l9), some (.int l10), some (.int l11), some (.int l12), none, none, some (.int (((l4 - (zI M l0 27)) + (zI M (zQ M l0 2) l3.toNatClampNeg)) - ((l4 - (zI M l0 27)) + (zI M (zQ M l0 2) l3.toNatClampNeg)) / (zI M (zQ M l0 2) l3.toNatClampNeg) * (zI M (zQ M l0 2) l3.toNatClampNeg))), some (.int (((20 : Int32) * l1) + ((l2 + (zI M l0 27)) - (l2 + (zI M l0 27)) / (zI M (zQ M l0 2) l1.toNatClampNeg) * (zI M (zQ M l0 2) l1.toNatClampNeg)))), some (.int (((20 : Int32) * l3) + (((l4 - (zI M l0 27)) + (zI M (zQ M l0 2) l3.toNatClampNeg)) - ((l4 - (zI M l0 27)) + (zI M (zQ M l0 2) l3.toNatClampNeg)) / (zI M (zQ M l0 2) l3.toNatClampNeg) * (zI M (zQ M l0 2) l3.toNatClampNeg)))), none] (zLe_of (by simp [zLeB])) ?_
      exact s143_188 n k111 q111 h111 l0 l1 l2 l3 l4 l5 l6 l7 l8 l9 l10 l11 l12 (((l4 - (zI M l0 27)) + (zI M (zQ M l0 2) l3.toNatClampNeg)) - ((l4 - (zI M l0 27)) + (zI M (zQ M l0 2) l3.toNatClampNeg)) / (zI M (zQ M l0 2) l3.toNatClampNeg) * (zI M (zQ M l0 2) l3.toNatClampNeg)) (((20 : Int32) * l1) + ((l2 + (zI M l0 27)) - (l2 + (zI M l0 27)) / (zI M (zQ M l0 2) l1.toNatClampNeg) * (zI M (zQ M l0 2) l1.toNatClampNeg))) (((20 : Int32) * l3) + (((l4 - (zI M l0 27)) + (zI M (zQ M l0 2) l3.toNatClampNeg)) - ((l4 - (zI M l0 27)) + (zI M (zQ M l0 2) l3.toNatClampNeg)) / (zI M (zQ M l0 2) l3.toNatClampNeg) * (zI M (zQ M l0 2) l3.toNatClampNeg))) (b134_0 n l0 l1 ((l2 + (zI M l0 27)) - (l2 + (zI M l0 27)) / (zI M (zQ M l0 2) l1.toNatClampNeg) * (zI M (zQ M l0 2) l1.toNatClampNeg)) M).1 (b134_0 n l0 l1 ((l2 + (zI M l0 27)) - (l2 + (zI M l0 27)) / (zI M (zQ M l0 2) l1.toNatClampNeg) * (zI M (zQ M l0 2) l1.toNatClampNeg)) M).2 hp hQ
def b143_111 (n : Nat)  : Nat → Nat → Int32 → Int32 → Int32 → Int32 → Int32 → Int32 → Int32 → Int32 → Int32 → Int32 → Int32 → Int32 → Int32 → zM → zM
  | 0, _, _, _, _, _, _, _, _, _, _, _, _, _, _, M => M
  | k + 1, l0, l1, l2, l3, l4, l5, l6, l7, l8, l9, l10, l11, l12, l13, M => c143_111 n  (b143_111 n  k) l0 l1 l2 l3 l4 l5 l6 l7 l8 l9 l10 l11 l12 l13 M
def p143_111 (n : Nat)  : Nat → Nat → Int32 → Int32 → Int32 → Int32 → Int32 → Int32 → Int32 → Int32 → Int32 → Int32 → Int32 → Int32 → Int32 → zM → Prop
  | 0, _, _, _, _, _, _, _, _, _, _, _, _, _, _, _ => False
  | k + 1, l0, l1, l2, l3, l4, l5, l6, l7, l8, l9, l10, l11, l12, l13, M => d143_111 n  (p143_111 n  k) l0 l1 l2 l3 l4 l5 l6 l7 l8 l9 l10 l11 l12 l13 M
theorem s143_111 (n : Nat)    : ∀ (k : Nat) (l0 : Nat) (l1 : Int32) (l2 : Int32) (l3 : Int32) (l4 : Int32) (l5 : Int32) (l6 : Int32) (l7 : Int32) (l8 : Int32) (l9 : Int32) (l10 : Int32) (l11 : Int32) (l12 : Int32) (l13 : Int32) (M : zM), p143_111 n  k l0 l1 l2 l3 l4 l5 l6 l7 l8 l9 l10 l11 l12 l13 M → ∀ {Q : Option Value → zM → Prop}, (∀ r M1, zRV (b143_111 n  k l0 l1 l2 l3 l4 l5 l6 l7 l8 l9 l10 l11 l12 l13 M) r M1 → Q r M1) → zWP 143 111 [some (.ref l0), some (.int l1), some (.int l2), some (.int l3), some (.int l4), some (.int l5), some (.int l6), some (.int l7), some (.int l8), some (.int l9), some (.int l10), some (.int l11), some (.int l12), some (.int l13), none, none, none, none, none] [] M Q
  | 0, _, _, _, _, _, _, _, _, _, _, _, _, _, _, _, h, _, _ => h.elim
  | k + 1, l0, l1, l2, l3, l4, l5, l6, l7, l8, l9, l10, l11, l12, l13, M, h, _, hQ => t143_111 n  (b143_111 n  k)  (p143_111 n  k)  (s143_111 n    k) l0 l1 l2 l3 l4 l5 l6 l7 l8 l9 l10 l11 l12 l13 M h hQ
def b143_108 (n : Nat)  (l0 : Nat) (l1 : Int32) (l2 : Int32) (l3 : Int32) (l4 : Int32) (l5 : Int32) (l6 : Int32) (l7 : Int32) (l8 : Int32) (l9 : Int32) (l10 : Int32) (l11 : Int32) (l12 : Int32) (M : zM) : zM := b143_111 n  n l0 l1 l2 l3 l4 l5 l6 l7 l8 l9 l10 l11 l12 (1 : Int32) M
def p143_108 (n : Nat)  (l0 : Nat) (l1 : Int32) (l2 : Int32) (l3 : Int32) (l4 : Int32) (l5 : Int32) (l6 : Int32) (l7 : Int32) (l8 : Int32) (l9 : Int32) (l10 : Int32) (l11 : Int32) (l12 : Int32) (M : zM) : Prop := p143_111 n  n l0 l1 l2 l3 l4 l5 l6 l7 l8 l9 l10 l11 l12 (1 : Int32) M
theorem s143_108 (n : Nat)    (l0 : Nat) (l1 : Int32) (l2 : Int32) (l3 : Int32) (l4 : Int32) (l5 : Int32) (l6 : Int32) (l7 : Int32) (l8 : Int32) (l9 : Int32) (l10 : Int32) (l11 : Int32) (l12 : Int32) (M : zM) (hp : p143_108 n  l0 l1 l2 l3 l4 l5 l6 l7 l8 l9 l10 l11 l12 M) {Q : Option Value → zM → Prop} (hQ : ∀ r M1, zRV (b143_108 n  l0 l1 l2 l3 l4 l5 l6 l7 l8 l9 l10 l11 l12 M) r M1 → Q r M1) : zWP 143 108 [some (.ref l0), some (.int l1), some (.int l2), some (.int l3), some (.int l4), some (.int l5), some (.int l6), some (.int l7), some (.int l8), some (.int l9), some (.int l10), some (.int l11), some (.int l12), none, none, none, none, none, none] [] M Q := by
  unfold b143_108 at hQ
  unfold p143_108 at hp
  refine wp_go 2 (pc' := 111) (L' := [some (.ref l0), some (.int l1), some (.int l2), some (.int l3), some (.int l4), some (.int l5), some (.int l6), some (.int l7), some (.int l8), some (.int l9), some (.int l10), some (.int l11), some (.int l12), some (.int (1 : Int32)), none, none, none, none, none]) (st' := []) (M' := M) rfl ?_
  exact s143_111 n    n l0 l1 l2 l3 l4 l5 l6 l7 l8 l9 l10 l11 l12 (1 : Int32) M hp hQ
def b143_103 (n : Nat)  (l0 : Nat) (l1 : Int32) (l2 : Int32) (l3 : Int32) (l4 : Int32) (l5 : Int32) (l6 : Int32) (l7 : Int32) (l8 : Int32) (l9 : Int32) (l10 : Int32) (l11 : Int32) (l12 : Int32) (M : zM) : zM := b143_108 n  l0 l1 l2 l3 l4 l5 l6 l7 l8 l9 l10 l11 l12 (zWI M l0 29 (0 : Int32))
def p143_103 (n : Nat)  (l0 : Nat) (l1 : Int32) (l2 : Int32) (l3 : Int32) (l4 : Int32) (l5 : Int32) (l6 : Int32) (l7 : Int32) (l8 : Int32) (l9 : Int32) (l10 : Int32) (l11 : Int32) (l12 : Int32) (M : zM) : Prop := (zPutI 143 211 l0 M 29 (0 : Int32)) ∧ (p143_108 n  l0 l1 l2 l3 l4 l5 l6 l7 l8 l9 l10 l11 l12 (zWI M l0 29 (0 : Int32)))
theorem s143_103 (n : Nat)    (l0 : Nat) (l1 : Int32) (l2 : Int32) (l3 : Int32) (l4 : Int32) (l5 : Int32) (l6 : Int32) (l7 : Int32) (l8 : Int32) (l9 : Int32) (l10 : Int32) (l11 : Int32) (l12 : Int32) (M : zM) (hp : p143_103 n  l0 l1 l2 l3 l4 l5 l6 l7 l8 l9 l10 l11 l12 M) {Q : Option Value → zM → Prop} (hQ : ∀ r M1, zRV (b143_103 n  l0 l1 l2 l3 l4 l5 l6 l7 l8 l9 l10 l11 l12 M) r M1 → Q r M1) : zWP 143 103 [some (.ref l0), some (.int l1), some (.int l2), some (.int l3), some (.int l4), some (.int l5), some (.int l6), some (.int l7), some (.int l8), some (.int l9), some (.int l10), some (.int l11), some (.int l12), none, none, none, none, none, none] [] M Q := by
  unfold b143_103 at hQ
  unfold p143_103 at hp
  refine wp_go 2 (pc' := 105) (L' := [some (.ref l0), some (.int l1), some (.int l2), some (.int l3), some (.int l4), some (.int l5), some (.int l6), some (.int l7), some (.int l8), some (.int l9), some (.int l10), some (.int l11), some (.int l12), none, none, none, none, none, none]) (st' := [.int (0 : Int32), .ref l0]) (M' := M) rfl ?_
  obtain ⟨hc, hp⟩ := hp
  refine wq_putI (j := 29) rfl hc ?_
  exact s143_108 n    l0 l1 l2 l3 l4 l5 l6 l7 l8 l9 l10 l11 l12 (zWI M l0 29 (0 : Int32)) hp hQ
def b143_84 (n : Nat)  (l0 : Nat) (l1 : Int32) (l2 : Int32) (l3 : Int32) (l4 : Int32) (l5 : Int32) (l6 : Int32) (l7 : Int32) (s0 : Int32) (M : zM) : zM := b143_103 n  l0 l1 l2 l3 l4 l5 l6 l7 s0 (0 : Int32) (0 : Int32) (0 : Int32) (0 : Int32) (zWI M l0 27 (0 : Int32))
def p143_84 (n : Nat)  (l0 : Nat) (l1 : Int32) (l2 : Int32) (l3 : Int32) (l4 : Int32) (l5 : Int32) (l6 : Int32) (l7 : Int32) (s0 : Int32) (M : zM) : Prop := (zPutI 143 208 l0 M 27 (0 : Int32)) ∧ (p143_103 n  l0 l1 l2 l3 l4 l5 l6 l7 s0 (0 : Int32) (0 : Int32) (0 : Int32) (0 : Int32) (zWI M l0 27 (0 : Int32)))
theorem s143_84 (n : Nat)    (l0 : Nat) (l1 : Int32) (l2 : Int32) (l3 : Int32) (l4 : Int32) (l5 : Int32) (l6 : Int32) (l7 : Int32) (s0 : Int32) (M : zM) (hp : p143_84 n  l0 l1 l2 l3 l4 l5 l6 l7 s0 M) {Q : Option Value → zM → Prop} (hQ : ∀ r M1, zRV (b143_84 n  l0 l1 l2 l3 l4 l5 l6 l7 s0 M) r M1 → Q r M1) : zWP 143 84 [some (.ref l0), some (.int l1), some (.int l2), some (.int l3), some (.int l4), some (.int l5), some (.int l6), some (.int l7), none, none, none, none, none, none, none, none, none, none, none] [.int s0] M Q := by
  unfold b143_84 at hQ
  unfold p143_84 at hp
  refine wp_go 5 (pc' := 92) (L' := [some (.ref l0), some (.int l1), some (.int l2), some (.int l3), some (.int l4), some (.int l5), some (.int l6), some (.int l7), some (.int s0), some (.int (0 : Int32)), some (.int (0 : Int32)), none, none, none, none, none, none, none, none]) (st' := []) (M' := M) rfl ?_
  refine wp_go 5 (pc' := 99) (L' := [some (.ref l0), some (.int l1), some (.int l2), some (.int l3), some (.int l4), some (.int l5), some (.int l6), some (.int l7), some (.int s0), some (.int (0 : Int32)), some (.int (0 : Int32)), some (.int (0 : Int32)), some (.int (0 : Int32)), none, none, none, none, none, none]) (st' := [.ref l0]) (M' := M) rfl ?_
  refine wp_go 1 (pc' := 100) (L' := [some (.ref l0), some (.int l1), some (.int l2), some (.int l3), some (.int l4), some (.int l5), some (.int l6), some (.int l7), some (.int s0), some (.int (0 : Int32)), some (.int (0 : Int32)), some (.int (0 : Int32)), some (.int (0 : Int32)), none, none, none, none, none, none]) (st' := [.int (0 : Int32), .ref l0]) (M' := M) rfl ?_
  obtain ⟨hc, hp⟩ := hp
  refine wq_putI (j := 27) rfl hc ?_
  exact s143_103 n    l0 l1 l2 l3 l4 l5 l6 l7 s0 (0 : Int32) (0 : Int32) (0 : Int32) (0 : Int32) (zWI M l0 27 (0 : Int32)) hp hQ
def b143_83 (n : Nat)  (l0 : Nat) (l1 : Int32) (l2 : Int32) (l3 : Int32) (l4 : Int32) (l5 : Int32) (l6 : Int32) (l7 : Int32) (M : zM) : zM := b143_84 n  l0 l1 l2 l3 l4 l5 l6 l7 (0 : Int32) M
def p143_83 (n : Nat)  (l0 : Nat) (l1 : Int32) (l2 : Int32) (l3 : Int32) (l4 : Int32) (l5 : Int32) (l6 : Int32) (l7 : Int32) (M : zM) : Prop := p143_84 n  l0 l1 l2 l3 l4 l5 l6 l7 (0 : Int32) M
theorem s143_83 (n : Nat)    (l0 : Nat) (l1 : Int32) (l2 : Int32) (l3 : Int32) (l4 : Int32) (l5 : Int32) (l6 : Int32) (l7 : Int32) (M : zM) (hp : p143_83 n  l0 l1 l2 l3 l4 l5 l6 l7 M) {Q : Option Value → zM → Prop} (hQ : ∀ r M1, zRV (b143_83 n  l0 l1 l2 l3 l4 l5 l6 l7 M) r M1 → Q r M1) : zWP 143 83 [some (.ref l0), some (.int l1), some (.int l2), some (.int l3), some (.int l4), some (.int l5), some (.int l6), some (.int l7), none, none, none, none, none, none, none, none, none, none, none] [] M Q := by
  unfold b143_83 at hQ
  unfold p143_83 at hp
  refine wp_go 1 (pc' := 84) (L' := [some (.ref l0), some (.int l1), some (.int l2), some (.int l3), some (.int l4), some (.int l5), some (.int l6), some (.int l7), none, none, none, none, none, none, none, none, none, none, none]) (st' := [.int (0 : Int32)]) (M' := M) rfl ?_
  exact s143_84 n    l0 l1 l2 l3 l4 l5 l6 l7 (0 : Int32) M hp hQ
def b143_76 (n : Nat)  (l0 : Nat) (l1 : Int32) (l2 : Int32) (l3 : Int32) (l4 : Int32) (l5 : Int32) (l6 : Int32) (l7 : Int32) (s0 : Int32) (M : zM) : zM := (if s0 = 0 then b143_83 n  l0 l1 l2 l3 l4 l5 l6 l7 M else b143_84 n  l0 l1 l2 l3 l4 l5 l6 l7 (1 : Int32) M)
def p143_76 (n : Nat)  (l0 : Nat) (l1 : Int32) (l2 : Int32) (l3 : Int32) (l4 : Int32) (l5 : Int32) (l6 : Int32) (l7 : Int32) (s0 : Int32) (M : zM) : Prop := ((s0 = 0 → p143_83 n  l0 l1 l2 l3 l4 l5 l6 l7 M) ∧ (¬ s0 = 0 → p143_84 n  l0 l1 l2 l3 l4 l5 l6 l7 (1 : Int32) M))
theorem s143_76 (n : Nat)    (l0 : Nat) (l1 : Int32) (l2 : Int32) (l3 : Int32) (l4 : Int32) (l5 : Int32) (l6 : Int32) (l7 : Int32) (s0 : Int32) (M : zM) (hp : p143_76 n  l0 l1 l2 l3 l4 l5 l6 l7 s0 M) {Q : Option Value → zM → Prop} (hQ : ∀ r M1, zRV (b143_76 n  l0 l1 l2 l3 l4 l5 l6 l7 s0 M) r M1 → Q r M1) : zWP 143 76 [some (.ref l0), some (.int l1), some (.int l2), some (.int l3), some (.int l4), some (.int l5), some (.int l6), some (.int l7), none, none, none, none, none, none, none, none, none, none, none] [.int s0] M Q := by
  unfold b143_76 at hQ
  unfold p143_76 at hp
  refine wp_if_eq (t := 83) rfl rfl (fun hc => ?_) (fun hc => ?_)
  · rw [if_pos hc] at hQ
    replace hp := hp.1 hc
    exact s143_83 n    l0 l1 l2 l3 l4 l5 l6 l7 M hp hQ
  · rw [if_neg hc] at hQ
    replace hp := hp.2 hc
    refine wp_go 2 (pc' := 84) (L' := [some (.ref l0), some (.int l1), some (.int l2), some (.int l3), some (.int l4), some (.int l5), some (.int l6), some (.int l7), none, none, none, none, none, none, none, none, none, none, none]) (st' := [.int (1 : Int32)]) (M' := M) rfl ?_
    exact s143_84 n    l0 l1 l2 l3 l4 l5 l6 l7 (1 : Int32) M hp hQ
def b143_68 (n : Nat)  (l0 : Nat) (l1 : Int32) (l2 : Int32) (l3 : Int32) (l4 : Int32) (l5 : Int32) (l6 : Int32) (l7 : Int32) (s0 : Int32) (M : zM) : zM := (if s0 = 0 then b143_83 n  l0 l1 l2 l3 l4 l5 l6 l7 M else b143_76 n  l0 l1 l2 l3 l4 l5 l6 l7 (b132_0 n l0 l3 M).1 (b132_0 n l0 l3 M).2)
def p143_68 (n : Nat)  (l0 : Nat) (l1 : Int32) (l2 : Int32) (l3 : Int32) (l4 : Int32) (l5 : Int32) (l6 : Int32) (l7 : Int32) (s0 : Int32) (M : zM) : Prop := ((s0 = 0 → p143_83 n  l0 l1 l2 l3 l4 l5 l6 l7 M) ∧ (¬ s0 = 0 → (zHasC 143 173 l0 M 132 1) ∧ ((p132_0 n l0 l3 M) ∧ (p143_76 n  l0 l1 l2 l3 l4 l5 l6 l7 (b132_0 n l0 l3 M).1 (b132_0 n l0 l3 M).2))))
theorem s143_68 (n : Nat)    (l0 : Nat) (l1 : Int32) (l2 : Int32) (l3 : Int32) (l4 : Int32) (l5 : Int32) (l6 : Int32) (l7 : Int32) (s0 : Int32) (M : zM) (hp : p143_68 n  l0 l1 l2 l3 l4 l5 l6 l7 s0 M) {Q : Option Value → zM → Prop} (hQ : ∀ r M1, zRV (b143_68 n  l0 l1 l2 l3 l4 l5 l6 l7 s0 M) r M1 → Q r M1) : zWP 143 68 [some (.ref l0), some (.int l1), some (.int l2), some (.int l3), some (.int l4), some (.int l5), some (.int l6), some (.int l7), none, none, none, none, none, none, none, none, none, none, none] [.int s0] M Q := by
  unfold b143_68 at hQ
  unfold p143_68 at hp
  refine wp_if_eq (t := 83) rfl rfl (fun hc => ?_) (fun hc => ?_)
  · rw [if_pos hc] at hQ
    replace hp := hp.1 hc
    exact s143_83 n    l0 l1 l2 l3 l4 l5 l6 l7 M hp hQ
  · rw [if_neg hc] at hQ
    replace hp := hp.2 hc
    refine wp_go 2 (pc' := 73) (L' := [some (.ref l0), some (.int l1), some (.int l2), some (.int l3), some (.int l4), some (.int l5), some (.int l6), some (.int l7), none, none, none, none, none, none, none, none, none, none, none]) (st' := [.int l3, .ref l0]) (M' := M) rfl ?_
    obtain ⟨hv, hp⟩ := hp
    obtain ⟨hc, hp⟩ := hp
    refine wp_calli (v := (b132_0 n l0 l3 M).1) (M1 := (b132_0 n l0 l3 M).2) rfl rfl rfl (zInv_v (np := 1) rfl rfl hv rfl) (s132_0 n l0 l3 M hc (fun r M1 h => h)) ?_
    exact s143_76 n    l0 l1 l2 l3 l4 l5 l6 l7 (b132_0 n l0 l3 M).1 (b132_0 n l0 l3 M).2 hp hQ
def b143_61 (n : Nat)  (l0 : Nat) (l1 : Int32) (l2 : Int32) (l3 : Int32) (l4 : Int32) (l5 : Int32) (l6 : Int32) (s0 : Int32) (M : zM) : zM := b143_68 n  l0 l1 l2 l3 l4 l5 l6 s0 (b132_0 n l0 l1 M).1 (b132_0 n l0 l1 M).2
def p143_61 (n : Nat)  (l0 : Nat) (l1 : Int32) (l2 : Int32) (l3 : Int32) (l4 : Int32) (l5 : Int32) (l6 : Int32) (s0 : Int32) (M : zM) : Prop := (zHasC 143 173 l0 M 132 1) ∧ ((p132_0 n l0 l1 M) ∧ (p143_68 n  l0 l1 l2 l3 l4 l5 l6 s0 (b132_0 n l0 l1 M).1 (b132_0 n l0 l1 M).2))
theorem s143_61 (n : Nat)    (l0 : Nat) (l1 : Int32) (l2 : Int32) (l3 : Int32) (l4 : Int32) (l5 : Int32) (l6 : Int32) (s0 : Int32) (M : zM) (hp : p143_61 n  l0 l1 l2 l3 l4 l5 l6 s0 M) {Q : Option Value → zM → Prop} (hQ : ∀ r M1, zRV (b143_61 n  l0 l1 l2 l3 l4 l5 l6 s0 M) r M1 → Q r M1) : zWP 143 61 [some (.ref l0), some (.int l1), some (.int l2), some (.int l3), some (.int l4), some (.int l5), some (.int l6), none, none, none, none, none, none, none, none, none, none, none, none] [.int s0] M Q := by
  unfold b143_61 at hQ
  unfold p143_61 at hp
  refine wp_go 3 (pc' := 65) (L' := [some (.ref l0), some (.int l1), some (.int l2), some (.int l3), some (.int l4), some (.int l5), some (.int l6), some (.int s0), none, none, none, none, none, none, none, none, none, none, none]) (st' := [.int l1, .ref l0]) (M' := M) rfl ?_
  obtain ⟨hv, hp⟩ := hp
  obtain ⟨hc, hp⟩ := hp
  refine wp_calli (v := (b132_0 n l0 l1 M).1) (M1 := (b132_0 n l0 l1 M).2) rfl rfl rfl (zInv_v (np := 1) rfl rfl hv rfl) (s132_0 n l0 l1 M hc (fun r M1 h => h)) ?_
  exact s143_68 n    l0 l1 l2 l3 l4 l5 l6 s0 (b132_0 n l0 l1 M).1 (b132_0 n l0 l1 M).2 hp hQ
def b143_29 (n : Nat)  (l0 : Nat) (l1 : Int32) (l2 : Int32) (l3 : Int32) (l4 : Int32) (l5 : Int32) (s0 : Int32) (M : zM) : zM := (if (zI M (zQ M l0 2) l3.toNatClampNeg) ≤ (zI M (zQ M l0 2) l1.toNatClampNeg) then b143_61 n  l0 l1 l2 l3 l4 l5 s0 (zI M (zQ M l0 2) l3.toNatClampNeg) M else b143_61 n  l0 l1 l2 l3 l4 l5 s0 (zI M (zQ M l0 2) l1.toNatClampNeg) M)
def p143_29 (n : Nat)  (l0 : Nat) (l1 : Int32) (l2 : Int32) (l3 : Int32) (l4 : Int32) (l5 : Int32) (s0 : Int32) (M : zM) : Prop := (zHasQ 10 13 l0 M 2) ∧ ((zOkI (zQ M l0 2) l1 M) ∧ ((zHasQ 10 13 l0 M 2) ∧ ((zOkI (zQ M l0 2) l3 M) ∧ ((((zI M (zQ M l0 2) l3.toNatClampNeg) ≤ (zI M (zQ M l0 2) l1.toNatClampNeg) → (zHasQ 10 13 l0 M 2) ∧ ((zOkI (zQ M l0 2) l3 M) ∧ (p143_61 n  l0 l1 l2 l3 l4 l5 s0 (zI M (zQ M l0 2) l3.toNatClampNeg) M))) ∧ (¬ (zI M (zQ M l0 2) l3.toNatClampNeg) ≤ (zI M (zQ M l0 2) l1.toNatClampNeg) → (zHasQ 10 13 l0 M 2) ∧ ((zOkI (zQ M l0 2) l1 M) ∧ (p143_61 n  l0 l1 l2 l3 l4 l5 s0 (zI M (zQ M l0 2) l1.toNatClampNeg) M))))))))
theorem s143_29 (n : Nat)    (l0 : Nat) (l1 : Int32) (l2 : Int32) (l3 : Int32) (l4 : Int32) (l5 : Int32) (s0 : Int32) (M : zM) (hp : p143_29 n  l0 l1 l2 l3 l4 l5 s0 M) {Q : Option Value → zM → Prop} (hQ : ∀ r M1, zRV (b143_29 n  l0 l1 l2 l3 l4 l5 s0 M) r M1 → Q r M1) : zWP 143 29 [some (.ref l0), some (.int l1), some (.int l2), some (.int l3), some (.int l4), some (.int l5), none, none, none, none, none, none, none, none, none, none, none, none, none] [.int s0] M Q := by
  unfold b143_29 at hQ
  unfold p143_29 at hp
  refine wp_go 2 (pc' := 32) (L' := [some (.ref l0), some (.int l1), some (.int l2), some (.int l3), some (.int l4), some (.int l5), some (.int s0), none, none, none, none, none, none, none, none, none, none, none, none]) (st' := [.ref l0]) (M' := M) rfl ?_
  obtain ⟨hc, hp⟩ := hp
  refine wq_getQ (j := 2) rfl hc ?_
  refine wp_go 1 (pc' := 36) (L' := [some (.ref l0), some (.int l1), some (.int l2), some (.int l3), some (.int l4), some (.int l5), some (.int s0), none, none, none, none, none, none, none, none, none, none, none, none]) (st' := [.int l1, .ref (zQ M l0 2)]) (M' := M) rfl ?_
  obtain ⟨hc, hp⟩ := hp
  refine wq_iald rfl hc ?_
  refine wp_go 1 (pc' := 38) (L' := [some (.ref l0), some (.int l1), some (.int l2), some (.int l3), some (.int l4), some (.int l5), some (.int s0), none, none, none, none, none, none, none, none, none, none, none, none]) (st' := [.ref l0, .int (zI M (zQ M l0 2) l1.toNatClampNeg)]) (M' := M) rfl ?_
  obtain ⟨hc, hp⟩ := hp
  refine wq_getQ (j := 2) rfl hc ?_
  refine wp_go 1 (pc' := 42) (L' := [some (.ref l0), some (.int l1), some (.int l2), some (.int l3), some (.int l4), some (.int l5), some (.int s0), none, none, none, none, none, none, none, none, none, none, none, none]) (st' := [.int l3, .ref (zQ M l0 2), .int (zI M (zQ M l0 2) l1.toNatClampNeg)]) (M' := M) rfl ?_
  obtain ⟨hc, hp⟩ := hp
  refine wq_iald rfl hc ?_
  refine wp_ic_ge (t := 55) rfl rfl (fun hc => ?_) (fun hc => ?_)
  · rw [if_pos hc] at hQ
    replace hp := hp.1 hc
    refine wp_go 1 (pc' := 56) (L' := [some (.ref l0), some (.int l1), some (.int l2), some (.int l3), some (.int l4), some (.int l5), some (.int s0), none, none, none, none, none, none, none, none, none, none, none, none]) (st' := [.ref l0]) (M' := M) rfl ?_
    obtain ⟨hc, hp⟩ := hp
    refine wq_getQ (j := 2) rfl hc ?_
    refine wp_go 1 (pc' := 60) (L' := [some (.ref l0), some (.int l1), some (.int l2), some (.int l3), some (.int l4), some (.int l5), some (.int s0), none, none, none, none, none, none, none, none, none, none, none, none]) (st' := [.int l3, .ref (zQ M l0 2)]) (M' := M) rfl ?_
    obtain ⟨hc, hp⟩ := hp
    refine wq_iald rfl hc ?_
    exact s143_61 n    l0 l1 l2 l3 l4 l5 s0 (zI M (zQ M l0 2) l3.toNatClampNeg) M hp hQ
  · rw [if_neg hc] at hQ
    replace hp := hp.2 hc
    refine wp_go 1 (pc' := 47) (L' := [some (.ref l0), some (.int l1), some (.int l2), some (.int l3), some (.int l4), some (.int l5), some (.int s0), none, none, none, none, none, none, none, none, none, none, none, none]) (st' := [.ref l0]) (M' := M) rfl ?_
    obtain ⟨hc, hp⟩ := hp
    refine wq_getQ (j := 2) rfl hc ?_
    refine wp_go 1 (pc' := 51) (L' := [some (.ref l0), some (.int l1), some (.int l2), some (.int l3), some (.int l4), some (.int l5), some (.int s0), none, none, none, none, none, none, none, none, none, none, none, none]) (st' := [.int l1, .ref (zQ M l0 2)]) (M' := M) rfl ?_
    obtain ⟨hc, hp⟩ := hp
    refine wq_iald rfl hc ?_
    refine wp_go 1 (pc' := 61) (L' := [some (.ref l0), some (.int l1), some (.int l2), some (.int l3), some (.int l4), some (.int l5), some (.int s0), none, none, none, none, none, none, none, none, none, none, none, none]) (st' := [.int (zI M (zQ M l0 2) l1.toNatClampNeg)]) (M' := M) rfl ?_
    exact s143_61 n    l0 l1 l2 l3 l4 l5 s0 (zI M (zQ M l0 2) l1.toNatClampNeg) M hp hQ
def b143_20 (n : Nat)  (l0 : Nat) (l1 : Int32) (l2 : Int32) (l3 : Int32) (l4 : Int32) (l5 : Int32) (M : zM) : zM := b143_29 n  l0 l1 l2 l3 l4 l5 (1500 : Int32) M
def p143_20 (n : Nat)  (l0 : Nat) (l1 : Int32) (l2 : Int32) (l3 : Int32) (l4 : Int32) (l5 : Int32) (M : zM) : Prop := p143_29 n  l0 l1 l2 l3 l4 l5 (1500 : Int32) M
theorem s143_20 (n : Nat)    (l0 : Nat) (l1 : Int32) (l2 : Int32) (l3 : Int32) (l4 : Int32) (l5 : Int32) (M : zM) (hp : p143_20 n  l0 l1 l2 l3 l4 l5 M) {Q : Option Value → zM → Prop} (hQ : ∀ r M1, zRV (b143_20 n  l0 l1 l2 l3 l4 l5 M) r M1 → Q r M1) : zWP 143 20 [some (.ref l0), some (.int l1), some (.int l2), some (.int l3), some (.int l4), some (.int l5), none, none, none, none, none, none, none, none, none, none, none, none, none] [] M Q := by
  unfold b143_20 at hQ
  unfold p143_20 at hp
  refine wp_go 2 (pc' := 29) (L' := [some (.ref l0), some (.int l1), some (.int l2), some (.int l3), some (.int l4), some (.int l5), none, none, none, none, none, none, none, none, none, none, none, none, none]) (st' := [.int (1500 : Int32)]) (M' := M) rfl ?_
  exact s143_29 n    l0 l1 l2 l3 l4 l5 (1500 : Int32) M hp hQ
def b143_0 (n : Nat)  (l0 : Nat) (l1 : Int32) (l2 : Int32) (l3 : Int32) (l4 : Int32) (l5 : Int32) (M : zM) : zM := (if (zI M (zQ M l0 1) l1.toNatClampNeg) = (5 : Int32) then b143_20 n  l0 l1 l2 l3 l4 l5 M else (if (zI M (zQ M l0 1) l3.toNatClampNeg) = (5 : Int32) then b143_20 n  l0 l1 l2 l3 l4 l5 M else b143_29 n  l0 l1 l2 l3 l4 l5 (600 : Int32) M))
def p143_0 (n : Nat)  (l0 : Nat) (l1 : Int32) (l2 : Int32) (l3 : Int32) (l4 : Int32) (l5 : Int32) (M : zM) : Prop := (zHasQ 10 7 l0 M 1) ∧ ((zOkI (zQ M l0 1) l1 M) ∧ ((((zI M (zQ M l0 1) l1.toNatClampNeg) = (5 : Int32) → p143_20 n  l0 l1 l2 l3 l4 l5 M) ∧ (¬ (zI M (zQ M l0 1) l1.toNatClampNeg) = (5 : Int32) → (zHasQ 10 7 l0 M 1) ∧ ((zOkI (zQ M l0 1) l3 M) ∧ ((((zI M (zQ M l0 1) l3.toNatClampNeg) = (5 : Int32) → p143_20 n  l0 l1 l2 l3 l4 l5 M) ∧ (¬ (zI M (zQ M l0 1) l3.toNatClampNeg) = (5 : Int32) → p143_29 n  l0 l1 l2 l3 l4 l5 (600 : Int32) M))))))))
theorem s143_0 (n : Nat)    (l0 : Nat) (l1 : Int32) (l2 : Int32) (l3 : Int32) (l4 : Int32) (l5 : Int32) (M : zM) (hp : p143_0 n  l0 l1 l2 l3 l4 l5 M) {Q : Option Value → zM → Prop} (hQ : ∀ r M1, zRV (b143_0 n  l0 l1 l2 l3 l4 l5 M) r M1 → Q r M1) : zWP 143 0 [some (.ref l0), some (.int l1), some (.int l2), some (.int l3), some (.int l4), some (.int l5), none, none, none, none, none, none, none, none, none, none, none, none, none] [] M Q := by
  unfold b143_0 at hQ
  unfold p143_0 at hp
  refine wp_go 1 (pc' := 1) (L' := [some (.ref l0), some (.int l1), some (.int l2), some (.int l3), some (.int l4), some (.int l5), none, none, none, none, none, none, none, none, none, none, none, none, none]) (st' := [.ref l0]) (M' := M) rfl ?_
  obtain ⟨hc, hp⟩ := hp
  refine wq_getQ (j := 1) rfl hc ?_
  refine wp_go 1 (pc' := 5) (L' := [some (.ref l0), some (.int l1), some (.int l2), some (.int l3), some (.int l4), some (.int l5), none, none, none, none, none, none, none, none, none, none, none, none, none]) (st' := [.int l1, .ref (zQ M l0 1)]) (M' := M) rfl ?_
  obtain ⟨hc, hp⟩ := hp
  refine wq_iald rfl hc ?_
  refine wp_go 1 (pc' := 7) (L' := [some (.ref l0), some (.int l1), some (.int l2), some (.int l3), some (.int l4), some (.int l5), none, none, none, none, none, none, none, none, none, none, none, none, none]) (st' := [.int (5 : Int32), .int (zI M (zQ M l0 1) l1.toNatClampNeg)]) (M' := M) rfl ?_
  refine wp_ic_eq (t := 20) rfl rfl (fun hc => ?_) (fun hc => ?_)
  · rw [if_pos hc] at hQ
    replace hp := hp.1 hc
    exact s143_20 n    l0 l1 l2 l3 l4 l5 M hp hQ
  · rw [if_neg hc] at hQ
    replace hp := hp.2 hc
    refine wp_go 1 (pc' := 11) (L' := [some (.ref l0), some (.int l1), some (.int l2), some (.int l3), some (.int l4), some (.int l5), none, none, none, none, none, none, none, none, none, none, none, none, none]) (st' := [.ref l0]) (M' := M) rfl ?_
    obtain ⟨hc, hp⟩ := hp
    refine wq_getQ (j := 1) rfl hc ?_
    refine wp_go 1 (pc' := 15) (L' := [some (.ref l0), some (.int l1), some (.int l2), some (.int l3), some (.int l4), some (.int l5), none, none, none, none, none, none, none, none, none, none, none, none, none]) (st' := [.int l3, .ref (zQ M l0 1)]) (M' := M) rfl ?_
    obtain ⟨hc, hp⟩ := hp
    refine wq_iald rfl hc ?_
    refine wp_go 1 (pc' := 17) (L' := [some (.ref l0), some (.int l1), some (.int l2), some (.int l3), some (.int l4), some (.int l5), none, none, none, none, none, none, none, none, none, none, none, none, none]) (st' := [.int (5 : Int32), .int (zI M (zQ M l0 1) l3.toNatClampNeg)]) (M' := M) rfl ?_
    refine wp_ic_ne (t := 26) rfl rfl (fun hc => ?_) (fun hc => ?_)
    · rw [if_neg hc] at hQ
      replace hp := hp.2 hc
      refine wp_go 1 (pc' := 29) (L' := [some (.ref l0), some (.int l1), some (.int l2), some (.int l3), some (.int l4), some (.int l5), none, none, none, none, none, none, none, none, none, none, none, none, none]) (st' := [.int (600 : Int32)]) (M' := M) rfl ?_
      exact s143_29 n    l0 l1 l2 l3 l4 l5 (600 : Int32) M hp hQ
    · rw [if_pos hc] at hQ
      replace hp := hp.1 hc
      exact s143_20 n    l0 l1 l2 l3 l4 l5 M hp hQ
/-! X12_isPair -/
def b144_44 (n : Nat)  (s0 : Int32) (M : zM) : Int32 × zM := (s0, M)
def p144_44 (n : Nat)  (s0 : Int32) (M : zM) : Prop := zNar .boolean s0 = true
theorem s144_44 (n : Nat)    (s0 : Int32) (M : zM) (hp : p144_44 n  s0 M) {Q : Option Value → zM → Prop} (hQ : ∀ r M1, zRI (b144_44 n  s0 M) r M1 → Q r M1) : zWP 144 44 [none, none, none] [.int s0] M Q := by
  unfold b144_44 at hQ
  unfold p144_44 at hp
  exact wp_retz rfl rfl hp (hQ _ _ ⟨rfl, rfl⟩)
def b144_43 (n : Nat)   (M : zM) : Int32 × zM := b144_44 n  (0 : Int32) M
def p144_43 (n : Nat)   (M : zM) : Prop := p144_44 n  (0 : Int32) M
theorem s144_43 (n : Nat)     (M : zM) (hp : p144_43 n   M) {Q : Option Value → zM → Prop} (hQ : ∀ r M1, zRI (b144_43 n   M) r M1 → Q r M1) : zWP 144 43 [none, none, none] [] M Q := by
  unfold b144_43 at hQ
  unfold p144_43 at hp
  refine wp_go 1 (pc' := 44) (L' := [none, none, none]) (st' := [.int (0 : Int32)]) (M' := M) rfl ?_
  exact s144_44 n    (0 : Int32) M hp hQ
def b144_13 (n : Nat)  (l0 : Nat) (l1 : Int32) (l2 : Int32) (s0 : Int32) (M : zM) : Int32 × zM := (if s0 = 0 then b144_43 n  M else (if l1 = l2 then b144_43 n  M else (if (zI M (zQ M l0 3) l1.toNatClampNeg) = 0 then b144_43 n  M else (if (zI M (zQ M l0 3) l2.toNatClampNeg) = 0 then b144_43 n  M else b144_44 n  (1 : Int32) M))))
def p144_13 (n : Nat)  (l0 : Nat) (l1 : Int32) (l2 : Int32) (s0 : Int32) (M : zM) : Prop := ((s0 = 0 → p144_43 n  M) ∧ (¬ s0 = 0 → ((l1 = l2 → p144_43 n  M) ∧ (¬ l1 = l2 → (zHasQ 10 16 l0 M 3) ∧ ((zOkT 2 (zQ M l0 3) l1 M) ∧ ((((zI M (zQ M l0 3) l1.toNatClampNeg) = 0 → p144_43 n  M) ∧ (¬ (zI M (zQ M l0 3) l1.toNatClampNeg) = 0 → (zHasQ 10 16 l0 M 3) ∧ ((zOkT 2 (zQ M l0 3) l2 M) ∧ ((((zI M (zQ M l0 3) l2.toNatClampNeg) = 0 → p144_43 n  M) ∧ (¬ (zI M (zQ M l0 3) l2.toNatClampNeg) = 0 → p144_44 n  (1 : Int32) M))))))))))))
theorem s144_13 (n : Nat)    (l0 : Nat) (l1 : Int32) (l2 : Int32) (s0 : Int32) (M : zM) (hp : p144_13 n  l0 l1 l2 s0 M) {Q : Option Value → zM → Prop} (hQ : ∀ r M1, zRI (b144_13 n  l0 l1 l2 s0 M) r M1 → Q r M1) : zWP 144 13 [some (.ref l0), some (.int l1), some (.int l2)] [.int s0] M Q := by
  unfold b144_13 at hQ
  unfold p144_13 at hp
  refine wp_if_eq (t := 43) rfl rfl (fun hc => ?_) (fun hc => ?_)
  · rw [if_pos hc] at hQ
    replace hp := hp.1 hc
    refine wp_le [none, none, none] (zLe_of (by simp [zLeB])) ?_
    exact s144_43 n    M hp hQ
  · rw [if_neg hc] at hQ
    replace hp := hp.2 hc
    refine wp_go 2 (pc' := 18) (L' := [some (.ref l0), some (.int l1), some (.int l2)]) (st' := [.int l2, .int l1]) (M' := M) rfl ?_
    refine wp_ic_eq (t := 43) rfl rfl (fun hc => ?_) (fun hc => ?_)
    · rw [if_pos hc] at hQ
      replace hp := hp.1 hc
      refine wp_le [none, none, none] (zLe_of (by simp [zLeB])) ?_
      exact s144_43 n    M hp hQ
    · rw [if_neg hc] at hQ
      replace hp := hp.2 hc
      refine wp_go 1 (pc' := 22) (L' := [some (.ref l0), some (.int l1), some (.int l2)]) (st' := [.ref l0]) (M' := M) rfl ?_
      obtain ⟨hc, hp⟩ := hp
      refine wq_getQ (j := 3) rfl hc ?_
      refine wp_go 1 (pc' := 26) (L' := [some (.ref l0), some (.int l1), some (.int l2)]) (st' := [.int l1, .ref (zQ M l0 3)]) (M' := M) rfl ?_
      obtain ⟨hc, hp⟩ := hp
      refine wq_zald rfl hc ?_
      refine wp_if_eq (t := 43) rfl rfl (fun hc => ?_) (fun hc => ?_)
      · rw [if_pos hc] at hQ
        replace hp := hp.1 hc
        refine wp_le [none, none, none] (zLe_of (by simp [zLeB])) ?_
        exact s144_43 n    M hp hQ
      · rw [if_neg hc] at hQ
        replace hp := hp.2 hc
        refine wp_go 1 (pc' := 31) (L' := [some (.ref l0), some (.int l1), some (.int l2)]) (st' := [.ref l0]) (M' := M) rfl ?_
        obtain ⟨hc, hp⟩ := hp
        refine wq_getQ (j := 3) rfl hc ?_
        refine wp_go 1 (pc' := 35) (L' := [some (.ref l0), some (.int l1), some (.int l2)]) (st' := [.int l2, .ref (zQ M l0 3)]) (M' := M) rfl ?_
        obtain ⟨hc, hp⟩ := hp
        refine wq_zald rfl hc ?_
        refine wp_if_eq (t := 43) rfl rfl (fun hc => ?_) (fun hc => ?_)
        · rw [if_pos hc] at hQ
          replace hp := hp.1 hc
          refine wp_le [none, none, none] (zLe_of (by simp [zLeB])) ?_
          exact s144_43 n    M hp hQ
        · rw [if_neg hc] at hQ
          replace hp := hp.2 hc
          refine wp_go 2 (pc' := 44) (L' := [some (.ref l0), some (.int l1), some (.int l2)]) (st' := [.int (1 : Int32)]) (M' := M) rfl ?_
          refine wp_le [none, none, none] (zLe_of (by simp [zLeB])) ?_
          exact s144_44 n    (1 : Int32) M hp hQ
def b144_5 (n : Nat)  (l0 : Nat) (l1 : Int32) (l2 : Int32) (s0 : Int32) (M : zM) : Int32 × zM := (if s0 = 0 then b144_43 n  M else b144_13 n  l0 l1 l2 (b126_0 n l0 l2 M).1 (b126_0 n l0 l2 M).2)
def p144_5 (n : Nat)  (l0 : Nat) (l1 : Int32) (l2 : Int32) (s0 : Int32) (M : zM) : Prop := ((s0 = 0 → p144_43 n  M) ∧ (¬ s0 = 0 → (zHasC 144 151 l0 M 126 1) ∧ ((p126_0 n l0 l2 M) ∧ (p144_13 n  l0 l1 l2 (b126_0 n l0 l2 M).1 (b126_0 n l0 l2 M).2))))
theorem s144_5 (n : Nat)    (l0 : Nat) (l1 : Int32) (l2 : Int32) (s0 : Int32) (M : zM) (hp : p144_5 n  l0 l1 l2 s0 M) {Q : Option Value → zM → Prop} (hQ : ∀ r M1, zRI (b144_5 n  l0 l1 l2 s0 M) r M1 → Q r M1) : zWP 144 5 [some (.ref l0), some (.int l1), some (.int l2)] [.int s0] M Q := by
  unfold b144_5 at hQ
  unfold p144_5 at hp
  refine wp_if_eq (t := 43) rfl rfl (fun hc => ?_) (fun hc => ?_)
  · rw [if_pos hc] at hQ
    replace hp := hp.1 hc
    refine wp_le [none, none, none] (zLe_of (by simp [zLeB])) ?_
    exact s144_43 n    M hp hQ
  · rw [if_neg hc] at hQ
    replace hp := hp.2 hc
    refine wp_go 2 (pc' := 10) (L' := [some (.ref l0), some (.int l1), some (.int l2)]) (st' := [.int l2, .ref l0]) (M' := M) rfl ?_
    obtain ⟨hv, hp⟩ := hp
    obtain ⟨hc, hp⟩ := hp
    refine wp_calli (v := (b126_0 n l0 l2 M).1) (M1 := (b126_0 n l0 l2 M).2) rfl rfl rfl (zInv_v (np := 1) rfl rfl hv rfl) (s126_0 n l0 l2 M hc (fun r M1 h => h)) ?_
    exact s144_13 n    l0 l1 l2 (b126_0 n l0 l2 M).1 (b126_0 n l0 l2 M).2 hp hQ
def b144_0 (n : Nat)  (l0 : Nat) (l1 : Int32) (l2 : Int32) (M : zM) : Int32 × zM := b144_5 n  l0 l1 l2 (b126_0 n l0 l1 M).1 (b126_0 n l0 l1 M).2
def p144_0 (n : Nat)  (l0 : Nat) (l1 : Int32) (l2 : Int32) (M : zM) : Prop := (zHasC 144 151 l0 M 126 1) ∧ ((p126_0 n l0 l1 M) ∧ (p144_5 n  l0 l1 l2 (b126_0 n l0 l1 M).1 (b126_0 n l0 l1 M).2))
theorem s144_0 (n : Nat)    (l0 : Nat) (l1 : Int32) (l2 : Int32) (M : zM) (hp : p144_0 n  l0 l1 l2 M) {Q : Option Value → zM → Prop} (hQ : ∀ r M1, zRI (b144_0 n  l0 l1 l2 M) r M1 → Q r M1) : zWP 144 0 [some (.ref l0), some (.int l1), some (.int l2)] [] M Q := by
  unfold b144_0 at hQ
  unfold p144_0 at hp
  refine wp_go 2 (pc' := 2) (L' := [some (.ref l0), some (.int l1), some (.int l2)]) (st' := [.int l1, .ref l0]) (M' := M) rfl ?_
  obtain ⟨hv, hp⟩ := hp
  obtain ⟨hc, hp⟩ := hp
  refine wp_calli (v := (b126_0 n l0 l1 M).1) (M1 := (b126_0 n l0 l1 M).2) rfl rfl rfl (zInv_v (np := 1) rfl rfl hv rfl) (s126_0 n l0 l1 M hc (fun r M1 h => h)) ?_
  exact s144_5 n    l0 l1 l2 (b126_0 n l0 l1 M).1 (b126_0 n l0 l1 M).2 hp hQ
/-! X12_isAsked -/
def b145_56 (n : Nat)  (s0 : Int32) (M : zM) : Int32 × zM := (s0, M)
def p145_56 (n : Nat)  (s0 : Int32) (M : zM) : Prop := zNar .boolean s0 = true
theorem s145_56 (n : Nat)    (s0 : Int32) (M : zM) (hp : p145_56 n  s0 M) {Q : Option Value → zM → Prop} (hQ : ∀ r M1, zRI (b145_56 n  s0 M) r M1 → Q r M1) : zWP 145 56 [none, none, none, none, none, none] [.int s0] M Q := by
  unfold b145_56 at hQ
  unfold p145_56 at hp
  exact wp_retz rfl rfl hp (hQ _ _ ⟨rfl, rfl⟩)
def b145_55 (n : Nat)   (M : zM) : Int32 × zM := b145_56 n  (0 : Int32) M
def p145_55 (n : Nat)   (M : zM) : Prop := p145_56 n  (0 : Int32) M
theorem s145_55 (n : Nat)     (M : zM) (hp : p145_55 n   M) {Q : Option Value → zM → Prop} (hQ : ∀ r M1, zRI (b145_55 n   M) r M1 → Q r M1) : zWP 145 55 [none, none, none, none, none, none] [] M Q := by
  unfold b145_55 at hQ
  unfold p145_55 at hp
  refine wp_go 1 (pc' := 56) (L' := [none, none, none, none, none, none]) (st' := [.int (0 : Int32)]) (M' := M) rfl ?_
  exact s145_56 n    (0 : Int32) M hp hQ
def b145_6 (n : Nat)  (l0 : Nat) (l1 : Int32) (l2 : Int32) (l3 : Int32) (l4 : Int32) (l5 : Int32) (s0 : Int32) (M : zM) : Int32 × zM := (if s0 = 0 then b145_55 n  M else (if l2 < 0 then b145_55 n  M else (if (zI M (zQ M l0 2) l1.toNatClampNeg) ≤ l2 then b145_55 n  M else (if l4 < 0 then b145_55 n  M else (if (zI M (zQ M l0 2) l3.toNatClampNeg) ≤ l4 then b145_55 n  M else (if l5 < 0 then b145_55 n  M else (if (24 : Int32) ≤ l5 then b145_55 n  M else b145_56 n  (1 : Int32) M)))))))
def p145_6 (n : Nat)  (l0 : Nat) (l1 : Int32) (l2 : Int32) (l3 : Int32) (l4 : Int32) (l5 : Int32) (s0 : Int32) (M : zM) : Prop := ((s0 = 0 → p145_55 n  M) ∧ (¬ s0 = 0 → ((l2 < 0 → p145_55 n  M) ∧ (¬ l2 < 0 → (zHasQ 10 13 l0 M 2) ∧ ((zOkI (zQ M l0 2) l1 M) ∧ ((((zI M (zQ M l0 2) l1.toNatClampNeg) ≤ l2 → p145_55 n  M) ∧ (¬ (zI M (zQ M l0 2) l1.toNatClampNeg) ≤ l2 → ((l4 < 0 → p145_55 n  M) ∧ (¬ l4 < 0 → (zHasQ 10 13 l0 M 2) ∧ ((zOkI (zQ M l0 2) l3 M) ∧ ((((zI M (zQ M l0 2) l3.toNatClampNeg) ≤ l4 → p145_55 n  M) ∧ (¬ (zI M (zQ M l0 2) l3.toNatClampNeg) ≤ l4 → ((l5 < 0 → p145_55 n  M) ∧ (¬ l5 < 0 → (((24 : Int32) ≤ l5 → p145_55 n  M) ∧ (¬ (24 : Int32) ≤ l5 → p145_56 n  (1 : Int32) M))))))))))))))))))
theorem s145_6 (n : Nat)    (l0 : Nat) (l1 : Int32) (l2 : Int32) (l3 : Int32) (l4 : Int32) (l5 : Int32) (s0 : Int32) (M : zM) (hp : p145_6 n  l0 l1 l2 l3 l4 l5 s0 M) {Q : Option Value → zM → Prop} (hQ : ∀ r M1, zRI (b145_6 n  l0 l1 l2 l3 l4 l5 s0 M) r M1 → Q r M1) : zWP 145 6 [some (.ref l0), some (.int l1), some (.int l2), some (.int l3), some (.int l4), some (.int l5)] [.int s0] M Q := by
  unfold b145_6 at hQ
  unfold p145_6 at hp
  refine wp_if_eq (t := 55) rfl rfl (fun hc => ?_) (fun hc => ?_)
  · rw [if_pos hc] at hQ
    replace hp := hp.1 hc
    refine wp_le [none, none, none, none, none, none] (zLe_of (by simp [zLeB])) ?_
    exact s145_55 n    M hp hQ
  · rw [if_neg hc] at hQ
    replace hp := hp.2 hc
    refine wp_go 1 (pc' := 10) (L' := [some (.ref l0), some (.int l1), some (.int l2), some (.int l3), some (.int l4), some (.int l5)]) (st' := [.int l2]) (M' := M) rfl ?_
    refine wp_if_lt (t := 55) rfl rfl (fun hc => ?_) (fun hc => ?_)
    · rw [if_pos hc] at hQ
      replace hp := hp.1 hc
      refine wp_le [none, none, none, none, none, none] (zLe_of (by simp [zLeB])) ?_
      exact s145_55 n    M hp hQ
    · rw [if_neg hc] at hQ
      replace hp := hp.2 hc
      refine wp_go 2 (pc' := 15) (L' := [some (.ref l0), some (.int l1), some (.int l2), some (.int l3), some (.int l4), some (.int l5)]) (st' := [.ref l0, .int l2]) (M' := M) rfl ?_
      obtain ⟨hc, hp⟩ := hp
      refine wq_getQ (j := 2) rfl hc ?_
      refine wp_go 1 (pc' := 19) (L' := [some (.ref l0), some (.int l1), some (.int l2), some (.int l3), some (.int l4), some (.int l5)]) (st' := [.int l1, .ref (zQ M l0 2), .int l2]) (M' := M) rfl ?_
      obtain ⟨hc, hp⟩ := hp
      refine wq_iald rfl hc ?_
      refine wp_ic_ge (t := 55) rfl rfl (fun hc => ?_) (fun hc => ?_)
      · rw [if_pos hc] at hQ
        replace hp := hp.1 hc
        refine wp_le [none, none, none, none, none, none] (zLe_of (by simp [zLeB])) ?_
        exact s145_55 n    M hp hQ
      · rw [if_neg hc] at hQ
        replace hp := hp.2 hc
        refine wp_go 1 (pc' := 25) (L' := [some (.ref l0), some (.int l1), some (.int l2), some (.int l3), some (.int l4), some (.int l5)]) (st' := [.int l4]) (M' := M) rfl ?_
        refine wp_if_lt (t := 55) rfl rfl (fun hc => ?_) (fun hc => ?_)
        · rw [if_pos hc] at hQ
          replace hp := hp.1 hc
          refine wp_le [none, none, none, none, none, none] (zLe_of (by simp [zLeB])) ?_
          exact s145_55 n    M hp hQ
        · rw [if_neg hc] at hQ
          replace hp := hp.2 hc
          refine wp_go 2 (pc' := 31) (L' := [some (.ref l0), some (.int l1), some (.int l2), some (.int l3), some (.int l4), some (.int l5)]) (st' := [.ref l0, .int l4]) (M' := M) rfl ?_
          obtain ⟨hc, hp⟩ := hp
          refine wq_getQ (j := 2) rfl hc ?_
          refine wp_go 1 (pc' := 35) (L' := [some (.ref l0), some (.int l1), some (.int l2), some (.int l3), some (.int l4), some (.int l5)]) (st' := [.int l3, .ref (zQ M l0 2), .int l4]) (M' := M) rfl ?_
          obtain ⟨hc, hp⟩ := hp
          refine wq_iald rfl hc ?_
          refine wp_ic_ge (t := 55) rfl rfl (fun hc => ?_) (fun hc => ?_)
          · rw [if_pos hc] at hQ
            replace hp := hp.1 hc
            refine wp_le [none, none, none, none, none, none] (zLe_of (by simp [zLeB])) ?_
            exact s145_55 n    M hp hQ
          · rw [if_neg hc] at hQ
            replace hp := hp.2 hc
            refine wp_go 1 (pc' := 41) (L' := [some (.ref l0), some (.int l1), some (.int l2), some (.int l3), some (.int l4), some (.int l5)]) (st' := [.int l5]) (M' := M) rfl ?_
            refine wp_if_lt (t := 55) rfl rfl (fun hc => ?_) (fun hc => ?_)
            · rw [if_pos hc] at hQ
              replace hp := hp.1 hc
              refine wp_le [none, none, none, none, none, none] (zLe_of (by simp [zLeB])) ?_
              exact s145_55 n    M hp hQ
            · rw [if_neg hc] at hQ
              replace hp := hp.2 hc
              refine wp_go 2 (pc' := 48) (L' := [some (.ref l0), some (.int l1), some (.int l2), some (.int l3), some (.int l4), some (.int l5)]) (st' := [.int (24 : Int32), .int l5]) (M' := M) rfl ?_
              refine wp_ic_ge (t := 55) rfl rfl (fun hc => ?_) (fun hc => ?_)
              · rw [if_pos hc] at hQ
                replace hp := hp.1 hc
                refine wp_le [none, none, none, none, none, none] (zLe_of (by simp [zLeB])) ?_
                exact s145_55 n    M hp hQ
              · rw [if_neg hc] at hQ
                replace hp := hp.2 hc
                refine wp_go 2 (pc' := 56) (L' := [some (.ref l0), some (.int l1), some (.int l2), some (.int l3), some (.int l4), some (.int l5)]) (st' := [.int (1 : Int32)]) (M' := M) rfl ?_
                refine wp_le [none, none, none, none, none, none] (zLe_of (by simp [zLeB])) ?_
                exact s145_56 n    (1 : Int32) M hp hQ
def b145_0 (n : Nat)  (l0 : Nat) (l1 : Int32) (l2 : Int32) (l3 : Int32) (l4 : Int32) (l5 : Int32) (M : zM) : Int32 × zM := b145_6 n  l0 l1 l2 l3 l4 l5 (b144_0 n l0 l1 l3 M).1 (b144_0 n l0 l1 l3 M).2
def p145_0 (n : Nat)  (l0 : Nat) (l1 : Int32) (l2 : Int32) (l3 : Int32) (l4 : Int32) (l5 : Int32) (M : zM) : Prop := (zHasC 145 217 l0 M 144 2) ∧ ((p144_0 n l0 l1 l3 M) ∧ (p145_6 n  l0 l1 l2 l3 l4 l5 (b144_0 n l0 l1 l3 M).1 (b144_0 n l0 l1 l3 M).2))
theorem s145_0 (n : Nat)    (l0 : Nat) (l1 : Int32) (l2 : Int32) (l3 : Int32) (l4 : Int32) (l5 : Int32) (M : zM) (hp : p145_0 n  l0 l1 l2 l3 l4 l5 M) {Q : Option Value → zM → Prop} (hQ : ∀ r M1, zRI (b145_0 n  l0 l1 l2 l3 l4 l5 M) r M1 → Q r M1) : zWP 145 0 [some (.ref l0), some (.int l1), some (.int l2), some (.int l3), some (.int l4), some (.int l5)] [] M Q := by
  unfold b145_0 at hQ
  unfold p145_0 at hp
  refine wp_go 3 (pc' := 3) (L' := [some (.ref l0), some (.int l1), some (.int l2), some (.int l3), some (.int l4), some (.int l5)]) (st' := [.int l3, .int l1, .ref l0]) (M' := M) rfl ?_
  obtain ⟨hv, hp⟩ := hp
  obtain ⟨hc, hp⟩ := hp
  refine wp_calli (v := (b144_0 n l0 l1 l3 M).1) (M1 := (b144_0 n l0 l1 l3 M).2) rfl rfl rfl (zInv_v (np := 2) rfl rfl hv rfl) (s144_0 n l0 l1 l3 M hc (fun r M1 h => h)) ?_
  exact s145_6 n    l0 l1 l2 l3 l4 l5 (b144_0 n l0 l1 l3 M).1 (b144_0 n l0 l1 l3 M).2 hp hQ
