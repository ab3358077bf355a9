/-! X12_fit -/
def b146_67 (n : Nat)  (l0 : Nat) (M : zM) : Int32 × zM := ((zI M l0 27), M)
def p146_67 (n : Nat)  (l0 : Nat) (M : zM) : Prop := (zHasI 10 208 l0 M 27) ∧ (True)
theorem s146_67 (n : Nat)    (l0 : Nat) (M : zM) (hp : p146_67 n  l0 M) {Q : Option Value → zM → Prop} (hQ : ∀ r M1, zRI (b146_67 n  l0 M) r M1 → Q r M1) : zWP 146 67 [some (.ref l0), none, none, none, none, none] [] M Q := by
  unfold b146_67 at hQ
  unfold p146_67 at hp
  refine wp_go 1 (pc' := 68) (L' := [some (.ref l0), none, none, none, none, none]) (st' := [.ref l0]) (M' := M) rfl ?_
  obtain ⟨hc, hp⟩ := hp
  refine wq_getI (j := 27) rfl hc ?_
  exact wp_ret (r := some (.int (zI M l0 27))) rfl rfl (hQ _ _ ⟨rfl, rfl⟩)
def b146_59 (n : Nat)  (l0 : Nat) (M : zM) : Int32 × zM := b146_67 n  l0 (zWI M l0 31 (zI M l0 29))
def p146_59 (n : Nat)  (l0 : Nat) (M : zM) : Prop := (zHasI 10 211 l0 M 29) ∧ ((zPutI 146 84 l0 M 31 (zI M l0 29)) ∧ (p146_67 n  l0 (zWI M l0 31 (zI M l0 29))))
theorem s146_59 (n : Nat)    (l0 : Nat) (M : zM) (hp : p146_59 n  l0 M) {Q : Option Value → zM → Prop} (hQ : ∀ r M1, zRI (b146_59 n  l0 M) r M1 → Q r M1) : zWP 146 59 [some (.ref l0), none, none, none, none, none] [] M Q := by
  unfold b146_59 at hQ
  unfold p146_59 at hp
  refine wp_go 2 (pc' := 61) (L' := [some (.ref l0), none, none, none, none, none]) (st' := [.ref l0, .ref l0]) (M' := M) rfl ?_
  obtain ⟨hc, hp⟩ := hp
  refine wq_getI (j := 29) rfl hc ?_
  obtain ⟨hc, hp⟩ := hp
  refine wq_putI (j := 31) rfl hc ?_
  exact s146_67 n    l0 (zWI M l0 31 (zI M l0 29)) hp hQ
def b146_51 (n : Nat)  (l0 : Nat) (M : zM) : Int32 × zM := b146_59 n  l0 (zWI M l0 30 (zI M l0 28))
def p146_51 (n : Nat)  (l0 : Nat) (M : zM) : Prop := (zHasI 10 214 l0 M 28) ∧ ((zPutI 146 81 l0 M 30 (zI M l0 28)) ∧ (p146_59 n  l0 (zWI M l0 30 (zI M l0 28))))
theorem s146_51 (n : Nat)    (l0 : Nat) (M : zM) (hp : p146_51 n  l0 M) {Q : Option Value → zM → Prop} (hQ : ∀ r M1, zRI (b146_51 n  l0 M) r M1 → Q r M1) : zWP 146 51 [some (.ref l0), none, none, none, none, none] [] M Q := by
  unfold b146_51 at hQ
  unfold p146_51 at hp
  refine wp_go 2 (pc' := 53) (L' := [some (.ref l0), none, none, none, none, none]) (st' := [.ref l0, .ref l0]) (M' := M) rfl ?_
  obtain ⟨hc, hp⟩ := hp
  refine wq_getI (j := 28) rfl hc ?_
  obtain ⟨hc, hp⟩ := hp
  refine wq_putI (j := 30) rfl hc ?_
  exact s146_59 n    l0 (zWI M l0 30 (zI M l0 28)) hp hQ
def b146_37 (n : Nat)  (l0 : Nat) (M : zM) : Int32 × zM := b146_51 n  l0 M
def p146_37 (n : Nat)  (l0 : Nat) (M : zM) : Prop := p146_51 n  l0 M
theorem s146_37 (n : Nat)    (l0 : Nat) (M : zM) (hp : p146_37 n  l0 M) {Q : Option Value → zM → Prop} (hQ : ∀ r M1, zRI (b146_37 n  l0 M) r M1 → Q r M1) : zWP 146 37 [some (.ref l0), none, none, none, none, none] [] M Q := by
  unfold b146_37 at hQ
  unfold p146_37 at hp
  refine wp_go 1 (pc' := 51) (L' := [some (.ref l0), none, none, none, none, none]) (st' := []) (M' := M) rfl ?_
  exact s146_51 n    l0 M hp hQ
def b146_16 (n : Nat)  (l0 : Nat) (l1 : Int32) (l2 : Int32) (l3 : Int32) (l4 : Int32) (l5 : Int32) (s0 : Int32) (M : zM) : Int32 × zM := (if s0 = 0 then (((-1) : Int32), M) else (if l3 ≤ l1 then b146_51 n  l0 (b143_0 n l0 l3 l4 l1 l2 l5 M) else b146_37 n  l0 (b143_0 n l0 l1 l2 l3 l4 l5 M)))
def p146_16 (n : Nat)  (l0 : Nat) (l1 : Int32) (l2 : Int32) (l3 : Int32) (l4 : Int32) (l5 : Int32) (s0 : Int32) (M : zM) : Prop := ((s0 = 0 → True) ∧ (¬ s0 = 0 → ((l3 ≤ l1 → (zHasC 146 224 l0 M 143 5) ∧ ((p143_0 n l0 l3 l4 l1 l2 l5 M) ∧ (p146_51 n  l0 (b143_0 n l0 l3 l4 l1 l2 l5 M)))) ∧ (¬ l3 ≤ l1 → (zHasC 146 224 l0 M 143 5) ∧ ((p143_0 n l0 l1 l2 l3 l4 l5 M) ∧ (p146_37 n  l0 (b143_0 n l0 l1 l2 l3 l4 l5 M)))))))
theorem s146_16 (n : Nat)    (l0 : Nat) (l1 : Int32) (l2 : Int32) (l3 : Int32) (l4 : Int32) (l5 : Int32) (s0 : Int32) (M : zM) (hp : p146_16 n  l0 l1 l2 l3 l4 l5 s0 M) {Q : Option Value → zM → Prop} (hQ : ∀ r M1, zRI (b146_16 n  l0 l1 l2 l3 l4 l5 s0 M) r M1 → Q r M1) : zWP 146 16 [some (.ref l0), some (.int l1), some (.int l2), some (.int l3), some (.int l4), some (.int l5)] [.int s0] M Q := by
  unfold b146_16 at hQ
  unfold p146_16 at hp
  refine wp_if_ne (t := 21) rfl rfl (fun hc => ?_) (fun hc => ?_)
  · rw [if_neg hc] at hQ
    replace hp := hp.2 hc
    refine wp_go 2 (pc' := 23) (L' := [some (.ref l0), some (.int l1), some (.int l2), some (.int l3), some (.int l4), some (.int l5)]) (st' := [.int l3, .int l1]) (M' := M) rfl ?_
    refine wp_ic_ge (t := 40) rfl rfl (fun hc => ?_) (fun hc => ?_)
    · rw [if_pos hc] at hQ
      replace hp := hp.1 hc
      refine wp_go 5 (pc' := 46) (L' := [some (.ref l0), some (.int l1), some (.int l2), some (.int l3), some (.int l4), some (.int l5)]) (st' := [.int l2, .int l1, .int l4, .int l3, .ref l0]) (M' := M) rfl ?_
      refine wp_go 1 (pc' := 48) (L' := [some (.ref l0), some (.int l1), some (.int l2), some (.int l3), some (.int l4), some (.int l5)]) (st' := [.int l5, .int l2, .int l1, .int l4, .int l3, .ref l0]) (M' := M) rfl ?_
      obtain ⟨hv, hp⟩ := hp
      obtain ⟨hc, hp⟩ := hp
      refine wp_callv (M1 := (b143_0 n l0 l3 l4 l1 l2 l5 M)) rfl rfl rfl (zInv_v (np := 5) rfl rfl hv rfl) (s143_0 n l0 l3 l4 l1 l2 l5 M hc (fun r M1 h => h)) ?_
      refine wp_le [some (.ref l0), none, none, none, none, none] (zLe_of (by simp [zLeB])) ?_
      exact s146_51 n    l0 (b143_0 n l0 l3 l4 l1 l2 l5 M) hp hQ
    · rw [if_neg hc] at hQ
      replace hp := hp.2 hc
      refine wp_go 5 (pc' := 32) (L' := [some (.ref l0), some (.int l1), some (.int l2), some (.int l3), some (.int l4), some (.int l5)]) (st' := [.int l4, .int l3, .int l2, .int l1, .ref l0]) (M' := M) rfl ?_
      refine wp_go 1 (pc' := 34) (L' := [some (.ref l0), some (.int l1), some (.int l2), some (.int l3), some (.int l4), some (.int l5)]) (st' := [.int l5, .int l4, .int l3, .int l2, .int l1, .ref l0]) (M' := M) rfl ?_
      obtain ⟨hv, hp⟩ := hp
      obtain ⟨hc, hp⟩ := hp
      refine wp_callv (M1 := (b143_0 n l0 l1 l2 l3 l4 l5 M)) rfl rfl rfl (zInv_v (np := 5) rfl rfl hv rfl) (s143_0 n l0 l1 l2 l3 l4 l5 M hc (fun r M1 h => h)) ?_
      refine wp_le [some (.ref l0), none, none, none, none, none] (zLe_of (by simp [zLeB])) ?_
      exact s146_37 n    l0 (b143_0 n l0 l1 l2 l3 l4 l5 M) hp hQ
  · rw [if_pos hc] at hQ
    replace hp := hp.1 hc
    refine wp_go 1 (pc' := 20) (L' := [some (.ref l0), some (.int l1), some (.int l2), some (.int l3), some (.int l4), some (.int l5)]) (st' := [.int ((-1) : Int32)]) (M' := M) rfl ?_
    exact wp_ret (r := some (.int ((-1) : Int32))) rfl rfl (hQ _ _ ⟨rfl, rfl⟩)
def b146_5 (n : Nat)  (l0 : Nat) (l1 : Int32) (l2 : Int32) (l3 : Int32) (l4 : Int32) (l5 : Int32) (M : zM) : Int32 × zM := b146_16 n  l0 l1 l2 l3 l4 l5 (b145_0 n l0 l1 l2 l3 l4 l5 M).1 (b145_0 n l0 l1 l2 l3 l4 l5 M).2
def p146_5 (n : Nat)  (l0 : Nat) (l1 : Int32) (l2 : Int32) (l3 : Int32) (l4 : Int32) (l5 : Int32) (M : zM) : Prop := (zHasC 146 220 l0 M 145 5) ∧ ((p145_0 n l0 l1 l2 l3 l4 l5 M) ∧ (p146_16 n  l0 l1 l2 l3 l4 l5 (b145_0 n l0 l1 l2 l3 l4 l5 M).1 (b145_0 n l0 l1 l2 l3 l4 l5 M).2))
theorem s146_5 (n : Nat)    (l0 : Nat) (l1 : Int32) (l2 : Int32) (l3 : Int32) (l4 : Int32) (l5 : Int32) (M : zM) (hp : p146_5 n  l0 l1 l2 l3 l4 l5 M) {Q : Option Value → zM → Prop} (hQ : ∀ r M1, zRI (b146_5 n  l0 l1 l2 l3 l4 l5 M) r M1 → Q r M1) : zWP 146 5 [some (.ref l0), some (.int l1), some (.int l2), some (.int l3), some (.int l4), some (.int l5)] [] M Q := by
  unfold b146_5 at hQ
  unfold p146_5 at hp
  refine wp_go 5 (pc' := 11) (L' := [some (.ref l0), some (.int l1), some (.int l2), some (.int l3), some (.int l4), some (.int l5)]) (st' := [.int l4, .int l3, .int l2, .int l1, .ref l0]) (M' := M) rfl ?_
  refine wp_go 1 (pc' := 13) (L' := [some (.ref l0), some (.int l1), some (.int l2), some (.int l3), some (.int l4), some (.int l5)]) (st' := [.int l5, .int l4, .int l3, .int l2, .int l1, .ref l0]) (M' := M) rfl ?_
  obtain ⟨hv, hp⟩ := hp
  obtain ⟨hc, hp⟩ := hp
  refine wp_calli (v := (b145_0 n l0 l1 l2 l3 l4 l5 M).1) (M1 := (b145_0 n l0 l1 l2 l3 l4 l5 M).2) rfl rfl rfl (zInv_v (np := 5) rfl rfl hv rfl) (s145_0 n l0 l1 l2 l3 l4 l5 M hc (fun r M1 h => h)) ?_
  exact s146_16 n    l0 l1 l2 l3 l4 l5 (b145_0 n l0 l1 l2 l3 l4 l5 M).1 (b145_0 n l0 l1 l2 l3 l4 l5 M).2 hp hQ
def b146_0 (n : Nat)  (l0 : Nat) (l1 : Int32) (l2 : Int32) (l3 : Int32) (l4 : Int32) (l5 : Int32) (M : zM) : Int32 × zM := b146_5 n  l0 l1 l2 l3 l4 l5 (zWI M l0 26 (0 : Int32))
def p146_0 (n : Nat)  (l0 : Nat) (l1 : Int32) (l2 : Int32) (l3 : Int32) (l4 : Int32) (l5 : Int32) (M : zM) : Prop := (zPutI 146 138 l0 M 26 (0 : Int32)) ∧ (p146_5 n  l0 l1 l2 l3 l4 l5 (zWI M l0 26 (0 : Int32)))
theorem s146_0 (n : Nat)    (l0 : Nat) (l1 : Int32) (l2 : Int32) (l3 : Int32) (l4 : Int32) (l5 : Int32) (M : zM) (hp : p146_0 n  l0 l1 l2 l3 l4 l5 M) {Q : Option Value → zM → Prop} (hQ : ∀ r M1, zRI (b146_0 n  l0 l1 l2 l3 l4 l5 M) r M1 → Q r M1) : zWP 146 0 [some (.ref l0), some (.int l1), some (.int l2), some (.int l3), some (.int l4), some (.int l5)] [] M Q := by
  unfold b146_0 at hQ
  unfold p146_0 at hp
  refine wp_go 2 (pc' := 2) (L' := [some (.ref l0), some (.int l1), some (.int l2), some (.int l3), some (.int l4), some (.int l5)]) (st' := [.int (0 : Int32), .ref l0]) (M' := M) rfl ?_
  obtain ⟨hc, hp⟩ := hp
  refine wq_putI (j := 26) rfl hc ?_
  exact s146_5 n    l0 l1 l2 l3 l4 l5 (zWI M l0 26 (0 : Int32)) hp hQ
/-! X12_fitted -/
def b147_29 (n : Nat)  (s0 : Int32) (M : zM) : Int32 × zM := (s0, M)
def p147_29 (n : Nat)  (s0 : Int32) (M : zM) : Prop := True
theorem s147_29 (n : Nat)    (s0 : Int32) (M : zM) (hp : p147_29 n  s0 M) {Q : Option Value → zM → Prop} (hQ : ∀ r M1, zRI (b147_29 n  s0 M) r M1 → Q r M1) : zWP 147 29 [none, none] [.int s0] M Q := by
  unfold b147_29 at hQ
  unfold p147_29 at hp
  exact wp_ret (r := some (.int s0)) rfl rfl (hQ _ _ ⟨rfl, rfl⟩)
def b147_5 (n : Nat)  (l0 : Nat) (l1 : Int32) (M : zM) : Int32 × zM := (if l1 = 0 then b147_29 n  (zI M l0 30) M else (if l1 = (1 : Int32) then b147_29 n  (zI M l0 31) M else b147_29 n  ((-1) : Int32) M))
def p147_5 (n : Nat)  (l0 : Nat) (l1 : Int32) (M : zM) : Prop := ((l1 = 0 → (zHasI 10 81 l0 M 30) ∧ (p147_29 n  (zI M l0 30) M)) ∧ (¬ l1 = 0 → ((l1 = (1 : Int32) → (zHasI 10 84 l0 M 31) ∧ (p147_29 n  (zI M l0 31) M)) ∧ (¬ l1 = (1 : Int32) → p147_29 n  ((-1) : Int32) M))))
theorem s147_5 (n : Nat)    (l0 : Nat) (l1 : Int32) (M : zM) (hp : p147_5 n  l0 l1 M) {Q : Option Value → zM → Prop} (hQ : ∀ r M1, zRI (b147_5 n  l0 l1 M) r M1 → Q r M1) : zWP 147 5 [some (.ref l0), some (.int l1)] [] M Q := by
  unfold b147_5 at hQ
  unfold p147_5 at hp
  refine wp_go 1 (pc' := 6) (L' := [some (.ref l0), some (.int l1)]) (st' := [.int l1]) (M' := M) rfl ?_
  refine wp_if_ne (t := 16) rfl rfl (fun hc => ?_) (fun hc => ?_)
  · rw [if_neg hc] at hQ
    replace hp := hp.2 hc
    refine wp_go 2 (pc' := 18) (L' := [some (.ref l0), some (.int l1)]) (st' := [.int (1 : Int32), .int l1]) (M' := M) rfl ?_
    refine wp_ic_ne (t := 28) rfl rfl (fun hc => ?_) (fun hc => ?_)
    · rw [if_neg hc] at hQ
      replace hp := hp.2 hc
      refine wp_go 1 (pc' := 29) (L' := [some (.ref l0), some (.int l1)]) (st' := [.int ((-1) : Int32)]) (M' := M) rfl ?_
      refine wp_le [none, none] (zLe_of (by simp [zLeB])) ?_
      exact s147_29 n    ((-1) : Int32) M hp hQ
    · rw [if_pos hc] at hQ
      replace hp := hp.1 hc
      refine wp_go 1 (pc' := 22) (L' := [some (.ref l0), some (.int l1)]) (st' := [.ref l0]) (M' := M) rfl ?_
      obtain ⟨hc, hp⟩ := hp
      refine wq_getI (j := 31) rfl hc ?_
      refine wp_go 1 (pc' := 29) (L' := [some (.ref l0), some (.int l1)]) (st' := [.int (zI M l0 31)]) (M' := M) rfl ?_
      refine wp_le [none, none] (zLe_of (by simp [zLeB])) ?_
      exact s147_29 n    (zI M l0 31) M hp hQ
  · rw [if_pos hc] at hQ
    replace hp := hp.1 hc
    refine wp_go 1 (pc' := 10) (L' := [some (.ref l0), some (.int l1)]) (st' := [.ref l0]) (M' := M) rfl ?_
    obtain ⟨hc, hp⟩ := hp
    refine wq_getI (j := 30) rfl hc ?_
    refine wp_go 1 (pc' := 29) (L' := [some (.ref l0), some (.int l1)]) (st' := [.int (zI M l0 30)]) (M' := M) rfl ?_
    refine wp_le [none, none] (zLe_of (by simp [zLeB])) ?_
    exact s147_29 n    (zI M l0 30) M hp hQ
def b147_0 (n : Nat)  (l0 : Nat) (l1 : Int32) (M : zM) : Int32 × zM := b147_5 n  l0 l1 (zWI M l0 26 (0 : Int32))
def p147_0 (n : Nat)  (l0 : Nat) (l1 : Int32) (M : zM) : Prop := (zPutI 147 138 l0 M 26 (0 : Int32)) ∧ (p147_5 n  l0 l1 (zWI M l0 26 (0 : Int32)))
theorem s147_0 (n : Nat)    (l0 : Nat) (l1 : Int32) (M : zM) (hp : p147_0 n  l0 l1 M) {Q : Option Value → zM → Prop} (hQ : ∀ r M1, zRI (b147_0 n  l0 l1 M) r M1 → Q r M1) : zWP 147 0 [some (.ref l0), some (.int l1)] [] M Q := by
  unfold b147_0 at hQ
  unfold p147_0 at hp
  refine wp_go 2 (pc' := 2) (L' := [some (.ref l0), some (.int l1)]) (st' := [.int (0 : Int32), .ref l0]) (M' := M) rfl ?_
  obtain ⟨hc, hp⟩ := hp
  refine wq_putI (j := 26) rfl hc ?_
  exact s147_5 n    l0 l1 (zWI M l0 26 (0 : Int32)) hp hQ
/-! X12_isSpan -/
def b148_100 (n : Nat)  (s0 : Int32) (M : zM) : Int32 × zM := (s0, M)
def p148_100 (n : Nat)  (s0 : Int32) (M : zM) : Prop := zNar .boolean s0 = true
theorem s148_100 (n : Nat)    (s0 : Int32) (M : zM) (hp : p148_100 n  s0 M) {Q : Option Value → zM → Prop} (hQ : ∀ r M1, zRI (b148_100 n  s0 M) r M1 → Q r M1) : zWP 148 100 [none, none, none, none, none, none] [.int s0] M Q := by
  unfold b148_100 at hQ
  unfold p148_100 at hp
  exact wp_retz rfl rfl hp (hQ _ _ ⟨rfl, rfl⟩)
def b148_84 (n : Nat)  (l0 : Nat) (M : zM) : Int32 × zM := (if (zI M l0 32) < (zI M l0 27) then b148_100 n  (0 : Int32) M else b148_100 n  (1 : Int32) M)
def p148_84 (n : Nat)  (l0 : Nat) (M : zM) : Prop := (zHasI 10 208 l0 M 27) ∧ ((zHasI 10 228 l0 M 32) ∧ ((((zI M l0 32) < (zI M l0 27) → p148_100 n  (0 : Int32) M) ∧ (¬ (zI M l0 32) < (zI M l0 27) → p148_100 n  (1 : Int32) M))))
theorem s148_84 (n : Nat)    (l0 : Nat) (M : zM) (hp : p148_84 n  l0 M) {Q : Option Value → zM → Prop} (hQ : ∀ r M1, zRI (b148_84 n  l0 M) r M1 → Q r M1) : zWP 148 84 [some (.ref l0), none, none, none, none, none] [] M Q := by
  unfold b148_84 at hQ
  unfold p148_84 at hp
  refine wp_go 1 (pc' := 85) (L' := [some (.ref l0), none, none, none, none, none]) (st' := [.ref l0]) (M' := M) rfl ?_
  obtain ⟨hc, hp⟩ := hp
  refine wq_getI (j := 27) rfl hc ?_
  refine wp_go 1 (pc' := 89) (L' := [some (.ref l0), none, none, none, none, none]) (st' := [.ref l0, .int (zI M l0 27)]) (M' := M) rfl ?_
  obtain ⟨hc, hp⟩ := hp
  refine wq_getI (j := 32) rfl hc ?_
  refine wp_ic_gt (t := 99) rfl rfl (fun hc => ?_) (fun hc => ?_)
  · rw [if_pos hc] at hQ
    replace hp := hp.1 hc
    refine wp_go 1 (pc' := 100) (L' := [some (.ref l0), none, none, none, none, none]) (st' := [.int (0 : Int32)]) (M' := M) rfl ?_
    refine wp_le [none, none, none, none, none, none] (zLe_of (by simp [zLeB])) ?_
    exact s148_100 n    (0 : Int32) M hp hQ
  · rw [if_neg hc] at hQ
    replace hp := hp.2 hc
    refine wp_go 2 (pc' := 100) (L' := [some (.ref l0), none, none, none, none, none]) (st' := [.int (1 : Int32)]) (M' := M) rfl ?_
    refine wp_le [none, none, none, none, none, none] (zLe_of (by simp [zLeB])) ?_
    exact s148_100 n    (1 : Int32) M hp hQ
def b148_48 (n : Nat)  (l0 : Nat) (l1 : Int32) (l2 : Int32) (l3 : Int32) (l4 : Int32) (l5 : Int32) (M : zM) : Int32 × zM := b148_84 n  l0 (b143_0 n l0 l1 (((l2 + (zI M (zQ M l0 2) l1.toNatClampNeg)) - (1 : Int32)) - ((l2 + (zI M (zQ M l0 2) l1.toNatClampNeg)) - (1 : Int32)) / (zI M (zQ M l0 2) l1.toNatClampNeg) * (zI M (zQ M l0 2) l1.toNatClampNeg)) l3 ((l4 + (1 : Int32)) - (l4 + (1 : Int32)) / (zI M (zQ M l0 2) l3.toNatClampNeg) * (zI M (zQ M l0 2) l3.toNatClampNeg)) l5 M)
def p148_48 (n : Nat)  (l0 : Nat) (l1 : Int32) (l2 : Int32) (l3 : Int32) (l4 : Int32) (l5 : Int32) (M : zM) : Prop := (zHasQ 10 13 l0 M 2) ∧ ((zOkI (zQ M l0 2) l1 M) ∧ ((zHasQ 10 13 l0 M 2) ∧ ((zOkI (zQ M l0 2) l1 M) ∧ ((¬ (zI M (zQ M l0 2) l1.toNatClampNeg) = 0) ∧ ((zHasQ 10 13 l0 M 2) ∧ ((zOkI (zQ M l0 2) l3 M) ∧ ((¬ (zI M (zQ M l0 2) l3.toNatClampNeg) = 0) ∧ ((zHasC 148 224 l0 M 143 5) ∧ ((p143_0 n l0 l1 (((l2 + (zI M (zQ M l0 2) l1.toNatClampNeg)) - (1 : Int32)) - ((l2 + (zI M (zQ M l0 2) l1.toNatClampNeg)) - (1 : Int32)) / (zI M (zQ M l0 2) l1.toNatClampNeg) * (zI M (zQ M l0 2) l1.toNatClampNeg)) l3 ((l4 + (1 : Int32)) - (l4 + (1 : Int32)) / (zI M (zQ M l0 2) l3.toNatClampNeg) * (zI M (zQ M l0 2) l3.toNatClampNeg)) l5 M) ∧ (p148_84 n  l0 (b143_0 n l0 l1 (((l2 + (zI M (zQ M l0 2) l1.toNatClampNeg)) - (1 : Int32)) - ((l2 + (zI M (zQ M l0 2) l1.toNatClampNeg)) - (1 : Int32)) / (zI M (zQ M l0 2) l1.toNatClampNeg) * (zI M (zQ M l0 2) l1.toNatClampNeg)) l3 ((l4 + (1 : Int32)) - (l4 + (1 : Int32)) / (zI M (zQ M l0 2) l3.toNatClampNeg) * (zI M (zQ M l0 2) l3.toNatClampNeg)) l5 M)))))))))))
theorem s148_48 (n : Nat)    (l0 : Nat) (l1 : Int32) (l2 : Int32) (l3 : Int32) (l4 : Int32) (l5 : Int32) (M : zM) (hp : p148_48 n  l0 l1 l2 l3 l4 l5 M) {Q : Option Value → zM → Prop} (hQ : ∀ r M1, zRI (b148_48 n  l0 l1 l2 l3 l4 l5 M) r M1 → Q r M1) : zWP 148 48 [some (.ref l0), some (.int l1), some (.int l2), some (.int l3), some (.int l4), some (.int l5)] [] M Q := by
  unfold b148_48 at hQ
  unfold p148_48 at hp
  refine wp_go 4 (pc' := 52) (L' := [some (.ref l0), some (.int l1), some (.int l2), some (.int l3), some (.int l4), some (.int l5)]) (st' := [.ref l0, .int l2, .int l1, .ref l0]) (M' := M) rfl ?_
  obtain ⟨hc, hp⟩ := hp
  refine wq_getQ (j := 2) rfl hc ?_
  refine wp_go 1 (pc' := 56) (L' := [some (.ref l0), some (.int l1), some (.int l2), some (.int l3), some (.int l4), some (.int l5)]) (st' := [.int l1, .ref (zQ M l0 2), .int l2, .int l1, .ref l0]) (M' := M) rfl ?_
  obtain ⟨hc, hp⟩ := hp
  refine wq_iald rfl hc ?_
  refine wp_go 4 (pc' := 61) (L' := [some (.ref l0), some (.int l1), some (.int l2), some (.int l3), some (.int l4), some (.int l5)]) (st' := [.ref l0, .int ((l2 + (zI M (zQ M l0 2) l1.toNatClampNeg)) - (1 : Int32)), .int l1, .ref l0]) (M' := M) rfl ?_
  obtain ⟨hc, hp⟩ := hp
  refine wq_getQ (j := 2) rfl hc ?_
  refine wp_go 1 (pc' := 65) (L' := [some (.ref l0), some (.int l1), some (.int l2), some (.int l3), some (.int l4), some (.int l5)]) (st' := [.int l1, .ref (zQ M l0 2), .int ((l2 + (zI M (zQ M l0 2) l1.toNatClampNeg)) - (1 : Int32)), .int l1, .ref l0]) (M' := M) rfl ?_
  obtain ⟨hc, hp⟩ := hp
  refine wq_iald rfl hc ?_
  obtain ⟨hc, hp⟩ := hp
  refine wq_irem rfl hc ?_
  refine wp_go 5 (pc' := 73) (L' := [some (.ref l0), some (.int l1), some (.int l2), some (.int l3), some (.int l4), some (.int l5)]) (st' := [.ref l0, .int (l4 + (1 : Int32)), .int l3, .int (((l2 + (zI M (zQ M l0 2) l1.toNatClampNeg)) - (1 : Int32)) - ((l2 + (zI M (zQ M l0 2) l1.toNatClampNeg)) - (1 : Int32)) / (zI M (zQ M l0 2) l1.toNatClampNeg) * (zI M (zQ M l0 2) l1.toNatClampNeg)), .int l1, .ref l0]) (M' := M) rfl ?_
  obtain ⟨hc, hp⟩ := hp
  refine wq_getQ (j := 2) rfl hc ?_
  refine wp_go 1 (pc' := 77) (L' := [some (.ref l0), some (.int l1), some (.int l2), some (.int l3), some (.int l4), some (.int l5)]) (st' := [.int l3, .ref (zQ M l0 2), .int (l4 + (1 : Int32)), .int l3, .int (((l2 + (zI M (zQ M l0 2) l1.toNatClampNeg)) - (1 : Int32)) - ((l2 + (zI M (zQ M l0 2) l1.toNatClampNeg)) - (1 : Int32)) / (zI M (zQ M l0 2) l1.toNatClampNeg) * (zI M (zQ M l0 2) l1.toNatClampNeg)), .int l1, .ref l0]) (M' := M) rfl ?_
  obtain ⟨hc, hp⟩ := hp
  refine wq_iald rfl hc ?_
  obtain ⟨hc, hp⟩ := hp
  refine wq_irem rfl hc ?_
  refine wp_go 1 (pc' := 81) (L' := [some (.ref l0), some (.int l1), some (.int l2), some (.int l3), some (.int l4), some (.int l5)]) (st' := [.int l5, .int ((l4 + (1 : Int32)) - (l4 + (1 : Int32)) / (zI M (zQ M l0 2) l3.toNatClampNeg) * (zI M (zQ M l0 2) l3.toNatClampNeg)), .int l3, .int (((l2 + (zI M (zQ M l0 2) l1.toNatClampNeg)) - (1 : Int32)) - ((l2 + (zI M (zQ M l0 2) l1.toNatClampNeg)) - (1 : Int32)) / (zI M (zQ M l0 2) l1.toNatClampNeg) * (zI M (zQ M l0 2) l1.toNatClampNeg)), .int l1, .ref l0]) (M' := M) rfl ?_
  obtain ⟨hv, hp⟩ := hp
  obtain ⟨hc, hp⟩ := hp
  refine wp_callv (M1 := (b143_0 n l0 l1 (((l2 + (zI M (zQ M l0 2) l1.toNatClampNeg)) - (1 : Int32)) - ((l2 + (zI M (zQ M l0 2) l1.toNatClampNeg)) - (1 : Int32)) / (zI M (zQ M l0 2) l1.toNatClampNeg) * (zI M (zQ M l0 2) l1.toNatClampNeg)) l3 ((l4 + (1 : Int32)) - (l4 + (1 : Int32)) / (zI M (zQ M l0 2) l3.toNatClampNeg) * (zI M (zQ M l0 2) l3.toNatClampNeg)) l5 M)) rfl rfl rfl (zInv_v (np := 5) rfl rfl hv rfl) (s143_0 n l0 l1 (((l2 + (zI M (zQ M l0 2) l1.toNatClampNeg)) - (1 : Int32)) - ((l2 + (zI M (zQ M l0 2) l1.toNatClampNeg)) - (1 : Int32)) / (zI M (zQ M l0 2) l1.toNatClampNeg) * (zI M (zQ M l0 2) l1.toNatClampNeg)) l3 ((l4 + (1 : Int32)) - (l4 + (1 : Int32)) / (zI M (zQ M l0 2) l3.toNatClampNeg) * (zI M (zQ M l0 2) l3.toNatClampNeg)) l5 M hc (fun r M1 h => h)) ?_
  refine wp_le [some (.ref l0), none, none, none, none, none] (zLe_of (by simp [zLeB])) ?_
  exact s148_84 n    l0 (b143_0 n l0 l1 (((l2 + (zI M (zQ M l0 2) l1.toNatClampNeg)) - (1 : Int32)) - ((l2 + (zI M (zQ M l0 2) l1.toNatClampNeg)) - (1 : Int32)) / (zI M (zQ M l0 2) l1.toNatClampNeg) * (zI M (zQ M l0 2) l1.toNatClampNeg)) l3 ((l4 + (1 : Int32)) - (l4 + (1 : Int32)) / (zI M (zQ M l0 2) l3.toNatClampNeg) * (zI M (zQ M l0 2) l3.toNatClampNeg)) l5 M) hp hQ
def b148_40 (n : Nat)  (l0 : Nat) (l1 : Int32) (l2 : Int32) (l3 : Int32) (l4 : Int32) (l5 : Int32) (M : zM) : Int32 × zM := b148_48 n  l0 l1 l2 l3 l4 l5 (zWI M l0 34 (zI M l0 29))
def p148_40 (n : Nat)  (l0 : Nat) (l1 : Int32) (l2 : Int32) (l3 : Int32) (l4 : Int32) (l5 : Int32) (M : zM) : Prop := (zHasI 10 211 l0 M 29) ∧ ((zPutI 148 234 l0 M 34 (zI M l0 29)) ∧ (p148_48 n  l0 l1 l2 l3 l4 l5 (zWI M l0 34 (zI M l0 29))))
theorem s148_40 (n : Nat)    (l0 : Nat) (l1 : Int32) (l2 : Int32) (l3 : Int32) (l4 : Int32) (l5 : Int32) (M : zM) (hp : p148_40 n  l0 l1 l2 l3 l4 l5 M) {Q : Option Value → zM → Prop} (hQ : ∀ r M1, zRI (b148_40 n  l0 l1 l2 l3 l4 l5 M) r M1 → Q r M1) : zWP 148 40 [some (.ref l0), some (.int l1), some (.int l2), some (.int l3), some (.int l4), some (.int l5)] [] M Q := by
  unfold b148_40 at hQ
  unfold p148_40 at hp
  refine wp_go 2 (pc' := 42) (L' := [some (.ref l0), some (.int l1), some (.int l2), some (.int l3), some (.int l4), some (.int l5)]) (st' := [.ref l0, .ref l0]) (M' := M) rfl ?_
  obtain ⟨hc, hp⟩ := hp
  refine wq_getI (j := 29) rfl hc ?_
  obtain ⟨hc, hp⟩ := hp
  refine wq_putI (j := 34) rfl hc ?_
  exact s148_48 n    l0 l1 l2 l3 l4 l5 (zWI M l0 34 (zI M l0 29)) hp hQ
def b148_32 (n : Nat)  (l0 : Nat) (l1 : Int32) (l2 : Int32) (l3 : Int32) (l4 : Int32) (l5 : Int32) (M : zM) : Int32 × zM := b148_40 n  l0 l1 l2 l3 l4 l5 (zWI M l0 33 (zI M l0 28))
def p148_32 (n : Nat)  (l0 : Nat) (l1 : Int32) (l2 : Int32) (l3 : Int32) (l4 : Int32) (l5 : Int32) (M : zM) : Prop := (zHasI 10 214 l0 M 28) ∧ ((zPutI 148 231 l0 M 33 (zI M l0 28)) ∧ (p148_40 n  l0 l1 l2 l3 l4 l5 (zWI M l0 33 (zI M l0 28))))
theorem s148_32 (n : Nat)    (l0 : Nat) (l1 : Int32) (l2 : Int32) (l3 : Int32) (l4 : Int32) (l5 : Int32) (M : zM) (hp : p148_32 n  l0 l1 l2 l3 l4 l5 M) {Q : Option Value → zM → Prop} (hQ : ∀ r M1, zRI (b148_32 n  l0 l1 l2 l3 l4 l5 M) r M1 → Q r M1) : zWP 148 32 [some (.ref l0), some (.int l1), some (.int l2), some (.int l3), some (.int l4), some (.int l5)] [] M Q := by
  unfold b148_32 at hQ
  unfold p148_32 at hp
  refine wp_go 2 (pc' := 34) (L' := [some (.ref l0), some (.int l1), some (.int l2), some (.int l3), some (.int l4), some (.int l5)]) (st' := [.ref l0, .ref l0]) (M' := M) rfl ?_
  obtain ⟨hc, hp⟩ := hp
  refine wq_getI (j := 28) rfl hc ?_
  obtain ⟨hc, hp⟩ := hp
  refine wq_putI (j := 33) rfl hc ?_
  exact s148_40 n    l0 l1 l2 l3 l4 l5 (zWI M l0 33 (zI M l0 28)) hp hQ
def b148_11 (n : Nat)  (l0 : Nat) (l1 : Int32) (l2 : Int32) (l3 : Int32) (l4 : Int32) (l5 : Int32) (M : zM) : Int32 × zM := (if (zI M l0 11) ≤ (zI M l0 28) then b148_32 n  l0 l1 l2 l3 l4 l5 (zWI M l0 32 (zI M l0 27)) else ((0 : Int32), M))
def p148_11 (n : Nat)  (l0 : Nat) (l1 : Int32) (l2 : Int32) (l3 : Int32) (l4 : Int32) (l5 : Int32) (M : zM) : Prop := (zHasI 10 214 l0 M 28) ∧ ((zHasI 10 41 l0 M 11) ∧ ((((zI M l0 11) ≤ (zI M l0 28) → (zHasI 10 208 l0 M 27) ∧ ((zPutI 148 228 l0 M 32 (zI M l0 27)) ∧ (p148_32 n  l0 l1 l2 l3 l4 l5 (zWI M l0 32 (zI M l0 27))))) ∧ (¬ (zI M l0 11) ≤ (zI M l0 28) → True))))
theorem s148_11 (n : Nat)    (l0 : Nat) (l1 : Int32) (l2 : Int32) (l3 : Int32) (l4 : Int32) (l5 : Int32) (M : zM) (hp : p148_11 n  l0 l1 l2 l3 l4 l5 M) {Q : Option Value → zM → Prop} (hQ : ∀ r M1, zRI (b148_11 n  l0 l1 l2 l3 l4 l5 M) r M1 → Q r M1) : zWP 148 11 [some (.ref l0), some (.int l1), some (.int l2), some (.int l3), some (.int l4), some (.int l5)] [] M Q := by
  unfold b148_11 at hQ
  unfold p148_11 at hp
  refine wp_go 1 (pc' := 12) (L' := [some (.ref l0), some (.int l1), some (.int l2), some (.int l3), some (.int l4), some (.int l5)]) (st' := [.ref l0]) (M' := M) rfl ?_
  obtain ⟨hc, hp⟩ := hp
  refine wq_getI (j := 28) rfl hc ?_
  refine wp_go 1 (pc' := 16) (L' := [some (.ref l0), some (.int l1), some (.int l2), some (.int l3), some (.int l4), some (.int l5)]) (st' := [.ref l0, .int (zI M l0 28)]) (M' := M) rfl ?_
  obtain ⟨hc, hp⟩ := hp
  refine wq_getI (j := 11) rfl hc ?_
  refine wp_ic_ge (t := 24) rfl rfl (fun hc => ?_) (fun hc => ?_)
  · rw [if_pos hc] at hQ
    replace hp := hp.1 hc
    refine wp_go 2 (pc' := 26) (L' := [some (.ref l0), some (.int l1), some (.int l2), some (.int l3), some (.int l4), some (.int l5)]) (st' := [.ref l0, .ref l0]) (M' := M) rfl ?_
    obtain ⟨hc, hp⟩ := hp
    refine wq_getI (j := 27) rfl hc ?_
    obtain ⟨hc, hp⟩ := hp
    refine wq_putI (j := 32) rfl hc ?_
    exact s148_32 n    l0 l1 l2 l3 l4 l5 (zWI M l0 32 (zI M l0 27)) hp hQ
  · rw [if_neg hc] at hQ
    replace hp := hp.2 hc
    refine wp_go 1 (pc' := 23) (L' := [some (.ref l0), some (.int l1), some (.int l2), some (.int l3), some (.int l4), some (.int l5)]) (st' := [.int (0 : Int32)]) (M' := M) rfl ?_
    exact wp_ret (r := some (.int (0 : Int32))) rfl rfl (hQ _ _ ⟨rfl, rfl⟩)
def b148_0 (n : Nat)  (l0 : Nat) (l1 : Int32) (l2 : Int32) (l3 : Int32) (l4 : Int32) (l5 : Int32) (M : zM) : Int32 × zM := b148_11 n  l0 l1 l2 l3 l4 l5 (b143_0 n l0 l1 l2 l3 l4 l5 M)
def p148_0 (n : Nat)  (l0 : Nat) (l1 : Int32) (l2 : Int32) (l3 : Int32) (l4 : Int32) (l5 : Int32) (M : zM) : Prop := (zHasC 148 224 l0 M 143 5) ∧ ((p143_0 n l0 l1 l2 l3 l4 l5 M) ∧ (p148_11 n  l0 l1 l2 l3 l4 l5 (b143_0 n l0 l1 l2 l3 l4 l5 M)))
theorem s148_0 (n : Nat)    (l0 : Nat) (l1 : Int32) (l2 : Int32) (l3 : Int32) (l4 : Int32) (l5 : Int32) (M : zM) (hp : p148_0 n  l0 l1 l2 l3 l4 l5 M) {Q : Option Value → zM → Prop} (hQ : ∀ r M1, zRI (b148_0 n  l0 l1 l2 l3 l4 l5 M) r M1 → Q r M1) : zWP 148 0 [some (.ref l0), some (.int l1), some (.int l2), some (.int l3), some (.int l4), some (.int l5)] [] M Q := by
  unfold b148_0 at hQ
  unfold p148_0 at hp
  refine wp_go 5 (pc' := 6) (L' := [some (.ref l0), some (.int l1), some (.int l2), some (.int l3), some (.int l4), some (.int l5)]) (st' := [.int l4, .int l3, .int l2, .int l1, .ref l0]) (M' := M) rfl ?_
  refine wp_go 1 (pc' := 8) (L' := [some (.ref l0), some (.int l1), some (.int l2), some (.int l3), some (.int l4), some (.int l5)]) (st' := [.int l5, .int l4, .int l3, .int l2, .int l1, .ref l0]) (M' := M) rfl ?_
  obtain ⟨hv, hp⟩ := hp
  obtain ⟨hc, hp⟩ := hp
  refine wp_callv (M1 := (b143_0 n l0 l1 l2 l3 l4 l5 M)) rfl rfl rfl (zInv_v (np := 5) rfl rfl hv rfl) (s143_0 n l0 l1 l2 l3 l4 l5 M hc (fun r M1 h => h)) ?_
  exact s148_11 n    l0 l1 l2 l3 l4 l5 (b143_0 n l0 l1 l2 l3 l4 l5 M) hp hQ
/-! X12_isBefore -/
def b149_50 (n : Nat)  (s0 : Int32) (M : zM) : Int32 × zM := (s0, M)
def p149_50 (n : Nat)  (s0 : Int32) (M : zM) : Prop := zNar .boolean s0 = true
theorem s149_50 (n : Nat)    (s0 : Int32) (M : zM) (hp : p149_50 n  s0 M) {Q : Option Value → zM → Prop} (hQ : ∀ r M1, zRI (b149_50 n  s0 M) r M1 → Q r M1) : zWP 149 50 [none, none, none, none] [.int s0] M Q := by
  unfold b149_50 at hQ
  unfold p149_50 at hp
  exact wp_retz rfl rfl hp (hQ _ _ ⟨rfl, rfl⟩)
def b149_45 (n : Nat)   (M : zM) : Int32 × zM := b149_50 n  (1 : Int32) M
def p149_45 (n : Nat)   (M : zM) : Prop := p149_50 n  (1 : Int32) M
theorem s149_45 (n : Nat)     (M : zM) (hp : p149_45 n   M) {Q : Option Value → zM → Prop} (hQ : ∀ r M1, zRI (b149_45 n   M) r M1 → Q r M1) : zWP 149 45 [none, none, none, none] [] M Q := by
  unfold b149_45 at hQ
  unfold p149_45 at hp
  refine wp_go 2 (pc' := 50) (L' := [none, none, none, none]) (st' := [.int (1 : Int32)]) (M' := M) rfl ?_
  exact s149_50 n    (1 : Int32) M hp hQ
def b149_49 (n : Nat)   (M : zM) : Int32 × zM := b149_50 n  (0 : Int32) M
def p149_49 (n : Nat)   (M : zM) : Prop := p149_50 n  (0 : Int32) M
theorem s149_49 (n : Nat)     (M : zM) (hp : p149_49 n   M) {Q : Option Value → zM → Prop} (hQ : ∀ r M1, zRI (b149_49 n   M) r M1 → Q r M1) : zWP 149 49 [none, none, none, none] [] M Q := by
  unfold b149_49 at hQ
  unfold p149_49 at hp
  refine wp_go 1 (pc' := 50) (L' := [none, none, none, none]) (st' := [.int (0 : Int32)]) (M' := M) rfl ?_
  exact s149_50 n    (0 : Int32) M hp hQ
def b149_0 (n : Nat)  (l0 : Nat) (l1 : Int32) (l2 : Int32) (l3 : Int32) (M : zM) : Int32 × zM := (if (zI M (zQ M l0 35) (((6 : Int32) * l3) + (4 : Int32)).toNatClampNeg) < l1 then b149_45 n  M else (if l1 = (zI M (zQ M l0 35) (((6 : Int32) * l3) + (4 : Int32)).toNatClampNeg) then (if (zI M (zQ M l0 35) (((6 : Int32) * l3) + (5 : Int32)).toNatClampNeg) ≤ l2 then b149_49 n  M else b149_45 n  M) else b149_49 n  M))
def p149_0 (n : Nat)  (l0 : Nat) (l1 : Int32) (l2 : Int32) (l3 : Int32) (M : zM) : Prop := (zHasQ 10 87 l0 M 35) ∧ ((zOkI (zQ M l0 35) (((6 : Int32) * l3) + (4 : Int32)) M) ∧ ((((zI M (zQ M l0 35) (((6 : Int32) * l3) + (4 : Int32)).toNatClampNeg) < l1 → p149_45 n  M) ∧ (¬ (zI M (zQ M l0 35) (((6 : Int32) * l3) + (4 : Int32)).toNatClampNeg) < l1 → (zHasQ 10 87 l0 M 35) ∧ ((zOkI (zQ M l0 35) (((6 : Int32) * l3) + (4 : Int32)) M) ∧ (((l1 = (zI M (zQ M l0 35) (((6 : Int32) * l3) + (4 : Int32)).toNatClampNeg) → (zHasQ 10 87 l0 M 35) ∧ ((zOkI (zQ M l0 35) (((6 : Int32) * l3) + (5 : Int32)) M) ∧ ((((zI M (zQ M l0 35) (((6 : Int32) * l3) + (5 : Int32)).toNatClampNeg) ≤ l2 → p149_49 n  M) ∧ (¬ (zI M (zQ M l0 35) (((6 : Int32) * l3) + (5 : Int32)).toNatClampNeg) ≤ l2 → p149_45 n  M))))) ∧ (¬ l1 = (zI M (zQ M l0 35) (((6 : Int32) * l3) + (4 : Int32)).toNatClampNeg) → p149_49 n  M))))))))
theorem s149_0 (n : Nat)    (l0 : Nat) (l1 : Int32) (l2 : Int32) (l3 : Int32) (M : zM) (hp : p149_0 n  l0 l1 l2 l3 M) {Q : Option Value → zM → Prop} (hQ : ∀ r M1, zRI (b149_0 n  l0 l1 l2 l3 M) r M1 → Q r M1) : zWP 149 0 [some (.ref l0), some (.int l1), some (.int l2), some (.int l3)] [] M Q := by
  unfold b149_0 at hQ
  unfold p149_0 at hp
  refine wp_go 2 (pc' := 2) (L' := [some (.ref l0), some (.int l1), some (.int l2), some (.int l3)]) (st' := [.ref l0, .int l1]) (M' := M) rfl ?_
  obtain ⟨hc, hp⟩ := hp
  refine wq_getQ (j := 35) rfl hc ?_
  refine wp_go 5 (pc' := 11) (L' := [some (.ref l0), some (.int l1), some (.int l2), some (.int l3)]) (st' := [.int (((6 : Int32) * l3) + (4 : Int32)), .ref (zQ M l0 35), .int l1]) (M' := M) rfl ?_
  obtain ⟨hc, hp⟩ := hp
  refine wq_iald rfl hc ?_
  refine wp_ic_gt (t := 45) rfl rfl (fun hc => ?_) (fun hc => ?_)
  · rw [if_pos hc] at hQ
    replace hp := hp.1 hc
    refine wp_le [none, none, none, none] (zLe_of (by simp [zLeB])) ?_
    exact s149_45 n    M hp hQ
  · rw [if_neg hc] at hQ
    replace hp := hp.2 hc
    refine wp_go 2 (pc' := 17) (L' := [some (.ref l0), some (.int l1), some (.int l2), some (.int l3)]) (st' := [.ref l0, .int l1]) (M' := M) rfl ?_
    obtain ⟨hc, hp⟩ := hp
    refine wq_getQ (j := 35) rfl hc ?_
    refine wp_go 5 (pc' := 26) (L' := [some (.ref l0), some (.int l1), some (.int l2), some (.int l3)]) (st' := [.int (((6 : Int32) * l3) + (4 : Int32)), .ref (zQ M l0 35), .int l1]) (M' := M) rfl ?_
    obtain ⟨hc, hp⟩ := hp
    refine wq_iald rfl hc ?_
    refine wp_ic_ne (t := 49) rfl rfl (fun hc => ?_) (fun hc => ?_)
    · rw [if_neg hc] at hQ
      replace hp := hp.2 hc
      refine wp_le [none, none, none, none] (zLe_of (by simp [zLeB])) ?_
      exact s149_49 n    M hp hQ
    · rw [if_pos hc] at hQ
      replace hp := hp.1 hc
      refine wp_go 2 (pc' := 32) (L' := [some (.ref l0), some (.int l1), some (.int l2), some (.int l3)]) (st' := [.ref l0, .int l2]) (M' := M) rfl ?_
      obtain ⟨hc, hp⟩ := hp
      refine wq_getQ (j := 35) rfl hc ?_
      refine wp_go 5 (pc' := 41) (L' := [some (.ref l0), some (.int l1), some (.int l2), some (.int l3)]) (st' := [.int (((6 : Int32) * l3) + (5 : Int32)), .ref (zQ M l0 35), .int l2]) (M' := M) rfl ?_
      obtain ⟨hc, hp⟩ := hp
      refine wq_iald rfl hc ?_
      refine wp_ic_ge (t := 49) rfl rfl (fun hc => ?_) (fun hc => ?_)
      · rw [if_pos hc] at hQ
        replace hp := hp.1 hc
        refine wp_le [none, none, none, none] (zLe_of (by simp [zLeB])) ?_
        exact s149_49 n    M hp hQ
      · rw [if_neg hc] at hQ
        replace hp := hp.2 hc
        refine wp_le [none, none, none, none] (zLe_of (by simp [zLeB])) ?_
        exact s149_45 n    M hp hQ
/-! X12_spans -/
def b150_296 (n : Nat) (k50 : Nat → Int32 → Int32 → Int32 → Int32 → zM → Int32 × zM) (k64 : Nat → Int32 → Int32 → Int32 → Int32 → Int32 → zM → Int32 × zM) (k79 : Nat → Int32 → Int32 → Int32 → Int32 → Int32 → Int32 → zM → Int32 × zM) (l0 : Nat) (l3 : Int32) (l4 : Int32) (l5 : Int32) (l6 : Int32) (l7 : Int32) (l8 : Int32) (M : zM) : Int32 × zM := k79 l0 l3 l4 l5 l6 l7 (l8 + Int32.ofInt 1) M
def p150_296 (n : Nat) (q50 : Nat → Int32 → Int32 → Int32 → Int32 → zM → Prop) (q64 : Nat → Int32 → Int32 → Int32 → Int32 → Int32 → zM → Prop) (q79 : Nat → Int32 → Int32 → Int32 → Int32 → Int32 → Int32 → zM → Prop) (l0 : Nat) (l3 : Int32) (l4 : Int32) (l5 : Int32) (l6 : Int32) (l7 : Int32) (l8 : Int32) (M : zM) : Prop := q79 l0 l3 l4 l5 l6 l7 (l8 + Int32.ofInt 1) M
theorem s150_296 (n : Nat) (k50 : Nat → Int32 → Int32 → Int32 → Int32 → zM → Int32 × zM) (k64 : Nat → Int32 → Int32 → Int32 → Int32 → Int32 → zM → Int32 × zM) (k79 : Nat → Int32 → Int32 → Int32 → Int32 → Int32 → Int32 → zM → Int32 × zM) (q50 : Nat → Int32 → Int32 → Int32 → Int32 → zM → Prop) (q64 : Nat → Int32 → Int32 → Int32 → Int32 → Int32 → zM → Prop) (q79 : Nat → Int32 → Int32 → Int32 → Int32 → Int32 → Int32 → zM → Prop) (h50 : ∀ (l0 : Nat) (l3 : Int32) (l4 : Int32) (l5 : Int32) (l6 : Int32) (M : zM), q50 l0 l3 l4 l5 l6 M → ∀ {Q : Option Value → zM → Prop}, (∀ r M1, zRI (k50 l0 l3 l4 l5 l6 M) r M1 → Q r M1) → zWP 150 50 [some (.ref l0), none, none, some (.int l3), some (.int l4), some (.int l5), some (.int l6), none, none, none, none] [] M Q) (h64 : ∀ (l0 : Nat) (l3 : Int32) (l4 : Int32) (l5 : Int32) (l6 : Int32) (l7 : Int32) (M : zM), q64 l0 l3 l4 l5 l6 l7 M → ∀ {Q : Option Value → zM → Prop}, (∀ r M1, zRI (k64 l0 l3 l4 l5 l6 l7 M) r M1 → Q r M1) → zWP 150 64 [some (.ref l0), none, none, some (.int l3), some (.int l4), some (.int l5), some (.int l6), some (.int l7), none, none, none] [] M Q) (h79 : ∀ (l0 : Nat) (l3 : Int32) (l4 : Int32) (l5 : Int32) (l6 : Int32) (l7 : Int32) (l8 : Int32) (M : zM), q79 l0 l3 l4 l5 l6 l7 l8 M → ∀ {Q : Option Value → zM → Prop}, (∀ r M1, zRI (k79 l0 l3 l4 l5 l6 l7 l8 M) r M1 → Q r M1) → zWP 150 79 [some (.ref l0), none, none, some (.int l3), some (.int l4), some (.int l5), some (.int l6), some (.int l7), some (.int l8), none, none] [] M Q) (l0 : Nat) (l3 : Int32) (l4 : Int32) (l5 : Int32) (l6 : Int32) (l7 : Int32) (l8 : Int32) (M : zM) (hp : p150_296 n q50 q64 q79 l0 l3 l4 l5 l6 l7 l8 M) {Q : Option Value → zM → Prop} (hQ : ∀ r M1, zRI (b150_296 n k50 k64 k79 l0 l3 l4 l5 l6 l7 l8 M) r M1 → Q r M1) : zWP 150 296 [some (.ref l0), none, none, some (.int l3), some (.int l4), some (.int l5), some (.int l6), some (.int l7), some (.int l8), none, none] [] M Q := by
  unfold b150_296 at hQ
  unfold p150_296 at hp
  refine wp_go 2 (pc' := 79) (L' := [some (.ref l0), none, none, some (.int l3), some (.int l4), some (.int l5), some (.int l6), some (.int l7), some (.int (l8 + Int32.ofInt 1)), none, none]) (st' := []) (M' := M) rfl ?_
  exact h79 l0 l3 l4 l5 l6 l7 (l8 + Int32.ofInt 1) M hp hQ
def b150_277 (n : Nat) (k50 : Nat → Int32 → Int32 → Int32 → Int32 → zM → Int32 × zM) (k64 : Nat → Int32 → Int32 → Int32 → Int32 → Int32 → zM → Int32 × zM) (k79 : Nat → Int32 → Int32 → Int32 → Int32 → Int32 → Int32 → zM → Int32 × zM) (l0 : Nat) (l3 : Int32) (l4 : Int32) (l5 : Int32) (l6 : Int32) (l7 : Int32) (l8 : Int32) (M : zM) : Int32 × zM := (if (50 : Int32) ≤ (zI M l0 36) then b150_296 n k50 k64 k79 l0 l3 l4 l5 l6 l7 l8 M else b150_296 n k50 k64 k79 l0 l3 l4 l5 l6 l7 l8 (zWI M l0 36 ((zI M l0 36) + (1 : Int32))))
def p150_277 (n : Nat) (q50 : Nat → Int32 → Int32 → Int32 → Int32 → zM → Prop) (q64 : Nat → Int32 → Int32 → Int32 → Int32 → Int32 → zM → Prop) (q79 : Nat → Int32 → Int32 → Int32 → Int32 → Int32 → Int32 → zM → Prop) (l0 : Nat) (l3 : Int32) (l4 : Int32) (l5 : Int32) (l6 : Int32) (l7 : Int32) (l8 : Int32) (M : zM) : Prop := (zHasI 10 237 l0 M 36) ∧ ((((50 : Int32) ≤ (zI M l0 36) → p150_296 n q50 q64 q79 l0 l3 l4 l5 l6 l7 l8 M) ∧ (¬ (50 : Int32) ≤ (zI M l0 36) → (zHasI 10 237 l0 M 36) ∧ ((zPutI 150 237 l0 M 36 ((zI M l0 36) + (1 : Int32))) ∧ (p150_296 n q50 q64 q79 l0 l3 l4 l5 l6 l7 l8 (zWI M l0 36 ((zI M l0 36) + (1 : Int32))))))))
theorem s150_277 (n : Nat) (k50 : Nat → Int32 → Int32 → Int32 → Int32 → zM → Int32 × zM) (k64 : Nat → Int32 → Int32 → Int32 → Int32 → Int32 → zM → Int32 × zM) (k79 : Nat → Int32 → Int32 → Int32 → Int32 → Int32 → Int32 → zM → Int32 × zM) (q50 : Nat → Int32 → Int32 → Int32 → Int32 → zM → Prop) (q64 : Nat → Int32 → Int32 → Int32 → Int32 → Int32 → zM → Prop) (q79 : Nat → Int32 → Int32 → Int32 → Int32 → Int32 → Int32 → zM → Prop) (h50 : ∀ (l0 : Nat) (l3 : Int32) (l4 : Int32) (l5 : Int32) (l6 : Int32) (M : zM), q50 l0 l3 l4 l5 l6 M → ∀ {Q : Option Value → zM → Prop}, (∀ r M1, zRI (k50 l0 l3 l4 l5 l6 M) r M1 → Q r M1) → zWP 150 50 [some (.ref l0), none, none, some (.int l3), some (.int l4), some (.int l5), some (.int l6), none, none, none, none] [] M Q) (h64 : ∀ (l0 : Nat) (l3 : Int32) (l4 : Int32) (l5 : Int32) (l6 : Int32) (l7 : Int32) (M : zM), q64 l0 l3 l4 l5 l6 l7 M → ∀ {Q : Option Value → zM → Prop}, (∀ r M1, zRI (k64 l0 l3 l4 l5 l6 l7 M) r M1 → Q r M1) → zWP 150 64 [some (.ref l0), none, none, some (.int l3), some (.int l4), some (.int l5), some (.int l6), some (.int l7), none, none, none] [] M Q) (h79 : ∀ (l0 : Nat) (l3 : Int32) (l4 : Int32) (l5 : Int32) (l6 : Int32) (l7 : Int32) (l8 : Int32) (M : zM), q79 l0 l3 l4 l5 l6 l7 l8 M → ∀ {Q : Option Value → zM → Prop}, (∀ r M1, zRI (k79 l0 l3 l4 l5 l6 l7 l8 M) r M1 → Q r M1) → zWP 150 79 [some (.ref l0), none, none, some (.int l3), some (.int l4), some (.int l5), some (.int l6), some (.int l7), some (.int l8), none, none] [] M Q) (l0 : Nat) (l3 : Int32) (l4 : Int32) (l5 : Int32) (l6 : Int32) (l7 : Int32) (l8 : Int32) (M : zM) (hp : p150_277 n q50 q64 q79 l0 l3 l4 l5 l6 l7 l8 M) {Q : Option Value → zM → Prop} (hQ : ∀ r M1, zRI (b150_277 n k50 k64 k79 l0 l3 l4 l5 l6 l7 l8 M) r M1 → Q r M1) : zWP 150 277 [some (.ref l0), none, none, some (.int l3), some (.int l4), some (.int l5), some (.int l6), some (.int l7), some (.int l8), none, none] [] M Q := by
  unfold b150_277 at hQ
  unfold p150_277 at hp
  refine wp_go 1 (pc' := 278) (L' := [some (.ref l0), none, none, some (.int l3), some (.int l4), some (.int l5), some (.int l6), some (.int l7), some (.int l8), none, none]) (st' := [.ref l0]) (M' := M) rfl ?_
  obtain ⟨hc, hp⟩ := hp
  refine wq_getI (j := 36) rfl hc ?_
  refine wp_go 1 (pc' := 283) (L' := [some (.ref l0), none, none, some (.int l3), some (.int l4), some (.int l5), some (.int l6), some (.int l7), some (.int l8), none, none]) (st' := [.int (50 : Int32), .int (zI M l0 36)]) (M' := M) rfl ?_
  refine wp_ic_ge (t := 296) rfl rfl (fun hc => ?_) (fun hc => ?_)
  · rw [if_pos hc] at hQ
    replace hp := hp.1 hc
    exact s150_296 n k50 k64 k79 q50 q64 q79 h50 h64 h79 l0 l3 l4 l5 l6 l7 l8 M hp hQ
  · rw [if_neg hc] at hQ
    replace hp := hp.2 hc
    refine wp_go 2 (pc' := 288) (L' := [some (.ref l0), none, none, some (.int l3), some (.int l4), some (.int l5), some (.int l6), some (.int l7), some (.int l8), none, none]) (st' := [.ref l0, .ref l0]) (M' := M) rfl ?_
    obtain ⟨hc, hp⟩ := hp
    refine wq_getI (j := 36) rfl hc ?_
    refine wp_go 2 (pc' := 293) (L' := [some (.ref l0), none, none, some (.int l3), some (.int l4), some (.int l5), some (.int l6), some (.int l7), some (.int l8), none, none]) (st' := [.int ((zI M l0 36) + (1 : Int32)), .ref l0]) (M' := M) rfl ?_
    obtain ⟨hc, hp⟩ := hp
    refine wq_putI (j := 36) rfl hc ?_
    exact s150_296 n k50 k64 k79 q50 q64 q79 h50 h64 h79 l0 l3 l4 l5 l6 l7 l8 (zWI M l0 36 ((zI M l0 36) + (1 : Int32))) hp hQ
def b150_261 (n : Nat) (k50 : Nat → Int32 → Int32 → Int32 → Int32 → zM → Int32 × zM) (k64 : Nat → Int32 → Int32 → Int32 → Int32 → Int32 → zM → Int32 × zM) (k79 : Nat → Int32 → Int32 → Int32 → Int32 → Int32 → Int32 → zM → Int32 × zM) (l0 : Nat) (l3 : Int32) (l4 : Int32) (l5 : Int32) (l6 : Int32) (l7 : Int32) (l8 : Int32) (l9 : Int32) (M : zM) : Int32 × zM := b150_277 n k50 k64 k79 l0 l3 l4 l5 l6 l7 l8 (zWI M (zQ M l0 35) (((6 : Int32) * l9) + (5 : Int32)).toNatClampNeg (zI M l0 34))
def p150_261 (n : Nat) (q50 : Nat → Int32 → Int32 → Int32 → Int32 → zM → Prop) (q64 : Nat → Int32 → Int32 → Int32 → Int32 → Int32 → zM → Prop) (q79 : Nat → Int32 → Int32 → Int32 → Int32 → Int32 → Int32 → zM → Prop) (l0 : Nat) (l3 : Int32) (l4 : Int32) (l5 : Int32) (l6 : Int32) (l7 : Int32) (l8 : Int32) (l9 : Int32) (M : zM) : Prop := (zHasQ 10 87 l0 M 35) ∧ ((zHasI 10 234 l0 M 34) ∧ ((zOkT 1 (zQ M l0 35) (((6 : Int32) * l9) + (5 : Int32)) M) ∧ (p150_277 n q50 q64 q79 l0 l3 l4 l5 l6 l7 l8 (zWI M (zQ M l0 35) (((6 : Int32) * l9) + (5 : Int32)).toNatClampNeg (zI M l0 34)))))
theorem s150_261 (n : Nat) (k50 : Nat → Int32 → Int32 → Int32 → Int32 → zM → Int32 × zM) (k64 : Nat → Int32 → Int32 → Int32 → Int32 → Int32 → zM → Int32 × zM) (k79 : Nat → Int32 → Int32 → Int32 → Int32 → Int32 → Int32 → zM → Int32 × zM) (q50 : Nat → Int32 → Int32 → Int32 → Int32 → zM → Prop) (q64 : Nat → Int32 → Int32 → Int32 → Int32 → Int32 → zM → Prop) (q79 : Nat → Int32 → Int32 → Int32 → Int32 → Int32 → Int32 → zM → Prop) (h50 : ∀ (l0 : Nat) (l3 : Int32) (l4 : Int32) (l5 : Int32) (l6 : Int32) (M : zM), q50 l0 l3 l4 l5 l6 M → ∀ {Q : Option Value → zM → Prop}, (∀ r M1, zRI (k50 l0 l3 l4 l5 l6 M) r M1 → Q r M1) → zWP 150 50 [some (.ref l0), none, none, some (.int l3), some (.int l4), some (.int l5), some (.int l6), none, none, none, none] [] M Q) (h64 : ∀ (l0 : Nat) (l3 : Int32) (l4 : Int32) (l5 : Int32) (l6 : Int32) (l7 : Int32) (M : zM), q64 l0 l3 l4 l5 l6 l7 M → ∀ {Q : Option Value → zM → Prop}, (∀ r M1, zRI (k64 l0 l3 l4 l5 l6 l7 M) r M1 → Q r M1) → zWP 150 64 [some (.ref l0), none, none, some (.int l3), some (.int l4), some (.int l5), some (.int l6), some (.int l7), none, none, none] [] M Q) (h79 : ∀ (l0 : Nat) (l3 : Int32) (l4 : Int32) (l5 : Int32) (l6 : Int32) (l7 : Int32) (l8 : Int32) (M : zM), q79 l0 l3 l4 l5 l6 l7 l8 M → ∀ {Q : Option Value → zM → Prop}, (∀ r M1, zRI (k79 l0 l3 l4 l5 l6 l7 l8 M) r M1 → Q r M1) → zWP 150 79 [some (.ref l0), none, none, some (.int l3), some (.int l4), some (.int l5), some (.int l6), some (.int l7), some (.int l8), none, none] [] M Q) (l0 : Nat) (l3 : Int32) (l4 : Int32) (l5 : Int32) (l6 : Int32) (l7 : Int32) (l8 : Int32) (l9 : Int32) (M : zM) (hp : p150_261 n q50 q64 q79 l0 l3 l4 l5 l6 l7 l8 l9 M) {Q : Option Value → zM → Prop} (hQ : ∀ r M1, zRI (b150_261 n k50 k64 k79 l0 l3 l4 l5 l6 l7 l8 l9 M) r M1 → Q r M1) : zWP 150 261 [some (.ref l0), none, none, some (.int l3), some (.int l4), some (.int l5), some (.int l6), some (.int l7), some (.int l8), some (.int l9), none] [] M Q := by
  unfold b150_261 at hQ
  unfold p150_261 at hp
  refine wp_go 1 (pc' := 262) (L' := [some (.ref l0), none, none, some (.int l3), some (.int l4), some (.int l5), some (.int l6), some (.int l7), some (.int l8), some (.int l9), none]) (st' := [.ref l0]) (M' := M) rfl ?_
  obtain ⟨hc, hp⟩ := hp
  refine wq_getQ (j := 35) rfl hc ?_
  refine wp_go 5 (pc' := 272) (L' := [some (.ref l0), none, none, some (.int l3), some (.int l4), some (.int l5), some (.int l6), some (.int l7), some (.int l8), some (.int l9), none]) (st' := [.int (((6 : Int32) * l9) + (5 : Int32)), .ref (zQ M l0 35)]) (M' := M) rfl ?_
  refine wp_go 1 (pc' := 273) (L' := [some (.ref l0), none, none, some (.int l3), some (.int l4), some (.int l5), some (.int l6), some (.int l7), some (.int l8), some (.int l9), none]) (st' := [.ref l0, .int (((6 : Int32) * l9) + (5 : Int32)), .ref (zQ M l0 35)]) (M' := M) rfl ?_
  obtain ⟨hc, hp⟩ := hp
  refine wq_getI (j := 34) rfl hc ?_
  obtain ⟨hc, hp⟩ := hp
  refine wq_iast rfl hc ?_
  refine wp_le [some (.ref l0), none, none, some (.int l3), some (.int l4), some (.int l5), some (.int l6), some (.int l7), some (.int l8), none, none] (zLe_of (by simp [zLeB])) ?_
  exact s150_277 n k50 k64 k79 q50 q64 q79 h50 h64 h79 l0 l3 l4 l5 l6 l7 l8 (zWI M (zQ M l0 35) (((6 : Int32) * l9) + (5 : Int32)).toNatClampNeg (zI M l0 34)) hp hQ
def b150_245 (n : Nat) (k50 : Nat → Int32 → Int32 → Int32 → Int32 → zM → Int32 × zM) (k64 : Nat → Int32 → Int32 → Int32 → Int32 → Int32 → zM → Int32 × zM) (k79 : Nat → Int32 → Int32 → Int32 → Int32 → Int32 → Int32 → zM → Int32 × zM) (l0 : Nat) (l3 : Int32) (l4 : Int32) (l5 : Int32) (l6 : Int32) (l7 : Int32) (l8 : Int32) (l9 : Int32) (M : zM) : Int32 × zM := b150_261 n k50 k64 k79 l0 l3 l4 l5 l6 l7 l8 l9 (zWI M (zQ M l0 35) (((6 : Int32) * l9) + (4 : Int32)).toNatClampNeg (zI M l0 33))
def p150_245 (n : Nat) (q50 : Nat → Int32 → Int32 → Int32 → Int32 → zM → Prop) (q64 : Nat → Int32 → Int32 → Int32 → Int32 → Int32 → zM → Prop) (q79 : Nat → Int32 → Int32 → Int32 → Int32 → Int32 → Int32 → zM → Prop) (l0 : Nat) (l3 : Int32) (l4 : Int32) (l5 : Int32) (l6 : Int32) (l7 : Int32) (l8 : Int32) (l9 : Int32) (M : zM) : Prop := (zHasQ 10 87 l0 M 35) ∧ ((zHasI 10 231 l0 M 33) ∧ ((zOkT 1 (zQ M l0 35) (((6 : Int32) * l9) + (4 : Int32)) M) ∧ (p150_261 n q50 q64 q79 l0 l3 l4 l5 l6 l7 l8 l9 (zWI M (zQ M l0 35) (((6 : Int32) * l9) + (4 : Int32)).toNatClampNeg (zI M l0 33)))))
theorem s150_245 (n : Nat) (k50 : Nat → Int32 → Int32 → Int32 → Int32 → zM → Int32 × zM) (k64 : Nat → Int32 → Int32 → Int32 → Int32 → Int32 → zM → Int32 × zM) (k79 : Nat → Int32 → Int32 → Int32 → Int32 → Int32 → Int32 → zM → Int32 × zM) (q50 : Nat → Int32 → Int32 → Int32 → Int32 → zM → Prop) (q64 : Nat → Int32 → Int32 → Int32 → Int32 → Int32 → zM → Prop) (q79 : Nat → Int32 → Int32 → Int32 → Int32 → Int32 → Int32 → zM → Prop) (h50 : ∀ (l0 : Nat) (l3 : Int32) (l4 : Int32) (l5 : Int32) (l6 : Int32) (M : zM), q50 l0 l3 l4 l5 l6 M → ∀ {Q : Option Value → zM → Prop}, (∀ r M1, zRI (k50 l0 l3 l4 l5 l6 M) r M1 → Q r M1) → zWP 150 50 [some (.ref l0), none, none, some (.int l3), some (.int l4), some (.int l5), some (.int l6), none, none, none, none] [] M Q) (h64 : ∀ (l0 : Nat) (l3 : Int32) (l4 : Int32) (l5 : Int32) (l6 : Int32) (l7 : Int32) (M : zM), q64 l0 l3 l4 l5 l6 l7 M → ∀ {Q : Option Value → zM → Prop}, (∀ r M1, zRI (k64 l0 l3 l4 l5 l6 l7 M) r M1 → Q r M1) → zWP 150 64 [some (.ref l0), none, none, some (.int l3), some (.int l4), some (.int l5), some (.int l6), some (.int l7), none, none, none] [] M Q) (h79 : ∀ (l0 : Nat) (l3 : Int32) (l4 : Int32) (l5 : Int32) (l6 : Int32) (l7 : Int32) (l8 : Int32) (M : zM), q79 l0 l3 l4 l5 l6 l7 l8 M → ∀ {Q : Option Value → zM → Prop}, (∀ r M1, zRI (k79 l0 l3 l4 l5 l6 l7 l8 M) r M1 → Q r M1) → zWP 150 79 [some (.ref l0), none, none, some (.int l3), some (.int l4), some (.int l5), some (.int l6), some (.int l7), some (.int l8), none, none] [] M Q) (l0 : Nat) (l3 : Int32) (l4 : Int32) (l5 : Int32) (l6 : Int32) (l7 : Int32) (l8 : Int32) (l9 : Int32) (M : zM) (hp : p150_245 n q50 q64 q79 l0 l3 l4 l5 l6 l7 l8 l9 M) {Q : Option Value → zM → Prop} (hQ : ∀ r M1, zRI (b150_245 n k50 k64 k79 l0 l3 l4 l5 l6 l7 l8 l9 M) r M1 → Q r M1) : zWP 150 245 [some (.ref l0), none, none, some (.int l3), some (.int l4), some (.int l5), some (.int l6), some (.int l7), some (.int l8), some (.int l9), none] [] M Q := by
  unfold b150_245 at hQ
  unfold p150_245 at hp
  refine wp_go 1 (pc' := 246) (L' := [some (.ref l0), none, none, some (.int l3), some (.int l4), some (.int l5), some (.int l6), some (.int l7), some (.int l8), some (.int l9), none]) (st' := [.ref l0]) (M' := M) rfl ?_
  obtain ⟨hc, hp⟩ := hp
  refine wq_getQ (j := 35) rfl hc ?_
  refine wp_go 5 (pc' := 256) (L' := [some (.ref l0), none, none, some (.int l3), some (.int l4), some (.int l5), some (.int l6), some (.int l7), some (.int l8), some (.int l9), none]) (st' := [.int (((6 : Int32) * l9) + (4 : Int32)), .ref (zQ M l0 35)]) (M' := M) rfl ?_
  refine wp_go 1 (pc' := 257) (L' := [some (.ref l0), none, none, some (.int l3), some (.int l4), some (.int l5), some (.int l6), some (.int l7), some (.int l8), some (.int l9), none]) (st' := [.ref l0, .int (((6 : Int32) * l9) + (4 : Int32)), .ref (zQ M l0 35)]) (M' := M) rfl ?_
  obtain ⟨hc, hp⟩ := hp
  refine wq_getI (j := 33) rfl hc ?_
  obtain ⟨hc, hp⟩ := hp
  refine wq_iast rfl hc ?_
  exact s150_261 n k50 k64 k79 q50 q64 q79 h50 h64 h79 l0 l3 l4 l5 l6 l7 l8 l9 (zWI M (zQ M l0 35) (((6 : Int32) * l9) + (4 : Int32)).toNatClampNeg (zI M l0 33)) hp hQ
def b150_229 (n : Nat) (k50 : Nat → Int32 → Int32 → Int32 → Int32 → zM → Int32 × zM) (k64 : Nat → Int32 → Int32 → Int32 → Int32 → Int32 → zM → Int32 × zM) (k79 : Nat → Int32 → Int32 → Int32 → Int32 → Int32 → Int32 → zM → Int32 × zM) (l0 : Nat) (l3 : Int32) (l4 : Int32) (l5 : Int32) (l6 : Int32) (l7 : Int32) (l8 : Int32) (l9 : Int32) (M : zM) : Int32 × zM := b150_245 n k50 k64 k79 l0 l3 l4 l5 l6 l7 l8 l9 (zWI M (zQ M l0 35) (((6 : Int32) * l9) + (3 : Int32)).toNatClampNeg (zI M l0 32))
def p150_229 (n : Nat) (q50 : Nat → Int32 → Int32 → Int32 → Int32 → zM → Prop) (q64 : Nat → Int32 → Int32 → Int32 → Int32 → Int32 → zM → Prop) (q79 : Nat → Int32 → Int32 → Int32 → Int32 → Int32 → Int32 → zM → Prop) (l0 : Nat) (l3 : Int32) (l4 : Int32) (l5 : Int32) (l6 : Int32) (l7 : Int32) (l8 : Int32) (l9 : Int32) (M : zM) : Prop := (zHasQ 10 87 l0 M 35) ∧ ((zHasI 10 228 l0 M 32) ∧ ((zOkT 1 (zQ M l0 35) (((6 : Int32) * l9) + (3 : Int32)) M) ∧ (p150_245 n q50 q64 q79 l0 l3 l4 l5 l6 l7 l8 l9 (zWI M (zQ M l0 35) (((6 : Int32) * l9) + (3 : Int32)).toNatClampNeg (zI M l0 32)))))
theorem s150_229 (n : Nat) (k50 : Nat → Int32 → Int32 → Int32 → Int32 → zM → Int32 × zM) (k64 : Nat → Int32 → Int32 → Int32 → Int32 → Int32 → zM → Int32 × zM) (k79 : Nat → Int32 → Int32 → Int32 → Int32 → Int32 → Int32 → zM → Int32 × zM) (q50 : Nat → Int32 → Int32 → Int32 → Int32 → zM → Prop) (q64 : Nat → Int32 → Int32 → Int32 → Int32 → Int32 → zM → Prop) (q79 : Nat → Int32 → Int32 → Int32 → Int32 → Int32 → Int32 → zM → Prop) (h50 : ∀ (l0 : Nat) (l3 : Int32) (l4 : Int32) (l5 : Int32) (l6 : Int32) (M : zM), q50 l0 l3 l4 l5 l6 M → ∀ {Q : Option Value → zM → Prop}, (∀ r M1, zRI (k50 l0 l3 l4 l5 l6 M) r M1 → Q r M1) → zWP 150 50 [some (.ref l0), none, none, some (.int l3), some (.int l4), some (.int l5), some (.int l6), none, none, none, none] [] M Q) (h64 : ∀ (l0 : Nat) (l3 : Int32) (l4 : Int32) (l5 : Int32) (l6 : Int32) (l7 : Int32) (M : zM), q64 l0 l3 l4 l5 l6 l7 M → ∀ {Q : Option Value → zM → Prop}, (∀ r M1, zRI (k64 l0 l3 l4 l5 l6 l7 M) r M1 → Q r M1) → zWP 150 64 [some (.ref l0), none, none, some (.int l3), some (.int l4), some (.int l5), some (.int l6), some (.int l7), none, none, none] [] M Q) (h79 : ∀ (l0 : Nat) (l3 : Int32) (l4 : Int32) (l5 : Int32) (l6 : Int32) (l7 : Int32) (l8 : Int32) (M : zM), q79 l0 l3 l4 l5 l6 l7 l8 M → ∀ {Q : Option Value → zM → Prop}, (∀ r M1, zRI (k79 l0 l3 l4 l5 l6 l7 l8 M) r M1 → Q r M1) → zWP 150 79 [some (.ref l0), none, none, some (.int l3), some (.int l4), some (.int l5), some (.int l6), some (.int l7), some (.int l8), none, none] [] M Q) (l0 : Nat) (l3 : Int32) (l4 : Int32) (l5 : Int32) (l6 : Int32) (l7 : Int32) (l8 : Int32) (l9 : Int32) (M : zM) (hp : p150_229 n q50 q64 q79 l0 l3 l4 l5 l6 l7 l8 l9 M) {Q : Option Value → zM → Prop} (hQ : ∀ r M1, zRI (b150_229 n k50 k64 k79 l0 l3 l4 l5 l6 l7 l8 l9 M) r M1 → Q r M1) : zWP 150 229 [some (.ref l0), none, none, some (.int l3), some (.int l4), some (.int l5), some (.int l6), some (.int l7), some (.int l8), some (.int l9), none] [] M Q := by
  unfold b150_229 at hQ
  unfold p150_229 at hp
  refine wp_go 1 (pc' := 230) (L' := [some (.ref l0), none, none, some (.int l3), some (.int l4), some (.int l5), some (.int l6), some (.int l7), some (.int l8), some (.int l9), none]) (st' := [.ref l0]) (M' := M) rfl ?_
  obtain ⟨hc, hp⟩ := hp
  refine wq_getQ (j := 35) rfl hc ?_
  refine wp_go 5 (pc' := 240) (L' := [some (.ref l0), none, none, some (.int l3), some (.int l4), some (.int l5), some (.int l6), some (.int l7), some (.int l8), some (.int l9), none]) (st' := [.int (((6 : Int32) * l9) + (3 : Int32)), .ref (zQ M l0 35)]) (M' := M) rfl ?_
  refine wp_go 1 (pc' := 241) (L' := [some (.ref l0), none, none, some (.int l3), some (.int l4), some (.int l5), some (.int l6), some (.int l7), some (.int l8), some (.int l9), none]) (st' := [.ref l0, .int (((6 : Int32) * l9) + (3 : Int32)), .ref (zQ M l0 35)]) (M' := M) rfl ?_
  obtain ⟨hc, hp⟩ := hp
  refine wq_getI (j := 32) rfl hc ?_
  obtain ⟨hc, hp⟩ := hp
  refine wq_iast rfl hc ?_
  exact s150_245 n k50 k64 k79 q50 q64 q79 h50 h64 h79 l0 l3 l4 l5 l6 l7 l8 l9 (zWI M (zQ M l0 35) (((6 : Int32) * l9) + (3 : Int32)).toNatClampNeg (zI M l0 32)) hp hQ
def b150_215 (n : Nat) (k50 : Nat → Int32 → Int32 → Int32 → Int32 → zM → Int32 × zM) (k64 : Nat → Int32 → Int32 → Int32 → Int32 → Int32 → zM → Int32 × zM) (k79 : Nat → Int32 → Int32 → Int32 → Int32 → Int32 → Int32 → zM → Int32 × zM) (l0 : Nat) (l3 : Int32) (l4 : Int32) (l5 : Int32) (l6 : Int32) (l7 : Int32) (l8 : Int32) (l9 : Int32) (M : zM) : Int32 × zM := b150_229 n k50 k64 k79 l0 l3 l4 l5 l6 l7 l8 l9 (zWI M (zQ M l0 35) (((6 : Int32) * l9) + (2 : Int32)).toNatClampNeg l8)
def p150_215 (n : Nat) (q50 : Nat → Int32 → Int32 → Int32 → Int32 → zM → Prop) (q64 : Nat → Int32 → Int32 → Int32 → Int32 → Int32 → zM → Prop) (q79 : Nat → Int32 → Int32 → Int32 → Int32 → Int32 → Int32 → zM → Prop) (l0 : Nat) (l3 : Int32) (l4 : Int32) (l5 : Int32) (l6 : Int32) (l7 : Int32) (l8 : Int32) (l9 : Int32) (M : zM) : Prop := (zHasQ 10 87 l0 M 35) ∧ ((zOkT 1 (zQ M l0 35) (((6 : Int32) * l9) + (2 : Int32)) M) ∧ (p150_229 n q50 q64 q79 l0 l3 l4 l5 l6 l7 l8 l9 (zWI M (zQ M l0 35) (((6 : Int32) * l9) + (2 : Int32)).toNatClampNeg l8)))
theorem s150_215 (n : Nat) (k50 : Nat → Int32 → Int32 → Int32 → Int32 → zM → Int32 × zM) (k64 : Nat → Int32 → Int32 → Int32 → Int32 → Int32 → zM → Int32 × zM) (k79 : Nat → Int32 → Int32 → Int32 → Int32 → Int32 → Int32 → zM → Int32 × zM) (q50 : Nat → Int32 → Int32 → Int32 → Int32 → zM → Prop) (q64 : Nat → Int32 → Int32 → Int32 → Int32 → Int32 → zM → Prop) (q79 : Nat → Int32 → Int32 → Int32 → Int32 → Int32 → Int32 → zM → Prop) (h50 : ∀ (l0 : Nat) (l3 : Int32) (l4 : Int32) (l5 : Int32) (l6 : Int32) (M : zM), q50 l0 l3 l4 l5 l6 M → ∀ {Q : Option Value → zM → Prop}, (∀ r M1, zRI (k50 l0 l3 l4 l5 l6 M) r M1 → Q r M1) → zWP 150 50 [some (.ref l0), none, none, some (.int l3), some (.int l4), some (.int l5), some (.int l6), none, none, none, none] [] M Q) (h64 : ∀ (l0 : Nat) (l3 : Int32) (l4 : Int32) (l5 : Int32) (l6 : Int32) (l7 : Int32) (M : zM), q64 l0 l3 l4 l5 l6 l7 M → ∀ {Q : Option Value → zM → Prop}, (∀ r M1, zRI (k64 l0 l3 l4 l5 l6 l7 M) r M1 → Q r M1) → zWP 150 64 [some (.ref l0), none, none, some (.int l3), some (.int l4), some (.int l5), some (.int l6), some (.int l7), none, none, none] [] M Q) (h79 : ∀ (l0 : Nat) (l3 : Int32) (l4 : Int32) (l5 : Int32) (l6 : Int32) (l7 : Int32) (l8 : Int32) (M : zM), q79 l0 l3 l4 l5 l6 l7 l8 M → ∀ {Q : Option Value → zM → Prop}, (∀ r M1, zRI (k79 l0 l3 l4 l5 l6 l7 l8 M) r M1 → Q r M1) → zWP 150 79 [some (.ref l0), none, none, some (.int l3), some (.int l4), some (.int l5), some (.int l6), some (.int l7), some (.int l8), none, none] [] M Q) (l0 : Nat) (l3 : Int32) (l4 : Int32) (l5 : Int32) (l6 : Int32) (l7 : Int32) (l8 : Int32) (l9 : Int32) (M : zM) (hp : p150_215 n q50 q64 q79 l0 l3 l4 l5 l6 l7 l8 l9 M) {Q : Option Value → zM → Prop} (hQ : ∀ r M1, zRI (b150_215 n k50 k64 k79 l0 l3 l4 l5 l6 l7 l8 l9 M) r M1 → Q r M1) : zWP 150 215 [some (.ref l0), none, none, some (.int l3), some (.int l4), some (.int l5), some (.int l6), some (.int l7), some (.int l8), some (.int l9), none] [] M Q := by
  unfold b150_215 at hQ
  unfold p150_215 at hp
  refine wp_go 1 (pc' := 216) (L' := [some (.ref l0), none, none, some (.int l3), some (.int l4), some (.int l5), some (.int l6), some (.int l7), some (.int l8), some (.int l9), none]) (st' := [.ref l0]) (M' := M) rfl ?_
  obtain ⟨hc, hp⟩ := hp
  refine wq_getQ (j := 35) rfl hc ?_
  refine wp_go 5 (pc' := 226) (L' := [some (.ref l0), none, none, some (.int l3), some (.int l4), some (.int l5), some (.int l6), some (.int l7), some (.int l8), some (.int l9), none]) (st' := [.int (((6 : Int32) * l9) + (2 : Int32)), .ref (zQ M l0 35)]) (M' := M) rfl ?_
  refine wp_go 1 (pc' := 228) (L' := [some (.ref l0), none, none, some (.int l3), some (.int l4), some (.int l5), some (.int l6), some (.int l7), some (.int l8), some (.int l9), none]) (st' := [.int l8, .int (((6 : Int32) * l9) + (2 : Int32)), .ref (zQ M l0 35)]) (M' := M) rfl ?_
  obtain ⟨hc, hp⟩ := hp
  refine wq_iast rfl hc ?_
  exact s150_229 n k50 k64 k79 q50 q64 q79 h50 h64 h79 l0 l3 l4 l5 l6 l7 l8 l9 (zWI M (zQ M l0 35) (((6 : Int32) * l9) + (2 : Int32)).toNatClampNeg l8) hp hQ
def b150_201 (n : Nat) (k50 : Nat → Int32 → Int32 → Int32 → Int32 → zM → Int32 × zM) (k64 : Nat → Int32 → Int32 → Int32 → Int32 → Int32 → zM → Int32 × zM) (k79 : Nat → Int32 → Int32 → Int32 → Int32 → Int32 → Int32 → zM → Int32 × zM) (l0 : Nat) (l3 : Int32) (l4 : Int32) (l5 : Int32) (l6 : Int32) (l7 : Int32) (l8 : Int32) (l9 : Int32) (M : zM) : Int32 × zM := b150_215 n k50 k64 k79 l0 l3 l4 l5 l6 l7 l8 l9 (zWI M (zQ M l0 35) (((6 : Int32) * l9) + (1 : Int32)).toNatClampNeg l7)
def p150_201 (n : Nat) (q50 : Nat → Int32 → Int32 → Int32 → Int32 → zM → Prop) (q64 : Nat → Int32 → Int32 → Int32 → Int32 → Int32 → zM → Prop) (q79 : Nat → Int32 → Int32 → Int32 → Int32 → Int32 → Int32 → zM → Prop) (l0 : Nat) (l3 : Int32) (l4 : Int32) (l5 : Int32) (l6 : Int32) (l7 : Int32) (l8 : Int32) (l9 : Int32) (M : zM) : Prop := (zHasQ 10 87 l0 M 35) ∧ ((zOkT 1 (zQ M l0 35) (((6 : Int32) * l9) + (1 : Int32)) M) ∧ (p150_215 n q50 q64 q79 l0 l3 l4 l5 l6 l7 l8 l9 (zWI M (zQ M l0 35) (((6 : Int32) * l9) + (1 : Int32)).toNatClampNeg l7)))
theorem s150_201 (n : Nat) (k50 : Nat → Int32 → Int32 → Int32 → Int32 → zM → Int32 × zM) (k64 : Nat → Int32 → Int32 → Int32 → Int32 → Int32 → zM → Int32 × zM) (k79 : Nat → Int32 → Int32 → Int32 → Int32 → Int32 → Int32 → zM → Int32 × zM) (q50 : Nat → Int32 → Int32 → Int32 → Int32 → zM → Prop) (q64 : Nat → Int32 → Int32 → Int32 → Int32 → Int32 → zM → Prop) (q79 : Nat → Int32 → Int32 → Int32 → Int32 → Int32 → Int32 → zM → Prop) (h50 : ∀ (l0 : Nat) (l3 : Int32) (l4 : Int32) (l5 : Int32) (l6 : Int32) (M : zM), q50 l0 l3 l4 l5 l6 M → ∀ {Q : Option Value → zM → Prop}, (∀ r M1, zRI (k50 l0 l3 l4 l5 l6 M) r M1 → Q r M1) → zWP 150 50 [some (.ref l0), none, none, some (.int l3), some (.int l4), some (.int l5), some (.int l6), none, none, none, none] [] M Q) (h64 : ∀ (l0 : Nat) (l3 : Int32) (l4 : Int32) (l5 : Int32) (l6 : Int32) (l7 : Int32) (M : zM), q64 l0 l3 l4 l5 l6 l7 M → ∀ {Q : Option Value → zM → Prop}, (∀ r M1, zRI (k64 l0 l3 l4 l5 l6 l7 M) r M1 → Q r M1) → zWP 150 64 [some (.ref l0), none, none, some (.int l3), some (.int l4), some (.int l5), some (.int l6), some (.int l7), none, none, none] [] M Q) (h79 : ∀ (l0 : Nat) (l3 : Int32) (l4 : Int32) (l5 : Int32) (l6 : Int32) (l7 : Int32) (l8 : Int32) (M : zM), q79 l0 l3 l4 l5 l6 l7 l8 M → ∀ {Q : Option Value → zM → Prop}, (∀ r M1, zRI (k79 l0 l3 l4 l5 l6 l7 l8 M) r M1 → Q r M1) → zWP 150 79 [some (.ref l0), none, none, some (.int l3), some (.int l4), some (.int l5), some (.int l6), some (.int l7), some (.int l8), none, none] [] M Q) (l0 : Nat) (l3 : Int32) (l4 : Int32) (l5 : Int32) (l6 : Int32) (l7 : Int32) (l8 : Int32) (l9 : Int32) (M : zM) (hp : p150_201 n q50 q64 q79 l0 l3 l4 l5 l6 l7 l8 l9 M) {Q : Option Value → zM → Prop} (hQ : ∀ r M1, zRI (b150_201 n k50 k64 k79 l0 l3 l4 l5 l6 l7 l8 l9 M) r M1 → Q r M1) : zWP 150 201 [some (.ref l0), none, none, some (.int l3), some (.int l4), some (.int l5), some (.int l6), some (.int l7), some (.int l8), some (.int l9), none] [] M Q := by
  unfold b150_201 at hQ
  unfold p150_201 at hp
  refine wp_go 1 (pc' := 202) (L' := [some (.ref l0), none, none, some (.int l3), some (.int l4), some (.int l5), some (.int l6), some (.int l7), some (.int l8), some (.int l9), none]) (st' := [.ref l0]) (M' := M) rfl ?_
  obtain ⟨hc, hp⟩ := hp
  refine wq_getQ (j := 35) rfl hc ?_
  refine wp_go 5 (pc' := 212) (L' := [some (.ref l0), none, none, some (.int l3), some (.int l4), some (.int l5), some (.int l6), some (.int l7), some (.int l8), some (.int l9), none]) (st' := [.int (((6 : Int32) * l9) + (1 : Int32)), .ref (zQ M l0 35)]) (M' := M) rfl ?_
  refine wp_go 1 (pc' := 214) (L' := [some (.ref l0), none, none, some (.int l3), some (.int l4), some (.int l5), some (.int l6), some (.int l7), some (.int l8), some (.int l9), none]) (st' := [.int l7, .int (((6 : Int32) * l9) + (1 : Int32)), .ref (zQ M l0 35)]) (M' := M) rfl ?_
  obtain ⟨hc, hp⟩ := hp
  refine wq_iast rfl hc ?_
  exact s150_215 n k50 k64 k79 q50 q64 q79 h50 h64 h79 l0 l3 l4 l5 l6 l7 l8 l9 (zWI M (zQ M l0 35) (((6 : Int32) * l9) + (1 : Int32)).toNatClampNeg l7) hp hQ
def b150_189 (n : Nat) (k50 : Nat → Int32 → Int32 → Int32 → Int32 → zM → Int32 × zM) (k64 : Nat → Int32 → Int32 → Int32 → Int32 → Int32 → zM → Int32 × zM) (k79 : Nat → Int32 → Int32 → Int32 → Int32 → Int32 → Int32 → zM → Int32 × zM) (l0 : Nat) (l3 : Int32) (l4 : Int32) (l5 : Int32) (l6 : Int32) (l7 : Int32) (l8 : Int32) (l9 : Int32) (M : zM) : Int32 × zM := b150_201 n k50 k64 k79 l0 l3 l4 l5 l6 l7 l8 l9 (zWI M (zQ M l0 35) ((6 : Int32) * l9).toNatClampNeg l6)
def p150_189 (n : Nat) (q50 : Nat → Int32 → Int32 → Int32 → Int32 → zM → Prop) (q64 : Nat → Int32 → Int32 → Int32 → Int32 → Int32 → zM → Prop) (q79 : Nat → Int32 → Int32 → Int32 → Int32 → Int32 → Int32 → zM → Prop) (l0 : Nat) (l3 : Int32) (l4 : Int32) (l5 : Int32) (l6 : Int32) (l7 : Int32) (l8 : Int32) (l9 : Int32) (M : zM) : Prop := (zHasQ 10 87 l0 M 35) ∧ ((zOkT 1 (zQ M l0 35) ((6 : Int32) * l9) M) ∧ (p150_201 n q50 q64 q79 l0 l3 l4 l5 l6 l7 l8 l9 (zWI M (zQ M l0 35) ((6 : Int32) * l9).toNatClampNeg l6)))
theorem s150_189 (n : Nat) (k50 : Nat → Int32 → Int32 → Int32 → Int32 → zM → Int32 × zM) (k64 : Nat → Int32 → Int32 → Int32 → Int32 → Int32 → zM → Int32 × zM) (k79 : Nat → Int32 → Int32 → Int32 → Int32 → Int32 → Int32 → zM → Int32 × zM) (q50 : Nat → Int32 → Int32 → Int32 → Int32 → zM → Prop) (q64 : Nat → Int32 → Int32 → Int32 → Int32 → Int32 → zM → Prop) (q79 : Nat → Int32 → Int32 → Int32 → Int32 → Int32 → Int32 → zM → Prop) (h50 : ∀ (l0 : Nat) (l3 : Int32) (l4 : Int32) (l5 : Int32) (l6 : Int32) (M : zM), q50 l0 l3 l4 l5 l6 M → ∀ {Q : Option Value → zM → Prop}, (∀ r M1, zRI (k50 l0 l3 l4 l5 l6 M) r M1 → Q r M1) → zWP 150 50 [some (.ref l0), none, none, some (.int l3), some (.int l4), some (.int l5), some (.int l6), none, none, none, none] [] M Q) (h64 : ∀ (l0 : Nat) (l3 : Int32) (l4 : Int32) (l5 : Int32) (l6 : Int32) (l7 : Int32) (M : zM), q64 l0 l3 l4 l5 l6 l7 M → ∀ {Q : Option Value → zM → Prop}, (∀ r M1, zRI (k64 l0 l3 l4 l5 l6 l7 M) r M1 → Q r M1) → zWP 150 64 [some (.ref l0), none, none, some (.int l3), some (.int l4), some (.int l5), some (.int l6), some (.int l7), none, none, none] [] M Q) (h79 : ∀ (l0 : Nat) (l3 : Int32) (l4 : Int32) (l5 : Int32) (l6 : Int32) (l7 : Int32) (l8 : Int32) (M : zM), q79 l0 l3 l4 l5 l6 l7 l8 M → ∀ {Q : Option Value → zM → Prop}, (∀ r M1, zRI (k79 l0 l3 l4 l5 l6 l7 l8 M) r M1 → Q r M1) → zWP 150 79 [some (.ref l0), none, none, some (.int l3), some (.int l4), some (.int l5), some (.int l6), some (.int l7), some (.int l8), none, none] [] M Q) (l0 : Nat) (l3 : Int32) (l4 : Int32) (l5 : Int32) (l6 : Int32) (l7 : Int32) (l8 : Int32) (l9 : Int32) (M : zM) (hp : p150_189 n q50 q64 q79 l0 l3 l4 l5 l6 l7 l8 l9 M) {Q : Option Value → zM → Prop} (hQ : ∀ r M1, zRI (b150_189 n k50 k64 k79 l0 l3 l4 l5 l6 l7 l8 l9 M) r M1 → Q r M1) : zWP 150 189 [some (.ref l0), none, none, some (.int l3), some (.int l4), some (.int l5), some (.int l6), some (.int l7), some (.int l8), some (.int l9), none] [] M Q := by
  unfold b150_189 at hQ
  unfold p150_189 at hp
  refine wp_go 1 (pc' := 190) (L' := [some (.ref l0), none, none, some (.int l3), some (.int l4), some (.int l5), some (.int l6), some (.int l7), some (.int l8), some (.int l9), none]) (st' := [.ref l0]) (M' := M) rfl ?_
  obtain ⟨hc, hp⟩ := hp
  refine wq_getQ (j := 35) rfl hc ?_
  refine wp_go 4 (pc' := 200) (L' := [some (.ref l0), none, none, some (.int l3), some (.int l4), some (.int l5), some (.int l6), some (.int l7), some (.int l8), some (.int l9), none]) (st' := [.int l6, .int ((6 : Int32) * l9), .ref (zQ M l0 35)]) (M' := M) rfl ?_
  obtain ⟨hc, hp⟩ := hp
  refine wq_iast rfl hc ?_
  exact s150_201 n k50 k64 k79 q50 q64 q79 h50 h64 h79 l0 l3 l4 l5 l6 l7 l8 l9 (zWI M (zQ M l0 35) ((6 : Int32) * l9).toNatClampNeg l6) hp hQ
def b150_177 (n : Nat) (k50 : Nat → Int32 → Int32 → Int32 → Int32 → zM → Int32 × zM) (k64 : Nat → Int32 → Int32 → Int32 → Int32 → Int32 → zM → Int32 × zM) (k79 : Nat → Int32 → Int32 → Int32 → Int32 → Int32 → Int32 → zM → Int32 × zM) (k114 : Nat → Int32 → Int32 → Int32 → Int32 → Int32 → Int32 → Int32 → zM → Int32 × zM) (k141 : Nat → Int32 → Int32 → Int32 → Int32 → Int32 → Int32 → Int32 → Int32 → zM → Int32 × zM) (l0 : Nat) (l3 : Int32) (l4 : Int32) (l5 : Int32) (l6 : Int32) (l7 : Int32) (l8 : Int32) (l9 : Int32) (l10 : Int32) (M : zM) : Int32 × zM := k141 l0 l3 l4 l5 l6 l7 l8 l9 (l10 + Int32.ofInt 1) M
def p150_177 (n : Nat) (q50 : Nat → Int32 → Int32 → Int32 → Int32 → zM → Prop) (q64 : Nat → Int32 → Int32 → Int32 → Int32 → Int32 → zM → Prop) (q79 : Nat → Int32 → Int32 → Int32 → Int32 → Int32 → Int32 → zM → Prop) (q114 : Nat → Int32 → Int32 → Int32 → Int32 → Int32 → Int32 → Int32 → zM → Prop) (q141 : Nat → Int32 → Int32 → Int32 → Int32 → Int32 → Int32 → Int32 → Int32 → zM → Prop) (l0 : Nat) (l3 : Int32) (l4 : Int32) (l5 : Int32) (l6 : Int32) (l7 : Int32) (l8 : Int32) (l9 : Int32) (l10 : Int32) (M : zM) : Prop := q141 l0 l3 l4 l5 l6 l7 l8 l9 (l10 + Int32.ofInt 1) M
theorem s150_177 (n : Nat) (k50 : Nat → Int32 → Int32 → Int32 → Int32 → zM → Int32 × zM) (k64 : Nat → Int32 → Int32 → Int32 → Int32 → Int32 → zM → Int32 × zM) (k79 : Nat → Int32 → Int32 → Int32 → Int32 → Int32 → Int32 → zM → Int32 × zM) (k114 : Nat → Int32 → Int32 → Int32 → Int32 → Int32 → Int32 → Int32 → zM → Int32 × zM) (k141 : Nat → Int32 → Int32 → Int32 → Int32 → Int32 → Int32 → Int32 → Int32 → zM → Int32 × zM) (q50 : Nat → Int32 → Int32 → Int32 → Int32 → zM → Prop) (q64 : Nat → Int32 → Int32 → Int32 → Int32 → Int32 → zM → Prop) (q79 : Nat → Int32 → Int32 → Int32 → Int32 → Int32 → Int32 → zM → Prop) (q114 : Nat → Int32 → Int32 → Int32 → Int32 → Int32 → Int32 → Int32 → zM → Prop) (q141 : Nat → Int32 → Int32 → Int32 → Int32 → Int32 → Int32 → Int32 → Int32 → zM → Prop) (h50 : ∀ (l0 : Nat) (l3 : Int32) (l4 : Int32) (l5 : Int32) (l6 : Int32) (M : zM), q50 l0 l3 l4 l5 l6 M → ∀ {Q : Option Value → zM → Prop}, (∀ r M1, zRI (k50 l0 l3 l4 l5 l6 M) r M1 → Q r M1) → zWP 150 50 [some (.ref l0), none, none, some (.int l3), some (.int l4), some (.int l5), some (.int l6), none, none, none, none] [] M Q) (h64 : ∀ (l0 : Nat) (l3 : Int32) (l4 : Int32) (l5 : Int32) (l6 : Int32) (l7 : Int32) (M : zM), q64 l0 l3 l4 l5 l6 l7 M → ∀ {Q : Option Value → zM → Prop}, (∀ r M1, zRI (k64 l0 l3 l4 l5 l6 l7 M) r M1 → Q r M1) → zWP 150 64 [some (.ref l0), none, none, some (.int l3), some (.int l4), some (.int l5), some (.int l6), some (.int l7), none, none, none] [] M Q) (h79 : ∀ (l0 : Nat) (l3 : Int32) (l4 : Int32) (l5 : Int32) (l6 : Int32) (l7 : Int32) (l8 : Int32) (M : zM), q79 l0 l3 l4 l5 l6 l7 l8 M → ∀ {Q : Option Value → zM → Prop}, (∀ r M1, zRI (k79 l0 l3 l4 l5 l6 l7 l8 M) r M1 → Q r M1) → zWP 150 79 [some (.ref l0), none, none, some (.int l3), some (.int l4), some (.int l5), some (.int l6), some (.int l7), some (.int l8), none, none] [] M Q) (h114 : ∀ (l0 : Nat) (l3 : Int32) (l4 : Int32) (l5 : Int32) (l6 : Int32) (l7 : Int32) (l8 : Int32) (l9 : Int32) (M : zM), q114 l0 l3 l4 l5 l6 l7 l8 l9 M → ∀ {Q : Option Value → zM → Prop}, (∀ r M1, zRI (k114 l0 l3 l4 l5 l6 l7 l8 l9 M) r M1 → Q r M1) → zWP 150 114 [some (.ref l0), none, none, some (.int l3), some (.int l4), some (.int l5), some (.int l6), some (.int l7), some (.int l8), some (.int l9), none] [] M Q) (h141 : ∀ (l0 : Nat) (l3 : Int32) (l4 : Int32) (l5 : Int32) (l6 : Int32) (l7 : Int32) (l8 : Int32) (l9 : Int32) (l10 : Int32) (M : zM), q141 l0 l3 l4 l5 l6 l7 l8 l9 l10 M → ∀ {Q : Option Value → zM → Prop}, (∀ r M1, zRI (k141 l0 l3 l4 l5 l6 l7 l8 l9 l10 M) r M1 → Q r M1) → zWP 150 141 [some (.ref l0), none, none, some (.int l3), some (.int l4), some (.int l5), some (.int l6), some (.int l7), some (.int l8), some (.int l9), some (.int l10)] [] M Q) (l0 : Nat) (l3 : Int32) (l4 : Int32) (l5 : Int32) (l6 : Int32) (l7 : Int32) (l8 : Int32) (l9 : Int32) (l10 : Int32) (M : zM) (hp : p150_177 n q50 q64 q79 q114 q141 l0 l3 l4 l5 l6 l7 l8 l9 l10 M) {Q : Option Value → zM → Prop} (hQ : ∀ r M1, zRI (b150_177 n k50 k64 k79 k114 k141 l0 l3 l4 l5 l6 l7 l8 l9 l10 M) r M1 → Q r M1) : zWP 150 177 [some (.ref l0), none, none, some (.int l3), some (.int l4), some (.int l5), some (.int l6), some (.int l7), some (.int l8), some (.int l9), some (.int l10)] [] M Q := by
  unfold b150_177 at hQ
  unfold p150_177 at hp
  refine wp_go 2 (pc' := 141) (L' := [some (.ref l0), none, none, some (.int l3), some (.int l4), some (.int l5), some (.int l6), some (.int l7), some (.int l8), some (.int l9), some (.int (l10 + Int32.ofInt 1))]) (st' := []) (M' := M) rfl ?_
  exact h141 l0 l3 l4 l5 l6 l7 l8 l9 (l10 + Int32.ofInt 1) M hp hQ
def c150_141 (n : Nat) (k50 : Nat → Int32 → Int32 → Int32 → Int32 → zM → Int32 × zM) (k64 : Nat → Int32 → Int32 → Int32 → Int32 → Int32 → zM → Int32 × zM) (k79 : Nat → Int32 → Int32 → Int32 → Int32 → Int32 → Int32 → zM → Int32 × zM) (k114 : Nat → Int32 → Int32 → Int32 → Int32 → Int32 → Int32 → Int32 → zM → Int32 × zM) (k141 : Nat → Int32 → Int32 → Int32 → Int32 → Int32 → Int32 → Int32 → Int32 → zM → Int32 × zM) (l0 : Nat) (l3 : Int32) (l4 : Int32) (l5 : Int32) (l6 : Int32) (l7 : Int32) (l8 : Int32) (l9 : Int32) (l10 : Int32) (M : zM) : Int32 × zM := (if (6 : Int32) ≤ l10 then k114 l0 l3 l4 l5 l6 l7 l8 (l9 + Int32.ofInt (-1)) M else b150_177 n k50 k64 k79 k114 k141 l0 l3 l4 l5 l6 l7 l8 l9 l10 (zWI M (zQ M l0 35) (((6 : Int32) * l9) + l10).toNatClampNeg (zI M (zQ M l0 35) ((((6 : Int32) * l9) - (6 : Int32)) + l10).toNatClampNeg)))
def d150_141 (n : Nat) (q50 : Nat → Int32 → Int32 → Int32 → Int32 → zM → Prop) (q64 : Nat → Int32 → Int32 → Int32 → Int32 → Int32 → zM → Prop) (q79 : Nat → Int32 → Int32 → Int32 → Int32 → Int32 → Int32 → zM → Prop) (q114 : Nat → Int32 → Int32 → Int32 → Int32 → Int32 → Int32 → Int32 → zM → Prop) (q141 : Nat → Int32 → Int32 → Int32 → Int32 → Int32 → Int32 → Int32 → Int32 → zM → Prop) (l0 : Nat) (l3 : Int32) (l4 : Int32) (l5 : Int32) (l6 : Int32) (l7 : Int32) (l8 : Int32) (l9 : Int32) (l10 : Int32) (M : zM) : Prop := (((6 : Int32) ≤ l10 → q114 l0 l3 l4 l5 l6 l7 l8 (l9 + Int32.ofInt (-1)) M) ∧ (¬ (6 : Int32) ≤ l10 → (zHasQ 10 87 l0 M 35) ∧ ((zHasQ 10 87 l0 M 35) ∧ ((zOkI (zQ M l0 35) ((((6 : Int32) * l9) - (6 : Int32)) + l10) M) ∧ ((zOkT 1 (zQ M l0 35) (((6 : Int32) * l9) + l10) M) ∧ (p150_177 n q50 q64 q79 q114 q141 l0 l3 l4 l5 l6 l7 l8 l9 l10 (zWI M (zQ M l0 35) (((6 : Int32) * l9) + l10).toNatClampNeg (zI M (zQ M l0 35) ((((6 : Int32) * l9) - (6 : Int32)) + l10).toNatClampNeg))))))))
theorem t150_141 (n : Nat) (k50 : Nat → Int32 → Int32 → Int32 → Int32 → zM → Int32 × zM) (k64 : Nat → Int32 → Int32 → Int32 → Int32 → Int32 → zM → Int32 × zM) (k79 : Nat → Int32 → Int32 → Int32 → Int32 → Int32 → Int32 → zM → Int32 × zM) (k114 : Nat → Int32 → Int32 → Int32 → Int32 → Int32 → Int32 → Int32 → zM → Int32 × zM) (k141 : Nat → Int32 → Int32 → Int32 → Int32 → Int32 → Int32 → Int32 → Int32 → zM → Int32 × zM) (q50 : Nat → Int32 → Int32 → Int32 → Int32 → zM → Prop) (q64 : Nat → Int32 → Int32 → Int32 → Int32 → Int32 → zM → Prop) (q79 : Nat → Int32 → Int32 → Int32 → Int32 → Int32 → Int32 → zM → Prop) (q114 : Nat → Int32 → Int32 → Int32 → Int32 → Int32 → Int32 → Int32 → zM → Prop) (q141 : Nat → Int32 → Int32 → Int32 → Int32 → Int32 → Int32 → Int32 → Int32 → zM → Prop) (h50 : ∀ (l0 : Nat) (l3 : Int32) (l4 : Int32) (l5 : Int32) (l6 : Int32) (M : zM), q50 l0 l3 l4 l5 l6 M → ∀ {Q : Option Value → zM → Prop}, (∀ r M1, zRI (k50 l0 l3 l4 l5 l6 M) r M1 → Q r M1) → zWP 150 50 [some (.ref l0), none, none, some (.int l3), some (.int l4), some (.int l5), some (.int l6), none, none, none, none] [] M Q) (h64 : ∀ (l0 : Nat) (l3 : Int32) (l4 : Int32) (l5 : Int32) (l6 : Int32) (l7 : Int32) (M : zM), q64 l0 l3 l4 l5 l6 l7 M → ∀ {Q : Option Value → zM → Prop}, (∀ r M1, zRI (k64 l0 l3 l4 l5 l6 l7 M) r M1 → Q r M1) → zWP 150 64 [some (.ref l0), none, none, some (.int l3), some (.int l4), some (.int l5), some (.int l6), some (.int l7), none, none, none] [] M Q) (h79 : ∀ (l0 : Nat) (l3 : Int32) (l4 : Int32) (l5 : Int32) (l6 : Int32) (l7 : Int32) (l8 : Int32) (M : zM), q79 l0 l3 l4 l5 l6 l7 l8 M → ∀ {Q : Option Value → zM → Prop}, (∀ r M1, zRI (k79 l0 l3 l4 l5 l6 l7 l8 M) r M1 → Q r M1) → zWP 150 79 [some (.ref l0), none, none, some (.int l3), some (.int l4), some (.int l5), some (.int l6), some (.int l7), some (.int l8), none, none] [] M Q) (h114 : ∀ (l0 : Nat) (l3 : Int32) (l4 : Int32) (l5 : Int32) (l6 : Int32) (l7 : Int32) (l8 : Int32) (l9 : Int32) (M : zM), q114 l0 l3 l4 l5 l6 l7 l8 l9 M → ∀ {Q : Option Value → zM → Prop}, (∀ r M1, zRI (k114 l0 l3 l4 l5 l6 l7 l8 l9 M) r M1 → Q r M1) → zWP 150 114 [some (.ref l0), none, none, some (.int l3), some (.int l4), some (.int l5), some (.int l6), some (.int l7), some (.int l8), some (.int l9), none] [] M Q) (h141 : ∀ (l0 : Nat) (l3 : Int32) (l4 : Int32) (l5 : Int32) (l6 : Int32) (l7 : Int32) (l8 : Int32) (l9 : Int32) (l10 : Int32) (M : zM), q141 l0 l3 l4 l5 l6 l7 l8 l9 l10 M → ∀ {Q : Option Value → zM → Prop}, (∀ r M1, zRI (k141 l0 l3 l4 l5 l6 l7 l8 l9 l10 M) r M1 → Q r M1) → zWP 150 141 [some (.ref l0), none, none, some (.int l3), some (.int l4), some (.int l5), some (.int l6), some (.int l7), some (.int l8), some (.int l9), some (.int l10)] [] M Q) (l0 : Nat) (l3 : Int32) (l4 : Int32) (l5 : Int32) (l6 : Int32) (l7 : Int32) (l8 : Int32) (l9 : Int32) (l10 : Int32) (M : zM) (hp : d150_141 n q50 q64 q79 q114 q141 l0 l3 l4 l5 l6 l7 l8 l9 l10 M) {Q : Option Value → zM → Prop} (hQ : ∀ r M1, zRI (c150_141 n k50 k64 k79 k114 k141 l0 l3 l4 l5 l6 l7 l8 l9 l10 M) r M1 → Q r M1) : zWP 150 141 [some (.ref l0), none, none, some (.int l3), some (.int l4), some (.int l5), some (.int l6), some (.int l7), some (.int l8), some (.int l9), some (.int l10)] [] M Q := by
  unfold c150_141 at hQ
  unfold d150_141 at hp
  refine wp_go 2 (pc' := 145) (L' := [some (.ref l0), none, none, some (.int l3), some (.int l4), some (.int l5), some (.int l6), some (.int l7), some (.int l8), some (.int l9), some (.int l10)]) (st' := [.int (6 : Int32), .int l10]) (M' := M) rfl ?_
  refine wp_ic_ge (t := 183) rfl rfl (fun hc => ?_) (fun hc => ?_)
  · rw [if_pos hc] at hQ
    replace hp := hp.1 hc
    refine wp_go 2 (pc' := 114) (L' := [some (.ref l0), none, none, some (.int l3), some (.int l4), some (.int l5), some (.int l6), some (.int l7), some (.int l8), some (.int (l9 + Int32.ofInt (-1))), some (.int l10)]) (st' := []) (M' := M) rfl ?_
    refine wp_le [some (.ref l0), none, none, some (.int l3), some (.int l4), some (.int l5), some (.int l6), some (.int l7), some (.int l8), some (.int (l9 + Int32.ofInt (-1))), none] (zLe_of (by simp [zLeB])) ?_
    exact h114 l0 l3 l4 l5 l6 l7 l8 (l9 + Int32.ofInt (-1)) M hp hQ
  · rw [if_neg hc] at hQ
    replace hp := hp.2 hc
    refine wp_go 1 (pc' := 149) (L' := [some (.ref l0), none, none, some (.int l3), some (.int l4), some (.int l5), some (.int l6), some (.int l7), some (.int l8), some (.int l9), some (.int l10)]) (st' := [.ref l0]) (M' := M) rfl ?_
    obtain ⟨hc, hp⟩ := hp
    refine wq_getQ (j := 35) rfl hc ?_
    refine wp_go 5 (pc' := 160) (L' := [some (.ref l0), none, none, some (.int l3), some (.int l4), some (.int l5), some (.int l6), some (.int l7), some (.int l8), some (.int l9), some (.int l10)]) (st' := [.int (((6 : Int32) * l9) + l10), .ref (zQ M l0 35)]) (M' := M) rfl ?_
    refine wp_go 1 (pc' := 161) (L' := [some (.ref l0), none, none, some (.int l3), some (.int l4), some (.int l5), some (.int l6), some (.int l7), some (.int l8), some (.int l9), some (.int l10)]) (st' := [.ref l0, .int (((6 : Int32) * l9) + l10), .ref (zQ M l0 35)]) (M' := M) rfl ?_
    obtain ⟨hc, hp⟩ := hp
    refine wq_getQ (j := 35) rfl hc ?_
    refine wp_go 5 (pc' := 172) (L' := [some (.ref l0), none, none, some (.int l3), some (.int l4), some (.int l5), some (.int l6), some (.int l7), some (.int l8), some (.int l9), some (.int l10)]) (st' := [.int (((6 : Int32) * l9) - (6 : Int32)), .ref (zQ M l0 35), .int (((6 : Int32) * l9) + l10), .ref (zQ M l0 35)]) (M' := M) rfl ?_
    refine wp_go 2 (pc' := 175) (L' := [some (.ref l0), none, none, some (.int l3), some (.int l4), some (.int l5), some (.int l6), some (.int l7), some (.int l8), some (.int l9), some (.int l10)]) (st' := [.int ((((6 : Int32) * l9) - (6 : Int32)) + l10), .ref (zQ M l0 35), .int (((6 : Int32) * l9) + l10), .ref (zQ M l0 35)]) (M' := M) rfl ?_
    obtain ⟨hc, hp⟩ := hp
    refine wq_iald rfl hc ?_
    obtain ⟨hc, hp⟩ := hp
    refine wq_iast rfl hc ?_
    exact s150_177 n k50 k64 k79 k114 k141 q50 q64 q79 q114 q141 h50 h64 h79 h114 h141 l0 l3 l4 l5 l6 l7 l8 l9 l10 (zWI M (zQ M l0 35) (((6 : Int32) * l9) + l10).toNatClampNeg (zI M (zQ M l0 35) ((((6 : Int32) * l9) - (6 : Int32)) + l10).toNatClampNeg)) hp hQ
def b150_141 (n : Nat) (k50 : Nat → Int32 → Int32 → Int32 → Int32 → zM → Int32 × zM) (k64 : Nat → Int32 → Int32 → Int32 → Int32 → Int32 → zM → Int32 × zM) (k79 : Nat → Int32 → Int32 → Int32 → Int32 → Int32 → Int32 → zM → Int32 × zM) (k114 : Nat → Int32 → Int32 → Int32 → Int32 → Int32 → Int32 → Int32 → zM → Int32 × zM) : Nat → Nat → Int32 → Int32 → Int32 → Int32 → Int32 → Int32 → Int32 → Int32 → zM → Int32 × zM
  | 0, _, _, _, _, _, _, _, _, _, M => (0, M)
  | k + 1, l0, l3, l4, l5, l6, l7, l8, l9, l10, M => c150_141 n k50 k64 k79 k114 (b150_141 n k50 k64 k79 k114 k) l0 l3 l4 l5 l6 l7 l8 l9 l10 M
def p150_141 (n : Nat) (q50 : Nat → Int32 → Int32 → Int32 → Int32 → zM → Prop) (q64 : Nat → Int32 → Int32 → Int32 → Int32 → Int32 → zM → Prop) (q79 : Nat → Int32 → Int32 → Int32 → Int32 → Int32 → Int32 → zM → Prop) (q114 : Nat → Int32 → Int32 → Int32 → Int32 → Int32 → Int32 → Int32 → zM → Prop) : Nat → Nat → Int32 → Int32 → Int32 → Int32 → Int32 → Int32 → Int32 → Int32 → zM → Prop
  | 0, _, _, _, _, _, _, _, _, _, _ => False
  | k + 1, l0, l3, l4, l5, l6, l7, l8, l9, l10, M => d150_141 n q50 q64 q79 q114 (p150_141 n q50 q64 q79 q114 k) l0 l3 l4 l5 l6 l7 l8 l9 l10 M
theorem s150_141 (n : Nat) (k50 : Nat → Int32 → Int32 → Int32 → Int32 → zM → Int32 × zM) (k64 : Nat → Int32 → Int32 → Int32 → Int32 → Int32 → zM → Int32 × zM) (k79 : Nat → Int32 → Int32 → Int32 → Int32 → Int32 → Int32 → zM → Int32 × zM) (k114 : Nat → Int32 → Int32 → Int32 → Int32 → Int32 → Int32 → Int32 → zM → Int32 × zM) (q50 : Nat → Int32 → Int32 → Int32 → Int32 → zM → Prop) (q64 : Nat → Int32 → Int32 → Int32 → Int32 → Int32 → zM → Prop) (q79 : Nat → Int32 → Int32 → Int32 → Int32 → Int32 → Int32 → zM → Prop) (q114 : Nat → Int32 → Int32 → Int32 → Int32 → Int32 → Int32 → Int32 → zM → Prop) (h50 : ∀ (l0 : Nat) (l3 : Int32) (l4 : Int32) (l5 : Int32) (l6 : Int32) (M : zM), q50 l0 l3 l4 l5 l6 M → ∀ {Q : Option Value → zM → Prop}, (∀ r M1, zRI (k50 l0 l3 l4 l5 l6 M) r M1 → Q r M1) → zWP 150 50 [some (.ref l0), none, none, some (.int l3), some (.int l4), some (.int l5), some (.int l6), none, none, none, none] [] M Q) (h64 : ∀ (l0 : Nat) (l3 : Int32) (l4 : Int32) (l5 : Int32) (l6 : Int32) (l7 : Int32) (M : zM), q64 l0 l3 l4 l5 l6 l7 M → ∀ {Q : Option Value → zM → Prop}, (∀ r M1, zRI (k64 l0 l3 l4 l5 l6 l7 M) r M1 → Q r M1) → zWP 150 64 [some (.ref l0), none, none, some (.int l3), some (.int l4), some (.int l5), some (.int l6), some (.int l7), none, none, none] [] M Q) (h79 : ∀ (l0 : Nat) (l3 : Int32) (l4 : Int32) (l5 : Int32) (l6 : Int32) (l7 : Int32) (l8 : Int32) (M : zM), q79 l0 l3 l4 l5 l6 l7 l8 M → ∀ {Q : Option Value → zM → Prop}, (∀ r M1, zRI (k79 l0 l3 l4 l5 l6 l7 l8 M) r M1 → Q r M1) → zWP 150 79 [some (.ref l0), none, none, some (.int l3), some (.int l4), some (.int l5), some (.int l6), some (.int l7), some (.int l8), none, none] [] M Q) (h114 : ∀ (l0 : Nat) (l3 : Int32) (l4 : Int32) (l5 : Int32) (l6 : Int32) (l7 : Int32) (l8 : Int32) (l9 : Int32) (M : zM), q114 l0 l3 l4 l5 l6 l7 l8 l9 M → ∀ {Q : Option Value → zM → Prop}, (∀ r M1, zRI (k114 l0 l3 l4 l5 l6 l7 l8 l9 M) r M1 → Q r M1) → zWP 150 114 [some (.ref l0), none, none, some (.int l3), some (.int l4), some (.int l5), some (.int l6), some (.int l7), some (.int l8), some (.int l9), none] [] M Q) : ∀ (k : Nat) (l0 : Nat) (l3 : Int32) (l4 : Int32) (l5 : Int32) (l6 : Int32) (l7 : Int32) (l8 : Int32) (l9 : Int32) (l10 : Int32) (M : zM), p150_141 n q50 q64 q79 q114 k l0 l3 l4 l5 l6 l7 l8 l9 l10 M → ∀ {Q : Option Value → zM → Prop}, (∀ r M1, zRI (b150_141 n k50 k64 k79 k114 k l0 l3 l4 l5 l6 l7 l8 l9 l10 M) r M1 → Q r M1) → zWP 150 141 [some (.ref l0), none, none, some (.int l3), some (.int l4), some (.int l5), some (.int l6), some (.int l7), some (.int l8), some (.int l9), some (.int l10)] [] M Q
  | 0, _, _, _, _, _, _, _, _, _, _, h, _, _ => h.elim
  | k + 1, l0, l3, l4, l5, l6, l7, l8, l9, l10, M, h, _, hQ => t150_141 n k50 k64 k79 k114 (b150_141 n k50 k64 k79 k114 k) q50 q64 q79 q114 (p150_141 n q50 q64 q79 q114 k) h50 h64 h79 h114 (s150_141 n k50 k64 k79 k114 q50 q64 q79 q114 h50 h64 h79 h114 k) l0 l3 l4 l5 l6 l7 l8 l9 l10 M h hQ
def b150_135 (n : Nat) (k50 : Nat → Int32 → Int32 → Int32 → Int32 → zM → Int32 × zM) (k64 : Nat → Int32 → Int32 → Int32 → Int32 → Int32 → zM → Int32 × zM) (k79 : Nat → Int32 → Int32 → Int32 → Int32 → Int32 → Int32 → zM → Int32 × zM) (k114 : Nat → Int32 → Int32 → Int32 → Int32 → Int32 → Int32 → Int32 → zM → Int32 × zM) (l0 : Nat) (l3 : Int32) (l4 : Int32) (l5 : Int32) (l6 : Int32) (l7 : Int32) (l8 : Int32) (l9 : Int32) (s0 : Int32) (M : zM) : Int32 × zM := (if s0 = 0 then b150_189 n k50 k64 k79 l0 l3 l4 l5 l6 l7 l8 l9 M else b150_141 n k50 k64 k79 k114 n l0 l3 l4 l5 l6 l7 l8 l9 (0 : Int32) M)
def p150_135 (n : Nat) (q50 : Nat → Int32 → Int32 → Int32 → Int32 → zM → Prop) (q64 : Nat → Int32 → Int32 → Int32 → Int32 → Int32 → zM → Prop) (q79 : Nat → Int32 → Int32 → Int32 → Int32 → Int32 → Int32 → zM → Prop) (q114 : Nat → Int32 → Int32 → Int32 → Int32 → Int32 → Int32 → Int32 → zM → Prop) (l0 : Nat) (l3 : Int32) (l4 : Int32) (l5 : Int32) (l6 : Int32) (l7 : Int32) (l8 : Int32) (l9 : Int32) (s0 : Int32) (M : zM) : Prop := ((s0 = 0 → p150_189 n q50 q64 q79 l0 l3 l4 l5 l6 l7 l8 l9 M) ∧ (¬ s0 = 0 → p150_141 n q50 q64 q79 q114 n l0 l3 l4 l5 l6 l7 l8 l9 (0 : Int32) M))
theorem s150_135 (n : Nat) (k50 : Nat → Int32 → Int32 → Int32 → Int32 → zM → Int32 × zM) (k64 : Nat → Int32 → Int32 → Int32 → Int32 → Int32 → zM → Int32 × zM) (k79 : Nat → Int32 → Int32 → Int32 → Int32 → Int32 → Int32 → zM → Int32 × zM) (k114 : Nat → Int32 → Int32 → Int32 → Int32 → Int32 → Int32 → Int32 → zM → Int32 × zM) (q50 : Nat → Int32 → Int32 → Int32 → Int32 → zM → Prop) (q64 : Nat → Int32 → Int32 → Int32 → Int32 → Int32 → zM → Prop) (q79 : Nat → Int32 → Int32 → Int32 → Int32 → Int32 → Int32 → zM → Prop) (q114 : Nat → Int32 → Int32 → Int32 → Int32 → Int32 → Int32 → Int32 → zM → Prop) (h50 : ∀ (l0 : Nat) (l3 : Int32) (l4 : Int32) (l5 : Int32) (l6 : Int32) (M : zM), q50 l0 l3 l4 l5 l6 M → ∀ {Q : Option Value → zM → Prop}, (∀ r M1, zRI (k50 l0 l3 l4 l5 l6 M) r M1 → Q r M1) → zWP 150 50 [some (.ref l0), none, none, some (.int l3), some (.int l4), some (.int l5), some (.int l6), none, none, none, none] [] M Q) (h64 : ∀ (l0 : Nat) (l3 : Int32) (l4 : Int32) (l5 : Int32) (l6 : Int32) (l7 : Int32) (M : zM), q64 l0 l3 l4 l5 l6 l7 M → ∀ {Q : Option Value → zM → Prop}, (∀ r M1, zRI (k64 l0 l3 l4 l5 l6 l7 M) r M1 → Q r M1) → zWP 150 64 [some (.ref l0), none, none, some (.int l3), some (.int l4), some (.int l5), some (.int l6), some (.int l7), none, none, none] [] M Q) (h79 : ∀ (l0 : Nat) (l3 : Int32) (l4 : Int32) (l5 : Int32) (l6 : Int32) (l7 : Int32) (l8 : Int32) (M : zM), q79 l0 l3 l4 l5 l6 l7 l8 M → ∀ {Q : Option Value → zM → Prop}, (∀ r M1, zRI (k79 l0 l3 l4 l5 l6 l7 l8 M) r M1 → Q r M1) → zWP 150 79 [some (.ref l0), none, none, some (.int l3), some (.int l4), some (.int l5), some (.int l6), some (.int l7), some (.int l8), none, none] [] M Q) (h114 : ∀ (l0 : Nat) (l3 : Int32) (l4 : Int32) (l5 : Int32) (l6 : Int32) (l7 : Int32) (l8 : Int32) (l9 : Int32) (M : zM), q114 l0 l3 l4 l5 l6 l7 l8 l9 M → ∀ {Q : Option Value → zM → Prop}, (∀ r M1, zRI (k114 l0 l3 l4 l5 l6 l7 l8 l9 M) r M1 → Q r M1) → zWP 150 114 [some (.ref l0), none, none, some (.int l3), some (.int l4), some (.int l5), some (.int l6), some (.int l7), some (.int l8), some (.int l9), none] [] M Q) (l0 : Nat) (l3 : Int32) (l4 : Int32) (l5 : Int32) (l6 : Int32) (l7 : Int32) (l8 : Int32) (l9 : Int32) (s0 : Int32) (M : zM) (hp : p150_135 n q50 q64 q79 q114 l0 l3 l4 l5 l6 l7 l8 l9 s0 M) {Q : Option Value → zM → Prop} (hQ : ∀ r M1, zRI (b150_135 n k50 k64 k79 k114 l0 l3 l4 l5 l6 l7 l8 l9 s0 M) r M1 → Q r M1) : zWP 150 135 [some (.ref l0), none, none, some (.int l3), some (.int l4), some (.int l5), some (.int l6), some (.int l7), some (.int l8), some (.int l9), none] [.int s0] M Q := by
  unfold b150_135 at hQ
  unfold p150_135 at hp
  refine wp_if_eq (t := 189) rfl rfl (fun hc => ?_) (fun hc => ?_)
  · rw [if_pos hc] at hQ
    replace hp := hp.1 hc
    exact s150_189 n k50 k64 k79 q50 q64 q79 h50 h64 h79 l0 l3 l4 l5 l6 l7 l8 l9 M hp hQ
  · rw [if_neg hc] at hQ
    replace hp := hp.2 hc
    refine wp_go 2 (pc' := 141) (L' := [some (.ref l0), none, none, some (.int l3), some (.int l4), some (.int l5), some (.int l6), some (.int l7), some (.int l8), some (.int l9), some (.int (0 : Int32))]) (st' := []) (M' := M) rfl ?_
    exact s150_141 n k50 k64 k79 k114 q50 q64 q79 q114 h50 h64 h79 h114 n l0 l3 l4 l5 l6 l7 l8 l9 (0 : Int32) M hp hQ
def c150_114 (n : Nat) (k50 : Nat → Int32 → Int32 → Int32 → Int32 → zM → Int32 × zM) (k64 : Nat → Int32 → Int32 → Int32 → Int32 → Int32 → zM → Int32 × zM) (k79 : Nat → Int32 → Int32 → Int32 → Int32 → Int32 → Int32 → zM → Int32 × zM) (k114 : Nat → Int32 → Int32 → Int32 → Int32 → Int32 → Int32 → Int32 → zM → Int32 × zM) (l0 : Nat) (l3 : Int32) (l4 : Int32) (l5 : Int32) (l6 : Int32) (l7 : Int32) (l8 : Int32) (l9 : Int32) (M : zM) : Int32 × zM := (if l9 ≤ 0 then b150_189 n k50 k64 k79 l0 l3 l4 l5 l6 l7 l8 l9 M else b150_135 n k50 k64 k79 k114 l0 l3 l4 l5 l6 l7 l8 l9 (b149_0 n l0 (zI M l0 33) (zI M l0 34) (l9 - (1 : Int32)) M).1 (b149_0 n l0 (zI M l0 33) (zI M l0 34) (l9 - (1 : Int32)) M).2)
def d150_114 (n : Nat) (q50 : Nat → Int32 → Int32 → Int32 → Int32 → zM → Prop) (q64 : Nat → Int32 → Int32 → Int32 → Int32 → Int32 → zM → Prop) (q79 : Nat → Int32 → Int32 → Int32 → Int32 → Int32 → Int32 → zM → Prop) (q114 : Nat → Int32 → Int32 → Int32 → Int32 → Int32 → Int32 → Int32 → zM → Prop) (l0 : Nat) (l3 : Int32) (l4 : Int32) (l5 : Int32) (l6 : Int32) (l7 : Int32) (l8 : Int32) (l9 : Int32) (M : zM) : Prop := ((l9 ≤ 0 → p150_189 n q50 q64 q79 l0 l3 l4 l5 l6 l7 l8 l9 M) ∧ (¬ l9 ≤ 0 → (zHasI 10 231 l0 M 33) ∧ ((zHasI 10 234 l0 M 34) ∧ ((zHasC 150 243 l0 M 149 3) ∧ ((p149_0 n l0 (zI M l0 33) (zI M l0 34) (l9 - (1 : Int32)) M) ∧ (p150_135 n q50 q64 q79 q114 l0 l3 l4 l5 l6 l7 l8 l9 (b149_0 n l0 (zI M l0 33) (zI M l0 34) (l9 - (1 : Int32)) M).1 (b149_0 n l0 (zI M l0 33) (zI M l0 34) (l9 - (1 : Int32)) M).2))))))
theorem t150_114 (n : Nat) (k50 : Nat → Int32 → Int32 → Int32 → Int32 → zM → Int32 × zM) (k64 : Nat → Int32 → Int32 → Int32 → Int32 → Int32 → zM → Int32 × zM) (k79 : Nat → Int32 → Int32 → Int32 → Int32 → Int32 → Int32 → zM → Int32 × zM) (k114 : Nat → Int32 → Int32 → Int32 → Int32 → Int32 → Int32 → Int32 → zM → Int32 × zM) (q50 : Nat → Int32 → Int32 → Int32 → Int32 → zM → Prop) (q64 : Nat → Int32 → Int32 → Int32 → Int32 → Int32 → zM → Prop) (q79 : Nat → Int32 → Int32 → Int32 → Int32 → Int32 → Int32 → zM → Prop) (q114 : Nat → Int32 → Int32 → Int32 → Int32 → Int32 → Int32 → Int32 → zM → Prop) (h50 : ∀ (l0 : Nat) (l3 : Int32) (l4 : Int32) (l5 : Int32) (l6 : Int32) (M : zM), q50 l0 l3 l4 l5 l6 M → ∀ {Q : Option Value → zM → Prop}, (∀ r M1, zRI (k50 l0 l3 l4 l5 l6 M) r M1 → Q r M1) → zWP 150 50 [some (.ref l0), none, none, some (.int l3), some (.int l4), some (.int l5), some (.int l6), none, none, none, none] [] M Q) (h64 : ∀ (l0 : Nat) (l3 : Int32) (l4 : Int32) (l5 : Int32) (l6 : Int32) (l7 : Int32) (M : zM), q64 l0 l3 l4 l5 l6 l7 M → ∀ {Q : Option Value → zM → Prop}, (∀ r M1, zRI (k64 l0 l3 l4 l5 l6 l7 M) r M1 → Q r M1) → zWP 150 64 [some (.ref l0), none, none, some (.int l3), some (.int l4), some (.int l5), some (.int l6), some (.int l7), none, none, none] [] M Q) (h79 : ∀ (l0 : Nat) (l3 : Int32) (l4 : Int32) (l5 : Int32) (l6 : Int32) (l7 : Int32) (l8 : Int32) (M : zM), q79 l0 l3 l4 l5 l6 l7 l8 M → ∀ {Q : Option Value → zM → Prop}, (∀ r M1, zRI (k79 l0 l3 l4 l5 l6 l7 l8 M) r M1 → Q r M1) → zWP 150 79 [some (.ref l0), none, none, some (.int l3), some (.int l4), some (.int l5), some (.int l6), some (.int l7), some (.int l8), none, none] [] M Q) (h114 : ∀ (l0 : Nat) (l3 : Int32) (l4 : Int32) (l5 : Int32) (l6 : Int32) (l7 : Int32) (l8 : Int32) (l9 : Int32) (M : zM), q114 l0 l3 l4 l5 l6 l7 l8 l9 M → ∀ {Q : Option Value → zM → Prop}, (∀ r M1, zRI (k114 l0 l3 l4 l5 l6 l7 l8 l9 M) r M1 → Q r M1) → zWP 150 114 [some (.ref l0), none, none, some (.int l3), some (.int l4), some (.int l5), some (.int l6), some (.int l7), some (.int l8), some (.int l9), none] [] M Q) (l0 : Nat) (l3 : Int32) (l4 : Int32) (l5 : Int32) (l6 : Int32) (l7 : Int32) (l8 : Int32) (l9 : Int32) (M : zM) (hp : d150_114 n q50 q64 q79 q114 l0 l3 l4 l5 l6 l7 l8 l9 M) {Q : Option Value → zM → Prop} (hQ : ∀ r M1, zRI (c150_114 n k50 k64 k79 k114 l0 l3 l4 l5 l6 l7 l8 l9 M) r M1 → Q r M1) : zWP 150 114 [some (.ref l0), none, none, some (.int l3), some (.int l4), some (.int l5), some (.int l6), some (.int l7), some (.int l8), some (.int l9), none] [] M Q := by
  unfold c150_114 at hQ
  unfold d150_114 at hp
  refine wp_go 1 (pc' := 116) (L' := [some (.ref l0), none, none, some (.int l3), some (.int l4), some (.int l5), some (.int l6), some (.int l7), some (.int l8), some (.int l9), none]) (st' := [.int l9]) (M' := M) rfl ?_
  refine wp_if_le (t := 189) rfl rfl (fun hc => ?_) (fun hc => ?_)
  · rw [if_pos hc] at hQ
    replace hp := hp.1 hc
    exact s150_189 n k50 k64 k79 q50 q64 q79 h50 h64 h79 l0 l3 l4 l5 l6 l7 l8 l9 M hp hQ
  · rw [if_neg hc] at hQ
    replace hp := hp.2 hc
    refine wp_go 2 (pc' := 121) (L' := [some (.ref l0), none, none, some (.int l3), some (.int l4), some (.int l5), some (.int l6), some (.int l7), some (.int l8), some (.int l9), none]) (st' := [.ref l0, .ref l0]) (M' := M) rfl ?_
    obtain ⟨hc, hp⟩ := hp
    refine wq_getI (j := 33) rfl hc ?_
    refine wp_go 1 (pc' := 125) (L' := [some (.ref l0), none, none, some (.int l3), some (.int l4), some (.int l5), some (.int l6), some (.int l7), some (.int l8), some (.int l9), none]) (st' := [.ref l0, .int (zI M l0 33), .ref l0]) (M' := M) rfl ?_
    obtain ⟨hc, hp⟩ := hp
    refine wq_getI (j := 34) rfl hc ?_
    refine wp_go 3 (pc' := 132) (L' := [some (.ref l0), none, none, some (.int l3), some (.int l4), some (.int l5), some (.int l6), some (.int l7), some (.int l8), some (.int l9), none]) (st' := [.int (l9 - (1 : Int32)), .int (zI M l0 34), .int (zI M l0 33), .ref l0]) (M' := M) rfl ?_
    obtain ⟨hv, hp⟩ := hp
    obtain ⟨hc, hp⟩ := hp
    refine wp_calli (v := (b149_0 n l0 (zI M l0 33) (zI M l0 34) (l9 - (1 : Int32)) M).1) (M1 := (b149_0 n l0 (zI M l0 33) (zI M l0 34) (l9 - (1 : Int32)) M).2) rfl rfl rfl (zInv_v (np := 3) rfl rfl hv rfl) (s149_0 n l0 (zI M l0 33) (zI M l0 34) (l9 - (1 : Int32)) M hc (fun r M1 h => h)) ?_
    exact s150_135 n k50 k64 k79 k114 q50 q64 q79 q114 h50 h64 h79 h114 l0 l3 l4 l5 l6 l7 l8 l9 (b149_0 n l0 (zI M l0 33) (zI M l0 34) (l9 - (1 : Int32)) M).1 (b149_0 n l0 (zI M l0 33) (zI M l0 34) (l9 - (1 : Int32)) M).2 hp hQ
def b150_114 (n : Nat) (k50 : Nat → Int32 → Int32 → Int32 → Int32 → zM → Int32 × zM) (k64 : Nat → Int32 → Int32 → Int32 → Int32 → Int32 → zM → Int32 × zM) (k79 : Nat → Int32 → Int32 → Int32 → Int32 → Int32 → Int32 → zM → Int32 × zM) : Nat → Nat → Int32 → Int32 → Int32 → Int32 → Int32 → Int32 → Int32 → zM → Int32 × zM
  | 0, _, _, _, _, _, _, _, _, M => (0, M)
  | k + 1, l0, l3, l4, l5, l6, l7, l8, l9, M => c150_114 n k50 k64 k79 (b150_114 n k50 k64 k79 k) l0 l3 l4 l5 l6 l7 l8 l9 M
def p150_114 (n : Nat) (q50 : Nat → Int32 → Int32 → Int32 → Int32 → zM → Prop) (q64 : Nat → Int32 → Int32 → Int32 → Int32 → Int32 → zM → Prop) (q79 : Nat → Int32 → Int32 → Int32 → Int32 → Int32 → Int32 → zM → Prop) : Nat → Nat → Int32 → Int32 → Int32 → Int32 → Int32 → Int32 → Int32 → zM → Prop
  | 0, _, _, _, _, _, _, _, _, _ => False
  | k + 1, l0, l3, l4, l5, l6, l7, l8, l9, M => d150_114 n q50 q64 q79 (p150_114 n q50 q64 q79 k) l0 l3 l4 l5 l6 l7 l8 l9 M
theorem s150_114 (n : Nat) (k50 : Nat → Int32 → Int32 → Int32 → Int32 → zM → Int32 × zM) (k64 : Nat → Int32 → Int32 → Int32 → Int32 → Int32 → zM → Int32 × zM) (k79 : Nat → Int32 → Int32 → Int32 → Int32 → Int32 → Int32 → zM → Int32 × zM) (q50 : Nat → Int32 → Int32 → Int32 → Int32 → zM → Prop) (q64 : Nat → Int32 → Int32 → Int32 → Int32 → Int32 → zM → Prop) (q79 : Nat → Int32 → Int32 → Int32 → Int32 → Int32 → Int32 → zM → Prop) (h50 : ∀ (l0 : Nat) (l3 : Int32) (l4 : Int32) (l5 : Int32) (l6 : Int32) (M : zM), q50 l0 l3 l4 l5 l6 M → ∀ {Q : Option Value → zM → Prop}, (∀ r M1, zRI (k50 l0 l3 l4 l5 l6 M) r M1 → Q r M1) → zWP 150 50 [some (.ref l0), none, none, some (.int l3), some (.int l4), some (.int l5), some (.int l6), none, none, none, none] [] M Q) (h64 : ∀ (l0 : Nat) (l3 : Int32) (l4 : Int32) (l5 : Int32) (l6 : Int32) (l7 : Int32) (M : zM), q64 l0 l3 l4 l5 l6 l7 M → ∀ {Q : Option Value → zM → Prop}, (∀ r M1, zRI (k64 l0 l3 l4 l5 l6 l7 M) r M1 → Q r M1) → zWP 150 64 [some (.ref l0), none, none, some (.int l3), some (.int l4), some (.int l5), some (.int l6), some (.int l7), none, none, none] [] M Q) (h79 : ∀ (l0 : Nat) (l3 : Int32) (l4 : Int32) (l5 : Int32) (l6 : Int32) (l7 : Int32) (l8 : Int32) (M : zM), q79 l0 l3 l4 l5 l6 l7 l8 M → ∀ {Q : Option Value → zM → Prop}, (∀ r M1, zRI (k79 l0 l3 l4 l5 l6 l7 l8 M) r M1 → Q r M1) → zWP 150 79 [some (.ref l0), none, none, some (.int l3), some (.int l4), some (.int l5), some (.int l6), some (.int l7), some (.int l8), none, none] [] M Q) : ∀ (k : Nat) (l0 : Nat) (l3 : Int32) (l4 : Int32) (l5 : Int32) (l6 : Int32) (l7 : Int32) (l8 : Int32) (l9 : Int32) (M : zM), p150_114 n q50 q64 q79 k l0 l3 l4 l5 l6 l7 l8 l9 M → ∀ {Q : Option Value → zM → Prop}, (∀ r M1, zRI (b150_114 n k50 k64 k79 k l0 l3 l4 l5 l6 l7 l8 l9 M) r M1 → Q r M1) → zWP 150 114 [some (.ref l0), none, none, some (.int l3), some (.int l4), some (.int l5), some (.int l6), some (.int l7), some (.int l8), some (.int l9), none] [] M Q
  | 0, _, _, _, _, _, _, _, _, _, h, _, _ => h.elim
  | k + 1, l0, l3, l4, l5, l6, l7, l8, l9, M, h, _, hQ => t150_114 n k50 k64 k79 (b150_114 n k50 k64 k79 k) q50 q64 q79 (p150_114 n q50 q64 q79 k) h50 h64 h79 (s150_114 n k50 k64 k79 q50 q64 q79 h50 h64 h79 k) l0 l3 l4 l5 l6 l7 l8 l9 M h hQ
def b150_99 (n : Nat) (k50 : Nat → Int32 → Int32 → Int32 → Int32 → zM → Int32 × zM) (k64 : Nat → Int32 → Int32 → Int32 → Int32 → Int32 → zM → Int32 × zM) (k79 : Nat → Int32 → Int32 → Int32 → Int32 → Int32 → Int32 → zM → Int32 × zM) (l0 : Nat) (l3 : Int32) (l4 : Int32) (l5 : Int32) (l6 : Int32) (l7 : Int32) (l8 : Int32) (s0 : Int32) (M : zM) : Int32 × zM := (if s0 = 0 then b150_296 n k50 k64 k79 l0 l3 l4 l5 l6 l7 l8 M else b150_114 n k50 k64 k79 n l0 l3 l4 (l5 + Int32.ofInt 1) l6 l7 l8 (zI M l0 36) M)
def p150_99 (n : Nat) (q50 : Nat → Int32 → Int32 → Int32 → Int32 → zM → Prop) (q64 : Nat → Int32 → Int32 → Int32 → Int32 → Int32 → zM → Prop) (q79 : Nat → Int32 → Int32 → Int32 → Int32 → Int32 → Int32 → zM → Prop) (l0 : Nat) (l3 : Int32) (l4 : Int32) (l5 : Int32) (l6 : Int32) (l7 : Int32) (l8 : Int32) (s0 : Int32) (M : zM) : Prop := ((s0 = 0 → p150_296 n q50 q64 q79 l0 l3 l4 l5 l6 l7 l8 M) ∧ (¬ s0 = 0 → (zHasI 10 237 l0 M 36) ∧ (p150_114 n q50 q64 q79 n l0 l3 l4 (l5 + Int32.ofInt 1) l6 l7 l8 (zI M l0 36) M)))
theorem s150_99 (n : Nat) (k50 : Nat → Int32 → Int32 → Int32 → Int32 → zM → Int32 × zM) (k64 : Nat → Int32 → Int32 → Int32 → Int32 → Int32 → zM → Int32 × zM) (k79 : Nat → Int32 → Int32 → Int32 → Int32 → Int32 → Int32 → zM → Int32 × zM) (q50 : Nat → Int32 → Int32 → Int32 → Int32 → zM → Prop) (q64 : Nat → Int32 → Int32 → Int32 → Int32 → Int32 → zM → Prop) (q79 : Nat → Int32 → Int32 → Int32 → Int32 → Int32 → Int32 → zM → Prop) (h50 : ∀ (l0 : Nat) (l3 : Int32) (l4 : Int32) (l5 : Int32) (l6 : Int32) (M : zM), q50 l0 l3 l4 l5 l6 M → ∀ {Q : Option Value → zM → Prop}, (∀ r M1, zRI (k50 l0 l3 l4 l5 l6 M) r M1 → Q r M1) → zWP 150 50 [some (.ref l0), none, none, some (.int l3), some (.int l4), some (.int l5), some (.int l6), none, none, none, none] [] M Q) (h64 : ∀ (l0 : Nat) (l3 : Int32) (l4 : Int32) (l5 : Int32) (l6 : Int32) (l7 : Int32) (M : zM), q64 l0 l3 l4 l5 l6 l7 M → ∀ {Q : Option Value → zM → Prop}, (∀ r M1, zRI (k64 l0 l3 l4 l5 l6 l7 M) r M1 → Q r M1) → zWP 150 64 [some (.ref l0), none, none, some (.int l3), some (.int l4), some (.int l5), some (.int l6), some (.int l7), none, none, none] [] M Q) (h79 : ∀ (l0 : Nat) (l3 : Int32) (l4 : Int32) (l5 : Int32) (l6 : Int32) (l7 : Int32) (l8 : Int32) (M : zM), q79 l0 l3 l4 l5 l6 l7 l8 M → ∀ {Q : Option Value → zM → Prop}, (∀ r M1, zRI (k79 l0 l3 l4 l5 l6 l7 l8 M) r M1 → Q r M1) → zWP 150 79 [some (.ref l0), none, none, some (.int l3), some (.int l4), some (.int l5), some (.int l6), some (.int l7), some (.int l8), none, none] [] M Q) (l0 : Nat) (l3 : Int32) (l4 : Int32) (l5 : Int32) (l6 : Int32) (l7 : Int32) (l8 : Int32) (s0 : Int32) (M : zM) (hp : p150_99 n q50 q64 q79 l0 l3 l4 l5 l6 l7 l8 s0 M) {Q : Option Value → zM → Prop} (hQ : ∀ r M1, zRI (b150_99 n k50 k64 k79 l0 l3 l4 l5 l6 l7 l8 s0 M) r M1 → Q r M1) : zWP 150 99 [some (.ref l0), none, none, some (.int l3), some (.int l4), some (.int l5), some (.int l6), some (.int l7), some (.int l8), none, none] [.int s0] M Q := by
  unfold b150_99 at hQ
  unfold p150_99 at hp
  refine wp_if_ne (t := 105) rfl rfl (fun hc => ?_) (fun hc => ?_)
  · rw [if_neg hc] at hQ
    replace hp := hp.2 hc
    refine wp_go 2 (pc' := 109) (L' := [some (.ref l0), none, none, some (.int l3), some (.int l4), some (.int (l5 + Int32.ofInt 1)), some (.int l6), some (.int l7), some (.int l8), none, none]) (st' := [.ref l0]) (M' := M) rfl ?_
    obtain ⟨hc, hp⟩ := hp
    refine wq_getI (j := 36) rfl hc ?_
    refine wp_go 1 (pc' := 114) (L' := [some (.ref l0), none, none, some (.int l3), some (.int l4), some (.int (l5 + Int32.ofInt 1)), some (.int l6), some (.int l7), some (.int l8), some (.int (zI M l0 36)), none]) (st' := []) (M' := M) rfl ?_
    exact s150_114 n k50 k64 k79 q50 q64 q79 h50 h64 h79 n l0 l3 l4 (l5 + Int32.ofInt 1) l6 l7 l8 (zI M l0 36) M hp hQ
  · rw [if_pos hc] at hQ
    replace hp := hp.1 hc
    refine wp_go 1 (pc' := 296) (L' := [some (.ref l0), none, none, some (.int l3), some (.int l4), some (.int l5), some (.int l6), some (.int l7), some (.int l8), none, none]) (st' := []) (M' := M) rfl ?_
    exact s150_296 n k50 k64 k79 q50 q64 q79 h50 h64 h79 l0 l3 l4 l5 l6 l7 l8 M hp hQ
def c150_79 (n : Nat) (k50 : Nat → Int32 → Int32 → Int32 → Int32 → zM → Int32 × zM) (k64 : Nat → Int32 → Int32 → Int32 → Int32 → Int32 → zM → Int32 × zM) (k79 : Nat → Int32 → Int32 → Int32 → Int32 → Int32 → Int32 → zM → Int32 × zM) (l0 : Nat) (l3 : Int32) (l4 : Int32) (l5 : Int32) (l6 : Int32) (l7 : Int32) (l8 : Int32) (M : zM) : Int32 × zM := (if (24 : Int32) ≤ l8 then k64 l0 l3 l4 l5 l6 (l7 + Int32.ofInt 1) M else b150_99 n k50 k64 k79 l0 l3 l4 l5 l6 l7 l8 (b148_0 n l0 l3 l6 l4 l7 l8 M).1 (b148_0 n l0 l3 l6 l4 l7 l8 M).2)
def d150_79 (n : Nat) (q50 : Nat → Int32 → Int32 → Int32 → Int32 → zM → Prop) (q64 : Nat → Int32 → Int32 → Int32 → Int32 → Int32 → zM → Prop) (q79 : Nat → Int32 → Int32 → Int32 → Int32 → Int32 → Int32 → zM → Prop) (l0 : Nat) (l3 : Int32) (l4 : Int32) (l5 : Int32) (l6 : Int32) (l7 : Int32) (l8 : Int32) (M : zM) : Prop := (((24 : Int32) ≤ l8 → q64 l0 l3 l4 l5 l6 (l7 + Int32.ofInt 1) M) ∧ (¬ (24 : Int32) ≤ l8 → (zHasC 150 240 l0 M 148 5) ∧ ((p148_0 n l0 l3 l6 l4 l7 l8 M) ∧ (p150_99 n q50 q64 q79 l0 l3 l4 l5 l6 l7 l8 (b148_0 n l0 l3 l6 l4 l7 l8 M).1 (b148_0 n l0 l3 l6 l4 l7 l8 M).2))))
theorem t150_79 (n : Nat) (k50 : Nat → Int32 → Int32 → Int32 → Int32 → zM → Int32 × zM) (k64 : Nat → Int32 → Int32 → Int32 → Int32 → Int32 → zM → Int32 × zM) (k79 : Nat → Int32 → Int32 → Int32 → Int32 → Int32 → Int32 → zM → Int32 × zM) (q50 : Nat → Int32 → Int32 → Int32 → Int32 → zM → Prop) (q64 : Nat → Int32 → Int32 → Int32 → Int32 → Int32 → zM → Prop) (q79 : Nat → Int32 → Int32 → Int32 → Int32 → Int32 → Int32 → zM → Prop) (h50 : ∀ (l0 : Nat) (l3 : Int32) (l4 : Int32) (l5 : Int32) (l6 : Int32) (M : zM), q50 l0 l3 l4 l5 l6 M → ∀ {Q : Option Value → zM → Prop}, (∀ r M1, zRI (k50 l0 l3 l4 l5 l6 M) r M1 → Q r M1) → zWP 150 50 [some (.ref l0), none, none, some (.int l3), some (.int l4), some (.int l5), some (.int l6), none, none, none, none] [] M Q) (h64 : ∀ (l0 : Nat) (l3 : Int32) (l4 : Int32) (l5 : Int32) (l6 : Int32) (l7 : Int32) (M : zM), q64 l0 l3 l4 l5 l6 l7 M → ∀ {Q : Option Value → zM → Prop}, (∀ r M1, zRI (k64 l0 l3 l4 l5 l6 l7 M) r M1 → Q r M1) → zWP 150 64 [some (.ref l0), none, none, some (.int l3), some (.int l4), some (.int l5), some (.int l6), some (.int l7), none, none, none] [] M Q) (h79 : ∀ (l0 : Nat) (l3 : Int32) (l4 : Int32) (l5 : Int32) (l6 : Int32) (l7 : Int32) (l8 : Int32) (M : zM), q79 l0 l3 l4 l5 l6 l7 l8 M → ∀ {Q : Option Value → zM → Prop}, (∀ r M1, zRI (k79 l0 l3 l4 l5 l6 l7 l8 M) r M1 → Q r M1) → zWP 150 79 [some (.ref l0), none, none, some (.int l3), some (.int l4), some (.int l5), some (.int l6), some (.int l7), some (.int l8), none, none] [] M Q) (l0 : Nat) (l3 : Int32) (l4 : Int32) (l5 : Int32) (l6 : Int32) (l7 : Int32) (l8 : Int32) (M : zM) (hp : d150_79 n q50 q64 q79 l0 l3 l4 l5 l6 l7 l8 M) {Q : Option Value → zM → Prop} (hQ : ∀ r M1, zRI (c150_79 n k50 k64 k79 l0 l3 l4 l5 l6 l7 l8 M) r M1 → Q r M1) : zWP 150 79 [some (.ref l0), none, none, some (.int l3), some (.int l4), some (.int l5), some (.int l6), some (.int l7), some (.int l8), none, none] [] M Q := by
  unfold c150_79 at hQ
  unfold d150_79 at hp
  refine wp_go 2 (pc' := 83) (L' := [some (.ref l0), none, none, some (.int l3), some (.int l4), some (.int l5), some (.int l6), some (.int l7), some (.int l8), none, none]) (st' := [.int (24 : Int32), .int l8]) (M' := M) rfl ?_
  refine wp_ic_ge (t := 302) rfl rfl (fun hc => ?_) (fun hc => ?_)
  · rw [if_pos hc] at hQ
    replace hp := hp.1 hc
    refine wp_go 2 (pc' := 64) (L' := [some (.ref l0), none, none, some (.int l3), some (.int l4), some (.int l5), some (.int l6), some (.int (l7 + Int32.ofInt 1)), some (.int l8), none, none]) (st' := []) (M' := M) rfl ?_
    refine wp_le [some (.ref l0), none, none, some (.int l3), some (.int l4), some (.int l5), some (.int l6), some (.int (l7 + Int32.ofInt 1)), none, none, none] (zLe_of (by simp [zLeB])) ?_
    exact h64 l0 l3 l4 l5 l6 (l7 + Int32.ofInt 1) M hp hQ
  · rw [if_neg hc] at hQ
    replace hp := hp.2 hc
    refine wp_go 5 (pc' := 94) (L' := [some (.ref l0), none, none, some (.int l3), some (.int l4), some (.int l5), some (.int l6), some (.int l7), some (.int l8), none, none]) (st' := [.int l7, .int l4, .int l6, .int l3, .ref l0]) (M' := M) rfl ?_
    refine wp_go 1 (pc' := 96) (L' := [some (.ref l0), none, none, some (.int l3), some (.int l4), some (.int l5), some (.int l6), some (.int l7), some (.int l8), none, none]) (st' := [.int l8, .int l7, .int l4, .int l6, .int l3, .ref l0]) (M' := M) rfl ?_
    obtain ⟨hv, hp⟩ := hp
    obtain ⟨hc, hp⟩ := hp
    refine wp_calli (v := (b148_0 n l0 l3 l6 l4 l7 l8 M).1) (M1 := (b148_0 n l0 l3 l6 l4 l7 l8 M).2) rfl rfl rfl (zInv_v (np := 5) rfl rfl hv rfl) (s148_0 n l0 l3 l6 l4 l7 l8 M hc (fun r M1 h => h)) ?_
    exact s150_99 n k50 k64 k79 q50 q64 q79 h50 h64 h79 l0 l3 l4 l5 l6 l7 l8 (b148_0 n l0 l3 l6 l4 l7 l8 M).1 (b148_0 n l0 l3 l6 l4 l7 l8 M).2 hp hQ
def b150_79 (n : Nat) (k50 : Nat → Int32 → Int32 → Int32 → Int32 → zM → Int32 × zM) (k64 : Nat → Int32 → Int32 → Int32 → Int32 → Int32 → zM → Int32 × zM) : Nat → Nat → Int32 → Int32 → Int32 → Int32 → Int32 → Int32 → zM → Int32 × zM
  | 0, _, _, _, _, _, _, _, M => (0, M)
  | k + 1, l0, l3, l4, l5, l6, l7, l8, M => c150_79 n k50 k64 (b150_79 n k50 k64 k) l0 l3 l4 l5 l6 l7 l8 M
def p150_79 (n : Nat) (q50 : Nat → Int32 → Int32 → Int32 → Int32 → zM → Prop) (q64 : Nat → Int32 → Int32 → Int32 → Int32 → Int32 → zM → Prop) : Nat → Nat → Int32 → Int32 → Int32 → Int32 → Int32 → Int32 → zM → Prop
  | 0, _, _, _, _, _, _, _, _ => False
  | k + 1, l0, l3, l4, l5, l6, l7, l8, M => d150_79 n q50 q64 (p150_79 n q50 q64 k) l0 l3 l4 l5 l6 l7 l8 M
theorem s150_79 (n : Nat) (k50 : Nat → Int32 → Int32 → Int32 → Int32 → zM → Int32 × zM) (k64 : Nat → Int32 → Int32 → Int32 → Int32 → Int32 → zM → Int32 × zM) (q50 : Nat → Int32 → Int32 → Int32 → Int32 → zM → Prop) (q64 : Nat → Int32 → Int32 → Int32 → Int32 → Int32 → zM → Prop) (h50 : ∀ (l0 : Nat) (l3 : Int32) (l4 : Int32) (l5 : Int32) (l6 : Int32) (M : zM), q50 l0 l3 l4 l5 l6 M → ∀ {Q : Option Value → zM → Prop}, (∀ r M1, zRI (k50 l0 l3 l4 l5 l6 M) r M1 → Q r M1) → zWP 150 50 [some (.ref l0), none, none, some (.int l3), some (.int l4), some (.int l5), some (.int l6), none, none, none, none] [] M Q) (h64 : ∀ (l0 : Nat) (l3 : Int32) (l4 : Int32) (l5 : Int32) (l6 : Int32) (l7 : Int32) (M : zM), q64 l0 l3 l4 l5 l6 l7 M → ∀ {Q : Option Value → zM → Prop}, (∀ r M1, zRI (k64 l0 l3 l4 l5 l6 l7 M) r M1 → Q r M1) → zWP 150 64 [some (.ref l0), none, none, some (.int l3), some (.int l4), some (.int l5), some (.int l6), some (.int l7), none, none, none] [] M Q) : ∀ (k : Nat) (l0 : Nat) (l3 : Int32) (l4 : Int32) (l5 : Int32) (l6 : Int32) (l7 : Int32) (l8 : Int32) (M : zM), p150_79 n q50 q64 k l0 l3 l4 l5 l6 l7 l8 M → ∀ {Q : Option Value → zM → Prop}, (∀ r M1, zRI (b150_79 n k50 k64 k l0 l3 l4 l5 l6 l7 l8 M) r M1 → Q r M1) → zWP 150 79 [some (.ref l0), none, none, some (.int l3), some (.int l4), some (.int l5), some (.int l6), some (.int l7), some (.int l8), none, none] [] M Q
  | 0, _, _, _, _, _, _, _, _, h, _, _ => h.elim
  | k + 1, l0, l3, l4, l5, l6, l7, l8, M, h, _, hQ => t150_79 n k50 k64 (b150_79 n k50 k64 k) q50 q64 (p150_79 n q50 q64 k) h50 h64 (s150_79 n k50 k64 q50 q64 h50 h64 k) l0 l3 l4 l5 l6 l7 l8 M h hQ
def c150_64 (n : Nat) (k50 : Nat → Int32 → Int32 → Int32 → Int32 → zM → Int32 × zM) (k64 : Nat → Int32 → Int32 → Int32 → Int32 → Int32 → zM → Int32 × zM) (l0 : Nat) (l3 : Int32) (l4 : Int32) (l5 : Int32) (l6 : Int32) (l7 : Int32) (M : zM) : Int32 × zM := (if (zI M (zQ M l0 2) l4.toNatClampNeg) ≤ l7 then k50 l0 l3 l4 l5 (l6 + Int32.ofInt 1) M else b150_79 n k50 k64 n l0 l3 l4 l5 l6 l7 (0 : Int32) M)
def d150_64 (n : Nat) (q50 : Nat → Int32 → Int32 → Int32 → Int32 → zM → Prop) (q64 : Nat → Int32 → Int32 → Int32 → Int32 → Int32 → zM → Prop) (l0 : Nat) (l3 : Int32) (l4 : Int32) (l5 : Int32) (l6 : Int32) (l7 : Int32) (M : zM) : Prop := (zHasQ 10 13 l0 M 2) ∧ ((zOkI (zQ M l0 2) l4 M) ∧ ((((zI M (zQ M l0 2) l4.toNatClampNeg) ≤ l7 → q50 l0 l3 l4 l5 (l6 + Int32.ofInt 1) M) ∧ (¬ (zI M (zQ M l0 2) l4.toNatClampNeg) ≤ l7 → p150_79 n q50 q64 n l0 l3 l4 l5 l6 l7 (0 : Int32) M))))
theorem t150_64 (n : Nat) (k50 : Nat → Int32 → Int32 → Int32 → Int32 → zM → Int32 × zM) (k64 : Nat → Int32 → Int32 → Int32 → Int32 → Int32 → zM → Int32 × zM) (q50 : Nat → Int32 → Int32 → Int32 → Int32 → zM → Prop) (q64 : Nat → Int32 → Int32 → Int32 → Int32 → Int32 → zM → Prop) (h50 : ∀ (l0 : Nat) (l3 : Int32) (l4 : Int32) (l5 : Int32) (l6 : Int32) (M : zM), q50 l0 l3 l4 l5 l6 M → ∀ {Q : Option Value → zM → Prop}, (∀ r M1, zRI (k50 l0 l3 l4 l5 l6 M) r M1 → Q r M1) → zWP 150 50 [some (.ref l0), none, none, some (.int l3), some (.int l4), some (.int l5), some (.int l6), none, none, none, none] [] M Q) (h64 : ∀ (l0 : Nat) (l3 : Int32) (l4 : Int32) (l5 : Int32) (l6 : Int32) (l7 : Int32) (M : zM), q64 l0 l3 l4 l5 l6 l7 M → ∀ {Q : Option Value → zM → Prop}, (∀ r M1, zRI (k64 l0 l3 l4 l5 l6 l7 M) r M1 → Q r M1) → zWP 150 64 [some (.ref l0), none, none, some (.int l3), some (.int l4), some (.int l5), some (.int l6), some (.int l7), none, none, none] [] M Q) (l0 : Nat) (l3 : Int32) (l4 : Int32) (l5 : Int32) (l6 : Int32) (l7 : Int32) (M : zM) (hp : d150_64 n q50 q64 l0 l3 l4 l5 l6 l7 M) {Q : Option Value → zM → Prop} (hQ : ∀ r M1, zRI (c150_64 n k50 k64 l0 l3 l4 l5 l6 l7 M) r M1 → Q r M1) : zWP 150 64 [some (.ref l0), none, none, some (.int l3), some (.int l4), some (.int l5), some (.int l6), some (.int l7), none, none, none] [] M Q := by
  unfold c150_64 at hQ
  unfold d150_64 at hp
  refine wp_go 2 (pc' := 67) (L' := [some (.ref l0), none, none, some (.int l3), some (.int l4), some (.int l5), some (.int l6), some (.int l7), none, none, none]) (st' := [.ref l0, .int l7]) (M' := M) rfl ?_
  obtain ⟨hc, hp⟩ := hp
  refine wq_getQ (j := 2) rfl hc ?_
  refine wp_go 1 (pc' := 72) (L' := [some (.ref l0), none, none, some (.int l3), some (.int l4), some (.int l5), some (.int l6), some (.int l7), none, none, none]) (st' := [.int l4, .ref (zQ M l0 2), .int l7]) (M' := M) rfl ?_
  obtain ⟨hc, hp⟩ := hp
  refine wq_iald rfl hc ?_
  refine wp_ic_ge (t := 308) rfl rfl (fun hc => ?_) (fun hc => ?_)
  · rw [if_pos hc] at hQ
    replace hp := hp.1 hc
    refine wp_go 2 (pc' := 50) (L' := [some (.ref l0), none, none, some (.int l3), some (.int l4), some (.int l5), some (.int (l6 + Int32.ofInt 1)), some (.int l7), none, none, none]) (st' := []) (M' := M) rfl ?_
    refine wp_le [some (.ref l0), none, none, some (.int l3), some (.int l4), some (.int l5), some (.int (l6 + Int32.ofInt 1)), none, none, none, none] (zLe_of (by simp [zLeB])) ?_
    exact h50 l0 l3 l4 l5 (l6 + Int32.ofInt 1) M hp hQ
  · rw [if_neg hc] at hQ
    replace hp := hp.2 hc
    refine wp_go 2 (pc' := 79) (L' := [some (.ref l0), none, none, some (.int l3), some (.int l4), some (.int l5), some (.int l6), some (.int l7), some (.int (0 : Int32)), none, none]) (st' := []) (M' := M) rfl ?_
    exact s150_79 n k50 k64 q50 q64 h50 h64 n l0 l3 l4 l5 l6 l7 (0 : Int32) M hp hQ
def b150_64 (n : Nat) (k50 : Nat → Int32 → Int32 → Int32 → Int32 → zM → Int32 × zM) : Nat → Nat → Int32 → Int32 → Int32 → Int32 → Int32 → zM → Int32 × zM
  | 0, _, _, _, _, _, _, M => (0, M)
  | k + 1, l0, l3, l4, l5, l6, l7, M => c150_64 n k50 (b150_64 n k50 k) l0 l3 l4 l5 l6 l7 M
def p150_64 (n : Nat) (q50 : Nat → Int32 → Int32 → Int32 → Int32 → zM → Prop) : Nat → Nat → Int32 → Int32 → Int32 → Int32 → Int32 → zM → Prop
  | 0, _, _, _, _, _, _, _ => False
  | k + 1, l0, l3, l4, l5, l6, l7, M => d150_64 n q50 (p150_64 n q50 k) l0 l3 l4 l5 l6 l7 M
theorem s150_64 (n : Nat) (k50 : Nat → Int32 → Int32 → Int32 → Int32 → zM → Int32 × zM) (q50 : Nat → Int32 → Int32 → Int32 → Int32 → zM → Prop) (h50 : ∀ (l0 : Nat) (l3 : Int32) (l4 : Int32) (l5 : Int32) (l6 : Int32) (M : zM), q50 l0 l3 l4 l5 l6 M → ∀ {Q : Option Value → zM → Prop}, (∀ r M1, zRI (k50 l0 l3 l4 l5 l6 M) r M1 → Q r M1) → zWP 150 50 [some (.ref l0), none, none, some (.int l3), some (.int l4), some (.int l5), some (.int l6), none, none, none, none] [] M Q) : ∀ (k : Nat) (l0 : Nat) (l3 : Int32) (l4 : Int32) (l5 : Int32) (l6 : Int32) (l7 : Int32) (M : zM), p150_64 n q50 k l0 l3 l4 l5 l6 l7 M → ∀ {Q : Option Value → zM → Prop}, (∀ r M1, zRI (b150_64 n k50 k l0 l3 l4 l5 l6 l7 M) r M1 → Q r M1) → zWP 150 64 [some (.ref l0), none, none, some (.int l3), some (.int l4), some (.int l5), some (.int l6), some (.int l7), none, none, none] [] M Q
  | 0, _, _, _, _, _, _, _, h, _, _ => h.elim
  | k + 1, l0, l3, l4, l5, l6, l7, M, h, _, hQ => t150_64 n k50 (b150_64 n k50 k) q50 (p150_64 n q50 k) h50 (s150_64 n k50 q50 h50 k) l0 l3 l4 l5 l6 l7 M h hQ
def c150_50 (n : Nat) (k50 : Nat → Int32 → Int32 → Int32 → Int32 → zM → Int32 × zM) (l0 : Nat) (l3 : Int32) (l4 : Int32) (l5 : Int32) (l6 : Int32) (M : zM) : Int32 × zM := (if (zI M (zQ M l0 2) l3.toNatClampNeg) ≤ l6 then (l5, M) else b150_64 n k50 n l0 l3 l4 l5 l6 (0 : Int32) M)
def d150_50 (n : Nat) (q50 : Nat → Int32 → Int32 → Int32 → Int32 → zM → Prop) (l0 : Nat) (l3 : Int32) (l4 : Int32) (l5 : Int32) (l6 : Int32) (M : zM) : Prop := (zHasQ 10 13 l0 M 2) ∧ ((zOkI (zQ M l0 2) l3 M) ∧ ((((zI M (zQ M l0 2) l3.toNatClampNeg) ≤ l6 → True) ∧ (¬ (zI M (zQ M l0 2) l3.toNatClampNeg) ≤ l6 → p150_64 n q50 n l0 l3 l4 l5 l6 (0 : Int32) M))))
theorem t150_50 (n : Nat) (k50 : Nat → Int32 → Int32 → Int32 → Int32 → zM → Int32 × zM) (q50 : Nat → Int32 → Int32 → Int32 → Int32 → zM → Prop) (h50 : ∀ (l0 : Nat) (l3 : Int32) (l4 : Int32) (l5 : Int32) (l6 : Int32) (M : zM), q50 l0 l3 l4 l5 l6 M → ∀ {Q : Option Value → zM → Prop}, (∀ r M1, zRI (k50 l0 l3 l4 l5 l6 M) r M1 → Q r M1) → zWP 150 50 [some (.ref l0), none, none, some (.int l3), some (.int l4), some (.int l5), some (.int l6), none, none, none, none] [] M Q) (l0 : Nat) (l3 : Int32) (l4 : Int32) (l5 : Int32) (l6 : Int32) (M : zM) (hp : d150_50 n q50 l0 l3 l4 l5 l6 M) {Q : Option Value → zM → Prop} (hQ : ∀ r M1, zRI (c150_50 n k50 l0 l3 l4 l5 l6 M) r M1 → Q r M1) : zWP 150 50 [some (.ref l0), none, none, some (.int l3), some (.int l4), some (.int l5), some (.int l6), none, none, none, none] [] M Q := by
  unfold c150_50 at hQ
  unfold d150_50 at hp
  refine wp_go 2 (pc' := 53) (L' := [some (.ref l0), none, none, some (.int l3), some (.int l4), some (.int l5), some (.int l6), none, none, none, none]) (st' := [.ref l0, .int l6]) (M' := M) rfl ?_
  obtain ⟨hc, hp⟩ := hp
  refine wq_getQ (j := 2) rfl hc ?_
  refine wp_go 1 (pc' := 57) (L' := [some (.ref l0), none, none, some (.int l3), some (.int l4), some (.int l5), some (.int l6), none, none, none, none]) (st' := [.int l3, .ref (zQ M l0 2), .int l6]) (M' := M) rfl ?_
  obtain ⟨hc, hp⟩ := hp
  refine wq_iald rfl hc ?_
  refine wp_ic_ge (t := 314) rfl rfl (fun hc => ?_) (fun hc => ?_)
  · rw [if_pos hc] at hQ
    replace hp := hp.1 hc
    refine wp_go 1 (pc' := 316) (L' := [some (.ref l0), none, none, some (.int l3), some (.int l4), some (.int l5), some (.int l6), none, none, none, none]) (st' := [.int l5]) (M' := M) rfl ?_
    exact wp_ret (r := some (.int l5)) rfl rfl (hQ _ _ ⟨rfl, rfl⟩)
  · rw [if_neg hc] at hQ
    replace hp := hp.2 hc
    refine wp_go 2 (pc' := 64) (L' := [some (.ref l0), none, none, some (.int l3), some (.int l4), some (.int l5), some (.int l6), some (.int (0 : Int32)), none, none, none]) (st' := []) (M' := M) rfl ?_
    exact s150_64 n k50 q50 h50 n l0 l3 l4 l5 l6 (0 : Int32) M hp hQ
def b150_50 (n : Nat)  : Nat → Nat → Int32 → Int32 → Int32 → Int32 → zM → Int32 × zM
  | 0, _, _, _, _, _, M => (0, M)
  | k + 1, l0, l3, l4, l5, l6, M => c150_50 n  (b150_50 n  k) l0 l3 l4 l5 l6 M
def p150_50 (n : Nat)  : Nat → Nat → Int32 → Int32 → Int32 → Int32 → zM → Prop
  | 0, _, _, _, _, _, _ => False
  | k + 1, l0, l3, l4, l5, l6, M => d150_50 n  (p150_50 n  k) l0 l3 l4 l5 l6 M
theorem s150_50 (n : Nat)    : ∀ (k : Nat) (l0 : Nat) (l3 : Int32) (l4 : Int32) (l5 : Int32) (l6 : Int32) (M : zM), p150_50 n  k l0 l3 l4 l5 l6 M → ∀ {Q : Option Value → zM → Prop}, (∀ r M1, zRI (b150_50 n  k l0 l3 l4 l5 l6 M) r M1 → Q r M1) → zWP 150 50 [some (.ref l0), none, none, some (.int l3), some (.int l4), some (.int l5), some (.int l6), none, none, none, none] [] M Q
  | 0, _, _, _, _, _, _, h, _, _ => h.elim
  | k + 1, l0, l3, l4, l5, l6, M, h, _, hQ => t150_50 n  (b150_50 n  k)  (p150_50 n  k)  (s150_50 n    k) l0 l3 l4 l5 l6 M h hQ
def b150_47 (n : Nat)  (l0 : Nat) (l3 : Int32) (l4 : Int32) (l5 : Int32) (M : zM) : Int32 × zM := b150_50 n  n l0 l3 l4 l5 (0 : Int32) M
def p150_47 (n : Nat)  (l0 : Nat) (l3 : Int32) (l4 : Int32) (l5 : Int32) (M : zM) : Prop := p150_50 n  n l0 l3 l4 l5 (0 : Int32) M
theorem s150_47 (n : Nat)    (l0 : Nat) (l3 : Int32) (l4 : Int32) (l5 : Int32) (M : zM) (hp : p150_47 n  l0 l3 l4 l5 M) {Q : Option Value → zM → Prop} (hQ : ∀ r M1, zRI (b150_47 n  l0 l3 l4 l5 M) r M1 → Q r M1) : zWP 150 47 [some (.ref l0), none, none, some (.int l3), some (.int l4), some (.int l5), none, none, none, none, none] [] M Q := by
  unfold b150_47 at hQ
  unfold p150_47 at hp
  refine wp_go 2 (pc' := 50) (L' := [some (.ref l0), none, none, some (.int l3), some (.int l4), some (.int l5), some (.int (0 : Int32)), none, none, none, none]) (st' := []) (M' := M) rfl ?_
  exact s150_50 n    n l0 l3 l4 l5 (0 : Int32) M hp hQ
def b150_37 (n : Nat)  (l0 : Nat) (l3 : Int32) (s0 : Int32) (M : zM) : Int32 × zM := b150_47 n  l0 l3 s0 (0 : Int32) (zWI M l0 36 (0 : Int32))
def p150_37 (n : Nat)  (l0 : Nat) (l3 : Int32) (s0 : Int32) (M : zM) : Prop := (zPutI 150 237 l0 M 36 (0 : Int32)) ∧ (p150_47 n  l0 l3 s0 (0 : Int32) (zWI M l0 36 (0 : Int32)))
theorem s150_37 (n : Nat)    (l0 : Nat) (l3 : Int32) (s0 : Int32) (M : zM) (hp : p150_37 n  l0 l3 s0 M) {Q : Option Value → zM → Prop} (hQ : ∀ r M1, zRI (b150_37 n  l0 l3 s0 M) r M1 → Q r M1) : zWP 150 37 [some (.ref l0), none, none, some (.int l3), none, none, none, none, none, none, none] [.int s0] M Q := by
  unfold b150_37 at hQ
  unfold p150_37 at hp
  refine wp_go 5 (pc' := 44) (L' := [some (.ref l0), none, none, some (.int l3), some (.int s0), some (.int (0 : Int32)), none, none, none, none, none]) (st' := [.int (0 : Int32), .ref l0]) (M' := M) rfl ?_
  obtain ⟨hc, hp⟩ := hp
  refine wq_putI (j := 36) rfl hc ?_
  exact s150_47 n    l0 l3 s0 (0 : Int32) (zWI M l0 36 (0 : Int32)) hp hQ
def b150_26 (n : Nat)  (l0 : Nat) (l1 : Int32) (l2 : Int32) (s0 : Int32) (M : zM) : Int32 × zM := (if l2 ≤ l1 then b150_37 n  l0 s0 l1 M else b150_37 n  l0 s0 l2 M)
def p150_26 (n : Nat)  (l0 : Nat) (l1 : Int32) (l2 : Int32) (s0 : Int32) (M : zM) : Prop := ((l2 ≤ l1 → p150_37 n  l0 s0 l1 M) ∧ (¬ l2 ≤ l1 → p150_37 n  l0 s0 l2 M))
theorem s150_26 (n : Nat)    (l0 : Nat) (l1 : Int32) (l2 : Int32) (s0 : Int32) (M : zM) (hp : p150_26 n  l0 l1 l2 s0 M) {Q : Option Value → zM → Prop} (hQ : ∀ r M1, zRI (b150_26 n  l0 l1 l2 s0 M) r M1 → Q r M1) : zWP 150 26 [some (.ref l0), some (.int l1), some (.int l2), none, none, none, none, none, none, none, none] [.int s0] M Q := by
  unfold b150_26 at hQ
  unfold p150_26 at hp
  refine wp_go 3 (pc' := 29) (L' := [some (.ref l0), some (.int l1), some (.int l2), some (.int s0), none, none, none, none, none, none, none]) (st' := [.int l2, .int l1]) (M' := M) rfl ?_
  refine wp_ic_ge (t := 36) rfl rfl (fun hc => ?_) (fun hc => ?_)
  · rw [if_pos hc] at hQ
    replace hp := hp.1 hc
    refine wp_go 1 (pc' := 37) (L' := [some (.ref l0), some (.int l1), some (.int l2), some (.int s0), none, none, none, none, none, none, none]) (st' := [.int l1]) (M' := M) rfl ?_
    refine wp_le [some (.ref l0), none, none, some (.int s0), none, none, none, none, none, none, none] (zLe_of (by simp [zLeB])) ?_
    exact s150_37 n    l0 s0 l1 M hp hQ
  · rw [if_neg hc] at hQ
    replace hp := hp.2 hc
    refine wp_go 2 (pc' := 37) (L' := [some (.ref l0), some (.int l1), some (.int l2), some (.int s0), none, none, none, none, none, none, none]) (st' := [.int l2]) (M' := M) rfl ?_
    refine wp_le [some (.ref l0), none, none, some (.int s0), none, none, none, none, none, none, none] (zLe_of (by simp [zLeB])) ?_
    exact s150_37 n    l0 s0 l2 M hp hQ
def b150_11 (n : Nat)  (l0 : Nat) (l1 : Int32) (l2 : Int32) (s0 : Int32) (M : zM) : Int32 × zM := (if s0 = 0 then (((-1) : Int32), M) else (if l2 ≤ l1 then b150_26 n  l0 l1 l2 l2 M else b150_26 n  l0 l1 l2 l1 M))
def p150_11 (n : Nat)  (l0 : Nat) (l1 : Int32) (l2 : Int32) (s0 : Int32) (M : zM) : Prop := ((s0 = 0 → True) ∧ (¬ s0 = 0 → ((l2 ≤ l1 → p150_26 n  l0 l1 l2 l2 M) ∧ (¬ l2 ≤ l1 → p150_26 n  l0 l1 l2 l1 M))))
theorem s150_11 (n : Nat)    (l0 : Nat) (l1 : Int32) (l2 : Int32) (s0 : Int32) (M : zM) (hp : p150_11 n  l0 l1 l2 s0 M) {Q : Option Value → zM → Prop} (hQ : ∀ r M1, zRI (b150_11 n  l0 l1 l2 s0 M) r M1 → Q r M1) : zWP 150 11 [some (.ref l0), some (.int l1), some (.int l2), none, none, none, none, none, none, none, none] [.int s0] M Q := by
  unfold b150_11 at hQ
  unfold p150_11 at hp
  refine wp_if_ne (t := 16) rfl rfl (fun hc => ?_) (fun hc => ?_)
  · rw [if_neg hc] at hQ
    replace hp := hp.2 hc
    refine wp_go 2 (pc' := 18) (L' := [some (.ref l0), some (.int l1), some (.int l2), none, none, none, none, none, none, none, none]) (st' := [.int l2, .int l1]) (M' := M) rfl ?_
    refine wp_ic_ge (t := 25) rfl rfl (fun hc => ?_) (fun hc => ?_)
    · rw [if_pos hc] at hQ
      replace hp := hp.1 hc
      refine wp_go 1 (pc' := 26) (L' := [some (.ref l0), some (.int l1), some (.int l2), none, none, none, none, none, none, none, none]) (st' := [.int l2]) (M' := M) rfl ?_
      exact s150_26 n    l0 l1 l2 l2 M hp hQ
    · rw [if_neg hc] at hQ
      replace hp := hp.2 hc
      refine wp_go 2 (pc' := 26) (L' := [some (.ref l0), some (.int l1), some (.int l2), none, none, none, none, none, none, none, none]) (st' := [.int l1]) (M' := M) rfl ?_
      exact s150_26 n    l0 l1 l2 l1 M hp hQ
  · rw [if_pos hc] at hQ
    replace hp := hp.1 hc
    refine wp_go 1 (pc' := 15) (L' := [some (.ref l0), some (.int l1), some (.int l2), none, none, none, none, none, none, none, none]) (st' := [.int ((-1) : Int32)]) (M' := M) rfl ?_
    exact wp_ret (r := some (.int ((-1) : Int32))) rfl rfl (hQ _ _ ⟨rfl, rfl⟩)
def b150_5 (n : Nat)  (l0 : Nat) (l1 : Int32) (l2 : Int32) (M : zM) : Int32 × zM := b150_11 n  l0 l1 l2 (b144_0 n l0 l1 l2 M).1 (b144_0 n l0 l1 l2 M).2
def p150_5 (n : Nat)  (l0 : Nat) (l1 : Int32) (l2 : Int32) (M : zM) : Prop := (zHasC 150 217 l0 M 144 2) ∧ ((p144_0 n l0 l1 l2 M) ∧ (p150_11 n  l0 l1 l2 (b144_0 n l0 l1 l2 M).1 (b144_0 n l0 l1 l2 M).2))
theorem s150_5 (n : Nat)    (l0 : Nat) (l1 : Int32) (l2 : Int32) (M : zM) (hp : p150_5 n  l0 l1 l2 M) {Q : Option Value → zM → Prop} (hQ : ∀ r M1, zRI (b150_5 n  l0 l1 l2 M) r M1 → Q r M1) : zWP 150 5 [some (.ref l0), some (.int l1), some (.int l2), none, none, none, none, none, none, none, none] [] M Q := by
  unfold b150_5 at hQ
  unfold p150_5 at hp
  refine wp_go 3 (pc' := 8) (L' := [some (.ref l0), some (.int l1), some (.int l2), none, none, none, none, none, none, none, none]) (st' := [.int l2, .int l1, .ref l0]) (M' := M) rfl ?_
  obtain ⟨hv, hp⟩ := hp
  obtain ⟨hc, hp⟩ := hp
  refine wp_calli (v := (b144_0 n l0 l1 l2 M).1) (M1 := (b144_0 n l0 l1 l2 M).2) rfl rfl rfl (zInv_v (np := 2) rfl rfl hv rfl) (s144_0 n l0 l1 l2 M hc (fun r M1 h => h)) ?_
  exact s150_11 n    l0 l1 l2 (b144_0 n l0 l1 l2 M).1 (b144_0 n l0 l1 l2 M).2 hp hQ
def b150_0 (n : Nat)  (l0 : Nat) (l1 : Int32) (l2 : Int32) (M : zM) : Int32 × zM := b150_5 n  l0 l1 l2 (zWI M l0 26 (0 : Int32))
def p150_0 (n : Nat)  (l0 : Nat) (l1 : Int32) (l2 : Int32) (M : zM) : Prop := (zPutI 150 138 l0 M 26 (0 : Int32)) ∧ (p150_5 n  l0 l1 l2 (zWI M l0 26 (0 : Int32)))
theorem s150_0 (n : Nat)    (l0 : Nat) (l1 : Int32) (l2 : Int32) (M : zM) (hp : p150_0 n  l0 l1 l2 M) {Q : Option Value → zM → Prop} (hQ : ∀ r M1, zRI (b150_0 n  l0 l1 l2 M) r M1 → Q r M1) : zWP 150 0 [some (.ref l0), some (.int l1), some (.int l2), none, none, none, none, none, none, none, none] [] M Q := by
  unfold b150_0 at hQ
  unfold p150_0 at hp
  refine wp_go 2 (pc' := 2) (L' := [some (.ref l0), some (.int l1), some (.int l2), none, none, none, none, none, none, none, none]) (st' := [.int (0 : Int32), .ref l0]) (M' := M) rfl ?_
  obtain ⟨hc, hp⟩ := hp
  refine wq_putI (j := 26) rfl hc ?_
  exact s150_5 n    l0 l1 l2 (zWI M l0 26 (0 : Int32)) hp hQ
/-! X12_span -/
def b151_41 (n : Nat)  (s0 : Int32) (M : zM) : Int32 × zM := (s0, M)
def p151_41 (n : Nat)  (s0 : Int32) (M : zM) : Prop := True
theorem s151_41 (n : Nat)    (s0 : Int32) (M : zM) (hp : p151_41 n  s0 M) {Q : Option Value → zM → Prop} (hQ : ∀ r M1, zRI (b151_41 n  s0 M) r M1 → Q r M1) : zWP 151 41 [none, none, none] [.int s0] M Q := by
  unfold b151_41 at hQ
  unfold p151_41 at hp
  exact wp_ret (r := some (.int s0)) rfl rfl (hQ _ _ ⟨rfl, rfl⟩)
def b151_26 (n : Nat)   (M : zM) : Int32 × zM := b151_41 n  ((-1) : Int32) M
def p151_26 (n : Nat)   (M : zM) : Prop := p151_41 n  ((-1) : Int32) M
theorem s151_26 (n : Nat)     (M : zM) (hp : p151_26 n   M) {Q : Option Value → zM → Prop} (hQ : ∀ r M1, zRI (b151_26 n   M) r M1 → Q r M1) : zWP 151 26 [none, none, none] [] M Q := by
  unfold b151_26 at hQ
  unfold p151_26 at hp
  refine wp_go 2 (pc' := 41) (L' := [none, none, none]) (st' := [.int ((-1) : Int32)]) (M' := M) rfl ?_
  exact s151_41 n    ((-1) : Int32) M hp hQ
def b151_5 (n : Nat)  (l0 : Nat) (l1 : Int32) (l2 : Int32) (M : zM) : Int32 × zM := (if l1 < 0 then b151_26 n  M else (if (zI M l0 36) ≤ l1 then b151_26 n  M else (if l2 < 0 then b151_26 n  M else (if l2 ≤ (5 : Int32) then b151_41 n  (zI M (zQ M l0 35) (((6 : Int32) * l1) + l2).toNatClampNeg) M else b151_26 n  M))))
def p151_5 (n : Nat)  (l0 : Nat) (l1 : Int32) (l2 : Int32) (M : zM) : Prop := ((l1 < 0 → p151_26 n  M) ∧ (¬ l1 < 0 → (zHasI 10 237 l0 M 36) ∧ ((((zI M l0 36) ≤ l1 → p151_26 n  M) ∧ (¬ (zI M l0 36) ≤ l1 → ((l2 < 0 → p151_26 n  M) ∧ (¬ l2 < 0 → ((l2 ≤ (5 : Int32) → (zHasQ 10 87 l0 M 35) ∧ ((zOkI (zQ M l0 35) (((6 : Int32) * l1) + l2) M) ∧ (p151_41 n  (zI M (zQ M l0 35) (((6 : Int32) * l1) + l2).toNatClampNeg) M))) ∧ (¬ l2 ≤ (5 : Int32) → p151_26 n  M)))))))))
theorem s151_5 (n : Nat)    (l0 : Nat) (l1 : Int32) (l2 : Int32) (M : zM) (hp : p151_5 n  l0 l1 l2 M) {Q : Option Value → zM → Prop} (hQ : ∀ r M1, zRI (b151_5 n  l0 l1 l2 M) r M1 → Q r M1) : zWP 151 5 [some (.ref l0), some (.int l1), some (.int l2)] [] M Q := by
  unfold b151_5 at hQ
  unfold p151_5 at hp
  refine wp_go 1 (pc' := 6) (L' := [some (.ref l0), some (.int l1), some (.int l2)]) (st' := [.int l1]) (M' := M) rfl ?_
  refine wp_if_lt (t := 26) rfl rfl (fun hc => ?_) (fun hc => ?_)
  · rw [if_pos hc] at hQ
    replace hp := hp.1 hc
    refine wp_le [none, none, none] (zLe_of (by simp [zLeB])) ?_
    exact s151_26 n    M hp hQ
  · rw [if_neg hc] at hQ
    replace hp := hp.2 hc
    refine wp_go 2 (pc' := 11) (L' := [some (.ref l0), some (.int l1), some (.int l2)]) (st' := [.ref l0, .int l1]) (M' := M) rfl ?_
    obtain ⟨hc, hp⟩ := hp
    refine wq_getI (j := 36) rfl hc ?_
    refine wp_ic_ge (t := 26) rfl rfl (fun hc => ?_) (fun hc => ?_)
    · rw [if_pos hc] at hQ
      replace hp := hp.1 hc
      refine wp_le [none, none, none] (zLe_of (by simp [zLeB])) ?_
      exact s151_26 n    M hp hQ
    · rw [if_neg hc] at hQ
      replace hp := hp.2 hc
      refine wp_go 1 (pc' := 18) (L' := [some (.ref l0), some (.int l1), some (.int l2)]) (st' := [.int l2]) (M' := M) rfl ?_
      refine wp_if_lt (t := 26) rfl rfl (fun hc => ?_) (fun hc => ?_)
      · rw [if_pos hc] at hQ
        replace hp := hp.1 hc
        refine wp_le [none, none, none] (zLe_of (by simp [zLeB])) ?_
        exact s151_26 n    M hp hQ
      · rw [if_neg hc] at hQ
        replace hp := hp.2 hc
        refine wp_go 2 (pc' := 23) (L' := [some (.ref l0), some (.int l1), some (.int l2)]) (st' := [.int (5 : Int32), .int l2]) (M' := M) rfl ?_
        refine wp_ic_le (t := 30) rfl rfl (fun hc => ?_) (fun hc => ?_)
        · rw [if_pos hc] at hQ
          replace hp := hp.1 hc
          refine wp_go 1 (pc' := 31) (L' := [some (.ref l0), some (.int l1), some (.int l2)]) (st' := [.ref l0]) (M' := M) rfl ?_
          obtain ⟨hc, hp⟩ := hp
          refine wq_getQ (j := 35) rfl hc ?_
          refine wp_go 5 (pc' := 40) (L' := [some (.ref l0), some (.int l1), some (.int l2)]) (st' := [.int (((6 : Int32) * l1) + l2), .ref (zQ M l0 35)]) (M' := M) rfl ?_
          obtain ⟨hc, hp⟩ := hp
          refine wq_iald rfl hc ?_
          refine wp_le [none, none, none] (zLe_of (by simp [zLeB])) ?_
          exact s151_41 n    (zI M (zQ M l0 35) (((6 : Int32) * l1) + l2).toNatClampNeg) M hp hQ
        · rw [if_neg hc] at hQ
          replace hp := hp.2 hc
          refine wp_le [none, none, none] (zLe_of (by simp [zLeB])) ?_
          exact s151_26 n    M hp hQ
def b151_0 (n : Nat)  (l0 : Nat) (l1 : Int32) (l2 : Int32) (M : zM) : Int32 × zM := b151_5 n  l0 l1 l2 (zWI M l0 26 (0 : Int32))
def p151_0 (n : Nat)  (l0 : Nat) (l1 : Int32) (l2 : Int32) (M : zM) : Prop := (zPutI 151 138 l0 M 26 (0 : Int32)) ∧ (p151_5 n  l0 l1 l2 (zWI M l0 26 (0 : Int32)))
theorem s151_0 (n : Nat)    (l0 : Nat) (l1 : Int32) (l2 : Int32) (M : zM) (hp : p151_0 n  l0 l1 l2 M) {Q : Option Value → zM → Prop} (hQ : ∀ r M1, zRI (b151_0 n  l0 l1 l2 M) r M1 → Q r M1) : zWP 151 0 [some (.ref l0), some (.int l1), some (.int l2)] [] M Q := by
  unfold b151_0 at hQ
  unfold p151_0 at hp
  refine wp_go 2 (pc' := 2) (L' := [some (.ref l0), some (.int l1), some (.int l2)]) (st' := [.int (0 : Int32), .ref l0]) (M' := M) rfl ?_
  obtain ⟨hc, hp⟩ := hp
  refine wq_putI (j := 26) rfl hc ?_
  exact s151_5 n    l0 l1 l2 (zWI M l0 26 (0 : Int32)) hp hQ
/-! X12_noOnePot -/
def b152_120 (n : Nat)   (M : zM) : Int32 × zM := ((0 : Int32), M)
def p152_120 (n : Nat)   (M : zM) : Prop := True
theorem s152_120 (n : Nat)     (M : zM) (hp : p152_120 n   M) {Q : Option Value → zM → Prop} (hQ : ∀ r M1, zRI (b152_120 n   M) r M1 → Q r M1) : zWP 152 120 [none, none, none] [] M Q := by
  unfold b152_120 at hQ
  unfold p152_120 at hp
  refine wp_go 1 (pc' := 121) (L' := [none, none, none]) (st' := [.int (0 : Int32)]) (M' := M) rfl ?_
  exact wp_ret (r := some (.int (0 : Int32))) rfl rfl (hQ _ _ ⟨rfl, rfl⟩)
def b152_65 (n : Nat)  (l0 : Nat) (l1 : Int32) (l2 : Int32) (M : zM) : Int32 × zM := (if (zI M (zQ M l0 1) l1.toNatClampNeg) = (1 : Int32) then (if (zI M (zQ M l0 1) l2.toNatClampNeg) = (1 : Int32) then (if (zI M (zQ M l0 5) l1.toNatClampNeg) < 0 then b152_120 n  M else (if (zI M (zQ M l0 5) l2.toNatClampNeg) < 0 then b152_120 n  M else (if (zI M (zQ M l0 5) l1.toNatClampNeg) = (zI M (zQ M l0 5) l2.toNatClampNeg) then b152_120 n  M else ((3 : Int32), M)))) else b152_120 n  M) else b152_120 n  M)
def p152_65 (n : Nat)  (l0 : Nat) (l1 : Int32) (l2 : Int32) (M : zM) : Prop := (zHasQ 10 7 l0 M 1) ∧ ((zOkI (zQ M l0 1) l1 M) ∧ ((((zI M (zQ M l0 1) l1.toNatClampNeg) = (1 : Int32) → (zHasQ 10 7 l0 M 1) ∧ ((zOkI (zQ M l0 1) l2 M) ∧ ((((zI M (zQ M l0 1) l2.toNatClampNeg) = (1 : Int32) → (zHasQ 10 23 l0 M 5) ∧ ((zOkI (zQ M l0 5) l1 M) ∧ ((((zI M (zQ M l0 5) l1.toNatClampNeg) < 0 → p152_120 n  M) ∧ (¬ (zI M (zQ M l0 5) l1.toNatClampNeg) < 0 → (zHasQ 10 23 l0 M 5) ∧ ((zOkI (zQ M l0 5) l2 M) ∧ ((((zI M (zQ M l0 5) l2.toNatClampNeg) < 0 → p152_120 n  M) ∧ (¬ (zI M (zQ M l0 5) l2.toNatClampNeg) < 0 → (zHasQ 10 23 l0 M 5) ∧ ((zOkI (zQ M l0 5) l1 M) ∧ ((zHasQ 10 23 l0 M 5) ∧ ((zOkI (zQ M l0 5) l2 M) ∧ ((((zI M (zQ M l0 5) l1.toNatClampNeg) = (zI M (zQ M l0 5) l2.toNatClampNeg) → p152_120 n  M) ∧ (¬ (zI M (zQ M l0 5) l1.toNatClampNeg) = (zI M (zQ M l0 5) l2.toNatClampNeg) → True))))))))))))))) ∧ (¬ (zI M (zQ M l0 1) l2.toNatClampNeg) = (1 : Int32) → p152_120 n  M))))) ∧ (¬ (zI M (zQ M l0 1) l1.toNatClampNeg) = (1 : Int32) → p152_120 n  M))))
theorem s152_65 (n : Nat)    (l0 : Nat) (l1 : Int32) (l2 : Int32) (M : zM) (hp : p152_65 n  l0 l1 l2 M) {Q : Option Value → zM → Prop} (hQ : ∀ r M1, zRI (b152_65 n  l0 l1 l2 M) r M1 → Q r M1) : zWP 152 65 [some (.ref l0), some (.int l1), some (.int l2)] [] M Q := by
  unfold b152_65 at hQ
  unfold p152_65 at hp
  refine wp_go 1 (pc' := 66) (L' := [some (.ref l0), some (.int l1), some (.int l2)]) (st' := [.ref l0]) (M' := M) rfl ?_
  obtain ⟨hc, hp⟩ := hp
  refine wq_getQ (j := 1) rfl hc ?_
  refine wp_go 1 (pc' := 70) (L' := [some (.ref l0), some (.int l1), some (.int l2)]) (st' := [.int l1, .ref (zQ M l0 1)]) (M' := M) rfl ?_
  obtain ⟨hc, hp⟩ := hp
  refine wq_iald rfl hc ?_
  refine wp_go 1 (pc' := 72) (L' := [some (.ref l0), some (.int l1), some (.int l2)]) (st' := [.int (1 : Int32), .int (zI M (zQ M l0 1) l1.toNatClampNeg)]) (M' := M) rfl ?_
  refine wp_ic_ne (t := 120) rfl rfl (fun hc => ?_) (fun hc => ?_)
  · rw [if_neg hc] at hQ
    replace hp := hp.2 hc
    refine wp_le [none, none, none] (zLe_of (by simp [zLeB])) ?_
    exact s152_120 n    M hp hQ
  · rw [if_pos hc] at hQ
    replace hp := hp.1 hc
    refine wp_go 1 (pc' := 76) (L' := [some (.ref l0), some (.int l1), some (.int l2)]) (st' := [.ref l0]) (M' := M) rfl ?_
    obtain ⟨hc, hp⟩ := hp
    refine wq_getQ (j := 1) rfl hc ?_
    refine wp_go 1 (pc' := 80) (L' := [some (.ref l0), some (.int l1), some (.int l2)]) (st' := [.int l2, .ref (zQ M l0 1)]) (M' := M) rfl ?_
    obtain ⟨hc, hp⟩ := hp
    refine wq_iald rfl hc ?_
    refine wp_go 1 (pc' := 82) (L' := [some (.ref l0), some (.int l1), some (.int l2)]) (st' := [.int (1 : Int32), .int (zI M (zQ M l0 1) l2.toNatClampNeg)]) (M' := M) rfl ?_
    refine wp_ic_ne (t := 120) rfl rfl (fun hc => ?_) (fun hc => ?_)
    · rw [if_neg hc] at hQ
      replace hp := hp.2 hc
      refine wp_le [none, none, none] (zLe_of (by simp [zLeB])) ?_
      exact s152_120 n    M hp hQ
    · rw [if_pos hc] at hQ
      replace hp := hp.1 hc
      refine wp_go 1 (pc' := 86) (L' := [some (.ref l0), some (.int l1), some (.int l2)]) (st' := [.ref l0]) (M' := M) rfl ?_
      obtain ⟨hc, hp⟩ := hp
      refine wq_getQ (j := 5) rfl hc ?_
      refine wp_go 1 (pc' := 90) (L' := [some (.ref l0), some (.int l1), some (.int l2)]) (st' := [.int l1, .ref (zQ M l0 5)]) (M' := M) rfl ?_
      obtain ⟨hc, hp⟩ := hp
      refine wq_iald rfl hc ?_
      refine wp_if_lt (t := 120) rfl rfl (fun hc => ?_) (fun hc => ?_)
      · rw [if_pos hc] at hQ
        replace hp := hp.1 hc
        refine wp_le [none, none, none] (zLe_of (by simp [zLeB])) ?_
        exact s152_120 n    M hp hQ
      · rw [if_neg hc] at hQ
        replace hp := hp.2 hc
        refine wp_go 1 (pc' := 95) (L' := [some (.ref l0), some (.int l1), some (.int l2)]) (st' := [.ref l0]) (M' := M) rfl ?_
        obtain ⟨hc, hp⟩ := hp
        refine wq_getQ (j := 5) rfl hc ?_
        refine wp_go 1 (pc' := 99) (L' := [some (.ref l0), some (.int l1), some (.int l2)]) (st' := [.int l2, .ref (zQ M l0 5)]) (M' := M) rfl ?_
        obtain ⟨hc, hp⟩ := hp
        refine wq_iald rfl hc ?_
        refine wp_if_lt (t := 120) rfl rfl (fun hc => ?_) (fun hc => ?_)
        · rw [if_pos hc] at hQ
          replace hp := hp.1 hc
          refine wp_le [none, none, none] (zLe_of (by simp [zLeB])) ?_
          exact s152_120 n    M hp hQ
        · rw [if_neg hc] at hQ
          replace hp := hp.2 hc
          refine wp_go 1 (pc' := 104) (L' := [some (.ref l0), some (.int l1), some (.int l2)]) (st' := [.ref l0]) (M' := M) rfl ?_
          obtain ⟨hc, hp⟩ := hp
          refine wq_getQ (j := 5) rfl hc ?_
          refine wp_go 1 (pc' := 108) (L' := [some (.ref l0), some (.int l1), some (.int l2)]) (st' := [.int l1, .ref (zQ M l0 5)]) (M' := M) rfl ?_
          obtain ⟨hc, hp⟩ := hp
          refine wq_iald rfl hc ?_
          refine wp_go 1 (pc' := 110) (L' := [some (.ref l0), some (.int l1), some (.int l2)]) (st' := [.ref l0, .int (zI M (zQ M l0 5) l1.toNatClampNeg)]) (M' := M) rfl ?_
          obtain ⟨hc, hp⟩ := hp
          refine wq_getQ (j := 5) rfl hc ?_
          refine wp_go 1 (pc' := 114) (L' := [some (.ref l0), some (.int l1), some (.int l2)]) (st' := [.int l2, .ref (zQ M l0 5), .int (zI M (zQ M l0 5) l1.toNatClampNeg)]) (M' := M) rfl ?_
          obtain ⟨hc, hp⟩ := hp
          refine wq_iald rfl hc ?_
          refine wp_ic_eq (t := 120) rfl rfl (fun hc => ?_) (fun hc => ?_)
          · rw [if_pos hc] at hQ
            replace hp := hp.1 hc
            refine wp_le [none, none, none] (zLe_of (by simp [zLeB])) ?_
            exact s152_120 n    M hp hQ
          · rw [if_neg hc] at hQ
            replace hp := hp.2 hc
            refine wp_go 1 (pc' := 119) (L' := [some (.ref l0), some (.int l1), some (.int l2)]) (st' := [.int (3 : Int32)]) (M' := M) rfl ?_
            exact wp_ret (r := some (.int (3 : Int32))) rfl rfl (hQ _ _ ⟨rfl, rfl⟩)
def b152_43 (n : Nat)  (l0 : Nat) (l1 : Int32) (l2 : Int32) (M : zM) : Int32 × zM := (if (zI M (zQ M l0 1) l1.toNatClampNeg) = (2 : Int32) then (if (zI M (zQ M l0 1) l2.toNatClampNeg) = (2 : Int32) then ((2 : Int32), M) else b152_65 n  l0 l1 l2 M) else b152_65 n  l0 l1 l2 M)
def p152_43 (n : Nat)  (l0 : Nat) (l1 : Int32) (l2 : Int32) (M : zM) : Prop := (zHasQ 10 7 l0 M 1) ∧ ((zOkI (zQ M l0 1) l1 M) ∧ ((((zI M (zQ M l0 1) l1.toNatClampNeg) = (2 : Int32) → (zHasQ 10 7 l0 M 1) ∧ ((zOkI (zQ M l0 1) l2 M) ∧ ((((zI M (zQ M l0 1) l2.toNatClampNeg) = (2 : Int32) → True) ∧ (¬ (zI M (zQ M l0 1) l2.toNatClampNeg) = (2 : Int32) → p152_65 n  l0 l1 l2 M))))) ∧ (¬ (zI M (zQ M l0 1) l1.toNatClampNeg) = (2 : Int32) → p152_65 n  l0 l1 l2 M))))
theorem s152_43 (n : Nat)    (l0 : Nat) (l1 : Int32) (l2 : Int32) (M : zM) (hp : p152_43 n  l0 l1 l2 M) {Q : Option Value → zM → Prop} (hQ : ∀ r M1, zRI (b152_43 n  l0 l1 l2 M) r M1 → Q r M1) : zWP 152 43 [some (.ref l0), some (.int l1), some (.int l2)] [] M Q := by
  unfold b152_43 at hQ
  unfold p152_43 at hp
  refine wp_go 1 (pc' := 44) (L' := [some (.ref l0), some (.int l1), some (.int l2)]) (st' := [.ref l0]) (M' := M) rfl ?_
  obtain ⟨hc, hp⟩ := hp
  refine wq_getQ (j := 1) rfl hc ?_
  refine wp_go 1 (pc' := 48) (L' := [some (.ref l0), some (.int l1), some (.int l2)]) (st' := [.int l1, .ref (zQ M l0 1)]) (M' := M) rfl ?_
  obtain ⟨hc, hp⟩ := hp
  refine wq_iald rfl hc ?_
  refine wp_go 1 (pc' := 50) (L' := [some (.ref l0), some (.int l1), some (.int l2)]) (st' := [.int (2 : Int32), .int (zI M (zQ M l0 1) l1.toNatClampNeg)]) (M' := M) rfl ?_
  refine wp_ic_ne (t := 65) rfl rfl (fun hc => ?_) (fun hc => ?_)
  · rw [if_neg hc] at hQ
    replace hp := hp.2 hc
    exact s152_65 n    l0 l1 l2 M hp hQ
  · rw [if_pos hc] at hQ
    replace hp := hp.1 hc
    refine wp_go 1 (pc' := 54) (L' := [some (.ref l0), some (.int l1), some (.int l2)]) (st' := [.ref l0]) (M' := M) rfl ?_
    obtain ⟨hc, hp⟩ := hp
    refine wq_getQ (j := 1) rfl hc ?_
    refine wp_go 1 (pc' := 58) (L' := [some (.ref l0), some (.int l1), some (.int l2)]) (st' := [.int l2, .ref (zQ M l0 1)]) (M' := M) rfl ?_
    obtain ⟨hc, hp⟩ := hp
    refine wq_iald rfl hc ?_
    refine wp_go 1 (pc' := 60) (L' := [some (.ref l0), some (.int l1), some (.int l2)]) (st' := [.int (2 : Int32), .int (zI M (zQ M l0 1) l2.toNatClampNeg)]) (M' := M) rfl ?_
    refine wp_ic_ne (t := 65) rfl rfl (fun hc => ?_) (fun hc => ?_)
    · rw [if_neg hc] at hQ
      replace hp := hp.2 hc
      exact s152_65 n    l0 l1 l2 M hp hQ
    · rw [if_pos hc] at hQ
      replace hp := hp.1 hc
      refine wp_go 1 (pc' := 64) (L' := [some (.ref l0), some (.int l1), some (.int l2)]) (st' := [.int (2 : Int32)]) (M' := M) rfl ?_
      exact wp_ret (r := some (.int (2 : Int32))) rfl rfl (hQ _ _ ⟨rfl, rfl⟩)
def b152_34 (n : Nat)  (l0 : Nat) (l1 : Int32) (l2 : Int32) (s0 : Int32) (M : zM) : Int32 × zM := (if s0 ≤ (zI M l0 12) then b152_43 n  l0 l1 l2 M else ((1 : Int32), M))
def p152_34 (n : Nat)  (l0 : Nat) (l1 : Int32) (l2 : Int32) (s0 : Int32) (M : zM) : Prop := (zHasI 10 45 l0 M 12) ∧ (((s0 ≤ (zI M l0 12) → p152_43 n  l0 l1 l2 M) ∧ (¬ s0 ≤ (zI M l0 12) → True)))
theorem s152_34 (n : Nat)    (l0 : Nat) (l1 : Int32) (l2 : Int32) (s0 : Int32) (M : zM) (hp : p152_34 n  l0 l1 l2 s0 M) {Q : Option Value → zM → Prop} (hQ : ∀ r M1, zRI (b152_34 n  l0 l1 l2 s0 M) r M1 → Q r M1) : zWP 152 34 [some (.ref l0), some (.int l1), some (.int l2)] [.int s0] M Q := by
  unfold b152_34 at hQ
  unfold p152_34 at hp
  refine wp_go 1 (pc' := 35) (L' := [some (.ref l0), some (.int l1), some (.int l2)]) (st' := [.ref l0, .int s0]) (M' := M) rfl ?_
  obtain ⟨hc, hp⟩ := hp
  refine wq_getI (j := 12) rfl hc ?_
  refine wp_ic_le (t := 43) rfl rfl (fun hc => ?_) (fun hc => ?_)
  · rw [if_pos hc] at hQ
    replace hp := hp.1 hc
    exact s152_43 n    l0 l1 l2 M hp hQ
  · rw [if_neg hc] at hQ
    replace hp := hp.2 hc
    refine wp_go 1 (pc' := 42) (L' := [some (.ref l0), some (.int l1), some (.int l2)]) (st' := [.int (1 : Int32)]) (M' := M) rfl ?_
    exact wp_ret (r := some (.int (1 : Int32))) rfl rfl (hQ _ _ ⟨rfl, rfl⟩)
def b152_0 (n : Nat)  (l0 : Nat) (l1 : Int32) (l2 : Int32) (M : zM) : Int32 × zM := (if (zI M (zQ M l0 4) l1.toNatClampNeg) < 0 then b152_43 n  l0 l1 l2 M else (if (zI M (zQ M l0 4) l2.toNatClampNeg) < 0 then b152_43 n  l0 l1 l2 M else b152_34 n  l0 l1 l2 (b124_0 n ((zI M (zQ M l0 4) l1.toNatClampNeg) - (zI M (zQ M l0 4) l2.toNatClampNeg)) M).1 (b124_0 n ((zI M (zQ M l0 4) l1.toNatClampNeg) - (zI M (zQ M l0 4) l2.toNatClampNeg)) M).2))
def p152_0 (n : Nat)  (l0 : Nat) (l1 : Int32) (l2 : Int32) (M : zM) : Prop := (zHasQ 10 20 l0 M 4) ∧ ((zOkI (zQ M l0 4) l1 M) ∧ ((((zI M (zQ M l0 4) l1.toNatClampNeg) < 0 → p152_43 n  l0 l1 l2 M) ∧ (¬ (zI M (zQ M l0 4) l1.toNatClampNeg) < 0 → (zHasQ 10 20 l0 M 4) ∧ ((zOkI (zQ M l0 4) l2 M) ∧ ((((zI M (zQ M l0 4) l2.toNatClampNeg) < 0 → p152_43 n  l0 l1 l2 M) ∧ (¬ (zI M (zQ M l0 4) l2.toNatClampNeg) < 0 → (zHasQ 10 20 l0 M 4) ∧ ((zOkI (zQ M l0 4) l1 M) ∧ ((zHasQ 10 20 l0 M 4) ∧ ((zOkI (zQ M l0 4) l2 M) ∧ ((p124_0 n ((zI M (zQ M l0 4) l1.toNatClampNeg) - (zI M (zQ M l0 4) l2.toNatClampNeg)) M) ∧ (p152_34 n  l0 l1 l2 (b124_0 n ((zI M (zQ M l0 4) l1.toNatClampNeg) - (zI M (zQ M l0 4) l2.toNatClampNeg)) M).1 (b124_0 n ((zI M (zQ M l0 4) l1.toNatClampNeg) - (zI M (zQ M l0 4) l2.toNatClampNeg)) M).2)))))))))))))
theorem s152_0 (n : Nat)    (l0 : Nat) (l1 : Int32) (l2 : Int32) (M : zM) (hp : p152_0 n  l0 l1 l2 M) {Q : Option Value → zM → Prop} (hQ : ∀ r M1, zRI (b152_0 n  l0 l1 l2 M) r M1 → Q r M1) : zWP 152 0 [some (.ref l0), some (.int l1), some (.int l2)] [] M Q := by
  unfold b152_0 at hQ
  unfold p152_0 at hp
  refine wp_go 1 (pc' := 1) (L' := [some (.ref l0), some (.int l1), some (.int l2)]) (st' := [.ref l0]) (M' := M) rfl ?_
  obtain ⟨hc, hp⟩ := hp
  refine wq_getQ (j := 4) rfl hc ?_
  refine wp_go 1 (pc' := 5) (L' := [some (.ref l0), some (.int l1), some (.int l2)]) (st' := [.int l1, .ref (zQ M l0 4)]) (M' := M) rfl ?_
  obtain ⟨hc, hp⟩ := hp
  refine wq_iald rfl hc ?_
  refine wp_if_lt (t := 43) rfl rfl (fun hc => ?_) (fun hc => ?_)
  · rw [if_pos hc] at hQ
    replace hp := hp.1 hc
    exact s152_43 n    l0 l1 l2 M hp hQ
  · rw [if_neg hc] at hQ
    replace hp := hp.2 hc
    refine wp_go 1 (pc' := 10) (L' := [some (.ref l0), some (.int l1), some (.int l2)]) (st' := [.ref l0]) (M' := M) rfl ?_
    obtain ⟨hc, hp⟩ := hp
    refine wq_getQ (j := 4) rfl hc ?_
    refine wp_go 1 (pc' := 14) (L' := [some (.ref l0), some (.int l1), some (.int l2)]) (st' := [.int l2, .ref (zQ M l0 4)]) (M' := M) rfl ?_
    obtain ⟨hc, hp⟩ := hp
    refine wq_iald rfl hc ?_
    refine wp_if_lt (t := 43) rfl rfl (fun hc => ?_) (fun hc => ?_)
    · rw [if_pos hc] at hQ
      replace hp := hp.1 hc
      exact s152_43 n    l0 l1 l2 M hp hQ
    · rw [if_neg hc] at hQ
      replace hp := hp.2 hc
      refine wp_go 1 (pc' := 19) (L' := [some (.ref l0), some (.int l1), some (.int l2)]) (st' := [.ref l0]) (M' := M) rfl ?_
      obtain ⟨hc, hp⟩ := hp
      refine wq_getQ (j := 4) rfl hc ?_
      refine wp_go 1 (pc' := 23) (L' := [some (.ref l0), some (.int l1), some (.int l2)]) (st' := [.int l1, .ref (zQ M l0 4)]) (M' := M) rfl ?_
      obtain ⟨hc, hp⟩ := hp
      refine wq_iald rfl hc ?_
      refine wp_go 1 (pc' := 25) (L' := [some (.ref l0), some (.int l1), some (.int l2)]) (st' := [.ref l0, .int (zI M (zQ M l0 4) l1.toNatClampNeg)]) (M' := M) rfl ?_
      obtain ⟨hc, hp⟩ := hp
      refine wq_getQ (j := 4) rfl hc ?_
      refine wp_go 1 (pc' := 29) (L' := [some (.ref l0), some (.int l1), some (.int l2)]) (st' := [.int l2, .ref (zQ M l0 4), .int (zI M (zQ M l0 4) l1.toNatClampNeg)]) (M' := M) rfl ?_
      obtain ⟨hc, hp⟩ := hp
      refine wq_iald rfl hc ?_
      refine wp_go 1 (pc' := 31) (L' := [some (.ref l0), some (.int l1), some (.int l2)]) (st' := [.int ((zI M (zQ M l0 4) l1.toNatClampNeg) - (zI M (zQ M l0 4) l2.toNatClampNeg))]) (M' := M) rfl ?_
      obtain ⟨hc, hp⟩ := hp
      refine wp_calli (v := (b124_0 n ((zI M (zQ M l0 4) l1.toNatClampNeg) - (zI M (zQ M l0 4) l2.toNatClampNeg)) M).1) (M1 := (b124_0 n ((zI M (zQ M l0 4) l1.toNatClampNeg) - (zI M (zQ M l0 4) l2.toNatClampNeg)) M).2) rfl rfl rfl rfl (s124_0 n ((zI M (zQ M l0 4) l1.toNatClampNeg) - (zI M (zQ M l0 4) l2.toNatClampNeg)) M hc (fun r M1 h => h)) ?_
      exact s152_34 n    l0 l1 l2 (b124_0 n ((zI M (zQ M l0 4) l1.toNatClampNeg) - (zI M (zQ M l0 4) l2.toNatClampNeg)) M).1 (b124_0 n ((zI M (zQ M l0 4) l1.toNatClampNeg) - (zI M (zQ M l0 4) l2.toNatClampNeg)) M).2 hp hQ
/-! X12_two -/
def b153_36 (n : Nat)  (s0 : Int32) (M : zM) : Int32 × zM := (s0, M)
def p153_36 (n : Nat)  (s0 : Int32) (M : zM) : Prop := True
theorem s153_36 (n : Nat)    (s0 : Int32) (M : zM) (hp : p153_36 n  s0 M) {Q : Option Value → zM → Prop} (hQ : ∀ r M1, zRI (b153_36 n  s0 M) r M1 → Q r M1) : zWP 153 36 [none, none, none] [.int s0] M Q := by
  unfold b153_36 at hQ
  unfold p153_36 at hp
  exact wp_ret (r := some (.int s0)) rfl rfl (hQ _ _ ⟨rfl, rfl⟩)
def b153_35 (n : Nat)   (M : zM) : Int32 × zM := b153_36 n  ((-1) : Int32) M
def p153_35 (n : Nat)   (M : zM) : Prop := p153_36 n  ((-1) : Int32) M
theorem s153_35 (n : Nat)     (M : zM) (hp : p153_35 n   M) {Q : Option Value → zM → Prop} (hQ : ∀ r M1, zRI (b153_35 n   M) r M1 → Q r M1) : zWP 153 35 [none, none, none] [] M Q := by
  unfold b153_35 at hQ
  unfold p153_35 at hp
  refine wp_go 1 (pc' := 36) (L' := [none, none, none]) (st' := [.int ((-1) : Int32)]) (M' := M) rfl ?_
  exact s153_36 n    ((-1) : Int32) M hp hQ
def b153_32 (n : Nat)  (s0 : Int32) (M : zM) : Int32 × zM := b153_36 n  s0 M
def p153_32 (n : Nat)  (s0 : Int32) (M : zM) : Prop := p153_36 n  s0 M
theorem s153_32 (n : Nat)    (s0 : Int32) (M : zM) (hp : p153_32 n  s0 M) {Q : Option Value → zM → Prop} (hQ : ∀ r M1, zRI (b153_32 n  s0 M) r M1 → Q r M1) : zWP 153 32 [none, none, none] [.int s0] M Q := by
  unfold b153_32 at hQ
  unfold p153_32 at hp
  refine wp_go 1 (pc' := 36) (L' := [none, none, none]) (st' := [.int s0]) (M' := M) rfl ?_
  exact s153_36 n    s0 M hp hQ
def b153_18 (n : Nat)  (l0 : Nat) (l1 : Int32) (l2 : Int32) (s0 : Int32) (M : zM) : Int32 × zM := (if s0 = 0 then b153_35 n  M else (if l1 = l2 then b153_35 n  M else b153_32 n  (b152_0 n l0 l1 l2 M).1 (b152_0 n l0 l1 l2 M).2))
def p153_18 (n : Nat)  (l0 : Nat) (l1 : Int32) (l2 : Int32) (s0 : Int32) (M : zM) : Prop := ((s0 = 0 → p153_35 n  M) ∧ (¬ s0 = 0 → ((l1 = l2 → p153_35 n  M) ∧ (¬ l1 = l2 → (zHasC 153 247 l0 M 152 2) ∧ ((p152_0 n l0 l1 l2 M) ∧ (p153_32 n  (b152_0 n l0 l1 l2 M).1 (b152_0 n l0 l1 l2 M).2))))))
theorem s153_18 (n : Nat)    (l0 : Nat) (l1 : Int32) (l2 : Int32) (s0 : Int32) (M : zM) (hp : p153_18 n  l0 l1 l2 s0 M) {Q : Option Value → zM → Prop} (hQ : ∀ r M1, zRI (b153_18 n  l0 l1 l2 s0 M) r M1 → Q r M1) : zWP 153 18 [some (.ref l0), some (.int l1), some (.int l2)] [.int s0] M Q := by
  unfold b153_18 at hQ
  unfold p153_18 at hp
  refine wp_if_eq (t := 35) rfl rfl (fun hc => ?_) (fun hc => ?_)
  · rw [if_pos hc] at hQ
    replace hp := hp.1 hc
    refine wp_le [none, none, none] (zLe_of (by simp [zLeB])) ?_
    exact s153_35 n    M hp hQ
  · rw [if_neg hc] at hQ
    replace hp := hp.2 hc
    refine wp_go 2 (pc' := 23) (L' := [some (.ref l0), some (.int l1), some (.int l2)]) (st' := [.int l2, .int l1]) (M' := M) rfl ?_
    refine wp_ic_eq (t := 35) rfl rfl (fun hc => ?_) (fun hc => ?_)
    · rw [if_pos hc] at hQ
      replace hp := hp.1 hc
      refine wp_le [none, none, none] (zLe_of (by simp [zLeB])) ?_
      exact s153_35 n    M hp hQ
    · rw [if_neg hc] at hQ
      replace hp := hp.2 hc
      refine wp_go 3 (pc' := 29) (L' := [some (.ref l0), some (.int l1), some (.int l2)]) (st' := [.int l2, .int l1, .ref l0]) (M' := M) rfl ?_
      obtain ⟨hv, hp⟩ := hp
      obtain ⟨hc, hp⟩ := hp
      refine wp_calli (v := (b152_0 n l0 l1 l2 M).1) (M1 := (b152_0 n l0 l1 l2 M).2) rfl rfl rfl (zInv_v (np := 2) rfl rfl hv rfl) (s152_0 n l0 l1 l2 M hc (fun r M1 h => h)) ?_
      refine wp_le [none, none, none] (zLe_of (by simp [zLeB])) ?_
      exact s153_32 n    (b152_0 n l0 l1 l2 M).1 (b152_0 n l0 l1 l2 M).2 hp hQ
def b153_10 (n : Nat)  (l0 : Nat) (l1 : Int32) (l2 : Int32) (s0 : Int32) (M : zM) : Int32 × zM := (if s0 = 0 then b153_35 n  M else b153_18 n  l0 l1 l2 (b126_0 n l0 l2 M).1 (b126_0 n l0 l2 M).2)
def p153_10 (n : Nat)  (l0 : Nat) (l1 : Int32) (l2 : Int32) (s0 : Int32) (M : zM) : Prop := ((s0 = 0 → p153_35 n  M) ∧ (¬ s0 = 0 → (zHasC 153 151 l0 M 126 1) ∧ ((p126_0 n l0 l2 M) ∧ (p153_18 n  l0 l1 l2 (b126_0 n l0 l2 M).1 (b126_0 n l0 l2 M).2))))
theorem s153_10 (n : Nat)    (l0 : Nat) (l1 : Int32) (l2 : Int32) (s0 : Int32) (M : zM) (hp : p153_10 n  l0 l1 l2 s0 M) {Q : Option Value → zM → Prop} (hQ : ∀ r M1, zRI (b153_10 n  l0 l1 l2 s0 M) r M1 → Q r M1) : zWP 153 10 [some (.ref l0), some (.int l1), some (.int l2)] [.int s0] M Q := by
  unfold b153_10 at hQ
  unfold p153_10 at hp
  refine wp_if_eq (t := 35) rfl rfl (fun hc => ?_) (fun hc => ?_)
  · rw [if_pos hc] at hQ
    replace hp := hp.1 hc
    refine wp_le [none, none, none] (zLe_of (by simp [zLeB])) ?_
    exact s153_35 n    M hp hQ
  · rw [if_neg hc] at hQ
    replace hp := hp.2 hc
    refine wp_go 2 (pc' := 15) (L' := [some (.ref l0), some (.int l1), some (.int l2)]) (st' := [.int l2, .ref l0]) (M' := M) rfl ?_
    obtain ⟨hv, hp⟩ := hp
    obtain ⟨hc, hp⟩ := hp
    refine wp_calli (v := (b126_0 n l0 l2 M).1) (M1 := (b126_0 n l0 l2 M).2) rfl rfl rfl (zInv_v (np := 1) rfl rfl hv rfl) (s126_0 n l0 l2 M hc (fun r M1 h => h)) ?_
    exact s153_18 n    l0 l1 l2 (b126_0 n l0 l2 M).1 (b126_0 n l0 l2 M).2 hp hQ
def b153_5 (n : Nat)  (l0 : Nat) (l1 : Int32) (l2 : Int32) (M : zM) : Int32 × zM := b153_10 n  l0 l1 l2 (b126_0 n l0 l1 M).1 (b126_0 n l0 l1 M).2
def p153_5 (n : Nat)  (l0 : Nat) (l1 : Int32) (l2 : Int32) (M : zM) : Prop := (zHasC 153 151 l0 M 126 1) ∧ ((p126_0 n l0 l1 M) ∧ (p153_10 n  l0 l1 l2 (b126_0 n l0 l1 M).1 (b126_0 n l0 l1 M).2))
theorem s153_5 (n : Nat)    (l0 : Nat) (l1 : Int32) (l2 : Int32) (M : zM) (hp : p153_5 n  l0 l1 l2 M) {Q : Option Value → zM → Prop} (hQ : ∀ r M1, zRI (b153_5 n  l0 l1 l2 M) r M1 → Q r M1) : zWP 153 5 [some (.ref l0), some (.int l1), some (.int l2)] [] M Q := by
  unfold b153_5 at hQ
  unfold p153_5 at hp
  refine wp_go 2 (pc' := 7) (L' := [some (.ref l0), some (.int l1), some (.int l2)]) (st' := [.int l1, .ref l0]) (M' := M) rfl ?_
  obtain ⟨hv, hp⟩ := hp
  obtain ⟨hc, hp⟩ := hp
  refine wp_calli (v := (b126_0 n l0 l1 M).1) (M1 := (b126_0 n l0 l1 M).2) rfl rfl rfl (zInv_v (np := 1) rfl rfl hv rfl) (s126_0 n l0 l1 M hc (fun r M1 h => h)) ?_
  exact s153_10 n    l0 l1 l2 (b126_0 n l0 l1 M).1 (b126_0 n l0 l1 M).2 hp hQ
def b153_0 (n : Nat)  (l0 : Nat) (l1 : Int32) (l2 : Int32) (M : zM) : Int32 × zM := b153_5 n  l0 l1 l2 (zWI M l0 26 (0 : Int32))
def p153_0 (n : Nat)  (l0 : Nat) (l1 : Int32) (l2 : Int32) (M : zM) : Prop := (zPutI 153 138 l0 M 26 (0 : Int32)) ∧ (p153_5 n  l0 l1 l2 (zWI M l0 26 (0 : Int32)))
theorem s153_0 (n : Nat)    (l0 : Nat) (l1 : Int32) (l2 : Int32) (M : zM) (hp : p153_0 n  l0 l1 l2 M) {Q : Option Value → zM → Prop} (hQ : ∀ r M1, zRI (b153_0 n  l0 l1 l2 M) r M1 → Q r M1) : zWP 153 0 [some (.ref l0), some (.int l1), some (.int l2)] [] M Q := by
  unfold b153_0 at hQ
  unfold p153_0 at hp
  refine wp_go 2 (pc' := 2) (L' := [some (.ref l0), some (.int l1), some (.int l2)]) (st' := [.int (0 : Int32), .ref l0]) (M' := M) rfl ?_
  obtain ⟨hc, hp⟩ := hp
  refine wq_putI (j := 26) rfl hc ?_
  exact s153_5 n    l0 l1 l2 (zWI M l0 26 (0 : Int32)) hp hQ
