/-! X11_whyNoOnePot -/
def b102_88 (n : Nat)   (M : zM) : Int32 × zM := ((0 : Int32), M)
def p102_88 (n : Nat)   (M : zM) : Prop := True
theorem s102_88 (n : Nat)     (M : zM) (hp : p102_88 n   M) {Q : Option Value → zM → Prop} (hQ : ∀ r M1, zRI (b102_88 n   M) r M1 → Q r M1) : zWP 102 88 [none, none, none] [] M Q := by
  unfold b102_88 at hQ
  unfold p102_88 at hp
  refine wp_go 1 (pc' := 89) (L' := [none, none, none]) (st' := [.int (0 : Int32)]) (M' := M) rfl ?_
  exact wp_ret (r := some (.int (0 : Int32))) rfl rfl (hQ _ _ ⟨rfl, rfl⟩)
def b102_59 (n : Nat)  (l1 : Nat) (l2 : Nat) (M : zM) : Int32 × zM := (if (zI M l1 10) = ((-1) : Int32) then b102_88 n  M else (if (zI M l2 10) = ((-1) : Int32) then b102_88 n  M else (if (zI M l1 10) = (zI M l2 10) then b102_88 n  M else ((3 : Int32), M))))
def p102_59 (n : Nat)  (l1 : Nat) (l2 : Nat) (M : zM) : Prop := (zHasI 9 178 l1 M 10) ∧ ((((zI M l1 10) = ((-1) : Int32) → p102_88 n  M) ∧ (¬ (zI M l1 10) = ((-1) : Int32) → (zHasI 9 178 l2 M 10) ∧ ((((zI M l2 10) = ((-1) : Int32) → p102_88 n  M) ∧ (¬ (zI M l2 10) = ((-1) : Int32) → (zHasI 9 178 l1 M 10) ∧ ((zHasI 9 178 l2 M 10) ∧ ((((zI M l1 10) = (zI M l2 10) → p102_88 n  M) ∧ (¬ (zI M l1 10) = (zI M l2 10) → True))))))))))
theorem s102_59 (n : Nat)    (l1 : Nat) (l2 : Nat) (M : zM) (hp : p102_59 n  l1 l2 M) {Q : Option Value → zM → Prop} (hQ : ∀ r M1, zRI (b102_59 n  l1 l2 M) r M1 → Q r M1) : zWP 102 59 [none, some (.ref l1), some (.ref l2)] [] M Q := by
  unfold b102_59 at hQ
  unfold p102_59 at hp
  refine wp_go 1 (pc' := 60) (L' := [none, some (.ref l1), some (.ref l2)]) (st' := [.ref l1]) (M' := M) rfl ?_
  obtain ⟨hc, hp⟩ := hp
  refine wq_getI (j := 10) rfl hc ?_
  refine wp_go 1 (pc' := 64) (L' := [none, some (.ref l1), some (.ref l2)]) (st' := [.int ((-1) : Int32), .int (zI M l1 10)]) (M' := M) rfl ?_
  refine wp_ic_eq (t := 88) rfl rfl (fun hc => ?_) (fun hc => ?_)
  · rw [if_pos hc] at hQ
    replace hp := hp.1 hc
    refine wp_le [none, none, none] (zLe_of (by simp [zLeB])) ?_
    exact s102_88 n    M hp hQ
  · rw [if_neg hc] at hQ
    replace hp := hp.2 hc
    refine wp_go 1 (pc' := 68) (L' := [none, some (.ref l1), some (.ref l2)]) (st' := [.ref l2]) (M' := M) rfl ?_
    obtain ⟨hc, hp⟩ := hp
    refine wq_getI (j := 10) rfl hc ?_
    refine wp_go 1 (pc' := 72) (L' := [none, some (.ref l1), some (.ref l2)]) (st' := [.int ((-1) : Int32), .int (zI M l2 10)]) (M' := M) rfl ?_
    refine wp_ic_eq (t := 88) rfl rfl (fun hc => ?_) (fun hc => ?_)
    · rw [if_pos hc] at hQ
      replace hp := hp.1 hc
      refine wp_le [none, none, none] (zLe_of (by simp [zLeB])) ?_
      exact s102_88 n    M hp hQ
    · rw [if_neg hc] at hQ
      replace hp := hp.2 hc
      refine wp_go 1 (pc' := 76) (L' := [none, some (.ref l1), some (.ref l2)]) (st' := [.ref l1]) (M' := M) rfl ?_
      obtain ⟨hc, hp⟩ := hp
      refine wq_getI (j := 10) rfl hc ?_
      refine wp_go 1 (pc' := 80) (L' := [none, some (.ref l1), some (.ref l2)]) (st' := [.ref l2, .int (zI M l1 10)]) (M' := M) rfl ?_
      obtain ⟨hc, hp⟩ := hp
      refine wq_getI (j := 10) rfl hc ?_
      refine wp_ic_eq (t := 88) rfl rfl (fun hc => ?_) (fun hc => ?_)
      · rw [if_pos hc] at hQ
        replace hp := hp.1 hc
        refine wp_le [none, none, none] (zLe_of (by simp [zLeB])) ?_
        exact s102_88 n    M hp hQ
      · rw [if_neg hc] at hQ
        replace hp := hp.2 hc
        refine wp_go 1 (pc' := 87) (L' := [none, some (.ref l1), some (.ref l2)]) (st' := [.int (3 : Int32)]) (M' := M) rfl ?_
        exact wp_ret (r := some (.int (3 : Int32))) rfl rfl (hQ _ _ ⟨rfl, rfl⟩)
def b102_37 (n : Nat)  (l1 : Nat) (l2 : Nat) (M : zM) : Int32 × zM := (if (zQ M l1 6) = 1000002 then (if (zQ M l2 6) = 1000002 then ((2 : Int32), M) else b102_59 n  l1 l2 M) else b102_59 n  l1 l2 M)
def p102_37 (n : Nat)  (l1 : Nat) (l2 : Nat) (M : zM) : Prop := (zHasQ 9 109 l1 M 6) ∧ ((1000000 ≤ (zQ M l1 6) ∧ (zQ M l1 6) < 1000006 ∧ 1000000 ≤ 1000002 ∧ 1000002 < 1000006) ∧ ((((zQ M l1 6) = 1000002 → (zHasQ 9 109 l2 M 6) ∧ ((1000000 ≤ (zQ M l2 6) ∧ (zQ M l2 6) < 1000006 ∧ 1000000 ≤ 1000002 ∧ 1000002 < 1000006) ∧ ((((zQ M l2 6) = 1000002 → True) ∧ (¬ (zQ M l2 6) = 1000002 → p102_59 n  l1 l2 M))))) ∧ (¬ (zQ M l1 6) = 1000002 → p102_59 n  l1 l2 M))))
theorem s102_37 (n : Nat)    (l1 : Nat) (l2 : Nat) (M : zM) (hp : p102_37 n  l1 l2 M) {Q : Option Value → zM → Prop} (hQ : ∀ r M1, zRI (b102_37 n  l1 l2 M) r M1 → Q r M1) : zWP 102 37 [none, some (.ref l1), some (.ref l2)] [] M Q := by
  unfold b102_37 at hQ
  unfold p102_37 at hp
  refine wp_go 1 (pc' := 38) (L' := [none, some (.ref l1), some (.ref l2)]) (st' := [.ref l1]) (M' := M) rfl ?_
  obtain ⟨hc, hp⟩ := hp
  refine wq_getQ (j := 6) rfl hc ?_
  refine wq_gets (j := 2) rfl rfl ?_
  obtain ⟨hc0, hp⟩ := hp
  refine wq_acmp_ne (t := 59) rfl hc0 rfl (fun hc => ?_) (fun hc => ?_)
  · rw [if_neg hc] at hQ
    replace hp := hp.2 hc
    exact s102_59 n    l1 l2 M hp hQ
  · rw [if_pos hc] at hQ
    replace hp := hp.1 hc
    refine wp_go 1 (pc' := 48) (L' := [none, some (.ref l1), some (.ref l2)]) (st' := [.ref l2]) (M' := M) rfl ?_
    obtain ⟨hc, hp⟩ := hp
    refine wq_getQ (j := 6) rfl hc ?_
    refine wq_gets (j := 2) rfl rfl ?_
    obtain ⟨hc0, hp⟩ := hp
    refine wq_acmp_ne (t := 59) rfl hc0 rfl (fun hc => ?_) (fun hc => ?_)
    · rw [if_neg hc] at hQ
      replace hp := hp.2 hc
      exact s102_59 n    l1 l2 M hp hQ
    · rw [if_pos hc] at hQ
      replace hp := hp.1 hc
      refine wp_go 1 (pc' := 58) (L' := [none, some (.ref l1), some (.ref l2)]) (st' := [.int (2 : Int32)]) (M' := M) rfl ?_
      exact wp_ret (r := some (.int (2 : Int32))) rfl rfl (hQ _ _ ⟨rfl, rfl⟩)
def b102_28 (n : Nat)  (l0 : Nat) (l1 : Nat) (l2 : Nat) (s0 : Int32) (M : zM) : Int32 × zM := (if s0 ≤ (zI M l0 14) then b102_37 n  l1 l2 M else ((1 : Int32), M))
def p102_28 (n : Nat)  (l0 : Nat) (l1 : Nat) (l2 : Nat) (s0 : Int32) (M : zM) : Prop := (zHasI 9 85 l0 M 14) ∧ (((s0 ≤ (zI M l0 14) → p102_37 n  l1 l2 M) ∧ (¬ s0 ≤ (zI M l0 14) → True)))
theorem s102_28 (n : Nat)    (l0 : Nat) (l1 : Nat) (l2 : Nat) (s0 : Int32) (M : zM) (hp : p102_28 n  l0 l1 l2 s0 M) {Q : Option Value → zM → Prop} (hQ : ∀ r M1, zRI (b102_28 n  l0 l1 l2 s0 M) r M1 → Q r M1) : zWP 102 28 [some (.ref l0), some (.ref l1), some (.ref l2)] [.int s0] M Q := by
  unfold b102_28 at hQ
  unfold p102_28 at hp
  refine wp_go 1 (pc' := 29) (L' := [some (.ref l0), some (.ref l1), some (.ref l2)]) (st' := [.ref l0, .int s0]) (M' := M) rfl ?_
  obtain ⟨hc, hp⟩ := hp
  refine wq_getI (j := 14) rfl hc ?_
  refine wp_ic_le (t := 37) rfl rfl (fun hc => ?_) (fun hc => ?_)
  · rw [if_pos hc] at hQ
    replace hp := hp.1 hc
    refine wp_le [none, some (.ref l1), some (.ref l2)] (zLe_of (by simp [zLeB])) ?_
    exact s102_37 n    l1 l2 M hp hQ
  · rw [if_neg hc] at hQ
    replace hp := hp.2 hc
    refine wp_go 1 (pc' := 36) (L' := [some (.ref l0), some (.ref l1), some (.ref l2)]) (st' := [.int (1 : Int32)]) (M' := M) rfl ?_
    exact wp_ret (r := some (.int (1 : Int32))) rfl rfl (hQ _ _ ⟨rfl, rfl⟩)
def b102_0 (n : Nat)  (l0 : Nat) (l1 : Nat) (l2 : Nat) (M : zM) : Int32 × zM := (if (zI M l1 9) = ((-1) : Int32) then b102_37 n  l1 l2 M else (if (zI M l2 9) = ((-1) : Int32) then b102_37 n  l1 l2 M else b102_28 n  l0 l1 l2 (b190_0 n ((zI M l1 9) - (zI M l2 9)) M).1 (b190_0 n ((zI M l1 9) - (zI M l2 9)) M).2))
def p102_0 (n : Nat)  (l0 : Nat) (l1 : Nat) (l2 : Nat) (M : zM) : Prop := (zHasI 9 172 l1 M 9) ∧ ((((zI M l1 9) = ((-1) : Int32) → p102_37 n  l1 l2 M) ∧ (¬ (zI M l1 9) = ((-1) : Int32) → (zHasI 9 172 l2 M 9) ∧ ((((zI M l2 9) = ((-1) : Int32) → p102_37 n  l1 l2 M) ∧ (¬ (zI M l2 9) = ((-1) : Int32) → (zHasI 9 172 l1 M 9) ∧ ((zHasI 9 172 l2 M 9) ∧ ((p190_0 n ((zI M l1 9) - (zI M l2 9)) M) ∧ (p102_28 n  l0 l1 l2 (b190_0 n ((zI M l1 9) - (zI M l2 9)) M).1 (b190_0 n ((zI M l1 9) - (zI M l2 9)) M).2)))))))))
theorem s102_0 (n : Nat)    (l0 : Nat) (l1 : Nat) (l2 : Nat) (M : zM) (hp : p102_0 n  l0 l1 l2 M) {Q : Option Value → zM → Prop} (hQ : ∀ r M1, zRI (b102_0 n  l0 l1 l2 M) r M1 → Q r M1) : zWP 102 0 [some (.ref l0), some (.ref l1), some (.ref l2)] [] M Q := by
  unfold b102_0 at hQ
  unfold p102_0 at hp
  refine wp_go 1 (pc' := 1) (L' := [some (.ref l0), some (.ref l1), some (.ref l2)]) (st' := [.ref l1]) (M' := M) rfl ?_
  obtain ⟨hc, hp⟩ := hp
  refine wq_getI (j := 9) rfl hc ?_
  refine wp_go 1 (pc' := 5) (L' := [some (.ref l0), some (.ref l1), some (.ref l2)]) (st' := [.int ((-1) : Int32), .int (zI M l1 9)]) (M' := M) rfl ?_
  refine wp_ic_eq (t := 37) rfl rfl (fun hc => ?_) (fun hc => ?_)
  · rw [if_pos hc] at hQ
    replace hp := hp.1 hc
    refine wp_le [none, some (.ref l1), some (.ref l2)] (zLe_of (by simp [zLeB])) ?_
    exact s102_37 n    l1 l2 M hp hQ
  · rw [if_neg hc] at hQ
    replace hp := hp.2 hc
    refine wp_go 1 (pc' := 9) (L' := [some (.ref l0), some (.ref l1), some (.ref l2)]) (st' := [.ref l2]) (M' := M) rfl ?_
    obtain ⟨hc, hp⟩ := hp
    refine wq_getI (j := 9) rfl hc ?_
    refine wp_go 1 (pc' := 13) (L' := [some (.ref l0), some (.ref l1), some (.ref l2)]) (st' := [.int ((-1) : Int32), .int (zI M l2 9)]) (M' := M) rfl ?_
    refine wp_ic_eq (t := 37) rfl rfl (fun hc => ?_) (fun hc => ?_)
    · rw [if_pos hc] at hQ
      replace hp := hp.1 hc
      refine wp_le [none, some (.ref l1), some (.ref l2)] (zLe_of (by simp [zLeB])) ?_
      exact s102_37 n    l1 l2 M hp hQ
    · rw [if_neg hc] at hQ
      replace hp := hp.2 hc
      refine wp_go 1 (pc' := 17) (L' := [some (.ref l0), some (.ref l1), some (.ref l2)]) (st' := [.ref l1]) (M' := M) rfl ?_
      obtain ⟨hc, hp⟩ := hp
      refine wq_getI (j := 9) rfl hc ?_
      refine wp_go 1 (pc' := 21) (L' := [some (.ref l0), some (.ref l1), some (.ref l2)]) (st' := [.ref l2, .int (zI M l1 9)]) (M' := M) rfl ?_
      obtain ⟨hc, hp⟩ := hp
      refine wq_getI (j := 9) rfl hc ?_
      refine wp_go 1 (pc' := 25) (L' := [some (.ref l0), some (.ref l1), some (.ref l2)]) (st' := [.int ((zI M l1 9) - (zI M l2 9))]) (M' := M) rfl ?_
      obtain ⟨hc, hp⟩ := hp
      refine wp_calli (v := (b190_0 n ((zI M l1 9) - (zI M l2 9)) M).1) (M1 := (b190_0 n ((zI M l1 9) - (zI M l2 9)) M).2) rfl rfl rfl rfl (s190_0 n ((zI M l1 9) - (zI M l2 9)) M hc (fun r M1 h => h)) ?_
      exact s102_28 n    l0 l1 l2 (b190_0 n ((zI M l1 9) - (zI M l2 9)) M).1 (b190_0 n ((zI M l1 9) - (zI M l2 9)) M).2 hp hQ
/-! X11_two -/
def b77_21 (n : Nat)   (M : zM) : Int32 × zM := (((-1) : Int32), M)
def p77_21 (n : Nat)   (M : zM) : Prop := True
theorem s77_21 (n : Nat)     (M : zM) (hp : p77_21 n   M) {Q : Option Value → zM → Prop} (hQ : ∀ r M1, zRI (b77_21 n   M) r M1 → Q r M1) : zWP 77 21 [none, none, none] [] M Q := by
  unfold b77_21 at hQ
  unfold p77_21 at hp
  refine wp_go 1 (pc' := 22) (L' := [none, none, none]) (st' := [.int ((-1) : Int32)]) (M' := M) rfl ?_
  exact wp_ret (r := some (.int ((-1) : Int32))) rfl rfl (hQ _ _ ⟨rfl, rfl⟩)
def b77_39 (n : Nat)  (s0 : Int32) (M : zM) : Int32 × zM := (s0, M)
def p77_39 (n : Nat)  (s0 : Int32) (M : zM) : Prop := True
theorem s77_39 (n : Nat)    (s0 : Int32) (M : zM) (hp : p77_39 n  s0 M) {Q : Option Value → zM → Prop} (hQ : ∀ r M1, zRI (b77_39 n  s0 M) r M1 → Q r M1) : zWP 77 39 [none, none, none] [.int s0] M Q := by
  unfold b77_39 at hQ
  unfold p77_39 at hp
  exact wp_ret (r := some (.int s0)) rfl rfl (hQ _ _ ⟨rfl, rfl⟩)
def b77_13 (n : Nat)  (l0 : Nat) (l1 : Int32) (l2 : Int32) (s0 : Int32) (M : zM) : Int32 × zM := (if s0 = 0 then b77_21 n  M else (if l1 = l2 then b77_21 n  M else b77_39 n  (b102_0 n l0 (zQ M (zQ M l0 0) l1.toNatClampNeg) (zQ M (zQ M l0 0) l2.toNatClampNeg) M).1 (b102_0 n l0 (zQ M (zQ M l0 0) l1.toNatClampNeg) (zQ M (zQ M l0 0) l2.toNatClampNeg) M).2))
def p77_13 (n : Nat)  (l0 : Nat) (l1 : Int32) (l2 : Int32) (s0 : Int32) (M : zM) : Prop := ((s0 = 0 → p77_21 n  M) ∧ (¬ s0 = 0 → ((l1 = l2 → p77_21 n  M) ∧ (¬ l1 = l2 → (zHasQ 9 11 l0 M 0) ∧ ((zOkR (zQ M l0 0) l1 M) ∧ ((zHasQ 9 11 l0 M 0) ∧ ((zOkR (zQ M l0 0) l2 M) ∧ ((zHasC 77 288 l0 M 102 2) ∧ ((p102_0 n l0 (zQ M (zQ M l0 0) l1.toNatClampNeg) (zQ M (zQ M l0 0) l2.toNatClampNeg) M) ∧ (p77_39 n  (b102_0 n l0 (zQ M (zQ M l0 0) l1.toNatClampNeg) (zQ M (zQ M l0 0) l2.toNatClampNeg) M).1 (b102_0 n l0 (zQ M (zQ M l0 0) l1.toNatClampNeg) (zQ M (zQ M l0 0) l2.toNatClampNeg) M).2))))))))))
theorem s77_13 (n : Nat)    (l0 : Nat) (l1 : Int32) (l2 : Int32) (s0 : Int32) (M : zM) (hp : p77_13 n  l0 l1 l2 s0 M) {Q : Option Value → zM → Prop} (hQ : ∀ r M1, zRI (b77_13 n  l0 l1 l2 s0 M) r M1 → Q r M1) : zWP 77 13 [some (.ref l0), some (.int l1), some (.int l2)] [.int s0] M Q := by
  unfold b77_13 at hQ
  unfold p77_13 at hp
  refine wp_if_eq (t := 21) rfl rfl (fun hc => ?_) (fun hc => ?_)
  · rw [if_pos hc] at hQ
    replace hp := hp.1 hc
    refine wp_le [none, none, none] (zLe_of (by simp [zLeB])) ?_
    exact s77_21 n    M hp hQ
  · rw [if_neg hc] at hQ
    replace hp := hp.2 hc
    refine wp_go 2 (pc' := 18) (L' := [some (.ref l0), some (.int l1), some (.int l2)]) (st' := [.int l2, .int l1]) (M' := M) rfl ?_
    refine wp_ic_ne (t := 23) rfl rfl (fun hc => ?_) (fun hc => ?_)
    · rw [if_neg hc] at hQ
      replace hp := hp.2 hc
      refine wp_go 2 (pc' := 25) (L' := [some (.ref l0), some (.int l1), some (.int l2)]) (st' := [.ref l0, .ref l0]) (M' := M) rfl ?_
      obtain ⟨hc, hp⟩ := hp
      refine wq_getQ (j := 0) rfl hc ?_
      refine wp_go 1 (pc' := 29) (L' := [some (.ref l0), some (.int l1), some (.int l2)]) (st' := [.int l1, .ref (zQ M l0 0), .ref l0]) (M' := M) rfl ?_
      obtain ⟨hc, hp⟩ := hp
      refine wq_aald rfl hc ?_
      refine wp_go 1 (pc' := 31) (L' := [some (.ref l0), some (.int l1), some (.int l2)]) (st' := [.ref l0, .ref (zQ M (zQ M l0 0) l1.toNatClampNeg), .ref l0]) (M' := M) rfl ?_
      obtain ⟨hc, hp⟩ := hp
      refine wq_getQ (j := 0) rfl hc ?_
      refine wp_go 1 (pc' := 35) (L' := [some (.ref l0), some (.int l1), some (.int l2)]) (st' := [.int l2, .ref (zQ M l0 0), .ref (zQ M (zQ M l0 0) l1.toNatClampNeg), .ref l0]) (M' := M) rfl ?_
      obtain ⟨hc, hp⟩ := hp
      refine wq_aald rfl hc ?_
      obtain ⟨hv, hp⟩ := hp
      obtain ⟨hc, hp⟩ := hp
      refine wp_calli (v := (b102_0 n l0 (zQ M (zQ M l0 0) l1.toNatClampNeg) (zQ M (zQ M l0 0) l2.toNatClampNeg) M).1) (M1 := (b102_0 n l0 (zQ M (zQ M l0 0) l1.toNatClampNeg) (zQ M (zQ M l0 0) l2.toNatClampNeg) M).2) rfl rfl rfl (zInv_v (np := 2) rfl rfl hv rfl) (s102_0 n l0 (zQ M (zQ M l0 0) l1.toNatClampNeg) (zQ M (zQ M l0 0) l2.toNatClampNeg) M hc (fun r M1 h => h)) ?_
      refine wp_le [none, none, none] (zLe_of (by simp [zLeB])) ?_
      exact s77_39 n    (b102_0 n l0 (zQ M (zQ M l0 0) l1.toNatClampNeg) (zQ M (zQ M l0 0) l2.toNatClampNeg) M).1 (b102_0 n l0 (zQ M (zQ M l0 0) l1.toNatClampNeg) (zQ M (zQ M l0 0) l2.toNatClampNeg) M).2 hp hQ
    · rw [if_pos hc] at hQ
      replace hp := hp.1 hc
      refine wp_le [none, none, none] (zLe_of (by simp [zLeB])) ?_
      exact s77_21 n    M hp hQ
def b77_5 (n : Nat)  (l0 : Nat) (l1 : Int32) (l2 : Int32) (s0 : Int32) (M : zM) : Int32 × zM := (if s0 = 0 then b77_21 n  M else b77_13 n  l0 l1 l2 (b89_0 n l0 l2 M).1 (b89_0 n l0 l2 M).2)
def p77_5 (n : Nat)  (l0 : Nat) (l1 : Int32) (l2 : Int32) (s0 : Int32) (M : zM) : Prop := ((s0 = 0 → p77_21 n  M) ∧ (¬ s0 = 0 → (zHasC 77 117 l0 M 89 1) ∧ ((p89_0 n l0 l2 M) ∧ (p77_13 n  l0 l1 l2 (b89_0 n l0 l2 M).1 (b89_0 n l0 l2 M).2))))
theorem s77_5 (n : Nat)    (l0 : Nat) (l1 : Int32) (l2 : Int32) (s0 : Int32) (M : zM) (hp : p77_5 n  l0 l1 l2 s0 M) {Q : Option Value → zM → Prop} (hQ : ∀ r M1, zRI (b77_5 n  l0 l1 l2 s0 M) r M1 → Q r M1) : zWP 77 5 [some (.ref l0), some (.int l1), some (.int l2)] [.int s0] M Q := by
  unfold b77_5 at hQ
  unfold p77_5 at hp
  refine wp_if_eq (t := 21) rfl rfl (fun hc => ?_) (fun hc => ?_)
  · rw [if_pos hc] at hQ
    replace hp := hp.1 hc
    refine wp_le [none, none, none] (zLe_of (by simp [zLeB])) ?_
    exact s77_21 n    M hp hQ
  · rw [if_neg hc] at hQ
    replace hp := hp.2 hc
    refine wp_go 2 (pc' := 10) (L' := [some (.ref l0), some (.int l1), some (.int l2)]) (st' := [.int l2, .ref l0]) (M' := M) rfl ?_
    obtain ⟨hv, hp⟩ := hp
    obtain ⟨hc, hp⟩ := hp
    refine wp_calli (v := (b89_0 n l0 l2 M).1) (M1 := (b89_0 n l0 l2 M).2) rfl rfl rfl (zInv_v (np := 1) rfl rfl hv rfl) (s89_0 n l0 l2 M hc (fun r M1 h => h)) ?_
    exact s77_13 n    l0 l1 l2 (b89_0 n l0 l2 M).1 (b89_0 n l0 l2 M).2 hp hQ
def b77_0 (n : Nat)  (l0 : Nat) (l1 : Int32) (l2 : Int32) (M : zM) : Int32 × zM := b77_5 n  l0 l1 l2 (b89_0 n l0 l1 M).1 (b89_0 n l0 l1 M).2
def p77_0 (n : Nat)  (l0 : Nat) (l1 : Int32) (l2 : Int32) (M : zM) : Prop := (zHasC 77 117 l0 M 89 1) ∧ ((p89_0 n l0 l1 M) ∧ (p77_5 n  l0 l1 l2 (b89_0 n l0 l1 M).1 (b89_0 n l0 l1 M).2))
theorem s77_0 (n : Nat)    (l0 : Nat) (l1 : Int32) (l2 : Int32) (M : zM) (hp : p77_0 n  l0 l1 l2 M) {Q : Option Value → zM → Prop} (hQ : ∀ r M1, zRI (b77_0 n  l0 l1 l2 M) r M1 → Q r M1) : zWP 77 0 [some (.ref l0), some (.int l1), some (.int l2)] [] M Q := by
  unfold b77_0 at hQ
  unfold p77_0 at hp
  refine wp_go 2 (pc' := 2) (L' := [some (.ref l0), some (.int l1), some (.int l2)]) (st' := [.int l1, .ref l0]) (M' := M) rfl ?_
  obtain ⟨hv, hp⟩ := hp
  obtain ⟨hc, hp⟩ := hp
  refine wp_calli (v := (b89_0 n l0 l1 M).1) (M1 := (b89_0 n l0 l1 M).2) rfl rfl rfl (zInv_v (np := 1) rfl rfl hv rfl) (s89_0 n l0 l1 M hc (fun r M1 h => h)) ?_
  exact s77_5 n    l0 l1 l2 (b89_0 n l0 l1 M).1 (b89_0 n l0 l1 M).2 hp hQ
/-! X11_isOfPart -/
def b104_38 (n : Nat) (k2 : Nat → Int32 → Int32 → Int32 → zM → Int32 × zM) (l0 : Nat) (l1 : Int32) (l2 : Int32) (l3 : Int32) (M : zM) : Int32 × zM := k2 l0 l1 l2 (l3 + Int32.ofInt 1) M
def p104_38 (n : Nat) (q2 : Nat → Int32 → Int32 → Int32 → zM → Prop) (l0 : Nat) (l1 : Int32) (l2 : Int32) (l3 : Int32) (M : zM) : Prop := q2 l0 l1 l2 (l3 + Int32.ofInt 1) M
theorem s104_38 (n : Nat) (k2 : Nat → Int32 → Int32 → Int32 → zM → Int32 × zM) (q2 : Nat → Int32 → Int32 → Int32 → zM → Prop) (h2 : ∀ (l0 : Nat) (l1 : Int32) (l2 : Int32) (l3 : Int32) (M : zM), q2 l0 l1 l2 l3 M → ∀ {Q : Option Value → zM → Prop}, (∀ r M1, zRI (k2 l0 l1 l2 l3 M) r M1 → Q r M1) → zWP 104 2 [some (.ref l0), some (.int l1), some (.int l2), some (.int l3)] [] M Q) (l0 : Nat) (l1 : Int32) (l2 : Int32) (l3 : Int32) (M : zM) (hp : p104_38 n q2 l0 l1 l2 l3 M) {Q : Option Value → zM → Prop} (hQ : ∀ r M1, zRI (b104_38 n k2 l0 l1 l2 l3 M) r M1 → Q r M1) : zWP 104 38 [some (.ref l0), some (.int l1), some (.int l2), some (.int l3)] [] M Q := by
  unfold b104_38 at hQ
  unfold p104_38 at hp
  refine wp_go 2 (pc' := 2) (L' := [some (.ref l0), some (.int l1), some (.int l2), some (.int (l3 + Int32.ofInt 1))]) (st' := []) (M' := M) rfl ?_
  exact h2 l0 l1 l2 (l3 + Int32.ofInt 1) M hp hQ
def b104_33 (n : Nat) (k2 : Nat → Int32 → Int32 → Int32 → zM → Int32 × zM) (l0 : Nat) (l1 : Int32) (l2 : Int32) (l3 : Int32) (s0 : Int32) (M : zM) : Int32 × zM := (if s0 = 0 then b104_38 n k2 l0 l1 l2 l3 M else ((0 : Int32), M))
def p104_33 (n : Nat) (q2 : Nat → Int32 → Int32 → Int32 → zM → Prop) (l0 : Nat) (l1 : Int32) (l2 : Int32) (l3 : Int32) (s0 : Int32) (M : zM) : Prop := ((s0 = 0 → p104_38 n q2 l0 l1 l2 l3 M) ∧ (¬ s0 = 0 → True))
theorem s104_33 (n : Nat) (k2 : Nat → Int32 → Int32 → Int32 → zM → Int32 × zM) (q2 : Nat → Int32 → Int32 → Int32 → zM → Prop) (h2 : ∀ (l0 : Nat) (l1 : Int32) (l2 : Int32) (l3 : Int32) (M : zM), q2 l0 l1 l2 l3 M → ∀ {Q : Option Value → zM → Prop}, (∀ r M1, zRI (k2 l0 l1 l2 l3 M) r M1 → Q r M1) → zWP 104 2 [some (.ref l0), some (.int l1), some (.int l2), some (.int l3)] [] M Q) (l0 : Nat) (l1 : Int32) (l2 : Int32) (l3 : Int32) (s0 : Int32) (M : zM) (hp : p104_33 n q2 l0 l1 l2 l3 s0 M) {Q : Option Value → zM → Prop} (hQ : ∀ r M1, zRI (b104_33 n k2 l0 l1 l2 l3 s0 M) r M1 → Q r M1) : zWP 104 33 [some (.ref l0), some (.int l1), some (.int l2), some (.int l3)] [.int s0] M Q := by
  unfold b104_33 at hQ
  unfold p104_33 at hp
  refine wp_if_eq (t := 38) rfl rfl (fun hc => ?_) (fun hc => ?_)
  · rw [if_pos hc] at hQ
    replace hp := hp.1 hc
    exact s104_38 n k2 q2 h2 l0 l1 l2 l3 M hp hQ
  · rw [if_neg hc] at hQ
    replace hp := hp.2 hc
    refine wp_go 1 (pc' := 37) (L' := [some (.ref l0), some (.int l1), some (.int l2), some (.int l3)]) (st' := [.int (0 : Int32)]) (M' := M) rfl ?_
    exact wp_ret (r := some (.int (0 : Int32))) rfl rfl (hQ _ _ ⟨rfl, rfl⟩)
def c104_2 (n : Nat) (k2 : Nat → Int32 → Int32 → Int32 → zM → Int32 × zM) (l0 : Nat) (l1 : Int32) (l2 : Int32) (l3 : Int32) (M : zM) : Int32 × zM := (if l1 ≤ l3 then ((1 : Int32), M) else (if (zI M (zQ M l0 2) l3.toNatClampNeg) = l2 then b104_33 n k2 l0 l1 l2 l3 (b102_0 n l0 (zQ M (zQ M l0 0) l3.toNatClampNeg) (zQ M (zQ M l0 0) l1.toNatClampNeg) M).1 (b102_0 n l0 (zQ M (zQ M l0 0) l3.toNatClampNeg) (zQ M (zQ M l0 0) l1.toNatClampNeg) M).2 else b104_38 n k2 l0 l1 l2 l3 M))
def d104_2 (n : Nat) (q2 : Nat → Int32 → Int32 → Int32 → zM → Prop) (l0 : Nat) (l1 : Int32) (l2 : Int32) (l3 : Int32) (M : zM) : Prop := ((l1 ≤ l3 → True) ∧ (¬ l1 ≤ l3 → (zHasQ 9 21 l0 M 2) ∧ ((zOkI (zQ M l0 2) l3 M) ∧ ((((zI M (zQ M l0 2) l3.toNatClampNeg) = l2 → (zHasQ 9 11 l0 M 0) ∧ ((zOkR (zQ M l0 0) l3 M) ∧ ((zHasQ 9 11 l0 M 0) ∧ ((zOkR (zQ M l0 0) l1 M) ∧ ((zHasC 104 288 l0 M 102 2) ∧ ((p102_0 n l0 (zQ M (zQ M l0 0) l3.toNatClampNeg) (zQ M (zQ M l0 0) l1.toNatClampNeg) M) ∧ (p104_33 n q2 l0 l1 l2 l3 (b102_0 n l0 (zQ M (zQ M l0 0) l3.toNatClampNeg) (zQ M (zQ M l0 0) l1.toNatClampNeg) M).1 (b102_0 n l0 (zQ M (zQ M l0 0) l3.toNatClampNeg) (zQ M (zQ M l0 0) l1.toNatClampNeg) M).2))))))) ∧ (¬ (zI M (zQ M l0 2) l3.toNatClampNeg) = l2 → p104_38 n q2 l0 l1 l2 l3 M))))))
theorem t104_2 (n : Nat) (k2 : Nat → Int32 → Int32 → Int32 → zM → Int32 × zM) (q2 : Nat → Int32 → Int32 → Int32 → zM → Prop) (h2 : ∀ (l0 : Nat) (l1 : Int32) (l2 : Int32) (l3 : Int32) (M : zM), q2 l0 l1 l2 l3 M → ∀ {Q : Option Value → zM → Prop}, (∀ r M1, zRI (k2 l0 l1 l2 l3 M) r M1 → Q r M1) → zWP 104 2 [some (.ref l0), some (.int l1), some (.int l2), some (.int l3)] [] M Q) (l0 : Nat) (l1 : Int32) (l2 : Int32) (l3 : Int32) (M : zM) (hp : d104_2 n q2 l0 l1 l2 l3 M) {Q : Option Value → zM → Prop} (hQ : ∀ r M1, zRI (c104_2 n k2 l0 l1 l2 l3 M) r M1 → Q r M1) : zWP 104 2 [some (.ref l0), some (.int l1), some (.int l2), some (.int l3)] [] M Q := by
  unfold c104_2 at hQ
  unfold d104_2 at hp
  refine wp_go 2 (pc' := 4) (L' := [some (.ref l0), some (.int l1), some (.int l2), some (.int l3)]) (st' := [.int l1, .int l3]) (M' := M) rfl ?_
  refine wp_ic_ge (t := 44) rfl rfl (fun hc => ?_) (fun hc => ?_)
  · rw [if_pos hc] at hQ
    replace hp := hp.1 hc
    refine wp_go 1 (pc' := 45) (L' := [some (.ref l0), some (.int l1), some (.int l2), some (.int l3)]) (st' := [.int (1 : Int32)]) (M' := M) rfl ?_
    exact wp_ret (r := some (.int (1 : Int32))) rfl rfl (hQ _ _ ⟨rfl, rfl⟩)
  · rw [if_neg hc] at hQ
    replace hp := hp.2 hc
    refine wp_go 1 (pc' := 8) (L' := [some (.ref l0), some (.int l1), some (.int l2), some (.int l3)]) (st' := [.ref l0]) (M' := M) rfl ?_
    obtain ⟨hc, hp⟩ := hp
    refine wq_getQ (j := 2) rfl hc ?_
    refine wp_go 1 (pc' := 12) (L' := [some (.ref l0), some (.int l1), some (.int l2), some (.int l3)]) (st' := [.int l3, .ref (zQ M l0 2)]) (M' := M) rfl ?_
    obtain ⟨hc, hp⟩ := hp
    refine wq_iald rfl hc ?_
    refine wp_go 1 (pc' := 14) (L' := [some (.ref l0), some (.int l1), some (.int l2), some (.int l3)]) (st' := [.int l2, .int (zI M (zQ M l0 2) l3.toNatClampNeg)]) (M' := M) rfl ?_
    refine wp_ic_ne (t := 38) rfl rfl (fun hc => ?_) (fun hc => ?_)
    · rw [if_neg hc] at hQ
      replace hp := hp.2 hc
      exact s104_38 n k2 q2 h2 l0 l1 l2 l3 M hp hQ
    · rw [if_pos hc] at hQ
      replace hp := hp.1 hc
      refine wp_go 2 (pc' := 19) (L' := [some (.ref l0), some (.int l1), some (.int l2), some (.int l3)]) (st' := [.ref l0, .ref l0]) (M' := M) rfl ?_
      obtain ⟨hc, hp⟩ := hp
      refine wq_getQ (j := 0) rfl hc ?_
      refine wp_go 1 (pc' := 23) (L' := [some (.ref l0), some (.int l1), some (.int l2), some (.int l3)]) (st' := [.int l3, .ref (zQ M l0 0), .ref l0]) (M' := M) rfl ?_
      obtain ⟨hc, hp⟩ := hp
      refine wq_aald rfl hc ?_
      refine wp_go 1 (pc' := 25) (L' := [some (.ref l0), some (.int l1), some (.int l2), some (.int l3)]) (st' := [.ref l0, .ref (zQ M (zQ M l0 0) l3.toNatClampNeg), .ref l0]) (M' := M) rfl ?_
      obtain ⟨hc, hp⟩ := hp
      refine wq_getQ (j := 0) rfl hc ?_
      refine wp_go 1 (pc' := 29) (L' := [some (.ref l0), some (.int l1), some (.int l2), some (.int l3)]) (st' := [.int l1, .ref (zQ M l0 0), .ref (zQ M (zQ M l0 0) l3.toNatClampNeg), .ref l0]) (M' := M) rfl ?_
      obtain ⟨hc, hp⟩ := hp
      refine wq_aald rfl hc ?_
      obtain ⟨hv, hp⟩ := hp
      obtain ⟨hc, hp⟩ := hp
      refine wp_calli (v := (b102_0 n l0 (zQ M (zQ M l0 0) l3.toNatClampNeg) (zQ M (zQ M l0 0) l1.toNatClampNeg) M).1) (M1 := (b102_0 n l0 (zQ M (zQ M l0 0) l3.toNatClampNeg) (zQ M (zQ M l0 0) l1.toNatClampNeg) M).2) rfl rfl rfl (zInv_v (np := 2) rfl rfl hv rfl) (s102_0 n l0 (zQ M (zQ M l0 0) l3.toNatClampNeg) (zQ M (zQ M l0 0) l1.toNatClampNeg) M hc (fun r M1 h => h)) ?_
      exact s104_33 n k2 q2 h2 l0 l1 l2 l3 (b102_0 n l0 (zQ M (zQ M l0 0) l3.toNatClampNeg) (zQ M (zQ M l0 0) l1.toNatClampNeg) M).1 (b102_0 n l0 (zQ M (zQ M l0 0) l3.toNatClampNeg) (zQ M (zQ M l0 0) l1.toNatClampNeg) M).2 hp hQ
def b104_2 (n : Nat)  : Nat → Nat → Int32 → Int32 → Int32 → zM → Int32 × zM
  | 0, _, _, _, _, M => (0, M)
  | k + 1, l0, l1, l2, l3, M => c104_2 n  (b104_2 n  k) l0 l1 l2 l3 M
def p104_2 (n : Nat)  : Nat → Nat → Int32 → Int32 → Int32 → zM → Prop
  | 0, _, _, _, _, _ => False
  | k + 1, l0, l1, l2, l3, M => d104_2 n  (p104_2 n  k) l0 l1 l2 l3 M
theorem s104_2 (n : Nat)    : ∀ (k : Nat) (l0 : Nat) (l1 : Int32) (l2 : Int32) (l3 : Int32) (M : zM), p104_2 n  k l0 l1 l2 l3 M → ∀ {Q : Option Value → zM → Prop}, (∀ r M1, zRI (b104_2 n  k l0 l1 l2 l3 M) r M1 → Q r M1) → zWP 104 2 [some (.ref l0), some (.int l1), some (.int l2), some (.int l3)] [] M Q
  | 0, _, _, _, _, _, h, _, _ => h.elim
  | k + 1, l0, l1, l2, l3, M, h, _, hQ => t104_2 n  (b104_2 n  k)  (p104_2 n  k)  (s104_2 n    k) l0 l1 l2 l3 M h hQ
def b104_0 (n : Nat)  (l0 : Nat) (l1 : Int32) (l2 : Int32) (M : zM) : Int32 × zM := b104_2 n  n l0 l1 l2 (0 : Int32) M
def p104_0 (n : Nat)  (l0 : Nat) (l1 : Int32) (l2 : Int32) (M : zM) : Prop := p104_2 n  n l0 l1 l2 (0 : Int32) M
theorem s104_0 (n : Nat)    (l0 : Nat) (l1 : Int32) (l2 : Int32) (M : zM) (hp : p104_0 n  l0 l1 l2 M) {Q : Option Value → zM → Prop} (hQ : ∀ r M1, zRI (b104_0 n  l0 l1 l2 M) r M1 → Q r M1) : zWP 104 0 [some (.ref l0), some (.int l1), some (.int l2), none] [] M Q := by
  unfold b104_0 at hQ
  unfold p104_0 at hp
  refine wp_go 2 (pc' := 2) (L' := [some (.ref l0), some (.int l1), some (.int l2), some (.int (0 : Int32))]) (st' := []) (M' := M) rfl ?_
  exact s104_2 n    n l0 l1 l2 (0 : Int32) M hp hQ
/-! X11_firstPartFor -/
def b103_22 (n : Nat)  (l2 : Int32) (M : zM) : Int32 × zM := (l2, M)
def p103_22 (n : Nat)  (l2 : Int32) (M : zM) : Prop := True
theorem s103_22 (n : Nat)    (l2 : Int32) (M : zM) (hp : p103_22 n  l2 M) {Q : Option Value → zM → Prop} (hQ : ∀ r M1, zRI (b103_22 n  l2 M) r M1 → Q r M1) : zWP 103 22 [none, none, some (.int l2)] [] M Q := by
  unfold b103_22 at hQ
  unfold p103_22 at hp
  refine wp_go 1 (pc' := 23) (L' := [none, none, some (.int l2)]) (st' := [.int l2]) (M' := M) rfl ?_
  exact wp_ret (r := some (.int l2)) rfl rfl (hQ _ _ ⟨rfl, rfl⟩)
def b103_13 (n : Nat) (k2 : Nat → Int32 → Int32 → zM → Int32 × zM) (l0 : Nat) (l1 : Int32) (l2 : Int32) (s0 : Int32) (M : zM) : Int32 × zM := (if s0 = 0 then k2 l0 l1 (l2 + Int32.ofInt 1) M else b103_22 n  l2 M)
def p103_13 (n : Nat) (q2 : Nat → Int32 → Int32 → zM → Prop) (l0 : Nat) (l1 : Int32) (l2 : Int32) (s0 : Int32) (M : zM) : Prop := ((s0 = 0 → q2 l0 l1 (l2 + Int32.ofInt 1) M) ∧ (¬ s0 = 0 → p103_22 n  l2 M))
theorem s103_13 (n : Nat) (k2 : Nat → Int32 → Int32 → zM → Int32 × zM) (q2 : Nat → Int32 → Int32 → zM → Prop) (h2 : ∀ (l0 : Nat) (l1 : Int32) (l2 : Int32) (M : zM), q2 l0 l1 l2 M → ∀ {Q : Option Value → zM → Prop}, (∀ r M1, zRI (k2 l0 l1 l2 M) r M1 → Q r M1) → zWP 103 2 [some (.ref l0), some (.int l1), some (.int l2)] [] M Q) (l0 : Nat) (l1 : Int32) (l2 : Int32) (s0 : Int32) (M : zM) (hp : p103_13 n q2 l0 l1 l2 s0 M) {Q : Option Value → zM → Prop} (hQ : ∀ r M1, zRI (b103_13 n k2 l0 l1 l2 s0 M) r M1 → Q r M1) : zWP 103 13 [some (.ref l0), some (.int l1), some (.int l2)] [.int s0] M Q := by
  unfold b103_13 at hQ
  unfold p103_13 at hp
  refine wp_if_ne (t := 22) rfl rfl (fun hc => ?_) (fun hc => ?_)
  · rw [if_neg hc] at hQ
    replace hp := hp.2 hc
    refine wp_le [none, none, some (.int l2)] (zLe_of (by simp [zLeB])) ?_
    exact s103_22 n    l2 M hp hQ
  · rw [if_pos hc] at hQ
    replace hp := hp.1 hc
    refine wp_go 2 (pc' := 2) (L' := [some (.ref l0), some (.int l1), some (.int (l2 + Int32.ofInt 1))]) (st' := []) (M' := M) rfl ?_
    exact h2 l0 l1 (l2 + Int32.ofInt 1) M hp hQ
def c103_2 (n : Nat) (k2 : Nat → Int32 → Int32 → zM → Int32 × zM) (l0 : Nat) (l1 : Int32) (l2 : Int32) (M : zM) : Int32 × zM := (if l1 ≤ l2 then b103_22 n  l2 M else b103_13 n k2 l0 l1 l2 (b104_0 n l0 l1 l2 M).1 (b104_0 n l0 l1 l2 M).2)
def d103_2 (n : Nat) (q2 : Nat → Int32 → Int32 → zM → Prop) (l0 : Nat) (l1 : Int32) (l2 : Int32) (M : zM) : Prop := ((l1 ≤ l2 → p103_22 n  l2 M) ∧ (¬ l1 ≤ l2 → (zHasC 103 423 l0 M 104 2) ∧ ((p104_0 n l0 l1 l2 M) ∧ (p103_13 n q2 l0 l1 l2 (b104_0 n l0 l1 l2 M).1 (b104_0 n l0 l1 l2 M).2))))
theorem t103_2 (n : Nat) (k2 : Nat → Int32 → Int32 → zM → Int32 × zM) (q2 : Nat → Int32 → Int32 → zM → Prop) (h2 : ∀ (l0 : Nat) (l1 : Int32) (l2 : Int32) (M : zM), q2 l0 l1 l2 M → ∀ {Q : Option Value → zM → Prop}, (∀ r M1, zRI (k2 l0 l1 l2 M) r M1 → Q r M1) → zWP 103 2 [some (.ref l0), some (.int l1), some (.int l2)] [] M Q) (l0 : Nat) (l1 : Int32) (l2 : Int32) (M : zM) (hp : d103_2 n q2 l0 l1 l2 M) {Q : Option Value → zM → Prop} (hQ : ∀ r M1, zRI (c103_2 n k2 l0 l1 l2 M) r M1 → Q r M1) : zWP 103 2 [some (.ref l0), some (.int l1), some (.int l2)] [] M Q := by
  unfold c103_2 at hQ
  unfold d103_2 at hp
  refine wp_go 2 (pc' := 4) (L' := [some (.ref l0), some (.int l1), some (.int l2)]) (st' := [.int l1, .int l2]) (M' := M) rfl ?_
  refine wp_ic_ge (t := 22) rfl rfl (fun hc => ?_) (fun hc => ?_)
  · rw [if_pos hc] at hQ
    replace hp := hp.1 hc
    refine wp_le [none, none, some (.int l2)] (zLe_of (by simp [zLeB])) ?_
    exact s103_22 n    l2 M hp hQ
  · rw [if_neg hc] at hQ
    replace hp := hp.2 hc
    refine wp_go 3 (pc' := 10) (L' := [some (.ref l0), some (.int l1), some (.int l2)]) (st' := [.int l2, .int l1, .ref l0]) (M' := M) rfl ?_
    obtain ⟨hv, hp⟩ := hp
    obtain ⟨hc, hp⟩ := hp
    refine wp_calli (v := (b104_0 n l0 l1 l2 M).1) (M1 := (b104_0 n l0 l1 l2 M).2) rfl rfl rfl (zInv_v (np := 2) rfl rfl hv rfl) (s104_0 n l0 l1 l2 M hc (fun r M1 h => h)) ?_
    exact s103_13 n k2 q2 h2 l0 l1 l2 (b104_0 n l0 l1 l2 M).1 (b104_0 n l0 l1 l2 M).2 hp hQ
def b103_2 (n : Nat)  : Nat → Nat → Int32 → Int32 → zM → Int32 × zM
  | 0, _, _, _, M => (0, M)
  | k + 1, l0, l1, l2, M => c103_2 n  (b103_2 n  k) l0 l1 l2 M
def p103_2 (n : Nat)  : Nat → Nat → Int32 → Int32 → zM → Prop
  | 0, _, _, _, _ => False
  | k + 1, l0, l1, l2, M => d103_2 n  (p103_2 n  k) l0 l1 l2 M
theorem s103_2 (n : Nat)    : ∀ (k : Nat) (l0 : Nat) (l1 : Int32) (l2 : Int32) (M : zM), p103_2 n  k l0 l1 l2 M → ∀ {Q : Option Value → zM → Prop}, (∀ r M1, zRI (b103_2 n  k l0 l1 l2 M) r M1 → Q r M1) → zWP 103 2 [some (.ref l0), some (.int l1), some (.int l2)] [] M Q
  | 0, _, _, _, _, h, _, _ => h.elim
  | k + 1, l0, l1, l2, M, h, _, hQ => t103_2 n  (b103_2 n  k)  (p103_2 n  k)  (s103_2 n    k) l0 l1 l2 M h hQ
def b103_0 (n : Nat)  (l0 : Nat) (l1 : Int32) (M : zM) : Int32 × zM := b103_2 n  n l0 l1 (0 : Int32) M
def p103_0 (n : Nat)  (l0 : Nat) (l1 : Int32) (M : zM) : Prop := p103_2 n  n l0 l1 (0 : Int32) M
theorem s103_0 (n : Nat)    (l0 : Nat) (l1 : Int32) (M : zM) (hp : p103_0 n  l0 l1 M) {Q : Option Value → zM → Prop} (hQ : ∀ r M1, zRI (b103_0 n  l0 l1 M) r M1 → Q r M1) : zWP 103 0 [some (.ref l0), some (.int l1), none] [] M Q := by
  unfold b103_0 at hQ
  unfold p103_0 at hp
  refine wp_go 2 (pc' := 2) (L' := [some (.ref l0), some (.int l1), some (.int (0 : Int32))]) (st' := []) (M' := M) rfl ?_
  exact s103_2 n    n l0 l1 (0 : Int32) M hp hQ
/-! X11_apart -/
def b78_28 (n : Nat) (k12 : Nat → Int32 → Int32 → zM → Int32 × zM) (l0 : Nat) (l1 : Int32) (l2 : Int32) (M : zM) : Int32 × zM := k12 l0 l1 (l2 + Int32.ofInt 1) M
def p78_28 (n : Nat) (q12 : Nat → Int32 → Int32 → zM → Prop) (l0 : Nat) (l1 : Int32) (l2 : Int32) (M : zM) : Prop := q12 l0 l1 (l2 + Int32.ofInt 1) M
theorem s78_28 (n : Nat) (k12 : Nat → Int32 → Int32 → zM → Int32 × zM) (q12 : Nat → Int32 → Int32 → zM → Prop) (h12 : ∀ (l0 : Nat) (l1 : Int32) (l2 : Int32) (M : zM), q12 l0 l1 l2 M → ∀ {Q : Option Value → zM → Prop}, (∀ r M1, zRI (k12 l0 l1 l2 M) r M1 → Q r M1) → zWP 78 12 [some (.ref l0), some (.int l1), some (.int l2)] [] M Q) (l0 : Nat) (l1 : Int32) (l2 : Int32) (M : zM) (hp : p78_28 n q12 l0 l1 l2 M) {Q : Option Value → zM → Prop} (hQ : ∀ r M1, zRI (b78_28 n k12 l0 l1 l2 M) r M1 → Q r M1) : zWP 78 28 [some (.ref l0), some (.int l1), some (.int l2)] [] M Q := by
  unfold b78_28 at hQ
  unfold p78_28 at hp
  refine wp_go 2 (pc' := 12) (L' := [some (.ref l0), some (.int l1), some (.int (l2 + Int32.ofInt 1))]) (st' := []) (M' := M) rfl ?_
  exact h12 l0 l1 (l2 + Int32.ofInt 1) M hp hQ
def b78_27 (n : Nat) (k12 : Nat → Int32 → Int32 → zM → Int32 × zM) (l0 : Nat) (l1 : Int32) (l2 : Int32) (s0 : Nat) (s1 : Int32) (s2 : Int32) (M : zM) : Int32 × zM := b78_28 n k12 l0 l1 l2 (zWI M s0 s1.toNatClampNeg s2)
def p78_27 (n : Nat) (q12 : Nat → Int32 → Int32 → zM → Prop) (l0 : Nat) (l1 : Int32) (l2 : Int32) (s0 : Nat) (s1 : Int32) (s2 : Int32) (M : zM) : Prop := (zOkT 1 s0 s1 M) ∧ (p78_28 n q12 l0 l1 l2 (zWI M s0 s1.toNatClampNeg s2))
theorem s78_27 (n : Nat) (k12 : Nat → Int32 → Int32 → zM → Int32 × zM) (q12 : Nat → Int32 → Int32 → zM → Prop) (h12 : ∀ (l0 : Nat) (l1 : Int32) (l2 : Int32) (M : zM), q12 l0 l1 l2 M → ∀ {Q : Option Value → zM → Prop}, (∀ r M1, zRI (k12 l0 l1 l2 M) r M1 → Q r M1) → zWP 78 12 [some (.ref l0), some (.int l1), some (.int l2)] [] M Q) (l0 : Nat) (l1 : Int32) (l2 : Int32) (s0 : Nat) (s1 : Int32) (s2 : Int32) (M : zM) (hp : p78_27 n q12 l0 l1 l2 s0 s1 s2 M) {Q : Option Value → zM → Prop} (hQ : ∀ r M1, zRI (b78_27 n k12 l0 l1 l2 s0 s1 s2 M) r M1 → Q r M1) : zWP 78 27 [some (.ref l0), some (.int l1), some (.int l2)] [.int s2, .int s1, .ref s0] M Q := by
  unfold b78_27 at hQ
  unfold p78_27 at hp
  obtain ⟨hc, hp⟩ := hp
  refine wq_iast rfl hc ?_
  exact s78_28 n k12 q12 h12 l0 l1 l2 (zWI M s0 s1.toNatClampNeg s2) hp hQ
def c78_12 (n : Nat) (k12 : Nat → Int32 → Int32 → zM → Int32 × zM) (l0 : Nat) (l1 : Int32) (l2 : Int32) (M : zM) : Int32 × zM := (if l1 < l2 then ((zI M (zQ M l0 2) l1.toNatClampNeg), M) else b78_27 n k12 l0 l1 l2 (zQ M l0 2) l2 (b103_0 n l0 l2 M).1 (b103_0 n l0 l2 M).2)
def d78_12 (n : Nat) (q12 : Nat → Int32 → Int32 → zM → Prop) (l0 : Nat) (l1 : Int32) (l2 : Int32) (M : zM) : Prop := ((l1 < l2 → (zHasQ 9 21 l0 M 2) ∧ ((zOkI (zQ M l0 2) l1 M) ∧ (True))) ∧ (¬ l1 < l2 → (zHasQ 9 21 l0 M 2) ∧ ((zHasC 78 292 l0 M 103 1) ∧ ((p103_0 n l0 l2 M) ∧ (p78_27 n q12 l0 l1 l2 (zQ M l0 2) l2 (b103_0 n l0 l2 M).1 (b103_0 n l0 l2 M).2)))))
theorem t78_12 (n : Nat) (k12 : Nat → Int32 → Int32 → zM → Int32 × zM) (q12 : Nat → Int32 → Int32 → zM → Prop) (h12 : ∀ (l0 : Nat) (l1 : Int32) (l2 : Int32) (M : zM), q12 l0 l1 l2 M → ∀ {Q : Option Value → zM → Prop}, (∀ r M1, zRI (k12 l0 l1 l2 M) r M1 → Q r M1) → zWP 78 12 [some (.ref l0), some (.int l1), some (.int l2)] [] M Q) (l0 : Nat) (l1 : Int32) (l2 : Int32) (M : zM) (hp : d78_12 n q12 l0 l1 l2 M) {Q : Option Value → zM → Prop} (hQ : ∀ r M1, zRI (c78_12 n k12 l0 l1 l2 M) r M1 → Q r M1) : zWP 78 12 [some (.ref l0), some (.int l1), some (.int l2)] [] M Q := by
  unfold c78_12 at hQ
  unfold d78_12 at hp
  refine wp_go 2 (pc' := 14) (L' := [some (.ref l0), some (.int l1), some (.int l2)]) (st' := [.int l1, .int l2]) (M' := M) rfl ?_
  refine wp_ic_gt (t := 34) rfl rfl (fun hc => ?_) (fun hc => ?_)
  · rw [if_pos hc] at hQ
    replace hp := hp.1 hc
    refine wp_go 1 (pc' := 35) (L' := [some (.ref l0), some (.int l1), some (.int l2)]) (st' := [.ref l0]) (M' := M) rfl ?_
    obtain ⟨hc, hp⟩ := hp
    refine wq_getQ (j := 2) rfl hc ?_
    refine wp_go 1 (pc' := 39) (L' := [some (.ref l0), some (.int l1), some (.int l2)]) (st' := [.int l1, .ref (zQ M l0 2)]) (M' := M) rfl ?_
    obtain ⟨hc, hp⟩ := hp
    refine wq_iald rfl hc ?_
    exact wp_ret (r := some (.int (zI M (zQ M l0 2) l1.toNatClampNeg))) rfl rfl (hQ _ _ ⟨rfl, rfl⟩)
  · rw [if_neg hc] at hQ
    replace hp := hp.2 hc
    refine wp_go 1 (pc' := 18) (L' := [some (.ref l0), some (.int l1), some (.int l2)]) (st' := [.ref l0]) (M' := M) rfl ?_
    obtain ⟨hc, hp⟩ := hp
    refine wq_getQ (j := 2) rfl hc ?_
    refine wp_go 3 (pc' := 24) (L' := [some (.ref l0), some (.int l1), some (.int l2)]) (st' := [.int l2, .ref l0, .int l2, .ref (zQ M l0 2)]) (M' := M) rfl ?_
    obtain ⟨hv, hp⟩ := hp
    obtain ⟨hc, hp⟩ := hp
    refine wp_calli (v := (b103_0 n l0 l2 M).1) (M1 := (b103_0 n l0 l2 M).2) rfl rfl rfl (zInv_v (np := 1) rfl rfl hv rfl) (s103_0 n l0 l2 M hc (fun r M1 h => h)) ?_
    exact s78_27 n k12 q12 h12 l0 l1 l2 (zQ M l0 2) l2 (b103_0 n l0 l2 M).1 (b103_0 n l0 l2 M).2 hp hQ
def b78_12 (n : Nat)  : Nat → Nat → Int32 → Int32 → zM → Int32 × zM
  | 0, _, _, _, M => (0, M)
  | k + 1, l0, l1, l2, M => c78_12 n  (b78_12 n  k) l0 l1 l2 M
def p78_12 (n : Nat)  : Nat → Nat → Int32 → Int32 → zM → Prop
  | 0, _, _, _, _ => False
  | k + 1, l0, l1, l2, M => d78_12 n  (p78_12 n  k) l0 l1 l2 M
theorem s78_12 (n : Nat)    : ∀ (k : Nat) (l0 : Nat) (l1 : Int32) (l2 : Int32) (M : zM), p78_12 n  k l0 l1 l2 M → ∀ {Q : Option Value → zM → Prop}, (∀ r M1, zRI (b78_12 n  k l0 l1 l2 M) r M1 → Q r M1) → zWP 78 12 [some (.ref l0), some (.int l1), some (.int l2)] [] M Q
  | 0, _, _, _, _, h, _, _ => h.elim
  | k + 1, l0, l1, l2, M, h, _, hQ => t78_12 n  (b78_12 n  k)  (p78_12 n  k)  (s78_12 n    k) l0 l1 l2 M h hQ
def b78_5 (n : Nat)  (l0 : Nat) (l1 : Int32) (s0 : Int32) (M : zM) : Int32 × zM := (if s0 = 0 then (((-1) : Int32), M) else b78_12 n  n l0 l1 (0 : Int32) M)
def p78_5 (n : Nat)  (l0 : Nat) (l1 : Int32) (s0 : Int32) (M : zM) : Prop := ((s0 = 0 → True) ∧ (¬ s0 = 0 → p78_12 n  n l0 l1 (0 : Int32) M))
theorem s78_5 (n : Nat)    (l0 : Nat) (l1 : Int32) (s0 : Int32) (M : zM) (hp : p78_5 n  l0 l1 s0 M) {Q : Option Value → zM → Prop} (hQ : ∀ r M1, zRI (b78_5 n  l0 l1 s0 M) r M1 → Q r M1) : zWP 78 5 [some (.ref l0), some (.int l1), none] [.int s0] M Q := by
  unfold b78_5 at hQ
  unfold p78_5 at hp
  refine wp_if_ne (t := 10) rfl rfl (fun hc => ?_) (fun hc => ?_)
  · rw [if_neg hc] at hQ
    replace hp := hp.2 hc
    refine wp_go 2 (pc' := 12) (L' := [some (.ref l0), some (.int l1), some (.int (0 : Int32))]) (st' := []) (M' := M) rfl ?_
    exact s78_12 n    n l0 l1 (0 : Int32) M hp hQ
  · rw [if_pos hc] at hQ
    replace hp := hp.1 hc
    refine wp_go 1 (pc' := 9) (L' := [some (.ref l0), some (.int l1), none]) (st' := [.int ((-1) : Int32)]) (M' := M) rfl ?_
    exact wp_ret (r := some (.int ((-1) : Int32))) rfl rfl (hQ _ _ ⟨rfl, rfl⟩)
def b78_0 (n : Nat)  (l0 : Nat) (l1 : Int32) (M : zM) : Int32 × zM := b78_5 n  l0 l1 (b89_0 n l0 l1 M).1 (b89_0 n l0 l1 M).2
def p78_0 (n : Nat)  (l0 : Nat) (l1 : Int32) (M : zM) : Prop := (zHasC 78 117 l0 M 89 1) ∧ ((p89_0 n l0 l1 M) ∧ (p78_5 n  l0 l1 (b89_0 n l0 l1 M).1 (b89_0 n l0 l1 M).2))
theorem s78_0 (n : Nat)    (l0 : Nat) (l1 : Int32) (M : zM) (hp : p78_0 n  l0 l1 M) {Q : Option Value → zM → Prop} (hQ : ∀ r M1, zRI (b78_0 n  l0 l1 M) r M1 → Q r M1) : zWP 78 0 [some (.ref l0), some (.int l1), none] [] M Q := by
  unfold b78_0 at hQ
  unfold p78_0 at hp
  refine wp_go 2 (pc' := 2) (L' := [some (.ref l0), some (.int l1), none]) (st' := [.int l1, .ref l0]) (M' := M) rfl ?_
  obtain ⟨hv, hp⟩ := hp
  obtain ⟨hc, hp⟩ := hp
  refine wp_calli (v := (b89_0 n l0 l1 M).1) (M1 := (b89_0 n l0 l1 M).2) rfl rfl rfl (zInv_v (np := 1) rfl rfl hv rfl) (s89_0 n l0 l1 M hc (fun r M1 h => h)) ?_
  exact s78_5 n    l0 l1 (b89_0 n l0 l1 M).1 (b89_0 n l0 l1 M).2 hp hQ
/-! X11_areOfNoOnePot -/
def b107_71 (n : Nat) (k2 : Nat → Int32 → Int32 → Int32 → zM → Int32 × zM) (k13 : Nat → Int32 → Int32 → Int32 → Int32 → zM → Int32 × zM) (l0 : Nat) (l1 : Int32) (l2 : Int32) (l3 : Int32) (l4 : Int32) (M : zM) : Int32 × zM := k13 l0 l1 l2 l3 (l4 + Int32.ofInt 1) M
def p107_71 (n : Nat) (q2 : Nat → Int32 → Int32 → Int32 → zM → Prop) (q13 : Nat → Int32 → Int32 → Int32 → Int32 → zM → Prop) (l0 : Nat) (l1 : Int32) (l2 : Int32) (l3 : Int32) (l4 : Int32) (M : zM) : Prop := q13 l0 l1 l2 l3 (l4 + Int32.ofInt 1) M
theorem s107_71 (n : Nat) (k2 : Nat → Int32 → Int32 → Int32 → zM → Int32 × zM) (k13 : Nat → Int32 → Int32 → Int32 → Int32 → zM → Int32 × zM) (q2 : Nat → Int32 → Int32 → Int32 → zM → Prop) (q13 : Nat → Int32 → Int32 → Int32 → Int32 → zM → Prop) (h2 : ∀ (l0 : Nat) (l1 : Int32) (l2 : Int32) (l3 : Int32) (M : zM), q2 l0 l1 l2 l3 M → ∀ {Q : Option Value → zM → Prop}, (∀ r M1, zRI (k2 l0 l1 l2 l3 M) r M1 → Q r M1) → zWP 107 2 [some (.ref l0), some (.int l1), some (.int l2), some (.int l3), none] [] M Q) (h13 : ∀ (l0 : Nat) (l1 : Int32) (l2 : Int32) (l3 : Int32) (l4 : Int32) (M : zM), q13 l0 l1 l2 l3 l4 M → ∀ {Q : Option Value → zM → Prop}, (∀ r M1, zRI (k13 l0 l1 l2 l3 l4 M) r M1 → Q r M1) → zWP 107 13 [some (.ref l0), some (.int l1), some (.int l2), some (.int l3), some (.int l4)] [] M Q) (l0 : Nat) (l1 : Int32) (l2 : Int32) (l3 : Int32) (l4 : Int32) (M : zM) (hp : p107_71 n q2 q13 l0 l1 l2 l3 l4 M) {Q : Option Value → zM → Prop} (hQ : ∀ r M1, zRI (b107_71 n k2 k13 l0 l1 l2 l3 l4 M) r M1 → Q r M1) : zWP 107 71 [some (.ref l0), some (.int l1), some (.int l2), some (.int l3), some (.int l4)] [] M Q := by
  unfold b107_71 at hQ
  unfold p107_71 at hp
  refine wp_go 2 (pc' := 13) (L' := [some (.ref l0), some (.int l1), some (.int l2), some (.int l3), some (.int (l4 + Int32.ofInt 1))]) (st' := []) (M' := M) rfl ?_
  exact h13 l0 l1 l2 l3 (l4 + Int32.ofInt 1) M hp hQ
def b107_66 (n : Nat) (k2 : Nat → Int32 → Int32 → Int32 → zM → Int32 × zM) (k13 : Nat → Int32 → Int32 → Int32 → Int32 → zM → Int32 × zM) (l0 : Nat) (l1 : Int32) (l2 : Int32) (l3 : Int32) (l4 : Int32) (s0 : Int32) (M : zM) : Int32 × zM := (if s0 = 0 then b107_71 n k2 k13 l0 l1 l2 l3 l4 M else ((1 : Int32), M))
def p107_66 (n : Nat) (q2 : Nat → Int32 → Int32 → Int32 → zM → Prop) (q13 : Nat → Int32 → Int32 → Int32 → Int32 → zM → Prop) (l0 : Nat) (l1 : Int32) (l2 : Int32) (l3 : Int32) (l4 : Int32) (s0 : Int32) (M : zM) : Prop := ((s0 = 0 → p107_71 n q2 q13 l0 l1 l2 l3 l4 M) ∧ (¬ s0 = 0 → True))
theorem s107_66 (n : Nat) (k2 : Nat → Int32 → Int32 → Int32 → zM → Int32 × zM) (k13 : Nat → Int32 → Int32 → Int32 → Int32 → zM → Int32 × zM) (q2 : Nat → Int32 → Int32 → Int32 → zM → Prop) (q13 : Nat → Int32 → Int32 → Int32 → Int32 → zM → Prop) (h2 : ∀ (l0 : Nat) (l1 : Int32) (l2 : Int32) (l3 : Int32) (M : zM), q2 l0 l1 l2 l3 M → ∀ {Q : Option Value → zM → Prop}, (∀ r M1, zRI (k2 l0 l1 l2 l3 M) r M1 → Q r M1) → zWP 107 2 [some (.ref l0), some (.int l1), some (.int l2), some (.int l3), none] [] M Q) (h13 : ∀ (l0 : Nat) (l1 : Int32) (l2 : Int32) (l3 : Int32) (l4 : Int32) (M : zM), q13 l0 l1 l2 l3 l4 M → ∀ {Q : Option Value → zM → Prop}, (∀ r M1, zRI (k13 l0 l1 l2 l3 l4 M) r M1 → Q r M1) → zWP 107 13 [some (.ref l0), some (.int l1), some (.int l2), some (.int l3), some (.int l4)] [] M Q) (l0 : Nat) (l1 : Int32) (l2 : Int32) (l3 : Int32) (l4 : Int32) (s0 : Int32) (M : zM) (hp : p107_66 n q2 q13 l0 l1 l2 l3 l4 s0 M) {Q : Option Value → zM → Prop} (hQ : ∀ r M1, zRI (b107_66 n k2 k13 l0 l1 l2 l3 l4 s0 M) r M1 → Q r M1) : zWP 107 66 [some (.ref l0), some (.int l1), some (.int l2), some (.int l3), some (.int l4)] [.int s0] M Q := by
  unfold b107_66 at hQ
  unfold p107_66 at hp
  refine wp_if_eq (t := 71) rfl rfl (fun hc => ?_) (fun hc => ?_)
  · rw [if_pos hc] at hQ
    replace hp := hp.1 hc
    exact s107_71 n k2 k13 q2 q13 h2 h13 l0 l1 l2 l3 l4 M hp hQ
  · rw [if_neg hc] at hQ
    replace hp := hp.2 hc
    refine wp_go 1 (pc' := 70) (L' := [some (.ref l0), some (.int l1), some (.int l2), some (.int l3), some (.int l4)]) (st' := [.int (1 : Int32)]) (M' := M) rfl ?_
    exact wp_ret (r := some (.int (1 : Int32))) rfl rfl (hQ _ _ ⟨rfl, rfl⟩)
def c107_13 (n : Nat) (k2 : Nat → Int32 → Int32 → Int32 → zM → Int32 × zM) (k13 : Nat → Int32 → Int32 → Int32 → Int32 → zM → Int32 × zM) (l0 : Nat) (l1 : Int32) (l2 : Int32) (l3 : Int32) (l4 : Int32) (M : zM) : Int32 × zM := (if (zI M l0 12) ≤ l4 then k2 l0 l1 l2 (l3 + Int32.ofInt 1) M else (if (zI M (zQ M (zQ M l0 4) 0) l3.toNatClampNeg) = l1 then (if (zI M (zQ M (zQ M l0 4) 0) l4.toNatClampNeg) = l2 then b107_66 n k2 k13 l0 l1 l2 l3 l4 (b102_0 n l0 (zQ M (zQ M l0 0) l3.toNatClampNeg) (zQ M (zQ M l0 0) l4.toNatClampNeg) M).1 (b102_0 n l0 (zQ M (zQ M l0 0) l3.toNatClampNeg) (zQ M (zQ M l0 0) l4.toNatClampNeg) M).2 else b107_71 n k2 k13 l0 l1 l2 l3 l4 M) else b107_71 n k2 k13 l0 l1 l2 l3 l4 M))
def d107_13 (n : Nat) (q2 : Nat → Int32 → Int32 → Int32 → zM → Prop) (q13 : Nat → Int32 → Int32 → Int32 → Int32 → zM → Prop) (l0 : Nat) (l1 : Int32) (l2 : Int32) (l3 : Int32) (l4 : Int32) (M : zM) : Prop := (zHasI 9 78 l0 M 12) ∧ ((((zI M l0 12) ≤ l4 → q2 l0 l1 l2 (l3 + Int32.ofInt 1) M) ∧ (¬ (zI M l0 12) ≤ l4 → (zHasQ 9 35 l0 M 4) ∧ ((zHasQ 9 192 (zQ M l0 4) M 0) ∧ ((zOkI (zQ M (zQ M l0 4) 0) l3 M) ∧ ((((zI M (zQ M (zQ M l0 4) 0) l3.toNatClampNeg) = l1 → (zHasQ 9 35 l0 M 4) ∧ ((zHasQ 9 192 (zQ M l0 4) M 0) ∧ ((zOkI (zQ M (zQ M l0 4) 0) l4 M) ∧ ((((zI M (zQ M (zQ M l0 4) 0) l4.toNatClampNeg) = l2 → (zHasQ 9 11 l0 M 0) ∧ ((zOkR (zQ M l0 0) l3 M) ∧ ((zHasQ 9 11 l0 M 0) ∧ ((zOkR (zQ M l0 0) l4 M) ∧ ((zHasC 107 288 l0 M 102 2) ∧ ((p102_0 n l0 (zQ M (zQ M l0 0) l3.toNatClampNeg) (zQ M (zQ M l0 0) l4.toNatClampNeg) M) ∧ (p107_66 n q2 q13 l0 l1 l2 l3 l4 (b102_0 n l0 (zQ M (zQ M l0 0) l3.toNatClampNeg) (zQ M (zQ M l0 0) l4.toNatClampNeg) M).1 (b102_0 n l0 (zQ M (zQ M l0 0) l3.toNatClampNeg) (zQ M (zQ M l0 0) l4.toNatClampNeg) M).2))))))) ∧ (¬ (zI M (zQ M (zQ M l0 4) 0) l4.toNatClampNeg) = l2 → p107_71 n q2 q13 l0 l1 l2 l3 l4 M)))))) ∧ (¬ (zI M (zQ M (zQ M l0 4) 0) l3.toNatClampNeg) = l1 → p107_71 n q2 q13 l0 l1 l2 l3 l4 M))))))))
theorem t107_13 (n : Nat) (k2 : Nat → Int32 → Int32 → Int32 → zM → Int32 × zM) (k13 : Nat → Int32 → Int32 → Int32 → Int32 → zM → Int32 × zM) (q2 : Nat → Int32 → Int32 → Int32 → zM → Prop) (q13 : Nat → Int32 → Int32 → Int32 → Int32 → zM → Prop) (h2 : ∀ (l0 : Nat) (l1 : Int32) (l2 : Int32) (l3 : Int32) (M : zM), q2 l0 l1 l2 l3 M → ∀ {Q : Option Value → zM → Prop}, (∀ r M1, zRI (k2 l0 l1 l2 l3 M) r M1 → Q r M1) → zWP 107 2 [some (.ref l0), some (.int l1), some (.int l2), some (.int l3), none] [] M Q) (h13 : ∀ (l0 : Nat) (l1 : Int32) (l2 : Int32) (l3 : Int32) (l4 : Int32) (M : zM), q13 l0 l1 l2 l3 l4 M → ∀ {Q : Option Value → zM → Prop}, (∀ r M1, zRI (k13 l0 l1 l2 l3 l4 M) r M1 → Q r M1) → zWP 107 13 [some (.ref l0), some (.int l1), some (.int l2), some (.int l3), some (.int l4)] [] M Q) (l0 : Nat) (l1 : Int32) (l2 : Int32) (l3 : Int32) (l4 : Int32) (M : zM) (hp : d107_13 n q2 q13 l0 l1 l2 l3 l4 M) {Q : Option Value → zM → Prop} (hQ : ∀ r M1, zRI (c107_13 n k2 k13 l0 l1 l2 l3 l4 M) r M1 → Q r M1) : zWP 107 13 [some (.ref l0), some (.int l1), some (.int l2), some (.int l3), some (.int l4)] [] M Q := by
  unfold c107_13 at hQ
  unfold d107_13 at hp
  refine wp_go 2 (pc' := 16) (L' := [some (.ref l0), some (.int l1), some (.int l2), some (.int l3), some (.int l4)]) (st' := [.ref l0, .int l4]) (M' := M) rfl ?_
  obtain ⟨hc, hp⟩ := hp
  refine wq_getI (j := 12) rfl hc ?_
  refine wp_ic_ge (t := 77) rfl rfl (fun hc => ?_) (fun hc => ?_)
  · rw [if_pos hc] at hQ
    replace hp := hp.1 hc
    refine wp_go 2 (pc' := 2) (L' := [some (.ref l0), some (.int l1), some (.int l2), some (.int (l3 + Int32.ofInt 1)), some (.int l4)]) (st' := []) (M' := M) rfl ?_
    refine wp_le [some (.ref l0), some (.int l1), some (.int l2), some (.int (l3 + Int32.ofInt 1)), none] (zLe_of (by simp [zLeB])) ?_
    exact h2 l0 l1 l2 (l3 + Int32.ofInt 1) M hp hQ
  · rw [if_neg hc] at hQ
    replace hp := hp.2 hc
    refine wp_go 1 (pc' := 23) (L' := [some (.ref l0), some (.int l1), some (.int l2), some (.int l3), some (.int l4)]) (st' := [.ref l0]) (M' := M) rfl ?_
    obtain ⟨hc, hp⟩ := hp
    refine wq_getQ (j := 4) rfl hc ?_
    obtain ⟨hc, hp⟩ := hp
    refine wq_getQ (j := 0) rfl hc ?_
    refine wp_go 1 (pc' := 30) (L' := [some (.ref l0), some (.int l1), some (.int l2), some (.int l3), some (.int l4)]) (st' := [.int l3, .ref (zQ M (zQ M l0 4) 0)]) (M' := M) rfl ?_
    obtain ⟨hc, hp⟩ := hp
    refine wq_iald rfl hc ?_
    refine wp_go 1 (pc' := 32) (L' := [some (.ref l0), some (.int l1), some (.int l2), some (.int l3), some (.int l4)]) (st' := [.int l1, .int (zI M (zQ M (zQ M l0 4) 0) l3.toNatClampNeg)]) (M' := M) rfl ?_
    refine wp_ic_ne (t := 71) rfl rfl (fun hc => ?_) (fun hc => ?_)
    · rw [if_neg hc] at hQ
      replace hp := hp.2 hc
      exact s107_71 n k2 k13 q2 q13 h2 h13 l0 l1 l2 l3 l4 M hp hQ
    · rw [if_pos hc] at hQ
      replace hp := hp.1 hc
      refine wp_go 1 (pc' := 36) (L' := [some (.ref l0), some (.int l1), some (.int l2), some (.int l3), some (.int l4)]) (st' := [.ref l0]) (M' := M) rfl ?_
      obtain ⟨hc, hp⟩ := hp
      refine wq_getQ (j := 4) rfl hc ?_
      obtain ⟨hc, hp⟩ := hp
      refine wq_getQ (j := 0) rfl hc ?_
      refine wp_go 1 (pc' := 44) (L' := [some (.ref l0), some (.int l1), some (.int l2), some (.int l3), some (.int l4)]) (st' := [.int l4, .ref (zQ M (zQ M l0 4) 0)]) (M' := M) rfl ?_
      obtain ⟨hc, hp⟩ := hp
      refine wq_iald rfl hc ?_
      refine wp_go 1 (pc' := 46) (L' := [some (.ref l0), some (.int l1), some (.int l2), some (.int l3), some (.int l4)]) (st' := [.int l2, .int (zI M (zQ M (zQ M l0 4) 0) l4.toNatClampNeg)]) (M' := M) rfl ?_
      refine wp_ic_ne (t := 71) rfl rfl (fun hc => ?_) (fun hc => ?_)
      · rw [if_neg hc] at hQ
        replace hp := hp.2 hc
        exact s107_71 n k2 k13 q2 q13 h2 h13 l0 l1 l2 l3 l4 M hp hQ
      · rw [if_pos hc] at hQ
        replace hp := hp.1 hc
        refine wp_go 2 (pc' := 51) (L' := [some (.ref l0), some (.int l1), some (.int l2), some (.int l3), some (.int l4)]) (st' := [.ref l0, .ref l0]) (M' := M) rfl ?_
        obtain ⟨hc, hp⟩ := hp
        refine wq_getQ (j := 0) rfl hc ?_
        refine wp_go 1 (pc' := 55) (L' := [some (.ref l0), some (.int l1), some (.int l2), some (.int l3), some (.int l4)]) (st' := [.int l3, .ref (zQ M l0 0), .ref l0]) (M' := M) rfl ?_
        obtain ⟨hc, hp⟩ := hp
        refine wq_aald rfl hc ?_
        refine wp_go 1 (pc' := 57) (L' := [some (.ref l0), some (.int l1), some (.int l2), some (.int l3), some (.int l4)]) (st' := [.ref l0, .ref (zQ M (zQ M l0 0) l3.toNatClampNeg), .ref l0]) (M' := M) rfl ?_
        obtain ⟨hc, hp⟩ := hp
        refine wq_getQ (j := 0) rfl hc ?_
        refine wp_go 1 (pc' := 62) (L' := [some (.ref l0), some (.int l1), some (.int l2), some (.int l3), some (.int l4)]) (st' := [.int l4, .ref (zQ M l0 0), .ref (zQ M (zQ M l0 0) l3.toNatClampNeg), .ref l0]) (M' := M) rfl ?_
        obtain ⟨hc, hp⟩ := hp
        refine wq_aald rfl hc ?_
        obtain ⟨hv, hp⟩ := hp
        obtain ⟨hc, hp⟩ := hp
        refine wp_calli (v := (b102_0 n l0 (zQ M (zQ M l0 0) l3.toNatClampNeg) (zQ M (zQ M l0 0) l4.toNatClampNeg) M).1) (M1 := (b102_0 n l0 (zQ M (zQ M l0 0) l3.toNatClampNeg) (zQ M (zQ M l0 0) l4.toNatClampNeg) M).2) rfl rfl rfl (zInv_v (np := 2) rfl rfl hv rfl) (s102_0 n l0 (zQ M (zQ M l0 0) l3.toNatClampNeg) (zQ M (zQ M l0 0) l4.toNatClampNeg) M hc (fun r M1 h => h)) ?_
        exact s107_66 n k2 k13 q2 q13 h2 h13 l0 l1 l2 l3 l4 (b102_0 n l0 (zQ M (zQ M l0 0) l3.toNatClampNeg) (zQ M (zQ M l0 0) l4.toNatClampNeg) M).1 (b102_0 n l0 (zQ M (zQ M l0 0) l3.toNatClampNeg) (zQ M (zQ M l0 0) l4.toNatClampNeg) M).2 hp hQ
def b107_13 (n : Nat) (k2 : Nat → Int32 → Int32 → Int32 → zM → Int32 × zM) : Nat → Nat → Int32 → Int32 → Int32 → Int32 → zM → Int32 × zM
  | 0, _, _, _, _, _, M => (0, M)
  | k + 1, l0, l1, l2, l3, l4, M => c107_13 n k2 (b107_13 n k2 k) l0 l1 l2 l3 l4 M
def p107_13 (n : Nat) (q2 : Nat → Int32 → Int32 → Int32 → zM → Prop) : Nat → Nat → Int32 → Int32 → Int32 → Int32 → zM → Prop
  | 0, _, _, _, _, _, _ => False
  | k + 1, l0, l1, l2, l3, l4, M => d107_13 n q2 (p107_13 n q2 k) l0 l1 l2 l3 l4 M
theorem s107_13 (n : Nat) (k2 : Nat → Int32 → Int32 → Int32 → zM → Int32 × zM) (q2 : Nat → Int32 → Int32 → Int32 → zM → Prop) (h2 : ∀ (l0 : Nat) (l1 : Int32) (l2 : Int32) (l3 : Int32) (M : zM), q2 l0 l1 l2 l3 M → ∀ {Q : Option Value → zM → Prop}, (∀ r M1, zRI (k2 l0 l1 l2 l3 M) r M1 → Q r M1) → zWP 107 2 [some (.ref l0), some (.int l1), some (.int l2), some (.int l3), none] [] M Q) : ∀ (k : Nat) (l0 : Nat) (l1 : Int32) (l2 : Int32) (l3 : Int32) (l4 : Int32) (M : zM), p107_13 n q2 k l0 l1 l2 l3 l4 M → ∀ {Q : Option Value → zM → Prop}, (∀ r M1, zRI (b107_13 n k2 k l0 l1 l2 l3 l4 M) r M1 → Q r M1) → zWP 107 13 [some (.ref l0), some (.int l1), some (.int l2), some (.int l3), some (.int l4)] [] M Q
  | 0, _, _, _, _, _, _, h, _, _ => h.elim
  | k + 1, l0, l1, l2, l3, l4, M, h, _, hQ => t107_13 n k2 (b107_13 n k2 k) q2 (p107_13 n q2 k) h2 (s107_13 n k2 q2 h2 k) l0 l1 l2 l3 l4 M h hQ
def c107_2 (n : Nat) (k2 : Nat → Int32 → Int32 → Int32 → zM → Int32 × zM) (l0 : Nat) (l1 : Int32) (l2 : Int32) (l3 : Int32) (M : zM) : Int32 × zM := (if (zI M l0 12) ≤ l3 then ((0 : Int32), M) else b107_13 n k2 n l0 l1 l2 l3 (0 : Int32) M)
def d107_2 (n : Nat) (q2 : Nat → Int32 → Int32 → Int32 → zM → Prop) (l0 : Nat) (l1 : Int32) (l2 : Int32) (l3 : Int32) (M : zM) : Prop := (zHasI 9 78 l0 M 12) ∧ ((((zI M l0 12) ≤ l3 → True) ∧ (¬ (zI M l0 12) ≤ l3 → p107_13 n q2 n l0 l1 l2 l3 (0 : Int32) M)))
theorem t107_2 (n : Nat) (k2 : Nat → Int32 → Int32 → Int32 → zM → Int32 × zM) (q2 : Nat → Int32 → Int32 → Int32 → zM → Prop) (h2 : ∀ (l0 : Nat) (l1 : Int32) (l2 : Int32) (l3 : Int32) (M : zM), q2 l0 l1 l2 l3 M → ∀ {Q : Option Value → zM → Prop}, (∀ r M1, zRI (k2 l0 l1 l2 l3 M) r M1 → Q r M1) → zWP 107 2 [some (.ref l0), some (.int l1), some (.int l2), some (.int l3), none] [] M Q) (l0 : Nat) (l1 : Int32) (l2 : Int32) (l3 : Int32) (M : zM) (hp : d107_2 n q2 l0 l1 l2 l3 M) {Q : Option Value → zM → Prop} (hQ : ∀ r M1, zRI (c107_2 n k2 l0 l1 l2 l3 M) r M1 → Q r M1) : zWP 107 2 [some (.ref l0), some (.int l1), some (.int l2), some (.int l3), none] [] M Q := by
  unfold c107_2 at hQ
  unfold d107_2 at hp
  refine wp_go 2 (pc' := 4) (L' := [some (.ref l0), some (.int l1), some (.int l2), some (.int l3), none]) (st' := [.ref l0, .int l3]) (M' := M) rfl ?_
  obtain ⟨hc, hp⟩ := hp
  refine wq_getI (j := 12) rfl hc ?_
  refine wp_ic_ge (t := 83) rfl rfl (fun hc => ?_) (fun hc => ?_)
  · rw [if_pos hc] at hQ
    replace hp := hp.1 hc
    refine wp_go 1 (pc' := 84) (L' := [some (.ref l0), some (.int l1), some (.int l2), some (.int l3), none]) (st' := [.int (0 : Int32)]) (M' := M) rfl ?_
    exact wp_ret (r := some (.int (0 : Int32))) rfl rfl (hQ _ _ ⟨rfl, rfl⟩)
  · rw [if_neg hc] at hQ
    replace hp := hp.2 hc
    refine wp_go 2 (pc' := 13) (L' := [some (.ref l0), some (.int l1), some (.int l2), some (.int l3), some (.int (0 : Int32))]) (st' := []) (M' := M) rfl ?_
    exact s107_13 n k2 q2 h2 n l0 l1 l2 l3 (0 : Int32) M hp hQ
def b107_2 (n : Nat)  : Nat → Nat → Int32 → Int32 → Int32 → zM → Int32 × zM
  | 0, _, _, _, _, M => (0, M)
  | k + 1, l0, l1, l2, l3, M => c107_2 n  (b107_2 n  k) l0 l1 l2 l3 M
def p107_2 (n : Nat)  : Nat → Nat → Int32 → Int32 → Int32 → zM → Prop
  | 0, _, _, _, _, _ => False
  | k + 1, l0, l1, l2, l3, M => d107_2 n  (p107_2 n  k) l0 l1 l2 l3 M
theorem s107_2 (n : Nat)    : ∀ (k : Nat) (l0 : Nat) (l1 : Int32) (l2 : Int32) (l3 : Int32) (M : zM), p107_2 n  k l0 l1 l2 l3 M → ∀ {Q : Option Value → zM → Prop}, (∀ r M1, zRI (b107_2 n  k l0 l1 l2 l3 M) r M1 → Q r M1) → zWP 107 2 [some (.ref l0), some (.int l1), some (.int l2), some (.int l3), none] [] M Q
  | 0, _, _, _, _, _, h, _, _ => h.elim
  | k + 1, l0, l1, l2, l3, M, h, _, hQ => t107_2 n  (b107_2 n  k)  (p107_2 n  k)  (s107_2 n    k) l0 l1 l2 l3 M h hQ
def b107_0 (n : Nat)  (l0 : Nat) (l1 : Int32) (l2 : Int32) (M : zM) : Int32 × zM := b107_2 n  n l0 l1 l2 (0 : Int32) M
def p107_0 (n : Nat)  (l0 : Nat) (l1 : Int32) (l2 : Int32) (M : zM) : Prop := p107_2 n  n l0 l1 l2 (0 : Int32) M
theorem s107_0 (n : Nat)    (l0 : Nat) (l1 : Int32) (l2 : Int32) (M : zM) (hp : p107_0 n  l0 l1 l2 M) {Q : Option Value → zM → Prop} (hQ : ∀ r M1, zRI (b107_0 n  l0 l1 l2 M) r M1 → Q r M1) : zWP 107 0 [some (.ref l0), some (.int l1), some (.int l2), none, none] [] M Q := by
  unfold b107_0 at hQ
  unfold p107_0 at hp
  refine wp_go 2 (pc' := 2) (L' := [some (.ref l0), some (.int l1), some (.int l2), some (.int (0 : Int32)), none]) (st' := []) (M' := M) rfl ?_
  exact s107_2 n    n l0 l1 l2 (0 : Int32) M hp hQ
/-! X11_drawGroup -/
def b109_65 (n : Nat) (k2 : Nat → Int32 → Int32 → zM → zM) (l0 : Nat) (l1 : Int32) (l2 : Int32) (M : zM) : zM := k2 l0 l1 (l2 + Int32.ofInt 1) M
def p109_65 (n : Nat) (q2 : Nat → Int32 → Int32 → zM → Prop) (l0 : Nat) (l1 : Int32) (l2 : Int32) (M : zM) : Prop := q2 l0 l1 (l2 + Int32.ofInt 1) M
theorem s109_65 (n : Nat) (k2 : Nat → Int32 → Int32 → zM → zM) (q2 : Nat → Int32 → Int32 → zM → Prop) (h2 : ∀ (l0 : Nat) (l1 : Int32) (l2 : Int32) (M : zM), q2 l0 l1 l2 M → ∀ {Q : Option Value → zM → Prop}, (∀ r M1, zRV (k2 l0 l1 l2 M) r M1 → Q r M1) → zWP 109 2 [some (.ref l0), some (.int l1), some (.int l2)] [] M Q) (l0 : Nat) (l1 : Int32) (l2 : Int32) (M : zM) (hp : p109_65 n q2 l0 l1 l2 M) {Q : Option Value → zM → Prop} (hQ : ∀ r M1, zRV (b109_65 n k2 l0 l1 l2 M) r M1 → Q r M1) : zWP 109 65 [some (.ref l0), some (.int l1), some (.int l2)] [] M Q := by
  unfold b109_65 at hQ
  unfold p109_65 at hp
  refine wp_go 2 (pc' := 2) (L' := [some (.ref l0), some (.int l1), some (.int (l2 + Int32.ofInt 1))]) (st' := []) (M' := M) rfl ?_
  exact h2 l0 l1 (l2 + Int32.ofInt 1) M hp hQ
def c109_2 (n : Nat) (k2 : Nat → Int32 → Int32 → zM → zM) (l0 : Nat) (l1 : Int32) (l2 : Int32) (M : zM) : zM := (if (zI M l0 12) ≤ l2 then M else (if (zI M (zQ M (zQ M l0 4) 0) l2.toNatClampNeg) = l1 then b109_65 n k2 l0 l1 l2 (b29_0 n (zQ M (zQ M l0 1) l2.toNatClampNeg) (zQ M (zQ M l0 0) l2.toNatClampNeg) (zI M (zQ M (zQ M l0 4) 1) l2.toNatClampNeg) (zI M (zQ M (zQ M l0 4) 2) l2.toNatClampNeg) (zI M (zQ M (zQ M l0 4) 3) l2.toNatClampNeg) M) else b109_65 n k2 l0 l1 l2 M))
def d109_2 (n : Nat) (q2 : Nat → Int32 → Int32 → zM → Prop) (l0 : Nat) (l1 : Int32) (l2 : Int32) (M : zM) : Prop := (zHasI 9 78 l0 M 12) ∧ ((((zI M l0 12) ≤ l2 → True) ∧ (¬ (zI M l0 12) ≤ l2 → (zHasQ 9 35 l0 M 4) ∧ ((zHasQ 9 192 (zQ M l0 4) M 0) ∧ ((zOkI (zQ M (zQ M l0 4) 0) l2 M) ∧ ((((zI M (zQ M (zQ M l0 4) 0) l2.toNatClampNeg) = l1 → (zHasQ 9 17 l0 M 1) ∧ ((zOkR (zQ M l0 1) l2 M) ∧ ((zHasQ 9 11 l0 M 0) ∧ ((zOkR (zQ M l0 0) l2 M) ∧ ((zHasQ 9 35 l0 M 4) ∧ ((zHasQ 9 195 (zQ M l0 4) M 1) ∧ ((zOkI (zQ M (zQ M l0 4) 1) l2 M) ∧ ((zHasQ 9 35 l0 M 4) ∧ ((zHasQ 9 198 (zQ M l0 4) M 2) ∧ ((zOkI (zQ M (zQ M l0 4) 2) l2 M) ∧ ((zHasQ 9 35 l0 M 4) ∧ ((zHasQ 9 201 (zQ M l0 4) M 3) ∧ ((zOkI (zQ M (zQ M l0 4) 3) l2 M) ∧ ((zHasC 109 448 (zQ M (zQ M l0 1) l2.toNatClampNeg) M 29 4) ∧ ((p29_0 n (zQ M (zQ M l0 1) l2.toNatClampNeg) (zQ M (zQ M l0 0) l2.toNatClampNeg) (zI M (zQ M (zQ M l0 4) 1) l2.toNatClampNeg) (zI M (zQ M (zQ M l0 4) 2) l2.toNatClampNeg) (zI M (zQ M (zQ M l0 4) 3) l2.toNatClampNeg) M) ∧ (p109_65 n q2 l0 l1 l2 (b29_0 n (zQ M (zQ M l0 1) l2.toNatClampNeg) (zQ M (zQ M l0 0) l2.toNatClampNeg) (zI M (zQ M (zQ M l0 4) 1) l2.toNatClampNeg) (zI M (zQ M (zQ M l0 4) 2) l2.toNatClampNeg) (zI M (zQ M (zQ M l0 4) 3) l2.toNatClampNeg) M))))))))))))))))) ∧ (¬ (zI M (zQ M (zQ M l0 4) 0) l2.toNatClampNeg) = l1 → p109_65 n q2 l0 l1 l2 M))))))))
theorem t109_2 (n : Nat) (k2 : Nat → Int32 → Int32 → zM → zM) (q2 : Nat → Int32 → Int32 → zM → Prop) (h2 : ∀ (l0 : Nat) (l1 : Int32) (l2 : Int32) (M : zM), q2 l0 l1 l2 M → ∀ {Q : Option Value → zM → Prop}, (∀ r M1, zRV (k2 l0 l1 l2 M) r M1 → Q r M1) → zWP 109 2 [some (.ref l0), some (.int l1), some (.int l2)] [] M Q) (l0 : Nat) (l1 : Int32) (l2 : Int32) (M : zM) (hp : d109_2 n q2 l0 l1 l2 M) {Q : Option Value → zM → Prop} (hQ : ∀ r M1, zRV (c109_2 n k2 l0 l1 l2 M) r M1 → Q r M1) : zWP 109 2 [some (.ref l0), some (.int l1), some (.int l2)] [] M Q := by
  unfold c109_2 at hQ
  unfold d109_2 at hp
  refine wp_go 2 (pc' := 4) (L' := [some (.ref l0), some (.int l1), some (.int l2)]) (st' := [.ref l0, .int l2]) (M' := M) rfl ?_
  obtain ⟨hc, hp⟩ := hp
  refine wq_getI (j := 12) rfl hc ?_
  refine wp_ic_ge (t := 71) rfl rfl (fun hc => ?_) (fun hc => ?_)
  · rw [if_pos hc] at hQ
    replace hp := hp.1 hc
    exact wp_ret (r := none) rfl rfl (hQ _ _ ⟨rfl, rfl⟩)
  · rw [if_neg hc] at hQ
    replace hp := hp.2 hc
    refine wp_go 1 (pc' := 11) (L' := [some (.ref l0), some (.int l1), some (.int l2)]) (st' := [.ref l0]) (M' := M) rfl ?_
    obtain ⟨hc, hp⟩ := hp
    refine wq_getQ (j := 4) rfl hc ?_
    obtain ⟨hc, hp⟩ := hp
    refine wq_getQ (j := 0) rfl hc ?_
    refine wp_go 1 (pc' := 18) (L' := [some (.ref l0), some (.int l1), some (.int l2)]) (st' := [.int l2, .ref (zQ M (zQ M l0 4) 0)]) (M' := M) rfl ?_
    obtain ⟨hc, hp⟩ := hp
    refine wq_iald rfl hc ?_
    refine wp_go 1 (pc' := 20) (L' := [some (.ref l0), some (.int l1), some (.int l2)]) (st' := [.int l1, .int (zI M (zQ M (zQ M l0 4) 0) l2.toNatClampNeg)]) (M' := M) rfl ?_
    refine wp_ic_ne (t := 65) rfl rfl (fun hc => ?_) (fun hc => ?_)
    · rw [if_neg hc] at hQ
      replace hp := hp.2 hc
      exact s109_65 n k2 q2 h2 l0 l1 l2 M hp hQ
    · rw [if_pos hc] at hQ
      replace hp := hp.1 hc
      refine wp_go 1 (pc' := 24) (L' := [some (.ref l0), some (.int l1), some (.int l2)]) (st' := [.ref l0]) (M' := M) rfl ?_
      obtain ⟨hc, hp⟩ := hp
      refine wq_getQ (j := 1) rfl hc ?_
      refine wp_go 1 (pc' := 28) (L' := [some (.ref l0), some (.int l1), some (.int l2)]) (st' := [.int l2, .ref (zQ M l0 1)]) (M' := M) rfl ?_
      obtain ⟨hc, hp⟩ := hp
      refine wq_aald rfl hc ?_
      refine wp_go 1 (pc' := 30) (L' := [some (.ref l0), some (.int l1), some (.int l2)]) (st' := [.ref l0, .ref (zQ M (zQ M l0 1) l2.toNatClampNeg)]) (M' := M) rfl ?_
      obtain ⟨hc, hp⟩ := hp
      refine wq_getQ (j := 0) rfl hc ?_
      refine wp_go 1 (pc' := 34) (L' := [some (.ref l0), some (.int l1), some (.int l2)]) (st' := [.int l2, .ref (zQ M l0 0), .ref (zQ M (zQ M l0 1) l2.toNatClampNeg)]) (M' := M) rfl ?_
      obtain ⟨hc, hp⟩ := hp
      refine wq_aald rfl hc ?_
      refine wp_go 1 (pc' := 36) (L' := [some (.ref l0), some (.int l1), some (.int l2)]) (st' := [.ref l0, .ref (zQ M (zQ M l0 0) l2.toNatClampNeg), .ref (zQ M (zQ M l0 1) l2.toNatClampNeg)]) (M' := M) rfl ?_
      obtain ⟨hc, hp⟩ := hp
      refine wq_getQ (j := 4) rfl hc ?_
      obtain ⟨hc, hp⟩ := hp
      refine wq_getQ (j := 1) rfl hc ?_
      refine wp_go 1 (pc' := 43) (L' := [some (.ref l0), some (.int l1), some (.int l2)]) (st' := [.int l2, .ref (zQ M (zQ M l0 4) 1), .ref (zQ M (zQ M l0 0) l2.toNatClampNeg), .ref (zQ M (zQ M l0 1) l2.toNatClampNeg)]) (M' := M) rfl ?_
      obtain ⟨hc, hp⟩ := hp
      refine wq_iald rfl hc ?_
      refine wp_go 1 (pc' := 45) (L' := [some (.ref l0), some (.int l1), some (.int l2)]) (st' := [.ref l0, .int (zI M (zQ M (zQ M l0 4) 1) l2.toNatClampNeg), .ref (zQ M (zQ M l0 0) l2.toNatClampNeg), .ref (zQ M (zQ M l0 1) l2.toNatClampNeg)]) (M' := M) rfl ?_
      obtain ⟨hc, hp⟩ := hp
      refine wq_getQ (j := 4) rfl hc ?_
      obtain ⟨hc, hp⟩ := hp
      refine wq_getQ (j := 2) rfl hc ?_
      refine wp_go 1 (pc' := 52) (L' := [some (.ref l0), some (.int l1), some (.int l2)]) (st' := [.int l2, .ref (zQ M (zQ M l0 4) 2), .int (zI M (zQ M (zQ M l0 4) 1) l2.toNatClampNeg), .ref (zQ M (zQ M l0 0) l2.toNatClampNeg), .ref (zQ M (zQ M l0 1) l2.toNatClampNeg)]) (M' := M) rfl ?_
      obtain ⟨hc, hp⟩ := hp
      refine wq_iald rfl hc ?_
      refine wp_go 1 (pc' := 54) (L' := [some (.ref l0), some (.int l1), some (.int l2)]) (st' := [.ref l0, .int (zI M (zQ M (zQ M l0 4) 2) l2.toNatClampNeg), .int (zI M (zQ M (zQ M l0 4) 1) l2.toNatClampNeg), .ref (zQ M (zQ M l0 0) l2.toNatClampNeg), .ref (zQ M (zQ M l0 1) l2.toNatClampNeg)]) (M' := M) rfl ?_
      obtain ⟨hc, hp⟩ := hp
      refine wq_getQ (j := 4) rfl hc ?_
      obtain ⟨hc, hp⟩ := hp
      refine wq_getQ (j := 3) rfl hc ?_
      refine wp_go 1 (pc' := 61) (L' := [some (.ref l0), some (.int l1), some (.int l2)]) (st' := [.int l2, .ref (zQ M (zQ M l0 4) 3), .int (zI M (zQ M (zQ M l0 4) 2) l2.toNatClampNeg), .int (zI M (zQ M (zQ M l0 4) 1) l2.toNatClampNeg), .ref (zQ M (zQ M l0 0) l2.toNatClampNeg), .ref (zQ M (zQ M l0 1) l2.toNatClampNeg)]) (M' := M) rfl ?_
      obtain ⟨hc, hp⟩ := hp
      refine wq_iald rfl hc ?_
      obtain ⟨hv, hp⟩ := hp
      obtain ⟨hc, hp⟩ := hp
      refine wp_callv (M1 := (b29_0 n (zQ M (zQ M l0 1) l2.toNatClampNeg) (zQ M (zQ M l0 0) l2.toNatClampNeg) (zI M (zQ M (zQ M l0 4) 1) l2.toNatClampNeg) (zI M (zQ M (zQ M l0 4) 2) l2.toNatClampNeg) (zI M (zQ M (zQ M l0 4) 3) l2.toNatClampNeg) M)) rfl rfl rfl (zInv_v (np := 4) rfl rfl hv rfl) (s29_0 n (zQ M (zQ M l0 1) l2.toNatClampNeg) (zQ M (zQ M l0 0) l2.toNatClampNeg) (zI M (zQ M (zQ M l0 4) 1) l2.toNatClampNeg) (zI M (zQ M (zQ M l0 4) 2) l2.toNatClampNeg) (zI M (zQ M (zQ M l0 4) 3) l2.toNatClampNeg) M hc (fun r M1 h => h)) ?_
      exact s109_65 n k2 q2 h2 l0 l1 l2 (b29_0 n (zQ M (zQ M l0 1) l2.toNatClampNeg) (zQ M (zQ M l0 0) l2.toNatClampNeg) (zI M (zQ M (zQ M l0 4) 1) l2.toNatClampNeg) (zI M (zQ M (zQ M l0 4) 2) l2.toNatClampNeg) (zI M (zQ M (zQ M l0 4) 3) l2.toNatClampNeg) M) hp hQ
def b109_2 (n : Nat)  : Nat → Nat → Int32 → Int32 → zM → zM
  | 0, _, _, _, M => M
  | k + 1, l0, l1, l2, M => c109_2 n  (b109_2 n  k) l0 l1 l2 M
def p109_2 (n : Nat)  : Nat → Nat → Int32 → Int32 → zM → Prop
  | 0, _, _, _, _ => False
  | k + 1, l0, l1, l2, M => d109_2 n  (p109_2 n  k) l0 l1 l2 M
theorem s109_2 (n : Nat)    : ∀ (k : Nat) (l0 : Nat) (l1 : Int32) (l2 : Int32) (M : zM), p109_2 n  k l0 l1 l2 M → ∀ {Q : Option Value → zM → Prop}, (∀ r M1, zRV (b109_2 n  k l0 l1 l2 M) r M1 → Q r M1) → zWP 109 2 [some (.ref l0), some (.int l1), some (.int l2)] [] M Q
  | 0, _, _, _, _, h, _, _ => h.elim
  | k + 1, l0, l1, l2, M, h, _, hQ => t109_2 n  (b109_2 n  k)  (p109_2 n  k)  (s109_2 n    k) l0 l1 l2 M h hQ
def b109_0 (n : Nat)  (l0 : Nat) (l1 : Int32) (M : zM) : zM := b109_2 n  n l0 l1 (0 : Int32) M
def p109_0 (n : Nat)  (l0 : Nat) (l1 : Int32) (M : zM) : Prop := p109_2 n  n l0 l1 (0 : Int32) M
theorem s109_0 (n : Nat)    (l0 : Nat) (l1 : Int32) (M : zM) (hp : p109_0 n  l0 l1 M) {Q : Option Value → zM → Prop} (hQ : ∀ r M1, zRV (b109_0 n  l0 l1 M) r M1 → Q r M1) : zWP 109 0 [some (.ref l0), some (.int l1), none] [] M Q := by
  unfold b109_0 at hQ
  unfold p109_0 at hp
  refine wp_go 2 (pc' := 2) (L' := [some (.ref l0), some (.int l1), some (.int (0 : Int32))]) (st' := []) (M' := M) rfl ?_
  exact s109_2 n    n l0 l1 (0 : Int32) M hp hQ
/-! X11_anyLiesOnAnother -/
def b108_103 (n : Nat) (k7 : Nat → Int32 → Int32 → zM → Int32 × zM) (k19 : Nat → Int32 → Int32 → Int32 → zM → Int32 × zM) (l0 : Nat) (l1 : Int32) (l2 : Int32) (l3 : Int32) (M : zM) : Int32 × zM := k19 l0 l1 l2 (l3 + Int32.ofInt 1) M
def p108_103 (n : Nat) (q7 : Nat → Int32 → Int32 → zM → Prop) (q19 : Nat → Int32 → Int32 → Int32 → zM → Prop) (l0 : Nat) (l1 : Int32) (l2 : Int32) (l3 : Int32) (M : zM) : Prop := q19 l0 l1 l2 (l3 + Int32.ofInt 1) M
theorem s108_103 (n : Nat) (k7 : Nat → Int32 → Int32 → zM → Int32 × zM) (k19 : Nat → Int32 → Int32 → Int32 → zM → Int32 × zM) (q7 : Nat → Int32 → Int32 → zM → Prop) (q19 : Nat → Int32 → Int32 → Int32 → zM → Prop) (h7 : ∀ (l0 : Nat) (l1 : Int32) (l2 : Int32) (M : zM), q7 l0 l1 l2 M → ∀ {Q : Option Value → zM → Prop}, (∀ r M1, zRI (k7 l0 l1 l2 M) r M1 → Q r M1) → zWP 108 7 [some (.ref l0), some (.int l1), some (.int l2), none, none] [] M Q) (h19 : ∀ (l0 : Nat) (l1 : Int32) (l2 : Int32) (l3 : Int32) (M : zM), q19 l0 l1 l2 l3 M → ∀ {Q : Option Value → zM → Prop}, (∀ r M1, zRI (k19 l0 l1 l2 l3 M) r M1 → Q r M1) → zWP 108 19 [some (.ref l0), some (.int l1), some (.int l2), some (.int l3), none] [] M Q) (l0 : Nat) (l1 : Int32) (l2 : Int32) (l3 : Int32) (M : zM) (hp : p108_103 n q7 q19 l0 l1 l2 l3 M) {Q : Option Value → zM → Prop} (hQ : ∀ r M1, zRI (b108_103 n k7 k19 l0 l1 l2 l3 M) r M1 → Q r M1) : zWP 108 103 [some (.ref l0), some (.int l1), some (.int l2), some (.int l3), none] [] M Q := by
  unfold b108_103 at hQ
  unfold p108_103 at hp
  refine wp_go 2 (pc' := 19) (L' := [some (.ref l0), some (.int l1), some (.int l2), some (.int (l3 + Int32.ofInt 1)), none]) (st' := []) (M' := M) rfl ?_
  exact h19 l0 l1 l2 (l3 + Int32.ofInt 1) M hp hQ
def b108_101 (n : Nat)   (M : zM) : Int32 × zM := ((1 : Int32), M)
def p108_101 (n : Nat)   (M : zM) : Prop := True
theorem s108_101 (n : Nat)     (M : zM) (hp : p108_101 n   M) {Q : Option Value → zM → Prop} (hQ : ∀ r M1, zRI (b108_101 n   M) r M1 → Q r M1) : zWP 108 101 [none, none, none, none, none] [] M Q := by
  unfold b108_101 at hQ
  unfold p108_101 at hp
  refine wp_go 1 (pc' := 102) (L' := [none, none, none, none, none]) (st' := [.int (1 : Int32)]) (M' := M) rfl ?_
  exact wp_ret (r := some (.int (1 : Int32))) rfl rfl (hQ _ _ ⟨rfl, rfl⟩)
def b108_93 (n : Nat)  (l0 : Nat) (l4 : Int32) (M : zM) : Int32 × zM := b108_101 n  (zWI M (zQ M l0 11) (2 : Int32).toNatClampNeg l4)
def p108_93 (n : Nat)  (l0 : Nat) (l4 : Int32) (M : zM) : Prop := (zHasQ 9 75 l0 M 11) ∧ ((zOkT 1 (zQ M l0 11) (2 : Int32) M) ∧ (p108_101 n  (zWI M (zQ M l0 11) (2 : Int32).toNatClampNeg l4)))
theorem s108_93 (n : Nat)    (l0 : Nat) (l4 : Int32) (M : zM) (hp : p108_93 n  l0 l4 M) {Q : Option Value → zM → Prop} (hQ : ∀ r M1, zRI (b108_93 n  l0 l4 M) r M1 → Q r M1) : zWP 108 93 [some (.ref l0), none, none, none, some (.int l4)] [] M Q := by
  unfold b108_93 at hQ
  unfold p108_93 at hp
  refine wp_go 1 (pc' := 94) (L' := [some (.ref l0), none, none, none, some (.int l4)]) (st' := [.ref l0]) (M' := M) rfl ?_
  obtain ⟨hc, hp⟩ := hp
  refine wq_getQ (j := 11) rfl hc ?_
  refine wp_go 2 (pc' := 100) (L' := [some (.ref l0), none, none, none, some (.int l4)]) (st' := [.int l4, .int (2 : Int32), .ref (zQ M l0 11)]) (M' := M) rfl ?_
  obtain ⟨hc, hp⟩ := hp
  refine wq_iast rfl hc ?_
  refine wp_le [none, none, none, none, none] (zLe_of (by simp [zLeB])) ?_
  exact s108_101 n    (zWI M (zQ M l0 11) (2 : Int32).toNatClampNeg l4) hp hQ
def b108_86 (n : Nat)  (l0 : Nat) (l3 : Int32) (l4 : Int32) (M : zM) : Int32 × zM := b108_93 n  l0 l4 (zWI M (zQ M l0 11) (1 : Int32).toNatClampNeg l3)
def p108_86 (n : Nat)  (l0 : Nat) (l3 : Int32) (l4 : Int32) (M : zM) : Prop := (zHasQ 9 75 l0 M 11) ∧ ((zOkT 1 (zQ M l0 11) (1 : Int32) M) ∧ (p108_93 n  l0 l4 (zWI M (zQ M l0 11) (1 : Int32).toNatClampNeg l3)))
theorem s108_86 (n : Nat)    (l0 : Nat) (l3 : Int32) (l4 : Int32) (M : zM) (hp : p108_86 n  l0 l3 l4 M) {Q : Option Value → zM → Prop} (hQ : ∀ r M1, zRI (b108_86 n  l0 l3 l4 M) r M1 → Q r M1) : zWP 108 86 [some (.ref l0), none, none, some (.int l3), some (.int l4)] [] M Q := by
  unfold b108_86 at hQ
  unfold p108_86 at hp
  refine wp_go 1 (pc' := 87) (L' := [some (.ref l0), none, none, some (.int l3), some (.int l4)]) (st' := [.ref l0]) (M' := M) rfl ?_
  obtain ⟨hc, hp⟩ := hp
  refine wq_getQ (j := 11) rfl hc ?_
  refine wp_go 2 (pc' := 92) (L' := [some (.ref l0), none, none, some (.int l3), some (.int l4)]) (st' := [.int l3, .int (1 : Int32), .ref (zQ M l0 11)]) (M' := M) rfl ?_
  obtain ⟨hc, hp⟩ := hp
  refine wq_iast rfl hc ?_
  refine wp_le [some (.ref l0), none, none, none, some (.int l4)] (zLe_of (by simp [zLeB])) ?_
  exact s108_93 n    l0 l4 (zWI M (zQ M l0 11) (1 : Int32).toNatClampNeg l3) hp hQ
def b108_68 (n : Nat) (k7 : Nat → Int32 → Int32 → zM → Int32 × zM) (k19 : Nat → Int32 → Int32 → Int32 → zM → Int32 × zM) (l0 : Nat) (l1 : Int32) (l2 : Int32) (l3 : Int32) (s0 : Int32) (M : zM) : Int32 × zM := (if s0 ≤ (zI M l0 16) then b108_103 n k7 k19 l0 l1 l2 l3 M else b108_86 n  l0 l3 s0 (zWI M (zQ M l0 11) (0 : Int32).toNatClampNeg l2))
def p108_68 (n : Nat) (q7 : Nat → Int32 → Int32 → zM → Prop) (q19 : Nat → Int32 → Int32 → Int32 → zM → Prop) (l0 : Nat) (l1 : Int32) (l2 : Int32) (l3 : Int32) (s0 : Int32) (M : zM) : Prop := (zHasI 9 91 l0 M 16) ∧ (((s0 ≤ (zI M l0 16) → p108_103 n q7 q19 l0 l1 l2 l3 M) ∧ (¬ s0 ≤ (zI M l0 16) → (zHasQ 9 75 l0 M 11) ∧ ((zOkT 1 (zQ M l0 11) (0 : Int32) M) ∧ (p108_86 n  l0 l3 s0 (zWI M (zQ M l0 11) (0 : Int32).toNatClampNeg l2))))))
theorem s108_68 (n : Nat) (k7 : Nat → Int32 → Int32 → zM → Int32 × zM) (k19 : Nat → Int32 → Int32 → Int32 → zM → Int32 × zM) (q7 : Nat → Int32 → Int32 → zM → Prop) (q19 : Nat → Int32 → Int32 → Int32 → zM → Prop) (h7 : ∀ (l0 : Nat) (l1 : Int32) (l2 : Int32) (M : zM), q7 l0 l1 l2 M → ∀ {Q : Option Value → zM → Prop}, (∀ r M1, zRI (k7 l0 l1 l2 M) r M1 → Q r M1) → zWP 108 7 [some (.ref l0), some (.int l1), some (.int l2), none, none] [] M Q) (h19 : ∀ (l0 : Nat) (l1 : Int32) (l2 : Int32) (l3 : Int32) (M : zM), q19 l0 l1 l2 l3 M → ∀ {Q : Option Value → zM → Prop}, (∀ r M1, zRI (k19 l0 l1 l2 l3 M) r M1 → Q r M1) → zWP 108 19 [some (.ref l0), some (.int l1), some (.int l2), some (.int l3), none] [] M Q) (l0 : Nat) (l1 : Int32) (l2 : Int32) (l3 : Int32) (s0 : Int32) (M : zM) (hp : p108_68 n q7 q19 l0 l1 l2 l3 s0 M) {Q : Option Value → zM → Prop} (hQ : ∀ r M1, zRI (b108_68 n k7 k19 l0 l1 l2 l3 s0 M) r M1 → Q r M1) : zWP 108 68 [some (.ref l0), some (.int l1), some (.int l2), some (.int l3), none] [.int s0] M Q := by
  unfold b108_68 at hQ
  unfold p108_68 at hp
  refine wp_go 3 (pc' := 73) (L' := [some (.ref l0), some (.int l1), some (.int l2), some (.int l3), some (.int s0)]) (st' := [.ref l0, .int s0]) (M' := M) rfl ?_
  obtain ⟨hc, hp⟩ := hp
  refine wq_getI (j := 16) rfl hc ?_
  refine wp_ic_le (t := 103) rfl rfl (fun hc => ?_) (fun hc => ?_)
  · rw [if_pos hc] at hQ
    replace hp := hp.1 hc
    refine wp_le [some (.ref l0), some (.int l1), some (.int l2), some (.int l3), none] (zLe_of (by simp [zLeB])) ?_
    exact s108_103 n k7 k19 q7 q19 h7 h19 l0 l1 l2 l3 M hp hQ
  · rw [if_neg hc] at hQ
    replace hp := hp.2 hc
    refine wp_go 1 (pc' := 80) (L' := [some (.ref l0), some (.int l1), some (.int l2), some (.int l3), some (.int s0)]) (st' := [.ref l0]) (M' := M) rfl ?_
    obtain ⟨hc, hp⟩ := hp
    refine wq_getQ (j := 11) rfl hc ?_
    refine wp_go 2 (pc' := 85) (L' := [some (.ref l0), some (.int l1), some (.int l2), some (.int l3), some (.int s0)]) (st' := [.int l2, .int (0 : Int32), .ref (zQ M l0 11)]) (M' := M) rfl ?_
    obtain ⟨hc, hp⟩ := hp
    refine wq_iast rfl hc ?_
    refine wp_le [some (.ref l0), none, none, some (.int l3), some (.int s0)] (zLe_of (by simp [zLeB])) ?_
    exact s108_86 n    l0 l3 s0 (zWI M (zQ M l0 11) (0 : Int32).toNatClampNeg l2) hp hQ
def c108_19 (n : Nat) (k7 : Nat → Int32 → Int32 → zM → Int32 × zM) (k19 : Nat → Int32 → Int32 → Int32 → zM → Int32 × zM) (l0 : Nat) (l1 : Int32) (l2 : Int32) (l3 : Int32) (M : zM) : Int32 × zM := (if (zI M l0 12) ≤ l3 then k7 l0 l1 (l2 + Int32.ofInt 1) M else (if (zI M (zQ M (zQ M l0 4) 0) l2.toNatClampNeg) = l1 then (if (zI M (zQ M (zQ M l0 4) 0) l3.toNatClampNeg) = l1 then b108_68 n k7 k19 l0 l1 l2 l3 (b30_0 n (zQ M (zQ M l0 1) l2.toNatClampNeg) (zQ M (zQ M l0 1) l3.toNatClampNeg) M).1 (b30_0 n (zQ M (zQ M l0 1) l2.toNatClampNeg) (zQ M (zQ M l0 1) l3.toNatClampNeg) M).2 else b108_103 n k7 k19 l0 l1 l2 l3 M) else b108_103 n k7 k19 l0 l1 l2 l3 M))
def d108_19 (n : Nat) (q7 : Nat → Int32 → Int32 → zM → Prop) (q19 : Nat → Int32 → Int32 → Int32 → zM → Prop) (l0 : Nat) (l1 : Int32) (l2 : Int32) (l3 : Int32) (M : zM) : Prop := (zHasI 9 78 l0 M 12) ∧ ((((zI M l0 12) ≤ l3 → q7 l0 l1 (l2 + Int32.ofInt 1) M) ∧ (¬ (zI M l0 12) ≤ l3 → (zHasQ 9 35 l0 M 4) ∧ ((zHasQ 9 192 (zQ M l0 4) M 0) ∧ ((zOkI (zQ M (zQ M l0 4) 0) l2 M) ∧ ((((zI M (zQ M (zQ M l0 4) 0) l2.toNatClampNeg) = l1 → (zHasQ 9 35 l0 M 4) ∧ ((zHasQ 9 192 (zQ M l0 4) M 0) ∧ ((zOkI (zQ M (zQ M l0 4) 0) l3 M) ∧ ((((zI M (zQ M (zQ M l0 4) 0) l3.toNatClampNeg) = l1 → (zHasQ 9 17 l0 M 1) ∧ ((zOkR (zQ M l0 1) l2 M) ∧ ((zHasQ 9 17 l0 M 1) ∧ ((zOkR (zQ M l0 1) l3 M) ∧ ((zHasC 108 444 (zQ M (zQ M l0 1) l2.toNatClampNeg) M 30 1) ∧ ((p30_0 n (zQ M (zQ M l0 1) l2.toNatClampNeg) (zQ M (zQ M l0 1) l3.toNatClampNeg) M) ∧ (p108_68 n q7 q19 l0 l1 l2 l3 (b30_0 n (zQ M (zQ M l0 1) l2.toNatClampNeg) (zQ M (zQ M l0 1) l3.toNatClampNeg) M).1 (b30_0 n (zQ M (zQ M l0 1) l2.toNatClampNeg) (zQ M (zQ M l0 1) l3.toNatClampNeg) M).2))))))) ∧ (¬ (zI M (zQ M (zQ M l0 4) 0) l3.toNatClampNeg) = l1 → p108_103 n q7 q19 l0 l1 l2 l3 M)))))) ∧ (¬ (zI M (zQ M (zQ M l0 4) 0) l2.toNatClampNeg) = l1 → p108_103 n q7 q19 l0 l1 l2 l3 M))))))))
theorem t108_19 (n : Nat) (k7 : Nat → Int32 → Int32 → zM → Int32 × zM) (k19 : Nat → Int32 → Int32 → Int32 → zM → Int32 × zM) (q7 : Nat → Int32 → Int32 → zM → Prop) (q19 : Nat → Int32 → Int32 → Int32 → zM → Prop) (h7 : ∀ (l0 : Nat) (l1 : Int32) (l2 : Int32) (M : zM), q7 l0 l1 l2 M → ∀ {Q : Option Value → zM → Prop}, (∀ r M1, zRI (k7 l0 l1 l2 M) r M1 → Q r M1) → zWP 108 7 [some (.ref l0), some (.int l1), some (.int l2), none, none] [] M Q) (h19 : ∀ (l0 : Nat) (l1 : Int32) (l2 : Int32) (l3 : Int32) (M : zM), q19 l0 l1 l2 l3 M → ∀ {Q : Option Value → zM → Prop}, (∀ r M1, zRI (k19 l0 l1 l2 l3 M) r M1 → Q r M1) → zWP 108 19 [some (.ref l0), some (.int l1), some (.int l2), some (.int l3), none] [] M Q) (l0 : Nat) (l1 : Int32) (l2 : Int32) (l3 : Int32) (M : zM) (hp : d108_19 n q7 q19 l0 l1 l2 l3 M) {Q : Option Value → zM → Prop} (hQ : ∀ r M1, zRI (c108_19 n k7 k19 l0 l1 l2 l3 M) r M1 → Q r M1) : zWP 108 19 [some (.ref l0), some (.int l1), some (.int l2), some (.int l3), none] [] M Q := by
  unfold c108_19 at hQ
  unfold d108_19 at hp
  refine wp_go 2 (pc' := 21) (L' := [some (.ref l0), some (.int l1), some (.int l2), some (.int l3), none]) (st' := [.ref l0, .int l3]) (M' := M) rfl ?_
  obtain ⟨hc, hp⟩ := hp
  refine wq_getI (j := 12) rfl hc ?_
  refine wp_ic_ge (t := 109) rfl rfl (fun hc => ?_) (fun hc => ?_)
  · rw [if_pos hc] at hQ
    replace hp := hp.1 hc
    refine wp_go 2 (pc' := 7) (L' := [some (.ref l0), some (.int l1), some (.int (l2 + Int32.ofInt 1)), some (.int l3), none]) (st' := []) (M' := M) rfl ?_
    refine wp_le [some (.ref l0), some (.int l1), some (.int (l2 + Int32.ofInt 1)), none, none] (zLe_of (by simp [zLeB])) ?_
    exact h7 l0 l1 (l2 + Int32.ofInt 1) M hp hQ
  · rw [if_neg hc] at hQ
    replace hp := hp.2 hc
    refine wp_go 1 (pc' := 28) (L' := [some (.ref l0), some (.int l1), some (.int l2), some (.int l3), none]) (st' := [.ref l0]) (M' := M) rfl ?_
    obtain ⟨hc, hp⟩ := hp
    refine wq_getQ (j := 4) rfl hc ?_
    obtain ⟨hc, hp⟩ := hp
    refine wq_getQ (j := 0) rfl hc ?_
    refine wp_go 1 (pc' := 35) (L' := [some (.ref l0), some (.int l1), some (.int l2), some (.int l3), none]) (st' := [.int l2, .ref (zQ M (zQ M l0 4) 0)]) (M' := M) rfl ?_
    obtain ⟨hc, hp⟩ := hp
    refine wq_iald rfl hc ?_
    refine wp_go 1 (pc' := 37) (L' := [some (.ref l0), some (.int l1), some (.int l2), some (.int l3), none]) (st' := [.int l1, .int (zI M (zQ M (zQ M l0 4) 0) l2.toNatClampNeg)]) (M' := M) rfl ?_
    refine wp_ic_ne (t := 103) rfl rfl (fun hc => ?_) (fun hc => ?_)
    · rw [if_neg hc] at hQ
      replace hp := hp.2 hc
      exact s108_103 n k7 k19 q7 q19 h7 h19 l0 l1 l2 l3 M hp hQ
    · rw [if_pos hc] at hQ
      replace hp := hp.1 hc
      refine wp_go 1 (pc' := 41) (L' := [some (.ref l0), some (.int l1), some (.int l2), some (.int l3), none]) (st' := [.ref l0]) (M' := M) rfl ?_
      obtain ⟨hc, hp⟩ := hp
      refine wq_getQ (j := 4) rfl hc ?_
      obtain ⟨hc, hp⟩ := hp
      refine wq_getQ (j := 0) rfl hc ?_
      refine wp_go 1 (pc' := 48) (L' := [some (.ref l0), some (.int l1), some (.int l2), some (.int l3), none]) (st' := [.int l3, .ref (zQ M (zQ M l0 4) 0)]) (M' := M) rfl ?_
      obtain ⟨hc, hp⟩ := hp
      refine wq_iald rfl hc ?_
      refine wp_go 1 (pc' := 50) (L' := [some (.ref l0), some (.int l1), some (.int l2), some (.int l3), none]) (st' := [.int l1, .int (zI M (zQ M (zQ M l0 4) 0) l3.toNatClampNeg)]) (M' := M) rfl ?_
      refine wp_ic_ne (t := 103) rfl rfl (fun hc => ?_) (fun hc => ?_)
      · rw [if_neg hc] at hQ
        replace hp := hp.2 hc
        exact s108_103 n k7 k19 q7 q19 h7 h19 l0 l1 l2 l3 M hp hQ
      · rw [if_pos hc] at hQ
        replace hp := hp.1 hc
        refine wp_go 1 (pc' := 54) (L' := [some (.ref l0), some (.int l1), some (.int l2), some (.int l3), none]) (st' := [.ref l0]) (M' := M) rfl ?_
        obtain ⟨hc, hp⟩ := hp
        refine wq_getQ (j := 1) rfl hc ?_
        refine wp_go 1 (pc' := 58) (L' := [some (.ref l0), some (.int l1), some (.int l2), some (.int l3), none]) (st' := [.int l2, .ref (zQ M l0 1)]) (M' := M) rfl ?_
        obtain ⟨hc, hp⟩ := hp
        refine wq_aald rfl hc ?_
        refine wp_go 1 (pc' := 60) (L' := [some (.ref l0), some (.int l1), some (.int l2), some (.int l3), none]) (st' := [.ref l0, .ref (zQ M (zQ M l0 1) l2.toNatClampNeg)]) (M' := M) rfl ?_
        obtain ⟨hc, hp⟩ := hp
        refine wq_getQ (j := 1) rfl hc ?_
        refine wp_go 1 (pc' := 64) (L' := [some (.ref l0), some (.int l1), some (.int l2), some (.int l3), none]) (st' := [.int l3, .ref (zQ M l0 1), .ref (zQ M (zQ M l0 1) l2.toNatClampNeg)]) (M' := M) rfl ?_
        obtain ⟨hc, hp⟩ := hp
        refine wq_aald rfl hc ?_
        obtain ⟨hv, hp⟩ := hp
        obtain ⟨hc, hp⟩ := hp
        refine wp_calli (v := (b30_0 n (zQ M (zQ M l0 1) l2.toNatClampNeg) (zQ M (zQ M l0 1) l3.toNatClampNeg) M).1) (M1 := (b30_0 n (zQ M (zQ M l0 1) l2.toNatClampNeg) (zQ M (zQ M l0 1) l3.toNatClampNeg) M).2) rfl rfl rfl (zInv_v (np := 1) rfl rfl hv rfl) (s30_0 n (zQ M (zQ M l0 1) l2.toNatClampNeg) (zQ M (zQ M l0 1) l3.toNatClampNeg) M hc (fun r M1 h => h)) ?_
        exact s108_68 n k7 k19 q7 q19 h7 h19 l0 l1 l2 l3 (b30_0 n (zQ M (zQ M l0 1) l2.toNatClampNeg) (zQ M (zQ M l0 1) l3.toNatClampNeg) M).1 (b30_0 n (zQ M (zQ M l0 1) l2.toNatClampNeg) (zQ M (zQ M l0 1) l3.toNatClampNeg) M).2 hp hQ
def b108_19 (n : Nat) (k7 : Nat → Int32 → Int32 → zM → Int32 × zM) : Nat → Nat → Int32 → Int32 → Int32 → zM → Int32 × zM
  | 0, _, _, _, _, M => (0, M)
  | k + 1, l0, l1, l2, l3, M => c108_19 n k7 (b108_19 n k7 k) l0 l1 l2 l3 M
def p108_19 (n : Nat) (q7 : Nat → Int32 → Int32 → zM → Prop) : Nat → Nat → Int32 → Int32 → Int32 → zM → Prop
  | 0, _, _, _, _, _ => False
  | k + 1, l0, l1, l2, l3, M => d108_19 n q7 (p108_19 n q7 k) l0 l1 l2 l3 M
theorem s108_19 (n : Nat) (k7 : Nat → Int32 → Int32 → zM → Int32 × zM) (q7 : Nat → Int32 → Int32 → zM → Prop) (h7 : ∀ (l0 : Nat) (l1 : Int32) (l2 : Int32) (M : zM), q7 l0 l1 l2 M → ∀ {Q : Option Value → zM → Prop}, (∀ r M1, zRI (k7 l0 l1 l2 M) r M1 → Q r M1) → zWP 108 7 [some (.ref l0), some (.int l1), some (.int l2), none, none] [] M Q) : ∀ (k : Nat) (l0 : Nat) (l1 : Int32) (l2 : Int32) (l3 : Int32) (M : zM), p108_19 n q7 k l0 l1 l2 l3 M → ∀ {Q : Option Value → zM → Prop}, (∀ r M1, zRI (b108_19 n k7 k l0 l1 l2 l3 M) r M1 → Q r M1) → zWP 108 19 [some (.ref l0), some (.int l1), some (.int l2), some (.int l3), none] [] M Q
  | 0, _, _, _, _, _, h, _, _ => h.elim
  | k + 1, l0, l1, l2, l3, M, h, _, hQ => t108_19 n k7 (b108_19 n k7 k) q7 (p108_19 n q7 k) h7 (s108_19 n k7 q7 h7 k) l0 l1 l2 l3 M h hQ
def c108_7 (n : Nat) (k7 : Nat → Int32 → Int32 → zM → Int32 × zM) (l0 : Nat) (l1 : Int32) (l2 : Int32) (M : zM) : Int32 × zM := (if (zI M l0 12) ≤ l2 then ((0 : Int32), M) else b108_19 n k7 n l0 l1 l2 (l2 + (1 : Int32)) M)
def d108_7 (n : Nat) (q7 : Nat → Int32 → Int32 → zM → Prop) (l0 : Nat) (l1 : Int32) (l2 : Int32) (M : zM) : Prop := (zHasI 9 78 l0 M 12) ∧ ((((zI M l0 12) ≤ l2 → True) ∧ (¬ (zI M l0 12) ≤ l2 → p108_19 n q7 n l0 l1 l2 (l2 + (1 : Int32)) M)))
theorem t108_7 (n : Nat) (k7 : Nat → Int32 → Int32 → zM → Int32 × zM) (q7 : Nat → Int32 → Int32 → zM → Prop) (h7 : ∀ (l0 : Nat) (l1 : Int32) (l2 : Int32) (M : zM), q7 l0 l1 l2 M → ∀ {Q : Option Value → zM → Prop}, (∀ r M1, zRI (k7 l0 l1 l2 M) r M1 → Q r M1) → zWP 108 7 [some (.ref l0), some (.int l1), some (.int l2), none, none] [] M Q) (l0 : Nat) (l1 : Int32) (l2 : Int32) (M : zM) (hp : d108_7 n q7 l0 l1 l2 M) {Q : Option Value → zM → Prop} (hQ : ∀ r M1, zRI (c108_7 n k7 l0 l1 l2 M) r M1 → Q r M1) : zWP 108 7 [some (.ref l0), some (.int l1), some (.int l2), none, none] [] M Q := by
  unfold c108_7 at hQ
  unfold d108_7 at hp
  refine wp_go 2 (pc' := 9) (L' := [some (.ref l0), some (.int l1), some (.int l2), none, none]) (st' := [.ref l0, .int l2]) (M' := M) rfl ?_
  obtain ⟨hc, hp⟩ := hp
  refine wq_getI (j := 12) rfl hc ?_
  refine wp_ic_ge (t := 115) rfl rfl (fun hc => ?_) (fun hc => ?_)
  · rw [if_pos hc] at hQ
    replace hp := hp.1 hc
    refine wp_go 1 (pc' := 116) (L' := [some (.ref l0), some (.int l1), some (.int l2), none, none]) (st' := [.int (0 : Int32)]) (M' := M) rfl ?_
    exact wp_ret (r := some (.int (0 : Int32))) rfl rfl (hQ _ _ ⟨rfl, rfl⟩)
  · rw [if_neg hc] at hQ
    replace hp := hp.2 hc
    refine wp_go 4 (pc' := 19) (L' := [some (.ref l0), some (.int l1), some (.int l2), some (.int (l2 + (1 : Int32))), none]) (st' := []) (M' := M) rfl ?_
    exact s108_19 n k7 q7 h7 n l0 l1 l2 (l2 + (1 : Int32)) M hp hQ
def b108_7 (n : Nat)  : Nat → Nat → Int32 → Int32 → zM → Int32 × zM
  | 0, _, _, _, M => (0, M)
  | k + 1, l0, l1, l2, M => c108_7 n  (b108_7 n  k) l0 l1 l2 M
def p108_7 (n : Nat)  : Nat → Nat → Int32 → Int32 → zM → Prop
  | 0, _, _, _, _ => False
  | k + 1, l0, l1, l2, M => d108_7 n  (p108_7 n  k) l0 l1 l2 M
theorem s108_7 (n : Nat)    : ∀ (k : Nat) (l0 : Nat) (l1 : Int32) (l2 : Int32) (M : zM), p108_7 n  k l0 l1 l2 M → ∀ {Q : Option Value → zM → Prop}, (∀ r M1, zRI (b108_7 n  k l0 l1 l2 M) r M1 → Q r M1) → zWP 108 7 [some (.ref l0), some (.int l1), some (.int l2), none, none] [] M Q
  | 0, _, _, _, _, h, _, _ => h.elim
  | k + 1, l0, l1, l2, M, h, _, hQ => t108_7 n  (b108_7 n  k)  (p108_7 n  k)  (s108_7 n    k) l0 l1 l2 M h hQ
def b108_5 (n : Nat)  (l0 : Nat) (l1 : Int32) (M : zM) : Int32 × zM := b108_7 n  n l0 l1 (0 : Int32) M
def p108_5 (n : Nat)  (l0 : Nat) (l1 : Int32) (M : zM) : Prop := p108_7 n  n l0 l1 (0 : Int32) M
theorem s108_5 (n : Nat)    (l0 : Nat) (l1 : Int32) (M : zM) (hp : p108_5 n  l0 l1 M) {Q : Option Value → zM → Prop} (hQ : ∀ r M1, zRI (b108_5 n  l0 l1 M) r M1 → Q r M1) : zWP 108 5 [some (.ref l0), some (.int l1), none, none, none] [] M Q := by
  unfold b108_5 at hQ
  unfold p108_5 at hp
  refine wp_go 2 (pc' := 7) (L' := [some (.ref l0), some (.int l1), some (.int (0 : Int32)), none, none]) (st' := []) (M' := M) rfl ?_
  exact s108_7 n    n l0 l1 (0 : Int32) M hp hQ
def b108_0 (n : Nat)  (l0 : Nat) (l1 : Int32) (M : zM) : Int32 × zM := b108_5 n  l0 l1 (b109_0 n l0 l1 M)
def p108_0 (n : Nat)  (l0 : Nat) (l1 : Int32) (M : zM) : Prop := (zHasC 108 441 l0 M 109 1) ∧ ((p109_0 n l0 l1 M) ∧ (p108_5 n  l0 l1 (b109_0 n l0 l1 M)))
theorem s108_0 (n : Nat)    (l0 : Nat) (l1 : Int32) (M : zM) (hp : p108_0 n  l0 l1 M) {Q : Option Value → zM → Prop} (hQ : ∀ r M1, zRI (b108_0 n  l0 l1 M) r M1 → Q r M1) : zWP 108 0 [some (.ref l0), some (.int l1), none, none, none] [] M Q := by
  unfold b108_0 at hQ
  unfold p108_0 at hp
  refine wp_go 2 (pc' := 2) (L' := [some (.ref l0), some (.int l1), none, none, none]) (st' := [.int l1, .ref l0]) (M' := M) rfl ?_
  obtain ⟨hv, hp⟩ := hp
  obtain ⟨hc, hp⟩ := hp
  refine wp_callv (M1 := (b109_0 n l0 l1 M)) rfl rfl rfl (zInv_v (np := 1) rfl rfl hv rfl) (s109_0 n l0 l1 M hc (fun r M1 h => h)) ?_
  exact s108_5 n    l0 l1 (b109_0 n l0 l1 M) hp hQ
/-! X11_tryToJoin -/
def b106_189 (n : Nat)   (M : zM) : Int32 × zM := (((-6) : Int32), M)
def p106_189 (n : Nat)   (M : zM) : Prop := True
theorem s106_189 (n : Nat)     (M : zM) (hp : p106_189 n   M) {Q : Option Value → zM → Prop} (hQ : ∀ r M1, zRI (b106_189 n   M) r M1 → Q r M1) : zWP 106 189 [none, none, none, none, none] [] M Q := by
  unfold b106_189 at hQ
  unfold p106_189 at hp
  refine wp_go 1 (pc' := 191) (L' := [none, none, none, none, none]) (st' := [.int ((-6) : Int32)]) (M' := M) rfl ?_
  exact wp_ret (r := some (.int ((-6) : Int32))) rfl rfl (hQ _ _ ⟨rfl, rfl⟩)
def b106_170 (n : Nat)  (l0 : Nat) (M : zM) : Int32 × zM := b106_189 n  (b22_0 n (zQ M l0 4) (zQ M l0 0) (zI M l0 12) (zQ M l0 3) M)
def p106_170 (n : Nat)  (l0 : Nat) (M : zM) : Prop := (zHasQ 9 35 l0 M 4) ∧ ((zHasQ 9 11 l0 M 0) ∧ ((zHasI 9 78 l0 M 12) ∧ ((zHasQ 9 28 l0 M 3) ∧ ((zHasC 106 113 (zQ M l0 4) M 22 3) ∧ ((p22_0 n (zQ M l0 4) (zQ M l0 0) (zI M l0 12) (zQ M l0 3) M) ∧ (p106_189 n  (b22_0 n (zQ M l0 4) (zQ M l0 0) (zI M l0 12) (zQ M l0 3) M)))))))
theorem s106_170 (n : Nat)    (l0 : Nat) (M : zM) (hp : p106_170 n  l0 M) {Q : Option Value → zM → Prop} (hQ : ∀ r M1, zRI (b106_170 n  l0 M) r M1 → Q r M1) : zWP 106 170 [some (.ref l0), none, none, none, none] [] M Q := by
  unfold b106_170 at hQ
  unfold p106_170 at hp
  refine wp_go 1 (pc' := 171) (L' := [some (.ref l0), none, none, none, none]) (st' := [.ref l0]) (M' := M) rfl ?_
  obtain ⟨hc, hp⟩ := hp
  refine wq_getQ (j := 4) rfl hc ?_
  refine wp_go 1 (pc' := 175) (L' := [some (.ref l0), none, none, none, none]) (st' := [.ref l0, .ref (zQ M l0 4)]) (M' := M) rfl ?_
  obtain ⟨hc, hp⟩ := hp
  refine wq_getQ (j := 0) rfl hc ?_
  refine wp_go 1 (pc' := 179) (L' := [some (.ref l0), none, none, none, none]) (st' := [.ref l0, .ref (zQ M l0 0), .ref (zQ M l0 4)]) (M' := M) rfl ?_
  obtain ⟨hc, hp⟩ := hp
  refine wq_getI (j := 12) rfl hc ?_
  refine wp_go 1 (pc' := 183) (L' := [some (.ref l0), none, none, none, none]) (st' := [.ref l0, .int (zI M l0 12), .ref (zQ M l0 0), .ref (zQ M l0 4)]) (M' := M) rfl ?_
  obtain ⟨hc, hp⟩ := hp
  refine wq_getQ (j := 3) rfl hc ?_
  obtain ⟨hv, hp⟩ := hp
  obtain ⟨hc, hp⟩ := hp
  refine wp_callv (M1 := (b22_0 n (zQ M l0 4) (zQ M l0 0) (zI M l0 12) (zQ M l0 3) M)) rfl rfl rfl (zInv_v (np := 3) rfl rfl hv rfl) (s22_0 n (zQ M l0 4) (zQ M l0 0) (zI M l0 12) (zQ M l0 3) M hc (fun r M1 h => h)) ?_
  refine wp_le [none, none, none, none, none] (zLe_of (by simp [zLeB])) ?_
  exact s106_189 n    (b22_0 n (zQ M l0 4) (zQ M l0 0) (zI M l0 12) (zQ M l0 3) M) hp hQ
def b106_154 (n : Nat)  (l0 : Nat) (l4 : Int32) (s0 : Int32) (M : zM) : Int32 × zM := (if s0 = 0 then (l4, M) else b106_170 n  l0 (b18_0 n (zQ M l0 3) l4 (zQ M l0 0) M))
def p106_154 (n : Nat)  (l0 : Nat) (l4 : Int32) (s0 : Int32) (M : zM) : Prop := ((s0 = 0 → True) ∧ (¬ s0 = 0 → (zHasQ 9 28 l0 M 3) ∧ ((zHasQ 9 11 l0 M 0) ∧ ((zHasC 106 321 (zQ M l0 3) M 18 2) ∧ ((p18_0 n (zQ M l0 3) l4 (zQ M l0 0) M) ∧ (p106_170 n  l0 (b18_0 n (zQ M l0 3) l4 (zQ M l0 0) M)))))))
theorem s106_154 (n : Nat)    (l0 : Nat) (l4 : Int32) (s0 : Int32) (M : zM) (hp : p106_154 n  l0 l4 s0 M) {Q : Option Value → zM → Prop} (hQ : ∀ r M1, zRI (b106_154 n  l0 l4 s0 M) r M1 → Q r M1) : zWP 106 154 [some (.ref l0), none, none, none, some (.int l4)] [.int s0] M Q := by
  unfold b106_154 at hQ
  unfold p106_154 at hp
  refine wp_if_eq (t := 192) rfl rfl (fun hc => ?_) (fun hc => ?_)
  · rw [if_pos hc] at hQ
    replace hp := hp.1 hc
    refine wp_go 1 (pc' := 194) (L' := [some (.ref l0), none, none, none, some (.int l4)]) (st' := [.int l4]) (M' := M) rfl ?_
    exact wp_ret (r := some (.int l4)) rfl rfl (hQ _ _ ⟨rfl, rfl⟩)
  · rw [if_neg hc] at hQ
    replace hp := hp.2 hc
    refine wp_go 1 (pc' := 158) (L' := [some (.ref l0), none, none, none, some (.int l4)]) (st' := [.ref l0]) (M' := M) rfl ?_
    obtain ⟨hc, hp⟩ := hp
    refine wq_getQ (j := 3) rfl hc ?_
    refine wp_go 2 (pc' := 164) (L' := [some (.ref l0), none, none, none, some (.int l4)]) (st' := [.ref l0, .int l4, .ref (zQ M l0 3)]) (M' := M) rfl ?_
    obtain ⟨hc, hp⟩ := hp
    refine wq_getQ (j := 0) rfl hc ?_
    obtain ⟨hv, hp⟩ := hp
    obtain ⟨hc, hp⟩ := hp
    refine wp_callv (M1 := (b18_0 n (zQ M l0 3) l4 (zQ M l0 0) M)) rfl rfl rfl (zInv_v (np := 2) rfl rfl hv rfl) (s18_0 n (zQ M l0 3) l4 (zQ M l0 0) M hc (fun r M1 h => h)) ?_
    refine wp_le [some (.ref l0), none, none, none, none] (zLe_of (by simp [zLeB])) ?_
    exact s106_170 n    l0 (b18_0 n (zQ M l0 3) l4 (zQ M l0 0) M) hp hQ
def b106_138 (n : Nat)  (l0 : Nat) (l1 : Nat) (l4 : Int32) (M : zM) : Int32 × zM := b106_154 n  l0 l4 (b108_0 n l0 (zI M (zQ M (zQ M l0 4) 0) (zI M l1 0).toNatClampNeg) M).1 (b108_0 n l0 (zI M (zQ M (zQ M l0 4) 0) (zI M l1 0).toNatClampNeg) M).2
def p106_138 (n : Nat)  (l0 : Nat) (l1 : Nat) (l4 : Int32) (M : zM) : Prop := (zHasQ 9 35 l0 M 4) ∧ ((zHasQ 9 192 (zQ M l0 4) M 0) ∧ ((zHasI 9 388 l1 M 0) ∧ ((zOkI (zQ M (zQ M l0 4) 0) (zI M l1 0) M) ∧ ((zHasC 106 438 l0 M 108 1) ∧ ((p108_0 n l0 (zI M (zQ M (zQ M l0 4) 0) (zI M l1 0).toNatClampNeg) M) ∧ (p106_154 n  l0 l4 (b108_0 n l0 (zI M (zQ M (zQ M l0 4) 0) (zI M l1 0).toNatClampNeg) M).1 (b108_0 n l0 (zI M (zQ M (zQ M l0 4) 0) (zI M l1 0).toNatClampNeg) M).2))))))
theorem s106_138 (n : Nat)    (l0 : Nat) (l1 : Nat) (l4 : Int32) (M : zM) (hp : p106_138 n  l0 l1 l4 M) {Q : Option Value → zM → Prop} (hQ : ∀ r M1, zRI (b106_138 n  l0 l1 l4 M) r M1 → Q r M1) : zWP 106 138 [some (.ref l0), some (.ref l1), none, none, some (.int l4)] [] M Q := by
  unfold b106_138 at hQ
  unfold p106_138 at hp
  refine wp_go 2 (pc' := 140) (L' := [some (.ref l0), some (.ref l1), none, none, some (.int l4)]) (st' := [.ref l0, .ref l0]) (M' := M) rfl ?_
  obtain ⟨hc, hp⟩ := hp
  refine wq_getQ (j := 4) rfl hc ?_
  obtain ⟨hc, hp⟩ := hp
  refine wq_getQ (j := 0) rfl hc ?_
  refine wp_go 1 (pc' := 147) (L' := [some (.ref l0), some (.ref l1), none, none, some (.int l4)]) (st' := [.ref l1, .ref (zQ M (zQ M l0 4) 0), .ref l0]) (M' := M) rfl ?_
  obtain ⟨hc, hp⟩ := hp
  refine wq_getI (j := 0) rfl hc ?_
  obtain ⟨hc, hp⟩ := hp
  refine wq_iald rfl hc ?_
  obtain ⟨hv, hp⟩ := hp
  obtain ⟨hc, hp⟩ := hp
  refine wp_calli (v := (b108_0 n l0 (zI M (zQ M (zQ M l0 4) 0) (zI M l1 0).toNatClampNeg) M).1) (M1 := (b108_0 n l0 (zI M (zQ M (zQ M l0 4) 0) (zI M l1 0).toNatClampNeg) M).2) rfl rfl rfl (zInv_v (np := 1) rfl rfl hv rfl) (s108_0 n l0 (zI M (zQ M (zQ M l0 4) 0) (zI M l1 0).toNatClampNeg) M hc (fun r M1 h => h)) ?_
  refine wp_le [some (.ref l0), none, none, none, some (.int l4)] (zLe_of (by simp [zLeB])) ?_
  exact s106_154 n    l0 l4 (b108_0 n l0 (zI M (zQ M (zQ M l0 4) 0) (zI M l1 0).toNatClampNeg) M).1 (b108_0 n l0 (zI M (zQ M (zQ M l0 4) 0) (zI M l1 0).toNatClampNeg) M).2 hp hQ
def b106_119 (n : Nat)  (l0 : Nat) (l1 : Nat) (l4 : Int32) (M : zM) : Int32 × zM := b106_138 n  l0 l1 l4 (b22_0 n (zQ M l0 4) (zQ M l0 0) (zI M l0 12) (zQ M l0 3) M)
def p106_119 (n : Nat)  (l0 : Nat) (l1 : Nat) (l4 : Int32) (M : zM) : Prop := (zHasQ 9 35 l0 M 4) ∧ ((zHasQ 9 11 l0 M 0) ∧ ((zHasI 9 78 l0 M 12) ∧ ((zHasQ 9 28 l0 M 3) ∧ ((zHasC 106 113 (zQ M l0 4) M 22 3) ∧ ((p22_0 n (zQ M l0 4) (zQ M l0 0) (zI M l0 12) (zQ M l0 3) M) ∧ (p106_138 n  l0 l1 l4 (b22_0 n (zQ M l0 4) (zQ M l0 0) (zI M l0 12) (zQ M l0 3) M)))))))
theorem s106_119 (n : Nat)    (l0 : Nat) (l1 : Nat) (l4 : Int32) (M : zM) (hp : p106_119 n  l0 l1 l4 M) {Q : Option Value → zM → Prop} (hQ : ∀ r M1, zRI (b106_119 n  l0 l1 l4 M) r M1 → Q r M1) : zWP 106 119 [some (.ref l0), some (.ref l1), none, none, some (.int l4)] [] M Q := by
  unfold b106_119 at hQ
  unfold p106_119 at hp
  refine wp_go 1 (pc' := 120) (L' := [some (.ref l0), some (.ref l1), none, none, some (.int l4)]) (st' := [.ref l0]) (M' := M) rfl ?_
  obtain ⟨hc, hp⟩ := hp
  refine wq_getQ (j := 4) rfl hc ?_
  refine wp_go 1 (pc' := 124) (L' := [some (.ref l0), some (.ref l1), none, none, some (.int l4)]) (st' := [.ref l0, .ref (zQ M l0 4)]) (M' := M) rfl ?_
  obtain ⟨hc, hp⟩ := hp
  refine wq_getQ (j := 0) rfl hc ?_
  refine wp_go 1 (pc' := 128) (L' := [some (.ref l0), some (.ref l1), none, none, some (.int l4)]) (st' := [.ref l0, .ref (zQ M l0 0), .ref (zQ M l0 4)]) (M' := M) rfl ?_
  obtain ⟨hc, hp⟩ := hp
  refine wq_getI (j := 12) rfl hc ?_
  refine wp_go 1 (pc' := 132) (L' := [some (.ref l0), some (.ref l1), none, none, some (.int l4)]) (st' := [.ref l0, .int (zI M l0 12), .ref (zQ M l0 0), .ref (zQ M l0 4)]) (M' := M) rfl ?_
  obtain ⟨hc, hp⟩ := hp
  refine wq_getQ (j := 3) rfl hc ?_
  obtain ⟨hv, hp⟩ := hp
  obtain ⟨hc, hp⟩ := hp
  refine wp_callv (M1 := (b22_0 n (zQ M l0 4) (zQ M l0 0) (zI M l0 12) (zQ M l0 3) M)) rfl rfl rfl (zInv_v (np := 3) rfl rfl hv rfl) (s22_0 n (zQ M l0 4) (zQ M l0 0) (zI M l0 12) (zQ M l0 3) M hc (fun r M1 h => h)) ?_
  exact s106_138 n    l0 l1 l4 (b22_0 n (zQ M l0 4) (zQ M l0 0) (zI M l0 12) (zQ M l0 3) M) hp hQ
def b106_104 (n : Nat)  (l0 : Nat) (l1 : Nat) (l4 : Int32) (M : zM) : Int32 × zM := b106_119 n  l0 l1 l4 (b17_0 n (zQ M l0 3) l4 l1 (0 : Int32) (zQ M l0 0) M)
def p106_104 (n : Nat)  (l0 : Nat) (l1 : Nat) (l4 : Int32) (M : zM) : Prop := (zHasQ 9 28 l0 M 3) ∧ ((zHasQ 9 11 l0 M 0) ∧ ((zHasC 106 314 (zQ M l0 3) M 17 4) ∧ ((p17_0 n (zQ M l0 3) l4 l1 (0 : Int32) (zQ M l0 0) M) ∧ (p106_119 n  l0 l1 l4 (b17_0 n (zQ M l0 3) l4 l1 (0 : Int32) (zQ M l0 0) M)))))
theorem s106_104 (n : Nat)    (l0 : Nat) (l1 : Nat) (l4 : Int32) (M : zM) (hp : p106_104 n  l0 l1 l4 M) {Q : Option Value → zM → Prop} (hQ : ∀ r M1, zRI (b106_104 n  l0 l1 l4 M) r M1 → Q r M1) : zWP 106 104 [some (.ref l0), some (.ref l1), none, none, some (.int l4)] [] M Q := by
  unfold b106_104 at hQ
  unfold p106_104 at hp
  refine wp_go 1 (pc' := 105) (L' := [some (.ref l0), some (.ref l1), none, none, some (.int l4)]) (st' := [.ref l0]) (M' := M) rfl ?_
  obtain ⟨hc, hp⟩ := hp
  refine wq_getQ (j := 3) rfl hc ?_
  refine wp_go 4 (pc' := 113) (L' := [some (.ref l0), some (.ref l1), none, none, some (.int l4)]) (st' := [.ref l0, .int (0 : Int32), .ref l1, .int l4, .ref (zQ M l0 3)]) (M' := M) rfl ?_
  obtain ⟨hc, hp⟩ := hp
  refine wq_getQ (j := 0) rfl hc ?_
  obtain ⟨hv, hp⟩ := hp
  obtain ⟨hc, hp⟩ := hp
  refine wp_callv (M1 := (b17_0 n (zQ M l0 3) l4 l1 (0 : Int32) (zQ M l0 0) M)) rfl rfl rfl (zInv_v (np := 4) rfl rfl hv rfl) (s17_0 n (zQ M l0 3) l4 l1 (0 : Int32) (zQ M l0 0) M hc (fun r M1 h => h)) ?_
  exact s106_119 n    l0 l1 l4 (b17_0 n (zQ M l0 3) l4 l1 (0 : Int32) (zQ M l0 0) M) hp hQ
def b106_101 (n : Nat)   (M : zM) : Int32 × zM := (((-5) : Int32), M)
def p106_101 (n : Nat)   (M : zM) : Prop := True
theorem s106_101 (n : Nat)     (M : zM) (hp : p106_101 n   M) {Q : Option Value → zM → Prop} (hQ : ∀ r M1, zRI (b106_101 n   M) r M1 → Q r M1) : zWP 106 101 [none, none, none, none, none] [] M Q := by
  unfold b106_101 at hQ
  unfold p106_101 at hp
  refine wp_go 1 (pc' := 103) (L' := [none, none, none, none, none]) (st' := [.int ((-5) : Int32)]) (M' := M) rfl ?_
  exact wp_ret (r := some (.int ((-5) : Int32))) rfl rfl (hQ _ _ ⟨rfl, rfl⟩)
def b106_98 (n : Nat)  (s0 : Nat) (s1 : Int32) (M : zM) : Int32 × zM := b106_101 n  (zWI M s0 19 s1)
def p106_98 (n : Nat)  (s0 : Nat) (s1 : Int32) (M : zM) : Prop := (zPutI 106 100 s0 M 19 s1) ∧ (p106_101 n  (zWI M s0 19 s1))
theorem s106_98 (n : Nat)    (s0 : Nat) (s1 : Int32) (M : zM) (hp : p106_98 n  s0 s1 M) {Q : Option Value → zM → Prop} (hQ : ∀ r M1, zRI (b106_98 n  s0 s1 M) r M1 → Q r M1) : zWP 106 98 [none, none, none, none, none] [.int s1, .ref s0] M Q := by
  unfold b106_98 at hQ
  unfold p106_98 at hp
  obtain ⟨hc, hp⟩ := hp
  refine wq_putI (j := 19) rfl hc ?_
  exact s106_101 n    (zWI M s0 19 s1) hp hQ
def b106_78 (n : Nat)  (l0 : Nat) (l1 : Nat) (l4 : Int32) (s0 : Int32) (M : zM) : Int32 × zM := (if s0 ≤ (zI M l0 15) then b106_104 n  l0 l1 l4 M else b106_98 n  l0 (b27_0 n (zQ M l0 4) l1 (zQ M l0 0) M).1 (b27_0 n (zQ M l0 4) l1 (zQ M l0 0) M).2)
def p106_78 (n : Nat)  (l0 : Nat) (l1 : Nat) (l4 : Int32) (s0 : Int32) (M : zM) : Prop := (zHasI 9 88 l0 M 15) ∧ (((s0 ≤ (zI M l0 15) → p106_104 n  l0 l1 l4 M) ∧ (¬ s0 ≤ (zI M l0 15) → (zHasQ 9 35 l0 M 4) ∧ ((zHasQ 9 11 l0 M 0) ∧ ((zHasC 106 347 (zQ M l0 4) M 27 2) ∧ ((p27_0 n (zQ M l0 4) l1 (zQ M l0 0) M) ∧ (p106_98 n  l0 (b27_0 n (zQ M l0 4) l1 (zQ M l0 0) M).1 (b27_0 n (zQ M l0 4) l1 (zQ M l0 0) M).2)))))))
theorem s106_78 (n : Nat)    (l0 : Nat) (l1 : Nat) (l4 : Int32) (s0 : Int32) (M : zM) (hp : p106_78 n  l0 l1 l4 s0 M) {Q : Option Value → zM → Prop} (hQ : ∀ r M1, zRI (b106_78 n  l0 l1 l4 s0 M) r M1 → Q r M1) : zWP 106 78 [some (.ref l0), some (.ref l1), none, none, some (.int l4)] [.int s0] M Q := by
  unfold b106_78 at hQ
  unfold p106_78 at hp
  refine wp_go 1 (pc' := 79) (L' := [some (.ref l0), some (.ref l1), none, none, some (.int l4)]) (st' := [.ref l0, .int s0]) (M' := M) rfl ?_
  obtain ⟨hc, hp⟩ := hp
  refine wq_getI (j := 15) rfl hc ?_
  refine wp_ic_le (t := 104) rfl rfl (fun hc => ?_) (fun hc => ?_)
  · rw [if_pos hc] at hQ
    replace hp := hp.1 hc
    exact s106_104 n    l0 l1 l4 M hp hQ
  · rw [if_neg hc] at hQ
    replace hp := hp.2 hc
    refine wp_go 2 (pc' := 87) (L' := [some (.ref l0), some (.ref l1), none, none, some (.int l4)]) (st' := [.ref l0, .ref l0]) (M' := M) rfl ?_
    obtain ⟨hc, hp⟩ := hp
    refine wq_getQ (j := 4) rfl hc ?_
    refine wp_go 2 (pc' := 92) (L' := [some (.ref l0), some (.ref l1), none, none, some (.int l4)]) (st' := [.ref l0, .ref l1, .ref (zQ M l0 4), .ref l0]) (M' := M) rfl ?_
    obtain ⟨hc, hp⟩ := hp
    refine wq_getQ (j := 0) rfl hc ?_
    obtain ⟨hv, hp⟩ := hp
    obtain ⟨hc, hp⟩ := hp
    refine wp_calli (v := (b27_0 n (zQ M l0 4) l1 (zQ M l0 0) M).1) (M1 := (b27_0 n (zQ M l0 4) l1 (zQ M l0 0) M).2) rfl rfl rfl (zInv_v (np := 2) rfl rfl hv rfl) (s27_0 n (zQ M l0 4) l1 (zQ M l0 0) M hc (fun r M1 h => h)) ?_
    refine wp_le [none, none, none, none, none] (zLe_of (by simp [zLeB])) ?_
    exact s106_98 n    l0 (b27_0 n (zQ M l0 4) l1 (zQ M l0 0) M).1 (b27_0 n (zQ M l0 4) l1 (zQ M l0 0) M).2 hp hQ
def b106_50 (n : Nat)  (l0 : Nat) (l1 : Nat) (l2 : Int32) (l3 : Int32) (s0 : Int32) (M : zM) : Int32 × zM := (if s0 = ((-1) : Int32) then (((-4) : Int32), M) else (if l2 = l3 then b106_78 n  l0 l1 s0 (b27_0 n (zQ M l0 4) l1 (zQ M l0 0) M).1 (b27_0 n (zQ M l0 4) l1 (zQ M l0 0) M).2 else b106_104 n  l0 l1 s0 M))
def p106_50 (n : Nat)  (l0 : Nat) (l1 : Nat) (l2 : Int32) (l3 : Int32) (s0 : Int32) (M : zM) : Prop := ((s0 = ((-1) : Int32) → True) ∧ (¬ s0 = ((-1) : Int32) → ((l2 = l3 → (zHasQ 9 35 l0 M 4) ∧ ((zHasQ 9 11 l0 M 0) ∧ ((zHasC 106 347 (zQ M l0 4) M 27 2) ∧ ((p27_0 n (zQ M l0 4) l1 (zQ M l0 0) M) ∧ (p106_78 n  l0 l1 s0 (b27_0 n (zQ M l0 4) l1 (zQ M l0 0) M).1 (b27_0 n (zQ M l0 4) l1 (zQ M l0 0) M).2))))) ∧ (¬ l2 = l3 → p106_104 n  l0 l1 s0 M))))
theorem s106_50 (n : Nat)    (l0 : Nat) (l1 : Nat) (l2 : Int32) (l3 : Int32) (s0 : Int32) (M : zM) (hp : p106_50 n  l0 l1 l2 l3 s0 M) {Q : Option Value → zM → Prop} (hQ : ∀ r M1, zRI (b106_50 n  l0 l1 l2 l3 s0 M) r M1 → Q r M1) : zWP 106 50 [some (.ref l0), some (.ref l1), some (.int l2), some (.int l3), none] [.int s0] M Q := by
  unfold b106_50 at hQ
  unfold p106_50 at hp
  refine wp_go 3 (pc' := 55) (L' := [some (.ref l0), some (.ref l1), some (.int l2), some (.int l3), some (.int s0)]) (st' := [.int ((-1) : Int32), .int s0]) (M' := M) rfl ?_
  refine wp_ic_ne (t := 61) rfl rfl (fun hc => ?_) (fun hc => ?_)
  · rw [if_neg hc] at hQ
    replace hp := hp.2 hc
    refine wp_go 2 (pc' := 63) (L' := [some (.ref l0), some (.ref l1), some (.int l2), some (.int l3), some (.int s0)]) (st' := [.int l3, .int l2]) (M' := M) rfl ?_
    refine wp_ic_ne (t := 104) rfl rfl (fun hc => ?_) (fun hc => ?_)
    · rw [if_neg hc] at hQ
      replace hp := hp.2 hc
      refine wp_le [some (.ref l0), some (.ref l1), none, none, some (.int s0)] (zLe_of (by simp [zLeB])) ?_
      exact s106_104 n    l0 l1 s0 M hp hQ
    · rw [if_pos hc] at hQ
      replace hp := hp.1 hc
      refine wp_go 1 (pc' := 67) (L' := [some (.ref l0), some (.ref l1), some (.int l2), some (.int l3), some (.int s0)]) (st' := [.ref l0]) (M' := M) rfl ?_
      obtain ⟨hc, hp⟩ := hp
      refine wq_getQ (j := 4) rfl hc ?_
      refine wp_go 2 (pc' := 72) (L' := [some (.ref l0), some (.ref l1), some (.int l2), some (.int l3), some (.int s0)]) (st' := [.ref l0, .ref l1, .ref (zQ M l0 4)]) (M' := M) rfl ?_
      obtain ⟨hc, hp⟩ := hp
      refine wq_getQ (j := 0) rfl hc ?_
      obtain ⟨hv, hp⟩ := hp
      obtain ⟨hc, hp⟩ := hp
      refine wp_calli (v := (b27_0 n (zQ M l0 4) l1 (zQ M l0 0) M).1) (M1 := (b27_0 n (zQ M l0 4) l1 (zQ M l0 0) M).2) rfl rfl rfl (zInv_v (np := 2) rfl rfl hv rfl) (s27_0 n (zQ M l0 4) l1 (zQ M l0 0) M hc (fun r M1 h => h)) ?_
      refine wp_le [some (.ref l0), some (.ref l1), none, none, some (.int s0)] (zLe_of (by simp [zLeB])) ?_
      exact s106_78 n    l0 l1 s0 (b27_0 n (zQ M l0 4) l1 (zQ M l0 0) M).1 (b27_0 n (zQ M l0 4) l1 (zQ M l0 0) M).2 hp hQ
  · rw [if_pos hc] at hQ
    replace hp := hp.1 hc
    refine wp_go 1 (pc' := 60) (L' := [some (.ref l0), some (.ref l1), some (.int l2), some (.int l3), some (.int s0)]) (st' := [.int ((-4) : Int32)]) (M' := M) rfl ?_
    exact wp_ret (r := some (.int ((-4) : Int32))) rfl rfl (hQ _ _ ⟨rfl, rfl⟩)
def b106_43 (n : Nat)  (l0 : Nat) (l1 : Nat) (l2 : Int32) (l3 : Int32) (M : zM) : Int32 × zM := b106_50 n  l0 l1 l2 l3 (b15_0 n (zQ M l0 3) M).1 (b15_0 n (zQ M l0 3) M).2
def p106_43 (n : Nat)  (l0 : Nat) (l1 : Nat) (l2 : Int32) (l3 : Int32) (M : zM) : Prop := (zHasQ 9 28 l0 M 3) ∧ ((zHasC 106 311 (zQ M l0 3) M 15 0) ∧ ((p15_0 n (zQ M l0 3) M) ∧ (p106_50 n  l0 l1 l2 l3 (b15_0 n (zQ M l0 3) M).1 (b15_0 n (zQ M l0 3) M).2)))
theorem s106_43 (n : Nat)    (l0 : Nat) (l1 : Nat) (l2 : Int32) (l3 : Int32) (M : zM) (hp : p106_43 n  l0 l1 l2 l3 M) {Q : Option Value → zM → Prop} (hQ : ∀ r M1, zRI (b106_43 n  l0 l1 l2 l3 M) r M1 → Q r M1) : zWP 106 43 [some (.ref l0), some (.ref l1), some (.int l2), some (.int l3), none] [] M Q := by
  unfold b106_43 at hQ
  unfold p106_43 at hp
  refine wp_go 1 (pc' := 44) (L' := [some (.ref l0), some (.ref l1), some (.int l2), some (.int l3), none]) (st' := [.ref l0]) (M' := M) rfl ?_
  obtain ⟨hc, hp⟩ := hp
  refine wq_getQ (j := 3) rfl hc ?_
  obtain ⟨hv, hp⟩ := hp
  obtain ⟨hc, hp⟩ := hp
  refine wp_calli (v := (b15_0 n (zQ M l0 3) M).1) (M1 := (b15_0 n (zQ M l0 3) M).2) rfl rfl rfl (zInv_v (np := 0) rfl rfl hv rfl) (s15_0 n (zQ M l0 3) M hc (fun r M1 h => h)) ?_
  exact s106_50 n    l0 l1 l2 l3 (b15_0 n (zQ M l0 3) M).1 (b15_0 n (zQ M l0 3) M).2 hp hQ
def b106_37 (n : Nat)  (l0 : Nat) (l1 : Nat) (l2 : Int32) (l3 : Int32) (s0 : Int32) (M : zM) : Int32 × zM := (if s0 = 0 then b106_43 n  l0 l1 l2 l3 M else (((-3) : Int32), M))
def p106_37 (n : Nat)  (l0 : Nat) (l1 : Nat) (l2 : Int32) (l3 : Int32) (s0 : Int32) (M : zM) : Prop := ((s0 = 0 → p106_43 n  l0 l1 l2 l3 M) ∧ (¬ s0 = 0 → True))
theorem s106_37 (n : Nat)    (l0 : Nat) (l1 : Nat) (l2 : Int32) (l3 : Int32) (s0 : Int32) (M : zM) (hp : p106_37 n  l0 l1 l2 l3 s0 M) {Q : Option Value → zM → Prop} (hQ : ∀ r M1, zRI (b106_37 n  l0 l1 l2 l3 s0 M) r M1 → Q r M1) : zWP 106 37 [some (.ref l0), some (.ref l1), some (.int l2), some (.int l3), none] [.int s0] M Q := by
  unfold b106_37 at hQ
  unfold p106_37 at hp
  refine wp_if_eq (t := 43) rfl rfl (fun hc => ?_) (fun hc => ?_)
  · rw [if_pos hc] at hQ
    replace hp := hp.1 hc
    exact s106_43 n    l0 l1 l2 l3 M hp hQ
  · rw [if_neg hc] at hQ
    replace hp := hp.2 hc
    refine wp_go 1 (pc' := 42) (L' := [some (.ref l0), some (.ref l1), some (.int l2), some (.int l3), none]) (st' := [.int ((-3) : Int32)]) (M' := M) rfl ?_
    exact wp_ret (r := some (.int ((-3) : Int32))) rfl rfl (hQ _ _ ⟨rfl, rfl⟩)
def b106_0 (n : Nat)  (l0 : Nat) (l1 : Nat) (M : zM) : Int32 × zM := (if (zI M (zQ M (zQ M l0 4) 0) (zI M l1 0).toNatClampNeg) = (zI M (zQ M (zQ M l0 4) 0) (zI M l1 2).toNatClampNeg) then b106_43 n  l0 l1 (zI M (zQ M (zQ M l0 4) 0) (zI M l1 0).toNatClampNeg) (zI M (zQ M (zQ M l0 4) 0) (zI M l1 2).toNatClampNeg) M else b106_37 n  l0 l1 (zI M (zQ M (zQ M l0 4) 0) (zI M l1 0).toNatClampNeg) (zI M (zQ M (zQ M l0 4) 0) (zI M l1 2).toNatClampNeg) (b107_0 n l0 (zI M (zQ M (zQ M l0 4) 0) (zI M l1 0).toNatClampNeg) (zI M (zQ M (zQ M l0 4) 0) (zI M l1 2).toNatClampNeg) M).1 (b107_0 n l0 (zI M (zQ M (zQ M l0 4) 0) (zI M l1 0).toNatClampNeg) (zI M (zQ M (zQ M l0 4) 0) (zI M l1 2).toNatClampNeg) M).2)
def p106_0 (n : Nat)  (l0 : Nat) (l1 : Nat) (M : zM) : Prop := (zHasQ 9 35 l0 M 4) ∧ ((zHasQ 9 192 (zQ M l0 4) M 0) ∧ ((zHasI 9 388 l1 M 0) ∧ ((zOkI (zQ M (zQ M l0 4) 0) (zI M l1 0) M) ∧ ((zHasQ 9 35 l0 M 4) ∧ ((zHasQ 9 192 (zQ M l0 4) M 0) ∧ ((zHasI 9 389 l1 M 2) ∧ ((zOkI (zQ M (zQ M l0 4) 0) (zI M l1 2) M) ∧ ((((zI M (zQ M (zQ M l0 4) 0) (zI M l1 0).toNatClampNeg) = (zI M (zQ M (zQ M l0 4) 0) (zI M l1 2).toNatClampNeg) → p106_43 n  l0 l1 (zI M (zQ M (zQ M l0 4) 0) (zI M l1 0).toNatClampNeg) (zI M (zQ M (zQ M l0 4) 0) (zI M l1 2).toNatClampNeg) M) ∧ (¬ (zI M (zQ M (zQ M l0 4) 0) (zI M l1 0).toNatClampNeg) = (zI M (zQ M (zQ M l0 4) 0) (zI M l1 2).toNatClampNeg) → (zHasC 106 435 l0 M 107 2) ∧ ((p107_0 n l0 (zI M (zQ M (zQ M l0 4) 0) (zI M l1 0).toNatClampNeg) (zI M (zQ M (zQ M l0 4) 0) (zI M l1 2).toNatClampNeg) M) ∧ (p106_37 n  l0 l1 (zI M (zQ M (zQ M l0 4) 0) (zI M l1 0).toNatClampNeg) (zI M (zQ M (zQ M l0 4) 0) (zI M l1 2).toNatClampNeg) (b107_0 n l0 (zI M (zQ M (zQ M l0 4) 0) (zI M l1 0).toNatClampNeg) (zI M (zQ M (zQ M l0 4) 0) (zI M l1 2).toNatClampNeg) M).1 (b107_0 n l0 (zI M (zQ M (zQ M l0 4) 0) (zI M l1 0).toNatClampNeg) (zI M (zQ M (zQ M l0 4) 0) (zI M l1 2).toNatClampNeg) M).2))))))))))))
theorem s106_0 (n : Nat)    (l0 : Nat) (l1 : Nat) (M : zM) (hp : p106_0 n  l0 l1 M) {Q : Option Value → zM → Prop} (hQ : ∀ r M1, zRI (b106_0 n  l0 l1 M) r M1 → Q r M1) : zWP 106 0 [some (.ref l0), some (.ref l1), none, none, none] [] M Q := by
  unfold b106_0 at hQ
  unfold p106_0 at hp
  refine wp_go 1 (pc' := 1) (L' := [some (.ref l0), some (.ref l1), none, none, none]) (st' := [.ref l0]) (M' := M) rfl ?_
  obtain ⟨hc, hp⟩ := hp
  refine wq_getQ (j := 4) rfl hc ?_
  obtain ⟨hc, hp⟩ := hp
  refine wq_getQ (j := 0) rfl hc ?_
  refine wp_go 1 (pc' := 8) (L' := [some (.ref l0), some (.ref l1), none, none, none]) (st' := [.ref l1, .ref (zQ M (zQ M l0 4) 0)]) (M' := M) rfl ?_
  obtain ⟨hc, hp⟩ := hp
  refine wq_getI (j := 0) rfl hc ?_
  obtain ⟨hc, hp⟩ := hp
  refine wq_iald rfl hc ?_
  refine wp_go 2 (pc' := 14) (L' := [some (.ref l0), some (.ref l1), some (.int (zI M (zQ M (zQ M l0 4) 0) (zI M l1 0).toNatClampNeg)), none, none]) (st' := [.ref l0]) (M' := M) rfl ?_
  obtain ⟨hc, hp⟩ := hp
  refine wq_getQ (j := 4) rfl hc ?_
  obtain ⟨hc, hp⟩ := hp
  refine wq_getQ (j := 0) rfl hc ?_
  refine wp_go 1 (pc' := 21) (L' := [some (.ref l0), some (.ref l1), some (.int (zI M (zQ M (zQ M l0 4) 0) (zI M l1 0).toNatClampNeg)), none, none]) (st' := [.ref l1, .ref (zQ M (zQ M l0 4) 0)]) (M' := M) rfl ?_
  obtain ⟨hc, hp⟩ := hp
  refine wq_getI (j := 2) rfl hc ?_
  obtain ⟨hc, hp⟩ := hp
  refine wq_iald rfl hc ?_
  refine wp_go 3 (pc' := 28) (L' := [some (.ref l0), some (.ref l1), some (.int (zI M (zQ M (zQ M l0 4) 0) (zI M l1 0).toNatClampNeg)), some (.int (zI M (zQ M (zQ M l0 4) 0) (zI M l1 2).toNatClampNeg)), none]) (st' := [.int (zI M (zQ M (zQ M l0 4) 0) (zI M l1 2).toNatClampNeg), .int (zI M (zQ M (zQ M l0 4) 0) (zI M l1 0).toNatClampNeg)]) (M' := M) rfl ?_
  refine wp_ic_eq (t := 43) rfl rfl (fun hc => ?_) (fun hc => ?_)
  · rw [if_pos hc] at hQ
    replace hp := hp.1 hc
    exact s106_43 n    l0 l1 (zI M (zQ M (zQ M l0 4) 0) (zI M l1 0).toNatClampNeg) (zI M (zQ M (zQ M l0 4) 0) (zI M l1 2).toNatClampNeg) M hp hQ
  · rw [if_neg hc] at hQ
    replace hp := hp.2 hc
    refine wp_go 3 (pc' := 34) (L' := [some (.ref l0), some (.ref l1), some (.int (zI M (zQ M (zQ M l0 4) 0) (zI M l1 0).toNatClampNeg)), some (.int (zI M (zQ M (zQ M l0 4) 0) (zI M l1 2).toNatClampNeg)), none]) (st' := [.int (zI M (zQ M (zQ M l0 4) 0) (zI M l1 2).toNatClampNeg), .int (zI M (zQ M (zQ M l0 4) 0) (zI M l1 0).toNatClampNeg), .ref l0]) (M' := M) rfl ?_
    obtain ⟨hv, hp⟩ := hp
    obtain ⟨hc, hp⟩ := hp
    refine wp_calli (v := (b107_0 n l0 (zI M (zQ M (zQ M l0 4) 0) (zI M l1 0).toNatClampNeg) (zI M (zQ M (zQ M l0 4) 0) (zI M l1 2).toNatClampNeg) M).1) (M1 := (b107_0 n l0 (zI M (zQ M (zQ M l0 4) 0) (zI M l1 0).toNatClampNeg) (zI M (zQ M (zQ M l0 4) 0) (zI M l1 2).toNatClampNeg) M).2) rfl rfl rfl (zInv_v (np := 2) rfl rfl hv rfl) (s107_0 n l0 (zI M (zQ M (zQ M l0 4) 0) (zI M l1 0).toNatClampNeg) (zI M (zQ M (zQ M l0 4) 0) (zI M l1 2).toNatClampNeg) M hc (fun r M1 h => h)) ?_
    exact s106_37 n    l0 l1 (zI M (zQ M (zQ M l0 4) 0) (zI M l1 0).toNatClampNeg) (zI M (zQ M (zQ M l0 4) 0) (zI M l1 2).toNatClampNeg) (b107_0 n l0 (zI M (zQ M (zQ M l0 4) 0) (zI M l1 0).toNatClampNeg) (zI M (zQ M (zQ M l0 4) 0) (zI M l1 2).toNatClampNeg) M).1 (b107_0 n l0 (zI M (zQ M (zQ M l0 4) 0) (zI M l1 0).toNatClampNeg) (zI M (zQ M (zQ M l0 4) 0) (zI M l1 2).toNatClampNeg) M).2 hp hQ
