/-! X12_close -/
def b129_32 (n : Nat)   (M : zM) : Int32 × zM := (((-1) : Int32), M)
def p129_32 (n : Nat)   (M : zM) : Prop := True
theorem s129_32 (n : Nat)     (M : zM) (hp : p129_32 n   M) {Q : Option Value → zM → Prop} (hQ : ∀ r M1, zRI (b129_32 n   M) r M1 → Q r M1) : zWP 129 32 [none, none, none] [] M Q := by
  unfold b129_32 at hQ
  unfold p129_32 at hp
  refine wp_go 1 (pc' := 33) (L' := [none, none, none]) (st' := [.int ((-1) : Int32)]) (M' := M) rfl ?_
  exact wp_ret (r := some (.int ((-1) : Int32))) rfl rfl (hQ _ _ ⟨rfl, rfl⟩)
def b129_84 (n : Nat)   (M : zM) : Int32 × zM := ((0 : Int32), M)
def p129_84 (n : Nat)   (M : zM) : Prop := True
theorem s129_84 (n : Nat)     (M : zM) (hp : p129_84 n   M) {Q : Option Value → zM → Prop} (hQ : ∀ r M1, zRI (b129_84 n   M) r M1 → Q r M1) : zWP 129 84 [none, none, none] [] M Q := by
  unfold b129_84 at hQ
  unfold p129_84 at hp
  refine wp_go 1 (pc' := 85) (L' := [none, none, none]) (st' := [.int (0 : Int32)]) (M' := M) rfl ?_
  exact wp_ret (r := some (.int (0 : Int32))) rfl rfl (hQ _ _ ⟨rfl, rfl⟩)
def b129_67 (n : Nat)  (l0 : Nat) (l1 : Int32) (s0 : Int32) (M : zM) : Int32 × zM := (if s0 ≤ (2000 : Int32) then b129_84 n  (zWI M (zQ M l0 3) l1.toNatClampNeg (1 : Int32)) else (s0, M))
def p129_67 (n : Nat)  (l0 : Nat) (l1 : Int32) (s0 : Int32) (M : zM) : Prop := ((s0 ≤ (2000 : Int32) → (zHasQ 10 16 l0 M 3) ∧ ((zOkT 2 (zQ M l0 3) l1 M ∧ zNar .boolean (1 : Int32) = true) ∧ (p129_84 n  (zWI M (zQ M l0 3) l1.toNatClampNeg (1 : Int32))))) ∧ (¬ s0 ≤ (2000 : Int32) → True))
theorem s129_67 (n : Nat)    (l0 : Nat) (l1 : Int32) (s0 : Int32) (M : zM) (hp : p129_67 n  l0 l1 s0 M) {Q : Option Value → zM → Prop} (hQ : ∀ r M1, zRI (b129_67 n  l0 l1 s0 M) r M1 → Q r M1) : zWP 129 67 [some (.ref l0), some (.int l1), none] [.int s0] M Q := by
  unfold b129_67 at hQ
  unfold p129_67 at hp
  refine wp_go 3 (pc' := 72) (L' := [some (.ref l0), some (.int l1), some (.int s0)]) (st' := [.int (2000 : Int32), .int s0]) (M' := M) rfl ?_
  refine wp_ic_le (t := 77) rfl rfl (fun hc => ?_) (fun hc => ?_)
  · rw [if_pos hc] at hQ
    replace hp := hp.1 hc
    refine wp_go 1 (pc' := 78) (L' := [some (.ref l0), some (.int l1), some (.int s0)]) (st' := [.ref l0]) (M' := M) rfl ?_
    obtain ⟨hc, hp⟩ := hp
    refine wq_getQ (j := 3) rfl hc ?_
    refine wp_go 2 (pc' := 83) (L' := [some (.ref l0), some (.int l1), some (.int s0)]) (st' := [.int (1 : Int32), .int l1, .ref (zQ M l0 3)]) (M' := M) rfl ?_
    obtain ⟨hc, hp⟩ := hp
    refine wq_zast rfl hc ?_
    refine wp_le [none, none, none] (zLe_of (by simp [zLeB])) ?_
    exact s129_84 n    (zWI M (zQ M l0 3) l1.toNatClampNeg (1 : Int32)) hp hQ
  · rw [if_neg hc] at hQ
    replace hp := hp.2 hc
    refine wp_go 1 (pc' := 76) (L' := [some (.ref l0), some (.int l1), some (.int s0)]) (st' := [.int s0]) (M' := M) rfl ?_
    exact wp_ret (r := some (.int s0)) rfl rfl (hQ _ _ ⟨rfl, rfl⟩)
def b129_64 (n : Nat)  (l0 : Nat) (l1 : Int32) (s0 : Int32) (s1 : Int32) (M : zM) : Int32 × zM := b129_67 n  l0 l1 (b125_0 n s0 s1 M).1 (b125_0 n s0 s1 M).2
def p129_64 (n : Nat)  (l0 : Nat) (l1 : Int32) (s0 : Int32) (s1 : Int32) (M : zM) : Prop := (p125_0 n s0 s1 M) ∧ (p129_67 n  l0 l1 (b125_0 n s0 s1 M).1 (b125_0 n s0 s1 M).2)
theorem s129_64 (n : Nat)    (l0 : Nat) (l1 : Int32) (s0 : Int32) (s1 : Int32) (M : zM) (hp : p129_64 n  l0 l1 s0 s1 M) {Q : Option Value → zM → Prop} (hQ : ∀ r M1, zRI (b129_64 n  l0 l1 s0 s1 M) r M1 → Q r M1) : zWP 129 64 [some (.ref l0), some (.int l1), none] [.int s1, .int s0] M Q := by
  unfold b129_64 at hQ
  unfold p129_64 at hp
  obtain ⟨hc, hp⟩ := hp
  refine wp_calli (v := (b125_0 n s0 s1 M).1) (M1 := (b125_0 n s0 s1 M).2) rfl rfl rfl rfl (s125_0 n s0 s1 M hc (fun r M1 h => h)) ?_
  exact s129_67 n    l0 l1 (b125_0 n s0 s1 M).1 (b125_0 n s0 s1 M).2 hp hQ
def b129_61 (n : Nat)  (l0 : Nat) (l1 : Int32) (s0 : Int32) (s1 : Int32) (M : zM) : Int32 × zM := b129_64 n  l0 l1 s0 (b124_0 n s1 M).1 (b124_0 n s1 M).2
def p129_61 (n : Nat)  (l0 : Nat) (l1 : Int32) (s0 : Int32) (s1 : Int32) (M : zM) : Prop := (p124_0 n s1 M) ∧ (p129_64 n  l0 l1 s0 (b124_0 n s1 M).1 (b124_0 n s1 M).2)
theorem s129_61 (n : Nat)    (l0 : Nat) (l1 : Int32) (s0 : Int32) (s1 : Int32) (M : zM) (hp : p129_61 n  l0 l1 s0 s1 M) {Q : Option Value → zM → Prop} (hQ : ∀ r M1, zRI (b129_61 n  l0 l1 s0 s1 M) r M1 → Q r M1) : zWP 129 61 [some (.ref l0), some (.int l1), none] [.int s1, .int s0] M Q := by
  unfold b129_61 at hQ
  unfold p129_61 at hp
  obtain ⟨hc, hp⟩ := hp
  refine wp_calli (v := (b124_0 n s1 M).1) (M1 := (b124_0 n s1 M).2) rfl rfl rfl rfl (s124_0 n s1 M hc (fun r M1 h => h)) ?_
  exact s129_64 n    l0 l1 s0 (b124_0 n s1 M).1 (b124_0 n s1 M).2 hp hQ
def b129_49 (n : Nat)  (l0 : Nat) (l1 : Int32) (s0 : Int32) (M : zM) : Int32 × zM := b129_61 n  l0 l1 s0 (b123_0 n l0 l1 (zI M (zQ M l0 2) l1.toNatClampNeg) (0 : Int32) M).1 (b123_0 n l0 l1 (zI M (zQ M l0 2) l1.toNatClampNeg) (0 : Int32) M).2
def p129_49 (n : Nat)  (l0 : Nat) (l1 : Int32) (s0 : Int32) (M : zM) : Prop := (zHasQ 10 13 l0 M 2) ∧ ((zOkI (zQ M l0 2) l1 M) ∧ ((zHasC 129 162 l0 M 123 3) ∧ ((p123_0 n l0 l1 (zI M (zQ M l0 2) l1.toNatClampNeg) (0 : Int32) M) ∧ (p129_61 n  l0 l1 s0 (b123_0 n l0 l1 (zI M (zQ M l0 2) l1.toNatClampNeg) (0 : Int32) M).1 (b123_0 n l0 l1 (zI M (zQ M l0 2) l1.toNatClampNeg) (0 : Int32) M).2))))
theorem s129_49 (n : Nat)    (l0 : Nat) (l1 : Int32) (s0 : Int32) (M : zM) (hp : p129_49 n  l0 l1 s0 M) {Q : Option Value → zM → Prop} (hQ : ∀ r M1, zRI (b129_49 n  l0 l1 s0 M) r M1 → Q r M1) : zWP 129 49 [some (.ref l0), some (.int l1), none] [.int s0] M Q := by
  unfold b129_49 at hQ
  unfold p129_49 at hp
  refine wp_go 3 (pc' := 52) (L' := [some (.ref l0), some (.int l1), none]) (st' := [.ref l0, .int l1, .ref l0, .int s0]) (M' := M) rfl ?_
  obtain ⟨hc, hp⟩ := hp
  refine wq_getQ (j := 2) rfl hc ?_
  refine wp_go 1 (pc' := 56) (L' := [some (.ref l0), some (.int l1), none]) (st' := [.int l1, .ref (zQ M l0 2), .int l1, .ref l0, .int s0]) (M' := M) rfl ?_
  obtain ⟨hc, hp⟩ := hp
  refine wq_iald rfl hc ?_
  refine wp_go 1 (pc' := 58) (L' := [some (.ref l0), some (.int l1), none]) (st' := [.int (0 : Int32), .int (zI M (zQ M l0 2) l1.toNatClampNeg), .int l1, .ref l0, .int s0]) (M' := M) rfl ?_
  obtain ⟨hv, hp⟩ := hp
  obtain ⟨hc, hp⟩ := hp
  refine wp_calli (v := (b123_0 n l0 l1 (zI M (zQ M l0 2) l1.toNatClampNeg) (0 : Int32) M).1) (M1 := (b123_0 n l0 l1 (zI M (zQ M l0 2) l1.toNatClampNeg) (0 : Int32) M).2) rfl rfl rfl (zInv_v (np := 3) rfl rfl hv rfl) (s123_0 n l0 l1 (zI M (zQ M l0 2) l1.toNatClampNeg) (0 : Int32) M hc (fun r M1 h => h)) ?_
  exact s129_61 n    l0 l1 s0 (b123_0 n l0 l1 (zI M (zQ M l0 2) l1.toNatClampNeg) (0 : Int32) M).1 (b123_0 n l0 l1 (zI M (zQ M l0 2) l1.toNatClampNeg) (0 : Int32) M).2 hp hQ
def b129_46 (n : Nat)  (l0 : Nat) (l1 : Int32) (s0 : Int32) (M : zM) : Int32 × zM := b129_49 n  l0 l1 (b124_0 n s0 M).1 (b124_0 n s0 M).2
def p129_46 (n : Nat)  (l0 : Nat) (l1 : Int32) (s0 : Int32) (M : zM) : Prop := (p124_0 n s0 M) ∧ (p129_49 n  l0 l1 (b124_0 n s0 M).1 (b124_0 n s0 M).2)
theorem s129_46 (n : Nat)    (l0 : Nat) (l1 : Int32) (s0 : Int32) (M : zM) (hp : p129_46 n  l0 l1 s0 M) {Q : Option Value → zM → Prop} (hQ : ∀ r M1, zRI (b129_46 n  l0 l1 s0 M) r M1 → Q r M1) : zWP 129 46 [some (.ref l0), some (.int l1), none] [.int s0] M Q := by
  unfold b129_46 at hQ
  unfold p129_46 at hp
  obtain ⟨hc, hp⟩ := hp
  refine wp_calli (v := (b124_0 n s0 M).1) (M1 := (b124_0 n s0 M).2) rfl rfl rfl rfl (s124_0 n s0 M hc (fun r M1 h => h)) ?_
  exact s129_49 n    l0 l1 (b124_0 n s0 M).1 (b124_0 n s0 M).2 hp hQ
def b129_10 (n : Nat)  (l0 : Nat) (l1 : Int32) (s0 : Int32) (M : zM) : Int32 × zM := (if s0 = 0 then b129_32 n  M else (if (zI M (zQ M l0 3) l1.toNatClampNeg) = 0 then (if (3 : Int32) ≤ (zI M (zQ M l0 2) l1.toNatClampNeg) then b129_46 n  l0 l1 (b122_0 n l0 l1 (zI M (zQ M l0 2) l1.toNatClampNeg) (0 : Int32) M).1 (b122_0 n l0 l1 (zI M (zQ M l0 2) l1.toNatClampNeg) (0 : Int32) M).2 else b129_32 n  M) else b129_32 n  M))
def p129_10 (n : Nat)  (l0 : Nat) (l1 : Int32) (s0 : Int32) (M : zM) : Prop := ((s0 = 0 → p129_32 n  M) ∧ (¬ s0 = 0 → (zHasQ 10 16 l0 M 3) ∧ ((zOkT 2 (zQ M l0 3) l1 M) ∧ ((((zI M (zQ M l0 3) l1.toNatClampNeg) = 0 → (zHasQ 10 13 l0 M 2) ∧ ((zOkI (zQ M l0 2) l1 M) ∧ ((((3 : Int32) ≤ (zI M (zQ M l0 2) l1.toNatClampNeg) → (zHasQ 10 13 l0 M 2) ∧ ((zOkI (zQ M l0 2) l1 M) ∧ ((zHasC 129 155 l0 M 122 3) ∧ ((p122_0 n l0 l1 (zI M (zQ M l0 2) l1.toNatClampNeg) (0 : Int32) M) ∧ (p129_46 n  l0 l1 (b122_0 n l0 l1 (zI M (zQ M l0 2) l1.toNatClampNeg) (0 : Int32) M).1 (b122_0 n l0 l1 (zI M (zQ M l0 2) l1.toNatClampNeg) (0 : Int32) M).2))))) ∧ (¬ (3 : Int32) ≤ (zI M (zQ M l0 2) l1.toNatClampNeg) → p129_32 n  M))))) ∧ (¬ (zI M (zQ M l0 3) l1.toNatClampNeg) = 0 → p129_32 n  M))))))
theorem s129_10 (n : Nat)    (l0 : Nat) (l1 : Int32) (s0 : Int32) (M : zM) (hp : p129_10 n  l0 l1 s0 M) {Q : Option Value → zM → Prop} (hQ : ∀ r M1, zRI (b129_10 n  l0 l1 s0 M) r M1 → Q r M1) : zWP 129 10 [some (.ref l0), some (.int l1), none] [.int s0] M Q := by
  unfold b129_10 at hQ
  unfold p129_10 at hp
  refine wp_if_eq (t := 32) rfl rfl (fun hc => ?_) (fun hc => ?_)
  · rw [if_pos hc] at hQ
    replace hp := hp.1 hc
    refine wp_le [none, none, none] (zLe_of (by simp [zLeB])) ?_
    exact s129_32 n    M hp hQ
  · rw [if_neg hc] at hQ
    replace hp := hp.2 hc
    refine wp_go 1 (pc' := 14) (L' := [some (.ref l0), some (.int l1), none]) (st' := [.ref l0]) (M' := M) rfl ?_
    obtain ⟨hc, hp⟩ := hp
    refine wq_getQ (j := 3) rfl hc ?_
    refine wp_go 1 (pc' := 18) (L' := [some (.ref l0), some (.int l1), none]) (st' := [.int l1, .ref (zQ M l0 3)]) (M' := M) rfl ?_
    obtain ⟨hc, hp⟩ := hp
    refine wq_zald rfl hc ?_
    refine wp_if_ne (t := 32) rfl rfl (fun hc => ?_) (fun hc => ?_)
    · rw [if_neg hc] at hQ
      replace hp := hp.2 hc
      refine wp_le [none, none, none] (zLe_of (by simp [zLeB])) ?_
      exact s129_32 n    M hp hQ
    · rw [if_pos hc] at hQ
      replace hp := hp.1 hc
      refine wp_go 1 (pc' := 23) (L' := [some (.ref l0), some (.int l1), none]) (st' := [.ref l0]) (M' := M) rfl ?_
      obtain ⟨hc, hp⟩ := hp
      refine wq_getQ (j := 2) rfl hc ?_
      refine wp_go 1 (pc' := 27) (L' := [some (.ref l0), some (.int l1), none]) (st' := [.int l1, .ref (zQ M l0 2)]) (M' := M) rfl ?_
      obtain ⟨hc, hp⟩ := hp
      refine wq_iald rfl hc ?_
      refine wp_go 1 (pc' := 29) (L' := [some (.ref l0), some (.int l1), none]) (st' := [.int (3 : Int32), .int (zI M (zQ M l0 2) l1.toNatClampNeg)]) (M' := M) rfl ?_
      refine wp_ic_ge (t := 34) rfl rfl (fun hc => ?_) (fun hc => ?_)
      · rw [if_pos hc] at hQ
        replace hp := hp.1 hc
        refine wp_go 3 (pc' := 37) (L' := [some (.ref l0), some (.int l1), none]) (st' := [.ref l0, .int l1, .ref l0]) (M' := M) rfl ?_
        obtain ⟨hc, hp⟩ := hp
        refine wq_getQ (j := 2) rfl hc ?_
        refine wp_go 1 (pc' := 41) (L' := [some (.ref l0), some (.int l1), none]) (st' := [.int l1, .ref (zQ M l0 2), .int l1, .ref l0]) (M' := M) rfl ?_
        obtain ⟨hc, hp⟩ := hp
        refine wq_iald rfl hc ?_
        refine wp_go 1 (pc' := 43) (L' := [some (.ref l0), some (.int l1), none]) (st' := [.int (0 : Int32), .int (zI M (zQ M l0 2) l1.toNatClampNeg), .int l1, .ref l0]) (M' := M) rfl ?_
        obtain ⟨hv, hp⟩ := hp
        obtain ⟨hc, hp⟩ := hp
        refine wp_calli (v := (b122_0 n l0 l1 (zI M (zQ M l0 2) l1.toNatClampNeg) (0 : Int32) M).1) (M1 := (b122_0 n l0 l1 (zI M (zQ M l0 2) l1.toNatClampNeg) (0 : Int32) M).2) rfl rfl rfl (zInv_v (np := 3) rfl rfl hv rfl) (s122_0 n l0 l1 (zI M (zQ M l0 2) l1.toNatClampNeg) (0 : Int32) M hc (fun r M1 h => h)) ?_
        exact s129_46 n    l0 l1 (b122_0 n l0 l1 (zI M (zQ M l0 2) l1.toNatClampNeg) (0 : Int32) M).1 (b122_0 n l0 l1 (zI M (zQ M l0 2) l1.toNatClampNeg) (0 : Int32) M).2 hp hQ
      · rw [if_neg hc] at hQ
        replace hp := hp.2 hc
        refine wp_le [none, none, none] (zLe_of (by simp [zLeB])) ?_
        exact s129_32 n    M hp hQ
def b129_5 (n : Nat)  (l0 : Nat) (l1 : Int32) (M : zM) : Int32 × zM := b129_10 n  l0 l1 (b126_0 n l0 l1 M).1 (b126_0 n l0 l1 M).2
def p129_5 (n : Nat)  (l0 : Nat) (l1 : Int32) (M : zM) : Prop := (zHasC 129 151 l0 M 126 1) ∧ ((p126_0 n l0 l1 M) ∧ (p129_10 n  l0 l1 (b126_0 n l0 l1 M).1 (b126_0 n l0 l1 M).2))
theorem s129_5 (n : Nat)    (l0 : Nat) (l1 : Int32) (M : zM) (hp : p129_5 n  l0 l1 M) {Q : Option Value → zM → Prop} (hQ : ∀ r M1, zRI (b129_5 n  l0 l1 M) r M1 → Q r M1) : zWP 129 5 [some (.ref l0), some (.int l1), none] [] M Q := by
  unfold b129_5 at hQ
  unfold p129_5 at hp
  refine wp_go 2 (pc' := 7) (L' := [some (.ref l0), some (.int l1), none]) (st' := [.int l1, .ref l0]) (M' := M) rfl ?_
  obtain ⟨hv, hp⟩ := hp
  obtain ⟨hc, hp⟩ := hp
  refine wp_calli (v := (b126_0 n l0 l1 M).1) (M1 := (b126_0 n l0 l1 M).2) rfl rfl rfl (zInv_v (np := 1) rfl rfl hv rfl) (s126_0 n l0 l1 M hc (fun r M1 h => h)) ?_
  exact s129_10 n    l0 l1 (b126_0 n l0 l1 M).1 (b126_0 n l0 l1 M).2 hp hQ
def b129_0 (n : Nat)  (l0 : Nat) (l1 : Int32) (M : zM) : Int32 × zM := b129_5 n  l0 l1 (zWI M l0 26 (0 : Int32))
def p129_0 (n : Nat)  (l0 : Nat) (l1 : Int32) (M : zM) : Prop := (zPutI 129 138 l0 M 26 (0 : Int32)) ∧ (p129_5 n  l0 l1 (zWI M l0 26 (0 : Int32)))
theorem s129_0 (n : Nat)    (l0 : Nat) (l1 : Int32) (M : zM) (hp : p129_0 n  l0 l1 M) {Q : Option Value → zM → Prop} (hQ : ∀ r M1, zRI (b129_0 n  l0 l1 M) r M1 → Q r M1) : zWP 129 0 [some (.ref l0), some (.int l1), none] [] M Q := by
  unfold b129_0 at hQ
  unfold p129_0 at hp
  refine wp_go 2 (pc' := 2) (L' := [some (.ref l0), some (.int l1), none]) (st' := [.int (0 : Int32), .ref l0]) (M' := M) rfl ?_
  obtain ⟨hc, hp⟩ := hp
  refine wq_putI (j := 26) rfl hc ?_
  exact s129_5 n    l0 l1 (zWI M l0 26 (0 : Int32)) hp hQ
/-! X12_isStep -/
def b130_27 (n : Nat)  (s0 : Int32) (M : zM) : Int32 × zM := (s0, M)
def p130_27 (n : Nat)  (s0 : Int32) (M : zM) : Prop := zNar .boolean s0 = true
theorem s130_27 (n : Nat)    (s0 : Int32) (M : zM) (hp : p130_27 n  s0 M) {Q : Option Value → zM → Prop} (hQ : ∀ r M1, zRI (b130_27 n  s0 M) r M1 → Q r M1) : zWP 130 27 [none, none, none] [.int s0] M Q := by
  unfold b130_27 at hQ
  unfold p130_27 at hp
  exact wp_retz rfl rfl hp (hQ _ _ ⟨rfl, rfl⟩)
def b130_26 (n : Nat)   (M : zM) : Int32 × zM := b130_27 n  (0 : Int32) M
def p130_26 (n : Nat)   (M : zM) : Prop := p130_27 n  (0 : Int32) M
theorem s130_26 (n : Nat)     (M : zM) (hp : p130_26 n   M) {Q : Option Value → zM → Prop} (hQ : ∀ r M1, zRI (b130_26 n   M) r M1 → Q r M1) : zWP 130 26 [none, none, none] [] M Q := by
  unfold b130_26 at hQ
  unfold p130_26 at hp
  refine wp_go 1 (pc' := 27) (L' := [none, none, none]) (st' := [.int (0 : Int32)]) (M' := M) rfl ?_
  exact s130_27 n    (0 : Int32) M hp hQ
def b130_5 (n : Nat)  (l0 : Nat) (l1 : Int32) (l2 : Int32) (s0 : Int32) (M : zM) : Int32 × zM := (if s0 = 0 then b130_26 n  M else (if l2 < 0 then b130_26 n  M else (if (zI M (zQ M l0 2) l1.toNatClampNeg) ≤ l2 then b130_26 n  M else b130_27 n  (1 : Int32) M)))
def p130_5 (n : Nat)  (l0 : Nat) (l1 : Int32) (l2 : Int32) (s0 : Int32) (M : zM) : Prop := ((s0 = 0 → p130_26 n  M) ∧ (¬ s0 = 0 → ((l2 < 0 → p130_26 n  M) ∧ (¬ l2 < 0 → (zHasQ 10 13 l0 M 2) ∧ ((zOkI (zQ M l0 2) l1 M) ∧ ((((zI M (zQ M l0 2) l1.toNatClampNeg) ≤ l2 → p130_26 n  M) ∧ (¬ (zI M (zQ M l0 2) l1.toNatClampNeg) ≤ l2 → p130_27 n  (1 : Int32) M))))))))
theorem s130_5 (n : Nat)    (l0 : Nat) (l1 : Int32) (l2 : Int32) (s0 : Int32) (M : zM) (hp : p130_5 n  l0 l1 l2 s0 M) {Q : Option Value → zM → Prop} (hQ : ∀ r M1, zRI (b130_5 n  l0 l1 l2 s0 M) r M1 → Q r M1) : zWP 130 5 [some (.ref l0), some (.int l1), some (.int l2)] [.int s0] M Q := by
  unfold b130_5 at hQ
  unfold p130_5 at hp
  refine wp_if_eq (t := 26) rfl rfl (fun hc => ?_) (fun hc => ?_)
  · rw [if_pos hc] at hQ
    replace hp := hp.1 hc
    refine wp_le [none, none, none] (zLe_of (by simp [zLeB])) ?_
    exact s130_26 n    M hp hQ
  · rw [if_neg hc] at hQ
    replace hp := hp.2 hc
    refine wp_go 1 (pc' := 9) (L' := [some (.ref l0), some (.int l1), some (.int l2)]) (st' := [.int l2]) (M' := M) rfl ?_
    refine wp_if_lt (t := 26) rfl rfl (fun hc => ?_) (fun hc => ?_)
    · rw [if_pos hc] at hQ
      replace hp := hp.1 hc
      refine wp_le [none, none, none] (zLe_of (by simp [zLeB])) ?_
      exact s130_26 n    M hp hQ
    · rw [if_neg hc] at hQ
      replace hp := hp.2 hc
      refine wp_go 2 (pc' := 14) (L' := [some (.ref l0), some (.int l1), some (.int l2)]) (st' := [.ref l0, .int l2]) (M' := M) rfl ?_
      obtain ⟨hc, hp⟩ := hp
      refine wq_getQ (j := 2) rfl hc ?_
      refine wp_go 1 (pc' := 18) (L' := [some (.ref l0), some (.int l1), some (.int l2)]) (st' := [.int l1, .ref (zQ M l0 2), .int l2]) (M' := M) rfl ?_
      obtain ⟨hc, hp⟩ := hp
      refine wq_iald rfl hc ?_
      refine wp_ic_ge (t := 26) rfl rfl (fun hc => ?_) (fun hc => ?_)
      · rw [if_pos hc] at hQ
        replace hp := hp.1 hc
        refine wp_le [none, none, none] (zLe_of (by simp [zLeB])) ?_
        exact s130_26 n    M hp hQ
      · rw [if_neg hc] at hQ
        replace hp := hp.2 hc
        refine wp_go 2 (pc' := 27) (L' := [some (.ref l0), some (.int l1), some (.int l2)]) (st' := [.int (1 : Int32)]) (M' := M) rfl ?_
        refine wp_le [none, none, none] (zLe_of (by simp [zLeB])) ?_
        exact s130_27 n    (1 : Int32) M hp hQ
def b130_0 (n : Nat)  (l0 : Nat) (l1 : Int32) (l2 : Int32) (M : zM) : Int32 × zM := b130_5 n  l0 l1 l2 (b126_0 n l0 l1 M).1 (b126_0 n l0 l1 M).2
def p130_0 (n : Nat)  (l0 : Nat) (l1 : Int32) (l2 : Int32) (M : zM) : Prop := (zHasC 130 151 l0 M 126 1) ∧ ((p126_0 n l0 l1 M) ∧ (p130_5 n  l0 l1 l2 (b126_0 n l0 l1 M).1 (b126_0 n l0 l1 M).2))
theorem s130_0 (n : Nat)    (l0 : Nat) (l1 : Int32) (l2 : Int32) (M : zM) (hp : p130_0 n  l0 l1 l2 M) {Q : Option Value → zM → Prop} (hQ : ∀ r M1, zRI (b130_0 n  l0 l1 l2 M) r M1 → Q r M1) : zWP 130 0 [some (.ref l0), some (.int l1), some (.int l2)] [] M Q := by
  unfold b130_0 at hQ
  unfold p130_0 at hp
  refine wp_go 2 (pc' := 2) (L' := [some (.ref l0), some (.int l1), some (.int l2)]) (st' := [.int l1, .ref l0]) (M' := M) rfl ?_
  obtain ⟨hv, hp⟩ := hp
  obtain ⟨hc, hp⟩ := hp
  refine wp_calli (v := (b126_0 n l0 l1 M).1) (M1 := (b126_0 n l0 l1 M).2) rfl rfl rfl (zInv_v (np := 1) rfl rfl hv rfl) (s126_0 n l0 l1 M hc (fun r M1 h => h)) ?_
  exact s130_5 n    l0 l1 l2 (b126_0 n l0 l1 M).1 (b126_0 n l0 l1 M).2 hp hQ
/-! X12_mark -/
def b131_48 (n : Nat)   (M : zM) : Int32 × zM := ((0 : Int32), M)
def p131_48 (n : Nat)   (M : zM) : Prop := True
theorem s131_48 (n : Nat)     (M : zM) (hp : p131_48 n   M) {Q : Option Value → zM → Prop} (hQ : ∀ r M1, zRI (b131_48 n   M) r M1 → Q r M1) : zWP 131 48 [none, none, none, none] [] M Q := by
  unfold b131_48 at hQ
  unfold p131_48 at hp
  refine wp_go 1 (pc' := 49) (L' := [none, none, none, none]) (st' := [.int (0 : Int32)]) (M' := M) rfl ?_
  exact wp_ret (r := some (.int (0 : Int32))) rfl rfl (hQ _ _ ⟨rfl, rfl⟩)
def b131_62 (n : Nat)   (M : zM) : Int32 × zM := ((1 : Int32), M)
def p131_62 (n : Nat)   (M : zM) : Prop := True
theorem s131_62 (n : Nat)     (M : zM) (hp : p131_62 n   M) {Q : Option Value → zM → Prop} (hQ : ∀ r M1, zRI (b131_62 n   M) r M1 → Q r M1) : zWP 131 62 [none, none, none, none] [] M Q := by
  unfold b131_62 at hQ
  unfold p131_62 at hp
  refine wp_go 1 (pc' := 63) (L' := [none, none, none, none]) (st' := [.int (1 : Int32)]) (M' := M) rfl ?_
  exact wp_ret (r := some (.int (1 : Int32))) rfl rfl (hQ _ _ ⟨rfl, rfl⟩)
def b131_34 (n : Nat)  (l0 : Nat) (l1 : Int32) (l2 : Int32) (l3 : Int32) (M : zM) : Int32 × zM := (if (zI M (zQ M l0 10) (((20 : Int32) * l1) + l2).toNatClampNeg) < 0 then b131_62 n  (zWI M (zQ M l0 8) (((20 : Int32) * l1) + l2).toNatClampNeg l3) else b131_48 n  M)
def p131_34 (n : Nat)  (l0 : Nat) (l1 : Int32) (l2 : Int32) (l3 : Int32) (M : zM) : Prop := (zHasQ 10 38 l0 M 10) ∧ ((zOkI (zQ M l0 10) (((20 : Int32) * l1) + l2) M) ∧ ((((zI M (zQ M l0 10) (((20 : Int32) * l1) + l2).toNatClampNeg) < 0 → (zHasQ 10 32 l0 M 8) ∧ ((zOkT 2 (zQ M l0 8) (((20 : Int32) * l1) + l2) M ∧ zNar .boolean l3 = true) ∧ (p131_62 n  (zWI M (zQ M l0 8) (((20 : Int32) * l1) + l2).toNatClampNeg l3)))) ∧ (¬ (zI M (zQ M l0 10) (((20 : Int32) * l1) + l2).toNatClampNeg) < 0 → p131_48 n  M))))
theorem s131_34 (n : Nat)    (l0 : Nat) (l1 : Int32) (l2 : Int32) (l3 : Int32) (M : zM) (hp : p131_34 n  l0 l1 l2 l3 M) {Q : Option Value → zM → Prop} (hQ : ∀ r M1, zRI (b131_34 n  l0 l1 l2 l3 M) r M1 → Q r M1) : zWP 131 34 [some (.ref l0), some (.int l1), some (.int l2), some (.int l3)] [] M Q := by
  unfold b131_34 at hQ
  unfold p131_34 at hp
  refine wp_go 1 (pc' := 35) (L' := [some (.ref l0), some (.int l1), some (.int l2), some (.int l3)]) (st' := [.ref l0]) (M' := M) rfl ?_
  obtain ⟨hc, hp⟩ := hp
  refine wq_getQ (j := 10) rfl hc ?_
  refine wp_go 5 (pc' := 44) (L' := [some (.ref l0), some (.int l1), some (.int l2), some (.int l3)]) (st' := [.int (((20 : Int32) * l1) + l2), .ref (zQ M l0 10)]) (M' := M) rfl ?_
  obtain ⟨hc, hp⟩ := hp
  refine wq_iald rfl hc ?_
  refine wp_if_lt (t := 50) rfl rfl (fun hc => ?_) (fun hc => ?_)
  · rw [if_pos hc] at hQ
    replace hp := hp.1 hc
    refine wp_go 1 (pc' := 51) (L' := [some (.ref l0), some (.int l1), some (.int l2), some (.int l3)]) (st' := [.ref l0]) (M' := M) rfl ?_
    obtain ⟨hc, hp⟩ := hp
    refine wq_getQ (j := 8) rfl hc ?_
    refine wp_go 5 (pc' := 60) (L' := [some (.ref l0), some (.int l1), some (.int l2), some (.int l3)]) (st' := [.int (((20 : Int32) * l1) + l2), .ref (zQ M l0 8)]) (M' := M) rfl ?_
    refine wp_go 1 (pc' := 61) (L' := [some (.ref l0), some (.int l1), some (.int l2), some (.int l3)]) (st' := [.int l3, .int (((20 : Int32) * l1) + l2), .ref (zQ M l0 8)]) (M' := M) rfl ?_
    obtain ⟨hc, hp⟩ := hp
    refine wq_zast rfl hc ?_
    refine wp_le [none, none, none, none] (zLe_of (by simp [zLeB])) ?_
    exact s131_62 n    (zWI M (zQ M l0 8) (((20 : Int32) * l1) + l2).toNatClampNeg l3) hp hQ
  · rw [if_neg hc] at hQ
    replace hp := hp.2 hc
    refine wp_le [none, none, none, none] (zLe_of (by simp [zLeB])) ?_
    exact s131_48 n    M hp hQ
def b131_11 (n : Nat)  (l0 : Nat) (l1 : Int32) (l2 : Int32) (l3 : Int32) (s0 : Int32) (M : zM) : Int32 × zM := (if s0 = 0 then b131_48 n  M else (if (zI M (zQ M l0 1) l1.toNatClampNeg) = (1 : Int32) then b131_34 n  l0 l1 l2 l3 M else (if (zI M (zQ M l0 1) l1.toNatClampNeg) = (4 : Int32) then b131_34 n  l0 l1 l2 l3 M else b131_48 n  M)))
def p131_11 (n : Nat)  (l0 : Nat) (l1 : Int32) (l2 : Int32) (l3 : Int32) (s0 : Int32) (M : zM) : Prop := ((s0 = 0 → p131_48 n  M) ∧ (¬ s0 = 0 → (zHasQ 10 7 l0 M 1) ∧ ((zOkI (zQ M l0 1) l1 M) ∧ ((((zI M (zQ M l0 1) l1.toNatClampNeg) = (1 : Int32) → p131_34 n  l0 l1 l2 l3 M) ∧ (¬ (zI M (zQ M l0 1) l1.toNatClampNeg) = (1 : Int32) → (zHasQ 10 7 l0 M 1) ∧ ((zOkI (zQ M l0 1) l1 M) ∧ ((((zI M (zQ M l0 1) l1.toNatClampNeg) = (4 : Int32) → p131_34 n  l0 l1 l2 l3 M) ∧ (¬ (zI M (zQ M l0 1) l1.toNatClampNeg) = (4 : Int32) → p131_48 n  M))))))))))
theorem s131_11 (n : Nat)    (l0 : Nat) (l1 : Int32) (l2 : Int32) (l3 : Int32) (s0 : Int32) (M : zM) (hp : p131_11 n  l0 l1 l2 l3 s0 M) {Q : Option Value → zM → Prop} (hQ : ∀ r M1, zRI (b131_11 n  l0 l1 l2 l3 s0 M) r M1 → Q r M1) : zWP 131 11 [some (.ref l0), some (.int l1), some (.int l2), some (.int l3)] [.int s0] M Q := by
  unfold b131_11 at hQ
  unfold p131_11 at hp
  refine wp_if_eq (t := 48) rfl rfl (fun hc => ?_) (fun hc => ?_)
  · rw [if_pos hc] at hQ
    replace hp := hp.1 hc
    refine wp_le [none, none, none, none] (zLe_of (by simp [zLeB])) ?_
    exact s131_48 n    M hp hQ
  · rw [if_neg hc] at hQ
    replace hp := hp.2 hc
    refine wp_go 1 (pc' := 15) (L' := [some (.ref l0), some (.int l1), some (.int l2), some (.int l3)]) (st' := [.ref l0]) (M' := M) rfl ?_
    obtain ⟨hc, hp⟩ := hp
    refine wq_getQ (j := 1) rfl hc ?_
    refine wp_go 1 (pc' := 19) (L' := [some (.ref l0), some (.int l1), some (.int l2), some (.int l3)]) (st' := [.int l1, .ref (zQ M l0 1)]) (M' := M) rfl ?_
    obtain ⟨hc, hp⟩ := hp
    refine wq_iald rfl hc ?_
    refine wp_go 1 (pc' := 21) (L' := [some (.ref l0), some (.int l1), some (.int l2), some (.int l3)]) (st' := [.int (1 : Int32), .int (zI M (zQ M l0 1) l1.toNatClampNeg)]) (M' := M) rfl ?_
    refine wp_ic_eq (t := 34) rfl rfl (fun hc => ?_) (fun hc => ?_)
    · rw [if_pos hc] at hQ
      replace hp := hp.1 hc
      exact s131_34 n    l0 l1 l2 l3 M hp hQ
    · rw [if_neg hc] at hQ
      replace hp := hp.2 hc
      refine wp_go 1 (pc' := 25) (L' := [some (.ref l0), some (.int l1), some (.int l2), some (.int l3)]) (st' := [.ref l0]) (M' := M) rfl ?_
      obtain ⟨hc, hp⟩ := hp
      refine wq_getQ (j := 1) rfl hc ?_
      refine wp_go 1 (pc' := 29) (L' := [some (.ref l0), some (.int l1), some (.int l2), some (.int l3)]) (st' := [.int l1, .ref (zQ M l0 1)]) (M' := M) rfl ?_
      obtain ⟨hc, hp⟩ := hp
      refine wq_iald rfl hc ?_
      refine wp_go 1 (pc' := 31) (L' := [some (.ref l0), some (.int l1), some (.int l2), some (.int l3)]) (st' := [.int (4 : Int32), .int (zI M (zQ M l0 1) l1.toNatClampNeg)]) (M' := M) rfl ?_
      refine wp_ic_ne (t := 48) rfl rfl (fun hc => ?_) (fun hc => ?_)
      · rw [if_neg hc] at hQ
        replace hp := hp.2 hc
        refine wp_le [none, none, none, none] (zLe_of (by simp [zLeB])) ?_
        exact s131_48 n    M hp hQ
      · rw [if_pos hc] at hQ
        replace hp := hp.1 hc
        exact s131_34 n    l0 l1 l2 l3 M hp hQ
def b131_5 (n : Nat)  (l0 : Nat) (l1 : Int32) (l2 : Int32) (l3 : Int32) (M : zM) : Int32 × zM := b131_11 n  l0 l1 l2 l3 (b130_0 n l0 l1 l2 M).1 (b130_0 n l0 l1 l2 M).2
def p131_5 (n : Nat)  (l0 : Nat) (l1 : Int32) (l2 : Int32) (l3 : Int32) (M : zM) : Prop := (zHasC 131 169 l0 M 130 2) ∧ ((p130_0 n l0 l1 l2 M) ∧ (p131_11 n  l0 l1 l2 l3 (b130_0 n l0 l1 l2 M).1 (b130_0 n l0 l1 l2 M).2))
theorem s131_5 (n : Nat)    (l0 : Nat) (l1 : Int32) (l2 : Int32) (l3 : Int32) (M : zM) (hp : p131_5 n  l0 l1 l2 l3 M) {Q : Option Value → zM → Prop} (hQ : ∀ r M1, zRI (b131_5 n  l0 l1 l2 l3 M) r M1 → Q r M1) : zWP 131 5 [some (.ref l0), some (.int l1), some (.int l2), some (.int l3)] [] M Q := by
  unfold b131_5 at hQ
  unfold p131_5 at hp
  refine wp_go 3 (pc' := 8) (L' := [some (.ref l0), some (.int l1), some (.int l2), some (.int l3)]) (st' := [.int l2, .int l1, .ref l0]) (M' := M) rfl ?_
  obtain ⟨hv, hp⟩ := hp
  obtain ⟨hc, hp⟩ := hp
  refine wp_calli (v := (b130_0 n l0 l1 l2 M).1) (M1 := (b130_0 n l0 l1 l2 M).2) rfl rfl rfl (zInv_v (np := 2) rfl rfl hv rfl) (s130_0 n l0 l1 l2 M hc (fun r M1 h => h)) ?_
  exact s131_11 n    l0 l1 l2 l3 (b130_0 n l0 l1 l2 M).1 (b130_0 n l0 l1 l2 M).2 hp hQ
def b131_0 (n : Nat)  (l0 : Nat) (l1 : Int32) (l2 : Int32) (l3 : Int32) (M : zM) : Int32 × zM := b131_5 n  l0 l1 l2 l3 (zWI M l0 26 (0 : Int32))
def p131_0 (n : Nat)  (l0 : Nat) (l1 : Int32) (l2 : Int32) (l3 : Int32) (M : zM) : Prop := (zPutI 131 138 l0 M 26 (0 : Int32)) ∧ (p131_5 n  l0 l1 l2 l3 (zWI M l0 26 (0 : Int32)))
theorem s131_0 (n : Nat)    (l0 : Nat) (l1 : Int32) (l2 : Int32) (l3 : Int32) (M : zM) (hp : p131_0 n  l0 l1 l2 l3 M) {Q : Option Value → zM → Prop} (hQ : ∀ r M1, zRI (b131_0 n  l0 l1 l2 l3 M) r M1 → Q r M1) : zWP 131 0 [some (.ref l0), some (.int l1), some (.int l2), some (.int l3)] [] M Q := by
  unfold b131_0 at hQ
  unfold p131_0 at hp
  refine wp_go 2 (pc' := 2) (L' := [some (.ref l0), some (.int l1), some (.int l2), some (.int l3)]) (st' := [.int (0 : Int32), .ref l0]) (M' := M) rfl ?_
  obtain ⟨hc, hp⟩ := hp
  refine wq_putI (j := 26) rfl hc ?_
  exact s131_5 n    l0 l1 l2 l3 (zWI M l0 26 (0 : Int32)) hp hQ
/-! X12_shows -/
def b132_25 (n : Nat)  (s0 : Int32) (M : zM) : Int32 × zM := (s0, M)
def p132_25 (n : Nat)  (s0 : Int32) (M : zM) : Prop := zNar .boolean s0 = true
theorem s132_25 (n : Nat)    (s0 : Int32) (M : zM) (hp : p132_25 n  s0 M) {Q : Option Value → zM → Prop} (hQ : ∀ r M1, zRI (b132_25 n  s0 M) r M1 → Q r M1) : zWP 132 25 [none, none] [.int s0] M Q := by
  unfold b132_25 at hQ
  unfold p132_25 at hp
  exact wp_retz rfl rfl hp (hQ _ _ ⟨rfl, rfl⟩)
def b132_20 (n : Nat)   (M : zM) : Int32 × zM := b132_25 n  (1 : Int32) M
def p132_20 (n : Nat)   (M : zM) : Prop := p132_25 n  (1 : Int32) M
theorem s132_20 (n : Nat)     (M : zM) (hp : p132_20 n   M) {Q : Option Value → zM → Prop} (hQ : ∀ r M1, zRI (b132_20 n   M) r M1 → Q r M1) : zWP 132 20 [none, none] [] M Q := by
  unfold b132_20 at hQ
  unfold p132_20 at hp
  refine wp_go 2 (pc' := 25) (L' := [none, none]) (st' := [.int (1 : Int32)]) (M' := M) rfl ?_
  exact s132_25 n    (1 : Int32) M hp hQ
def b132_0 (n : Nat)  (l0 : Nat) (l1 : Int32) (M : zM) : Int32 × zM := (if (zI M (zQ M l0 1) l1.toNatClampNeg) = (3 : Int32) then b132_20 n  M else (if (zI M (zQ M l0 1) l1.toNatClampNeg) = (4 : Int32) then b132_20 n  M else b132_25 n  (0 : Int32) M))
def p132_0 (n : Nat)  (l0 : Nat) (l1 : Int32) (M : zM) : Prop := (zHasQ 10 7 l0 M 1) ∧ ((zOkI (zQ M l0 1) l1 M) ∧ ((((zI M (zQ M l0 1) l1.toNatClampNeg) = (3 : Int32) → p132_20 n  M) ∧ (¬ (zI M (zQ M l0 1) l1.toNatClampNeg) = (3 : Int32) → (zHasQ 10 7 l0 M 1) ∧ ((zOkI (zQ M l0 1) l1 M) ∧ ((((zI M (zQ M l0 1) l1.toNatClampNeg) = (4 : Int32) → p132_20 n  M) ∧ (¬ (zI M (zQ M l0 1) l1.toNatClampNeg) = (4 : Int32) → p132_25 n  (0 : Int32) M))))))))
theorem s132_0 (n : Nat)    (l0 : Nat) (l1 : Int32) (M : zM) (hp : p132_0 n  l0 l1 M) {Q : Option Value → zM → Prop} (hQ : ∀ r M1, zRI (b132_0 n  l0 l1 M) r M1 → Q r M1) : zWP 132 0 [some (.ref l0), some (.int l1)] [] M Q := by
  unfold b132_0 at hQ
  unfold p132_0 at hp
  refine wp_go 1 (pc' := 1) (L' := [some (.ref l0), some (.int l1)]) (st' := [.ref l0]) (M' := M) rfl ?_
  obtain ⟨hc, hp⟩ := hp
  refine wq_getQ (j := 1) rfl hc ?_
  refine wp_go 1 (pc' := 5) (L' := [some (.ref l0), some (.int l1)]) (st' := [.int l1, .ref (zQ M l0 1)]) (M' := M) rfl ?_
  obtain ⟨hc, hp⟩ := hp
  refine wq_iald rfl hc ?_
  refine wp_go 1 (pc' := 7) (L' := [some (.ref l0), some (.int l1)]) (st' := [.int (3 : Int32), .int (zI M (zQ M l0 1) l1.toNatClampNeg)]) (M' := M) rfl ?_
  refine wp_ic_eq (t := 20) rfl rfl (fun hc => ?_) (fun hc => ?_)
  · rw [if_pos hc] at hQ
    replace hp := hp.1 hc
    refine wp_le [none, none] (zLe_of (by simp [zLeB])) ?_
    exact s132_20 n    M hp hQ
  · rw [if_neg hc] at hQ
    replace hp := hp.2 hc
    refine wp_go 1 (pc' := 11) (L' := [some (.ref l0), some (.int l1)]) (st' := [.ref l0]) (M' := M) rfl ?_
    obtain ⟨hc, hp⟩ := hp
    refine wq_getQ (j := 1) rfl hc ?_
    refine wp_go 1 (pc' := 15) (L' := [some (.ref l0), some (.int l1)]) (st' := [.int l1, .ref (zQ M l0 1)]) (M' := M) rfl ?_
    obtain ⟨hc, hp⟩ := hp
    refine wq_iald rfl hc ?_
    refine wp_go 1 (pc' := 17) (L' := [some (.ref l0), some (.int l1)]) (st' := [.int (4 : Int32), .int (zI M (zQ M l0 1) l1.toNatClampNeg)]) (M' := M) rfl ?_
    refine wp_ic_ne (t := 24) rfl rfl (fun hc => ?_) (fun hc => ?_)
    · rw [if_neg hc] at hQ
      replace hp := hp.2 hc
      refine wp_go 1 (pc' := 25) (L' := [some (.ref l0), some (.int l1)]) (st' := [.int (0 : Int32)]) (M' := M) rfl ?_
      refine wp_le [none, none] (zLe_of (by simp [zLeB])) ?_
      exact s132_25 n    (0 : Int32) M hp hQ
    · rw [if_pos hc] at hQ
      replace hp := hp.1 hc
      refine wp_le [none, none] (zLe_of (by simp [zLeB])) ?_
      exact s132_20 n    M hp hQ
/-! X12_paint -/
def b133_46 (n : Nat)   (M : zM) : Int32 × zM := ((0 : Int32), M)
def p133_46 (n : Nat)   (M : zM) : Prop := True
theorem s133_46 (n : Nat)     (M : zM) (hp : p133_46 n   M) {Q : Option Value → zM → Prop} (hQ : ∀ r M1, zRI (b133_46 n   M) r M1 → Q r M1) : zWP 133 46 [none, none, none, none] [] M Q := by
  unfold b133_46 at hQ
  unfold p133_46 at hp
  refine wp_go 1 (pc' := 47) (L' := [none, none, none, none]) (st' := [.int (0 : Int32)]) (M' := M) rfl ?_
  exact wp_ret (r := some (.int (0 : Int32))) rfl rfl (hQ _ _ ⟨rfl, rfl⟩)
def b133_60 (n : Nat)   (M : zM) : Int32 × zM := ((1 : Int32), M)
def p133_60 (n : Nat)   (M : zM) : Prop := True
theorem s133_60 (n : Nat)     (M : zM) (hp : p133_60 n   M) {Q : Option Value → zM → Prop} (hQ : ∀ r M1, zRI (b133_60 n   M) r M1 → Q r M1) : zWP 133 60 [none, none, none, none] [] M Q := by
  unfold b133_60 at hQ
  unfold p133_60 at hp
  refine wp_go 1 (pc' := 61) (L' := [none, none, none, none]) (st' := [.int (1 : Int32)]) (M' := M) rfl ?_
  exact wp_ret (r := some (.int (1 : Int32))) rfl rfl (hQ _ _ ⟨rfl, rfl⟩)
def b133_29 (n : Nat)  (l0 : Nat) (l1 : Int32) (l2 : Int32) (l3 : Int32) (s0 : Int32) (M : zM) : Int32 × zM := (if s0 = 0 then b133_46 n  M else (if (zI M (zQ M l0 10) (((20 : Int32) * l1) + l2).toNatClampNeg) < 0 then b133_60 n  (zWI M (zQ M l0 9) (((20 : Int32) * l1) + l2).toNatClampNeg l3) else b133_46 n  M))
def p133_29 (n : Nat)  (l0 : Nat) (l1 : Int32) (l2 : Int32) (l3 : Int32) (s0 : Int32) (M : zM) : Prop := ((s0 = 0 → p133_46 n  M) ∧ (¬ s0 = 0 → (zHasQ 10 38 l0 M 10) ∧ ((zOkI (zQ M l0 10) (((20 : Int32) * l1) + l2) M) ∧ ((((zI M (zQ M l0 10) (((20 : Int32) * l1) + l2).toNatClampNeg) < 0 → (zHasQ 10 35 l0 M 9) ∧ ((zOkT 1 (zQ M l0 9) (((20 : Int32) * l1) + l2) M) ∧ (p133_60 n  (zWI M (zQ M l0 9) (((20 : Int32) * l1) + l2).toNatClampNeg l3)))) ∧ (¬ (zI M (zQ M l0 10) (((20 : Int32) * l1) + l2).toNatClampNeg) < 0 → p133_46 n  M))))))
theorem s133_29 (n : Nat)    (l0 : Nat) (l1 : Int32) (l2 : Int32) (l3 : Int32) (s0 : Int32) (M : zM) (hp : p133_29 n  l0 l1 l2 l3 s0 M) {Q : Option Value → zM → Prop} (hQ : ∀ r M1, zRI (b133_29 n  l0 l1 l2 l3 s0 M) r M1 → Q r M1) : zWP 133 29 [some (.ref l0), some (.int l1), some (.int l2), some (.int l3)] [.int s0] M Q := by
  unfold b133_29 at hQ
  unfold p133_29 at hp
  refine wp_if_eq (t := 46) rfl rfl (fun hc => ?_) (fun hc => ?_)
  · rw [if_pos hc] at hQ
    replace hp := hp.1 hc
    refine wp_le [none, none, none, none] (zLe_of (by simp [zLeB])) ?_
    exact s133_46 n    M hp hQ
  · rw [if_neg hc] at hQ
    replace hp := hp.2 hc
    refine wp_go 1 (pc' := 33) (L' := [some (.ref l0), some (.int l1), some (.int l2), some (.int l3)]) (st' := [.ref l0]) (M' := M) rfl ?_
    obtain ⟨hc, hp⟩ := hp
    refine wq_getQ (j := 10) rfl hc ?_
    refine wp_go 5 (pc' := 42) (L' := [some (.ref l0), some (.int l1), some (.int l2), some (.int l3)]) (st' := [.int (((20 : Int32) * l1) + l2), .ref (zQ M l0 10)]) (M' := M) rfl ?_
    obtain ⟨hc, hp⟩ := hp
    refine wq_iald rfl hc ?_
    refine wp_if_lt (t := 48) rfl rfl (fun hc => ?_) (fun hc => ?_)
    · rw [if_pos hc] at hQ
      replace hp := hp.1 hc
      refine wp_go 1 (pc' := 49) (L' := [some (.ref l0), some (.int l1), some (.int l2), some (.int l3)]) (st' := [.ref l0]) (M' := M) rfl ?_
      obtain ⟨hc, hp⟩ := hp
      refine wq_getQ (j := 9) rfl hc ?_
      refine wp_go 5 (pc' := 58) (L' := [some (.ref l0), some (.int l1), some (.int l2), some (.int l3)]) (st' := [.int (((20 : Int32) * l1) + l2), .ref (zQ M l0 9)]) (M' := M) rfl ?_
      refine wp_go 1 (pc' := 59) (L' := [some (.ref l0), some (.int l1), some (.int l2), some (.int l3)]) (st' := [.int l3, .int (((20 : Int32) * l1) + l2), .ref (zQ M l0 9)]) (M' := M) rfl ?_
      obtain ⟨hc, hp⟩ := hp
      refine wq_iast rfl hc ?_
      refine wp_le [none, none, none, none] (zLe_of (by simp [zLeB])) ?_
      exact s133_60 n    (zWI M (zQ M l0 9) (((20 : Int32) * l1) + l2).toNatClampNeg l3) hp hQ
    · rw [if_neg hc] at hQ
      replace hp := hp.2 hc
      refine wp_le [none, none, none, none] (zLe_of (by simp [zLeB])) ?_
      exact s133_46 n    M hp hQ
def b133_11 (n : Nat)  (l0 : Nat) (l1 : Int32) (l2 : Int32) (l3 : Int32) (s0 : Int32) (M : zM) : Int32 × zM := (if s0 = 0 then b133_46 n  M else (if l3 < 0 then b133_46 n  M else (if (9 : Int32) < l3 then b133_46 n  M else b133_29 n  l0 l1 l2 l3 (b132_0 n l0 l1 M).1 (b132_0 n l0 l1 M).2)))
def p133_11 (n : Nat)  (l0 : Nat) (l1 : Int32) (l2 : Int32) (l3 : Int32) (s0 : Int32) (M : zM) : Prop := ((s0 = 0 → p133_46 n  M) ∧ (¬ s0 = 0 → ((l3 < 0 → p133_46 n  M) ∧ (¬ l3 < 0 → (((9 : Int32) < l3 → p133_46 n  M) ∧ (¬ (9 : Int32) < l3 → (zHasC 133 173 l0 M 132 1) ∧ ((p132_0 n l0 l1 M) ∧ (p133_29 n  l0 l1 l2 l3 (b132_0 n l0 l1 M).1 (b132_0 n l0 l1 M).2))))))))
theorem s133_11 (n : Nat)    (l0 : Nat) (l1 : Int32) (l2 : Int32) (l3 : Int32) (s0 : Int32) (M : zM) (hp : p133_11 n  l0 l1 l2 l3 s0 M) {Q : Option Value → zM → Prop} (hQ : ∀ r M1, zRI (b133_11 n  l0 l1 l2 l3 s0 M) r M1 → Q r M1) : zWP 133 11 [some (.ref l0), some (.int l1), some (.int l2), some (.int l3)] [.int s0] M Q := by
  unfold b133_11 at hQ
  unfold p133_11 at hp
  refine wp_if_eq (t := 46) rfl rfl (fun hc => ?_) (fun hc => ?_)
  · rw [if_pos hc] at hQ
    replace hp := hp.1 hc
    refine wp_le [none, none, none, none] (zLe_of (by simp [zLeB])) ?_
    exact s133_46 n    M hp hQ
  · rw [if_neg hc] at hQ
    replace hp := hp.2 hc
    refine wp_go 1 (pc' := 15) (L' := [some (.ref l0), some (.int l1), some (.int l2), some (.int l3)]) (st' := [.int l3]) (M' := M) rfl ?_
    refine wp_if_lt (t := 46) rfl rfl (fun hc => ?_) (fun hc => ?_)
    · rw [if_pos hc] at hQ
      replace hp := hp.1 hc
      refine wp_le [none, none, none, none] (zLe_of (by simp [zLeB])) ?_
      exact s133_46 n    M hp hQ
    · rw [if_neg hc] at hQ
      replace hp := hp.2 hc
      refine wp_go 2 (pc' := 21) (L' := [some (.ref l0), some (.int l1), some (.int l2), some (.int l3)]) (st' := [.int (9 : Int32), .int l3]) (M' := M) rfl ?_
      refine wp_ic_gt (t := 46) rfl rfl (fun hc => ?_) (fun hc => ?_)
      · rw [if_pos hc] at hQ
        replace hp := hp.1 hc
        refine wp_le [none, none, none, none] (zLe_of (by simp [zLeB])) ?_
        exact s133_46 n    M hp hQ
      · rw [if_neg hc] at hQ
        replace hp := hp.2 hc
        refine wp_go 2 (pc' := 26) (L' := [some (.ref l0), some (.int l1), some (.int l2), some (.int l3)]) (st' := [.int l1, .ref l0]) (M' := M) rfl ?_
        obtain ⟨hv, hp⟩ := hp
        obtain ⟨hc, hp⟩ := hp
        refine wp_calli (v := (b132_0 n l0 l1 M).1) (M1 := (b132_0 n l0 l1 M).2) rfl rfl rfl (zInv_v (np := 1) rfl rfl hv rfl) (s132_0 n l0 l1 M hc (fun r M1 h => h)) ?_
        exact s133_29 n    l0 l1 l2 l3 (b132_0 n l0 l1 M).1 (b132_0 n l0 l1 M).2 hp hQ
def b133_5 (n : Nat)  (l0 : Nat) (l1 : Int32) (l2 : Int32) (l3 : Int32) (M : zM) : Int32 × zM := b133_11 n  l0 l1 l2 l3 (b130_0 n l0 l1 l2 M).1 (b130_0 n l0 l1 l2 M).2
def p133_5 (n : Nat)  (l0 : Nat) (l1 : Int32) (l2 : Int32) (l3 : Int32) (M : zM) : Prop := (zHasC 133 169 l0 M 130 2) ∧ ((p130_0 n l0 l1 l2 M) ∧ (p133_11 n  l0 l1 l2 l3 (b130_0 n l0 l1 l2 M).1 (b130_0 n l0 l1 l2 M).2))
theorem s133_5 (n : Nat)    (l0 : Nat) (l1 : Int32) (l2 : Int32) (l3 : Int32) (M : zM) (hp : p133_5 n  l0 l1 l2 l3 M) {Q : Option Value → zM → Prop} (hQ : ∀ r M1, zRI (b133_5 n  l0 l1 l2 l3 M) r M1 → Q r M1) : zWP 133 5 [some (.ref l0), some (.int l1), some (.int l2), some (.int l3)] [] M Q := by
  unfold b133_5 at hQ
  unfold p133_5 at hp
  refine wp_go 3 (pc' := 8) (L' := [some (.ref l0), some (.int l1), some (.int l2), some (.int l3)]) (st' := [.int l2, .int l1, .ref l0]) (M' := M) rfl ?_
  obtain ⟨hv, hp⟩ := hp
  obtain ⟨hc, hp⟩ := hp
  refine wp_calli (v := (b130_0 n l0 l1 l2 M).1) (M1 := (b130_0 n l0 l1 l2 M).2) rfl rfl rfl (zInv_v (np := 2) rfl rfl hv rfl) (s130_0 n l0 l1 l2 M hc (fun r M1 h => h)) ?_
  exact s133_11 n    l0 l1 l2 l3 (b130_0 n l0 l1 l2 M).1 (b130_0 n l0 l1 l2 M).2 hp hQ
def b133_0 (n : Nat)  (l0 : Nat) (l1 : Int32) (l2 : Int32) (l3 : Int32) (M : zM) : Int32 × zM := b133_5 n  l0 l1 l2 l3 (zWI M l0 26 (0 : Int32))
def p133_0 (n : Nat)  (l0 : Nat) (l1 : Int32) (l2 : Int32) (l3 : Int32) (M : zM) : Prop := (zPutI 133 138 l0 M 26 (0 : Int32)) ∧ (p133_5 n  l0 l1 l2 l3 (zWI M l0 26 (0 : Int32)))
theorem s133_0 (n : Nat)    (l0 : Nat) (l1 : Int32) (l2 : Int32) (l3 : Int32) (M : zM) (hp : p133_0 n  l0 l1 l2 l3 M) {Q : Option Value → zM → Prop} (hQ : ∀ r M1, zRI (b133_0 n  l0 l1 l2 l3 M) r M1 → Q r M1) : zWP 133 0 [some (.ref l0), some (.int l1), some (.int l2), some (.int l3)] [] M Q := by
  unfold b133_0 at hQ
  unfold p133_0 at hp
  refine wp_go 2 (pc' := 2) (L' := [some (.ref l0), some (.int l1), some (.int l2), some (.int l3)]) (st' := [.int (0 : Int32), .ref l0]) (M' := M) rfl ?_
  obtain ⟨hc, hp⟩ := hp
  refine wq_putI (j := 26) rfl hc ?_
  exact s133_5 n    l0 l1 l2 l3 (zWI M l0 26 (0 : Int32)) hp hQ
/-! X12_isBreak -/
def b134_61 (n : Nat)  (s0 : Int32) (M : zM) : Int32 × zM := (s0, M)
def p134_61 (n : Nat)  (s0 : Int32) (M : zM) : Prop := zNar .boolean s0 = true
theorem s134_61 (n : Nat)    (s0 : Int32) (M : zM) (hp : p134_61 n  s0 M) {Q : Option Value → zM → Prop} (hQ : ∀ r M1, zRI (b134_61 n  s0 M) r M1 → Q r M1) : zWP 134 61 [none, none, none] [.int s0] M Q := by
  unfold b134_61 at hQ
  unfold p134_61 at hp
  exact wp_retz rfl rfl hp (hQ _ _ ⟨rfl, rfl⟩)
def b134_56 (n : Nat)   (M : zM) : Int32 × zM := b134_61 n  (1 : Int32) M
def p134_56 (n : Nat)   (M : zM) : Prop := p134_61 n  (1 : Int32) M
theorem s134_56 (n : Nat)     (M : zM) (hp : p134_56 n   M) {Q : Option Value → zM → Prop} (hQ : ∀ r M1, zRI (b134_56 n   M) r M1 → Q r M1) : zWP 134 56 [none, none, none] [] M Q := by
  unfold b134_56 at hQ
  unfold p134_56 at hp
  refine wp_go 2 (pc' := 61) (L' := [none, none, none]) (st' := [.int (1 : Int32)]) (M' := M) rfl ?_
  exact s134_61 n    (1 : Int32) M hp hQ
def b134_0 (n : Nat)  (l0 : Nat) (l1 : Int32) (l2 : Int32) (M : zM) : Int32 × zM := (if (zI M (zQ M l0 1) l1.toNatClampNeg) = (1 : Int32) then (if (zI M (zQ M l0 8) (((20 : Int32) * l1) + l2).toNatClampNeg) = 0 then b134_61 n  (1 : Int32) M else b134_61 n  (0 : Int32) M) else (if (zI M (zQ M l0 1) l1.toNatClampNeg) = (4 : Int32) then (if (zI M (zQ M l0 8) (((20 : Int32) * l1) + l2).toNatClampNeg) = 0 then b134_61 n  (0 : Int32) M else b134_56 n  M) else b134_56 n  M))
def p134_0 (n : Nat)  (l0 : Nat) (l1 : Int32) (l2 : Int32) (M : zM) : Prop := (zHasQ 10 7 l0 M 1) ∧ ((zOkI (zQ M l0 1) l1 M) ∧ ((((zI M (zQ M l0 1) l1.toNatClampNeg) = (1 : Int32) → (zHasQ 10 32 l0 M 8) ∧ ((zOkT 2 (zQ M l0 8) (((20 : Int32) * l1) + l2) M) ∧ ((((zI M (zQ M l0 8) (((20 : Int32) * l1) + l2).toNatClampNeg) = 0 → p134_61 n  (1 : Int32) M) ∧ (¬ (zI M (zQ M l0 8) (((20 : Int32) * l1) + l2).toNatClampNeg) = 0 → p134_61 n  (0 : Int32) M))))) ∧ (¬ (zI M (zQ M l0 1) l1.toNatClampNeg) = (1 : Int32) → (zHasQ 10 7 l0 M 1) ∧ ((zOkI (zQ M l0 1) l1 M) ∧ ((((zI M (zQ M l0 1) l1.toNatClampNeg) = (4 : Int32) → (zHasQ 10 32 l0 M 8) ∧ ((zOkT 2 (zQ M l0 8) (((20 : Int32) * l1) + l2) M) ∧ ((((zI M (zQ M l0 8) (((20 : Int32) * l1) + l2).toNatClampNeg) = 0 → p134_61 n  (0 : Int32) M) ∧ (¬ (zI M (zQ M l0 8) (((20 : Int32) * l1) + l2).toNatClampNeg) = 0 → p134_56 n  M))))) ∧ (¬ (zI M (zQ M l0 1) l1.toNatClampNeg) = (4 : Int32) → p134_56 n  M))))))))
theorem s134_0 (n : Nat)    (l0 : Nat) (l1 : Int32) (l2 : Int32) (M : zM) (hp : p134_0 n  l0 l1 l2 M) {Q : Option Value → zM → Prop} (hQ : ∀ r M1, zRI (b134_0 n  l0 l1 l2 M) r M1 → Q r M1) : zWP 134 0 [some (.ref l0), some (.int l1), some (.int l2)] [] M Q := by
  unfold b134_0 at hQ
  unfold p134_0 at hp
  refine wp_go 1 (pc' := 1) (L' := [some (.ref l0), some (.int l1), some (.int l2)]) (st' := [.ref l0]) (M' := M) rfl ?_
  obtain ⟨hc, hp⟩ := hp
  refine wq_getQ (j := 1) rfl hc ?_
  refine wp_go 1 (pc' := 5) (L' := [some (.ref l0), some (.int l1), some (.int l2)]) (st' := [.int l1, .ref (zQ M l0 1)]) (M' := M) rfl ?_
  obtain ⟨hc, hp⟩ := hp
  refine wq_iald rfl hc ?_
  refine wp_go 1 (pc' := 7) (L' := [some (.ref l0), some (.int l1), some (.int l2)]) (st' := [.int (1 : Int32), .int (zI M (zQ M l0 1) l1.toNatClampNeg)]) (M' := M) rfl ?_
  refine wp_ic_ne (t := 32) rfl rfl (fun hc => ?_) (fun hc => ?_)
  · rw [if_neg hc] at hQ
    replace hp := hp.2 hc
    refine wp_go 1 (pc' := 33) (L' := [some (.ref l0), some (.int l1), some (.int l2)]) (st' := [.ref l0]) (M' := M) rfl ?_
    obtain ⟨hc, hp⟩ := hp
    refine wq_getQ (j := 1) rfl hc ?_
    refine wp_go 1 (pc' := 37) (L' := [some (.ref l0), some (.int l1), some (.int l2)]) (st' := [.int l1, .ref (zQ M l0 1)]) (M' := M) rfl ?_
    obtain ⟨hc, hp⟩ := hp
    refine wq_iald rfl hc ?_
    refine wp_go 1 (pc' := 39) (L' := [some (.ref l0), some (.int l1), some (.int l2)]) (st' := [.int (4 : Int32), .int (zI M (zQ M l0 1) l1.toNatClampNeg)]) (M' := M) rfl ?_
    refine wp_ic_ne (t := 56) rfl rfl (fun hc => ?_) (fun hc => ?_)
    · rw [if_neg hc] at hQ
      replace hp := hp.2 hc
      refine wp_le [none, none, none] (zLe_of (by simp [zLeB])) ?_
      exact s134_56 n    M hp hQ
    · rw [if_pos hc] at hQ
      replace hp := hp.1 hc
      refine wp_go 1 (pc' := 43) (L' := [some (.ref l0), some (.int l1), some (.int l2)]) (st' := [.ref l0]) (M' := M) rfl ?_
      obtain ⟨hc, hp⟩ := hp
      refine wq_getQ (j := 8) rfl hc ?_
      refine wp_go 5 (pc' := 52) (L' := [some (.ref l0), some (.int l1), some (.int l2)]) (st' := [.int (((20 : Int32) * l1) + l2), .ref (zQ M l0 8)]) (M' := M) rfl ?_
      obtain ⟨hc, hp⟩ := hp
      refine wq_zald rfl hc ?_
      refine wp_if_eq (t := 60) rfl rfl (fun hc => ?_) (fun hc => ?_)
      · rw [if_pos hc] at hQ
        replace hp := hp.1 hc
        refine wp_go 1 (pc' := 61) (L' := [some (.ref l0), some (.int l1), some (.int l2)]) (st' := [.int (0 : Int32)]) (M' := M) rfl ?_
        refine wp_le [none, none, none] (zLe_of (by simp [zLeB])) ?_
        exact s134_61 n    (0 : Int32) M hp hQ
      · rw [if_neg hc] at hQ
        replace hp := hp.2 hc
        refine wp_le [none, none, none] (zLe_of (by simp [zLeB])) ?_
        exact s134_56 n    M hp hQ
  · rw [if_pos hc] at hQ
    replace hp := hp.1 hc
    refine wp_go 1 (pc' := 11) (L' := [some (.ref l0), some (.int l1), some (.int l2)]) (st' := [.ref l0]) (M' := M) rfl ?_
    obtain ⟨hc, hp⟩ := hp
    refine wq_getQ (j := 8) rfl hc ?_
    refine wp_go 5 (pc' := 20) (L' := [some (.ref l0), some (.int l1), some (.int l2)]) (st' := [.int (((20 : Int32) * l1) + l2), .ref (zQ M l0 8)]) (M' := M) rfl ?_
    obtain ⟨hc, hp⟩ := hp
    refine wq_zald rfl hc ?_
    refine wp_if_ne (t := 28) rfl rfl (fun hc => ?_) (fun hc => ?_)
    · rw [if_neg hc] at hQ
      replace hp := hp.2 hc
      refine wp_go 2 (pc' := 61) (L' := [some (.ref l0), some (.int l1), some (.int l2)]) (st' := [.int (0 : Int32)]) (M' := M) rfl ?_
      refine wp_le [none, none, none] (zLe_of (by simp [zLeB])) ?_
      exact s134_61 n    (0 : Int32) M hp hQ
    · rw [if_pos hc] at hQ
      replace hp := hp.1 hc
      refine wp_go 2 (pc' := 61) (L' := [some (.ref l0), some (.int l1), some (.int l2)]) (st' := [.int (1 : Int32)]) (M' := M) rfl ?_
      refine wp_le [none, none, none] (zLe_of (by simp [zLeB])) ?_
      exact s134_61 n    (1 : Int32) M hp hQ
/-! X12_groupOf -/
def c155_118 (n : Nat) (k118 : Nat → Int32 → zM → Int32 × zM) (l2 : Nat) (l4 : Int32) (M : zM) : Int32 × zM := (if (zI M l2 l4.toNatClampNeg) = 0 then k118 l2 (l4 + Int32.ofInt 1) M else (l4, M))
def d155_118 (n : Nat) (q118 : Nat → Int32 → zM → Prop) (l2 : Nat) (l4 : Int32) (M : zM) : Prop := (zOkT 2 l2 l4 M) ∧ ((((zI M l2 l4.toNatClampNeg) = 0 → q118 l2 (l4 + Int32.ofInt 1) M) ∧ (¬ (zI M l2 l4.toNatClampNeg) = 0 → True)))
theorem t155_118 (n : Nat) (k118 : Nat → Int32 → zM → Int32 × zM) (q118 : Nat → Int32 → zM → Prop) (h118 : ∀ (l2 : Nat) (l4 : Int32) (M : zM), q118 l2 l4 M → ∀ {Q : Option Value → zM → Prop}, (∀ r M1, zRI (k118 l2 l4 M) r M1 → Q r M1) → zWP 155 118 [none, none, some (.ref l2), none, some (.int l4)] [] M Q) (l2 : Nat) (l4 : Int32) (M : zM) (hp : d155_118 n q118 l2 l4 M) {Q : Option Value → zM → Prop} (hQ : ∀ r M1, zRI (c155_118 n k118 l2 l4 M) r M1 → Q r M1) : zWP 155 118 [none, none, some (.ref l2), none, some (.int l4)] [] M Q := by
  unfold c155_118 at hQ
  unfold d155_118 at hp
  refine wp_go 2 (pc' := 121) (L' := [none, none, some (.ref l2), none, some (.int l4)]) (st' := [.int l4, .ref l2]) (M' := M) rfl ?_
  obtain ⟨hc, hp⟩ := hp
  refine wq_zald rfl hc ?_
  refine wp_if_ne (t := 131) rfl rfl (fun hc => ?_) (fun hc => ?_)
  · rw [if_neg hc] at hQ
    replace hp := hp.2 hc
    refine wp_go 1 (pc' := 133) (L' := [none, none, some (.ref l2), none, some (.int l4)]) (st' := [.int l4]) (M' := M) rfl ?_
    exact wp_ret (r := some (.int l4)) rfl rfl (hQ _ _ ⟨rfl, rfl⟩)
  · rw [if_pos hc] at hQ
    replace hp := hp.1 hc
    refine wp_go 2 (pc' := 118) (L' := [none, none, some (.ref l2), none, some (.int (l4 + Int32.ofInt 1))]) (st' := []) (M' := M) rfl ?_
    exact h118 l2 (l4 + Int32.ofInt 1) M hp hQ
def b155_118 (n : Nat)  : Nat → Nat → Int32 → zM → Int32 × zM
  | 0, _, _, M => (0, M)
  | k + 1, l2, l4, M => c155_118 n  (b155_118 n  k) l2 l4 M
def p155_118 (n : Nat)  : Nat → Nat → Int32 → zM → Prop
  | 0, _, _, _ => False
  | k + 1, l2, l4, M => d155_118 n  (p155_118 n  k) l2 l4 M
theorem s155_118 (n : Nat)    : ∀ (k : Nat) (l2 : Nat) (l4 : Int32) (M : zM), p155_118 n  k l2 l4 M → ∀ {Q : Option Value → zM → Prop}, (∀ r M1, zRI (b155_118 n  k l2 l4 M) r M1 → Q r M1) → zWP 155 118 [none, none, some (.ref l2), none, some (.int l4)] [] M Q
  | 0, _, _, _, h, _, _ => h.elim
  | k + 1, l2, l4, M, h, _, hQ => t155_118 n  (b155_118 n  k)  (p155_118 n  k)  (s155_118 n    k) l2 l4 M h hQ
def b155_106 (n : Nat) (k34 : Nat → Nat → Int32 → zM → Int32 × zM) (k43 : Nat → Nat → Int32 → Int32 → zM → Int32 × zM) (l0 : Nat) (l2 : Nat) (l3 : Int32) (l4 : Int32) (M : zM) : Int32 × zM := k43 l0 l2 l3 (l4 + Int32.ofInt 1) M
def p155_106 (n : Nat) (q34 : Nat → Nat → Int32 → zM → Prop) (q43 : Nat → Nat → Int32 → Int32 → zM → Prop) (l0 : Nat) (l2 : Nat) (l3 : Int32) (l4 : Int32) (M : zM) : Prop := q43 l0 l2 l3 (l4 + Int32.ofInt 1) M
theorem s155_106 (n : Nat) (k34 : Nat → Nat → Int32 → zM → Int32 × zM) (k43 : Nat → Nat → Int32 → Int32 → zM → Int32 × zM) (q34 : Nat → Nat → Int32 → zM → Prop) (q43 : Nat → Nat → Int32 → Int32 → zM → Prop) (h34 : ∀ (l0 : Nat) (l2 : Nat) (l3 : Int32) (M : zM), q34 l0 l2 l3 M → ∀ {Q : Option Value → zM → Prop}, (∀ r M1, zRI (k34 l0 l2 l3 M) r M1 → Q r M1) → zWP 155 34 [some (.ref l0), none, some (.ref l2), some (.int l3), none] [] M Q) (h43 : ∀ (l0 : Nat) (l2 : Nat) (l3 : Int32) (l4 : Int32) (M : zM), q43 l0 l2 l3 l4 M → ∀ {Q : Option Value → zM → Prop}, (∀ r M1, zRI (k43 l0 l2 l3 l4 M) r M1 → Q r M1) → zWP 155 43 [some (.ref l0), none, some (.ref l2), some (.int l3), some (.int l4)] [] M Q) (l0 : Nat) (l2 : Nat) (l3 : Int32) (l4 : Int32) (M : zM) (hp : p155_106 n q34 q43 l0 l2 l3 l4 M) {Q : Option Value → zM → Prop} (hQ : ∀ r M1, zRI (b155_106 n k34 k43 l0 l2 l3 l4 M) r M1 → Q r M1) : zWP 155 106 [some (.ref l0), none, some (.ref l2), some (.int l3), some (.int l4)] [] M Q := by
  unfold b155_106 at hQ
  unfold p155_106 at hp
  refine wp_go 2 (pc' := 43) (L' := [some (.ref l0), none, some (.ref l2), some (.int l3), some (.int (l4 + Int32.ofInt 1))]) (st' := []) (M' := M) rfl ?_
  exact h43 l0 l2 l3 (l4 + Int32.ofInt 1) M hp hQ
def b155_104 (n : Nat) (k34 : Nat → Nat → Int32 → zM → Int32 × zM) (k43 : Nat → Nat → Int32 → Int32 → zM → Int32 × zM) (l0 : Nat) (l2 : Nat) (l4 : Int32) (M : zM) : Int32 × zM := b155_106 n k34 k43 l0 l2 (1 : Int32) l4 M
def p155_104 (n : Nat) (q34 : Nat → Nat → Int32 → zM → Prop) (q43 : Nat → Nat → Int32 → Int32 → zM → Prop) (l0 : Nat) (l2 : Nat) (l4 : Int32) (M : zM) : Prop := p155_106 n q34 q43 l0 l2 (1 : Int32) l4 M
theorem s155_104 (n : Nat) (k34 : Nat → Nat → Int32 → zM → Int32 × zM) (k43 : Nat → Nat → Int32 → Int32 → zM → Int32 × zM) (q34 : Nat → Nat → Int32 → zM → Prop) (q43 : Nat → Nat → Int32 → Int32 → zM → Prop) (h34 : ∀ (l0 : Nat) (l2 : Nat) (l3 : Int32) (M : zM), q34 l0 l2 l3 M → ∀ {Q : Option Value → zM → Prop}, (∀ r M1, zRI (k34 l0 l2 l3 M) r M1 → Q r M1) → zWP 155 34 [some (.ref l0), none, some (.ref l2), some (.int l3), none] [] M Q) (h43 : ∀ (l0 : Nat) (l2 : Nat) (l3 : Int32) (l4 : Int32) (M : zM), q43 l0 l2 l3 l4 M → ∀ {Q : Option Value → zM → Prop}, (∀ r M1, zRI (k43 l0 l2 l3 l4 M) r M1 → Q r M1) → zWP 155 43 [some (.ref l0), none, some (.ref l2), some (.int l3), some (.int l4)] [] M Q) (l0 : Nat) (l2 : Nat) (l4 : Int32) (M : zM) (hp : p155_104 n q34 q43 l0 l2 l4 M) {Q : Option Value → zM → Prop} (hQ : ∀ r M1, zRI (b155_104 n k34 k43 l0 l2 l4 M) r M1 → Q r M1) : zWP 155 104 [some (.ref l0), none, some (.ref l2), none, some (.int l4)] [] M Q := by
  unfold b155_104 at hQ
  unfold p155_104 at hp
  refine wp_go 2 (pc' := 106) (L' := [some (.ref l0), none, some (.ref l2), some (.int (1 : Int32)), some (.int l4)]) (st' := []) (M' := M) rfl ?_
  exact s155_106 n k34 k43 q34 q43 h34 h43 l0 l2 (1 : Int32) l4 M hp hQ
def b155_94 (n : Nat) (k34 : Nat → Nat → Int32 → zM → Int32 × zM) (k43 : Nat → Nat → Int32 → Int32 → zM → Int32 × zM) (l0 : Nat) (l2 : Nat) (l4 : Int32) (M : zM) : Int32 × zM := b155_104 n k34 k43 l0 l2 l4 (zWI M l2 (zI M (zQ M l0 20) l4.toNatClampNeg).toNatClampNeg (1 : Int32))
def p155_94 (n : Nat) (q34 : Nat → Nat → Int32 → zM → Prop) (q43 : Nat → Nat → Int32 → Int32 → zM → Prop) (l0 : Nat) (l2 : Nat) (l4 : Int32) (M : zM) : Prop := (zHasQ 10 63 l0 M 20) ∧ ((zOkI (zQ M l0 20) l4 M) ∧ ((zOkT 2 l2 (zI M (zQ M l0 20) l4.toNatClampNeg) M ∧ zNar .boolean (1 : Int32) = true) ∧ (p155_104 n q34 q43 l0 l2 l4 (zWI M l2 (zI M (zQ M l0 20) l4.toNatClampNeg).toNatClampNeg (1 : Int32)))))
theorem s155_94 (n : Nat) (k34 : Nat → Nat → Int32 → zM → Int32 × zM) (k43 : Nat → Nat → Int32 → Int32 → zM → Int32 × zM) (q34 : Nat → Nat → Int32 → zM → Prop) (q43 : Nat → Nat → Int32 → Int32 → zM → Prop) (h34 : ∀ (l0 : Nat) (l2 : Nat) (l3 : Int32) (M : zM), q34 l0 l2 l3 M → ∀ {Q : Option Value → zM → Prop}, (∀ r M1, zRI (k34 l0 l2 l3 M) r M1 → Q r M1) → zWP 155 34 [some (.ref l0), none, some (.ref l2), some (.int l3), none] [] M Q) (h43 : ∀ (l0 : Nat) (l2 : Nat) (l3 : Int32) (l4 : Int32) (M : zM), q43 l0 l2 l3 l4 M → ∀ {Q : Option Value → zM → Prop}, (∀ r M1, zRI (k43 l0 l2 l3 l4 M) r M1 → Q r M1) → zWP 155 43 [some (.ref l0), none, some (.ref l2), some (.int l3), some (.int l4)] [] M Q) (l0 : Nat) (l2 : Nat) (l4 : Int32) (M : zM) (hp : p155_94 n q34 q43 l0 l2 l4 M) {Q : Option Value → zM → Prop} (hQ : ∀ r M1, zRI (b155_94 n k34 k43 l0 l2 l4 M) r M1 → Q r M1) : zWP 155 94 [some (.ref l0), none, some (.ref l2), none, some (.int l4)] [] M Q := by
  unfold b155_94 at hQ
  unfold p155_94 at hp
  refine wp_go 2 (pc' := 96) (L' := [some (.ref l0), none, some (.ref l2), none, some (.int l4)]) (st' := [.ref l0, .ref l2]) (M' := M) rfl ?_
  obtain ⟨hc, hp⟩ := hp
  refine wq_getQ (j := 20) rfl hc ?_
  refine wp_go 1 (pc' := 101) (L' := [some (.ref l0), none, some (.ref l2), none, some (.int l4)]) (st' := [.int l4, .ref (zQ M l0 20), .ref l2]) (M' := M) rfl ?_
  obtain ⟨hc, hp⟩ := hp
  refine wq_iald rfl hc ?_
  refine wp_go 1 (pc' := 103) (L' := [some (.ref l0), none, some (.ref l2), none, some (.int l4)]) (st' := [.int (1 : Int32), .int (zI M (zQ M l0 20) l4.toNatClampNeg), .ref l2]) (M' := M) rfl ?_
  obtain ⟨hc, hp⟩ := hp
  refine wq_zast rfl hc ?_
  exact s155_104 n k34 k43 q34 q43 h34 h43 l0 l2 l4 (zWI M l2 (zI M (zQ M l0 20) l4.toNatClampNeg).toNatClampNeg (1 : Int32)) hp hQ
def c155_43 (n : Nat) (k34 : Nat → Nat → Int32 → zM → Int32 × zM) (k43 : Nat → Nat → Int32 → Int32 → zM → Int32 × zM) (l0 : Nat) (l2 : Nat) (l3 : Int32) (l4 : Int32) (M : zM) : Int32 × zM := (if (41 : Int32) ≤ l4 then k34 l0 l2 l3 M else (if (zI M (zQ M l0 17) l4.toNatClampNeg) = 0 then b155_106 n k34 k43 l0 l2 l3 l4 M else (if (zI M l2 (zI M (zQ M l0 18) l4.toNatClampNeg).toNatClampNeg) = (zI M l2 (zI M (zQ M l0 20) l4.toNatClampNeg).toNatClampNeg) then b155_106 n k34 k43 l0 l2 l3 l4 M else b155_94 n k34 k43 l0 l2 l4 (zWI M l2 (zI M (zQ M l0 18) l4.toNatClampNeg).toNatClampNeg (1 : Int32)))))
def d155_43 (n : Nat) (q34 : Nat → Nat → Int32 → zM → Prop) (q43 : Nat → Nat → Int32 → Int32 → zM → Prop) (l0 : Nat) (l2 : Nat) (l3 : Int32) (l4 : Int32) (M : zM) : Prop := (((41 : Int32) ≤ l4 → q34 l0 l2 l3 M) ∧ (¬ (41 : Int32) ≤ l4 → (zHasQ 10 54 l0 M 17) ∧ ((zOkT 2 (zQ M l0 17) l4 M) ∧ ((((zI M (zQ M l0 17) l4.toNatClampNeg) = 0 → p155_106 n q34 q43 l0 l2 l3 l4 M) ∧ (¬ (zI M (zQ M l0 17) l4.toNatClampNeg) = 0 → (zHasQ 10 57 l0 M 18) ∧ ((zOkI (zQ M l0 18) l4 M) ∧ ((zOkT 2 l2 (zI M (zQ M l0 18) l4.toNatClampNeg) M) ∧ ((zHasQ 10 63 l0 M 20) ∧ ((zOkI (zQ M l0 20) l4 M) ∧ ((zOkT 2 l2 (zI M (zQ M l0 20) l4.toNatClampNeg) M) ∧ ((((zI M l2 (zI M (zQ M l0 18) l4.toNatClampNeg).toNatClampNeg) = (zI M l2 (zI M (zQ M l0 20) l4.toNatClampNeg).toNatClampNeg) → p155_106 n q34 q43 l0 l2 l3 l4 M) ∧ (¬ (zI M l2 (zI M (zQ M l0 18) l4.toNatClampNeg).toNatClampNeg) = (zI M l2 (zI M (zQ M l0 20) l4.toNatClampNeg).toNatClampNeg) → (zHasQ 10 57 l0 M 18) ∧ ((zOkI (zQ M l0 18) l4 M) ∧ ((zOkT 2 l2 (zI M (zQ M l0 18) l4.toNatClampNeg) M ∧ zNar .boolean (1 : Int32) = true) ∧ (p155_94 n q34 q43 l0 l2 l4 (zWI M l2 (zI M (zQ M l0 18) l4.toNatClampNeg).toNatClampNeg (1 : Int32)))))))))))))))))))
theorem t155_43 (n : Nat) (k34 : Nat → Nat → Int32 → zM → Int32 × zM) (k43 : Nat → Nat → Int32 → Int32 → zM → Int32 × zM) (q34 : Nat → Nat → Int32 → zM → Prop) (q43 : Nat → Nat → Int32 → Int32 → zM → Prop) (h34 : ∀ (l0 : Nat) (l2 : Nat) (l3 : Int32) (M : zM), q34 l0 l2 l3 M → ∀ {Q : Option Value → zM → Prop}, (∀ r M1, zRI (k34 l0 l2 l3 M) r M1 → Q r M1) → zWP 155 34 [some (.ref l0), none, some (.ref l2), some (.int l3), none] [] M Q) (h43 : ∀ (l0 : Nat) (l2 : Nat) (l3 : Int32) (l4 : Int32) (M : zM), q43 l0 l2 l3 l4 M → ∀ {Q : Option Value → zM → Prop}, (∀ r M1, zRI (k43 l0 l2 l3 l4 M) r M1 → Q r M1) → zWP 155 43 [some (.ref l0), none, some (.ref l2), some (.int l3), some (.int l4)] [] M Q) (l0 : Nat) (l2 : Nat) (l3 : Int32) (l4 : Int32) (M : zM) (hp : d155_43 n q34 q43 l0 l2 l3 l4 M) {Q : Option Value → zM → Prop} (hQ : ∀ r M1, zRI (c155_43 n k34 k43 l0 l2 l3 l4 M) r M1 → Q r M1) : zWP 155 43 [some (.ref l0), none, some (.ref l2), some (.int l3), some (.int l4)] [] M Q := by
  unfold c155_43 at hQ
  unfold d155_43 at hp
  refine wp_go 2 (pc' := 47) (L' := [some (.ref l0), none, some (.ref l2), some (.int l3), some (.int l4)]) (st' := [.int (41 : Int32), .int l4]) (M' := M) rfl ?_
  refine wp_ic_ge (t := 112) rfl rfl (fun hc => ?_) (fun hc => ?_)
  · rw [if_pos hc] at hQ
    replace hp := hp.1 hc
    refine wp_go 1 (pc' := 34) (L' := [some (.ref l0), none, some (.ref l2), some (.int l3), some (.int l4)]) (st' := []) (M' := M) rfl ?_
    refine wp_le [some (.ref l0), none, some (.ref l2), some (.int l3), none] (zLe_of (by simp [zLeB])) ?_
    exact h34 l0 l2 l3 M hp hQ
  · rw [if_neg hc] at hQ
    replace hp := hp.2 hc
    refine wp_go 1 (pc' := 51) (L' := [some (.ref l0), none, some (.ref l2), some (.int l3), some (.int l4)]) (st' := [.ref l0]) (M' := M) rfl ?_
    obtain ⟨hc, hp⟩ := hp
    refine wq_getQ (j := 17) rfl hc ?_
    refine wp_go 1 (pc' := 56) (L' := [some (.ref l0), none, some (.ref l2), some (.int l3), some (.int l4)]) (st' := [.int l4, .ref (zQ M l0 17)]) (M' := M) rfl ?_
    obtain ⟨hc, hp⟩ := hp
    refine wq_zald rfl hc ?_
    refine wp_if_eq (t := 106) rfl rfl (fun hc => ?_) (fun hc => ?_)
    · rw [if_pos hc] at hQ
      replace hp := hp.1 hc
      exact s155_106 n k34 k43 q34 q43 h34 h43 l0 l2 l3 l4 M hp hQ
    · rw [if_neg hc] at hQ
      replace hp := hp.2 hc
      refine wp_go 2 (pc' := 62) (L' := [some (.ref l0), none, some (.ref l2), some (.int l3), some (.int l4)]) (st' := [.ref l0, .ref l2]) (M' := M) rfl ?_
      obtain ⟨hc, hp⟩ := hp
      refine wq_getQ (j := 18) rfl hc ?_
      refine wp_go 1 (pc' := 67) (L' := [some (.ref l0), none, some (.ref l2), some (.int l3), some (.int l4)]) (st' := [.int l4, .ref (zQ M l0 18), .ref l2]) (M' := M) rfl ?_
      obtain ⟨hc, hp⟩ := hp
      refine wq_iald rfl hc ?_
      obtain ⟨hc, hp⟩ := hp
      refine wq_zald rfl hc ?_
      refine wp_go 2 (pc' := 71) (L' := [some (.ref l0), none, some (.ref l2), some (.int l3), some (.int l4)]) (st' := [.ref l0, .ref l2, .int (zI M l2 (zI M (zQ M l0 18) l4.toNatClampNeg).toNatClampNeg)]) (M' := M) rfl ?_
      obtain ⟨hc, hp⟩ := hp
      refine wq_getQ (j := 20) rfl hc ?_
      refine wp_go 1 (pc' := 76) (L' := [some (.ref l0), none, some (.ref l2), some (.int l3), some (.int l4)]) (st' := [.int l4, .ref (zQ M l0 20), .ref l2, .int (zI M l2 (zI M (zQ M l0 18) l4.toNatClampNeg).toNatClampNeg)]) (M' := M) rfl ?_
      obtain ⟨hc, hp⟩ := hp
      refine wq_iald rfl hc ?_
      obtain ⟨hc, hp⟩ := hp
      refine wq_zald rfl hc ?_
      refine wp_ic_ne (t := 84) rfl rfl (fun hc => ?_) (fun hc => ?_)
      · rw [if_neg hc] at hQ
        replace hp := hp.2 hc
        refine wp_go 2 (pc' := 86) (L' := [some (.ref l0), none, some (.ref l2), some (.int l3), some (.int l4)]) (st' := [.ref l0, .ref l2]) (M' := M) rfl ?_
        obtain ⟨hc, hp⟩ := hp
        refine wq_getQ (j := 18) rfl hc ?_
        refine wp_go 1 (pc' := 91) (L' := [some (.ref l0), none, some (.ref l2), some (.int l3), some (.int l4)]) (st' := [.int l4, .ref (zQ M l0 18), .ref l2]) (M' := M) rfl ?_
        obtain ⟨hc, hp⟩ := hp
        refine wq_iald rfl hc ?_
        refine wp_go 1 (pc' := 93) (L' := [some (.ref l0), none, some (.ref l2), some (.int l3), some (.int l4)]) (st' := [.int (1 : Int32), .int (zI M (zQ M l0 18) l4.toNatClampNeg), .ref l2]) (M' := M) rfl ?_
        obtain ⟨hc, hp⟩ := hp
        refine wq_zast rfl hc ?_
        refine wp_le [some (.ref l0), none, some (.ref l2), none, some (.int l4)] (zLe_of (by simp [zLeB])) ?_
        exact s155_94 n k34 k43 q34 q43 h34 h43 l0 l2 l4 (zWI M l2 (zI M (zQ M l0 18) l4.toNatClampNeg).toNatClampNeg (1 : Int32)) hp hQ
      · rw [if_pos hc] at hQ
        replace hp := hp.1 hc
        refine wp_go 1 (pc' := 106) (L' := [some (.ref l0), none, some (.ref l2), some (.int l3), some (.int l4)]) (st' := []) (M' := M) rfl ?_
        exact s155_106 n k34 k43 q34 q43 h34 h43 l0 l2 l3 l4 M hp hQ
def b155_43 (n : Nat) (k34 : Nat → Nat → Int32 → zM → Int32 × zM) : Nat → Nat → Nat → Int32 → Int32 → zM → Int32 × zM
  | 0, _, _, _, _, M => (0, M)
  | k + 1, l0, l2, l3, l4, M => c155_43 n k34 (b155_43 n k34 k) l0 l2 l3 l4 M
def p155_43 (n : Nat) (q34 : Nat → Nat → Int32 → zM → Prop) : Nat → Nat → Nat → Int32 → Int32 → zM → Prop
  | 0, _, _, _, _, _ => False
  | k + 1, l0, l2, l3, l4, M => d155_43 n q34 (p155_43 n q34 k) l0 l2 l3 l4 M
theorem s155_43 (n : Nat) (k34 : Nat → Nat → Int32 → zM → Int32 × zM) (q34 : Nat → Nat → Int32 → zM → Prop) (h34 : ∀ (l0 : Nat) (l2 : Nat) (l3 : Int32) (M : zM), q34 l0 l2 l3 M → ∀ {Q : Option Value → zM → Prop}, (∀ r M1, zRI (k34 l0 l2 l3 M) r M1 → Q r M1) → zWP 155 34 [some (.ref l0), none, some (.ref l2), some (.int l3), none] [] M Q) : ∀ (k : Nat) (l0 : Nat) (l2 : Nat) (l3 : Int32) (l4 : Int32) (M : zM), p155_43 n q34 k l0 l2 l3 l4 M → ∀ {Q : Option Value → zM → Prop}, (∀ r M1, zRI (b155_43 n k34 k l0 l2 l3 l4 M) r M1 → Q r M1) → zWP 155 43 [some (.ref l0), none, some (.ref l2), some (.int l3), some (.int l4)] [] M Q
  | 0, _, _, _, _, _, h, _, _ => h.elim
  | k + 1, l0, l2, l3, l4, M, h, _, hQ => t155_43 n k34 (b155_43 n k34 k) q34 (p155_43 n q34 k) h34 (s155_43 n k34 q34 h34 k) l0 l2 l3 l4 M h hQ
def c155_34 (n : Nat) (k34 : Nat → Nat → Int32 → zM → Int32 × zM) (l0 : Nat) (l2 : Nat) (l3 : Int32) (M : zM) : Int32 × zM := (if l3 = 0 then b155_118 n  n l2 (0 : Int32) M else b155_43 n k34 n l0 l2 (0 : Int32) (0 : Int32) M)
def d155_34 (n : Nat) (q34 : Nat → Nat → Int32 → zM → Prop) (l0 : Nat) (l2 : Nat) (l3 : Int32) (M : zM) : Prop := ((l3 = 0 → p155_118 n  n l2 (0 : Int32) M) ∧ (¬ l3 = 0 → p155_43 n q34 n l0 l2 (0 : Int32) (0 : Int32) M))
theorem t155_34 (n : Nat) (k34 : Nat → Nat → Int32 → zM → Int32 × zM) (q34 : Nat → Nat → Int32 → zM → Prop) (h34 : ∀ (l0 : Nat) (l2 : Nat) (l3 : Int32) (M : zM), q34 l0 l2 l3 M → ∀ {Q : Option Value → zM → Prop}, (∀ r M1, zRI (k34 l0 l2 l3 M) r M1 → Q r M1) → zWP 155 34 [some (.ref l0), none, some (.ref l2), some (.int l3), none] [] M Q) (l0 : Nat) (l2 : Nat) (l3 : Int32) (M : zM) (hp : d155_34 n q34 l0 l2 l3 M) {Q : Option Value → zM → Prop} (hQ : ∀ r M1, zRI (c155_34 n k34 l0 l2 l3 M) r M1 → Q r M1) : zWP 155 34 [some (.ref l0), none, some (.ref l2), some (.int l3), none] [] M Q := by
  unfold c155_34 at hQ
  unfold d155_34 at hp
  refine wp_go 1 (pc' := 35) (L' := [some (.ref l0), none, some (.ref l2), some (.int l3), none]) (st' := [.int l3]) (M' := M) rfl ?_
  refine wp_if_eq (t := 115) rfl rfl (fun hc => ?_) (fun hc => ?_)
  · rw [if_pos hc] at hQ
    replace hp := hp.1 hc
    refine wp_go 2 (pc' := 118) (L' := [some (.ref l0), none, some (.ref l2), some (.int l3), some (.int (0 : Int32))]) (st' := []) (M' := M) rfl ?_
    refine wp_le [none, none, some (.ref l2), none, some (.int (0 : Int32))] (zLe_of (by simp [zLeB])) ?_
    exact s155_118 n    n l2 (0 : Int32) M hp hQ
  · rw [if_neg hc] at hQ
    replace hp := hp.2 hc
    refine wp_go 4 (pc' := 43) (L' := [some (.ref l0), none, some (.ref l2), some (.int (0 : Int32)), some (.int (0 : Int32))]) (st' := []) (M' := M) rfl ?_
    exact s155_43 n k34 q34 h34 n l0 l2 (0 : Int32) (0 : Int32) M hp hQ
def b155_34 (n : Nat)  : Nat → Nat → Nat → Int32 → zM → Int32 × zM
  | 0, _, _, _, M => (0, M)
  | k + 1, l0, l2, l3, M => c155_34 n  (b155_34 n  k) l0 l2 l3 M
def p155_34 (n : Nat)  : Nat → Nat → Nat → Int32 → zM → Prop
  | 0, _, _, _, _ => False
  | k + 1, l0, l2, l3, M => d155_34 n  (p155_34 n  k) l0 l2 l3 M
theorem s155_34 (n : Nat)    : ∀ (k : Nat) (l0 : Nat) (l2 : Nat) (l3 : Int32) (M : zM), p155_34 n  k l0 l2 l3 M → ∀ {Q : Option Value → zM → Prop}, (∀ r M1, zRI (b155_34 n  k l0 l2 l3 M) r M1 → Q r M1) → zWP 155 34 [some (.ref l0), none, some (.ref l2), some (.int l3), none] [] M Q
  | 0, _, _, _, _, h, _, _ => h.elim
  | k + 1, l0, l2, l3, M, h, _, hQ => t155_34 n  (b155_34 n  k)  (p155_34 n  k)  (s155_34 n    k) l0 l2 l3 M h hQ
def b155_26 (n : Nat) (k7 : Nat → Int32 → Nat → Int32 → zM → Int32 × zM) (l0 : Nat) (l1 : Int32) (l2 : Nat) (l3 : Int32) (M : zM) : Int32 × zM := k7 l0 l1 l2 (l3 + Int32.ofInt 1) M
def p155_26 (n : Nat) (q7 : Nat → Int32 → Nat → Int32 → zM → Prop) (l0 : Nat) (l1 : Int32) (l2 : Nat) (l3 : Int32) (M : zM) : Prop := q7 l0 l1 l2 (l3 + Int32.ofInt 1) M
theorem s155_26 (n : Nat) (k7 : Nat → Int32 → Nat → Int32 → zM → Int32 × zM) (q7 : Nat → Int32 → Nat → Int32 → zM → Prop) (h7 : ∀ (l0 : Nat) (l1 : Int32) (l2 : Nat) (l3 : Int32) (M : zM), q7 l0 l1 l2 l3 M → ∀ {Q : Option Value → zM → Prop}, (∀ r M1, zRI (k7 l0 l1 l2 l3 M) r M1 → Q r M1) → zWP 155 7 [some (.ref l0), some (.int l1), some (.ref l2), some (.int l3), none] [] M Q) (l0 : Nat) (l1 : Int32) (l2 : Nat) (l3 : Int32) (M : zM) (hp : p155_26 n q7 l0 l1 l2 l3 M) {Q : Option Value → zM → Prop} (hQ : ∀ r M1, zRI (b155_26 n k7 l0 l1 l2 l3 M) r M1 → Q r M1) : zWP 155 26 [some (.ref l0), some (.int l1), some (.ref l2), some (.int l3), none] [] M Q := by
  unfold b155_26 at hQ
  unfold p155_26 at hp
  refine wp_go 2 (pc' := 7) (L' := [some (.ref l0), some (.int l1), some (.ref l2), some (.int (l3 + Int32.ofInt 1)), none]) (st' := []) (M' := M) rfl ?_
  exact h7 l0 l1 l2 (l3 + Int32.ofInt 1) M hp hQ
def b155_25 (n : Nat) (k7 : Nat → Int32 → Nat → Int32 → zM → Int32 × zM) (l0 : Nat) (l1 : Int32) (l2 : Nat) (l3 : Int32) (s0 : Nat) (s1 : Int32) (s2 : Int32) (M : zM) : Int32 × zM := b155_26 n k7 l0 l1 l2 l3 (zWI M s0 s1.toNatClampNeg s2)
def p155_25 (n : Nat) (q7 : Nat → Int32 → Nat → Int32 → zM → Prop) (l0 : Nat) (l1 : Int32) (l2 : Nat) (l3 : Int32) (s0 : Nat) (s1 : Int32) (s2 : Int32) (M : zM) : Prop := (zOkT 2 s0 s1 M ∧ zNar .boolean s2 = true) ∧ (p155_26 n q7 l0 l1 l2 l3 (zWI M s0 s1.toNatClampNeg s2))
theorem s155_25 (n : Nat) (k7 : Nat → Int32 → Nat → Int32 → zM → Int32 × zM) (q7 : Nat → Int32 → Nat → Int32 → zM → Prop) (h7 : ∀ (l0 : Nat) (l1 : Int32) (l2 : Nat) (l3 : Int32) (M : zM), q7 l0 l1 l2 l3 M → ∀ {Q : Option Value → zM → Prop}, (∀ r M1, zRI (k7 l0 l1 l2 l3 M) r M1 → Q r M1) → zWP 155 7 [some (.ref l0), some (.int l1), some (.ref l2), some (.int l3), none] [] M Q) (l0 : Nat) (l1 : Int32) (l2 : Nat) (l3 : Int32) (s0 : Nat) (s1 : Int32) (s2 : Int32) (M : zM) (hp : p155_25 n q7 l0 l1 l2 l3 s0 s1 s2 M) {Q : Option Value → zM → Prop} (hQ : ∀ r M1, zRI (b155_25 n k7 l0 l1 l2 l3 s0 s1 s2 M) r M1 → Q r M1) : zWP 155 25 [some (.ref l0), some (.int l1), some (.ref l2), some (.int l3), none] [.int s2, .int s1, .ref s0] M Q := by
  unfold b155_25 at hQ
  unfold p155_25 at hp
  obtain ⟨hc, hp⟩ := hp
  refine wq_zast rfl hc ?_
  exact s155_26 n k7 q7 h7 l0 l1 l2 l3 (zWI M s0 s1.toNatClampNeg s2) hp hQ
def c155_7 (n : Nat) (k7 : Nat → Int32 → Nat → Int32 → zM → Int32 × zM) (l0 : Nat) (l1 : Int32) (l2 : Nat) (l3 : Int32) (M : zM) : Int32 × zM := (if (12 : Int32) ≤ l3 then b155_34 n  n l0 l2 (1 : Int32) M else (if l3 = l1 then b155_25 n k7 l0 l1 l2 l3 l2 l3 (1 : Int32) M else b155_25 n k7 l0 l1 l2 l3 l2 l3 (0 : Int32) M))
def d155_7 (n : Nat) (q7 : Nat → Int32 → Nat → Int32 → zM → Prop) (l0 : Nat) (l1 : Int32) (l2 : Nat) (l3 : Int32) (M : zM) : Prop := (((12 : Int32) ≤ l3 → p155_34 n  n l0 l2 (1 : Int32) M) ∧ (¬ (12 : Int32) ≤ l3 → ((l3 = l1 → p155_25 n q7 l0 l1 l2 l3 l2 l3 (1 : Int32) M) ∧ (¬ l3 = l1 → p155_25 n q7 l0 l1 l2 l3 l2 l3 (0 : Int32) M))))
theorem t155_7 (n : Nat) (k7 : Nat → Int32 → Nat → Int32 → zM → Int32 × zM) (q7 : Nat → Int32 → Nat → Int32 → zM → Prop) (h7 : ∀ (l0 : Nat) (l1 : Int32) (l2 : Nat) (l3 : Int32) (M : zM), q7 l0 l1 l2 l3 M → ∀ {Q : Option Value → zM → Prop}, (∀ r M1, zRI (k7 l0 l1 l2 l3 M) r M1 → Q r M1) → zWP 155 7 [some (.ref l0), some (.int l1), some (.ref l2), some (.int l3), none] [] M Q) (l0 : Nat) (l1 : Int32) (l2 : Nat) (l3 : Int32) (M : zM) (hp : d155_7 n q7 l0 l1 l2 l3 M) {Q : Option Value → zM → Prop} (hQ : ∀ r M1, zRI (c155_7 n k7 l0 l1 l2 l3 M) r M1 → Q r M1) : zWP 155 7 [some (.ref l0), some (.int l1), some (.ref l2), some (.int l3), none] [] M Q := by
  unfold c155_7 at hQ
  unfold d155_7 at hp
  refine wp_go 2 (pc' := 10) (L' := [some (.ref l0), some (.int l1), some (.ref l2), some (.int l3), none]) (st' := [.int (12 : Int32), .int l3]) (M' := M) rfl ?_
  refine wp_ic_ge (t := 32) rfl rfl (fun hc => ?_) (fun hc => ?_)
  · rw [if_pos hc] at hQ
    replace hp := hp.1 hc
    refine wp_go 2 (pc' := 34) (L' := [some (.ref l0), some (.int l1), some (.ref l2), some (.int (1 : Int32)), none]) (st' := []) (M' := M) rfl ?_
    refine wp_le [some (.ref l0), none, some (.ref l2), some (.int (1 : Int32)), none] (zLe_of (by simp [zLeB])) ?_
    exact s155_34 n    n l0 l2 (1 : Int32) M hp hQ
  · rw [if_neg hc] at hQ
    replace hp := hp.2 hc
    refine wp_go 4 (pc' := 17) (L' := [some (.ref l0), some (.int l1), some (.ref l2), some (.int l3), none]) (st' := [.int l1, .int l3, .int l3, .ref l2]) (M' := M) rfl ?_
    refine wp_ic_ne (t := 24) rfl rfl (fun hc => ?_) (fun hc => ?_)
    · rw [if_neg hc] at hQ
      replace hp := hp.2 hc
      refine wp_go 1 (pc' := 25) (L' := [some (.ref l0), some (.int l1), some (.ref l2), some (.int l3), none]) (st' := [.int (0 : Int32), .int l3, .ref l2]) (M' := M) rfl ?_
      exact s155_25 n k7 q7 h7 l0 l1 l2 l3 l2 l3 (0 : Int32) M hp hQ
    · rw [if_pos hc] at hQ
      replace hp := hp.1 hc
      refine wp_go 2 (pc' := 25) (L' := [some (.ref l0), some (.int l1), some (.ref l2), some (.int l3), none]) (st' := [.int (1 : Int32), .int l3, .ref l2]) (M' := M) rfl ?_
      exact s155_25 n k7 q7 h7 l0 l1 l2 l3 l2 l3 (1 : Int32) M hp hQ
def b155_7 (n : Nat)  : Nat → Nat → Int32 → Nat → Int32 → zM → Int32 × zM
  | 0, _, _, _, _, M => (0, M)
  | k + 1, l0, l1, l2, l3, M => c155_7 n  (b155_7 n  k) l0 l1 l2 l3 M
def p155_7 (n : Nat)  : Nat → Nat → Int32 → Nat → Int32 → zM → Prop
  | 0, _, _, _, _, _ => False
  | k + 1, l0, l1, l2, l3, M => d155_7 n  (p155_7 n  k) l0 l1 l2 l3 M
theorem s155_7 (n : Nat)    : ∀ (k : Nat) (l0 : Nat) (l1 : Int32) (l2 : Nat) (l3 : Int32) (M : zM), p155_7 n  k l0 l1 l2 l3 M → ∀ {Q : Option Value → zM → Prop}, (∀ r M1, zRI (b155_7 n  k l0 l1 l2 l3 M) r M1 → Q r M1) → zWP 155 7 [some (.ref l0), some (.int l1), some (.ref l2), some (.int l3), none] [] M Q
  | 0, _, _, _, _, _, h, _, _ => h.elim
  | k + 1, l0, l1, l2, l3, M, h, _, hQ => t155_7 n  (b155_7 n  k)  (p155_7 n  k)  (s155_7 n    k) l0 l1 l2 l3 M h hQ
def b155_0 (n : Nat)  (l0 : Nat) (l1 : Int32) (M : zM) : Int32 × zM := b155_7 n  n l0 l1 (zQ M l0 38) (0 : Int32) M
def p155_0 (n : Nat)  (l0 : Nat) (l1 : Int32) (M : zM) : Prop := (zHasQ 10 93 l0 M 38) ∧ (p155_7 n  n l0 l1 (zQ M l0 38) (0 : Int32) M)
theorem s155_0 (n : Nat)    (l0 : Nat) (l1 : Int32) (M : zM) (hp : p155_0 n  l0 l1 M) {Q : Option Value → zM → Prop} (hQ : ∀ r M1, zRI (b155_0 n  l0 l1 M) r M1 → Q r M1) : zWP 155 0 [some (.ref l0), some (.int l1), none, none, none] [] M Q := by
  unfold b155_0 at hQ
  unfold p155_0 at hp
  refine wp_go 1 (pc' := 1) (L' := [some (.ref l0), some (.int l1), none, none, none]) (st' := [.ref l0]) (M' := M) rfl ?_
  obtain ⟨hc, hp⟩ := hp
  refine wq_getQ (j := 38) rfl hc ?_
  refine wp_go 3 (pc' := 7) (L' := [some (.ref l0), some (.int l1), some (.ref (zQ M l0 38)), some (.int (0 : Int32)), none]) (st' := []) (M' := M) rfl ?_
  exact s155_7 n    n l0 l1 (zQ M l0 38) (0 : Int32) M hp hQ
/-! X12_layBy -/
def b156_202 (n : Nat)   (M : zM) : zM := M
def p156_202 (n : Nat)   (M : zM) : Prop := True
theorem s156_202 (n : Nat)     (M : zM) (hp : p156_202 n   M) {Q : Option Value → zM → Prop} (hQ : ∀ r M1, zRV (b156_202 n   M) r M1 → Q r M1) : zWP 156 202 [none, none, none, none, none, none, none, none, none] [] M Q := by
  unfold b156_202 at hQ
  unfold p156_202 at hp
  exact wp_ret (r := none) rfl rfl (hQ _ _ ⟨rfl, rfl⟩)
def b156_198 (n : Nat)  (s0 : Nat) (s1 : Int32) (s2 : Int32) (M : zM) : zM := b156_202 n  (zWI M s0 47 (s1 - s2))
def p156_198 (n : Nat)  (s0 : Nat) (s1 : Int32) (s2 : Int32) (M : zM) : Prop := (zPutI 156 256 s0 M 47 (s1 - s2)) ∧ (p156_202 n  (zWI M s0 47 (s1 - s2)))
theorem s156_198 (n : Nat)    (s0 : Nat) (s1 : Int32) (s2 : Int32) (M : zM) (hp : p156_198 n  s0 s1 s2 M) {Q : Option Value → zM → Prop} (hQ : ∀ r M1, zRV (b156_198 n  s0 s1 s2 M) r M1 → Q r M1) : zWP 156 198 [none, none, none, none, none, none, none, none, none] [.int s2, .int s1, .ref s0] M Q := by
  unfold b156_198 at hQ
  unfold p156_198 at hp
  refine wp_go 1 (pc' := 199) (L' := [none, none, none, none, none, none, none, none, none]) (st' := [.int (s1 - s2), .ref s0]) (M' := M) rfl ?_
  obtain ⟨hc, hp⟩ := hp
  refine wq_putI (j := 47) rfl hc ?_
  exact s156_202 n    (zWI M s0 47 (s1 - s2)) hp hQ
def b156_185 (n : Nat)  (l0 : Nat) (l6 : Int32) (l8 : Int32) (s0 : Nat) (s1 : Int32) (s2 : Int32) (M : zM) : zM := b156_198 n  s0 (s1 + s2) (b123_0 n l0 l6 l8 (zI M l0 45) M).1 (b123_0 n l0 l6 l8 (zI M l0 45) M).2
def p156_185 (n : Nat)  (l0 : Nat) (l6 : Int32) (l8 : Int32) (s0 : Nat) (s1 : Int32) (s2 : Int32) (M : zM) : Prop := (zHasI 10 250 l0 M 45) ∧ ((zHasC 156 162 l0 M 123 3) ∧ ((p123_0 n l0 l6 l8 (zI M l0 45) M) ∧ (p156_198 n  s0 (s1 + s2) (b123_0 n l0 l6 l8 (zI M l0 45) M).1 (b123_0 n l0 l6 l8 (zI M l0 45) M).2)))
theorem s156_185 (n : Nat)    (l0 : Nat) (l6 : Int32) (l8 : Int32) (s0 : Nat) (s1 : Int32) (s2 : Int32) (M : zM) (hp : p156_185 n  l0 l6 l8 s0 s1 s2 M) {Q : Option Value → zM → Prop} (hQ : ∀ r M1, zRV (b156_185 n  l0 l6 l8 s0 s1 s2 M) r M1 → Q r M1) : zWP 156 185 [some (.ref l0), none, none, none, none, none, some (.int l6), none, some (.int l8)] [.int s2, .int s1, .ref s0] M Q := by
  unfold b156_185 at hQ
  unfold p156_185 at hp
  refine wp_go 5 (pc' := 192) (L' := [some (.ref l0), none, none, none, none, none, some (.int l6), none, some (.int l8)]) (st' := [.ref l0, .int l8, .int l6, .ref l0, .int (s1 + s2), .ref s0]) (M' := M) rfl ?_
  obtain ⟨hc, hp⟩ := hp
  refine wq_getI (j := 45) rfl hc ?_
  obtain ⟨hv, hp⟩ := hp
  obtain ⟨hc, hp⟩ := hp
  refine wp_calli (v := (b123_0 n l0 l6 l8 (zI M l0 45) M).1) (M1 := (b123_0 n l0 l6 l8 (zI M l0 45) M).2) rfl rfl rfl (zInv_v (np := 3) rfl rfl hv rfl) (s123_0 n l0 l6 l8 (zI M l0 45) M hc (fun r M1 h => h)) ?_
  refine wp_le [none, none, none, none, none, none, none, none, none] (zLe_of (by simp [zLeB])) ?_
  exact s156_198 n    s0 (s1 + s2) (b123_0 n l0 l6 l8 (zI M l0 45) M).1 (b123_0 n l0 l6 l8 (zI M l0 45) M).2 hp hQ
def b156_162 (n : Nat)  (l0 : Nat) (l5 : Int32) (l6 : Int32) (l7 : Int32) (l8 : Int32) (M : zM) : zM := b156_185 n  l0 l6 l8 l0 (zI M (zQ M l0 44) l5.toNatClampNeg) (b123_0 n l0 l5 l7 (zI M (zQ M l0 42) l5.toNatClampNeg) M).1 (b123_0 n l0 l5 l7 (zI M (zQ M l0 42) l5.toNatClampNeg) M).2
def p156_162 (n : Nat)  (l0 : Nat) (l5 : Int32) (l6 : Int32) (l7 : Int32) (l8 : Int32) (M : zM) : Prop := (zHasQ 10 108 l0 M 44) ∧ ((zOkI (zQ M l0 44) l5 M) ∧ ((zHasQ 10 102 l0 M 42) ∧ ((zOkI (zQ M l0 42) l5 M) ∧ ((zHasC 156 162 l0 M 123 3) ∧ ((p123_0 n l0 l5 l7 (zI M (zQ M l0 42) l5.toNatClampNeg) M) ∧ (p156_185 n  l0 l6 l8 l0 (zI M (zQ M l0 44) l5.toNatClampNeg) (b123_0 n l0 l5 l7 (zI M (zQ M l0 42) l5.toNatClampNeg) M).1 (b123_0 n l0 l5 l7 (zI M (zQ M l0 42) l5.toNatClampNeg) M).2))))))
theorem s156_162 (n : Nat)    (l0 : Nat) (l5 : Int32) (l6 : Int32) (l7 : Int32) (l8 : Int32) (M : zM) (hp : p156_162 n  l0 l5 l6 l7 l8 M) {Q : Option Value → zM → Prop} (hQ : ∀ r M1, zRV (b156_162 n  l0 l5 l6 l7 l8 M) r M1 → Q r M1) : zWP 156 162 [some (.ref l0), none, none, none, none, some (.int l5), some (.int l6), some (.int l7), some (.int l8)] [] M Q := by
  unfold b156_162 at hQ
  unfold p156_162 at hp
  refine wp_go 2 (pc' := 164) (L' := [some (.ref l0), none, none, none, none, some (.int l5), some (.int l6), some (.int l7), some (.int l8)]) (st' := [.ref l0, .ref l0]) (M' := M) rfl ?_
  obtain ⟨hc, hp⟩ := hp
  refine wq_getQ (j := 44) rfl hc ?_
  refine wp_go 1 (pc' := 169) (L' := [some (.ref l0), none, none, none, none, some (.int l5), some (.int l6), some (.int l7), some (.int l8)]) (st' := [.int l5, .ref (zQ M l0 44), .ref l0]) (M' := M) rfl ?_
  obtain ⟨hc, hp⟩ := hp
  refine wq_iald rfl hc ?_
  refine wp_go 4 (pc' := 176) (L' := [some (.ref l0), none, none, none, none, some (.int l5), some (.int l6), some (.int l7), some (.int l8)]) (st' := [.ref l0, .int l7, .int l5, .ref l0, .int (zI M (zQ M l0 44) l5.toNatClampNeg), .ref l0]) (M' := M) rfl ?_
  obtain ⟨hc, hp⟩ := hp
  refine wq_getQ (j := 42) rfl hc ?_
  refine wp_go 1 (pc' := 181) (L' := [some (.ref l0), none, none, none, none, some (.int l5), some (.int l6), some (.int l7), some (.int l8)]) (st' := [.int l5, .ref (zQ M l0 42), .int l7, .int l5, .ref l0, .int (zI M (zQ M l0 44) l5.toNatClampNeg), .ref l0]) (M' := M) rfl ?_
  obtain ⟨hc, hp⟩ := hp
  refine wq_iald rfl hc ?_
  obtain ⟨hv, hp⟩ := hp
  obtain ⟨hc, hp⟩ := hp
  refine wp_calli (v := (b123_0 n l0 l5 l7 (zI M (zQ M l0 42) l5.toNatClampNeg) M).1) (M1 := (b123_0 n l0 l5 l7 (zI M (zQ M l0 42) l5.toNatClampNeg) M).2) rfl rfl rfl (zInv_v (np := 3) rfl rfl hv rfl) (s123_0 n l0 l5 l7 (zI M (zQ M l0 42) l5.toNatClampNeg) M hc (fun r M1 h => h)) ?_
  refine wp_le [some (.ref l0), none, none, none, none, none, some (.int l6), none, some (.int l8)] (zLe_of (by simp [zLeB])) ?_
  exact s156_185 n    l0 l6 l8 l0 (zI M (zQ M l0 44) l5.toNatClampNeg) (b123_0 n l0 l5 l7 (zI M (zQ M l0 42) l5.toNatClampNeg) M).1 (b123_0 n l0 l5 l7 (zI M (zQ M l0 42) l5.toNatClampNeg) M).2 hp hQ
def b156_158 (n : Nat)  (l0 : Nat) (l5 : Int32) (l6 : Int32) (l7 : Int32) (l8 : Int32) (s0 : Nat) (s1 : Int32) (s2 : Int32) (M : zM) : zM := b156_162 n  l0 l5 l6 l7 l8 (zWI M s0 46 (s1 - s2))
def p156_158 (n : Nat)  (l0 : Nat) (l5 : Int32) (l6 : Int32) (l7 : Int32) (l8 : Int32) (s0 : Nat) (s1 : Int32) (s2 : Int32) (M : zM) : Prop := (zPutI 156 253 s0 M 46 (s1 - s2)) ∧ (p156_162 n  l0 l5 l6 l7 l8 (zWI M s0 46 (s1 - s2)))
theorem s156_158 (n : Nat)    (l0 : Nat) (l5 : Int32) (l6 : Int32) (l7 : Int32) (l8 : Int32) (s0 : Nat) (s1 : Int32) (s2 : Int32) (M : zM) (hp : p156_158 n  l0 l5 l6 l7 l8 s0 s1 s2 M) {Q : Option Value → zM → Prop} (hQ : ∀ r M1, zRV (b156_158 n  l0 l5 l6 l7 l8 s0 s1 s2 M) r M1 → Q r M1) : zWP 156 158 [some (.ref l0), none, none, none, none, some (.int l5), some (.int l6), some (.int l7), some (.int l8)] [.int s2, .int s1, .ref s0] M Q := by
  unfold b156_158 at hQ
  unfold p156_158 at hp
  refine wp_go 1 (pc' := 159) (L' := [some (.ref l0), none, none, none, none, some (.int l5), some (.int l6), some (.int l7), some (.int l8)]) (st' := [.int (s1 - s2), .ref s0]) (M' := M) rfl ?_
  obtain ⟨hc, hp⟩ := hp
  refine wq_putI (j := 46) rfl hc ?_
  exact s156_162 n    l0 l5 l6 l7 l8 (zWI M s0 46 (s1 - s2)) hp hQ
def b156_145 (n : Nat)  (l0 : Nat) (l5 : Int32) (l6 : Int32) (l7 : Int32) (l8 : Int32) (s0 : Nat) (s1 : Int32) (s2 : Int32) (M : zM) : zM := b156_158 n  l0 l5 l6 l7 l8 s0 (s1 + s2) (b122_0 n l0 l6 l8 (zI M l0 45) M).1 (b122_0 n l0 l6 l8 (zI M l0 45) M).2
def p156_145 (n : Nat)  (l0 : Nat) (l5 : Int32) (l6 : Int32) (l7 : Int32) (l8 : Int32) (s0 : Nat) (s1 : Int32) (s2 : Int32) (M : zM) : Prop := (zHasI 10 250 l0 M 45) ∧ ((zHasC 156 155 l0 M 122 3) ∧ ((p122_0 n l0 l6 l8 (zI M l0 45) M) ∧ (p156_158 n  l0 l5 l6 l7 l8 s0 (s1 + s2) (b122_0 n l0 l6 l8 (zI M l0 45) M).1 (b122_0 n l0 l6 l8 (zI M l0 45) M).2)))
theorem s156_145 (n : Nat)    (l0 : Nat) (l5 : Int32) (l6 : Int32) (l7 : Int32) (l8 : Int32) (s0 : Nat) (s1 : Int32) (s2 : Int32) (M : zM) (hp : p156_145 n  l0 l5 l6 l7 l8 s0 s1 s2 M) {Q : Option Value → zM → Prop} (hQ : ∀ r M1, zRV (b156_145 n  l0 l5 l6 l7 l8 s0 s1 s2 M) r M1 → Q r M1) : zWP 156 145 [some (.ref l0), none, none, none, none, some (.int l5), some (.int l6), some (.int l7), some (.int l8)] [.int s2, .int s1, .ref s0] M Q := by
  unfold b156_145 at hQ
  unfold p156_145 at hp
  refine wp_go 5 (pc' := 152) (L' := [some (.ref l0), none, none, none, none, some (.int l5), some (.int l6), some (.int l7), some (.int l8)]) (st' := [.ref l0, .int l8, .int l6, .ref l0, .int (s1 + s2), .ref s0]) (M' := M) rfl ?_
  obtain ⟨hc, hp⟩ := hp
  refine wq_getI (j := 45) rfl hc ?_
  obtain ⟨hv, hp⟩ := hp
  obtain ⟨hc, hp⟩ := hp
  refine wp_calli (v := (b122_0 n l0 l6 l8 (zI M l0 45) M).1) (M1 := (b122_0 n l0 l6 l8 (zI M l0 45) M).2) rfl rfl rfl (zInv_v (np := 3) rfl rfl hv rfl) (s122_0 n l0 l6 l8 (zI M l0 45) M hc (fun r M1 h => h)) ?_
  exact s156_158 n    l0 l5 l6 l7 l8 s0 (s1 + s2) (b122_0 n l0 l6 l8 (zI M l0 45) M).1 (b122_0 n l0 l6 l8 (zI M l0 45) M).2 hp hQ
def b156_122 (n : Nat)  (l0 : Nat) (l5 : Int32) (l6 : Int32) (l7 : Int32) (l8 : Int32) (M : zM) : zM := b156_145 n  l0 l5 l6 l7 l8 l0 (zI M (zQ M l0 43) l5.toNatClampNeg) (b122_0 n l0 l5 l7 (zI M (zQ M l0 42) l5.toNatClampNeg) M).1 (b122_0 n l0 l5 l7 (zI M (zQ M l0 42) l5.toNatClampNeg) M).2
def p156_122 (n : Nat)  (l0 : Nat) (l5 : Int32) (l6 : Int32) (l7 : Int32) (l8 : Int32) (M : zM) : Prop := (zHasQ 10 105 l0 M 43) ∧ ((zOkI (zQ M l0 43) l5 M) ∧ ((zHasQ 10 102 l0 M 42) ∧ ((zOkI (zQ M l0 42) l5 M) ∧ ((zHasC 156 155 l0 M 122 3) ∧ ((p122_0 n l0 l5 l7 (zI M (zQ M l0 42) l5.toNatClampNeg) M) ∧ (p156_145 n  l0 l5 l6 l7 l8 l0 (zI M (zQ M l0 43) l5.toNatClampNeg) (b122_0 n l0 l5 l7 (zI M (zQ M l0 42) l5.toNatClampNeg) M).1 (b122_0 n l0 l5 l7 (zI M (zQ M l0 42) l5.toNatClampNeg) M).2))))))
theorem s156_122 (n : Nat)    (l0 : Nat) (l5 : Int32) (l6 : Int32) (l7 : Int32) (l8 : Int32) (M : zM) (hp : p156_122 n  l0 l5 l6 l7 l8 M) {Q : Option Value → zM → Prop} (hQ : ∀ r M1, zRV (b156_122 n  l0 l5 l6 l7 l8 M) r M1 → Q r M1) : zWP 156 122 [some (.ref l0), none, none, none, none, some (.int l5), some (.int l6), some (.int l7), some (.int l8)] [] M Q := by
  unfold b156_122 at hQ
  unfold p156_122 at hp
  refine wp_go 2 (pc' := 124) (L' := [some (.ref l0), none, none, none, none, some (.int l5), some (.int l6), some (.int l7), some (.int l8)]) (st' := [.ref l0, .ref l0]) (M' := M) rfl ?_
  obtain ⟨hc, hp⟩ := hp
  refine wq_getQ (j := 43) rfl hc ?_
  refine wp_go 1 (pc' := 129) (L' := [some (.ref l0), none, none, none, none, some (.int l5), some (.int l6), some (.int l7), some (.int l8)]) (st' := [.int l5, .ref (zQ M l0 43), .ref l0]) (M' := M) rfl ?_
  obtain ⟨hc, hp⟩ := hp
  refine wq_iald rfl hc ?_
  refine wp_go 4 (pc' := 136) (L' := [some (.ref l0), none, none, none, none, some (.int l5), some (.int l6), some (.int l7), some (.int l8)]) (st' := [.ref l0, .int l7, .int l5, .ref l0, .int (zI M (zQ M l0 43) l5.toNatClampNeg), .ref l0]) (M' := M) rfl ?_
  obtain ⟨hc, hp⟩ := hp
  refine wq_getQ (j := 42) rfl hc ?_
  refine wp_go 1 (pc' := 141) (L' := [some (.ref l0), none, none, none, none, some (.int l5), some (.int l6), some (.int l7), some (.int l8)]) (st' := [.int l5, .ref (zQ M l0 42), .int l7, .int l5, .ref l0, .int (zI M (zQ M l0 43) l5.toNatClampNeg), .ref l0]) (M' := M) rfl ?_
  obtain ⟨hc, hp⟩ := hp
  refine wq_iald rfl hc ?_
  obtain ⟨hv, hp⟩ := hp
  obtain ⟨hc, hp⟩ := hp
  refine wp_calli (v := (b122_0 n l0 l5 l7 (zI M (zQ M l0 42) l5.toNatClampNeg) M).1) (M1 := (b122_0 n l0 l5 l7 (zI M (zQ M l0 42) l5.toNatClampNeg) M).2) rfl rfl rfl (zInv_v (np := 3) rfl rfl hv rfl) (s122_0 n l0 l5 l7 (zI M (zQ M l0 42) l5.toNatClampNeg) M hc (fun r M1 h => h)) ?_
  exact s156_145 n    l0 l5 l6 l7 l8 l0 (zI M (zQ M l0 43) l5.toNatClampNeg) (b122_0 n l0 l5 l7 (zI M (zQ M l0 42) l5.toNatClampNeg) M).1 (b122_0 n l0 l5 l7 (zI M (zQ M l0 42) l5.toNatClampNeg) M).2 hp hQ
def b156_115 (n : Nat)  (l0 : Nat) (l5 : Int32) (l6 : Int32) (l7 : Int32) (l8 : Int32) (s0 : Nat) (s1 : Int32) (s2 : Int32) (M : zM) : zM := b156_122 n  l0 l5 l6 l7 l8 (zWI M s0 45 ((s1 + s2) - (s1 + s2) / (24 : Int32) * (24 : Int32)))
def p156_115 (n : Nat)  (l0 : Nat) (l5 : Int32) (l6 : Int32) (l7 : Int32) (l8 : Int32) (s0 : Nat) (s1 : Int32) (s2 : Int32) (M : zM) : Prop := (zPutI 156 250 s0 M 45 ((s1 + s2) - (s1 + s2) / (24 : Int32) * (24 : Int32))) ∧ (p156_122 n  l0 l5 l6 l7 l8 (zWI M s0 45 ((s1 + s2) - (s1 + s2) / (24 : Int32) * (24 : Int32))))
theorem s156_115 (n : Nat)    (l0 : Nat) (l5 : Int32) (l6 : Int32) (l7 : Int32) (l8 : Int32) (s0 : Nat) (s1 : Int32) (s2 : Int32) (M : zM) (hp : p156_115 n  l0 l5 l6 l7 l8 s0 s1 s2 M) {Q : Option Value → zM → Prop} (hQ : ∀ r M1, zRV (b156_115 n  l0 l5 l6 l7 l8 s0 s1 s2 M) r M1 → Q r M1) : zWP 156 115 [some (.ref l0), none, none, none, none, some (.int l5), some (.int l6), some (.int l7), some (.int l8)] [.int s2, .int s1, .ref s0] M Q := by
  unfold b156_115 at hQ
  unfold p156_115 at hp
  refine wp_go 2 (pc' := 118) (L' := [some (.ref l0), none, none, none, none, some (.int l5), some (.int l6), some (.int l7), some (.int l8)]) (st' := [.int (24 : Int32), .int (s1 + s2), .ref s0]) (M' := M) rfl ?_
  refine wq_irem rfl (by decide) ?_
  obtain ⟨hc, hp⟩ := hp
  refine wq_putI (j := 45) rfl hc ?_
  exact s156_122 n    l0 l5 l6 l7 l8 (zWI M s0 45 ((s1 + s2) - (s1 + s2) / (24 : Int32) * (24 : Int32))) hp hQ
def b156_83 (n : Nat)  (l0 : Nat) (l1 : Int32) (l2 : Int32) (l5 : Int32) (l6 : Int32) (l7 : Int32) (s0 : Int32) (M : zM) : zM := (if l2 = 0 then b156_115 n  l0 l5 l6 l7 s0 l0 (zI M (zQ M l0 42) l5.toNatClampNeg) ((24 : Int32) - (zI M (zQ M l0 22) l1.toNatClampNeg)) M else b156_115 n  l0 l5 l6 l7 s0 l0 (zI M (zQ M l0 42) l5.toNatClampNeg) (zI M (zQ M l0 22) l1.toNatClampNeg) M)
def p156_83 (n : Nat)  (l0 : Nat) (l1 : Int32) (l2 : Int32) (l5 : Int32) (l6 : Int32) (l7 : Int32) (s0 : Int32) (M : zM) : Prop := (zHasQ 10 102 l0 M 42) ∧ ((zOkI (zQ M l0 42) l5 M) ∧ (((l2 = 0 → (zHasQ 10 69 l0 M 22) ∧ ((zOkI (zQ M l0 22) l1 M) ∧ (p156_115 n  l0 l5 l6 l7 s0 l0 (zI M (zQ M l0 42) l5.toNatClampNeg) ((24 : Int32) - (zI M (zQ M l0 22) l1.toNatClampNeg)) M))) ∧ (¬ l2 = 0 → (zHasQ 10 69 l0 M 22) ∧ ((zOkI (zQ M l0 22) l1 M) ∧ (p156_115 n  l0 l5 l6 l7 s0 l0 (zI M (zQ M l0 42) l5.toNatClampNeg) (zI M (zQ M l0 22) l1.toNatClampNeg) M))))))
theorem s156_83 (n : Nat)    (l0 : Nat) (l1 : Int32) (l2 : Int32) (l5 : Int32) (l6 : Int32) (l7 : Int32) (s0 : Int32) (M : zM) (hp : p156_83 n  l0 l1 l2 l5 l6 l7 s0 M) {Q : Option Value → zM → Prop} (hQ : ∀ r M1, zRV (b156_83 n  l0 l1 l2 l5 l6 l7 s0 M) r M1 → Q r M1) : zWP 156 83 [some (.ref l0), some (.int l1), some (.int l2), none, none, some (.int l5), some (.int l6), some (.int l7), none] [.int s0] M Q := by
  unfold b156_83 at hQ
  unfold p156_83 at hp
  refine wp_go 3 (pc' := 87) (L' := [some (.ref l0), some (.int l1), some (.int l2), none, none, some (.int l5), some (.int l6), some (.int l7), some (.int s0)]) (st' := [.ref l0, .ref l0]) (M' := M) rfl ?_
  obtain ⟨hc, hp⟩ := hp
  refine wq_getQ (j := 42) rfl hc ?_
  refine wp_go 1 (pc' := 92) (L' := [some (.ref l0), some (.int l1), some (.int l2), none, none, some (.int l5), some (.int l6), some (.int l7), some (.int s0)]) (st' := [.int l5, .ref (zQ M l0 42), .ref l0]) (M' := M) rfl ?_
  obtain ⟨hc, hp⟩ := hp
  refine wq_iald rfl hc ?_
  refine wp_go 1 (pc' := 94) (L' := [some (.ref l0), some (.int l1), some (.int l2), none, none, some (.int l5), some (.int l6), some (.int l7), some (.int s0)]) (st' := [.int l2, .int (zI M (zQ M l0 42) l5.toNatClampNeg), .ref l0]) (M' := M) rfl ?_
  refine wp_if_eq (t := 106) rfl rfl (fun hc => ?_) (fun hc => ?_)
  · rw [if_pos hc] at hQ
    replace hp := hp.1 hc
    refine wp_go 2 (pc' := 109) (L' := [some (.ref l0), some (.int l1), some (.int l2), none, none, some (.int l5), some (.int l6), some (.int l7), some (.int s0)]) (st' := [.ref l0, .int (24 : Int32), .int (zI M (zQ M l0 42) l5.toNatClampNeg), .ref l0]) (M' := M) rfl ?_
    obtain ⟨hc, hp⟩ := hp
    refine wq_getQ (j := 22) rfl hc ?_
    refine wp_go 1 (pc' := 113) (L' := [some (.ref l0), some (.int l1), some (.int l2), none, none, some (.int l5), some (.int l6), some (.int l7), some (.int s0)]) (st' := [.int l1, .ref (zQ M l0 22), .int (24 : Int32), .int (zI M (zQ M l0 42) l5.toNatClampNeg), .ref l0]) (M' := M) rfl ?_
    obtain ⟨hc, hp⟩ := hp
    refine wq_iald rfl hc ?_
    refine wp_go 1 (pc' := 115) (L' := [some (.ref l0), some (.int l1), some (.int l2), none, none, some (.int l5), some (.int l6), some (.int l7), some (.int s0)]) (st' := [.int ((24 : Int32) - (zI M (zQ M l0 22) l1.toNatClampNeg)), .int (zI M (zQ M l0 42) l5.toNatClampNeg), .ref l0]) (M' := M) rfl ?_
    refine wp_le [some (.ref l0), none, none, none, none, some (.int l5), some (.int l6), some (.int l7), some (.int s0)] (zLe_of (by simp [zLeB])) ?_
    exact s156_115 n    l0 l5 l6 l7 s0 l0 (zI M (zQ M l0 42) l5.toNatClampNeg) ((24 : Int32) - (zI M (zQ M l0 22) l1.toNatClampNeg)) M hp hQ
  · rw [if_neg hc] at hQ
    replace hp := hp.2 hc
    refine wp_go 1 (pc' := 98) (L' := [some (.ref l0), some (.int l1), some (.int l2), none, none, some (.int l5), some (.int l6), some (.int l7), some (.int s0)]) (st' := [.ref l0, .int (zI M (zQ M l0 42) l5.toNatClampNeg), .ref l0]) (M' := M) rfl ?_
    obtain ⟨hc, hp⟩ := hp
    refine wq_getQ (j := 22) rfl hc ?_
    refine wp_go 1 (pc' := 102) (L' := [some (.ref l0), some (.int l1), some (.int l2), none, none, some (.int l5), some (.int l6), some (.int l7), some (.int s0)]) (st' := [.int l1, .ref (zQ M l0 22), .int (zI M (zQ M l0 42) l5.toNatClampNeg), .ref l0]) (M' := M) rfl ?_
    obtain ⟨hc, hp⟩ := hp
    refine wq_iald rfl hc ?_
    refine wp_go 1 (pc' := 115) (L' := [some (.ref l0), some (.int l1), some (.int l2), none, none, some (.int l5), some (.int l6), some (.int l7), some (.int s0)]) (st' := [.int (zI M (zQ M l0 22) l1.toNatClampNeg), .int (zI M (zQ M l0 42) l5.toNatClampNeg), .ref l0]) (M' := M) rfl ?_
    refine wp_le [some (.ref l0), none, none, none, none, some (.int l5), some (.int l6), some (.int l7), some (.int s0)] (zLe_of (by simp [zLeB])) ?_
    exact s156_115 n    l0 l5 l6 l7 s0 l0 (zI M (zQ M l0 42) l5.toNatClampNeg) (zI M (zQ M l0 22) l1.toNatClampNeg) M hp hQ
def b156_60 (n : Nat)  (l0 : Nat) (l1 : Int32) (l2 : Int32) (l5 : Int32) (l6 : Int32) (s0 : Int32) (M : zM) : zM := (if l2 = 0 then b156_83 n  l0 l1 l2 l5 l6 s0 (zI M (zQ M l0 19) l1.toNatClampNeg) M else b156_83 n  l0 l1 l2 l5 l6 s0 ((zI M (zQ M l0 21) l1.toNatClampNeg) + (1 : Int32)) M)
def p156_60 (n : Nat)  (l0 : Nat) (l1 : Int32) (l2 : Int32) (l5 : Int32) (l6 : Int32) (s0 : Int32) (M : zM) : Prop := ((l2 = 0 → (zHasQ 10 60 l0 M 19) ∧ ((zOkI (zQ M l0 19) l1 M) ∧ (p156_83 n  l0 l1 l2 l5 l6 s0 (zI M (zQ M l0 19) l1.toNatClampNeg) M))) ∧ (¬ l2 = 0 → (zHasQ 10 66 l0 M 21) ∧ ((zOkI (zQ M l0 21) l1 M) ∧ (p156_83 n  l0 l1 l2 l5 l6 s0 ((zI M (zQ M l0 21) l1.toNatClampNeg) + (1 : Int32)) M))))
theorem s156_60 (n : Nat)    (l0 : Nat) (l1 : Int32) (l2 : Int32) (l5 : Int32) (l6 : Int32) (s0 : Int32) (M : zM) (hp : p156_60 n  l0 l1 l2 l5 l6 s0 M) {Q : Option Value → zM → Prop} (hQ : ∀ r M1, zRV (b156_60 n  l0 l1 l2 l5 l6 s0 M) r M1 → Q r M1) : zWP 156 60 [some (.ref l0), some (.int l1), some (.int l2), none, none, some (.int l5), some (.int l6), none, none] [.int s0] M Q := by
  unfold b156_60 at hQ
  unfold p156_60 at hp
  refine wp_go 2 (pc' := 63) (L' := [some (.ref l0), some (.int l1), some (.int l2), none, none, some (.int l5), some (.int l6), some (.int s0), none]) (st' := [.int l2]) (M' := M) rfl ?_
  refine wp_if_eq (t := 77) rfl rfl (fun hc => ?_) (fun hc => ?_)
  · rw [if_pos hc] at hQ
    replace hp := hp.1 hc
    refine wp_go 1 (pc' := 78) (L' := [some (.ref l0), some (.int l1), some (.int l2), none, none, some (.int l5), some (.int l6), some (.int s0), none]) (st' := [.ref l0]) (M' := M) rfl ?_
    obtain ⟨hc, hp⟩ := hp
    refine wq_getQ (j := 19) rfl hc ?_
    refine wp_go 1 (pc' := 82) (L' := [some (.ref l0), some (.int l1), some (.int l2), none, none, some (.int l5), some (.int l6), some (.int s0), none]) (st' := [.int l1, .ref (zQ M l0 19)]) (M' := M) rfl ?_
    obtain ⟨hc, hp⟩ := hp
    refine wq_iald rfl hc ?_
    exact s156_83 n    l0 l1 l2 l5 l6 s0 (zI M (zQ M l0 19) l1.toNatClampNeg) M hp hQ
  · rw [if_neg hc] at hQ
    replace hp := hp.2 hc
    refine wp_go 1 (pc' := 67) (L' := [some (.ref l0), some (.int l1), some (.int l2), none, none, some (.int l5), some (.int l6), some (.int s0), none]) (st' := [.ref l0]) (M' := M) rfl ?_
    obtain ⟨hc, hp⟩ := hp
    refine wq_getQ (j := 21) rfl hc ?_
    refine wp_go 1 (pc' := 71) (L' := [some (.ref l0), some (.int l1), some (.int l2), none, none, some (.int l5), some (.int l6), some (.int s0), none]) (st' := [.int l1, .ref (zQ M l0 21)]) (M' := M) rfl ?_
    obtain ⟨hc, hp⟩ := hp
    refine wq_iald rfl hc ?_
    refine wp_go 3 (pc' := 83) (L' := [some (.ref l0), some (.int l1), some (.int l2), none, none, some (.int l5), some (.int l6), some (.int s0), none]) (st' := [.int ((zI M (zQ M l0 21) l1.toNatClampNeg) + (1 : Int32))]) (M' := M) rfl ?_
    exact s156_83 n    l0 l1 l2 l5 l6 s0 ((zI M (zQ M l0 21) l1.toNatClampNeg) + (1 : Int32)) M hp hQ
def b156_37 (n : Nat)  (l0 : Nat) (l1 : Int32) (l2 : Int32) (l5 : Int32) (s0 : Int32) (M : zM) : zM := (if l2 = 0 then b156_60 n  l0 l1 l2 l5 s0 ((zI M (zQ M l0 21) l1.toNatClampNeg) + (1 : Int32)) M else b156_60 n  l0 l1 l2 l5 s0 (zI M (zQ M l0 19) l1.toNatClampNeg) M)
def p156_37 (n : Nat)  (l0 : Nat) (l1 : Int32) (l2 : Int32) (l5 : Int32) (s0 : Int32) (M : zM) : Prop := ((l2 = 0 → (zHasQ 10 66 l0 M 21) ∧ ((zOkI (zQ M l0 21) l1 M) ∧ (p156_60 n  l0 l1 l2 l5 s0 ((zI M (zQ M l0 21) l1.toNatClampNeg) + (1 : Int32)) M))) ∧ (¬ l2 = 0 → (zHasQ 10 60 l0 M 19) ∧ ((zOkI (zQ M l0 19) l1 M) ∧ (p156_60 n  l0 l1 l2 l5 s0 (zI M (zQ M l0 19) l1.toNatClampNeg) M))))
theorem s156_37 (n : Nat)    (l0 : Nat) (l1 : Int32) (l2 : Int32) (l5 : Int32) (s0 : Int32) (M : zM) (hp : p156_37 n  l0 l1 l2 l5 s0 M) {Q : Option Value → zM → Prop} (hQ : ∀ r M1, zRV (b156_37 n  l0 l1 l2 l5 s0 M) r M1 → Q r M1) : zWP 156 37 [some (.ref l0), some (.int l1), some (.int l2), none, none, some (.int l5), none, none, none] [.int s0] M Q := by
  unfold b156_37 at hQ
  unfold p156_37 at hp
  refine wp_go 2 (pc' := 40) (L' := [some (.ref l0), some (.int l1), some (.int l2), none, none, some (.int l5), some (.int s0), none, none]) (st' := [.int l2]) (M' := M) rfl ?_
  refine wp_if_eq (t := 52) rfl rfl (fun hc => ?_) (fun hc => ?_)
  · rw [if_pos hc] at hQ
    replace hp := hp.1 hc
    refine wp_go 1 (pc' := 53) (L' := [some (.ref l0), some (.int l1), some (.int l2), none, none, some (.int l5), some (.int s0), none, none]) (st' := [.ref l0]) (M' := M) rfl ?_
    obtain ⟨hc, hp⟩ := hp
    refine wq_getQ (j := 21) rfl hc ?_
    refine wp_go 1 (pc' := 57) (L' := [some (.ref l0), some (.int l1), some (.int l2), none, none, some (.int l5), some (.int s0), none, none]) (st' := [.int l1, .ref (zQ M l0 21)]) (M' := M) rfl ?_
    obtain ⟨hc, hp⟩ := hp
    refine wq_iald rfl hc ?_
    refine wp_go 2 (pc' := 60) (L' := [some (.ref l0), some (.int l1), some (.int l2), none, none, some (.int l5), some (.int s0), none, none]) (st' := [.int ((zI M (zQ M l0 21) l1.toNatClampNeg) + (1 : Int32))]) (M' := M) rfl ?_
    exact s156_60 n    l0 l1 l2 l5 s0 ((zI M (zQ M l0 21) l1.toNatClampNeg) + (1 : Int32)) M hp hQ
  · rw [if_neg hc] at hQ
    replace hp := hp.2 hc
    refine wp_go 1 (pc' := 44) (L' := [some (.ref l0), some (.int l1), some (.int l2), none, none, some (.int l5), some (.int s0), none, none]) (st' := [.ref l0]) (M' := M) rfl ?_
    obtain ⟨hc, hp⟩ := hp
    refine wq_getQ (j := 19) rfl hc ?_
    refine wp_go 1 (pc' := 48) (L' := [some (.ref l0), some (.int l1), some (.int l2), none, none, some (.int l5), some (.int s0), none, none]) (st' := [.int l1, .ref (zQ M l0 19)]) (M' := M) rfl ?_
    obtain ⟨hc, hp⟩ := hp
    refine wq_iald rfl hc ?_
    refine wp_go 1 (pc' := 60) (L' := [some (.ref l0), some (.int l1), some (.int l2), none, none, some (.int l5), some (.int s0), none, none]) (st' := [.int (zI M (zQ M l0 19) l1.toNatClampNeg)]) (M' := M) rfl ?_
    exact s156_60 n    l0 l1 l2 l5 s0 (zI M (zQ M l0 19) l1.toNatClampNeg) M hp hQ
def b156_25 (n : Nat)  (l0 : Nat) (l1 : Int32) (l2 : Int32) (l3 : Int32) (l4 : Int32) (s0 : Int32) (M : zM) : zM := (if l2 = 0 then b156_37 n  l0 l1 l2 s0 l3 M else b156_37 n  l0 l1 l2 s0 l4 M)
def p156_25 (n : Nat)  (l0 : Nat) (l1 : Int32) (l2 : Int32) (l3 : Int32) (l4 : Int32) (s0 : Int32) (M : zM) : Prop := ((l2 = 0 → p156_37 n  l0 l1 l2 s0 l3 M) ∧ (¬ l2 = 0 → p156_37 n  l0 l1 l2 s0 l4 M))
theorem s156_25 (n : Nat)    (l0 : Nat) (l1 : Int32) (l2 : Int32) (l3 : Int32) (l4 : Int32) (s0 : Int32) (M : zM) (hp : p156_25 n  l0 l1 l2 l3 l4 s0 M) {Q : Option Value → zM → Prop} (hQ : ∀ r M1, zRV (b156_25 n  l0 l1 l2 l3 l4 s0 M) r M1 → Q r M1) : zWP 156 25 [some (.ref l0), some (.int l1), some (.int l2), some (.int l3), some (.int l4), none, none, none, none] [.int s0] M Q := by
  unfold b156_25 at hQ
  unfold p156_25 at hp
  refine wp_go 2 (pc' := 28) (L' := [some (.ref l0), some (.int l1), some (.int l2), some (.int l3), some (.int l4), some (.int s0), none, none, none]) (st' := [.int l2]) (M' := M) rfl ?_
  refine wp_if_eq (t := 36) rfl rfl (fun hc => ?_) (fun hc => ?_)
  · rw [if_pos hc] at hQ
    replace hp := hp.1 hc
    refine wp_go 1 (pc' := 37) (L' := [some (.ref l0), some (.int l1), some (.int l2), some (.int l3), some (.int l4), some (.int s0), none, none, none]) (st' := [.int l3]) (M' := M) rfl ?_
    refine wp_le [some (.ref l0), some (.int l1), some (.int l2), none, none, some (.int s0), none, none, none] (zLe_of (by simp [zLeB])) ?_
    exact s156_37 n    l0 l1 l2 s0 l3 M hp hQ
  · rw [if_neg hc] at hQ
    replace hp := hp.2 hc
    refine wp_go 2 (pc' := 37) (L' := [some (.ref l0), some (.int l1), some (.int l2), some (.int l3), some (.int l4), some (.int s0), none, none, none]) (st' := [.int l4]) (M' := M) rfl ?_
    refine wp_le [some (.ref l0), some (.int l1), some (.int l2), none, none, some (.int s0), none, none, none] (zLe_of (by simp [zLeB])) ?_
    exact s156_37 n    l0 l1 l2 s0 l4 M hp hQ
def b156_0 (n : Nat)  (l0 : Nat) (l1 : Int32) (l2 : Int32) (M : zM) : zM := (if l2 = 0 then b156_25 n  l0 l1 l2 (zI M (zQ M l0 18) l1.toNatClampNeg) (zI M (zQ M l0 20) l1.toNatClampNeg) (zI M (zQ M l0 20) l1.toNatClampNeg) M else b156_25 n  l0 l1 l2 (zI M (zQ M l0 18) l1.toNatClampNeg) (zI M (zQ M l0 20) l1.toNatClampNeg) (zI M (zQ M l0 18) l1.toNatClampNeg) M)
def p156_0 (n : Nat)  (l0 : Nat) (l1 : Int32) (l2 : Int32) (M : zM) : Prop := (zHasQ 10 57 l0 M 18) ∧ ((zOkI (zQ M l0 18) l1 M) ∧ ((zHasQ 10 63 l0 M 20) ∧ ((zOkI (zQ M l0 20) l1 M) ∧ (((l2 = 0 → p156_25 n  l0 l1 l2 (zI M (zQ M l0 18) l1.toNatClampNeg) (zI M (zQ M l0 20) l1.toNatClampNeg) (zI M (zQ M l0 20) l1.toNatClampNeg) M) ∧ (¬ l2 = 0 → p156_25 n  l0 l1 l2 (zI M (zQ M l0 18) l1.toNatClampNeg) (zI M (zQ M l0 20) l1.toNatClampNeg) (zI M (zQ M l0 18) l1.toNatClampNeg) M))))))
theorem s156_0 (n : Nat)    (l0 : Nat) (l1 : Int32) (l2 : Int32) (M : zM) (hp : p156_0 n  l0 l1 l2 M) {Q : Option Value → zM → Prop} (hQ : ∀ r M1, zRV (b156_0 n  l0 l1 l2 M) r M1 → Q r M1) : zWP 156 0 [some (.ref l0), some (.int l1), some (.int l2), none, none, none, none, none, none] [] M Q := by
  unfold b156_0 at hQ
  unfold p156_0 at hp
  refine wp_go 1 (pc' := 1) (L' := [some (.ref l0), some (.int l1), some (.int l2), none, none, none, none, none, none]) (st' := [.ref l0]) (M' := M) rfl ?_
  obtain ⟨hc, hp⟩ := hp
  refine wq_getQ (j := 18) rfl hc ?_
  refine wp_go 1 (pc' := 5) (L' := [some (.ref l0), some (.int l1), some (.int l2), none, none, none, none, none, none]) (st' := [.int l1, .ref (zQ M l0 18)]) (M' := M) rfl ?_
  obtain ⟨hc, hp⟩ := hp
  refine wq_iald rfl hc ?_
  refine wp_go 2 (pc' := 8) (L' := [some (.ref l0), some (.int l1), some (.int l2), some (.int (zI M (zQ M l0 18) l1.toNatClampNeg)), none, none, none, none, none]) (st' := [.ref l0]) (M' := M) rfl ?_
  obtain ⟨hc, hp⟩ := hp
  refine wq_getQ (j := 20) rfl hc ?_
  refine wp_go 1 (pc' := 12) (L' := [some (.ref l0), some (.int l1), some (.int l2), some (.int (zI M (zQ M l0 18) l1.toNatClampNeg)), none, none, none, none, none]) (st' := [.int l1, .ref (zQ M l0 20)]) (M' := M) rfl ?_
  obtain ⟨hc, hp⟩ := hp
  refine wq_iald rfl hc ?_
  refine wp_go 2 (pc' := 16) (L' := [some (.ref l0), some (.int l1), some (.int l2), some (.int (zI M (zQ M l0 18) l1.toNatClampNeg)), some (.int (zI M (zQ M l0 20) l1.toNatClampNeg)), none, none, none, none]) (st' := [.int l2]) (M' := M) rfl ?_
  refine wp_if_eq (t := 23) rfl rfl (fun hc => ?_) (fun hc => ?_)
  · rw [if_pos hc] at hQ
    replace hp := hp.1 hc
    refine wp_go 1 (pc' := 25) (L' := [some (.ref l0), some (.int l1), some (.int l2), some (.int (zI M (zQ M l0 18) l1.toNatClampNeg)), some (.int (zI M (zQ M l0 20) l1.toNatClampNeg)), none, none, none, none]) (st' := [.int (zI M (zQ M l0 20) l1.toNatClampNeg)]) (M' := M) rfl ?_
    exact s156_25 n    l0 l1 l2 (zI M (zQ M l0 18) l1.toNatClampNeg) (zI M (zQ M l0 20) l1.toNatClampNeg) (zI M (zQ M l0 20) l1.toNatClampNeg) M hp hQ
  · rw [if_neg hc] at hQ
    replace hp := hp.2 hc
    refine wp_go 2 (pc' := 25) (L' := [some (.ref l0), some (.int l1), some (.int l2), some (.int (zI M (zQ M l0 18) l1.toNatClampNeg)), some (.int (zI M (zQ M l0 20) l1.toNatClampNeg)), none, none, none, none]) (st' := [.int (zI M (zQ M l0 18) l1.toNatClampNeg)]) (M' := M) rfl ?_
    exact s156_25 n    l0 l1 l2 (zI M (zQ M l0 18) l1.toNatClampNeg) (zI M (zQ M l0 20) l1.toNatClampNeg) (zI M (zQ M l0 18) l1.toNatClampNeg) M hp hQ
/-! X12_putDown -/
def b157_49 (n : Nat)   (M : zM) : zM := M
def p157_49 (n : Nat)   (M : zM) : Prop := True
theorem s157_49 (n : Nat)     (M : zM) (hp : p157_49 n   M) {Q : Option Value → zM → Prop} (hQ : ∀ r M1, zRV (b157_49 n   M) r M1 → Q r M1) : zWP 157 49 [none, none, none, none, none] [] M Q := by
  unfold b157_49 at hQ
  unfold p157_49 at hp
  exact wp_ret (r := none) rfl rfl (hQ _ _ ⟨rfl, rfl⟩)
def b157_41 (n : Nat)  (l0 : Nat) (l1 : Int32) (l4 : Int32) (M : zM) : zM := b157_49 n  (zWI M (zQ M l0 44) l1.toNatClampNeg l4)
def p157_41 (n : Nat)  (l0 : Nat) (l1 : Int32) (l4 : Int32) (M : zM) : Prop := (zHasQ 10 108 l0 M 44) ∧ ((zOkT 1 (zQ M l0 44) l1 M) ∧ (p157_49 n  (zWI M (zQ M l0 44) l1.toNatClampNeg l4)))
theorem s157_41 (n : Nat)    (l0 : Nat) (l1 : Int32) (l4 : Int32) (M : zM) (hp : p157_41 n  l0 l1 l4 M) {Q : Option Value → zM → Prop} (hQ : ∀ r M1, zRV (b157_41 n  l0 l1 l4 M) r M1 → Q r M1) : zWP 157 41 [some (.ref l0), some (.int l1), none, none, some (.int l4)] [] M Q := by
  unfold b157_41 at hQ
  unfold p157_41 at hp
  refine wp_go 1 (pc' := 42) (L' := [some (.ref l0), some (.int l1), none, none, some (.int l4)]) (st' := [.ref l0]) (M' := M) rfl ?_
  obtain ⟨hc, hp⟩ := hp
  refine wq_getQ (j := 44) rfl hc ?_
  refine wp_go 2 (pc' := 48) (L' := [some (.ref l0), some (.int l1), none, none, some (.int l4)]) (st' := [.int l4, .int l1, .ref (zQ M l0 44)]) (M' := M) rfl ?_
  obtain ⟨hc, hp⟩ := hp
  refine wq_iast rfl hc ?_
  refine wp_le [none, none, none, none, none] (zLe_of (by simp [zLeB])) ?_
  exact s157_49 n    (zWI M (zQ M l0 44) l1.toNatClampNeg l4) hp hQ
def b157_34 (n : Nat)  (l0 : Nat) (l1 : Int32) (l3 : Int32) (l4 : Int32) (M : zM) : zM := b157_41 n  l0 l1 l4 (zWI M (zQ M l0 43) l1.toNatClampNeg l3)
def p157_34 (n : Nat)  (l0 : Nat) (l1 : Int32) (l3 : Int32) (l4 : Int32) (M : zM) : Prop := (zHasQ 10 105 l0 M 43) ∧ ((zOkT 1 (zQ M l0 43) l1 M) ∧ (p157_41 n  l0 l1 l4 (zWI M (zQ M l0 43) l1.toNatClampNeg l3)))
theorem s157_34 (n : Nat)    (l0 : Nat) (l1 : Int32) (l3 : Int32) (l4 : Int32) (M : zM) (hp : p157_34 n  l0 l1 l3 l4 M) {Q : Option Value → zM → Prop} (hQ : ∀ r M1, zRV (b157_34 n  l0 l1 l3 l4 M) r M1 → Q r M1) : zWP 157 34 [some (.ref l0), some (.int l1), none, some (.int l3), some (.int l4)] [] M Q := by
  unfold b157_34 at hQ
  unfold p157_34 at hp
  refine wp_go 1 (pc' := 35) (L' := [some (.ref l0), some (.int l1), none, some (.int l3), some (.int l4)]) (st' := [.ref l0]) (M' := M) rfl ?_
  obtain ⟨hc, hp⟩ := hp
  refine wq_getQ (j := 43) rfl hc ?_
  refine wp_go 2 (pc' := 40) (L' := [some (.ref l0), some (.int l1), none, some (.int l3), some (.int l4)]) (st' := [.int l3, .int l1, .ref (zQ M l0 43)]) (M' := M) rfl ?_
  obtain ⟨hc, hp⟩ := hp
  refine wq_iast rfl hc ?_
  refine wp_le [some (.ref l0), some (.int l1), none, none, some (.int l4)] (zLe_of (by simp [zLeB])) ?_
  exact s157_41 n    l0 l1 l4 (zWI M (zQ M l0 43) l1.toNatClampNeg l3) hp hQ
def b157_27 (n : Nat)  (l0 : Nat) (l1 : Int32) (l2 : Int32) (l3 : Int32) (l4 : Int32) (M : zM) : zM := b157_34 n  l0 l1 l3 l4 (zWI M (zQ M l0 42) l1.toNatClampNeg l2)
def p157_27 (n : Nat)  (l0 : Nat) (l1 : Int32) (l2 : Int32) (l3 : Int32) (l4 : Int32) (M : zM) : Prop := (zHasQ 10 102 l0 M 42) ∧ ((zOkT 1 (zQ M l0 42) l1 M) ∧ (p157_34 n  l0 l1 l3 l4 (zWI M (zQ M l0 42) l1.toNatClampNeg l2)))
theorem s157_27 (n : Nat)    (l0 : Nat) (l1 : Int32) (l2 : Int32) (l3 : Int32) (l4 : Int32) (M : zM) (hp : p157_27 n  l0 l1 l2 l3 l4 M) {Q : Option Value → zM → Prop} (hQ : ∀ r M1, zRV (b157_27 n  l0 l1 l2 l3 l4 M) r M1 → Q r M1) : zWP 157 27 [some (.ref l0), some (.int l1), some (.int l2), some (.int l3), some (.int l4)] [] M Q := by
  unfold b157_27 at hQ
  unfold p157_27 at hp
  refine wp_go 1 (pc' := 28) (L' := [some (.ref l0), some (.int l1), some (.int l2), some (.int l3), some (.int l4)]) (st' := [.ref l0]) (M' := M) rfl ?_
  obtain ⟨hc, hp⟩ := hp
  refine wq_getQ (j := 42) rfl hc ?_
  refine wp_go 2 (pc' := 33) (L' := [some (.ref l0), some (.int l1), some (.int l2), some (.int l3), some (.int l4)]) (st' := [.int l2, .int l1, .ref (zQ M l0 42)]) (M' := M) rfl ?_
  obtain ⟨hc, hp⟩ := hp
  refine wq_iast rfl hc ?_
  refine wp_le [some (.ref l0), some (.int l1), none, some (.int l3), some (.int l4)] (zLe_of (by simp [zLeB])) ?_
  exact s157_34 n    l0 l1 l3 l4 (zWI M (zQ M l0 42) l1.toNatClampNeg l2) hp hQ
def b157_20 (n : Nat)  (l0 : Nat) (l1 : Int32) (l2 : Int32) (l3 : Int32) (l4 : Int32) (M : zM) : zM := b157_27 n  l0 l1 l2 l3 l4 (zWI M (zQ M l0 41) l1.toNatClampNeg (1 : Int32))
def p157_20 (n : Nat)  (l0 : Nat) (l1 : Int32) (l2 : Int32) (l3 : Int32) (l4 : Int32) (M : zM) : Prop := (zHasQ 10 99 l0 M 41) ∧ ((zOkT 2 (zQ M l0 41) l1 M ∧ zNar .boolean (1 : Int32) = true) ∧ (p157_27 n  l0 l1 l2 l3 l4 (zWI M (zQ M l0 41) l1.toNatClampNeg (1 : Int32))))
theorem s157_20 (n : Nat)    (l0 : Nat) (l1 : Int32) (l2 : Int32) (l3 : Int32) (l4 : Int32) (M : zM) (hp : p157_20 n  l0 l1 l2 l3 l4 M) {Q : Option Value → zM → Prop} (hQ : ∀ r M1, zRV (b157_20 n  l0 l1 l2 l3 l4 M) r M1 → Q r M1) : zWP 157 20 [some (.ref l0), some (.int l1), some (.int l2), some (.int l3), some (.int l4)] [] M Q := by
  unfold b157_20 at hQ
  unfold p157_20 at hp
  refine wp_go 1 (pc' := 21) (L' := [some (.ref l0), some (.int l1), some (.int l2), some (.int l3), some (.int l4)]) (st' := [.ref l0]) (M' := M) rfl ?_
  obtain ⟨hc, hp⟩ := hp
  refine wq_getQ (j := 41) rfl hc ?_
  refine wp_go 2 (pc' := 26) (L' := [some (.ref l0), some (.int l1), some (.int l2), some (.int l3), some (.int l4)]) (st' := [.int (1 : Int32), .int l1, .ref (zQ M l0 41)]) (M' := M) rfl ?_
  obtain ⟨hc, hp⟩ := hp
  refine wq_zast rfl hc ?_
  exact s157_27 n    l0 l1 l2 l3 l4 (zWI M (zQ M l0 41) l1.toNatClampNeg (1 : Int32)) hp hQ
def b157_10 (n : Nat)  (l0 : Nat) (l1 : Int32) (l2 : Int32) (l3 : Int32) (l4 : Int32) (M : zM) : zM := b157_20 n  l0 l1 l2 l3 l4 (zWI M l0 40 ((zI M l0 40) + (1 : Int32)))
def p157_10 (n : Nat)  (l0 : Nat) (l1 : Int32) (l2 : Int32) (l3 : Int32) (l4 : Int32) (M : zM) : Prop := (zHasI 10 183 l0 M 40) ∧ ((zPutI 157 183 l0 M 40 ((zI M l0 40) + (1 : Int32))) ∧ (p157_20 n  l0 l1 l2 l3 l4 (zWI M l0 40 ((zI M l0 40) + (1 : Int32)))))
theorem s157_10 (n : Nat)    (l0 : Nat) (l1 : Int32) (l2 : Int32) (l3 : Int32) (l4 : Int32) (M : zM) (hp : p157_10 n  l0 l1 l2 l3 l4 M) {Q : Option Value → zM → Prop} (hQ : ∀ r M1, zRV (b157_10 n  l0 l1 l2 l3 l4 M) r M1 → Q r M1) : zWP 157 10 [some (.ref l0), some (.int l1), some (.int l2), some (.int l3), some (.int l4)] [] M Q := by
  unfold b157_10 at hQ
  unfold p157_10 at hp
  refine wp_go 2 (pc' := 12) (L' := [some (.ref l0), some (.int l1), some (.int l2), some (.int l3), some (.int l4)]) (st' := [.ref l0, .ref l0]) (M' := M) rfl ?_
  obtain ⟨hc, hp⟩ := hp
  refine wq_getI (j := 40) rfl hc ?_
  refine wp_go 2 (pc' := 17) (L' := [some (.ref l0), some (.int l1), some (.int l2), some (.int l3), some (.int l4)]) (st' := [.int ((zI M l0 40) + (1 : Int32)), .ref l0]) (M' := M) rfl ?_
  obtain ⟨hc, hp⟩ := hp
  refine wq_putI (j := 40) rfl hc ?_
  exact s157_20 n    l0 l1 l2 l3 l4 (zWI M l0 40 ((zI M l0 40) + (1 : Int32))) hp hQ
def b157_0 (n : Nat)  (l0 : Nat) (l1 : Int32) (l2 : Int32) (l3 : Int32) (l4 : Int32) (M : zM) : zM := b157_10 n  l0 l1 l2 l3 l4 (zWI M (zQ M l0 39) (zI M l0 40).toNatClampNeg l1)
def p157_0 (n : Nat)  (l0 : Nat) (l1 : Int32) (l2 : Int32) (l3 : Int32) (l4 : Int32) (M : zM) : Prop := (zHasQ 10 96 l0 M 39) ∧ ((zHasI 10 183 l0 M 40) ∧ ((zOkT 1 (zQ M l0 39) (zI M l0 40) M) ∧ (p157_10 n  l0 l1 l2 l3 l4 (zWI M (zQ M l0 39) (zI M l0 40).toNatClampNeg l1))))
theorem s157_0 (n : Nat)    (l0 : Nat) (l1 : Int32) (l2 : Int32) (l3 : Int32) (l4 : Int32) (M : zM) (hp : p157_0 n  l0 l1 l2 l3 l4 M) {Q : Option Value → zM → Prop} (hQ : ∀ r M1, zRV (b157_0 n  l0 l1 l2 l3 l4 M) r M1 → Q r M1) : zWP 157 0 [some (.ref l0), some (.int l1), some (.int l2), some (.int l3), some (.int l4)] [] M Q := by
  unfold b157_0 at hQ
  unfold p157_0 at hp
  refine wp_go 1 (pc' := 1) (L' := [some (.ref l0), some (.int l1), some (.int l2), some (.int l3), some (.int l4)]) (st' := [.ref l0]) (M' := M) rfl ?_
  obtain ⟨hc, hp⟩ := hp
  refine wq_getQ (j := 39) rfl hc ?_
  refine wp_go 1 (pc' := 5) (L' := [some (.ref l0), some (.int l1), some (.int l2), some (.int l3), some (.int l4)]) (st' := [.ref l0, .ref (zQ M l0 39)]) (M' := M) rfl ?_
  obtain ⟨hc, hp⟩ := hp
  refine wq_getI (j := 40) rfl hc ?_
  refine wp_go 1 (pc' := 9) (L' := [some (.ref l0), some (.int l1), some (.int l2), some (.int l3), some (.int l4)]) (st' := [.int l1, .int (zI M l0 40), .ref (zQ M l0 39)]) (M' := M) rfl ?_
  obtain ⟨hc, hp⟩ := hp
  refine wq_iast rfl hc ?_
  exact s157_10 n    l0 l1 l2 l3 l4 (zWI M (zQ M l0 39) (zI M l0 40).toNatClampNeg l1) hp hQ
