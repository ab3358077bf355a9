/-! X11_tenthsOf -/
def b97_40 (n : Nat)   (M : zM) : Int32 × zM := (((-2) : Int32), M)
def p97_40 (n : Nat)   (M : zM) : Prop := True
theorem s97_40 (n : Nat)     (M : zM) (hp : p97_40 n   M) {Q : Option Value → zM → Prop} (hQ : ∀ r M1, zRI (b97_40 n   M) r M1 → Q r M1) : zWP 97 40 [none, none, none, none] [] M Q := by
  unfold b97_40 at hQ
  unfold p97_40 at hp
  refine wp_go 1 (pc' := 42) (L' := [none, none, none, none]) (st' := [.int ((-2) : Int32)]) (M' := M) rfl ?_
  exact wp_ret (r := some (.int ((-2) : Int32))) rfl rfl (hQ _ _ ⟨rfl, rfl⟩)
def b97_28 (n : Nat)  (l1 : Int32) (s0 : Int32) (M : zM) : Int32 × zM := (if s0 = 0 then (if l1 ≤ (1148846080 : Int32) then (if ((150 : Int32) - (l1 >>> ((23 : Int32) &&& 31))) ≤ (30 : Int32) then (((((l1 &&& (8388607 : Int32)) ||| (8388608 : Int32)) * (10 : Int32)) >>> (((150 : Int32) - (l1 >>> ((23 : Int32) &&& 31))) &&& 31)), M) else ((0 : Int32), M)) else b97_40 n  M) else b97_40 n  M)
def p97_28 (n : Nat)  (l1 : Int32) (s0 : Int32) (M : zM) : Prop := ((s0 = 0 → ((l1 ≤ (1148846080 : Int32) → ((((150 : Int32) - (l1 >>> ((23 : Int32) &&& 31))) ≤ (30 : Int32) → True) ∧ (¬ ((150 : Int32) - (l1 >>> ((23 : Int32) &&& 31))) ≤ (30 : Int32) → True))) ∧ (¬ l1 ≤ (1148846080 : Int32) → p97_40 n  M))) ∧ (¬ s0 = 0 → p97_40 n  M))
theorem s97_28 (n : Nat)    (l1 : Int32) (s0 : Int32) (M : zM) (hp : p97_28 n  l1 s0 M) {Q : Option Value → zM → Prop} (hQ : ∀ r M1, zRI (b97_28 n  l1 s0 M) r M1 → Q r M1) : zWP 97 28 [none, some (.int l1), none, none] [.int s0] M Q := by
  unfold b97_28 at hQ
  unfold p97_28 at hp
  refine wp_go 2 (pc' := 30) (L' := [none, some (.int l1), some (.int s0), none]) (st' := [.int s0]) (M' := M) rfl ?_
  refine wp_if_ne (t := 40) rfl rfl (fun hc => ?_) (fun hc => ?_)
  · rw [if_neg hc] at hQ
    replace hp := hp.2 hc
    refine wp_le [none, none, none, none] (zLe_of (by simp [zLeB])) ?_
    exact s97_40 n    M hp hQ
  · rw [if_pos hc] at hQ
    replace hp := hp.1 hc
    refine wp_go 2 (pc' := 37) (L' := [none, some (.int l1), some (.int s0), none]) (st' := [.int (1148846080 : Int32), .int l1]) (M' := M) rfl ?_
    refine wp_ic_le (t := 43) rfl rfl (fun hc => ?_) (fun hc => ?_)
    · rw [if_pos hc] at hQ
      replace hp := hp.1 hc
      refine wp_go 5 (pc' := 51) (L' := [none, some (.int l1), some (.int s0), none]) (st' := [.int ((150 : Int32) - (l1 >>> ((23 : Int32) &&& 31)))]) (M' := M) rfl ?_
      refine wp_go 3 (pc' := 55) (L' := [none, some (.int l1), some (.int s0), some (.int ((150 : Int32) - (l1 >>> ((23 : Int32) &&& 31))))]) (st' := [.int (30 : Int32), .int ((150 : Int32) - (l1 >>> ((23 : Int32) &&& 31)))]) (M' := M) rfl ?_
      refine wp_ic_le (t := 60) rfl rfl (fun hc => ?_) (fun hc => ?_)
      · rw [if_pos hc] at hQ
        replace hp := hp.1 hc
        refine wp_go 5 (pc' := 69) (L' := [none, some (.int l1), some (.int s0), some (.int ((150 : Int32) - (l1 >>> ((23 : Int32) &&& 31))))]) (st' := [.int ((l1 &&& (8388607 : Int32)) ||| (8388608 : Int32))]) (M' := M) rfl ?_
        refine wp_go 4 (pc' := 74) (L' := [none, some (.int l1), some (.int s0), some (.int ((150 : Int32) - (l1 >>> ((23 : Int32) &&& 31))))]) (st' := [.int ((((l1 &&& (8388607 : Int32)) ||| (8388608 : Int32)) * (10 : Int32)) >>> (((150 : Int32) - (l1 >>> ((23 : Int32) &&& 31))) &&& 31))]) (M' := M) rfl ?_
        exact wp_ret (r := some (.int ((((l1 &&& (8388607 : Int32)) ||| (8388608 : Int32)) * (10 : Int32)) >>> (((150 : Int32) - (l1 >>> ((23 : Int32) &&& 31))) &&& 31)))) rfl rfl (hQ _ _ ⟨rfl, rfl⟩)
      · rw [if_neg hc] at hQ
        replace hp := hp.2 hc
        refine wp_go 1 (pc' := 59) (L' := [none, some (.int l1), some (.int s0), some (.int ((150 : Int32) - (l1 >>> ((23 : Int32) &&& 31))))]) (st' := [.int (0 : Int32)]) (M' := M) rfl ?_
        exact wp_ret (r := some (.int (0 : Int32))) rfl rfl (hQ _ _ ⟨rfl, rfl⟩)
    · rw [if_neg hc] at hQ
      replace hp := hp.2 hc
      refine wp_le [none, none, none, none] (zLe_of (by simp [zLeB])) ?_
      exact s97_40 n    M hp hQ
def b97_27 (n : Nat)  (l1 : Int32) (M : zM) : Int32 × zM := b97_28 n  l1 (0 : Int32) M
def p97_27 (n : Nat)  (l1 : Int32) (M : zM) : Prop := p97_28 n  l1 (0 : Int32) M
theorem s97_27 (n : Nat)    (l1 : Int32) (M : zM) (hp : p97_27 n  l1 M) {Q : Option Value → zM → Prop} (hQ : ∀ r M1, zRI (b97_27 n  l1 M) r M1 → Q r M1) : zWP 97 27 [none, some (.int l1), none, none] [] M Q := by
  unfold b97_27 at hQ
  unfold p97_27 at hp
  refine wp_go 1 (pc' := 28) (L' := [none, some (.int l1), none, none]) (st' := [.int (0 : Int32)]) (M' := M) rfl ?_
  exact s97_28 n    l1 (0 : Int32) M hp hQ
def b97_0 (n : Nat)  (l0 : Int32) (M : zM) : Int32 × zM := (if (l0 &&& (2147483647 : Int32)) ≤ (2139095040 : Int32) then (if 0 ≤ l0 then b97_27 n  (l0 &&& (2147483647 : Int32)) M else (if (l0 &&& (2147483647 : Int32)) = 0 then b97_27 n  (l0 &&& (2147483647 : Int32)) M else b97_28 n  (l0 &&& (2147483647 : Int32)) (1 : Int32) M)) else (((-1) : Int32), M))
def p97_0 (n : Nat)  (l0 : Int32) (M : zM) : Prop := (((l0 &&& (2147483647 : Int32)) ≤ (2139095040 : Int32) → ((0 ≤ l0 → p97_27 n  (l0 &&& (2147483647 : Int32)) M) ∧ (¬ 0 ≤ l0 → (((l0 &&& (2147483647 : Int32)) = 0 → p97_27 n  (l0 &&& (2147483647 : Int32)) M) ∧ (¬ (l0 &&& (2147483647 : Int32)) = 0 → p97_28 n  (l0 &&& (2147483647 : Int32)) (1 : Int32) M))))) ∧ (¬ (l0 &&& (2147483647 : Int32)) ≤ (2139095040 : Int32) → True))
theorem s97_0 (n : Nat)    (l0 : Int32) (M : zM) (hp : p97_0 n  l0 M) {Q : Option Value → zM → Prop} (hQ : ∀ r M1, zRI (b97_0 n  l0 M) r M1 → Q r M1) : zWP 97 0 [some (.int l0), none, none, none] [] M Q := by
  unfold b97_0 at hQ
  unfold p97_0 at hp
  refine wp_go 5 (pc' := 7) (L' := [some (.int l0), some (.int (l0 &&& (2147483647 : Int32))), none, none]) (st' := [.int (l0 &&& (2147483647 : Int32))]) (M' := M) rfl ?_
  refine wp_go 1 (pc' := 10) (L' := [some (.int l0), some (.int (l0 &&& (2147483647 : Int32))), none, none]) (st' := [.int (2139095040 : Int32), .int (l0 &&& (2147483647 : Int32))]) (M' := M) rfl ?_
  refine wp_ic_le (t := 15) rfl rfl (fun hc => ?_) (fun hc => ?_)
  · rw [if_pos hc] at hQ
    replace hp := hp.1 hc
    refine wp_go 1 (pc' := 16) (L' := [some (.int l0), some (.int (l0 &&& (2147483647 : Int32))), none, none]) (st' := [.int l0]) (M' := M) rfl ?_
    refine wp_if_ge (t := 27) rfl rfl (fun hc => ?_) (fun hc => ?_)
    · rw [if_pos hc] at hQ
      replace hp := hp.1 hc
      refine wp_le [none, some (.int (l0 &&& (2147483647 : Int32))), none, none] (zLe_of (by simp [zLeB])) ?_
      exact s97_27 n    (l0 &&& (2147483647 : Int32)) M hp hQ
    · rw [if_neg hc] at hQ
      replace hp := hp.2 hc
      refine wp_go 1 (pc' := 20) (L' := [some (.int l0), some (.int (l0 &&& (2147483647 : Int32))), none, none]) (st' := [.int (l0 &&& (2147483647 : Int32))]) (M' := M) rfl ?_
      refine wp_if_eq (t := 27) rfl rfl (fun hc => ?_) (fun hc => ?_)
      · rw [if_pos hc] at hQ
        replace hp := hp.1 hc
        refine wp_le [none, some (.int (l0 &&& (2147483647 : Int32))), none, none] (zLe_of (by simp [zLeB])) ?_
        exact s97_27 n    (l0 &&& (2147483647 : Int32)) M hp hQ
      · rw [if_neg hc] at hQ
        replace hp := hp.2 hc
        refine wp_go 2 (pc' := 28) (L' := [some (.int l0), some (.int (l0 &&& (2147483647 : Int32))), none, none]) (st' := [.int (1 : Int32)]) (M' := M) rfl ?_
        refine wp_le [none, some (.int (l0 &&& (2147483647 : Int32))), none, none] (zLe_of (by simp [zLeB])) ?_
        exact s97_28 n    (l0 &&& (2147483647 : Int32)) (1 : Int32) M hp hQ
  · rw [if_neg hc] at hQ
    replace hp := hp.2 hc
    refine wp_go 1 (pc' := 14) (L' := [some (.int l0), some (.int (l0 &&& (2147483647 : Int32))), none, none]) (st' := [.int ((-1) : Int32)]) (M' := M) rfl ?_
    exact wp_ret (r := some (.int ((-1) : Int32))) rfl rfl (hQ _ _ ⟨rfl, rfl⟩)
/-! X11_thick -/
def b67_16 (n : Nat)   (M : zM) : Int32 × zM := ((0 : Int32), M)
def p67_16 (n : Nat)   (M : zM) : Prop := True
theorem s67_16 (n : Nat)     (M : zM) (hp : p67_16 n   M) {Q : Option Value → zM → Prop} (hQ : ∀ r M1, zRI (b67_16 n   M) r M1 → Q r M1) : zWP 67 16 [none, none, none, none] [] M Q := by
  unfold b67_16 at hQ
  unfold p67_16 at hp
  refine wp_go 1 (pc' := 17) (L' := [none, none, none, none]) (st' := [.int (0 : Int32)]) (M' := M) rfl ?_
  exact wp_ret (r := some (.int (0 : Int32))) rfl rfl (hQ _ _ ⟨rfl, rfl⟩)
def b67_41 (n : Nat)   (M : zM) : Int32 × zM := ((1 : Int32), M)
def p67_41 (n : Nat)   (M : zM) : Prop := True
theorem s67_41 (n : Nat)     (M : zM) (hp : p67_41 n   M) {Q : Option Value → zM → Prop} (hQ : ∀ r M1, zRI (b67_41 n   M) r M1 → Q r M1) : zWP 67 41 [none, none, none, none] [] M Q := by
  unfold b67_41 at hQ
  unfold p67_41 at hp
  refine wp_go 1 (pc' := 42) (L' := [none, none, none, none]) (st' := [.int (1 : Int32)]) (M' := M) rfl ?_
  exact wp_ret (r := some (.int (1 : Int32))) rfl rfl (hQ _ _ ⟨rfl, rfl⟩)
def b67_22 (n : Nat)  (l0 : Nat) (l1 : Int32) (s0 : Int32) (M : zM) : Int32 × zM := (if s0 = ((-2) : Int32) then ((0 : Int32), M) else b67_41 n  (zWI M (zQ M (zQ M l0 0) l1.toNatClampNeg) 9 s0))
def p67_22 (n : Nat)  (l0 : Nat) (l1 : Int32) (s0 : Int32) (M : zM) : Prop := ((s0 = ((-2) : Int32) → True) ∧ (¬ s0 = ((-2) : Int32) → (zHasQ 9 11 l0 M 0) ∧ ((zOkR (zQ M l0 0) l1 M) ∧ ((zPutI 67 172 (zQ M (zQ M l0 0) l1.toNatClampNeg) M 9 s0) ∧ (p67_41 n  (zWI M (zQ M (zQ M l0 0) l1.toNatClampNeg) 9 s0))))))
theorem s67_22 (n : Nat)    (l0 : Nat) (l1 : Int32) (s0 : Int32) (M : zM) (hp : p67_22 n  l0 l1 s0 M) {Q : Option Value → zM → Prop} (hQ : ∀ r M1, zRI (b67_22 n  l0 l1 s0 M) r M1 → Q r M1) : zWP 67 22 [some (.ref l0), some (.int l1), none, none] [.int s0] M Q := by
  unfold b67_22 at hQ
  unfold p67_22 at hp
  refine wp_go 3 (pc' := 26) (L' := [some (.ref l0), some (.int l1), none, some (.int s0)]) (st' := [.int ((-2) : Int32), .int s0]) (M' := M) rfl ?_
  refine wp_ic_ne (t := 31) rfl rfl (fun hc => ?_) (fun hc => ?_)
  · rw [if_neg hc] at hQ
    replace hp := hp.2 hc
    refine wp_go 1 (pc' := 32) (L' := [some (.ref l0), some (.int l1), none, some (.int s0)]) (st' := [.ref l0]) (M' := M) rfl ?_
    obtain ⟨hc, hp⟩ := hp
    refine wq_getQ (j := 0) rfl hc ?_
    refine wp_go 1 (pc' := 36) (L' := [some (.ref l0), some (.int l1), none, some (.int s0)]) (st' := [.int l1, .ref (zQ M l0 0)]) (M' := M) rfl ?_
    obtain ⟨hc, hp⟩ := hp
    refine wq_aald rfl hc ?_
    refine wp_go 1 (pc' := 38) (L' := [some (.ref l0), some (.int l1), none, some (.int s0)]) (st' := [.int s0, .ref (zQ M (zQ M l0 0) l1.toNatClampNeg)]) (M' := M) rfl ?_
    obtain ⟨hc, hp⟩ := hp
    refine wq_putI (j := 9) rfl hc ?_
    refine wp_le [none, none, none, none] (zLe_of (by simp [zLeB])) ?_
    exact s67_41 n    (zWI M (zQ M (zQ M l0 0) l1.toNatClampNeg) 9 s0) hp hQ
  · rw [if_pos hc] at hQ
    replace hp := hp.1 hc
    refine wp_go 1 (pc' := 30) (L' := [some (.ref l0), some (.int l1), none, some (.int s0)]) (st' := [.int (0 : Int32)]) (M' := M) rfl ?_
    exact wp_ret (r := some (.int (0 : Int32))) rfl rfl (hQ _ _ ⟨rfl, rfl⟩)
def b67_13 (n : Nat)  (l0 : Nat) (l1 : Int32) (l2 : Int32) (s0 : Int32) (M : zM) : Int32 × zM := (if s0 = 0 then b67_16 n  M else b67_22 n  l0 l1 (b97_0 n l2 M).1 (b97_0 n l2 M).2)
def p67_13 (n : Nat)  (l0 : Nat) (l1 : Int32) (l2 : Int32) (s0 : Int32) (M : zM) : Prop := ((s0 = 0 → p67_16 n  M) ∧ (¬ s0 = 0 → (p97_0 n l2 M) ∧ (p67_22 n  l0 l1 (b97_0 n l2 M).1 (b97_0 n l2 M).2)))
theorem s67_13 (n : Nat)    (l0 : Nat) (l1 : Int32) (l2 : Int32) (s0 : Int32) (M : zM) (hp : p67_13 n  l0 l1 l2 s0 M) {Q : Option Value → zM → Prop} (hQ : ∀ r M1, zRI (b67_13 n  l0 l1 l2 s0 M) r M1 → Q r M1) : zWP 67 13 [some (.ref l0), some (.int l1), some (.int l2), none] [.int s0] M Q := by
  unfold b67_13 at hQ
  unfold p67_13 at hp
  refine wp_if_ne (t := 18) rfl rfl (fun hc => ?_) (fun hc => ?_)
  · rw [if_neg hc] at hQ
    replace hp := hp.2 hc
    refine wp_go 1 (pc' := 19) (L' := [some (.ref l0), some (.int l1), some (.int l2), none]) (st' := [.int l2]) (M' := M) rfl ?_
    obtain ⟨hc, hp⟩ := hp
    refine wp_calli (v := (b97_0 n l2 M).1) (M1 := (b97_0 n l2 M).2) rfl rfl rfl rfl (s97_0 n l2 M hc (fun r M1 h => h)) ?_
    refine wp_le [some (.ref l0), some (.int l1), none, none] (zLe_of (by simp [zLeB])) ?_
    exact s67_22 n    l0 l1 (b97_0 n l2 M).1 (b97_0 n l2 M).2 hp hQ
  · rw [if_pos hc] at hQ
    replace hp := hp.1 hc
    refine wp_le [none, none, none, none] (zLe_of (by simp [zLeB])) ?_
    exact s67_16 n    M hp hQ
def b67_5 (n : Nat)  (l0 : Nat) (l1 : Int32) (l2 : Int32) (s0 : Int32) (M : zM) : Int32 × zM := (if s0 = 0 then b67_16 n  M else b67_13 n  l0 l1 l2 (b94_0 n l0 l1 M).1 (b94_0 n l0 l1 M).2)
def p67_5 (n : Nat)  (l0 : Nat) (l1 : Int32) (l2 : Int32) (s0 : Int32) (M : zM) : Prop := ((s0 = 0 → p67_16 n  M) ∧ (¬ s0 = 0 → (zHasC 67 165 l0 M 94 1) ∧ ((p94_0 n l0 l1 M) ∧ (p67_13 n  l0 l1 l2 (b94_0 n l0 l1 M).1 (b94_0 n l0 l1 M).2))))
theorem s67_5 (n : Nat)    (l0 : Nat) (l1 : Int32) (l2 : Int32) (s0 : Int32) (M : zM) (hp : p67_5 n  l0 l1 l2 s0 M) {Q : Option Value → zM → Prop} (hQ : ∀ r M1, zRI (b67_5 n  l0 l1 l2 s0 M) r M1 → Q r M1) : zWP 67 5 [some (.ref l0), some (.int l1), some (.int l2), none] [.int s0] M Q := by
  unfold b67_5 at hQ
  unfold p67_5 at hp
  refine wp_if_eq (t := 16) rfl rfl (fun hc => ?_) (fun hc => ?_)
  · rw [if_pos hc] at hQ
    replace hp := hp.1 hc
    refine wp_le [none, none, none, none] (zLe_of (by simp [zLeB])) ?_
    exact s67_16 n    M hp hQ
  · rw [if_neg hc] at hQ
    replace hp := hp.2 hc
    refine wp_go 2 (pc' := 10) (L' := [some (.ref l0), some (.int l1), some (.int l2), none]) (st' := [.int l1, .ref l0]) (M' := M) rfl ?_
    obtain ⟨hv, hp⟩ := hp
    obtain ⟨hc, hp⟩ := hp
    refine wp_calli (v := (b94_0 n l0 l1 M).1) (M1 := (b94_0 n l0 l1 M).2) rfl rfl rfl (zInv_v (np := 1) rfl rfl hv rfl) (s94_0 n l0 l1 M hc (fun r M1 h => h)) ?_
    exact s67_13 n    l0 l1 l2 (b94_0 n l0 l1 M).1 (b94_0 n l0 l1 M).2 hp hQ
def b67_0 (n : Nat)  (l0 : Nat) (l1 : Int32) (l2 : Int32) (M : zM) : Int32 × zM := b67_5 n  l0 l1 l2 (b89_0 n l0 l1 M).1 (b89_0 n l0 l1 M).2
def p67_0 (n : Nat)  (l0 : Nat) (l1 : Int32) (l2 : Int32) (M : zM) : Prop := (zHasC 67 117 l0 M 89 1) ∧ ((p89_0 n l0 l1 M) ∧ (p67_5 n  l0 l1 l2 (b89_0 n l0 l1 M).1 (b89_0 n l0 l1 M).2))
theorem s67_0 (n : Nat)    (l0 : Nat) (l1 : Int32) (l2 : Int32) (M : zM) (hp : p67_0 n  l0 l1 l2 M) {Q : Option Value → zM → Prop} (hQ : ∀ r M1, zRI (b67_0 n  l0 l1 l2 M) r M1 → Q r M1) : zWP 67 0 [some (.ref l0), some (.int l1), some (.int l2), none] [] M Q := by
  unfold b67_0 at hQ
  unfold p67_0 at hp
  refine wp_go 2 (pc' := 2) (L' := [some (.ref l0), some (.int l1), some (.int l2), none]) (st' := [.int l1, .ref l0]) (M' := M) rfl ?_
  obtain ⟨hv, hp⟩ := hp
  obtain ⟨hc, hp⟩ := hp
  refine wp_calli (v := (b89_0 n l0 l1 M).1) (M1 := (b89_0 n l0 l1 M).2) rfl rfl rfl (zInv_v (np := 1) rfl rfl hv rfl) (s89_0 n l0 l1 M hc (fun r M1 h => h)) ?_
  exact s67_5 n    l0 l1 l2 (b89_0 n l0 l1 M).1 (b89_0 n l0 l1 M).2 hp hQ
/-! X11_circle -/
def b68_31 (n : Nat)   (M : zM) : Int32 × zM := ((0 : Int32), M)
def p68_31 (n : Nat)   (M : zM) : Prop := True
theorem s68_31 (n : Nat)     (M : zM) (hp : p68_31 n   M) {Q : Option Value → zM → Prop} (hQ : ∀ r M1, zRI (b68_31 n   M) r M1 → Q r M1) : zWP 68 31 [none, none, none] [] M Q := by
  unfold b68_31 at hQ
  unfold p68_31 at hp
  refine wp_go 1 (pc' := 32) (L' := [none, none, none]) (st' := [.int (0 : Int32)]) (M' := M) rfl ?_
  exact wp_ret (r := some (.int (0 : Int32))) rfl rfl (hQ _ _ ⟨rfl, rfl⟩)
def b68_45 (n : Nat)   (M : zM) : Int32 × zM := ((0 : Int32), M)
def p68_45 (n : Nat)   (M : zM) : Prop := True
theorem s68_45 (n : Nat)     (M : zM) (hp : p68_45 n   M) {Q : Option Value → zM → Prop} (hQ : ∀ r M1, zRI (b68_45 n   M) r M1 → Q r M1) : zWP 68 45 [none, none, none] [] M Q := by
  unfold b68_45 at hQ
  unfold p68_45 at hp
  refine wp_go 1 (pc' := 46) (L' := [none, none, none]) (st' := [.int (0 : Int32)]) (M' := M) rfl ?_
  exact wp_ret (r := some (.int (0 : Int32))) rfl rfl (hQ _ _ ⟨rfl, rfl⟩)
def b68_57 (n : Nat)   (M : zM) : Int32 × zM := ((1 : Int32), M)
def p68_57 (n : Nat)   (M : zM) : Prop := True
theorem s68_57 (n : Nat)     (M : zM) (hp : p68_57 n   M) {Q : Option Value → zM → Prop} (hQ : ∀ r M1, zRI (b68_57 n   M) r M1 → Q r M1) : zWP 68 57 [none, none, none] [] M Q := by
  unfold b68_57 at hQ
  unfold p68_57 at hp
  refine wp_go 1 (pc' := 58) (L' := [none, none, none]) (st' := [.int (1 : Int32)]) (M' := M) rfl ?_
  exact wp_ret (r := some (.int (1 : Int32))) rfl rfl (hQ _ _ ⟨rfl, rfl⟩)
def b68_28 (n : Nat)  (l0 : Nat) (l1 : Int32) (l2 : Int32) (s0 : Int32) (M : zM) : Int32 × zM := (if s0 = 0 then b68_31 n  M else (if l2 < (1 : Int32) then b68_45 n  M else (if l2 ≤ (200 : Int32) then b68_57 n  (zWI M (zQ M (zQ M l0 0) l1.toNatClampNeg) 10 l2) else b68_45 n  M)))
def p68_28 (n : Nat)  (l0 : Nat) (l1 : Int32) (l2 : Int32) (s0 : Int32) (M : zM) : Prop := ((s0 = 0 → p68_31 n  M) ∧ (¬ s0 = 0 → ((l2 < (1 : Int32) → p68_45 n  M) ∧ (¬ l2 < (1 : Int32) → ((l2 ≤ (200 : Int32) → (zHasQ 9 11 l0 M 0) ∧ ((zOkR (zQ M l0 0) l1 M) ∧ ((zPutI 68 178 (zQ M (zQ M l0 0) l1.toNatClampNeg) M 10 l2) ∧ (p68_57 n  (zWI M (zQ M (zQ M l0 0) l1.toNatClampNeg) 10 l2))))) ∧ (¬ l2 ≤ (200 : Int32) → p68_45 n  M))))))
theorem s68_28 (n : Nat)    (l0 : Nat) (l1 : Int32) (l2 : Int32) (s0 : Int32) (M : zM) (hp : p68_28 n  l0 l1 l2 s0 M) {Q : Option Value → zM → Prop} (hQ : ∀ r M1, zRI (b68_28 n  l0 l1 l2 s0 M) r M1 → Q r M1) : zWP 68 28 [some (.ref l0), some (.int l1), some (.int l2)] [.int s0] M Q := by
  unfold b68_28 at hQ
  unfold p68_28 at hp
  refine wp_if_ne (t := 33) rfl rfl (fun hc => ?_) (fun hc => ?_)
  · rw [if_neg hc] at hQ
    replace hp := hp.2 hc
    refine wp_go 2 (pc' := 35) (L' := [some (.ref l0), some (.int l1), some (.int l2)]) (st' := [.int (1 : Int32), .int l2]) (M' := M) rfl ?_
    refine wp_ic_lt (t := 45) rfl rfl (fun hc => ?_) (fun hc => ?_)
    · rw [if_pos hc] at hQ
      replace hp := hp.1 hc
      refine wp_le [none, none, none] (zLe_of (by simp [zLeB])) ?_
      exact s68_45 n    M hp hQ
    · rw [if_neg hc] at hQ
      replace hp := hp.2 hc
      refine wp_go 2 (pc' := 42) (L' := [some (.ref l0), some (.int l1), some (.int l2)]) (st' := [.int (200 : Int32), .int l2]) (M' := M) rfl ?_
      refine wp_ic_le (t := 47) rfl rfl (fun hc => ?_) (fun hc => ?_)
      · rw [if_pos hc] at hQ
        replace hp := hp.1 hc
        refine wp_go 1 (pc' := 48) (L' := [some (.ref l0), some (.int l1), some (.int l2)]) (st' := [.ref l0]) (M' := M) rfl ?_
        obtain ⟨hc, hp⟩ := hp
        refine wq_getQ (j := 0) rfl hc ?_
        refine wp_go 1 (pc' := 52) (L' := [some (.ref l0), some (.int l1), some (.int l2)]) (st' := [.int l1, .ref (zQ M l0 0)]) (M' := M) rfl ?_
        obtain ⟨hc, hp⟩ := hp
        refine wq_aald rfl hc ?_
        refine wp_go 1 (pc' := 54) (L' := [some (.ref l0), some (.int l1), some (.int l2)]) (st' := [.int l2, .ref (zQ M (zQ M l0 0) l1.toNatClampNeg)]) (M' := M) rfl ?_
        obtain ⟨hc, hp⟩ := hp
        refine wq_putI (j := 10) rfl hc ?_
        refine wp_le [none, none, none] (zLe_of (by simp [zLeB])) ?_
        exact s68_57 n    (zWI M (zQ M (zQ M l0 0) l1.toNatClampNeg) 10 l2) hp hQ
      · rw [if_neg hc] at hQ
        replace hp := hp.2 hc
        refine wp_le [none, none, none] (zLe_of (by simp [zLeB])) ?_
        exact s68_45 n    M hp hQ
  · rw [if_pos hc] at hQ
    replace hp := hp.1 hc
    refine wp_le [none, none, none] (zLe_of (by simp [zLeB])) ?_
    exact s68_31 n    M hp hQ
def b68_5 (n : Nat)  (l0 : Nat) (l1 : Int32) (l2 : Int32) (s0 : Int32) (M : zM) : Int32 × zM := (if s0 = 0 then b68_31 n  M else (if (zQ M (zQ M (zQ M l0 0) l1.toNatClampNeg) 6) = 1000001 then b68_28 n  l0 l1 l2 (b94_0 n l0 l1 M).1 (b94_0 n l0 l1 M).2 else b68_31 n  M))
def p68_5 (n : Nat)  (l0 : Nat) (l1 : Int32) (l2 : Int32) (s0 : Int32) (M : zM) : Prop := ((s0 = 0 → p68_31 n  M) ∧ (¬ s0 = 0 → (zHasQ 9 11 l0 M 0) ∧ ((zOkR (zQ M l0 0) l1 M) ∧ ((zHasQ 9 109 (zQ M (zQ M l0 0) l1.toNatClampNeg) M 6) ∧ ((1000000 ≤ (zQ M (zQ M (zQ M l0 0) l1.toNatClampNeg) 6) ∧ (zQ M (zQ M (zQ M l0 0) l1.toNatClampNeg) 6) < 1000006 ∧ 1000000 ≤ 1000001 ∧ 1000001 < 1000006) ∧ ((((zQ M (zQ M (zQ M l0 0) l1.toNatClampNeg) 6) = 1000001 → (zHasC 68 165 l0 M 94 1) ∧ ((p94_0 n l0 l1 M) ∧ (p68_28 n  l0 l1 l2 (b94_0 n l0 l1 M).1 (b94_0 n l0 l1 M).2))) ∧ (¬ (zQ M (zQ M (zQ M l0 0) l1.toNatClampNeg) 6) = 1000001 → p68_31 n  M))))))))
theorem s68_5 (n : Nat)    (l0 : Nat) (l1 : Int32) (l2 : Int32) (s0 : Int32) (M : zM) (hp : p68_5 n  l0 l1 l2 s0 M) {Q : Option Value → zM → Prop} (hQ : ∀ r M1, zRI (b68_5 n  l0 l1 l2 s0 M) r M1 → Q r M1) : zWP 68 5 [some (.ref l0), some (.int l1), some (.int l2)] [.int s0] M Q := by
  unfold b68_5 at hQ
  unfold p68_5 at hp
  refine wp_if_eq (t := 31) rfl rfl (fun hc => ?_) (fun hc => ?_)
  · rw [if_pos hc] at hQ
    replace hp := hp.1 hc
    refine wp_le [none, none, none] (zLe_of (by simp [zLeB])) ?_
    exact s68_31 n    M hp hQ
  · rw [if_neg hc] at hQ
    replace hp := hp.2 hc
    refine wp_go 1 (pc' := 9) (L' := [some (.ref l0), some (.int l1), some (.int l2)]) (st' := [.ref l0]) (M' := M) rfl ?_
    obtain ⟨hc, hp⟩ := hp
    refine wq_getQ (j := 0) rfl hc ?_
    refine wp_go 1 (pc' := 13) (L' := [some (.ref l0), some (.int l1), some (.int l2)]) (st' := [.int l1, .ref (zQ M l0 0)]) (M' := M) rfl ?_
    obtain ⟨hc, hp⟩ := hp
    refine wq_aald rfl hc ?_
    obtain ⟨hc, hp⟩ := hp
    refine wq_getQ (j := 6) rfl hc ?_
    refine wq_gets (j := 1) rfl rfl ?_
    obtain ⟨hc0, hp⟩ := hp
    refine wq_acmp_ne (t := 31) rfl hc0 rfl (fun hc => ?_) (fun hc => ?_)
    · rw [if_neg hc] at hQ
      replace hp := hp.2 hc
      refine wp_le [none, none, none] (zLe_of (by simp [zLeB])) ?_
      exact s68_31 n    M hp hQ
    · rw [if_pos hc] at hQ
      replace hp := hp.1 hc
      refine wp_go 2 (pc' := 25) (L' := [some (.ref l0), some (.int l1), some (.int l2)]) (st' := [.int l1, .ref l0]) (M' := M) rfl ?_
      obtain ⟨hv, hp⟩ := hp
      obtain ⟨hc, hp⟩ := hp
      refine wp_calli (v := (b94_0 n l0 l1 M).1) (M1 := (b94_0 n l0 l1 M).2) rfl rfl rfl (zInv_v (np := 1) rfl rfl hv rfl) (s94_0 n l0 l1 M hc (fun r M1 h => h)) ?_
      exact s68_28 n    l0 l1 l2 (b94_0 n l0 l1 M).1 (b94_0 n l0 l1 M).2 hp hQ
def b68_0 (n : Nat)  (l0 : Nat) (l1 : Int32) (l2 : Int32) (M : zM) : Int32 × zM := b68_5 n  l0 l1 l2 (b89_0 n l0 l1 M).1 (b89_0 n l0 l1 M).2
def p68_0 (n : Nat)  (l0 : Nat) (l1 : Int32) (l2 : Int32) (M : zM) : Prop := (zHasC 68 117 l0 M 89 1) ∧ ((p89_0 n l0 l1 M) ∧ (p68_5 n  l0 l1 l2 (b89_0 n l0 l1 M).1 (b89_0 n l0 l1 M).2))
theorem s68_0 (n : Nat)    (l0 : Nat) (l1 : Int32) (l2 : Int32) (M : zM) (hp : p68_0 n  l0 l1 l2 M) {Q : Option Value → zM → Prop} (hQ : ∀ r M1, zRI (b68_0 n  l0 l1 l2 M) r M1 → Q r M1) : zWP 68 0 [some (.ref l0), some (.int l1), some (.int l2)] [] M Q := by
  unfold b68_0 at hQ
  unfold p68_0 at hp
  refine wp_go 2 (pc' := 2) (L' := [some (.ref l0), some (.int l1), some (.int l2)]) (st' := [.int l1, .ref l0]) (M' := M) rfl ?_
  obtain ⟨hv, hp⟩ := hp
  obtain ⟨hc, hp⟩ := hp
  refine wp_calli (v := (b89_0 n l0 l1 M).1) (M1 := (b89_0 n l0 l1 M).2) rfl rfl rfl (zInv_v (np := 1) rfl rfl hv rfl) (s89_0 n l0 l1 M hc (fun r M1 h => h)) ?_
  exact s68_5 n    l0 l1 l2 (b89_0 n l0 l1 M).1 (b89_0 n l0 l1 M).2 hp hQ
/-! X11_tell -/
def b69_43 (n : Nat)   (M : zM) : Int32 × zM := ((0 : Int32), M)
def p69_43 (n : Nat)   (M : zM) : Prop := True
theorem s69_43 (n : Nat)     (M : zM) (hp : p69_43 n   M) {Q : Option Value → zM → Prop} (hQ : ∀ r M1, zRI (b69_43 n   M) r M1 → Q r M1) : zWP 69 43 [none, none, none] [] M Q := by
  unfold b69_43 at hQ
  unfold p69_43 at hp
  refine wp_go 1 (pc' := 44) (L' := [none, none, none]) (st' := [.int (0 : Int32)]) (M' := M) rfl ?_
  exact wp_ret (r := some (.int (0 : Int32))) rfl rfl (hQ _ _ ⟨rfl, rfl⟩)
def b69_50 (n : Nat)   (M : zM) : Int32 × zM := ((1 : Int32), M)
def p69_50 (n : Nat)   (M : zM) : Prop := True
theorem s69_50 (n : Nat)     (M : zM) (hp : p69_50 n   M) {Q : Option Value → zM → Prop} (hQ : ∀ r M1, zRI (b69_50 n   M) r M1 → Q r M1) : zWP 69 50 [none, none, none] [] M Q := by
  unfold b69_50 at hQ
  unfold p69_50 at hp
  refine wp_go 1 (pc' := 51) (L' := [none, none, none]) (st' := [.int (1 : Int32)]) (M' := M) rfl ?_
  exact wp_ret (r := some (.int (1 : Int32))) rfl rfl (hQ _ _ ⟨rfl, rfl⟩)
def b69_63 (n : Nat)   (M : zM) : Int32 × zM := ((0 : Int32), M)
def p69_63 (n : Nat)   (M : zM) : Prop := True
theorem s69_63 (n : Nat)     (M : zM) (hp : p69_63 n   M) {Q : Option Value → zM → Prop} (hQ : ∀ r M1, zRI (b69_63 n   M) r M1 → Q r M1) : zWP 69 63 [none, none, none] [] M Q := by
  unfold b69_63 at hQ
  unfold p69_63 at hp
  refine wp_go 1 (pc' := 64) (L' := [none, none, none]) (st' := [.int (0 : Int32)]) (M' := M) rfl ?_
  exact wp_ret (r := some (.int (0 : Int32))) rfl rfl (hQ _ _ ⟨rfl, rfl⟩)
def b69_70 (n : Nat)   (M : zM) : Int32 × zM := ((1 : Int32), M)
def p69_70 (n : Nat)   (M : zM) : Prop := True
theorem s69_70 (n : Nat)     (M : zM) (hp : p69_70 n   M) {Q : Option Value → zM → Prop} (hQ : ∀ r M1, zRI (b69_70 n   M) r M1 → Q r M1) : zWP 69 70 [none, none, none] [] M Q := by
  unfold b69_70 at hQ
  unfold p69_70 at hp
  refine wp_go 1 (pc' := 71) (L' := [none, none, none]) (st' := [.int (1 : Int32)]) (M' := M) rfl ?_
  exact wp_ret (r := some (.int (1 : Int32))) rfl rfl (hQ _ _ ⟨rfl, rfl⟩)
def b69_82 (n : Nat)   (M : zM) : Int32 × zM := ((0 : Int32), M)
def p69_82 (n : Nat)   (M : zM) : Prop := True
theorem s69_82 (n : Nat)     (M : zM) (hp : p69_82 n   M) {Q : Option Value → zM → Prop} (hQ : ∀ r M1, zRI (b69_82 n   M) r M1 → Q r M1) : zWP 69 82 [none, none, none] [] M Q := by
  unfold b69_82 at hQ
  unfold p69_82 at hp
  refine wp_go 1 (pc' := 83) (L' := [none, none, none]) (st' := [.int (0 : Int32)]) (M' := M) rfl ?_
  exact wp_ret (r := some (.int (0 : Int32))) rfl rfl (hQ _ _ ⟨rfl, rfl⟩)
def b69_89 (n : Nat)   (M : zM) : Int32 × zM := ((1 : Int32), M)
def p69_89 (n : Nat)   (M : zM) : Prop := True
theorem s69_89 (n : Nat)     (M : zM) (hp : p69_89 n   M) {Q : Option Value → zM → Prop} (hQ : ∀ r M1, zRI (b69_89 n   M) r M1 → Q r M1) : zWP 69 89 [none, none, none] [] M Q := by
  unfold b69_89 at hQ
  unfold p69_89 at hp
  refine wp_go 1 (pc' := 90) (L' := [none, none, none]) (st' := [.int (1 : Int32)]) (M' := M) rfl ?_
  exact wp_ret (r := some (.int (1 : Int32))) rfl rfl (hQ _ _ ⟨rfl, rfl⟩)
def b69_102 (n : Nat)   (M : zM) : Int32 × zM := ((0 : Int32), M)
def p69_102 (n : Nat)   (M : zM) : Prop := True
theorem s69_102 (n : Nat)     (M : zM) (hp : p69_102 n   M) {Q : Option Value → zM → Prop} (hQ : ∀ r M1, zRI (b69_102 n   M) r M1 → Q r M1) : zWP 69 102 [none, none, none] [] M Q := by
  unfold b69_102 at hQ
  unfold p69_102 at hp
  refine wp_go 1 (pc' := 103) (L' := [none, none, none]) (st' := [.int (0 : Int32)]) (M' := M) rfl ?_
  exact wp_ret (r := some (.int (0 : Int32))) rfl rfl (hQ _ _ ⟨rfl, rfl⟩)
def b69_109 (n : Nat)   (M : zM) : Int32 × zM := ((1 : Int32), M)
def p69_109 (n : Nat)   (M : zM) : Prop := True
theorem s69_109 (n : Nat)     (M : zM) (hp : p69_109 n   M) {Q : Option Value → zM → Prop} (hQ : ∀ r M1, zRI (b69_109 n   M) r M1 → Q r M1) : zWP 69 109 [none, none, none] [] M Q := by
  unfold b69_109 at hQ
  unfold p69_109 at hp
  refine wp_go 1 (pc' := 110) (L' := [none, none, none]) (st' := [.int (1 : Int32)]) (M' := M) rfl ?_
  exact wp_ret (r := some (.int (1 : Int32))) rfl rfl (hQ _ _ ⟨rfl, rfl⟩)
def b69_0 (n : Nat)  (l0 : Nat) (l1 : Int32) (l2 : Int32) (M : zM) : Int32 × zM := (if l1 = 0 then (if l2 < (1 : Int32) then b69_43 n  M else (if l2 ≤ (100 : Int32) then b69_50 n  (zWI M l0 13 l2) else b69_43 n  M)) else if l1 = 1 then (if l2 < 0 then b69_63 n  M else (if l2 ≤ (10000 : Int32) then b69_70 n  (zWI M l0 14 l2) else b69_63 n  M)) else if l1 = 2 then (if l2 < 0 then b69_82 n  M else (if l2 ≤ (100000 : Int32) then b69_89 n  (zWI M l0 15 l2) else b69_82 n  M)) else if l1 = 3 then (if l2 < 0 then b69_102 n  M else (if l2 ≤ (1000 : Int32) then b69_109 n  (zWI M l0 16 l2) else b69_102 n  M)) else ((0 : Int32), M))
def p69_0 (n : Nat)  (l0 : Nat) (l1 : Int32) (l2 : Int32) (M : zM) : Prop := ((l1 = 0 → ((l2 < (1 : Int32) → p69_43 n  M) ∧ (¬ l2 < (1 : Int32) → ((l2 ≤ (100 : Int32) → (zPutI 69 82 l0 M 13 l2) ∧ (p69_50 n  (zWI M l0 13 l2))) ∧ (¬ l2 ≤ (100 : Int32) → p69_43 n  M))))) ∧ (¬ l1 = 0 → (l1 = 1 → ((l2 < 0 → p69_63 n  M) ∧ (¬ l2 < 0 → ((l2 ≤ (10000 : Int32) → (zPutI 69 85 l0 M 14 l2) ∧ (p69_70 n  (zWI M l0 14 l2))) ∧ (¬ l2 ≤ (10000 : Int32) → p69_63 n  M))))) ∧ (¬ l1 = 1 → (l1 = 2 → ((l2 < 0 → p69_82 n  M) ∧ (¬ l2 < 0 → ((l2 ≤ (100000 : Int32) → (zPutI 69 88 l0 M 15 l2) ∧ (p69_89 n  (zWI M l0 15 l2))) ∧ (¬ l2 ≤ (100000 : Int32) → p69_82 n  M))))) ∧ (¬ l1 = 2 → (l1 = 3 → ((l2 < 0 → p69_102 n  M) ∧ (¬ l2 < 0 → ((l2 ≤ (1000 : Int32) → (zPutI 69 91 l0 M 16 l2) ∧ (p69_109 n  (zWI M l0 16 l2))) ∧ (¬ l2 ≤ (1000 : Int32) → p69_102 n  M))))) ∧ (¬ l1 = 3 → True)))))
theorem s69_0 (n : Nat)    (l0 : Nat) (l1 : Int32) (l2 : Int32) (M : zM) (hp : p69_0 n  l0 l1 l2 M) {Q : Option Value → zM → Prop} (hQ : ∀ r M1, zRI (b69_0 n  l0 l1 l2 M) r M1 → Q r M1) : zWP 69 0 [some (.ref l0), some (.int l1), some (.int l2)] [] M Q := by
  unfold b69_0 at hQ
  unfold p69_0 at hp
  refine wp_go 1 (pc' := 1) (L' := [some (.ref l0), some (.int l1), some (.int l2)]) (st' := [.int l1]) (M' := M) rfl ?_
  by_cases hc0 : l1 = 0
  · rw [if_pos hc0] at hQ
    replace hp := hp.1 hc0
    refine wp_tabI rfl hc0 (t := 32) rfl ?_
    refine wp_go 2 (pc' := 34) (L' := [some (.ref l0), some (.int l1), some (.int l2)]) (st' := [.int (1 : Int32), .int l2]) (M' := M) rfl ?_
    refine wp_ic_lt (t := 43) rfl rfl (fun hc => ?_) (fun hc => ?_)
    · rw [if_pos hc] at hQ
      replace hp := hp.1 hc
      refine wp_le [none, none, none] (zLe_of (by simp [zLeB])) ?_
      exact s69_43 n    M hp hQ
    · rw [if_neg hc] at hQ
      replace hp := hp.2 hc
      refine wp_go 2 (pc' := 40) (L' := [some (.ref l0), some (.int l1), some (.int l2)]) (st' := [.int (100 : Int32), .int l2]) (M' := M) rfl ?_
      refine wp_ic_le (t := 45) rfl rfl (fun hc => ?_) (fun hc => ?_)
      · rw [if_pos hc] at hQ
        replace hp := hp.1 hc
        refine wp_go 2 (pc' := 47) (L' := [some (.ref l0), some (.int l1), some (.int l2)]) (st' := [.int l2, .ref l0]) (M' := M) rfl ?_
        obtain ⟨hc, hp⟩ := hp
        refine wq_putI (j := 13) rfl hc ?_
        refine wp_le [none, none, none] (zLe_of (by simp [zLeB])) ?_
        exact s69_50 n    (zWI M l0 13 l2) hp hQ
      · rw [if_neg hc] at hQ
        replace hp := hp.2 hc
        refine wp_le [none, none, none] (zLe_of (by simp [zLeB])) ?_
        exact s69_43 n    M hp hQ
  rw [if_neg hc0] at hQ
  replace hp := hp.2 hc0
  by_cases hc1 : l1 = 1
  · rw [if_pos hc1] at hQ
    replace hp := hp.1 hc1
    refine wp_tabI rfl hc1 (t := 52) rfl ?_
    refine wp_go 1 (pc' := 53) (L' := [some (.ref l0), some (.int l1), some (.int l2)]) (st' := [.int l2]) (M' := M) rfl ?_
    refine wp_if_lt (t := 63) rfl rfl (fun hc => ?_) (fun hc => ?_)
    · rw [if_pos hc] at hQ
      replace hp := hp.1 hc
      refine wp_le [none, none, none] (zLe_of (by simp [zLeB])) ?_
      exact s69_63 n    M hp hQ
    · rw [if_neg hc] at hQ
      replace hp := hp.2 hc
      refine wp_go 2 (pc' := 60) (L' := [some (.ref l0), some (.int l1), some (.int l2)]) (st' := [.int (10000 : Int32), .int l2]) (M' := M) rfl ?_
      refine wp_ic_le (t := 65) rfl rfl (fun hc => ?_) (fun hc => ?_)
      · rw [if_pos hc] at hQ
        replace hp := hp.1 hc
        refine wp_go 2 (pc' := 67) (L' := [some (.ref l0), some (.int l1), some (.int l2)]) (st' := [.int l2, .ref l0]) (M' := M) rfl ?_
        obtain ⟨hc, hp⟩ := hp
        refine wq_putI (j := 14) rfl hc ?_
        refine wp_le [none, none, none] (zLe_of (by simp [zLeB])) ?_
        exact s69_70 n    (zWI M l0 14 l2) hp hQ
      · rw [if_neg hc] at hQ
        replace hp := hp.2 hc
        refine wp_le [none, none, none] (zLe_of (by simp [zLeB])) ?_
        exact s69_63 n    M hp hQ
  rw [if_neg hc1] at hQ
  replace hp := hp.2 hc1
  by_cases hc2 : l1 = 2
  · rw [if_pos hc2] at hQ
    replace hp := hp.1 hc2
    refine wp_tabI rfl hc2 (t := 72) rfl ?_
    refine wp_go 1 (pc' := 73) (L' := [some (.ref l0), some (.int l1), some (.int l2)]) (st' := [.int l2]) (M' := M) rfl ?_
    refine wp_if_lt (t := 82) rfl rfl (fun hc => ?_) (fun hc => ?_)
    · rw [if_pos hc] at hQ
      replace hp := hp.1 hc
      refine wp_le [none, none, none] (zLe_of (by simp [zLeB])) ?_
      exact s69_82 n    M hp hQ
    · rw [if_neg hc] at hQ
      replace hp := hp.2 hc
      refine wp_go 2 (pc' := 79) (L' := [some (.ref l0), some (.int l1), some (.int l2)]) (st' := [.int (100000 : Int32), .int l2]) (M' := M) rfl ?_
      refine wp_ic_le (t := 84) rfl rfl (fun hc => ?_) (fun hc => ?_)
      · rw [if_pos hc] at hQ
        replace hp := hp.1 hc
        refine wp_go 2 (pc' := 86) (L' := [some (.ref l0), some (.int l1), some (.int l2)]) (st' := [.int l2, .ref l0]) (M' := M) rfl ?_
        obtain ⟨hc, hp⟩ := hp
        refine wq_putI (j := 15) rfl hc ?_
        refine wp_le [none, none, none] (zLe_of (by simp [zLeB])) ?_
        exact s69_89 n    (zWI M l0 15 l2) hp hQ
      · rw [if_neg hc] at hQ
        replace hp := hp.2 hc
        refine wp_le [none, none, none] (zLe_of (by simp [zLeB])) ?_
        exact s69_82 n    M hp hQ
  rw [if_neg hc2] at hQ
  replace hp := hp.2 hc2
  by_cases hc3 : l1 = 3
  · rw [if_pos hc3] at hQ
    replace hp := hp.1 hc3
    refine wp_tabI rfl hc3 (t := 91) rfl ?_
    refine wp_go 1 (pc' := 92) (L' := [some (.ref l0), some (.int l1), some (.int l2)]) (st' := [.int l2]) (M' := M) rfl ?_
    refine wp_if_lt (t := 102) rfl rfl (fun hc => ?_) (fun hc => ?_)
    · rw [if_pos hc] at hQ
      replace hp := hp.1 hc
      refine wp_le [none, none, none] (zLe_of (by simp [zLeB])) ?_
      exact s69_102 n    M hp hQ
    · rw [if_neg hc] at hQ
      replace hp := hp.2 hc
      refine wp_go 2 (pc' := 99) (L' := [some (.ref l0), some (.int l1), some (.int l2)]) (st' := [.int (1000 : Int32), .int l2]) (M' := M) rfl ?_
      refine wp_ic_le (t := 104) rfl rfl (fun hc => ?_) (fun hc => ?_)
      · rw [if_pos hc] at hQ
        replace hp := hp.1 hc
        refine wp_go 2 (pc' := 106) (L' := [some (.ref l0), some (.int l1), some (.int l2)]) (st' := [.int l2, .ref l0]) (M' := M) rfl ?_
        obtain ⟨hc, hp⟩ := hp
        refine wq_putI (j := 16) rfl hc ?_
        refine wp_le [none, none, none] (zLe_of (by simp [zLeB])) ?_
        exact s69_109 n    (zWI M l0 16 l2) hp hQ
      · rw [if_neg hc] at hQ
        replace hp := hp.2 hc
        refine wp_le [none, none, none] (zLe_of (by simp [zLeB])) ?_
        exact s69_102 n    M hp hQ
  rw [if_neg hc3] at hQ
  replace hp := hp.2 hc3
  refine wp_tabO (t := 111) rfl (by have e0 : ¬ (l1).toInt = 0 := fun h => hc0 (Int32.toInt_inj.mp h); have e1 : ¬ (l1).toInt = 1 := fun h => hc1 (Int32.toInt_inj.mp h); have e2 : ¬ (l1).toInt = 2 := fun h => hc2 (Int32.toInt_inj.mp h); have e3 : ¬ (l1).toInt = 3 := fun h => hc3 (Int32.toInt_inj.mp h); omega) rfl ?_
  refine wp_go 1 (pc' := 112) (L' := [some (.ref l0), some (.int l1), some (.int l2)]) (st' := [.int (0 : Int32)]) (M' := M) rfl ?_
  exact wp_ret (r := some (.int (0 : Int32))) rfl rfl (hQ _ _ ⟨rfl, rfl⟩)
/-! X11_area -/
def b72_27 (n : Nat)   (M : zM) : Int64 × zM := (((-1) : Int64), M)
def p72_27 (n : Nat)   (M : zM) : Prop := True
theorem s72_27 (n : Nat)     (M : zM) (hp : p72_27 n   M) {Q : Option Value → zM → Prop} (hQ : ∀ r M1, zRJ (b72_27 n   M) r M1 → Q r M1) : zWP 72 27 [none, none, none] [] M Q := by
  unfold b72_27 at hQ
  unfold p72_27 at hp
  refine wp_go 1 (pc' := 30) (L' := [none, none, none]) (st' := [.long ((-1) : Int64)]) (M' := M) rfl ?_
  exact wp_ret (r := some (.long ((-1) : Int64))) rfl rfl (hQ _ _ ⟨rfl, rfl⟩)
def b72_41 (n : Nat)  (s0 : Int64) (M : zM) : Int64 × zM := (s0, M)
def p72_41 (n : Nat)  (s0 : Int64) (M : zM) : Prop := True
theorem s72_41 (n : Nat)    (s0 : Int64) (M : zM) (hp : p72_41 n  s0 M) {Q : Option Value → zM → Prop} (hQ : ∀ r M1, zRJ (b72_41 n  s0 M) r M1 → Q r M1) : zWP 72 41 [none, none, none] [.long s0] M Q := by
  unfold b72_41 at hQ
  unfold p72_41 at hp
  exact wp_ret (r := some (.long s0)) rfl rfl (hQ _ _ ⟨rfl, rfl⟩)
def b72_12 (n : Nat)  (l0 : Nat) (l1 : Int32) (l2 : Int32) (s0 : Int32) (M : zM) : Int64 × zM := (if s0 = 0 then b72_27 n  M else (if (zI M (zQ M (zQ M l0 0) l1.toNatClampNeg) 8) = 0 then b72_27 n  M else b72_41 n  (b52_0 n (zQ M (zQ M l0 0) l1.toNatClampNeg) l2 M).1 (b52_0 n (zQ M (zQ M l0 0) l1.toNatClampNeg) l2 M).2))
def p72_12 (n : Nat)  (l0 : Nat) (l1 : Int32) (l2 : Int32) (s0 : Int32) (M : zM) : Prop := ((s0 = 0 → p72_27 n  M) ∧ (¬ s0 = 0 → (zHasQ 9 11 l0 M 0) ∧ ((zOkR (zQ M l0 0) l1 M) ∧ ((zHasI 9 124 (zQ M (zQ M l0 0) l1.toNatClampNeg) M 8) ∧ ((((zI M (zQ M (zQ M l0 0) l1.toNatClampNeg) 8) = 0 → p72_27 n  M) ∧ (¬ (zI M (zQ M (zQ M l0 0) l1.toNatClampNeg) 8) = 0 → (zHasQ 9 11 l0 M 0) ∧ ((zOkR (zQ M l0 0) l1 M) ∧ ((zHasC 72 233 (zQ M (zQ M l0 0) l1.toNatClampNeg) M 52 1) ∧ ((p52_0 n (zQ M (zQ M l0 0) l1.toNatClampNeg) l2 M) ∧ (p72_41 n  (b52_0 n (zQ M (zQ M l0 0) l1.toNatClampNeg) l2 M).1 (b52_0 n (zQ M (zQ M l0 0) l1.toNatClampNeg) l2 M).2)))))))))))
theorem s72_12 (n : Nat)    (l0 : Nat) (l1 : Int32) (l2 : Int32) (s0 : Int32) (M : zM) (hp : p72_12 n  l0 l1 l2 s0 M) {Q : Option Value → zM → Prop} (hQ : ∀ r M1, zRJ (b72_12 n  l0 l1 l2 s0 M) r M1 → Q r M1) : zWP 72 12 [some (.ref l0), some (.int l1), some (.int l2)] [.int s0] M Q := by
  unfold b72_12 at hQ
  unfold p72_12 at hp
  refine wp_if_eq (t := 27) rfl rfl (fun hc => ?_) (fun hc => ?_)
  · rw [if_pos hc] at hQ
    replace hp := hp.1 hc
    refine wp_le [none, none, none] (zLe_of (by simp [zLeB])) ?_
    exact s72_27 n    M hp hQ
  · rw [if_neg hc] at hQ
    replace hp := hp.2 hc
    refine wp_go 1 (pc' := 16) (L' := [some (.ref l0), some (.int l1), some (.int l2)]) (st' := [.ref l0]) (M' := M) rfl ?_
    obtain ⟨hc, hp⟩ := hp
    refine wq_getQ (j := 0) rfl hc ?_
    refine wp_go 1 (pc' := 20) (L' := [some (.ref l0), some (.int l1), some (.int l2)]) (st' := [.int l1, .ref (zQ M l0 0)]) (M' := M) rfl ?_
    obtain ⟨hc, hp⟩ := hp
    refine wq_aald rfl hc ?_
    obtain ⟨hc, hp⟩ := hp
    refine wq_getI (j := 8) rfl hc ?_
    refine wp_if_ne (t := 31) rfl rfl (fun hc => ?_) (fun hc => ?_)
    · rw [if_neg hc] at hQ
      replace hp := hp.2 hc
      refine wp_go 1 (pc' := 32) (L' := [some (.ref l0), some (.int l1), some (.int l2)]) (st' := [.ref l0]) (M' := M) rfl ?_
      obtain ⟨hc, hp⟩ := hp
      refine wq_getQ (j := 0) rfl hc ?_
      refine wp_go 1 (pc' := 36) (L' := [some (.ref l0), some (.int l1), some (.int l2)]) (st' := [.int l1, .ref (zQ M l0 0)]) (M' := M) rfl ?_
      obtain ⟨hc, hp⟩ := hp
      refine wq_aald rfl hc ?_
      refine wp_go 1 (pc' := 38) (L' := [some (.ref l0), some (.int l1), some (.int l2)]) (st' := [.int l2, .ref (zQ M (zQ M l0 0) l1.toNatClampNeg)]) (M' := M) rfl ?_
      obtain ⟨hv, hp⟩ := hp
      obtain ⟨hc, hp⟩ := hp
      refine wp_calll (v := (b52_0 n (zQ M (zQ M l0 0) l1.toNatClampNeg) l2 M).1) (M1 := (b52_0 n (zQ M (zQ M l0 0) l1.toNatClampNeg) l2 M).2) rfl rfl rfl (zInv_v (np := 1) rfl rfl hv rfl) (s52_0 n (zQ M (zQ M l0 0) l1.toNatClampNeg) l2 M hc (fun r M1 h => h)) ?_
      refine wp_le [none, none, none] (zLe_of (by simp [zLeB])) ?_
      exact s72_41 n    (b52_0 n (zQ M (zQ M l0 0) l1.toNatClampNeg) l2 M).1 (b52_0 n (zQ M (zQ M l0 0) l1.toNatClampNeg) l2 M).2 hp hQ
    · rw [if_pos hc] at hQ
      replace hp := hp.1 hc
      refine wp_le [none, none, none] (zLe_of (by simp [zLeB])) ?_
      exact s72_27 n    M hp hQ
def b72_5 (n : Nat)  (l0 : Nat) (l1 : Int32) (l2 : Int32) (s0 : Int32) (M : zM) : Int64 × zM := (if s0 = 0 then b72_27 n  M else b72_12 n  l0 l1 l2 (b95_0 n l2 M).1 (b95_0 n l2 M).2)
def p72_5 (n : Nat)  (l0 : Nat) (l1 : Int32) (l2 : Int32) (s0 : Int32) (M : zM) : Prop := ((s0 = 0 → p72_27 n  M) ∧ (¬ s0 = 0 → (p95_0 n l2 M) ∧ (p72_12 n  l0 l1 l2 (b95_0 n l2 M).1 (b95_0 n l2 M).2)))
theorem s72_5 (n : Nat)    (l0 : Nat) (l1 : Int32) (l2 : Int32) (s0 : Int32) (M : zM) (hp : p72_5 n  l0 l1 l2 s0 M) {Q : Option Value → zM → Prop} (hQ : ∀ r M1, zRJ (b72_5 n  l0 l1 l2 s0 M) r M1 → Q r M1) : zWP 72 5 [some (.ref l0), some (.int l1), some (.int l2)] [.int s0] M Q := by
  unfold b72_5 at hQ
  unfold p72_5 at hp
  refine wp_if_eq (t := 27) rfl rfl (fun hc => ?_) (fun hc => ?_)
  · rw [if_pos hc] at hQ
    replace hp := hp.1 hc
    refine wp_le [none, none, none] (zLe_of (by simp [zLeB])) ?_
    exact s72_27 n    M hp hQ
  · rw [if_neg hc] at hQ
    replace hp := hp.2 hc
    refine wp_go 1 (pc' := 9) (L' := [some (.ref l0), some (.int l1), some (.int l2)]) (st' := [.int l2]) (M' := M) rfl ?_
    obtain ⟨hc, hp⟩ := hp
    refine wp_calli (v := (b95_0 n l2 M).1) (M1 := (b95_0 n l2 M).2) rfl rfl rfl rfl (s95_0 n l2 M hc (fun r M1 h => h)) ?_
    exact s72_12 n    l0 l1 l2 (b95_0 n l2 M).1 (b95_0 n l2 M).2 hp hQ
def b72_0 (n : Nat)  (l0 : Nat) (l1 : Int32) (l2 : Int32) (M : zM) : Int64 × zM := b72_5 n  l0 l1 l2 (b89_0 n l0 l1 M).1 (b89_0 n l0 l1 M).2
def p72_0 (n : Nat)  (l0 : Nat) (l1 : Int32) (l2 : Int32) (M : zM) : Prop := (zHasC 72 117 l0 M 89 1) ∧ ((p89_0 n l0 l1 M) ∧ (p72_5 n  l0 l1 l2 (b89_0 n l0 l1 M).1 (b89_0 n l0 l1 M).2))
theorem s72_0 (n : Nat)    (l0 : Nat) (l1 : Int32) (l2 : Int32) (M : zM) (hp : p72_0 n  l0 l1 l2 M) {Q : Option Value → zM → Prop} (hQ : ∀ r M1, zRJ (b72_0 n  l0 l1 l2 M) r M1 → Q r M1) : zWP 72 0 [some (.ref l0), some (.int l1), some (.int l2)] [] M Q := by
  unfold b72_0 at hQ
  unfold p72_0 at hp
  refine wp_go 2 (pc' := 2) (L' := [some (.ref l0), some (.int l1), some (.int l2)]) (st' := [.int l1, .ref l0]) (M' := M) rfl ?_
  obtain ⟨hv, hp⟩ := hp
  obtain ⟨hc, hp⟩ := hp
  refine wp_calli (v := (b89_0 n l0 l1 M).1) (M1 := (b89_0 n l0 l1 M).2) rfl rfl rfl (zInv_v (np := 1) rfl rfl hv rfl) (s89_0 n l0 l1 M hc (fun r M1 h => h)) ?_
  exact s72_5 n    l0 l1 l2 (b89_0 n l0 l1 M).1 (b89_0 n l0 l1 M).2 hp hQ
/-! X11_isClosed -/
def b91_25 (n : Nat)  (s0 : Int32) (M : zM) : Int32 × zM := (s0, M)
def p91_25 (n : Nat)  (s0 : Int32) (M : zM) : Prop := zNar .boolean s0 = true
theorem s91_25 (n : Nat)    (s0 : Int32) (M : zM) (hp : p91_25 n  s0 M) {Q : Option Value → zM → Prop} (hQ : ∀ r M1, zRI (b91_25 n  s0 M) r M1 → Q r M1) : zWP 91 25 [none, none] [.int s0] M Q := by
  unfold b91_25 at hQ
  unfold p91_25 at hp
  exact wp_retz rfl rfl hp (hQ _ _ ⟨rfl, rfl⟩)
def b91_24 (n : Nat)   (M : zM) : Int32 × zM := b91_25 n  (0 : Int32) M
def p91_24 (n : Nat)   (M : zM) : Prop := p91_25 n  (0 : Int32) M
theorem s91_24 (n : Nat)     (M : zM) (hp : p91_24 n   M) {Q : Option Value → zM → Prop} (hQ : ∀ r M1, zRI (b91_24 n   M) r M1 → Q r M1) : zWP 91 24 [none, none] [] M Q := by
  unfold b91_24 at hQ
  unfold p91_24 at hp
  refine wp_go 1 (pc' := 25) (L' := [none, none]) (st' := [.int (0 : Int32)]) (M' := M) rfl ?_
  exact s91_25 n    (0 : Int32) M hp hQ
def b91_5 (n : Nat)  (l0 : Nat) (l1 : Int32) (s0 : Int32) (M : zM) : Int32 × zM := (if s0 = 0 then b91_24 n  M else (if (zI M (zQ M (zQ M l0 0) l1.toNatClampNeg) 8) = 0 then b91_24 n  M else b91_25 n  (1 : Int32) M))
def p91_5 (n : Nat)  (l0 : Nat) (l1 : Int32) (s0 : Int32) (M : zM) : Prop := ((s0 = 0 → p91_24 n  M) ∧ (¬ s0 = 0 → (zHasQ 9 11 l0 M 0) ∧ ((zOkR (zQ M l0 0) l1 M) ∧ ((zHasI 9 124 (zQ M (zQ M l0 0) l1.toNatClampNeg) M 8) ∧ ((((zI M (zQ M (zQ M l0 0) l1.toNatClampNeg) 8) = 0 → p91_24 n  M) ∧ (¬ (zI M (zQ M (zQ M l0 0) l1.toNatClampNeg) 8) = 0 → p91_25 n  (1 : Int32) M)))))))
theorem s91_5 (n : Nat)    (l0 : Nat) (l1 : Int32) (s0 : Int32) (M : zM) (hp : p91_5 n  l0 l1 s0 M) {Q : Option Value → zM → Prop} (hQ : ∀ r M1, zRI (b91_5 n  l0 l1 s0 M) r M1 → Q r M1) : zWP 91 5 [some (.ref l0), some (.int l1)] [.int s0] M Q := by
  unfold b91_5 at hQ
  unfold p91_5 at hp
  refine wp_if_eq (t := 24) rfl rfl (fun hc => ?_) (fun hc => ?_)
  · rw [if_pos hc] at hQ
    replace hp := hp.1 hc
    refine wp_le [none, none] (zLe_of (by simp [zLeB])) ?_
    exact s91_24 n    M hp hQ
  · rw [if_neg hc] at hQ
    replace hp := hp.2 hc
    refine wp_go 1 (pc' := 9) (L' := [some (.ref l0), some (.int l1)]) (st' := [.ref l0]) (M' := M) rfl ?_
    obtain ⟨hc, hp⟩ := hp
    refine wq_getQ (j := 0) rfl hc ?_
    refine wp_go 1 (pc' := 13) (L' := [some (.ref l0), some (.int l1)]) (st' := [.int l1, .ref (zQ M l0 0)]) (M' := M) rfl ?_
    obtain ⟨hc, hp⟩ := hp
    refine wq_aald rfl hc ?_
    obtain ⟨hc, hp⟩ := hp
    refine wq_getI (j := 8) rfl hc ?_
    refine wp_if_eq (t := 24) rfl rfl (fun hc => ?_) (fun hc => ?_)
    · rw [if_pos hc] at hQ
      replace hp := hp.1 hc
      refine wp_le [none, none] (zLe_of (by simp [zLeB])) ?_
      exact s91_24 n    M hp hQ
    · rw [if_neg hc] at hQ
      replace hp := hp.2 hc
      refine wp_go 2 (pc' := 25) (L' := [some (.ref l0), some (.int l1)]) (st' := [.int (1 : Int32)]) (M' := M) rfl ?_
      refine wp_le [none, none] (zLe_of (by simp [zLeB])) ?_
      exact s91_25 n    (1 : Int32) M hp hQ
def b91_0 (n : Nat)  (l0 : Nat) (l1 : Int32) (M : zM) : Int32 × zM := b91_5 n  l0 l1 (b89_0 n l0 l1 M).1 (b89_0 n l0 l1 M).2
def p91_0 (n : Nat)  (l0 : Nat) (l1 : Int32) (M : zM) : Prop := (zHasC 91 117 l0 M 89 1) ∧ ((p89_0 n l0 l1 M) ∧ (p91_5 n  l0 l1 (b89_0 n l0 l1 M).1 (b89_0 n l0 l1 M).2))
theorem s91_0 (n : Nat)    (l0 : Nat) (l1 : Int32) (M : zM) (hp : p91_0 n  l0 l1 M) {Q : Option Value → zM → Prop} (hQ : ∀ r M1, zRI (b91_0 n  l0 l1 M) r M1 → Q r M1) : zWP 91 0 [some (.ref l0), some (.int l1)] [] M Q := by
  unfold b91_0 at hQ
  unfold p91_0 at hp
  refine wp_go 2 (pc' := 2) (L' := [some (.ref l0), some (.int l1)]) (st' := [.int l1, .ref l0]) (M' := M) rfl ?_
  obtain ⟨hv, hp⟩ := hp
  obtain ⟨hc, hp⟩ := hp
  refine wp_calli (v := (b89_0 n l0 l1 M).1) (M1 := (b89_0 n l0 l1 M).2) rfl rfl rfl (zInv_v (np := 1) rfl rfl hv rfl) (s89_0 n l0 l1 M hc (fun r M1 h => h)) ?_
  exact s91_5 n    l0 l1 (b89_0 n l0 l1 M).1 (b89_0 n l0 l1 M).2 hp hQ
/-! X11_canMeet -/
def b93_45 (n : Nat)  (s0 : Int32) (M : zM) : Int32 × zM := (s0, M)
def p93_45 (n : Nat)  (s0 : Int32) (M : zM) : Prop := zNar .boolean s0 = true
theorem s93_45 (n : Nat)    (s0 : Int32) (M : zM) (hp : p93_45 n  s0 M) {Q : Option Value → zM → Prop} (hQ : ∀ r M1, zRI (b93_45 n  s0 M) r M1 → Q r M1) : zWP 93 45 [none, none, none, none, none] [.int s0] M Q := by
  unfold b93_45 at hQ
  unfold p93_45 at hp
  exact wp_retz rfl rfl hp (hQ _ _ ⟨rfl, rfl⟩)
def b93_44 (n : Nat)   (M : zM) : Int32 × zM := b93_45 n  (0 : Int32) M
def p93_44 (n : Nat)   (M : zM) : Prop := p93_45 n  (0 : Int32) M
theorem s93_44 (n : Nat)     (M : zM) (hp : p93_44 n   M) {Q : Option Value → zM → Prop} (hQ : ∀ r M1, zRI (b93_44 n   M) r M1 → Q r M1) : zWP 93 44 [none, none, none, none, none] [] M Q := by
  unfold b93_44 at hQ
  unfold p93_44 at hp
  refine wp_go 1 (pc' := 45) (L' := [none, none, none, none, none]) (st' := [.int (0 : Int32)]) (M' := M) rfl ?_
  exact s93_45 n    (0 : Int32) M hp hQ
def b93_37 (n : Nat)  (s0 : Int32) (M : zM) : Int32 × zM := (if s0 = 0 then b93_44 n  M else b93_45 n  (1 : Int32) M)
def p93_37 (n : Nat)  (s0 : Int32) (M : zM) : Prop := ((s0 = 0 → p93_44 n  M) ∧ (¬ s0 = 0 → p93_45 n  (1 : Int32) M))
theorem s93_37 (n : Nat)    (s0 : Int32) (M : zM) (hp : p93_37 n  s0 M) {Q : Option Value → zM → Prop} (hQ : ∀ r M1, zRI (b93_37 n  s0 M) r M1 → Q r M1) : zWP 93 37 [none, none, none, none, none] [.int s0] M Q := by
  unfold b93_37 at hQ
  unfold p93_37 at hp
  refine wp_if_eq (t := 44) rfl rfl (fun hc => ?_) (fun hc => ?_)
  · rw [if_pos hc] at hQ
    replace hp := hp.1 hc
    exact s93_44 n    M hp hQ
  · rw [if_neg hc] at hQ
    replace hp := hp.2 hc
    refine wp_go 2 (pc' := 45) (L' := [none, none, none, none, none]) (st' := [.int (1 : Int32)]) (M' := M) rfl ?_
    exact s93_45 n    (1 : Int32) M hp hQ
def b93_27 (n : Nat)  (l0 : Nat) (l3 : Int32) (l4 : Int32) (s0 : Int32) (M : zM) : Int32 × zM := (if s0 = 0 then b93_44 n  M else b93_37 n  (b90_0 n l0 l3 l4 M).1 (b90_0 n l0 l3 l4 M).2)
def p93_27 (n : Nat)  (l0 : Nat) (l3 : Int32) (l4 : Int32) (s0 : Int32) (M : zM) : Prop := ((s0 = 0 → p93_44 n  M) ∧ (¬ s0 = 0 → (zHasC 93 213 l0 M 90 2) ∧ ((p90_0 n l0 l3 l4 M) ∧ (p93_37 n  (b90_0 n l0 l3 l4 M).1 (b90_0 n l0 l3 l4 M).2))))
theorem s93_27 (n : Nat)    (l0 : Nat) (l3 : Int32) (l4 : Int32) (s0 : Int32) (M : zM) (hp : p93_27 n  l0 l3 l4 s0 M) {Q : Option Value → zM → Prop} (hQ : ∀ r M1, zRI (b93_27 n  l0 l3 l4 s0 M) r M1 → Q r M1) : zWP 93 27 [some (.ref l0), none, none, some (.int l3), some (.int l4)] [.int s0] M Q := by
  unfold b93_27 at hQ
  unfold p93_27 at hp
  refine wp_if_eq (t := 44) rfl rfl (fun hc => ?_) (fun hc => ?_)
  · rw [if_pos hc] at hQ
    replace hp := hp.1 hc
    refine wp_le [none, none, none, none, none] (zLe_of (by simp [zLeB])) ?_
    exact s93_44 n    M hp hQ
  · rw [if_neg hc] at hQ
    replace hp := hp.2 hc
    refine wp_go 3 (pc' := 34) (L' := [some (.ref l0), none, none, some (.int l3), some (.int l4)]) (st' := [.int l4, .int l3, .ref l0]) (M' := M) rfl ?_
    obtain ⟨hv, hp⟩ := hp
    obtain ⟨hc, hp⟩ := hp
    refine wp_calli (v := (b90_0 n l0 l3 l4 M).1) (M1 := (b90_0 n l0 l3 l4 M).2) rfl rfl rfl (zInv_v (np := 2) rfl rfl hv rfl) (s90_0 n l0 l3 l4 M hc (fun r M1 h => h)) ?_
    refine wp_le [none, none, none, none, none] (zLe_of (by simp [zLeB])) ?_
    exact s93_37 n    (b90_0 n l0 l3 l4 M).1 (b90_0 n l0 l3 l4 M).2 hp hQ
def b93_13 (n : Nat)  (l0 : Nat) (l1 : Int32) (l2 : Int32) (l3 : Int32) (l4 : Int32) (s0 : Int32) (M : zM) : Int32 × zM := (if s0 = 0 then b93_44 n  M else (if l1 = l3 then b93_44 n  M else b93_27 n  l0 l3 l4 (b90_0 n l0 l1 l2 M).1 (b90_0 n l0 l1 l2 M).2))
def p93_13 (n : Nat)  (l0 : Nat) (l1 : Int32) (l2 : Int32) (l3 : Int32) (l4 : Int32) (s0 : Int32) (M : zM) : Prop := ((s0 = 0 → p93_44 n  M) ∧ (¬ s0 = 0 → ((l1 = l3 → p93_44 n  M) ∧ (¬ l1 = l3 → (zHasC 93 213 l0 M 90 2) ∧ ((p90_0 n l0 l1 l2 M) ∧ (p93_27 n  l0 l3 l4 (b90_0 n l0 l1 l2 M).1 (b90_0 n l0 l1 l2 M).2))))))
theorem s93_13 (n : Nat)    (l0 : Nat) (l1 : Int32) (l2 : Int32) (l3 : Int32) (l4 : Int32) (s0 : Int32) (M : zM) (hp : p93_13 n  l0 l1 l2 l3 l4 s0 M) {Q : Option Value → zM → Prop} (hQ : ∀ r M1, zRI (b93_13 n  l0 l1 l2 l3 l4 s0 M) r M1 → Q r M1) : zWP 93 13 [some (.ref l0), some (.int l1), some (.int l2), some (.int l3), some (.int l4)] [.int s0] M Q := by
  unfold b93_13 at hQ
  unfold p93_13 at hp
  refine wp_if_eq (t := 44) rfl rfl (fun hc => ?_) (fun hc => ?_)
  · rw [if_pos hc] at hQ
    replace hp := hp.1 hc
    refine wp_le [none, none, none, none, none] (zLe_of (by simp [zLeB])) ?_
    exact s93_44 n    M hp hQ
  · rw [if_neg hc] at hQ
    replace hp := hp.2 hc
    refine wp_go 2 (pc' := 18) (L' := [some (.ref l0), some (.int l1), some (.int l2), some (.int l3), some (.int l4)]) (st' := [.int l3, .int l1]) (M' := M) rfl ?_
    refine wp_ic_eq (t := 44) rfl rfl (fun hc => ?_) (fun hc => ?_)
    · rw [if_pos hc] at hQ
      replace hp := hp.1 hc
      refine wp_le [none, none, none, none, none] (zLe_of (by simp [zLeB])) ?_
      exact s93_44 n    M hp hQ
    · rw [if_neg hc] at hQ
      replace hp := hp.2 hc
      refine wp_go 3 (pc' := 24) (L' := [some (.ref l0), some (.int l1), some (.int l2), some (.int l3), some (.int l4)]) (st' := [.int l2, .int l1, .ref l0]) (M' := M) rfl ?_
      obtain ⟨hv, hp⟩ := hp
      obtain ⟨hc, hp⟩ := hp
      refine wp_calli (v := (b90_0 n l0 l1 l2 M).1) (M1 := (b90_0 n l0 l1 l2 M).2) rfl rfl rfl (zInv_v (np := 2) rfl rfl hv rfl) (s90_0 n l0 l1 l2 M hc (fun r M1 h => h)) ?_
      refine wp_le [some (.ref l0), none, none, some (.int l3), some (.int l4)] (zLe_of (by simp [zLeB])) ?_
      exact s93_27 n    l0 l3 l4 (b90_0 n l0 l1 l2 M).1 (b90_0 n l0 l1 l2 M).2 hp hQ
def b93_5 (n : Nat)  (l0 : Nat) (l1 : Int32) (l2 : Int32) (l3 : Int32) (l4 : Int32) (s0 : Int32) (M : zM) : Int32 × zM := (if s0 = 0 then b93_44 n  M else b93_13 n  l0 l1 l2 l3 l4 (b91_0 n l0 l3 M).1 (b91_0 n l0 l3 M).2)
def p93_5 (n : Nat)  (l0 : Nat) (l1 : Int32) (l2 : Int32) (l3 : Int32) (l4 : Int32) (s0 : Int32) (M : zM) : Prop := ((s0 = 0 → p93_44 n  M) ∧ (¬ s0 = 0 → (zHasC 93 254 l0 M 91 1) ∧ ((p91_0 n l0 l3 M) ∧ (p93_13 n  l0 l1 l2 l3 l4 (b91_0 n l0 l3 M).1 (b91_0 n l0 l3 M).2))))
theorem s93_5 (n : Nat)    (l0 : Nat) (l1 : Int32) (l2 : Int32) (l3 : Int32) (l4 : Int32) (s0 : Int32) (M : zM) (hp : p93_5 n  l0 l1 l2 l3 l4 s0 M) {Q : Option Value → zM → Prop} (hQ : ∀ r M1, zRI (b93_5 n  l0 l1 l2 l3 l4 s0 M) r M1 → Q r M1) : zWP 93 5 [some (.ref l0), some (.int l1), some (.int l2), some (.int l3), some (.int l4)] [.int s0] M Q := by
  unfold b93_5 at hQ
  unfold p93_5 at hp
  refine wp_if_eq (t := 44) rfl rfl (fun hc => ?_) (fun hc => ?_)
  · rw [if_pos hc] at hQ
    replace hp := hp.1 hc
    refine wp_le [none, none, none, none, none] (zLe_of (by simp [zLeB])) ?_
    exact s93_44 n    M hp hQ
  · rw [if_neg hc] at hQ
    replace hp := hp.2 hc
    refine wp_go 2 (pc' := 10) (L' := [some (.ref l0), some (.int l1), some (.int l2), some (.int l3), some (.int l4)]) (st' := [.int l3, .ref l0]) (M' := M) rfl ?_
    obtain ⟨hv, hp⟩ := hp
    obtain ⟨hc, hp⟩ := hp
    refine wp_calli (v := (b91_0 n l0 l3 M).1) (M1 := (b91_0 n l0 l3 M).2) rfl rfl rfl (zInv_v (np := 1) rfl rfl hv rfl) (s91_0 n l0 l3 M hc (fun r M1 h => h)) ?_
    exact s93_13 n    l0 l1 l2 l3 l4 (b91_0 n l0 l3 M).1 (b91_0 n l0 l3 M).2 hp hQ
def b93_0 (n : Nat)  (l0 : Nat) (l1 : Int32) (l2 : Int32) (l3 : Int32) (l4 : Int32) (M : zM) : Int32 × zM := b93_5 n  l0 l1 l2 l3 l4 (b91_0 n l0 l1 M).1 (b91_0 n l0 l1 M).2
def p93_0 (n : Nat)  (l0 : Nat) (l1 : Int32) (l2 : Int32) (l3 : Int32) (l4 : Int32) (M : zM) : Prop := (zHasC 93 254 l0 M 91 1) ∧ ((p91_0 n l0 l1 M) ∧ (p93_5 n  l0 l1 l2 l3 l4 (b91_0 n l0 l1 M).1 (b91_0 n l0 l1 M).2))
theorem s93_0 (n : Nat)    (l0 : Nat) (l1 : Int32) (l2 : Int32) (l3 : Int32) (l4 : Int32) (M : zM) (hp : p93_0 n  l0 l1 l2 l3 l4 M) {Q : Option Value → zM → Prop} (hQ : ∀ r M1, zRI (b93_0 n  l0 l1 l2 l3 l4 M) r M1 → Q r M1) : zWP 93 0 [some (.ref l0), some (.int l1), some (.int l2), some (.int l3), some (.int l4)] [] M Q := by
  unfold b93_0 at hQ
  unfold p93_0 at hp
  refine wp_go 2 (pc' := 2) (L' := [some (.ref l0), some (.int l1), some (.int l2), some (.int l3), some (.int l4)]) (st' := [.int l1, .ref l0]) (M' := M) rfl ?_
  obtain ⟨hv, hp⟩ := hp
  obtain ⟨hc, hp⟩ := hp
  refine wp_calli (v := (b91_0 n l0 l1 M).1) (M1 := (b91_0 n l0 l1 M).2) rfl rfl rfl (zInv_v (np := 1) rfl rfl hv rfl) (s91_0 n l0 l1 M hc (fun r M1 h => h)) ?_
  exact s93_5 n    l0 l1 l2 l3 l4 (b91_0 n l0 l1 M).1 (b91_0 n l0 l1 M).2 hp hQ
/-! X11_measure -/
def b98_56 (n : Nat)   (M : zM) : zM := M
def p98_56 (n : Nat)   (M : zM) : Prop := True
theorem s98_56 (n : Nat)     (M : zM) (hp : p98_56 n   M) {Q : Option Value → zM → Prop} (hQ : ∀ r M1, zRV (b98_56 n   M) r M1 → Q r M1) : zWP 98 56 [none, none, none, none, none, none] [] M Q := by
  unfold b98_56 at hQ
  unfold p98_56 at hp
  exact wp_ret (r := none) rfl rfl (hQ _ _ ⟨rfl, rfl⟩)
def b98_29 (n : Nat)   (M : zM) : zM := b98_56 n  M
def p98_29 (n : Nat)   (M : zM) : Prop := p98_56 n  M
theorem s98_29 (n : Nat)     (M : zM) (hp : p98_29 n   M) {Q : Option Value → zM → Prop} (hQ : ∀ r M1, zRV (b98_29 n   M) r M1 → Q r M1) : zWP 98 29 [none, none, none, none, none, none] [] M Q := by
  unfold b98_29 at hQ
  unfold p98_29 at hp
  refine wp_go 1 (pc' := 56) (L' := [none, none, none, none, none, none]) (st' := []) (M' := M) rfl ?_
  exact s98_56 n    M hp hQ
def b98_0 (n : Nat)  (l0 : Nat) (l1 : Int32) (l2 : Int32) (l3 : Int32) (l4 : Int32) (l5 : Int32) (M : zM) : zM := (if l3 ≤ l1 then b98_56 n  (b55_0 n (zQ M l0 8) (zQ M (zQ M l0 0) l3.toNatClampNeg) l4 (zQ M (zQ M l0 0) l1.toNatClampNeg) l2 l5 M) else b98_29 n  (b55_0 n (zQ M l0 8) (zQ M (zQ M l0 0) l1.toNatClampNeg) l2 (zQ M (zQ M l0 0) l3.toNatClampNeg) l4 l5 M))
def p98_0 (n : Nat)  (l0 : Nat) (l1 : Int32) (l2 : Int32) (l3 : Int32) (l4 : Int32) (l5 : Int32) (M : zM) : Prop := ((l3 ≤ l1 → (zHasQ 9 61 l0 M 8) ∧ ((zHasQ 9 11 l0 M 0) ∧ ((zOkR (zQ M l0 0) l3 M) ∧ ((zHasQ 9 11 l0 M 0) ∧ ((zOkR (zQ M l0 0) l1 M) ∧ ((zHasC 98 386 (zQ M l0 8) M 55 5) ∧ ((p55_0 n (zQ M l0 8) (zQ M (zQ M l0 0) l3.toNatClampNeg) l4 (zQ M (zQ M l0 0) l1.toNatClampNeg) l2 l5 M) ∧ (p98_56 n  (b55_0 n (zQ M l0 8) (zQ M (zQ M l0 0) l3.toNatClampNeg) l4 (zQ M (zQ M l0 0) l1.toNatClampNeg) l2 l5 M))))))))) ∧ (¬ l3 ≤ l1 → (zHasQ 9 61 l0 M 8) ∧ ((zHasQ 9 11 l0 M 0) ∧ ((zOkR (zQ M l0 0) l1 M) ∧ ((zHasQ 9 11 l0 M 0) ∧ ((zOkR (zQ M l0 0) l3 M) ∧ ((zHasC 98 386 (zQ M l0 8) M 55 5) ∧ ((p55_0 n (zQ M l0 8) (zQ M (zQ M l0 0) l1.toNatClampNeg) l2 (zQ M (zQ M l0 0) l3.toNatClampNeg) l4 l5 M) ∧ (p98_29 n  (b55_0 n (zQ M l0 8) (zQ M (zQ M l0 0) l1.toNatClampNeg) l2 (zQ M (zQ M l0 0) l3.toNatClampNeg) l4 l5 M))))))))))
theorem s98_0 (n : Nat)    (l0 : Nat) (l1 : Int32) (l2 : Int32) (l3 : Int32) (l4 : Int32) (l5 : Int32) (M : zM) (hp : p98_0 n  l0 l1 l2 l3 l4 l5 M) {Q : Option Value → zM → Prop} (hQ : ∀ r M1, zRV (b98_0 n  l0 l1 l2 l3 l4 l5 M) r M1 → Q r M1) : zWP 98 0 [some (.ref l0), some (.int l1), some (.int l2), some (.int l3), some (.int l4), some (.int l5)] [] M Q := by
  unfold b98_0 at hQ
  unfold p98_0 at hp
  refine wp_go 2 (pc' := 2) (L' := [some (.ref l0), some (.int l1), some (.int l2), some (.int l3), some (.int l4), some (.int l5)]) (st' := [.int l3, .int l1]) (M' := M) rfl ?_
  refine wp_ic_ge (t := 32) rfl rfl (fun hc => ?_) (fun hc => ?_)
  · rw [if_pos hc] at hQ
    replace hp := hp.1 hc
    refine wp_go 1 (pc' := 33) (L' := [some (.ref l0), some (.int l1), some (.int l2), some (.int l3), some (.int l4), some (.int l5)]) (st' := [.ref l0]) (M' := M) rfl ?_
    obtain ⟨hc, hp⟩ := hp
    refine wq_getQ (j := 8) rfl hc ?_
    refine wp_go 1 (pc' := 37) (L' := [some (.ref l0), some (.int l1), some (.int l2), some (.int l3), some (.int l4), some (.int l5)]) (st' := [.ref l0, .ref (zQ M l0 8)]) (M' := M) rfl ?_
    obtain ⟨hc, hp⟩ := hp
    refine wq_getQ (j := 0) rfl hc ?_
    refine wp_go 1 (pc' := 41) (L' := [some (.ref l0), some (.int l1), some (.int l2), some (.int l3), some (.int l4), some (.int l5)]) (st' := [.int l3, .ref (zQ M l0 0), .ref (zQ M l0 8)]) (M' := M) rfl ?_
    obtain ⟨hc, hp⟩ := hp
    refine wq_aald rfl hc ?_
    refine wp_go 2 (pc' := 45) (L' := [some (.ref l0), some (.int l1), some (.int l2), some (.int l3), some (.int l4), some (.int l5)]) (st' := [.ref l0, .int l4, .ref (zQ M (zQ M l0 0) l3.toNatClampNeg), .ref (zQ M l0 8)]) (M' := M) rfl ?_
    obtain ⟨hc, hp⟩ := hp
    refine wq_getQ (j := 0) rfl hc ?_
    refine wp_go 1 (pc' := 49) (L' := [some (.ref l0), some (.int l1), some (.int l2), some (.int l3), some (.int l4), some (.int l5)]) (st' := [.int l1, .ref (zQ M l0 0), .int l4, .ref (zQ M (zQ M l0 0) l3.toNatClampNeg), .ref (zQ M l0 8)]) (M' := M) rfl ?_
    obtain ⟨hc, hp⟩ := hp
    refine wq_aald rfl hc ?_
    refine wp_go 2 (pc' := 53) (L' := [some (.ref l0), some (.int l1), some (.int l2), some (.int l3), some (.int l4), some (.int l5)]) (st' := [.int l5, .int l2, .ref (zQ M (zQ M l0 0) l1.toNatClampNeg), .int l4, .ref (zQ M (zQ M l0 0) l3.toNatClampNeg), .ref (zQ M l0 8)]) (M' := M) rfl ?_
    obtain ⟨hv, hp⟩ := hp
    obtain ⟨hc, hp⟩ := hp
    refine wp_callv (M1 := (b55_0 n (zQ M l0 8) (zQ M (zQ M l0 0) l3.toNatClampNeg) l4 (zQ M (zQ M l0 0) l1.toNatClampNeg) l2 l5 M)) rfl rfl rfl (zInv_v (np := 5) rfl rfl hv rfl) (s55_0 n (zQ M l0 8) (zQ M (zQ M l0 0) l3.toNatClampNeg) l4 (zQ M (zQ M l0 0) l1.toNatClampNeg) l2 l5 M hc (fun r M1 h => h)) ?_
    refine wp_le [none, none, none, none, none, none] (zLe_of (by simp [zLeB])) ?_
    exact s98_56 n    (b55_0 n (zQ M l0 8) (zQ M (zQ M l0 0) l3.toNatClampNeg) l4 (zQ M (zQ M l0 0) l1.toNatClampNeg) l2 l5 M) hp hQ
  · rw [if_neg hc] at hQ
    replace hp := hp.2 hc
    refine wp_go 1 (pc' := 6) (L' := [some (.ref l0), some (.int l1), some (.int l2), some (.int l3), some (.int l4), some (.int l5)]) (st' := [.ref l0]) (M' := M) rfl ?_
    obtain ⟨hc, hp⟩ := hp
    refine wq_getQ (j := 8) rfl hc ?_
    refine wp_go 1 (pc' := 10) (L' := [some (.ref l0), some (.int l1), some (.int l2), some (.int l3), some (.int l4), some (.int l5)]) (st' := [.ref l0, .ref (zQ M l0 8)]) (M' := M) rfl ?_
    obtain ⟨hc, hp⟩ := hp
    refine wq_getQ (j := 0) rfl hc ?_
    refine wp_go 1 (pc' := 14) (L' := [some (.ref l0), some (.int l1), some (.int l2), some (.int l3), some (.int l4), some (.int l5)]) (st' := [.int l1, .ref (zQ M l0 0), .ref (zQ M l0 8)]) (M' := M) rfl ?_
    obtain ⟨hc, hp⟩ := hp
    refine wq_aald rfl hc ?_
    refine wp_go 2 (pc' := 17) (L' := [some (.ref l0), some (.int l1), some (.int l2), some (.int l3), some (.int l4), some (.int l5)]) (st' := [.ref l0, .int l2, .ref (zQ M (zQ M l0 0) l1.toNatClampNeg), .ref (zQ M l0 8)]) (M' := M) rfl ?_
    obtain ⟨hc, hp⟩ := hp
    refine wq_getQ (j := 0) rfl hc ?_
    refine wp_go 1 (pc' := 21) (L' := [some (.ref l0), some (.int l1), some (.int l2), some (.int l3), some (.int l4), some (.int l5)]) (st' := [.int l3, .ref (zQ M l0 0), .int l2, .ref (zQ M (zQ M l0 0) l1.toNatClampNeg), .ref (zQ M l0 8)]) (M' := M) rfl ?_
    obtain ⟨hc, hp⟩ := hp
    refine wq_aald rfl hc ?_
    refine wp_go 2 (pc' := 26) (L' := [some (.ref l0), some (.int l1), some (.int l2), some (.int l3), some (.int l4), some (.int l5)]) (st' := [.int l5, .int l4, .ref (zQ M (zQ M l0 0) l3.toNatClampNeg), .int l2, .ref (zQ M (zQ M l0 0) l1.toNatClampNeg), .ref (zQ M l0 8)]) (M' := M) rfl ?_
    obtain ⟨hv, hp⟩ := hp
    obtain ⟨hc, hp⟩ := hp
    refine wp_callv (M1 := (b55_0 n (zQ M l0 8) (zQ M (zQ M l0 0) l1.toNatClampNeg) l2 (zQ M (zQ M l0 0) l3.toNatClampNeg) l4 l5 M)) rfl rfl rfl (zInv_v (np := 5) rfl rfl hv rfl) (s55_0 n (zQ M l0 8) (zQ M (zQ M l0 0) l1.toNatClampNeg) l2 (zQ M (zQ M l0 0) l3.toNatClampNeg) l4 l5 M hc (fun r M1 h => h)) ?_
    refine wp_le [none, none, none, none, none, none] (zLe_of (by simp [zLeB])) ?_
    exact s98_29 n    (b55_0 n (zQ M l0 8) (zQ M (zQ M l0 0) l1.toNatClampNeg) l2 (zQ M (zQ M l0 0) l3.toNatClampNeg) l4 l5 M) hp hQ
/-! X11_fit -/
def b73_20 (n : Nat)   (M : zM) : Int32 × zM := (((-1) : Int32), M)
def p73_20 (n : Nat)   (M : zM) : Prop := True
theorem s73_20 (n : Nat)     (M : zM) (hp : p73_20 n   M) {Q : Option Value → zM → Prop} (hQ : ∀ r M1, zRI (b73_20 n   M) r M1 → Q r M1) : zWP 73 20 [none, none, none, none, none, none] [] M Q := by
  unfold b73_20 at hQ
  unfold p73_20 at hp
  refine wp_go 1 (pc' := 21) (L' := [none, none, none, none, none, none]) (st' := [.int ((-1) : Int32)]) (M' := M) rfl ?_
  exact wp_ret (r := some (.int ((-1) : Int32))) rfl rfl (hQ _ _ ⟨rfl, rfl⟩)
def b73_55 (n : Nat)  (l0 : Nat) (M : zM) : Int32 × zM := ((zI M (zQ M l0 8) 5), M)
def p73_55 (n : Nat)  (l0 : Nat) (M : zM) : Prop := (zHasQ 9 61 l0 M 8) ∧ ((zHasI 9 251 (zQ M l0 8) M 5) ∧ (True))
theorem s73_55 (n : Nat)    (l0 : Nat) (M : zM) (hp : p73_55 n  l0 M) {Q : Option Value → zM → Prop} (hQ : ∀ r M1, zRI (b73_55 n  l0 M) r M1 → Q r M1) : zWP 73 55 [some (.ref l0), none, none, none, none, none] [] M Q := by
  unfold b73_55 at hQ
  unfold p73_55 at hp
  refine wp_go 1 (pc' := 56) (L' := [some (.ref l0), none, none, none, none, none]) (st' := [.ref l0]) (M' := M) rfl ?_
  obtain ⟨hc, hp⟩ := hp
  refine wq_getQ (j := 8) rfl hc ?_
  obtain ⟨hc, hp⟩ := hp
  refine wq_getI (j := 5) rfl hc ?_
  exact wp_ret (r := some (.int (zI M (zQ M l0 8) 5))) rfl rfl (hQ _ _ ⟨rfl, rfl⟩)
def b73_44 (n : Nat)  (l0 : Nat) (M : zM) : Int32 × zM := b73_55 n  l0 (zWI M l0 18 (zI M (zQ M l0 8) 9))
def p73_44 (n : Nat)  (l0 : Nat) (M : zM) : Prop := (zHasQ 9 61 l0 M 8) ∧ ((zHasI 9 248 (zQ M l0 8) M 9) ∧ ((zPutI 73 97 l0 M 18 (zI M (zQ M l0 8) 9)) ∧ (p73_55 n  l0 (zWI M l0 18 (zI M (zQ M l0 8) 9)))))
theorem s73_44 (n : Nat)    (l0 : Nat) (M : zM) (hp : p73_44 n  l0 M) {Q : Option Value → zM → Prop} (hQ : ∀ r M1, zRI (b73_44 n  l0 M) r M1 → Q r M1) : zWP 73 44 [some (.ref l0), none, none, none, none, none] [] M Q := by
  unfold b73_44 at hQ
  unfold p73_44 at hp
  refine wp_go 2 (pc' := 46) (L' := [some (.ref l0), none, none, none, none, none]) (st' := [.ref l0, .ref l0]) (M' := M) rfl ?_
  obtain ⟨hc, hp⟩ := hp
  refine wq_getQ (j := 8) rfl hc ?_
  obtain ⟨hc, hp⟩ := hp
  refine wq_getI (j := 9) rfl hc ?_
  obtain ⟨hc, hp⟩ := hp
  refine wq_putI (j := 18) rfl hc ?_
  exact s73_55 n    l0 (zWI M l0 18 (zI M (zQ M l0 8) 9)) hp hQ
def b73_33 (n : Nat)  (l0 : Nat) (M : zM) : Int32 × zM := b73_44 n  l0 (zWI M l0 17 (zI M (zQ M l0 8) 8))
def p73_33 (n : Nat)  (l0 : Nat) (M : zM) : Prop := (zHasQ 9 61 l0 M 8) ∧ ((zHasI 9 245 (zQ M l0 8) M 8) ∧ ((zPutI 73 94 l0 M 17 (zI M (zQ M l0 8) 8)) ∧ (p73_44 n  l0 (zWI M l0 17 (zI M (zQ M l0 8) 8)))))
theorem s73_33 (n : Nat)    (l0 : Nat) (M : zM) (hp : p73_33 n  l0 M) {Q : Option Value → zM → Prop} (hQ : ∀ r M1, zRI (b73_33 n  l0 M) r M1 → Q r M1) : zWP 73 33 [some (.ref l0), none, none, none, none, none] [] M Q := by
  unfold b73_33 at hQ
  unfold p73_33 at hp
  refine wp_go 2 (pc' := 35) (L' := [some (.ref l0), none, none, none, none, none]) (st' := [.ref l0, .ref l0]) (M' := M) rfl ?_
  obtain ⟨hc, hp⟩ := hp
  refine wq_getQ (j := 8) rfl hc ?_
  obtain ⟨hc, hp⟩ := hp
  refine wq_getI (j := 8) rfl hc ?_
  obtain ⟨hc, hp⟩ := hp
  refine wq_putI (j := 17) rfl hc ?_
  exact s73_44 n    l0 (zWI M l0 17 (zI M (zQ M l0 8) 8)) hp hQ
def b73_17 (n : Nat)  (l0 : Nat) (l1 : Int32) (l2 : Int32) (l3 : Int32) (l4 : Int32) (l5 : Int32) (s0 : Int32) (M : zM) : Int32 × zM := (if s0 = 0 then b73_20 n  M else b73_33 n  l0 (b98_0 n l0 l1 l2 l3 l4 l5 M))
def p73_17 (n : Nat)  (l0 : Nat) (l1 : Int32) (l2 : Int32) (l3 : Int32) (l4 : Int32) (l5 : Int32) (s0 : Int32) (M : zM) : Prop := ((s0 = 0 → p73_20 n  M) ∧ (¬ s0 = 0 → (zHasC 73 241 l0 M 98 5) ∧ ((p98_0 n l0 l1 l2 l3 l4 l5 M) ∧ (p73_33 n  l0 (b98_0 n l0 l1 l2 l3 l4 l5 M)))))
theorem s73_17 (n : Nat)    (l0 : Nat) (l1 : Int32) (l2 : Int32) (l3 : Int32) (l4 : Int32) (l5 : Int32) (s0 : Int32) (M : zM) (hp : p73_17 n  l0 l1 l2 l3 l4 l5 s0 M) {Q : Option Value → zM → Prop} (hQ : ∀ r M1, zRI (b73_17 n  l0 l1 l2 l3 l4 l5 s0 M) r M1 → Q r M1) : zWP 73 17 [some (.ref l0), some (.int l1), some (.int l2), some (.int l3), some (.int l4), some (.int l5)] [.int s0] M Q := by
  unfold b73_17 at hQ
  unfold p73_17 at hp
  refine wp_if_ne (t := 22) rfl rfl (fun hc => ?_) (fun hc => ?_)
  · rw [if_neg hc] at hQ
    replace hp := hp.2 hc
    refine wp_go 5 (pc' := 28) (L' := [some (.ref l0), some (.int l1), some (.int l2), some (.int l3), some (.int l4), some (.int l5)]) (st' := [.int l4, .int l3, .int l2, .int l1, .ref l0]) (M' := M) rfl ?_
    refine wp_go 1 (pc' := 30) (L' := [some (.ref l0), some (.int l1), some (.int l2), some (.int l3), some (.int l4), some (.int l5)]) (st' := [.int l5, .int l4, .int l3, .int l2, .int l1, .ref l0]) (M' := M) rfl ?_
    obtain ⟨hv, hp⟩ := hp
    obtain ⟨hc, hp⟩ := hp
    refine wp_callv (M1 := (b98_0 n l0 l1 l2 l3 l4 l5 M)) rfl rfl rfl (zInv_v (np := 5) rfl rfl hv rfl) (s98_0 n l0 l1 l2 l3 l4 l5 M hc (fun r M1 h => h)) ?_
    refine wp_le [some (.ref l0), none, none, none, none, none] (zLe_of (by simp [zLeB])) ?_
    exact s73_33 n    l0 (b98_0 n l0 l1 l2 l3 l4 l5 M) hp hQ
  · rw [if_pos hc] at hQ
    replace hp := hp.1 hc
    refine wp_le [none, none, none, none, none, none] (zLe_of (by simp [zLeB])) ?_
    exact s73_20 n    M hp hQ
def b73_9 (n : Nat)  (l0 : Nat) (l1 : Int32) (l2 : Int32) (l3 : Int32) (l4 : Int32) (l5 : Int32) (s0 : Int32) (M : zM) : Int32 × zM := (if s0 = 0 then b73_20 n  M else b73_17 n  l0 l1 l2 l3 l4 l5 (b95_0 n l5 M).1 (b95_0 n l5 M).2)
def p73_9 (n : Nat)  (l0 : Nat) (l1 : Int32) (l2 : Int32) (l3 : Int32) (l4 : Int32) (l5 : Int32) (s0 : Int32) (M : zM) : Prop := ((s0 = 0 → p73_20 n  M) ∧ (¬ s0 = 0 → (p95_0 n l5 M) ∧ (p73_17 n  l0 l1 l2 l3 l4 l5 (b95_0 n l5 M).1 (b95_0 n l5 M).2)))
theorem s73_9 (n : Nat)    (l0 : Nat) (l1 : Int32) (l2 : Int32) (l3 : Int32) (l4 : Int32) (l5 : Int32) (s0 : Int32) (M : zM) (hp : p73_9 n  l0 l1 l2 l3 l4 l5 s0 M) {Q : Option Value → zM → Prop} (hQ : ∀ r M1, zRI (b73_9 n  l0 l1 l2 l3 l4 l5 s0 M) r M1 → Q r M1) : zWP 73 9 [some (.ref l0), some (.int l1), some (.int l2), some (.int l3), some (.int l4), some (.int l5)] [.int s0] M Q := by
  unfold b73_9 at hQ
  unfold p73_9 at hp
  refine wp_if_eq (t := 20) rfl rfl (fun hc => ?_) (fun hc => ?_)
  · rw [if_pos hc] at hQ
    replace hp := hp.1 hc
    refine wp_le [none, none, none, none, none, none] (zLe_of (by simp [zLeB])) ?_
    exact s73_20 n    M hp hQ
  · rw [if_neg hc] at hQ
    replace hp := hp.2 hc
    refine wp_go 1 (pc' := 14) (L' := [some (.ref l0), some (.int l1), some (.int l2), some (.int l3), some (.int l4), some (.int l5)]) (st' := [.int l5]) (M' := M) rfl ?_
    obtain ⟨hc, hp⟩ := hp
    refine wp_calli (v := (b95_0 n l5 M).1) (M1 := (b95_0 n l5 M).2) rfl rfl rfl rfl (s95_0 n l5 M hc (fun r M1 h => h)) ?_
    exact s73_17 n    l0 l1 l2 l3 l4 l5 (b95_0 n l5 M).1 (b95_0 n l5 M).2 hp hQ
def b73_0 (n : Nat)  (l0 : Nat) (l1 : Int32) (l2 : Int32) (l3 : Int32) (l4 : Int32) (l5 : Int32) (M : zM) : Int32 × zM := b73_9 n  l0 l1 l2 l3 l4 l5 (b93_0 n l0 l1 l2 l3 l4 M).1 (b93_0 n l0 l1 l2 l3 l4 M).2
def p73_0 (n : Nat)  (l0 : Nat) (l1 : Int32) (l2 : Int32) (l3 : Int32) (l4 : Int32) (l5 : Int32) (M : zM) : Prop := (zHasC 73 237 l0 M 93 4) ∧ ((p93_0 n l0 l1 l2 l3 l4 M) ∧ (p73_9 n  l0 l1 l2 l3 l4 l5 (b93_0 n l0 l1 l2 l3 l4 M).1 (b93_0 n l0 l1 l2 l3 l4 M).2))
theorem s73_0 (n : Nat)    (l0 : Nat) (l1 : Int32) (l2 : Int32) (l3 : Int32) (l4 : Int32) (l5 : Int32) (M : zM) (hp : p73_0 n  l0 l1 l2 l3 l4 l5 M) {Q : Option Value → zM → Prop} (hQ : ∀ r M1, zRI (b73_0 n  l0 l1 l2 l3 l4 l5 M) r M1 → Q r M1) : zWP 73 0 [some (.ref l0), some (.int l1), some (.int l2), some (.int l3), some (.int l4), some (.int l5)] [] M Q := by
  unfold b73_0 at hQ
  unfold p73_0 at hp
  refine wp_go 5 (pc' := 6) (L' := [some (.ref l0), some (.int l1), some (.int l2), some (.int l3), some (.int l4), some (.int l5)]) (st' := [.int l4, .int l3, .int l2, .int l1, .ref l0]) (M' := M) rfl ?_
  obtain ⟨hv, hp⟩ := hp
  obtain ⟨hc, hp⟩ := hp
  refine wp_calli (v := (b93_0 n l0 l1 l2 l3 l4 M).1) (M1 := (b93_0 n l0 l1 l2 l3 l4 M).2) rfl rfl rfl (zInv_v (np := 4) rfl rfl hv rfl) (s93_0 n l0 l1 l2 l3 l4 M hc (fun r M1 h => h)) ?_
  exact s73_9 n    l0 l1 l2 l3 l4 l5 (b93_0 n l0 l1 l2 l3 l4 M).1 (b93_0 n l0 l1 l2 l3 l4 M).2 hp hQ
/-! X11_isSpan -/
def b99_81 (n : Nat)  (s0 : Int32) (M : zM) : Int32 × zM := (s0, M)
def p99_81 (n : Nat)  (s0 : Int32) (M : zM) : Prop := zNar .boolean s0 = true
theorem s99_81 (n : Nat)    (s0 : Int32) (M : zM) (hp : p99_81 n  s0 M) {Q : Option Value → zM → Prop} (hQ : ∀ r M1, zRI (b99_81 n  s0 M) r M1 → Q r M1) : zWP 99 81 [none, none, none, none] [.int s0] M Q := by
  unfold b99_81 at hQ
  unfold p99_81 at hp
  exact wp_retz rfl rfl hp (hQ _ _ ⟨rfl, rfl⟩)
def b99_62 (n : Nat)  (l0 : Nat) (l1 : Nat) (M : zM) : Int32 × zM := (if (zI M l1 5) < (zI M (zQ M l0 9) 5) then b99_81 n  (0 : Int32) M else b99_81 n  (1 : Int32) M)
def p99_62 (n : Nat)  (l0 : Nat) (l1 : Nat) (M : zM) : Prop := (zHasQ 9 65 l0 M 9) ∧ ((zHasI 9 251 (zQ M l0 9) M 5) ∧ ((zHasI 9 251 l1 M 5) ∧ ((((zI M l1 5) < (zI M (zQ M l0 9) 5) → p99_81 n  (0 : Int32) M) ∧ (¬ (zI M l1 5) < (zI M (zQ M l0 9) 5) → p99_81 n  (1 : Int32) M)))))
theorem s99_62 (n : Nat)    (l0 : Nat) (l1 : Nat) (M : zM) (hp : p99_62 n  l0 l1 M) {Q : Option Value → zM → Prop} (hQ : ∀ r M1, zRI (b99_62 n  l0 l1 M) r M1 → Q r M1) : zWP 99 62 [some (.ref l0), some (.ref l1), none, none] [] M Q := by
  unfold b99_62 at hQ
  unfold p99_62 at hp
  refine wp_go 1 (pc' := 63) (L' := [some (.ref l0), some (.ref l1), none, none]) (st' := [.ref l0]) (M' := M) rfl ?_
  obtain ⟨hc, hp⟩ := hp
  refine wq_getQ (j := 9) rfl hc ?_
  obtain ⟨hc, hp⟩ := hp
  refine wq_getI (j := 5) rfl hc ?_
  refine wp_go 1 (pc' := 70) (L' := [some (.ref l0), some (.ref l1), none, none]) (st' := [.ref l1, .int (zI M (zQ M l0 9) 5)]) (M' := M) rfl ?_
  obtain ⟨hc, hp⟩ := hp
  refine wq_getI (j := 5) rfl hc ?_
  refine wp_ic_gt (t := 80) rfl rfl (fun hc => ?_) (fun hc => ?_)
  · rw [if_pos hc] at hQ
    replace hp := hp.1 hc
    refine wp_go 1 (pc' := 81) (L' := [some (.ref l0), some (.ref l1), none, none]) (st' := [.int (0 : Int32)]) (M' := M) rfl ?_
    refine wp_le [none, none, none, none] (zLe_of (by simp [zLeB])) ?_
    exact s99_81 n    (0 : Int32) M hp hQ
  · rw [if_neg hc] at hQ
    replace hp := hp.2 hc
    refine wp_go 2 (pc' := 81) (L' := [some (.ref l0), some (.ref l1), none, none]) (st' := [.int (1 : Int32)]) (M' := M) rfl ?_
    refine wp_le [none, none, none, none] (zLe_of (by simp [zLeB])) ?_
    exact s99_81 n    (1 : Int32) M hp hQ
def b99_55 (n : Nat)  (l0 : Nat) (l1 : Nat) (s0 : Nat) (s1 : Nat) (s2 : Int32) (s3 : Nat) (s4 : Int32) (M : zM) : Int32 × zM := b99_62 n  l0 l1 (b55_0 n s0 s1 s2 s3 s4 (zI M l1 4) M)
def p99_55 (n : Nat)  (l0 : Nat) (l1 : Nat) (s0 : Nat) (s1 : Nat) (s2 : Int32) (s3 : Nat) (s4 : Int32) (M : zM) : Prop := (zHasI 9 285 l1 M 4) ∧ ((zHasC 99 386 s0 M 55 5) ∧ ((p55_0 n s0 s1 s2 s3 s4 (zI M l1 4) M) ∧ (p99_62 n  l0 l1 (b55_0 n s0 s1 s2 s3 s4 (zI M l1 4) M))))
theorem s99_55 (n : Nat)    (l0 : Nat) (l1 : Nat) (s0 : Nat) (s1 : Nat) (s2 : Int32) (s3 : Nat) (s4 : Int32) (M : zM) (hp : p99_55 n  l0 l1 s0 s1 s2 s3 s4 M) {Q : Option Value → zM → Prop} (hQ : ∀ r M1, zRI (b99_55 n  l0 l1 s0 s1 s2 s3 s4 M) r M1 → Q r M1) : zWP 99 55 [some (.ref l0), some (.ref l1), none, none] [.int s4, .ref s3, .int s2, .ref s1, .ref s0] M Q := by
  unfold b99_55 at hQ
  unfold p99_55 at hp
  refine wp_go 1 (pc' := 56) (L' := [some (.ref l0), some (.ref l1), none, none]) (st' := [.ref l1, .int s4, .ref s3, .int s2, .ref s1, .ref s0]) (M' := M) rfl ?_
  obtain ⟨hc, hp⟩ := hp
  refine wq_getI (j := 4) rfl hc ?_
  obtain ⟨hv, hp⟩ := hp
  obtain ⟨hc, hp⟩ := hp
  refine wp_callv (M1 := (b55_0 n s0 s1 s2 s3 s4 (zI M l1 4) M)) rfl rfl rfl (zInv_v (np := 5) rfl rfl hv rfl) (s55_0 n s0 s1 s2 s3 s4 (zI M l1 4) M hc (fun r M1 h => h)) ?_
  exact s99_62 n    l0 l1 (b55_0 n s0 s1 s2 s3 s4 (zI M l1 4) M) hp hQ
def b99_46 (n : Nat)  (l0 : Nat) (l1 : Nat) (l3 : Nat) (s0 : Nat) (s1 : Nat) (s2 : Int32) (M : zM) : Int32 × zM := b99_55 n  l0 l1 s0 s1 s2 l3 (b46_0 n l3 (zI M l1 3) M).1 (b46_0 n l3 (zI M l1 3) M).2
def p99_46 (n : Nat)  (l0 : Nat) (l1 : Nat) (l3 : Nat) (s0 : Nat) (s1 : Nat) (s2 : Int32) (M : zM) : Prop := (zHasI 9 282 l1 M 3) ∧ ((zHasC 99 393 l3 M 46 1) ∧ ((p46_0 n l3 (zI M l1 3) M) ∧ (p99_55 n  l0 l1 s0 s1 s2 l3 (b46_0 n l3 (zI M l1 3) M).1 (b46_0 n l3 (zI M l1 3) M).2)))
theorem s99_46 (n : Nat)    (l0 : Nat) (l1 : Nat) (l3 : Nat) (s0 : Nat) (s1 : Nat) (s2 : Int32) (M : zM) (hp : p99_46 n  l0 l1 l3 s0 s1 s2 M) {Q : Option Value → zM → Prop} (hQ : ∀ r M1, zRI (b99_46 n  l0 l1 l3 s0 s1 s2 M) r M1 → Q r M1) : zWP 99 46 [some (.ref l0), some (.ref l1), none, some (.ref l3)] [.int s2, .ref s1, .ref s0] M Q := by
  unfold b99_46 at hQ
  unfold p99_46 at hp
  refine wp_go 3 (pc' := 49) (L' := [some (.ref l0), some (.ref l1), none, some (.ref l3)]) (st' := [.ref l1, .ref l3, .ref l3, .int s2, .ref s1, .ref s0]) (M' := M) rfl ?_
  obtain ⟨hc, hp⟩ := hp
  refine wq_getI (j := 3) rfl hc ?_
  obtain ⟨hv, hp⟩ := hp
  obtain ⟨hc, hp⟩ := hp
  refine wp_calli (v := (b46_0 n l3 (zI M l1 3) M).1) (M1 := (b46_0 n l3 (zI M l1 3) M).2) rfl rfl rfl (zInv_v (np := 1) rfl rfl hv rfl) (s46_0 n l3 (zI M l1 3) M hc (fun r M1 h => h)) ?_
  refine wp_le [some (.ref l0), some (.ref l1), none, none] (zLe_of (by simp [zLeB])) ?_
  exact s99_55 n    l0 l1 s0 s1 s2 l3 (b46_0 n l3 (zI M l1 3) M).1 (b46_0 n l3 (zI M l1 3) M).2 hp hQ
def b99_0 (n : Nat)  (l0 : Nat) (l1 : Nat) (M : zM) : Int32 × zM := (if (zI M l0 13) ≤ (zI M l1 8) then b99_46 n  l0 l1 (zQ M (zQ M l0 0) (zI M l1 2).toNatClampNeg) (zQ M l0 9) (zQ M (zQ M l0 0) (zI M l1 0).toNatClampNeg) (b47_0 n (zQ M (zQ M l0 0) (zI M l1 0).toNatClampNeg) (zI M l1 1) M).1 (b47_0 n (zQ M (zQ M l0 0) (zI M l1 0).toNatClampNeg) (zI M l1 1) M).2 else ((0 : Int32), M))
def p99_0 (n : Nat)  (l0 : Nat) (l1 : Nat) (M : zM) : Prop := (zHasI 9 245 l1 M 8) ∧ ((zHasI 9 82 l0 M 13) ∧ ((((zI M l0 13) ≤ (zI M l1 8) → (zHasQ 9 11 l0 M 0) ∧ ((zHasI 9 388 l1 M 0) ∧ ((zOkR (zQ M l0 0) (zI M l1 0) M) ∧ ((zHasQ 9 11 l0 M 0) ∧ ((zHasI 9 389 l1 M 2) ∧ ((zOkR (zQ M l0 0) (zI M l1 2) M) ∧ ((zHasQ 9 65 l0 M 9) ∧ ((zHasI 9 279 l1 M 1) ∧ ((zHasC 99 390 (zQ M (zQ M l0 0) (zI M l1 0).toNatClampNeg) M 47 1) ∧ ((p47_0 n (zQ M (zQ M l0 0) (zI M l1 0).toNatClampNeg) (zI M l1 1) M) ∧ (p99_46 n  l0 l1 (zQ M (zQ M l0 0) (zI M l1 2).toNatClampNeg) (zQ M l0 9) (zQ M (zQ M l0 0) (zI M l1 0).toNatClampNeg) (b47_0 n (zQ M (zQ M l0 0) (zI M l1 0).toNatClampNeg) (zI M l1 1) M).1 (b47_0 n (zQ M (zQ M l0 0) (zI M l1 0).toNatClampNeg) (zI M l1 1) M).2))))))))))) ∧ (¬ (zI M l0 13) ≤ (zI M l1 8) → True))))
theorem s99_0 (n : Nat)    (l0 : Nat) (l1 : Nat) (M : zM) (hp : p99_0 n  l0 l1 M) {Q : Option Value → zM → Prop} (hQ : ∀ r M1, zRI (b99_0 n  l0 l1 M) r M1 → Q r M1) : zWP 99 0 [some (.ref l0), some (.ref l1), none, none] [] M Q := by
  unfold b99_0 at hQ
  unfold p99_0 at hp
  refine wp_go 1 (pc' := 1) (L' := [some (.ref l0), some (.ref l1), none, none]) (st' := [.ref l1]) (M' := M) rfl ?_
  obtain ⟨hc, hp⟩ := hp
  refine wq_getI (j := 8) rfl hc ?_
  refine wp_go 1 (pc' := 5) (L' := [some (.ref l0), some (.ref l1), none, none]) (st' := [.ref l0, .int (zI M l1 8)]) (M' := M) rfl ?_
  obtain ⟨hc, hp⟩ := hp
  refine wq_getI (j := 13) rfl hc ?_
  refine wp_ic_ge (t := 13) rfl rfl (fun hc => ?_) (fun hc => ?_)
  · rw [if_pos hc] at hQ
    replace hp := hp.1 hc
    refine wp_go 1 (pc' := 14) (L' := [some (.ref l0), some (.ref l1), none, none]) (st' := [.ref l0]) (M' := M) rfl ?_
    obtain ⟨hc, hp⟩ := hp
    refine wq_getQ (j := 0) rfl hc ?_
    refine wp_go 1 (pc' := 18) (L' := [some (.ref l0), some (.ref l1), none, none]) (st' := [.ref l1, .ref (zQ M l0 0)]) (M' := M) rfl ?_
    obtain ⟨hc, hp⟩ := hp
    refine wq_getI (j := 0) rfl hc ?_
    obtain ⟨hc, hp⟩ := hp
    refine wq_aald rfl hc ?_
    refine wp_go 2 (pc' := 24) (L' := [some (.ref l0), some (.ref l1), some (.ref (zQ M (zQ M l0 0) (zI M l1 0).toNatClampNeg)), none]) (st' := [.ref l0]) (M' := M) rfl ?_
    obtain ⟨hc, hp⟩ := hp
    refine wq_getQ (j := 0) rfl hc ?_
    refine wp_go 1 (pc' := 28) (L' := [some (.ref l0), some (.ref l1), some (.ref (zQ M (zQ M l0 0) (zI M l1 0).toNatClampNeg)), none]) (st' := [.ref l1, .ref (zQ M l0 0)]) (M' := M) rfl ?_
    obtain ⟨hc, hp⟩ := hp
    refine wq_getI (j := 2) rfl hc ?_
    obtain ⟨hc, hp⟩ := hp
    refine wq_aald rfl hc ?_
    refine wp_go 2 (pc' := 34) (L' := [some (.ref l0), some (.ref l1), some (.ref (zQ M (zQ M l0 0) (zI M l1 0).toNatClampNeg)), some (.ref (zQ M (zQ M l0 0) (zI M l1 2).toNatClampNeg))]) (st' := [.ref l0]) (M' := M) rfl ?_
    obtain ⟨hc, hp⟩ := hp
    refine wq_getQ (j := 9) rfl hc ?_
    refine wp_go 3 (pc' := 40) (L' := [some (.ref l0), some (.ref l1), some (.ref (zQ M (zQ M l0 0) (zI M l1 0).toNatClampNeg)), some (.ref (zQ M (zQ M l0 0) (zI M l1 2).toNatClampNeg))]) (st' := [.ref l1, .ref (zQ M (zQ M l0 0) (zI M l1 0).toNatClampNeg), .ref (zQ M (zQ M l0 0) (zI M l1 0).toNatClampNeg), .ref (zQ M l0 9)]) (M' := M) rfl ?_
    obtain ⟨hc, hp⟩ := hp
    refine wq_getI (j := 1) rfl hc ?_
    obtain ⟨hv, hp⟩ := hp
    obtain ⟨hc, hp⟩ := hp
    refine wp_calli (v := (b47_0 n (zQ M (zQ M l0 0) (zI M l1 0).toNatClampNeg) (zI M l1 1) M).1) (M1 := (b47_0 n (zQ M (zQ M l0 0) (zI M l1 0).toNatClampNeg) (zI M l1 1) M).2) rfl rfl rfl (zInv_v (np := 1) rfl rfl hv rfl) (s47_0 n (zQ M (zQ M l0 0) (zI M l1 0).toNatClampNeg) (zI M l1 1) M hc (fun r M1 h => h)) ?_
    refine wp_le [some (.ref l0), some (.ref l1), none, some (.ref (zQ M (zQ M l0 0) (zI M l1 2).toNatClampNeg))] (zLe_of (by simp [zLeB])) ?_
    exact s99_46 n    l0 l1 (zQ M (zQ M l0 0) (zI M l1 2).toNatClampNeg) (zQ M l0 9) (zQ M (zQ M l0 0) (zI M l1 0).toNatClampNeg) (b47_0 n (zQ M (zQ M l0 0) (zI M l1 0).toNatClampNeg) (zI M l1 1) M).1 (b47_0 n (zQ M (zQ M l0 0) (zI M l1 0).toNatClampNeg) (zI M l1 1) M).2 hp hQ
  · rw [if_neg hc] at hQ
    replace hp := hp.2 hc
    refine wp_go 1 (pc' := 12) (L' := [some (.ref l0), some (.ref l1), none, none]) (st' := [.int (0 : Int32)]) (M' := M) rfl ?_
    exact wp_ret (r := some (.int (0 : Int32))) rfl rfl (hQ _ _ ⟨rfl, rfl⟩)
/-! X11_span -/
def b76_15 (n : Nat)   (M : zM) : Int32 × zM := (((-1) : Int32), M)
def p76_15 (n : Nat)   (M : zM) : Prop := True
theorem s76_15 (n : Nat)     (M : zM) (hp : p76_15 n   M) {Q : Option Value → zM → Prop} (hQ : ∀ r M1, zRI (b76_15 n   M) r M1 → Q r M1) : zWP 76 15 [none, none, none, none] [] M Q := by
  unfold b76_15 at hQ
  unfold p76_15 at hp
  refine wp_go 1 (pc' := 16) (L' := [none, none, none, none]) (st' := [.int ((-1) : Int32)]) (M' := M) rfl ?_
  exact wp_ret (r := some (.int ((-1) : Int32))) rfl rfl (hQ _ _ ⟨rfl, rfl⟩)
def b76_0 (n : Nat)  (l0 : Nat) (l1 : Int32) (l2 : Int32) (M : zM) : Int32 × zM := (if l1 < 0 then b76_15 n  M else (if l1 < (zI M (zQ M l0 6) 1) then (if l2 = 0 then ((zI M (zQ M (zQ M (zQ M l0 6) 0) l1.toNatClampNeg) 1), M) else if l2 = 1 then ((zI M (zQ M (zQ M (zQ M l0 6) 0) l1.toNatClampNeg) 3), M) else if l2 = 2 then ((zI M (zQ M (zQ M (zQ M l0 6) 0) l1.toNatClampNeg) 4), M) else if l2 = 3 then ((zI M (zQ M (zQ M (zQ M l0 6) 0) l1.toNatClampNeg) 5), M) else if l2 = 4 then ((zI M (zQ M (zQ M (zQ M l0 6) 0) l1.toNatClampNeg) 8), M) else if l2 = 5 then ((zI M (zQ M (zQ M (zQ M l0 6) 0) l1.toNatClampNeg) 9), M) else (((-1) : Int32), M)) else b76_15 n  M))
def p76_0 (n : Nat)  (l0 : Nat) (l1 : Int32) (l2 : Int32) (M : zM) : Prop := ((l1 < 0 → p76_15 n  M) ∧ (¬ l1 < 0 → (zHasQ 9 51 l0 M 6) ∧ ((zHasI 9 272 (zQ M l0 6) M 1) ∧ (((l1 < (zI M (zQ M l0 6) 1) → (zHasQ 9 51 l0 M 6) ∧ ((zHasQ 9 275 (zQ M l0 6) M 0) ∧ ((zOkR (zQ M (zQ M l0 6) 0) l1 M) ∧ (((l2 = 0 → (zHasI 9 279 (zQ M (zQ M (zQ M l0 6) 0) l1.toNatClampNeg) M 1) ∧ (True)) ∧ (¬ l2 = 0 → (l2 = 1 → (zHasI 9 282 (zQ M (zQ M (zQ M l0 6) 0) l1.toNatClampNeg) M 3) ∧ (True)) ∧ (¬ l2 = 1 → (l2 = 2 → (zHasI 9 285 (zQ M (zQ M (zQ M l0 6) 0) l1.toNatClampNeg) M 4) ∧ (True)) ∧ (¬ l2 = 2 → (l2 = 3 → (zHasI 9 251 (zQ M (zQ M (zQ M l0 6) 0) l1.toNatClampNeg) M 5) ∧ (True)) ∧ (¬ l2 = 3 → (l2 = 4 → (zHasI 9 245 (zQ M (zQ M (zQ M l0 6) 0) l1.toNatClampNeg) M 8) ∧ (True)) ∧ (¬ l2 = 4 → (l2 = 5 → (zHasI 9 248 (zQ M (zQ M (zQ M l0 6) 0) l1.toNatClampNeg) M 9) ∧ (True)) ∧ (¬ l2 = 5 → True))))))))))) ∧ (¬ l1 < (zI M (zQ M l0 6) 1) → p76_15 n  M))))))
theorem s76_0 (n : Nat)    (l0 : Nat) (l1 : Int32) (l2 : Int32) (M : zM) (hp : p76_0 n  l0 l1 l2 M) {Q : Option Value → zM → Prop} (hQ : ∀ r M1, zRI (b76_0 n  l0 l1 l2 M) r M1 → Q r M1) : zWP 76 0 [some (.ref l0), some (.int l1), some (.int l2), none] [] M Q := by
  unfold b76_0 at hQ
  unfold p76_0 at hp
  refine wp_go 1 (pc' := 1) (L' := [some (.ref l0), some (.int l1), some (.int l2), none]) (st' := [.int l1]) (M' := M) rfl ?_
  refine wp_if_lt (t := 15) rfl rfl (fun hc => ?_) (fun hc => ?_)
  · rw [if_pos hc] at hQ
    replace hp := hp.1 hc
    refine wp_le [none, none, none, none] (zLe_of (by simp [zLeB])) ?_
    exact s76_15 n    M hp hQ
  · rw [if_neg hc] at hQ
    replace hp := hp.2 hc
    refine wp_go 2 (pc' := 6) (L' := [some (.ref l0), some (.int l1), some (.int l2), none]) (st' := [.ref l0, .int l1]) (M' := M) rfl ?_
    obtain ⟨hc, hp⟩ := hp
    refine wq_getQ (j := 6) rfl hc ?_
    obtain ⟨hc, hp⟩ := hp
    refine wq_getI (j := 1) rfl hc ?_
    refine wp_ic_lt (t := 17) rfl rfl (fun hc => ?_) (fun hc => ?_)
    · rw [if_pos hc] at hQ
      replace hp := hp.1 hc
      refine wp_go 1 (pc' := 18) (L' := [some (.ref l0), some (.int l1), some (.int l2), none]) (st' := [.ref l0]) (M' := M) rfl ?_
      obtain ⟨hc, hp⟩ := hp
      refine wq_getQ (j := 6) rfl hc ?_
      obtain ⟨hc, hp⟩ := hp
      refine wq_getQ (j := 0) rfl hc ?_
      refine wp_go 1 (pc' := 25) (L' := [some (.ref l0), some (.int l1), some (.int l2), none]) (st' := [.int l1, .ref (zQ M (zQ M l0 6) 0)]) (M' := M) rfl ?_
      obtain ⟨hc, hp⟩ := hp
      refine wq_aald rfl hc ?_
      refine wp_go 2 (pc' := 28) (L' := [some (.ref l0), some (.int l1), some (.int l2), some (.ref (zQ M (zQ M (zQ M l0 6) 0) l1.toNatClampNeg))]) (st' := [.int l2]) (M' := M) rfl ?_
      by_cases hc0 : l2 = 0
      · rw [if_pos hc0] at hQ
        replace hp := hp.1 hc0
        refine wp_tabI rfl hc0 (t := 68) rfl ?_
        refine wp_go 1 (pc' := 69) (L' := [some (.ref l0), some (.int l1), some (.int l2), some (.ref (zQ M (zQ M (zQ M l0 6) 0) l1.toNatClampNeg))]) (st' := [.ref (zQ M (zQ M (zQ M l0 6) 0) l1.toNatClampNeg)]) (M' := M) rfl ?_
        obtain ⟨hc, hp⟩ := hp
        refine wq_getI (j := 1) rfl hc ?_
        exact wp_ret (r := some (.int (zI M (zQ M (zQ M (zQ M l0 6) 0) l1.toNatClampNeg) 1))) rfl rfl (hQ _ _ ⟨rfl, rfl⟩)
      rw [if_neg hc0] at hQ
      replace hp := hp.2 hc0
      by_cases hc1 : l2 = 1
      · rw [if_pos hc1] at hQ
        replace hp := hp.1 hc1
        refine wp_tabI rfl hc1 (t := 73) rfl ?_
        refine wp_go 1 (pc' := 74) (L' := [some (.ref l0), some (.int l1), some (.int l2), some (.ref (zQ M (zQ M (zQ M l0 6) 0) l1.toNatClampNeg))]) (st' := [.ref (zQ M (zQ M (zQ M l0 6) 0) l1.toNatClampNeg)]) (M' := M) rfl ?_
        obtain ⟨hc, hp⟩ := hp
        refine wq_getI (j := 3) rfl hc ?_
        exact wp_ret (r := some (.int (zI M (zQ M (zQ M (zQ M l0 6) 0) l1.toNatClampNeg) 3))) rfl rfl (hQ _ _ ⟨rfl, rfl⟩)
      rw [if_neg hc1] at hQ
      replace hp := hp.2 hc1
      by_cases hc2 : l2 = 2
      · rw [if_pos hc2] at hQ
        replace hp := hp.1 hc2
        refine wp_tabI rfl hc2 (t := 78) rfl ?_
        refine wp_go 1 (pc' := 79) (L' := [some (.ref l0), some (.int l1), some (.int l2), some (.ref (zQ M (zQ M (zQ M l0 6) 0) l1.toNatClampNeg))]) (st' := [.ref (zQ M (zQ M (zQ M l0 6) 0) l1.toNatClampNeg)]) (M' := M) rfl ?_
        obtain ⟨hc, hp⟩ := hp
        refine wq_getI (j := 4) rfl hc ?_
        exact wp_ret (r := some (.int (zI M (zQ M (zQ M (zQ M l0 6) 0) l1.toNatClampNeg) 4))) rfl rfl (hQ _ _ ⟨rfl, rfl⟩)
      rw [if_neg hc2] at hQ
      replace hp := hp.2 hc2
      by_cases hc3 : l2 = 3
      · rw [if_pos hc3] at hQ
        replace hp := hp.1 hc3
        refine wp_tabI rfl hc3 (t := 83) rfl ?_
        refine wp_go 1 (pc' := 84) (L' := [some (.ref l0), some (.int l1), some (.int l2), some (.ref (zQ M (zQ M (zQ M l0 6) 0) l1.toNatClampNeg))]) (st' := [.ref (zQ M (zQ M (zQ M l0 6) 0) l1.toNatClampNeg)]) (M' := M) rfl ?_
        obtain ⟨hc, hp⟩ := hp
        refine wq_getI (j := 5) rfl hc ?_
        exact wp_ret (r := some (.int (zI M (zQ M (zQ M (zQ M l0 6) 0) l1.toNatClampNeg) 5))) rfl rfl (hQ _ _ ⟨rfl, rfl⟩)
      rw [if_neg hc3] at hQ
      replace hp := hp.2 hc3
      by_cases hc4 : l2 = 4
      · rw [if_pos hc4] at hQ
        replace hp := hp.1 hc4
        refine wp_tabI rfl hc4 (t := 88) rfl ?_
        refine wp_go 1 (pc' := 89) (L' := [some (.ref l0), some (.int l1), some (.int l2), some (.ref (zQ M (zQ M (zQ M l0 6) 0) l1.toNatClampNeg))]) (st' := [.ref (zQ M (zQ M (zQ M l0 6) 0) l1.toNatClampNeg)]) (M' := M) rfl ?_
        obtain ⟨hc, hp⟩ := hp
        refine wq_getI (j := 8) rfl hc ?_
        exact wp_ret (r := some (.int (zI M (zQ M (zQ M (zQ M l0 6) 0) l1.toNatClampNeg) 8))) rfl rfl (hQ _ _ ⟨rfl, rfl⟩)
      rw [if_neg hc4] at hQ
      replace hp := hp.2 hc4
      by_cases hc5 : l2 = 5
      · rw [if_pos hc5] at hQ
        replace hp := hp.1 hc5
        refine wp_tabI rfl hc5 (t := 93) rfl ?_
        refine wp_go 1 (pc' := 94) (L' := [some (.ref l0), some (.int l1), some (.int l2), some (.ref (zQ M (zQ M (zQ M l0 6) 0) l1.toNatClampNeg))]) (st' := [.ref (zQ M (zQ M (zQ M l0 6) 0) l1.toNatClampNeg)]) (M' := M) rfl ?_
        obtain ⟨hc, hp⟩ := hp
        refine wq_getI (j := 9) rfl hc ?_
        exact wp_ret (r := some (.int (zI M (zQ M (zQ M (zQ M l0 6) 0) l1.toNatClampNeg) 9))) rfl rfl (hQ _ _ ⟨rfl, rfl⟩)
      rw [if_neg hc5] at hQ
      replace hp := hp.2 hc5
      refine wp_tabO (t := 98) rfl (by have e0 : ¬ (l2).toInt = 0 := fun h => hc0 (Int32.toInt_inj.mp h); have e1 : ¬ (l2).toInt = 1 := fun h => hc1 (Int32.toInt_inj.mp h); have e2 : ¬ (l2).toInt = 2 := fun h => hc2 (Int32.toInt_inj.mp h); have e3 : ¬ (l2).toInt = 3 := fun h => hc3 (Int32.toInt_inj.mp h); have e4 : ¬ (l2).toInt = 4 := fun h => hc4 (Int32.toInt_inj.mp h); have e5 : ¬ (l2).toInt = 5 := fun h => hc5 (Int32.toInt_inj.mp h); omega) rfl ?_
      refine wp_go 1 (pc' := 99) (L' := [some (.ref l0), some (.int l1), some (.int l2), some (.ref (zQ M (zQ M (zQ M l0 6) 0) l1.toNatClampNeg))]) (st' := [.int ((-1) : Int32)]) (M' := M) rfl ?_
      exact wp_ret (r := some (.int ((-1) : Int32))) rfl rfl (hQ _ _ ⟨rfl, rfl⟩)
    · rw [if_neg hc] at hQ
      replace hp := hp.2 hc
      refine wp_le [none, none, none, none] (zLe_of (by simp [zLeB])) ?_
      exact s76_15 n    M hp hQ
