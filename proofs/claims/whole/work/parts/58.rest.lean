/-! X0_init -/
def b0_31 (n : Nat)   (M : zM) : zM := M
def p0_31 (n : Nat)   (M : zM) : Prop := True
theorem s0_31 (n : Nat)     (M : zM) (hp : p0_31 n   M) {Q : Option Value → zM → Prop} (hQ : ∀ r M1, zRV (b0_31 n   M) r M1 → Q r M1) : zWP 0 31 [none] [] M Q := by
  unfold b0_31 at hQ
  unfold p0_31 at hp
  exact wp_ret (r := none) rfl rfl (hQ _ _ ⟨rfl, rfl⟩)
def b0_28 (n : Nat)  (s0 : Nat) (s1 : Nat) (M : zM) : zM := b0_31 n  (zWQ M s0 2 (some s1))
def p0_28 (n : Nat)  (s0 : Nat) (s1 : Nat) (M : zM) : Prop := (zPutQ 0 18 s0 M 2) ∧ (p0_31 n  (zWQ M s0 2 (some s1)))
theorem s0_28 (n : Nat)    (s0 : Nat) (s1 : Nat) (M : zM) (hp : p0_28 n  s0 s1 M) {Q : Option Value → zM → Prop} (hQ : ∀ r M1, zRV (b0_28 n  s0 s1 M) r M1 → Q r M1) : zWP 0 28 [none] [.ref s1, .ref s0] M Q := by
  unfold b0_28 at hQ
  unfold p0_28 at hp
  obtain ⟨hc, hp⟩ := hp
  refine wq_putQ (j := 2) rfl hc ?_
  exact s0_31 n    (zWQ M s0 2 (some s1)) hp hQ
def b0_22 (n : Nat)  (l0 : Nat) (M : zM) : zM := b0_28 n  l0 (zN M) (zNew M (1, (240 : Int32).toNatClampNeg) (240 : Int32).toNatClampNeg)
def p0_22 (n : Nat)  (l0 : Nat) (M : zM) : Prop := (zOkW (240 : Int32) M) ∧ (p0_28 n  l0 (zN M) (zNew M (1, (240 : Int32).toNatClampNeg) (240 : Int32).toNatClampNeg))
theorem s0_22 (n : Nat)    (l0 : Nat) (M : zM) (hp : p0_22 n  l0 M) {Q : Option Value → zM → Prop} (hQ : ∀ r M1, zRV (b0_22 n  l0 M) r M1 → Q r M1) : zWP 0 22 [some (.ref l0)] [] M Q := by
  unfold b0_22 at hQ
  unfold p0_22 at hp
  refine wp_go 2 (pc' := 26) (L' := [some (.ref l0)]) (st' := [.int (240 : Int32), .ref l0]) (M' := M) rfl ?_
  obtain ⟨hc, hp⟩ := hp
  refine wq_newp (k := 0) rfl rfl hc ?_
  refine wp_le [none] (zLe_of (by simp [zLeB])) ?_
  exact s0_28 n    l0 (zN M) (zNew M (1, (240 : Int32).toNatClampNeg) (240 : Int32).toNatClampNeg) hp hQ
def b0_19 (n : Nat)  (l0 : Nat) (s0 : Nat) (s1 : Nat) (M : zM) : zM := b0_22 n  l0 (zWQ M s0 1 (some s1))
def p0_19 (n : Nat)  (l0 : Nat) (s0 : Nat) (s1 : Nat) (M : zM) : Prop := (zPutQ 0 15 s0 M 1) ∧ (p0_22 n  l0 (zWQ M s0 1 (some s1)))
theorem s0_19 (n : Nat)    (l0 : Nat) (s0 : Nat) (s1 : Nat) (M : zM) (hp : p0_19 n  l0 s0 s1 M) {Q : Option Value → zM → Prop} (hQ : ∀ r M1, zRV (b0_19 n  l0 s0 s1 M) r M1 → Q r M1) : zWP 0 19 [some (.ref l0)] [.ref s1, .ref s0] M Q := by
  unfold b0_19 at hQ
  unfold p0_19 at hp
  obtain ⟨hc, hp⟩ := hp
  refine wq_putQ (j := 1) rfl hc ?_
  exact s0_22 n    l0 (zWQ M s0 1 (some s1)) hp hQ
def b0_13 (n : Nat)  (l0 : Nat) (M : zM) : zM := b0_19 n  l0 l0 (zN M) (zNew M (1, (240 : Int32).toNatClampNeg) (240 : Int32).toNatClampNeg)
def p0_13 (n : Nat)  (l0 : Nat) (M : zM) : Prop := (zOkW (240 : Int32) M) ∧ (p0_19 n  l0 l0 (zN M) (zNew M (1, (240 : Int32).toNatClampNeg) (240 : Int32).toNatClampNeg))
theorem s0_13 (n : Nat)    (l0 : Nat) (M : zM) (hp : p0_13 n  l0 M) {Q : Option Value → zM → Prop} (hQ : ∀ r M1, zRV (b0_13 n  l0 M) r M1 → Q r M1) : zWP 0 13 [some (.ref l0)] [] M Q := by
  unfold b0_13 at hQ
  unfold p0_13 at hp
  refine wp_go 2 (pc' := 17) (L' := [some (.ref l0)]) (st' := [.int (240 : Int32), .ref l0]) (M' := M) rfl ?_
  obtain ⟨hc, hp⟩ := hp
  refine wq_newp (k := 0) rfl rfl hc ?_
  exact s0_19 n    l0 l0 (zN M) (zNew M (1, (240 : Int32).toNatClampNeg) (240 : Int32).toNatClampNeg) hp hQ
def b0_10 (n : Nat)  (l0 : Nat) (s0 : Nat) (s1 : Nat) (M : zM) : zM := b0_13 n  l0 (zWQ M s0 0 (some s1))
def p0_10 (n : Nat)  (l0 : Nat) (s0 : Nat) (s1 : Nat) (M : zM) : Prop := (zPutQ 0 9 s0 M 0) ∧ (p0_13 n  l0 (zWQ M s0 0 (some s1)))
theorem s0_10 (n : Nat)    (l0 : Nat) (s0 : Nat) (s1 : Nat) (M : zM) (hp : p0_10 n  l0 s0 s1 M) {Q : Option Value → zM → Prop} (hQ : ∀ r M1, zRV (b0_10 n  l0 s0 s1 M) r M1 → Q r M1) : zWP 0 10 [some (.ref l0)] [.ref s1, .ref s0] M Q := by
  unfold b0_10 at hQ
  unfold p0_10 at hp
  obtain ⟨hc, hp⟩ := hp
  refine wq_putQ (j := 0) rfl hc ?_
  exact s0_13 n    l0 (zWQ M s0 0 (some s1)) hp hQ
def b0_0 (n : Nat)  (l0 : Nat) (M : zM) : zM := b0_10 n  l0 l0 (zN M) (zNew M (1, (240 : Int32).toNatClampNeg) (240 : Int32).toNatClampNeg)
def p0_0 (n : Nat)  (l0 : Nat) (M : zM) : Prop := (zOkW (240 : Int32) M) ∧ (p0_10 n  l0 l0 (zN M) (zNew M (1, (240 : Int32).toNatClampNeg) (240 : Int32).toNatClampNeg))
theorem s0_0 (n : Nat)    (l0 : Nat) (M : zM) (hp : p0_0 n  l0 M) {Q : Option Value → zM → Prop} (hQ : ∀ r M1, zRV (b0_0 n  l0 M) r M1 → Q r M1) : zWP 0 0 [some (.ref l0)] [] M Q := by
  unfold b0_0 at hQ
  unfold p0_0 at hp
  refine wp_go 1 (pc' := 1) (L' := [some (.ref l0)]) (st' := [.ref l0]) (M' := M) rfl ?_
  refine wq_obj rfl rfl rfl (by decide) ?_
  refine wp_go 2 (pc' := 8) (L' := [some (.ref l0)]) (st' := [.int (240 : Int32), .ref l0]) (M' := M) rfl ?_
  obtain ⟨hc, hp⟩ := hp
  refine wq_newp (k := 0) rfl rfl hc ?_
  exact s0_10 n    l0 l0 (zN M) (zNew M (1, (240 : Int32).toNatClampNeg) (240 : Int32).toNatClampNeg) hp hQ
/-! X6_init -/
def b35_44 (n : Nat)   (M : zM) : zM := M
def p35_44 (n : Nat)   (M : zM) : Prop := True
theorem s35_44 (n : Nat)     (M : zM) (hp : p35_44 n   M) {Q : Option Value → zM → Prop} (hQ : ∀ r M1, zRV (b35_44 n   M) r M1 → Q r M1) : zWP 35 44 [none] [] M Q := by
  unfold b35_44 at hQ
  unfold p35_44 at hp
  exact wp_ret (r := none) rfl rfl (hQ _ _ ⟨rfl, rfl⟩)
def b35_39 (n : Nat)  (l0 : Nat) (M : zM) : zM := b35_44 n  (zWI M l0 7 (0 : Int32))
def p35_39 (n : Nat)  (l0 : Nat) (M : zM) : Prop := (zPutI 35 33 l0 M 7 (0 : Int32)) ∧ (p35_44 n  (zWI M l0 7 (0 : Int32)))
theorem s35_39 (n : Nat)    (l0 : Nat) (M : zM) (hp : p35_39 n  l0 M) {Q : Option Value → zM → Prop} (hQ : ∀ r M1, zRV (b35_39 n  l0 M) r M1 → Q r M1) : zWP 35 39 [some (.ref l0)] [] M Q := by
  unfold b35_39 at hQ
  unfold p35_39 at hp
  refine wp_go 2 (pc' := 41) (L' := [some (.ref l0)]) (st' := [.int (0 : Int32), .ref l0]) (M' := M) rfl ?_
  obtain ⟨hc, hp⟩ := hp
  refine wq_putI (j := 7) rfl hc ?_
  refine wp_le [none] (zLe_of (by simp [zLeB])) ?_
  exact s35_44 n    (zWI M l0 7 (0 : Int32)) hp hQ
def b35_34 (n : Nat)  (l0 : Nat) (M : zM) : zM := b35_39 n  l0 (zWI M l0 6 (0 : Int32))
def p35_34 (n : Nat)  (l0 : Nat) (M : zM) : Prop := (zPutI 35 30 l0 M 6 (0 : Int32)) ∧ (p35_39 n  l0 (zWI M l0 6 (0 : Int32)))
theorem s35_34 (n : Nat)    (l0 : Nat) (M : zM) (hp : p35_34 n  l0 M) {Q : Option Value → zM → Prop} (hQ : ∀ r M1, zRV (b35_34 n  l0 M) r M1 → Q r M1) : zWP 35 34 [some (.ref l0)] [] M Q := by
  unfold b35_34 at hQ
  unfold p35_34 at hp
  refine wp_go 2 (pc' := 36) (L' := [some (.ref l0)]) (st' := [.int (0 : Int32), .ref l0]) (M' := M) rfl ?_
  obtain ⟨hc, hp⟩ := hp
  refine wq_putI (j := 6) rfl hc ?_
  exact s35_39 n    l0 (zWI M l0 6 (0 : Int32)) hp hQ
def b35_29 (n : Nat)  (l0 : Nat) (M : zM) : zM := b35_34 n  l0 (zWI M l0 5 (0 : Int32))
def p35_29 (n : Nat)  (l0 : Nat) (M : zM) : Prop := (zPutI 35 27 l0 M 5 (0 : Int32)) ∧ (p35_34 n  l0 (zWI M l0 5 (0 : Int32)))
theorem s35_29 (n : Nat)    (l0 : Nat) (M : zM) (hp : p35_29 n  l0 M) {Q : Option Value → zM → Prop} (hQ : ∀ r M1, zRV (b35_29 n  l0 M) r M1 → Q r M1) : zWP 35 29 [some (.ref l0)] [] M Q := by
  unfold b35_29 at hQ
  unfold p35_29 at hp
  refine wp_go 2 (pc' := 31) (L' := [some (.ref l0)]) (st' := [.int (0 : Int32), .ref l0]) (M' := M) rfl ?_
  obtain ⟨hc, hp⟩ := hp
  refine wq_putI (j := 5) rfl hc ?_
  exact s35_34 n    l0 (zWI M l0 5 (0 : Int32)) hp hQ
def b35_24 (n : Nat)  (l0 : Nat) (M : zM) : zM := b35_29 n  l0 (zWI M l0 4 (0 : Int32))
def p35_24 (n : Nat)  (l0 : Nat) (M : zM) : Prop := (zPutI 35 24 l0 M 4 (0 : Int32)) ∧ (p35_29 n  l0 (zWI M l0 4 (0 : Int32)))
theorem s35_24 (n : Nat)    (l0 : Nat) (M : zM) (hp : p35_24 n  l0 M) {Q : Option Value → zM → Prop} (hQ : ∀ r M1, zRV (b35_24 n  l0 M) r M1 → Q r M1) : zWP 35 24 [some (.ref l0)] [] M Q := by
  unfold b35_24 at hQ
  unfold p35_24 at hp
  refine wp_go 2 (pc' := 26) (L' := [some (.ref l0)]) (st' := [.int (0 : Int32), .ref l0]) (M' := M) rfl ?_
  obtain ⟨hc, hp⟩ := hp
  refine wq_putI (j := 4) rfl hc ?_
  exact s35_29 n    l0 (zWI M l0 4 (0 : Int32)) hp hQ
def b35_19 (n : Nat)  (l0 : Nat) (M : zM) : zM := b35_24 n  l0 (zWI M l0 3 (0 : Int32))
def p35_19 (n : Nat)  (l0 : Nat) (M : zM) : Prop := (zPutI 35 21 l0 M 3 (0 : Int32)) ∧ (p35_24 n  l0 (zWI M l0 3 (0 : Int32)))
theorem s35_19 (n : Nat)    (l0 : Nat) (M : zM) (hp : p35_19 n  l0 M) {Q : Option Value → zM → Prop} (hQ : ∀ r M1, zRV (b35_19 n  l0 M) r M1 → Q r M1) : zWP 35 19 [some (.ref l0)] [] M Q := by
  unfold b35_19 at hQ
  unfold p35_19 at hp
  refine wp_go 2 (pc' := 21) (L' := [some (.ref l0)]) (st' := [.int (0 : Int32), .ref l0]) (M' := M) rfl ?_
  obtain ⟨hc, hp⟩ := hp
  refine wq_putI (j := 3) rfl hc ?_
  exact s35_24 n    l0 (zWI M l0 3 (0 : Int32)) hp hQ
def b35_14 (n : Nat)  (l0 : Nat) (M : zM) : zM := b35_19 n  l0 (zWI M l0 2 (0 : Int32))
def p35_14 (n : Nat)  (l0 : Nat) (M : zM) : Prop := (zPutI 35 18 l0 M 2 (0 : Int32)) ∧ (p35_19 n  l0 (zWI M l0 2 (0 : Int32)))
theorem s35_14 (n : Nat)    (l0 : Nat) (M : zM) (hp : p35_14 n  l0 M) {Q : Option Value → zM → Prop} (hQ : ∀ r M1, zRV (b35_14 n  l0 M) r M1 → Q r M1) : zWP 35 14 [some (.ref l0)] [] M Q := by
  unfold b35_14 at hQ
  unfold p35_14 at hp
  refine wp_go 2 (pc' := 16) (L' := [some (.ref l0)]) (st' := [.int (0 : Int32), .ref l0]) (M' := M) rfl ?_
  obtain ⟨hc, hp⟩ := hp
  refine wq_putI (j := 2) rfl hc ?_
  exact s35_19 n    l0 (zWI M l0 2 (0 : Int32)) hp hQ
def b35_9 (n : Nat)  (l0 : Nat) (M : zM) : zM := b35_14 n  l0 (zWI M l0 1 (0 : Int32))
def p35_9 (n : Nat)  (l0 : Nat) (M : zM) : Prop := (zPutI 35 15 l0 M 1 (0 : Int32)) ∧ (p35_14 n  l0 (zWI M l0 1 (0 : Int32)))
theorem s35_9 (n : Nat)    (l0 : Nat) (M : zM) (hp : p35_9 n  l0 M) {Q : Option Value → zM → Prop} (hQ : ∀ r M1, zRV (b35_9 n  l0 M) r M1 → Q r M1) : zWP 35 9 [some (.ref l0)] [] M Q := by
  unfold b35_9 at hQ
  unfold p35_9 at hp
  refine wp_go 2 (pc' := 11) (L' := [some (.ref l0)]) (st' := [.int (0 : Int32), .ref l0]) (M' := M) rfl ?_
  obtain ⟨hc, hp⟩ := hp
  refine wq_putI (j := 1) rfl hc ?_
  exact s35_14 n    l0 (zWI M l0 1 (0 : Int32)) hp hQ
def b35_0 (n : Nat)  (l0 : Nat) (M : zM) : zM := b35_9 n  l0 (zWI M l0 0 (0 : Int32))
def p35_0 (n : Nat)  (l0 : Nat) (M : zM) : Prop := (zPutI 35 9 l0 M 0 (0 : Int32)) ∧ (p35_9 n  l0 (zWI M l0 0 (0 : Int32)))
theorem s35_0 (n : Nat)    (l0 : Nat) (M : zM) (hp : p35_0 n  l0 M) {Q : Option Value → zM → Prop} (hQ : ∀ r M1, zRV (b35_0 n  l0 M) r M1 → Q r M1) : zWP 35 0 [some (.ref l0)] [] M Q := by
  unfold b35_0 at hQ
  unfold p35_0 at hp
  refine wp_go 1 (pc' := 1) (L' := [some (.ref l0)]) (st' := [.ref l0]) (M' := M) rfl ?_
  refine wq_obj rfl rfl rfl (by decide) ?_
  refine wp_go 2 (pc' := 6) (L' := [some (.ref l0)]) (st' := [.int (0 : Int32), .ref l0]) (M' := M) rfl ?_
  obtain ⟨hc, hp⟩ := hp
  refine wq_putI (j := 0) rfl hc ?_
  exact s35_9 n    l0 (zWI M l0 0 (0 : Int32)) hp hQ
/-! X1_init -/
def b12_14 (n : Nat)   (M : zM) : zM := M
def p12_14 (n : Nat)   (M : zM) : Prop := True
theorem s12_14 (n : Nat)     (M : zM) (hp : p12_14 n   M) {Q : Option Value → zM → Prop} (hQ : ∀ r M1, zRV (b12_14 n   M) r M1 → Q r M1) : zWP 12 14 [none] [] M Q := by
  unfold b12_14 at hQ
  unfold p12_14 at hp
  exact wp_ret (r := none) rfl rfl (hQ _ _ ⟨rfl, rfl⟩)
def b12_9 (n : Nat)  (l0 : Nat) (M : zM) : zM := b12_14 n  (zWI M l0 9 (0 : Int32))
def p12_9 (n : Nat)  (l0 : Nat) (M : zM) : Prop := (zPutI 12 13 l0 M 9 (0 : Int32)) ∧ (p12_14 n  (zWI M l0 9 (0 : Int32)))
theorem s12_9 (n : Nat)    (l0 : Nat) (M : zM) (hp : p12_9 n  l0 M) {Q : Option Value → zM → Prop} (hQ : ∀ r M1, zRV (b12_9 n  l0 M) r M1 → Q r M1) : zWP 12 9 [some (.ref l0)] [] M Q := by
  unfold b12_9 at hQ
  unfold p12_9 at hp
  refine wp_go 2 (pc' := 11) (L' := [some (.ref l0)]) (st' := [.int (0 : Int32), .ref l0]) (M' := M) rfl ?_
  obtain ⟨hc, hp⟩ := hp
  refine wq_putI (j := 9) rfl hc ?_
  refine wp_le [none] (zLe_of (by simp [zLeB])) ?_
  exact s12_14 n    (zWI M l0 9 (0 : Int32)) hp hQ
def b12_4 (n : Nat)  (l0 : Nat) (M : zM) : zM := b12_9 n  l0 (zWI M l0 8 (0 : Int32))
def p12_4 (n : Nat)  (l0 : Nat) (M : zM) : Prop := (zPutI 12 7 l0 M 8 (0 : Int32)) ∧ (p12_9 n  l0 (zWI M l0 8 (0 : Int32)))
theorem s12_4 (n : Nat)    (l0 : Nat) (M : zM) (hp : p12_4 n  l0 M) {Q : Option Value → zM → Prop} (hQ : ∀ r M1, zRV (b12_4 n  l0 M) r M1 → Q r M1) : zWP 12 4 [some (.ref l0)] [] M Q := by
  unfold b12_4 at hQ
  unfold p12_4 at hp
  refine wp_go 2 (pc' := 6) (L' := [some (.ref l0)]) (st' := [.int (0 : Int32), .ref l0]) (M' := M) rfl ?_
  obtain ⟨hc, hp⟩ := hp
  refine wq_putI (j := 8) rfl hc ?_
  exact s12_9 n    l0 (zWI M l0 8 (0 : Int32)) hp hQ
def b12_0 (n : Nat)  (l0 : Nat) (M : zM) : zM := b12_4 n  l0 (b35_0 n l0 M)
def p12_0 (n : Nat)  (l0 : Nat) (M : zM) : Prop := (p35_0 n l0 M) ∧ (p12_4 n  l0 (b35_0 n l0 M))
theorem s12_0 (n : Nat)    (l0 : Nat) (M : zM) (hp : p12_0 n  l0 M) {Q : Option Value → zM → Prop} (hQ : ∀ r M1, zRV (b12_0 n  l0 M) r M1 → Q r M1) : zWP 12 0 [some (.ref l0)] [] M Q := by
  unfold b12_0 at hQ
  unfold p12_0 at hp
  refine wp_go 1 (pc' := 1) (L' := [some (.ref l0)]) (st' := [.ref l0]) (M' := M) rfl ?_
  obtain ⟨hc, hp⟩ := hp
  refine wp_callv (M1 := (b35_0 n l0 M)) rfl rfl rfl rfl (s35_0 n l0 M hc (fun r M1 h => h)) ?_
  exact s12_4 n    l0 (b35_0 n l0 M) hp hQ
/-! X2_init -/
def b13_44 (n : Nat) (k25 : Nat → Int32 → zM → zM) (l0 : Nat) (l1 : Int32) (M : zM) : zM := k25 l0 (l1 + Int32.ofInt 1) M
def p13_44 (n : Nat) (q25 : Nat → Int32 → zM → Prop) (l0 : Nat) (l1 : Int32) (M : zM) : Prop := q25 l0 (l1 + Int32.ofInt 1) M
theorem s13_44 (n : Nat) (k25 : Nat → Int32 → zM → zM) (q25 : Nat → Int32 → zM → Prop) (h25 : ∀ (l0 : Nat) (l1 : Int32) (M : zM), q25 l0 l1 M → ∀ {Q : Option Value → zM → Prop}, (∀ r M1, zRV (k25 l0 l1 M) r M1 → Q r M1) → zWP 13 25 [some (.ref l0), some (.int l1)] [] M Q) (l0 : Nat) (l1 : Int32) (M : zM) (hp : p13_44 n q25 l0 l1 M) {Q : Option Value → zM → Prop} (hQ : ∀ r M1, zRV (b13_44 n k25 l0 l1 M) r M1 → Q r M1) : zWP 13 44 [some (.ref l0), some (.int l1)] [] M Q := by
  unfold b13_44 at hQ
  unfold p13_44 at hp
  refine wp_go 2 (pc' := 25) (L' := [some (.ref l0), some (.int (l1 + Int32.ofInt 1))]) (st' := []) (M' := M) rfl ?_
  exact h25 l0 (l1 + Int32.ofInt 1) M hp hQ
def b13_43 (n : Nat) (k25 : Nat → Int32 → zM → zM) (l0 : Nat) (l1 : Int32) (s0 : Nat) (s1 : Int32) (s2 : Nat) (M : zM) : zM := b13_44 n k25 l0 l1 (zWQ M s0 s1.toNatClampNeg (some s2))
def p13_43 (n : Nat) (q25 : Nat → Int32 → zM → Prop) (l0 : Nat) (l1 : Int32) (s0 : Nat) (s1 : Int32) (s2 : Nat) (M : zM) : Prop := (zOkS s0 s2 s1 M) ∧ (p13_44 n q25 l0 l1 (zWQ M s0 s1.toNatClampNeg (some s2)))
theorem s13_43 (n : Nat) (k25 : Nat → Int32 → zM → zM) (q25 : Nat → Int32 → zM → Prop) (h25 : ∀ (l0 : Nat) (l1 : Int32) (M : zM), q25 l0 l1 M → ∀ {Q : Option Value → zM → Prop}, (∀ r M1, zRV (k25 l0 l1 M) r M1 → Q r M1) → zWP 13 25 [some (.ref l0), some (.int l1)] [] M Q) (l0 : Nat) (l1 : Int32) (s0 : Nat) (s1 : Int32) (s2 : Nat) (M : zM) (hp : p13_43 n q25 l0 l1 s0 s1 s2 M) {Q : Option Value → zM → Prop} (hQ : ∀ r M1, zRV (b13_43 n k25 l0 l1 s0 s1 s2 M) r M1 → Q r M1) : zWP 13 43 [some (.ref l0), some (.int l1)] [.ref s2, .int s1, .ref s0] M Q := by
  unfold b13_43 at hQ
  unfold p13_43 at hp
  obtain ⟨hc, hp⟩ := hp
  refine wq_aast rfl hc ?_
  exact s13_44 n k25 q25 h25 l0 l1 (zWQ M s0 s1.toNatClampNeg (some s2)) hp hQ
def b13_39 (n : Nat) (k25 : Nat → Int32 → zM → zM) (l0 : Nat) (l1 : Int32) (s0 : Nat) (s1 : Int32) (s2 : Nat) (M : zM) : zM := b13_43 n k25 l0 l1 s0 s1 s2 (b12_0 n s2 M)
def p13_39 (n : Nat) (q25 : Nat → Int32 → zM → Prop) (l0 : Nat) (l1 : Int32) (s0 : Nat) (s1 : Int32) (s2 : Nat) (M : zM) : Prop := (p12_0 n s2 M) ∧ (p13_43 n q25 l0 l1 s0 s1 s2 (b12_0 n s2 M))
theorem s13_39 (n : Nat) (k25 : Nat → Int32 → zM → zM) (q25 : Nat → Int32 → zM → Prop) (h25 : ∀ (l0 : Nat) (l1 : Int32) (M : zM), q25 l0 l1 M → ∀ {Q : Option Value → zM → Prop}, (∀ r M1, zRV (k25 l0 l1 M) r M1 → Q r M1) → zWP 13 25 [some (.ref l0), some (.int l1)] [] M Q) (l0 : Nat) (l1 : Int32) (s0 : Nat) (s1 : Int32) (s2 : Nat) (M : zM) (hp : p13_39 n q25 l0 l1 s0 s1 s2 M) {Q : Option Value → zM → Prop} (hQ : ∀ r M1, zRV (b13_39 n k25 l0 l1 s0 s1 s2 M) r M1 → Q r M1) : zWP 13 39 [some (.ref l0), some (.int l1)] [.ref s2, .int s1, .ref s0] M Q := by
  unfold b13_39 at hQ
  unfold p13_39 at hp
  refine wp_go 1 (pc' := 40) (L' := [some (.ref l0), some (.int l1)]) (st' := [.ref s2, .ref s2, .int s1, .ref s0]) (M' := M) rfl ?_
  obtain ⟨hc, hp⟩ := hp
  refine wp_callv (M1 := (b12_0 n s2 M)) rfl rfl rfl rfl (s12_0 n s2 M hc (fun r M1 h => h)) ?_
  exact s13_43 n k25 q25 h25 l0 l1 s0 s1 s2 (b12_0 n s2 M) hp hQ
def c13_25 (n : Nat) (k25 : Nat → Int32 → zM → zM) (l0 : Nat) (l1 : Int32) (M : zM) : zM := (if (40 : Int32) ≤ l1 then M else b13_39 n k25 l0 l1 (zQ M l0 0) l1 (zN M) (zNew M (0, 1) (zNf 1)))
def d13_25 (n : Nat) (q25 : Nat → Int32 → zM → Prop) (l0 : Nat) (l1 : Int32) (M : zM) : Prop := (((40 : Int32) ≤ l1 → True) ∧ (¬ (40 : Int32) ≤ l1 → (zHasQ 2 11 l0 M 0) ∧ ((zOkM M) ∧ (p13_39 n q25 l0 l1 (zQ M l0 0) l1 (zN M) (zNew M (0, 1) (zNf 1))))))
theorem t13_25 (n : Nat) (k25 : Nat → Int32 → zM → zM) (q25 : Nat → Int32 → zM → Prop) (h25 : ∀ (l0 : Nat) (l1 : Int32) (M : zM), q25 l0 l1 M → ∀ {Q : Option Value → zM → Prop}, (∀ r M1, zRV (k25 l0 l1 M) r M1 → Q r M1) → zWP 13 25 [some (.ref l0), some (.int l1)] [] M Q) (l0 : Nat) (l1 : Int32) (M : zM) (hp : d13_25 n q25 l0 l1 M) {Q : Option Value → zM → Prop} (hQ : ∀ r M1, zRV (c13_25 n k25 l0 l1 M) r M1 → Q r M1) : zWP 13 25 [some (.ref l0), some (.int l1)] [] M Q := by
  unfold c13_25 at hQ
  unfold d13_25 at hp
  refine wp_go 2 (pc' := 28) (L' := [some (.ref l0), some (.int l1)]) (st' := [.int (40 : Int32), .int l1]) (M' := M) rfl ?_
  refine wp_ic_ge (t := 50) rfl rfl (fun hc => ?_) (fun hc => ?_)
  · rw [if_pos hc] at hQ
    replace hp := hp.1 hc
    exact wp_ret (r := none) rfl rfl (hQ _ _ ⟨rfl, rfl⟩)
  · rw [if_neg hc] at hQ
    replace hp := hp.2 hc
    refine wp_go 1 (pc' := 32) (L' := [some (.ref l0), some (.int l1)]) (st' := [.ref l0]) (M' := M) rfl ?_
    obtain ⟨hc, hp⟩ := hp
    refine wq_getQ (j := 0) rfl hc ?_
    refine wp_go 1 (pc' := 36) (L' := [some (.ref l0), some (.int l1)]) (st' := [.int l1, .ref (zQ M l0 0)]) (M' := M) rfl ?_
    obtain ⟨hc, hp⟩ := hp
    refine wq_new (c := 1) rfl rfl rfl hc ?_
    exact s13_39 n k25 q25 h25 l0 l1 (zQ M l0 0) l1 (zN M) (zNew M (0, 1) (zNf 1)) hp hQ
def b13_25 (n : Nat)  : Nat → Nat → Int32 → zM → zM
  | 0, _, _, M => M
  | k + 1, l0, l1, M => c13_25 n  (b13_25 n  k) l0 l1 M
def p13_25 (n : Nat)  : Nat → Nat → Int32 → zM → Prop
  | 0, _, _, _ => False
  | k + 1, l0, l1, M => d13_25 n  (p13_25 n  k) l0 l1 M
theorem s13_25 (n : Nat)    : ∀ (k : Nat) (l0 : Nat) (l1 : Int32) (M : zM), p13_25 n  k l0 l1 M → ∀ {Q : Option Value → zM → Prop}, (∀ r M1, zRV (b13_25 n  k l0 l1 M) r M1 → Q r M1) → zWP 13 25 [some (.ref l0), some (.int l1)] [] M Q
  | 0, _, _, _, h, _, _ => h.elim
  | k + 1, l0, l1, M, h, _, hQ => t13_25 n  (b13_25 n  k)  (p13_25 n  k)  (s13_25 n    k) l0 l1 M h hQ
def b13_23 (n : Nat)  (l0 : Nat) (M : zM) : zM := b13_25 n  n l0 (0 : Int32) M
def p13_23 (n : Nat)  (l0 : Nat) (M : zM) : Prop := p13_25 n  n l0 (0 : Int32) M
theorem s13_23 (n : Nat)    (l0 : Nat) (M : zM) (hp : p13_23 n  l0 M) {Q : Option Value → zM → Prop} (hQ : ∀ r M1, zRV (b13_23 n  l0 M) r M1 → Q r M1) : zWP 13 23 [some (.ref l0), none] [] M Q := by
  unfold b13_23 at hQ
  unfold p13_23 at hp
  refine wp_go 2 (pc' := 25) (L' := [some (.ref l0), some (.int (0 : Int32))]) (st' := []) (M' := M) rfl ?_
  exact s13_25 n    n l0 (0 : Int32) M hp hQ
def b13_18 (n : Nat)  (l0 : Nat) (M : zM) : zM := b13_23 n  l0 (zWI M l0 2 (0 : Int32))
def p13_18 (n : Nat)  (l0 : Nat) (M : zM) : Prop := (zPutI 13 21 l0 M 2 (0 : Int32)) ∧ (p13_23 n  l0 (zWI M l0 2 (0 : Int32)))
theorem s13_18 (n : Nat)    (l0 : Nat) (M : zM) (hp : p13_18 n  l0 M) {Q : Option Value → zM → Prop} (hQ : ∀ r M1, zRV (b13_18 n  l0 M) r M1 → Q r M1) : zWP 13 18 [some (.ref l0), none] [] M Q := by
  unfold b13_18 at hQ
  unfold p13_18 at hp
  refine wp_go 2 (pc' := 20) (L' := [some (.ref l0), none]) (st' := [.int (0 : Int32), .ref l0]) (M' := M) rfl ?_
  obtain ⟨hc, hp⟩ := hp
  refine wq_putI (j := 2) rfl hc ?_
  exact s13_23 n    l0 (zWI M l0 2 (0 : Int32)) hp hQ
def b13_13 (n : Nat)  (l0 : Nat) (M : zM) : zM := b13_18 n  l0 (zWI M l0 1 (0 : Int32))
def p13_13 (n : Nat)  (l0 : Nat) (M : zM) : Prop := (zPutI 13 17 l0 M 1 (0 : Int32)) ∧ (p13_18 n  l0 (zWI M l0 1 (0 : Int32)))
theorem s13_13 (n : Nat)    (l0 : Nat) (M : zM) (hp : p13_13 n  l0 M) {Q : Option Value → zM → Prop} (hQ : ∀ r M1, zRV (b13_13 n  l0 M) r M1 → Q r M1) : zWP 13 13 [some (.ref l0), none] [] M Q := by
  unfold b13_13 at hQ
  unfold p13_13 at hp
  refine wp_go 2 (pc' := 15) (L' := [some (.ref l0), none]) (st' := [.int (0 : Int32), .ref l0]) (M' := M) rfl ?_
  obtain ⟨hc, hp⟩ := hp
  refine wq_putI (j := 1) rfl hc ?_
  exact s13_18 n    l0 (zWI M l0 1 (0 : Int32)) hp hQ
def b13_10 (n : Nat)  (l0 : Nat) (s0 : Nat) (s1 : Nat) (M : zM) : zM := b13_13 n  l0 (zWQ M s0 0 (some s1))
def p13_10 (n : Nat)  (l0 : Nat) (s0 : Nat) (s1 : Nat) (M : zM) : Prop := (zPutQ 13 11 s0 M 0) ∧ (p13_13 n  l0 (zWQ M s0 0 (some s1)))
theorem s13_10 (n : Nat)    (l0 : Nat) (s0 : Nat) (s1 : Nat) (M : zM) (hp : p13_10 n  l0 s0 s1 M) {Q : Option Value → zM → Prop} (hQ : ∀ r M1, zRV (b13_10 n  l0 s0 s1 M) r M1 → Q r M1) : zWP 13 10 [some (.ref l0), none] [.ref s1, .ref s0] M Q := by
  unfold b13_10 at hQ
  unfold p13_10 at hp
  obtain ⟨hc, hp⟩ := hp
  refine wq_putQ (j := 0) rfl hc ?_
  exact s13_13 n    l0 (zWQ M s0 0 (some s1)) hp hQ
def b13_0 (n : Nat)  (l0 : Nat) (M : zM) : zM := b13_10 n  l0 l0 (zN M) (zNew M (6, (40 : Int32).toNatClampNeg) (40 : Int32).toNatClampNeg)
def p13_0 (n : Nat)  (l0 : Nat) (M : zM) : Prop := (zOkW (40 : Int32) M) ∧ (p13_10 n  l0 l0 (zN M) (zNew M (6, (40 : Int32).toNatClampNeg) (40 : Int32).toNatClampNeg))
theorem s13_0 (n : Nat)    (l0 : Nat) (M : zM) (hp : p13_0 n  l0 M) {Q : Option Value → zM → Prop} (hQ : ∀ r M1, zRV (b13_0 n  l0 M) r M1 → Q r M1) : zWP 13 0 [some (.ref l0), none] [] M Q := by
  unfold b13_0 at hQ
  unfold p13_0 at hp
  refine wp_go 1 (pc' := 1) (L' := [some (.ref l0), none]) (st' := [.ref l0]) (M' := M) rfl ?_
  refine wq_obj rfl rfl rfl (by decide) ?_
  refine wp_go 2 (pc' := 7) (L' := [some (.ref l0), none]) (st' := [.int (40 : Int32), .ref l0]) (M' := M) rfl ?_
  obtain ⟨hc, hp⟩ := hp
  refine wq_newq (t := 5) rfl rfl hc ?_
  exact s13_10 n    l0 l0 (zN M) (zNew M (6, (40 : Int32).toNatClampNeg) (40 : Int32).toNatClampNeg) hp hQ
/-! X4_init -/
def b21_54 (n : Nat)   (M : zM) : zM := M
def p21_54 (n : Nat)   (M : zM) : Prop := True
theorem s21_54 (n : Nat)     (M : zM) (hp : p21_54 n   M) {Q : Option Value → zM → Prop} (hQ : ∀ r M1, zRV (b21_54 n   M) r M1 → Q r M1) : zWP 21 54 [none] [] M Q := by
  unfold b21_54 at hQ
  unfold p21_54 at hp
  exact wp_ret (r := none) rfl rfl (hQ _ _ ⟨rfl, rfl⟩)
def b21_49 (n : Nat)  (l0 : Nat) (M : zM) : zM := b21_54 n  (zWI M l0 6 (0 : Int32))
def p21_49 (n : Nat)  (l0 : Nat) (M : zM) : Prop := (zPutI 21 31 l0 M 6 (0 : Int32)) ∧ (p21_54 n  (zWI M l0 6 (0 : Int32)))
theorem s21_49 (n : Nat)    (l0 : Nat) (M : zM) (hp : p21_49 n  l0 M) {Q : Option Value → zM → Prop} (hQ : ∀ r M1, zRV (b21_49 n  l0 M) r M1 → Q r M1) : zWP 21 49 [some (.ref l0)] [] M Q := by
  unfold b21_49 at hQ
  unfold p21_49 at hp
  refine wp_go 2 (pc' := 51) (L' := [some (.ref l0)]) (st' := [.int (0 : Int32), .ref l0]) (M' := M) rfl ?_
  obtain ⟨hc, hp⟩ := hp
  refine wq_putI (j := 6) rfl hc ?_
  refine wp_le [none] (zLe_of (by simp [zLeB])) ?_
  exact s21_54 n    (zWI M l0 6 (0 : Int32)) hp hQ
def b21_44 (n : Nat)  (l0 : Nat) (M : zM) : zM := b21_49 n  l0 (zWI M l0 5 (0 : Int32))
def p21_44 (n : Nat)  (l0 : Nat) (M : zM) : Prop := (zPutI 21 27 l0 M 5 (0 : Int32)) ∧ (p21_49 n  l0 (zWI M l0 5 (0 : Int32)))
theorem s21_44 (n : Nat)    (l0 : Nat) (M : zM) (hp : p21_44 n  l0 M) {Q : Option Value → zM → Prop} (hQ : ∀ r M1, zRV (b21_44 n  l0 M) r M1 → Q r M1) : zWP 21 44 [some (.ref l0)] [] M Q := by
  unfold b21_44 at hQ
  unfold p21_44 at hp
  refine wp_go 2 (pc' := 46) (L' := [some (.ref l0)]) (st' := [.int (0 : Int32), .ref l0]) (M' := M) rfl ?_
  obtain ⟨hc, hp⟩ := hp
  refine wq_putI (j := 5) rfl hc ?_
  exact s21_49 n    l0 (zWI M l0 5 (0 : Int32)) hp hQ
def b21_41 (n : Nat)  (l0 : Nat) (s0 : Nat) (s1 : Nat) (M : zM) : zM := b21_44 n  l0 (zWQ M s0 4 (some s1))
def p21_41 (n : Nat)  (l0 : Nat) (s0 : Nat) (s1 : Nat) (M : zM) : Prop := (zPutQ 21 24 s0 M 4) ∧ (p21_44 n  l0 (zWQ M s0 4 (some s1)))
theorem s21_41 (n : Nat)    (l0 : Nat) (s0 : Nat) (s1 : Nat) (M : zM) (hp : p21_41 n  l0 s0 s1 M) {Q : Option Value → zM → Prop} (hQ : ∀ r M1, zRV (b21_41 n  l0 s0 s1 M) r M1 → Q r M1) : zWP 21 41 [some (.ref l0)] [.ref s1, .ref s0] M Q := by
  unfold b21_41 at hQ
  unfold p21_41 at hp
  obtain ⟨hc, hp⟩ := hp
  refine wq_putQ (j := 4) rfl hc ?_
  exact s21_44 n    l0 (zWQ M s0 4 (some s1)) hp hQ
def b21_36 (n : Nat)  (l0 : Nat) (M : zM) : zM := b21_41 n  l0 l0 (zN M) (zNew M (1, (12 : Int32).toNatClampNeg) (12 : Int32).toNatClampNeg)
def p21_36 (n : Nat)  (l0 : Nat) (M : zM) : Prop := (zOkW (12 : Int32) M) ∧ (p21_41 n  l0 l0 (zN M) (zNew M (1, (12 : Int32).toNatClampNeg) (12 : Int32).toNatClampNeg))
theorem s21_36 (n : Nat)    (l0 : Nat) (M : zM) (hp : p21_36 n  l0 M) {Q : Option Value → zM → Prop} (hQ : ∀ r M1, zRV (b21_36 n  l0 M) r M1 → Q r M1) : zWP 21 36 [some (.ref l0)] [] M Q := by
  unfold b21_36 at hQ
  unfold p21_36 at hp
  refine wp_go 2 (pc' := 39) (L' := [some (.ref l0)]) (st' := [.int (12 : Int32), .ref l0]) (M' := M) rfl ?_
  obtain ⟨hc, hp⟩ := hp
  refine wq_newp (k := 0) rfl rfl hc ?_
  exact s21_41 n    l0 l0 (zN M) (zNew M (1, (12 : Int32).toNatClampNeg) (12 : Int32).toNatClampNeg) hp hQ
def b21_33 (n : Nat)  (l0 : Nat) (s0 : Nat) (s1 : Nat) (M : zM) : zM := b21_36 n  l0 (zWQ M s0 3 (some s1))
def p21_33 (n : Nat)  (l0 : Nat) (s0 : Nat) (s1 : Nat) (M : zM) : Prop := (zPutQ 21 21 s0 M 3) ∧ (p21_36 n  l0 (zWQ M s0 3 (some s1)))
theorem s21_33 (n : Nat)    (l0 : Nat) (s0 : Nat) (s1 : Nat) (M : zM) (hp : p21_33 n  l0 s0 s1 M) {Q : Option Value → zM → Prop} (hQ : ∀ r M1, zRV (b21_33 n  l0 s0 s1 M) r M1 → Q r M1) : zWP 21 33 [some (.ref l0)] [.ref s1, .ref s0] M Q := by
  unfold b21_33 at hQ
  unfold p21_33 at hp
  obtain ⟨hc, hp⟩ := hp
  refine wq_putQ (j := 3) rfl hc ?_
  exact s21_36 n    l0 (zWQ M s0 3 (some s1)) hp hQ
def b21_28 (n : Nat)  (l0 : Nat) (M : zM) : zM := b21_33 n  l0 l0 (zN M) (zNew M (1, (12 : Int32).toNatClampNeg) (12 : Int32).toNatClampNeg)
def p21_28 (n : Nat)  (l0 : Nat) (M : zM) : Prop := (zOkW (12 : Int32) M) ∧ (p21_33 n  l0 l0 (zN M) (zNew M (1, (12 : Int32).toNatClampNeg) (12 : Int32).toNatClampNeg))
theorem s21_28 (n : Nat)    (l0 : Nat) (M : zM) (hp : p21_28 n  l0 M) {Q : Option Value → zM → Prop} (hQ : ∀ r M1, zRV (b21_28 n  l0 M) r M1 → Q r M1) : zWP 21 28 [some (.ref l0)] [] M Q := by
  unfold b21_28 at hQ
  unfold p21_28 at hp
  refine wp_go 2 (pc' := 31) (L' := [some (.ref l0)]) (st' := [.int (12 : Int32), .ref l0]) (M' := M) rfl ?_
  obtain ⟨hc, hp⟩ := hp
  refine wq_newp (k := 0) rfl rfl hc ?_
  exact s21_33 n    l0 l0 (zN M) (zNew M (1, (12 : Int32).toNatClampNeg) (12 : Int32).toNatClampNeg) hp hQ
def b21_25 (n : Nat)  (l0 : Nat) (s0 : Nat) (s1 : Nat) (M : zM) : zM := b21_28 n  l0 (zWQ M s0 2 (some s1))
def p21_25 (n : Nat)  (l0 : Nat) (s0 : Nat) (s1 : Nat) (M : zM) : Prop := (zPutQ 21 18 s0 M 2) ∧ (p21_28 n  l0 (zWQ M s0 2 (some s1)))
theorem s21_25 (n : Nat)    (l0 : Nat) (s0 : Nat) (s1 : Nat) (M : zM) (hp : p21_25 n  l0 s0 s1 M) {Q : Option Value → zM → Prop} (hQ : ∀ r M1, zRV (b21_25 n  l0 s0 s1 M) r M1 → Q r M1) : zWP 21 25 [some (.ref l0)] [.ref s1, .ref s0] M Q := by
  unfold b21_25 at hQ
  unfold p21_25 at hp
  obtain ⟨hc, hp⟩ := hp
  refine wq_putQ (j := 2) rfl hc ?_
  exact s21_28 n    l0 (zWQ M s0 2 (some s1)) hp hQ
def b21_20 (n : Nat)  (l0 : Nat) (M : zM) : zM := b21_25 n  l0 l0 (zN M) (zNew M (1, (12 : Int32).toNatClampNeg) (12 : Int32).toNatClampNeg)
def p21_20 (n : Nat)  (l0 : Nat) (M : zM) : Prop := (zOkW (12 : Int32) M) ∧ (p21_25 n  l0 l0 (zN M) (zNew M (1, (12 : Int32).toNatClampNeg) (12 : Int32).toNatClampNeg))
theorem s21_20 (n : Nat)    (l0 : Nat) (M : zM) (hp : p21_20 n  l0 M) {Q : Option Value → zM → Prop} (hQ : ∀ r M1, zRV (b21_20 n  l0 M) r M1 → Q r M1) : zWP 21 20 [some (.ref l0)] [] M Q := by
  unfold b21_20 at hQ
  unfold p21_20 at hp
  refine wp_go 2 (pc' := 23) (L' := [some (.ref l0)]) (st' := [.int (12 : Int32), .ref l0]) (M' := M) rfl ?_
  obtain ⟨hc, hp⟩ := hp
  refine wq_newp (k := 0) rfl rfl hc ?_
  exact s21_25 n    l0 l0 (zN M) (zNew M (1, (12 : Int32).toNatClampNeg) (12 : Int32).toNatClampNeg) hp hQ
def b21_17 (n : Nat)  (l0 : Nat) (s0 : Nat) (s1 : Nat) (M : zM) : zM := b21_20 n  l0 (zWQ M s0 1 (some s1))
def p21_17 (n : Nat)  (l0 : Nat) (s0 : Nat) (s1 : Nat) (M : zM) : Prop := (zPutQ 21 15 s0 M 1) ∧ (p21_20 n  l0 (zWQ M s0 1 (some s1)))
theorem s21_17 (n : Nat)    (l0 : Nat) (s0 : Nat) (s1 : Nat) (M : zM) (hp : p21_17 n  l0 s0 s1 M) {Q : Option Value → zM → Prop} (hQ : ∀ r M1, zRV (b21_17 n  l0 s0 s1 M) r M1 → Q r M1) : zWP 21 17 [some (.ref l0)] [.ref s1, .ref s0] M Q := by
  unfold b21_17 at hQ
  unfold p21_17 at hp
  obtain ⟨hc, hp⟩ := hp
  refine wq_putQ (j := 1) rfl hc ?_
  exact s21_20 n    l0 (zWQ M s0 1 (some s1)) hp hQ
def b21_12 (n : Nat)  (l0 : Nat) (M : zM) : zM := b21_17 n  l0 l0 (zN M) (zNew M (1, (12 : Int32).toNatClampNeg) (12 : Int32).toNatClampNeg)
def p21_12 (n : Nat)  (l0 : Nat) (M : zM) : Prop := (zOkW (12 : Int32) M) ∧ (p21_17 n  l0 l0 (zN M) (zNew M (1, (12 : Int32).toNatClampNeg) (12 : Int32).toNatClampNeg))
theorem s21_12 (n : Nat)    (l0 : Nat) (M : zM) (hp : p21_12 n  l0 M) {Q : Option Value → zM → Prop} (hQ : ∀ r M1, zRV (b21_12 n  l0 M) r M1 → Q r M1) : zWP 21 12 [some (.ref l0)] [] M Q := by
  unfold b21_12 at hQ
  unfold p21_12 at hp
  refine wp_go 2 (pc' := 15) (L' := [some (.ref l0)]) (st' := [.int (12 : Int32), .ref l0]) (M' := M) rfl ?_
  obtain ⟨hc, hp⟩ := hp
  refine wq_newp (k := 0) rfl rfl hc ?_
  exact s21_17 n    l0 l0 (zN M) (zNew M (1, (12 : Int32).toNatClampNeg) (12 : Int32).toNatClampNeg) hp hQ
def b21_9 (n : Nat)  (l0 : Nat) (s0 : Nat) (s1 : Nat) (M : zM) : zM := b21_12 n  l0 (zWQ M s0 0 (some s1))
def p21_9 (n : Nat)  (l0 : Nat) (s0 : Nat) (s1 : Nat) (M : zM) : Prop := (zPutQ 21 9 s0 M 0) ∧ (p21_12 n  l0 (zWQ M s0 0 (some s1)))
theorem s21_9 (n : Nat)    (l0 : Nat) (s0 : Nat) (s1 : Nat) (M : zM) (hp : p21_9 n  l0 s0 s1 M) {Q : Option Value → zM → Prop} (hQ : ∀ r M1, zRV (b21_9 n  l0 s0 s1 M) r M1 → Q r M1) : zWP 21 9 [some (.ref l0)] [.ref s1, .ref s0] M Q := by
  unfold b21_9 at hQ
  unfold p21_9 at hp
  obtain ⟨hc, hp⟩ := hp
  refine wq_putQ (j := 0) rfl hc ?_
  exact s21_12 n    l0 (zWQ M s0 0 (some s1)) hp hQ
def b21_0 (n : Nat)  (l0 : Nat) (M : zM) : zM := b21_9 n  l0 l0 (zN M) (zNew M (1, (12 : Int32).toNatClampNeg) (12 : Int32).toNatClampNeg)
def p21_0 (n : Nat)  (l0 : Nat) (M : zM) : Prop := (zOkW (12 : Int32) M) ∧ (p21_9 n  l0 l0 (zN M) (zNew M (1, (12 : Int32).toNatClampNeg) (12 : Int32).toNatClampNeg))
theorem s21_0 (n : Nat)    (l0 : Nat) (M : zM) (hp : p21_0 n  l0 M) {Q : Option Value → zM → Prop} (hQ : ∀ r M1, zRV (b21_0 n  l0 M) r M1 → Q r M1) : zWP 21 0 [some (.ref l0)] [] M Q := by
  unfold b21_0 at hQ
  unfold p21_0 at hp
  refine wp_go 1 (pc' := 1) (L' := [some (.ref l0)]) (st' := [.ref l0]) (M' := M) rfl ?_
  refine wq_obj rfl rfl rfl (by decide) ?_
  refine wp_go 2 (pc' := 7) (L' := [some (.ref l0)]) (st' := [.int (12 : Int32), .ref l0]) (M' := M) rfl ?_
  obtain ⟨hc, hp⟩ := hp
  refine wq_newp (k := 0) rfl rfl hc ?_
  exact s21_9 n    l0 l0 (zN M) (zNew M (1, (12 : Int32).toNatClampNeg) (12 : Int32).toNatClampNeg) hp hQ
/-! X5_init -/
def b28_58 (n : Nat)   (M : zM) : zM := M
def p28_58 (n : Nat)   (M : zM) : Prop := True
theorem s28_58 (n : Nat)     (M : zM) (hp : p28_58 n   M) {Q : Option Value → zM → Prop} (hQ : ∀ r M1, zRV (b28_58 n   M) r M1 → Q r M1) : zWP 28 58 [none] [] M Q := by
  unfold b28_58 at hQ
  unfold p28_58 at hp
  exact wp_ret (r := none) rfl rfl (hQ _ _ ⟨rfl, rfl⟩)
def b28_53 (n : Nat)  (l0 : Nat) (M : zM) : zM := b28_58 n  (zWI M l0 8 (0 : Int32))
def p28_53 (n : Nat)  (l0 : Nat) (M : zM) : Prop := (zPutI 28 37 l0 M 8 (0 : Int32)) ∧ (p28_58 n  (zWI M l0 8 (0 : Int32)))
theorem s28_53 (n : Nat)    (l0 : Nat) (M : zM) (hp : p28_53 n  l0 M) {Q : Option Value → zM → Prop} (hQ : ∀ r M1, zRV (b28_53 n  l0 M) r M1 → Q r M1) : zWP 28 53 [some (.ref l0)] [] M Q := by
  unfold b28_53 at hQ
  unfold p28_53 at hp
  refine wp_go 2 (pc' := 55) (L' := [some (.ref l0)]) (st' := [.int (0 : Int32), .ref l0]) (M' := M) rfl ?_
  obtain ⟨hc, hp⟩ := hp
  refine wq_putI (j := 8) rfl hc ?_
  refine wp_le [none] (zLe_of (by simp [zLeB])) ?_
  exact s28_58 n    (zWI M l0 8 (0 : Int32)) hp hQ
def b28_48 (n : Nat)  (l0 : Nat) (M : zM) : zM := b28_53 n  l0 (zWI M l0 7 (0 : Int32))
def p28_48 (n : Nat)  (l0 : Nat) (M : zM) : Prop := (zPutI 28 34 l0 M 7 (0 : Int32)) ∧ (p28_53 n  l0 (zWI M l0 7 (0 : Int32)))
theorem s28_48 (n : Nat)    (l0 : Nat) (M : zM) (hp : p28_48 n  l0 M) {Q : Option Value → zM → Prop} (hQ : ∀ r M1, zRV (b28_48 n  l0 M) r M1 → Q r M1) : zWP 28 48 [some (.ref l0)] [] M Q := by
  unfold b28_48 at hQ
  unfold p28_48 at hp
  refine wp_go 2 (pc' := 50) (L' := [some (.ref l0)]) (st' := [.int (0 : Int32), .ref l0]) (M' := M) rfl ?_
  obtain ⟨hc, hp⟩ := hp
  refine wq_putI (j := 7) rfl hc ?_
  exact s28_53 n    l0 (zWI M l0 7 (0 : Int32)) hp hQ
def b28_43 (n : Nat)  (l0 : Nat) (M : zM) : zM := b28_48 n  l0 (zWI M l0 6 (0 : Int32))
def p28_43 (n : Nat)  (l0 : Nat) (M : zM) : Prop := (zPutI 28 31 l0 M 6 (0 : Int32)) ∧ (p28_48 n  l0 (zWI M l0 6 (0 : Int32)))
theorem s28_43 (n : Nat)    (l0 : Nat) (M : zM) (hp : p28_43 n  l0 M) {Q : Option Value → zM → Prop} (hQ : ∀ r M1, zRV (b28_43 n  l0 M) r M1 → Q r M1) : zWP 28 43 [some (.ref l0)] [] M Q := by
  unfold b28_43 at hQ
  unfold p28_43 at hp
  refine wp_go 2 (pc' := 45) (L' := [some (.ref l0)]) (st' := [.int (0 : Int32), .ref l0]) (M' := M) rfl ?_
  obtain ⟨hc, hp⟩ := hp
  refine wq_putI (j := 6) rfl hc ?_
  exact s28_48 n    l0 (zWI M l0 6 (0 : Int32)) hp hQ
def b28_38 (n : Nat)  (l0 : Nat) (M : zM) : zM := b28_43 n  l0 (zWI M l0 5 (0 : Int32))
def p28_38 (n : Nat)  (l0 : Nat) (M : zM) : Prop := (zPutI 28 28 l0 M 5 (0 : Int32)) ∧ (p28_43 n  l0 (zWI M l0 5 (0 : Int32)))
theorem s28_38 (n : Nat)    (l0 : Nat) (M : zM) (hp : p28_38 n  l0 M) {Q : Option Value → zM → Prop} (hQ : ∀ r M1, zRV (b28_38 n  l0 M) r M1 → Q r M1) : zWP 28 38 [some (.ref l0)] [] M Q := by
  unfold b28_38 at hQ
  unfold p28_38 at hp
  refine wp_go 2 (pc' := 40) (L' := [some (.ref l0)]) (st' := [.int (0 : Int32), .ref l0]) (M' := M) rfl ?_
  obtain ⟨hc, hp⟩ := hp
  refine wq_putI (j := 5) rfl hc ?_
  exact s28_43 n    l0 (zWI M l0 5 (0 : Int32)) hp hQ
def b28_33 (n : Nat)  (l0 : Nat) (M : zM) : zM := b28_38 n  l0 (zWI M l0 4 (0 : Int32))
def p28_33 (n : Nat)  (l0 : Nat) (M : zM) : Prop := (zPutI 28 25 l0 M 4 (0 : Int32)) ∧ (p28_38 n  l0 (zWI M l0 4 (0 : Int32)))
theorem s28_33 (n : Nat)    (l0 : Nat) (M : zM) (hp : p28_33 n  l0 M) {Q : Option Value → zM → Prop} (hQ : ∀ r M1, zRV (b28_33 n  l0 M) r M1 → Q r M1) : zWP 28 33 [some (.ref l0)] [] M Q := by
  unfold b28_33 at hQ
  unfold p28_33 at hp
  refine wp_go 2 (pc' := 35) (L' := [some (.ref l0)]) (st' := [.int (0 : Int32), .ref l0]) (M' := M) rfl ?_
  obtain ⟨hc, hp⟩ := hp
  refine wq_putI (j := 4) rfl hc ?_
  exact s28_38 n    l0 (zWI M l0 4 (0 : Int32)) hp hQ
def b28_28 (n : Nat)  (l0 : Nat) (M : zM) : zM := b28_33 n  l0 (zWI M l0 3 (0 : Int32))
def p28_28 (n : Nat)  (l0 : Nat) (M : zM) : Prop := (zPutI 28 21 l0 M 3 (0 : Int32)) ∧ (p28_33 n  l0 (zWI M l0 3 (0 : Int32)))
theorem s28_28 (n : Nat)    (l0 : Nat) (M : zM) (hp : p28_28 n  l0 M) {Q : Option Value → zM → Prop} (hQ : ∀ r M1, zRV (b28_28 n  l0 M) r M1 → Q r M1) : zWP 28 28 [some (.ref l0)] [] M Q := by
  unfold b28_28 at hQ
  unfold p28_28 at hp
  refine wp_go 2 (pc' := 30) (L' := [some (.ref l0)]) (st' := [.int (0 : Int32), .ref l0]) (M' := M) rfl ?_
  obtain ⟨hc, hp⟩ := hp
  refine wq_putI (j := 3) rfl hc ?_
  exact s28_33 n    l0 (zWI M l0 3 (0 : Int32)) hp hQ
def b28_25 (n : Nat)  (l0 : Nat) (s0 : Nat) (s1 : Nat) (M : zM) : zM := b28_28 n  l0 (zWQ M s0 2 (some s1))
def p28_25 (n : Nat)  (l0 : Nat) (s0 : Nat) (s1 : Nat) (M : zM) : Prop := (zPutQ 28 18 s0 M 2) ∧ (p28_28 n  l0 (zWQ M s0 2 (some s1)))
theorem s28_25 (n : Nat)    (l0 : Nat) (s0 : Nat) (s1 : Nat) (M : zM) (hp : p28_25 n  l0 s0 s1 M) {Q : Option Value → zM → Prop} (hQ : ∀ r M1, zRV (b28_25 n  l0 s0 s1 M) r M1 → Q r M1) : zWP 28 25 [some (.ref l0)] [.ref s1, .ref s0] M Q := by
  unfold b28_25 at hQ
  unfold p28_25 at hp
  obtain ⟨hc, hp⟩ := hp
  refine wq_putQ (j := 2) rfl hc ?_
  exact s28_28 n    l0 (zWQ M s0 2 (some s1)) hp hQ
def b28_20 (n : Nat)  (l0 : Nat) (M : zM) : zM := b28_25 n  l0 l0 (zN M) (zNew M (1, (21 : Int32).toNatClampNeg) (21 : Int32).toNatClampNeg)
def p28_20 (n : Nat)  (l0 : Nat) (M : zM) : Prop := (zOkW (21 : Int32) M) ∧ (p28_25 n  l0 l0 (zN M) (zNew M (1, (21 : Int32).toNatClampNeg) (21 : Int32).toNatClampNeg))
theorem s28_20 (n : Nat)    (l0 : Nat) (M : zM) (hp : p28_20 n  l0 M) {Q : Option Value → zM → Prop} (hQ : ∀ r M1, zRV (b28_20 n  l0 M) r M1 → Q r M1) : zWP 28 20 [some (.ref l0)] [] M Q := by
  unfold b28_20 at hQ
  unfold p28_20 at hp
  refine wp_go 2 (pc' := 23) (L' := [some (.ref l0)]) (st' := [.int (21 : Int32), .ref l0]) (M' := M) rfl ?_
  obtain ⟨hc, hp⟩ := hp
  refine wq_newp (k := 0) rfl rfl hc ?_
  exact s28_25 n    l0 l0 (zN M) (zNew M (1, (21 : Int32).toNatClampNeg) (21 : Int32).toNatClampNeg) hp hQ
def b28_17 (n : Nat)  (l0 : Nat) (s0 : Nat) (s1 : Nat) (M : zM) : zM := b28_20 n  l0 (zWQ M s0 1 (some s1))
def p28_17 (n : Nat)  (l0 : Nat) (s0 : Nat) (s1 : Nat) (M : zM) : Prop := (zPutQ 28 15 s0 M 1) ∧ (p28_20 n  l0 (zWQ M s0 1 (some s1)))
theorem s28_17 (n : Nat)    (l0 : Nat) (s0 : Nat) (s1 : Nat) (M : zM) (hp : p28_17 n  l0 s0 s1 M) {Q : Option Value → zM → Prop} (hQ : ∀ r M1, zRV (b28_17 n  l0 s0 s1 M) r M1 → Q r M1) : zWP 28 17 [some (.ref l0)] [.ref s1, .ref s0] M Q := by
  unfold b28_17 at hQ
  unfold p28_17 at hp
  obtain ⟨hc, hp⟩ := hp
  refine wq_putQ (j := 1) rfl hc ?_
  exact s28_20 n    l0 (zWQ M s0 1 (some s1)) hp hQ
def b28_12 (n : Nat)  (l0 : Nat) (M : zM) : zM := b28_17 n  l0 l0 (zN M) (zNew M (1, (21 : Int32).toNatClampNeg) (21 : Int32).toNatClampNeg)
def p28_12 (n : Nat)  (l0 : Nat) (M : zM) : Prop := (zOkW (21 : Int32) M) ∧ (p28_17 n  l0 l0 (zN M) (zNew M (1, (21 : Int32).toNatClampNeg) (21 : Int32).toNatClampNeg))
theorem s28_12 (n : Nat)    (l0 : Nat) (M : zM) (hp : p28_12 n  l0 M) {Q : Option Value → zM → Prop} (hQ : ∀ r M1, zRV (b28_12 n  l0 M) r M1 → Q r M1) : zWP 28 12 [some (.ref l0)] [] M Q := by
  unfold b28_12 at hQ
  unfold p28_12 at hp
  refine wp_go 2 (pc' := 15) (L' := [some (.ref l0)]) (st' := [.int (21 : Int32), .ref l0]) (M' := M) rfl ?_
  obtain ⟨hc, hp⟩ := hp
  refine wq_newp (k := 0) rfl rfl hc ?_
  exact s28_17 n    l0 l0 (zN M) (zNew M (1, (21 : Int32).toNatClampNeg) (21 : Int32).toNatClampNeg) hp hQ
def b28_9 (n : Nat)  (l0 : Nat) (s0 : Nat) (s1 : Nat) (M : zM) : zM := b28_12 n  l0 (zWQ M s0 0 (some s1))
def p28_9 (n : Nat)  (l0 : Nat) (s0 : Nat) (s1 : Nat) (M : zM) : Prop := (zPutQ 28 9 s0 M 0) ∧ (p28_12 n  l0 (zWQ M s0 0 (some s1)))
theorem s28_9 (n : Nat)    (l0 : Nat) (s0 : Nat) (s1 : Nat) (M : zM) (hp : p28_9 n  l0 s0 s1 M) {Q : Option Value → zM → Prop} (hQ : ∀ r M1, zRV (b28_9 n  l0 s0 s1 M) r M1 → Q r M1) : zWP 28 9 [some (.ref l0)] [.ref s1, .ref s0] M Q := by
  unfold b28_9 at hQ
  unfold p28_9 at hp
  obtain ⟨hc, hp⟩ := hp
  refine wq_putQ (j := 0) rfl hc ?_
  exact s28_12 n    l0 (zWQ M s0 0 (some s1)) hp hQ
def b28_0 (n : Nat)  (l0 : Nat) (M : zM) : zM := b28_9 n  l0 l0 (zN M) (zNew M (1, (21 : Int32).toNatClampNeg) (21 : Int32).toNatClampNeg)
def p28_0 (n : Nat)  (l0 : Nat) (M : zM) : Prop := (zOkW (21 : Int32) M) ∧ (p28_9 n  l0 l0 (zN M) (zNew M (1, (21 : Int32).toNatClampNeg) (21 : Int32).toNatClampNeg))
theorem s28_0 (n : Nat)    (l0 : Nat) (M : zM) (hp : p28_0 n  l0 M) {Q : Option Value → zM → Prop} (hQ : ∀ r M1, zRV (b28_0 n  l0 M) r M1 → Q r M1) : zWP 28 0 [some (.ref l0)] [] M Q := by
  unfold b28_0 at hQ
  unfold p28_0 at hp
  refine wp_go 1 (pc' := 1) (L' := [some (.ref l0)]) (st' := [.ref l0]) (M' := M) rfl ?_
  refine wq_obj rfl rfl rfl (by decide) ?_
  refine wp_go 2 (pc' := 7) (L' := [some (.ref l0)]) (st' := [.int (21 : Int32), .ref l0]) (M' := M) rfl ?_
  obtain ⟨hc, hp⟩ := hp
  refine wq_newp (k := 0) rfl rfl hc ?_
  exact s28_9 n    l0 l0 (zN M) (zNew M (1, (21 : Int32).toNatClampNeg) (21 : Int32).toNatClampNeg) hp hQ
/-! X7_init -/
def b41_84 (n : Nat)   (M : zM) : zM := M
def p41_84 (n : Nat)   (M : zM) : Prop := True
theorem s41_84 (n : Nat)     (M : zM) (hp : p41_84 n   M) {Q : Option Value → zM → Prop} (hQ : ∀ r M1, zRV (b41_84 n   M) r M1 → Q r M1) : zWP 41 84 [none, none] [] M Q := by
  unfold b41_84 at hQ
  unfold p41_84 at hp
  exact wp_ret (r := none) rfl rfl (hQ _ _ ⟨rfl, rfl⟩)
def b41_76 (n : Nat)  (l0 : Nat) (M : zM) : zM := b41_84 n  (b195_0 n (zQ M l0 4) ((-1) : Int32) M)
def p41_76 (n : Nat)  (l0 : Nat) (M : zM) : Prop := (zHasQ 6 21 l0 M 4) ∧ ((p195_0 n (zQ M l0 4) ((-1) : Int32) M) ∧ (p41_84 n  (b195_0 n (zQ M l0 4) ((-1) : Int32) M)))
theorem s41_76 (n : Nat)    (l0 : Nat) (M : zM) (hp : p41_76 n  l0 M) {Q : Option Value → zM → Prop} (hQ : ∀ r M1, zRV (b41_76 n  l0 M) r M1 → Q r M1) : zWP 41 76 [some (.ref l0), none] [] M Q := by
  unfold b41_76 at hQ
  unfold p41_76 at hp
  refine wp_go 1 (pc' := 77) (L' := [some (.ref l0), none]) (st' := [.ref l0]) (M' := M) rfl ?_
  obtain ⟨hc, hp⟩ := hp
  refine wq_getQ (j := 4) rfl hc ?_
  refine wp_go 1 (pc' := 81) (L' := [some (.ref l0), none]) (st' := [.int ((-1) : Int32), .ref (zQ M l0 4)]) (M' := M) rfl ?_
  obtain ⟨hc, hp⟩ := hp
  refine wp_callv (M1 := (b195_0 n (zQ M l0 4) ((-1) : Int32) M)) rfl rfl rfl rfl (s195_0 n (zQ M l0 4) ((-1) : Int32) M hc (fun r M1 h => h)) ?_
  refine wp_le [none, none] (zLe_of (by simp [zLeB])) ?_
  exact s41_84 n    (b195_0 n (zQ M l0 4) ((-1) : Int32) M) hp hQ
def b41_71 (n : Nat)  (l0 : Nat) (l1 : Int32) (M : zM) : zM := b41_76 n  l0 (zWI M l0 0 l1)
def p41_71 (n : Nat)  (l0 : Nat) (l1 : Int32) (M : zM) : Prop := (zPutI 41 51 l0 M 0 l1) ∧ (p41_76 n  l0 (zWI M l0 0 l1))
theorem s41_71 (n : Nat)    (l0 : Nat) (l1 : Int32) (M : zM) (hp : p41_71 n  l0 l1 M) {Q : Option Value → zM → Prop} (hQ : ∀ r M1, zRV (b41_71 n  l0 l1 M) r M1 → Q r M1) : zWP 41 71 [some (.ref l0), some (.int l1)] [] M Q := by
  unfold b41_71 at hQ
  unfold p41_71 at hp
  refine wp_go 2 (pc' := 73) (L' := [some (.ref l0), some (.int l1)]) (st' := [.int l1, .ref l0]) (M' := M) rfl ?_
  obtain ⟨hc, hp⟩ := hp
  refine wq_putI (j := 0) rfl hc ?_
  refine wp_le [some (.ref l0), none] (zLe_of (by simp [zLeB])) ?_
  exact s41_76 n    l0 (zWI M l0 0 l1) hp hQ
def b41_66 (n : Nat)  (l0 : Nat) (l1 : Int32) (M : zM) : zM := b41_71 n  l0 l1 (zWI M l0 10 ((-1) : Int32))
def p41_66 (n : Nat)  (l0 : Nat) (l1 : Int32) (M : zM) : Prop := (zPutI 41 48 l0 M 10 ((-1) : Int32)) ∧ (p41_71 n  l0 l1 (zWI M l0 10 ((-1) : Int32)))
theorem s41_66 (n : Nat)    (l0 : Nat) (l1 : Int32) (M : zM) (hp : p41_66 n  l0 l1 M) {Q : Option Value → zM → Prop} (hQ : ∀ r M1, zRV (b41_66 n  l0 l1 M) r M1 → Q r M1) : zWP 41 66 [some (.ref l0), some (.int l1)] [] M Q := by
  unfold b41_66 at hQ
  unfold p41_66 at hp
  refine wp_go 2 (pc' := 68) (L' := [some (.ref l0), some (.int l1)]) (st' := [.int ((-1) : Int32), .ref l0]) (M' := M) rfl ?_
  obtain ⟨hc, hp⟩ := hp
  refine wq_putI (j := 10) rfl hc ?_
  exact s41_71 n    l0 l1 (zWI M l0 10 ((-1) : Int32)) hp hQ
def b41_61 (n : Nat)  (l0 : Nat) (l1 : Int32) (M : zM) : zM := b41_66 n  l0 l1 (zWI M l0 9 ((-1) : Int32))
def p41_61 (n : Nat)  (l0 : Nat) (l1 : Int32) (M : zM) : Prop := (zPutI 41 45 l0 M 9 ((-1) : Int32)) ∧ (p41_66 n  l0 l1 (zWI M l0 9 ((-1) : Int32)))
theorem s41_61 (n : Nat)    (l0 : Nat) (l1 : Int32) (M : zM) (hp : p41_61 n  l0 l1 M) {Q : Option Value → zM → Prop} (hQ : ∀ r M1, zRV (b41_61 n  l0 l1 M) r M1 → Q r M1) : zWP 41 61 [some (.ref l0), some (.int l1)] [] M Q := by
  unfold b41_61 at hQ
  unfold p41_61 at hp
  refine wp_go 2 (pc' := 63) (L' := [some (.ref l0), some (.int l1)]) (st' := [.int ((-1) : Int32), .ref l0]) (M' := M) rfl ?_
  obtain ⟨hc, hp⟩ := hp
  refine wq_putI (j := 9) rfl hc ?_
  exact s41_66 n    l0 l1 (zWI M l0 9 ((-1) : Int32)) hp hQ
def b41_56 (n : Nat)  (l0 : Nat) (l1 : Int32) (M : zM) : zM := b41_61 n  l0 l1 (zWI M l0 8 (0 : Int32))
def p41_56 (n : Nat)  (l0 : Nat) (l1 : Int32) (M : zM) : Prop := (zPutI 41 41 l0 M 8 (0 : Int32)) ∧ (p41_61 n  l0 l1 (zWI M l0 8 (0 : Int32)))
theorem s41_56 (n : Nat)    (l0 : Nat) (l1 : Int32) (M : zM) (hp : p41_56 n  l0 l1 M) {Q : Option Value → zM → Prop} (hQ : ∀ r M1, zRV (b41_56 n  l0 l1 M) r M1 → Q r M1) : zWP 41 56 [some (.ref l0), some (.int l1)] [] M Q := by
  unfold b41_56 at hQ
  unfold p41_56 at hp
  refine wp_go 2 (pc' := 58) (L' := [some (.ref l0), some (.int l1)]) (st' := [.int (0 : Int32), .ref l0]) (M' := M) rfl ?_
  obtain ⟨hc, hp⟩ := hp
  refine wq_putI (j := 8) rfl hc ?_
  exact s41_61 n    l0 l1 (zWI M l0 8 (0 : Int32)) hp hQ
def b41_51 (n : Nat)  (l0 : Nat) (l1 : Int32) (M : zM) : zM := b41_56 n  l0 l1 (zWI M l0 7 (0 : Int32))
def p41_51 (n : Nat)  (l0 : Nat) (l1 : Int32) (M : zM) : Prop := (zPutI 41 37 l0 M 7 (0 : Int32)) ∧ (p41_56 n  l0 l1 (zWI M l0 7 (0 : Int32)))
theorem s41_51 (n : Nat)    (l0 : Nat) (l1 : Int32) (M : zM) (hp : p41_51 n  l0 l1 M) {Q : Option Value → zM → Prop} (hQ : ∀ r M1, zRV (b41_51 n  l0 l1 M) r M1 → Q r M1) : zWP 41 51 [some (.ref l0), some (.int l1)] [] M Q := by
  unfold b41_51 at hQ
  unfold p41_51 at hp
  refine wp_go 2 (pc' := 53) (L' := [some (.ref l0), some (.int l1)]) (st' := [.int (0 : Int32), .ref l0]) (M' := M) rfl ?_
  obtain ⟨hc, hp⟩ := hp
  refine wq_putI (j := 7) rfl hc ?_
  exact s41_56 n    l0 l1 (zWI M l0 7 (0 : Int32)) hp hQ
def b41_44 (n : Nat)  (l0 : Nat) (l1 : Int32) (M : zM) : zM := b41_51 n  l0 l1 (zWQ M l0 6 (some 1000000))
def p41_44 (n : Nat)  (l0 : Nat) (l1 : Int32) (M : zM) : Prop := (zPutQ 41 34 l0 M 6) ∧ (p41_51 n  l0 l1 (zWQ M l0 6 (some 1000000)))
theorem s41_44 (n : Nat)    (l0 : Nat) (l1 : Int32) (M : zM) (hp : p41_44 n  l0 l1 M) {Q : Option Value → zM → Prop} (hQ : ∀ r M1, zRV (b41_44 n  l0 l1 M) r M1 → Q r M1) : zWP 41 44 [some (.ref l0), some (.int l1)] [] M Q := by
  unfold b41_44 at hQ
  unfold p41_44 at hp
  refine wp_go 1 (pc' := 45) (L' := [some (.ref l0), some (.int l1)]) (st' := [.ref l0]) (M' := M) rfl ?_
  refine wq_gets (j := 0) rfl rfl ?_
  obtain ⟨hc, hp⟩ := hp
  refine wq_putQ (j := 6) rfl hc ?_
  exact s41_51 n    l0 l1 (zWQ M l0 6 (some 1000000)) hp hQ
def b41_41 (n : Nat)  (l0 : Nat) (l1 : Int32) (s0 : Nat) (s1 : Nat) (M : zM) : zM := b41_44 n  l0 l1 (zWQ M s0 5 (some s1))
def p41_41 (n : Nat)  (l0 : Nat) (l1 : Int32) (s0 : Nat) (s1 : Nat) (M : zM) : Prop := (zPutQ 41 24 s0 M 5) ∧ (p41_44 n  l0 l1 (zWQ M s0 5 (some s1)))
theorem s41_41 (n : Nat)    (l0 : Nat) (l1 : Int32) (s0 : Nat) (s1 : Nat) (M : zM) (hp : p41_41 n  l0 l1 s0 s1 M) {Q : Option Value → zM → Prop} (hQ : ∀ r M1, zRV (b41_41 n  l0 l1 s0 s1 M) r M1 → Q r M1) : zWP 41 41 [some (.ref l0), some (.int l1)] [.ref s1, .ref s0] M Q := by
  unfold b41_41 at hQ
  unfold p41_41 at hp
  obtain ⟨hc, hp⟩ := hp
  refine wq_putQ (j := 5) rfl hc ?_
  exact s41_44 n    l0 l1 (zWQ M s0 5 (some s1)) hp hQ
def b41_36 (n : Nat)  (l0 : Nat) (l1 : Int32) (M : zM) : zM := b41_41 n  l0 l1 l0 (zN M) (zNew M (2, (20 : Int32).toNatClampNeg) (20 : Int32).toNatClampNeg)
def p41_36 (n : Nat)  (l0 : Nat) (l1 : Int32) (M : zM) : Prop := (zOkW (20 : Int32) M) ∧ (p41_41 n  l0 l1 l0 (zN M) (zNew M (2, (20 : Int32).toNatClampNeg) (20 : Int32).toNatClampNeg))
theorem s41_36 (n : Nat)    (l0 : Nat) (l1 : Int32) (M : zM) (hp : p41_36 n  l0 l1 M) {Q : Option Value → zM → Prop} (hQ : ∀ r M1, zRV (b41_36 n  l0 l1 M) r M1 → Q r M1) : zWP 41 36 [some (.ref l0), some (.int l1)] [] M Q := by
  unfold b41_36 at hQ
  unfold p41_36 at hp
  refine wp_go 2 (pc' := 39) (L' := [some (.ref l0), some (.int l1)]) (st' := [.int (20 : Int32), .ref l0]) (M' := M) rfl ?_
  obtain ⟨hc, hp⟩ := hp
  refine wq_newp (k := 1) rfl rfl hc ?_
  exact s41_41 n    l0 l1 l0 (zN M) (zNew M (2, (20 : Int32).toNatClampNeg) (20 : Int32).toNatClampNeg) hp hQ
def b41_33 (n : Nat)  (l0 : Nat) (l1 : Int32) (s0 : Nat) (s1 : Nat) (M : zM) : zM := b41_36 n  l0 l1 (zWQ M s0 4 (some s1))
def p41_33 (n : Nat)  (l0 : Nat) (l1 : Int32) (s0 : Nat) (s1 : Nat) (M : zM) : Prop := (zPutQ 41 21 s0 M 4) ∧ (p41_36 n  l0 l1 (zWQ M s0 4 (some s1)))
theorem s41_33 (n : Nat)    (l0 : Nat) (l1 : Int32) (s0 : Nat) (s1 : Nat) (M : zM) (hp : p41_33 n  l0 l1 s0 s1 M) {Q : Option Value → zM → Prop} (hQ : ∀ r M1, zRV (b41_33 n  l0 l1 s0 s1 M) r M1 → Q r M1) : zWP 41 33 [some (.ref l0), some (.int l1)] [.ref s1, .ref s0] M Q := by
  unfold b41_33 at hQ
  unfold p41_33 at hp
  obtain ⟨hc, hp⟩ := hp
  refine wq_putQ (j := 4) rfl hc ?_
  exact s41_36 n    l0 l1 (zWQ M s0 4 (some s1)) hp hQ
def b41_28 (n : Nat)  (l0 : Nat) (l1 : Int32) (M : zM) : zM := b41_33 n  l0 l1 l0 (zN M) (zNew M (1, (20 : Int32).toNatClampNeg) (20 : Int32).toNatClampNeg)
def p41_28 (n : Nat)  (l0 : Nat) (l1 : Int32) (M : zM) : Prop := (zOkW (20 : Int32) M) ∧ (p41_33 n  l0 l1 l0 (zN M) (zNew M (1, (20 : Int32).toNatClampNeg) (20 : Int32).toNatClampNeg))
theorem s41_28 (n : Nat)    (l0 : Nat) (l1 : Int32) (M : zM) (hp : p41_28 n  l0 l1 M) {Q : Option Value → zM → Prop} (hQ : ∀ r M1, zRV (b41_28 n  l0 l1 M) r M1 → Q r M1) : zWP 41 28 [some (.ref l0), some (.int l1)] [] M Q := by
  unfold b41_28 at hQ
  unfold p41_28 at hp
  refine wp_go 2 (pc' := 31) (L' := [some (.ref l0), some (.int l1)]) (st' := [.int (20 : Int32), .ref l0]) (M' := M) rfl ?_
  obtain ⟨hc, hp⟩ := hp
  refine wq_newp (k := 0) rfl rfl hc ?_
  exact s41_33 n    l0 l1 l0 (zN M) (zNew M (1, (20 : Int32).toNatClampNeg) (20 : Int32).toNatClampNeg) hp hQ
def b41_25 (n : Nat)  (l0 : Nat) (l1 : Int32) (s0 : Nat) (s1 : Nat) (M : zM) : zM := b41_28 n  l0 l1 (zWQ M s0 3 (some s1))
def p41_25 (n : Nat)  (l0 : Nat) (l1 : Int32) (s0 : Nat) (s1 : Nat) (M : zM) : Prop := (zPutQ 41 18 s0 M 3) ∧ (p41_28 n  l0 l1 (zWQ M s0 3 (some s1)))
theorem s41_25 (n : Nat)    (l0 : Nat) (l1 : Int32) (s0 : Nat) (s1 : Nat) (M : zM) (hp : p41_25 n  l0 l1 s0 s1 M) {Q : Option Value → zM → Prop} (hQ : ∀ r M1, zRV (b41_25 n  l0 l1 s0 s1 M) r M1 → Q r M1) : zWP 41 25 [some (.ref l0), some (.int l1)] [.ref s1, .ref s0] M Q := by
  unfold b41_25 at hQ
  unfold p41_25 at hp
  obtain ⟨hc, hp⟩ := hp
  refine wq_putQ (j := 3) rfl hc ?_
  exact s41_28 n    l0 l1 (zWQ M s0 3 (some s1)) hp hQ
def b41_20 (n : Nat)  (l0 : Nat) (l1 : Int32) (M : zM) : zM := b41_25 n  l0 l1 l0 (zN M) (zNew M (1, (20 : Int32).toNatClampNeg) (20 : Int32).toNatClampNeg)
def p41_20 (n : Nat)  (l0 : Nat) (l1 : Int32) (M : zM) : Prop := (zOkW (20 : Int32) M) ∧ (p41_25 n  l0 l1 l0 (zN M) (zNew M (1, (20 : Int32).toNatClampNeg) (20 : Int32).toNatClampNeg))
theorem s41_20 (n : Nat)    (l0 : Nat) (l1 : Int32) (M : zM) (hp : p41_20 n  l0 l1 M) {Q : Option Value → zM → Prop} (hQ : ∀ r M1, zRV (b41_20 n  l0 l1 M) r M1 → Q r M1) : zWP 41 20 [some (.ref l0), some (.int l1)] [] M Q := by
  unfold b41_20 at hQ
  unfold p41_20 at hp
  refine wp_go 2 (pc' := 23) (L' := [some (.ref l0), some (.int l1)]) (st' := [.int (20 : Int32), .ref l0]) (M' := M) rfl ?_
  obtain ⟨hc, hp⟩ := hp
  refine wq_newp (k := 0) rfl rfl hc ?_
  exact s41_25 n    l0 l1 l0 (zN M) (zNew M (1, (20 : Int32).toNatClampNeg) (20 : Int32).toNatClampNeg) hp hQ
def b41_17 (n : Nat)  (l0 : Nat) (l1 : Int32) (s0 : Nat) (s1 : Nat) (M : zM) : zM := b41_20 n  l0 l1 (zWQ M s0 2 (some s1))
def p41_17 (n : Nat)  (l0 : Nat) (l1 : Int32) (s0 : Nat) (s1 : Nat) (M : zM) : Prop := (zPutQ 41 15 s0 M 2) ∧ (p41_20 n  l0 l1 (zWQ M s0 2 (some s1)))
theorem s41_17 (n : Nat)    (l0 : Nat) (l1 : Int32) (s0 : Nat) (s1 : Nat) (M : zM) (hp : p41_17 n  l0 l1 s0 s1 M) {Q : Option Value → zM → Prop} (hQ : ∀ r M1, zRV (b41_17 n  l0 l1 s0 s1 M) r M1 → Q r M1) : zWP 41 17 [some (.ref l0), some (.int l1)] [.ref s1, .ref s0] M Q := by
  unfold b41_17 at hQ
  unfold p41_17 at hp
  obtain ⟨hc, hp⟩ := hp
  refine wq_putQ (j := 2) rfl hc ?_
  exact s41_20 n    l0 l1 (zWQ M s0 2 (some s1)) hp hQ
def b41_12 (n : Nat)  (l0 : Nat) (l1 : Int32) (M : zM) : zM := b41_17 n  l0 l1 l0 (zN M) (zNew M (1, (20 : Int32).toNatClampNeg) (20 : Int32).toNatClampNeg)
def p41_12 (n : Nat)  (l0 : Nat) (l1 : Int32) (M : zM) : Prop := (zOkW (20 : Int32) M) ∧ (p41_17 n  l0 l1 l0 (zN M) (zNew M (1, (20 : Int32).toNatClampNeg) (20 : Int32).toNatClampNeg))
theorem s41_12 (n : Nat)    (l0 : Nat) (l1 : Int32) (M : zM) (hp : p41_12 n  l0 l1 M) {Q : Option Value → zM → Prop} (hQ : ∀ r M1, zRV (b41_12 n  l0 l1 M) r M1 → Q r M1) : zWP 41 12 [some (.ref l0), some (.int l1)] [] M Q := by
  unfold b41_12 at hQ
  unfold p41_12 at hp
  refine wp_go 2 (pc' := 15) (L' := [some (.ref l0), some (.int l1)]) (st' := [.int (20 : Int32), .ref l0]) (M' := M) rfl ?_
  obtain ⟨hc, hp⟩ := hp
  refine wq_newp (k := 0) rfl rfl hc ?_
  exact s41_17 n    l0 l1 l0 (zN M) (zNew M (1, (20 : Int32).toNatClampNeg) (20 : Int32).toNatClampNeg) hp hQ
def b41_9 (n : Nat)  (l0 : Nat) (l1 : Int32) (s0 : Nat) (s1 : Nat) (M : zM) : zM := b41_12 n  l0 l1 (zWQ M s0 1 (some s1))
def p41_9 (n : Nat)  (l0 : Nat) (l1 : Int32) (s0 : Nat) (s1 : Nat) (M : zM) : Prop := (zPutQ 41 9 s0 M 1) ∧ (p41_12 n  l0 l1 (zWQ M s0 1 (some s1)))
theorem s41_9 (n : Nat)    (l0 : Nat) (l1 : Int32) (s0 : Nat) (s1 : Nat) (M : zM) (hp : p41_9 n  l0 l1 s0 s1 M) {Q : Option Value → zM → Prop} (hQ : ∀ r M1, zRV (b41_9 n  l0 l1 s0 s1 M) r M1 → Q r M1) : zWP 41 9 [some (.ref l0), some (.int l1)] [.ref s1, .ref s0] M Q := by
  unfold b41_9 at hQ
  unfold p41_9 at hp
  obtain ⟨hc, hp⟩ := hp
  refine wq_putQ (j := 1) rfl hc ?_
  exact s41_12 n    l0 l1 (zWQ M s0 1 (some s1)) hp hQ
def b41_0 (n : Nat)  (l0 : Nat) (l1 : Int32) (M : zM) : zM := b41_9 n  l0 l1 l0 (zN M) (zNew M (1, (20 : Int32).toNatClampNeg) (20 : Int32).toNatClampNeg)
def p41_0 (n : Nat)  (l0 : Nat) (l1 : Int32) (M : zM) : Prop := (zOkW (20 : Int32) M) ∧ (p41_9 n  l0 l1 l0 (zN M) (zNew M (1, (20 : Int32).toNatClampNeg) (20 : Int32).toNatClampNeg))
theorem s41_0 (n : Nat)    (l0 : Nat) (l1 : Int32) (M : zM) (hp : p41_0 n  l0 l1 M) {Q : Option Value → zM → Prop} (hQ : ∀ r M1, zRV (b41_0 n  l0 l1 M) r M1 → Q r M1) : zWP 41 0 [some (.ref l0), some (.int l1)] [] M Q := by
  unfold b41_0 at hQ
  unfold p41_0 at hp
  refine wp_go 1 (pc' := 1) (L' := [some (.ref l0), some (.int l1)]) (st' := [.ref l0]) (M' := M) rfl ?_
  refine wq_obj rfl rfl rfl (by decide) ?_
  refine wp_go 2 (pc' := 7) (L' := [some (.ref l0), some (.int l1)]) (st' := [.int (20 : Int32), .ref l0]) (M' := M) rfl ?_
  obtain ⟨hc, hp⟩ := hp
  refine wq_newp (k := 0) rfl rfl hc ?_
  exact s41_9 n    l0 l1 l0 (zN M) (zNew M (1, (20 : Int32).toNatClampNeg) (20 : Int32).toNatClampNeg) hp hQ
/-! X8_init -/
def b54_14 (n : Nat)   (M : zM) : zM := M
def p54_14 (n : Nat)   (M : zM) : Prop := True
theorem s54_14 (n : Nat)     (M : zM) (hp : p54_14 n   M) {Q : Option Value → zM → Prop} (hQ : ∀ r M1, zRV (b54_14 n   M) r M1 → Q r M1) : zWP 54 14 [none] [] M Q := by
  unfold b54_14 at hQ
  unfold p54_14 at hp
  exact wp_ret (r := none) rfl rfl (hQ _ _ ⟨rfl, rfl⟩)
def b54_9 (n : Nat)  (l0 : Nat) (M : zM) : zM := b54_14 n  (zWI M l0 9 (0 : Int32))
def p54_9 (n : Nat)  (l0 : Nat) (M : zM) : Prop := (zPutI 54 15 l0 M 9 (0 : Int32)) ∧ (p54_14 n  (zWI M l0 9 (0 : Int32)))
theorem s54_9 (n : Nat)    (l0 : Nat) (M : zM) (hp : p54_9 n  l0 M) {Q : Option Value → zM → Prop} (hQ : ∀ r M1, zRV (b54_9 n  l0 M) r M1 → Q r M1) : zWP 54 9 [some (.ref l0)] [] M Q := by
  unfold b54_9 at hQ
  unfold p54_9 at hp
  refine wp_go 2 (pc' := 11) (L' := [some (.ref l0)]) (st' := [.int (0 : Int32), .ref l0]) (M' := M) rfl ?_
  obtain ⟨hc, hp⟩ := hp
  refine wq_putI (j := 9) rfl hc ?_
  refine wp_le [none] (zLe_of (by simp [zLeB])) ?_
  exact s54_14 n    (zWI M l0 9 (0 : Int32)) hp hQ
def b54_4 (n : Nat)  (l0 : Nat) (M : zM) : zM := b54_9 n  l0 (zWI M l0 8 (0 : Int32))
def p54_4 (n : Nat)  (l0 : Nat) (M : zM) : Prop := (zPutI 54 9 l0 M 8 (0 : Int32)) ∧ (p54_9 n  l0 (zWI M l0 8 (0 : Int32)))
theorem s54_4 (n : Nat)    (l0 : Nat) (M : zM) (hp : p54_4 n  l0 M) {Q : Option Value → zM → Prop} (hQ : ∀ r M1, zRV (b54_4 n  l0 M) r M1 → Q r M1) : zWP 54 4 [some (.ref l0)] [] M Q := by
  unfold b54_4 at hQ
  unfold p54_4 at hp
  refine wp_go 2 (pc' := 6) (L' := [some (.ref l0)]) (st' := [.int (0 : Int32), .ref l0]) (M' := M) rfl ?_
  obtain ⟨hc, hp⟩ := hp
  refine wq_putI (j := 8) rfl hc ?_
  exact s54_9 n    l0 (zWI M l0 8 (0 : Int32)) hp hQ
def b54_0 (n : Nat)  (l0 : Nat) (M : zM) : zM := b54_4 n  l0 (b35_0 n l0 M)
def p54_0 (n : Nat)  (l0 : Nat) (M : zM) : Prop := (p35_0 n l0 M) ∧ (p54_4 n  l0 (b35_0 n l0 M))
theorem s54_0 (n : Nat)    (l0 : Nat) (M : zM) (hp : p54_0 n  l0 M) {Q : Option Value → zM → Prop} (hQ : ∀ r M1, zRV (b54_0 n  l0 M) r M1 → Q r M1) : zWP 54 0 [some (.ref l0)] [] M Q := by
  unfold b54_0 at hQ
  unfold p54_0 at hp
  refine wp_go 1 (pc' := 1) (L' := [some (.ref l0)]) (st' := [.ref l0]) (M' := M) rfl ?_
  obtain ⟨hc, hp⟩ := hp
  refine wp_callv (M1 := (b35_0 n l0 M)) rfl rfl rfl rfl (s35_0 n l0 M hc (fun r M1 h => h)) ?_
  exact s54_4 n    l0 (b35_0 n l0 M) hp hQ
/-! X9_init -/
def b58_37 (n : Nat) (k19 : Nat → Int32 → Int32 → zM → zM) (l0 : Nat) (l1 : Int32) (l2 : Int32) (M : zM) : zM := k19 l0 l1 (l2 + Int32.ofInt 1) M
def p58_37 (n : Nat) (q19 : Nat → Int32 → Int32 → zM → Prop) (l0 : Nat) (l1 : Int32) (l2 : Int32) (M : zM) : Prop := q19 l0 l1 (l2 + Int32.ofInt 1) M
theorem s58_37 (n : Nat) (k19 : Nat → Int32 → Int32 → zM → zM) (q19 : Nat → Int32 → Int32 → zM → Prop) (h19 : ∀ (l0 : Nat) (l1 : Int32) (l2 : Int32) (M : zM), q19 l0 l1 l2 M → ∀ {Q : Option Value → zM → Prop}, (∀ r M1, zRV (k19 l0 l1 l2 M) r M1 → Q r M1) → zWP 58 19 [some (.ref l0), some (.int l1), some (.int l2)] [] M Q) (l0 : Nat) (l1 : Int32) (l2 : Int32) (M : zM) (hp : p58_37 n q19 l0 l1 l2 M) {Q : Option Value → zM → Prop} (hQ : ∀ r M1, zRV (b58_37 n k19 l0 l1 l2 M) r M1 → Q r M1) : zWP 58 37 [some (.ref l0), some (.int l1), some (.int l2)] [] M Q := by
  unfold b58_37 at hQ
  unfold p58_37 at hp
  refine wp_go 2 (pc' := 19) (L' := [some (.ref l0), some (.int l1), some (.int (l2 + Int32.ofInt 1))]) (st' := []) (M' := M) rfl ?_
  exact h19 l0 l1 (l2 + Int32.ofInt 1) M hp hQ
def b58_36 (n : Nat) (k19 : Nat → Int32 → Int32 → zM → zM) (l0 : Nat) (l1 : Int32) (l2 : Int32) (s0 : Nat) (s1 : Int32) (s2 : Nat) (M : zM) : zM := b58_37 n k19 l0 l1 l2 (zWQ M s0 s1.toNatClampNeg (some s2))
def p58_36 (n : Nat) (q19 : Nat → Int32 → Int32 → zM → Prop) (l0 : Nat) (l1 : Int32) (l2 : Int32) (s0 : Nat) (s1 : Int32) (s2 : Nat) (M : zM) : Prop := (zOkS s0 s2 s1 M) ∧ (p58_37 n q19 l0 l1 l2 (zWQ M s0 s1.toNatClampNeg (some s2)))
theorem s58_36 (n : Nat) (k19 : Nat → Int32 → Int32 → zM → zM) (q19 : Nat → Int32 → Int32 → zM → Prop) (h19 : ∀ (l0 : Nat) (l1 : Int32) (l2 : Int32) (M : zM), q19 l0 l1 l2 M → ∀ {Q : Option Value → zM → Prop}, (∀ r M1, zRV (k19 l0 l1 l2 M) r M1 → Q r M1) → zWP 58 19 [some (.ref l0), some (.int l1), some (.int l2)] [] M Q) (l0 : Nat) (l1 : Int32) (l2 : Int32) (s0 : Nat) (s1 : Int32) (s2 : Nat) (M : zM) (hp : p58_36 n q19 l0 l1 l2 s0 s1 s2 M) {Q : Option Value → zM → Prop} (hQ : ∀ r M1, zRV (b58_36 n k19 l0 l1 l2 s0 s1 s2 M) r M1 → Q r M1) : zWP 58 36 [some (.ref l0), some (.int l1), some (.int l2)] [.ref s2, .int s1, .ref s0] M Q := by
  unfold b58_36 at hQ
  unfold p58_36 at hp
  obtain ⟨hc, hp⟩ := hp
  refine wq_aast rfl hc ?_
  exact s58_37 n k19 q19 h19 l0 l1 l2 (zWQ M s0 s1.toNatClampNeg (some s2)) hp hQ
def b58_32 (n : Nat) (k19 : Nat → Int32 → Int32 → zM → zM) (l0 : Nat) (l1 : Int32) (l2 : Int32) (s0 : Nat) (s1 : Int32) (s2 : Nat) (M : zM) : zM := b58_36 n k19 l0 l1 l2 s0 s1 s2 (b54_0 n s2 M)
def p58_32 (n : Nat) (q19 : Nat → Int32 → Int32 → zM → Prop) (l0 : Nat) (l1 : Int32) (l2 : Int32) (s0 : Nat) (s1 : Int32) (s2 : Nat) (M : zM) : Prop := (p54_0 n s2 M) ∧ (p58_36 n q19 l0 l1 l2 s0 s1 s2 (b54_0 n s2 M))
theorem s58_32 (n : Nat) (k19 : Nat → Int32 → Int32 → zM → zM) (q19 : Nat → Int32 → Int32 → zM → Prop) (h19 : ∀ (l0 : Nat) (l1 : Int32) (l2 : Int32) (M : zM), q19 l0 l1 l2 M → ∀ {Q : Option Value → zM → Prop}, (∀ r M1, zRV (k19 l0 l1 l2 M) r M1 → Q r M1) → zWP 58 19 [some (.ref l0), some (.int l1), some (.int l2)] [] M Q) (l0 : Nat) (l1 : Int32) (l2 : Int32) (s0 : Nat) (s1 : Int32) (s2 : Nat) (M : zM) (hp : p58_32 n q19 l0 l1 l2 s0 s1 s2 M) {Q : Option Value → zM → Prop} (hQ : ∀ r M1, zRV (b58_32 n k19 l0 l1 l2 s0 s1 s2 M) r M1 → Q r M1) : zWP 58 32 [some (.ref l0), some (.int l1), some (.int l2)] [.ref s2, .int s1, .ref s0] M Q := by
  unfold b58_32 at hQ
  unfold p58_32 at hp
  refine wp_go 1 (pc' := 33) (L' := [some (.ref l0), some (.int l1), some (.int l2)]) (st' := [.ref s2, .ref s2, .int s1, .ref s0]) (M' := M) rfl ?_
  obtain ⟨hc, hp⟩ := hp
  refine wp_callv (M1 := (b54_0 n s2 M)) rfl rfl rfl rfl (s54_0 n s2 M hc (fun r M1 h => h)) ?_
  exact s58_36 n k19 q19 h19 l0 l1 l2 s0 s1 s2 (b54_0 n s2 M) hp hQ
def c58_19 (n : Nat) (k19 : Nat → Int32 → Int32 → zM → zM) (l0 : Nat) (l1 : Int32) (l2 : Int32) (M : zM) : zM := (if l1 ≤ l2 then M else b58_32 n k19 l0 l1 l2 (zQ M l0 0) l2 (zN M) (zNew M (0, 7) (zNf 7)))
def d58_19 (n : Nat) (q19 : Nat → Int32 → Int32 → zM → Prop) (l0 : Nat) (l1 : Int32) (l2 : Int32) (M : zM) : Prop := ((l1 ≤ l2 → True) ∧ (¬ l1 ≤ l2 → (zHasQ 8 15 l0 M 0) ∧ ((zOkM M) ∧ (p58_32 n q19 l0 l1 l2 (zQ M l0 0) l2 (zN M) (zNew M (0, 7) (zNf 7))))))
theorem t58_19 (n : Nat) (k19 : Nat → Int32 → Int32 → zM → zM) (q19 : Nat → Int32 → Int32 → zM → Prop) (h19 : ∀ (l0 : Nat) (l1 : Int32) (l2 : Int32) (M : zM), q19 l0 l1 l2 M → ∀ {Q : Option Value → zM → Prop}, (∀ r M1, zRV (k19 l0 l1 l2 M) r M1 → Q r M1) → zWP 58 19 [some (.ref l0), some (.int l1), some (.int l2)] [] M Q) (l0 : Nat) (l1 : Int32) (l2 : Int32) (M : zM) (hp : d58_19 n q19 l0 l1 l2 M) {Q : Option Value → zM → Prop} (hQ : ∀ r M1, zRV (c58_19 n k19 l0 l1 l2 M) r M1 → Q r M1) : zWP 58 19 [some (.ref l0), some (.int l1), some (.int l2)] [] M Q := by
  unfold c58_19 at hQ
  unfold d58_19 at hp
  refine wp_go 2 (pc' := 21) (L' := [some (.ref l0), some (.int l1), some (.int l2)]) (st' := [.int l1, .int l2]) (M' := M) rfl ?_
  refine wp_ic_ge (t := 43) rfl rfl (fun hc => ?_) (fun hc => ?_)
  · rw [if_pos hc] at hQ
    replace hp := hp.1 hc
    exact wp_ret (r := none) rfl rfl (hQ _ _ ⟨rfl, rfl⟩)
  · rw [if_neg hc] at hQ
    replace hp := hp.2 hc
    refine wp_go 1 (pc' := 25) (L' := [some (.ref l0), some (.int l1), some (.int l2)]) (st' := [.ref l0]) (M' := M) rfl ?_
    obtain ⟨hc, hp⟩ := hp
    refine wq_getQ (j := 0) rfl hc ?_
    refine wp_go 1 (pc' := 29) (L' := [some (.ref l0), some (.int l1), some (.int l2)]) (st' := [.int l2, .ref (zQ M l0 0)]) (M' := M) rfl ?_
    obtain ⟨hc, hp⟩ := hp
    refine wq_new (c := 7) rfl rfl rfl hc ?_
    exact s58_32 n k19 q19 h19 l0 l1 l2 (zQ M l0 0) l2 (zN M) (zNew M (0, 7) (zNf 7)) hp hQ
def b58_19 (n : Nat)  : Nat → Nat → Int32 → Int32 → zM → zM
  | 0, _, _, _, M => M
  | k + 1, l0, l1, l2, M => c58_19 n  (b58_19 n  k) l0 l1 l2 M
def p58_19 (n : Nat)  : Nat → Nat → Int32 → Int32 → zM → Prop
  | 0, _, _, _, _ => False
  | k + 1, l0, l1, l2, M => d58_19 n  (p58_19 n  k) l0 l1 l2 M
theorem s58_19 (n : Nat)    : ∀ (k : Nat) (l0 : Nat) (l1 : Int32) (l2 : Int32) (M : zM), p58_19 n  k l0 l1 l2 M → ∀ {Q : Option Value → zM → Prop}, (∀ r M1, zRV (b58_19 n  k l0 l1 l2 M) r M1 → Q r M1) → zWP 58 19 [some (.ref l0), some (.int l1), some (.int l2)] [] M Q
  | 0, _, _, _, _, h, _, _ => h.elim
  | k + 1, l0, l1, l2, M, h, _, hQ => t58_19 n  (b58_19 n  k)  (p58_19 n  k)  (s58_19 n    k) l0 l1 l2 M h hQ
def b58_17 (n : Nat)  (l0 : Nat) (l1 : Int32) (M : zM) : zM := b58_19 n  n l0 l1 (0 : Int32) M
def p58_17 (n : Nat)  (l0 : Nat) (l1 : Int32) (M : zM) : Prop := p58_19 n  n l0 l1 (0 : Int32) M
theorem s58_17 (n : Nat)    (l0 : Nat) (l1 : Int32) (M : zM) (hp : p58_17 n  l0 l1 M) {Q : Option Value → zM → Prop} (hQ : ∀ r M1, zRV (b58_17 n  l0 l1 M) r M1 → Q r M1) : zWP 58 17 [some (.ref l0), some (.int l1), none] [] M Q := by
  unfold b58_17 at hQ
  unfold p58_17 at hp
  refine wp_go 2 (pc' := 19) (L' := [some (.ref l0), some (.int l1), some (.int (0 : Int32))]) (st' := []) (M' := M) rfl ?_
  exact s58_19 n    n l0 l1 (0 : Int32) M hp hQ
def b58_14 (n : Nat)  (l0 : Nat) (l1 : Int32) (s0 : Nat) (s1 : Nat) (M : zM) : zM := b58_17 n  l0 l1 (zWQ M s0 0 (some s1))
def p58_14 (n : Nat)  (l0 : Nat) (l1 : Int32) (s0 : Nat) (s1 : Nat) (M : zM) : Prop := (zPutQ 58 15 s0 M 0) ∧ (p58_17 n  l0 l1 (zWQ M s0 0 (some s1)))
theorem s58_14 (n : Nat)    (l0 : Nat) (l1 : Int32) (s0 : Nat) (s1 : Nat) (M : zM) (hp : p58_14 n  l0 l1 s0 s1 M) {Q : Option Value → zM → Prop} (hQ : ∀ r M1, zRV (b58_14 n  l0 l1 s0 s1 M) r M1 → Q r M1) : zWP 58 14 [some (.ref l0), some (.int l1), none] [.ref s1, .ref s0] M Q := by
  unfold b58_14 at hQ
  unfold p58_14 at hp
  obtain ⟨hc, hp⟩ := hp
  refine wq_putQ (j := 0) rfl hc ?_
  exact s58_17 n    l0 l1 (zWQ M s0 0 (some s1)) hp hQ
def b58_9 (n : Nat)  (l0 : Nat) (l1 : Int32) (M : zM) : zM := b58_14 n  l0 l1 l0 (zN M) (zNew M (7, l1.toNatClampNeg) l1.toNatClampNeg)
def p58_9 (n : Nat)  (l0 : Nat) (l1 : Int32) (M : zM) : Prop := (zOkW l1 M) ∧ (p58_14 n  l0 l1 l0 (zN M) (zNew M (7, l1.toNatClampNeg) l1.toNatClampNeg))
theorem s58_9 (n : Nat)    (l0 : Nat) (l1 : Int32) (M : zM) (hp : p58_9 n  l0 l1 M) {Q : Option Value → zM → Prop} (hQ : ∀ r M1, zRV (b58_9 n  l0 l1 M) r M1 → Q r M1) : zWP 58 9 [some (.ref l0), some (.int l1), none] [] M Q := by
  unfold b58_9 at hQ
  unfold p58_9 at hp
  refine wp_go 2 (pc' := 11) (L' := [some (.ref l0), some (.int l1), none]) (st' := [.int l1, .ref l0]) (M' := M) rfl ?_
  obtain ⟨hc, hp⟩ := hp
  refine wq_newq (t := 6) rfl rfl hc ?_
  exact s58_14 n    l0 l1 l0 (zN M) (zNew M (7, l1.toNatClampNeg) l1.toNatClampNeg) hp hQ
def b58_0 (n : Nat)  (l0 : Nat) (l1 : Int32) (M : zM) : zM := b58_9 n  l0 l1 (zWI M l0 1 (0 : Int32))
def p58_0 (n : Nat)  (l0 : Nat) (l1 : Int32) (M : zM) : Prop := (zPutI 58 7 l0 M 1 (0 : Int32)) ∧ (p58_9 n  l0 l1 (zWI M l0 1 (0 : Int32)))
theorem s58_0 (n : Nat)    (l0 : Nat) (l1 : Int32) (M : zM) (hp : p58_0 n  l0 l1 M) {Q : Option Value → zM → Prop} (hQ : ∀ r M1, zRV (b58_0 n  l0 l1 M) r M1 → Q r M1) : zWP 58 0 [some (.ref l0), some (.int l1), none] [] M Q := by
  unfold b58_0 at hQ
  unfold p58_0 at hp
  refine wp_go 1 (pc' := 1) (L' := [some (.ref l0), some (.int l1), none]) (st' := [.ref l0]) (M' := M) rfl ?_
  refine wq_obj rfl rfl rfl (by decide) ?_
  refine wp_go 2 (pc' := 6) (L' := [some (.ref l0), some (.int l1), none]) (st' := [.int (0 : Int32), .ref l0]) (M' := M) rfl ?_
  obtain ⟨hc, hp⟩ := hp
  refine wq_putI (j := 1) rfl hc ?_
  exact s58_9 n    l0 l1 (zWI M l0 1 (0 : Int32)) hp hQ
/-! X11_init -/
def b61_220 (n : Nat) (k187 : Nat → Int32 → zM → zM) (l0 : Nat) (l1 : Int32) (M : zM) : zM := k187 l0 (l1 + Int32.ofInt 1) M
def p61_220 (n : Nat) (q187 : Nat → Int32 → zM → Prop) (l0 : Nat) (l1 : Int32) (M : zM) : Prop := q187 l0 (l1 + Int32.ofInt 1) M
theorem s61_220 (n : Nat) (k187 : Nat → Int32 → zM → zM) (q187 : Nat → Int32 → zM → Prop) (h187 : ∀ (l0 : Nat) (l1 : Int32) (M : zM), q187 l0 l1 M → ∀ {Q : Option Value → zM → Prop}, (∀ r M1, zRV (k187 l0 l1 M) r M1 → Q r M1) → zWP 61 187 [some (.ref l0), some (.int l1)] [] M Q) (l0 : Nat) (l1 : Int32) (M : zM) (hp : p61_220 n q187 l0 l1 M) {Q : Option Value → zM → Prop} (hQ : ∀ r M1, zRV (b61_220 n k187 l0 l1 M) r M1 → Q r M1) : zWP 61 220 [some (.ref l0), some (.int l1)] [] M Q := by
  unfold b61_220 at hQ
  unfold p61_220 at hp
  refine wp_go 2 (pc' := 187) (L' := [some (.ref l0), some (.int (l1 + Int32.ofInt 1))]) (st' := []) (M' := M) rfl ?_
  exact h187 l0 (l1 + Int32.ofInt 1) M hp hQ
def b61_219 (n : Nat) (k187 : Nat → Int32 → zM → zM) (l0 : Nat) (l1 : Int32) (s0 : Nat) (s1 : Int32) (s2 : Nat) (M : zM) : zM := b61_220 n k187 l0 l1 (zWQ M s0 s1.toNatClampNeg (some s2))
def p61_219 (n : Nat) (q187 : Nat → Int32 → zM → Prop) (l0 : Nat) (l1 : Int32) (s0 : Nat) (s1 : Int32) (s2 : Nat) (M : zM) : Prop := (zOkS s0 s2 s1 M) ∧ (p61_220 n q187 l0 l1 (zWQ M s0 s1.toNatClampNeg (some s2)))
theorem s61_219 (n : Nat) (k187 : Nat → Int32 → zM → zM) (q187 : Nat → Int32 → zM → Prop) (h187 : ∀ (l0 : Nat) (l1 : Int32) (M : zM), q187 l0 l1 M → ∀ {Q : Option Value → zM → Prop}, (∀ r M1, zRV (k187 l0 l1 M) r M1 → Q r M1) → zWP 61 187 [some (.ref l0), some (.int l1)] [] M Q) (l0 : Nat) (l1 : Int32) (s0 : Nat) (s1 : Int32) (s2 : Nat) (M : zM) (hp : p61_219 n q187 l0 l1 s0 s1 s2 M) {Q : Option Value → zM → Prop} (hQ : ∀ r M1, zRV (b61_219 n k187 l0 l1 s0 s1 s2 M) r M1 → Q r M1) : zWP 61 219 [some (.ref l0), some (.int l1)] [.ref s2, .int s1, .ref s0] M Q := by
  unfold b61_219 at hQ
  unfold p61_219 at hp
  obtain ⟨hc, hp⟩ := hp
  refine wq_aast rfl hc ?_
  exact s61_220 n k187 q187 h187 l0 l1 (zWQ M s0 s1.toNatClampNeg (some s2)) hp hQ
def b61_215 (n : Nat) (k187 : Nat → Int32 → zM → zM) (l0 : Nat) (l1 : Int32) (s0 : Nat) (s1 : Int32) (s2 : Nat) (M : zM) : zM := b61_219 n k187 l0 l1 s0 s1 s2 (b28_0 n s2 M)
def p61_215 (n : Nat) (q187 : Nat → Int32 → zM → Prop) (l0 : Nat) (l1 : Int32) (s0 : Nat) (s1 : Int32) (s2 : Nat) (M : zM) : Prop := (p28_0 n s2 M) ∧ (p61_219 n q187 l0 l1 s0 s1 s2 (b28_0 n s2 M))
theorem s61_215 (n : Nat) (k187 : Nat → Int32 → zM → zM) (q187 : Nat → Int32 → zM → Prop) (h187 : ∀ (l0 : Nat) (l1 : Int32) (M : zM), q187 l0 l1 M → ∀ {Q : Option Value → zM → Prop}, (∀ r M1, zRV (k187 l0 l1 M) r M1 → Q r M1) → zWP 61 187 [some (.ref l0), some (.int l1)] [] M Q) (l0 : Nat) (l1 : Int32) (s0 : Nat) (s1 : Int32) (s2 : Nat) (M : zM) (hp : p61_215 n q187 l0 l1 s0 s1 s2 M) {Q : Option Value → zM → Prop} (hQ : ∀ r M1, zRV (b61_215 n k187 l0 l1 s0 s1 s2 M) r M1 → Q r M1) : zWP 61 215 [some (.ref l0), some (.int l1)] [.ref s2, .int s1, .ref s0] M Q := by
  unfold b61_215 at hQ
  unfold p61_215 at hp
  refine wp_go 1 (pc' := 216) (L' := [some (.ref l0), some (.int l1)]) (st' := [.ref s2, .ref s2, .int s1, .ref s0]) (M' := M) rfl ?_
  obtain ⟨hc, hp⟩ := hp
  refine wp_callv (M1 := (b28_0 n s2 M)) rfl rfl rfl rfl (s28_0 n s2 M hc (fun r M1 h => h)) ?_
  exact s61_219 n k187 q187 h187 l0 l1 s0 s1 s2 (b28_0 n s2 M) hp hQ
def b61_207 (n : Nat) (k187 : Nat → Int32 → zM → zM) (l0 : Nat) (l1 : Int32) (M : zM) : zM := b61_215 n k187 l0 l1 (zQ M l0 1) l1 (zN M) (zNew M (0, 4) (zNf 4))
def p61_207 (n : Nat) (q187 : Nat → Int32 → zM → Prop) (l0 : Nat) (l1 : Int32) (M : zM) : Prop := (zHasQ 9 17 l0 M 1) ∧ ((zOkM M) ∧ (p61_215 n q187 l0 l1 (zQ M l0 1) l1 (zN M) (zNew M (0, 4) (zNf 4))))
theorem s61_207 (n : Nat) (k187 : Nat → Int32 → zM → zM) (q187 : Nat → Int32 → zM → Prop) (h187 : ∀ (l0 : Nat) (l1 : Int32) (M : zM), q187 l0 l1 M → ∀ {Q : Option Value → zM → Prop}, (∀ r M1, zRV (k187 l0 l1 M) r M1 → Q r M1) → zWP 61 187 [some (.ref l0), some (.int l1)] [] M Q) (l0 : Nat) (l1 : Int32) (M : zM) (hp : p61_207 n q187 l0 l1 M) {Q : Option Value → zM → Prop} (hQ : ∀ r M1, zRV (b61_207 n k187 l0 l1 M) r M1 → Q r M1) : zWP 61 207 [some (.ref l0), some (.int l1)] [] M Q := by
  unfold b61_207 at hQ
  unfold p61_207 at hp
  refine wp_go 1 (pc' := 208) (L' := [some (.ref l0), some (.int l1)]) (st' := [.ref l0]) (M' := M) rfl ?_
  obtain ⟨hc, hp⟩ := hp
  refine wq_getQ (j := 1) rfl hc ?_
  refine wp_go 1 (pc' := 212) (L' := [some (.ref l0), some (.int l1)]) (st' := [.int l1, .ref (zQ M l0 1)]) (M' := M) rfl ?_
  obtain ⟨hc, hp⟩ := hp
  refine wq_new (c := 4) rfl rfl rfl hc ?_
  exact s61_215 n k187 q187 h187 l0 l1 (zQ M l0 1) l1 (zN M) (zNew M (0, 4) (zNf 4)) hp hQ
def b61_206 (n : Nat) (k187 : Nat → Int32 → zM → zM) (l0 : Nat) (l1 : Int32) (s0 : Nat) (s1 : Int32) (s2 : Nat) (M : zM) : zM := b61_207 n k187 l0 l1 (zWQ M s0 s1.toNatClampNeg (some s2))
def p61_206 (n : Nat) (q187 : Nat → Int32 → zM → Prop) (l0 : Nat) (l1 : Int32) (s0 : Nat) (s1 : Int32) (s2 : Nat) (M : zM) : Prop := (zOkS s0 s2 s1 M) ∧ (p61_207 n q187 l0 l1 (zWQ M s0 s1.toNatClampNeg (some s2)))
theorem s61_206 (n : Nat) (k187 : Nat → Int32 → zM → zM) (q187 : Nat → Int32 → zM → Prop) (h187 : ∀ (l0 : Nat) (l1 : Int32) (M : zM), q187 l0 l1 M → ∀ {Q : Option Value → zM → Prop}, (∀ r M1, zRV (k187 l0 l1 M) r M1 → Q r M1) → zWP 61 187 [some (.ref l0), some (.int l1)] [] M Q) (l0 : Nat) (l1 : Int32) (s0 : Nat) (s1 : Int32) (s2 : Nat) (M : zM) (hp : p61_206 n q187 l0 l1 s0 s1 s2 M) {Q : Option Value → zM → Prop} (hQ : ∀ r M1, zRV (b61_206 n k187 l0 l1 s0 s1 s2 M) r M1 → Q r M1) : zWP 61 206 [some (.ref l0), some (.int l1)] [.ref s2, .int s1, .ref s0] M Q := by
  unfold b61_206 at hQ
  unfold p61_206 at hp
  obtain ⟨hc, hp⟩ := hp
  refine wq_aast rfl hc ?_
  exact s61_207 n k187 q187 h187 l0 l1 (zWQ M s0 s1.toNatClampNeg (some s2)) hp hQ
def b61_201 (n : Nat) (k187 : Nat → Int32 → zM → zM) (l0 : Nat) (l1 : Int32) (s0 : Nat) (s1 : Int32) (s2 : Nat) (M : zM) : zM := b61_206 n k187 l0 l1 s0 s1 s2 (b41_0 n s2 l1 M)
def p61_201 (n : Nat) (q187 : Nat → Int32 → zM → Prop) (l0 : Nat) (l1 : Int32) (s0 : Nat) (s1 : Int32) (s2 : Nat) (M : zM) : Prop := (p41_0 n s2 l1 M) ∧ (p61_206 n q187 l0 l1 s0 s1 s2 (b41_0 n s2 l1 M))
theorem s61_201 (n : Nat) (k187 : Nat → Int32 → zM → zM) (q187 : Nat → Int32 → zM → Prop) (h187 : ∀ (l0 : Nat) (l1 : Int32) (M : zM), q187 l0 l1 M → ∀ {Q : Option Value → zM → Prop}, (∀ r M1, zRV (k187 l0 l1 M) r M1 → Q r M1) → zWP 61 187 [some (.ref l0), some (.int l1)] [] M Q) (l0 : Nat) (l1 : Int32) (s0 : Nat) (s1 : Int32) (s2 : Nat) (M : zM) (hp : p61_201 n q187 l0 l1 s0 s1 s2 M) {Q : Option Value → zM → Prop} (hQ : ∀ r M1, zRV (b61_201 n k187 l0 l1 s0 s1 s2 M) r M1 → Q r M1) : zWP 61 201 [some (.ref l0), some (.int l1)] [.ref s2, .int s1, .ref s0] M Q := by
  unfold b61_201 at hQ
  unfold p61_201 at hp
  refine wp_go 2 (pc' := 203) (L' := [some (.ref l0), some (.int l1)]) (st' := [.int l1, .ref s2, .ref s2, .int s1, .ref s0]) (M' := M) rfl ?_
  obtain ⟨hc, hp⟩ := hp
  refine wp_callv (M1 := (b41_0 n s2 l1 M)) rfl rfl rfl rfl (s41_0 n s2 l1 M hc (fun r M1 h => h)) ?_
  exact s61_206 n k187 q187 h187 l0 l1 s0 s1 s2 (b41_0 n s2 l1 M) hp hQ
def c61_187 (n : Nat) (k187 : Nat → Int32 → zM → zM) (l0 : Nat) (l1 : Int32) (M : zM) : zM := (if (12 : Int32) ≤ l1 then M else b61_201 n k187 l0 l1 (zQ M l0 0) l1 (zN M) (zNew M (0, 6) (zNf 6)))
def d61_187 (n : Nat) (q187 : Nat → Int32 → zM → Prop) (l0 : Nat) (l1 : Int32) (M : zM) : Prop := (((12 : Int32) ≤ l1 → True) ∧ (¬ (12 : Int32) ≤ l1 → (zHasQ 9 11 l0 M 0) ∧ ((zOkM M) ∧ (p61_201 n q187 l0 l1 (zQ M l0 0) l1 (zN M) (zNew M (0, 6) (zNf 6))))))
theorem t61_187 (n : Nat) (k187 : Nat → Int32 → zM → zM) (q187 : Nat → Int32 → zM → Prop) (h187 : ∀ (l0 : Nat) (l1 : Int32) (M : zM), q187 l0 l1 M → ∀ {Q : Option Value → zM → Prop}, (∀ r M1, zRV (k187 l0 l1 M) r M1 → Q r M1) → zWP 61 187 [some (.ref l0), some (.int l1)] [] M Q) (l0 : Nat) (l1 : Int32) (M : zM) (hp : d61_187 n q187 l0 l1 M) {Q : Option Value → zM → Prop} (hQ : ∀ r M1, zRV (c61_187 n k187 l0 l1 M) r M1 → Q r M1) : zWP 61 187 [some (.ref l0), some (.int l1)] [] M Q := by
  unfold c61_187 at hQ
  unfold d61_187 at hp
  refine wp_go 2 (pc' := 190) (L' := [some (.ref l0), some (.int l1)]) (st' := [.int (12 : Int32), .int l1]) (M' := M) rfl ?_
  refine wp_ic_ge (t := 226) rfl rfl (fun hc => ?_) (fun hc => ?_)
  · rw [if_pos hc] at hQ
    replace hp := hp.1 hc
    exact wp_ret (r := none) rfl rfl (hQ _ _ ⟨rfl, rfl⟩)
  · rw [if_neg hc] at hQ
    replace hp := hp.2 hc
    refine wp_go 1 (pc' := 194) (L' := [some (.ref l0), some (.int l1)]) (st' := [.ref l0]) (M' := M) rfl ?_
    obtain ⟨hc, hp⟩ := hp
    refine wq_getQ (j := 0) rfl hc ?_
    refine wp_go 1 (pc' := 198) (L' := [some (.ref l0), some (.int l1)]) (st' := [.int l1, .ref (zQ M l0 0)]) (M' := M) rfl ?_
    obtain ⟨hc, hp⟩ := hp
    refine wq_new (c := 6) rfl rfl rfl hc ?_
    exact s61_201 n k187 q187 h187 l0 l1 (zQ M l0 0) l1 (zN M) (zNew M (0, 6) (zNf 6)) hp hQ
def b61_187 (n : Nat)  : Nat → Nat → Int32 → zM → zM
  | 0, _, _, M => M
  | k + 1, l0, l1, M => c61_187 n  (b61_187 n  k) l0 l1 M
def p61_187 (n : Nat)  : Nat → Nat → Int32 → zM → Prop
  | 0, _, _, _ => False
  | k + 1, l0, l1, M => d61_187 n  (p61_187 n  k) l0 l1 M
theorem s61_187 (n : Nat)    : ∀ (k : Nat) (l0 : Nat) (l1 : Int32) (M : zM), p61_187 n  k l0 l1 M → ∀ {Q : Option Value → zM → Prop}, (∀ r M1, zRV (b61_187 n  k l0 l1 M) r M1 → Q r M1) → zWP 61 187 [some (.ref l0), some (.int l1)] [] M Q
  | 0, _, _, _, h, _, _ => h.elim
  | k + 1, l0, l1, M, h, _, hQ => t61_187 n  (b61_187 n  k)  (p61_187 n  k)  (s61_187 n    k) l0 l1 M h hQ
def b61_185 (n : Nat)  (l0 : Nat) (M : zM) : zM := b61_187 n  n l0 (0 : Int32) M
def p61_185 (n : Nat)  (l0 : Nat) (M : zM) : Prop := p61_187 n  n l0 (0 : Int32) M
theorem s61_185 (n : Nat)    (l0 : Nat) (M : zM) (hp : p61_185 n  l0 M) {Q : Option Value → zM → Prop} (hQ : ∀ r M1, zRV (b61_185 n  l0 M) r M1 → Q r M1) : zWP 61 185 [some (.ref l0), none] [] M Q := by
  unfold b61_185 at hQ
  unfold p61_185 at hp
  refine wp_go 2 (pc' := 187) (L' := [some (.ref l0), some (.int (0 : Int32))]) (st' := []) (M' := M) rfl ?_
  exact s61_187 n    n l0 (0 : Int32) M hp hQ
def b61_180 (n : Nat)  (l0 : Nat) (M : zM) : zM := b61_185 n  l0 (zWI M l0 19 ((-1) : Int32))
def p61_180 (n : Nat)  (l0 : Nat) (M : zM) : Prop := (zPutI 61 100 l0 M 19 ((-1) : Int32)) ∧ (p61_185 n  l0 (zWI M l0 19 ((-1) : Int32)))
theorem s61_180 (n : Nat)    (l0 : Nat) (M : zM) (hp : p61_180 n  l0 M) {Q : Option Value → zM → Prop} (hQ : ∀ r M1, zRV (b61_180 n  l0 M) r M1 → Q r M1) : zWP 61 180 [some (.ref l0), none] [] M Q := by
  unfold b61_180 at hQ
  unfold p61_180 at hp
  refine wp_go 2 (pc' := 182) (L' := [some (.ref l0), none]) (st' := [.int ((-1) : Int32), .ref l0]) (M' := M) rfl ?_
  obtain ⟨hc, hp⟩ := hp
  refine wq_putI (j := 19) rfl hc ?_
  exact s61_185 n    l0 (zWI M l0 19 ((-1) : Int32)) hp hQ
def b61_175 (n : Nat)  (l0 : Nat) (M : zM) : zM := b61_180 n  l0 (zWI M l0 18 ((-1) : Int32))
def p61_175 (n : Nat)  (l0 : Nat) (M : zM) : Prop := (zPutI 61 97 l0 M 18 ((-1) : Int32)) ∧ (p61_180 n  l0 (zWI M l0 18 ((-1) : Int32)))
theorem s61_175 (n : Nat)    (l0 : Nat) (M : zM) (hp : p61_175 n  l0 M) {Q : Option Value → zM → Prop} (hQ : ∀ r M1, zRV (b61_175 n  l0 M) r M1 → Q r M1) : zWP 61 175 [some (.ref l0), none] [] M Q := by
  unfold b61_175 at hQ
  unfold p61_175 at hp
  refine wp_go 2 (pc' := 177) (L' := [some (.ref l0), none]) (st' := [.int ((-1) : Int32), .ref l0]) (M' := M) rfl ?_
  obtain ⟨hc, hp⟩ := hp
  refine wq_putI (j := 18) rfl hc ?_
  exact s61_180 n    l0 (zWI M l0 18 ((-1) : Int32)) hp hQ
def b61_170 (n : Nat)  (l0 : Nat) (M : zM) : zM := b61_175 n  l0 (zWI M l0 17 ((-1) : Int32))
def p61_170 (n : Nat)  (l0 : Nat) (M : zM) : Prop := (zPutI 61 94 l0 M 17 ((-1) : Int32)) ∧ (p61_175 n  l0 (zWI M l0 17 ((-1) : Int32)))
theorem s61_170 (n : Nat)    (l0 : Nat) (M : zM) (hp : p61_170 n  l0 M) {Q : Option Value → zM → Prop} (hQ : ∀ r M1, zRV (b61_170 n  l0 M) r M1 → Q r M1) : zWP 61 170 [some (.ref l0), none] [] M Q := by
  unfold b61_170 at hQ
  unfold p61_170 at hp
  refine wp_go 2 (pc' := 172) (L' := [some (.ref l0), none]) (st' := [.int ((-1) : Int32), .ref l0]) (M' := M) rfl ?_
  obtain ⟨hc, hp⟩ := hp
  refine wq_putI (j := 17) rfl hc ?_
  exact s61_175 n    l0 (zWI M l0 17 ((-1) : Int32)) hp hQ
def b61_165 (n : Nat)  (l0 : Nat) (M : zM) : zM := b61_170 n  l0 (zWI M l0 16 (3 : Int32))
def p61_165 (n : Nat)  (l0 : Nat) (M : zM) : Prop := (zPutI 61 91 l0 M 16 (3 : Int32)) ∧ (p61_170 n  l0 (zWI M l0 16 (3 : Int32)))
theorem s61_165 (n : Nat)    (l0 : Nat) (M : zM) (hp : p61_165 n  l0 M) {Q : Option Value → zM → Prop} (hQ : ∀ r M1, zRV (b61_165 n  l0 M) r M1 → Q r M1) : zWP 61 165 [some (.ref l0), none] [] M Q := by
  unfold b61_165 at hQ
  unfold p61_165 at hp
  refine wp_go 2 (pc' := 167) (L' := [some (.ref l0), none]) (st' := [.int (3 : Int32), .ref l0]) (M' := M) rfl ?_
  obtain ⟨hc, hp⟩ := hp
  refine wq_putI (j := 16) rfl hc ?_
  exact s61_170 n    l0 (zWI M l0 16 (3 : Int32)) hp hQ
def b61_158 (n : Nat)  (l0 : Nat) (M : zM) : zM := b61_165 n  l0 (zWI M l0 15 (3000 : Int32))
def p61_158 (n : Nat)  (l0 : Nat) (M : zM) : Prop := (zPutI 61 88 l0 M 15 (3000 : Int32)) ∧ (p61_165 n  l0 (zWI M l0 15 (3000 : Int32)))
theorem s61_158 (n : Nat)    (l0 : Nat) (M : zM) (hp : p61_158 n  l0 M) {Q : Option Value → zM → Prop} (hQ : ∀ r M1, zRV (b61_158 n  l0 M) r M1 → Q r M1) : zWP 61 158 [some (.ref l0), none] [] M Q := by
  unfold b61_158 at hQ
  unfold p61_158 at hp
  refine wp_go 2 (pc' := 162) (L' := [some (.ref l0), none]) (st' := [.int (3000 : Int32), .ref l0]) (M' := M) rfl ?_
  obtain ⟨hc, hp⟩ := hp
  refine wq_putI (j := 15) rfl hc ?_
  exact s61_165 n    l0 (zWI M l0 15 (3000 : Int32)) hp hQ
def b61_152 (n : Nat)  (l0 : Nat) (M : zM) : zM := b61_158 n  l0 (zWI M l0 14 (10 : Int32))
def p61_152 (n : Nat)  (l0 : Nat) (M : zM) : Prop := (zPutI 61 85 l0 M 14 (10 : Int32)) ∧ (p61_158 n  l0 (zWI M l0 14 (10 : Int32)))
theorem s61_152 (n : Nat)    (l0 : Nat) (M : zM) (hp : p61_152 n  l0 M) {Q : Option Value → zM → Prop} (hQ : ∀ r M1, zRV (b61_152 n  l0 M) r M1 → Q r M1) : zWP 61 152 [some (.ref l0), none] [] M Q := by
  unfold b61_152 at hQ
  unfold p61_152 at hp
  refine wp_go 2 (pc' := 155) (L' := [some (.ref l0), none]) (st' := [.int (10 : Int32), .ref l0]) (M' := M) rfl ?_
  obtain ⟨hc, hp⟩ := hp
  refine wq_putI (j := 14) rfl hc ?_
  exact s61_158 n    l0 (zWI M l0 14 (10 : Int32)) hp hQ
def b61_146 (n : Nat)  (l0 : Nat) (M : zM) : zM := b61_152 n  l0 (zWI M l0 13 (6 : Int32))
def p61_146 (n : Nat)  (l0 : Nat) (M : zM) : Prop := (zPutI 61 82 l0 M 13 (6 : Int32)) ∧ (p61_152 n  l0 (zWI M l0 13 (6 : Int32)))
theorem s61_146 (n : Nat)    (l0 : Nat) (M : zM) (hp : p61_146 n  l0 M) {Q : Option Value → zM → Prop} (hQ : ∀ r M1, zRV (b61_146 n  l0 M) r M1 → Q r M1) : zWP 61 146 [some (.ref l0), none] [] M Q := by
  unfold b61_146 at hQ
  unfold p61_146 at hp
  refine wp_go 2 (pc' := 149) (L' := [some (.ref l0), none]) (st' := [.int (6 : Int32), .ref l0]) (M' := M) rfl ?_
  obtain ⟨hc, hp⟩ := hp
  refine wq_putI (j := 13) rfl hc ?_
  exact s61_152 n    l0 (zWI M l0 13 (6 : Int32)) hp hQ
def b61_141 (n : Nat)  (l0 : Nat) (M : zM) : zM := b61_146 n  l0 (zWI M l0 12 (0 : Int32))
def p61_141 (n : Nat)  (l0 : Nat) (M : zM) : Prop := (zPutI 61 78 l0 M 12 (0 : Int32)) ∧ (p61_146 n  l0 (zWI M l0 12 (0 : Int32)))
theorem s61_141 (n : Nat)    (l0 : Nat) (M : zM) (hp : p61_141 n  l0 M) {Q : Option Value → zM → Prop} (hQ : ∀ r M1, zRV (b61_141 n  l0 M) r M1 → Q r M1) : zWP 61 141 [some (.ref l0), none] [] M Q := by
  unfold b61_141 at hQ
  unfold p61_141 at hp
  refine wp_go 2 (pc' := 143) (L' := [some (.ref l0), none]) (st' := [.int (0 : Int32), .ref l0]) (M' := M) rfl ?_
  obtain ⟨hc, hp⟩ := hp
  refine wq_putI (j := 12) rfl hc ?_
  exact s61_146 n    l0 (zWI M l0 12 (0 : Int32)) hp hQ
def b61_138 (n : Nat)  (l0 : Nat) (s0 : Nat) (s1 : Nat) (M : zM) : zM := b61_141 n  l0 (zWQ M s0 11 (some s1))
def p61_138 (n : Nat)  (l0 : Nat) (s0 : Nat) (s1 : Nat) (M : zM) : Prop := (zPutQ 61 75 s0 M 11) ∧ (p61_141 n  l0 (zWQ M s0 11 (some s1)))
theorem s61_138 (n : Nat)    (l0 : Nat) (s0 : Nat) (s1 : Nat) (M : zM) (hp : p61_138 n  l0 s0 s1 M) {Q : Option Value → zM → Prop} (hQ : ∀ r M1, zRV (b61_138 n  l0 s0 s1 M) r M1 → Q r M1) : zWP 61 138 [some (.ref l0), none] [.ref s1, .ref s0] M Q := by
  unfold b61_138 at hQ
  unfold p61_138 at hp
  obtain ⟨hc, hp⟩ := hp
  refine wq_putQ (j := 11) rfl hc ?_
  exact s61_141 n    l0 (zWQ M s0 11 (some s1)) hp hQ
def b61_134 (n : Nat)  (l0 : Nat) (s0 : Nat) (s1 : Nat) (M : zM) : zM := b61_138 n  l0 s0 s1 (zWI M s1 (2 : Int32).toNatClampNeg ((-1) : Int32))
def p61_134 (n : Nat)  (l0 : Nat) (s0 : Nat) (s1 : Nat) (M : zM) : Prop := (zOkT 1 s1 (2 : Int32) M) ∧ (p61_138 n  l0 s0 s1 (zWI M s1 (2 : Int32).toNatClampNeg ((-1) : Int32)))
theorem s61_134 (n : Nat)    (l0 : Nat) (s0 : Nat) (s1 : Nat) (M : zM) (hp : p61_134 n  l0 s0 s1 M) {Q : Option Value → zM → Prop} (hQ : ∀ r M1, zRV (b61_134 n  l0 s0 s1 M) r M1 → Q r M1) : zWP 61 134 [some (.ref l0), none] [.ref s1, .ref s0] M Q := by
  unfold b61_134 at hQ
  unfold p61_134 at hp
  refine wp_go 3 (pc' := 137) (L' := [some (.ref l0), none]) (st' := [.int ((-1) : Int32), .int (2 : Int32), .ref s1, .ref s1, .ref s0]) (M' := M) rfl ?_
  obtain ⟨hc, hp⟩ := hp
  refine wq_iast rfl hc ?_
  exact s61_138 n    l0 s0 s1 (zWI M s1 (2 : Int32).toNatClampNeg ((-1) : Int32)) hp hQ
def b61_130 (n : Nat)  (l0 : Nat) (s0 : Nat) (s1 : Nat) (M : zM) : zM := b61_134 n  l0 s0 s1 (zWI M s1 (1 : Int32).toNatClampNeg ((-1) : Int32))
def p61_130 (n : Nat)  (l0 : Nat) (s0 : Nat) (s1 : Nat) (M : zM) : Prop := (zOkT 1 s1 (1 : Int32) M) ∧ (p61_134 n  l0 s0 s1 (zWI M s1 (1 : Int32).toNatClampNeg ((-1) : Int32)))
theorem s61_130 (n : Nat)    (l0 : Nat) (s0 : Nat) (s1 : Nat) (M : zM) (hp : p61_130 n  l0 s0 s1 M) {Q : Option Value → zM → Prop} (hQ : ∀ r M1, zRV (b61_130 n  l0 s0 s1 M) r M1 → Q r M1) : zWP 61 130 [some (.ref l0), none] [.ref s1, .ref s0] M Q := by
  unfold b61_130 at hQ
  unfold p61_130 at hp
  refine wp_go 3 (pc' := 133) (L' := [some (.ref l0), none]) (st' := [.int ((-1) : Int32), .int (1 : Int32), .ref s1, .ref s1, .ref s0]) (M' := M) rfl ?_
  obtain ⟨hc, hp⟩ := hp
  refine wq_iast rfl hc ?_
  exact s61_134 n    l0 s0 s1 (zWI M s1 (1 : Int32).toNatClampNeg ((-1) : Int32)) hp hQ
def b61_126 (n : Nat)  (l0 : Nat) (s0 : Nat) (s1 : Nat) (M : zM) : zM := b61_130 n  l0 s0 s1 (zWI M s1 (0 : Int32).toNatClampNeg ((-1) : Int32))
def p61_126 (n : Nat)  (l0 : Nat) (s0 : Nat) (s1 : Nat) (M : zM) : Prop := (zOkT 1 s1 (0 : Int32) M) ∧ (p61_130 n  l0 s0 s1 (zWI M s1 (0 : Int32).toNatClampNeg ((-1) : Int32)))
theorem s61_126 (n : Nat)    (l0 : Nat) (s0 : Nat) (s1 : Nat) (M : zM) (hp : p61_126 n  l0 s0 s1 M) {Q : Option Value → zM → Prop} (hQ : ∀ r M1, zRV (b61_126 n  l0 s0 s1 M) r M1 → Q r M1) : zWP 61 126 [some (.ref l0), none] [.ref s1, .ref s0] M Q := by
  unfold b61_126 at hQ
  unfold p61_126 at hp
  refine wp_go 3 (pc' := 129) (L' := [some (.ref l0), none]) (st' := [.int ((-1) : Int32), .int (0 : Int32), .ref s1, .ref s1, .ref s0]) (M' := M) rfl ?_
  obtain ⟨hc, hp⟩ := hp
  refine wq_iast rfl hc ?_
  exact s61_130 n    l0 s0 s1 (zWI M s1 (0 : Int32).toNatClampNeg ((-1) : Int32)) hp hQ
def b61_122 (n : Nat)  (l0 : Nat) (M : zM) : zM := b61_126 n  l0 l0 (zN M) (zNew M (1, (3 : Int32).toNatClampNeg) (3 : Int32).toNatClampNeg)
def p61_122 (n : Nat)  (l0 : Nat) (M : zM) : Prop := (zOkW (3 : Int32) M) ∧ (p61_126 n  l0 l0 (zN M) (zNew M (1, (3 : Int32).toNatClampNeg) (3 : Int32).toNatClampNeg))
theorem s61_122 (n : Nat)    (l0 : Nat) (M : zM) (hp : p61_122 n  l0 M) {Q : Option Value → zM → Prop} (hQ : ∀ r M1, zRV (b61_122 n  l0 M) r M1 → Q r M1) : zWP 61 122 [some (.ref l0), none] [] M Q := by
  unfold b61_122 at hQ
  unfold p61_122 at hp
  refine wp_go 2 (pc' := 124) (L' := [some (.ref l0), none]) (st' := [.int (3 : Int32), .ref l0]) (M' := M) rfl ?_
  obtain ⟨hc, hp⟩ := hp
  refine wq_newp (k := 0) rfl rfl hc ?_
  exact s61_126 n    l0 l0 (zN M) (zNew M (1, (3 : Int32).toNatClampNeg) (3 : Int32).toNatClampNeg) hp hQ
def b61_119 (n : Nat)  (l0 : Nat) (s0 : Nat) (s1 : Nat) (M : zM) : zM := b61_122 n  l0 (zWQ M s0 10 (some s1))
def p61_119 (n : Nat)  (l0 : Nat) (s0 : Nat) (s1 : Nat) (M : zM) : Prop := (zPutQ 61 71 s0 M 10) ∧ (p61_122 n  l0 (zWQ M s0 10 (some s1)))
theorem s61_119 (n : Nat)    (l0 : Nat) (s0 : Nat) (s1 : Nat) (M : zM) (hp : p61_119 n  l0 s0 s1 M) {Q : Option Value → zM → Prop} (hQ : ∀ r M1, zRV (b61_119 n  l0 s0 s1 M) r M1 → Q r M1) : zWP 61 119 [some (.ref l0), none] [.ref s1, .ref s0] M Q := by
  unfold b61_119 at hQ
  unfold p61_119 at hp
  obtain ⟨hc, hp⟩ := hp
  refine wq_putQ (j := 10) rfl hc ?_
  exact s61_122 n    l0 (zWQ M s0 10 (some s1)) hp hQ
def b61_115 (n : Nat)  (l0 : Nat) (s0 : Nat) (s1 : Nat) (M : zM) : zM := b61_119 n  l0 s0 s1 (b35_0 n s1 M)
def p61_115 (n : Nat)  (l0 : Nat) (s0 : Nat) (s1 : Nat) (M : zM) : Prop := (p35_0 n s1 M) ∧ (p61_119 n  l0 s0 s1 (b35_0 n s1 M))
theorem s61_115 (n : Nat)    (l0 : Nat) (s0 : Nat) (s1 : Nat) (M : zM) (hp : p61_115 n  l0 s0 s1 M) {Q : Option Value → zM → Prop} (hQ : ∀ r M1, zRV (b61_115 n  l0 s0 s1 M) r M1 → Q r M1) : zWP 61 115 [some (.ref l0), none] [.ref s1, .ref s0] M Q := by
  unfold b61_115 at hQ
  unfold p61_115 at hp
  refine wp_go 1 (pc' := 116) (L' := [some (.ref l0), none]) (st' := [.ref s1, .ref s1, .ref s0]) (M' := M) rfl ?_
  obtain ⟨hc, hp⟩ := hp
  refine wp_callv (M1 := (b35_0 n s1 M)) rfl rfl rfl rfl (s35_0 n s1 M hc (fun r M1 h => h)) ?_
  exact s61_119 n    l0 s0 s1 (b35_0 n s1 M) hp hQ
def b61_111 (n : Nat)  (l0 : Nat) (M : zM) : zM := b61_115 n  l0 l0 (zN M) (zNew M (0, 5) (zNf 5))
def p61_111 (n : Nat)  (l0 : Nat) (M : zM) : Prop := (zOkM M) ∧ (p61_115 n  l0 l0 (zN M) (zNew M (0, 5) (zNf 5)))
theorem s61_111 (n : Nat)    (l0 : Nat) (M : zM) (hp : p61_111 n  l0 M) {Q : Option Value → zM → Prop} (hQ : ∀ r M1, zRV (b61_111 n  l0 M) r M1 → Q r M1) : zWP 61 111 [some (.ref l0), none] [] M Q := by
  unfold b61_111 at hQ
  unfold p61_111 at hp
  refine wp_go 1 (pc' := 112) (L' := [some (.ref l0), none]) (st' := [.ref l0]) (M' := M) rfl ?_
  obtain ⟨hc, hp⟩ := hp
  refine wq_new (c := 5) rfl rfl rfl hc ?_
  exact s61_115 n    l0 l0 (zN M) (zNew M (0, 5) (zNf 5)) hp hQ
def b61_108 (n : Nat)  (l0 : Nat) (s0 : Nat) (s1 : Nat) (M : zM) : zM := b61_111 n  l0 (zWQ M s0 9 (some s1))
def p61_108 (n : Nat)  (l0 : Nat) (s0 : Nat) (s1 : Nat) (M : zM) : Prop := (zPutQ 61 65 s0 M 9) ∧ (p61_111 n  l0 (zWQ M s0 9 (some s1)))
theorem s61_108 (n : Nat)    (l0 : Nat) (s0 : Nat) (s1 : Nat) (M : zM) (hp : p61_108 n  l0 s0 s1 M) {Q : Option Value → zM → Prop} (hQ : ∀ r M1, zRV (b61_108 n  l0 s0 s1 M) r M1 → Q r M1) : zWP 61 108 [some (.ref l0), none] [.ref s1, .ref s0] M Q := by
  unfold b61_108 at hQ
  unfold p61_108 at hp
  obtain ⟨hc, hp⟩ := hp
  refine wq_putQ (j := 9) rfl hc ?_
  exact s61_111 n    l0 (zWQ M s0 9 (some s1)) hp hQ
def b61_104 (n : Nat)  (l0 : Nat) (s0 : Nat) (s1 : Nat) (M : zM) : zM := b61_108 n  l0 s0 s1 (b54_0 n s1 M)
def p61_104 (n : Nat)  (l0 : Nat) (s0 : Nat) (s1 : Nat) (M : zM) : Prop := (p54_0 n s1 M) ∧ (p61_108 n  l0 s0 s1 (b54_0 n s1 M))
theorem s61_104 (n : Nat)    (l0 : Nat) (s0 : Nat) (s1 : Nat) (M : zM) (hp : p61_104 n  l0 s0 s1 M) {Q : Option Value → zM → Prop} (hQ : ∀ r M1, zRV (b61_104 n  l0 s0 s1 M) r M1 → Q r M1) : zWP 61 104 [some (.ref l0), none] [.ref s1, .ref s0] M Q := by
  unfold b61_104 at hQ
  unfold p61_104 at hp
  refine wp_go 1 (pc' := 105) (L' := [some (.ref l0), none]) (st' := [.ref s1, .ref s1, .ref s0]) (M' := M) rfl ?_
  obtain ⟨hc, hp⟩ := hp
  refine wp_callv (M1 := (b54_0 n s1 M)) rfl rfl rfl rfl (s54_0 n s1 M hc (fun r M1 h => h)) ?_
  exact s61_108 n    l0 s0 s1 (b54_0 n s1 M) hp hQ
def b61_100 (n : Nat)  (l0 : Nat) (M : zM) : zM := b61_104 n  l0 l0 (zN M) (zNew M (0, 7) (zNf 7))
def p61_100 (n : Nat)  (l0 : Nat) (M : zM) : Prop := (zOkM M) ∧ (p61_104 n  l0 l0 (zN M) (zNew M (0, 7) (zNf 7)))
theorem s61_100 (n : Nat)    (l0 : Nat) (M : zM) (hp : p61_100 n  l0 M) {Q : Option Value → zM → Prop} (hQ : ∀ r M1, zRV (b61_100 n  l0 M) r M1 → Q r M1) : zWP 61 100 [some (.ref l0), none] [] M Q := by
  unfold b61_100 at hQ
  unfold p61_100 at hp
  refine wp_go 1 (pc' := 101) (L' := [some (.ref l0), none]) (st' := [.ref l0]) (M' := M) rfl ?_
  obtain ⟨hc, hp⟩ := hp
  refine wq_new (c := 7) rfl rfl rfl hc ?_
  exact s61_104 n    l0 l0 (zN M) (zNew M (0, 7) (zNf 7)) hp hQ
def b61_97 (n : Nat)  (l0 : Nat) (s0 : Nat) (s1 : Nat) (M : zM) : zM := b61_100 n  l0 (zWQ M s0 8 (some s1))
def p61_97 (n : Nat)  (l0 : Nat) (s0 : Nat) (s1 : Nat) (M : zM) : Prop := (zPutQ 61 61 s0 M 8) ∧ (p61_100 n  l0 (zWQ M s0 8 (some s1)))
theorem s61_97 (n : Nat)    (l0 : Nat) (s0 : Nat) (s1 : Nat) (M : zM) (hp : p61_97 n  l0 s0 s1 M) {Q : Option Value → zM → Prop} (hQ : ∀ r M1, zRV (b61_97 n  l0 s0 s1 M) r M1 → Q r M1) : zWP 61 97 [some (.ref l0), none] [.ref s1, .ref s0] M Q := by
  unfold b61_97 at hQ
  unfold p61_97 at hp
  obtain ⟨hc, hp⟩ := hp
  refine wq_putQ (j := 8) rfl hc ?_
  exact s61_100 n    l0 (zWQ M s0 8 (some s1)) hp hQ
def b61_93 (n : Nat)  (l0 : Nat) (s0 : Nat) (s1 : Nat) (M : zM) : zM := b61_97 n  l0 s0 s1 (b54_0 n s1 M)
def p61_93 (n : Nat)  (l0 : Nat) (s0 : Nat) (s1 : Nat) (M : zM) : Prop := (p54_0 n s1 M) ∧ (p61_97 n  l0 s0 s1 (b54_0 n s1 M))
theorem s61_93 (n : Nat)    (l0 : Nat) (s0 : Nat) (s1 : Nat) (M : zM) (hp : p61_93 n  l0 s0 s1 M) {Q : Option Value → zM → Prop} (hQ : ∀ r M1, zRV (b61_93 n  l0 s0 s1 M) r M1 → Q r M1) : zWP 61 93 [some (.ref l0), none] [.ref s1, .ref s0] M Q := by
  unfold b61_93 at hQ
  unfold p61_93 at hp
  refine wp_go 1 (pc' := 94) (L' := [some (.ref l0), none]) (st' := [.ref s1, .ref s1, .ref s0]) (M' := M) rfl ?_
  obtain ⟨hc, hp⟩ := hp
  refine wp_callv (M1 := (b54_0 n s1 M)) rfl rfl rfl rfl (s54_0 n s1 M hc (fun r M1 h => h)) ?_
  exact s61_97 n    l0 s0 s1 (b54_0 n s1 M) hp hQ
def b61_89 (n : Nat)  (l0 : Nat) (M : zM) : zM := b61_93 n  l0 l0 (zN M) (zNew M (0, 7) (zNf 7))
def p61_89 (n : Nat)  (l0 : Nat) (M : zM) : Prop := (zOkM M) ∧ (p61_93 n  l0 l0 (zN M) (zNew M (0, 7) (zNf 7)))
theorem s61_89 (n : Nat)    (l0 : Nat) (M : zM) (hp : p61_89 n  l0 M) {Q : Option Value → zM → Prop} (hQ : ∀ r M1, zRV (b61_89 n  l0 M) r M1 → Q r M1) : zWP 61 89 [some (.ref l0), none] [] M Q := by
  unfold b61_89 at hQ
  unfold p61_89 at hp
  refine wp_go 1 (pc' := 90) (L' := [some (.ref l0), none]) (st' := [.ref l0]) (M' := M) rfl ?_
  obtain ⟨hc, hp⟩ := hp
  refine wq_new (c := 7) rfl rfl rfl hc ?_
  exact s61_93 n    l0 l0 (zN M) (zNew M (0, 7) (zNf 7)) hp hQ
def b61_86 (n : Nat)  (l0 : Nat) (s0 : Nat) (s1 : Nat) (M : zM) : zM := b61_89 n  l0 (zWQ M s0 7 (some s1))
def p61_86 (n : Nat)  (l0 : Nat) (s0 : Nat) (s1 : Nat) (M : zM) : Prop := (zPutQ 61 55 s0 M 7) ∧ (p61_89 n  l0 (zWQ M s0 7 (some s1)))
theorem s61_86 (n : Nat)    (l0 : Nat) (s0 : Nat) (s1 : Nat) (M : zM) (hp : p61_86 n  l0 s0 s1 M) {Q : Option Value → zM → Prop} (hQ : ∀ r M1, zRV (b61_86 n  l0 s0 s1 M) r M1 → Q r M1) : zWP 61 86 [some (.ref l0), none] [.ref s1, .ref s0] M Q := by
  unfold b61_86 at hQ
  unfold p61_86 at hp
  obtain ⟨hc, hp⟩ := hp
  refine wq_putQ (j := 7) rfl hc ?_
  exact s61_89 n    l0 (zWQ M s0 7 (some s1)) hp hQ
def b61_80 (n : Nat)  (l0 : Nat) (s0 : Nat) (s1 : Nat) (M : zM) : zM := b61_86 n  l0 s0 s1 (b58_0 n s1 (120 : Int32) M)
def p61_80 (n : Nat)  (l0 : Nat) (s0 : Nat) (s1 : Nat) (M : zM) : Prop := (p58_0 n s1 (120 : Int32) M) ∧ (p61_86 n  l0 s0 s1 (b58_0 n s1 (120 : Int32) M))
theorem s61_80 (n : Nat)    (l0 : Nat) (s0 : Nat) (s1 : Nat) (M : zM) (hp : p61_80 n  l0 s0 s1 M) {Q : Option Value → zM → Prop} (hQ : ∀ r M1, zRV (b61_80 n  l0 s0 s1 M) r M1 → Q r M1) : zWP 61 80 [some (.ref l0), none] [.ref s1, .ref s0] M Q := by
  unfold b61_80 at hQ
  unfold p61_80 at hp
  refine wp_go 2 (pc' := 83) (L' := [some (.ref l0), none]) (st' := [.int (120 : Int32), .ref s1, .ref s1, .ref s0]) (M' := M) rfl ?_
  obtain ⟨hc, hp⟩ := hp
  refine wp_callv (M1 := (b58_0 n s1 (120 : Int32) M)) rfl rfl rfl rfl (s58_0 n s1 (120 : Int32) M hc (fun r M1 h => h)) ?_
  exact s61_86 n    l0 s0 s1 (b58_0 n s1 (120 : Int32) M) hp hQ
def b61_76 (n : Nat)  (l0 : Nat) (M : zM) : zM := b61_80 n  l0 l0 (zN M) (zNew M (0, 8) (zNf 8))
def p61_76 (n : Nat)  (l0 : Nat) (M : zM) : Prop := (zOkM M) ∧ (p61_80 n  l0 l0 (zN M) (zNew M (0, 8) (zNf 8)))
theorem s61_76 (n : Nat)    (l0 : Nat) (M : zM) (hp : p61_76 n  l0 M) {Q : Option Value → zM → Prop} (hQ : ∀ r M1, zRV (b61_76 n  l0 M) r M1 → Q r M1) : zWP 61 76 [some (.ref l0), none] [] M Q := by
  unfold b61_76 at hQ
  unfold p61_76 at hp
  refine wp_go 1 (pc' := 77) (L' := [some (.ref l0), none]) (st' := [.ref l0]) (M' := M) rfl ?_
  obtain ⟨hc, hp⟩ := hp
  refine wq_new (c := 8) rfl rfl rfl hc ?_
  exact s61_80 n    l0 l0 (zN M) (zNew M (0, 8) (zNf 8)) hp hQ
def b61_73 (n : Nat)  (l0 : Nat) (s0 : Nat) (s1 : Nat) (M : zM) : zM := b61_76 n  l0 (zWQ M s0 6 (some s1))
def p61_73 (n : Nat)  (l0 : Nat) (s0 : Nat) (s1 : Nat) (M : zM) : Prop := (zPutQ 61 51 s0 M 6) ∧ (p61_76 n  l0 (zWQ M s0 6 (some s1)))
theorem s61_73 (n : Nat)    (l0 : Nat) (s0 : Nat) (s1 : Nat) (M : zM) (hp : p61_73 n  l0 s0 s1 M) {Q : Option Value → zM → Prop} (hQ : ∀ r M1, zRV (b61_73 n  l0 s0 s1 M) r M1 → Q r M1) : zWP 61 73 [some (.ref l0), none] [.ref s1, .ref s0] M Q := by
  unfold b61_73 at hQ
  unfold p61_73 at hp
  obtain ⟨hc, hp⟩ := hp
  refine wq_putQ (j := 6) rfl hc ?_
  exact s61_76 n    l0 (zWQ M s0 6 (some s1)) hp hQ
def b61_67 (n : Nat)  (l0 : Nat) (s0 : Nat) (s1 : Nat) (M : zM) : zM := b61_73 n  l0 s0 s1 (b58_0 n s1 (50 : Int32) M)
def p61_67 (n : Nat)  (l0 : Nat) (s0 : Nat) (s1 : Nat) (M : zM) : Prop := (p58_0 n s1 (50 : Int32) M) ∧ (p61_73 n  l0 s0 s1 (b58_0 n s1 (50 : Int32) M))
theorem s61_67 (n : Nat)    (l0 : Nat) (s0 : Nat) (s1 : Nat) (M : zM) (hp : p61_67 n  l0 s0 s1 M) {Q : Option Value → zM → Prop} (hQ : ∀ r M1, zRV (b61_67 n  l0 s0 s1 M) r M1 → Q r M1) : zWP 61 67 [some (.ref l0), none] [.ref s1, .ref s0] M Q := by
  unfold b61_67 at hQ
  unfold p61_67 at hp
  refine wp_go 2 (pc' := 70) (L' := [some (.ref l0), none]) (st' := [.int (50 : Int32), .ref s1, .ref s1, .ref s0]) (M' := M) rfl ?_
  obtain ⟨hc, hp⟩ := hp
  refine wp_callv (M1 := (b58_0 n s1 (50 : Int32) M)) rfl rfl rfl rfl (s58_0 n s1 (50 : Int32) M hc (fun r M1 h => h)) ?_
  exact s61_73 n    l0 s0 s1 (b58_0 n s1 (50 : Int32) M) hp hQ
def b61_63 (n : Nat)  (l0 : Nat) (M : zM) : zM := b61_67 n  l0 l0 (zN M) (zNew M (0, 8) (zNf 8))
def p61_63 (n : Nat)  (l0 : Nat) (M : zM) : Prop := (zOkM M) ∧ (p61_67 n  l0 l0 (zN M) (zNew M (0, 8) (zNf 8)))
theorem s61_63 (n : Nat)    (l0 : Nat) (M : zM) (hp : p61_63 n  l0 M) {Q : Option Value → zM → Prop} (hQ : ∀ r M1, zRV (b61_63 n  l0 M) r M1 → Q r M1) : zWP 61 63 [some (.ref l0), none] [] M Q := by
  unfold b61_63 at hQ
  unfold p61_63 at hp
  refine wp_go 1 (pc' := 64) (L' := [some (.ref l0), none]) (st' := [.ref l0]) (M' := M) rfl ?_
  obtain ⟨hc, hp⟩ := hp
  refine wq_new (c := 8) rfl rfl rfl hc ?_
  exact s61_67 n    l0 l0 (zN M) (zNew M (0, 8) (zNf 8)) hp hQ
def b61_60 (n : Nat)  (l0 : Nat) (s0 : Nat) (s1 : Nat) (M : zM) : zM := b61_63 n  l0 (zWQ M s0 5 (some s1))
def p61_60 (n : Nat)  (l0 : Nat) (s0 : Nat) (s1 : Nat) (M : zM) : Prop := (zPutQ 61 42 s0 M 5) ∧ (p61_63 n  l0 (zWQ M s0 5 (some s1)))
theorem s61_60 (n : Nat)    (l0 : Nat) (s0 : Nat) (s1 : Nat) (M : zM) (hp : p61_60 n  l0 s0 s1 M) {Q : Option Value → zM → Prop} (hQ : ∀ r M1, zRV (b61_60 n  l0 s0 s1 M) r M1 → Q r M1) : zWP 61 60 [some (.ref l0), none] [.ref s1, .ref s0] M Q := by
  unfold b61_60 at hQ
  unfold p61_60 at hp
  obtain ⟨hc, hp⟩ := hp
  refine wq_putQ (j := 5) rfl hc ?_
  exact s61_63 n    l0 (zWQ M s0 5 (some s1)) hp hQ
def b61_56 (n : Nat)  (l0 : Nat) (s0 : Nat) (s1 : Nat) (M : zM) : zM := b61_60 n  l0 s0 s1 (b0_0 n s1 M)
def p61_56 (n : Nat)  (l0 : Nat) (s0 : Nat) (s1 : Nat) (M : zM) : Prop := (p0_0 n s1 M) ∧ (p61_60 n  l0 s0 s1 (b0_0 n s1 M))
theorem s61_56 (n : Nat)    (l0 : Nat) (s0 : Nat) (s1 : Nat) (M : zM) (hp : p61_56 n  l0 s0 s1 M) {Q : Option Value → zM → Prop} (hQ : ∀ r M1, zRV (b61_56 n  l0 s0 s1 M) r M1 → Q r M1) : zWP 61 56 [some (.ref l0), none] [.ref s1, .ref s0] M Q := by
  unfold b61_56 at hQ
  unfold p61_56 at hp
  refine wp_go 1 (pc' := 57) (L' := [some (.ref l0), none]) (st' := [.ref s1, .ref s1, .ref s0]) (M' := M) rfl ?_
  obtain ⟨hc, hp⟩ := hp
  refine wp_callv (M1 := (b0_0 n s1 M)) rfl rfl rfl rfl (s0_0 n s1 M hc (fun r M1 h => h)) ?_
  exact s61_60 n    l0 s0 s1 (b0_0 n s1 M) hp hQ
def b61_52 (n : Nat)  (l0 : Nat) (M : zM) : zM := b61_56 n  l0 l0 (zN M) (zNew M (0, 0) (zNf 0))
def p61_52 (n : Nat)  (l0 : Nat) (M : zM) : Prop := (zOkM M) ∧ (p61_56 n  l0 l0 (zN M) (zNew M (0, 0) (zNf 0)))
theorem s61_52 (n : Nat)    (l0 : Nat) (M : zM) (hp : p61_52 n  l0 M) {Q : Option Value → zM → Prop} (hQ : ∀ r M1, zRV (b61_52 n  l0 M) r M1 → Q r M1) : zWP 61 52 [some (.ref l0), none] [] M Q := by
  unfold b61_52 at hQ
  unfold p61_52 at hp
  refine wp_go 1 (pc' := 53) (L' := [some (.ref l0), none]) (st' := [.ref l0]) (M' := M) rfl ?_
  obtain ⟨hc, hp⟩ := hp
  refine wq_new (c := 0) rfl rfl rfl hc ?_
  exact s61_56 n    l0 l0 (zN M) (zNew M (0, 0) (zNf 0)) hp hQ
def b61_49 (n : Nat)  (l0 : Nat) (s0 : Nat) (s1 : Nat) (M : zM) : zM := b61_52 n  l0 (zWQ M s0 4 (some s1))
def p61_49 (n : Nat)  (l0 : Nat) (s0 : Nat) (s1 : Nat) (M : zM) : Prop := (zPutQ 61 35 s0 M 4) ∧ (p61_52 n  l0 (zWQ M s0 4 (some s1)))
theorem s61_49 (n : Nat)    (l0 : Nat) (s0 : Nat) (s1 : Nat) (M : zM) (hp : p61_49 n  l0 s0 s1 M) {Q : Option Value → zM → Prop} (hQ : ∀ r M1, zRV (b61_49 n  l0 s0 s1 M) r M1 → Q r M1) : zWP 61 49 [some (.ref l0), none] [.ref s1, .ref s0] M Q := by
  unfold b61_49 at hQ
  unfold p61_49 at hp
  obtain ⟨hc, hp⟩ := hp
  refine wq_putQ (j := 4) rfl hc ?_
  exact s61_52 n    l0 (zWQ M s0 4 (some s1)) hp hQ
def b61_45 (n : Nat)  (l0 : Nat) (s0 : Nat) (s1 : Nat) (M : zM) : zM := b61_49 n  l0 s0 s1 (b21_0 n s1 M)
def p61_45 (n : Nat)  (l0 : Nat) (s0 : Nat) (s1 : Nat) (M : zM) : Prop := (p21_0 n s1 M) ∧ (p61_49 n  l0 s0 s1 (b21_0 n s1 M))
theorem s61_45 (n : Nat)    (l0 : Nat) (s0 : Nat) (s1 : Nat) (M : zM) (hp : p61_45 n  l0 s0 s1 M) {Q : Option Value → zM → Prop} (hQ : ∀ r M1, zRV (b61_45 n  l0 s0 s1 M) r M1 → Q r M1) : zWP 61 45 [some (.ref l0), none] [.ref s1, .ref s0] M Q := by
  unfold b61_45 at hQ
  unfold p61_45 at hp
  refine wp_go 1 (pc' := 46) (L' := [some (.ref l0), none]) (st' := [.ref s1, .ref s1, .ref s0]) (M' := M) rfl ?_
  obtain ⟨hc, hp⟩ := hp
  refine wp_callv (M1 := (b21_0 n s1 M)) rfl rfl rfl rfl (s21_0 n s1 M hc (fun r M1 h => h)) ?_
  exact s61_49 n    l0 s0 s1 (b21_0 n s1 M) hp hQ
def b61_41 (n : Nat)  (l0 : Nat) (M : zM) : zM := b61_45 n  l0 l0 (zN M) (zNew M (0, 3) (zNf 3))
def p61_41 (n : Nat)  (l0 : Nat) (M : zM) : Prop := (zOkM M) ∧ (p61_45 n  l0 l0 (zN M) (zNew M (0, 3) (zNf 3)))
theorem s61_41 (n : Nat)    (l0 : Nat) (M : zM) (hp : p61_41 n  l0 M) {Q : Option Value → zM → Prop} (hQ : ∀ r M1, zRV (b61_41 n  l0 M) r M1 → Q r M1) : zWP 61 41 [some (.ref l0), none] [] M Q := by
  unfold b61_41 at hQ
  unfold p61_41 at hp
  refine wp_go 1 (pc' := 42) (L' := [some (.ref l0), none]) (st' := [.ref l0]) (M' := M) rfl ?_
  obtain ⟨hc, hp⟩ := hp
  refine wq_new (c := 3) rfl rfl rfl hc ?_
  exact s61_45 n    l0 l0 (zN M) (zNew M (0, 3) (zNf 3)) hp hQ
def b61_38 (n : Nat)  (l0 : Nat) (s0 : Nat) (s1 : Nat) (M : zM) : zM := b61_41 n  l0 (zWQ M s0 3 (some s1))
def p61_38 (n : Nat)  (l0 : Nat) (s0 : Nat) (s1 : Nat) (M : zM) : Prop := (zPutQ 61 28 s0 M 3) ∧ (p61_41 n  l0 (zWQ M s0 3 (some s1)))
theorem s61_38 (n : Nat)    (l0 : Nat) (s0 : Nat) (s1 : Nat) (M : zM) (hp : p61_38 n  l0 s0 s1 M) {Q : Option Value → zM → Prop} (hQ : ∀ r M1, zRV (b61_38 n  l0 s0 s1 M) r M1 → Q r M1) : zWP 61 38 [some (.ref l0), none] [.ref s1, .ref s0] M Q := by
  unfold b61_38 at hQ
  unfold p61_38 at hp
  obtain ⟨hc, hp⟩ := hp
  refine wq_putQ (j := 3) rfl hc ?_
  exact s61_41 n    l0 (zWQ M s0 3 (some s1)) hp hQ
def b61_34 (n : Nat)  (l0 : Nat) (s0 : Nat) (s1 : Nat) (M : zM) : zM := b61_38 n  l0 s0 s1 (b13_0 n s1 M)
def p61_34 (n : Nat)  (l0 : Nat) (s0 : Nat) (s1 : Nat) (M : zM) : Prop := (p13_0 n s1 M) ∧ (p61_38 n  l0 s0 s1 (b13_0 n s1 M))
theorem s61_34 (n : Nat)    (l0 : Nat) (s0 : Nat) (s1 : Nat) (M : zM) (hp : p61_34 n  l0 s0 s1 M) {Q : Option Value → zM → Prop} (hQ : ∀ r M1, zRV (b61_34 n  l0 s0 s1 M) r M1 → Q r M1) : zWP 61 34 [some (.ref l0), none] [.ref s1, .ref s0] M Q := by
  unfold b61_34 at hQ
  unfold p61_34 at hp
  refine wp_go 1 (pc' := 35) (L' := [some (.ref l0), none]) (st' := [.ref s1, .ref s1, .ref s0]) (M' := M) rfl ?_
  obtain ⟨hc, hp⟩ := hp
  refine wp_callv (M1 := (b13_0 n s1 M)) rfl rfl rfl rfl (s13_0 n s1 M hc (fun r M1 h => h)) ?_
  exact s61_38 n    l0 s0 s1 (b13_0 n s1 M) hp hQ
def b61_30 (n : Nat)  (l0 : Nat) (M : zM) : zM := b61_34 n  l0 l0 (zN M) (zNew M (0, 2) (zNf 2))
def p61_30 (n : Nat)  (l0 : Nat) (M : zM) : Prop := (zOkM M) ∧ (p61_34 n  l0 l0 (zN M) (zNew M (0, 2) (zNf 2)))
theorem s61_30 (n : Nat)    (l0 : Nat) (M : zM) (hp : p61_30 n  l0 M) {Q : Option Value → zM → Prop} (hQ : ∀ r M1, zRV (b61_30 n  l0 M) r M1 → Q r M1) : zWP 61 30 [some (.ref l0), none] [] M Q := by
  unfold b61_30 at hQ
  unfold p61_30 at hp
  refine wp_go 1 (pc' := 31) (L' := [some (.ref l0), none]) (st' := [.ref l0]) (M' := M) rfl ?_
  obtain ⟨hc, hp⟩ := hp
  refine wq_new (c := 2) rfl rfl rfl hc ?_
  exact s61_34 n    l0 l0 (zN M) (zNew M (0, 2) (zNf 2)) hp hQ
def b61_27 (n : Nat)  (l0 : Nat) (s0 : Nat) (s1 : Nat) (M : zM) : zM := b61_30 n  l0 (zWQ M s0 2 (some s1))
def p61_27 (n : Nat)  (l0 : Nat) (s0 : Nat) (s1 : Nat) (M : zM) : Prop := (zPutQ 61 21 s0 M 2) ∧ (p61_30 n  l0 (zWQ M s0 2 (some s1)))
theorem s61_27 (n : Nat)    (l0 : Nat) (s0 : Nat) (s1 : Nat) (M : zM) (hp : p61_27 n  l0 s0 s1 M) {Q : Option Value → zM → Prop} (hQ : ∀ r M1, zRV (b61_27 n  l0 s0 s1 M) r M1 → Q r M1) : zWP 61 27 [some (.ref l0), none] [.ref s1, .ref s0] M Q := by
  unfold b61_27 at hQ
  unfold p61_27 at hp
  obtain ⟨hc, hp⟩ := hp
  refine wq_putQ (j := 2) rfl hc ?_
  exact s61_30 n    l0 (zWQ M s0 2 (some s1)) hp hQ
def b61_22 (n : Nat)  (l0 : Nat) (M : zM) : zM := b61_27 n  l0 l0 (zN M) (zNew M (1, (12 : Int32).toNatClampNeg) (12 : Int32).toNatClampNeg)
def p61_22 (n : Nat)  (l0 : Nat) (M : zM) : Prop := (zOkW (12 : Int32) M) ∧ (p61_27 n  l0 l0 (zN M) (zNew M (1, (12 : Int32).toNatClampNeg) (12 : Int32).toNatClampNeg))
theorem s61_22 (n : Nat)    (l0 : Nat) (M : zM) (hp : p61_22 n  l0 M) {Q : Option Value → zM → Prop} (hQ : ∀ r M1, zRV (b61_22 n  l0 M) r M1 → Q r M1) : zWP 61 22 [some (.ref l0), none] [] M Q := by
  unfold b61_22 at hQ
  unfold p61_22 at hp
  refine wp_go 2 (pc' := 25) (L' := [some (.ref l0), none]) (st' := [.int (12 : Int32), .ref l0]) (M' := M) rfl ?_
  obtain ⟨hc, hp⟩ := hp
  refine wq_newp (k := 0) rfl rfl hc ?_
  exact s61_27 n    l0 l0 (zN M) (zNew M (1, (12 : Int32).toNatClampNeg) (12 : Int32).toNatClampNeg) hp hQ
def b61_19 (n : Nat)  (l0 : Nat) (s0 : Nat) (s1 : Nat) (M : zM) : zM := b61_22 n  l0 (zWQ M s0 1 (some s1))
def p61_19 (n : Nat)  (l0 : Nat) (s0 : Nat) (s1 : Nat) (M : zM) : Prop := (zPutQ 61 17 s0 M 1) ∧ (p61_22 n  l0 (zWQ M s0 1 (some s1)))
theorem s61_19 (n : Nat)    (l0 : Nat) (s0 : Nat) (s1 : Nat) (M : zM) (hp : p61_19 n  l0 s0 s1 M) {Q : Option Value → zM → Prop} (hQ : ∀ r M1, zRV (b61_19 n  l0 s0 s1 M) r M1 → Q r M1) : zWP 61 19 [some (.ref l0), none] [.ref s1, .ref s0] M Q := by
  unfold b61_19 at hQ
  unfold p61_19 at hp
  obtain ⟨hc, hp⟩ := hp
  refine wq_putQ (j := 1) rfl hc ?_
  exact s61_22 n    l0 (zWQ M s0 1 (some s1)) hp hQ
def b61_13 (n : Nat)  (l0 : Nat) (M : zM) : zM := b61_19 n  l0 l0 (zN M) (zNew M (5, (12 : Int32).toNatClampNeg) (12 : Int32).toNatClampNeg)
def p61_13 (n : Nat)  (l0 : Nat) (M : zM) : Prop := (zOkW (12 : Int32) M) ∧ (p61_19 n  l0 l0 (zN M) (zNew M (5, (12 : Int32).toNatClampNeg) (12 : Int32).toNatClampNeg))
theorem s61_13 (n : Nat)    (l0 : Nat) (M : zM) (hp : p61_13 n  l0 M) {Q : Option Value → zM → Prop} (hQ : ∀ r M1, zRV (b61_13 n  l0 M) r M1 → Q r M1) : zWP 61 13 [some (.ref l0), none] [] M Q := by
  unfold b61_13 at hQ
  unfold p61_13 at hp
  refine wp_go 2 (pc' := 16) (L' := [some (.ref l0), none]) (st' := [.int (12 : Int32), .ref l0]) (M' := M) rfl ?_
  obtain ⟨hc, hp⟩ := hp
  refine wq_newq (t := 4) rfl rfl hc ?_
  exact s61_19 n    l0 l0 (zN M) (zNew M (5, (12 : Int32).toNatClampNeg) (12 : Int32).toNatClampNeg) hp hQ
def b61_10 (n : Nat)  (l0 : Nat) (s0 : Nat) (s1 : Nat) (M : zM) : zM := b61_13 n  l0 (zWQ M s0 0 (some s1))
def p61_10 (n : Nat)  (l0 : Nat) (s0 : Nat) (s1 : Nat) (M : zM) : Prop := (zPutQ 61 11 s0 M 0) ∧ (p61_13 n  l0 (zWQ M s0 0 (some s1)))
theorem s61_10 (n : Nat)    (l0 : Nat) (s0 : Nat) (s1 : Nat) (M : zM) (hp : p61_10 n  l0 s0 s1 M) {Q : Option Value → zM → Prop} (hQ : ∀ r M1, zRV (b61_10 n  l0 s0 s1 M) r M1 → Q r M1) : zWP 61 10 [some (.ref l0), none] [.ref s1, .ref s0] M Q := by
  unfold b61_10 at hQ
  unfold p61_10 at hp
  obtain ⟨hc, hp⟩ := hp
  refine wq_putQ (j := 0) rfl hc ?_
  exact s61_13 n    l0 (zWQ M s0 0 (some s1)) hp hQ
def b61_0 (n : Nat)  (l0 : Nat) (M : zM) : zM := b61_10 n  l0 l0 (zN M) (zNew M (4, (12 : Int32).toNatClampNeg) (12 : Int32).toNatClampNeg)
def p61_0 (n : Nat)  (l0 : Nat) (M : zM) : Prop := (zOkW (12 : Int32) M) ∧ (p61_10 n  l0 l0 (zN M) (zNew M (4, (12 : Int32).toNatClampNeg) (12 : Int32).toNatClampNeg))
theorem s61_0 (n : Nat)    (l0 : Nat) (M : zM) (hp : p61_0 n  l0 M) {Q : Option Value → zM → Prop} (hQ : ∀ r M1, zRV (b61_0 n  l0 M) r M1 → Q r M1) : zWP 61 0 [some (.ref l0), none] [] M Q := by
  unfold b61_0 at hQ
  unfold p61_0 at hp
  refine wp_go 1 (pc' := 1) (L' := [some (.ref l0), none]) (st' := [.ref l0]) (M' := M) rfl ?_
  refine wq_obj rfl rfl rfl (by decide) ?_
  refine wp_go 2 (pc' := 7) (L' := [some (.ref l0), none]) (st' := [.int (12 : Int32), .ref l0]) (M' := M) rfl ?_
  obtain ⟨hc, hp⟩ := hp
  refine wq_newq (t := 3) rfl rfl hc ?_
  exact s61_10 n    l0 l0 (zN M) (zNew M (4, (12 : Int32).toNatClampNeg) (12 : Int32).toNatClampNeg) hp hQ
/-! X11_look -/
def b70_105 (n : Nat)  (s0 : Int32) (M : zM) : Int32 × Nat × zM := (s0, 0, M)
def p70_105 (n : Nat)  (s0 : Int32) (M : zM) : Prop := True
theorem s70_105 (n : Nat)    (s0 : Int32) (M : zM) (hp : p70_105 n  s0 M) {Q : Option Value → zM → Prop} (hQ : ∀ r M1, zRX (b70_105 n  s0 M) r M1 → Q r M1) : zWP 70 105 [none, none, none, none] [.int s0] M Q := by
  unfold b70_105 at hQ
  unfold p70_105 at hp
  exact wp_ret (r := some (.int s0)) rfl rfl (hQ _ _ ⟨Or.inl ⟨rfl, rfl⟩, rfl⟩)
def b70_160 (n : Nat)  (s0 : Int32) (M : zM) : Int32 × Nat × zM := (s0, 0, M)
def p70_160 (n : Nat)  (s0 : Int32) (M : zM) : Prop := True
theorem s70_160 (n : Nat)    (s0 : Int32) (M : zM) (hp : p70_160 n  s0 M) {Q : Option Value → zM → Prop} (hQ : ∀ r M1, zRX (b70_160 n  s0 M) r M1 → Q r M1) : zWP 70 160 [none, none, none, none] [.int s0] M Q := by
  unfold b70_160 at hQ
  unfold p70_160 at hp
  exact wp_ret (r := some (.int s0)) rfl rfl (hQ _ _ ⟨Or.inl ⟨rfl, rfl⟩, rfl⟩)
def b70_5 (n : Nat)  (l0 : Nat) (l1 : Int32) (l2 : Int32) (s0 : Int32) (M : zM) : Int32 × Nat × zM := (if s0 = 0 then (0, 1, zThr M) else (if l2 = 0 then ((zI M (zQ M (zQ M (zQ M l0 0) l1.toNatClampNeg) 6) 0), 0, M) else if l2 = 1 then ((zI M (zQ M (zQ M l0 0) l1.toNatClampNeg) 7), 0, M) else if l2 = 2 then (if (zI M (zQ M (zQ M l0 0) l1.toNatClampNeg) 8) = 0 then b70_105 n  (0 : Int32) M else b70_105 n  (1 : Int32) M) else if l2 = 3 then ((zI M (zQ M (zQ M l0 0) l1.toNatClampNeg) 9), 0, M) else if l2 = 4 then ((zI M (zQ M (zQ M l0 0) l1.toNatClampNeg) 10), 0, M) else if l2 = 5 then ((zI M (zQ M (zQ M l0 4) 0) l1.toNatClampNeg), 0, M) else if l2 = 6 then ((zI M (zQ M (zQ M l0 4) 1) l1.toNatClampNeg), 0, M) else if l2 = 7 then ((zI M (zQ M (zQ M l0 4) 2) l1.toNatClampNeg), 0, M) else if l2 = 8 then ((zI M (zQ M (zQ M l0 4) 3) l1.toNatClampNeg), 0, M) else if l2 = 9 then b70_160 n  (b53_0 n (zQ M (zQ M l0 0) l1.toNatClampNeg) M).1 (b53_0 n (zQ M (zQ M l0 0) l1.toNatClampNeg) M).2 else (0, 2, zThr M)))
def p70_5 (n : Nat)  (l0 : Nat) (l1 : Int32) (l2 : Int32) (s0 : Int32) (M : zM) : Prop := ((s0 = 0 → True) ∧ (¬ s0 = 0 → (zHasQ 9 11 l0 M 0) ∧ ((zOkR (zQ M l0 0) l1 M) ∧ (((l2 = 0 → (zHasQ 9 109 (zQ M (zQ M l0 0) l1.toNatClampNeg) M 6) ∧ ((zHasK (zQ M (zQ M (zQ M l0 0) l1.toNatClampNeg) 6) M) ∧ (True))) ∧ (¬ l2 = 0 → (l2 = 1 → (zHasI 9 128 (zQ M (zQ M l0 0) l1.toNatClampNeg) M 7) ∧ (True)) ∧ (¬ l2 = 1 → (l2 = 2 → (zHasI 9 124 (zQ M (zQ M l0 0) l1.toNatClampNeg) M 8) ∧ ((((zI M (zQ M (zQ M l0 0) l1.toNatClampNeg) 8) = 0 → p70_105 n  (0 : Int32) M) ∧ (¬ (zI M (zQ M (zQ M l0 0) l1.toNatClampNeg) 8) = 0 → p70_105 n  (1 : Int32) M)))) ∧ (¬ l2 = 2 → (l2 = 3 → (zHasI 9 172 (zQ M (zQ M l0 0) l1.toNatClampNeg) M 9) ∧ (True)) ∧ (¬ l2 = 3 → (l2 = 4 → (zHasI 9 178 (zQ M (zQ M l0 0) l1.toNatClampNeg) M 10) ∧ (True)) ∧ (¬ l2 = 4 → (l2 = 5 → (zHasQ 9 35 l0 M 4) ∧ ((zHasQ 9 192 (zQ M l0 4) M 0) ∧ ((zOkI (zQ M (zQ M l0 4) 0) l1 M) ∧ (True)))) ∧ (¬ l2 = 5 → (l2 = 6 → (zHasQ 9 35 l0 M 4) ∧ ((zHasQ 9 195 (zQ M l0 4) M 1) ∧ ((zOkI (zQ M (zQ M l0 4) 1) l1 M) ∧ (True)))) ∧ (¬ l2 = 6 → (l2 = 7 → (zHasQ 9 35 l0 M 4) ∧ ((zHasQ 9 198 (zQ M l0 4) M 2) ∧ ((zOkI (zQ M (zQ M l0 4) 2) l1 M) ∧ (True)))) ∧ (¬ l2 = 7 → (l2 = 8 → (zHasQ 9 35 l0 M 4) ∧ ((zHasQ 9 201 (zQ M l0 4) M 3) ∧ ((zOkI (zQ M (zQ M l0 4) 3) l1 M) ∧ (True)))) ∧ (¬ l2 = 8 → (l2 = 9 → (zHasC 70 204 (zQ M (zQ M l0 0) l1.toNatClampNeg) M 53 0) ∧ ((p53_0 n (zQ M (zQ M l0 0) l1.toNatClampNeg) M) ∧ (p70_160 n  (b53_0 n (zQ M (zQ M l0 0) l1.toNatClampNeg) M).1 (b53_0 n (zQ M (zQ M l0 0) l1.toNatClampNeg) M).2))) ∧ (¬ l2 = 9 → True)))))))))))))))
theorem s70_5 (n : Nat)    (l0 : Nat) (l1 : Int32) (l2 : Int32) (s0 : Int32) (M : zM) (hp : p70_5 n  l0 l1 l2 s0 M) {Q : Option Value → zM → Prop} (hQ : ∀ r M1, zRX (b70_5 n  l0 l1 l2 s0 M) r M1 → Q r M1) : zWP 70 5 [some (.ref l0), some (.int l1), some (.int l2), none] [.int s0] M Q := by
  unfold b70_5 at hQ
  unfold p70_5 at hp
  refine wp_if_ne (t := 18) rfl rfl (fun hc => ?_) (fun hc => ?_)
  · rw [if_neg hc] at hQ
    replace hp := hp.2 hc
    refine wp_go 1 (pc' := 19) (L' := [some (.ref l0), some (.int l1), some (.int l2), none]) (st' := [.ref l0]) (M' := M) rfl ?_
    obtain ⟨hc, hp⟩ := hp
    refine wq_getQ (j := 0) rfl hc ?_
    refine wp_go 1 (pc' := 23) (L' := [some (.ref l0), some (.int l1), some (.int l2), none]) (st' := [.int l1, .ref (zQ M l0 0)]) (M' := M) rfl ?_
    obtain ⟨hc, hp⟩ := hp
    refine wq_aald rfl hc ?_
    refine wp_go 2 (pc' := 26) (L' := [some (.ref l0), some (.int l1), some (.int l2), some (.ref (zQ M (zQ M l0 0) l1.toNatClampNeg))]) (st' := [.int l2]) (M' := M) rfl ?_
    by_cases hc0 : l2 = 0
    · rw [if_pos hc0] at hQ
      replace hp := hp.1 hc0
      refine wp_tabI rfl hc0 (t := 80) rfl ?_
      refine wp_go 1 (pc' := 81) (L' := [some (.ref l0), some (.int l1), some (.int l2), some (.ref (zQ M (zQ M l0 0) l1.toNatClampNeg))]) (st' := [.ref (zQ M (zQ M l0 0) l1.toNatClampNeg)]) (M' := M) rfl ?_
      obtain ⟨hc, hp⟩ := hp
      refine wq_getQ (j := 6) rfl hc ?_
      obtain ⟨hc, hp⟩ := hp
      refine wq_getK (j := 0) rfl rfl hc ?_
      exact wp_ret (r := some (.int (zI M (zQ M (zQ M (zQ M l0 0) l1.toNatClampNeg) 6) 0))) rfl rfl (hQ _ _ ⟨Or.inl ⟨rfl, rfl⟩, rfl⟩)
    rw [if_neg hc0] at hQ
    replace hp := hp.2 hc0
    by_cases hc1 : l2 = 1
    · rw [if_pos hc1] at hQ
      replace hp := hp.1 hc1
      refine wp_tabI rfl hc1 (t := 88) rfl ?_
      refine wp_go 1 (pc' := 89) (L' := [some (.ref l0), some (.int l1), some (.int l2), some (.ref (zQ M (zQ M l0 0) l1.toNatClampNeg))]) (st' := [.ref (zQ M (zQ M l0 0) l1.toNatClampNeg)]) (M' := M) rfl ?_
      obtain ⟨hc, hp⟩ := hp
      refine wq_getI (j := 7) rfl hc ?_
      exact wp_ret (r := some (.int (zI M (zQ M (zQ M l0 0) l1.toNatClampNeg) 7))) rfl rfl (hQ _ _ ⟨Or.inl ⟨rfl, rfl⟩, rfl⟩)
    rw [if_neg hc1] at hQ
    replace hp := hp.2 hc1
    by_cases hc2 : l2 = 2
    · rw [if_pos hc2] at hQ
      replace hp := hp.1 hc2
      refine wp_tabI rfl hc2 (t := 93) rfl ?_
      refine wp_go 1 (pc' := 94) (L' := [some (.ref l0), some (.int l1), some (.int l2), some (.ref (zQ M (zQ M l0 0) l1.toNatClampNeg))]) (st' := [.ref (zQ M (zQ M l0 0) l1.toNatClampNeg)]) (M' := M) rfl ?_
      obtain ⟨hc, hp⟩ := hp
      refine wq_getI (j := 8) rfl hc ?_
      refine wp_if_eq (t := 104) rfl rfl (fun hc => ?_) (fun hc => ?_)
      · rw [if_pos hc] at hQ
        replace hp := hp.1 hc
        refine wp_go 1 (pc' := 105) (L' := [some (.ref l0), some (.int l1), some (.int l2), some (.ref (zQ M (zQ M l0 0) l1.toNatClampNeg))]) (st' := [.int (0 : Int32)]) (M' := M) rfl ?_
        refine wp_le [none, none, none, none] (zLe_of (by simp [zLeB])) ?_
        exact s70_105 n    (0 : Int32) M hp hQ
      · rw [if_neg hc] at hQ
        replace hp := hp.2 hc
        refine wp_go 2 (pc' := 105) (L' := [some (.ref l0), some (.int l1), some (.int l2), some (.ref (zQ M (zQ M l0 0) l1.toNatClampNeg))]) (st' := [.int (1 : Int32)]) (M' := M) rfl ?_
        refine wp_le [none, none, none, none] (zLe_of (by simp [zLeB])) ?_
        exact s70_105 n    (1 : Int32) M hp hQ
    rw [if_neg hc2] at hQ
    replace hp := hp.2 hc2
    by_cases hc3 : l2 = 3
    · rw [if_pos hc3] at hQ
      replace hp := hp.1 hc3
      refine wp_tabI rfl hc3 (t := 106) rfl ?_
      refine wp_go 1 (pc' := 107) (L' := [some (.ref l0), some (.int l1), some (.int l2), some (.ref (zQ M (zQ M l0 0) l1.toNatClampNeg))]) (st' := [.ref (zQ M (zQ M l0 0) l1.toNatClampNeg)]) (M' := M) rfl ?_
      obtain ⟨hc, hp⟩ := hp
      refine wq_getI (j := 9) rfl hc ?_
      exact wp_ret (r := some (.int (zI M (zQ M (zQ M l0 0) l1.toNatClampNeg) 9))) rfl rfl (hQ _ _ ⟨Or.inl ⟨rfl, rfl⟩, rfl⟩)
    rw [if_neg hc3] at hQ
    replace hp := hp.2 hc3
    by_cases hc4 : l2 = 4
    · rw [if_pos hc4] at hQ
      replace hp := hp.1 hc4
      refine wp_tabI rfl hc4 (t := 111) rfl ?_
      refine wp_go 1 (pc' := 112) (L' := [some (.ref l0), some (.int l1), some (.int l2), some (.ref (zQ M (zQ M l0 0) l1.toNatClampNeg))]) (st' := [.ref (zQ M (zQ M l0 0) l1.toNatClampNeg)]) (M' := M) rfl ?_
      obtain ⟨hc, hp⟩ := hp
      refine wq_getI (j := 10) rfl hc ?_
      exact wp_ret (r := some (.int (zI M (zQ M (zQ M l0 0) l1.toNatClampNeg) 10))) rfl rfl (hQ _ _ ⟨Or.inl ⟨rfl, rfl⟩, rfl⟩)
    rw [if_neg hc4] at hQ
    replace hp := hp.2 hc4
    by_cases hc5 : l2 = 5
    · rw [if_pos hc5] at hQ
      replace hp := hp.1 hc5
      refine wp_tabI rfl hc5 (t := 116) rfl ?_
      refine wp_go 1 (pc' := 117) (L' := [some (.ref l0), some (.int l1), some (.int l2), some (.ref (zQ M (zQ M l0 0) l1.toNatClampNeg))]) (st' := [.ref l0]) (M' := M) rfl ?_
      obtain ⟨hc, hp⟩ := hp
      refine wq_getQ (j := 4) rfl hc ?_
      obtain ⟨hc, hp⟩ := hp
      refine wq_getQ (j := 0) rfl hc ?_
      refine wp_go 1 (pc' := 124) (L' := [some (.ref l0), some (.int l1), some (.int l2), some (.ref (zQ M (zQ M l0 0) l1.toNatClampNeg))]) (st' := [.int l1, .ref (zQ M (zQ M l0 4) 0)]) (M' := M) rfl ?_
      obtain ⟨hc, hp⟩ := hp
      refine wq_iald rfl hc ?_
      exact wp_ret (r := some (.int (zI M (zQ M (zQ M l0 4) 0) l1.toNatClampNeg))) rfl rfl (hQ _ _ ⟨Or.inl ⟨rfl, rfl⟩, rfl⟩)
    rw [if_neg hc5] at hQ
    replace hp := hp.2 hc5
    by_cases hc6 : l2 = 6
    · rw [if_pos hc6] at hQ
      replace hp := hp.1 hc6
      refine wp_tabI rfl hc6 (t := 126) rfl ?_
      refine wp_go 1 (pc' := 127) (L' := [some (.ref l0), some (.int l1), some (.int l2), some (.ref (zQ M (zQ M l0 0) l1.toNatClampNeg))]) (st' := [.ref l0]) (M' := M) rfl ?_
      obtain ⟨hc, hp⟩ := hp
      refine wq_getQ (j := 4) rfl hc ?_
      obtain ⟨hc, hp⟩ := hp
      refine wq_getQ (j := 1) rfl hc ?_
      refine wp_go 1 (pc' := 134) (L' := [some (.ref l0), some (.int l1), some (.int l2), some (.ref (zQ M (zQ M l0 0) l1.toNatClampNeg))]) (st' := [.int l1, .ref (zQ M (zQ M l0 4) 1)]) (M' := M) rfl ?_
      obtain ⟨hc, hp⟩ := hp
      refine wq_iald rfl hc ?_
      exact wp_ret (r := some (.int (zI M (zQ M (zQ M l0 4) 1) l1.toNatClampNeg))) rfl rfl (hQ _ _ ⟨Or.inl ⟨rfl, rfl⟩, rfl⟩)
    rw [if_neg hc6] at hQ
    replace hp := hp.2 hc6
    by_cases hc7 : l2 = 7
    · rw [if_pos hc7] at hQ
      replace hp := hp.1 hc7
      refine wp_tabI rfl hc7 (t := 136) rfl ?_
      refine wp_go 1 (pc' := 137) (L' := [some (.ref l0), some (.int l1), some (.int l2), some (.ref (zQ M (zQ M l0 0) l1.toNatClampNeg))]) (st' := [.ref l0]) (M' := M) rfl ?_
      obtain ⟨hc, hp⟩ := hp
      refine wq_getQ (j := 4) rfl hc ?_
      obtain ⟨hc, hp⟩ := hp
      refine wq_getQ (j := 2) rfl hc ?_
      refine wp_go 1 (pc' := 144) (L' := [some (.ref l0), some (.int l1), some (.int l2), some (.ref (zQ M (zQ M l0 0) l1.toNatClampNeg))]) (st' := [.int l1, .ref (zQ M (zQ M l0 4) 2)]) (M' := M) rfl ?_
      obtain ⟨hc, hp⟩ := hp
      refine wq_iald rfl hc ?_
      exact wp_ret (r := some (.int (zI M (zQ M (zQ M l0 4) 2) l1.toNatClampNeg))) rfl rfl (hQ _ _ ⟨Or.inl ⟨rfl, rfl⟩, rfl⟩)
    rw [if_neg hc7] at hQ
    replace hp := hp.2 hc7
    by_cases hc8 : l2 = 8
    · rw [if_pos hc8] at hQ
      replace hp := hp.1 hc8
      refine wp_tabI rfl hc8 (t := 146) rfl ?_
      refine wp_go 1 (pc' := 147) (L' := [some (.ref l0), some (.int l1), some (.int l2), some (.ref (zQ M (zQ M l0 0) l1.toNatClampNeg))]) (st' := [.ref l0]) (M' := M) rfl ?_
      obtain ⟨hc, hp⟩ := hp
      refine wq_getQ (j := 4) rfl hc ?_
      obtain ⟨hc, hp⟩ := hp
      refine wq_getQ (j := 3) rfl hc ?_
      refine wp_go 1 (pc' := 154) (L' := [some (.ref l0), some (.int l1), some (.int l2), some (.ref (zQ M (zQ M l0 0) l1.toNatClampNeg))]) (st' := [.int l1, .ref (zQ M (zQ M l0 4) 3)]) (M' := M) rfl ?_
      obtain ⟨hc, hp⟩ := hp
      refine wq_iald rfl hc ?_
      exact wp_ret (r := some (.int (zI M (zQ M (zQ M l0 4) 3) l1.toNatClampNeg))) rfl rfl (hQ _ _ ⟨Or.inl ⟨rfl, rfl⟩, rfl⟩)
    rw [if_neg hc8] at hQ
    replace hp := hp.2 hc8
    by_cases hc9 : l2 = 9
    · rw [if_pos hc9] at hQ
      replace hp := hp.1 hc9
      refine wp_tabI rfl hc9 (t := 156) rfl ?_
      refine wp_go 1 (pc' := 157) (L' := [some (.ref l0), some (.int l1), some (.int l2), some (.ref (zQ M (zQ M l0 0) l1.toNatClampNeg))]) (st' := [.ref (zQ M (zQ M l0 0) l1.toNatClampNeg)]) (M' := M) rfl ?_
      obtain ⟨hv, hp⟩ := hp
      obtain ⟨hc, hp⟩ := hp
      refine wp_calli (v := (b53_0 n (zQ M (zQ M l0 0) l1.toNatClampNeg) M).1) (M1 := (b53_0 n (zQ M (zQ M l0 0) l1.toNatClampNeg) M).2) rfl rfl rfl (zInv_v (np := 0) rfl rfl hv rfl) (s53_0 n (zQ M (zQ M l0 0) l1.toNatClampNeg) M hc (fun r M1 h => h)) ?_
      refine wp_le [none, none, none, none] (zLe_of (by simp [zLeB])) ?_
      exact s70_160 n    (b53_0 n (zQ M (zQ M l0 0) l1.toNatClampNeg) M).1 (b53_0 n (zQ M (zQ M l0 0) l1.toNatClampNeg) M).2 hp hQ
    rw [if_neg hc9] at hQ
    replace hp := hp.2 hc9
    refine wp_tabO (t := 161) rfl (by have e0 : ¬ (l2).toInt = 0 := fun h => hc0 (Int32.toInt_inj.mp h); have e1 : ¬ (l2).toInt = 1 := fun h => hc1 (Int32.toInt_inj.mp h); have e2 : ¬ (l2).toInt = 2 := fun h => hc2 (Int32.toInt_inj.mp h); have e3 : ¬ (l2).toInt = 3 := fun h => hc3 (Int32.toInt_inj.mp h); have e4 : ¬ (l2).toInt = 4 := fun h => hc4 (Int32.toInt_inj.mp h); have e5 : ¬ (l2).toInt = 5 := fun h => hc5 (Int32.toInt_inj.mp h); have e6 : ¬ (l2).toInt = 6 := fun h => hc6 (Int32.toInt_inj.mp h); have e7 : ¬ (l2).toInt = 7 := fun h => hc7 (Int32.toInt_inj.mp h); have e8 : ¬ (l2).toInt = 8 := fun h => hc8 (Int32.toInt_inj.mp h); have e9 : ¬ (l2).toInt = 9 := fun h => hc9 (Int32.toInt_inj.mp h); omega) rfl ?_
    exact wp_thw (q := 2) rfl rfl rfl (hQ _ _ ⟨Or.inr ⟨(show ¬ (2 : Nat) = 0 by decide), rfl⟩, rfl⟩)
  · rw [if_pos hc] at hQ
    replace hp := hp.1 hc
    exact wp_thw (q := 1) rfl rfl rfl (hQ _ _ ⟨Or.inr ⟨(show ¬ (1 : Nat) = 0 by decide), rfl⟩, rfl⟩)
def b70_0 (n : Nat)  (l0 : Nat) (l1 : Int32) (l2 : Int32) (M : zM) : Int32 × Nat × zM := b70_5 n  l0 l1 l2 (b89_0 n l0 l1 M).1 (b89_0 n l0 l1 M).2
def p70_0 (n : Nat)  (l0 : Nat) (l1 : Int32) (l2 : Int32) (M : zM) : Prop := (zHasC 70 117 l0 M 89 1) ∧ ((p89_0 n l0 l1 M) ∧ (p70_5 n  l0 l1 l2 (b89_0 n l0 l1 M).1 (b89_0 n l0 l1 M).2))
theorem s70_0 (n : Nat)    (l0 : Nat) (l1 : Int32) (l2 : Int32) (M : zM) (hp : p70_0 n  l0 l1 l2 M) {Q : Option Value → zM → Prop} (hQ : ∀ r M1, zRX (b70_0 n  l0 l1 l2 M) r M1 → Q r M1) : zWP 70 0 [some (.ref l0), some (.int l1), some (.int l2), none] [] M Q := by
  unfold b70_0 at hQ
  unfold p70_0 at hp
  refine wp_go 2 (pc' := 2) (L' := [some (.ref l0), some (.int l1), some (.int l2), none]) (st' := [.int l1, .ref l0]) (M' := M) rfl ?_
  obtain ⟨hv, hp⟩ := hp
  obtain ⟨hc, hp⟩ := hp
  refine wp_calli (v := (b89_0 n l0 l1 M).1) (M1 := (b89_0 n l0 l1 M).2) rfl rfl rfl (zInv_v (np := 1) rfl rfl hv rfl) (s89_0 n l0 l1 M hc (fun r M1 h => h)) ?_
  exact s70_5 n    l0 l1 l2 (b89_0 n l0 l1 M).1 (b89_0 n l0 l1 M).2 hp hQ
/-! X11_edge -/
def b71_95 (n : Nat)  (s0 : Int32) (M : zM) : Int32 × Nat × zM := (s0, 0, M)
def p71_95 (n : Nat)  (s0 : Int32) (M : zM) : Prop := True
theorem s71_95 (n : Nat)    (s0 : Int32) (M : zM) (hp : p71_95 n  s0 M) {Q : Option Value → zM → Prop} (hQ : ∀ r M1, zRX (b71_95 n  s0 M) r M1 → Q r M1) : zWP 71 95 [none, none, none, none, none] [.int s0] M Q := by
  unfold b71_95 at hQ
  unfold p71_95 at hp
  exact wp_ret (r := some (.int s0)) rfl rfl (hQ _ _ ⟨Or.inl ⟨rfl, rfl⟩, rfl⟩)
def b71_6 (n : Nat)  (l0 : Nat) (l1 : Int32) (l2 : Int32) (l3 : Int32) (s0 : Int32) (M : zM) : Int32 × Nat × zM := (if s0 = 0 then (0, 1, zThr M) else (if l3 = 0 then ((zI M (zQ M (zQ M (zQ M l0 0) l1.toNatClampNeg) 1) l2.toNatClampNeg), 0, M) else if l3 = 1 then ((zI M (zQ M (zQ M (zQ M l0 0) l1.toNatClampNeg) 2) l2.toNatClampNeg), 0, M) else if l3 = 2 then (if (zI M (zQ M (zQ M (zQ M l0 0) l1.toNatClampNeg) 5) l2.toNatClampNeg) = 0 then b71_95 n  (0 : Int32) M else b71_95 n  (1 : Int32) M) else if l3 = 3 then ((zI M (zQ M (zQ M (zQ M l0 0) l1.toNatClampNeg) 3) l2.toNatClampNeg), 0, M) else if l3 = 4 then ((zI M (zQ M (zQ M (zQ M l0 0) l1.toNatClampNeg) 4) l2.toNatClampNeg), 0, M) else (0, 2, zThr M)))
def p71_6 (n : Nat)  (l0 : Nat) (l1 : Int32) (l2 : Int32) (l3 : Int32) (s0 : Int32) (M : zM) : Prop := ((s0 = 0 → True) ∧ (¬ s0 = 0 → (zHasQ 9 11 l0 M 0) ∧ ((zOkR (zQ M l0 0) l1 M) ∧ (((l3 = 0 → (zHasQ 9 218 (zQ M (zQ M l0 0) l1.toNatClampNeg) M 1) ∧ ((zOkI (zQ M (zQ M (zQ M l0 0) l1.toNatClampNeg) 1) l2 M) ∧ (True))) ∧ (¬ l3 = 0 → (l3 = 1 → (zHasQ 9 221 (zQ M (zQ M l0 0) l1.toNatClampNeg) M 2) ∧ ((zOkI (zQ M (zQ M (zQ M l0 0) l1.toNatClampNeg) 2) l2 M) ∧ (True))) ∧ (¬ l3 = 1 → (l3 = 2 → (zHasQ 9 224 (zQ M (zQ M l0 0) l1.toNatClampNeg) M 5) ∧ ((zOkT 2 (zQ M (zQ M (zQ M l0 0) l1.toNatClampNeg) 5) l2 M) ∧ ((((zI M (zQ M (zQ M (zQ M l0 0) l1.toNatClampNeg) 5) l2.toNatClampNeg) = 0 → p71_95 n  (0 : Int32) M) ∧ (¬ (zI M (zQ M (zQ M (zQ M l0 0) l1.toNatClampNeg) 5) l2.toNatClampNeg) = 0 → p71_95 n  (1 : Int32) M))))) ∧ (¬ l3 = 2 → (l3 = 3 → (zHasQ 9 162 (zQ M (zQ M l0 0) l1.toNatClampNeg) M 3) ∧ ((zOkI (zQ M (zQ M (zQ M l0 0) l1.toNatClampNeg) 3) l2 M) ∧ (True))) ∧ (¬ l3 = 3 → (l3 = 4 → (zHasQ 9 228 (zQ M (zQ M l0 0) l1.toNatClampNeg) M 4) ∧ ((zOkI (zQ M (zQ M (zQ M l0 0) l1.toNatClampNeg) 4) l2 M) ∧ (True))) ∧ (¬ l3 = 4 → True))))))))))
theorem s71_6 (n : Nat)    (l0 : Nat) (l1 : Int32) (l2 : Int32) (l3 : Int32) (s0 : Int32) (M : zM) (hp : p71_6 n  l0 l1 l2 l3 s0 M) {Q : Option Value → zM → Prop} (hQ : ∀ r M1, zRX (b71_6 n  l0 l1 l2 l3 s0 M) r M1 → Q r M1) : zWP 71 6 [some (.ref l0), some (.int l1), some (.int l2), some (.int l3), none] [.int s0] M Q := by
  unfold b71_6 at hQ
  unfold p71_6 at hp
  refine wp_if_ne (t := 19) rfl rfl (fun hc => ?_) (fun hc => ?_)
  · rw [if_neg hc] at hQ
    replace hp := hp.2 hc
    refine wp_go 1 (pc' := 20) (L' := [some (.ref l0), some (.int l1), some (.int l2), some (.int l3), none]) (st' := [.ref l0]) (M' := M) rfl ?_
    obtain ⟨hc, hp⟩ := hp
    refine wq_getQ (j := 0) rfl hc ?_
    refine wp_go 1 (pc' := 24) (L' := [some (.ref l0), some (.int l1), some (.int l2), some (.int l3), none]) (st' := [.int l1, .ref (zQ M l0 0)]) (M' := M) rfl ?_
    obtain ⟨hc, hp⟩ := hp
    refine wq_aald rfl hc ?_
    refine wp_go 2 (pc' := 28) (L' := [some (.ref l0), some (.int l1), some (.int l2), some (.int l3), some (.ref (zQ M (zQ M l0 0) l1.toNatClampNeg))]) (st' := [.int l3]) (M' := M) rfl ?_
    by_cases hc0 : l3 = 0
    · rw [if_pos hc0] at hQ
      replace hp := hp.1 hc0
      refine wp_tabI rfl hc0 (t := 64) rfl ?_
      refine wp_go 1 (pc' := 66) (L' := [some (.ref l0), some (.int l1), some (.int l2), some (.int l3), some (.ref (zQ M (zQ M l0 0) l1.toNatClampNeg))]) (st' := [.ref (zQ M (zQ M l0 0) l1.toNatClampNeg)]) (M' := M) rfl ?_
      obtain ⟨hc, hp⟩ := hp
      refine wq_getQ (j := 1) rfl hc ?_
      refine wp_go 1 (pc' := 70) (L' := [some (.ref l0), some (.int l1), some (.int l2), some (.int l3), some (.ref (zQ M (zQ M l0 0) l1.toNatClampNeg))]) (st' := [.int l2, .ref (zQ M (zQ M (zQ M l0 0) l1.toNatClampNeg) 1)]) (M' := M) rfl ?_
      obtain ⟨hc, hp⟩ := hp
      refine wq_iald rfl hc ?_
      exact wp_ret (r := some (.int (zI M (zQ M (zQ M (zQ M l0 0) l1.toNatClampNeg) 1) l2.toNatClampNeg))) rfl rfl (hQ _ _ ⟨Or.inl ⟨rfl, rfl⟩, rfl⟩)
    rw [if_neg hc0] at hQ
    replace hp := hp.2 hc0
    by_cases hc1 : l3 = 1
    · rw [if_pos hc1] at hQ
      replace hp := hp.1 hc1
      refine wp_tabI rfl hc1 (t := 72) rfl ?_
      refine wp_go 1 (pc' := 74) (L' := [some (.ref l0), some (.int l1), some (.int l2), some (.int l3), some (.ref (zQ M (zQ M l0 0) l1.toNatClampNeg))]) (st' := [.ref (zQ M (zQ M l0 0) l1.toNatClampNeg)]) (M' := M) rfl ?_
      obtain ⟨hc, hp⟩ := hp
      refine wq_getQ (j := 2) rfl hc ?_
      refine wp_go 1 (pc' := 78) (L' := [some (.ref l0), some (.int l1), some (.int l2), some (.int l3), some (.ref (zQ M (zQ M l0 0) l1.toNatClampNeg))]) (st' := [.int l2, .ref (zQ M (zQ M (zQ M l0 0) l1.toNatClampNeg) 2)]) (M' := M) rfl ?_
      obtain ⟨hc, hp⟩ := hp
      refine wq_iald rfl hc ?_
      exact wp_ret (r := some (.int (zI M (zQ M (zQ M (zQ M l0 0) l1.toNatClampNeg) 2) l2.toNatClampNeg))) rfl rfl (hQ _ _ ⟨Or.inl ⟨rfl, rfl⟩, rfl⟩)
    rw [if_neg hc1] at hQ
    replace hp := hp.2 hc1
    by_cases hc2 : l3 = 2
    · rw [if_pos hc2] at hQ
      replace hp := hp.1 hc2
      refine wp_tabI rfl hc2 (t := 80) rfl ?_
      refine wp_go 1 (pc' := 82) (L' := [some (.ref l0), some (.int l1), some (.int l2), some (.int l3), some (.ref (zQ M (zQ M l0 0) l1.toNatClampNeg))]) (st' := [.ref (zQ M (zQ M l0 0) l1.toNatClampNeg)]) (M' := M) rfl ?_
      obtain ⟨hc, hp⟩ := hp
      refine wq_getQ (j := 5) rfl hc ?_
      refine wp_go 1 (pc' := 86) (L' := [some (.ref l0), some (.int l1), some (.int l2), some (.int l3), some (.ref (zQ M (zQ M l0 0) l1.toNatClampNeg))]) (st' := [.int l2, .ref (zQ M (zQ M (zQ M l0 0) l1.toNatClampNeg) 5)]) (M' := M) rfl ?_
      obtain ⟨hc, hp⟩ := hp
      refine wq_zald rfl hc ?_
      refine wp_if_eq (t := 94) rfl rfl (fun hc => ?_) (fun hc => ?_)
      · rw [if_pos hc] at hQ
        replace hp := hp.1 hc
        refine wp_go 1 (pc' := 95) (L' := [some (.ref l0), some (.int l1), some (.int l2), some (.int l3), some (.ref (zQ M (zQ M l0 0) l1.toNatClampNeg))]) (st' := [.int (0 : Int32)]) (M' := M) rfl ?_
        refine wp_le [none, none, none, none, none] (zLe_of (by simp [zLeB])) ?_
        exact s71_95 n    (0 : Int32) M hp hQ
      · rw [if_neg hc] at hQ
        replace hp := hp.2 hc
        refine wp_go 2 (pc' := 95) (L' := [some (.ref l0), some (.int l1), some (.int l2), some (.int l3), some (.ref (zQ M (zQ M l0 0) l1.toNatClampNeg))]) (st' := [.int (1 : Int32)]) (M' := M) rfl ?_
        refine wp_le [none, none, none, none, none] (zLe_of (by simp [zLeB])) ?_
        exact s71_95 n    (1 : Int32) M hp hQ
    rw [if_neg hc2] at hQ
    replace hp := hp.2 hc2
    by_cases hc3 : l3 = 3
    · rw [if_pos hc3] at hQ
      replace hp := hp.1 hc3
      refine wp_tabI rfl hc3 (t := 96) rfl ?_
      refine wp_go 1 (pc' := 98) (L' := [some (.ref l0), some (.int l1), some (.int l2), some (.int l3), some (.ref (zQ M (zQ M l0 0) l1.toNatClampNeg))]) (st' := [.ref (zQ M (zQ M l0 0) l1.toNatClampNeg)]) (M' := M) rfl ?_
      obtain ⟨hc, hp⟩ := hp
      refine wq_getQ (j := 3) rfl hc ?_
      refine wp_go 1 (pc' := 102) (L' := [some (.ref l0), some (.int l1), some (.int l2), some (.int l3), some (.ref (zQ M (zQ M l0 0) l1.toNatClampNeg))]) (st' := [.int l2, .ref (zQ M (zQ M (zQ M l0 0) l1.toNatClampNeg) 3)]) (M' := M) rfl ?_
      obtain ⟨hc, hp⟩ := hp
      refine wq_iald rfl hc ?_
      exact wp_ret (r := some (.int (zI M (zQ M (zQ M (zQ M l0 0) l1.toNatClampNeg) 3) l2.toNatClampNeg))) rfl rfl (hQ _ _ ⟨Or.inl ⟨rfl, rfl⟩, rfl⟩)
    rw [if_neg hc3] at hQ
    replace hp := hp.2 hc3
    by_cases hc4 : l3 = 4
    · rw [if_pos hc4] at hQ
      replace hp := hp.1 hc4
      refine wp_tabI rfl hc4 (t := 104) rfl ?_
      refine wp_go 1 (pc' := 106) (L' := [some (.ref l0), some (.int l1), some (.int l2), some (.int l3), some (.ref (zQ M (zQ M l0 0) l1.toNatClampNeg))]) (st' := [.ref (zQ M (zQ M l0 0) l1.toNatClampNeg)]) (M' := M) rfl ?_
      obtain ⟨hc, hp⟩ := hp
      refine wq_getQ (j := 4) rfl hc ?_
      refine wp_go 1 (pc' := 110) (L' := [some (.ref l0), some (.int l1), some (.int l2), some (.int l3), some (.ref (zQ M (zQ M l0 0) l1.toNatClampNeg))]) (st' := [.int l2, .ref (zQ M (zQ M (zQ M l0 0) l1.toNatClampNeg) 4)]) (M' := M) rfl ?_
      obtain ⟨hc, hp⟩ := hp
      refine wq_iald rfl hc ?_
      exact wp_ret (r := some (.int (zI M (zQ M (zQ M (zQ M l0 0) l1.toNatClampNeg) 4) l2.toNatClampNeg))) rfl rfl (hQ _ _ ⟨Or.inl ⟨rfl, rfl⟩, rfl⟩)
    rw [if_neg hc4] at hQ
    replace hp := hp.2 hc4
    refine wp_tabO (t := 112) rfl (by have e0 : ¬ (l3).toInt = 0 := fun h => hc0 (Int32.toInt_inj.mp h); have e1 : ¬ (l3).toInt = 1 := fun h => hc1 (Int32.toInt_inj.mp h); have e2 : ¬ (l3).toInt = 2 := fun h => hc2 (Int32.toInt_inj.mp h); have e3 : ¬ (l3).toInt = 3 := fun h => hc3 (Int32.toInt_inj.mp h); have e4 : ¬ (l3).toInt = 4 := fun h => hc4 (Int32.toInt_inj.mp h); omega) rfl ?_
    exact wp_thw (q := 2) rfl rfl rfl (hQ _ _ ⟨Or.inr ⟨(show ¬ (2 : Nat) = 0 by decide), rfl⟩, rfl⟩)
  · rw [if_pos hc] at hQ
    replace hp := hp.1 hc
    exact wp_thw (q := 1) rfl rfl rfl (hQ _ _ ⟨Or.inr ⟨(show ¬ (1 : Nat) = 0 by decide), rfl⟩, rfl⟩)
def b71_0 (n : Nat)  (l0 : Nat) (l1 : Int32) (l2 : Int32) (l3 : Int32) (M : zM) : Int32 × Nat × zM := b71_6 n  l0 l1 l2 l3 (b90_0 n l0 l1 l2 M).1 (b90_0 n l0 l1 l2 M).2
def p71_0 (n : Nat)  (l0 : Nat) (l1 : Int32) (l2 : Int32) (l3 : Int32) (M : zM) : Prop := (zHasC 71 213 l0 M 90 2) ∧ ((p90_0 n l0 l1 l2 M) ∧ (p71_6 n  l0 l1 l2 l3 (b90_0 n l0 l1 l2 M).1 (b90_0 n l0 l1 l2 M).2))
theorem s71_0 (n : Nat)    (l0 : Nat) (l1 : Int32) (l2 : Int32) (l3 : Int32) (M : zM) (hp : p71_0 n  l0 l1 l2 l3 M) {Q : Option Value → zM → Prop} (hQ : ∀ r M1, zRX (b71_0 n  l0 l1 l2 l3 M) r M1 → Q r M1) : zWP 71 0 [some (.ref l0), some (.int l1), some (.int l2), some (.int l3), none] [] M Q := by
  unfold b71_0 at hQ
  unfold p71_0 at hp
  refine wp_go 3 (pc' := 3) (L' := [some (.ref l0), some (.int l1), some (.int l2), some (.int l3), none]) (st' := [.int l2, .int l1, .ref l0]) (M' := M) rfl ?_
  obtain ⟨hv, hp⟩ := hp
  obtain ⟨hc, hp⟩ := hp
  refine wp_calli (v := (b90_0 n l0 l1 l2 M).1) (M1 := (b90_0 n l0 l1 l2 M).2) rfl rfl rfl (zInv_v (np := 2) rfl rfl hv rfl) (s90_0 n l0 l1 l2 M hc (fun r M1 h => h)) ?_
  exact s71_6 n    l0 l1 l2 l3 (b90_0 n l0 l1 l2 M).1 (b90_0 n l0 l1 l2 M).2 hp hQ
/-! X11_walkTurns -/
def b101_123 (n : Nat) (k29 : Nat → Nat → Int32 → Nat → Int32 → Nat → Int32 → Int32 → Int32 → Int32 → Int32 → zM → Int32 × zM) (l0 : Nat) (l1 : Nat) (l2 : Int32) (l3 : Nat) (l4 : Int32) (l5 : Nat) (l6 : Int32) (l7 : Int32) (l8 : Int32) (l9 : Int32) (l10 : Int32) (M : zM) : Int32 × zM := k29 l0 l1 l2 l3 l4 l5 l6 l7 l8 l9 (l10 + Int32.ofInt 1) M
def p101_123 (n : Nat) (q29 : Nat → Nat → Int32 → Nat → Int32 → Nat → Int32 → Int32 → Int32 → Int32 → Int32 → zM → Prop) (l0 : Nat) (l1 : Nat) (l2 : Int32) (l3 : Nat) (l4 : Int32) (l5 : Nat) (l6 : Int32) (l7 : Int32) (l8 : Int32) (l9 : Int32) (l10 : Int32) (M : zM) : Prop := q29 l0 l1 l2 l3 l4 l5 l6 l7 l8 l9 (l10 + Int32.ofInt 1) M
theorem s101_123 (n : Nat) (k29 : Nat → Nat → Int32 → Nat → Int32 → Nat → Int32 → Int32 → Int32 → Int32 → Int32 → zM → Int32 × zM) (q29 : Nat → Nat → Int32 → Nat → Int32 → Nat → Int32 → Int32 → Int32 → Int32 → Int32 → zM → Prop) (h29 : ∀ (l0 : Nat) (l1 : Nat) (l2 : Int32) (l3 : Nat) (l4 : Int32) (l5 : Nat) (l6 : Int32) (l7 : Int32) (l8 : Int32) (l9 : Int32) (l10 : Int32) (M : zM), q29 l0 l1 l2 l3 l4 l5 l6 l7 l8 l9 l10 M → ∀ {Q : Option Value → zM → Prop}, (∀ r M1, zRI (k29 l0 l1 l2 l3 l4 l5 l6 l7 l8 l9 l10 M) r M1 → Q r M1) → zWP 101 29 [some (.ref l0), some (.ref l1), some (.int l2), some (.ref l3), some (.int l4), some (.ref l5), some (.int l6), some (.int l7), some (.int l8), some (.int l9), some (.int l10), none] [] M Q) (l0 : Nat) (l1 : Nat) (l2 : Int32) (l3 : Nat) (l4 : Int32) (l5 : Nat) (l6 : Int32) (l7 : Int32) (l8 : Int32) (l9 : Int32) (l10 : Int32) (M : zM) (hp : p101_123 n q29 l0 l1 l2 l3 l4 l5 l6 l7 l8 l9 l10 M) {Q : Option Value → zM → Prop} (hQ : ∀ r M1, zRI (b101_123 n k29 l0 l1 l2 l3 l4 l5 l6 l7 l8 l9 l10 M) r M1 → Q r M1) : zWP 101 123 [some (.ref l0), some (.ref l1), some (.int l2), some (.ref l3), some (.int l4), some (.ref l5), some (.int l6), some (.int l7), some (.int l8), some (.int l9), some (.int l10), none] [] M Q := by
  unfold b101_123 at hQ
  unfold p101_123 at hp
  refine wp_go 2 (pc' := 29) (L' := [some (.ref l0), some (.ref l1), some (.int l2), some (.ref l3), some (.int l4), some (.ref l5), some (.int l6), some (.int l7), some (.int l8), some (.int l9), some (.int (l10 + Int32.ofInt 1)), none]) (st' := []) (M' := M) rfl ?_
  exact h29 l0 l1 l2 l3 l4 l5 l6 l7 l8 l9 (l10 + Int32.ofInt 1) M hp hQ
def b101_120 (n : Nat) (k29 : Nat → Nat → Int32 → Nat → Int32 → Nat → Int32 → Int32 → Int32 → Int32 → Int32 → zM → Int32 × zM) (l0 : Nat) (l1 : Nat) (l2 : Int32) (l3 : Nat) (l4 : Int32) (l5 : Nat) (l6 : Int32) (l7 : Int32) (l8 : Int32) (l9 : Int32) (l10 : Int32) (M : zM) : Int32 × zM := b101_123 n k29 l0 l1 l2 l3 l4 l5 l6 l7 l8 (l9 + Int32.ofInt 1) l10 M
def p101_120 (n : Nat) (q29 : Nat → Nat → Int32 → Nat → Int32 → Nat → Int32 → Int32 → Int32 → Int32 → Int32 → zM → Prop) (l0 : Nat) (l1 : Nat) (l2 : Int32) (l3 : Nat) (l4 : Int32) (l5 : Nat) (l6 : Int32) (l7 : Int32) (l8 : Int32) (l9 : Int32) (l10 : Int32) (M : zM) : Prop := p101_123 n q29 l0 l1 l2 l3 l4 l5 l6 l7 l8 (l9 + Int32.ofInt 1) l10 M
theorem s101_120 (n : Nat) (k29 : Nat → Nat → Int32 → Nat → Int32 → Nat → Int32 → Int32 → Int32 → Int32 → Int32 → zM → Int32 × zM) (q29 : Nat → Nat → Int32 → Nat → Int32 → Nat → Int32 → Int32 → Int32 → Int32 → Int32 → zM → Prop) (h29 : ∀ (l0 : Nat) (l1 : Nat) (l2 : Int32) (l3 : Nat) (l4 : Int32) (l5 : Nat) (l6 : Int32) (l7 : Int32) (l8 : Int32) (l9 : Int32) (l10 : Int32) (M : zM), q29 l0 l1 l2 l3 l4 l5 l6 l7 l8 l9 l10 M → ∀ {Q : Option Value → zM → Prop}, (∀ r M1, zRI (k29 l0 l1 l2 l3 l4 l5 l6 l7 l8 l9 l10 M) r M1 → Q r M1) → zWP 101 29 [some (.ref l0), some (.ref l1), some (.int l2), some (.ref l3), some (.int l4), some (.ref l5), some (.int l6), some (.int l7), some (.int l8), some (.int l9), some (.int l10), none] [] M Q) (l0 : Nat) (l1 : Nat) (l2 : Int32) (l3 : Nat) (l4 : Int32) (l5 : Nat) (l6 : Int32) (l7 : Int32) (l8 : Int32) (l9 : Int32) (l10 : Int32) (M : zM) (hp : p101_120 n q29 l0 l1 l2 l3 l4 l5 l6 l7 l8 l9 l10 M) {Q : Option Value → zM → Prop} (hQ : ∀ r M1, zRI (b101_120 n k29 l0 l1 l2 l3 l4 l5 l6 l7 l8 l9 l10 M) r M1 → Q r M1) : zWP 101 120 [some (.ref l0), some (.ref l1), some (.int l2), some (.ref l3), some (.int l4), some (.ref l5), some (.int l6), some (.int l7), some (.int l8), some (.int l9), some (.int l10), none] [] M Q := by
  unfold b101_120 at hQ
  unfold p101_120 at hp
  refine wp_go 1 (pc' := 123) (L' := [some (.ref l0), some (.ref l1), some (.int l2), some (.ref l3), some (.int l4), some (.ref l5), some (.int l6), some (.int l7), some (.int l8), some (.int (l9 + Int32.ofInt 1)), some (.int l10), none]) (st' := []) (M' := M) rfl ?_
  exact s101_123 n k29 q29 h29 l0 l1 l2 l3 l4 l5 l6 l7 l8 (l9 + Int32.ofInt 1) l10 M hp hQ
def b101_106 (n : Nat) (k29 : Nat → Nat → Int32 → Nat → Int32 → Nat → Int32 → Int32 → Int32 → Int32 → Int32 → zM → Int32 × zM) (l0 : Nat) (l1 : Nat) (l2 : Int32) (l3 : Nat) (l4 : Int32) (l5 : Nat) (l6 : Int32) (l7 : Int32) (l8 : Int32) (l9 : Int32) (l10 : Int32) (s0 : Int32) (M : zM) : Int32 × zM := (if s0 = 0 then b101_123 n k29 l0 l1 l2 l3 l4 l5 l6 l7 l8 l9 l10 M else b101_120 n k29 l0 l1 l2 l3 l4 l5 l6 l7 l8 l9 l10 (if zS M l5 = (0, 0) then (b2_0 n l5 (zQ M l0 8) M) else (b60_0 n l5 (zQ M l0 8) M)))
def p101_106 (n : Nat) (q29 : Nat → Nat → Int32 → Nat → Int32 → Nat → Int32 → Int32 → Int32 → Int32 → Int32 → zM → Prop) (l0 : Nat) (l1 : Nat) (l2 : Int32) (l3 : Nat) (l4 : Int32) (l5 : Nat) (l6 : Int32) (l7 : Int32) (l8 : Int32) (l9 : Int32) (l10 : Int32) (s0 : Int32) (M : zM) : Prop := ((s0 = 0 → p101_123 n q29 l0 l1 l2 l3 l4 l5 l6 l7 l8 l9 l10 M) ∧ (¬ s0 = 0 → (zHasQ 9 61 l0 M 8) ∧ (((zHasF 101 414 l5 M 0 2 1 ∧ p2_0 n l5 (zQ M l0 8) M) ∨ (¬ zS M l5 = (0, 0) ∧ zHasF 101 414 l5 M 8 60 1 ∧ p60_0 n l5 (zQ M l0 8) M)) ∧ (p101_120 n q29 l0 l1 l2 l3 l4 l5 l6 l7 l8 l9 l10 (if zS M l5 = (0, 0) then (b2_0 n l5 (zQ M l0 8) M) else (b60_0 n l5 (zQ M l0 8) M))))))
theorem s101_106 (n : Nat) (k29 : Nat → Nat → Int32 → Nat → Int32 → Nat → Int32 → Int32 → Int32 → Int32 → Int32 → zM → Int32 × zM) (q29 : Nat → Nat → Int32 → Nat → Int32 → Nat → Int32 → Int32 → Int32 → Int32 → Int32 → zM → Prop) (h29 : ∀ (l0 : Nat) (l1 : Nat) (l2 : Int32) (l3 : Nat) (l4 : Int32) (l5 : Nat) (l6 : Int32) (l7 : Int32) (l8 : Int32) (l9 : Int32) (l10 : Int32) (M : zM), q29 l0 l1 l2 l3 l4 l5 l6 l7 l8 l9 l10 M → ∀ {Q : Option Value → zM → Prop}, (∀ r M1, zRI (k29 l0 l1 l2 l3 l4 l5 l6 l7 l8 l9 l10 M) r M1 → Q r M1) → zWP 101 29 [some (.ref l0), some (.ref l1), some (.int l2), some (.ref l3), some (.int l4), some (.ref l5), some (.int l6), some (.int l7), some (.int l8), some (.int l9), some (.int l10), none] [] M Q) (l0 : Nat) (l1 : Nat) (l2 : Int32) (l3 : Nat) (l4 : Int32) (l5 : Nat) (l6 : Int32) (l7 : Int32) (l8 : Int32) (l9 : Int32) (l10 : Int32) (s0 : Int32) (M : zM) (hp : p101_106 n q29 l0 l1 l2 l3 l4 l5 l6 l7 l8 l9 l10 s0 M) {Q : Option Value → zM → Prop} (hQ : ∀ r M1, zRI (b101_106 n k29 l0 l1 l2 l3 l4 l5 l6 l7 l8 l9 l10 s0 M) r M1 → Q r M1) : zWP 101 106 [some (.ref l0), some (.ref l1), some (.int l2), some (.ref l3), some (.int l4), some (.ref l5), some (.int l6), some (.int l7), some (.int l8), some (.int l9), some (.int l10), none] [.int s0] M Q := by
  unfold b101_106 at hQ
  unfold p101_106 at hp
  refine wp_if_eq (t := 123) rfl rfl (fun hc => ?_) (fun hc => ?_)
  · rw [if_pos hc] at hQ
    replace hp := hp.1 hc
    exact s101_123 n k29 q29 h29 l0 l1 l2 l3 l4 l5 l6 l7 l8 l9 l10 M hp hQ
  · rw [if_neg hc] at hQ
    replace hp := hp.2 hc
    refine wp_go 2 (pc' := 112) (L' := [some (.ref l0), some (.ref l1), some (.int l2), some (.ref l3), some (.int l4), some (.ref l5), some (.int l6), some (.int l7), some (.int l8), some (.int l9), some (.int l10), none]) (st' := [.ref l0, .ref l5]) (M' := M) rfl ?_
    obtain ⟨hc, hp⟩ := hp
    refine wq_getQ (j := 8) rfl hc ?_
    obtain ⟨hc, hp⟩ := hp
    rcases hc with ⟨hv, hc⟩ | ⟨h0, hv, hc⟩
    · rw [if_pos hv.1] at hp hQ
      refine wp_callv (M1 := (b2_0 n l5 (zQ M l0 8) M)) rfl rfl rfl (zInv_f (np := 1) rfl rfl hv rfl) (s2_0 n l5 (zQ M l0 8) M hc (fun r M1 h => h)) ?_
      exact s101_120 n k29 q29 h29 l0 l1 l2 l3 l4 l5 l6 l7 l8 l9 l10 (b2_0 n l5 (zQ M l0 8) M) hp hQ
    · rw [if_neg h0] at hp hQ
      refine wp_callv (M1 := (b60_0 n l5 (zQ M l0 8) M)) rfl rfl rfl (zInv_f (np := 1) rfl rfl hv rfl) (s60_0 n l5 (zQ M l0 8) M hc (fun r M1 h => h)) ?_
      exact s101_120 n k29 q29 h29 l0 l1 l2 l3 l4 l5 l6 l7 l8 l9 l10 (b60_0 n l5 (zQ M l0 8) M) hp hQ
def b101_98 (n : Nat) (k29 : Nat → Nat → Int32 → Nat → Int32 → Nat → Int32 → Int32 → Int32 → Int32 → Int32 → zM → Int32 × zM) (l0 : Nat) (l1 : Nat) (l2 : Int32) (l3 : Nat) (l4 : Int32) (l5 : Nat) (l6 : Int32) (l7 : Int32) (l8 : Int32) (l9 : Int32) (l10 : Int32) (M : zM) : Int32 × zM := b101_106 n k29 l0 l1 l2 l3 l4 l5 l6 l7 l8 l9 l10 (b99_0 n l0 (zQ M l0 8) M).1 (b99_0 n l0 (zQ M l0 8) M).2
def p101_98 (n : Nat) (q29 : Nat → Nat → Int32 → Nat → Int32 → Nat → Int32 → Int32 → Int32 → Int32 → Int32 → zM → Prop) (l0 : Nat) (l1 : Nat) (l2 : Int32) (l3 : Nat) (l4 : Int32) (l5 : Nat) (l6 : Int32) (l7 : Int32) (l8 : Int32) (l9 : Int32) (l10 : Int32) (M : zM) : Prop := (zHasQ 9 61 l0 M 8) ∧ ((zHasC 101 295 l0 M 99 1) ∧ ((p99_0 n l0 (zQ M l0 8) M) ∧ (p101_106 n q29 l0 l1 l2 l3 l4 l5 l6 l7 l8 l9 l10 (b99_0 n l0 (zQ M l0 8) M).1 (b99_0 n l0 (zQ M l0 8) M).2)))
theorem s101_98 (n : Nat) (k29 : Nat → Nat → Int32 → Nat → Int32 → Nat → Int32 → Int32 → Int32 → Int32 → Int32 → zM → Int32 × zM) (q29 : Nat → Nat → Int32 → Nat → Int32 → Nat → Int32 → Int32 → Int32 → Int32 → Int32 → zM → Prop) (h29 : ∀ (l0 : Nat) (l1 : Nat) (l2 : Int32) (l3 : Nat) (l4 : Int32) (l5 : Nat) (l6 : Int32) (l7 : Int32) (l8 : Int32) (l9 : Int32) (l10 : Int32) (M : zM), q29 l0 l1 l2 l3 l4 l5 l6 l7 l8 l9 l10 M → ∀ {Q : Option Value → zM → Prop}, (∀ r M1, zRI (k29 l0 l1 l2 l3 l4 l5 l6 l7 l8 l9 l10 M) r M1 → Q r M1) → zWP 101 29 [some (.ref l0), some (.ref l1), some (.int l2), some (.ref l3), some (.int l4), some (.ref l5), some (.int l6), some (.int l7), some (.int l8), some (.int l9), some (.int l10), none] [] M Q) (l0 : Nat) (l1 : Nat) (l2 : Int32) (l3 : Nat) (l4 : Int32) (l5 : Nat) (l6 : Int32) (l7 : Int32) (l8 : Int32) (l9 : Int32) (l10 : Int32) (M : zM) (hp : p101_98 n q29 l0 l1 l2 l3 l4 l5 l6 l7 l8 l9 l10 M) {Q : Option Value → zM → Prop} (hQ : ∀ r M1, zRI (b101_98 n k29 l0 l1 l2 l3 l4 l5 l6 l7 l8 l9 l10 M) r M1 → Q r M1) : zWP 101 98 [some (.ref l0), some (.ref l1), some (.int l2), some (.ref l3), some (.int l4), some (.ref l5), some (.int l6), some (.int l7), some (.int l8), some (.int l9), some (.int l10), none] [] M Q := by
  unfold b101_98 at hQ
  unfold p101_98 at hp
  refine wp_go 2 (pc' := 100) (L' := [some (.ref l0), some (.ref l1), some (.int l2), some (.ref l3), some (.int l4), some (.ref l5), some (.int l6), some (.int l7), some (.int l8), some (.int l9), some (.int l10), none]) (st' := [.ref l0, .ref l0]) (M' := M) rfl ?_
  obtain ⟨hc, hp⟩ := hp
  refine wq_getQ (j := 8) rfl hc ?_
  obtain ⟨hv, hp⟩ := hp
  obtain ⟨hc, hp⟩ := hp
  refine wp_calli (v := (b99_0 n l0 (zQ M l0 8) M).1) (M1 := (b99_0 n l0 (zQ M l0 8) M).2) rfl rfl rfl (zInv_v (np := 1) rfl rfl hv rfl) (s99_0 n l0 (zQ M l0 8) M hc (fun r M1 h => h)) ?_
  exact s101_106 n k29 q29 h29 l0 l1 l2 l3 l4 l5 l6 l7 l8 l9 l10 (b99_0 n l0 (zQ M l0 8) M).1 (b99_0 n l0 (zQ M l0 8) M).2 hp hQ
def b101_76 (n : Nat) (k29 : Nat → Nat → Int32 → Nat → Int32 → Nat → Int32 → Int32 → Int32 → Int32 → Int32 → zM → Int32 × zM) (l0 : Nat) (l1 : Nat) (l2 : Int32) (l3 : Nat) (l4 : Int32) (l5 : Nat) (l6 : Int32) (l7 : Int32) (l8 : Int32) (l9 : Int32) (l10 : Int32) (s0 : Int32) (M : zM) : Int32 × zM := (if s0 ≤ l8 then b101_98 n k29 l0 l1 l2 l3 l4 l5 l6 l7 l8 l9 l10 (b55_0 n (zQ M l0 8) l1 l2 l3 l4 l10 M) else b101_123 n k29 l0 l1 l2 l3 l4 l5 l6 l7 l8 l9 l10 M)
def p101_76 (n : Nat) (q29 : Nat → Nat → Int32 → Nat → Int32 → Nat → Int32 → Int32 → Int32 → Int32 → Int32 → zM → Prop) (l0 : Nat) (l1 : Nat) (l2 : Int32) (l3 : Nat) (l4 : Int32) (l5 : Nat) (l6 : Int32) (l7 : Int32) (l8 : Int32) (l9 : Int32) (l10 : Int32) (s0 : Int32) (M : zM) : Prop := ((s0 ≤ l8 → (zHasQ 9 61 l0 M 8) ∧ ((zHasC 101 386 (zQ M l0 8) M 55 5) ∧ ((p55_0 n (zQ M l0 8) l1 l2 l3 l4 l10 M) ∧ (p101_98 n q29 l0 l1 l2 l3 l4 l5 l6 l7 l8 l9 l10 (b55_0 n (zQ M l0 8) l1 l2 l3 l4 l10 M))))) ∧ (¬ s0 ≤ l8 → p101_123 n q29 l0 l1 l2 l3 l4 l5 l6 l7 l8 l9 l10 M))
theorem s101_76 (n : Nat) (k29 : Nat → Nat → Int32 → Nat → Int32 → Nat → Int32 → Int32 → Int32 → Int32 → Int32 → zM → Int32 × zM) (q29 : Nat → Nat → Int32 → Nat → Int32 → Nat → Int32 → Int32 → Int32 → Int32 → Int32 → zM → Prop) (h29 : ∀ (l0 : Nat) (l1 : Nat) (l2 : Int32) (l3 : Nat) (l4 : Int32) (l5 : Nat) (l6 : Int32) (l7 : Int32) (l8 : Int32) (l9 : Int32) (l10 : Int32) (M : zM), q29 l0 l1 l2 l3 l4 l5 l6 l7 l8 l9 l10 M → ∀ {Q : Option Value → zM → Prop}, (∀ r M1, zRI (k29 l0 l1 l2 l3 l4 l5 l6 l7 l8 l9 l10 M) r M1 → Q r M1) → zWP 101 29 [some (.ref l0), some (.ref l1), some (.int l2), some (.ref l3), some (.int l4), some (.ref l5), some (.int l6), some (.int l7), some (.int l8), some (.int l9), some (.int l10), none] [] M Q) (l0 : Nat) (l1 : Nat) (l2 : Int32) (l3 : Nat) (l4 : Int32) (l5 : Nat) (l6 : Int32) (l7 : Int32) (l8 : Int32) (l9 : Int32) (l10 : Int32) (s0 : Int32) (M : zM) (hp : p101_76 n q29 l0 l1 l2 l3 l4 l5 l6 l7 l8 l9 l10 s0 M) {Q : Option Value → zM → Prop} (hQ : ∀ r M1, zRI (b101_76 n k29 l0 l1 l2 l3 l4 l5 l6 l7 l8 l9 l10 s0 M) r M1 → Q r M1) : zWP 101 76 [some (.ref l0), some (.ref l1), some (.int l2), some (.ref l3), some (.int l4), some (.ref l5), some (.int l6), some (.int l7), some (.int l8), some (.int l9), some (.int l10), none] [.int s0] M Q := by
  unfold b101_76 at hQ
  unfold p101_76 at hp
  refine wp_go 1 (pc' := 78) (L' := [some (.ref l0), some (.ref l1), some (.int l2), some (.ref l3), some (.int l4), some (.ref l5), some (.int l6), some (.int l7), some (.int l8), some (.int l9), some (.int l10), none]) (st' := [.int l8, .int s0]) (M' := M) rfl ?_
  refine wp_ic_le (t := 84) rfl rfl (fun hc => ?_) (fun hc => ?_)
  · rw [if_pos hc] at hQ
    replace hp := hp.1 hc
    refine wp_go 1 (pc' := 85) (L' := [some (.ref l0), some (.ref l1), some (.int l2), some (.ref l3), some (.int l4), some (.ref l5), some (.int l6), some (.int l7), some (.int l8), some (.int l9), some (.int l10), none]) (st' := [.ref l0]) (M' := M) rfl ?_
    obtain ⟨hc, hp⟩ := hp
    refine wq_getQ (j := 8) rfl hc ?_
    refine wp_go 5 (pc' := 95) (L' := [some (.ref l0), some (.ref l1), some (.int l2), some (.ref l3), some (.int l4), some (.ref l5), some (.int l6), some (.int l7), some (.int l8), some (.int l9), some (.int l10), none]) (st' := [.int l10, .int l4, .ref l3, .int l2, .ref l1, .ref (zQ M l0 8)]) (M' := M) rfl ?_
    obtain ⟨hv, hp⟩ := hp
    obtain ⟨hc, hp⟩ := hp
    refine wp_callv (M1 := (b55_0 n (zQ M l0 8) l1 l2 l3 l4 l10 M)) rfl rfl rfl (zInv_v (np := 5) rfl rfl hv rfl) (s55_0 n (zQ M l0 8) l1 l2 l3 l4 l10 M hc (fun r M1 h => h)) ?_
    exact s101_98 n k29 q29 h29 l0 l1 l2 l3 l4 l5 l6 l7 l8 l9 l10 (b55_0 n (zQ M l0 8) l1 l2 l3 l4 l10 M) hp hQ
  · rw [if_neg hc] at hQ
    replace hp := hp.2 hc
    refine wp_go 1 (pc' := 123) (L' := [some (.ref l0), some (.ref l1), some (.int l2), some (.ref l3), some (.int l4), some (.ref l5), some (.int l6), some (.int l7), some (.int l8), some (.int l9), some (.int l10), none]) (st' := []) (M' := M) rfl ?_
    exact s101_123 n k29 q29 h29 l0 l1 l2 l3 l4 l5 l6 l7 l8 l9 l10 M hp hQ
def b101_72 (n : Nat) (k29 : Nat → Nat → Int32 → Nat → Int32 → Nat → Int32 → Int32 → Int32 → Int32 → Int32 → zM → Int32 × zM) (l0 : Nat) (l1 : Nat) (l2 : Int32) (l3 : Nat) (l4 : Int32) (l5 : Nat) (l6 : Int32) (l7 : Int32) (l8 : Int32) (l9 : Int32) (l10 : Int32) (s0 : Int32) (s1 : Int32) (M : zM) : Int32 × zM := b101_76 n k29 l0 l1 l2 l3 l4 l5 l6 l7 l8 l9 l10 (b190_0 n (s0 - s1) M).1 (b190_0 n (s0 - s1) M).2
def p101_72 (n : Nat) (q29 : Nat → Nat → Int32 → Nat → Int32 → Nat → Int32 → Int32 → Int32 → Int32 → Int32 → zM → Prop) (l0 : Nat) (l1 : Nat) (l2 : Int32) (l3 : Nat) (l4 : Int32) (l5 : Nat) (l6 : Int32) (l7 : Int32) (l8 : Int32) (l9 : Int32) (l10 : Int32) (s0 : Int32) (s1 : Int32) (M : zM) : Prop := (p190_0 n (s0 - s1) M) ∧ (p101_76 n q29 l0 l1 l2 l3 l4 l5 l6 l7 l8 l9 l10 (b190_0 n (s0 - s1) M).1 (b190_0 n (s0 - s1) M).2)
theorem s101_72 (n : Nat) (k29 : Nat → Nat → Int32 → Nat → Int32 → Nat → Int32 → Int32 → Int32 → Int32 → Int32 → zM → Int32 × zM) (q29 : Nat → Nat → Int32 → Nat → Int32 → Nat → Int32 → Int32 → Int32 → Int32 → Int32 → zM → Prop) (h29 : ∀ (l0 : Nat) (l1 : Nat) (l2 : Int32) (l3 : Nat) (l4 : Int32) (l5 : Nat) (l6 : Int32) (l7 : Int32) (l8 : Int32) (l9 : Int32) (l10 : Int32) (M : zM), q29 l0 l1 l2 l3 l4 l5 l6 l7 l8 l9 l10 M → ∀ {Q : Option Value → zM → Prop}, (∀ r M1, zRI (k29 l0 l1 l2 l3 l4 l5 l6 l7 l8 l9 l10 M) r M1 → Q r M1) → zWP 101 29 [some (.ref l0), some (.ref l1), some (.int l2), some (.ref l3), some (.int l4), some (.ref l5), some (.int l6), some (.int l7), some (.int l8), some (.int l9), some (.int l10), none] [] M Q) (l0 : Nat) (l1 : Nat) (l2 : Int32) (l3 : Nat) (l4 : Int32) (l5 : Nat) (l6 : Int32) (l7 : Int32) (l8 : Int32) (l9 : Int32) (l10 : Int32) (s0 : Int32) (s1 : Int32) (M : zM) (hp : p101_72 n q29 l0 l1 l2 l3 l4 l5 l6 l7 l8 l9 l10 s0 s1 M) {Q : Option Value → zM → Prop} (hQ : ∀ r M1, zRI (b101_72 n k29 l0 l1 l2 l3 l4 l5 l6 l7 l8 l9 l10 s0 s1 M) r M1 → Q r M1) : zWP 101 72 [some (.ref l0), some (.ref l1), some (.int l2), some (.ref l3), some (.int l4), some (.ref l5), some (.int l6), some (.int l7), some (.int l8), some (.int l9), some (.int l10), none] [.int s1, .int s0] M Q := by
  unfold b101_72 at hQ
  unfold p101_72 at hp
  refine wp_go 1 (pc' := 73) (L' := [some (.ref l0), some (.ref l1), some (.int l2), some (.ref l3), some (.int l4), some (.ref l5), some (.int l6), some (.int l7), some (.int l8), some (.int l9), some (.int l10), none]) (st' := [.int (s0 - s1)]) (M' := M) rfl ?_
  obtain ⟨hc, hp⟩ := hp
  refine wp_calli (v := (b190_0 n (s0 - s1) M).1) (M1 := (b190_0 n (s0 - s1) M).2) rfl rfl rfl rfl (s190_0 n (s0 - s1) M hc (fun r M1 h => h)) ?_
  exact s101_76 n k29 q29 h29 l0 l1 l2 l3 l4 l5 l6 l7 l8 l9 l10 (b190_0 n (s0 - s1) M).1 (b190_0 n (s0 - s1) M).2 hp hQ
def b101_57 (n : Nat) (k29 : Nat → Nat → Int32 → Nat → Int32 → Nat → Int32 → Int32 → Int32 → Int32 → Int32 → zM → Int32 × zM) (l0 : Nat) (l1 : Nat) (l2 : Int32) (l3 : Nat) (l4 : Int32) (l5 : Nat) (l6 : Int32) (l7 : Int32) (l8 : Int32) (l9 : Int32) (l10 : Int32) (l11 : Int32) (s0 : Int32) (M : zM) : Int32 × zM := (if l8 < s0 then b101_123 n k29 l0 l1 l2 l3 l4 l5 l6 l7 l8 l9 l10 M else b101_72 n k29 l0 l1 l2 l3 l4 l5 l6 l7 l8 l9 l10 l7 (b49_0 n l3 l4 l11 M).1 (b49_0 n l3 l4 l11 M).2)
def p101_57 (n : Nat) (q29 : Nat → Nat → Int32 → Nat → Int32 → Nat → Int32 → Int32 → Int32 → Int32 → Int32 → zM → Prop) (l0 : Nat) (l1 : Nat) (l2 : Int32) (l3 : Nat) (l4 : Int32) (l5 : Nat) (l6 : Int32) (l7 : Int32) (l8 : Int32) (l9 : Int32) (l10 : Int32) (l11 : Int32) (s0 : Int32) (M : zM) : Prop := ((l8 < s0 → p101_123 n q29 l0 l1 l2 l3 l4 l5 l6 l7 l8 l9 l10 M) ∧ (¬ l8 < s0 → (zHasC 101 407 l3 M 49 2) ∧ ((p49_0 n l3 l4 l11 M) ∧ (p101_72 n q29 l0 l1 l2 l3 l4 l5 l6 l7 l8 l9 l10 l7 (b49_0 n l3 l4 l11 M).1 (b49_0 n l3 l4 l11 M).2))))
theorem s101_57 (n : Nat) (k29 : Nat → Nat → Int32 → Nat → Int32 → Nat → Int32 → Int32 → Int32 → Int32 → Int32 → zM → Int32 × zM) (q29 : Nat → Nat → Int32 → Nat → Int32 → Nat → Int32 → Int32 → Int32 → Int32 → Int32 → zM → Prop) (h29 : ∀ (l0 : Nat) (l1 : Nat) (l2 : Int32) (l3 : Nat) (l4 : Int32) (l5 : Nat) (l6 : Int32) (l7 : Int32) (l8 : Int32) (l9 : Int32) (l10 : Int32) (M : zM), q29 l0 l1 l2 l3 l4 l5 l6 l7 l8 l9 l10 M → ∀ {Q : Option Value → zM → Prop}, (∀ r M1, zRI (k29 l0 l1 l2 l3 l4 l5 l6 l7 l8 l9 l10 M) r M1 → Q r M1) → zWP 101 29 [some (.ref l0), some (.ref l1), some (.int l2), some (.ref l3), some (.int l4), some (.ref l5), some (.int l6), some (.int l7), some (.int l8), some (.int l9), some (.int l10), none] [] M Q) (l0 : Nat) (l1 : Nat) (l2 : Int32) (l3 : Nat) (l4 : Int32) (l5 : Nat) (l6 : Int32) (l7 : Int32) (l8 : Int32) (l9 : Int32) (l10 : Int32) (l11 : Int32) (s0 : Int32) (M : zM) (hp : p101_57 n q29 l0 l1 l2 l3 l4 l5 l6 l7 l8 l9 l10 l11 s0 M) {Q : Option Value → zM → Prop} (hQ : ∀ r M1, zRI (b101_57 n k29 l0 l1 l2 l3 l4 l5 l6 l7 l8 l9 l10 l11 s0 M) r M1 → Q r M1) : zWP 101 57 [some (.ref l0), some (.ref l1), some (.int l2), some (.ref l3), some (.int l4), some (.ref l5), some (.int l6), some (.int l7), some (.int l8), some (.int l9), some (.int l10), some (.int l11)] [.int s0] M Q := by
  unfold b101_57 at hQ
  unfold p101_57 at hp
  refine wp_go 1 (pc' := 59) (L' := [some (.ref l0), some (.ref l1), some (.int l2), some (.ref l3), some (.int l4), some (.ref l5), some (.int l6), some (.int l7), some (.int l8), some (.int l9), some (.int l10), some (.int l11)]) (st' := [.int l8, .int s0]) (M' := M) rfl ?_
  refine wp_ic_gt (t := 123) rfl rfl (fun hc => ?_) (fun hc => ?_)
  · rw [if_pos hc] at hQ
    replace hp := hp.1 hc
    refine wp_le [some (.ref l0), some (.ref l1), some (.int l2), some (.ref l3), some (.int l4), some (.ref l5), some (.int l6), some (.int l7), some (.int l8), some (.int l9), some (.int l10), none] (zLe_of (by simp [zLeB])) ?_
    exact s101_123 n k29 q29 h29 l0 l1 l2 l3 l4 l5 l6 l7 l8 l9 l10 M hp hQ
  · rw [if_neg hc] at hQ
    replace hp := hp.2 hc
    refine wp_go 4 (pc' := 69) (L' := [some (.ref l0), some (.ref l1), some (.int l2), some (.ref l3), some (.int l4), some (.ref l5), some (.int l6), some (.int l7), some (.int l8), some (.int l9), some (.int l10), some (.int l11)]) (st' := [.int l11, .int l4, .ref l3, .int l7]) (M' := M) rfl ?_
    obtain ⟨hv, hp⟩ := hp
    obtain ⟨hc, hp⟩ := hp
    refine wp_calli (v := (b49_0 n l3 l4 l11 M).1) (M1 := (b49_0 n l3 l4 l11 M).2) rfl rfl rfl (zInv_v (np := 2) rfl rfl hv rfl) (s49_0 n l3 l4 l11 M hc (fun r M1 h => h)) ?_
    refine wp_le [some (.ref l0), some (.ref l1), some (.int l2), some (.ref l3), some (.int l4), some (.ref l5), some (.int l6), some (.int l7), some (.int l8), some (.int l9), some (.int l10), none] (zLe_of (by simp [zLeB])) ?_
    exact s101_72 n k29 q29 h29 l0 l1 l2 l3 l4 l5 l6 l7 l8 l9 l10 l7 (b49_0 n l3 l4 l11 M).1 (b49_0 n l3 l4 l11 M).2 hp hQ
def b101_53 (n : Nat) (k29 : Nat → Nat → Int32 → Nat → Int32 → Nat → Int32 → Int32 → Int32 → Int32 → Int32 → zM → Int32 × zM) (l0 : Nat) (l1 : Nat) (l2 : Int32) (l3 : Nat) (l4 : Int32) (l5 : Nat) (l6 : Int32) (l7 : Int32) (l8 : Int32) (l9 : Int32) (l10 : Int32) (l11 : Int32) (s0 : Int32) (s1 : Int32) (M : zM) : Int32 × zM := b101_57 n k29 l0 l1 l2 l3 l4 l5 l6 l7 l8 l9 l10 l11 (b190_0 n (s0 - s1) M).1 (b190_0 n (s0 - s1) M).2
def p101_53 (n : Nat) (q29 : Nat → Nat → Int32 → Nat → Int32 → Nat → Int32 → Int32 → Int32 → Int32 → Int32 → zM → Prop) (l0 : Nat) (l1 : Nat) (l2 : Int32) (l3 : Nat) (l4 : Int32) (l5 : Nat) (l6 : Int32) (l7 : Int32) (l8 : Int32) (l9 : Int32) (l10 : Int32) (l11 : Int32) (s0 : Int32) (s1 : Int32) (M : zM) : Prop := (p190_0 n (s0 - s1) M) ∧ (p101_57 n q29 l0 l1 l2 l3 l4 l5 l6 l7 l8 l9 l10 l11 (b190_0 n (s0 - s1) M).1 (b190_0 n (s0 - s1) M).2)
theorem s101_53 (n : Nat) (k29 : Nat → Nat → Int32 → Nat → Int32 → Nat → Int32 → Int32 → Int32 → Int32 → Int32 → zM → Int32 × zM) (q29 : Nat → Nat → Int32 → Nat → Int32 → Nat → Int32 → Int32 → Int32 → Int32 → Int32 → zM → Prop) (h29 : ∀ (l0 : Nat) (l1 : Nat) (l2 : Int32) (l3 : Nat) (l4 : Int32) (l5 : Nat) (l6 : Int32) (l7 : Int32) (l8 : Int32) (l9 : Int32) (l10 : Int32) (M : zM), q29 l0 l1 l2 l3 l4 l5 l6 l7 l8 l9 l10 M → ∀ {Q : Option Value → zM → Prop}, (∀ r M1, zRI (k29 l0 l1 l2 l3 l4 l5 l6 l7 l8 l9 l10 M) r M1 → Q r M1) → zWP 101 29 [some (.ref l0), some (.ref l1), some (.int l2), some (.ref l3), some (.int l4), some (.ref l5), some (.int l6), some (.int l7), some (.int l8), some (.int l9), some (.int l10), none] [] M Q) (l0 : Nat) (l1 : Nat) (l2 : Int32) (l3 : Nat) (l4 : Int32) (l5 : Nat) (l6 : Int32) (l7 : Int32) (l8 : Int32) (l9 : Int32) (l10 : Int32) (l11 : Int32) (s0 : Int32) (s1 : Int32) (M : zM) (hp : p101_53 n q29 l0 l1 l2 l3 l4 l5 l6 l7 l8 l9 l10 l11 s0 s1 M) {Q : Option Value → zM → Prop} (hQ : ∀ r M1, zRI (b101_53 n k29 l0 l1 l2 l3 l4 l5 l6 l7 l8 l9 l10 l11 s0 s1 M) r M1 → Q r M1) : zWP 101 53 [some (.ref l0), some (.ref l1), some (.int l2), some (.ref l3), some (.int l4), some (.ref l5), some (.int l6), some (.int l7), some (.int l8), some (.int l9), some (.int l10), some (.int l11)] [.int s1, .int s0] M Q := by
  unfold b101_53 at hQ
  unfold p101_53 at hp
  refine wp_go 1 (pc' := 54) (L' := [some (.ref l0), some (.ref l1), some (.int l2), some (.ref l3), some (.int l4), some (.ref l5), some (.int l6), some (.int l7), some (.int l8), some (.int l9), some (.int l10), some (.int l11)]) (st' := [.int (s0 - s1)]) (M' := M) rfl ?_
  obtain ⟨hc, hp⟩ := hp
  refine wp_calli (v := (b190_0 n (s0 - s1) M).1) (M1 := (b190_0 n (s0 - s1) M).2) rfl rfl rfl rfl (s190_0 n (s0 - s1) M hc (fun r M1 h => h)) ?_
  exact s101_57 n k29 q29 h29 l0 l1 l2 l3 l4 l5 l6 l7 l8 l9 l10 l11 (b190_0 n (s0 - s1) M).1 (b190_0 n (s0 - s1) M).2 hp hQ
def c101_29 (n : Nat) (k29 : Nat → Nat → Int32 → Nat → Int32 → Nat → Int32 → Int32 → Int32 → Int32 → Int32 → zM → Int32 × zM) (l0 : Nat) (l1 : Nat) (l2 : Int32) (l3 : Nat) (l4 : Int32) (l5 : Nat) (l6 : Int32) (l7 : Int32) (l8 : Int32) (l9 : Int32) (l10 : Int32) (M : zM) : Int32 × zM := (if (24 : Int32) ≤ l10 then (l9, M) else b101_53 n k29 l0 l1 l2 l3 l4 l5 l6 l7 l8 l9 l10 (l10 + (12 : Int32)) l6 (b48_0 n l3 l4 (l10 + (12 : Int32)) M).1 (b48_0 n l3 l4 (l10 + (12 : Int32)) M).2)
def d101_29 (n : Nat) (q29 : Nat → Nat → Int32 → Nat → Int32 → Nat → Int32 → Int32 → Int32 → Int32 → Int32 → zM → Prop) (l0 : Nat) (l1 : Nat) (l2 : Int32) (l3 : Nat) (l4 : Int32) (l5 : Nat) (l6 : Int32) (l7 : Int32) (l8 : Int32) (l9 : Int32) (l10 : Int32) (M : zM) : Prop := (((24 : Int32) ≤ l10 → True) ∧ (¬ (24 : Int32) ≤ l10 → (zHasC 101 404 l3 M 48 2) ∧ ((p48_0 n l3 l4 (l10 + (12 : Int32)) M) ∧ (p101_53 n q29 l0 l1 l2 l3 l4 l5 l6 l7 l8 l9 l10 (l10 + (12 : Int32)) l6 (b48_0 n l3 l4 (l10 + (12 : Int32)) M).1 (b48_0 n l3 l4 (l10 + (12 : Int32)) M).2))))
theorem t101_29 (n : Nat) (k29 : Nat → Nat → Int32 → Nat → Int32 → Nat → Int32 → Int32 → Int32 → Int32 → Int32 → zM → Int32 × zM) (q29 : Nat → Nat → Int32 → Nat → Int32 → Nat → Int32 → Int32 → Int32 → Int32 → Int32 → zM → Prop) (h29 : ∀ (l0 : Nat) (l1 : Nat) (l2 : Int32) (l3 : Nat) (l4 : Int32) (l5 : Nat) (l6 : Int32) (l7 : Int32) (l8 : Int32) (l9 : Int32) (l10 : Int32) (M : zM), q29 l0 l1 l2 l3 l4 l5 l6 l7 l8 l9 l10 M → ∀ {Q : Option Value → zM → Prop}, (∀ r M1, zRI (k29 l0 l1 l2 l3 l4 l5 l6 l7 l8 l9 l10 M) r M1 → Q r M1) → zWP 101 29 [some (.ref l0), some (.ref l1), some (.int l2), some (.ref l3), some (.int l4), some (.ref l5), some (.int l6), some (.int l7), some (.int l8), some (.int l9), some (.int l10), none] [] M Q) (l0 : Nat) (l1 : Nat) (l2 : Int32) (l3 : Nat) (l4 : Int32) (l5 : Nat) (l6 : Int32) (l7 : Int32) (l8 : Int32) (l9 : Int32) (l10 : Int32) (M : zM) (hp : d101_29 n q29 l0 l1 l2 l3 l4 l5 l6 l7 l8 l9 l10 M) {Q : Option Value → zM → Prop} (hQ : ∀ r M1, zRI (c101_29 n k29 l0 l1 l2 l3 l4 l5 l6 l7 l8 l9 l10 M) r M1 → Q r M1) : zWP 101 29 [some (.ref l0), some (.ref l1), some (.int l2), some (.ref l3), some (.int l4), some (.ref l5), some (.int l6), some (.int l7), some (.int l8), some (.int l9), some (.int l10), none] [] M Q := by
  unfold c101_29 at hQ
  unfold d101_29 at hp
  refine wp_go 2 (pc' := 33) (L' := [some (.ref l0), some (.ref l1), some (.int l2), some (.ref l3), some (.int l4), some (.ref l5), some (.int l6), some (.int l7), some (.int l8), some (.int l9), some (.int l10), none]) (st' := [.int (24 : Int32), .int l10]) (M' := M) rfl ?_
  refine wp_ic_ge (t := 129) rfl rfl (fun hc => ?_) (fun hc => ?_)
  · rw [if_pos hc] at hQ
    replace hp := hp.1 hc
    refine wp_go 1 (pc' := 131) (L' := [some (.ref l0), some (.ref l1), some (.int l2), some (.ref l3), some (.int l4), some (.ref l5), some (.int l6), some (.int l7), some (.int l8), some (.int l9), some (.int l10), none]) (st' := [.int l9]) (M' := M) rfl ?_
    exact wp_ret (r := some (.int l9)) rfl rfl (hQ _ _ ⟨rfl, rfl⟩)
  · rw [if_neg hc] at hQ
    replace hp := hp.2 hc
    refine wp_go 5 (pc' := 45) (L' := [some (.ref l0), some (.ref l1), some (.int l2), some (.ref l3), some (.int l4), some (.ref l5), some (.int l6), some (.int l7), some (.int l8), some (.int l9), some (.int l10), some (.int (l10 + (12 : Int32)))]) (st' := [.int l6]) (M' := M) rfl ?_
    refine wp_go 3 (pc' := 50) (L' := [some (.ref l0), some (.ref l1), some (.int l2), some (.ref l3), some (.int l4), some (.ref l5), some (.int l6), some (.int l7), some (.int l8), some (.int l9), some (.int l10), some (.int (l10 + (12 : Int32)))]) (st' := [.int (l10 + (12 : Int32)), .int l4, .ref l3, .int l6]) (M' := M) rfl ?_
    obtain ⟨hv, hp⟩ := hp
    obtain ⟨hc, hp⟩ := hp
    refine wp_calli (v := (b48_0 n l3 l4 (l10 + (12 : Int32)) M).1) (M1 := (b48_0 n l3 l4 (l10 + (12 : Int32)) M).2) rfl rfl rfl (zInv_v (np := 2) rfl rfl hv rfl) (s48_0 n l3 l4 (l10 + (12 : Int32)) M hc (fun r M1 h => h)) ?_
    exact s101_53 n k29 q29 h29 l0 l1 l2 l3 l4 l5 l6 l7 l8 l9 l10 (l10 + (12 : Int32)) l6 (b48_0 n l3 l4 (l10 + (12 : Int32)) M).1 (b48_0 n l3 l4 (l10 + (12 : Int32)) M).2 hp hQ
def b101_29 (n : Nat)  : Nat → Nat → Nat → Int32 → Nat → Int32 → Nat → Int32 → Int32 → Int32 → Int32 → Int32 → zM → Int32 × zM
  | 0, _, _, _, _, _, _, _, _, _, _, _, M => (0, M)
  | k + 1, l0, l1, l2, l3, l4, l5, l6, l7, l8, l9, l10, M => c101_29 n  (b101_29 n  k) l0 l1 l2 l3 l4 l5 l6 l7 l8 l9 l10 M
def p101_29 (n : Nat)  : Nat → Nat → Nat → Int32 → Nat → Int32 → Nat → Int32 → Int32 → Int32 → Int32 → Int32 → zM → Prop
  | 0, _, _, _, _, _, _, _, _, _, _, _, _ => False
  | k + 1, l0, l1, l2, l3, l4, l5, l6, l7, l8, l9, l10, M => d101_29 n  (p101_29 n  k) l0 l1 l2 l3 l4 l5 l6 l7 l8 l9 l10 M
theorem s101_29 (n : Nat)    : ∀ (k : Nat) (l0 : Nat) (l1 : Nat) (l2 : Int32) (l3 : Nat) (l4 : Int32) (l5 : Nat) (l6 : Int32) (l7 : Int32) (l8 : Int32) (l9 : Int32) (l10 : Int32) (M : zM), p101_29 n  k l0 l1 l2 l3 l4 l5 l6 l7 l8 l9 l10 M → ∀ {Q : Option Value → zM → Prop}, (∀ r M1, zRI (b101_29 n  k l0 l1 l2 l3 l4 l5 l6 l7 l8 l9 l10 M) r M1 → Q r M1) → zWP 101 29 [some (.ref l0), some (.ref l1), some (.int l2), some (.ref l3), some (.int l4), some (.ref l5), some (.int l6), some (.int l7), some (.int l8), some (.int l9), some (.int l10), none] [] M Q
  | 0, _, _, _, _, _, _, _, _, _, _, _, _, h, _, _ => h.elim
  | k + 1, l0, l1, l2, l3, l4, l5, l6, l7, l8, l9, l10, M, h, _, hQ => t101_29 n  (b101_29 n  k)  (p101_29 n  k)  (s101_29 n    k) l0 l1 l2 l3 l4 l5 l6 l7 l8 l9 l10 M h hQ
def b101_21 (n : Nat)  (l0 : Nat) (l1 : Nat) (l2 : Int32) (l3 : Nat) (l4 : Int32) (l5 : Nat) (l6 : Int32) (l7 : Int32) (s0 : Int32) (M : zM) : Int32 × zM := b101_29 n  n l0 l1 l2 l3 l4 l5 l6 l7 s0 (0 : Int32) (0 : Int32) M
def p101_21 (n : Nat)  (l0 : Nat) (l1 : Nat) (l2 : Int32) (l3 : Nat) (l4 : Int32) (l5 : Nat) (l6 : Int32) (l7 : Int32) (s0 : Int32) (M : zM) : Prop := p101_29 n  n l0 l1 l2 l3 l4 l5 l6 l7 s0 (0 : Int32) (0 : Int32) M
theorem s101_21 (n : Nat)    (l0 : Nat) (l1 : Nat) (l2 : Int32) (l3 : Nat) (l4 : Int32) (l5 : Nat) (l6 : Int32) (l7 : Int32) (s0 : Int32) (M : zM) (hp : p101_21 n  l0 l1 l2 l3 l4 l5 l6 l7 s0 M) {Q : Option Value → zM → Prop} (hQ : ∀ r M1, zRI (b101_21 n  l0 l1 l2 l3 l4 l5 l6 l7 s0 M) r M1 → Q r M1) : zWP 101 21 [some (.ref l0), some (.ref l1), some (.int l2), some (.ref l3), some (.int l4), some (.ref l5), some (.int l6), some (.int l7), none, none, none, none] [.int s0] M Q := by
  unfold b101_21 at hQ
  unfold p101_21 at hp
  refine wp_go 5 (pc' := 29) (L' := [some (.ref l0), some (.ref l1), some (.int l2), some (.ref l3), some (.int l4), some (.ref l5), some (.int l6), some (.int l7), some (.int s0), some (.int (0 : Int32)), some (.int (0 : Int32)), none]) (st' := []) (M' := M) rfl ?_
  exact s101_29 n    n l0 l1 l2 l3 l4 l5 l6 l7 s0 (0 : Int32) (0 : Int32) M hp hQ
def b101_14 (n : Nat)  (l0 : Nat) (l1 : Nat) (l2 : Int32) (l3 : Nat) (l4 : Int32) (l5 : Nat) (l6 : Int32) (s0 : Int32) (M : zM) : Int32 × zM := b101_21 n  l0 l1 l2 l3 l4 l5 l6 s0 (b44_0 n l1 l3 M).1 (b44_0 n l1 l3 M).2
def p101_14 (n : Nat)  (l0 : Nat) (l1 : Nat) (l2 : Int32) (l3 : Nat) (l4 : Int32) (l5 : Nat) (l6 : Int32) (s0 : Int32) (M : zM) : Prop := (zHasC 101 410 l1 M 44 1) ∧ ((p44_0 n l1 l3 M) ∧ (p101_21 n  l0 l1 l2 l3 l4 l5 l6 s0 (b44_0 n l1 l3 M).1 (b44_0 n l1 l3 M).2))
theorem s101_14 (n : Nat)    (l0 : Nat) (l1 : Nat) (l2 : Int32) (l3 : Nat) (l4 : Int32) (l5 : Nat) (l6 : Int32) (s0 : Int32) (M : zM) (hp : p101_14 n  l0 l1 l2 l3 l4 l5 l6 s0 M) {Q : Option Value → zM → Prop} (hQ : ∀ r M1, zRI (b101_14 n  l0 l1 l2 l3 l4 l5 l6 s0 M) r M1 → Q r M1) : zWP 101 14 [some (.ref l0), some (.ref l1), some (.int l2), some (.ref l3), some (.int l4), some (.ref l5), some (.int l6), none, none, none, none, none] [.int s0] M Q := by
  unfold b101_14 at hQ
  unfold p101_14 at hp
  refine wp_go 3 (pc' := 18) (L' := [some (.ref l0), some (.ref l1), some (.int l2), some (.ref l3), some (.int l4), some (.ref l5), some (.int l6), some (.int s0), none, none, none, none]) (st' := [.ref l3, .ref l1]) (M' := M) rfl ?_
  obtain ⟨hv, hp⟩ := hp
  obtain ⟨hc, hp⟩ := hp
  refine wp_calli (v := (b44_0 n l1 l3 M).1) (M1 := (b44_0 n l1 l3 M).2) rfl rfl rfl (zInv_v (np := 1) rfl rfl hv rfl) (s44_0 n l1 l3 M hc (fun r M1 h => h)) ?_
  exact s101_21 n    l0 l1 l2 l3 l4 l5 l6 s0 (b44_0 n l1 l3 M).1 (b44_0 n l1 l3 M).2 hp hQ
def b101_6 (n : Nat)  (l0 : Nat) (l1 : Nat) (l2 : Int32) (l3 : Nat) (l4 : Int32) (l5 : Nat) (s0 : Int32) (M : zM) : Int32 × zM := b101_14 n  l0 l1 l2 l3 l4 l5 s0 (b49_0 n l1 l2 (0 : Int32) M).1 (b49_0 n l1 l2 (0 : Int32) M).2
def p101_6 (n : Nat)  (l0 : Nat) (l1 : Nat) (l2 : Int32) (l3 : Nat) (l4 : Int32) (l5 : Nat) (s0 : Int32) (M : zM) : Prop := (zHasC 101 407 l1 M 49 2) ∧ ((p49_0 n l1 l2 (0 : Int32) M) ∧ (p101_14 n  l0 l1 l2 l3 l4 l5 s0 (b49_0 n l1 l2 (0 : Int32) M).1 (b49_0 n l1 l2 (0 : Int32) M).2))
theorem s101_6 (n : Nat)    (l0 : Nat) (l1 : Nat) (l2 : Int32) (l3 : Nat) (l4 : Int32) (l5 : Nat) (s0 : Int32) (M : zM) (hp : p101_6 n  l0 l1 l2 l3 l4 l5 s0 M) {Q : Option Value → zM → Prop} (hQ : ∀ r M1, zRI (b101_6 n  l0 l1 l2 l3 l4 l5 s0 M) r M1 → Q r M1) : zWP 101 6 [some (.ref l0), some (.ref l1), some (.int l2), some (.ref l3), some (.int l4), some (.ref l5), none, none, none, none, none, none] [.int s0] M Q := by
  unfold b101_6 at hQ
  unfold p101_6 at hp
  refine wp_go 4 (pc' := 11) (L' := [some (.ref l0), some (.ref l1), some (.int l2), some (.ref l3), some (.int l4), some (.ref l5), some (.int s0), none, none, none, none, none]) (st' := [.int (0 : Int32), .int l2, .ref l1]) (M' := M) rfl ?_
  obtain ⟨hv, hp⟩ := hp
  obtain ⟨hc, hp⟩ := hp
  refine wp_calli (v := (b49_0 n l1 l2 (0 : Int32) M).1) (M1 := (b49_0 n l1 l2 (0 : Int32) M).2) rfl rfl rfl (zInv_v (np := 2) rfl rfl hv rfl) (s49_0 n l1 l2 (0 : Int32) M hc (fun r M1 h => h)) ?_
  exact s101_14 n    l0 l1 l2 l3 l4 l5 s0 (b49_0 n l1 l2 (0 : Int32) M).1 (b49_0 n l1 l2 (0 : Int32) M).2 hp hQ
def b101_0 (n : Nat)  (l0 : Nat) (l1 : Nat) (l2 : Int32) (l3 : Nat) (l4 : Int32) (l5 : Nat) (M : zM) : Int32 × zM := b101_6 n  l0 l1 l2 l3 l4 l5 (b48_0 n l1 l2 (0 : Int32) M).1 (b48_0 n l1 l2 (0 : Int32) M).2
def p101_0 (n : Nat)  (l0 : Nat) (l1 : Nat) (l2 : Int32) (l3 : Nat) (l4 : Int32) (l5 : Nat) (M : zM) : Prop := (zHasC 101 404 l1 M 48 2) ∧ ((p48_0 n l1 l2 (0 : Int32) M) ∧ (p101_6 n  l0 l1 l2 l3 l4 l5 (b48_0 n l1 l2 (0 : Int32) M).1 (b48_0 n l1 l2 (0 : Int32) M).2))
theorem s101_0 (n : Nat)    (l0 : Nat) (l1 : Nat) (l2 : Int32) (l3 : Nat) (l4 : Int32) (l5 : Nat) (M : zM) (hp : p101_0 n  l0 l1 l2 l3 l4 l5 M) {Q : Option Value → zM → Prop} (hQ : ∀ r M1, zRI (b101_0 n  l0 l1 l2 l3 l4 l5 M) r M1 → Q r M1) : zWP 101 0 [some (.ref l0), some (.ref l1), some (.int l2), some (.ref l3), some (.int l4), some (.ref l5), none, none, none, none, none, none] [] M Q := by
  unfold b101_0 at hQ
  unfold p101_0 at hp
  refine wp_go 3 (pc' := 3) (L' := [some (.ref l0), some (.ref l1), some (.int l2), some (.ref l3), some (.int l4), some (.ref l5), none, none, none, none, none, none]) (st' := [.int (0 : Int32), .int l2, .ref l1]) (M' := M) rfl ?_
  obtain ⟨hv, hp⟩ := hp
  obtain ⟨hc, hp⟩ := hp
  refine wp_calli (v := (b48_0 n l1 l2 (0 : Int32) M).1) (M1 := (b48_0 n l1 l2 (0 : Int32) M).2) rfl rfl rfl (zInv_v (np := 2) rfl rfl hv rfl) (s48_0 n l1 l2 (0 : Int32) M hc (fun r M1 h => h)) ?_
  exact s101_6 n    l0 l1 l2 l3 l4 l5 (b48_0 n l1 l2 (0 : Int32) M).1 (b48_0 n l1 l2 (0 : Int32) M).2 hp hQ
/-! X11_walkSpans -/
def b100_55 (n : Nat) (k6 : Nat → Nat → Nat → Nat → Int32 → Int32 → zM → Int32 × zM) (k18 : Nat → Nat → Nat → Nat → Int32 → Int32 → Int32 → zM → Int32 × zM) (l0 : Nat) (l1 : Nat) (l2 : Nat) (l3 : Nat) (l4 : Int32) (l5 : Int32) (l6 : Int32) (M : zM) : Int32 × zM := k18 l0 l1 l2 l3 l4 l5 (l6 + Int32.ofInt 1) M
def p100_55 (n : Nat) (q6 : Nat → Nat → Nat → Nat → Int32 → Int32 → zM → Prop) (q18 : Nat → Nat → Nat → Nat → Int32 → Int32 → Int32 → zM → Prop) (l0 : Nat) (l1 : Nat) (l2 : Nat) (l3 : Nat) (l4 : Int32) (l5 : Int32) (l6 : Int32) (M : zM) : Prop := q18 l0 l1 l2 l3 l4 l5 (l6 + Int32.ofInt 1) M
theorem s100_55 (n : Nat) (k6 : Nat → Nat → Nat → Nat → Int32 → Int32 → zM → Int32 × zM) (k18 : Nat → Nat → Nat → Nat → Int32 → Int32 → Int32 → zM → Int32 × zM) (q6 : Nat → Nat → Nat → Nat → Int32 → Int32 → zM → Prop) (q18 : Nat → Nat → Nat → Nat → Int32 → Int32 → Int32 → zM → Prop) (h6 : ∀ (l0 : Nat) (l1 : Nat) (l2 : Nat) (l3 : Nat) (l4 : Int32) (l5 : Int32) (M : zM), q6 l0 l1 l2 l3 l4 l5 M → ∀ {Q : Option Value → zM → Prop}, (∀ r M1, zRI (k6 l0 l1 l2 l3 l4 l5 M) r M1 → Q r M1) → zWP 100 6 [some (.ref l0), some (.ref l1), some (.ref l2), some (.ref l3), some (.int l4), some (.int l5), none] [] M Q) (h18 : ∀ (l0 : Nat) (l1 : Nat) (l2 : Nat) (l3 : Nat) (l4 : Int32) (l5 : Int32) (l6 : Int32) (M : zM), q18 l0 l1 l2 l3 l4 l5 l6 M → ∀ {Q : Option Value → zM → Prop}, (∀ r M1, zRI (k18 l0 l1 l2 l3 l4 l5 l6 M) r M1 → Q r M1) → zWP 100 18 [some (.ref l0), some (.ref l1), some (.ref l2), some (.ref l3), some (.int l4), some (.int l5), some (.int l6)] [] M Q) (l0 : Nat) (l1 : Nat) (l2 : Nat) (l3 : Nat) (l4 : Int32) (l5 : Int32) (l6 : Int32) (M : zM) (hp : p100_55 n q6 q18 l0 l1 l2 l3 l4 l5 l6 M) {Q : Option Value → zM → Prop} (hQ : ∀ r M1, zRI (b100_55 n k6 k18 l0 l1 l2 l3 l4 l5 l6 M) r M1 → Q r M1) : zWP 100 55 [some (.ref l0), some (.ref l1), some (.ref l2), some (.ref l3), some (.int l4), some (.int l5), some (.int l6)] [] M Q := by
  unfold b100_55 at hQ
  unfold p100_55 at hp
  refine wp_go 2 (pc' := 18) (L' := [some (.ref l0), some (.ref l1), some (.ref l2), some (.ref l3), some (.int l4), some (.int l5), some (.int (l6 + Int32.ofInt 1))]) (st' := []) (M' := M) rfl ?_
  exact h18 l0 l1 l2 l3 l4 l5 (l6 + Int32.ofInt 1) M hp hQ
def b100_52 (n : Nat) (k6 : Nat → Nat → Nat → Nat → Int32 → Int32 → zM → Int32 × zM) (k18 : Nat → Nat → Nat → Nat → Int32 → Int32 → Int32 → zM → Int32 × zM) (l0 : Nat) (l1 : Nat) (l2 : Nat) (l3 : Nat) (l5 : Int32) (l6 : Int32) (s0 : Int32) (s1 : Int32) (M : zM) : Int32 × zM := b100_55 n k6 k18 l0 l1 l2 l3 (s0 + s1) l5 l6 M
def p100_52 (n : Nat) (q6 : Nat → Nat → Nat → Nat → Int32 → Int32 → zM → Prop) (q18 : Nat → Nat → Nat → Nat → Int32 → Int32 → Int32 → zM → Prop) (l0 : Nat) (l1 : Nat) (l2 : Nat) (l3 : Nat) (l5 : Int32) (l6 : Int32) (s0 : Int32) (s1 : Int32) (M : zM) : Prop := p100_55 n q6 q18 l0 l1 l2 l3 (s0 + s1) l5 l6 M
theorem s100_52 (n : Nat) (k6 : Nat → Nat → Nat → Nat → Int32 → Int32 → zM → Int32 × zM) (k18 : Nat → Nat → Nat → Nat → Int32 → Int32 → Int32 → zM → Int32 × zM) (q6 : Nat → Nat → Nat → Nat → Int32 → Int32 → zM → Prop) (q18 : Nat → Nat → Nat → Nat → Int32 → Int32 → Int32 → zM → Prop) (h6 : ∀ (l0 : Nat) (l1 : Nat) (l2 : Nat) (l3 : Nat) (l4 : Int32) (l5 : Int32) (M : zM), q6 l0 l1 l2 l3 l4 l5 M → ∀ {Q : Option Value → zM → Prop}, (∀ r M1, zRI (k6 l0 l1 l2 l3 l4 l5 M) r M1 → Q r M1) → zWP 100 6 [some (.ref l0), some (.ref l1), some (.ref l2), some (.ref l3), some (.int l4), some (.int l5), none] [] M Q) (h18 : ∀ (l0 : Nat) (l1 : Nat) (l2 : Nat) (l3 : Nat) (l4 : Int32) (l5 : Int32) (l6 : Int32) (M : zM), q18 l0 l1 l2 l3 l4 l5 l6 M → ∀ {Q : Option Value → zM → Prop}, (∀ r M1, zRI (k18 l0 l1 l2 l3 l4 l5 l6 M) r M1 → Q r M1) → zWP 100 18 [some (.ref l0), some (.ref l1), some (.ref l2), some (.ref l3), some (.int l4), some (.int l5), some (.int l6)] [] M Q) (l0 : Nat) (l1 : Nat) (l2 : Nat) (l3 : Nat) (l5 : Int32) (l6 : Int32) (s0 : Int32) (s1 : Int32) (M : zM) (hp : p100_52 n q6 q18 l0 l1 l2 l3 l5 l6 s0 s1 M) {Q : Option Value → zM → Prop} (hQ : ∀ r M1, zRI (b100_52 n k6 k18 l0 l1 l2 l3 l5 l6 s0 s1 M) r M1 → Q r M1) : zWP 100 52 [some (.ref l0), some (.ref l1), some (.ref l2), some (.ref l3), none, some (.int l5), some (.int l6)] [.int s1, .int s0] M Q := by
  unfold b100_52 at hQ
  unfold p100_52 at hp
  refine wp_go 2 (pc' := 55) (L' := [some (.ref l0), some (.ref l1), some (.ref l2), some (.ref l3), some (.int (s0 + s1)), some (.int l5), some (.int l6)]) (st' := []) (M' := M) rfl ?_
  exact s100_55 n k6 k18 q6 q18 h6 h18 l0 l1 l2 l3 (s0 + s1) l5 l6 M hp hQ
def b100_36 (n : Nat) (k6 : Nat → Nat → Nat → Nat → Int32 → Int32 → zM → Int32 × zM) (k18 : Nat → Nat → Nat → Nat → Int32 → Int32 → Int32 → zM → Int32 × zM) (l0 : Nat) (l1 : Nat) (l2 : Nat) (l3 : Nat) (l4 : Int32) (l5 : Int32) (l6 : Int32) (s0 : Int32) (M : zM) : Int32 × zM := (if s0 = 0 then b100_55 n k6 k18 l0 l1 l2 l3 l4 l5 l6 M else b100_52 n k6 k18 l0 l1 l2 l3 l5 l6 l4 (b101_0 n l0 l1 l5 l2 l6 l3 M).1 (b101_0 n l0 l1 l5 l2 l6 l3 M).2)
def p100_36 (n : Nat) (q6 : Nat → Nat → Nat → Nat → Int32 → Int32 → zM → Prop) (q18 : Nat → Nat → Nat → Nat → Int32 → Int32 → Int32 → zM → Prop) (l0 : Nat) (l1 : Nat) (l2 : Nat) (l3 : Nat) (l4 : Int32) (l5 : Int32) (l6 : Int32) (s0 : Int32) (M : zM) : Prop := ((s0 = 0 → p100_55 n q6 q18 l0 l1 l2 l3 l4 l5 l6 M) ∧ (¬ s0 = 0 → (zHasC 100 400 l0 M 101 5) ∧ ((p101_0 n l0 l1 l5 l2 l6 l3 M) ∧ (p100_52 n q6 q18 l0 l1 l2 l3 l5 l6 l4 (b101_0 n l0 l1 l5 l2 l6 l3 M).1 (b101_0 n l0 l1 l5 l2 l6 l3 M).2))))
theorem s100_36 (n : Nat) (k6 : Nat → Nat → Nat → Nat → Int32 → Int32 → zM → Int32 × zM) (k18 : Nat → Nat → Nat → Nat → Int32 → Int32 → Int32 → zM → Int32 × zM) (q6 : Nat → Nat → Nat → Nat → Int32 → Int32 → zM → Prop) (q18 : Nat → Nat → Nat → Nat → Int32 → Int32 → Int32 → zM → Prop) (h6 : ∀ (l0 : Nat) (l1 : Nat) (l2 : Nat) (l3 : Nat) (l4 : Int32) (l5 : Int32) (M : zM), q6 l0 l1 l2 l3 l4 l5 M → ∀ {Q : Option Value → zM → Prop}, (∀ r M1, zRI (k6 l0 l1 l2 l3 l4 l5 M) r M1 → Q r M1) → zWP 100 6 [some (.ref l0), some (.ref l1), some (.ref l2), some (.ref l3), some (.int l4), some (.int l5), none] [] M Q) (h18 : ∀ (l0 : Nat) (l1 : Nat) (l2 : Nat) (l3 : Nat) (l4 : Int32) (l5 : Int32) (l6 : Int32) (M : zM), q18 l0 l1 l2 l3 l4 l5 l6 M → ∀ {Q : Option Value → zM → Prop}, (∀ r M1, zRI (k18 l0 l1 l2 l3 l4 l5 l6 M) r M1 → Q r M1) → zWP 100 18 [some (.ref l0), some (.ref l1), some (.ref l2), some (.ref l3), some (.int l4), some (.int l5), some (.int l6)] [] M Q) (l0 : Nat) (l1 : Nat) (l2 : Nat) (l3 : Nat) (l4 : Int32) (l5 : Int32) (l6 : Int32) (s0 : Int32) (M : zM) (hp : p100_36 n q6 q18 l0 l1 l2 l3 l4 l5 l6 s0 M) {Q : Option Value → zM → Prop} (hQ : ∀ r M1, zRI (b100_36 n k6 k18 l0 l1 l2 l3 l4 l5 l6 s0 M) r M1 → Q r M1) : zWP 100 36 [some (.ref l0), some (.ref l1), some (.ref l2), some (.ref l3), some (.int l4), some (.int l5), some (.int l6)] [.int s0] M Q := by
  unfold b100_36 at hQ
  unfold p100_36 at hp
  refine wp_if_eq (t := 55) rfl rfl (fun hc => ?_) (fun hc => ?_)
  · rw [if_pos hc] at hQ
    replace hp := hp.1 hc
    exact s100_55 n k6 k18 q6 q18 h6 h18 l0 l1 l2 l3 l4 l5 l6 M hp hQ
  · rw [if_neg hc] at hQ
    replace hp := hp.2 hc
    refine wp_go 5 (pc' := 46) (L' := [some (.ref l0), some (.ref l1), some (.ref l2), some (.ref l3), some (.int l4), some (.int l5), some (.int l6)]) (st' := [.ref l2, .int l5, .ref l1, .ref l0, .int l4]) (M' := M) rfl ?_
    refine wp_go 2 (pc' := 49) (L' := [some (.ref l0), some (.ref l1), some (.ref l2), some (.ref l3), some (.int l4), some (.int l5), some (.int l6)]) (st' := [.ref l3, .int l6, .ref l2, .int l5, .ref l1, .ref l0, .int l4]) (M' := M) rfl ?_
    obtain ⟨hv, hp⟩ := hp
    obtain ⟨hc, hp⟩ := hp
    refine wp_calli (v := (b101_0 n l0 l1 l5 l2 l6 l3 M).1) (M1 := (b101_0 n l0 l1 l5 l2 l6 l3 M).2) rfl rfl rfl (zInv_v (np := 5) rfl rfl hv rfl) (s101_0 n l0 l1 l5 l2 l6 l3 M hc (fun r M1 h => h)) ?_
    refine wp_le [some (.ref l0), some (.ref l1), some (.ref l2), some (.ref l3), none, some (.int l5), some (.int l6)] (zLe_of (by simp [zLeB])) ?_
    exact s100_52 n k6 k18 q6 q18 h6 h18 l0 l1 l2 l3 l5 l6 l4 (b101_0 n l0 l1 l5 l2 l6 l3 M).1 (b101_0 n l0 l1 l5 l2 l6 l3 M).2 hp hQ
def c100_18 (n : Nat) (k6 : Nat → Nat → Nat → Nat → Int32 → Int32 → zM → Int32 × zM) (k18 : Nat → Nat → Nat → Nat → Int32 → Int32 → Int32 → zM → Int32 × zM) (l0 : Nat) (l1 : Nat) (l2 : Nat) (l3 : Nat) (l4 : Int32) (l5 : Int32) (l6 : Int32) (M : zM) : Int32 × zM := (if (zI M l2 7) ≤ l6 then k6 l0 l1 l2 l3 l4 (l5 + Int32.ofInt 1) M else b100_36 n k6 k18 l0 l1 l2 l3 l4 l5 l6 (b45_0 n l1 l5 l2 l6 M).1 (b45_0 n l1 l5 l2 l6 M).2)
def d100_18 (n : Nat) (q6 : Nat → Nat → Nat → Nat → Int32 → Int32 → zM → Prop) (q18 : Nat → Nat → Nat → Nat → Int32 → Int32 → Int32 → zM → Prop) (l0 : Nat) (l1 : Nat) (l2 : Nat) (l3 : Nat) (l4 : Int32) (l5 : Int32) (l6 : Int32) (M : zM) : Prop := (zHasI 9 128 l2 M 7) ∧ ((((zI M l2 7) ≤ l6 → q6 l0 l1 l2 l3 l4 (l5 + Int32.ofInt 1) M) ∧ (¬ (zI M l2 7) ≤ l6 → (zHasC 100 396 l1 M 45 3) ∧ ((p45_0 n l1 l5 l2 l6 M) ∧ (p100_36 n q6 q18 l0 l1 l2 l3 l4 l5 l6 (b45_0 n l1 l5 l2 l6 M).1 (b45_0 n l1 l5 l2 l6 M).2)))))
theorem t100_18 (n : Nat) (k6 : Nat → Nat → Nat → Nat → Int32 → Int32 → zM → Int32 × zM) (k18 : Nat → Nat → Nat → Nat → Int32 → Int32 → Int32 → zM → Int32 × zM) (q6 : Nat → Nat → Nat → Nat → Int32 → Int32 → zM → Prop) (q18 : Nat → Nat → Nat → Nat → Int32 → Int32 → Int32 → zM → Prop) (h6 : ∀ (l0 : Nat) (l1 : Nat) (l2 : Nat) (l3 : Nat) (l4 : Int32) (l5 : Int32) (M : zM), q6 l0 l1 l2 l3 l4 l5 M → ∀ {Q : Option Value → zM → Prop}, (∀ r M1, zRI (k6 l0 l1 l2 l3 l4 l5 M) r M1 → Q r M1) → zWP 100 6 [some (.ref l0), some (.ref l1), some (.ref l2), some (.ref l3), some (.int l4), some (.int l5), none] [] M Q) (h18 : ∀ (l0 : Nat) (l1 : Nat) (l2 : Nat) (l3 : Nat) (l4 : Int32) (l5 : Int32) (l6 : Int32) (M : zM), q18 l0 l1 l2 l3 l4 l5 l6 M → ∀ {Q : Option Value → zM → Prop}, (∀ r M1, zRI (k18 l0 l1 l2 l3 l4 l5 l6 M) r M1 → Q r M1) → zWP 100 18 [some (.ref l0), some (.ref l1), some (.ref l2), some (.ref l3), some (.int l4), some (.int l5), some (.int l6)] [] M Q) (l0 : Nat) (l1 : Nat) (l2 : Nat) (l3 : Nat) (l4 : Int32) (l5 : Int32) (l6 : Int32) (M : zM) (hp : d100_18 n q6 q18 l0 l1 l2 l3 l4 l5 l6 M) {Q : Option Value → zM → Prop} (hQ : ∀ r M1, zRI (c100_18 n k6 k18 l0 l1 l2 l3 l4 l5 l6 M) r M1 → Q r M1) : zWP 100 18 [some (.ref l0), some (.ref l1), some (.ref l2), some (.ref l3), some (.int l4), some (.int l5), some (.int l6)] [] M Q := by
  unfold c100_18 at hQ
  unfold d100_18 at hp
  refine wp_go 2 (pc' := 21) (L' := [some (.ref l0), some (.ref l1), some (.ref l2), some (.ref l3), some (.int l4), some (.int l5), some (.int l6)]) (st' := [.ref l2, .int l6]) (M' := M) rfl ?_
  obtain ⟨hc, hp⟩ := hp
  refine wq_getI (j := 7) rfl hc ?_
  refine wp_ic_ge (t := 61) rfl rfl (fun hc => ?_) (fun hc => ?_)
  · rw [if_pos hc] at hQ
    replace hp := hp.1 hc
    refine wp_go 2 (pc' := 6) (L' := [some (.ref l0), some (.ref l1), some (.ref l2), some (.ref l3), some (.int l4), some (.int (l5 + Int32.ofInt 1)), some (.int l6)]) (st' := []) (M' := M) rfl ?_
    refine wp_le [some (.ref l0), some (.ref l1), some (.ref l2), some (.ref l3), some (.int l4), some (.int (l5 + Int32.ofInt 1)), none] (zLe_of (by simp [zLeB])) ?_
    exact h6 l0 l1 l2 l3 l4 (l5 + Int32.ofInt 1) M hp hQ
  · rw [if_neg hc] at hQ
    replace hp := hp.2 hc
    refine wp_go 4 (pc' := 33) (L' := [some (.ref l0), some (.ref l1), some (.ref l2), some (.ref l3), some (.int l4), some (.int l5), some (.int l6)]) (st' := [.int l6, .ref l2, .int l5, .ref l1]) (M' := M) rfl ?_
    obtain ⟨hv, hp⟩ := hp
    obtain ⟨hc, hp⟩ := hp
    refine wp_calli (v := (b45_0 n l1 l5 l2 l6 M).1) (M1 := (b45_0 n l1 l5 l2 l6 M).2) rfl rfl rfl (zInv_v (np := 3) rfl rfl hv rfl) (s45_0 n l1 l5 l2 l6 M hc (fun r M1 h => h)) ?_
    exact s100_36 n k6 k18 q6 q18 h6 h18 l0 l1 l2 l3 l4 l5 l6 (b45_0 n l1 l5 l2 l6 M).1 (b45_0 n l1 l5 l2 l6 M).2 hp hQ
def b100_18 (n : Nat) (k6 : Nat → Nat → Nat → Nat → Int32 → Int32 → zM → Int32 × zM) : Nat → Nat → Nat → Nat → Nat → Int32 → Int32 → Int32 → zM → Int32 × zM
  | 0, _, _, _, _, _, _, _, M => (0, M)
  | k + 1, l0, l1, l2, l3, l4, l5, l6, M => c100_18 n k6 (b100_18 n k6 k) l0 l1 l2 l3 l4 l5 l6 M
def p100_18 (n : Nat) (q6 : Nat → Nat → Nat → Nat → Int32 → Int32 → zM → Prop) : Nat → Nat → Nat → Nat → Nat → Int32 → Int32 → Int32 → zM → Prop
  | 0, _, _, _, _, _, _, _, _ => False
  | k + 1, l0, l1, l2, l3, l4, l5, l6, M => d100_18 n q6 (p100_18 n q6 k) l0 l1 l2 l3 l4 l5 l6 M
theorem s100_18 (n : Nat) (k6 : Nat → Nat → Nat → Nat → Int32 → Int32 → zM → Int32 × zM) (q6 : Nat → Nat → Nat → Nat → Int32 → Int32 → zM → Prop) (h6 : ∀ (l0 : Nat) (l1 : Nat) (l2 : Nat) (l3 : Nat) (l4 : Int32) (l5 : Int32) (M : zM), q6 l0 l1 l2 l3 l4 l5 M → ∀ {Q : Option Value → zM → Prop}, (∀ r M1, zRI (k6 l0 l1 l2 l3 l4 l5 M) r M1 → Q r M1) → zWP 100 6 [some (.ref l0), some (.ref l1), some (.ref l2), some (.ref l3), some (.int l4), some (.int l5), none] [] M Q) : ∀ (k : Nat) (l0 : Nat) (l1 : Nat) (l2 : Nat) (l3 : Nat) (l4 : Int32) (l5 : Int32) (l6 : Int32) (M : zM), p100_18 n q6 k l0 l1 l2 l3 l4 l5 l6 M → ∀ {Q : Option Value → zM → Prop}, (∀ r M1, zRI (b100_18 n k6 k l0 l1 l2 l3 l4 l5 l6 M) r M1 → Q r M1) → zWP 100 18 [some (.ref l0), some (.ref l1), some (.ref l2), some (.ref l3), some (.int l4), some (.int l5), some (.int l6)] [] M Q
  | 0, _, _, _, _, _, _, _, _, h, _, _ => h.elim
  | k + 1, l0, l1, l2, l3, l4, l5, l6, M, h, _, hQ => t100_18 n k6 (b100_18 n k6 k) q6 (p100_18 n q6 k) h6 (s100_18 n k6 q6 h6 k) l0 l1 l2 l3 l4 l5 l6 M h hQ
def c100_6 (n : Nat) (k6 : Nat → Nat → Nat → Nat → Int32 → Int32 → zM → Int32 × zM) (l0 : Nat) (l1 : Nat) (l2 : Nat) (l3 : Nat) (l4 : Int32) (l5 : Int32) (M : zM) : Int32 × zM := (if (zI M l1 7) ≤ l5 then (l4, M) else b100_18 n k6 n l0 l1 l2 l3 l4 l5 (0 : Int32) M)
def d100_6 (n : Nat) (q6 : Nat → Nat → Nat → Nat → Int32 → Int32 → zM → Prop) (l0 : Nat) (l1 : Nat) (l2 : Nat) (l3 : Nat) (l4 : Int32) (l5 : Int32) (M : zM) : Prop := (zHasI 9 128 l1 M 7) ∧ ((((zI M l1 7) ≤ l5 → True) ∧ (¬ (zI M l1 7) ≤ l5 → p100_18 n q6 n l0 l1 l2 l3 l4 l5 (0 : Int32) M)))
theorem t100_6 (n : Nat) (k6 : Nat → Nat → Nat → Nat → Int32 → Int32 → zM → Int32 × zM) (q6 : Nat → Nat → Nat → Nat → Int32 → Int32 → zM → Prop) (h6 : ∀ (l0 : Nat) (l1 : Nat) (l2 : Nat) (l3 : Nat) (l4 : Int32) (l5 : Int32) (M : zM), q6 l0 l1 l2 l3 l4 l5 M → ∀ {Q : Option Value → zM → Prop}, (∀ r M1, zRI (k6 l0 l1 l2 l3 l4 l5 M) r M1 → Q r M1) → zWP 100 6 [some (.ref l0), some (.ref l1), some (.ref l2), some (.ref l3), some (.int l4), some (.int l5), none] [] M Q) (l0 : Nat) (l1 : Nat) (l2 : Nat) (l3 : Nat) (l4 : Int32) (l5 : Int32) (M : zM) (hp : d100_6 n q6 l0 l1 l2 l3 l4 l5 M) {Q : Option Value → zM → Prop} (hQ : ∀ r M1, zRI (c100_6 n k6 l0 l1 l2 l3 l4 l5 M) r M1 → Q r M1) : zWP 100 6 [some (.ref l0), some (.ref l1), some (.ref l2), some (.ref l3), some (.int l4), some (.int l5), none] [] M Q := by
  unfold c100_6 at hQ
  unfold d100_6 at hp
  refine wp_go 2 (pc' := 9) (L' := [some (.ref l0), some (.ref l1), some (.ref l2), some (.ref l3), some (.int l4), some (.int l5), none]) (st' := [.ref l1, .int l5]) (M' := M) rfl ?_
  obtain ⟨hc, hp⟩ := hp
  refine wq_getI (j := 7) rfl hc ?_
  refine wp_ic_ge (t := 67) rfl rfl (fun hc => ?_) (fun hc => ?_)
  · rw [if_pos hc] at hQ
    replace hp := hp.1 hc
    refine wp_go 1 (pc' := 69) (L' := [some (.ref l0), some (.ref l1), some (.ref l2), some (.ref l3), some (.int l4), some (.int l5), none]) (st' := [.int l4]) (M' := M) rfl ?_
    exact wp_ret (r := some (.int l4)) rfl rfl (hQ _ _ ⟨rfl, rfl⟩)
  · rw [if_neg hc] at hQ
    replace hp := hp.2 hc
    refine wp_go 2 (pc' := 18) (L' := [some (.ref l0), some (.ref l1), some (.ref l2), some (.ref l3), some (.int l4), some (.int l5), some (.int (0 : Int32))]) (st' := []) (M' := M) rfl ?_
    exact s100_18 n k6 q6 h6 n l0 l1 l2 l3 l4 l5 (0 : Int32) M hp hQ
def b100_6 (n : Nat)  : Nat → Nat → Nat → Nat → Nat → Int32 → Int32 → zM → Int32 × zM
  | 0, _, _, _, _, _, _, M => (0, M)
  | k + 1, l0, l1, l2, l3, l4, l5, M => c100_6 n  (b100_6 n  k) l0 l1 l2 l3 l4 l5 M
def p100_6 (n : Nat)  : Nat → Nat → Nat → Nat → Nat → Int32 → Int32 → zM → Prop
  | 0, _, _, _, _, _, _, _ => False
  | k + 1, l0, l1, l2, l3, l4, l5, M => d100_6 n  (p100_6 n  k) l0 l1 l2 l3 l4 l5 M
theorem s100_6 (n : Nat)    : ∀ (k : Nat) (l0 : Nat) (l1 : Nat) (l2 : Nat) (l3 : Nat) (l4 : Int32) (l5 : Int32) (M : zM), p100_6 n  k l0 l1 l2 l3 l4 l5 M → ∀ {Q : Option Value → zM → Prop}, (∀ r M1, zRI (b100_6 n  k l0 l1 l2 l3 l4 l5 M) r M1 → Q r M1) → zWP 100 6 [some (.ref l0), some (.ref l1), some (.ref l2), some (.ref l3), some (.int l4), some (.int l5), none] [] M Q
  | 0, _, _, _, _, _, _, _, h, _, _ => h.elim
  | k + 1, l0, l1, l2, l3, l4, l5, M, h, _, hQ => t100_6 n  (b100_6 n  k)  (p100_6 n  k)  (s100_6 n    k) l0 l1 l2 l3 l4 l5 M h hQ
def b100_0 (n : Nat)  (l0 : Nat) (l1 : Nat) (l2 : Nat) (l3 : Nat) (M : zM) : Int32 × zM := b100_6 n  n l0 l1 l2 l3 (0 : Int32) (0 : Int32) M
def p100_0 (n : Nat)  (l0 : Nat) (l1 : Nat) (l2 : Nat) (l3 : Nat) (M : zM) : Prop := p100_6 n  n l0 l1 l2 l3 (0 : Int32) (0 : Int32) M
theorem s100_0 (n : Nat)    (l0 : Nat) (l1 : Nat) (l2 : Nat) (l3 : Nat) (M : zM) (hp : p100_0 n  l0 l1 l2 l3 M) {Q : Option Value → zM → Prop} (hQ : ∀ r M1, zRI (b100_0 n  l0 l1 l2 l3 M) r M1 → Q r M1) : zWP 100 0 [some (.ref l0), some (.ref l1), some (.ref l2), some (.ref l3), none, none, none] [] M Q := by
  unfold b100_0 at hQ
  unfold p100_0 at hp
  refine wp_go 4 (pc' := 6) (L' := [some (.ref l0), some (.ref l1), some (.ref l2), some (.ref l3), some (.int (0 : Int32)), some (.int (0 : Int32)), none]) (st' := []) (M' := M) rfl ?_
  exact s100_6 n    n l0 l1 l2 l3 (0 : Int32) (0 : Int32) M hp hQ
/-! X11_spans -/
def b75_21 (n : Nat)   (M : zM) : Int32 × zM := (((-1) : Int32), M)
def p75_21 (n : Nat)   (M : zM) : Prop := True
theorem s75_21 (n : Nat)     (M : zM) (hp : p75_21 n   M) {Q : Option Value → zM → Prop} (hQ : ∀ r M1, zRI (b75_21 n   M) r M1 → Q r M1) : zWP 75 21 [none, none, none] [] M Q := by
  unfold b75_21 at hQ
  unfold p75_21 at hp
  refine wp_go 1 (pc' := 22) (L' := [none, none, none]) (st' := [.int ((-1) : Int32)]) (M' := M) rfl ?_
  exact wp_ret (r := some (.int ((-1) : Int32))) rfl rfl (hQ _ _ ⟨rfl, rfl⟩)
def b75_58 (n : Nat)  (s0 : Int32) (M : zM) : Int32 × zM := (s0, M)
def p75_58 (n : Nat)  (s0 : Int32) (M : zM) : Prop := True
theorem s75_58 (n : Nat)    (s0 : Int32) (M : zM) (hp : p75_58 n  s0 M) {Q : Option Value → zM → Prop} (hQ : ∀ r M1, zRI (b75_58 n  s0 M) r M1 → Q r M1) : zWP 75 58 [none, none, none] [.int s0] M Q := by
  unfold b75_58 at hQ
  unfold p75_58 at hp
  exact wp_ret (r := some (.int s0)) rfl rfl (hQ _ _ ⟨rfl, rfl⟩)
def b75_50 (n : Nat)  (l0 : Nat) (s0 : Nat) (s1 : Nat) (s2 : Nat) (s3 : Int32) (M : zM) : Int32 × zM := b75_58 n  (b100_0 n s0 s1 (zQ M s2 s3.toNatClampNeg) (zQ M l0 6) M).1 (b100_0 n s0 s1 (zQ M s2 s3.toNatClampNeg) (zQ M l0 6) M).2
def p75_50 (n : Nat)  (l0 : Nat) (s0 : Nat) (s1 : Nat) (s2 : Nat) (s3 : Int32) (M : zM) : Prop := (zOkR s2 s3 M) ∧ ((zHasQ 9 51 l0 M 6) ∧ ((zHasC 75 268 s0 M 100 3) ∧ ((p100_0 n s0 s1 (zQ M s2 s3.toNatClampNeg) (zQ M l0 6) M) ∧ (p75_58 n  (b100_0 n s0 s1 (zQ M s2 s3.toNatClampNeg) (zQ M l0 6) M).1 (b100_0 n s0 s1 (zQ M s2 s3.toNatClampNeg) (zQ M l0 6) M).2))))
theorem s75_50 (n : Nat)    (l0 : Nat) (s0 : Nat) (s1 : Nat) (s2 : Nat) (s3 : Int32) (M : zM) (hp : p75_50 n  l0 s0 s1 s2 s3 M) {Q : Option Value → zM → Prop} (hQ : ∀ r M1, zRI (b75_50 n  l0 s0 s1 s2 s3 M) r M1 → Q r M1) : zWP 75 50 [some (.ref l0), none, none] [.int s3, .ref s2, .ref s1, .ref s0] M Q := by
  unfold b75_50 at hQ
  unfold p75_50 at hp
  obtain ⟨hc, hp⟩ := hp
  refine wq_aald rfl hc ?_
  refine wp_go 1 (pc' := 52) (L' := [some (.ref l0), none, none]) (st' := [.ref l0, .ref (zQ M s2 s3.toNatClampNeg), .ref s1, .ref s0]) (M' := M) rfl ?_
  obtain ⟨hc, hp⟩ := hp
  refine wq_getQ (j := 6) rfl hc ?_
  obtain ⟨hv, hp⟩ := hp
  obtain ⟨hc, hp⟩ := hp
  refine wp_calli (v := (b100_0 n s0 s1 (zQ M s2 s3.toNatClampNeg) (zQ M l0 6) M).1) (M1 := (b100_0 n s0 s1 (zQ M s2 s3.toNatClampNeg) (zQ M l0 6) M).2) rfl rfl rfl (zInv_v (np := 3) rfl rfl hv rfl) (s100_0 n s0 s1 (zQ M s2 s3.toNatClampNeg) (zQ M l0 6) M hc (fun r M1 h => h)) ?_
  refine wp_le [none, none, none] (zLe_of (by simp [zLeB])) ?_
  exact s75_58 n    (b100_0 n s0 s1 (zQ M s2 s3.toNatClampNeg) (zQ M l0 6) M).1 (b100_0 n s0 s1 (zQ M s2 s3.toNatClampNeg) (zQ M l0 6) M).2 hp hQ
def b75_40 (n : Nat)  (l0 : Nat) (l1 : Int32) (l2 : Int32) (s0 : Nat) (s1 : Nat) (s2 : Int32) (M : zM) : Int32 × zM := b75_50 n  l0 s0 (zQ M s1 s2.toNatClampNeg) (zQ M l0 0) (b192_0 n l1 l2 M).1 (b192_0 n l1 l2 M).2
def p75_40 (n : Nat)  (l0 : Nat) (l1 : Int32) (l2 : Int32) (s0 : Nat) (s1 : Nat) (s2 : Int32) (M : zM) : Prop := (zOkR s1 s2 M) ∧ ((zHasQ 9 11 l0 M 0) ∧ ((p192_0 n l1 l2 M) ∧ (p75_50 n  l0 s0 (zQ M s1 s2.toNatClampNeg) (zQ M l0 0) (b192_0 n l1 l2 M).1 (b192_0 n l1 l2 M).2)))
theorem s75_40 (n : Nat)    (l0 : Nat) (l1 : Int32) (l2 : Int32) (s0 : Nat) (s1 : Nat) (s2 : Int32) (M : zM) (hp : p75_40 n  l0 l1 l2 s0 s1 s2 M) {Q : Option Value → zM → Prop} (hQ : ∀ r M1, zRI (b75_40 n  l0 l1 l2 s0 s1 s2 M) r M1 → Q r M1) : zWP 75 40 [some (.ref l0), some (.int l1), some (.int l2)] [.int s2, .ref s1, .ref s0] M Q := by
  unfold b75_40 at hQ
  unfold p75_40 at hp
  obtain ⟨hc, hp⟩ := hp
  refine wq_aald rfl hc ?_
  refine wp_go 1 (pc' := 42) (L' := [some (.ref l0), some (.int l1), some (.int l2)]) (st' := [.ref l0, .ref (zQ M s1 s2.toNatClampNeg), .ref s0]) (M' := M) rfl ?_
  obtain ⟨hc, hp⟩ := hp
  refine wq_getQ (j := 0) rfl hc ?_
  refine wp_go 2 (pc' := 47) (L' := [some (.ref l0), some (.int l1), some (.int l2)]) (st' := [.int l2, .int l1, .ref (zQ M l0 0), .ref (zQ M s1 s2.toNatClampNeg), .ref s0]) (M' := M) rfl ?_
  obtain ⟨hc, hp⟩ := hp
  refine wp_calli (v := (b192_0 n l1 l2 M).1) (M1 := (b192_0 n l1 l2 M).2) rfl rfl rfl rfl (s192_0 n l1 l2 M hc (fun r M1 h => h)) ?_
  refine wp_le [some (.ref l0), none, none] (zLe_of (by simp [zLeB])) ?_
  exact s75_50 n    l0 s0 (zQ M s1 s2.toNatClampNeg) (zQ M l0 0) (b192_0 n l1 l2 M).1 (b192_0 n l1 l2 M).2 hp hQ
def b75_30 (n : Nat)  (l0 : Nat) (l1 : Int32) (l2 : Int32) (M : zM) : Int32 × zM := b75_40 n  l0 l1 l2 l0 (zQ M l0 0) (b194_0 n l1 l2 M).1 (b194_0 n l1 l2 M).2
def p75_30 (n : Nat)  (l0 : Nat) (l1 : Int32) (l2 : Int32) (M : zM) : Prop := (zHasQ 9 11 l0 M 0) ∧ ((p194_0 n l1 l2 M) ∧ (p75_40 n  l0 l1 l2 l0 (zQ M l0 0) (b194_0 n l1 l2 M).1 (b194_0 n l1 l2 M).2))
theorem s75_30 (n : Nat)    (l0 : Nat) (l1 : Int32) (l2 : Int32) (M : zM) (hp : p75_30 n  l0 l1 l2 M) {Q : Option Value → zM → Prop} (hQ : ∀ r M1, zRI (b75_30 n  l0 l1 l2 M) r M1 → Q r M1) : zWP 75 30 [some (.ref l0), some (.int l1), some (.int l2)] [] M Q := by
  unfold b75_30 at hQ
  unfold p75_30 at hp
  refine wp_go 2 (pc' := 32) (L' := [some (.ref l0), some (.int l1), some (.int l2)]) (st' := [.ref l0, .ref l0]) (M' := M) rfl ?_
  obtain ⟨hc, hp⟩ := hp
  refine wq_getQ (j := 0) rfl hc ?_
  refine wp_go 2 (pc' := 37) (L' := [some (.ref l0), some (.int l1), some (.int l2)]) (st' := [.int l2, .int l1, .ref (zQ M l0 0), .ref l0]) (M' := M) rfl ?_
  obtain ⟨hc, hp⟩ := hp
  refine wp_calli (v := (b194_0 n l1 l2 M).1) (M1 := (b194_0 n l1 l2 M).2) rfl rfl rfl rfl (s194_0 n l1 l2 M hc (fun r M1 h => h)) ?_
  exact s75_40 n    l0 l1 l2 l0 (zQ M l0 0) (b194_0 n l1 l2 M).1 (b194_0 n l1 l2 M).2 hp hQ
def b75_13 (n : Nat)  (l0 : Nat) (l1 : Int32) (l2 : Int32) (s0 : Int32) (M : zM) : Int32 × zM := (if s0 = 0 then b75_21 n  M else (if l1 = l2 then b75_21 n  M else b75_30 n  l0 l1 l2 (b59_0 n (zQ M l0 6) M)))
def p75_13 (n : Nat)  (l0 : Nat) (l1 : Int32) (l2 : Int32) (s0 : Int32) (M : zM) : Prop := ((s0 = 0 → p75_21 n  M) ∧ (¬ s0 = 0 → ((l1 = l2 → p75_21 n  M) ∧ (¬ l1 = l2 → (zHasQ 9 51 l0 M 6) ∧ ((zHasC 75 257 (zQ M l0 6) M 59 0) ∧ ((p59_0 n (zQ M l0 6) M) ∧ (p75_30 n  l0 l1 l2 (b59_0 n (zQ M l0 6) M))))))))
theorem s75_13 (n : Nat)    (l0 : Nat) (l1 : Int32) (l2 : Int32) (s0 : Int32) (M : zM) (hp : p75_13 n  l0 l1 l2 s0 M) {Q : Option Value → zM → Prop} (hQ : ∀ r M1, zRI (b75_13 n  l0 l1 l2 s0 M) r M1 → Q r M1) : zWP 75 13 [some (.ref l0), some (.int l1), some (.int l2)] [.int s0] M Q := by
  unfold b75_13 at hQ
  unfold p75_13 at hp
  refine wp_if_eq (t := 21) rfl rfl (fun hc => ?_) (fun hc => ?_)
  · rw [if_pos hc] at hQ
    replace hp := hp.1 hc
    refine wp_le [none, none, none] (zLe_of (by simp [zLeB])) ?_
    exact s75_21 n    M hp hQ
  · rw [if_neg hc] at hQ
    replace hp := hp.2 hc
    refine wp_go 2 (pc' := 18) (L' := [some (.ref l0), some (.int l1), some (.int l2)]) (st' := [.int l2, .int l1]) (M' := M) rfl ?_
    refine wp_ic_ne (t := 23) rfl rfl (fun hc => ?_) (fun hc => ?_)
    · rw [if_neg hc] at hQ
      replace hp := hp.2 hc
      refine wp_go 1 (pc' := 24) (L' := [some (.ref l0), some (.int l1), some (.int l2)]) (st' := [.ref l0]) (M' := M) rfl ?_
      obtain ⟨hc, hp⟩ := hp
      refine wq_getQ (j := 6) rfl hc ?_
      obtain ⟨hv, hp⟩ := hp
      obtain ⟨hc, hp⟩ := hp
      refine wp_callv (M1 := (b59_0 n (zQ M l0 6) M)) rfl rfl rfl (zInv_v (np := 0) rfl rfl hv rfl) (s59_0 n (zQ M l0 6) M hc (fun r M1 h => h)) ?_
      exact s75_30 n    l0 l1 l2 (b59_0 n (zQ M l0 6) M) hp hQ
    · rw [if_pos hc] at hQ
      replace hp := hp.1 hc
      refine wp_le [none, none, none] (zLe_of (by simp [zLeB])) ?_
      exact s75_21 n    M hp hQ
def b75_5 (n : Nat)  (l0 : Nat) (l1 : Int32) (l2 : Int32) (s0 : Int32) (M : zM) : Int32 × zM := (if s0 = 0 then b75_21 n  M else b75_13 n  l0 l1 l2 (b91_0 n l0 l2 M).1 (b91_0 n l0 l2 M).2)
def p75_5 (n : Nat)  (l0 : Nat) (l1 : Int32) (l2 : Int32) (s0 : Int32) (M : zM) : Prop := ((s0 = 0 → p75_21 n  M) ∧ (¬ s0 = 0 → (zHasC 75 254 l0 M 91 1) ∧ ((p91_0 n l0 l2 M) ∧ (p75_13 n  l0 l1 l2 (b91_0 n l0 l2 M).1 (b91_0 n l0 l2 M).2))))
theorem s75_5 (n : Nat)    (l0 : Nat) (l1 : Int32) (l2 : Int32) (s0 : Int32) (M : zM) (hp : p75_5 n  l0 l1 l2 s0 M) {Q : Option Value → zM → Prop} (hQ : ∀ r M1, zRI (b75_5 n  l0 l1 l2 s0 M) r M1 → Q r M1) : zWP 75 5 [some (.ref l0), some (.int l1), some (.int l2)] [.int s0] M Q := by
  unfold b75_5 at hQ
  unfold p75_5 at hp
  refine wp_if_eq (t := 21) rfl rfl (fun hc => ?_) (fun hc => ?_)
  · rw [if_pos hc] at hQ
    replace hp := hp.1 hc
    refine wp_le [none, none, none] (zLe_of (by simp [zLeB])) ?_
    exact s75_21 n    M hp hQ
  · rw [if_neg hc] at hQ
    replace hp := hp.2 hc
    refine wp_go 2 (pc' := 10) (L' := [some (.ref l0), some (.int l1), some (.int l2)]) (st' := [.int l2, .ref l0]) (M' := M) rfl ?_
    obtain ⟨hv, hp⟩ := hp
    obtain ⟨hc, hp⟩ := hp
    refine wp_calli (v := (b91_0 n l0 l2 M).1) (M1 := (b91_0 n l0 l2 M).2) rfl rfl rfl (zInv_v (np := 1) rfl rfl hv rfl) (s91_0 n l0 l2 M hc (fun r M1 h => h)) ?_
    exact s75_13 n    l0 l1 l2 (b91_0 n l0 l2 M).1 (b91_0 n l0 l2 M).2 hp hQ
def b75_0 (n : Nat)  (l0 : Nat) (l1 : Int32) (l2 : Int32) (M : zM) : Int32 × zM := b75_5 n  l0 l1 l2 (b91_0 n l0 l1 M).1 (b91_0 n l0 l1 M).2
def p75_0 (n : Nat)  (l0 : Nat) (l1 : Int32) (l2 : Int32) (M : zM) : Prop := (zHasC 75 254 l0 M 91 1) ∧ ((p91_0 n l0 l1 M) ∧ (p75_5 n  l0 l1 l2 (b91_0 n l0 l1 M).1 (b91_0 n l0 l1 M).2))
theorem s75_0 (n : Nat)    (l0 : Nat) (l1 : Int32) (l2 : Int32) (M : zM) (hp : p75_0 n  l0 l1 l2 M) {Q : Option Value → zM → Prop} (hQ : ∀ r M1, zRI (b75_0 n  l0 l1 l2 M) r M1 → Q r M1) : zWP 75 0 [some (.ref l0), some (.int l1), some (.int l2)] [] M Q := by
  unfold b75_0 at hQ
  unfold p75_0 at hp
  refine wp_go 2 (pc' := 2) (L' := [some (.ref l0), some (.int l1), some (.int l2)]) (st' := [.int l1, .ref l0]) (M' := M) rfl ?_
  obtain ⟨hv, hp⟩ := hp
  obtain ⟨hc, hp⟩ := hp
  refine wp_calli (v := (b91_0 n l0 l1 M).1) (M1 := (b91_0 n l0 l1 M).2) rfl rfl rfl (zInv_v (np := 1) rfl rfl hv rfl) (s91_0 n l0 l1 M hc (fun r M1 h => h)) ?_
  exact s75_5 n    l0 l1 l2 (b91_0 n l0 l1 M).1 (b91_0 n l0 l1 M).2 hp hQ
/-! X11_claimAllSteps -/
def b111_74 (n : Nat) (k9 : Nat → Int32 → zM → zM) (k21 : Nat → Int32 → Int32 → zM → zM) (l0 : Nat) (l1 : Int32) (l2 : Int32) (M : zM) : zM := k21 l0 l1 (l2 + Int32.ofInt 1) M
def p111_74 (n : Nat) (q9 : Nat → Int32 → zM → Prop) (q21 : Nat → Int32 → Int32 → zM → Prop) (l0 : Nat) (l1 : Int32) (l2 : Int32) (M : zM) : Prop := q21 l0 l1 (l2 + Int32.ofInt 1) M
theorem s111_74 (n : Nat) (k9 : Nat → Int32 → zM → zM) (k21 : Nat → Int32 → Int32 → zM → zM) (q9 : Nat → Int32 → zM → Prop) (q21 : Nat → Int32 → Int32 → zM → Prop) (h9 : ∀ (l0 : Nat) (l1 : Int32) (M : zM), q9 l0 l1 M → ∀ {Q : Option Value → zM → Prop}, (∀ r M1, zRV (k9 l0 l1 M) r M1 → Q r M1) → zWP 111 9 [some (.ref l0), some (.int l1), none] [] M Q) (h21 : ∀ (l0 : Nat) (l1 : Int32) (l2 : Int32) (M : zM), q21 l0 l1 l2 M → ∀ {Q : Option Value → zM → Prop}, (∀ r M1, zRV (k21 l0 l1 l2 M) r M1 → Q r M1) → zWP 111 21 [some (.ref l0), some (.int l1), some (.int l2)] [] M Q) (l0 : Nat) (l1 : Int32) (l2 : Int32) (M : zM) (hp : p111_74 n q9 q21 l0 l1 l2 M) {Q : Option Value → zM → Prop} (hQ : ∀ r M1, zRV (b111_74 n k9 k21 l0 l1 l2 M) r M1 → Q r M1) : zWP 111 74 [some (.ref l0), some (.int l1), some (.int l2)] [] M Q := by
  unfold b111_74 at hQ
  unfold p111_74 at hp
  refine wp_go 2 (pc' := 21) (L' := [some (.ref l0), some (.int l1), some (.int (l2 + Int32.ofInt 1))]) (st' := []) (M' := M) rfl ?_
  exact h21 l0 l1 (l2 + Int32.ofInt 1) M hp hQ
def b111_73 (n : Nat) (k9 : Nat → Int32 → zM → zM) (k21 : Nat → Int32 → Int32 → zM → zM) (l0 : Nat) (l1 : Int32) (l2 : Int32) (s0 : Int32) (M : zM) : zM := b111_74 n k9 k21 l0 l1 l2 M
def p111_73 (n : Nat) (q9 : Nat → Int32 → zM → Prop) (q21 : Nat → Int32 → Int32 → zM → Prop) (l0 : Nat) (l1 : Int32) (l2 : Int32) (s0 : Int32) (M : zM) : Prop := p111_74 n q9 q21 l0 l1 l2 M
theorem s111_73 (n : Nat) (k9 : Nat → Int32 → zM → zM) (k21 : Nat → Int32 → Int32 → zM → zM) (q9 : Nat → Int32 → zM → Prop) (q21 : Nat → Int32 → Int32 → zM → Prop) (h9 : ∀ (l0 : Nat) (l1 : Int32) (M : zM), q9 l0 l1 M → ∀ {Q : Option Value → zM → Prop}, (∀ r M1, zRV (k9 l0 l1 M) r M1 → Q r M1) → zWP 111 9 [some (.ref l0), some (.int l1), none] [] M Q) (h21 : ∀ (l0 : Nat) (l1 : Int32) (l2 : Int32) (M : zM), q21 l0 l1 l2 M → ∀ {Q : Option Value → zM → Prop}, (∀ r M1, zRV (k21 l0 l1 l2 M) r M1 → Q r M1) → zWP 111 21 [some (.ref l0), some (.int l1), some (.int l2)] [] M Q) (l0 : Nat) (l1 : Int32) (l2 : Int32) (s0 : Int32) (M : zM) (hp : p111_73 n q9 q21 l0 l1 l2 s0 M) {Q : Option Value → zM → Prop} (hQ : ∀ r M1, zRV (b111_73 n k9 k21 l0 l1 l2 s0 M) r M1 → Q r M1) : zWP 111 73 [some (.ref l0), some (.int l1), some (.int l2)] [.int s0] M Q := by
  unfold b111_73 at hQ
  unfold p111_73 at hp
  refine wp_go 1 (pc' := 74) (L' := [some (.ref l0), some (.int l1), some (.int l2)]) (st' := []) (M' := M) rfl ?_
  exact s111_74 n k9 k21 q9 q21 h9 h21 l0 l1 l2 M hp hQ
def c111_21 (n : Nat) (k9 : Nat → Int32 → zM → zM) (k21 : Nat → Int32 → Int32 → zM → zM) (l0 : Nat) (l1 : Int32) (l2 : Int32) (M : zM) : zM := (if (zI M l0 12) ≤ l2 then k9 l0 (l1 + Int32.ofInt 1) M else (if (zI M (zQ M (zQ M l0 0) l1.toNatClampNeg) 8) = 0 then b111_74 n k9 k21 l0 l1 l2 M else (if (zI M (zQ M (zQ M l0 0) l2.toNatClampNeg) 8) = 0 then b111_74 n k9 k21 l0 l1 l2 M else b111_73 n k9 k21 l0 l1 l2 (b100_0 n l0 (zQ M (zQ M l0 0) l1.toNatClampNeg) (zQ M (zQ M l0 0) l2.toNatClampNeg) (zQ M l0 5) M).1 (b100_0 n l0 (zQ M (zQ M l0 0) l1.toNatClampNeg) (zQ M (zQ M l0 0) l2.toNatClampNeg) (zQ M l0 5) M).2)))
def d111_21 (n : Nat) (q9 : Nat → Int32 → zM → Prop) (q21 : Nat → Int32 → Int32 → zM → Prop) (l0 : Nat) (l1 : Int32) (l2 : Int32) (M : zM) : Prop := (zHasI 9 78 l0 M 12) ∧ ((((zI M l0 12) ≤ l2 → q9 l0 (l1 + Int32.ofInt 1) M) ∧ (¬ (zI M l0 12) ≤ l2 → (zHasQ 9 11 l0 M 0) ∧ ((zOkR (zQ M l0 0) l1 M) ∧ ((zHasI 9 124 (zQ M (zQ M l0 0) l1.toNatClampNeg) M 8) ∧ ((((zI M (zQ M (zQ M l0 0) l1.toNatClampNeg) 8) = 0 → p111_74 n q9 q21 l0 l1 l2 M) ∧ (¬ (zI M (zQ M (zQ M l0 0) l1.toNatClampNeg) 8) = 0 → (zHasQ 9 11 l0 M 0) ∧ ((zOkR (zQ M l0 0) l2 M) ∧ ((zHasI 9 124 (zQ M (zQ M l0 0) l2.toNatClampNeg) M 8) ∧ ((((zI M (zQ M (zQ M l0 0) l2.toNatClampNeg) 8) = 0 → p111_74 n q9 q21 l0 l1 l2 M) ∧ (¬ (zI M (zQ M (zQ M l0 0) l2.toNatClampNeg) 8) = 0 → (zHasQ 9 11 l0 M 0) ∧ ((zOkR (zQ M l0 0) l1 M) ∧ ((zHasQ 9 11 l0 M 0) ∧ ((zOkR (zQ M l0 0) l2 M) ∧ ((zHasQ 9 42 l0 M 5) ∧ ((zHasC 111 268 l0 M 100 3) ∧ ((p100_0 n l0 (zQ M (zQ M l0 0) l1.toNatClampNeg) (zQ M (zQ M l0 0) l2.toNatClampNeg) (zQ M l0 5) M) ∧ (p111_73 n q9 q21 l0 l1 l2 (b100_0 n l0 (zQ M (zQ M l0 0) l1.toNatClampNeg) (zQ M (zQ M l0 0) l2.toNatClampNeg) (zQ M l0 5) M).1 (b100_0 n l0 (zQ M (zQ M l0 0) l1.toNatClampNeg) (zQ M (zQ M l0 0) l2.toNatClampNeg) (zQ M l0 5) M).2))))))))))))))))))))
theorem t111_21 (n : Nat) (k9 : Nat → Int32 → zM → zM) (k21 : Nat → Int32 → Int32 → zM → zM) (q9 : Nat → Int32 → zM → Prop) (q21 : Nat → Int32 → Int32 → zM → Prop) (h9 : ∀ (l0 : Nat) (l1 : Int32) (M : zM), q9 l0 l1 M → ∀ {Q : Option Value → zM → Prop}, (∀ r M1, zRV (k9 l0 l1 M) r M1 → Q r M1) → zWP 111 9 [some (.ref l0), some (.int l1), none] [] M Q) (h21 : ∀ (l0 : Nat) (l1 : Int32) (l2 : Int32) (M : zM), q21 l0 l1 l2 M → ∀ {Q : Option Value → zM → Prop}, (∀ r M1, zRV (k21 l0 l1 l2 M) r M1 → Q r M1) → zWP 111 21 [some (.ref l0), some (.int l1), some (.int l2)] [] M Q) (l0 : Nat) (l1 : Int32) (l2 : Int32) (M : zM) (hp : d111_21 n q9 q21 l0 l1 l2 M) {Q : Option Value → zM → Prop} (hQ : ∀ r M1, zRV (c111_21 n k9 k21 l0 l1 l2 M) r M1 → Q r M1) : zWP 111 21 [some (.ref l0), some (.int l1), some (.int l2)] [] M Q := by
  unfold c111_21 at hQ
  unfold d111_21 at hp
  refine wp_go 2 (pc' := 23) (L' := [some (.ref l0), some (.int l1), some (.int l2)]) (st' := [.ref l0, .int l2]) (M' := M) rfl ?_
  obtain ⟨hc, hp⟩ := hp
  refine wq_getI (j := 12) rfl hc ?_
  refine wp_ic_ge (t := 80) rfl rfl (fun hc => ?_) (fun hc => ?_)
  · rw [if_pos hc] at hQ
    replace hp := hp.1 hc
    refine wp_go 2 (pc' := 9) (L' := [some (.ref l0), some (.int (l1 + Int32.ofInt 1)), some (.int l2)]) (st' := []) (M' := M) rfl ?_
    refine wp_le [some (.ref l0), some (.int (l1 + Int32.ofInt 1)), none] (zLe_of (by simp [zLeB])) ?_
    exact h9 l0 (l1 + Int32.ofInt 1) M hp hQ
  · rw [if_neg hc] at hQ
    replace hp := hp.2 hc
    refine wp_go 1 (pc' := 30) (L' := [some (.ref l0), some (.int l1), some (.int l2)]) (st' := [.ref l0]) (M' := M) rfl ?_
    obtain ⟨hc, hp⟩ := hp
    refine wq_getQ (j := 0) rfl hc ?_
    refine wp_go 1 (pc' := 34) (L' := [some (.ref l0), some (.int l1), some (.int l2)]) (st' := [.int l1, .ref (zQ M l0 0)]) (M' := M) rfl ?_
    obtain ⟨hc, hp⟩ := hp
    refine wq_aald rfl hc ?_
    obtain ⟨hc, hp⟩ := hp
    refine wq_getI (j := 8) rfl hc ?_
    refine wp_if_eq (t := 74) rfl rfl (fun hc => ?_) (fun hc => ?_)
    · rw [if_pos hc] at hQ
      replace hp := hp.1 hc
      exact s111_74 n k9 k21 q9 q21 h9 h21 l0 l1 l2 M hp hQ
    · rw [if_neg hc] at hQ
      replace hp := hp.2 hc
      refine wp_go 1 (pc' := 42) (L' := [some (.ref l0), some (.int l1), some (.int l2)]) (st' := [.ref l0]) (M' := M) rfl ?_
      obtain ⟨hc, hp⟩ := hp
      refine wq_getQ (j := 0) rfl hc ?_
      refine wp_go 1 (pc' := 46) (L' := [some (.ref l0), some (.int l1), some (.int l2)]) (st' := [.int l2, .ref (zQ M l0 0)]) (M' := M) rfl ?_
      obtain ⟨hc, hp⟩ := hp
      refine wq_aald rfl hc ?_
      obtain ⟨hc, hp⟩ := hp
      refine wq_getI (j := 8) rfl hc ?_
      refine wp_if_eq (t := 74) rfl rfl (fun hc => ?_) (fun hc => ?_)
      · rw [if_pos hc] at hQ
        replace hp := hp.1 hc
        exact s111_74 n k9 k21 q9 q21 h9 h21 l0 l1 l2 M hp hQ
      · rw [if_neg hc] at hQ
        replace hp := hp.2 hc
        refine wp_go 2 (pc' := 55) (L' := [some (.ref l0), some (.int l1), some (.int l2)]) (st' := [.ref l0, .ref l0]) (M' := M) rfl ?_
        obtain ⟨hc, hp⟩ := hp
        refine wq_getQ (j := 0) rfl hc ?_
        refine wp_go 1 (pc' := 59) (L' := [some (.ref l0), some (.int l1), some (.int l2)]) (st' := [.int l1, .ref (zQ M l0 0), .ref l0]) (M' := M) rfl ?_
        obtain ⟨hc, hp⟩ := hp
        refine wq_aald rfl hc ?_
        refine wp_go 1 (pc' := 61) (L' := [some (.ref l0), some (.int l1), some (.int l2)]) (st' := [.ref l0, .ref (zQ M (zQ M l0 0) l1.toNatClampNeg), .ref l0]) (M' := M) rfl ?_
        obtain ⟨hc, hp⟩ := hp
        refine wq_getQ (j := 0) rfl hc ?_
        refine wp_go 1 (pc' := 65) (L' := [some (.ref l0), some (.int l1), some (.int l2)]) (st' := [.int l2, .ref (zQ M l0 0), .ref (zQ M (zQ M l0 0) l1.toNatClampNeg), .ref l0]) (M' := M) rfl ?_
        obtain ⟨hc, hp⟩ := hp
        refine wq_aald rfl hc ?_
        refine wp_go 1 (pc' := 67) (L' := [some (.ref l0), some (.int l1), some (.int l2)]) (st' := [.ref l0, .ref (zQ M (zQ M l0 0) l2.toNatClampNeg), .ref (zQ M (zQ M l0 0) l1.toNatClampNeg), .ref l0]) (M' := M) rfl ?_
        obtain ⟨hc, hp⟩ := hp
        refine wq_getQ (j := 5) rfl hc ?_
        obtain ⟨hv, hp⟩ := hp
        obtain ⟨hc, hp⟩ := hp
        refine wp_calli (v := (b100_0 n l0 (zQ M (zQ M l0 0) l1.toNatClampNeg) (zQ M (zQ M l0 0) l2.toNatClampNeg) (zQ M l0 5) M).1) (M1 := (b100_0 n l0 (zQ M (zQ M l0 0) l1.toNatClampNeg) (zQ M (zQ M l0 0) l2.toNatClampNeg) (zQ M l0 5) M).2) rfl rfl rfl (zInv_v (np := 3) rfl rfl hv rfl) (s100_0 n l0 (zQ M (zQ M l0 0) l1.toNatClampNeg) (zQ M (zQ M l0 0) l2.toNatClampNeg) (zQ M l0 5) M hc (fun r M1 h => h)) ?_
        exact s111_73 n k9 k21 q9 q21 h9 h21 l0 l1 l2 (b100_0 n l0 (zQ M (zQ M l0 0) l1.toNatClampNeg) (zQ M (zQ M l0 0) l2.toNatClampNeg) (zQ M l0 5) M).1 (b100_0 n l0 (zQ M (zQ M l0 0) l1.toNatClampNeg) (zQ M (zQ M l0 0) l2.toNatClampNeg) (zQ M l0 5) M).2 hp hQ
def b111_21 (n : Nat) (k9 : Nat → Int32 → zM → zM) : Nat → Nat → Int32 → Int32 → zM → zM
  | 0, _, _, _, M => M
  | k + 1, l0, l1, l2, M => c111_21 n k9 (b111_21 n k9 k) l0 l1 l2 M
def p111_21 (n : Nat) (q9 : Nat → Int32 → zM → Prop) : Nat → Nat → Int32 → Int32 → zM → Prop
  | 0, _, _, _, _ => False
  | k + 1, l0, l1, l2, M => d111_21 n q9 (p111_21 n q9 k) l0 l1 l2 M
theorem s111_21 (n : Nat) (k9 : Nat → Int32 → zM → zM) (q9 : Nat → Int32 → zM → Prop) (h9 : ∀ (l0 : Nat) (l1 : Int32) (M : zM), q9 l0 l1 M → ∀ {Q : Option Value → zM → Prop}, (∀ r M1, zRV (k9 l0 l1 M) r M1 → Q r M1) → zWP 111 9 [some (.ref l0), some (.int l1), none] [] M Q) : ∀ (k : Nat) (l0 : Nat) (l1 : Int32) (l2 : Int32) (M : zM), p111_21 n q9 k l0 l1 l2 M → ∀ {Q : Option Value → zM → Prop}, (∀ r M1, zRV (b111_21 n k9 k l0 l1 l2 M) r M1 → Q r M1) → zWP 111 21 [some (.ref l0), some (.int l1), some (.int l2)] [] M Q
  | 0, _, _, _, _, h, _, _ => h.elim
  | k + 1, l0, l1, l2, M, h, _, hQ => t111_21 n k9 (b111_21 n k9 k) q9 (p111_21 n q9 k) h9 (s111_21 n k9 q9 h9 k) l0 l1 l2 M h hQ
def c111_9 (n : Nat) (k9 : Nat → Int32 → zM → zM) (l0 : Nat) (l1 : Int32) (M : zM) : zM := (if (zI M l0 12) ≤ l1 then M else b111_21 n k9 n l0 l1 (l1 + (1 : Int32)) M)
def d111_9 (n : Nat) (q9 : Nat → Int32 → zM → Prop) (l0 : Nat) (l1 : Int32) (M : zM) : Prop := (zHasI 9 78 l0 M 12) ∧ ((((zI M l0 12) ≤ l1 → True) ∧ (¬ (zI M l0 12) ≤ l1 → p111_21 n q9 n l0 l1 (l1 + (1 : Int32)) M)))
theorem t111_9 (n : Nat) (k9 : Nat → Int32 → zM → zM) (q9 : Nat → Int32 → zM → Prop) (h9 : ∀ (l0 : Nat) (l1 : Int32) (M : zM), q9 l0 l1 M → ∀ {Q : Option Value → zM → Prop}, (∀ r M1, zRV (k9 l0 l1 M) r M1 → Q r M1) → zWP 111 9 [some (.ref l0), some (.int l1), none] [] M Q) (l0 : Nat) (l1 : Int32) (M : zM) (hp : d111_9 n q9 l0 l1 M) {Q : Option Value → zM → Prop} (hQ : ∀ r M1, zRV (c111_9 n k9 l0 l1 M) r M1 → Q r M1) : zWP 111 9 [some (.ref l0), some (.int l1), none] [] M Q := by
  unfold c111_9 at hQ
  unfold d111_9 at hp
  refine wp_go 2 (pc' := 11) (L' := [some (.ref l0), some (.int l1), none]) (st' := [.ref l0, .int l1]) (M' := M) rfl ?_
  obtain ⟨hc, hp⟩ := hp
  refine wq_getI (j := 12) rfl hc ?_
  refine wp_ic_ge (t := 86) rfl rfl (fun hc => ?_) (fun hc => ?_)
  · rw [if_pos hc] at hQ
    replace hp := hp.1 hc
    exact wp_ret (r := none) rfl rfl (hQ _ _ ⟨rfl, rfl⟩)
  · rw [if_neg hc] at hQ
    replace hp := hp.2 hc
    refine wp_go 4 (pc' := 21) (L' := [some (.ref l0), some (.int l1), some (.int (l1 + (1 : Int32)))]) (st' := []) (M' := M) rfl ?_
    exact s111_21 n k9 q9 h9 n l0 l1 (l1 + (1 : Int32)) M hp hQ
def b111_9 (n : Nat)  : Nat → Nat → Int32 → zM → zM
  | 0, _, _, M => M
  | k + 1, l0, l1, M => c111_9 n  (b111_9 n  k) l0 l1 M
def p111_9 (n : Nat)  : Nat → Nat → Int32 → zM → Prop
  | 0, _, _, _ => False
  | k + 1, l0, l1, M => d111_9 n  (p111_9 n  k) l0 l1 M
theorem s111_9 (n : Nat)    : ∀ (k : Nat) (l0 : Nat) (l1 : Int32) (M : zM), p111_9 n  k l0 l1 M → ∀ {Q : Option Value → zM → Prop}, (∀ r M1, zRV (b111_9 n  k l0 l1 M) r M1 → Q r M1) → zWP 111 9 [some (.ref l0), some (.int l1), none] [] M Q
  | 0, _, _, _, h, _, _ => h.elim
  | k + 1, l0, l1, M, h, _, hQ => t111_9 n  (b111_9 n  k)  (p111_9 n  k)  (s111_9 n    k) l0 l1 M h hQ
def b111_7 (n : Nat)  (l0 : Nat) (M : zM) : zM := b111_9 n  n l0 (0 : Int32) M
def p111_7 (n : Nat)  (l0 : Nat) (M : zM) : Prop := p111_9 n  n l0 (0 : Int32) M
theorem s111_7 (n : Nat)    (l0 : Nat) (M : zM) (hp : p111_7 n  l0 M) {Q : Option Value → zM → Prop} (hQ : ∀ r M1, zRV (b111_7 n  l0 M) r M1 → Q r M1) : zWP 111 7 [some (.ref l0), none, none] [] M Q := by
  unfold b111_7 at hQ
  unfold p111_7 at hp
  refine wp_go 2 (pc' := 9) (L' := [some (.ref l0), some (.int (0 : Int32)), none]) (st' := []) (M' := M) rfl ?_
  exact s111_9 n    n l0 (0 : Int32) M hp hQ
def b111_0 (n : Nat)  (l0 : Nat) (M : zM) : zM := b111_7 n  l0 (b1_0 n (zQ M l0 5) M)
def p111_0 (n : Nat)  (l0 : Nat) (M : zM) : Prop := (zHasQ 9 42 l0 M 5) ∧ ((zHasC 111 452 (zQ M l0 5) M 1 0) ∧ ((p1_0 n (zQ M l0 5) M) ∧ (p111_7 n  l0 (b1_0 n (zQ M l0 5) M))))
theorem s111_0 (n : Nat)    (l0 : Nat) (M : zM) (hp : p111_0 n  l0 M) {Q : Option Value → zM → Prop} (hQ : ∀ r M1, zRV (b111_0 n  l0 M) r M1 → Q r M1) : zWP 111 0 [some (.ref l0), none, none] [] M Q := by
  unfold b111_0 at hQ
  unfold p111_0 at hp
  refine wp_go 1 (pc' := 1) (L' := [some (.ref l0), none, none]) (st' := [.ref l0]) (M' := M) rfl ?_
  obtain ⟨hc, hp⟩ := hp
  refine wq_getQ (j := 5) rfl hc ?_
  obtain ⟨hv, hp⟩ := hp
  obtain ⟨hc, hp⟩ := hp
  refine wp_callv (M1 := (b1_0 n (zQ M l0 5) M)) rfl rfl rfl (zInv_v (np := 0) rfl rfl hv rfl) (s1_0 n (zQ M l0 5) M hc (fun r M1 h => h)) ?_
  exact s111_7 n    l0 (b1_0 n (zQ M l0 5) M) hp hQ
/-! X11_order -/
def b85_43 (n : Nat)  (l1 : Int32) (M : zM) : Int32 × zM := (l1, M)
def p85_43 (n : Nat)  (l1 : Int32) (M : zM) : Prop := True
theorem s85_43 (n : Nat)    (l1 : Int32) (M : zM) (hp : p85_43 n  l1 M) {Q : Option Value → zM → Prop} (hQ : ∀ r M1, zRI (b85_43 n  l1 M) r M1 → Q r M1) : zWP 85 43 [none, some (.int l1)] [] M Q := by
  unfold b85_43 at hQ
  unfold p85_43 at hp
  refine wp_go 1 (pc' := 44) (L' := [none, some (.int l1)]) (st' := [.int l1]) (M' := M) rfl ?_
  exact wp_ret (r := some (.int l1)) rfl rfl (hQ _ _ ⟨rfl, rfl⟩)
def b85_31 (n : Nat) (k2 : Nat → Int32 → zM → Int32 × zM) (l0 : Nat) (l1 : Int32) (s0 : Int32) (M : zM) : Int32 × zM := (if s0 = 0 then b85_43 n  l1 M else k2 l0 (l1 + Int32.ofInt 1) M)
def p85_31 (n : Nat) (q2 : Nat → Int32 → zM → Prop) (l0 : Nat) (l1 : Int32) (s0 : Int32) (M : zM) : Prop := ((s0 = 0 → p85_43 n  l1 M) ∧ (¬ s0 = 0 → q2 l0 (l1 + Int32.ofInt 1) M))
theorem s85_31 (n : Nat) (k2 : Nat → Int32 → zM → Int32 × zM) (q2 : Nat → Int32 → zM → Prop) (h2 : ∀ (l0 : Nat) (l1 : Int32) (M : zM), q2 l0 l1 M → ∀ {Q : Option Value → zM → Prop}, (∀ r M1, zRI (k2 l0 l1 M) r M1 → Q r M1) → zWP 85 2 [some (.ref l0), some (.int l1)] [] M Q) (l0 : Nat) (l1 : Int32) (s0 : Int32) (M : zM) (hp : p85_31 n q2 l0 l1 s0 M) {Q : Option Value → zM → Prop} (hQ : ∀ r M1, zRI (b85_31 n k2 l0 l1 s0 M) r M1 → Q r M1) : zWP 85 31 [some (.ref l0), some (.int l1)] [.int s0] M Q := by
  unfold b85_31 at hQ
  unfold p85_31 at hp
  refine wp_if_ne (t := 37) rfl rfl (fun hc => ?_) (fun hc => ?_)
  · rw [if_neg hc] at hQ
    replace hp := hp.2 hc
    refine wp_go 2 (pc' := 2) (L' := [some (.ref l0), some (.int (l1 + Int32.ofInt 1))]) (st' := []) (M' := M) rfl ?_
    exact h2 l0 (l1 + Int32.ofInt 1) M hp hQ
  · rw [if_pos hc] at hQ
    replace hp := hp.1 hc
    refine wp_go 1 (pc' := 43) (L' := [some (.ref l0), some (.int l1)]) (st' := []) (M' := M) rfl ?_
    refine wp_le [none, some (.int l1)] (zLe_of (by simp [zLeB])) ?_
    exact s85_43 n    l1 M hp hQ
def b85_27 (n : Nat) (k2 : Nat → Int32 → zM → Int32 × zM) (l0 : Nat) (l1 : Int32) (M : zM) : Int32 × zM := b85_31 n k2 l0 l1 (b110_0 n l0 M).1 (b110_0 n l0 M).2
def p85_27 (n : Nat) (q2 : Nat → Int32 → zM → Prop) (l0 : Nat) (l1 : Int32) (M : zM) : Prop := (zHasC 85 357 l0 M 110 0) ∧ ((p110_0 n l0 M) ∧ (p85_31 n q2 l0 l1 (b110_0 n l0 M).1 (b110_0 n l0 M).2))
theorem s85_27 (n : Nat) (k2 : Nat → Int32 → zM → Int32 × zM) (q2 : Nat → Int32 → zM → Prop) (h2 : ∀ (l0 : Nat) (l1 : Int32) (M : zM), q2 l0 l1 M → ∀ {Q : Option Value → zM → Prop}, (∀ r M1, zRI (k2 l0 l1 M) r M1 → Q r M1) → zWP 85 2 [some (.ref l0), some (.int l1)] [] M Q) (l0 : Nat) (l1 : Int32) (M : zM) (hp : p85_27 n q2 l0 l1 M) {Q : Option Value → zM → Prop} (hQ : ∀ r M1, zRI (b85_27 n k2 l0 l1 M) r M1 → Q r M1) : zWP 85 27 [some (.ref l0), some (.int l1)] [] M Q := by
  unfold b85_27 at hQ
  unfold p85_27 at hp
  refine wp_go 1 (pc' := 28) (L' := [some (.ref l0), some (.int l1)]) (st' := [.ref l0]) (M' := M) rfl ?_
  obtain ⟨hv, hp⟩ := hp
  obtain ⟨hc, hp⟩ := hp
  refine wp_calli (v := (b110_0 n l0 M).1) (M1 := (b110_0 n l0 M).2) rfl rfl rfl (zInv_v (np := 0) rfl rfl hv rfl) (s110_0 n l0 M hc (fun r M1 h => h)) ?_
  exact s85_31 n k2 q2 h2 l0 l1 (b110_0 n l0 M).1 (b110_0 n l0 M).2 hp hQ
def b85_23 (n : Nat) (k2 : Nat → Int32 → zM → Int32 × zM) (l0 : Nat) (l1 : Int32) (M : zM) : Int32 × zM := b85_27 n k2 l0 l1 (b112_0 n l0 M)
def p85_23 (n : Nat) (q2 : Nat → Int32 → zM → Prop) (l0 : Nat) (l1 : Int32) (M : zM) : Prop := (zHasC 85 354 l0 M 112 0) ∧ ((p112_0 n l0 M) ∧ (p85_27 n q2 l0 l1 (b112_0 n l0 M)))
theorem s85_23 (n : Nat) (k2 : Nat → Int32 → zM → Int32 × zM) (q2 : Nat → Int32 → zM → Prop) (h2 : ∀ (l0 : Nat) (l1 : Int32) (M : zM), q2 l0 l1 M → ∀ {Q : Option Value → zM → Prop}, (∀ r M1, zRI (k2 l0 l1 M) r M1 → Q r M1) → zWP 85 2 [some (.ref l0), some (.int l1)] [] M Q) (l0 : Nat) (l1 : Int32) (M : zM) (hp : p85_23 n q2 l0 l1 M) {Q : Option Value → zM → Prop} (hQ : ∀ r M1, zRI (b85_23 n k2 l0 l1 M) r M1 → Q r M1) : zWP 85 23 [some (.ref l0), some (.int l1)] [] M Q := by
  unfold b85_23 at hQ
  unfold p85_23 at hp
  refine wp_go 1 (pc' := 24) (L' := [some (.ref l0), some (.int l1)]) (st' := [.ref l0]) (M' := M) rfl ?_
  obtain ⟨hv, hp⟩ := hp
  obtain ⟨hc, hp⟩ := hp
  refine wp_callv (M1 := (b112_0 n l0 M)) rfl rfl rfl (zInv_v (np := 0) rfl rfl hv rfl) (s112_0 n l0 M hc (fun r M1 h => h)) ?_
  exact s85_27 n k2 q2 h2 l0 l1 (b112_0 n l0 M) hp hQ
def b85_15 (n : Nat) (k2 : Nat → Int32 → zM → Int32 × zM) (l0 : Nat) (l1 : Int32) (s0 : Int32) (M : zM) : Int32 × zM := (if s0 = ((-1) : Int32) then b85_43 n  l1 M else b85_23 n k2 l0 l1 (b111_0 n l0 M))
def p85_15 (n : Nat) (q2 : Nat → Int32 → zM → Prop) (l0 : Nat) (l1 : Int32) (s0 : Int32) (M : zM) : Prop := ((s0 = ((-1) : Int32) → p85_43 n  l1 M) ∧ (¬ s0 = ((-1) : Int32) → (zHasC 85 351 l0 M 111 0) ∧ ((p111_0 n l0 M) ∧ (p85_23 n q2 l0 l1 (b111_0 n l0 M)))))
theorem s85_15 (n : Nat) (k2 : Nat → Int32 → zM → Int32 × zM) (q2 : Nat → Int32 → zM → Prop) (h2 : ∀ (l0 : Nat) (l1 : Int32) (M : zM), q2 l0 l1 M → ∀ {Q : Option Value → zM → Prop}, (∀ r M1, zRI (k2 l0 l1 M) r M1 → Q r M1) → zWP 85 2 [some (.ref l0), some (.int l1)] [] M Q) (l0 : Nat) (l1 : Int32) (s0 : Int32) (M : zM) (hp : p85_15 n q2 l0 l1 s0 M) {Q : Option Value → zM → Prop} (hQ : ∀ r M1, zRI (b85_15 n k2 l0 l1 s0 M) r M1 → Q r M1) : zWP 85 15 [some (.ref l0), some (.int l1)] [.int s0] M Q := by
  unfold b85_15 at hQ
  unfold p85_15 at hp
  refine wp_go 1 (pc' := 16) (L' := [some (.ref l0), some (.int l1)]) (st' := [.int ((-1) : Int32), .int s0]) (M' := M) rfl ?_
  refine wp_ic_eq (t := 43) rfl rfl (fun hc => ?_) (fun hc => ?_)
  · rw [if_pos hc] at hQ
    replace hp := hp.1 hc
    refine wp_le [none, some (.int l1)] (zLe_of (by simp [zLeB])) ?_
    exact s85_43 n    l1 M hp hQ
  · rw [if_neg hc] at hQ
    replace hp := hp.2 hc
    refine wp_go 1 (pc' := 20) (L' := [some (.ref l0), some (.int l1)]) (st' := [.ref l0]) (M' := M) rfl ?_
    obtain ⟨hv, hp⟩ := hp
    obtain ⟨hc, hp⟩ := hp
    refine wp_callv (M1 := (b111_0 n l0 M)) rfl rfl rfl (zInv_v (np := 0) rfl rfl hv rfl) (s111_0 n l0 M hc (fun r M1 h => h)) ?_
    exact s85_23 n k2 q2 h2 l0 l1 (b111_0 n l0 M) hp hQ
def c85_2 (n : Nat) (k2 : Nat → Int32 → zM → Int32 × zM) (l0 : Nat) (l1 : Int32) (M : zM) : Int32 × zM := (if (40 : Int32) ≤ l1 then b85_43 n  l1 M else b85_15 n k2 l0 l1 (b15_0 n (zQ M l0 3) M).1 (b15_0 n (zQ M l0 3) M).2)
def d85_2 (n : Nat) (q2 : Nat → Int32 → zM → Prop) (l0 : Nat) (l1 : Int32) (M : zM) : Prop := (((40 : Int32) ≤ l1 → p85_43 n  l1 M) ∧ (¬ (40 : Int32) ≤ l1 → (zHasQ 9 28 l0 M 3) ∧ ((zHasC 85 311 (zQ M l0 3) M 15 0) ∧ ((p15_0 n (zQ M l0 3) M) ∧ (p85_15 n q2 l0 l1 (b15_0 n (zQ M l0 3) M).1 (b15_0 n (zQ M l0 3) M).2)))))
theorem t85_2 (n : Nat) (k2 : Nat → Int32 → zM → Int32 × zM) (q2 : Nat → Int32 → zM → Prop) (h2 : ∀ (l0 : Nat) (l1 : Int32) (M : zM), q2 l0 l1 M → ∀ {Q : Option Value → zM → Prop}, (∀ r M1, zRI (k2 l0 l1 M) r M1 → Q r M1) → zWP 85 2 [some (.ref l0), some (.int l1)] [] M Q) (l0 : Nat) (l1 : Int32) (M : zM) (hp : d85_2 n q2 l0 l1 M) {Q : Option Value → zM → Prop} (hQ : ∀ r M1, zRI (c85_2 n k2 l0 l1 M) r M1 → Q r M1) : zWP 85 2 [some (.ref l0), some (.int l1)] [] M Q := by
  unfold c85_2 at hQ
  unfold d85_2 at hp
  refine wp_go 2 (pc' := 5) (L' := [some (.ref l0), some (.int l1)]) (st' := [.int (40 : Int32), .int l1]) (M' := M) rfl ?_
  refine wp_ic_ge (t := 43) rfl rfl (fun hc => ?_) (fun hc => ?_)
  · rw [if_pos hc] at hQ
    replace hp := hp.1 hc
    refine wp_le [none, some (.int l1)] (zLe_of (by simp [zLeB])) ?_
    exact s85_43 n    l1 M hp hQ
  · rw [if_neg hc] at hQ
    replace hp := hp.2 hc
    refine wp_go 1 (pc' := 9) (L' := [some (.ref l0), some (.int l1)]) (st' := [.ref l0]) (M' := M) rfl ?_
    obtain ⟨hc, hp⟩ := hp
    refine wq_getQ (j := 3) rfl hc ?_
    obtain ⟨hv, hp⟩ := hp
    obtain ⟨hc, hp⟩ := hp
    refine wp_calli (v := (b15_0 n (zQ M l0 3) M).1) (M1 := (b15_0 n (zQ M l0 3) M).2) rfl rfl rfl (zInv_v (np := 0) rfl rfl hv rfl) (s15_0 n (zQ M l0 3) M hc (fun r M1 h => h)) ?_
    exact s85_15 n k2 q2 h2 l0 l1 (b15_0 n (zQ M l0 3) M).1 (b15_0 n (zQ M l0 3) M).2 hp hQ
def b85_2 (n : Nat)  : Nat → Nat → Int32 → zM → Int32 × zM
  | 0, _, _, M => (0, M)
  | k + 1, l0, l1, M => c85_2 n  (b85_2 n  k) l0 l1 M
def p85_2 (n : Nat)  : Nat → Nat → Int32 → zM → Prop
  | 0, _, _, _ => False
  | k + 1, l0, l1, M => d85_2 n  (p85_2 n  k) l0 l1 M
theorem s85_2 (n : Nat)    : ∀ (k : Nat) (l0 : Nat) (l1 : Int32) (M : zM), p85_2 n  k l0 l1 M → ∀ {Q : Option Value → zM → Prop}, (∀ r M1, zRI (b85_2 n  k l0 l1 M) r M1 → Q r M1) → zWP 85 2 [some (.ref l0), some (.int l1)] [] M Q
  | 0, _, _, _, h, _, _ => h.elim
  | k + 1, l0, l1, M, h, _, hQ => t85_2 n  (b85_2 n  k)  (p85_2 n  k)  (s85_2 n    k) l0 l1 M h hQ
def b85_0 (n : Nat)  (l0 : Nat) (M : zM) : Int32 × zM := b85_2 n  n l0 (0 : Int32) M
def p85_0 (n : Nat)  (l0 : Nat) (M : zM) : Prop := p85_2 n  n l0 (0 : Int32) M
theorem s85_0 (n : Nat)    (l0 : Nat) (M : zM) (hp : p85_0 n  l0 M) {Q : Option Value → zM → Prop} (hQ : ∀ r M1, zRI (b85_0 n  l0 M) r M1 → Q r M1) : zWP 85 0 [some (.ref l0), none] [] M Q := by
  unfold b85_0 at hQ
  unfold p85_0 at hp
  refine wp_go 2 (pc' := 2) (L' := [some (.ref l0), some (.int (0 : Int32))]) (st' := []) (M' := M) rfl ?_
  exact s85_2 n    n l0 (0 : Int32) M hp hQ
/-! X12_init -/
def b117_323 (n : Nat)   (M : zM) : zM := M
def p117_323 (n : Nat)   (M : zM) : Prop := True
theorem s117_323 (n : Nat)     (M : zM) (hp : p117_323 n   M) {Q : Option Value → zM → Prop} (hQ : ∀ r M1, zRV (b117_323 n   M) r M1 → Q r M1) : zWP 117 323 [none] [] M Q := by
  unfold b117_323 at hQ
  unfold p117_323 at hp
  exact wp_ret (r := none) rfl rfl (hQ _ _ ⟨rfl, rfl⟩)
def b117_320 (n : Nat)  (s0 : Nat) (s1 : Nat) (M : zM) : zM := b117_323 n  (zWQ M s0 56 (some s1))
def p117_320 (n : Nat)  (s0 : Nat) (s1 : Nat) (M : zM) : Prop := (zPutQ 117 135 s0 M 56) ∧ (p117_323 n  (zWQ M s0 56 (some s1)))
theorem s117_320 (n : Nat)    (s0 : Nat) (s1 : Nat) (M : zM) (hp : p117_320 n  s0 s1 M) {Q : Option Value → zM → Prop} (hQ : ∀ r M1, zRV (b117_320 n  s0 s1 M) r M1 → Q r M1) : zWP 117 320 [none] [.ref s1, .ref s0] M Q := by
  unfold b117_320 at hQ
  unfold p117_320 at hp
  obtain ⟨hc, hp⟩ := hp
  refine wq_putQ (j := 56) rfl hc ?_
  exact s117_323 n    (zWQ M s0 56 (some s1)) hp hQ
def b117_314 (n : Nat)  (l0 : Nat) (M : zM) : zM := b117_320 n  l0 (zN M) (zNew M (1, (1928 : Int32).toNatClampNeg) (1928 : Int32).toNatClampNeg)
def p117_314 (n : Nat)  (l0 : Nat) (M : zM) : Prop := (zOkW (1928 : Int32) M) ∧ (p117_320 n  l0 (zN M) (zNew M (1, (1928 : Int32).toNatClampNeg) (1928 : Int32).toNatClampNeg))
theorem s117_314 (n : Nat)    (l0 : Nat) (M : zM) (hp : p117_314 n  l0 M) {Q : Option Value → zM → Prop} (hQ : ∀ r M1, zRV (b117_314 n  l0 M) r M1 → Q r M1) : zWP 117 314 [some (.ref l0)] [] M Q := by
  unfold b117_314 at hQ
  unfold p117_314 at hp
  refine wp_go 2 (pc' := 318) (L' := [some (.ref l0)]) (st' := [.int (1928 : Int32), .ref l0]) (M' := M) rfl ?_
  obtain ⟨hc, hp⟩ := hp
  refine wq_newp (k := 0) rfl rfl hc ?_
  refine wp_le [none] (zLe_of (by simp [zLeB])) ?_
  exact s117_320 n    l0 (zN M) (zNew M (1, (1928 : Int32).toNatClampNeg) (1928 : Int32).toNatClampNeg) hp hQ
def b117_311 (n : Nat)  (l0 : Nat) (s0 : Nat) (s1 : Nat) (M : zM) : zM := b117_314 n  l0 (zWQ M s0 55 (some s1))
def p117_311 (n : Nat)  (l0 : Nat) (s0 : Nat) (s1 : Nat) (M : zM) : Prop := (zPutQ 117 132 s0 M 55) ∧ (p117_314 n  l0 (zWQ M s0 55 (some s1)))
theorem s117_311 (n : Nat)    (l0 : Nat) (s0 : Nat) (s1 : Nat) (M : zM) (hp : p117_311 n  l0 s0 s1 M) {Q : Option Value → zM → Prop} (hQ : ∀ r M1, zRV (b117_311 n  l0 s0 s1 M) r M1 → Q r M1) : zWP 117 311 [some (.ref l0)] [.ref s1, .ref s0] M Q := by
  unfold b117_311 at hQ
  unfold p117_311 at hp
  obtain ⟨hc, hp⟩ := hp
  refine wq_putQ (j := 55) rfl hc ?_
  exact s117_314 n    l0 (zWQ M s0 55 (some s1)) hp hQ
def b117_305 (n : Nat)  (l0 : Nat) (M : zM) : zM := b117_311 n  l0 l0 (zN M) (zNew M (1, (240 : Int32).toNatClampNeg) (240 : Int32).toNatClampNeg)
def p117_305 (n : Nat)  (l0 : Nat) (M : zM) : Prop := (zOkW (240 : Int32) M) ∧ (p117_311 n  l0 l0 (zN M) (zNew M (1, (240 : Int32).toNatClampNeg) (240 : Int32).toNatClampNeg))
theorem s117_305 (n : Nat)    (l0 : Nat) (M : zM) (hp : p117_305 n  l0 M) {Q : Option Value → zM → Prop} (hQ : ∀ r M1, zRV (b117_305 n  l0 M) r M1 → Q r M1) : zWP 117 305 [some (.ref l0)] [] M Q := by
  unfold b117_305 at hQ
  unfold p117_305 at hp
  refine wp_go 2 (pc' := 309) (L' := [some (.ref l0)]) (st' := [.int (240 : Int32), .ref l0]) (M' := M) rfl ?_
  obtain ⟨hc, hp⟩ := hp
  refine wq_newp (k := 0) rfl rfl hc ?_
  exact s117_311 n    l0 l0 (zN M) (zNew M (1, (240 : Int32).toNatClampNeg) (240 : Int32).toNatClampNeg) hp hQ
def b117_302 (n : Nat)  (l0 : Nat) (s0 : Nat) (s1 : Nat) (M : zM) : zM := b117_305 n  l0 (zWQ M s0 54 (some s1))
def p117_302 (n : Nat)  (l0 : Nat) (s0 : Nat) (s1 : Nat) (M : zM) : Prop := (zPutQ 117 129 s0 M 54) ∧ (p117_305 n  l0 (zWQ M s0 54 (some s1)))
theorem s117_302 (n : Nat)    (l0 : Nat) (s0 : Nat) (s1 : Nat) (M : zM) (hp : p117_302 n  l0 s0 s1 M) {Q : Option Value → zM → Prop} (hQ : ∀ r M1, zRV (b117_302 n  l0 s0 s1 M) r M1 → Q r M1) : zWP 117 302 [some (.ref l0)] [.ref s1, .ref s0] M Q := by
  unfold b117_302 at hQ
  unfold p117_302 at hp
  obtain ⟨hc, hp⟩ := hp
  refine wq_putQ (j := 54) rfl hc ?_
  exact s117_305 n    l0 (zWQ M s0 54 (some s1)) hp hQ
def b117_296 (n : Nat)  (l0 : Nat) (M : zM) : zM := b117_302 n  l0 l0 (zN M) (zNew M (1, (240 : Int32).toNatClampNeg) (240 : Int32).toNatClampNeg)
def p117_296 (n : Nat)  (l0 : Nat) (M : zM) : Prop := (zOkW (240 : Int32) M) ∧ (p117_302 n  l0 l0 (zN M) (zNew M (1, (240 : Int32).toNatClampNeg) (240 : Int32).toNatClampNeg))
theorem s117_296 (n : Nat)    (l0 : Nat) (M : zM) (hp : p117_296 n  l0 M) {Q : Option Value → zM → Prop} (hQ : ∀ r M1, zRV (b117_296 n  l0 M) r M1 → Q r M1) : zWP 117 296 [some (.ref l0)] [] M Q := by
  unfold b117_296 at hQ
  unfold p117_296 at hp
  refine wp_go 2 (pc' := 300) (L' := [some (.ref l0)]) (st' := [.int (240 : Int32), .ref l0]) (M' := M) rfl ?_
  obtain ⟨hc, hp⟩ := hp
  refine wq_newp (k := 0) rfl rfl hc ?_
  exact s117_302 n    l0 l0 (zN M) (zNew M (1, (240 : Int32).toNatClampNeg) (240 : Int32).toNatClampNeg) hp hQ
def b117_291 (n : Nat)  (l0 : Nat) (M : zM) : zM := b117_296 n  l0 (zWI M l0 53 ((-1) : Int32))
def p117_291 (n : Nat)  (l0 : Nat) (M : zM) : Prop := (zPutI 117 126 l0 M 53 ((-1) : Int32)) ∧ (p117_296 n  l0 (zWI M l0 53 ((-1) : Int32)))
theorem s117_291 (n : Nat)    (l0 : Nat) (M : zM) (hp : p117_291 n  l0 M) {Q : Option Value → zM → Prop} (hQ : ∀ r M1, zRV (b117_291 n  l0 M) r M1 → Q r M1) : zWP 117 291 [some (.ref l0)] [] M Q := by
  unfold b117_291 at hQ
  unfold p117_291 at hp
  refine wp_go 2 (pc' := 293) (L' := [some (.ref l0)]) (st' := [.int ((-1) : Int32), .ref l0]) (M' := M) rfl ?_
  obtain ⟨hc, hp⟩ := hp
  refine wq_putI (j := 53) rfl hc ?_
  exact s117_296 n    l0 (zWI M l0 53 ((-1) : Int32)) hp hQ
def b117_286 (n : Nat)  (l0 : Nat) (M : zM) : zM := b117_291 n  l0 (zWI M l0 52 ((-1) : Int32))
def p117_286 (n : Nat)  (l0 : Nat) (M : zM) : Prop := (zPutI 117 123 l0 M 52 ((-1) : Int32)) ∧ (p117_291 n  l0 (zWI M l0 52 ((-1) : Int32)))
theorem s117_286 (n : Nat)    (l0 : Nat) (M : zM) (hp : p117_286 n  l0 M) {Q : Option Value → zM → Prop} (hQ : ∀ r M1, zRV (b117_286 n  l0 M) r M1 → Q r M1) : zWP 117 286 [some (.ref l0)] [] M Q := by
  unfold b117_286 at hQ
  unfold p117_286 at hp
  refine wp_go 2 (pc' := 288) (L' := [some (.ref l0)]) (st' := [.int ((-1) : Int32), .ref l0]) (M' := M) rfl ?_
  obtain ⟨hc, hp⟩ := hp
  refine wq_putI (j := 52) rfl hc ?_
  exact s117_291 n    l0 (zWI M l0 52 ((-1) : Int32)) hp hQ
def b117_281 (n : Nat)  (l0 : Nat) (M : zM) : zM := b117_286 n  l0 (zWI M l0 51 ((-1) : Int32))
def p117_281 (n : Nat)  (l0 : Nat) (M : zM) : Prop := (zPutI 117 120 l0 M 51 ((-1) : Int32)) ∧ (p117_286 n  l0 (zWI M l0 51 ((-1) : Int32)))
theorem s117_281 (n : Nat)    (l0 : Nat) (M : zM) (hp : p117_281 n  l0 M) {Q : Option Value → zM → Prop} (hQ : ∀ r M1, zRV (b117_281 n  l0 M) r M1 → Q r M1) : zWP 117 281 [some (.ref l0)] [] M Q := by
  unfold b117_281 at hQ
  unfold p117_281 at hp
  refine wp_go 2 (pc' := 283) (L' := [some (.ref l0)]) (st' := [.int ((-1) : Int32), .ref l0]) (M' := M) rfl ?_
  obtain ⟨hc, hp⟩ := hp
  refine wq_putI (j := 51) rfl hc ?_
  exact s117_286 n    l0 (zWI M l0 51 ((-1) : Int32)) hp hQ
def b117_276 (n : Nat)  (l0 : Nat) (M : zM) : zM := b117_281 n  l0 (zWI M l0 50 ((-1) : Int32))
def p117_276 (n : Nat)  (l0 : Nat) (M : zM) : Prop := (zPutI 117 117 l0 M 50 ((-1) : Int32)) ∧ (p117_281 n  l0 (zWI M l0 50 ((-1) : Int32)))
theorem s117_276 (n : Nat)    (l0 : Nat) (M : zM) (hp : p117_276 n  l0 M) {Q : Option Value → zM → Prop} (hQ : ∀ r M1, zRV (b117_276 n  l0 M) r M1 → Q r M1) : zWP 117 276 [some (.ref l0)] [] M Q := by
  unfold b117_276 at hQ
  unfold p117_276 at hp
  refine wp_go 2 (pc' := 278) (L' := [some (.ref l0)]) (st' := [.int ((-1) : Int32), .ref l0]) (M' := M) rfl ?_
  obtain ⟨hc, hp⟩ := hp
  refine wq_putI (j := 50) rfl hc ?_
  exact s117_281 n    l0 (zWI M l0 50 ((-1) : Int32)) hp hQ
def b117_273 (n : Nat)  (l0 : Nat) (s0 : Nat) (s1 : Nat) (M : zM) : zM := b117_276 n  l0 (zWQ M s0 49 (some s1))
def p117_273 (n : Nat)  (l0 : Nat) (s0 : Nat) (s1 : Nat) (M : zM) : Prop := (zPutQ 117 114 s0 M 49) ∧ (p117_276 n  l0 (zWQ M s0 49 (some s1)))
theorem s117_273 (n : Nat)    (l0 : Nat) (s0 : Nat) (s1 : Nat) (M : zM) (hp : p117_273 n  l0 s0 s1 M) {Q : Option Value → zM → Prop} (hQ : ∀ r M1, zRV (b117_273 n  l0 s0 s1 M) r M1 → Q r M1) : zWP 117 273 [some (.ref l0)] [.ref s1, .ref s0] M Q := by
  unfold b117_273 at hQ
  unfold p117_273 at hp
  obtain ⟨hc, hp⟩ := hp
  refine wq_putQ (j := 49) rfl hc ?_
  exact s117_276 n    l0 (zWQ M s0 49 (some s1)) hp hQ
def b117_268 (n : Nat)  (l0 : Nat) (M : zM) : zM := b117_273 n  l0 l0 (zN M) (zNew M (1, (24 : Int32).toNatClampNeg) (24 : Int32).toNatClampNeg)
def p117_268 (n : Nat)  (l0 : Nat) (M : zM) : Prop := (zOkW (24 : Int32) M) ∧ (p117_273 n  l0 l0 (zN M) (zNew M (1, (24 : Int32).toNatClampNeg) (24 : Int32).toNatClampNeg))
theorem s117_268 (n : Nat)    (l0 : Nat) (M : zM) (hp : p117_268 n  l0 M) {Q : Option Value → zM → Prop} (hQ : ∀ r M1, zRV (b117_268 n  l0 M) r M1 → Q r M1) : zWP 117 268 [some (.ref l0)] [] M Q := by
  unfold b117_268 at hQ
  unfold p117_268 at hp
  refine wp_go 2 (pc' := 271) (L' := [some (.ref l0)]) (st' := [.int (24 : Int32), .ref l0]) (M' := M) rfl ?_
  obtain ⟨hc, hp⟩ := hp
  refine wq_newp (k := 0) rfl rfl hc ?_
  exact s117_273 n    l0 l0 (zN M) (zNew M (1, (24 : Int32).toNatClampNeg) (24 : Int32).toNatClampNeg) hp hQ
def b117_265 (n : Nat)  (l0 : Nat) (s0 : Nat) (s1 : Nat) (M : zM) : zM := b117_268 n  l0 (zWQ M s0 48 (some s1))
def p117_265 (n : Nat)  (l0 : Nat) (s0 : Nat) (s1 : Nat) (M : zM) : Prop := (zPutQ 117 111 s0 M 48) ∧ (p117_268 n  l0 (zWQ M s0 48 (some s1)))
theorem s117_265 (n : Nat)    (l0 : Nat) (s0 : Nat) (s1 : Nat) (M : zM) (hp : p117_265 n  l0 s0 s1 M) {Q : Option Value → zM → Prop} (hQ : ∀ r M1, zRV (b117_265 n  l0 s0 s1 M) r M1 → Q r M1) : zWP 117 265 [some (.ref l0)] [.ref s1, .ref s0] M Q := by
  unfold b117_265 at hQ
  unfold p117_265 at hp
  obtain ⟨hc, hp⟩ := hp
  refine wq_putQ (j := 48) rfl hc ?_
  exact s117_268 n    l0 (zWQ M s0 48 (some s1)) hp hQ
def b117_260 (n : Nat)  (l0 : Nat) (M : zM) : zM := b117_265 n  l0 l0 (zN M) (zNew M (1, (24 : Int32).toNatClampNeg) (24 : Int32).toNatClampNeg)
def p117_260 (n : Nat)  (l0 : Nat) (M : zM) : Prop := (zOkW (24 : Int32) M) ∧ (p117_265 n  l0 l0 (zN M) (zNew M (1, (24 : Int32).toNatClampNeg) (24 : Int32).toNatClampNeg))
theorem s117_260 (n : Nat)    (l0 : Nat) (M : zM) (hp : p117_260 n  l0 M) {Q : Option Value → zM → Prop} (hQ : ∀ r M1, zRV (b117_260 n  l0 M) r M1 → Q r M1) : zWP 117 260 [some (.ref l0)] [] M Q := by
  unfold b117_260 at hQ
  unfold p117_260 at hp
  refine wp_go 2 (pc' := 263) (L' := [some (.ref l0)]) (st' := [.int (24 : Int32), .ref l0]) (M' := M) rfl ?_
  obtain ⟨hc, hp⟩ := hp
  refine wq_newp (k := 0) rfl rfl hc ?_
  exact s117_265 n    l0 l0 (zN M) (zNew M (1, (24 : Int32).toNatClampNeg) (24 : Int32).toNatClampNeg) hp hQ
def b117_257 (n : Nat)  (l0 : Nat) (s0 : Nat) (s1 : Nat) (M : zM) : zM := b117_260 n  l0 (zWQ M s0 44 (some s1))
def p117_257 (n : Nat)  (l0 : Nat) (s0 : Nat) (s1 : Nat) (M : zM) : Prop := (zPutQ 117 108 s0 M 44) ∧ (p117_260 n  l0 (zWQ M s0 44 (some s1)))
theorem s117_257 (n : Nat)    (l0 : Nat) (s0 : Nat) (s1 : Nat) (M : zM) (hp : p117_257 n  l0 s0 s1 M) {Q : Option Value → zM → Prop} (hQ : ∀ r M1, zRV (b117_257 n  l0 s0 s1 M) r M1 → Q r M1) : zWP 117 257 [some (.ref l0)] [.ref s1, .ref s0] M Q := by
  unfold b117_257 at hQ
  unfold p117_257 at hp
  obtain ⟨hc, hp⟩ := hp
  refine wq_putQ (j := 44) rfl hc ?_
  exact s117_260 n    l0 (zWQ M s0 44 (some s1)) hp hQ
def b117_252 (n : Nat)  (l0 : Nat) (M : zM) : zM := b117_257 n  l0 l0 (zN M) (zNew M (1, (12 : Int32).toNatClampNeg) (12 : Int32).toNatClampNeg)
def p117_252 (n : Nat)  (l0 : Nat) (M : zM) : Prop := (zOkW (12 : Int32) M) ∧ (p117_257 n  l0 l0 (zN M) (zNew M (1, (12 : Int32).toNatClampNeg) (12 : Int32).toNatClampNeg))
theorem s117_252 (n : Nat)    (l0 : Nat) (M : zM) (hp : p117_252 n  l0 M) {Q : Option Value → zM → Prop} (hQ : ∀ r M1, zRV (b117_252 n  l0 M) r M1 → Q r M1) : zWP 117 252 [some (.ref l0)] [] M Q := by
  unfold b117_252 at hQ
  unfold p117_252 at hp
  refine wp_go 2 (pc' := 255) (L' := [some (.ref l0)]) (st' := [.int (12 : Int32), .ref l0]) (M' := M) rfl ?_
  obtain ⟨hc, hp⟩ := hp
  refine wq_newp (k := 0) rfl rfl hc ?_
  exact s117_257 n    l0 l0 (zN M) (zNew M (1, (12 : Int32).toNatClampNeg) (12 : Int32).toNatClampNeg) hp hQ
def b117_249 (n : Nat)  (l0 : Nat) (s0 : Nat) (s1 : Nat) (M : zM) : zM := b117_252 n  l0 (zWQ M s0 43 (some s1))
def p117_249 (n : Nat)  (l0 : Nat) (s0 : Nat) (s1 : Nat) (M : zM) : Prop := (zPutQ 117 105 s0 M 43) ∧ (p117_252 n  l0 (zWQ M s0 43 (some s1)))
theorem s117_249 (n : Nat)    (l0 : Nat) (s0 : Nat) (s1 : Nat) (M : zM) (hp : p117_249 n  l0 s0 s1 M) {Q : Option Value → zM → Prop} (hQ : ∀ r M1, zRV (b117_249 n  l0 s0 s1 M) r M1 → Q r M1) : zWP 117 249 [some (.ref l0)] [.ref s1, .ref s0] M Q := by
  unfold b117_249 at hQ
  unfold p117_249 at hp
  obtain ⟨hc, hp⟩ := hp
  refine wq_putQ (j := 43) rfl hc ?_
  exact s117_252 n    l0 (zWQ M s0 43 (some s1)) hp hQ
def b117_244 (n : Nat)  (l0 : Nat) (M : zM) : zM := b117_249 n  l0 l0 (zN M) (zNew M (1, (12 : Int32).toNatClampNeg) (12 : Int32).toNatClampNeg)
def p117_244 (n : Nat)  (l0 : Nat) (M : zM) : Prop := (zOkW (12 : Int32) M) ∧ (p117_249 n  l0 l0 (zN M) (zNew M (1, (12 : Int32).toNatClampNeg) (12 : Int32).toNatClampNeg))
theorem s117_244 (n : Nat)    (l0 : Nat) (M : zM) (hp : p117_244 n  l0 M) {Q : Option Value → zM → Prop} (hQ : ∀ r M1, zRV (b117_244 n  l0 M) r M1 → Q r M1) : zWP 117 244 [some (.ref l0)] [] M Q := by
  unfold b117_244 at hQ
  unfold p117_244 at hp
  refine wp_go 2 (pc' := 247) (L' := [some (.ref l0)]) (st' := [.int (12 : Int32), .ref l0]) (M' := M) rfl ?_
  obtain ⟨hc, hp⟩ := hp
  refine wq_newp (k := 0) rfl rfl hc ?_
  exact s117_249 n    l0 l0 (zN M) (zNew M (1, (12 : Int32).toNatClampNeg) (12 : Int32).toNatClampNeg) hp hQ
def b117_241 (n : Nat)  (l0 : Nat) (s0 : Nat) (s1 : Nat) (M : zM) : zM := b117_244 n  l0 (zWQ M s0 42 (some s1))
def p117_241 (n : Nat)  (l0 : Nat) (s0 : Nat) (s1 : Nat) (M : zM) : Prop := (zPutQ 117 102 s0 M 42) ∧ (p117_244 n  l0 (zWQ M s0 42 (some s1)))
theorem s117_241 (n : Nat)    (l0 : Nat) (s0 : Nat) (s1 : Nat) (M : zM) (hp : p117_241 n  l0 s0 s1 M) {Q : Option Value → zM → Prop} (hQ : ∀ r M1, zRV (b117_241 n  l0 s0 s1 M) r M1 → Q r M1) : zWP 117 241 [some (.ref l0)] [.ref s1, .ref s0] M Q := by
  unfold b117_241 at hQ
  unfold p117_241 at hp
  obtain ⟨hc, hp⟩ := hp
  refine wq_putQ (j := 42) rfl hc ?_
  exact s117_244 n    l0 (zWQ M s0 42 (some s1)) hp hQ
def b117_236 (n : Nat)  (l0 : Nat) (M : zM) : zM := b117_241 n  l0 l0 (zN M) (zNew M (1, (12 : Int32).toNatClampNeg) (12 : Int32).toNatClampNeg)
def p117_236 (n : Nat)  (l0 : Nat) (M : zM) : Prop := (zOkW (12 : Int32) M) ∧ (p117_241 n  l0 l0 (zN M) (zNew M (1, (12 : Int32).toNatClampNeg) (12 : Int32).toNatClampNeg))
theorem s117_236 (n : Nat)    (l0 : Nat) (M : zM) (hp : p117_236 n  l0 M) {Q : Option Value → zM → Prop} (hQ : ∀ r M1, zRV (b117_236 n  l0 M) r M1 → Q r M1) : zWP 117 236 [some (.ref l0)] [] M Q := by
  unfold b117_236 at hQ
  unfold p117_236 at hp
  refine wp_go 2 (pc' := 239) (L' := [some (.ref l0)]) (st' := [.int (12 : Int32), .ref l0]) (M' := M) rfl ?_
  obtain ⟨hc, hp⟩ := hp
  refine wq_newp (k := 0) rfl rfl hc ?_
  exact s117_241 n    l0 l0 (zN M) (zNew M (1, (12 : Int32).toNatClampNeg) (12 : Int32).toNatClampNeg) hp hQ
def b117_233 (n : Nat)  (l0 : Nat) (s0 : Nat) (s1 : Nat) (M : zM) : zM := b117_236 n  l0 (zWQ M s0 41 (some s1))
def p117_233 (n : Nat)  (l0 : Nat) (s0 : Nat) (s1 : Nat) (M : zM) : Prop := (zPutQ 117 99 s0 M 41) ∧ (p117_236 n  l0 (zWQ M s0 41 (some s1)))
theorem s117_233 (n : Nat)    (l0 : Nat) (s0 : Nat) (s1 : Nat) (M : zM) (hp : p117_233 n  l0 s0 s1 M) {Q : Option Value → zM → Prop} (hQ : ∀ r M1, zRV (b117_233 n  l0 s0 s1 M) r M1 → Q r M1) : zWP 117 233 [some (.ref l0)] [.ref s1, .ref s0] M Q := by
  unfold b117_233 at hQ
  unfold p117_233 at hp
  obtain ⟨hc, hp⟩ := hp
  refine wq_putQ (j := 41) rfl hc ?_
  exact s117_236 n    l0 (zWQ M s0 41 (some s1)) hp hQ
def b117_228 (n : Nat)  (l0 : Nat) (M : zM) : zM := b117_233 n  l0 l0 (zN M) (zNew M (2, (12 : Int32).toNatClampNeg) (12 : Int32).toNatClampNeg)
def p117_228 (n : Nat)  (l0 : Nat) (M : zM) : Prop := (zOkW (12 : Int32) M) ∧ (p117_233 n  l0 l0 (zN M) (zNew M (2, (12 : Int32).toNatClampNeg) (12 : Int32).toNatClampNeg))
theorem s117_228 (n : Nat)    (l0 : Nat) (M : zM) (hp : p117_228 n  l0 M) {Q : Option Value → zM → Prop} (hQ : ∀ r M1, zRV (b117_228 n  l0 M) r M1 → Q r M1) : zWP 117 228 [some (.ref l0)] [] M Q := by
  unfold b117_228 at hQ
  unfold p117_228 at hp
  refine wp_go 2 (pc' := 231) (L' := [some (.ref l0)]) (st' := [.int (12 : Int32), .ref l0]) (M' := M) rfl ?_
  obtain ⟨hc, hp⟩ := hp
  refine wq_newp (k := 1) rfl rfl hc ?_
  exact s117_233 n    l0 l0 (zN M) (zNew M (2, (12 : Int32).toNatClampNeg) (12 : Int32).toNatClampNeg) hp hQ
def b117_225 (n : Nat)  (l0 : Nat) (s0 : Nat) (s1 : Nat) (M : zM) : zM := b117_228 n  l0 (zWQ M s0 39 (some s1))
def p117_225 (n : Nat)  (l0 : Nat) (s0 : Nat) (s1 : Nat) (M : zM) : Prop := (zPutQ 117 96 s0 M 39) ∧ (p117_228 n  l0 (zWQ M s0 39 (some s1)))
theorem s117_225 (n : Nat)    (l0 : Nat) (s0 : Nat) (s1 : Nat) (M : zM) (hp : p117_225 n  l0 s0 s1 M) {Q : Option Value → zM → Prop} (hQ : ∀ r M1, zRV (b117_225 n  l0 s0 s1 M) r M1 → Q r M1) : zWP 117 225 [some (.ref l0)] [.ref s1, .ref s0] M Q := by
  unfold b117_225 at hQ
  unfold p117_225 at hp
  obtain ⟨hc, hp⟩ := hp
  refine wq_putQ (j := 39) rfl hc ?_
  exact s117_228 n    l0 (zWQ M s0 39 (some s1)) hp hQ
def b117_220 (n : Nat)  (l0 : Nat) (M : zM) : zM := b117_225 n  l0 l0 (zN M) (zNew M (1, (12 : Int32).toNatClampNeg) (12 : Int32).toNatClampNeg)
def p117_220 (n : Nat)  (l0 : Nat) (M : zM) : Prop := (zOkW (12 : Int32) M) ∧ (p117_225 n  l0 l0 (zN M) (zNew M (1, (12 : Int32).toNatClampNeg) (12 : Int32).toNatClampNeg))
theorem s117_220 (n : Nat)    (l0 : Nat) (M : zM) (hp : p117_220 n  l0 M) {Q : Option Value → zM → Prop} (hQ : ∀ r M1, zRV (b117_220 n  l0 M) r M1 → Q r M1) : zWP 117 220 [some (.ref l0)] [] M Q := by
  unfold b117_220 at hQ
  unfold p117_220 at hp
  refine wp_go 2 (pc' := 223) (L' := [some (.ref l0)]) (st' := [.int (12 : Int32), .ref l0]) (M' := M) rfl ?_
  obtain ⟨hc, hp⟩ := hp
  refine wq_newp (k := 0) rfl rfl hc ?_
  exact s117_225 n    l0 l0 (zN M) (zNew M (1, (12 : Int32).toNatClampNeg) (12 : Int32).toNatClampNeg) hp hQ
def b117_217 (n : Nat)  (l0 : Nat) (s0 : Nat) (s1 : Nat) (M : zM) : zM := b117_220 n  l0 (zWQ M s0 38 (some s1))
def p117_217 (n : Nat)  (l0 : Nat) (s0 : Nat) (s1 : Nat) (M : zM) : Prop := (zPutQ 117 93 s0 M 38) ∧ (p117_220 n  l0 (zWQ M s0 38 (some s1)))
theorem s117_217 (n : Nat)    (l0 : Nat) (s0 : Nat) (s1 : Nat) (M : zM) (hp : p117_217 n  l0 s0 s1 M) {Q : Option Value → zM → Prop} (hQ : ∀ r M1, zRV (b117_217 n  l0 s0 s1 M) r M1 → Q r M1) : zWP 117 217 [some (.ref l0)] [.ref s1, .ref s0] M Q := by
  unfold b117_217 at hQ
  unfold p117_217 at hp
  obtain ⟨hc, hp⟩ := hp
  refine wq_putQ (j := 38) rfl hc ?_
  exact s117_220 n    l0 (zWQ M s0 38 (some s1)) hp hQ
def b117_212 (n : Nat)  (l0 : Nat) (M : zM) : zM := b117_217 n  l0 l0 (zN M) (zNew M (2, (12 : Int32).toNatClampNeg) (12 : Int32).toNatClampNeg)
def p117_212 (n : Nat)  (l0 : Nat) (M : zM) : Prop := (zOkW (12 : Int32) M) ∧ (p117_217 n  l0 l0 (zN M) (zNew M (2, (12 : Int32).toNatClampNeg) (12 : Int32).toNatClampNeg))
theorem s117_212 (n : Nat)    (l0 : Nat) (M : zM) (hp : p117_212 n  l0 M) {Q : Option Value → zM → Prop} (hQ : ∀ r M1, zRV (b117_212 n  l0 M) r M1 → Q r M1) : zWP 117 212 [some (.ref l0)] [] M Q := by
  unfold b117_212 at hQ
  unfold p117_212 at hp
  refine wp_go 2 (pc' := 215) (L' := [some (.ref l0)]) (st' := [.int (12 : Int32), .ref l0]) (M' := M) rfl ?_
  obtain ⟨hc, hp⟩ := hp
  refine wq_newp (k := 1) rfl rfl hc ?_
  exact s117_217 n    l0 l0 (zN M) (zNew M (2, (12 : Int32).toNatClampNeg) (12 : Int32).toNatClampNeg) hp hQ
def b117_209 (n : Nat)  (l0 : Nat) (s0 : Nat) (s1 : Nat) (M : zM) : zM := b117_212 n  l0 (zWQ M s0 37 (some s1))
def p117_209 (n : Nat)  (l0 : Nat) (s0 : Nat) (s1 : Nat) (M : zM) : Prop := (zPutQ 117 90 s0 M 37) ∧ (p117_212 n  l0 (zWQ M s0 37 (some s1)))
theorem s117_209 (n : Nat)    (l0 : Nat) (s0 : Nat) (s1 : Nat) (M : zM) (hp : p117_209 n  l0 s0 s1 M) {Q : Option Value → zM → Prop} (hQ : ∀ r M1, zRV (b117_209 n  l0 s0 s1 M) r M1 → Q r M1) : zWP 117 209 [some (.ref l0)] [.ref s1, .ref s0] M Q := by
  unfold b117_209 at hQ
  unfold p117_209 at hp
  obtain ⟨hc, hp⟩ := hp
  refine wq_putQ (j := 37) rfl hc ?_
  exact s117_212 n    l0 (zWQ M s0 37 (some s1)) hp hQ
def b117_204 (n : Nat)  (l0 : Nat) (M : zM) : zM := b117_209 n  l0 l0 (zN M) (zNew M (1, (12 : Int32).toNatClampNeg) (12 : Int32).toNatClampNeg)
def p117_204 (n : Nat)  (l0 : Nat) (M : zM) : Prop := (zOkW (12 : Int32) M) ∧ (p117_209 n  l0 l0 (zN M) (zNew M (1, (12 : Int32).toNatClampNeg) (12 : Int32).toNatClampNeg))
theorem s117_204 (n : Nat)    (l0 : Nat) (M : zM) (hp : p117_204 n  l0 M) {Q : Option Value → zM → Prop} (hQ : ∀ r M1, zRV (b117_204 n  l0 M) r M1 → Q r M1) : zWP 117 204 [some (.ref l0)] [] M Q := by
  unfold b117_204 at hQ
  unfold p117_204 at hp
  refine wp_go 2 (pc' := 207) (L' := [some (.ref l0)]) (st' := [.int (12 : Int32), .ref l0]) (M' := M) rfl ?_
  obtain ⟨hc, hp⟩ := hp
  refine wq_newp (k := 0) rfl rfl hc ?_
  exact s117_209 n    l0 l0 (zN M) (zNew M (1, (12 : Int32).toNatClampNeg) (12 : Int32).toNatClampNeg) hp hQ
def b117_201 (n : Nat)  (l0 : Nat) (s0 : Nat) (s1 : Nat) (M : zM) : zM := b117_204 n  l0 (zWQ M s0 35 (some s1))
def p117_201 (n : Nat)  (l0 : Nat) (s0 : Nat) (s1 : Nat) (M : zM) : Prop := (zPutQ 117 87 s0 M 35) ∧ (p117_204 n  l0 (zWQ M s0 35 (some s1)))
theorem s117_201 (n : Nat)    (l0 : Nat) (s0 : Nat) (s1 : Nat) (M : zM) (hp : p117_201 n  l0 s0 s1 M) {Q : Option Value → zM → Prop} (hQ : ∀ r M1, zRV (b117_201 n  l0 s0 s1 M) r M1 → Q r M1) : zWP 117 201 [some (.ref l0)] [.ref s1, .ref s0] M Q := by
  unfold b117_201 at hQ
  unfold p117_201 at hp
  obtain ⟨hc, hp⟩ := hp
  refine wq_putQ (j := 35) rfl hc ?_
  exact s117_204 n    l0 (zWQ M s0 35 (some s1)) hp hQ
def b117_195 (n : Nat)  (l0 : Nat) (M : zM) : zM := b117_201 n  l0 l0 (zN M) (zNew M (1, (306 : Int32).toNatClampNeg) (306 : Int32).toNatClampNeg)
def p117_195 (n : Nat)  (l0 : Nat) (M : zM) : Prop := (zOkW (306 : Int32) M) ∧ (p117_201 n  l0 l0 (zN M) (zNew M (1, (306 : Int32).toNatClampNeg) (306 : Int32).toNatClampNeg))
theorem s117_195 (n : Nat)    (l0 : Nat) (M : zM) (hp : p117_195 n  l0 M) {Q : Option Value → zM → Prop} (hQ : ∀ r M1, zRV (b117_195 n  l0 M) r M1 → Q r M1) : zWP 117 195 [some (.ref l0)] [] M Q := by
  unfold b117_195 at hQ
  unfold p117_195 at hp
  refine wp_go 2 (pc' := 199) (L' := [some (.ref l0)]) (st' := [.int (306 : Int32), .ref l0]) (M' := M) rfl ?_
  obtain ⟨hc, hp⟩ := hp
  refine wq_newp (k := 0) rfl rfl hc ?_
  exact s117_201 n    l0 l0 (zN M) (zNew M (1, (306 : Int32).toNatClampNeg) (306 : Int32).toNatClampNeg) hp hQ
def b117_190 (n : Nat)  (l0 : Nat) (M : zM) : zM := b117_195 n  l0 (zWI M l0 31 ((-1) : Int32))
def p117_190 (n : Nat)  (l0 : Nat) (M : zM) : Prop := (zPutI 117 84 l0 M 31 ((-1) : Int32)) ∧ (p117_195 n  l0 (zWI M l0 31 ((-1) : Int32)))
theorem s117_190 (n : Nat)    (l0 : Nat) (M : zM) (hp : p117_190 n  l0 M) {Q : Option Value → zM → Prop} (hQ : ∀ r M1, zRV (b117_190 n  l0 M) r M1 → Q r M1) : zWP 117 190 [some (.ref l0)] [] M Q := by
  unfold b117_190 at hQ
  unfold p117_190 at hp
  refine wp_go 2 (pc' := 192) (L' := [some (.ref l0)]) (st' := [.int ((-1) : Int32), .ref l0]) (M' := M) rfl ?_
  obtain ⟨hc, hp⟩ := hp
  refine wq_putI (j := 31) rfl hc ?_
  exact s117_195 n    l0 (zWI M l0 31 ((-1) : Int32)) hp hQ
def b117_185 (n : Nat)  (l0 : Nat) (M : zM) : zM := b117_190 n  l0 (zWI M l0 30 ((-1) : Int32))
def p117_185 (n : Nat)  (l0 : Nat) (M : zM) : Prop := (zPutI 117 81 l0 M 30 ((-1) : Int32)) ∧ (p117_190 n  l0 (zWI M l0 30 ((-1) : Int32)))
theorem s117_185 (n : Nat)    (l0 : Nat) (M : zM) (hp : p117_185 n  l0 M) {Q : Option Value → zM → Prop} (hQ : ∀ r M1, zRV (b117_185 n  l0 M) r M1 → Q r M1) : zWP 117 185 [some (.ref l0)] [] M Q := by
  unfold b117_185 at hQ
  unfold p117_185 at hp
  refine wp_go 2 (pc' := 187) (L' := [some (.ref l0)]) (st' := [.int ((-1) : Int32), .ref l0]) (M' := M) rfl ?_
  obtain ⟨hc, hp⟩ := hp
  refine wq_putI (j := 30) rfl hc ?_
  exact s117_190 n    l0 (zWI M l0 30 ((-1) : Int32)) hp hQ
def b117_182 (n : Nat)  (l0 : Nat) (s0 : Nat) (s1 : Nat) (M : zM) : zM := b117_185 n  l0 (zWQ M s0 25 (some s1))
def p117_182 (n : Nat)  (l0 : Nat) (s0 : Nat) (s1 : Nat) (M : zM) : Prop := (zPutQ 117 78 s0 M 25) ∧ (p117_185 n  l0 (zWQ M s0 25 (some s1)))
theorem s117_182 (n : Nat)    (l0 : Nat) (s0 : Nat) (s1 : Nat) (M : zM) (hp : p117_182 n  l0 s0 s1 M) {Q : Option Value → zM → Prop} (hQ : ∀ r M1, zRV (b117_182 n  l0 s0 s1 M) r M1 → Q r M1) : zWP 117 182 [some (.ref l0)] [.ref s1, .ref s0] M Q := by
  unfold b117_182 at hQ
  unfold p117_182 at hp
  obtain ⟨hc, hp⟩ := hp
  refine wq_putQ (j := 25) rfl hc ?_
  exact s117_185 n    l0 (zWQ M s0 25 (some s1)) hp hQ
def b117_177 (n : Nat)  (l0 : Nat) (M : zM) : zM := b117_182 n  l0 l0 (zN M) (zNew M (1, (41 : Int32).toNatClampNeg) (41 : Int32).toNatClampNeg)
def p117_177 (n : Nat)  (l0 : Nat) (M : zM) : Prop := (zOkW (41 : Int32) M) ∧ (p117_182 n  l0 l0 (zN M) (zNew M (1, (41 : Int32).toNatClampNeg) (41 : Int32).toNatClampNeg))
theorem s117_177 (n : Nat)    (l0 : Nat) (M : zM) (hp : p117_177 n  l0 M) {Q : Option Value → zM → Prop} (hQ : ∀ r M1, zRV (b117_177 n  l0 M) r M1 → Q r M1) : zWP 117 177 [some (.ref l0)] [] M Q := by
  unfold b117_177 at hQ
  unfold p117_177 at hp
  refine wp_go 2 (pc' := 180) (L' := [some (.ref l0)]) (st' := [.int (41 : Int32), .ref l0]) (M' := M) rfl ?_
  obtain ⟨hc, hp⟩ := hp
  refine wq_newp (k := 0) rfl rfl hc ?_
  exact s117_182 n    l0 l0 (zN M) (zNew M (1, (41 : Int32).toNatClampNeg) (41 : Int32).toNatClampNeg) hp hQ
def b117_174 (n : Nat)  (l0 : Nat) (s0 : Nat) (s1 : Nat) (M : zM) : zM := b117_177 n  l0 (zWQ M s0 24 (some s1))
def p117_174 (n : Nat)  (l0 : Nat) (s0 : Nat) (s1 : Nat) (M : zM) : Prop := (zPutQ 117 75 s0 M 24) ∧ (p117_177 n  l0 (zWQ M s0 24 (some s1)))
theorem s117_174 (n : Nat)    (l0 : Nat) (s0 : Nat) (s1 : Nat) (M : zM) (hp : p117_174 n  l0 s0 s1 M) {Q : Option Value → zM → Prop} (hQ : ∀ r M1, zRV (b117_174 n  l0 s0 s1 M) r M1 → Q r M1) : zWP 117 174 [some (.ref l0)] [.ref s1, .ref s0] M Q := by
  unfold b117_174 at hQ
  unfold p117_174 at hp
  obtain ⟨hc, hp⟩ := hp
  refine wq_putQ (j := 24) rfl hc ?_
  exact s117_177 n    l0 (zWQ M s0 24 (some s1)) hp hQ
def b117_169 (n : Nat)  (l0 : Nat) (M : zM) : zM := b117_174 n  l0 l0 (zN M) (zNew M (2, (41 : Int32).toNatClampNeg) (41 : Int32).toNatClampNeg)
def p117_169 (n : Nat)  (l0 : Nat) (M : zM) : Prop := (zOkW (41 : Int32) M) ∧ (p117_174 n  l0 l0 (zN M) (zNew M (2, (41 : Int32).toNatClampNeg) (41 : Int32).toNatClampNeg))
theorem s117_169 (n : Nat)    (l0 : Nat) (M : zM) (hp : p117_169 n  l0 M) {Q : Option Value → zM → Prop} (hQ : ∀ r M1, zRV (b117_169 n  l0 M) r M1 → Q r M1) : zWP 117 169 [some (.ref l0)] [] M Q := by
  unfold b117_169 at hQ
  unfold p117_169 at hp
  refine wp_go 2 (pc' := 172) (L' := [some (.ref l0)]) (st' := [.int (41 : Int32), .ref l0]) (M' := M) rfl ?_
  obtain ⟨hc, hp⟩ := hp
  refine wq_newp (k := 1) rfl rfl hc ?_
  exact s117_174 n    l0 l0 (zN M) (zNew M (2, (41 : Int32).toNatClampNeg) (41 : Int32).toNatClampNeg) hp hQ
def b117_166 (n : Nat)  (l0 : Nat) (s0 : Nat) (s1 : Nat) (M : zM) : zM := b117_169 n  l0 (zWQ M s0 23 (some s1))
def p117_166 (n : Nat)  (l0 : Nat) (s0 : Nat) (s1 : Nat) (M : zM) : Prop := (zPutQ 117 72 s0 M 23) ∧ (p117_169 n  l0 (zWQ M s0 23 (some s1)))
theorem s117_166 (n : Nat)    (l0 : Nat) (s0 : Nat) (s1 : Nat) (M : zM) (hp : p117_166 n  l0 s0 s1 M) {Q : Option Value → zM → Prop} (hQ : ∀ r M1, zRV (b117_166 n  l0 s0 s1 M) r M1 → Q r M1) : zWP 117 166 [some (.ref l0)] [.ref s1, .ref s0] M Q := by
  unfold b117_166 at hQ
  unfold p117_166 at hp
  obtain ⟨hc, hp⟩ := hp
  refine wq_putQ (j := 23) rfl hc ?_
  exact s117_169 n    l0 (zWQ M s0 23 (some s1)) hp hQ
def b117_161 (n : Nat)  (l0 : Nat) (M : zM) : zM := b117_166 n  l0 l0 (zN M) (zNew M (1, (41 : Int32).toNatClampNeg) (41 : Int32).toNatClampNeg)
def p117_161 (n : Nat)  (l0 : Nat) (M : zM) : Prop := (zOkW (41 : Int32) M) ∧ (p117_166 n  l0 l0 (zN M) (zNew M (1, (41 : Int32).toNatClampNeg) (41 : Int32).toNatClampNeg))
theorem s117_161 (n : Nat)    (l0 : Nat) (M : zM) (hp : p117_161 n  l0 M) {Q : Option Value → zM → Prop} (hQ : ∀ r M1, zRV (b117_161 n  l0 M) r M1 → Q r M1) : zWP 117 161 [some (.ref l0)] [] M Q := by
  unfold b117_161 at hQ
  unfold p117_161 at hp
  refine wp_go 2 (pc' := 164) (L' := [some (.ref l0)]) (st' := [.int (41 : Int32), .ref l0]) (M' := M) rfl ?_
  obtain ⟨hc, hp⟩ := hp
  refine wq_newp (k := 0) rfl rfl hc ?_
  exact s117_166 n    l0 l0 (zN M) (zNew M (1, (41 : Int32).toNatClampNeg) (41 : Int32).toNatClampNeg) hp hQ
def b117_158 (n : Nat)  (l0 : Nat) (s0 : Nat) (s1 : Nat) (M : zM) : zM := b117_161 n  l0 (zWQ M s0 22 (some s1))
def p117_158 (n : Nat)  (l0 : Nat) (s0 : Nat) (s1 : Nat) (M : zM) : Prop := (zPutQ 117 69 s0 M 22) ∧ (p117_161 n  l0 (zWQ M s0 22 (some s1)))
theorem s117_158 (n : Nat)    (l0 : Nat) (s0 : Nat) (s1 : Nat) (M : zM) (hp : p117_158 n  l0 s0 s1 M) {Q : Option Value → zM → Prop} (hQ : ∀ r M1, zRV (b117_158 n  l0 s0 s1 M) r M1 → Q r M1) : zWP 117 158 [some (.ref l0)] [.ref s1, .ref s0] M Q := by
  unfold b117_158 at hQ
  unfold p117_158 at hp
  obtain ⟨hc, hp⟩ := hp
  refine wq_putQ (j := 22) rfl hc ?_
  exact s117_161 n    l0 (zWQ M s0 22 (some s1)) hp hQ
def b117_153 (n : Nat)  (l0 : Nat) (M : zM) : zM := b117_158 n  l0 l0 (zN M) (zNew M (1, (41 : Int32).toNatClampNeg) (41 : Int32).toNatClampNeg)
def p117_153 (n : Nat)  (l0 : Nat) (M : zM) : Prop := (zOkW (41 : Int32) M) ∧ (p117_158 n  l0 l0 (zN M) (zNew M (1, (41 : Int32).toNatClampNeg) (41 : Int32).toNatClampNeg))
theorem s117_153 (n : Nat)    (l0 : Nat) (M : zM) (hp : p117_153 n  l0 M) {Q : Option Value → zM → Prop} (hQ : ∀ r M1, zRV (b117_153 n  l0 M) r M1 → Q r M1) : zWP 117 153 [some (.ref l0)] [] M Q := by
  unfold b117_153 at hQ
  unfold p117_153 at hp
  refine wp_go 2 (pc' := 156) (L' := [some (.ref l0)]) (st' := [.int (41 : Int32), .ref l0]) (M' := M) rfl ?_
  obtain ⟨hc, hp⟩ := hp
  refine wq_newp (k := 0) rfl rfl hc ?_
  exact s117_158 n    l0 l0 (zN M) (zNew M (1, (41 : Int32).toNatClampNeg) (41 : Int32).toNatClampNeg) hp hQ
def b117_150 (n : Nat)  (l0 : Nat) (s0 : Nat) (s1 : Nat) (M : zM) : zM := b117_153 n  l0 (zWQ M s0 21 (some s1))
def p117_150 (n : Nat)  (l0 : Nat) (s0 : Nat) (s1 : Nat) (M : zM) : Prop := (zPutQ 117 66 s0 M 21) ∧ (p117_153 n  l0 (zWQ M s0 21 (some s1)))
theorem s117_150 (n : Nat)    (l0 : Nat) (s0 : Nat) (s1 : Nat) (M : zM) (hp : p117_150 n  l0 s0 s1 M) {Q : Option Value → zM → Prop} (hQ : ∀ r M1, zRV (b117_150 n  l0 s0 s1 M) r M1 → Q r M1) : zWP 117 150 [some (.ref l0)] [.ref s1, .ref s0] M Q := by
  unfold b117_150 at hQ
  unfold p117_150 at hp
  obtain ⟨hc, hp⟩ := hp
  refine wq_putQ (j := 21) rfl hc ?_
  exact s117_153 n    l0 (zWQ M s0 21 (some s1)) hp hQ
def b117_145 (n : Nat)  (l0 : Nat) (M : zM) : zM := b117_150 n  l0 l0 (zN M) (zNew M (1, (41 : Int32).toNatClampNeg) (41 : Int32).toNatClampNeg)
def p117_145 (n : Nat)  (l0 : Nat) (M : zM) : Prop := (zOkW (41 : Int32) M) ∧ (p117_150 n  l0 l0 (zN M) (zNew M (1, (41 : Int32).toNatClampNeg) (41 : Int32).toNatClampNeg))
theorem s117_145 (n : Nat)    (l0 : Nat) (M : zM) (hp : p117_145 n  l0 M) {Q : Option Value → zM → Prop} (hQ : ∀ r M1, zRV (b117_145 n  l0 M) r M1 → Q r M1) : zWP 117 145 [some (.ref l0)] [] M Q := by
  unfold b117_145 at hQ
  unfold p117_145 at hp
  refine wp_go 2 (pc' := 148) (L' := [some (.ref l0)]) (st' := [.int (41 : Int32), .ref l0]) (M' := M) rfl ?_
  obtain ⟨hc, hp⟩ := hp
  refine wq_newp (k := 0) rfl rfl hc ?_
  exact s117_150 n    l0 l0 (zN M) (zNew M (1, (41 : Int32).toNatClampNeg) (41 : Int32).toNatClampNeg) hp hQ
def b117_142 (n : Nat)  (l0 : Nat) (s0 : Nat) (s1 : Nat) (M : zM) : zM := b117_145 n  l0 (zWQ M s0 20 (some s1))
def p117_142 (n : Nat)  (l0 : Nat) (s0 : Nat) (s1 : Nat) (M : zM) : Prop := (zPutQ 117 63 s0 M 20) ∧ (p117_145 n  l0 (zWQ M s0 20 (some s1)))
theorem s117_142 (n : Nat)    (l0 : Nat) (s0 : Nat) (s1 : Nat) (M : zM) (hp : p117_142 n  l0 s0 s1 M) {Q : Option Value → zM → Prop} (hQ : ∀ r M1, zRV (b117_142 n  l0 s0 s1 M) r M1 → Q r M1) : zWP 117 142 [some (.ref l0)] [.ref s1, .ref s0] M Q := by
  unfold b117_142 at hQ
  unfold p117_142 at hp
  obtain ⟨hc, hp⟩ := hp
  refine wq_putQ (j := 20) rfl hc ?_
  exact s117_145 n    l0 (zWQ M s0 20 (some s1)) hp hQ
def b117_137 (n : Nat)  (l0 : Nat) (M : zM) : zM := b117_142 n  l0 l0 (zN M) (zNew M (1, (41 : Int32).toNatClampNeg) (41 : Int32).toNatClampNeg)
def p117_137 (n : Nat)  (l0 : Nat) (M : zM) : Prop := (zOkW (41 : Int32) M) ∧ (p117_142 n  l0 l0 (zN M) (zNew M (1, (41 : Int32).toNatClampNeg) (41 : Int32).toNatClampNeg))
theorem s117_137 (n : Nat)    (l0 : Nat) (M : zM) (hp : p117_137 n  l0 M) {Q : Option Value → zM → Prop} (hQ : ∀ r M1, zRV (b117_137 n  l0 M) r M1 → Q r M1) : zWP 117 137 [some (.ref l0)] [] M Q := by
  unfold b117_137 at hQ
  unfold p117_137 at hp
  refine wp_go 2 (pc' := 140) (L' := [some (.ref l0)]) (st' := [.int (41 : Int32), .ref l0]) (M' := M) rfl ?_
  obtain ⟨hc, hp⟩ := hp
  refine wq_newp (k := 0) rfl rfl hc ?_
  exact s117_142 n    l0 l0 (zN M) (zNew M (1, (41 : Int32).toNatClampNeg) (41 : Int32).toNatClampNeg) hp hQ
def b117_134 (n : Nat)  (l0 : Nat) (s0 : Nat) (s1 : Nat) (M : zM) : zM := b117_137 n  l0 (zWQ M s0 19 (some s1))
def p117_134 (n : Nat)  (l0 : Nat) (s0 : Nat) (s1 : Nat) (M : zM) : Prop := (zPutQ 117 60 s0 M 19) ∧ (p117_137 n  l0 (zWQ M s0 19 (some s1)))
theorem s117_134 (n : Nat)    (l0 : Nat) (s0 : Nat) (s1 : Nat) (M : zM) (hp : p117_134 n  l0 s0 s1 M) {Q : Option Value → zM → Prop} (hQ : ∀ r M1, zRV (b117_134 n  l0 s0 s1 M) r M1 → Q r M1) : zWP 117 134 [some (.ref l0)] [.ref s1, .ref s0] M Q := by
  unfold b117_134 at hQ
  unfold p117_134 at hp
  obtain ⟨hc, hp⟩ := hp
  refine wq_putQ (j := 19) rfl hc ?_
  exact s117_137 n    l0 (zWQ M s0 19 (some s1)) hp hQ
def b117_129 (n : Nat)  (l0 : Nat) (M : zM) : zM := b117_134 n  l0 l0 (zN M) (zNew M (1, (41 : Int32).toNatClampNeg) (41 : Int32).toNatClampNeg)
def p117_129 (n : Nat)  (l0 : Nat) (M : zM) : Prop := (zOkW (41 : Int32) M) ∧ (p117_134 n  l0 l0 (zN M) (zNew M (1, (41 : Int32).toNatClampNeg) (41 : Int32).toNatClampNeg))
theorem s117_129 (n : Nat)    (l0 : Nat) (M : zM) (hp : p117_129 n  l0 M) {Q : Option Value → zM → Prop} (hQ : ∀ r M1, zRV (b117_129 n  l0 M) r M1 → Q r M1) : zWP 117 129 [some (.ref l0)] [] M Q := by
  unfold b117_129 at hQ
  unfold p117_129 at hp
  refine wp_go 2 (pc' := 132) (L' := [some (.ref l0)]) (st' := [.int (41 : Int32), .ref l0]) (M' := M) rfl ?_
  obtain ⟨hc, hp⟩ := hp
  refine wq_newp (k := 0) rfl rfl hc ?_
  exact s117_134 n    l0 l0 (zN M) (zNew M (1, (41 : Int32).toNatClampNeg) (41 : Int32).toNatClampNeg) hp hQ
def b117_126 (n : Nat)  (l0 : Nat) (s0 : Nat) (s1 : Nat) (M : zM) : zM := b117_129 n  l0 (zWQ M s0 18 (some s1))
def p117_126 (n : Nat)  (l0 : Nat) (s0 : Nat) (s1 : Nat) (M : zM) : Prop := (zPutQ 117 57 s0 M 18) ∧ (p117_129 n  l0 (zWQ M s0 18 (some s1)))
theorem s117_126 (n : Nat)    (l0 : Nat) (s0 : Nat) (s1 : Nat) (M : zM) (hp : p117_126 n  l0 s0 s1 M) {Q : Option Value → zM → Prop} (hQ : ∀ r M1, zRV (b117_126 n  l0 s0 s1 M) r M1 → Q r M1) : zWP 117 126 [some (.ref l0)] [.ref s1, .ref s0] M Q := by
  unfold b117_126 at hQ
  unfold p117_126 at hp
  obtain ⟨hc, hp⟩ := hp
  refine wq_putQ (j := 18) rfl hc ?_
  exact s117_129 n    l0 (zWQ M s0 18 (some s1)) hp hQ
def b117_121 (n : Nat)  (l0 : Nat) (M : zM) : zM := b117_126 n  l0 l0 (zN M) (zNew M (1, (41 : Int32).toNatClampNeg) (41 : Int32).toNatClampNeg)
def p117_121 (n : Nat)  (l0 : Nat) (M : zM) : Prop := (zOkW (41 : Int32) M) ∧ (p117_126 n  l0 l0 (zN M) (zNew M (1, (41 : Int32).toNatClampNeg) (41 : Int32).toNatClampNeg))
theorem s117_121 (n : Nat)    (l0 : Nat) (M : zM) (hp : p117_121 n  l0 M) {Q : Option Value → zM → Prop} (hQ : ∀ r M1, zRV (b117_121 n  l0 M) r M1 → Q r M1) : zWP 117 121 [some (.ref l0)] [] M Q := by
  unfold b117_121 at hQ
  unfold p117_121 at hp
  refine wp_go 2 (pc' := 124) (L' := [some (.ref l0)]) (st' := [.int (41 : Int32), .ref l0]) (M' := M) rfl ?_
  obtain ⟨hc, hp⟩ := hp
  refine wq_newp (k := 0) rfl rfl hc ?_
  exact s117_126 n    l0 l0 (zN M) (zNew M (1, (41 : Int32).toNatClampNeg) (41 : Int32).toNatClampNeg) hp hQ
def b117_118 (n : Nat)  (l0 : Nat) (s0 : Nat) (s1 : Nat) (M : zM) : zM := b117_121 n  l0 (zWQ M s0 17 (some s1))
def p117_118 (n : Nat)  (l0 : Nat) (s0 : Nat) (s1 : Nat) (M : zM) : Prop := (zPutQ 117 54 s0 M 17) ∧ (p117_121 n  l0 (zWQ M s0 17 (some s1)))
theorem s117_118 (n : Nat)    (l0 : Nat) (s0 : Nat) (s1 : Nat) (M : zM) (hp : p117_118 n  l0 s0 s1 M) {Q : Option Value → zM → Prop} (hQ : ∀ r M1, zRV (b117_118 n  l0 s0 s1 M) r M1 → Q r M1) : zWP 117 118 [some (.ref l0)] [.ref s1, .ref s0] M Q := by
  unfold b117_118 at hQ
  unfold p117_118 at hp
  obtain ⟨hc, hp⟩ := hp
  refine wq_putQ (j := 17) rfl hc ?_
  exact s117_121 n    l0 (zWQ M s0 17 (some s1)) hp hQ
def b117_113 (n : Nat)  (l0 : Nat) (M : zM) : zM := b117_118 n  l0 l0 (zN M) (zNew M (2, (41 : Int32).toNatClampNeg) (41 : Int32).toNatClampNeg)
def p117_113 (n : Nat)  (l0 : Nat) (M : zM) : Prop := (zOkW (41 : Int32) M) ∧ (p117_118 n  l0 l0 (zN M) (zNew M (2, (41 : Int32).toNatClampNeg) (41 : Int32).toNatClampNeg))
theorem s117_113 (n : Nat)    (l0 : Nat) (M : zM) (hp : p117_113 n  l0 M) {Q : Option Value → zM → Prop} (hQ : ∀ r M1, zRV (b117_113 n  l0 M) r M1 → Q r M1) : zWP 117 113 [some (.ref l0)] [] M Q := by
  unfold b117_113 at hQ
  unfold p117_113 at hp
  refine wp_go 2 (pc' := 116) (L' := [some (.ref l0)]) (st' := [.int (41 : Int32), .ref l0]) (M' := M) rfl ?_
  obtain ⟨hc, hp⟩ := hp
  refine wq_newp (k := 1) rfl rfl hc ?_
  exact s117_118 n    l0 l0 (zN M) (zNew M (2, (41 : Int32).toNatClampNeg) (41 : Int32).toNatClampNeg) hp hQ
def b117_108 (n : Nat)  (l0 : Nat) (M : zM) : zM := b117_113 n  l0 (zWI M l0 14 (3 : Int32))
def p117_108 (n : Nat)  (l0 : Nat) (M : zM) : Prop := (zPutI 117 51 l0 M 14 (3 : Int32)) ∧ (p117_113 n  l0 (zWI M l0 14 (3 : Int32)))
theorem s117_108 (n : Nat)    (l0 : Nat) (M : zM) (hp : p117_108 n  l0 M) {Q : Option Value → zM → Prop} (hQ : ∀ r M1, zRV (b117_108 n  l0 M) r M1 → Q r M1) : zWP 117 108 [some (.ref l0)] [] M Q := by
  unfold b117_108 at hQ
  unfold p117_108 at hp
  refine wp_go 2 (pc' := 110) (L' := [some (.ref l0)]) (st' := [.int (3 : Int32), .ref l0]) (M' := M) rfl ?_
  obtain ⟨hc, hp⟩ := hp
  refine wq_putI (j := 14) rfl hc ?_
  exact s117_113 n    l0 (zWI M l0 14 (3 : Int32)) hp hQ
def b117_101 (n : Nat)  (l0 : Nat) (M : zM) : zM := b117_108 n  l0 (zWI M l0 13 (3000 : Int32))
def p117_101 (n : Nat)  (l0 : Nat) (M : zM) : Prop := (zPutI 117 48 l0 M 13 (3000 : Int32)) ∧ (p117_108 n  l0 (zWI M l0 13 (3000 : Int32)))
theorem s117_101 (n : Nat)    (l0 : Nat) (M : zM) (hp : p117_101 n  l0 M) {Q : Option Value → zM → Prop} (hQ : ∀ r M1, zRV (b117_101 n  l0 M) r M1 → Q r M1) : zWP 117 101 [some (.ref l0)] [] M Q := by
  unfold b117_101 at hQ
  unfold p117_101 at hp
  refine wp_go 2 (pc' := 105) (L' := [some (.ref l0)]) (st' := [.int (3000 : Int32), .ref l0]) (M' := M) rfl ?_
  obtain ⟨hc, hp⟩ := hp
  refine wq_putI (j := 13) rfl hc ?_
  exact s117_108 n    l0 (zWI M l0 13 (3000 : Int32)) hp hQ
def b117_95 (n : Nat)  (l0 : Nat) (M : zM) : zM := b117_101 n  l0 (zWI M l0 12 (10 : Int32))
def p117_95 (n : Nat)  (l0 : Nat) (M : zM) : Prop := (zPutI 117 45 l0 M 12 (10 : Int32)) ∧ (p117_101 n  l0 (zWI M l0 12 (10 : Int32)))
theorem s117_95 (n : Nat)    (l0 : Nat) (M : zM) (hp : p117_95 n  l0 M) {Q : Option Value → zM → Prop} (hQ : ∀ r M1, zRV (b117_95 n  l0 M) r M1 → Q r M1) : zWP 117 95 [some (.ref l0)] [] M Q := by
  unfold b117_95 at hQ
  unfold p117_95 at hp
  refine wp_go 2 (pc' := 98) (L' := [some (.ref l0)]) (st' := [.int (10 : Int32), .ref l0]) (M' := M) rfl ?_
  obtain ⟨hc, hp⟩ := hp
  refine wq_putI (j := 12) rfl hc ?_
  exact s117_101 n    l0 (zWI M l0 12 (10 : Int32)) hp hQ
def b117_89 (n : Nat)  (l0 : Nat) (M : zM) : zM := b117_95 n  l0 (zWI M l0 11 (6 : Int32))
def p117_89 (n : Nat)  (l0 : Nat) (M : zM) : Prop := (zPutI 117 41 l0 M 11 (6 : Int32)) ∧ (p117_95 n  l0 (zWI M l0 11 (6 : Int32)))
theorem s117_89 (n : Nat)    (l0 : Nat) (M : zM) (hp : p117_89 n  l0 M) {Q : Option Value → zM → Prop} (hQ : ∀ r M1, zRV (b117_89 n  l0 M) r M1 → Q r M1) : zWP 117 89 [some (.ref l0)] [] M Q := by
  unfold b117_89 at hQ
  unfold p117_89 at hp
  refine wp_go 2 (pc' := 92) (L' := [some (.ref l0)]) (st' := [.int (6 : Int32), .ref l0]) (M' := M) rfl ?_
  obtain ⟨hc, hp⟩ := hp
  refine wq_putI (j := 11) rfl hc ?_
  exact s117_95 n    l0 (zWI M l0 11 (6 : Int32)) hp hQ
def b117_86 (n : Nat)  (l0 : Nat) (s0 : Nat) (s1 : Nat) (M : zM) : zM := b117_89 n  l0 (zWQ M s0 10 (some s1))
def p117_86 (n : Nat)  (l0 : Nat) (s0 : Nat) (s1 : Nat) (M : zM) : Prop := (zPutQ 117 38 s0 M 10) ∧ (p117_89 n  l0 (zWQ M s0 10 (some s1)))
theorem s117_86 (n : Nat)    (l0 : Nat) (s0 : Nat) (s1 : Nat) (M : zM) (hp : p117_86 n  l0 s0 s1 M) {Q : Option Value → zM → Prop} (hQ : ∀ r M1, zRV (b117_86 n  l0 s0 s1 M) r M1 → Q r M1) : zWP 117 86 [some (.ref l0)] [.ref s1, .ref s0] M Q := by
  unfold b117_86 at hQ
  unfold p117_86 at hp
  obtain ⟨hc, hp⟩ := hp
  refine wq_putQ (j := 10) rfl hc ?_
  exact s117_89 n    l0 (zWQ M s0 10 (some s1)) hp hQ
def b117_80 (n : Nat)  (l0 : Nat) (M : zM) : zM := b117_86 n  l0 l0 (zN M) (zNew M (1, (240 : Int32).toNatClampNeg) (240 : Int32).toNatClampNeg)
def p117_80 (n : Nat)  (l0 : Nat) (M : zM) : Prop := (zOkW (240 : Int32) M) ∧ (p117_86 n  l0 l0 (zN M) (zNew M (1, (240 : Int32).toNatClampNeg) (240 : Int32).toNatClampNeg))
theorem s117_80 (n : Nat)    (l0 : Nat) (M : zM) (hp : p117_80 n  l0 M) {Q : Option Value → zM → Prop} (hQ : ∀ r M1, zRV (b117_80 n  l0 M) r M1 → Q r M1) : zWP 117 80 [some (.ref l0)] [] M Q := by
  unfold b117_80 at hQ
  unfold p117_80 at hp
  refine wp_go 2 (pc' := 84) (L' := [some (.ref l0)]) (st' := [.int (240 : Int32), .ref l0]) (M' := M) rfl ?_
  obtain ⟨hc, hp⟩ := hp
  refine wq_newp (k := 0) rfl rfl hc ?_
  exact s117_86 n    l0 l0 (zN M) (zNew M (1, (240 : Int32).toNatClampNeg) (240 : Int32).toNatClampNeg) hp hQ
def b117_77 (n : Nat)  (l0 : Nat) (s0 : Nat) (s1 : Nat) (M : zM) : zM := b117_80 n  l0 (zWQ M s0 9 (some s1))
def p117_77 (n : Nat)  (l0 : Nat) (s0 : Nat) (s1 : Nat) (M : zM) : Prop := (zPutQ 117 35 s0 M 9) ∧ (p117_80 n  l0 (zWQ M s0 9 (some s1)))
theorem s117_77 (n : Nat)    (l0 : Nat) (s0 : Nat) (s1 : Nat) (M : zM) (hp : p117_77 n  l0 s0 s1 M) {Q : Option Value → zM → Prop} (hQ : ∀ r M1, zRV (b117_77 n  l0 s0 s1 M) r M1 → Q r M1) : zWP 117 77 [some (.ref l0)] [.ref s1, .ref s0] M Q := by
  unfold b117_77 at hQ
  unfold p117_77 at hp
  obtain ⟨hc, hp⟩ := hp
  refine wq_putQ (j := 9) rfl hc ?_
  exact s117_80 n    l0 (zWQ M s0 9 (some s1)) hp hQ
def b117_71 (n : Nat)  (l0 : Nat) (M : zM) : zM := b117_77 n  l0 l0 (zN M) (zNew M (1, (240 : Int32).toNatClampNeg) (240 : Int32).toNatClampNeg)
def p117_71 (n : Nat)  (l0 : Nat) (M : zM) : Prop := (zOkW (240 : Int32) M) ∧ (p117_77 n  l0 l0 (zN M) (zNew M (1, (240 : Int32).toNatClampNeg) (240 : Int32).toNatClampNeg))
theorem s117_71 (n : Nat)    (l0 : Nat) (M : zM) (hp : p117_71 n  l0 M) {Q : Option Value → zM → Prop} (hQ : ∀ r M1, zRV (b117_71 n  l0 M) r M1 → Q r M1) : zWP 117 71 [some (.ref l0)] [] M Q := by
  unfold b117_71 at hQ
  unfold p117_71 at hp
  refine wp_go 2 (pc' := 75) (L' := [some (.ref l0)]) (st' := [.int (240 : Int32), .ref l0]) (M' := M) rfl ?_
  obtain ⟨hc, hp⟩ := hp
  refine wq_newp (k := 0) rfl rfl hc ?_
  exact s117_77 n    l0 l0 (zN M) (zNew M (1, (240 : Int32).toNatClampNeg) (240 : Int32).toNatClampNeg) hp hQ
def b117_68 (n : Nat)  (l0 : Nat) (s0 : Nat) (s1 : Nat) (M : zM) : zM := b117_71 n  l0 (zWQ M s0 8 (some s1))
def p117_68 (n : Nat)  (l0 : Nat) (s0 : Nat) (s1 : Nat) (M : zM) : Prop := (zPutQ 117 32 s0 M 8) ∧ (p117_71 n  l0 (zWQ M s0 8 (some s1)))
theorem s117_68 (n : Nat)    (l0 : Nat) (s0 : Nat) (s1 : Nat) (M : zM) (hp : p117_68 n  l0 s0 s1 M) {Q : Option Value → zM → Prop} (hQ : ∀ r M1, zRV (b117_68 n  l0 s0 s1 M) r M1 → Q r M1) : zWP 117 68 [some (.ref l0)] [.ref s1, .ref s0] M Q := by
  unfold b117_68 at hQ
  unfold p117_68 at hp
  obtain ⟨hc, hp⟩ := hp
  refine wq_putQ (j := 8) rfl hc ?_
  exact s117_71 n    l0 (zWQ M s0 8 (some s1)) hp hQ
def b117_62 (n : Nat)  (l0 : Nat) (M : zM) : zM := b117_68 n  l0 l0 (zN M) (zNew M (2, (240 : Int32).toNatClampNeg) (240 : Int32).toNatClampNeg)
def p117_62 (n : Nat)  (l0 : Nat) (M : zM) : Prop := (zOkW (240 : Int32) M) ∧ (p117_68 n  l0 l0 (zN M) (zNew M (2, (240 : Int32).toNatClampNeg) (240 : Int32).toNatClampNeg))
theorem s117_62 (n : Nat)    (l0 : Nat) (M : zM) (hp : p117_62 n  l0 M) {Q : Option Value → zM → Prop} (hQ : ∀ r M1, zRV (b117_62 n  l0 M) r M1 → Q r M1) : zWP 117 62 [some (.ref l0)] [] M Q := by
  unfold b117_62 at hQ
  unfold p117_62 at hp
  refine wp_go 2 (pc' := 66) (L' := [some (.ref l0)]) (st' := [.int (240 : Int32), .ref l0]) (M' := M) rfl ?_
  obtain ⟨hc, hp⟩ := hp
  refine wq_newp (k := 1) rfl rfl hc ?_
  exact s117_68 n    l0 l0 (zN M) (zNew M (2, (240 : Int32).toNatClampNeg) (240 : Int32).toNatClampNeg) hp hQ
def b117_59 (n : Nat)  (l0 : Nat) (s0 : Nat) (s1 : Nat) (M : zM) : zM := b117_62 n  l0 (zWQ M s0 7 (some s1))
def p117_59 (n : Nat)  (l0 : Nat) (s0 : Nat) (s1 : Nat) (M : zM) : Prop := (zPutQ 117 29 s0 M 7) ∧ (p117_62 n  l0 (zWQ M s0 7 (some s1)))
theorem s117_59 (n : Nat)    (l0 : Nat) (s0 : Nat) (s1 : Nat) (M : zM) (hp : p117_59 n  l0 s0 s1 M) {Q : Option Value → zM → Prop} (hQ : ∀ r M1, zRV (b117_59 n  l0 s0 s1 M) r M1 → Q r M1) : zWP 117 59 [some (.ref l0)] [.ref s1, .ref s0] M Q := by
  unfold b117_59 at hQ
  unfold p117_59 at hp
  obtain ⟨hc, hp⟩ := hp
  refine wq_putQ (j := 7) rfl hc ?_
  exact s117_62 n    l0 (zWQ M s0 7 (some s1)) hp hQ
def b117_53 (n : Nat)  (l0 : Nat) (M : zM) : zM := b117_59 n  l0 l0 (zN M) (zNew M (1, (240 : Int32).toNatClampNeg) (240 : Int32).toNatClampNeg)
def p117_53 (n : Nat)  (l0 : Nat) (M : zM) : Prop := (zOkW (240 : Int32) M) ∧ (p117_59 n  l0 l0 (zN M) (zNew M (1, (240 : Int32).toNatClampNeg) (240 : Int32).toNatClampNeg))
theorem s117_53 (n : Nat)    (l0 : Nat) (M : zM) (hp : p117_53 n  l0 M) {Q : Option Value → zM → Prop} (hQ : ∀ r M1, zRV (b117_53 n  l0 M) r M1 → Q r M1) : zWP 117 53 [some (.ref l0)] [] M Q := by
  unfold b117_53 at hQ
  unfold p117_53 at hp
  refine wp_go 2 (pc' := 57) (L' := [some (.ref l0)]) (st' := [.int (240 : Int32), .ref l0]) (M' := M) rfl ?_
  obtain ⟨hc, hp⟩ := hp
  refine wq_newp (k := 0) rfl rfl hc ?_
  exact s117_59 n    l0 l0 (zN M) (zNew M (1, (240 : Int32).toNatClampNeg) (240 : Int32).toNatClampNeg) hp hQ
def b117_50 (n : Nat)  (l0 : Nat) (s0 : Nat) (s1 : Nat) (M : zM) : zM := b117_53 n  l0 (zWQ M s0 6 (some s1))
def p117_50 (n : Nat)  (l0 : Nat) (s0 : Nat) (s1 : Nat) (M : zM) : Prop := (zPutQ 117 26 s0 M 6) ∧ (p117_53 n  l0 (zWQ M s0 6 (some s1)))
theorem s117_50 (n : Nat)    (l0 : Nat) (s0 : Nat) (s1 : Nat) (M : zM) (hp : p117_50 n  l0 s0 s1 M) {Q : Option Value → zM → Prop} (hQ : ∀ r M1, zRV (b117_50 n  l0 s0 s1 M) r M1 → Q r M1) : zWP 117 50 [some (.ref l0)] [.ref s1, .ref s0] M Q := by
  unfold b117_50 at hQ
  unfold p117_50 at hp
  obtain ⟨hc, hp⟩ := hp
  refine wq_putQ (j := 6) rfl hc ?_
  exact s117_53 n    l0 (zWQ M s0 6 (some s1)) hp hQ
def b117_44 (n : Nat)  (l0 : Nat) (M : zM) : zM := b117_50 n  l0 l0 (zN M) (zNew M (1, (240 : Int32).toNatClampNeg) (240 : Int32).toNatClampNeg)
def p117_44 (n : Nat)  (l0 : Nat) (M : zM) : Prop := (zOkW (240 : Int32) M) ∧ (p117_50 n  l0 l0 (zN M) (zNew M (1, (240 : Int32).toNatClampNeg) (240 : Int32).toNatClampNeg))
theorem s117_44 (n : Nat)    (l0 : Nat) (M : zM) (hp : p117_44 n  l0 M) {Q : Option Value → zM → Prop} (hQ : ∀ r M1, zRV (b117_44 n  l0 M) r M1 → Q r M1) : zWP 117 44 [some (.ref l0)] [] M Q := by
  unfold b117_44 at hQ
  unfold p117_44 at hp
  refine wp_go 2 (pc' := 48) (L' := [some (.ref l0)]) (st' := [.int (240 : Int32), .ref l0]) (M' := M) rfl ?_
  obtain ⟨hc, hp⟩ := hp
  refine wq_newp (k := 0) rfl rfl hc ?_
  exact s117_50 n    l0 l0 (zN M) (zNew M (1, (240 : Int32).toNatClampNeg) (240 : Int32).toNatClampNeg) hp hQ
def b117_41 (n : Nat)  (l0 : Nat) (s0 : Nat) (s1 : Nat) (M : zM) : zM := b117_44 n  l0 (zWQ M s0 5 (some s1))
def p117_41 (n : Nat)  (l0 : Nat) (s0 : Nat) (s1 : Nat) (M : zM) : Prop := (zPutQ 117 23 s0 M 5) ∧ (p117_44 n  l0 (zWQ M s0 5 (some s1)))
theorem s117_41 (n : Nat)    (l0 : Nat) (s0 : Nat) (s1 : Nat) (M : zM) (hp : p117_41 n  l0 s0 s1 M) {Q : Option Value → zM → Prop} (hQ : ∀ r M1, zRV (b117_41 n  l0 s0 s1 M) r M1 → Q r M1) : zWP 117 41 [some (.ref l0)] [.ref s1, .ref s0] M Q := by
  unfold b117_41 at hQ
  unfold p117_41 at hp
  obtain ⟨hc, hp⟩ := hp
  refine wq_putQ (j := 5) rfl hc ?_
  exact s117_44 n    l0 (zWQ M s0 5 (some s1)) hp hQ
def b117_36 (n : Nat)  (l0 : Nat) (M : zM) : zM := b117_41 n  l0 l0 (zN M) (zNew M (1, (12 : Int32).toNatClampNeg) (12 : Int32).toNatClampNeg)
def p117_36 (n : Nat)  (l0 : Nat) (M : zM) : Prop := (zOkW (12 : Int32) M) ∧ (p117_41 n  l0 l0 (zN M) (zNew M (1, (12 : Int32).toNatClampNeg) (12 : Int32).toNatClampNeg))
theorem s117_36 (n : Nat)    (l0 : Nat) (M : zM) (hp : p117_36 n  l0 M) {Q : Option Value → zM → Prop} (hQ : ∀ r M1, zRV (b117_36 n  l0 M) r M1 → Q r M1) : zWP 117 36 [some (.ref l0)] [] M Q := by
  unfold b117_36 at hQ
  unfold p117_36 at hp
  refine wp_go 2 (pc' := 39) (L' := [some (.ref l0)]) (st' := [.int (12 : Int32), .ref l0]) (M' := M) rfl ?_
  obtain ⟨hc, hp⟩ := hp
  refine wq_newp (k := 0) rfl rfl hc ?_
  exact s117_41 n    l0 l0 (zN M) (zNew M (1, (12 : Int32).toNatClampNeg) (12 : Int32).toNatClampNeg) hp hQ
def b117_33 (n : Nat)  (l0 : Nat) (s0 : Nat) (s1 : Nat) (M : zM) : zM := b117_36 n  l0 (zWQ M s0 4 (some s1))
def p117_33 (n : Nat)  (l0 : Nat) (s0 : Nat) (s1 : Nat) (M : zM) : Prop := (zPutQ 117 20 s0 M 4) ∧ (p117_36 n  l0 (zWQ M s0 4 (some s1)))
theorem s117_33 (n : Nat)    (l0 : Nat) (s0 : Nat) (s1 : Nat) (M : zM) (hp : p117_33 n  l0 s0 s1 M) {Q : Option Value → zM → Prop} (hQ : ∀ r M1, zRV (b117_33 n  l0 s0 s1 M) r M1 → Q r M1) : zWP 117 33 [some (.ref l0)] [.ref s1, .ref s0] M Q := by
  unfold b117_33 at hQ
  unfold p117_33 at hp
  obtain ⟨hc, hp⟩ := hp
  refine wq_putQ (j := 4) rfl hc ?_
  exact s117_36 n    l0 (zWQ M s0 4 (some s1)) hp hQ
def b117_28 (n : Nat)  (l0 : Nat) (M : zM) : zM := b117_33 n  l0 l0 (zN M) (zNew M (1, (12 : Int32).toNatClampNeg) (12 : Int32).toNatClampNeg)
def p117_28 (n : Nat)  (l0 : Nat) (M : zM) : Prop := (zOkW (12 : Int32) M) ∧ (p117_33 n  l0 l0 (zN M) (zNew M (1, (12 : Int32).toNatClampNeg) (12 : Int32).toNatClampNeg))
theorem s117_28 (n : Nat)    (l0 : Nat) (M : zM) (hp : p117_28 n  l0 M) {Q : Option Value → zM → Prop} (hQ : ∀ r M1, zRV (b117_28 n  l0 M) r M1 → Q r M1) : zWP 117 28 [some (.ref l0)] [] M Q := by
  unfold b117_28 at hQ
  unfold p117_28 at hp
  refine wp_go 2 (pc' := 31) (L' := [some (.ref l0)]) (st' := [.int (12 : Int32), .ref l0]) (M' := M) rfl ?_
  obtain ⟨hc, hp⟩ := hp
  refine wq_newp (k := 0) rfl rfl hc ?_
  exact s117_33 n    l0 l0 (zN M) (zNew M (1, (12 : Int32).toNatClampNeg) (12 : Int32).toNatClampNeg) hp hQ
def b117_25 (n : Nat)  (l0 : Nat) (s0 : Nat) (s1 : Nat) (M : zM) : zM := b117_28 n  l0 (zWQ M s0 3 (some s1))
def p117_25 (n : Nat)  (l0 : Nat) (s0 : Nat) (s1 : Nat) (M : zM) : Prop := (zPutQ 117 16 s0 M 3) ∧ (p117_28 n  l0 (zWQ M s0 3 (some s1)))
theorem s117_25 (n : Nat)    (l0 : Nat) (s0 : Nat) (s1 : Nat) (M : zM) (hp : p117_25 n  l0 s0 s1 M) {Q : Option Value → zM → Prop} (hQ : ∀ r M1, zRV (b117_25 n  l0 s0 s1 M) r M1 → Q r M1) : zWP 117 25 [some (.ref l0)] [.ref s1, .ref s0] M Q := by
  unfold b117_25 at hQ
  unfold p117_25 at hp
  obtain ⟨hc, hp⟩ := hp
  refine wq_putQ (j := 3) rfl hc ?_
  exact s117_28 n    l0 (zWQ M s0 3 (some s1)) hp hQ
def b117_20 (n : Nat)  (l0 : Nat) (M : zM) : zM := b117_25 n  l0 l0 (zN M) (zNew M (2, (12 : Int32).toNatClampNeg) (12 : Int32).toNatClampNeg)
def p117_20 (n : Nat)  (l0 : Nat) (M : zM) : Prop := (zOkW (12 : Int32) M) ∧ (p117_25 n  l0 l0 (zN M) (zNew M (2, (12 : Int32).toNatClampNeg) (12 : Int32).toNatClampNeg))
theorem s117_20 (n : Nat)    (l0 : Nat) (M : zM) (hp : p117_20 n  l0 M) {Q : Option Value → zM → Prop} (hQ : ∀ r M1, zRV (b117_20 n  l0 M) r M1 → Q r M1) : zWP 117 20 [some (.ref l0)] [] M Q := by
  unfold b117_20 at hQ
  unfold p117_20 at hp
  refine wp_go 2 (pc' := 23) (L' := [some (.ref l0)]) (st' := [.int (12 : Int32), .ref l0]) (M' := M) rfl ?_
  obtain ⟨hc, hp⟩ := hp
  refine wq_newp (k := 1) rfl rfl hc ?_
  exact s117_25 n    l0 l0 (zN M) (zNew M (2, (12 : Int32).toNatClampNeg) (12 : Int32).toNatClampNeg) hp hQ
def b117_17 (n : Nat)  (l0 : Nat) (s0 : Nat) (s1 : Nat) (M : zM) : zM := b117_20 n  l0 (zWQ M s0 2 (some s1))
def p117_17 (n : Nat)  (l0 : Nat) (s0 : Nat) (s1 : Nat) (M : zM) : Prop := (zPutQ 117 13 s0 M 2) ∧ (p117_20 n  l0 (zWQ M s0 2 (some s1)))
theorem s117_17 (n : Nat)    (l0 : Nat) (s0 : Nat) (s1 : Nat) (M : zM) (hp : p117_17 n  l0 s0 s1 M) {Q : Option Value → zM → Prop} (hQ : ∀ r M1, zRV (b117_17 n  l0 s0 s1 M) r M1 → Q r M1) : zWP 117 17 [some (.ref l0)] [.ref s1, .ref s0] M Q := by
  unfold b117_17 at hQ
  unfold p117_17 at hp
  obtain ⟨hc, hp⟩ := hp
  refine wq_putQ (j := 2) rfl hc ?_
  exact s117_20 n    l0 (zWQ M s0 2 (some s1)) hp hQ
def b117_12 (n : Nat)  (l0 : Nat) (M : zM) : zM := b117_17 n  l0 l0 (zN M) (zNew M (1, (12 : Int32).toNatClampNeg) (12 : Int32).toNatClampNeg)
def p117_12 (n : Nat)  (l0 : Nat) (M : zM) : Prop := (zOkW (12 : Int32) M) ∧ (p117_17 n  l0 l0 (zN M) (zNew M (1, (12 : Int32).toNatClampNeg) (12 : Int32).toNatClampNeg))
theorem s117_12 (n : Nat)    (l0 : Nat) (M : zM) (hp : p117_12 n  l0 M) {Q : Option Value → zM → Prop} (hQ : ∀ r M1, zRV (b117_12 n  l0 M) r M1 → Q r M1) : zWP 117 12 [some (.ref l0)] [] M Q := by
  unfold b117_12 at hQ
  unfold p117_12 at hp
  refine wp_go 2 (pc' := 15) (L' := [some (.ref l0)]) (st' := [.int (12 : Int32), .ref l0]) (M' := M) rfl ?_
  obtain ⟨hc, hp⟩ := hp
  refine wq_newp (k := 0) rfl rfl hc ?_
  exact s117_17 n    l0 l0 (zN M) (zNew M (1, (12 : Int32).toNatClampNeg) (12 : Int32).toNatClampNeg) hp hQ
def b117_9 (n : Nat)  (l0 : Nat) (s0 : Nat) (s1 : Nat) (M : zM) : zM := b117_12 n  l0 (zWQ M s0 1 (some s1))
def p117_9 (n : Nat)  (l0 : Nat) (s0 : Nat) (s1 : Nat) (M : zM) : Prop := (zPutQ 117 7 s0 M 1) ∧ (p117_12 n  l0 (zWQ M s0 1 (some s1)))
theorem s117_9 (n : Nat)    (l0 : Nat) (s0 : Nat) (s1 : Nat) (M : zM) (hp : p117_9 n  l0 s0 s1 M) {Q : Option Value → zM → Prop} (hQ : ∀ r M1, zRV (b117_9 n  l0 s0 s1 M) r M1 → Q r M1) : zWP 117 9 [some (.ref l0)] [.ref s1, .ref s0] M Q := by
  unfold b117_9 at hQ
  unfold p117_9 at hp
  obtain ⟨hc, hp⟩ := hp
  refine wq_putQ (j := 1) rfl hc ?_
  exact s117_12 n    l0 (zWQ M s0 1 (some s1)) hp hQ
def b117_0 (n : Nat)  (l0 : Nat) (M : zM) : zM := b117_9 n  l0 l0 (zN M) (zNew M (1, (12 : Int32).toNatClampNeg) (12 : Int32).toNatClampNeg)
def p117_0 (n : Nat)  (l0 : Nat) (M : zM) : Prop := (zOkW (12 : Int32) M) ∧ (p117_9 n  l0 l0 (zN M) (zNew M (1, (12 : Int32).toNatClampNeg) (12 : Int32).toNatClampNeg))
theorem s117_0 (n : Nat)    (l0 : Nat) (M : zM) (hp : p117_0 n  l0 M) {Q : Option Value → zM → Prop} (hQ : ∀ r M1, zRV (b117_0 n  l0 M) r M1 → Q r M1) : zWP 117 0 [some (.ref l0)] [] M Q := by
  unfold b117_0 at hQ
  unfold p117_0 at hp
  refine wp_go 1 (pc' := 1) (L' := [some (.ref l0)]) (st' := [.ref l0]) (M' := M) rfl ?_
  refine wq_obj rfl rfl rfl (by decide) ?_
  refine wp_go 2 (pc' := 7) (L' := [some (.ref l0)]) (st' := [.int (12 : Int32), .ref l0]) (M' := M) rfl ?_
  obtain ⟨hc, hp⟩ := hp
  refine wq_newp (k := 0) rfl rfl hc ?_
  exact s117_9 n    l0 l0 (zN M) (zNew M (1, (12 : Int32).toNatClampNeg) (12 : Int32).toNatClampNeg) hp hQ
