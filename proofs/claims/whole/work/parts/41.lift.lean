/-! X2_write -/
def b17_57 (n : Nat)   (M : zM) : zM := M
def p17_57 (n : Nat)   (M : zM) : Prop := True
theorem s17_57 (n : Nat)     (M : zM) (hp : p17_57 n   M) {Q : Option Value → zM → Prop} (hQ : ∀ r M1, zRV (b17_57 n   M) r M1 → Q r M1) : zWP 17 57 [none, none, none, none, none, none] [] M Q := by
  unfold b17_57 at hQ
  unfold p17_57 at hp
  exact wp_ret (r := none) rfl rfl (hQ _ _ ⟨rfl, rfl⟩)
def b17_49 (n : Nat)  (l1 : Int32) (l4 : Nat) (l5 : Nat) (M : zM) : zM := b17_57 n  (b19_0 n l5 l1 l4 M)
def p17_49 (n : Nat)  (l1 : Int32) (l4 : Nat) (l5 : Nat) (M : zM) : Prop := (p19_0 n l5 l1 l4 M) ∧ (p17_57 n  (b19_0 n l5 l1 l4 M))
theorem s17_49 (n : Nat)    (l1 : Int32) (l4 : Nat) (l5 : Nat) (M : zM) (hp : p17_49 n  l1 l4 l5 M) {Q : Option Value → zM → Prop} (hQ : ∀ r M1, zRV (b17_49 n  l1 l4 l5 M) r M1 → Q r M1) : zWP 17 49 [none, some (.int l1), none, none, some (.ref l4), some (.ref l5)] [] M Q := by
  unfold b17_49 at hQ
  unfold p17_49 at hp
  refine wp_go 3 (pc' := 54) (L' := [none, some (.int l1), none, none, some (.ref l4), some (.ref l5)]) (st' := [.ref l4, .int l1, .ref l5]) (M' := M) rfl ?_
  obtain ⟨hc, hp⟩ := hp
  refine wp_callv (M1 := (b19_0 n l5 l1 l4 M)) rfl rfl rfl rfl (s19_0 n l5 l1 l4 M hc (fun r M1 h => h)) ?_
  refine wp_le [none, none, none, none, none, none] (zLe_of (by simp [zLeB])) ?_
  exact s17_57 n    (b19_0 n l5 l1 l4 M) hp hQ
def b17_39 (n : Nat)  (l0 : Nat) (l1 : Int32) (l4 : Nat) (l5 : Nat) (M : zM) : zM := b17_49 n  l1 l4 l5 (zWI M l0 1 ((zI M l0 1) + (1 : Int32)))
def p17_39 (n : Nat)  (l0 : Nat) (l1 : Int32) (l4 : Nat) (l5 : Nat) (M : zM) : Prop := (zHasI 2 17 l0 M 1) ∧ ((zPutI 17 17 l0 M 1 ((zI M l0 1) + (1 : Int32))) ∧ (p17_49 n  l1 l4 l5 (zWI M l0 1 ((zI M l0 1) + (1 : Int32)))))
theorem s17_39 (n : Nat)    (l0 : Nat) (l1 : Int32) (l4 : Nat) (l5 : Nat) (M : zM) (hp : p17_39 n  l0 l1 l4 l5 M) {Q : Option Value → zM → Prop} (hQ : ∀ r M1, zRV (b17_39 n  l0 l1 l4 l5 M) r M1 → Q r M1) : zWP 17 39 [some (.ref l0), some (.int l1), none, none, some (.ref l4), some (.ref l5)] [] M Q := by
  unfold b17_39 at hQ
  unfold p17_39 at hp
  refine wp_go 2 (pc' := 41) (L' := [some (.ref l0), some (.int l1), none, none, some (.ref l4), some (.ref l5)]) (st' := [.ref l0, .ref l0]) (M' := M) rfl ?_
  obtain ⟨hc, hp⟩ := hp
  refine wq_getI (j := 1) rfl hc ?_
  refine wp_go 2 (pc' := 46) (L' := [some (.ref l0), some (.int l1), none, none, some (.ref l4), some (.ref l5)]) (st' := [.int ((zI M l0 1) + (1 : Int32)), .ref l0]) (M' := M) rfl ?_
  obtain ⟨hc, hp⟩ := hp
  refine wq_putI (j := 1) rfl hc ?_
  refine wp_le [none, some (.int l1), none, none, some (.ref l4), some (.ref l5)] (zLe_of (by simp [zLeB])) ?_
  exact s17_49 n    l1 l4 l5 (zWI M l0 1 ((zI M l0 1) + (1 : Int32))) hp hQ
def b17_30 (n : Nat)  (l0 : Nat) (l1 : Int32) (l4 : Nat) (l5 : Nat) (M : zM) : zM := b17_39 n  l0 l1 l4 l5 (zWI M l5 9 (zI M l0 2))
def p17_30 (n : Nat)  (l0 : Nat) (l1 : Int32) (l4 : Nat) (l5 : Nat) (M : zM) : Prop := (zHasI 2 21 l0 M 2) ∧ ((zPutI 17 25 l5 M 9 (zI M l0 2)) ∧ (p17_39 n  l0 l1 l4 l5 (zWI M l5 9 (zI M l0 2))))
theorem s17_30 (n : Nat)    (l0 : Nat) (l1 : Int32) (l4 : Nat) (l5 : Nat) (M : zM) (hp : p17_30 n  l0 l1 l4 l5 M) {Q : Option Value → zM → Prop} (hQ : ∀ r M1, zRV (b17_30 n  l0 l1 l4 l5 M) r M1 → Q r M1) : zWP 17 30 [some (.ref l0), some (.int l1), none, none, some (.ref l4), some (.ref l5)] [] M Q := by
  unfold b17_30 at hQ
  unfold p17_30 at hp
  refine wp_go 2 (pc' := 33) (L' := [some (.ref l0), some (.int l1), none, none, some (.ref l4), some (.ref l5)]) (st' := [.ref l0, .ref l5]) (M' := M) rfl ?_
  obtain ⟨hc, hp⟩ := hp
  refine wq_getI (j := 2) rfl hc ?_
  obtain ⟨hc, hp⟩ := hp
  refine wq_putI (j := 9) rfl hc ?_
  exact s17_39 n    l0 l1 l4 l5 (zWI M l5 9 (zI M l0 2)) hp hQ
def b17_20 (n : Nat)  (l0 : Nat) (l1 : Int32) (l4 : Nat) (l5 : Nat) (M : zM) : zM := b17_30 n  l0 l1 l4 l5 (zWI M l0 2 ((zI M l0 2) + (1 : Int32)))
def p17_20 (n : Nat)  (l0 : Nat) (l1 : Int32) (l4 : Nat) (l5 : Nat) (M : zM) : Prop := (zHasI 2 21 l0 M 2) ∧ ((zPutI 17 21 l0 M 2 ((zI M l0 2) + (1 : Int32))) ∧ (p17_30 n  l0 l1 l4 l5 (zWI M l0 2 ((zI M l0 2) + (1 : Int32)))))
theorem s17_20 (n : Nat)    (l0 : Nat) (l1 : Int32) (l4 : Nat) (l5 : Nat) (M : zM) (hp : p17_20 n  l0 l1 l4 l5 M) {Q : Option Value → zM → Prop} (hQ : ∀ r M1, zRV (b17_20 n  l0 l1 l4 l5 M) r M1 → Q r M1) : zWP 17 20 [some (.ref l0), some (.int l1), none, none, some (.ref l4), some (.ref l5)] [] M Q := by
  unfold b17_20 at hQ
  unfold p17_20 at hp
  refine wp_go 2 (pc' := 22) (L' := [some (.ref l0), some (.int l1), none, none, some (.ref l4), some (.ref l5)]) (st' := [.ref l0, .ref l0]) (M' := M) rfl ?_
  obtain ⟨hc, hp⟩ := hp
  refine wq_getI (j := 2) rfl hc ?_
  refine wp_go 2 (pc' := 27) (L' := [some (.ref l0), some (.int l1), none, none, some (.ref l4), some (.ref l5)]) (st' := [.int ((zI M l0 2) + (1 : Int32)), .ref l0]) (M' := M) rfl ?_
  obtain ⟨hc, hp⟩ := hp
  refine wq_putI (j := 2) rfl hc ?_
  exact s17_30 n    l0 l1 l4 l5 (zWI M l0 2 ((zI M l0 2) + (1 : Int32))) hp hQ
def b17_14 (n : Nat)  (l0 : Nat) (l1 : Int32) (l3 : Int32) (l4 : Nat) (l5 : Nat) (M : zM) : zM := b17_20 n  l0 l1 l4 l5 (zWI M l5 8 l3)
def p17_14 (n : Nat)  (l0 : Nat) (l1 : Int32) (l3 : Int32) (l4 : Nat) (l5 : Nat) (M : zM) : Prop := (zPutI 17 36 l5 M 8 l3) ∧ (p17_20 n  l0 l1 l4 l5 (zWI M l5 8 l3))
theorem s17_14 (n : Nat)    (l0 : Nat) (l1 : Int32) (l3 : Int32) (l4 : Nat) (l5 : Nat) (M : zM) (hp : p17_14 n  l0 l1 l3 l4 l5 M) {Q : Option Value → zM → Prop} (hQ : ∀ r M1, zRV (b17_14 n  l0 l1 l3 l4 l5 M) r M1 → Q r M1) : zWP 17 14 [some (.ref l0), some (.int l1), none, some (.int l3), some (.ref l4), some (.ref l5)] [] M Q := by
  unfold b17_14 at hQ
  unfold p17_14 at hp
  refine wp_go 2 (pc' := 17) (L' := [some (.ref l0), some (.int l1), none, some (.int l3), some (.ref l4), some (.ref l5)]) (st' := [.int l3, .ref l5]) (M' := M) rfl ?_
  obtain ⟨hc, hp⟩ := hp
  refine wq_putI (j := 8) rfl hc ?_
  refine wp_le [some (.ref l0), some (.int l1), none, none, some (.ref l4), some (.ref l5)] (zLe_of (by simp [zLeB])) ?_
  exact s17_20 n    l0 l1 l4 l5 (zWI M l5 8 l3) hp hQ
def b17_0 (n : Nat)  (l0 : Nat) (l1 : Int32) (l2 : Nat) (l3 : Int32) (l4 : Nat) (M : zM) : zM := b17_14 n  l0 l1 l3 l4 (zQ M (zQ M l0 0) l1.toNatClampNeg) (b38_0 n (zQ M (zQ M l0 0) l1.toNatClampNeg) l2 M)
def p17_0 (n : Nat)  (l0 : Nat) (l1 : Int32) (l2 : Nat) (l3 : Int32) (l4 : Nat) (M : zM) : Prop := (zHasQ 2 11 l0 M 0) ∧ ((zOkR (zQ M l0 0) l1 M) ∧ ((zHasC 17 32 (zQ M (zQ M l0 0) l1.toNatClampNeg) M 38 1) ∧ ((p38_0 n (zQ M (zQ M l0 0) l1.toNatClampNeg) l2 M) ∧ (p17_14 n  l0 l1 l3 l4 (zQ M (zQ M l0 0) l1.toNatClampNeg) (b38_0 n (zQ M (zQ M l0 0) l1.toNatClampNeg) l2 M)))))
theorem s17_0 (n : Nat)    (l0 : Nat) (l1 : Int32) (l2 : Nat) (l3 : Int32) (l4 : Nat) (M : zM) (hp : p17_0 n  l0 l1 l2 l3 l4 M) {Q : Option Value → zM → Prop} (hQ : ∀ r M1, zRV (b17_0 n  l0 l1 l2 l3 l4 M) r M1 → Q r M1) : zWP 17 0 [some (.ref l0), some (.int l1), some (.ref l2), some (.int l3), some (.ref l4), none] [] M Q := by
  unfold b17_0 at hQ
  unfold p17_0 at hp
  refine wp_go 1 (pc' := 1) (L' := [some (.ref l0), some (.int l1), some (.ref l2), some (.int l3), some (.ref l4), none]) (st' := [.ref l0]) (M' := M) rfl ?_
  obtain ⟨hc, hp⟩ := hp
  refine wq_getQ (j := 0) rfl hc ?_
  refine wp_go 1 (pc' := 5) (L' := [some (.ref l0), some (.int l1), some (.ref l2), some (.int l3), some (.ref l4), none]) (st' := [.int l1, .ref (zQ M l0 0)]) (M' := M) rfl ?_
  obtain ⟨hc, hp⟩ := hp
  refine wq_aald rfl hc ?_
  refine wp_go 3 (pc' := 11) (L' := [some (.ref l0), some (.int l1), some (.ref l2), some (.int l3), some (.ref l4), some (.ref (zQ M (zQ M l0 0) l1.toNatClampNeg))]) (st' := [.ref l2, .ref (zQ M (zQ M l0 0) l1.toNatClampNeg)]) (M' := M) rfl ?_
  obtain ⟨hv, hp⟩ := hp
  obtain ⟨hc, hp⟩ := hp
  refine wp_callv (M1 := (b38_0 n (zQ M (zQ M l0 0) l1.toNatClampNeg) l2 M)) rfl rfl rfl (zInv_v (np := 1) rfl rfl hv rfl) (s38_0 n (zQ M (zQ M l0 0) l1.toNatClampNeg) l2 M hc (fun r M1 h => h)) ?_
  refine wp_le [some (.ref l0), some (.int l1), none, some (.int l3), some (.ref l4), some (.ref (zQ M (zQ M l0 0) l1.toNatClampNeg))] (zLe_of (by simp [zLeB])) ?_
  exact s17_14 n    l0 l1 l3 l4 (zQ M (zQ M l0 0) l1.toNatClampNeg) (b38_0 n (zQ M (zQ M l0 0) l1.toNatClampNeg) l2 M) hp hQ
/-! X2_strike -/
def b18_39 (n : Nat)   (M : zM) : zM := M
def p18_39 (n : Nat)   (M : zM) : Prop := True
theorem s18_39 (n : Nat)     (M : zM) (hp : p18_39 n   M) {Q : Option Value → zM → Prop} (hQ : ∀ r M1, zRV (b18_39 n   M) r M1 → Q r M1) : zWP 18 39 [none, none, none] [] M Q := by
  unfold b18_39 at hQ
  unfold p18_39 at hp
  exact wp_ret (r := none) rfl rfl (hQ _ _ ⟨rfl, rfl⟩)
def b18_28 (n : Nat)  (l0 : Nat) (l1 : Int32) (l2 : Nat) (M : zM) : zM := b18_39 n  (b19_0 n (zQ M (zQ M l0 0) l1.toNatClampNeg) ((-1) : Int32) l2 M)
def p18_28 (n : Nat)  (l0 : Nat) (l1 : Int32) (l2 : Nat) (M : zM) : Prop := (zHasQ 2 11 l0 M 0) ∧ ((zOkR (zQ M l0 0) l1 M) ∧ ((p19_0 n (zQ M (zQ M l0 0) l1.toNatClampNeg) ((-1) : Int32) l2 M) ∧ (p18_39 n  (b19_0 n (zQ M (zQ M l0 0) l1.toNatClampNeg) ((-1) : Int32) l2 M))))
theorem s18_28 (n : Nat)    (l0 : Nat) (l1 : Int32) (l2 : Nat) (M : zM) (hp : p18_28 n  l0 l1 l2 M) {Q : Option Value → zM → Prop} (hQ : ∀ r M1, zRV (b18_28 n  l0 l1 l2 M) r M1 → Q r M1) : zWP 18 28 [some (.ref l0), some (.int l1), some (.ref l2)] [] M Q := by
  unfold b18_28 at hQ
  unfold p18_28 at hp
  refine wp_go 1 (pc' := 29) (L' := [some (.ref l0), some (.int l1), some (.ref l2)]) (st' := [.ref l0]) (M' := M) rfl ?_
  obtain ⟨hc, hp⟩ := hp
  refine wq_getQ (j := 0) rfl hc ?_
  refine wp_go 1 (pc' := 33) (L' := [some (.ref l0), some (.int l1), some (.ref l2)]) (st' := [.int l1, .ref (zQ M l0 0)]) (M' := M) rfl ?_
  obtain ⟨hc, hp⟩ := hp
  refine wq_aald rfl hc ?_
  refine wp_go 2 (pc' := 36) (L' := [some (.ref l0), some (.int l1), some (.ref l2)]) (st' := [.ref l2, .int ((-1) : Int32), .ref (zQ M (zQ M l0 0) l1.toNatClampNeg)]) (M' := M) rfl ?_
  obtain ⟨hc, hp⟩ := hp
  refine wp_callv (M1 := (b19_0 n (zQ M (zQ M l0 0) l1.toNatClampNeg) ((-1) : Int32) l2 M)) rfl rfl rfl rfl (s19_0 n (zQ M (zQ M l0 0) l1.toNatClampNeg) ((-1) : Int32) l2 M hc (fun r M1 h => h)) ?_
  refine wp_le [none, none, none] (zLe_of (by simp [zLeB])) ?_
  exact s18_39 n    (b19_0 n (zQ M (zQ M l0 0) l1.toNatClampNeg) ((-1) : Int32) l2 M) hp hQ
def b18_18 (n : Nat)  (l0 : Nat) (l1 : Int32) (l2 : Nat) (M : zM) : zM := b18_28 n  l0 l1 l2 (zWI M l0 1 ((zI M l0 1) - (1 : Int32)))
def p18_18 (n : Nat)  (l0 : Nat) (l1 : Int32) (l2 : Nat) (M : zM) : Prop := (zHasI 2 17 l0 M 1) ∧ ((zPutI 18 17 l0 M 1 ((zI M l0 1) - (1 : Int32))) ∧ (p18_28 n  l0 l1 l2 (zWI M l0 1 ((zI M l0 1) - (1 : Int32)))))
theorem s18_18 (n : Nat)    (l0 : Nat) (l1 : Int32) (l2 : Nat) (M : zM) (hp : p18_18 n  l0 l1 l2 M) {Q : Option Value → zM → Prop} (hQ : ∀ r M1, zRV (b18_18 n  l0 l1 l2 M) r M1 → Q r M1) : zWP 18 18 [some (.ref l0), some (.int l1), some (.ref l2)] [] M Q := by
  unfold b18_18 at hQ
  unfold p18_18 at hp
  refine wp_go 2 (pc' := 20) (L' := [some (.ref l0), some (.int l1), some (.ref l2)]) (st' := [.ref l0, .ref l0]) (M' := M) rfl ?_
  obtain ⟨hc, hp⟩ := hp
  refine wq_getI (j := 1) rfl hc ?_
  refine wp_go 2 (pc' := 25) (L' := [some (.ref l0), some (.int l1), some (.ref l2)]) (st' := [.int ((zI M l0 1) - (1 : Int32)), .ref l0]) (M' := M) rfl ?_
  obtain ⟨hc, hp⟩ := hp
  refine wq_putI (j := 1) rfl hc ?_
  exact s18_28 n    l0 l1 l2 (zWI M l0 1 ((zI M l0 1) - (1 : Int32))) hp hQ
def b18_5 (n : Nat)  (l0 : Nat) (l1 : Int32) (l2 : Nat) (s0 : Int32) (M : zM) : zM := (if s0 = 0 then b18_39 n  M else b18_18 n  l0 l1 l2 (zWI M (zQ M (zQ M l0 0) l1.toNatClampNeg) 9 (0 : Int32)))
def p18_5 (n : Nat)  (l0 : Nat) (l1 : Int32) (l2 : Nat) (s0 : Int32) (M : zM) : Prop := ((s0 = 0 → p18_39 n  M) ∧ (¬ s0 = 0 → (zHasQ 2 11 l0 M 0) ∧ ((zOkR (zQ M l0 0) l1 M) ∧ ((zPutI 18 25 (zQ M (zQ M l0 0) l1.toNatClampNeg) M 9 (0 : Int32)) ∧ (p18_18 n  l0 l1 l2 (zWI M (zQ M (zQ M l0 0) l1.toNatClampNeg) 9 (0 : Int32)))))))
theorem s18_5 (n : Nat)    (l0 : Nat) (l1 : Int32) (l2 : Nat) (s0 : Int32) (M : zM) (hp : p18_5 n  l0 l1 l2 s0 M) {Q : Option Value → zM → Prop} (hQ : ∀ r M1, zRV (b18_5 n  l0 l1 l2 s0 M) r M1 → Q r M1) : zWP 18 5 [some (.ref l0), some (.int l1), some (.ref l2)] [.int s0] M Q := by
  unfold b18_5 at hQ
  unfold p18_5 at hp
  refine wp_if_eq (t := 39) rfl rfl (fun hc => ?_) (fun hc => ?_)
  · rw [if_pos hc] at hQ
    replace hp := hp.1 hc
    refine wp_le [none, none, none] (zLe_of (by simp [zLeB])) ?_
    exact s18_39 n    M hp hQ
  · rw [if_neg hc] at hQ
    replace hp := hp.2 hc
    refine wp_go 1 (pc' := 9) (L' := [some (.ref l0), some (.int l1), some (.ref l2)]) (st' := [.ref l0]) (M' := M) rfl ?_
    obtain ⟨hc, hp⟩ := hp
    refine wq_getQ (j := 0) rfl hc ?_
    refine wp_go 1 (pc' := 13) (L' := [some (.ref l0), some (.int l1), some (.ref l2)]) (st' := [.int l1, .ref (zQ M l0 0)]) (M' := M) rfl ?_
    obtain ⟨hc, hp⟩ := hp
    refine wq_aald rfl hc ?_
    refine wp_go 1 (pc' := 15) (L' := [some (.ref l0), some (.int l1), some (.ref l2)]) (st' := [.int (0 : Int32), .ref (zQ M (zQ M l0 0) l1.toNatClampNeg)]) (M' := M) rfl ?_
    obtain ⟨hc, hp⟩ := hp
    refine wq_putI (j := 9) rfl hc ?_
    exact s18_18 n    l0 l1 l2 (zWI M (zQ M (zQ M l0 0) l1.toNatClampNeg) 9 (0 : Int32)) hp hQ
def b18_0 (n : Nat)  (l0 : Nat) (l1 : Int32) (l2 : Nat) (M : zM) : zM := b18_5 n  l0 l1 l2 (b14_0 n l0 l1 M).1 (b14_0 n l0 l1 M).2
def p18_0 (n : Nat)  (l0 : Nat) (l1 : Int32) (l2 : Nat) (M : zM) : Prop := (zHasC 18 28 l0 M 14 1) ∧ ((p14_0 n l0 l1 M) ∧ (p18_5 n  l0 l1 l2 (b14_0 n l0 l1 M).1 (b14_0 n l0 l1 M).2))
theorem s18_0 (n : Nat)    (l0 : Nat) (l1 : Int32) (l2 : Nat) (M : zM) (hp : p18_0 n  l0 l1 l2 M) {Q : Option Value → zM → Prop} (hQ : ∀ r M1, zRV (b18_0 n  l0 l1 l2 M) r M1 → Q r M1) : zWP 18 0 [some (.ref l0), some (.int l1), some (.ref l2)] [] M Q := by
  unfold b18_0 at hQ
  unfold p18_0 at hp
  refine wp_go 2 (pc' := 2) (L' := [some (.ref l0), some (.int l1), some (.ref l2)]) (st' := [.int l1, .ref l0]) (M' := M) rfl ?_
  obtain ⟨hv, hp⟩ := hp
  obtain ⟨hc, hp⟩ := hp
  refine wp_calli (v := (b14_0 n l0 l1 M).1) (M1 := (b14_0 n l0 l1 M).2) rfl rfl rfl (zInv_v (np := 1) rfl rfl hv rfl) (s14_0 n l0 l1 M hc (fun r M1 h => h)) ?_
  exact s18_5 n    l0 l1 l2 (b14_0 n l0 l1 M).1 (b14_0 n l0 l1 M).2 hp hQ
/-! X3_takesMarks -/
def b20_16 (n : Nat)  (s0 : Int32) (M : zM) : Int32 × zM := (s0, M)
def p20_16 (n : Nat)  (s0 : Int32) (M : zM) : Prop := zNar .boolean s0 = true
theorem s20_16 (n : Nat)    (s0 : Int32) (M : zM) (hp : p20_16 n  s0 M) {Q : Option Value → zM → Prop} (hQ : ∀ r M1, zRI (b20_16 n  s0 M) r M1 → Q r M1) : zWP 20 16 [none] [.int s0] M Q := by
  unfold b20_16 at hQ
  unfold p20_16 at hp
  exact wp_retz rfl rfl hp (hQ _ _ ⟨rfl, rfl⟩)
def b20_0 (n : Nat)  (l0 : Nat) (M : zM) : Int32 × zM := (if (zI M l0 3) = (zI M l0 4) then b20_16 n  (0 : Int32) M else b20_16 n  (1 : Int32) M)
def p20_0 (n : Nat)  (l0 : Nat) (M : zM) : Prop := (zHasK l0 M) ∧ ((zHasK l0 M) ∧ ((((zI M l0 3) = (zI M l0 4) → p20_16 n  (0 : Int32) M) ∧ (¬ (zI M l0 3) = (zI M l0 4) → p20_16 n  (1 : Int32) M))))
theorem s20_0 (n : Nat)    (l0 : Nat) (M : zM) (hp : p20_0 n  l0 M) {Q : Option Value → zM → Prop} (hQ : ∀ r M1, zRI (b20_0 n  l0 M) r M1 → Q r M1) : zWP 20 0 [some (.ref l0)] [] M Q := by
  unfold b20_0 at hQ
  unfold p20_0 at hp
  refine wp_go 1 (pc' := 1) (L' := [some (.ref l0)]) (st' := [.ref l0]) (M' := M) rfl ?_
  obtain ⟨hc, hp⟩ := hp
  refine wq_getK (j := 3) rfl rfl hc ?_
  refine wp_go 1 (pc' := 5) (L' := [some (.ref l0)]) (st' := [.ref l0, .int (zI M l0 3)]) (M' := M) rfl ?_
  obtain ⟨hc, hp⟩ := hp
  refine wq_getK (j := 4) rfl rfl hc ?_
  refine wp_ic_eq (t := 15) rfl rfl (fun hc => ?_) (fun hc => ?_)
  · rw [if_pos hc] at hQ
    replace hp := hp.1 hc
    refine wp_go 1 (pc' := 16) (L' := [some (.ref l0)]) (st' := [.int (0 : Int32)]) (M' := M) rfl ?_
    refine wp_le [none] (zLe_of (by simp [zLeB])) ?_
    exact s20_16 n    (0 : Int32) M hp hQ
  · rw [if_neg hc] at hQ
    replace hp := hp.2 hc
    refine wp_go 2 (pc' := 16) (L' := [some (.ref l0)]) (st' := [.int (1 : Int32)]) (M' := M) rfl ?_
    refine wp_le [none] (zLe_of (by simp [zLeB])) ?_
    exact s20_16 n    (1 : Int32) M hp hQ
/-! J9_floorMod_7cf53 -/
def b189_18 (n : Nat)  (l2 : Int32) (M : zM) : Int32 × zM := (l2, M)
def p189_18 (n : Nat)  (l2 : Int32) (M : zM) : Prop := True
theorem s189_18 (n : Nat)    (l2 : Int32) (M : zM) (hp : p189_18 n  l2 M) {Q : Option Value → zM → Prop} (hQ : ∀ r M1, zRI (b189_18 n  l2 M) r M1 → Q r M1) : zWP 189 18 [none, none, some (.int l2)] [] M Q := by
  unfold b189_18 at hQ
  unfold p189_18 at hp
  refine wp_go 1 (pc' := 19) (L' := [none, none, some (.int l2)]) (st' := [.int l2]) (M' := M) rfl ?_
  exact wp_ret (r := some (.int l2)) rfl rfl (hQ _ _ ⟨rfl, rfl⟩)
def b189_0 (n : Nat)  (l0 : Int32) (l1 : Int32) (M : zM) : Int32 × zM := (if 0 ≤ (l0 ^^^ l1) then b189_18 n  (l0 - l0 / l1 * l1) M else (if (l0 - l0 / l1 * l1) = 0 then b189_18 n  (l0 - l0 / l1 * l1) M else (((l0 - l0 / l1 * l1) + l1), M)))
def p189_0 (n : Nat)  (l0 : Int32) (l1 : Int32) (M : zM) : Prop := (¬ l1 = 0) ∧ (((0 ≤ (l0 ^^^ l1) → p189_18 n  (l0 - l0 / l1 * l1) M) ∧ (¬ 0 ≤ (l0 ^^^ l1) → (((l0 - l0 / l1 * l1) = 0 → p189_18 n  (l0 - l0 / l1 * l1) M) ∧ (¬ (l0 - l0 / l1 * l1) = 0 → True)))))
theorem s189_0 (n : Nat)    (l0 : Int32) (l1 : Int32) (M : zM) (hp : p189_0 n  l0 l1 M) {Q : Option Value → zM → Prop} (hQ : ∀ r M1, zRI (b189_0 n  l0 l1 M) r M1 → Q r M1) : zWP 189 0 [some (.int l0), some (.int l1), none] [] M Q := by
  unfold b189_0 at hQ
  unfold p189_0 at hp
  refine wp_go 2 (pc' := 2) (L' := [some (.int l0), some (.int l1), none]) (st' := [.int l1, .int l0]) (M' := M) rfl ?_
  obtain ⟨hc, hp⟩ := hp
  refine wq_irem rfl hc ?_
  refine wp_go 4 (pc' := 7) (L' := [some (.int l0), some (.int l1), some (.int (l0 - l0 / l1 * l1))]) (st' := [.int (l0 ^^^ l1)]) (M' := M) rfl ?_
  refine wp_if_ge (t := 18) rfl rfl (fun hc => ?_) (fun hc => ?_)
  · rw [if_pos hc] at hQ
    replace hp := hp.1 hc
    refine wp_le [none, none, some (.int (l0 - l0 / l1 * l1))] (zLe_of (by simp [zLeB])) ?_
    exact s189_18 n    (l0 - l0 / l1 * l1) M hp hQ
  · rw [if_neg hc] at hQ
    replace hp := hp.2 hc
    refine wp_go 1 (pc' := 11) (L' := [some (.int l0), some (.int l1), some (.int (l0 - l0 / l1 * l1))]) (st' := [.int (l0 - l0 / l1 * l1)]) (M' := M) rfl ?_
    refine wp_if_eq (t := 18) rfl rfl (fun hc => ?_) (fun hc => ?_)
    · rw [if_pos hc] at hQ
      replace hp := hp.1 hc
      refine wp_le [none, none, some (.int (l0 - l0 / l1 * l1))] (zLe_of (by simp [zLeB])) ?_
      exact s189_18 n    (l0 - l0 / l1 * l1) M hp hQ
    · rw [if_neg hc] at hQ
      replace hp := hp.2 hc
      refine wp_go 3 (pc' := 17) (L' := [some (.int l0), some (.int l1), some (.int (l0 - l0 / l1 * l1))]) (st' := [.int ((l0 - l0 / l1 * l1) + l1)]) (M' := M) rfl ?_
      exact wp_ret (r := some (.int ((l0 - l0 / l1 * l1) + l1))) rfl rfl (hQ _ _ ⟨rfl, rfl⟩)
/-! X4_lay -/
def b24_48 (n : Nat)   (M : zM) : zM := M
def p24_48 (n : Nat)   (M : zM) : Prop := True
theorem s24_48 (n : Nat)     (M : zM) (hp : p24_48 n   M) {Q : Option Value → zM → Prop} (hQ : ∀ r M1, zRV (b24_48 n   M) r M1 → Q r M1) : zWP 24 48 [none, none, none, none] [] M Q := by
  unfold b24_48 at hQ
  unfold p24_48 at hp
  exact wp_ret (r := none) rfl rfl (hQ _ _ ⟨rfl, rfl⟩)
def b24_38 (n : Nat)  (l0 : Nat) (M : zM) : zM := b24_48 n  (zWI M l0 5 ((zI M l0 5) + (1 : Int32)))
def p24_38 (n : Nat)  (l0 : Nat) (M : zM) : Prop := (zHasI 3 27 l0 M 5) ∧ ((zPutI 24 27 l0 M 5 ((zI M l0 5) + (1 : Int32))) ∧ (p24_48 n  (zWI M l0 5 ((zI M l0 5) + (1 : Int32)))))
theorem s24_38 (n : Nat)    (l0 : Nat) (M : zM) (hp : p24_38 n  l0 M) {Q : Option Value → zM → Prop} (hQ : ∀ r M1, zRV (b24_38 n  l0 M) r M1 → Q r M1) : zWP 24 38 [some (.ref l0), none, none, none] [] M Q := by
  unfold b24_38 at hQ
  unfold p24_38 at hp
  refine wp_go 2 (pc' := 40) (L' := [some (.ref l0), none, none, none]) (st' := [.ref l0, .ref l0]) (M' := M) rfl ?_
  obtain ⟨hc, hp⟩ := hp
  refine wq_getI (j := 5) rfl hc ?_
  refine wp_go 2 (pc' := 45) (L' := [some (.ref l0), none, none, none]) (st' := [.int ((zI M l0 5) + (1 : Int32)), .ref l0]) (M' := M) rfl ?_
  obtain ⟨hc, hp⟩ := hp
  refine wq_putI (j := 5) rfl hc ?_
  refine wp_le [none, none, none, none] (zLe_of (by simp [zLeB])) ?_
  exact s24_48 n    (zWI M l0 5 ((zI M l0 5) + (1 : Int32))) hp hQ
def b24_19 (n : Nat)  (l0 : Nat) (l1 : Int32) (M : zM) : zM := (if (12 : Int32) ≤ (zI M l0 5) then b24_48 n  M else b24_38 n  l0 (zWI M (zQ M l0 4) (zI M l0 5).toNatClampNeg l1))
def p24_19 (n : Nat)  (l0 : Nat) (l1 : Int32) (M : zM) : Prop := (zHasI 3 27 l0 M 5) ∧ ((((12 : Int32) ≤ (zI M l0 5) → p24_48 n  M) ∧ (¬ (12 : Int32) ≤ (zI M l0 5) → (zHasQ 3 24 l0 M 4) ∧ ((zHasI 3 27 l0 M 5) ∧ ((zOkT 1 (zQ M l0 4) (zI M l0 5) M) ∧ (p24_38 n  l0 (zWI M (zQ M l0 4) (zI M l0 5).toNatClampNeg l1)))))))
theorem s24_19 (n : Nat)    (l0 : Nat) (l1 : Int32) (M : zM) (hp : p24_19 n  l0 l1 M) {Q : Option Value → zM → Prop} (hQ : ∀ r M1, zRV (b24_19 n  l0 l1 M) r M1 → Q r M1) : zWP 24 19 [some (.ref l0), some (.int l1), none, none] [] M Q := by
  unfold b24_19 at hQ
  unfold p24_19 at hp
  refine wp_go 1 (pc' := 20) (L' := [some (.ref l0), some (.int l1), none, none]) (st' := [.ref l0]) (M' := M) rfl ?_
  obtain ⟨hc, hp⟩ := hp
  refine wq_getI (j := 5) rfl hc ?_
  refine wp_go 1 (pc' := 25) (L' := [some (.ref l0), some (.int l1), none, none]) (st' := [.int (12 : Int32), .int (zI M l0 5)]) (M' := M) rfl ?_
  refine wp_ic_ge (t := 48) rfl rfl (fun hc => ?_) (fun hc => ?_)
  · rw [if_pos hc] at hQ
    replace hp := hp.1 hc
    refine wp_le [none, none, none, none] (zLe_of (by simp [zLeB])) ?_
    exact s24_48 n    M hp hQ
  · rw [if_neg hc] at hQ
    replace hp := hp.2 hc
    refine wp_go 1 (pc' := 29) (L' := [some (.ref l0), some (.int l1), none, none]) (st' := [.ref l0]) (M' := M) rfl ?_
    obtain ⟨hc, hp⟩ := hp
    refine wq_getQ (j := 4) rfl hc ?_
    refine wp_go 1 (pc' := 33) (L' := [some (.ref l0), some (.int l1), none, none]) (st' := [.ref l0, .ref (zQ M l0 4)]) (M' := M) rfl ?_
    obtain ⟨hc, hp⟩ := hp
    refine wq_getI (j := 5) rfl hc ?_
    refine wp_go 1 (pc' := 37) (L' := [some (.ref l0), some (.int l1), none, none]) (st' := [.int l1, .int (zI M l0 5), .ref (zQ M l0 4)]) (M' := M) rfl ?_
    obtain ⟨hc, hp⟩ := hp
    refine wq_iast rfl hc ?_
    refine wp_le [some (.ref l0), none, none, none] (zLe_of (by simp [zLeB])) ?_
    exact s24_38 n    l0 (zWI M (zQ M l0 4) (zI M l0 5).toNatClampNeg l1) hp hQ
def b24_18 (n : Nat)  (l0 : Nat) (l1 : Int32) (s0 : Nat) (s1 : Int32) (s2 : Int32) (M : zM) : zM := b24_19 n  l0 l1 (zWI M s0 s1.toNatClampNeg s2)
def p24_18 (n : Nat)  (l0 : Nat) (l1 : Int32) (s0 : Nat) (s1 : Int32) (s2 : Int32) (M : zM) : Prop := (zOkT 1 s0 s1 M) ∧ (p24_19 n  l0 l1 (zWI M s0 s1.toNatClampNeg s2))
theorem s24_18 (n : Nat)    (l0 : Nat) (l1 : Int32) (s0 : Nat) (s1 : Int32) (s2 : Int32) (M : zM) (hp : p24_18 n  l0 l1 s0 s1 s2 M) {Q : Option Value → zM → Prop} (hQ : ∀ r M1, zRV (b24_18 n  l0 l1 s0 s1 s2 M) r M1 → Q r M1) : zWP 24 18 [some (.ref l0), some (.int l1), none, none] [.int s2, .int s1, .ref s0] M Q := by
  unfold b24_18 at hQ
  unfold p24_18 at hp
  obtain ⟨hc, hp⟩ := hp
  refine wq_iast rfl hc ?_
  exact s24_19 n    l0 l1 (zWI M s0 s1.toNatClampNeg s2) hp hQ
def b24_7 (n : Nat)  (l0 : Nat) (l1 : Int32) (l3 : Int32) (M : zM) : zM := b24_18 n  l0 l1 (zQ M l0 1) l1 (b189_0 n l3 (24 : Int32) M).1 (b189_0 n l3 (24 : Int32) M).2
def p24_7 (n : Nat)  (l0 : Nat) (l1 : Int32) (l3 : Int32) (M : zM) : Prop := (zHasQ 3 15 l0 M 1) ∧ ((p189_0 n l3 (24 : Int32) M) ∧ (p24_18 n  l0 l1 (zQ M l0 1) l1 (b189_0 n l3 (24 : Int32) M).1 (b189_0 n l3 (24 : Int32) M).2))
theorem s24_7 (n : Nat)    (l0 : Nat) (l1 : Int32) (l3 : Int32) (M : zM) (hp : p24_7 n  l0 l1 l3 M) {Q : Option Value → zM → Prop} (hQ : ∀ r M1, zRV (b24_7 n  l0 l1 l3 M) r M1 → Q r M1) : zWP 24 7 [some (.ref l0), some (.int l1), none, some (.int l3)] [] M Q := by
  unfold b24_7 at hQ
  unfold p24_7 at hp
  refine wp_go 1 (pc' := 8) (L' := [some (.ref l0), some (.int l1), none, some (.int l3)]) (st' := [.ref l0]) (M' := M) rfl ?_
  obtain ⟨hc, hp⟩ := hp
  refine wq_getQ (j := 1) rfl hc ?_
  refine wp_go 3 (pc' := 15) (L' := [some (.ref l0), some (.int l1), none, some (.int l3)]) (st' := [.int (24 : Int32), .int l3, .int l1, .ref (zQ M l0 1)]) (M' := M) rfl ?_
  obtain ⟨hc, hp⟩ := hp
  refine wp_calli (v := (b189_0 n l3 (24 : Int32) M).1) (M1 := (b189_0 n l3 (24 : Int32) M).2) rfl rfl rfl rfl (s189_0 n l3 (24 : Int32) M hc (fun r M1 h => h)) ?_
  refine wp_le [some (.ref l0), some (.int l1), none, none] (zLe_of (by simp [zLeB])) ?_
  exact s24_18 n    l0 l1 (zQ M l0 1) l1 (b189_0 n l3 (24 : Int32) M).1 (b189_0 n l3 (24 : Int32) M).2 hp hQ
def b24_0 (n : Nat)  (l0 : Nat) (l1 : Int32) (l2 : Int32) (l3 : Int32) (M : zM) : zM := b24_7 n  l0 l1 l3 (zWI M (zQ M l0 0) l1.toNatClampNeg l2)
def p24_0 (n : Nat)  (l0 : Nat) (l1 : Int32) (l2 : Int32) (l3 : Int32) (M : zM) : Prop := (zHasQ 3 9 l0 M 0) ∧ ((zOkT 1 (zQ M l0 0) l1 M) ∧ (p24_7 n  l0 l1 l3 (zWI M (zQ M l0 0) l1.toNatClampNeg l2)))
theorem s24_0 (n : Nat)    (l0 : Nat) (l1 : Int32) (l2 : Int32) (l3 : Int32) (M : zM) (hp : p24_0 n  l0 l1 l2 l3 M) {Q : Option Value → zM → Prop} (hQ : ∀ r M1, zRV (b24_0 n  l0 l1 l2 l3 M) r M1 → Q r M1) : zWP 24 0 [some (.ref l0), some (.int l1), some (.int l2), some (.int l3)] [] M Q := by
  unfold b24_0 at hQ
  unfold p24_0 at hp
  refine wp_go 1 (pc' := 1) (L' := [some (.ref l0), some (.int l1), some (.int l2), some (.int l3)]) (st' := [.ref l0]) (M' := M) rfl ?_
  obtain ⟨hc, hp⟩ := hp
  refine wq_getQ (j := 0) rfl hc ?_
  refine wp_go 2 (pc' := 6) (L' := [some (.ref l0), some (.int l1), some (.int l2), some (.int l3)]) (st' := [.int l2, .int l1, .ref (zQ M l0 0)]) (M' := M) rfl ?_
  obtain ⟨hc, hp⟩ := hp
  refine wq_iast rfl hc ?_
  refine wp_le [some (.ref l0), some (.int l1), none, some (.int l3)] (zLe_of (by simp [zLeB])) ?_
  exact s24_7 n    l0 l1 l3 (zWI M (zQ M l0 0) l1.toNatClampNeg l2) hp hQ
/-! X7_goesX -/
def b48_0 (n : Nat)  (l0 : Nat) (l1 : Int32) (l2 : Int32) (M : zM) : Int32 × zM := (((zI M (zQ M l0 2) l1.toNatClampNeg) * (zI M 1000006 (((zI M (zQ M l0 1) l1.toNatClampNeg) + l2) - ((zI M (zQ M l0 1) l1.toNatClampNeg) + l2) / (24 : Int32) * (24 : Int32)).toNatClampNeg)), M)
def p48_0 (n : Nat)  (l0 : Nat) (l1 : Int32) (l2 : Int32) (M : zM) : Prop := (zHasQ 6 15 l0 M 2) ∧ ((zOkI (zQ M l0 2) l1 M) ∧ ((zHasQ 6 9 l0 M 1) ∧ ((zOkI (zQ M l0 1) l1 M) ∧ ((zOkI 1000006 (((zI M (zQ M l0 1) l1.toNatClampNeg) + l2) - ((zI M (zQ M l0 1) l1.toNatClampNeg) + l2) / (24 : Int32) * (24 : Int32)) M) ∧ (True)))))
theorem s48_0 (n : Nat)    (l0 : Nat) (l1 : Int32) (l2 : Int32) (M : zM) (hp : p48_0 n  l0 l1 l2 M) {Q : Option Value → zM → Prop} (hQ : ∀ r M1, zRI (b48_0 n  l0 l1 l2 M) r M1 → Q r M1) : zWP 48 0 [some (.ref l0), some (.int l1), some (.int l2)] [] M Q := by
  unfold b48_0 at hQ
  unfold p48_0 at hp
  refine wp_go 1 (pc' := 1) (L' := [some (.ref l0), some (.int l1), some (.int l2)]) (st' := [.ref l0]) (M' := M) rfl ?_
  obtain ⟨hc, hp⟩ := hp
  refine wq_getQ (j := 2) rfl hc ?_
  refine wp_go 1 (pc' := 5) (L' := [some (.ref l0), some (.int l1), some (.int l2)]) (st' := [.int l1, .ref (zQ M l0 2)]) (M' := M) rfl ?_
  obtain ⟨hc, hp⟩ := hp
  refine wq_iald rfl hc ?_
  refine wq_gets (j := 6) rfl rfl ?_
  refine wp_go 1 (pc' := 10) (L' := [some (.ref l0), some (.int l1), some (.int l2)]) (st' := [.ref l0, .ref 1000006, .int (zI M (zQ M l0 2) l1.toNatClampNeg)]) (M' := M) rfl ?_
  obtain ⟨hc, hp⟩ := hp
  refine wq_getQ (j := 1) rfl hc ?_
  refine wp_go 1 (pc' := 14) (L' := [some (.ref l0), some (.int l1), some (.int l2)]) (st' := [.int l1, .ref (zQ M l0 1), .ref 1000006, .int (zI M (zQ M l0 2) l1.toNatClampNeg)]) (M' := M) rfl ?_
  obtain ⟨hc, hp⟩ := hp
  refine wq_iald rfl hc ?_
  refine wp_go 3 (pc' := 19) (L' := [some (.ref l0), some (.int l1), some (.int l2)]) (st' := [.int (24 : Int32), .int ((zI M (zQ M l0 1) l1.toNatClampNeg) + l2), .ref 1000006, .int (zI M (zQ M l0 2) l1.toNatClampNeg)]) (M' := M) rfl ?_
  refine wq_irem rfl (by decide) ?_
  obtain ⟨hc, hp⟩ := hp
  refine wq_iald rfl hc ?_
  refine wp_go 1 (pc' := 22) (L' := [some (.ref l0), some (.int l1), some (.int l2)]) (st' := [.int ((zI M (zQ M l0 2) l1.toNatClampNeg) * (zI M 1000006 (((zI M (zQ M l0 1) l1.toNatClampNeg) + l2) - ((zI M (zQ M l0 1) l1.toNatClampNeg) + l2) / (24 : Int32) * (24 : Int32)).toNatClampNeg))]) (M' := M) rfl ?_
  exact wp_ret (r := some (.int ((zI M (zQ M l0 2) l1.toNatClampNeg) * (zI M 1000006 (((zI M (zQ M l0 1) l1.toNatClampNeg) + l2) - ((zI M (zQ M l0 1) l1.toNatClampNeg) + l2) / (24 : Int32) * (24 : Int32)).toNatClampNeg)))) rfl rfl (hQ _ _ ⟨rfl, rfl⟩)
/-! X7_placeX -/
def b50_36 (n : Nat)  (l3 : Int32) (M : zM) : Int32 × zM := (l3, M)
def p50_36 (n : Nat)  (l3 : Int32) (M : zM) : Prop := True
theorem s50_36 (n : Nat)    (l3 : Int32) (M : zM) (hp : p50_36 n  l3 M) {Q : Option Value → zM → Prop} (hQ : ∀ r M1, zRI (b50_36 n  l3 M) r M1 → Q r M1) : zWP 50 36 [none, none, none, some (.int l3), none] [] M Q := by
  unfold b50_36 at hQ
  unfold p50_36 at hp
  refine wp_go 1 (pc' := 37) (L' := [none, none, none, some (.int l3), none]) (st' := [.int l3]) (M' := M) rfl ?_
  exact wp_ret (r := some (.int l3)) rfl rfl (hQ _ _ ⟨rfl, rfl⟩)
def b50_28 (n : Nat) (k5 : Nat → Int32 → Int32 → Int32 → Int32 → zM → Int32 × zM) (l0 : Nat) (l1 : Int32) (l2 : Int32) (l4 : Int32) (s0 : Int32) (s1 : Int32) (M : zM) : Int32 × zM := k5 l0 l1 l2 (s0 + s1) (l4 + Int32.ofInt 1) M
def p50_28 (n : Nat) (q5 : Nat → Int32 → Int32 → Int32 → Int32 → zM → Prop) (l0 : Nat) (l1 : Int32) (l2 : Int32) (l4 : Int32) (s0 : Int32) (s1 : Int32) (M : zM) : Prop := q5 l0 l1 l2 (s0 + s1) (l4 + Int32.ofInt 1) M
theorem s50_28 (n : Nat) (k5 : Nat → Int32 → Int32 → Int32 → Int32 → zM → Int32 × zM) (q5 : Nat → Int32 → Int32 → Int32 → Int32 → zM → Prop) (h5 : ∀ (l0 : Nat) (l1 : Int32) (l2 : Int32) (l3 : Int32) (l4 : Int32) (M : zM), q5 l0 l1 l2 l3 l4 M → ∀ {Q : Option Value → zM → Prop}, (∀ r M1, zRI (k5 l0 l1 l2 l3 l4 M) r M1 → Q r M1) → zWP 50 5 [some (.ref l0), some (.int l1), some (.int l2), some (.int l3), some (.int l4)] [] M Q) (l0 : Nat) (l1 : Int32) (l2 : Int32) (l4 : Int32) (s0 : Int32) (s1 : Int32) (M : zM) (hp : p50_28 n q5 l0 l1 l2 l4 s0 s1 M) {Q : Option Value → zM → Prop} (hQ : ∀ r M1, zRI (b50_28 n k5 l0 l1 l2 l4 s0 s1 M) r M1 → Q r M1) : zWP 50 28 [some (.ref l0), some (.int l1), some (.int l2), none, some (.int l4)] [.int s1, .int s0] M Q := by
  unfold b50_28 at hQ
  unfold p50_28 at hp
  refine wp_go 4 (pc' := 5) (L' := [some (.ref l0), some (.int l1), some (.int l2), some (.int (s0 + s1)), some (.int (l4 + Int32.ofInt 1))]) (st' := []) (M' := M) rfl ?_
  exact h5 l0 l1 l2 (s0 + s1) (l4 + Int32.ofInt 1) M hp hQ
def c50_5 (n : Nat) (k5 : Nat → Int32 → Int32 → Int32 → Int32 → zM → Int32 × zM) (l0 : Nat) (l1 : Int32) (l2 : Int32) (l3 : Int32) (l4 : Int32) (M : zM) : Int32 × zM := (if l1 ≤ l4 then b50_36 n  l3 M else (if (zI M l0 7) ≤ l4 then b50_36 n  l3 M else b50_28 n k5 l0 l1 l2 l4 l3 (b48_0 n l0 l4 l2 M).1 (b48_0 n l0 l4 l2 M).2))
def d50_5 (n : Nat) (q5 : Nat → Int32 → Int32 → Int32 → Int32 → zM → Prop) (l0 : Nat) (l1 : Int32) (l2 : Int32) (l3 : Int32) (l4 : Int32) (M : zM) : Prop := ((l1 ≤ l4 → p50_36 n  l3 M) ∧ (¬ l1 ≤ l4 → (zHasI 6 37 l0 M 7) ∧ ((((zI M l0 7) ≤ l4 → p50_36 n  l3 M) ∧ (¬ (zI M l0 7) ≤ l4 → (zHasC 50 81 l0 M 48 2) ∧ ((p48_0 n l0 l4 l2 M) ∧ (p50_28 n q5 l0 l1 l2 l4 l3 (b48_0 n l0 l4 l2 M).1 (b48_0 n l0 l4 l2 M).2)))))))
theorem t50_5 (n : Nat) (k5 : Nat → Int32 → Int32 → Int32 → Int32 → zM → Int32 × zM) (q5 : Nat → Int32 → Int32 → Int32 → Int32 → zM → Prop) (h5 : ∀ (l0 : Nat) (l1 : Int32) (l2 : Int32) (l3 : Int32) (l4 : Int32) (M : zM), q5 l0 l1 l2 l3 l4 M → ∀ {Q : Option Value → zM → Prop}, (∀ r M1, zRI (k5 l0 l1 l2 l3 l4 M) r M1 → Q r M1) → zWP 50 5 [some (.ref l0), some (.int l1), some (.int l2), some (.int l3), some (.int l4)] [] M Q) (l0 : Nat) (l1 : Int32) (l2 : Int32) (l3 : Int32) (l4 : Int32) (M : zM) (hp : d50_5 n q5 l0 l1 l2 l3 l4 M) {Q : Option Value → zM → Prop} (hQ : ∀ r M1, zRI (c50_5 n k5 l0 l1 l2 l3 l4 M) r M1 → Q r M1) : zWP 50 5 [some (.ref l0), some (.int l1), some (.int l2), some (.int l3), some (.int l4)] [] M Q := by
  unfold c50_5 at hQ
  unfold d50_5 at hp
  refine wp_go 2 (pc' := 8) (L' := [some (.ref l0), some (.int l1), some (.int l2), some (.int l3), some (.int l4)]) (st' := [.int l1, .int l4]) (M' := M) rfl ?_
  refine wp_ic_ge (t := 36) rfl rfl (fun hc => ?_) (fun hc => ?_)
  · rw [if_pos hc] at hQ
    replace hp := hp.1 hc
    refine wp_le [none, none, none, some (.int l3), none] (zLe_of (by simp [zLeB])) ?_
    exact s50_36 n    l3 M hp hQ
  · rw [if_neg hc] at hQ
    replace hp := hp.2 hc
    refine wp_go 2 (pc' := 14) (L' := [some (.ref l0), some (.int l1), some (.int l2), some (.int l3), some (.int l4)]) (st' := [.ref l0, .int l4]) (M' := M) rfl ?_
    obtain ⟨hc, hp⟩ := hp
    refine wq_getI (j := 7) rfl hc ?_
    refine wp_ic_ge (t := 36) rfl rfl (fun hc => ?_) (fun hc => ?_)
    · rw [if_pos hc] at hQ
      replace hp := hp.1 hc
      refine wp_le [none, none, none, some (.int l3), none] (zLe_of (by simp [zLeB])) ?_
      exact s50_36 n    l3 M hp hQ
    · rw [if_neg hc] at hQ
      replace hp := hp.2 hc
      refine wp_go 4 (pc' := 25) (L' := [some (.ref l0), some (.int l1), some (.int l2), some (.int l3), some (.int l4)]) (st' := [.int l2, .int l4, .ref l0, .int l3]) (M' := M) rfl ?_
      obtain ⟨hv, hp⟩ := hp
      obtain ⟨hc, hp⟩ := hp
      refine wp_calli (v := (b48_0 n l0 l4 l2 M).1) (M1 := (b48_0 n l0 l4 l2 M).2) rfl rfl rfl (zInv_v (np := 2) rfl rfl hv rfl) (s48_0 n l0 l4 l2 M hc (fun r M1 h => h)) ?_
      refine wp_le [some (.ref l0), some (.int l1), some (.int l2), none, some (.int l4)] (zLe_of (by simp [zLeB])) ?_
      exact s50_28 n k5 q5 h5 l0 l1 l2 l4 l3 (b48_0 n l0 l4 l2 M).1 (b48_0 n l0 l4 l2 M).2 hp hQ
def b50_5 (n : Nat)  : Nat → Nat → Int32 → Int32 → Int32 → Int32 → zM → Int32 × zM
  | 0, _, _, _, _, _, M => (0, M)
  | k + 1, l0, l1, l2, l3, l4, M => c50_5 n  (b50_5 n  k) l0 l1 l2 l3 l4 M
def p50_5 (n : Nat)  : Nat → Nat → Int32 → Int32 → Int32 → Int32 → zM → Prop
  | 0, _, _, _, _, _, _ => False
  | k + 1, l0, l1, l2, l3, l4, M => d50_5 n  (p50_5 n  k) l0 l1 l2 l3 l4 M
theorem s50_5 (n : Nat)    : ∀ (k : Nat) (l0 : Nat) (l1 : Int32) (l2 : Int32) (l3 : Int32) (l4 : Int32) (M : zM), p50_5 n  k l0 l1 l2 l3 l4 M → ∀ {Q : Option Value → zM → Prop}, (∀ r M1, zRI (b50_5 n  k l0 l1 l2 l3 l4 M) r M1 → Q r M1) → zWP 50 5 [some (.ref l0), some (.int l1), some (.int l2), some (.int l3), some (.int l4)] [] M Q
  | 0, _, _, _, _, _, _, h, _, _ => h.elim
  | k + 1, l0, l1, l2, l3, l4, M, h, _, hQ => t50_5 n  (b50_5 n  k)  (p50_5 n  k)  (s50_5 n    k) l0 l1 l2 l3 l4 M h hQ
def b50_0 (n : Nat)  (l0 : Nat) (l1 : Int32) (l2 : Int32) (M : zM) : Int32 × zM := b50_5 n  n l0 l1 l2 (0 : Int32) (0 : Int32) M
def p50_0 (n : Nat)  (l0 : Nat) (l1 : Int32) (l2 : Int32) (M : zM) : Prop := p50_5 n  n l0 l1 l2 (0 : Int32) (0 : Int32) M
theorem s50_0 (n : Nat)    (l0 : Nat) (l1 : Int32) (l2 : Int32) (M : zM) (hp : p50_0 n  l0 l1 l2 M) {Q : Option Value → zM → Prop} (hQ : ∀ r M1, zRI (b50_0 n  l0 l1 l2 M) r M1 → Q r M1) : zWP 50 0 [some (.ref l0), some (.int l1), some (.int l2), none, none] [] M Q := by
  unfold b50_0 at hQ
  unfold p50_0 at hp
  refine wp_go 4 (pc' := 5) (L' := [some (.ref l0), some (.int l1), some (.int l2), some (.int (0 : Int32)), some (.int (0 : Int32))]) (st' := []) (M' := M) rfl ?_
  exact s50_5 n    n l0 l1 l2 (0 : Int32) (0 : Int32) M hp hQ
/-! X4_offsetX -/
def b25_46 (n : Nat)  (s0 : Int32) (s1 : Int32) (M : zM) : Int32 × zM := ((s0 - s1), M)
def p25_46 (n : Nat)  (s0 : Int32) (s1 : Int32) (M : zM) : Prop := True
theorem s25_46 (n : Nat)    (s0 : Int32) (s1 : Int32) (M : zM) (hp : p25_46 n  s0 s1 M) {Q : Option Value → zM → Prop} (hQ : ∀ r M1, zRI (b25_46 n  s0 s1 M) r M1 → Q r M1) : zWP 25 46 [none, none, none] [.int s1, .int s0] M Q := by
  unfold b25_46 at hQ
  unfold p25_46 at hp
  refine wp_go 1 (pc' := 47) (L' := [none, none, none]) (st' := [.int (s0 - s1)]) (M' := M) rfl ?_
  exact wp_ret (r := some (.int (s0 - s1))) rfl rfl (hQ _ _ ⟨rfl, rfl⟩)
def b25_22 (n : Nat)  (l0 : Nat) (l1 : Nat) (l2 : Nat) (s0 : Int32) (M : zM) : Int32 × zM := b25_46 n  s0 (b50_0 n (zQ M l2 (zI M l1 2).toNatClampNeg) ((zI M l1 3) + (1 : Int32)) (zI M (zQ M l0 1) (zI M l1 2).toNatClampNeg) M).1 (b50_0 n (zQ M l2 (zI M l1 2).toNatClampNeg) ((zI M l1 3) + (1 : Int32)) (zI M (zQ M l0 1) (zI M l1 2).toNatClampNeg) M).2
def p25_22 (n : Nat)  (l0 : Nat) (l1 : Nat) (l2 : Nat) (s0 : Int32) (M : zM) : Prop := (zHasI 3 93 l1 M 2) ∧ ((zOkR l2 (zI M l1 2) M) ∧ ((zHasI 3 94 l1 M 3) ∧ ((zHasQ 3 15 l0 M 1) ∧ ((zHasI 3 93 l1 M 2) ∧ ((zOkI (zQ M l0 1) (zI M l1 2) M) ∧ ((zHasC 25 88 (zQ M l2 (zI M l1 2).toNatClampNeg) M 50 2) ∧ ((p50_0 n (zQ M l2 (zI M l1 2).toNatClampNeg) ((zI M l1 3) + (1 : Int32)) (zI M (zQ M l0 1) (zI M l1 2).toNatClampNeg) M) ∧ (p25_46 n  s0 (b50_0 n (zQ M l2 (zI M l1 2).toNatClampNeg) ((zI M l1 3) + (1 : Int32)) (zI M (zQ M l0 1) (zI M l1 2).toNatClampNeg) M).1 (b50_0 n (zQ M l2 (zI M l1 2).toNatClampNeg) ((zI M l1 3) + (1 : Int32)) (zI M (zQ M l0 1) (zI M l1 2).toNatClampNeg) M).2))))))))
theorem s25_22 (n : Nat)    (l0 : Nat) (l1 : Nat) (l2 : Nat) (s0 : Int32) (M : zM) (hp : p25_22 n  l0 l1 l2 s0 M) {Q : Option Value → zM → Prop} (hQ : ∀ r M1, zRI (b25_22 n  l0 l1 l2 s0 M) r M1 → Q r M1) : zWP 25 22 [some (.ref l0), some (.ref l1), some (.ref l2)] [.int s0] M Q := by
  unfold b25_22 at hQ
  unfold p25_22 at hp
  refine wp_go 2 (pc' := 24) (L' := [some (.ref l0), some (.ref l1), some (.ref l2)]) (st' := [.ref l1, .ref l2, .int s0]) (M' := M) rfl ?_
  obtain ⟨hc, hp⟩ := hp
  refine wq_getI (j := 2) rfl hc ?_
  obtain ⟨hc, hp⟩ := hp
  refine wq_aald rfl hc ?_
  refine wp_go 1 (pc' := 29) (L' := [some (.ref l0), some (.ref l1), some (.ref l2)]) (st' := [.ref l1, .ref (zQ M l2 (zI M l1 2).toNatClampNeg), .int s0]) (M' := M) rfl ?_
  obtain ⟨hc, hp⟩ := hp
  refine wq_getI (j := 3) rfl hc ?_
  refine wp_go 3 (pc' := 35) (L' := [some (.ref l0), some (.ref l1), some (.ref l2)]) (st' := [.ref l0, .int ((zI M l1 3) + (1 : Int32)), .ref (zQ M l2 (zI M l1 2).toNatClampNeg), .int s0]) (M' := M) rfl ?_
  obtain ⟨hc, hp⟩ := hp
  refine wq_getQ (j := 1) rfl hc ?_
  refine wp_go 1 (pc' := 39) (L' := [some (.ref l0), some (.ref l1), some (.ref l2)]) (st' := [.ref l1, .ref (zQ M l0 1), .int ((zI M l1 3) + (1 : Int32)), .ref (zQ M l2 (zI M l1 2).toNatClampNeg), .int s0]) (M' := M) rfl ?_
  obtain ⟨hc, hp⟩ := hp
  refine wq_getI (j := 2) rfl hc ?_
  obtain ⟨hc, hp⟩ := hp
  refine wq_iald rfl hc ?_
  obtain ⟨hv, hp⟩ := hp
  obtain ⟨hc, hp⟩ := hp
  refine wp_calli (v := (b50_0 n (zQ M l2 (zI M l1 2).toNatClampNeg) ((zI M l1 3) + (1 : Int32)) (zI M (zQ M l0 1) (zI M l1 2).toNatClampNeg) M).1) (M1 := (b50_0 n (zQ M l2 (zI M l1 2).toNatClampNeg) ((zI M l1 3) + (1 : Int32)) (zI M (zQ M l0 1) (zI M l1 2).toNatClampNeg) M).2) rfl rfl rfl (zInv_v (np := 2) rfl rfl hv rfl) (s50_0 n (zQ M l2 (zI M l1 2).toNatClampNeg) ((zI M l1 3) + (1 : Int32)) (zI M (zQ M l0 1) (zI M l1 2).toNatClampNeg) M hc (fun r M1 h => h)) ?_
  refine wp_le [none, none, none] (zLe_of (by simp [zLeB])) ?_
  exact s25_46 n    s0 (b50_0 n (zQ M l2 (zI M l1 2).toNatClampNeg) ((zI M l1 3) + (1 : Int32)) (zI M (zQ M l0 1) (zI M l1 2).toNatClampNeg) M).1 (b50_0 n (zQ M l2 (zI M l1 2).toNatClampNeg) ((zI M l1 3) + (1 : Int32)) (zI M (zQ M l0 1) (zI M l1 2).toNatClampNeg) M).2 hp hQ
def b25_0 (n : Nat)  (l0 : Nat) (l1 : Nat) (l2 : Nat) (M : zM) : Int32 × zM := b25_22 n  l0 l1 l2 (b50_0 n (zQ M l2 (zI M l1 0).toNatClampNeg) (zI M l1 1) (zI M (zQ M l0 1) (zI M l1 0).toNatClampNeg) M).1 (b50_0 n (zQ M l2 (zI M l1 0).toNatClampNeg) (zI M l1 1) (zI M (zQ M l0 1) (zI M l1 0).toNatClampNeg) M).2
def p25_0 (n : Nat)  (l0 : Nat) (l1 : Nat) (l2 : Nat) (M : zM) : Prop := (zHasI 3 82 l1 M 0) ∧ ((zOkR l2 (zI M l1 0) M) ∧ ((zHasI 3 85 l1 M 1) ∧ ((zHasQ 3 15 l0 M 1) ∧ ((zHasI 3 82 l1 M 0) ∧ ((zOkI (zQ M l0 1) (zI M l1 0) M) ∧ ((zHasC 25 88 (zQ M l2 (zI M l1 0).toNatClampNeg) M 50 2) ∧ ((p50_0 n (zQ M l2 (zI M l1 0).toNatClampNeg) (zI M l1 1) (zI M (zQ M l0 1) (zI M l1 0).toNatClampNeg) M) ∧ (p25_22 n  l0 l1 l2 (b50_0 n (zQ M l2 (zI M l1 0).toNatClampNeg) (zI M l1 1) (zI M (zQ M l0 1) (zI M l1 0).toNatClampNeg) M).1 (b50_0 n (zQ M l2 (zI M l1 0).toNatClampNeg) (zI M l1 1) (zI M (zQ M l0 1) (zI M l1 0).toNatClampNeg) M).2))))))))
theorem s25_0 (n : Nat)    (l0 : Nat) (l1 : Nat) (l2 : Nat) (M : zM) (hp : p25_0 n  l0 l1 l2 M) {Q : Option Value → zM → Prop} (hQ : ∀ r M1, zRI (b25_0 n  l0 l1 l2 M) r M1 → Q r M1) : zWP 25 0 [some (.ref l0), some (.ref l1), some (.ref l2)] [] M Q := by
  unfold b25_0 at hQ
  unfold p25_0 at hp
  refine wp_go 2 (pc' := 2) (L' := [some (.ref l0), some (.ref l1), some (.ref l2)]) (st' := [.ref l1, .ref l2]) (M' := M) rfl ?_
  obtain ⟨hc, hp⟩ := hp
  refine wq_getI (j := 0) rfl hc ?_
  obtain ⟨hc, hp⟩ := hp
  refine wq_aald rfl hc ?_
  refine wp_go 1 (pc' := 7) (L' := [some (.ref l0), some (.ref l1), some (.ref l2)]) (st' := [.ref l1, .ref (zQ M l2 (zI M l1 0).toNatClampNeg)]) (M' := M) rfl ?_
  obtain ⟨hc, hp⟩ := hp
  refine wq_getI (j := 1) rfl hc ?_
  refine wp_go 1 (pc' := 11) (L' := [some (.ref l0), some (.ref l1), some (.ref l2)]) (st' := [.ref l0, .int (zI M l1 1), .ref (zQ M l2 (zI M l1 0).toNatClampNeg)]) (M' := M) rfl ?_
  obtain ⟨hc, hp⟩ := hp
  refine wq_getQ (j := 1) rfl hc ?_
  refine wp_go 1 (pc' := 15) (L' := [some (.ref l0), some (.ref l1), some (.ref l2)]) (st' := [.ref l1, .ref (zQ M l0 1), .int (zI M l1 1), .ref (zQ M l2 (zI M l1 0).toNatClampNeg)]) (M' := M) rfl ?_
  obtain ⟨hc, hp⟩ := hp
  refine wq_getI (j := 0) rfl hc ?_
  obtain ⟨hc, hp⟩ := hp
  refine wq_iald rfl hc ?_
  obtain ⟨hv, hp⟩ := hp
  obtain ⟨hc, hp⟩ := hp
  refine wp_calli (v := (b50_0 n (zQ M l2 (zI M l1 0).toNatClampNeg) (zI M l1 1) (zI M (zQ M l0 1) (zI M l1 0).toNatClampNeg) M).1) (M1 := (b50_0 n (zQ M l2 (zI M l1 0).toNatClampNeg) (zI M l1 1) (zI M (zQ M l0 1) (zI M l1 0).toNatClampNeg) M).2) rfl rfl rfl (zInv_v (np := 2) rfl rfl hv rfl) (s50_0 n (zQ M l2 (zI M l1 0).toNatClampNeg) (zI M l1 1) (zI M (zQ M l0 1) (zI M l1 0).toNatClampNeg) M hc (fun r M1 h => h)) ?_
  exact s25_22 n    l0 l1 l2 (b50_0 n (zQ M l2 (zI M l1 0).toNatClampNeg) (zI M l1 1) (zI M (zQ M l0 1) (zI M l1 0).toNatClampNeg) M).1 (b50_0 n (zQ M l2 (zI M l1 0).toNatClampNeg) (zI M l1 1) (zI M (zQ M l0 1) (zI M l1 0).toNatClampNeg) M).2 hp hQ
/-! X7_goesY -/
def b49_0 (n : Nat)  (l0 : Nat) (l1 : Int32) (l2 : Int32) (M : zM) : Int32 × zM := (((zI M (zQ M l0 2) l1.toNatClampNeg) * (zI M 1000006 ((((zI M (zQ M l0 1) l1.toNatClampNeg) + l2) + (18 : Int32)) - (((zI M (zQ M l0 1) l1.toNatClampNeg) + l2) + (18 : Int32)) / (24 : Int32) * (24 : Int32)).toNatClampNeg)), M)
def p49_0 (n : Nat)  (l0 : Nat) (l1 : Int32) (l2 : Int32) (M : zM) : Prop := (zHasQ 6 15 l0 M 2) ∧ ((zOkI (zQ M l0 2) l1 M) ∧ ((zHasQ 6 9 l0 M 1) ∧ ((zOkI (zQ M l0 1) l1 M) ∧ ((zOkI 1000006 ((((zI M (zQ M l0 1) l1.toNatClampNeg) + l2) + (18 : Int32)) - (((zI M (zQ M l0 1) l1.toNatClampNeg) + l2) + (18 : Int32)) / (24 : Int32) * (24 : Int32)) M) ∧ (True)))))
theorem s49_0 (n : Nat)    (l0 : Nat) (l1 : Int32) (l2 : Int32) (M : zM) (hp : p49_0 n  l0 l1 l2 M) {Q : Option Value → zM → Prop} (hQ : ∀ r M1, zRI (b49_0 n  l0 l1 l2 M) r M1 → Q r M1) : zWP 49 0 [some (.ref l0), some (.int l1), some (.int l2)] [] M Q := by
  unfold b49_0 at hQ
  unfold p49_0 at hp
  refine wp_go 1 (pc' := 1) (L' := [some (.ref l0), some (.int l1), some (.int l2)]) (st' := [.ref l0]) (M' := M) rfl ?_
  obtain ⟨hc, hp⟩ := hp
  refine wq_getQ (j := 2) rfl hc ?_
  refine wp_go 1 (pc' := 5) (L' := [some (.ref l0), some (.int l1), some (.int l2)]) (st' := [.int l1, .ref (zQ M l0 2)]) (M' := M) rfl ?_
  obtain ⟨hc, hp⟩ := hp
  refine wq_iald rfl hc ?_
  refine wq_gets (j := 6) rfl rfl ?_
  refine wp_go 1 (pc' := 10) (L' := [some (.ref l0), some (.int l1), some (.int l2)]) (st' := [.ref l0, .ref 1000006, .int (zI M (zQ M l0 2) l1.toNatClampNeg)]) (M' := M) rfl ?_
  obtain ⟨hc, hp⟩ := hp
  refine wq_getQ (j := 1) rfl hc ?_
  refine wp_go 1 (pc' := 14) (L' := [some (.ref l0), some (.int l1), some (.int l2)]) (st' := [.int l1, .ref (zQ M l0 1), .ref 1000006, .int (zI M (zQ M l0 2) l1.toNatClampNeg)]) (M' := M) rfl ?_
  obtain ⟨hc, hp⟩ := hp
  refine wq_iald rfl hc ?_
  refine wp_go 5 (pc' := 22) (L' := [some (.ref l0), some (.int l1), some (.int l2)]) (st' := [.int (24 : Int32), .int (((zI M (zQ M l0 1) l1.toNatClampNeg) + l2) + (18 : Int32)), .ref 1000006, .int (zI M (zQ M l0 2) l1.toNatClampNeg)]) (M' := M) rfl ?_
  refine wq_irem rfl (by decide) ?_
  obtain ⟨hc, hp⟩ := hp
  refine wq_iald rfl hc ?_
  refine wp_go 1 (pc' := 25) (L' := [some (.ref l0), some (.int l1), some (.int l2)]) (st' := [.int ((zI M (zQ M l0 2) l1.toNatClampNeg) * (zI M 1000006 ((((zI M (zQ M l0 1) l1.toNatClampNeg) + l2) + (18 : Int32)) - (((zI M (zQ M l0 1) l1.toNatClampNeg) + l2) + (18 : Int32)) / (24 : Int32) * (24 : Int32)).toNatClampNeg))]) (M' := M) rfl ?_
  exact wp_ret (r := some (.int ((zI M (zQ M l0 2) l1.toNatClampNeg) * (zI M 1000006 ((((zI M (zQ M l0 1) l1.toNatClampNeg) + l2) + (18 : Int32)) - (((zI M (zQ M l0 1) l1.toNatClampNeg) + l2) + (18 : Int32)) / (24 : Int32) * (24 : Int32)).toNatClampNeg)))) rfl rfl (hQ _ _ ⟨rfl, rfl⟩)
/-! X7_placeY -/
def b51_36 (n : Nat)  (l3 : Int32) (M : zM) : Int32 × zM := (l3, M)
def p51_36 (n : Nat)  (l3 : Int32) (M : zM) : Prop := True
theorem s51_36 (n : Nat)    (l3 : Int32) (M : zM) (hp : p51_36 n  l3 M) {Q : Option Value → zM → Prop} (hQ : ∀ r M1, zRI (b51_36 n  l3 M) r M1 → Q r M1) : zWP 51 36 [none, none, none, some (.int l3), none] [] M Q := by
  unfold b51_36 at hQ
  unfold p51_36 at hp
  refine wp_go 1 (pc' := 37) (L' := [none, none, none, some (.int l3), none]) (st' := [.int l3]) (M' := M) rfl ?_
  exact wp_ret (r := some (.int l3)) rfl rfl (hQ _ _ ⟨rfl, rfl⟩)
def b51_28 (n : Nat) (k5 : Nat → Int32 → Int32 → Int32 → Int32 → zM → Int32 × zM) (l0 : Nat) (l1 : Int32) (l2 : Int32) (l4 : Int32) (s0 : Int32) (s1 : Int32) (M : zM) : Int32 × zM := k5 l0 l1 l2 (s0 + s1) (l4 + Int32.ofInt 1) M
def p51_28 (n : Nat) (q5 : Nat → Int32 → Int32 → Int32 → Int32 → zM → Prop) (l0 : Nat) (l1 : Int32) (l2 : Int32) (l4 : Int32) (s0 : Int32) (s1 : Int32) (M : zM) : Prop := q5 l0 l1 l2 (s0 + s1) (l4 + Int32.ofInt 1) M
theorem s51_28 (n : Nat) (k5 : Nat → Int32 → Int32 → Int32 → Int32 → zM → Int32 × zM) (q5 : Nat → Int32 → Int32 → Int32 → Int32 → zM → Prop) (h5 : ∀ (l0 : Nat) (l1 : Int32) (l2 : Int32) (l3 : Int32) (l4 : Int32) (M : zM), q5 l0 l1 l2 l3 l4 M → ∀ {Q : Option Value → zM → Prop}, (∀ r M1, zRI (k5 l0 l1 l2 l3 l4 M) r M1 → Q r M1) → zWP 51 5 [some (.ref l0), some (.int l1), some (.int l2), some (.int l3), some (.int l4)] [] M Q) (l0 : Nat) (l1 : Int32) (l2 : Int32) (l4 : Int32) (s0 : Int32) (s1 : Int32) (M : zM) (hp : p51_28 n q5 l0 l1 l2 l4 s0 s1 M) {Q : Option Value → zM → Prop} (hQ : ∀ r M1, zRI (b51_28 n k5 l0 l1 l2 l4 s0 s1 M) r M1 → Q r M1) : zWP 51 28 [some (.ref l0), some (.int l1), some (.int l2), none, some (.int l4)] [.int s1, .int s0] M Q := by
  unfold b51_28 at hQ
  unfold p51_28 at hp
  refine wp_go 4 (pc' := 5) (L' := [some (.ref l0), some (.int l1), some (.int l2), some (.int (s0 + s1)), some (.int (l4 + Int32.ofInt 1))]) (st' := []) (M' := M) rfl ?_
  exact h5 l0 l1 l2 (s0 + s1) (l4 + Int32.ofInt 1) M hp hQ
def c51_5 (n : Nat) (k5 : Nat → Int32 → Int32 → Int32 → Int32 → zM → Int32 × zM) (l0 : Nat) (l1 : Int32) (l2 : Int32) (l3 : Int32) (l4 : Int32) (M : zM) : Int32 × zM := (if l1 ≤ l4 then b51_36 n  l3 M else (if (zI M l0 7) ≤ l4 then b51_36 n  l3 M else b51_28 n k5 l0 l1 l2 l4 l3 (b49_0 n l0 l4 l2 M).1 (b49_0 n l0 l4 l2 M).2))
def d51_5 (n : Nat) (q5 : Nat → Int32 → Int32 → Int32 → Int32 → zM → Prop) (l0 : Nat) (l1 : Int32) (l2 : Int32) (l3 : Int32) (l4 : Int32) (M : zM) : Prop := ((l1 ≤ l4 → p51_36 n  l3 M) ∧ (¬ l1 ≤ l4 → (zHasI 6 37 l0 M 7) ∧ ((((zI M l0 7) ≤ l4 → p51_36 n  l3 M) ∧ (¬ (zI M l0 7) ≤ l4 → (zHasC 51 84 l0 M 49 2) ∧ ((p49_0 n l0 l4 l2 M) ∧ (p51_28 n q5 l0 l1 l2 l4 l3 (b49_0 n l0 l4 l2 M).1 (b49_0 n l0 l4 l2 M).2)))))))
theorem t51_5 (n : Nat) (k5 : Nat → Int32 → Int32 → Int32 → Int32 → zM → Int32 × zM) (q5 : Nat → Int32 → Int32 → Int32 → Int32 → zM → Prop) (h5 : ∀ (l0 : Nat) (l1 : Int32) (l2 : Int32) (l3 : Int32) (l4 : Int32) (M : zM), q5 l0 l1 l2 l3 l4 M → ∀ {Q : Option Value → zM → Prop}, (∀ r M1, zRI (k5 l0 l1 l2 l3 l4 M) r M1 → Q r M1) → zWP 51 5 [some (.ref l0), some (.int l1), some (.int l2), some (.int l3), some (.int l4)] [] M Q) (l0 : Nat) (l1 : Int32) (l2 : Int32) (l3 : Int32) (l4 : Int32) (M : zM) (hp : d51_5 n q5 l0 l1 l2 l3 l4 M) {Q : Option Value → zM → Prop} (hQ : ∀ r M1, zRI (c51_5 n k5 l0 l1 l2 l3 l4 M) r M1 → Q r M1) : zWP 51 5 [some (.ref l0), some (.int l1), some (.int l2), some (.int l3), some (.int l4)] [] M Q := by
  unfold c51_5 at hQ
  unfold d51_5 at hp
  refine wp_go 2 (pc' := 8) (L' := [some (.ref l0), some (.int l1), some (.int l2), some (.int l3), some (.int l4)]) (st' := [.int l1, .int l4]) (M' := M) rfl ?_
  refine wp_ic_ge (t := 36) rfl rfl (fun hc => ?_) (fun hc => ?_)
  · rw [if_pos hc] at hQ
    replace hp := hp.1 hc
    refine wp_le [none, none, none, some (.int l3), none] (zLe_of (by simp [zLeB])) ?_
    exact s51_36 n    l3 M hp hQ
  · rw [if_neg hc] at hQ
    replace hp := hp.2 hc
    refine wp_go 2 (pc' := 14) (L' := [some (.ref l0), some (.int l1), some (.int l2), some (.int l3), some (.int l4)]) (st' := [.ref l0, .int l4]) (M' := M) rfl ?_
    obtain ⟨hc, hp⟩ := hp
    refine wq_getI (j := 7) rfl hc ?_
    refine wp_ic_ge (t := 36) rfl rfl (fun hc => ?_) (fun hc => ?_)
    · rw [if_pos hc] at hQ
      replace hp := hp.1 hc
      refine wp_le [none, none, none, some (.int l3), none] (zLe_of (by simp [zLeB])) ?_
      exact s51_36 n    l3 M hp hQ
    · rw [if_neg hc] at hQ
      replace hp := hp.2 hc
      refine wp_go 4 (pc' := 25) (L' := [some (.ref l0), some (.int l1), some (.int l2), some (.int l3), some (.int l4)]) (st' := [.int l2, .int l4, .ref l0, .int l3]) (M' := M) rfl ?_
      obtain ⟨hv, hp⟩ := hp
      obtain ⟨hc, hp⟩ := hp
      refine wp_calli (v := (b49_0 n l0 l4 l2 M).1) (M1 := (b49_0 n l0 l4 l2 M).2) rfl rfl rfl (zInv_v (np := 2) rfl rfl hv rfl) (s49_0 n l0 l4 l2 M hc (fun r M1 h => h)) ?_
      refine wp_le [some (.ref l0), some (.int l1), some (.int l2), none, some (.int l4)] (zLe_of (by simp [zLeB])) ?_
      exact s51_28 n k5 q5 h5 l0 l1 l2 l4 l3 (b49_0 n l0 l4 l2 M).1 (b49_0 n l0 l4 l2 M).2 hp hQ
def b51_5 (n : Nat)  : Nat → Nat → Int32 → Int32 → Int32 → Int32 → zM → Int32 × zM
  | 0, _, _, _, _, _, M => (0, M)
  | k + 1, l0, l1, l2, l3, l4, M => c51_5 n  (b51_5 n  k) l0 l1 l2 l3 l4 M
def p51_5 (n : Nat)  : Nat → Nat → Int32 → Int32 → Int32 → Int32 → zM → Prop
  | 0, _, _, _, _, _, _ => False
  | k + 1, l0, l1, l2, l3, l4, M => d51_5 n  (p51_5 n  k) l0 l1 l2 l3 l4 M
theorem s51_5 (n : Nat)    : ∀ (k : Nat) (l0 : Nat) (l1 : Int32) (l2 : Int32) (l3 : Int32) (l4 : Int32) (M : zM), p51_5 n  k l0 l1 l2 l3 l4 M → ∀ {Q : Option Value → zM → Prop}, (∀ r M1, zRI (b51_5 n  k l0 l1 l2 l3 l4 M) r M1 → Q r M1) → zWP 51 5 [some (.ref l0), some (.int l1), some (.int l2), some (.int l3), some (.int l4)] [] M Q
  | 0, _, _, _, _, _, _, h, _, _ => h.elim
  | k + 1, l0, l1, l2, l3, l4, M, h, _, hQ => t51_5 n  (b51_5 n  k)  (p51_5 n  k)  (s51_5 n    k) l0 l1 l2 l3 l4 M h hQ
def b51_0 (n : Nat)  (l0 : Nat) (l1 : Int32) (l2 : Int32) (M : zM) : Int32 × zM := b51_5 n  n l0 l1 l2 (0 : Int32) (0 : Int32) M
def p51_0 (n : Nat)  (l0 : Nat) (l1 : Int32) (l2 : Int32) (M : zM) : Prop := p51_5 n  n l0 l1 l2 (0 : Int32) (0 : Int32) M
theorem s51_0 (n : Nat)    (l0 : Nat) (l1 : Int32) (l2 : Int32) (M : zM) (hp : p51_0 n  l0 l1 l2 M) {Q : Option Value → zM → Prop} (hQ : ∀ r M1, zRI (b51_0 n  l0 l1 l2 M) r M1 → Q r M1) : zWP 51 0 [some (.ref l0), some (.int l1), some (.int l2), none, none] [] M Q := by
  unfold b51_0 at hQ
  unfold p51_0 at hp
  refine wp_go 4 (pc' := 5) (L' := [some (.ref l0), some (.int l1), some (.int l2), some (.int (0 : Int32)), some (.int (0 : Int32))]) (st' := []) (M' := M) rfl ?_
  exact s51_5 n    n l0 l1 l2 (0 : Int32) (0 : Int32) M hp hQ
/-! X4_offsetY -/
def b26_46 (n : Nat)  (s0 : Int32) (s1 : Int32) (M : zM) : Int32 × zM := ((s0 - s1), M)
def p26_46 (n : Nat)  (s0 : Int32) (s1 : Int32) (M : zM) : Prop := True
theorem s26_46 (n : Nat)    (s0 : Int32) (s1 : Int32) (M : zM) (hp : p26_46 n  s0 s1 M) {Q : Option Value → zM → Prop} (hQ : ∀ r M1, zRI (b26_46 n  s0 s1 M) r M1 → Q r M1) : zWP 26 46 [none, none, none] [.int s1, .int s0] M Q := by
  unfold b26_46 at hQ
  unfold p26_46 at hp
  refine wp_go 1 (pc' := 47) (L' := [none, none, none]) (st' := [.int (s0 - s1)]) (M' := M) rfl ?_
  exact wp_ret (r := some (.int (s0 - s1))) rfl rfl (hQ _ _ ⟨rfl, rfl⟩)
def b26_22 (n : Nat)  (l0 : Nat) (l1 : Nat) (l2 : Nat) (s0 : Int32) (M : zM) : Int32 × zM := b26_46 n  s0 (b51_0 n (zQ M l2 (zI M l1 2).toNatClampNeg) ((zI M l1 3) + (1 : Int32)) (zI M (zQ M l0 1) (zI M l1 2).toNatClampNeg) M).1 (b51_0 n (zQ M l2 (zI M l1 2).toNatClampNeg) ((zI M l1 3) + (1 : Int32)) (zI M (zQ M l0 1) (zI M l1 2).toNatClampNeg) M).2
def p26_22 (n : Nat)  (l0 : Nat) (l1 : Nat) (l2 : Nat) (s0 : Int32) (M : zM) : Prop := (zHasI 3 93 l1 M 2) ∧ ((zOkR l2 (zI M l1 2) M) ∧ ((zHasI 3 94 l1 M 3) ∧ ((zHasQ 3 15 l0 M 1) ∧ ((zHasI 3 93 l1 M 2) ∧ ((zOkI (zQ M l0 1) (zI M l1 2) M) ∧ ((zHasC 26 97 (zQ M l2 (zI M l1 2).toNatClampNeg) M 51 2) ∧ ((p51_0 n (zQ M l2 (zI M l1 2).toNatClampNeg) ((zI M l1 3) + (1 : Int32)) (zI M (zQ M l0 1) (zI M l1 2).toNatClampNeg) M) ∧ (p26_46 n  s0 (b51_0 n (zQ M l2 (zI M l1 2).toNatClampNeg) ((zI M l1 3) + (1 : Int32)) (zI M (zQ M l0 1) (zI M l1 2).toNatClampNeg) M).1 (b51_0 n (zQ M l2 (zI M l1 2).toNatClampNeg) ((zI M l1 3) + (1 : Int32)) (zI M (zQ M l0 1) (zI M l1 2).toNatClampNeg) M).2))))))))
theorem s26_22 (n : Nat)    (l0 : Nat) (l1 : Nat) (l2 : Nat) (s0 : Int32) (M : zM) (hp : p26_22 n  l0 l1 l2 s0 M) {Q : Option Value → zM → Prop} (hQ : ∀ r M1, zRI (b26_22 n  l0 l1 l2 s0 M) r M1 → Q r M1) : zWP 26 22 [some (.ref l0), some (.ref l1), some (.ref l2)] [.int s0] M Q := by
  unfold b26_22 at hQ
  unfold p26_22 at hp
  refine wp_go 2 (pc' := 24) (L' := [some (.ref l0), some (.ref l1), some (.ref l2)]) (st' := [.ref l1, .ref l2, .int s0]) (M' := M) rfl ?_
  obtain ⟨hc, hp⟩ := hp
  refine wq_getI (j := 2) rfl hc ?_
  obtain ⟨hc, hp⟩ := hp
  refine wq_aald rfl hc ?_
  refine wp_go 1 (pc' := 29) (L' := [some (.ref l0), some (.ref l1), some (.ref l2)]) (st' := [.ref l1, .ref (zQ M l2 (zI M l1 2).toNatClampNeg), .int s0]) (M' := M) rfl ?_
  obtain ⟨hc, hp⟩ := hp
  refine wq_getI (j := 3) rfl hc ?_
  refine wp_go 3 (pc' := 35) (L' := [some (.ref l0), some (.ref l1), some (.ref l2)]) (st' := [.ref l0, .int ((zI M l1 3) + (1 : Int32)), .ref (zQ M l2 (zI M l1 2).toNatClampNeg), .int s0]) (M' := M) rfl ?_
  obtain ⟨hc, hp⟩ := hp
  refine wq_getQ (j := 1) rfl hc ?_
  refine wp_go 1 (pc' := 39) (L' := [some (.ref l0), some (.ref l1), some (.ref l2)]) (st' := [.ref l1, .ref (zQ M l0 1), .int ((zI M l1 3) + (1 : Int32)), .ref (zQ M l2 (zI M l1 2).toNatClampNeg), .int s0]) (M' := M) rfl ?_
  obtain ⟨hc, hp⟩ := hp
  refine wq_getI (j := 2) rfl hc ?_
  obtain ⟨hc, hp⟩ := hp
  refine wq_iald rfl hc ?_
  obtain ⟨hv, hp⟩ := hp
  obtain ⟨hc, hp⟩ := hp
  refine wp_calli (v := (b51_0 n (zQ M l2 (zI M l1 2).toNatClampNeg) ((zI M l1 3) + (1 : Int32)) (zI M (zQ M l0 1) (zI M l1 2).toNatClampNeg) M).1) (M1 := (b51_0 n (zQ M l2 (zI M l1 2).toNatClampNeg) ((zI M l1 3) + (1 : Int32)) (zI M (zQ M l0 1) (zI M l1 2).toNatClampNeg) M).2) rfl rfl rfl (zInv_v (np := 2) rfl rfl hv rfl) (s51_0 n (zQ M l2 (zI M l1 2).toNatClampNeg) ((zI M l1 3) + (1 : Int32)) (zI M (zQ M l0 1) (zI M l1 2).toNatClampNeg) M hc (fun r M1 h => h)) ?_
  refine wp_le [none, none, none] (zLe_of (by simp [zLeB])) ?_
  exact s26_46 n    s0 (b51_0 n (zQ M l2 (zI M l1 2).toNatClampNeg) ((zI M l1 3) + (1 : Int32)) (zI M (zQ M l0 1) (zI M l1 2).toNatClampNeg) M).1 (b51_0 n (zQ M l2 (zI M l1 2).toNatClampNeg) ((zI M l1 3) + (1 : Int32)) (zI M (zQ M l0 1) (zI M l1 2).toNatClampNeg) M).2 hp hQ
def b26_0 (n : Nat)  (l0 : Nat) (l1 : Nat) (l2 : Nat) (M : zM) : Int32 × zM := b26_22 n  l0 l1 l2 (b51_0 n (zQ M l2 (zI M l1 0).toNatClampNeg) (zI M l1 1) (zI M (zQ M l0 1) (zI M l1 0).toNatClampNeg) M).1 (b51_0 n (zQ M l2 (zI M l1 0).toNatClampNeg) (zI M l1 1) (zI M (zQ M l0 1) (zI M l1 0).toNatClampNeg) M).2
def p26_0 (n : Nat)  (l0 : Nat) (l1 : Nat) (l2 : Nat) (M : zM) : Prop := (zHasI 3 82 l1 M 0) ∧ ((zOkR l2 (zI M l1 0) M) ∧ ((zHasI 3 85 l1 M 1) ∧ ((zHasQ 3 15 l0 M 1) ∧ ((zHasI 3 82 l1 M 0) ∧ ((zOkI (zQ M l0 1) (zI M l1 0) M) ∧ ((zHasC 26 97 (zQ M l2 (zI M l1 0).toNatClampNeg) M 51 2) ∧ ((p51_0 n (zQ M l2 (zI M l1 0).toNatClampNeg) (zI M l1 1) (zI M (zQ M l0 1) (zI M l1 0).toNatClampNeg) M) ∧ (p26_22 n  l0 l1 l2 (b51_0 n (zQ M l2 (zI M l1 0).toNatClampNeg) (zI M l1 1) (zI M (zQ M l0 1) (zI M l1 0).toNatClampNeg) M).1 (b51_0 n (zQ M l2 (zI M l1 0).toNatClampNeg) (zI M l1 1) (zI M (zQ M l0 1) (zI M l1 0).toNatClampNeg) M).2))))))))
theorem s26_0 (n : Nat)    (l0 : Nat) (l1 : Nat) (l2 : Nat) (M : zM) (hp : p26_0 n  l0 l1 l2 M) {Q : Option Value → zM → Prop} (hQ : ∀ r M1, zRI (b26_0 n  l0 l1 l2 M) r M1 → Q r M1) : zWP 26 0 [some (.ref l0), some (.ref l1), some (.ref l2)] [] M Q := by
  unfold b26_0 at hQ
  unfold p26_0 at hp
  refine wp_go 2 (pc' := 2) (L' := [some (.ref l0), some (.ref l1), some (.ref l2)]) (st' := [.ref l1, .ref l2]) (M' := M) rfl ?_
  obtain ⟨hc, hp⟩ := hp
  refine wq_getI (j := 0) rfl hc ?_
  obtain ⟨hc, hp⟩ := hp
  refine wq_aald rfl hc ?_
  refine wp_go 1 (pc' := 7) (L' := [some (.ref l0), some (.ref l1), some (.ref l2)]) (st' := [.ref l1, .ref (zQ M l2 (zI M l1 0).toNatClampNeg)]) (M' := M) rfl ?_
  obtain ⟨hc, hp⟩ := hp
  refine wq_getI (j := 1) rfl hc ?_
  refine wp_go 1 (pc' := 11) (L' := [some (.ref l0), some (.ref l1), some (.ref l2)]) (st' := [.ref l0, .int (zI M l1 1), .ref (zQ M l2 (zI M l1 0).toNatClampNeg)]) (M' := M) rfl ?_
  obtain ⟨hc, hp⟩ := hp
  refine wq_getQ (j := 1) rfl hc ?_
  refine wp_go 1 (pc' := 15) (L' := [some (.ref l0), some (.ref l1), some (.ref l2)]) (st' := [.ref l1, .ref (zQ M l0 1), .int (zI M l1 1), .ref (zQ M l2 (zI M l1 0).toNatClampNeg)]) (M' := M) rfl ?_
  obtain ⟨hc, hp⟩ := hp
  refine wq_getI (j := 0) rfl hc ?_
  obtain ⟨hc, hp⟩ := hp
  refine wq_iald rfl hc ?_
  obtain ⟨hv, hp⟩ := hp
  obtain ⟨hc, hp⟩ := hp
  refine wp_calli (v := (b51_0 n (zQ M l2 (zI M l1 0).toNatClampNeg) (zI M l1 1) (zI M (zQ M l0 1) (zI M l1 0).toNatClampNeg) M).1) (M1 := (b51_0 n (zQ M l2 (zI M l1 0).toNatClampNeg) (zI M l1 1) (zI M (zQ M l0 1) (zI M l1 0).toNatClampNeg) M).2) rfl rfl rfl (zInv_v (np := 2) rfl rfl hv rfl) (s51_0 n (zQ M l2 (zI M l1 0).toNatClampNeg) (zI M l1 1) (zI M (zQ M l0 1) (zI M l1 0).toNatClampNeg) M hc (fun r M1 h => h)) ?_
  exact s26_22 n    l0 l1 l2 (b51_0 n (zQ M l2 (zI M l1 0).toNatClampNeg) (zI M l1 1) (zI M (zQ M l0 1) (zI M l1 0).toNatClampNeg) M).1 (b51_0 n (zQ M l2 (zI M l1 0).toNatClampNeg) (zI M l1 1) (zI M (zQ M l0 1) (zI M l1 0).toNatClampNeg) M).2 hp hQ
/-! X4_layNeighboursOf -/
def b23_230 (n : Nat) (k3 : Nat → Int32 → Nat → Nat → Int32 → zM → zM) (l0 : Nat) (l1 : Int32) (l2 : Nat) (l3 : Nat) (l4 : Int32) (M : zM) : zM := k3 l0 l1 l2 l3 (l4 + Int32.ofInt 1) M
def p23_230 (n : Nat) (q3 : Nat → Int32 → Nat → Nat → Int32 → zM → Prop) (l0 : Nat) (l1 : Int32) (l2 : Nat) (l3 : Nat) (l4 : Int32) (M : zM) : Prop := q3 l0 l1 l2 l3 (l4 + Int32.ofInt 1) M
theorem s23_230 (n : Nat) (k3 : Nat → Int32 → Nat → Nat → Int32 → zM → zM) (q3 : Nat → Int32 → Nat → Nat → Int32 → zM → Prop) (h3 : ∀ (l0 : Nat) (l1 : Int32) (l2 : Nat) (l3 : Nat) (l4 : Int32) (M : zM), q3 l0 l1 l2 l3 l4 M → ∀ {Q : Option Value → zM → Prop}, (∀ r M1, zRV (k3 l0 l1 l2 l3 l4 M) r M1 → Q r M1) → zWP 23 3 [some (.ref l0), some (.int l1), some (.ref l2), some (.ref l3), some (.int l4), none] [] M Q) (l0 : Nat) (l1 : Int32) (l2 : Nat) (l3 : Nat) (l4 : Int32) (M : zM) (hp : p23_230 n q3 l0 l1 l2 l3 l4 M) {Q : Option Value → zM → Prop} (hQ : ∀ r M1, zRV (b23_230 n k3 l0 l1 l2 l3 l4 M) r M1 → Q r M1) : zWP 23 230 [some (.ref l0), some (.int l1), some (.ref l2), some (.ref l3), some (.int l4), none] [] M Q := by
  unfold b23_230 at hQ
  unfold p23_230 at hp
  refine wp_go 2 (pc' := 3) (L' := [some (.ref l0), some (.int l1), some (.ref l2), some (.ref l3), some (.int (l4 + Int32.ofInt 1)), none]) (st' := []) (M' := M) rfl ?_
  exact h3 l0 l1 l2 l3 (l4 + Int32.ofInt 1) M hp hQ
def b23_228 (n : Nat) (k3 : Nat → Int32 → Nat → Nat → Int32 → zM → zM) (l0 : Nat) (l1 : Int32) (l2 : Nat) (l3 : Nat) (l4 : Int32) (s0 : Nat) (s1 : Int32) (s2 : Int32) (s3 : Int32) (M : zM) : zM := b23_230 n k3 l0 l1 l2 l3 l4 (zWI M s0 s1.toNatClampNeg (s2 - s3))
def p23_228 (n : Nat) (q3 : Nat → Int32 → Nat → Nat → Int32 → zM → Prop) (l0 : Nat) (l1 : Int32) (l2 : Nat) (l3 : Nat) (l4 : Int32) (s0 : Nat) (s1 : Int32) (s2 : Int32) (s3 : Int32) (M : zM) : Prop := (zOkT 1 s0 s1 M) ∧ (p23_230 n q3 l0 l1 l2 l3 l4 (zWI M s0 s1.toNatClampNeg (s2 - s3)))
theorem s23_228 (n : Nat) (k3 : Nat → Int32 → Nat → Nat → Int32 → zM → zM) (q3 : Nat → Int32 → Nat → Nat → Int32 → zM → Prop) (h3 : ∀ (l0 : Nat) (l1 : Int32) (l2 : Nat) (l3 : Nat) (l4 : Int32) (M : zM), q3 l0 l1 l2 l3 l4 M → ∀ {Q : Option Value → zM → Prop}, (∀ r M1, zRV (k3 l0 l1 l2 l3 l4 M) r M1 → Q r M1) → zWP 23 3 [some (.ref l0), some (.int l1), some (.ref l2), some (.ref l3), some (.int l4), none] [] M Q) (l0 : Nat) (l1 : Int32) (l2 : Nat) (l3 : Nat) (l4 : Int32) (s0 : Nat) (s1 : Int32) (s2 : Int32) (s3 : Int32) (M : zM) (hp : p23_228 n q3 l0 l1 l2 l3 l4 s0 s1 s2 s3 M) {Q : Option Value → zM → Prop} (hQ : ∀ r M1, zRV (b23_228 n k3 l0 l1 l2 l3 l4 s0 s1 s2 s3 M) r M1 → Q r M1) : zWP 23 228 [some (.ref l0), some (.int l1), some (.ref l2), some (.ref l3), some (.int l4), none] [.int s3, .int s2, .int s1, .ref s0] M Q := by
  unfold b23_228 at hQ
  unfold p23_228 at hp
  refine wp_go 1 (pc' := 229) (L' := [some (.ref l0), some (.int l1), some (.ref l2), some (.ref l3), some (.int l4), none]) (st' := [.int (s2 - s3), .int s1, .ref s0]) (M' := M) rfl ?_
  obtain ⟨hc, hp⟩ := hp
  refine wq_iast rfl hc ?_
  exact s23_230 n k3 q3 h3 l0 l1 l2 l3 l4 (zWI M s0 s1.toNatClampNeg (s2 - s3)) hp hQ
def b23_206 (n : Nat) (k3 : Nat → Int32 → Nat → Nat → Int32 → zM → zM) (l0 : Nat) (l1 : Int32) (l2 : Nat) (l3 : Nat) (l4 : Int32) (l5 : Nat) (M : zM) : zM := b23_228 n k3 l0 l1 l2 l3 l4 (zQ M l0 3) (zI M l5 0) (zI M (zQ M l0 3) l1.toNatClampNeg) (b26_0 n l0 l5 l2 M).1 (b26_0 n l0 l5 l2 M).2
def p23_206 (n : Nat) (q3 : Nat → Int32 → Nat → Nat → Int32 → zM → Prop) (l0 : Nat) (l1 : Int32) (l2 : Nat) (l3 : Nat) (l4 : Int32) (l5 : Nat) (M : zM) : Prop := (zHasQ 3 21 l0 M 3) ∧ ((zHasI 3 58 l5 M 0) ∧ ((zHasQ 3 21 l0 M 3) ∧ ((zOkI (zQ M l0 3) l1 M) ∧ ((zHasC 23 73 l0 M 26 2) ∧ ((p26_0 n l0 l5 l2 M) ∧ (p23_228 n q3 l0 l1 l2 l3 l4 (zQ M l0 3) (zI M l5 0) (zI M (zQ M l0 3) l1.toNatClampNeg) (b26_0 n l0 l5 l2 M).1 (b26_0 n l0 l5 l2 M).2))))))
theorem s23_206 (n : Nat) (k3 : Nat → Int32 → Nat → Nat → Int32 → zM → zM) (q3 : Nat → Int32 → Nat → Nat → Int32 → zM → Prop) (h3 : ∀ (l0 : Nat) (l1 : Int32) (l2 : Nat) (l3 : Nat) (l4 : Int32) (M : zM), q3 l0 l1 l2 l3 l4 M → ∀ {Q : Option Value → zM → Prop}, (∀ r M1, zRV (k3 l0 l1 l2 l3 l4 M) r M1 → Q r M1) → zWP 23 3 [some (.ref l0), some (.int l1), some (.ref l2), some (.ref l3), some (.int l4), none] [] M Q) (l0 : Nat) (l1 : Int32) (l2 : Nat) (l3 : Nat) (l4 : Int32) (l5 : Nat) (M : zM) (hp : p23_206 n q3 l0 l1 l2 l3 l4 l5 M) {Q : Option Value → zM → Prop} (hQ : ∀ r M1, zRV (b23_206 n k3 l0 l1 l2 l3 l4 l5 M) r M1 → Q r M1) : zWP 23 206 [some (.ref l0), some (.int l1), some (.ref l2), some (.ref l3), some (.int l4), some (.ref l5)] [] M Q := by
  unfold b23_206 at hQ
  unfold p23_206 at hp
  refine wp_go 1 (pc' := 207) (L' := [some (.ref l0), some (.int l1), some (.ref l2), some (.ref l3), some (.int l4), some (.ref l5)]) (st' := [.ref l0]) (M' := M) rfl ?_
  obtain ⟨hc, hp⟩ := hp
  refine wq_getQ (j := 3) rfl hc ?_
  refine wp_go 1 (pc' := 212) (L' := [some (.ref l0), some (.int l1), some (.ref l2), some (.ref l3), some (.int l4), some (.ref l5)]) (st' := [.ref l5, .ref (zQ M l0 3)]) (M' := M) rfl ?_
  obtain ⟨hc, hp⟩ := hp
  refine wq_getI (j := 0) rfl hc ?_
  refine wp_go 1 (pc' := 216) (L' := [some (.ref l0), some (.int l1), some (.ref l2), some (.ref l3), some (.int l4), some (.ref l5)]) (st' := [.ref l0, .int (zI M l5 0), .ref (zQ M l0 3)]) (M' := M) rfl ?_
  obtain ⟨hc, hp⟩ := hp
  refine wq_getQ (j := 3) rfl hc ?_
  refine wp_go 1 (pc' := 220) (L' := [some (.ref l0), some (.int l1), some (.ref l2), some (.ref l3), some (.int l4), some (.ref l5)]) (st' := [.int l1, .ref (zQ M l0 3), .int (zI M l5 0), .ref (zQ M l0 3)]) (M' := M) rfl ?_
  obtain ⟨hc, hp⟩ := hp
  refine wq_iald rfl hc ?_
  refine wp_go 3 (pc' := 225) (L' := [some (.ref l0), some (.int l1), some (.ref l2), some (.ref l3), some (.int l4), some (.ref l5)]) (st' := [.ref l2, .ref l5, .ref l0, .int (zI M (zQ M l0 3) l1.toNatClampNeg), .int (zI M l5 0), .ref (zQ M l0 3)]) (M' := M) rfl ?_
  obtain ⟨hv, hp⟩ := hp
  obtain ⟨hc, hp⟩ := hp
  refine wp_calli (v := (b26_0 n l0 l5 l2 M).1) (M1 := (b26_0 n l0 l5 l2 M).2) rfl rfl rfl (zInv_v (np := 2) rfl rfl hv rfl) (s26_0 n l0 l5 l2 M hc (fun r M1 h => h)) ?_
  refine wp_le [some (.ref l0), some (.int l1), some (.ref l2), some (.ref l3), some (.int l4), none] (zLe_of (by simp [zLeB])) ?_
  exact s23_228 n k3 q3 h3 l0 l1 l2 l3 l4 (zQ M l0 3) (zI M l5 0) (zI M (zQ M l0 3) l1.toNatClampNeg) (b26_0 n l0 l5 l2 M).1 (b26_0 n l0 l5 l2 M).2 hp hQ
def b23_204 (n : Nat) (k3 : Nat → Int32 → Nat → Nat → Int32 → zM → zM) (l0 : Nat) (l1 : Int32) (l2 : Nat) (l3 : Nat) (l4 : Int32) (l5 : Nat) (s0 : Nat) (s1 : Int32) (s2 : Int32) (s3 : Int32) (M : zM) : zM := b23_206 n k3 l0 l1 l2 l3 l4 l5 (zWI M s0 s1.toNatClampNeg (s2 - s3))
def p23_204 (n : Nat) (q3 : Nat → Int32 → Nat → Nat → Int32 → zM → Prop) (l0 : Nat) (l1 : Int32) (l2 : Nat) (l3 : Nat) (l4 : Int32) (l5 : Nat) (s0 : Nat) (s1 : Int32) (s2 : Int32) (s3 : Int32) (M : zM) : Prop := (zOkT 1 s0 s1 M) ∧ (p23_206 n q3 l0 l1 l2 l3 l4 l5 (zWI M s0 s1.toNatClampNeg (s2 - s3)))
theorem s23_204 (n : Nat) (k3 : Nat → Int32 → Nat → Nat → Int32 → zM → zM) (q3 : Nat → Int32 → Nat → Nat → Int32 → zM → Prop) (h3 : ∀ (l0 : Nat) (l1 : Int32) (l2 : Nat) (l3 : Nat) (l4 : Int32) (M : zM), q3 l0 l1 l2 l3 l4 M → ∀ {Q : Option Value → zM → Prop}, (∀ r M1, zRV (k3 l0 l1 l2 l3 l4 M) r M1 → Q r M1) → zWP 23 3 [some (.ref l0), some (.int l1), some (.ref l2), some (.ref l3), some (.int l4), none] [] M Q) (l0 : Nat) (l1 : Int32) (l2 : Nat) (l3 : Nat) (l4 : Int32) (l5 : Nat) (s0 : Nat) (s1 : Int32) (s2 : Int32) (s3 : Int32) (M : zM) (hp : p23_204 n q3 l0 l1 l2 l3 l4 l5 s0 s1 s2 s3 M) {Q : Option Value → zM → Prop} (hQ : ∀ r M1, zRV (b23_204 n k3 l0 l1 l2 l3 l4 l5 s0 s1 s2 s3 M) r M1 → Q r M1) : zWP 23 204 [some (.ref l0), some (.int l1), some (.ref l2), some (.ref l3), some (.int l4), some (.ref l5)] [.int s3, .int s2, .int s1, .ref s0] M Q := by
  unfold b23_204 at hQ
  unfold p23_204 at hp
  refine wp_go 1 (pc' := 205) (L' := [some (.ref l0), some (.int l1), some (.ref l2), some (.ref l3), some (.int l4), some (.ref l5)]) (st' := [.int (s2 - s3), .int s1, .ref s0]) (M' := M) rfl ?_
  obtain ⟨hc, hp⟩ := hp
  refine wq_iast rfl hc ?_
  exact s23_206 n k3 q3 h3 l0 l1 l2 l3 l4 l5 (zWI M s0 s1.toNatClampNeg (s2 - s3)) hp hQ
def b23_182 (n : Nat) (k3 : Nat → Int32 → Nat → Nat → Int32 → zM → zM) (l0 : Nat) (l1 : Int32) (l2 : Nat) (l3 : Nat) (l4 : Int32) (l5 : Nat) (M : zM) : zM := b23_204 n k3 l0 l1 l2 l3 l4 l5 (zQ M l0 2) (zI M l5 0) (zI M (zQ M l0 2) l1.toNatClampNeg) (b25_0 n l0 l5 l2 M).1 (b25_0 n l0 l5 l2 M).2
def p23_182 (n : Nat) (q3 : Nat → Int32 → Nat → Nat → Int32 → zM → Prop) (l0 : Nat) (l1 : Int32) (l2 : Nat) (l3 : Nat) (l4 : Int32) (l5 : Nat) (M : zM) : Prop := (zHasQ 3 18 l0 M 2) ∧ ((zHasI 3 58 l5 M 0) ∧ ((zHasQ 3 18 l0 M 2) ∧ ((zOkI (zQ M l0 2) l1 M) ∧ ((zHasC 23 69 l0 M 25 2) ∧ ((p25_0 n l0 l5 l2 M) ∧ (p23_204 n q3 l0 l1 l2 l3 l4 l5 (zQ M l0 2) (zI M l5 0) (zI M (zQ M l0 2) l1.toNatClampNeg) (b25_0 n l0 l5 l2 M).1 (b25_0 n l0 l5 l2 M).2))))))
theorem s23_182 (n : Nat) (k3 : Nat → Int32 → Nat → Nat → Int32 → zM → zM) (q3 : Nat → Int32 → Nat → Nat → Int32 → zM → Prop) (h3 : ∀ (l0 : Nat) (l1 : Int32) (l2 : Nat) (l3 : Nat) (l4 : Int32) (M : zM), q3 l0 l1 l2 l3 l4 M → ∀ {Q : Option Value → zM → Prop}, (∀ r M1, zRV (k3 l0 l1 l2 l3 l4 M) r M1 → Q r M1) → zWP 23 3 [some (.ref l0), some (.int l1), some (.ref l2), some (.ref l3), some (.int l4), none] [] M Q) (l0 : Nat) (l1 : Int32) (l2 : Nat) (l3 : Nat) (l4 : Int32) (l5 : Nat) (M : zM) (hp : p23_182 n q3 l0 l1 l2 l3 l4 l5 M) {Q : Option Value → zM → Prop} (hQ : ∀ r M1, zRV (b23_182 n k3 l0 l1 l2 l3 l4 l5 M) r M1 → Q r M1) : zWP 23 182 [some (.ref l0), some (.int l1), some (.ref l2), some (.ref l3), some (.int l4), some (.ref l5)] [] M Q := by
  unfold b23_182 at hQ
  unfold p23_182 at hp
  refine wp_go 1 (pc' := 183) (L' := [some (.ref l0), some (.int l1), some (.ref l2), some (.ref l3), some (.int l4), some (.ref l5)]) (st' := [.ref l0]) (M' := M) rfl ?_
  obtain ⟨hc, hp⟩ := hp
  refine wq_getQ (j := 2) rfl hc ?_
  refine wp_go 1 (pc' := 188) (L' := [some (.ref l0), some (.int l1), some (.ref l2), some (.ref l3), some (.int l4), some (.ref l5)]) (st' := [.ref l5, .ref (zQ M l0 2)]) (M' := M) rfl ?_
  obtain ⟨hc, hp⟩ := hp
  refine wq_getI (j := 0) rfl hc ?_
  refine wp_go 1 (pc' := 192) (L' := [some (.ref l0), some (.int l1), some (.ref l2), some (.ref l3), some (.int l4), some (.ref l5)]) (st' := [.ref l0, .int (zI M l5 0), .ref (zQ M l0 2)]) (M' := M) rfl ?_
  obtain ⟨hc, hp⟩ := hp
  refine wq_getQ (j := 2) rfl hc ?_
  refine wp_go 1 (pc' := 196) (L' := [some (.ref l0), some (.int l1), some (.ref l2), some (.ref l3), some (.int l4), some (.ref l5)]) (st' := [.int l1, .ref (zQ M l0 2), .int (zI M l5 0), .ref (zQ M l0 2)]) (M' := M) rfl ?_
  obtain ⟨hc, hp⟩ := hp
  refine wq_iald rfl hc ?_
  refine wp_go 3 (pc' := 201) (L' := [some (.ref l0), some (.int l1), some (.ref l2), some (.ref l3), some (.int l4), some (.ref l5)]) (st' := [.ref l2, .ref l5, .ref l0, .int (zI M (zQ M l0 2) l1.toNatClampNeg), .int (zI M l5 0), .ref (zQ M l0 2)]) (M' := M) rfl ?_
  obtain ⟨hv, hp⟩ := hp
  obtain ⟨hc, hp⟩ := hp
  refine wp_calli (v := (b25_0 n l0 l5 l2 M).1) (M1 := (b25_0 n l0 l5 l2 M).2) rfl rfl rfl (zInv_v (np := 2) rfl rfl hv rfl) (s25_0 n l0 l5 l2 M hc (fun r M1 h => h)) ?_
  exact s23_204 n k3 q3 h3 l0 l1 l2 l3 l4 l5 (zQ M l0 2) (zI M l5 0) (zI M (zQ M l0 2) l1.toNatClampNeg) (b25_0 n l0 l5 l2 M).1 (b25_0 n l0 l5 l2 M).2 hp hQ
def b23_132 (n : Nat) (k3 : Nat → Int32 → Nat → Nat → Int32 → zM → zM) (l0 : Nat) (l1 : Int32) (l2 : Nat) (l3 : Nat) (l4 : Int32) (l5 : Nat) (M : zM) : zM := (if (zI M l5 2) = l1 then (if (zI M (zQ M l0 0) (zI M l5 0).toNatClampNeg) = ((-1) : Int32) then b23_182 n k3 l0 l1 l2 l3 l4 l5 (b24_0 n l0 (zI M l5 0) (zI M (zQ M l0 0) l1.toNatClampNeg) ((zI M (zQ M l0 1) l1.toNatClampNeg) - (zI M l5 4)) M) else b23_230 n k3 l0 l1 l2 l3 l4 M) else b23_230 n k3 l0 l1 l2 l3 l4 M)
def p23_132 (n : Nat) (q3 : Nat → Int32 → Nat → Nat → Int32 → zM → Prop) (l0 : Nat) (l1 : Int32) (l2 : Nat) (l3 : Nat) (l4 : Int32) (l5 : Nat) (M : zM) : Prop := (zHasI 3 63 l5 M 2) ∧ ((((zI M l5 2) = l1 → (zHasQ 3 9 l0 M 0) ∧ ((zHasI 3 58 l5 M 0) ∧ ((zOkI (zQ M l0 0) (zI M l5 0) M) ∧ ((((zI M (zQ M l0 0) (zI M l5 0).toNatClampNeg) = ((-1) : Int32) → (zHasI 3 58 l5 M 0) ∧ ((zHasQ 3 9 l0 M 0) ∧ ((zOkI (zQ M l0 0) l1 M) ∧ ((zHasQ 3 15 l0 M 1) ∧ ((zOkI (zQ M l0 1) l1 M) ∧ ((zHasI 3 66 l5 M 4) ∧ ((zHasC 23 40 l0 M 24 3) ∧ ((p24_0 n l0 (zI M l5 0) (zI M (zQ M l0 0) l1.toNatClampNeg) ((zI M (zQ M l0 1) l1.toNatClampNeg) - (zI M l5 4)) M) ∧ (p23_182 n q3 l0 l1 l2 l3 l4 l5 (b24_0 n l0 (zI M l5 0) (zI M (zQ M l0 0) l1.toNatClampNeg) ((zI M (zQ M l0 1) l1.toNatClampNeg) - (zI M l5 4)) M)))))))))) ∧ (¬ (zI M (zQ M l0 0) (zI M l5 0).toNatClampNeg) = ((-1) : Int32) → p23_230 n q3 l0 l1 l2 l3 l4 M)))))) ∧ (¬ (zI M l5 2) = l1 → p23_230 n q3 l0 l1 l2 l3 l4 M)))
theorem s23_132 (n : Nat) (k3 : Nat → Int32 → Nat → Nat → Int32 → zM → zM) (q3 : Nat → Int32 → Nat → Nat → Int32 → zM → Prop) (h3 : ∀ (l0 : Nat) (l1 : Int32) (l2 : Nat) (l3 : Nat) (l4 : Int32) (M : zM), q3 l0 l1 l2 l3 l4 M → ∀ {Q : Option Value → zM → Prop}, (∀ r M1, zRV (k3 l0 l1 l2 l3 l4 M) r M1 → Q r M1) → zWP 23 3 [some (.ref l0), some (.int l1), some (.ref l2), some (.ref l3), some (.int l4), none] [] M Q) (l0 : Nat) (l1 : Int32) (l2 : Nat) (l3 : Nat) (l4 : Int32) (l5 : Nat) (M : zM) (hp : p23_132 n q3 l0 l1 l2 l3 l4 l5 M) {Q : Option Value → zM → Prop} (hQ : ∀ r M1, zRV (b23_132 n k3 l0 l1 l2 l3 l4 l5 M) r M1 → Q r M1) : zWP 23 132 [some (.ref l0), some (.int l1), some (.ref l2), some (.ref l3), some (.int l4), some (.ref l5)] [] M Q := by
  unfold b23_132 at hQ
  unfold p23_132 at hp
  refine wp_go 1 (pc' := 134) (L' := [some (.ref l0), some (.int l1), some (.ref l2), some (.ref l3), some (.int l4), some (.ref l5)]) (st' := [.ref l5]) (M' := M) rfl ?_
  obtain ⟨hc, hp⟩ := hp
  refine wq_getI (j := 2) rfl hc ?_
  refine wp_go 1 (pc' := 138) (L' := [some (.ref l0), some (.int l1), some (.ref l2), some (.ref l3), some (.int l4), some (.ref l5)]) (st' := [.int l1, .int (zI M l5 2)]) (M' := M) rfl ?_
  refine wp_ic_ne (t := 230) rfl rfl (fun hc => ?_) (fun hc => ?_)
  · rw [if_neg hc] at hQ
    replace hp := hp.2 hc
    refine wp_le [some (.ref l0), some (.int l1), some (.ref l2), some (.ref l3), some (.int l4), none] (zLe_of (by simp [zLeB])) ?_
    exact s23_230 n k3 q3 h3 l0 l1 l2 l3 l4 M hp hQ
  · rw [if_pos hc] at hQ
    replace hp := hp.1 hc
    refine wp_go 1 (pc' := 142) (L' := [some (.ref l0), some (.int l1), some (.ref l2), some (.ref l3), some (.int l4), some (.ref l5)]) (st' := [.ref l0]) (M' := M) rfl ?_
    obtain ⟨hc, hp⟩ := hp
    refine wq_getQ (j := 0) rfl hc ?_
    refine wp_go 1 (pc' := 147) (L' := [some (.ref l0), some (.int l1), some (.ref l2), some (.ref l3), some (.int l4), some (.ref l5)]) (st' := [.ref l5, .ref (zQ M l0 0)]) (M' := M) rfl ?_
    obtain ⟨hc, hp⟩ := hp
    refine wq_getI (j := 0) rfl hc ?_
    obtain ⟨hc, hp⟩ := hp
    refine wq_iald rfl hc ?_
    refine wp_go 1 (pc' := 152) (L' := [some (.ref l0), some (.int l1), some (.ref l2), some (.ref l3), some (.int l4), some (.ref l5)]) (st' := [.int ((-1) : Int32), .int (zI M (zQ M l0 0) (zI M l5 0).toNatClampNeg)]) (M' := M) rfl ?_
    refine wp_ic_ne (t := 230) rfl rfl (fun hc => ?_) (fun hc => ?_)
    · rw [if_neg hc] at hQ
      replace hp := hp.2 hc
      refine wp_le [some (.ref l0), some (.int l1), some (.ref l2), some (.ref l3), some (.int l4), none] (zLe_of (by simp [zLeB])) ?_
      exact s23_230 n k3 q3 h3 l0 l1 l2 l3 l4 M hp hQ
    · rw [if_pos hc] at hQ
      replace hp := hp.1 hc
      refine wp_go 2 (pc' := 158) (L' := [some (.ref l0), some (.int l1), some (.ref l2), some (.ref l3), some (.int l4), some (.ref l5)]) (st' := [.ref l5, .ref l0]) (M' := M) rfl ?_
      obtain ⟨hc, hp⟩ := hp
      refine wq_getI (j := 0) rfl hc ?_
      refine wp_go 1 (pc' := 162) (L' := [some (.ref l0), some (.int l1), some (.ref l2), some (.ref l3), some (.int l4), some (.ref l5)]) (st' := [.ref l0, .int (zI M l5 0), .ref l0]) (M' := M) rfl ?_
      obtain ⟨hc, hp⟩ := hp
      refine wq_getQ (j := 0) rfl hc ?_
      refine wp_go 1 (pc' := 166) (L' := [some (.ref l0), some (.int l1), some (.ref l2), some (.ref l3), some (.int l4), some (.ref l5)]) (st' := [.int l1, .ref (zQ M l0 0), .int (zI M l5 0), .ref l0]) (M' := M) rfl ?_
      obtain ⟨hc, hp⟩ := hp
      refine wq_iald rfl hc ?_
      refine wp_go 1 (pc' := 168) (L' := [some (.ref l0), some (.int l1), some (.ref l2), some (.ref l3), some (.int l4), some (.ref l5)]) (st' := [.ref l0, .int (zI M (zQ M l0 0) l1.toNatClampNeg), .int (zI M l5 0), .ref l0]) (M' := M) rfl ?_
      obtain ⟨hc, hp⟩ := hp
      refine wq_getQ (j := 1) rfl hc ?_
      refine wp_go 1 (pc' := 172) (L' := [some (.ref l0), some (.int l1), some (.ref l2), some (.ref l3), some (.int l4), some (.ref l5)]) (st' := [.int l1, .ref (zQ M l0 1), .int (zI M (zQ M l0 0) l1.toNatClampNeg), .int (zI M l5 0), .ref l0]) (M' := M) rfl ?_
      obtain ⟨hc, hp⟩ := hp
      refine wq_iald rfl hc ?_
      refine wp_go 1 (pc' := 175) (L' := [some (.ref l0), some (.int l1), some (.ref l2), some (.ref l3), some (.int l4), some (.ref l5)]) (st' := [.ref l5, .int (zI M (zQ M l0 1) l1.toNatClampNeg), .int (zI M (zQ M l0 0) l1.toNatClampNeg), .int (zI M l5 0), .ref l0]) (M' := M) rfl ?_
      obtain ⟨hc, hp⟩ := hp
      refine wq_getI (j := 4) rfl hc ?_
      refine wp_go 1 (pc' := 179) (L' := [some (.ref l0), some (.int l1), some (.ref l2), some (.ref l3), some (.int l4), some (.ref l5)]) (st' := [.int ((zI M (zQ M l0 1) l1.toNatClampNeg) - (zI M l5 4)), .int (zI M (zQ M l0 0) l1.toNatClampNeg), .int (zI M l5 0), .ref l0]) (M' := M) rfl ?_
      obtain ⟨hv, hp⟩ := hp
      obtain ⟨hc, hp⟩ := hp
      refine wp_callv (M1 := (b24_0 n l0 (zI M l5 0) (zI M (zQ M l0 0) l1.toNatClampNeg) ((zI M (zQ M l0 1) l1.toNatClampNeg) - (zI M l5 4)) M)) rfl rfl rfl (zInv_v (np := 3) rfl rfl hv rfl) (s24_0 n l0 (zI M l5 0) (zI M (zQ M l0 0) l1.toNatClampNeg) ((zI M (zQ M l0 1) l1.toNatClampNeg) - (zI M l5 4)) M hc (fun r M1 h => h)) ?_
      exact s23_182 n k3 q3 h3 l0 l1 l2 l3 l4 l5 (b24_0 n l0 (zI M l5 0) (zI M (zQ M l0 0) l1.toNatClampNeg) ((zI M (zQ M l0 1) l1.toNatClampNeg) - (zI M l5 4)) M) hp hQ
def b23_129 (n : Nat) (k3 : Nat → Int32 → Nat → Nat → Int32 → zM → zM) (l0 : Nat) (l1 : Int32) (l2 : Nat) (l3 : Nat) (l4 : Int32) (M : zM) : zM := b23_230 n k3 l0 l1 l2 l3 l4 M
def p23_129 (n : Nat) (q3 : Nat → Int32 → Nat → Nat → Int32 → zM → Prop) (l0 : Nat) (l1 : Int32) (l2 : Nat) (l3 : Nat) (l4 : Int32) (M : zM) : Prop := p23_230 n q3 l0 l1 l2 l3 l4 M
theorem s23_129 (n : Nat) (k3 : Nat → Int32 → Nat → Nat → Int32 → zM → zM) (q3 : Nat → Int32 → Nat → Nat → Int32 → zM → Prop) (h3 : ∀ (l0 : Nat) (l1 : Int32) (l2 : Nat) (l3 : Nat) (l4 : Int32) (M : zM), q3 l0 l1 l2 l3 l4 M → ∀ {Q : Option Value → zM → Prop}, (∀ r M1, zRV (k3 l0 l1 l2 l3 l4 M) r M1 → Q r M1) → zWP 23 3 [some (.ref l0), some (.int l1), some (.ref l2), some (.ref l3), some (.int l4), none] [] M Q) (l0 : Nat) (l1 : Int32) (l2 : Nat) (l3 : Nat) (l4 : Int32) (M : zM) (hp : p23_129 n q3 l0 l1 l2 l3 l4 M) {Q : Option Value → zM → Prop} (hQ : ∀ r M1, zRV (b23_129 n k3 l0 l1 l2 l3 l4 M) r M1 → Q r M1) : zWP 23 129 [some (.ref l0), some (.int l1), some (.ref l2), some (.ref l3), some (.int l4), none] [] M Q := by
  unfold b23_129 at hQ
  unfold p23_129 at hp
  refine wp_go 1 (pc' := 230) (L' := [some (.ref l0), some (.int l1), some (.ref l2), some (.ref l3), some (.int l4), none]) (st' := []) (M' := M) rfl ?_
  exact s23_230 n k3 q3 h3 l0 l1 l2 l3 l4 M hp hQ
def b23_127 (n : Nat) (k3 : Nat → Int32 → Nat → Nat → Int32 → zM → zM) (l0 : Nat) (l1 : Int32) (l2 : Nat) (l3 : Nat) (l4 : Int32) (s0 : Nat) (s1 : Int32) (s2 : Int32) (s3 : Int32) (M : zM) : zM := b23_129 n k3 l0 l1 l2 l3 l4 (zWI M s0 s1.toNatClampNeg (s2 + s3))
def p23_127 (n : Nat) (q3 : Nat → Int32 → Nat → Nat → Int32 → zM → Prop) (l0 : Nat) (l1 : Int32) (l2 : Nat) (l3 : Nat) (l4 : Int32) (s0 : Nat) (s1 : Int32) (s2 : Int32) (s3 : Int32) (M : zM) : Prop := (zOkT 1 s0 s1 M) ∧ (p23_129 n q3 l0 l1 l2 l3 l4 (zWI M s0 s1.toNatClampNeg (s2 + s3)))
theorem s23_127 (n : Nat) (k3 : Nat → Int32 → Nat → Nat → Int32 → zM → zM) (q3 : Nat → Int32 → Nat → Nat → Int32 → zM → Prop) (h3 : ∀ (l0 : Nat) (l1 : Int32) (l2 : Nat) (l3 : Nat) (l4 : Int32) (M : zM), q3 l0 l1 l2 l3 l4 M → ∀ {Q : Option Value → zM → Prop}, (∀ r M1, zRV (k3 l0 l1 l2 l3 l4 M) r M1 → Q r M1) → zWP 23 3 [some (.ref l0), some (.int l1), some (.ref l2), some (.ref l3), some (.int l4), none] [] M Q) (l0 : Nat) (l1 : Int32) (l2 : Nat) (l3 : Nat) (l4 : Int32) (s0 : Nat) (s1 : Int32) (s2 : Int32) (s3 : Int32) (M : zM) (hp : p23_127 n q3 l0 l1 l2 l3 l4 s0 s1 s2 s3 M) {Q : Option Value → zM → Prop} (hQ : ∀ r M1, zRV (b23_127 n k3 l0 l1 l2 l3 l4 s0 s1 s2 s3 M) r M1 → Q r M1) : zWP 23 127 [some (.ref l0), some (.int l1), some (.ref l2), some (.ref l3), some (.int l4), none] [.int s3, .int s2, .int s1, .ref s0] M Q := by
  unfold b23_127 at hQ
  unfold p23_127 at hp
  refine wp_go 1 (pc' := 128) (L' := [some (.ref l0), some (.int l1), some (.ref l2), some (.ref l3), some (.int l4), none]) (st' := [.int (s2 + s3), .int s1, .ref s0]) (M' := M) rfl ?_
  obtain ⟨hc, hp⟩ := hp
  refine wq_iast rfl hc ?_
  exact s23_129 n k3 q3 h3 l0 l1 l2 l3 l4 (zWI M s0 s1.toNatClampNeg (s2 + s3)) hp hQ
def b23_105 (n : Nat) (k3 : Nat → Int32 → Nat → Nat → Int32 → zM → zM) (l0 : Nat) (l1 : Int32) (l2 : Nat) (l3 : Nat) (l4 : Int32) (l5 : Nat) (M : zM) : zM := b23_127 n k3 l0 l1 l2 l3 l4 (zQ M l0 3) (zI M l5 2) (zI M (zQ M l0 3) l1.toNatClampNeg) (b26_0 n l0 l5 l2 M).1 (b26_0 n l0 l5 l2 M).2
def p23_105 (n : Nat) (q3 : Nat → Int32 → Nat → Nat → Int32 → zM → Prop) (l0 : Nat) (l1 : Int32) (l2 : Nat) (l3 : Nat) (l4 : Int32) (l5 : Nat) (M : zM) : Prop := (zHasQ 3 21 l0 M 3) ∧ ((zHasI 3 63 l5 M 2) ∧ ((zHasQ 3 21 l0 M 3) ∧ ((zOkI (zQ M l0 3) l1 M) ∧ ((zHasC 23 73 l0 M 26 2) ∧ ((p26_0 n l0 l5 l2 M) ∧ (p23_127 n q3 l0 l1 l2 l3 l4 (zQ M l0 3) (zI M l5 2) (zI M (zQ M l0 3) l1.toNatClampNeg) (b26_0 n l0 l5 l2 M).1 (b26_0 n l0 l5 l2 M).2))))))
theorem s23_105 (n : Nat) (k3 : Nat → Int32 → Nat → Nat → Int32 → zM → zM) (q3 : Nat → Int32 → Nat → Nat → Int32 → zM → Prop) (h3 : ∀ (l0 : Nat) (l1 : Int32) (l2 : Nat) (l3 : Nat) (l4 : Int32) (M : zM), q3 l0 l1 l2 l3 l4 M → ∀ {Q : Option Value → zM → Prop}, (∀ r M1, zRV (k3 l0 l1 l2 l3 l4 M) r M1 → Q r M1) → zWP 23 3 [some (.ref l0), some (.int l1), some (.ref l2), some (.ref l3), some (.int l4), none] [] M Q) (l0 : Nat) (l1 : Int32) (l2 : Nat) (l3 : Nat) (l4 : Int32) (l5 : Nat) (M : zM) (hp : p23_105 n q3 l0 l1 l2 l3 l4 l5 M) {Q : Option Value → zM → Prop} (hQ : ∀ r M1, zRV (b23_105 n k3 l0 l1 l2 l3 l4 l5 M) r M1 → Q r M1) : zWP 23 105 [some (.ref l0), some (.int l1), some (.ref l2), some (.ref l3), some (.int l4), some (.ref l5)] [] M Q := by
  unfold b23_105 at hQ
  unfold p23_105 at hp
  refine wp_go 1 (pc' := 106) (L' := [some (.ref l0), some (.int l1), some (.ref l2), some (.ref l3), some (.int l4), some (.ref l5)]) (st' := [.ref l0]) (M' := M) rfl ?_
  obtain ⟨hc, hp⟩ := hp
  refine wq_getQ (j := 3) rfl hc ?_
  refine wp_go 1 (pc' := 111) (L' := [some (.ref l0), some (.int l1), some (.ref l2), some (.ref l3), some (.int l4), some (.ref l5)]) (st' := [.ref l5, .ref (zQ M l0 3)]) (M' := M) rfl ?_
  obtain ⟨hc, hp⟩ := hp
  refine wq_getI (j := 2) rfl hc ?_
  refine wp_go 1 (pc' := 115) (L' := [some (.ref l0), some (.int l1), some (.ref l2), some (.ref l3), some (.int l4), some (.ref l5)]) (st' := [.ref l0, .int (zI M l5 2), .ref (zQ M l0 3)]) (M' := M) rfl ?_
  obtain ⟨hc, hp⟩ := hp
  refine wq_getQ (j := 3) rfl hc ?_
  refine wp_go 1 (pc' := 119) (L' := [some (.ref l0), some (.int l1), some (.ref l2), some (.ref l3), some (.int l4), some (.ref l5)]) (st' := [.int l1, .ref (zQ M l0 3), .int (zI M l5 2), .ref (zQ M l0 3)]) (M' := M) rfl ?_
  obtain ⟨hc, hp⟩ := hp
  refine wq_iald rfl hc ?_
  refine wp_go 3 (pc' := 124) (L' := [some (.ref l0), some (.int l1), some (.ref l2), some (.ref l3), some (.int l4), some (.ref l5)]) (st' := [.ref l2, .ref l5, .ref l0, .int (zI M (zQ M l0 3) l1.toNatClampNeg), .int (zI M l5 2), .ref (zQ M l0 3)]) (M' := M) rfl ?_
  obtain ⟨hv, hp⟩ := hp
  obtain ⟨hc, hp⟩ := hp
  refine wp_calli (v := (b26_0 n l0 l5 l2 M).1) (M1 := (b26_0 n l0 l5 l2 M).2) rfl rfl rfl (zInv_v (np := 2) rfl rfl hv rfl) (s26_0 n l0 l5 l2 M hc (fun r M1 h => h)) ?_
  refine wp_le [some (.ref l0), some (.int l1), some (.ref l2), some (.ref l3), some (.int l4), none] (zLe_of (by simp [zLeB])) ?_
  exact s23_127 n k3 q3 h3 l0 l1 l2 l3 l4 (zQ M l0 3) (zI M l5 2) (zI M (zQ M l0 3) l1.toNatClampNeg) (b26_0 n l0 l5 l2 M).1 (b26_0 n l0 l5 l2 M).2 hp hQ
def b23_103 (n : Nat) (k3 : Nat → Int32 → Nat → Nat → Int32 → zM → zM) (l0 : Nat) (l1 : Int32) (l2 : Nat) (l3 : Nat) (l4 : Int32) (l5 : Nat) (s0 : Nat) (s1 : Int32) (s2 : Int32) (s3 : Int32) (M : zM) : zM := b23_105 n k3 l0 l1 l2 l3 l4 l5 (zWI M s0 s1.toNatClampNeg (s2 + s3))
def p23_103 (n : Nat) (q3 : Nat → Int32 → Nat → Nat → Int32 → zM → Prop) (l0 : Nat) (l1 : Int32) (l2 : Nat) (l3 : Nat) (l4 : Int32) (l5 : Nat) (s0 : Nat) (s1 : Int32) (s2 : Int32) (s3 : Int32) (M : zM) : Prop := (zOkT 1 s0 s1 M) ∧ (p23_105 n q3 l0 l1 l2 l3 l4 l5 (zWI M s0 s1.toNatClampNeg (s2 + s3)))
theorem s23_103 (n : Nat) (k3 : Nat → Int32 → Nat → Nat → Int32 → zM → zM) (q3 : Nat → Int32 → Nat → Nat → Int32 → zM → Prop) (h3 : ∀ (l0 : Nat) (l1 : Int32) (l2 : Nat) (l3 : Nat) (l4 : Int32) (M : zM), q3 l0 l1 l2 l3 l4 M → ∀ {Q : Option Value → zM → Prop}, (∀ r M1, zRV (k3 l0 l1 l2 l3 l4 M) r M1 → Q r M1) → zWP 23 3 [some (.ref l0), some (.int l1), some (.ref l2), some (.ref l3), some (.int l4), none] [] M Q) (l0 : Nat) (l1 : Int32) (l2 : Nat) (l3 : Nat) (l4 : Int32) (l5 : Nat) (s0 : Nat) (s1 : Int32) (s2 : Int32) (s3 : Int32) (M : zM) (hp : p23_103 n q3 l0 l1 l2 l3 l4 l5 s0 s1 s2 s3 M) {Q : Option Value → zM → Prop} (hQ : ∀ r M1, zRV (b23_103 n k3 l0 l1 l2 l3 l4 l5 s0 s1 s2 s3 M) r M1 → Q r M1) : zWP 23 103 [some (.ref l0), some (.int l1), some (.ref l2), some (.ref l3), some (.int l4), some (.ref l5)] [.int s3, .int s2, .int s1, .ref s0] M Q := by
  unfold b23_103 at hQ
  unfold p23_103 at hp
  refine wp_go 1 (pc' := 104) (L' := [some (.ref l0), some (.int l1), some (.ref l2), some (.ref l3), some (.int l4), some (.ref l5)]) (st' := [.int (s2 + s3), .int s1, .ref s0]) (M' := M) rfl ?_
  obtain ⟨hc, hp⟩ := hp
  refine wq_iast rfl hc ?_
  exact s23_105 n k3 q3 h3 l0 l1 l2 l3 l4 l5 (zWI M s0 s1.toNatClampNeg (s2 + s3)) hp hQ
def b23_81 (n : Nat) (k3 : Nat → Int32 → Nat → Nat → Int32 → zM → zM) (l0 : Nat) (l1 : Int32) (l2 : Nat) (l3 : Nat) (l4 : Int32) (l5 : Nat) (M : zM) : zM := b23_103 n k3 l0 l1 l2 l3 l4 l5 (zQ M l0 2) (zI M l5 2) (zI M (zQ M l0 2) l1.toNatClampNeg) (b25_0 n l0 l5 l2 M).1 (b25_0 n l0 l5 l2 M).2
def p23_81 (n : Nat) (q3 : Nat → Int32 → Nat → Nat → Int32 → zM → Prop) (l0 : Nat) (l1 : Int32) (l2 : Nat) (l3 : Nat) (l4 : Int32) (l5 : Nat) (M : zM) : Prop := (zHasQ 3 18 l0 M 2) ∧ ((zHasI 3 63 l5 M 2) ∧ ((zHasQ 3 18 l0 M 2) ∧ ((zOkI (zQ M l0 2) l1 M) ∧ ((zHasC 23 69 l0 M 25 2) ∧ ((p25_0 n l0 l5 l2 M) ∧ (p23_103 n q3 l0 l1 l2 l3 l4 l5 (zQ M l0 2) (zI M l5 2) (zI M (zQ M l0 2) l1.toNatClampNeg) (b25_0 n l0 l5 l2 M).1 (b25_0 n l0 l5 l2 M).2))))))
theorem s23_81 (n : Nat) (k3 : Nat → Int32 → Nat → Nat → Int32 → zM → zM) (q3 : Nat → Int32 → Nat → Nat → Int32 → zM → Prop) (h3 : ∀ (l0 : Nat) (l1 : Int32) (l2 : Nat) (l3 : Nat) (l4 : Int32) (M : zM), q3 l0 l1 l2 l3 l4 M → ∀ {Q : Option Value → zM → Prop}, (∀ r M1, zRV (k3 l0 l1 l2 l3 l4 M) r M1 → Q r M1) → zWP 23 3 [some (.ref l0), some (.int l1), some (.ref l2), some (.ref l3), some (.int l4), none] [] M Q) (l0 : Nat) (l1 : Int32) (l2 : Nat) (l3 : Nat) (l4 : Int32) (l5 : Nat) (M : zM) (hp : p23_81 n q3 l0 l1 l2 l3 l4 l5 M) {Q : Option Value → zM → Prop} (hQ : ∀ r M1, zRV (b23_81 n k3 l0 l1 l2 l3 l4 l5 M) r M1 → Q r M1) : zWP 23 81 [some (.ref l0), some (.int l1), some (.ref l2), some (.ref l3), some (.int l4), some (.ref l5)] [] M Q := by
  unfold b23_81 at hQ
  unfold p23_81 at hp
  refine wp_go 1 (pc' := 82) (L' := [some (.ref l0), some (.int l1), some (.ref l2), some (.ref l3), some (.int l4), some (.ref l5)]) (st' := [.ref l0]) (M' := M) rfl ?_
  obtain ⟨hc, hp⟩ := hp
  refine wq_getQ (j := 2) rfl hc ?_
  refine wp_go 1 (pc' := 87) (L' := [some (.ref l0), some (.int l1), some (.ref l2), some (.ref l3), some (.int l4), some (.ref l5)]) (st' := [.ref l5, .ref (zQ M l0 2)]) (M' := M) rfl ?_
  obtain ⟨hc, hp⟩ := hp
  refine wq_getI (j := 2) rfl hc ?_
  refine wp_go 1 (pc' := 91) (L' := [some (.ref l0), some (.int l1), some (.ref l2), some (.ref l3), some (.int l4), some (.ref l5)]) (st' := [.ref l0, .int (zI M l5 2), .ref (zQ M l0 2)]) (M' := M) rfl ?_
  obtain ⟨hc, hp⟩ := hp
  refine wq_getQ (j := 2) rfl hc ?_
  refine wp_go 1 (pc' := 95) (L' := [some (.ref l0), some (.int l1), some (.ref l2), some (.ref l3), some (.int l4), some (.ref l5)]) (st' := [.int l1, .ref (zQ M l0 2), .int (zI M l5 2), .ref (zQ M l0 2)]) (M' := M) rfl ?_
  obtain ⟨hc, hp⟩ := hp
  refine wq_iald rfl hc ?_
  refine wp_go 3 (pc' := 100) (L' := [some (.ref l0), some (.int l1), some (.ref l2), some (.ref l3), some (.int l4), some (.ref l5)]) (st' := [.ref l2, .ref l5, .ref l0, .int (zI M (zQ M l0 2) l1.toNatClampNeg), .int (zI M l5 2), .ref (zQ M l0 2)]) (M' := M) rfl ?_
  obtain ⟨hv, hp⟩ := hp
  obtain ⟨hc, hp⟩ := hp
  refine wp_calli (v := (b25_0 n l0 l5 l2 M).1) (M1 := (b25_0 n l0 l5 l2 M).2) rfl rfl rfl (zInv_v (np := 2) rfl rfl hv rfl) (s25_0 n l0 l5 l2 M hc (fun r M1 h => h)) ?_
  exact s23_103 n k3 q3 h3 l0 l1 l2 l3 l4 l5 (zQ M l0 2) (zI M l5 2) (zI M (zQ M l0 2) l1.toNatClampNeg) (b25_0 n l0 l5 l2 M).1 (b25_0 n l0 l5 l2 M).2 hp hQ
def b23_25 (n : Nat) (k3 : Nat → Int32 → Nat → Nat → Int32 → zM → zM) (l0 : Nat) (l1 : Int32) (l2 : Nat) (l3 : Nat) (l4 : Int32) (l5 : Nat) (s0 : Int32) (M : zM) : zM := (if s0 = 0 then b23_230 n k3 l0 l1 l2 l3 l4 M else (if (zI M l5 0) = l1 then (if (zI M (zQ M l0 0) (zI M l5 2).toNatClampNeg) = ((-1) : Int32) then b23_81 n k3 l0 l1 l2 l3 l4 l5 (b24_0 n l0 (zI M l5 2) (zI M (zQ M l0 0) l1.toNatClampNeg) ((zI M (zQ M l0 1) l1.toNatClampNeg) + (zI M l5 4)) M) else b23_132 n k3 l0 l1 l2 l3 l4 l5 M) else b23_132 n k3 l0 l1 l2 l3 l4 l5 M))
def p23_25 (n : Nat) (q3 : Nat → Int32 → Nat → Nat → Int32 → zM → Prop) (l0 : Nat) (l1 : Int32) (l2 : Nat) (l3 : Nat) (l4 : Int32) (l5 : Nat) (s0 : Int32) (M : zM) : Prop := ((s0 = 0 → p23_230 n q3 l0 l1 l2 l3 l4 M) ∧ (¬ s0 = 0 → (zHasI 3 58 l5 M 0) ∧ ((((zI M l5 0) = l1 → (zHasQ 3 9 l0 M 0) ∧ ((zHasI 3 63 l5 M 2) ∧ ((zOkI (zQ M l0 0) (zI M l5 2) M) ∧ ((((zI M (zQ M l0 0) (zI M l5 2).toNatClampNeg) = ((-1) : Int32) → (zHasI 3 63 l5 M 2) ∧ ((zHasQ 3 9 l0 M 0) ∧ ((zOkI (zQ M l0 0) l1 M) ∧ ((zHasQ 3 15 l0 M 1) ∧ ((zOkI (zQ M l0 1) l1 M) ∧ ((zHasI 3 66 l5 M 4) ∧ ((zHasC 23 40 l0 M 24 3) ∧ ((p24_0 n l0 (zI M l5 2) (zI M (zQ M l0 0) l1.toNatClampNeg) ((zI M (zQ M l0 1) l1.toNatClampNeg) + (zI M l5 4)) M) ∧ (p23_81 n q3 l0 l1 l2 l3 l4 l5 (b24_0 n l0 (zI M l5 2) (zI M (zQ M l0 0) l1.toNatClampNeg) ((zI M (zQ M l0 1) l1.toNatClampNeg) + (zI M l5 4)) M)))))))))) ∧ (¬ (zI M (zQ M l0 0) (zI M l5 2).toNatClampNeg) = ((-1) : Int32) → p23_132 n q3 l0 l1 l2 l3 l4 l5 M)))))) ∧ (¬ (zI M l5 0) = l1 → p23_132 n q3 l0 l1 l2 l3 l4 l5 M)))))
theorem s23_25 (n : Nat) (k3 : Nat → Int32 → Nat → Nat → Int32 → zM → zM) (q3 : Nat → Int32 → Nat → Nat → Int32 → zM → Prop) (h3 : ∀ (l0 : Nat) (l1 : Int32) (l2 : Nat) (l3 : Nat) (l4 : Int32) (M : zM), q3 l0 l1 l2 l3 l4 M → ∀ {Q : Option Value → zM → Prop}, (∀ r M1, zRV (k3 l0 l1 l2 l3 l4 M) r M1 → Q r M1) → zWP 23 3 [some (.ref l0), some (.int l1), some (.ref l2), some (.ref l3), some (.int l4), none] [] M Q) (l0 : Nat) (l1 : Int32) (l2 : Nat) (l3 : Nat) (l4 : Int32) (l5 : Nat) (s0 : Int32) (M : zM) (hp : p23_25 n q3 l0 l1 l2 l3 l4 l5 s0 M) {Q : Option Value → zM → Prop} (hQ : ∀ r M1, zRV (b23_25 n k3 l0 l1 l2 l3 l4 l5 s0 M) r M1 → Q r M1) : zWP 23 25 [some (.ref l0), some (.int l1), some (.ref l2), some (.ref l3), some (.int l4), some (.ref l5)] [.int s0] M Q := by
  unfold b23_25 at hQ
  unfold p23_25 at hp
  refine wp_if_ne (t := 31) rfl rfl (fun hc => ?_) (fun hc => ?_)
  · rw [if_neg hc] at hQ
    replace hp := hp.2 hc
    refine wp_go 1 (pc' := 33) (L' := [some (.ref l0), some (.int l1), some (.ref l2), some (.ref l3), some (.int l4), some (.ref l5)]) (st' := [.ref l5]) (M' := M) rfl ?_
    obtain ⟨hc, hp⟩ := hp
    refine wq_getI (j := 0) rfl hc ?_
    refine wp_go 1 (pc' := 37) (L' := [some (.ref l0), some (.int l1), some (.ref l2), some (.ref l3), some (.int l4), some (.ref l5)]) (st' := [.int l1, .int (zI M l5 0)]) (M' := M) rfl ?_
    refine wp_ic_ne (t := 132) rfl rfl (fun hc => ?_) (fun hc => ?_)
    · rw [if_neg hc] at hQ
      replace hp := hp.2 hc
      exact s23_132 n k3 q3 h3 l0 l1 l2 l3 l4 l5 M hp hQ
    · rw [if_pos hc] at hQ
      replace hp := hp.1 hc
      refine wp_go 1 (pc' := 41) (L' := [some (.ref l0), some (.int l1), some (.ref l2), some (.ref l3), some (.int l4), some (.ref l5)]) (st' := [.ref l0]) (M' := M) rfl ?_
      obtain ⟨hc, hp⟩ := hp
      refine wq_getQ (j := 0) rfl hc ?_
      refine wp_go 1 (pc' := 46) (L' := [some (.ref l0), some (.int l1), some (.ref l2), some (.ref l3), some (.int l4), some (.ref l5)]) (st' := [.ref l5, .ref (zQ M l0 0)]) (M' := M) rfl ?_
      obtain ⟨hc, hp⟩ := hp
      refine wq_getI (j := 2) rfl hc ?_
      obtain ⟨hc, hp⟩ := hp
      refine wq_iald rfl hc ?_
      refine wp_go 1 (pc' := 51) (L' := [some (.ref l0), some (.int l1), some (.ref l2), some (.ref l3), some (.int l4), some (.ref l5)]) (st' := [.int ((-1) : Int32), .int (zI M (zQ M l0 0) (zI M l5 2).toNatClampNeg)]) (M' := M) rfl ?_
      refine wp_ic_ne (t := 132) rfl rfl (fun hc => ?_) (fun hc => ?_)
      · rw [if_neg hc] at hQ
        replace hp := hp.2 hc
        exact s23_132 n k3 q3 h3 l0 l1 l2 l3 l4 l5 M hp hQ
      · rw [if_pos hc] at hQ
        replace hp := hp.1 hc
        refine wp_go 2 (pc' := 57) (L' := [some (.ref l0), some (.int l1), some (.ref l2), some (.ref l3), some (.int l4), some (.ref l5)]) (st' := [.ref l5, .ref l0]) (M' := M) rfl ?_
        obtain ⟨hc, hp⟩ := hp
        refine wq_getI (j := 2) rfl hc ?_
        refine wp_go 1 (pc' := 61) (L' := [some (.ref l0), some (.int l1), some (.ref l2), some (.ref l3), some (.int l4), some (.ref l5)]) (st' := [.ref l0, .int (zI M l5 2), .ref l0]) (M' := M) rfl ?_
        obtain ⟨hc, hp⟩ := hp
        refine wq_getQ (j := 0) rfl hc ?_
        refine wp_go 1 (pc' := 65) (L' := [some (.ref l0), some (.int l1), some (.ref l2), some (.ref l3), some (.int l4), some (.ref l5)]) (st' := [.int l1, .ref (zQ M l0 0), .int (zI M l5 2), .ref l0]) (M' := M) rfl ?_
        obtain ⟨hc, hp⟩ := hp
        refine wq_iald rfl hc ?_
        refine wp_go 1 (pc' := 67) (L' := [some (.ref l0), some (.int l1), some (.ref l2), some (.ref l3), some (.int l4), some (.ref l5)]) (st' := [.ref l0, .int (zI M (zQ M l0 0) l1.toNatClampNeg), .int (zI M l5 2), .ref l0]) (M' := M) rfl ?_
        obtain ⟨hc, hp⟩ := hp
        refine wq_getQ (j := 1) rfl hc ?_
        refine wp_go 1 (pc' := 71) (L' := [some (.ref l0), some (.int l1), some (.ref l2), some (.ref l3), some (.int l4), some (.ref l5)]) (st' := [.int l1, .ref (zQ M l0 1), .int (zI M (zQ M l0 0) l1.toNatClampNeg), .int (zI M l5 2), .ref l0]) (M' := M) rfl ?_
        obtain ⟨hc, hp⟩ := hp
        refine wq_iald rfl hc ?_
        refine wp_go 1 (pc' := 74) (L' := [some (.ref l0), some (.int l1), some (.ref l2), some (.ref l3), some (.int l4), some (.ref l5)]) (st' := [.ref l5, .int (zI M (zQ M l0 1) l1.toNatClampNeg), .int (zI M (zQ M l0 0) l1.toNatClampNeg), .int (zI M l5 2), .ref l0]) (M' := M) rfl ?_
        obtain ⟨hc, hp⟩ := hp
        refine wq_getI (j := 4) rfl hc ?_
        refine wp_go 1 (pc' := 78) (L' := [some (.ref l0), some (.int l1), some (.ref l2), some (.ref l3), some (.int l4), some (.ref l5)]) (st' := [.int ((zI M (zQ M l0 1) l1.toNatClampNeg) + (zI M l5 4)), .int (zI M (zQ M l0 0) l1.toNatClampNeg), .int (zI M l5 2), .ref l0]) (M' := M) rfl ?_
        obtain ⟨hv, hp⟩ := hp
        obtain ⟨hc, hp⟩ := hp
        refine wp_callv (M1 := (b24_0 n l0 (zI M l5 2) (zI M (zQ M l0 0) l1.toNatClampNeg) ((zI M (zQ M l0 1) l1.toNatClampNeg) + (zI M l5 4)) M)) rfl rfl rfl (zInv_v (np := 3) rfl rfl hv rfl) (s24_0 n l0 (zI M l5 2) (zI M (zQ M l0 0) l1.toNatClampNeg) ((zI M (zQ M l0 1) l1.toNatClampNeg) + (zI M l5 4)) M hc (fun r M1 h => h)) ?_
        exact s23_81 n k3 q3 h3 l0 l1 l2 l3 l4 l5 (b24_0 n l0 (zI M l5 2) (zI M (zQ M l0 0) l1.toNatClampNeg) ((zI M (zQ M l0 1) l1.toNatClampNeg) + (zI M l5 4)) M) hp hQ
  · rw [if_pos hc] at hQ
    replace hp := hp.1 hc
    refine wp_go 1 (pc' := 230) (L' := [some (.ref l0), some (.int l1), some (.ref l2), some (.ref l3), some (.int l4), some (.ref l5)]) (st' := []) (M' := M) rfl ?_
    refine wp_le [some (.ref l0), some (.int l1), some (.ref l2), some (.ref l3), some (.int l4), none] (zLe_of (by simp [zLeB])) ?_
    exact s23_230 n k3 q3 h3 l0 l1 l2 l3 l4 M hp hQ
def c23_3 (n : Nat) (k3 : Nat → Int32 → Nat → Nat → Int32 → zM → zM) (l0 : Nat) (l1 : Int32) (l2 : Nat) (l3 : Nat) (l4 : Int32) (M : zM) : zM := (if (40 : Int32) ≤ l4 then M else b23_25 n k3 l0 l1 l2 l3 l4 (zQ M (zQ M l3 0) l4.toNatClampNeg) (b14_0 n l3 l4 M).1 (b14_0 n l3 l4 M).2)
def d23_3 (n : Nat) (q3 : Nat → Int32 → Nat → Nat → Int32 → zM → Prop) (l0 : Nat) (l1 : Int32) (l2 : Nat) (l3 : Nat) (l4 : Int32) (M : zM) : Prop := (((40 : Int32) ≤ l4 → True) ∧ (¬ (40 : Int32) ≤ l4 → (zHasQ 3 48 l3 M 0) ∧ ((zOkR (zQ M l3 0) l4 M) ∧ ((zHasC 23 54 l3 M 14 1) ∧ ((p14_0 n l3 l4 M) ∧ (p23_25 n q3 l0 l1 l2 l3 l4 (zQ M (zQ M l3 0) l4.toNatClampNeg) (b14_0 n l3 l4 M).1 (b14_0 n l3 l4 M).2))))))
theorem t23_3 (n : Nat) (k3 : Nat → Int32 → Nat → Nat → Int32 → zM → zM) (q3 : Nat → Int32 → Nat → Nat → Int32 → zM → Prop) (h3 : ∀ (l0 : Nat) (l1 : Int32) (l2 : Nat) (l3 : Nat) (l4 : Int32) (M : zM), q3 l0 l1 l2 l3 l4 M → ∀ {Q : Option Value → zM → Prop}, (∀ r M1, zRV (k3 l0 l1 l2 l3 l4 M) r M1 → Q r M1) → zWP 23 3 [some (.ref l0), some (.int l1), some (.ref l2), some (.ref l3), some (.int l4), none] [] M Q) (l0 : Nat) (l1 : Int32) (l2 : Nat) (l3 : Nat) (l4 : Int32) (M : zM) (hp : d23_3 n q3 l0 l1 l2 l3 l4 M) {Q : Option Value → zM → Prop} (hQ : ∀ r M1, zRV (c23_3 n k3 l0 l1 l2 l3 l4 M) r M1 → Q r M1) : zWP 23 3 [some (.ref l0), some (.int l1), some (.ref l2), some (.ref l3), some (.int l4), none] [] M Q := by
  unfold c23_3 at hQ
  unfold d23_3 at hp
  refine wp_go 2 (pc' := 7) (L' := [some (.ref l0), some (.int l1), some (.ref l2), some (.ref l3), some (.int l4), none]) (st' := [.int (40 : Int32), .int l4]) (M' := M) rfl ?_
  refine wp_ic_ge (t := 236) rfl rfl (fun hc => ?_) (fun hc => ?_)
  · rw [if_pos hc] at hQ
    replace hp := hp.1 hc
    exact wp_ret (r := none) rfl rfl (hQ _ _ ⟨rfl, rfl⟩)
  · rw [if_neg hc] at hQ
    replace hp := hp.2 hc
    refine wp_go 1 (pc' := 11) (L' := [some (.ref l0), some (.int l1), some (.ref l2), some (.ref l3), some (.int l4), none]) (st' := [.ref l3]) (M' := M) rfl ?_
    obtain ⟨hc, hp⟩ := hp
    refine wq_getQ (j := 0) rfl hc ?_
    refine wp_go 1 (pc' := 16) (L' := [some (.ref l0), some (.int l1), some (.ref l2), some (.ref l3), some (.int l4), none]) (st' := [.int l4, .ref (zQ M l3 0)]) (M' := M) rfl ?_
    obtain ⟨hc, hp⟩ := hp
    refine wq_aald rfl hc ?_
    refine wp_go 3 (pc' := 22) (L' := [some (.ref l0), some (.int l1), some (.ref l2), some (.ref l3), some (.int l4), some (.ref (zQ M (zQ M l3 0) l4.toNatClampNeg))]) (st' := [.int l4, .ref l3]) (M' := M) rfl ?_
    obtain ⟨hv, hp⟩ := hp
    obtain ⟨hc, hp⟩ := hp
    refine wp_calli (v := (b14_0 n l3 l4 M).1) (M1 := (b14_0 n l3 l4 M).2) rfl rfl rfl (zInv_v (np := 1) rfl rfl hv rfl) (s14_0 n l3 l4 M hc (fun r M1 h => h)) ?_
    exact s23_25 n k3 q3 h3 l0 l1 l2 l3 l4 (zQ M (zQ M l3 0) l4.toNatClampNeg) (b14_0 n l3 l4 M).1 (b14_0 n l3 l4 M).2 hp hQ
def b23_3 (n : Nat)  : Nat → Nat → Int32 → Nat → Nat → Int32 → zM → zM
  | 0, _, _, _, _, _, M => M
  | k + 1, l0, l1, l2, l3, l4, M => c23_3 n  (b23_3 n  k) l0 l1 l2 l3 l4 M
def p23_3 (n : Nat)  : Nat → Nat → Int32 → Nat → Nat → Int32 → zM → Prop
  | 0, _, _, _, _, _, _ => False
  | k + 1, l0, l1, l2, l3, l4, M => d23_3 n  (p23_3 n  k) l0 l1 l2 l3 l4 M
theorem s23_3 (n : Nat)    : ∀ (k : Nat) (l0 : Nat) (l1 : Int32) (l2 : Nat) (l3 : Nat) (l4 : Int32) (M : zM), p23_3 n  k l0 l1 l2 l3 l4 M → ∀ {Q : Option Value → zM → Prop}, (∀ r M1, zRV (b23_3 n  k l0 l1 l2 l3 l4 M) r M1 → Q r M1) → zWP 23 3 [some (.ref l0), some (.int l1), some (.ref l2), some (.ref l3), some (.int l4), none] [] M Q
  | 0, _, _, _, _, _, _, h, _, _ => h.elim
  | k + 1, l0, l1, l2, l3, l4, M, h, _, hQ => t23_3 n  (b23_3 n  k)  (p23_3 n  k)  (s23_3 n    k) l0 l1 l2 l3 l4 M h hQ
def b23_0 (n : Nat)  (l0 : Nat) (l1 : Int32) (l2 : Nat) (l3 : Nat) (M : zM) : zM := b23_3 n  n l0 l1 l2 l3 (0 : Int32) M
def p23_0 (n : Nat)  (l0 : Nat) (l1 : Int32) (l2 : Nat) (l3 : Nat) (M : zM) : Prop := p23_3 n  n l0 l1 l2 l3 (0 : Int32) M
theorem s23_0 (n : Nat)    (l0 : Nat) (l1 : Int32) (l2 : Nat) (l3 : Nat) (M : zM) (hp : p23_0 n  l0 l1 l2 l3 M) {Q : Option Value → zM → Prop} (hQ : ∀ r M1, zRV (b23_0 n  l0 l1 l2 l3 M) r M1 → Q r M1) : zWP 23 0 [some (.ref l0), some (.int l1), some (.ref l2), some (.ref l3), none, none] [] M Q := by
  unfold b23_0 at hQ
  unfold p23_0 at hp
  refine wp_go 2 (pc' := 3) (L' := [some (.ref l0), some (.int l1), some (.ref l2), some (.ref l3), some (.int (0 : Int32)), none]) (st' := []) (M' := M) rfl ?_
  exact s23_3 n    n l0 l1 l2 l3 (0 : Int32) M hp hQ
/-! X4_layAll -/
def b22_111 (n : Nat) (k24 : Nat → Nat → Int32 → Nat → Int32 → Int32 → zM → zM) (l0 : Nat) (l1 : Nat) (l2 : Int32) (l3 : Nat) (l4 : Int32) (l5 : Int32) (M : zM) : zM := k24 l0 l1 l2 l3 l4 (l5 + Int32.ofInt 1) M
def p22_111 (n : Nat) (q24 : Nat → Nat → Int32 → Nat → Int32 → Int32 → zM → Prop) (l0 : Nat) (l1 : Nat) (l2 : Int32) (l3 : Nat) (l4 : Int32) (l5 : Int32) (M : zM) : Prop := q24 l0 l1 l2 l3 l4 (l5 + Int32.ofInt 1) M
theorem s22_111 (n : Nat) (k24 : Nat → Nat → Int32 → Nat → Int32 → Int32 → zM → zM) (q24 : Nat → Nat → Int32 → Nat → Int32 → Int32 → zM → Prop) (h24 : ∀ (l0 : Nat) (l1 : Nat) (l2 : Int32) (l3 : Nat) (l4 : Int32) (l5 : Int32) (M : zM), q24 l0 l1 l2 l3 l4 l5 M → ∀ {Q : Option Value → zM → Prop}, (∀ r M1, zRV (k24 l0 l1 l2 l3 l4 l5 M) r M1 → Q r M1) → zWP 22 24 [some (.ref l0), some (.ref l1), some (.int l2), some (.ref l3), some (.int l4), some (.int l5)] [] M Q) (l0 : Nat) (l1 : Nat) (l2 : Int32) (l3 : Nat) (l4 : Int32) (l5 : Int32) (M : zM) (hp : p22_111 n q24 l0 l1 l2 l3 l4 l5 M) {Q : Option Value → zM → Prop} (hQ : ∀ r M1, zRV (b22_111 n k24 l0 l1 l2 l3 l4 l5 M) r M1 → Q r M1) : zWP 22 111 [some (.ref l0), some (.ref l1), some (.int l2), some (.ref l3), some (.int l4), some (.int l5)] [] M Q := by
  unfold b22_111 at hQ
  unfold p22_111 at hp
  refine wp_go 2 (pc' := 24) (L' := [some (.ref l0), some (.ref l1), some (.int l2), some (.ref l3), some (.int l4), some (.int (l5 + Int32.ofInt 1))]) (st' := []) (M' := M) rfl ?_
  exact h24 l0 l1 l2 l3 l4 (l5 + Int32.ofInt 1) M hp hQ
def b22_105 (n : Nat) (k24 : Nat → Nat → Int32 → Nat → Int32 → Int32 → zM → zM) (k76 : Nat → Nat → Int32 → Nat → Int32 → Int32 → zM → zM) (l0 : Nat) (l1 : Nat) (l2 : Int32) (l3 : Nat) (l4 : Int32) (l5 : Int32) (M : zM) : zM := k76 l0 l1 l2 l3 (l4 + Int32.ofInt 1) l5 M
def p22_105 (n : Nat) (q24 : Nat → Nat → Int32 → Nat → Int32 → Int32 → zM → Prop) (q76 : Nat → Nat → Int32 → Nat → Int32 → Int32 → zM → Prop) (l0 : Nat) (l1 : Nat) (l2 : Int32) (l3 : Nat) (l4 : Int32) (l5 : Int32) (M : zM) : Prop := q76 l0 l1 l2 l3 (l4 + Int32.ofInt 1) l5 M
theorem s22_105 (n : Nat) (k24 : Nat → Nat → Int32 → Nat → Int32 → Int32 → zM → zM) (k76 : Nat → Nat → Int32 → Nat → Int32 → Int32 → zM → zM) (q24 : Nat → Nat → Int32 → Nat → Int32 → Int32 → zM → Prop) (q76 : Nat → Nat → Int32 → Nat → Int32 → Int32 → zM → Prop) (h24 : ∀ (l0 : Nat) (l1 : Nat) (l2 : Int32) (l3 : Nat) (l4 : Int32) (l5 : Int32) (M : zM), q24 l0 l1 l2 l3 l4 l5 M → ∀ {Q : Option Value → zM → Prop}, (∀ r M1, zRV (k24 l0 l1 l2 l3 l4 l5 M) r M1 → Q r M1) → zWP 22 24 [some (.ref l0), some (.ref l1), some (.int l2), some (.ref l3), some (.int l4), some (.int l5)] [] M Q) (h76 : ∀ (l0 : Nat) (l1 : Nat) (l2 : Int32) (l3 : Nat) (l4 : Int32) (l5 : Int32) (M : zM), q76 l0 l1 l2 l3 l4 l5 M → ∀ {Q : Option Value → zM → Prop}, (∀ r M1, zRV (k76 l0 l1 l2 l3 l4 l5 M) r M1 → Q r M1) → zWP 22 76 [some (.ref l0), some (.ref l1), some (.int l2), some (.ref l3), some (.int l4), some (.int l5)] [] M Q) (l0 : Nat) (l1 : Nat) (l2 : Int32) (l3 : Nat) (l4 : Int32) (l5 : Int32) (M : zM) (hp : p22_105 n q24 q76 l0 l1 l2 l3 l4 l5 M) {Q : Option Value → zM → Prop} (hQ : ∀ r M1, zRV (b22_105 n k24 k76 l0 l1 l2 l3 l4 l5 M) r M1 → Q r M1) : zWP 22 105 [some (.ref l0), some (.ref l1), some (.int l2), some (.ref l3), some (.int l4), some (.int l5)] [] M Q := by
  unfold b22_105 at hQ
  unfold p22_105 at hp
  refine wp_go 2 (pc' := 76) (L' := [some (.ref l0), some (.ref l1), some (.int l2), some (.ref l3), some (.int (l4 + Int32.ofInt 1)), some (.int l5)]) (st' := []) (M' := M) rfl ?_
  exact h76 l0 l1 l2 l3 (l4 + Int32.ofInt 1) l5 M hp hQ
def c22_76 (n : Nat) (k24 : Nat → Nat → Int32 → Nat → Int32 → Int32 → zM → zM) (k76 : Nat → Nat → Int32 → Nat → Int32 → Int32 → zM → zM) (l0 : Nat) (l1 : Nat) (l2 : Int32) (l3 : Nat) (l4 : Int32) (l5 : Int32) (M : zM) : zM := (if (zI M l0 5) ≤ l4 then b22_111 n k24 l0 l1 l2 l3 l4 l5 M else (if (12 : Int32) ≤ l4 then b22_111 n k24 l0 l1 l2 l3 l4 l5 M else b22_105 n k24 k76 l0 l1 l2 l3 l4 l5 (b23_0 n l0 (zI M (zQ M l0 4) l4.toNatClampNeg) l1 l3 M)))
def d22_76 (n : Nat) (q24 : Nat → Nat → Int32 → Nat → Int32 → Int32 → zM → Prop) (q76 : Nat → Nat → Int32 → Nat → Int32 → Int32 → zM → Prop) (l0 : Nat) (l1 : Nat) (l2 : Int32) (l3 : Nat) (l4 : Int32) (l5 : Int32) (M : zM) : Prop := (zHasI 3 27 l0 M 5) ∧ ((((zI M l0 5) ≤ l4 → p22_111 n q24 l0 l1 l2 l3 l4 l5 M) ∧ (¬ (zI M l0 5) ≤ l4 → (((12 : Int32) ≤ l4 → p22_111 n q24 l0 l1 l2 l3 l4 l5 M) ∧ (¬ (12 : Int32) ≤ l4 → (zHasQ 3 24 l0 M 4) ∧ ((zOkI (zQ M l0 4) l4 M) ∧ ((zHasC 22 44 l0 M 23 3) ∧ ((p23_0 n l0 (zI M (zQ M l0 4) l4.toNatClampNeg) l1 l3 M) ∧ (p22_105 n q24 q76 l0 l1 l2 l3 l4 l5 (b23_0 n l0 (zI M (zQ M l0 4) l4.toNatClampNeg) l1 l3 M))))))))))
theorem t22_76 (n : Nat) (k24 : Nat → Nat → Int32 → Nat → Int32 → Int32 → zM → zM) (k76 : Nat → Nat → Int32 → Nat → Int32 → Int32 → zM → zM) (q24 : Nat → Nat → Int32 → Nat → Int32 → Int32 → zM → Prop) (q76 : Nat → Nat → Int32 → Nat → Int32 → Int32 → zM → Prop) (h24 : ∀ (l0 : Nat) (l1 : Nat) (l2 : Int32) (l3 : Nat) (l4 : Int32) (l5 : Int32) (M : zM), q24 l0 l1 l2 l3 l4 l5 M → ∀ {Q : Option Value → zM → Prop}, (∀ r M1, zRV (k24 l0 l1 l2 l3 l4 l5 M) r M1 → Q r M1) → zWP 22 24 [some (.ref l0), some (.ref l1), some (.int l2), some (.ref l3), some (.int l4), some (.int l5)] [] M Q) (h76 : ∀ (l0 : Nat) (l1 : Nat) (l2 : Int32) (l3 : Nat) (l4 : Int32) (l5 : Int32) (M : zM), q76 l0 l1 l2 l3 l4 l5 M → ∀ {Q : Option Value → zM → Prop}, (∀ r M1, zRV (k76 l0 l1 l2 l3 l4 l5 M) r M1 → Q r M1) → zWP 22 76 [some (.ref l0), some (.ref l1), some (.int l2), some (.ref l3), some (.int l4), some (.int l5)] [] M Q) (l0 : Nat) (l1 : Nat) (l2 : Int32) (l3 : Nat) (l4 : Int32) (l5 : Int32) (M : zM) (hp : d22_76 n q24 q76 l0 l1 l2 l3 l4 l5 M) {Q : Option Value → zM → Prop} (hQ : ∀ r M1, zRV (c22_76 n k24 k76 l0 l1 l2 l3 l4 l5 M) r M1 → Q r M1) : zWP 22 76 [some (.ref l0), some (.ref l1), some (.int l2), some (.ref l3), some (.int l4), some (.int l5)] [] M Q := by
  unfold c22_76 at hQ
  unfold d22_76 at hp
  refine wp_go 2 (pc' := 79) (L' := [some (.ref l0), some (.ref l1), some (.int l2), some (.ref l3), some (.int l4), some (.int l5)]) (st' := [.ref l0, .int l4]) (M' := M) rfl ?_
  obtain ⟨hc, hp⟩ := hp
  refine wq_getI (j := 5) rfl hc ?_
  refine wp_ic_ge (t := 111) rfl rfl (fun hc => ?_) (fun hc => ?_)
  · rw [if_pos hc] at hQ
    replace hp := hp.1 hc
    exact s22_111 n k24 q24 h24 l0 l1 l2 l3 l4 l5 M hp hQ
  · rw [if_neg hc] at hQ
    replace hp := hp.2 hc
    refine wp_go 2 (pc' := 89) (L' := [some (.ref l0), some (.ref l1), some (.int l2), some (.ref l3), some (.int l4), some (.int l5)]) (st' := [.int (12 : Int32), .int l4]) (M' := M) rfl ?_
    refine wp_ic_ge (t := 111) rfl rfl (fun hc => ?_) (fun hc => ?_)
    · rw [if_pos hc] at hQ
      replace hp := hp.1 hc
      exact s22_111 n k24 q24 h24 l0 l1 l2 l3 l4 l5 M hp hQ
    · rw [if_neg hc] at hQ
      replace hp := hp.2 hc
      refine wp_go 2 (pc' := 94) (L' := [some (.ref l0), some (.ref l1), some (.int l2), some (.ref l3), some (.int l4), some (.int l5)]) (st' := [.ref l0, .ref l0]) (M' := M) rfl ?_
      obtain ⟨hc, hp⟩ := hp
      refine wq_getQ (j := 4) rfl hc ?_
      refine wp_go 1 (pc' := 99) (L' := [some (.ref l0), some (.ref l1), some (.int l2), some (.ref l3), some (.int l4), some (.int l5)]) (st' := [.int l4, .ref (zQ M l0 4), .ref l0]) (M' := M) rfl ?_
      obtain ⟨hc, hp⟩ := hp
      refine wq_iald rfl hc ?_
      refine wp_go 2 (pc' := 102) (L' := [some (.ref l0), some (.ref l1), some (.int l2), some (.ref l3), some (.int l4), some (.int l5)]) (st' := [.ref l3, .ref l1, .int (zI M (zQ M l0 4) l4.toNatClampNeg), .ref l0]) (M' := M) rfl ?_
      obtain ⟨hv, hp⟩ := hp
      obtain ⟨hc, hp⟩ := hp
      refine wp_callv (M1 := (b23_0 n l0 (zI M (zQ M l0 4) l4.toNatClampNeg) l1 l3 M)) rfl rfl rfl (zInv_v (np := 3) rfl rfl hv rfl) (s23_0 n l0 (zI M (zQ M l0 4) l4.toNatClampNeg) l1 l3 M hc (fun r M1 h => h)) ?_
      exact s22_105 n k24 k76 q24 q76 h24 h76 l0 l1 l2 l3 l4 l5 (b23_0 n l0 (zI M (zQ M l0 4) l4.toNatClampNeg) l1 l3 M) hp hQ
def b22_76 (n : Nat) (k24 : Nat → Nat → Int32 → Nat → Int32 → Int32 → zM → zM) : Nat → Nat → Nat → Int32 → Nat → Int32 → Int32 → zM → zM
  | 0, _, _, _, _, _, _, M => M
  | k + 1, l0, l1, l2, l3, l4, l5, M => c22_76 n k24 (b22_76 n k24 k) l0 l1 l2 l3 l4 l5 M
def p22_76 (n : Nat) (q24 : Nat → Nat → Int32 → Nat → Int32 → Int32 → zM → Prop) : Nat → Nat → Nat → Int32 → Nat → Int32 → Int32 → zM → Prop
  | 0, _, _, _, _, _, _, _ => False
  | k + 1, l0, l1, l2, l3, l4, l5, M => d22_76 n q24 (p22_76 n q24 k) l0 l1 l2 l3 l4 l5 M
theorem s22_76 (n : Nat) (k24 : Nat → Nat → Int32 → Nat → Int32 → Int32 → zM → zM) (q24 : Nat → Nat → Int32 → Nat → Int32 → Int32 → zM → Prop) (h24 : ∀ (l0 : Nat) (l1 : Nat) (l2 : Int32) (l3 : Nat) (l4 : Int32) (l5 : Int32) (M : zM), q24 l0 l1 l2 l3 l4 l5 M → ∀ {Q : Option Value → zM → Prop}, (∀ r M1, zRV (k24 l0 l1 l2 l3 l4 l5 M) r M1 → Q r M1) → zWP 22 24 [some (.ref l0), some (.ref l1), some (.int l2), some (.ref l3), some (.int l4), some (.int l5)] [] M Q) : ∀ (k : Nat) (l0 : Nat) (l1 : Nat) (l2 : Int32) (l3 : Nat) (l4 : Int32) (l5 : Int32) (M : zM), p22_76 n q24 k l0 l1 l2 l3 l4 l5 M → ∀ {Q : Option Value → zM → Prop}, (∀ r M1, zRV (b22_76 n k24 k l0 l1 l2 l3 l4 l5 M) r M1 → Q r M1) → zWP 22 76 [some (.ref l0), some (.ref l1), some (.int l2), some (.ref l3), some (.int l4), some (.int l5)] [] M Q
  | 0, _, _, _, _, _, _, _, h, _, _ => h.elim
  | k + 1, l0, l1, l2, l3, l4, l5, M, h, _, hQ => t22_76 n k24 (b22_76 n k24 k) q24 (p22_76 n q24 k) h24 (s22_76 n k24 q24 h24 k) l0 l1 l2 l3 l4 l5 M h hQ
def b22_66 (n : Nat) (k24 : Nat → Nat → Int32 → Nat → Int32 → Int32 → zM → zM) (l0 : Nat) (l1 : Nat) (l2 : Int32) (l3 : Nat) (l4 : Int32) (l5 : Int32) (M : zM) : zM := b22_76 n k24 n l0 l1 l2 l3 l4 l5 (zWI M l0 6 ((zI M l0 6) + (1 : Int32)))
def p22_66 (n : Nat) (q24 : Nat → Nat → Int32 → Nat → Int32 → Int32 → zM → Prop) (l0 : Nat) (l1 : Nat) (l2 : Int32) (l3 : Nat) (l4 : Int32) (l5 : Int32) (M : zM) : Prop := (zHasI 3 31 l0 M 6) ∧ ((zPutI 22 31 l0 M 6 ((zI M l0 6) + (1 : Int32))) ∧ (p22_76 n q24 n l0 l1 l2 l3 l4 l5 (zWI M l0 6 ((zI M l0 6) + (1 : Int32)))))
theorem s22_66 (n : Nat) (k24 : Nat → Nat → Int32 → Nat → Int32 → Int32 → zM → zM) (q24 : Nat → Nat → Int32 → Nat → Int32 → Int32 → zM → Prop) (h24 : ∀ (l0 : Nat) (l1 : Nat) (l2 : Int32) (l3 : Nat) (l4 : Int32) (l5 : Int32) (M : zM), q24 l0 l1 l2 l3 l4 l5 M → ∀ {Q : Option Value → zM → Prop}, (∀ r M1, zRV (k24 l0 l1 l2 l3 l4 l5 M) r M1 → Q r M1) → zWP 22 24 [some (.ref l0), some (.ref l1), some (.int l2), some (.ref l3), some (.int l4), some (.int l5)] [] M Q) (l0 : Nat) (l1 : Nat) (l2 : Int32) (l3 : Nat) (l4 : Int32) (l5 : Int32) (M : zM) (hp : p22_66 n q24 l0 l1 l2 l3 l4 l5 M) {Q : Option Value → zM → Prop} (hQ : ∀ r M1, zRV (b22_66 n k24 l0 l1 l2 l3 l4 l5 M) r M1 → Q r M1) : zWP 22 66 [some (.ref l0), some (.ref l1), some (.int l2), some (.ref l3), some (.int l4), some (.int l5)] [] M Q := by
  unfold b22_66 at hQ
  unfold p22_66 at hp
  refine wp_go 2 (pc' := 68) (L' := [some (.ref l0), some (.ref l1), some (.int l2), some (.ref l3), some (.int l4), some (.int l5)]) (st' := [.ref l0, .ref l0]) (M' := M) rfl ?_
  obtain ⟨hc, hp⟩ := hp
  refine wq_getI (j := 6) rfl hc ?_
  refine wp_go 2 (pc' := 73) (L' := [some (.ref l0), some (.ref l1), some (.int l2), some (.ref l3), some (.int l4), some (.int l5)]) (st' := [.int ((zI M l0 6) + (1 : Int32)), .ref l0]) (M' := M) rfl ?_
  obtain ⟨hc, hp⟩ := hp
  refine wq_putI (j := 6) rfl hc ?_
  exact s22_76 n k24 q24 h24 n l0 l1 l2 l3 l4 l5 (zWI M l0 6 ((zI M l0 6) + (1 : Int32))) hp hQ
def b22_58 (n : Nat) (k24 : Nat → Nat → Int32 → Nat → Int32 → Int32 → zM → zM) (l0 : Nat) (l1 : Nat) (l2 : Int32) (l3 : Nat) (l4 : Int32) (l5 : Int32) (M : zM) : zM := b22_66 n k24 l0 l1 l2 l3 l4 l5 (zWI M (zQ M l0 3) l5.toNatClampNeg (0 : Int32))
def p22_58 (n : Nat) (q24 : Nat → Nat → Int32 → Nat → Int32 → Int32 → zM → Prop) (l0 : Nat) (l1 : Nat) (l2 : Int32) (l3 : Nat) (l4 : Int32) (l5 : Int32) (M : zM) : Prop := (zHasQ 3 21 l0 M 3) ∧ ((zOkT 1 (zQ M l0 3) l5 M) ∧ (p22_66 n q24 l0 l1 l2 l3 l4 l5 (zWI M (zQ M l0 3) l5.toNatClampNeg (0 : Int32))))
theorem s22_58 (n : Nat) (k24 : Nat → Nat → Int32 → Nat → Int32 → Int32 → zM → zM) (q24 : Nat → Nat → Int32 → Nat → Int32 → Int32 → zM → Prop) (h24 : ∀ (l0 : Nat) (l1 : Nat) (l2 : Int32) (l3 : Nat) (l4 : Int32) (l5 : Int32) (M : zM), q24 l0 l1 l2 l3 l4 l5 M → ∀ {Q : Option Value → zM → Prop}, (∀ r M1, zRV (k24 l0 l1 l2 l3 l4 l5 M) r M1 → Q r M1) → zWP 22 24 [some (.ref l0), some (.ref l1), some (.int l2), some (.ref l3), some (.int l4), some (.int l5)] [] M Q) (l0 : Nat) (l1 : Nat) (l2 : Int32) (l3 : Nat) (l4 : Int32) (l5 : Int32) (M : zM) (hp : p22_58 n q24 l0 l1 l2 l3 l4 l5 M) {Q : Option Value → zM → Prop} (hQ : ∀ r M1, zRV (b22_58 n k24 l0 l1 l2 l3 l4 l5 M) r M1 → Q r M1) : zWP 22 58 [some (.ref l0), some (.ref l1), some (.int l2), some (.ref l3), some (.int l4), some (.int l5)] [] M Q := by
  unfold b22_58 at hQ
  unfold p22_58 at hp
  refine wp_go 1 (pc' := 59) (L' := [some (.ref l0), some (.ref l1), some (.int l2), some (.ref l3), some (.int l4), some (.int l5)]) (st' := [.ref l0]) (M' := M) rfl ?_
  obtain ⟨hc, hp⟩ := hp
  refine wq_getQ (j := 3) rfl hc ?_
  refine wp_go 2 (pc' := 65) (L' := [some (.ref l0), some (.ref l1), some (.int l2), some (.ref l3), some (.int l4), some (.int l5)]) (st' := [.int (0 : Int32), .int l5, .ref (zQ M l0 3)]) (M' := M) rfl ?_
  obtain ⟨hc, hp⟩ := hp
  refine wq_iast rfl hc ?_
  exact s22_66 n k24 q24 h24 l0 l1 l2 l3 l4 l5 (zWI M (zQ M l0 3) l5.toNatClampNeg (0 : Int32)) hp hQ
def b22_50 (n : Nat) (k24 : Nat → Nat → Int32 → Nat → Int32 → Int32 → zM → zM) (l0 : Nat) (l1 : Nat) (l2 : Int32) (l3 : Nat) (l4 : Int32) (l5 : Int32) (M : zM) : zM := b22_58 n k24 l0 l1 l2 l3 l4 l5 (zWI M (zQ M l0 2) l5.toNatClampNeg (0 : Int32))
def p22_50 (n : Nat) (q24 : Nat → Nat → Int32 → Nat → Int32 → Int32 → zM → Prop) (l0 : Nat) (l1 : Nat) (l2 : Int32) (l3 : Nat) (l4 : Int32) (l5 : Int32) (M : zM) : Prop := (zHasQ 3 18 l0 M 2) ∧ ((zOkT 1 (zQ M l0 2) l5 M) ∧ (p22_58 n q24 l0 l1 l2 l3 l4 l5 (zWI M (zQ M l0 2) l5.toNatClampNeg (0 : Int32))))
theorem s22_50 (n : Nat) (k24 : Nat → Nat → Int32 → Nat → Int32 → Int32 → zM → zM) (q24 : Nat → Nat → Int32 → Nat → Int32 → Int32 → zM → Prop) (h24 : ∀ (l0 : Nat) (l1 : Nat) (l2 : Int32) (l3 : Nat) (l4 : Int32) (l5 : Int32) (M : zM), q24 l0 l1 l2 l3 l4 l5 M → ∀ {Q : Option Value → zM → Prop}, (∀ r M1, zRV (k24 l0 l1 l2 l3 l4 l5 M) r M1 → Q r M1) → zWP 22 24 [some (.ref l0), some (.ref l1), some (.int l2), some (.ref l3), some (.int l4), some (.int l5)] [] M Q) (l0 : Nat) (l1 : Nat) (l2 : Int32) (l3 : Nat) (l4 : Int32) (l5 : Int32) (M : zM) (hp : p22_50 n q24 l0 l1 l2 l3 l4 l5 M) {Q : Option Value → zM → Prop} (hQ : ∀ r M1, zRV (b22_50 n k24 l0 l1 l2 l3 l4 l5 M) r M1 → Q r M1) : zWP 22 50 [some (.ref l0), some (.ref l1), some (.int l2), some (.ref l3), some (.int l4), some (.int l5)] [] M Q := by
  unfold b22_50 at hQ
  unfold p22_50 at hp
  refine wp_go 1 (pc' := 51) (L' := [some (.ref l0), some (.ref l1), some (.int l2), some (.ref l3), some (.int l4), some (.int l5)]) (st' := [.ref l0]) (M' := M) rfl ?_
  obtain ⟨hc, hp⟩ := hp
  refine wq_getQ (j := 2) rfl hc ?_
  refine wp_go 2 (pc' := 57) (L' := [some (.ref l0), some (.ref l1), some (.int l2), some (.ref l3), some (.int l4), some (.int l5)]) (st' := [.int (0 : Int32), .int l5, .ref (zQ M l0 2)]) (M' := M) rfl ?_
  obtain ⟨hc, hp⟩ := hp
  refine wq_iast rfl hc ?_
  exact s22_58 n k24 q24 h24 l0 l1 l2 l3 l4 l5 (zWI M (zQ M l0 2) l5.toNatClampNeg (0 : Int32)) hp hQ
def c22_24 (n : Nat) (k24 : Nat → Nat → Int32 → Nat → Int32 → Int32 → zM → zM) (l0 : Nat) (l1 : Nat) (l2 : Int32) (l3 : Nat) (l4 : Int32) (l5 : Int32) (M : zM) : zM := (if l2 ≤ l5 then M else (if (zI M (zQ M l0 0) l5.toNatClampNeg) = ((-1) : Int32) then b22_50 n k24 l0 l1 l2 l3 l4 l5 (b24_0 n l0 l5 l5 (0 : Int32) M) else b22_76 n k24 n l0 l1 l2 l3 l4 l5 M))
def d22_24 (n : Nat) (q24 : Nat → Nat → Int32 → Nat → Int32 → Int32 → zM → Prop) (l0 : Nat) (l1 : Nat) (l2 : Int32) (l3 : Nat) (l4 : Int32) (l5 : Int32) (M : zM) : Prop := ((l2 ≤ l5 → True) ∧ (¬ l2 ≤ l5 → (zHasQ 3 9 l0 M 0) ∧ ((zOkI (zQ M l0 0) l5 M) ∧ ((((zI M (zQ M l0 0) l5.toNatClampNeg) = ((-1) : Int32) → (zHasC 22 40 l0 M 24 3) ∧ ((p24_0 n l0 l5 l5 (0 : Int32) M) ∧ (p22_50 n q24 l0 l1 l2 l3 l4 l5 (b24_0 n l0 l5 l5 (0 : Int32) M)))) ∧ (¬ (zI M (zQ M l0 0) l5.toNatClampNeg) = ((-1) : Int32) → p22_76 n q24 n l0 l1 l2 l3 l4 l5 M))))))
theorem t22_24 (n : Nat) (k24 : Nat → Nat → Int32 → Nat → Int32 → Int32 → zM → zM) (q24 : Nat → Nat → Int32 → Nat → Int32 → Int32 → zM → Prop) (h24 : ∀ (l0 : Nat) (l1 : Nat) (l2 : Int32) (l3 : Nat) (l4 : Int32) (l5 : Int32) (M : zM), q24 l0 l1 l2 l3 l4 l5 M → ∀ {Q : Option Value → zM → Prop}, (∀ r M1, zRV (k24 l0 l1 l2 l3 l4 l5 M) r M1 → Q r M1) → zWP 22 24 [some (.ref l0), some (.ref l1), some (.int l2), some (.ref l3), some (.int l4), some (.int l5)] [] M Q) (l0 : Nat) (l1 : Nat) (l2 : Int32) (l3 : Nat) (l4 : Int32) (l5 : Int32) (M : zM) (hp : d22_24 n q24 l0 l1 l2 l3 l4 l5 M) {Q : Option Value → zM → Prop} (hQ : ∀ r M1, zRV (c22_24 n k24 l0 l1 l2 l3 l4 l5 M) r M1 → Q r M1) : zWP 22 24 [some (.ref l0), some (.ref l1), some (.int l2), some (.ref l3), some (.int l4), some (.int l5)] [] M Q := by
  unfold c22_24 at hQ
  unfold d22_24 at hp
  refine wp_go 2 (pc' := 27) (L' := [some (.ref l0), some (.ref l1), some (.int l2), some (.ref l3), some (.int l4), some (.int l5)]) (st' := [.int l2, .int l5]) (M' := M) rfl ?_
  refine wp_ic_ge (t := 117) rfl rfl (fun hc => ?_) (fun hc => ?_)
  · rw [if_pos hc] at hQ
    replace hp := hp.1 hc
    exact wp_ret (r := none) rfl rfl (hQ _ _ ⟨rfl, rfl⟩)
  · rw [if_neg hc] at hQ
    replace hp := hp.2 hc
    refine wp_go 1 (pc' := 31) (L' := [some (.ref l0), some (.ref l1), some (.int l2), some (.ref l3), some (.int l4), some (.int l5)]) (st' := [.ref l0]) (M' := M) rfl ?_
    obtain ⟨hc, hp⟩ := hp
    refine wq_getQ (j := 0) rfl hc ?_
    refine wp_go 1 (pc' := 36) (L' := [some (.ref l0), some (.ref l1), some (.int l2), some (.ref l3), some (.int l4), some (.int l5)]) (st' := [.int l5, .ref (zQ M l0 0)]) (M' := M) rfl ?_
    obtain ⟨hc, hp⟩ := hp
    refine wq_iald rfl hc ?_
    refine wp_go 1 (pc' := 38) (L' := [some (.ref l0), some (.ref l1), some (.int l2), some (.ref l3), some (.int l4), some (.int l5)]) (st' := [.int ((-1) : Int32), .int (zI M (zQ M l0 0) l5.toNatClampNeg)]) (M' := M) rfl ?_
    refine wp_ic_ne (t := 76) rfl rfl (fun hc => ?_) (fun hc => ?_)
    · rw [if_neg hc] at hQ
      replace hp := hp.2 hc
      exact s22_76 n k24 q24 h24 n l0 l1 l2 l3 l4 l5 M hp hQ
    · rw [if_pos hc] at hQ
      replace hp := hp.1 hc
      refine wp_go 4 (pc' := 47) (L' := [some (.ref l0), some (.ref l1), some (.int l2), some (.ref l3), some (.int l4), some (.int l5)]) (st' := [.int (0 : Int32), .int l5, .int l5, .ref l0]) (M' := M) rfl ?_
      obtain ⟨hv, hp⟩ := hp
      obtain ⟨hc, hp⟩ := hp
      refine wp_callv (M1 := (b24_0 n l0 l5 l5 (0 : Int32) M)) rfl rfl rfl (zInv_v (np := 3) rfl rfl hv rfl) (s24_0 n l0 l5 l5 (0 : Int32) M hc (fun r M1 h => h)) ?_
      exact s22_50 n k24 q24 h24 l0 l1 l2 l3 l4 l5 (b24_0 n l0 l5 l5 (0 : Int32) M) hp hQ
def b22_24 (n : Nat)  : Nat → Nat → Nat → Int32 → Nat → Int32 → Int32 → zM → zM
  | 0, _, _, _, _, _, _, M => M
  | k + 1, l0, l1, l2, l3, l4, l5, M => c22_24 n  (b22_24 n  k) l0 l1 l2 l3 l4 l5 M
def p22_24 (n : Nat)  : Nat → Nat → Nat → Int32 → Nat → Int32 → Int32 → zM → Prop
  | 0, _, _, _, _, _, _, _ => False
  | k + 1, l0, l1, l2, l3, l4, l5, M => d22_24 n  (p22_24 n  k) l0 l1 l2 l3 l4 l5 M
theorem s22_24 (n : Nat)    : ∀ (k : Nat) (l0 : Nat) (l1 : Nat) (l2 : Int32) (l3 : Nat) (l4 : Int32) (l5 : Int32) (M : zM), p22_24 n  k l0 l1 l2 l3 l4 l5 M → ∀ {Q : Option Value → zM → Prop}, (∀ r M1, zRV (b22_24 n  k l0 l1 l2 l3 l4 l5 M) r M1 → Q r M1) → zWP 22 24 [some (.ref l0), some (.ref l1), some (.int l2), some (.ref l3), some (.int l4), some (.int l5)] [] M Q
  | 0, _, _, _, _, _, _, _, h, _, _ => h.elim
  | k + 1, l0, l1, l2, l3, l4, l5, M, h, _, hQ => t22_24 n  (b22_24 n  k)  (p22_24 n  k)  (s22_24 n    k) l0 l1 l2 l3 l4 l5 M h hQ
def b22_18 (n : Nat)  (l0 : Nat) (l1 : Nat) (l2 : Int32) (l3 : Nat) (M : zM) : zM := b22_24 n  n l0 l1 l2 l3 (0 : Int32) (0 : Int32) M
def p22_18 (n : Nat)  (l0 : Nat) (l1 : Nat) (l2 : Int32) (l3 : Nat) (M : zM) : Prop := p22_24 n  n l0 l1 l2 l3 (0 : Int32) (0 : Int32) M
theorem s22_18 (n : Nat)    (l0 : Nat) (l1 : Nat) (l2 : Int32) (l3 : Nat) (M : zM) (hp : p22_18 n  l0 l1 l2 l3 M) {Q : Option Value → zM → Prop} (hQ : ∀ r M1, zRV (b22_18 n  l0 l1 l2 l3 M) r M1 → Q r M1) : zWP 22 18 [some (.ref l0), some (.ref l1), some (.int l2), some (.ref l3), none, none] [] M Q := by
  unfold b22_18 at hQ
  unfold p22_18 at hp
  refine wp_go 4 (pc' := 24) (L' := [some (.ref l0), some (.ref l1), some (.int l2), some (.ref l3), some (.int (0 : Int32)), some (.int (0 : Int32))]) (st' := []) (M' := M) rfl ?_
  exact s22_24 n    n l0 l1 l2 l3 (0 : Int32) (0 : Int32) M hp hQ
def b22_13 (n : Nat)  (l0 : Nat) (l1 : Nat) (l2 : Int32) (l3 : Nat) (M : zM) : zM := b22_18 n  l0 l1 l2 l3 (zWI M l0 5 (0 : Int32))
def p22_13 (n : Nat)  (l0 : Nat) (l1 : Nat) (l2 : Int32) (l3 : Nat) (M : zM) : Prop := (zPutI 22 27 l0 M 5 (0 : Int32)) ∧ (p22_18 n  l0 l1 l2 l3 (zWI M l0 5 (0 : Int32)))
theorem s22_13 (n : Nat)    (l0 : Nat) (l1 : Nat) (l2 : Int32) (l3 : Nat) (M : zM) (hp : p22_13 n  l0 l1 l2 l3 M) {Q : Option Value → zM → Prop} (hQ : ∀ r M1, zRV (b22_13 n  l0 l1 l2 l3 M) r M1 → Q r M1) : zWP 22 13 [some (.ref l0), some (.ref l1), some (.int l2), some (.ref l3), none, none] [] M Q := by
  unfold b22_13 at hQ
  unfold p22_13 at hp
  refine wp_go 2 (pc' := 15) (L' := [some (.ref l0), some (.ref l1), some (.int l2), some (.ref l3), none, none]) (st' := [.int (0 : Int32), .ref l0]) (M' := M) rfl ?_
  obtain ⟨hc, hp⟩ := hp
  refine wq_putI (j := 5) rfl hc ?_
  exact s22_18 n    l0 l1 l2 l3 (zWI M l0 5 (0 : Int32)) hp hQ
def b22_8 (n : Nat)  (l0 : Nat) (l1 : Nat) (l2 : Int32) (l3 : Nat) (M : zM) : zM := b22_13 n  l0 l1 l2 l3 (zWI M l0 6 (0 : Int32))
def p22_8 (n : Nat)  (l0 : Nat) (l1 : Nat) (l2 : Int32) (l3 : Nat) (M : zM) : Prop := (zPutI 22 31 l0 M 6 (0 : Int32)) ∧ (p22_13 n  l0 l1 l2 l3 (zWI M l0 6 (0 : Int32)))
theorem s22_8 (n : Nat)    (l0 : Nat) (l1 : Nat) (l2 : Int32) (l3 : Nat) (M : zM) (hp : p22_8 n  l0 l1 l2 l3 M) {Q : Option Value → zM → Prop} (hQ : ∀ r M1, zRV (b22_8 n  l0 l1 l2 l3 M) r M1 → Q r M1) : zWP 22 8 [some (.ref l0), some (.ref l1), some (.int l2), some (.ref l3), none, none] [] M Q := by
  unfold b22_8 at hQ
  unfold p22_8 at hp
  refine wp_go 2 (pc' := 10) (L' := [some (.ref l0), some (.ref l1), some (.int l2), some (.ref l3), none, none]) (st' := [.int (0 : Int32), .ref l0]) (M' := M) rfl ?_
  obtain ⟨hc, hp⟩ := hp
  refine wq_putI (j := 6) rfl hc ?_
  exact s22_13 n    l0 l1 l2 l3 (zWI M l0 6 (0 : Int32)) hp hQ
def b22_0 (n : Nat)  (l0 : Nat) (l1 : Nat) (l2 : Int32) (l3 : Nat) (M : zM) : zM := b22_8 n  l0 l1 l2 l3 (b195_0 n (zQ M l0 0) ((-1) : Int32) M)
def p22_0 (n : Nat)  (l0 : Nat) (l1 : Nat) (l2 : Int32) (l3 : Nat) (M : zM) : Prop := (zHasQ 3 9 l0 M 0) ∧ ((p195_0 n (zQ M l0 0) ((-1) : Int32) M) ∧ (p22_8 n  l0 l1 l2 l3 (b195_0 n (zQ M l0 0) ((-1) : Int32) M)))
theorem s22_0 (n : Nat)    (l0 : Nat) (l1 : Nat) (l2 : Int32) (l3 : Nat) (M : zM) (hp : p22_0 n  l0 l1 l2 l3 M) {Q : Option Value → zM → Prop} (hQ : ∀ r M1, zRV (b22_0 n  l0 l1 l2 l3 M) r M1 → Q r M1) : zWP 22 0 [some (.ref l0), some (.ref l1), some (.int l2), some (.ref l3), none, none] [] M Q := by
  unfold b22_0 at hQ
  unfold p22_0 at hp
  refine wp_go 1 (pc' := 1) (L' := [some (.ref l0), some (.ref l1), some (.int l2), some (.ref l3), none, none]) (st' := [.ref l0]) (M' := M) rfl ?_
  obtain ⟨hc, hp⟩ := hp
  refine wq_getQ (j := 0) rfl hc ?_
  refine wp_go 1 (pc' := 5) (L' := [some (.ref l0), some (.ref l1), some (.int l2), some (.ref l3), none, none]) (st' := [.int ((-1) : Int32), .ref (zQ M l0 0)]) (M' := M) rfl ?_
  obtain ⟨hc, hp⟩ := hp
  refine wp_callv (M1 := (b195_0 n (zQ M l0 0) ((-1) : Int32) M)) rfl rfl rfl rfl (s195_0 n (zQ M l0 0) ((-1) : Int32) M hc (fun r M1 h => h)) ?_
  exact s22_8 n    l0 l1 l2 l3 (b195_0 n (zQ M l0 0) ((-1) : Int32) M) hp hQ
