/-! X6_put -/
def b36_49 (n : Nat)   (M : zM) : zM := M
def p36_49 (n : Nat)   (M : zM) : Prop := True
theorem s36_49 (n : Nat)     (M : zM) (hp : p36_49 n   M) {Q : Option Value → zM → Prop} (hQ : ∀ r M1, zRV (b36_49 n   M) r M1 → Q r M1) : zWP 36 49 [none, none, none, none, none, none] [] M Q := by
  unfold b36_49 at hQ
  unfold p36_49 at hp
  exact wp_ret (r := none) rfl rfl (hQ _ _ ⟨rfl, rfl⟩)
def b36_41 (n : Nat)  (l0 : Nat) (l3 : Nat) (M : zM) : zM := b36_49 n  (zWI M l0 7 (zI M l3 7))
def p36_41 (n : Nat)  (l0 : Nat) (l3 : Nat) (M : zM) : Prop := (zHasI 5 41 l3 M 7) ∧ ((zPutI 36 33 l0 M 7 (zI M l3 7)) ∧ (p36_49 n  (zWI M l0 7 (zI M l3 7))))
theorem s36_41 (n : Nat)    (l0 : Nat) (l3 : Nat) (M : zM) (hp : p36_41 n  l0 l3 M) {Q : Option Value → zM → Prop} (hQ : ∀ r M1, zRV (b36_41 n  l0 l3 M) r M1 → Q r M1) : zWP 36 41 [some (.ref l0), none, none, some (.ref l3), none, none] [] M Q := by
  unfold b36_41 at hQ
  unfold p36_41 at hp
  refine wp_go 2 (pc' := 43) (L' := [some (.ref l0), none, none, some (.ref l3), none, none]) (st' := [.ref l3, .ref l0]) (M' := M) rfl ?_
  obtain ⟨hc, hp⟩ := hp
  refine wq_getI (j := 7) rfl hc ?_
  obtain ⟨hc, hp⟩ := hp
  refine wq_putI (j := 7) rfl hc ?_
  refine wp_le [none, none, none, none, none, none] (zLe_of (by simp [zLeB])) ?_
  exact s36_49 n    (zWI M l0 7 (zI M l3 7)) hp hQ
def b36_33 (n : Nat)  (l0 : Nat) (l1 : Nat) (l3 : Nat) (M : zM) : zM := b36_41 n  l0 l3 (zWI M l0 6 (zI M l1 7))
def p36_33 (n : Nat)  (l0 : Nat) (l1 : Nat) (l3 : Nat) (M : zM) : Prop := (zHasI 5 41 l1 M 7) ∧ ((zPutI 36 30 l0 M 6 (zI M l1 7)) ∧ (p36_41 n  l0 l3 (zWI M l0 6 (zI M l1 7))))
theorem s36_33 (n : Nat)    (l0 : Nat) (l1 : Nat) (l3 : Nat) (M : zM) (hp : p36_33 n  l0 l1 l3 M) {Q : Option Value → zM → Prop} (hQ : ∀ r M1, zRV (b36_33 n  l0 l1 l3 M) r M1 → Q r M1) : zWP 36 33 [some (.ref l0), some (.ref l1), none, some (.ref l3), none, none] [] M Q := by
  unfold b36_33 at hQ
  unfold p36_33 at hp
  refine wp_go 2 (pc' := 35) (L' := [some (.ref l0), some (.ref l1), none, some (.ref l3), none, none]) (st' := [.ref l1, .ref l0]) (M' := M) rfl ?_
  obtain ⟨hc, hp⟩ := hp
  refine wq_getI (j := 7) rfl hc ?_
  obtain ⟨hc, hp⟩ := hp
  refine wq_putI (j := 6) rfl hc ?_
  refine wp_le [some (.ref l0), none, none, some (.ref l3), none, none] (zLe_of (by simp [zLeB])) ?_
  exact s36_41 n    l0 l3 (zWI M l0 6 (zI M l1 7)) hp hQ
def b36_27 (n : Nat)  (l0 : Nat) (l1 : Nat) (l3 : Nat) (l5 : Int32) (M : zM) : zM := b36_33 n  l0 l1 l3 (zWI M l0 4 l5)
def p36_27 (n : Nat)  (l0 : Nat) (l1 : Nat) (l3 : Nat) (l5 : Int32) (M : zM) : Prop := (zPutI 36 24 l0 M 4 l5) ∧ (p36_33 n  l0 l1 l3 (zWI M l0 4 l5))
theorem s36_27 (n : Nat)    (l0 : Nat) (l1 : Nat) (l3 : Nat) (l5 : Int32) (M : zM) (hp : p36_27 n  l0 l1 l3 l5 M) {Q : Option Value → zM → Prop} (hQ : ∀ r M1, zRV (b36_27 n  l0 l1 l3 l5 M) r M1 → Q r M1) : zWP 36 27 [some (.ref l0), some (.ref l1), none, some (.ref l3), none, some (.int l5)] [] M Q := by
  unfold b36_27 at hQ
  unfold p36_27 at hp
  refine wp_go 2 (pc' := 30) (L' := [some (.ref l0), some (.ref l1), none, some (.ref l3), none, some (.int l5)]) (st' := [.int l5, .ref l0]) (M' := M) rfl ?_
  obtain ⟨hc, hp⟩ := hp
  refine wq_putI (j := 4) rfl hc ?_
  refine wp_le [some (.ref l0), some (.ref l1), none, some (.ref l3), none, none] (zLe_of (by simp [zLeB])) ?_
  exact s36_33 n    l0 l1 l3 (zWI M l0 4 l5) hp hQ
def b36_21 (n : Nat)  (l0 : Nat) (l1 : Nat) (l3 : Nat) (l4 : Int32) (l5 : Int32) (M : zM) : zM := b36_27 n  l0 l1 l3 l5 (zWI M l0 3 l4)
def p36_21 (n : Nat)  (l0 : Nat) (l1 : Nat) (l3 : Nat) (l4 : Int32) (l5 : Int32) (M : zM) : Prop := (zPutI 36 21 l0 M 3 l4) ∧ (p36_27 n  l0 l1 l3 l5 (zWI M l0 3 l4))
theorem s36_21 (n : Nat)    (l0 : Nat) (l1 : Nat) (l3 : Nat) (l4 : Int32) (l5 : Int32) (M : zM) (hp : p36_21 n  l0 l1 l3 l4 l5 M) {Q : Option Value → zM → Prop} (hQ : ∀ r M1, zRV (b36_21 n  l0 l1 l3 l4 l5 M) r M1 → Q r M1) : zWP 36 21 [some (.ref l0), some (.ref l1), none, some (.ref l3), some (.int l4), some (.int l5)] [] M Q := by
  unfold b36_21 at hQ
  unfold p36_21 at hp
  refine wp_go 2 (pc' := 24) (L' := [some (.ref l0), some (.ref l1), none, some (.ref l3), some (.int l4), some (.int l5)]) (st' := [.int l4, .ref l0]) (M' := M) rfl ?_
  obtain ⟨hc, hp⟩ := hp
  refine wq_putI (j := 3) rfl hc ?_
  refine wp_le [some (.ref l0), some (.ref l1), none, some (.ref l3), none, some (.int l5)] (zLe_of (by simp [zLeB])) ?_
  exact s36_27 n    l0 l1 l3 l5 (zWI M l0 3 l4) hp hQ
def b36_13 (n : Nat)  (l0 : Nat) (l1 : Nat) (l3 : Nat) (l4 : Int32) (l5 : Int32) (M : zM) : zM := b36_21 n  l0 l1 l3 l4 l5 (zWI M l0 2 (zI M l3 0))
def p36_13 (n : Nat)  (l0 : Nat) (l1 : Nat) (l3 : Nat) (l4 : Int32) (l5 : Int32) (M : zM) : Prop := (zHasI 5 36 l3 M 0) ∧ ((zPutI 36 18 l0 M 2 (zI M l3 0)) ∧ (p36_21 n  l0 l1 l3 l4 l5 (zWI M l0 2 (zI M l3 0))))
theorem s36_13 (n : Nat)    (l0 : Nat) (l1 : Nat) (l3 : Nat) (l4 : Int32) (l5 : Int32) (M : zM) (hp : p36_13 n  l0 l1 l3 l4 l5 M) {Q : Option Value → zM → Prop} (hQ : ∀ r M1, zRV (b36_13 n  l0 l1 l3 l4 l5 M) r M1 → Q r M1) : zWP 36 13 [some (.ref l0), some (.ref l1), none, some (.ref l3), some (.int l4), some (.int l5)] [] M Q := by
  unfold b36_13 at hQ
  unfold p36_13 at hp
  refine wp_go 2 (pc' := 15) (L' := [some (.ref l0), some (.ref l1), none, some (.ref l3), some (.int l4), some (.int l5)]) (st' := [.ref l3, .ref l0]) (M' := M) rfl ?_
  obtain ⟨hc, hp⟩ := hp
  refine wq_getI (j := 0) rfl hc ?_
  obtain ⟨hc, hp⟩ := hp
  refine wq_putI (j := 2) rfl hc ?_
  exact s36_21 n    l0 l1 l3 l4 l5 (zWI M l0 2 (zI M l3 0)) hp hQ
def b36_8 (n : Nat)  (l0 : Nat) (l1 : Nat) (l2 : Int32) (l3 : Nat) (l4 : Int32) (l5 : Int32) (M : zM) : zM := b36_13 n  l0 l1 l3 l4 l5 (zWI M l0 1 l2)
def p36_8 (n : Nat)  (l0 : Nat) (l1 : Nat) (l2 : Int32) (l3 : Nat) (l4 : Int32) (l5 : Int32) (M : zM) : Prop := (zPutI 36 15 l0 M 1 l2) ∧ (p36_13 n  l0 l1 l3 l4 l5 (zWI M l0 1 l2))
theorem s36_8 (n : Nat)    (l0 : Nat) (l1 : Nat) (l2 : Int32) (l3 : Nat) (l4 : Int32) (l5 : Int32) (M : zM) (hp : p36_8 n  l0 l1 l2 l3 l4 l5 M) {Q : Option Value → zM → Prop} (hQ : ∀ r M1, zRV (b36_8 n  l0 l1 l2 l3 l4 l5 M) r M1 → Q r M1) : zWP 36 8 [some (.ref l0), some (.ref l1), some (.int l2), some (.ref l3), some (.int l4), some (.int l5)] [] M Q := by
  unfold b36_8 at hQ
  unfold p36_8 at hp
  refine wp_go 2 (pc' := 10) (L' := [some (.ref l0), some (.ref l1), some (.int l2), some (.ref l3), some (.int l4), some (.int l5)]) (st' := [.int l2, .ref l0]) (M' := M) rfl ?_
  obtain ⟨hc, hp⟩ := hp
  refine wq_putI (j := 1) rfl hc ?_
  refine wp_le [some (.ref l0), some (.ref l1), none, some (.ref l3), some (.int l4), some (.int l5)] (zLe_of (by simp [zLeB])) ?_
  exact s36_13 n    l0 l1 l3 l4 l5 (zWI M l0 1 l2) hp hQ
def b36_0 (n : Nat)  (l0 : Nat) (l1 : Nat) (l2 : Int32) (l3 : Nat) (l4 : Int32) (l5 : Int32) (M : zM) : zM := b36_8 n  l0 l1 l2 l3 l4 l5 (zWI M l0 0 (zI M l1 0))
def p36_0 (n : Nat)  (l0 : Nat) (l1 : Nat) (l2 : Int32) (l3 : Nat) (l4 : Int32) (l5 : Int32) (M : zM) : Prop := (zHasI 5 36 l1 M 0) ∧ ((zPutI 36 9 l0 M 0 (zI M l1 0)) ∧ (p36_8 n  l0 l1 l2 l3 l4 l5 (zWI M l0 0 (zI M l1 0))))
theorem s36_0 (n : Nat)    (l0 : Nat) (l1 : Nat) (l2 : Int32) (l3 : Nat) (l4 : Int32) (l5 : Int32) (M : zM) (hp : p36_0 n  l0 l1 l2 l3 l4 l5 M) {Q : Option Value → zM → Prop} (hQ : ∀ r M1, zRV (b36_0 n  l0 l1 l2 l3 l4 l5 M) r M1 → Q r M1) : zWP 36 0 [some (.ref l0), some (.ref l1), some (.int l2), some (.ref l3), some (.int l4), some (.int l5)] [] M Q := by
  unfold b36_0 at hQ
  unfold p36_0 at hp
  refine wp_go 2 (pc' := 2) (L' := [some (.ref l0), some (.ref l1), some (.int l2), some (.ref l3), some (.int l4), some (.int l5)]) (st' := [.ref l1, .ref l0]) (M' := M) rfl ?_
  obtain ⟨hc, hp⟩ := hp
  refine wq_getI (j := 0) rfl hc ?_
  obtain ⟨hc, hp⟩ := hp
  refine wq_putI (j := 0) rfl hc ?_
  exact s36_8 n    l0 l1 l2 l3 l4 l5 (zWI M l0 0 (zI M l1 0)) hp hQ
/-! X6_putFacing -/
def b37_41 (n : Nat)   (M : zM) : zM := M
def p37_41 (n : Nat)   (M : zM) : Prop := True
theorem s37_41 (n : Nat)     (M : zM) (hp : p37_41 n   M) {Q : Option Value → zM → Prop} (hQ : ∀ r M1, zRV (b37_41 n   M) r M1 → Q r M1) : zWP 37 41 [none, none, none, none, none, none, none] [] M Q := by
  unfold b37_41 at hQ
  unfold p37_41 at hp
  exact wp_ret (r := none) rfl rfl (hQ _ _ ⟨rfl, rfl⟩)
def b37_35 (n : Nat)  (l0 : Nat) (l5 : Int32) (M : zM) : zM := b37_41 n  (zWI M l0 5 l5)
def p37_35 (n : Nat)  (l0 : Nat) (l5 : Int32) (M : zM) : Prop := (zPutI 37 27 l0 M 5 l5) ∧ (p37_41 n  (zWI M l0 5 l5))
theorem s37_35 (n : Nat)    (l0 : Nat) (l5 : Int32) (M : zM) (hp : p37_35 n  l0 l5 M) {Q : Option Value → zM → Prop} (hQ : ∀ r M1, zRV (b37_35 n  l0 l5 M) r M1 → Q r M1) : zWP 37 35 [some (.ref l0), none, none, none, none, some (.int l5), none] [] M Q := by
  unfold b37_35 at hQ
  unfold p37_35 at hp
  refine wp_go 2 (pc' := 38) (L' := [some (.ref l0), none, none, none, none, some (.int l5), none]) (st' := [.int l5, .ref l0]) (M' := M) rfl ?_
  obtain ⟨hc, hp⟩ := hp
  refine wq_putI (j := 5) rfl hc ?_
  refine wp_le [none, none, none, none, none, none, none] (zLe_of (by simp [zLeB])) ?_
  exact s37_41 n    (zWI M l0 5 l5) hp hQ
def b37_32 (n : Nat)  (l0 : Nat) (l5 : Int32) (s0 : Nat) (s1 : Nat) (s2 : Int32) (s3 : Nat) (s4 : Int32) (s5 : Int32) (M : zM) : zM := b37_35 n  l0 l5 (b36_0 n s0 s1 s2 s3 s4 s5 M)
def p37_32 (n : Nat)  (l0 : Nat) (l5 : Int32) (s0 : Nat) (s1 : Nat) (s2 : Int32) (s3 : Nat) (s4 : Int32) (s5 : Int32) (M : zM) : Prop := (zHasC 37 54 s0 M 36 5) ∧ ((p36_0 n s0 s1 s2 s3 s4 s5 M) ∧ (p37_35 n  l0 l5 (b36_0 n s0 s1 s2 s3 s4 s5 M)))
theorem s37_32 (n : Nat)    (l0 : Nat) (l5 : Int32) (s0 : Nat) (s1 : Nat) (s2 : Int32) (s3 : Nat) (s4 : Int32) (s5 : Int32) (M : zM) (hp : p37_32 n  l0 l5 s0 s1 s2 s3 s4 s5 M) {Q : Option Value → zM → Prop} (hQ : ∀ r M1, zRV (b37_32 n  l0 l5 s0 s1 s2 s3 s4 s5 M) r M1 → Q r M1) : zWP 37 32 [some (.ref l0), none, none, none, none, some (.int l5), none] [.int s5, .int s4, .ref s3, .int s2, .ref s1, .ref s0] M Q := by
  unfold b37_32 at hQ
  unfold p37_32 at hp
  obtain ⟨hv, hp⟩ := hp
  obtain ⟨hc, hp⟩ := hp
  refine wp_callv (M1 := (b36_0 n s0 s1 s2 s3 s4 s5 M)) rfl rfl rfl (zInv_v (np := 5) rfl rfl hv rfl) (s36_0 n s0 s1 s2 s3 s4 s5 M hc (fun r M1 h => h)) ?_
  exact s37_35 n    l0 l5 (b36_0 n s0 s1 s2 s3 s4 s5 M) hp hQ
def b37_0 (n : Nat)  (l0 : Nat) (l1 : Nat) (l2 : Int32) (l3 : Nat) (l4 : Int32) (l5 : Int32) (M : zM) : zM := b37_32 n  l0 l5 l0 l1 l2 l3 l4 (b189_0 n (((zI M (zQ M l1 1) l2.toNatClampNeg) - (zI M (zQ M l3 1) l4.toNatClampNeg)) - (12 : Int32)) (24 : Int32) M).1 (b189_0 n (((zI M (zQ M l1 1) l2.toNatClampNeg) - (zI M (zQ M l3 1) l4.toNatClampNeg)) - (12 : Int32)) (24 : Int32) M).2
def p37_0 (n : Nat)  (l0 : Nat) (l1 : Nat) (l2 : Int32) (l3 : Nat) (l4 : Int32) (l5 : Int32) (M : zM) : Prop := (zHasQ 5 44 l1 M 1) ∧ ((zOkI (zQ M l1 1) l2 M) ∧ ((zHasQ 5 44 l3 M 1) ∧ ((zOkI (zQ M l3 1) l4 M) ∧ ((p189_0 n (((zI M (zQ M l1 1) l2.toNatClampNeg) - (zI M (zQ M l3 1) l4.toNatClampNeg)) - (12 : Int32)) (24 : Int32) M) ∧ (p37_32 n  l0 l5 l0 l1 l2 l3 l4 (b189_0 n (((zI M (zQ M l1 1) l2.toNatClampNeg) - (zI M (zQ M l3 1) l4.toNatClampNeg)) - (12 : Int32)) (24 : Int32) M).1 (b189_0 n (((zI M (zQ M l1 1) l2.toNatClampNeg) - (zI M (zQ M l3 1) l4.toNatClampNeg)) - (12 : Int32)) (24 : Int32) M).2)))))
theorem s37_0 (n : Nat)    (l0 : Nat) (l1 : Nat) (l2 : Int32) (l3 : Nat) (l4 : Int32) (l5 : Int32) (M : zM) (hp : p37_0 n  l0 l1 l2 l3 l4 l5 M) {Q : Option Value → zM → Prop} (hQ : ∀ r M1, zRV (b37_0 n  l0 l1 l2 l3 l4 l5 M) r M1 → Q r M1) : zWP 37 0 [some (.ref l0), some (.ref l1), some (.int l2), some (.ref l3), some (.int l4), some (.int l5), none] [] M Q := by
  unfold b37_0 at hQ
  unfold p37_0 at hp
  refine wp_go 1 (pc' := 1) (L' := [some (.ref l0), some (.ref l1), some (.int l2), some (.ref l3), some (.int l4), some (.int l5), none]) (st' := [.ref l1]) (M' := M) rfl ?_
  obtain ⟨hc, hp⟩ := hp
  refine wq_getQ (j := 1) rfl hc ?_
  refine wp_go 1 (pc' := 5) (L' := [some (.ref l0), some (.ref l1), some (.int l2), some (.ref l3), some (.int l4), some (.int l5), none]) (st' := [.int l2, .ref (zQ M l1 1)]) (M' := M) rfl ?_
  obtain ⟨hc, hp⟩ := hp
  refine wq_iald rfl hc ?_
  refine wp_go 1 (pc' := 7) (L' := [some (.ref l0), some (.ref l1), some (.int l2), some (.ref l3), some (.int l4), some (.int l5), none]) (st' := [.ref l3, .int (zI M (zQ M l1 1) l2.toNatClampNeg)]) (M' := M) rfl ?_
  obtain ⟨hc, hp⟩ := hp
  refine wq_getQ (j := 1) rfl hc ?_
  refine wp_go 1 (pc' := 12) (L' := [some (.ref l0), some (.ref l1), some (.int l2), some (.ref l3), some (.int l4), some (.int l5), none]) (st' := [.int l4, .ref (zQ M l3 1), .int (zI M (zQ M l1 1) l2.toNatClampNeg)]) (M' := M) rfl ?_
  obtain ⟨hc, hp⟩ := hp
  refine wq_iald rfl hc ?_
  refine wp_go 5 (pc' := 20) (L' := [some (.ref l0), some (.ref l1), some (.int l2), some (.ref l3), some (.int l4), some (.int l5), some (.int (((zI M (zQ M l1 1) l2.toNatClampNeg) - (zI M (zQ M l3 1) l4.toNatClampNeg)) - (12 : Int32)))]) (st' := [.ref l0]) (M' := M) rfl ?_
  refine wp_go 5 (pc' := 27) (L' := [some (.ref l0), some (.ref l1), some (.int l2), some (.ref l3), some (.int l4), some (.int l5), some (.int (((zI M (zQ M l1 1) l2.toNatClampNeg) - (zI M (zQ M l3 1) l4.toNatClampNeg)) - (12 : Int32)))]) (st' := [.int (((zI M (zQ M l1 1) l2.toNatClampNeg) - (zI M (zQ M l3 1) l4.toNatClampNeg)) - (12 : Int32)), .int l4, .ref l3, .int l2, .ref l1, .ref l0]) (M' := M) rfl ?_
  refine wp_go 1 (pc' := 29) (L' := [some (.ref l0), some (.ref l1), some (.int l2), some (.ref l3), some (.int l4), some (.int l5), some (.int (((zI M (zQ M l1 1) l2.toNatClampNeg) - (zI M (zQ M l3 1) l4.toNatClampNeg)) - (12 : Int32)))]) (st' := [.int (24 : Int32), .int (((zI M (zQ M l1 1) l2.toNatClampNeg) - (zI M (zQ M l3 1) l4.toNatClampNeg)) - (12 : Int32)), .int l4, .ref l3, .int l2, .ref l1, .ref l0]) (M' := M) rfl ?_
  obtain ⟨hc, hp⟩ := hp
  refine wp_calli (v := (b189_0 n (((zI M (zQ M l1 1) l2.toNatClampNeg) - (zI M (zQ M l3 1) l4.toNatClampNeg)) - (12 : Int32)) (24 : Int32) M).1) (M1 := (b189_0 n (((zI M (zQ M l1 1) l2.toNatClampNeg) - (zI M (zQ M l3 1) l4.toNatClampNeg)) - (12 : Int32)) (24 : Int32) M).2) rfl rfl rfl rfl (s189_0 n (((zI M (zQ M l1 1) l2.toNatClampNeg) - (zI M (zQ M l3 1) l4.toNatClampNeg)) - (12 : Int32)) (24 : Int32) M hc (fun r M1 h => h)) ?_
  refine wp_le [some (.ref l0), none, none, none, none, some (.int l5), none] (zLe_of (by simp [zLeB])) ?_
  exact s37_32 n    l0 l5 l0 l1 l2 l3 l4 (b189_0 n (((zI M (zQ M l1 1) l2.toNatClampNeg) - (zI M (zQ M l3 1) l4.toNatClampNeg)) - (12 : Int32)) (24 : Int32) M).1 (b189_0 n (((zI M (zQ M l1 1) l2.toNatClampNeg) - (zI M (zQ M l3 1) l4.toNatClampNeg)) - (12 : Int32)) (24 : Int32) M).2 hp hQ
/-! X7_addStep -/
def b42_55 (n : Nat)   (M : zM) : zM := M
def p42_55 (n : Nat)   (M : zM) : Prop := True
theorem s42_55 (n : Nat)     (M : zM) (hp : p42_55 n   M) {Q : Option Value → zM → Prop} (hQ : ∀ r M1, zRV (b42_55 n   M) r M1 → Q r M1) : zWP 42 55 [none, none, none] [] M Q := by
  unfold b42_55 at hQ
  unfold p42_55 at hp
  exact wp_ret (r := none) rfl rfl (hQ _ _ ⟨rfl, rfl⟩)
def b42_45 (n : Nat)  (l0 : Nat) (M : zM) : zM := b42_55 n  (zWI M l0 7 ((zI M l0 7) + (1 : Int32)))
def p42_45 (n : Nat)  (l0 : Nat) (M : zM) : Prop := (zHasI 6 37 l0 M 7) ∧ ((zPutI 42 37 l0 M 7 ((zI M l0 7) + (1 : Int32))) ∧ (p42_55 n  (zWI M l0 7 ((zI M l0 7) + (1 : Int32)))))
theorem s42_45 (n : Nat)    (l0 : Nat) (M : zM) (hp : p42_45 n  l0 M) {Q : Option Value → zM → Prop} (hQ : ∀ r M1, zRV (b42_45 n  l0 M) r M1 → Q r M1) : zWP 42 45 [some (.ref l0), none, none] [] M Q := by
  unfold b42_45 at hQ
  unfold p42_45 at hp
  refine wp_go 2 (pc' := 47) (L' := [some (.ref l0), none, none]) (st' := [.ref l0, .ref l0]) (M' := M) rfl ?_
  obtain ⟨hc, hp⟩ := hp
  refine wq_getI (j := 7) rfl hc ?_
  refine wp_go 2 (pc' := 52) (L' := [some (.ref l0), none, none]) (st' := [.int ((zI M l0 7) + (1 : Int32)), .ref l0]) (M' := M) rfl ?_
  obtain ⟨hc, hp⟩ := hp
  refine wq_putI (j := 7) rfl hc ?_
  refine wp_le [none, none, none] (zLe_of (by simp [zLeB])) ?_
  exact s42_55 n    (zWI M l0 7 ((zI M l0 7) + (1 : Int32))) hp hQ
def b42_29 (n : Nat)  (l0 : Nat) (M : zM) : zM := b42_45 n  l0 (zWI M (zQ M l0 5) (zI M l0 7).toNatClampNeg (zI M (zQ M l0 6) 3))
def p42_29 (n : Nat)  (l0 : Nat) (M : zM) : Prop := (zHasQ 6 24 l0 M 5) ∧ ((zHasI 6 37 l0 M 7) ∧ ((zHasQ 6 34 l0 M 6) ∧ ((zHasK (zQ M l0 6) M) ∧ ((zOkT 2 (zQ M l0 5) (zI M l0 7) M ∧ zNar .boolean (zI M (zQ M l0 6) 3) = true) ∧ (p42_45 n  l0 (zWI M (zQ M l0 5) (zI M l0 7).toNatClampNeg (zI M (zQ M l0 6) 3)))))))
theorem s42_29 (n : Nat)    (l0 : Nat) (M : zM) (hp : p42_29 n  l0 M) {Q : Option Value → zM → Prop} (hQ : ∀ r M1, zRV (b42_29 n  l0 M) r M1 → Q r M1) : zWP 42 29 [some (.ref l0), none, none] [] M Q := by
  unfold b42_29 at hQ
  unfold p42_29 at hp
  refine wp_go 1 (pc' := 30) (L' := [some (.ref l0), none, none]) (st' := [.ref l0]) (M' := M) rfl ?_
  obtain ⟨hc, hp⟩ := hp
  refine wq_getQ (j := 5) rfl hc ?_
  refine wp_go 1 (pc' := 34) (L' := [some (.ref l0), none, none]) (st' := [.ref l0, .ref (zQ M l0 5)]) (M' := M) rfl ?_
  obtain ⟨hc, hp⟩ := hp
  refine wq_getI (j := 7) rfl hc ?_
  refine wp_go 1 (pc' := 38) (L' := [some (.ref l0), none, none]) (st' := [.ref l0, .int (zI M l0 7), .ref (zQ M l0 5)]) (M' := M) rfl ?_
  obtain ⟨hc, hp⟩ := hp
  refine wq_getQ (j := 6) rfl hc ?_
  obtain ⟨hc, hp⟩ := hp
  refine wq_getK (j := 3) rfl rfl hc ?_
  obtain ⟨hc, hp⟩ := hp
  refine wq_zast rfl hc ?_
  exact s42_45 n    l0 (zWI M (zQ M l0 5) (zI M l0 7).toNatClampNeg (zI M (zQ M l0 6) 3)) hp hQ
def b42_19 (n : Nat)  (l0 : Nat) (l2 : Int32) (M : zM) : zM := b42_29 n  l0 (zWI M (zQ M l0 2) (zI M l0 7).toNatClampNeg l2)
def p42_19 (n : Nat)  (l0 : Nat) (l2 : Int32) (M : zM) : Prop := (zHasQ 6 15 l0 M 2) ∧ ((zHasI 6 37 l0 M 7) ∧ ((zOkT 1 (zQ M l0 2) (zI M l0 7) M) ∧ (p42_29 n  l0 (zWI M (zQ M l0 2) (zI M l0 7).toNatClampNeg l2))))
theorem s42_19 (n : Nat)    (l0 : Nat) (l2 : Int32) (M : zM) (hp : p42_19 n  l0 l2 M) {Q : Option Value → zM → Prop} (hQ : ∀ r M1, zRV (b42_19 n  l0 l2 M) r M1 → Q r M1) : zWP 42 19 [some (.ref l0), none, some (.int l2)] [] M Q := by
  unfold b42_19 at hQ
  unfold p42_19 at hp
  refine wp_go 1 (pc' := 20) (L' := [some (.ref l0), none, some (.int l2)]) (st' := [.ref l0]) (M' := M) rfl ?_
  obtain ⟨hc, hp⟩ := hp
  refine wq_getQ (j := 2) rfl hc ?_
  refine wp_go 1 (pc' := 24) (L' := [some (.ref l0), none, some (.int l2)]) (st' := [.ref l0, .ref (zQ M l0 2)]) (M' := M) rfl ?_
  obtain ⟨hc, hp⟩ := hp
  refine wq_getI (j := 7) rfl hc ?_
  refine wp_go 1 (pc' := 28) (L' := [some (.ref l0), none, some (.int l2)]) (st' := [.int l2, .int (zI M l0 7), .ref (zQ M l0 2)]) (M' := M) rfl ?_
  obtain ⟨hc, hp⟩ := hp
  refine wq_iast rfl hc ?_
  refine wp_le [some (.ref l0), none, none] (zLe_of (by simp [zLeB])) ?_
  exact s42_29 n    l0 (zWI M (zQ M l0 2) (zI M l0 7).toNatClampNeg l2) hp hQ
def b42_0 (n : Nat)  (l0 : Nat) (l1 : Int32) (l2 : Int32) (M : zM) : zM := (if (20 : Int32) ≤ (zI M l0 7) then b42_55 n  M else b42_19 n  l0 l2 (zWI M (zQ M l0 1) (zI M l0 7).toNatClampNeg l1))
def p42_0 (n : Nat)  (l0 : Nat) (l1 : Int32) (l2 : Int32) (M : zM) : Prop := (zHasI 6 37 l0 M 7) ∧ ((((20 : Int32) ≤ (zI M l0 7) → p42_55 n  M) ∧ (¬ (20 : Int32) ≤ (zI M l0 7) → (zHasQ 6 9 l0 M 1) ∧ ((zHasI 6 37 l0 M 7) ∧ ((zOkT 1 (zQ M l0 1) (zI M l0 7) M) ∧ (p42_19 n  l0 l2 (zWI M (zQ M l0 1) (zI M l0 7).toNatClampNeg l1)))))))
theorem s42_0 (n : Nat)    (l0 : Nat) (l1 : Int32) (l2 : Int32) (M : zM) (hp : p42_0 n  l0 l1 l2 M) {Q : Option Value → zM → Prop} (hQ : ∀ r M1, zRV (b42_0 n  l0 l1 l2 M) r M1 → Q r M1) : zWP 42 0 [some (.ref l0), some (.int l1), some (.int l2)] [] M Q := by
  unfold b42_0 at hQ
  unfold p42_0 at hp
  refine wp_go 1 (pc' := 1) (L' := [some (.ref l0), some (.int l1), some (.int l2)]) (st' := [.ref l0]) (M' := M) rfl ?_
  obtain ⟨hc, hp⟩ := hp
  refine wq_getI (j := 7) rfl hc ?_
  refine wp_go 1 (pc' := 6) (L' := [some (.ref l0), some (.int l1), some (.int l2)]) (st' := [.int (20 : Int32), .int (zI M l0 7)]) (M' := M) rfl ?_
  refine wp_ic_ge (t := 55) rfl rfl (fun hc => ?_) (fun hc => ?_)
  · rw [if_pos hc] at hQ
    replace hp := hp.1 hc
    refine wp_le [none, none, none] (zLe_of (by simp [zLeB])) ?_
    exact s42_55 n    M hp hQ
  · rw [if_neg hc] at hQ
    replace hp := hp.2 hc
    refine wp_go 1 (pc' := 10) (L' := [some (.ref l0), some (.int l1), some (.int l2)]) (st' := [.ref l0]) (M' := M) rfl ?_
    obtain ⟨hc, hp⟩ := hp
    refine wq_getQ (j := 1) rfl hc ?_
    refine wp_go 1 (pc' := 14) (L' := [some (.ref l0), some (.int l1), some (.int l2)]) (st' := [.ref l0, .ref (zQ M l0 1)]) (M' := M) rfl ?_
    obtain ⟨hc, hp⟩ := hp
    refine wq_getI (j := 7) rfl hc ?_
    refine wp_go 1 (pc' := 18) (L' := [some (.ref l0), some (.int l1), some (.int l2)]) (st' := [.int l1, .int (zI M l0 7), .ref (zQ M l0 1)]) (M' := M) rfl ?_
    obtain ⟨hc, hp⟩ := hp
    refine wq_iast rfl hc ?_
    refine wp_le [some (.ref l0), none, some (.int l2)] (zLe_of (by simp [zLeB])) ?_
    exact s42_19 n    l0 l2 (zWI M (zQ M l0 1) (zI M l0 7).toNatClampNeg l1) hp hQ
/-! X7_setMark -/
def b43_27 (n : Nat)   (M : zM) : zM := M
def p43_27 (n : Nat)   (M : zM) : Prop := True
theorem s43_27 (n : Nat)     (M : zM) (hp : p43_27 n   M) {Q : Option Value → zM → Prop} (hQ : ∀ r M1, zRV (b43_27 n   M) r M1 → Q r M1) : zWP 43 27 [none, none, none] [] M Q := by
  unfold b43_27 at hQ
  unfold p43_27 at hp
  exact wp_ret (r := none) rfl rfl (hQ _ _ ⟨rfl, rfl⟩)
def b43_26 (n : Nat)  (s0 : Nat) (s1 : Int32) (s2 : Int32) (M : zM) : zM := b43_27 n  (zWI M s0 s1.toNatClampNeg s2)
def p43_26 (n : Nat)  (s0 : Nat) (s1 : Int32) (s2 : Int32) (M : zM) : Prop := (zOkT 2 s0 s1 M ∧ zNar .boolean s2 = true) ∧ (p43_27 n  (zWI M s0 s1.toNatClampNeg s2))
theorem s43_26 (n : Nat)    (s0 : Nat) (s1 : Int32) (s2 : Int32) (M : zM) (hp : p43_26 n  s0 s1 s2 M) {Q : Option Value → zM → Prop} (hQ : ∀ r M1, zRV (b43_26 n  s0 s1 s2 M) r M1 → Q r M1) : zWP 43 26 [none, none, none] [.int s2, .int s1, .ref s0] M Q := by
  unfold b43_26 at hQ
  unfold p43_26 at hp
  obtain ⟨hc, hp⟩ := hp
  refine wq_zast rfl hc ?_
  exact s43_27 n    (zWI M s0 s1.toNatClampNeg s2) hp hQ
def b43_0 (n : Nat)  (l0 : Nat) (l1 : Int32) (l2 : Int32) (M : zM) : zM := (if l2 = 0 then b43_26 n  (zQ M l0 5) l1 (zI M (zQ M l0 6) 3) M else b43_26 n  (zQ M l0 5) l1 (zI M (zQ M l0 6) 4) M)
def p43_0 (n : Nat)  (l0 : Nat) (l1 : Int32) (l2 : Int32) (M : zM) : Prop := (zHasQ 6 24 l0 M 5) ∧ (((l2 = 0 → (zHasQ 6 34 l0 M 6) ∧ ((zHasK (zQ M l0 6) M) ∧ (p43_26 n  (zQ M l0 5) l1 (zI M (zQ M l0 6) 3) M))) ∧ (¬ l2 = 0 → (zHasQ 6 34 l0 M 6) ∧ ((zHasK (zQ M l0 6) M) ∧ (p43_26 n  (zQ M l0 5) l1 (zI M (zQ M l0 6) 4) M)))))
theorem s43_0 (n : Nat)    (l0 : Nat) (l1 : Int32) (l2 : Int32) (M : zM) (hp : p43_0 n  l0 l1 l2 M) {Q : Option Value → zM → Prop} (hQ : ∀ r M1, zRV (b43_0 n  l0 l1 l2 M) r M1 → Q r M1) : zWP 43 0 [some (.ref l0), some (.int l1), some (.int l2)] [] M Q := by
  unfold b43_0 at hQ
  unfold p43_0 at hp
  refine wp_go 1 (pc' := 1) (L' := [some (.ref l0), some (.int l1), some (.int l2)]) (st' := [.ref l0]) (M' := M) rfl ?_
  obtain ⟨hc, hp⟩ := hp
  refine wq_getQ (j := 5) rfl hc ?_
  refine wp_go 2 (pc' := 6) (L' := [some (.ref l0), some (.int l1), some (.int l2)]) (st' := [.int l2, .int l1, .ref (zQ M l0 5)]) (M' := M) rfl ?_
  refine wp_if_eq (t := 19) rfl rfl (fun hc => ?_) (fun hc => ?_)
  · rw [if_pos hc] at hQ
    replace hp := hp.1 hc
    refine wp_go 1 (pc' := 20) (L' := [some (.ref l0), some (.int l1), some (.int l2)]) (st' := [.ref l0, .int l1, .ref (zQ M l0 5)]) (M' := M) rfl ?_
    obtain ⟨hc, hp⟩ := hp
    refine wq_getQ (j := 6) rfl hc ?_
    obtain ⟨hc, hp⟩ := hp
    refine wq_getK (j := 3) rfl rfl hc ?_
    refine wp_le [none, none, none] (zLe_of (by simp [zLeB])) ?_
    exact s43_26 n    (zQ M l0 5) l1 (zI M (zQ M l0 6) 3) M hp hQ
  · rw [if_neg hc] at hQ
    replace hp := hp.2 hc
    refine wp_go 1 (pc' := 10) (L' := [some (.ref l0), some (.int l1), some (.int l2)]) (st' := [.ref l0, .int l1, .ref (zQ M l0 5)]) (M' := M) rfl ?_
    obtain ⟨hc, hp⟩ := hp
    refine wq_getQ (j := 6) rfl hc ?_
    obtain ⟨hc, hp⟩ := hp
    refine wq_getK (j := 4) rfl rfl hc ?_
    refine wp_go 1 (pc' := 26) (L' := [some (.ref l0), some (.int l1), some (.int l2)]) (st' := [.int (zI M (zQ M l0 6) 4), .int l1, .ref (zQ M l0 5)]) (M' := M) rfl ?_
    refine wp_le [none, none, none] (zLe_of (by simp [zLeB])) ?_
    exact s43_26 n    (zQ M l0 5) l1 (zI M (zQ M l0 6) 4) M hp hQ
/-! X7_slackWith -/
def b44_17 (n : Nat)  (s0 : Int32) (M : zM) : Int32 × zM := (s0, M)
def p44_17 (n : Nat)  (s0 : Int32) (M : zM) : Prop := True
theorem s44_17 (n : Nat)    (s0 : Int32) (M : zM) (hp : p44_17 n  s0 M) {Q : Option Value → zM → Prop} (hQ : ∀ r M1, zRI (b44_17 n  s0 M) r M1 → Q r M1) : zWP 44 17 [none, none] [.int s0] M Q := by
  unfold b44_17 at hQ
  unfold p44_17 at hp
  exact wp_ret (r := some (.int s0)) rfl rfl (hQ _ _ ⟨rfl, rfl⟩)
def b44_0 (n : Nat)  (l0 : Nat) (l1 : Nat) (M : zM) : Int32 × zM := b44_17 n  (b192_0 n (zI M (zQ M l0 6) 1) (zI M (zQ M l1 6) 1) M).1 (b192_0 n (zI M (zQ M l0 6) 1) (zI M (zQ M l1 6) 1) M).2
def p44_0 (n : Nat)  (l0 : Nat) (l1 : Nat) (M : zM) : Prop := (zHasQ 6 34 l0 M 6) ∧ ((zHasK (zQ M l0 6) M) ∧ ((zHasQ 6 34 l1 M 6) ∧ ((zHasK (zQ M l1 6) M) ∧ ((p192_0 n (zI M (zQ M l0 6) 1) (zI M (zQ M l1 6) 1) M) ∧ (p44_17 n  (b192_0 n (zI M (zQ M l0 6) 1) (zI M (zQ M l1 6) 1) M).1 (b192_0 n (zI M (zQ M l0 6) 1) (zI M (zQ M l1 6) 1) M).2)))))
theorem s44_0 (n : Nat)    (l0 : Nat) (l1 : Nat) (M : zM) (hp : p44_0 n  l0 l1 M) {Q : Option Value → zM → Prop} (hQ : ∀ r M1, zRI (b44_0 n  l0 l1 M) r M1 → Q r M1) : zWP 44 0 [some (.ref l0), some (.ref l1)] [] M Q := by
  unfold b44_0 at hQ
  unfold p44_0 at hp
  refine wp_go 1 (pc' := 1) (L' := [some (.ref l0), some (.ref l1)]) (st' := [.ref l0]) (M' := M) rfl ?_
  obtain ⟨hc, hp⟩ := hp
  refine wq_getQ (j := 6) rfl hc ?_
  obtain ⟨hc, hp⟩ := hp
  refine wq_getK (j := 1) rfl rfl hc ?_
  refine wp_go 1 (pc' := 8) (L' := [some (.ref l0), some (.ref l1)]) (st' := [.ref l1, .int (zI M (zQ M l0 6) 1)]) (M' := M) rfl ?_
  obtain ⟨hc, hp⟩ := hp
  refine wq_getQ (j := 6) rfl hc ?_
  obtain ⟨hc, hp⟩ := hp
  refine wq_getK (j := 1) rfl rfl hc ?_
  obtain ⟨hc, hp⟩ := hp
  refine wp_calli (v := (b192_0 n (zI M (zQ M l0 6) 1) (zI M (zQ M l1 6) 1) M).1) (M1 := (b192_0 n (zI M (zQ M l0 6) 1) (zI M (zQ M l1 6) 1) M).2) rfl rfl rfl rfl (s192_0 n (zI M (zQ M l0 6) 1) (zI M (zQ M l1 6) 1) M hc (fun r M1 h => h)) ?_
  refine wp_le [none, none] (zLe_of (by simp [zLeB])) ?_
  exact s44_17 n    (b192_0 n (zI M (zQ M l0 6) 1) (zI M (zQ M l1 6) 1) M).1 (b192_0 n (zI M (zQ M l0 6) 1) (zI M (zQ M l1 6) 1) M).2 hp hQ
/-! X7_canPair -/
def b45_18 (n : Nat)   (M : zM) : Int32 × zM := ((0 : Int32), M)
def p45_18 (n : Nat)   (M : zM) : Prop := True
theorem s45_18 (n : Nat)     (M : zM) (hp : p45_18 n   M) {Q : Option Value → zM → Prop} (hQ : ∀ r M1, zRI (b45_18 n   M) r M1 → Q r M1) : zWP 45 18 [none, none, none, none, none] [] M Q := by
  unfold b45_18 at hQ
  unfold p45_18 at hp
  refine wp_go 1 (pc' := 19) (L' := [none, none, none, none, none]) (st' := [.int (0 : Int32)]) (M' := M) rfl ?_
  exact wp_ret (r := some (.int (0 : Int32))) rfl rfl (hQ _ _ ⟨rfl, rfl⟩)
def b45_40 (n : Nat)   (M : zM) : Int32 × zM := ((0 : Int32), M)
def p45_40 (n : Nat)   (M : zM) : Prop := True
theorem s45_40 (n : Nat)     (M : zM) (hp : p45_40 n   M) {Q : Option Value → zM → Prop} (hQ : ∀ r M1, zRI (b45_40 n   M) r M1 → Q r M1) : zWP 45 40 [none, none, none, none, none] [] M Q := by
  unfold b45_40 at hQ
  unfold p45_40 at hp
  refine wp_go 1 (pc' := 41) (L' := [none, none, none, none, none]) (st' := [.int (0 : Int32)]) (M' := M) rfl ?_
  exact wp_ret (r := some (.int (0 : Int32))) rfl rfl (hQ _ _ ⟨rfl, rfl⟩)
def b45_94 (n : Nat)  (s0 : Int32) (M : zM) : Int32 × zM := (s0, M)
def p45_94 (n : Nat)  (s0 : Int32) (M : zM) : Prop := zNar .boolean s0 = true
theorem s45_94 (n : Nat)    (s0 : Int32) (M : zM) (hp : p45_94 n  s0 M) {Q : Option Value → zM → Prop} (hQ : ∀ r M1, zRI (b45_94 n  s0 M) r M1 → Q r M1) : zWP 45 94 [none, none, none, none, none] [.int s0] M Q := by
  unfold b45_94 at hQ
  unfold p45_94 at hp
  exact wp_retz rfl rfl hp (hQ _ _ ⟨rfl, rfl⟩)
def b45_89 (n : Nat)   (M : zM) : Int32 × zM := b45_94 n  (1 : Int32) M
def p45_89 (n : Nat)   (M : zM) : Prop := p45_94 n  (1 : Int32) M
theorem s45_89 (n : Nat)     (M : zM) (hp : p45_89 n   M) {Q : Option Value → zM → Prop} (hQ : ∀ r M1, zRI (b45_89 n   M) r M1 → Q r M1) : zWP 45 89 [none, none, none, none, none] [] M Q := by
  unfold b45_89 at hQ
  unfold p45_89 at hp
  refine wp_go 2 (pc' := 94) (L' := [none, none, none, none, none]) (st' := [.int (1 : Int32)]) (M' := M) rfl ?_
  exact s45_94 n    (1 : Int32) M hp hQ
def b45_67 (n : Nat)  (l0 : Nat) (l1 : Int32) (l2 : Nat) (l3 : Int32) (s0 : Int32) (M : zM) : Int32 × zM := (if s0 = 0 then b45_89 n  M else (if (zI M (zQ M l0 3) l1.toNatClampNeg) = (zI M (zQ M l2 3) l3.toNatClampNeg) then b45_89 n  M else b45_94 n  (0 : Int32) M))
def p45_67 (n : Nat)  (l0 : Nat) (l1 : Int32) (l2 : Nat) (l3 : Int32) (s0 : Int32) (M : zM) : Prop := ((s0 = 0 → p45_89 n  M) ∧ (¬ s0 = 0 → (zHasQ 6 18 l0 M 3) ∧ ((zOkI (zQ M l0 3) l1 M) ∧ ((zHasQ 6 18 l2 M 3) ∧ ((zOkI (zQ M l2 3) l3 M) ∧ ((((zI M (zQ M l0 3) l1.toNatClampNeg) = (zI M (zQ M l2 3) l3.toNatClampNeg) → p45_89 n  M) ∧ (¬ (zI M (zQ M l0 3) l1.toNatClampNeg) = (zI M (zQ M l2 3) l3.toNatClampNeg) → p45_94 n  (0 : Int32) M))))))))
theorem s45_67 (n : Nat)    (l0 : Nat) (l1 : Int32) (l2 : Nat) (l3 : Int32) (s0 : Int32) (M : zM) (hp : p45_67 n  l0 l1 l2 l3 s0 M) {Q : Option Value → zM → Prop} (hQ : ∀ r M1, zRI (b45_67 n  l0 l1 l2 l3 s0 M) r M1 → Q r M1) : zWP 45 67 [some (.ref l0), some (.int l1), some (.ref l2), some (.int l3), none] [.int s0] M Q := by
  unfold b45_67 at hQ
  unfold p45_67 at hp
  refine wp_go 2 (pc' := 71) (L' := [some (.ref l0), some (.int l1), some (.ref l2), some (.int l3), some (.int s0)]) (st' := [.int s0]) (M' := M) rfl ?_
  refine wp_if_eq (t := 89) rfl rfl (fun hc => ?_) (fun hc => ?_)
  · rw [if_pos hc] at hQ
    replace hp := hp.1 hc
    refine wp_le [none, none, none, none, none] (zLe_of (by simp [zLeB])) ?_
    exact s45_89 n    M hp hQ
  · rw [if_neg hc] at hQ
    replace hp := hp.2 hc
    refine wp_go 1 (pc' := 75) (L' := [some (.ref l0), some (.int l1), some (.ref l2), some (.int l3), some (.int s0)]) (st' := [.ref l0]) (M' := M) rfl ?_
    obtain ⟨hc, hp⟩ := hp
    refine wq_getQ (j := 3) rfl hc ?_
    refine wp_go 1 (pc' := 79) (L' := [some (.ref l0), some (.int l1), some (.ref l2), some (.int l3), some (.int s0)]) (st' := [.int l1, .ref (zQ M l0 3)]) (M' := M) rfl ?_
    obtain ⟨hc, hp⟩ := hp
    refine wq_iald rfl hc ?_
    refine wp_go 1 (pc' := 81) (L' := [some (.ref l0), some (.int l1), some (.ref l2), some (.int l3), some (.int s0)]) (st' := [.ref l2, .int (zI M (zQ M l0 3) l1.toNatClampNeg)]) (M' := M) rfl ?_
    obtain ⟨hc, hp⟩ := hp
    refine wq_getQ (j := 3) rfl hc ?_
    refine wp_go 1 (pc' := 85) (L' := [some (.ref l0), some (.int l1), some (.ref l2), some (.int l3), some (.int s0)]) (st' := [.int l3, .ref (zQ M l2 3), .int (zI M (zQ M l0 3) l1.toNatClampNeg)]) (M' := M) rfl ?_
    obtain ⟨hc, hp⟩ := hp
    refine wq_iald rfl hc ?_
    refine wp_ic_ne (t := 93) rfl rfl (fun hc => ?_) (fun hc => ?_)
    · rw [if_neg hc] at hQ
      replace hp := hp.2 hc
      refine wp_go 1 (pc' := 94) (L' := [some (.ref l0), some (.int l1), some (.ref l2), some (.int l3), some (.int s0)]) (st' := [.int (0 : Int32)]) (M' := M) rfl ?_
      refine wp_le [none, none, none, none, none] (zLe_of (by simp [zLeB])) ?_
      exact s45_94 n    (0 : Int32) M hp hQ
    · rw [if_pos hc] at hQ
      replace hp := hp.1 hc
      refine wp_le [none, none, none, none, none] (zLe_of (by simp [zLeB])) ?_
      exact s45_89 n    M hp hQ
def b45_66 (n : Nat)  (l0 : Nat) (l1 : Int32) (l2 : Nat) (l3 : Int32) (M : zM) : Int32 × zM := b45_67 n  l0 l1 l2 l3 (0 : Int32) M
def p45_66 (n : Nat)  (l0 : Nat) (l1 : Int32) (l2 : Nat) (l3 : Int32) (M : zM) : Prop := p45_67 n  l0 l1 l2 l3 (0 : Int32) M
theorem s45_66 (n : Nat)    (l0 : Nat) (l1 : Int32) (l2 : Nat) (l3 : Int32) (M : zM) (hp : p45_66 n  l0 l1 l2 l3 M) {Q : Option Value → zM → Prop} (hQ : ∀ r M1, zRI (b45_66 n  l0 l1 l2 l3 M) r M1 → Q r M1) : zWP 45 66 [some (.ref l0), some (.int l1), some (.ref l2), some (.int l3), none] [] M Q := by
  unfold b45_66 at hQ
  unfold p45_66 at hp
  refine wp_go 1 (pc' := 67) (L' := [some (.ref l0), some (.int l1), some (.ref l2), some (.int l3), none]) (st' := [.int (0 : Int32)]) (M' := M) rfl ?_
  exact s45_67 n    l0 l1 l2 l3 (0 : Int32) M hp hQ
def b45_0 (n : Nat)  (l0 : Nat) (l1 : Int32) (l2 : Nat) (l3 : Int32) (M : zM) : Int32 × zM := (if (zI M (zQ M l0 5) l1.toNatClampNeg) = 0 then b45_18 n  M else (if (zI M (zQ M l2 5) l3.toNatClampNeg) = 0 then b45_18 n  M else (if (zI M (zQ M l0 4) l1.toNatClampNeg) = ((-1) : Int32) then (if (zI M (zQ M l2 4) l3.toNatClampNeg) = ((-1) : Int32) then (if (zI M (zQ M l0 6) 2) = 0 then b45_66 n  l0 l1 l2 l3 M else (if (zI M (zQ M l2 6) 2) = 0 then b45_66 n  l0 l1 l2 l3 M else b45_67 n  l0 l1 l2 l3 (1 : Int32) M)) else b45_40 n  M) else b45_40 n  M)))
def p45_0 (n : Nat)  (l0 : Nat) (l1 : Int32) (l2 : Nat) (l3 : Int32) (M : zM) : Prop := (zHasQ 6 24 l0 M 5) ∧ ((zOkT 2 (zQ M l0 5) l1 M) ∧ ((((zI M (zQ M l0 5) l1.toNatClampNeg) = 0 → p45_18 n  M) ∧ (¬ (zI M (zQ M l0 5) l1.toNatClampNeg) = 0 → (zHasQ 6 24 l2 M 5) ∧ ((zOkT 2 (zQ M l2 5) l3 M) ∧ ((((zI M (zQ M l2 5) l3.toNatClampNeg) = 0 → p45_18 n  M) ∧ (¬ (zI M (zQ M l2 5) l3.toNatClampNeg) = 0 → (zHasQ 6 21 l0 M 4) ∧ ((zOkI (zQ M l0 4) l1 M) ∧ ((((zI M (zQ M l0 4) l1.toNatClampNeg) = ((-1) : Int32) → (zHasQ 6 21 l2 M 4) ∧ ((zOkI (zQ M l2 4) l3 M) ∧ ((((zI M (zQ M l2 4) l3.toNatClampNeg) = ((-1) : Int32) → (zHasQ 6 34 l0 M 6) ∧ ((zHasK (zQ M l0 6) M) ∧ ((((zI M (zQ M l0 6) 2) = 0 → p45_66 n  l0 l1 l2 l3 M) ∧ (¬ (zI M (zQ M l0 6) 2) = 0 → (zHasQ 6 34 l2 M 6) ∧ ((zHasK (zQ M l2 6) M) ∧ ((((zI M (zQ M l2 6) 2) = 0 → p45_66 n  l0 l1 l2 l3 M) ∧ (¬ (zI M (zQ M l2 6) 2) = 0 → p45_67 n  l0 l1 l2 l3 (1 : Int32) M))))))))) ∧ (¬ (zI M (zQ M l2 4) l3.toNatClampNeg) = ((-1) : Int32) → p45_40 n  M))))) ∧ (¬ (zI M (zQ M l0 4) l1.toNatClampNeg) = ((-1) : Int32) → p45_40 n  M))))))))))))
theorem s45_0 (n : Nat)    (l0 : Nat) (l1 : Int32) (l2 : Nat) (l3 : Int32) (M : zM) (hp : p45_0 n  l0 l1 l2 l3 M) {Q : Option Value → zM → Prop} (hQ : ∀ r M1, zRI (b45_0 n  l0 l1 l2 l3 M) r M1 → Q r M1) : zWP 45 0 [some (.ref l0), some (.int l1), some (.ref l2), some (.int l3), none] [] M Q := by
  unfold b45_0 at hQ
  unfold p45_0 at hp
  refine wp_go 1 (pc' := 1) (L' := [some (.ref l0), some (.int l1), some (.ref l2), some (.int l3), none]) (st' := [.ref l0]) (M' := M) rfl ?_
  obtain ⟨hc, hp⟩ := hp
  refine wq_getQ (j := 5) rfl hc ?_
  refine wp_go 1 (pc' := 5) (L' := [some (.ref l0), some (.int l1), some (.ref l2), some (.int l3), none]) (st' := [.int l1, .ref (zQ M l0 5)]) (M' := M) rfl ?_
  obtain ⟨hc, hp⟩ := hp
  refine wq_zald rfl hc ?_
  refine wp_if_eq (t := 18) rfl rfl (fun hc => ?_) (fun hc => ?_)
  · rw [if_pos hc] at hQ
    replace hp := hp.1 hc
    refine wp_le [none, none, none, none, none] (zLe_of (by simp [zLeB])) ?_
    exact s45_18 n    M hp hQ
  · rw [if_neg hc] at hQ
    replace hp := hp.2 hc
    refine wp_go 1 (pc' := 10) (L' := [some (.ref l0), some (.int l1), some (.ref l2), some (.int l3), none]) (st' := [.ref l2]) (M' := M) rfl ?_
    obtain ⟨hc, hp⟩ := hp
    refine wq_getQ (j := 5) rfl hc ?_
    refine wp_go 1 (pc' := 14) (L' := [some (.ref l0), some (.int l1), some (.ref l2), some (.int l3), none]) (st' := [.int l3, .ref (zQ M l2 5)]) (M' := M) rfl ?_
    obtain ⟨hc, hp⟩ := hp
    refine wq_zald rfl hc ?_
    refine wp_if_ne (t := 20) rfl rfl (fun hc => ?_) (fun hc => ?_)
    · rw [if_neg hc] at hQ
      replace hp := hp.2 hc
      refine wp_go 1 (pc' := 21) (L' := [some (.ref l0), some (.int l1), some (.ref l2), some (.int l3), none]) (st' := [.ref l0]) (M' := M) rfl ?_
      obtain ⟨hc, hp⟩ := hp
      refine wq_getQ (j := 4) rfl hc ?_
      refine wp_go 1 (pc' := 25) (L' := [some (.ref l0), some (.int l1), some (.ref l2), some (.int l3), none]) (st' := [.int l1, .ref (zQ M l0 4)]) (M' := M) rfl ?_
      obtain ⟨hc, hp⟩ := hp
      refine wq_iald rfl hc ?_
      refine wp_go 1 (pc' := 27) (L' := [some (.ref l0), some (.int l1), some (.ref l2), some (.int l3), none]) (st' := [.int ((-1) : Int32), .int (zI M (zQ M l0 4) l1.toNatClampNeg)]) (M' := M) rfl ?_
      refine wp_ic_ne (t := 40) rfl rfl (fun hc => ?_) (fun hc => ?_)
      · rw [if_neg hc] at hQ
        replace hp := hp.2 hc
        refine wp_le [none, none, none, none, none] (zLe_of (by simp [zLeB])) ?_
        exact s45_40 n    M hp hQ
      · rw [if_pos hc] at hQ
        replace hp := hp.1 hc
        refine wp_go 1 (pc' := 31) (L' := [some (.ref l0), some (.int l1), some (.ref l2), some (.int l3), none]) (st' := [.ref l2]) (M' := M) rfl ?_
        obtain ⟨hc, hp⟩ := hp
        refine wq_getQ (j := 4) rfl hc ?_
        refine wp_go 1 (pc' := 35) (L' := [some (.ref l0), some (.int l1), some (.ref l2), some (.int l3), none]) (st' := [.int l3, .ref (zQ M l2 4)]) (M' := M) rfl ?_
        obtain ⟨hc, hp⟩ := hp
        refine wq_iald rfl hc ?_
        refine wp_go 1 (pc' := 37) (L' := [some (.ref l0), some (.int l1), some (.ref l2), some (.int l3), none]) (st' := [.int ((-1) : Int32), .int (zI M (zQ M l2 4) l3.toNatClampNeg)]) (M' := M) rfl ?_
        refine wp_ic_eq (t := 42) rfl rfl (fun hc => ?_) (fun hc => ?_)
        · rw [if_pos hc] at hQ
          replace hp := hp.1 hc
          refine wp_go 1 (pc' := 43) (L' := [some (.ref l0), some (.int l1), some (.ref l2), some (.int l3), none]) (st' := [.ref l0]) (M' := M) rfl ?_
          obtain ⟨hc, hp⟩ := hp
          refine wq_getQ (j := 6) rfl hc ?_
          obtain ⟨hc, hp⟩ := hp
          refine wq_getK (j := 2) rfl rfl hc ?_
          refine wp_if_eq (t := 66) rfl rfl (fun hc => ?_) (fun hc => ?_)
          · rw [if_pos hc] at hQ
            replace hp := hp.1 hc
            exact s45_66 n    l0 l1 l2 l3 M hp hQ
          · rw [if_neg hc] at hQ
            replace hp := hp.2 hc
            refine wp_go 1 (pc' := 53) (L' := [some (.ref l0), some (.int l1), some (.ref l2), some (.int l3), none]) (st' := [.ref l2]) (M' := M) rfl ?_
            obtain ⟨hc, hp⟩ := hp
            refine wq_getQ (j := 6) rfl hc ?_
            obtain ⟨hc, hp⟩ := hp
            refine wq_getK (j := 2) rfl rfl hc ?_
            refine wp_if_eq (t := 66) rfl rfl (fun hc => ?_) (fun hc => ?_)
            · rw [if_pos hc] at hQ
              replace hp := hp.1 hc
              exact s45_66 n    l0 l1 l2 l3 M hp hQ
            · rw [if_neg hc] at hQ
              replace hp := hp.2 hc
              refine wp_go 2 (pc' := 67) (L' := [some (.ref l0), some (.int l1), some (.ref l2), some (.int l3), none]) (st' := [.int (1 : Int32)]) (M' := M) rfl ?_
              exact s45_67 n    l0 l1 l2 l3 (1 : Int32) M hp hQ
        · rw [if_neg hc] at hQ
          replace hp := hp.2 hc
          refine wp_le [none, none, none, none, none] (zLe_of (by simp [zLeB])) ?_
          exact s45_40 n    M hp hQ
    · rw [if_pos hc] at hQ
      replace hp := hp.1 hc
      refine wp_le [none, none, none, none, none] (zLe_of (by simp [zLeB])) ?_
      exact s45_18 n    M hp hQ
/-! X7_behind -/
def b46_17 (n : Nat)  (s0 : Int32) (M : zM) : Int32 × zM := (s0, M)
def p46_17 (n : Nat)  (s0 : Int32) (M : zM) : Prop := True
theorem s46_17 (n : Nat)    (s0 : Int32) (M : zM) (hp : p46_17 n  s0 M) {Q : Option Value → zM → Prop} (hQ : ∀ r M1, zRI (b46_17 n  s0 M) r M1 → Q r M1) : zWP 46 17 [none, none] [.int s0] M Q := by
  unfold b46_17 at hQ
  unfold p46_17 at hp
  exact wp_ret (r := some (.int s0)) rfl rfl (hQ _ _ ⟨rfl, rfl⟩)
def b46_0 (n : Nat)  (l0 : Nat) (l1 : Int32) (M : zM) : Int32 × zM := (if (zI M l0 7) ≤ (l1 + (1 : Int32)) then b46_17 n  (0 : Int32) M else b46_17 n  (l1 + (1 : Int32)) M)
def p46_0 (n : Nat)  (l0 : Nat) (l1 : Int32) (M : zM) : Prop := (zHasI 6 37 l0 M 7) ∧ ((((zI M l0 7) ≤ (l1 + (1 : Int32)) → p46_17 n  (0 : Int32) M) ∧ (¬ (zI M l0 7) ≤ (l1 + (1 : Int32)) → p46_17 n  (l1 + (1 : Int32)) M)))
theorem s46_0 (n : Nat)    (l0 : Nat) (l1 : Int32) (M : zM) (hp : p46_0 n  l0 l1 M) {Q : Option Value → zM → Prop} (hQ : ∀ r M1, zRI (b46_0 n  l0 l1 M) r M1 → Q r M1) : zWP 46 0 [some (.ref l0), some (.int l1)] [] M Q := by
  unfold b46_0 at hQ
  unfold p46_0 at hp
  refine wp_go 4 (pc' := 4) (L' := [some (.ref l0), some (.int l1)]) (st' := [.ref l0, .int (l1 + (1 : Int32))]) (M' := M) rfl ?_
  obtain ⟨hc, hp⟩ := hp
  refine wq_getI (j := 7) rfl hc ?_
  refine wp_ic_ge (t := 16) rfl rfl (fun hc => ?_) (fun hc => ?_)
  · rw [if_pos hc] at hQ
    replace hp := hp.1 hc
    refine wp_go 1 (pc' := 17) (L' := [some (.ref l0), some (.int l1)]) (st' := [.int (0 : Int32)]) (M' := M) rfl ?_
    refine wp_le [none, none] (zLe_of (by simp [zLeB])) ?_
    exact s46_17 n    (0 : Int32) M hp hQ
  · rw [if_neg hc] at hQ
    replace hp := hp.2 hc
    refine wp_go 4 (pc' := 17) (L' := [some (.ref l0), some (.int l1)]) (st' := [.int (l1 + (1 : Int32))]) (M' := M) rfl ?_
    refine wp_le [none, none] (zLe_of (by simp [zLeB])) ?_
    exact s46_17 n    (l1 + (1 : Int32)) M hp hQ
/-! X7_before -/
def b47_16 (n : Nat)  (s0 : Int32) (M : zM) : Int32 × zM := (s0, M)
def p47_16 (n : Nat)  (s0 : Int32) (M : zM) : Prop := True
theorem s47_16 (n : Nat)    (s0 : Int32) (M : zM) (hp : p47_16 n  s0 M) {Q : Option Value → zM → Prop} (hQ : ∀ r M1, zRI (b47_16 n  s0 M) r M1 → Q r M1) : zWP 47 16 [none, none] [.int s0] M Q := by
  unfold b47_16 at hQ
  unfold p47_16 at hp
  exact wp_ret (r := some (.int s0)) rfl rfl (hQ _ _ ⟨rfl, rfl⟩)
def b47_0 (n : Nat)  (l0 : Nat) (l1 : Int32) (M : zM) : Int32 × zM := (if l1 ≤ 0 then b47_16 n  ((zI M l0 7) - (1 : Int32)) M else b47_16 n  (l1 - (1 : Int32)) M)
def p47_0 (n : Nat)  (l0 : Nat) (l1 : Int32) (M : zM) : Prop := ((l1 ≤ 0 → (zHasI 6 37 l0 M 7) ∧ (p47_16 n  ((zI M l0 7) - (1 : Int32)) M)) ∧ (¬ l1 ≤ 0 → p47_16 n  (l1 - (1 : Int32)) M))
theorem s47_0 (n : Nat)    (l0 : Nat) (l1 : Int32) (M : zM) (hp : p47_0 n  l0 l1 M) {Q : Option Value → zM → Prop} (hQ : ∀ r M1, zRI (b47_0 n  l0 l1 M) r M1 → Q r M1) : zWP 47 0 [some (.ref l0), some (.int l1)] [] M Q := by
  unfold b47_0 at hQ
  unfold p47_0 at hp
  refine wp_go 1 (pc' := 1) (L' := [some (.ref l0), some (.int l1)]) (st' := [.int l1]) (M' := M) rfl ?_
  refine wp_if_le (t := 10) rfl rfl (fun hc => ?_) (fun hc => ?_)
  · rw [if_pos hc] at hQ
    replace hp := hp.1 hc
    refine wp_go 1 (pc' := 11) (L' := [some (.ref l0), some (.int l1)]) (st' := [.ref l0]) (M' := M) rfl ?_
    obtain ⟨hc, hp⟩ := hp
    refine wq_getI (j := 7) rfl hc ?_
    refine wp_go 2 (pc' := 16) (L' := [some (.ref l0), some (.int l1)]) (st' := [.int ((zI M l0 7) - (1 : Int32))]) (M' := M) rfl ?_
    refine wp_le [none, none] (zLe_of (by simp [zLeB])) ?_
    exact s47_16 n    ((zI M l0 7) - (1 : Int32)) M hp hQ
  · rw [if_neg hc] at hQ
    replace hp := hp.2 hc
    refine wp_go 4 (pc' := 16) (L' := [some (.ref l0), some (.int l1)]) (st' := [.int (l1 - (1 : Int32))]) (M' := M) rfl ?_
    refine wp_le [none, none] (zLe_of (by simp [zLeB])) ?_
    exact s47_16 n    (l1 - (1 : Int32)) M hp hQ
/-! J9_abs_067f4 -/
def b191_12 (n : Nat)  (s0 : Int64) (M : zM) : Int64 × zM := (s0, M)
def p191_12 (n : Nat)  (s0 : Int64) (M : zM) : Prop := True
theorem s191_12 (n : Nat)    (s0 : Int64) (M : zM) (hp : p191_12 n  s0 M) {Q : Option Value → zM → Prop} (hQ : ∀ r M1, zRJ (b191_12 n  s0 M) r M1 → Q r M1) : zWP 191 12 [none, none] [.long s0] M Q := by
  unfold b191_12 at hQ
  unfold p191_12 at hp
  exact wp_ret (r := some (.long s0)) rfl rfl (hQ _ _ ⟨rfl, rfl⟩)
def b191_0 (n : Nat)  (l0 : Int64) (M : zM) : Int64 × zM := (if 0 ≤ (lg_cmp l0 (0 : Int64)) then b191_12 n  l0 M else b191_12 n  (-l0) M)
def p191_0 (n : Nat)  (l0 : Int64) (M : zM) : Prop := ((0 ≤ (lg_cmp l0 (0 : Int64)) → p191_12 n  l0 M) ∧ (¬ 0 ≤ (lg_cmp l0 (0 : Int64)) → p191_12 n  (-l0) M))
theorem s191_0 (n : Nat)    (l0 : Int64) (M : zM) (hp : p191_0 n  l0 M) {Q : Option Value → zM → Prop} (hQ : ∀ r M1, zRJ (b191_0 n  l0 M) r M1 → Q r M1) : zWP 191 0 [some (.long l0), none] [] M Q := by
  unfold b191_0 at hQ
  unfold p191_0 at hp
  refine wp_go 3 (pc' := 3) (L' := [some (.long l0), none]) (st' := [.int (lg_cmp l0 (0 : Int64))]) (M' := M) rfl ?_
  refine wp_if_ge (t := 11) rfl rfl (fun hc => ?_) (fun hc => ?_)
  · rw [if_pos hc] at hQ
    replace hp := hp.1 hc
    refine wp_go 1 (pc' := 12) (L' := [some (.long l0), none]) (st' := [.long l0]) (M' := M) rfl ?_
    refine wp_le [none, none] (zLe_of (by simp [zLeB])) ?_
    exact s191_12 n    l0 M hp hQ
  · rw [if_neg hc] at hQ
    replace hp := hp.2 hc
    refine wp_go 3 (pc' := 12) (L' := [some (.long l0), none]) (st' := [.long (-l0)]) (M' := M) rfl ?_
    refine wp_le [none, none] (zLe_of (by simp [zLeB])) ?_
    exact s191_12 n    (-l0) M hp hQ
/-! X7_twiceItsArea -/
def b52_78 (n : Nat)  (s0 : Int64) (M : zM) : Int64 × zM := (s0, M)
def p52_78 (n : Nat)  (s0 : Int64) (M : zM) : Prop := True
theorem s52_78 (n : Nat)    (s0 : Int64) (M : zM) (hp : p52_78 n  s0 M) {Q : Option Value → zM → Prop} (hQ : ∀ r M1, zRJ (b52_78 n  s0 M) r M1 → Q r M1) : zWP 52 78 [none, none, none, none, none, none, none, none, none, none, none, none, none] [.long s0] M Q := by
  unfold b52_78 at hQ
  unfold p52_78 at hp
  exact wp_ret (r := some (.long s0)) rfl rfl (hQ _ _ ⟨rfl, rfl⟩)
def b52_42 (n : Nat) (k11 : Nat → Int32 → Int64 → Int64 → Int64 → Int32 → zM → Int64 × zM) (l0 : Nat) (l1 : Int32) (l2 : Int64) (l4 : Int64) (l6 : Int64) (l8 : Int32) (l9 : Int64) (s0 : Int64) (s1 : Int32) (M : zM) : Int64 × zM := k11 l0 l1 (l2 + ((l4 * (s0 + s1.toInt64)) - (l9 * l6))) l9 (s0 + s1.toInt64) (l8 + Int32.ofInt 1) M
def p52_42 (n : Nat) (q11 : Nat → Int32 → Int64 → Int64 → Int64 → Int32 → zM → Prop) (l0 : Nat) (l1 : Int32) (l2 : Int64) (l4 : Int64) (l6 : Int64) (l8 : Int32) (l9 : Int64) (s0 : Int64) (s1 : Int32) (M : zM) : Prop := q11 l0 l1 (l2 + ((l4 * (s0 + s1.toInt64)) - (l9 * l6))) l9 (s0 + s1.toInt64) (l8 + Int32.ofInt 1) M
theorem s52_42 (n : Nat) (k11 : Nat → Int32 → Int64 → Int64 → Int64 → Int32 → zM → Int64 × zM) (q11 : Nat → Int32 → Int64 → Int64 → Int64 → Int32 → zM → Prop) (h11 : ∀ (l0 : Nat) (l1 : Int32) (l2 : Int64) (l4 : Int64) (l6 : Int64) (l8 : Int32) (M : zM), q11 l0 l1 l2 l4 l6 l8 M → ∀ {Q : Option Value → zM → Prop}, (∀ r M1, zRJ (k11 l0 l1 l2 l4 l6 l8 M) r M1 → Q r M1) → zWP 52 11 [some (.ref l0), some (.int l1), some (.long l2), none, some (.long l4), none, some (.long l6), none, some (.int l8), none, none, none, none] [] M Q) (l0 : Nat) (l1 : Int32) (l2 : Int64) (l4 : Int64) (l6 : Int64) (l8 : Int32) (l9 : Int64) (s0 : Int64) (s1 : Int32) (M : zM) (hp : p52_42 n q11 l0 l1 l2 l4 l6 l8 l9 s0 s1 M) {Q : Option Value → zM → Prop} (hQ : ∀ r M1, zRJ (b52_42 n k11 l0 l1 l2 l4 l6 l8 l9 s0 s1 M) r M1 → Q r M1) : zWP 52 42 [some (.ref l0), some (.int l1), some (.long l2), none, some (.long l4), none, some (.long l6), none, some (.int l8), some (.long l9), none, none, none] [.int s1, .long s0] M Q := by
  unfold b52_42 at hQ
  unfold p52_42 at hp
  refine wp_go 5 (pc' := 49) (L' := [some (.ref l0), some (.int l1), some (.long l2), none, some (.long l4), none, some (.long l6), none, some (.int l8), some (.long l9), none, some (.long (s0 + s1.toInt64)), none]) (st' := [.long l4, .long l2]) (M' := M) rfl ?_
  refine wp_go 5 (pc' := 57) (L' := [some (.ref l0), some (.int l1), some (.long l2), none, some (.long l4), none, some (.long l6), none, some (.int l8), some (.long l9), none, some (.long (s0 + s1.toInt64)), none]) (st' := [.long (l9 * l6), .long (l4 * (s0 + s1.toInt64)), .long l2]) (M' := M) rfl ?_
  refine wp_go 5 (pc' := 64) (L' := [some (.ref l0), some (.int l1), some (.long (l2 + ((l4 * (s0 + s1.toInt64)) - (l9 * l6)))), none, some (.long l9), none, some (.long l6), none, some (.int l8), some (.long l9), none, some (.long (s0 + s1.toInt64)), none]) (st' := []) (M' := M) rfl ?_
  refine wp_go 4 (pc' := 11) (L' := [some (.ref l0), some (.int l1), some (.long (l2 + ((l4 * (s0 + s1.toInt64)) - (l9 * l6)))), none, some (.long l9), none, some (.long (s0 + s1.toInt64)), none, some (.int (l8 + Int32.ofInt 1)), some (.long l9), none, some (.long (s0 + s1.toInt64)), none]) (st' := []) (M' := M) rfl ?_
  refine wp_le [some (.ref l0), some (.int l1), some (.long (l2 + ((l4 * (s0 + s1.toInt64)) - (l9 * l6)))), none, some (.long l9), none, some (.long (s0 + s1.toInt64)), none, some (.int (l8 + Int32.ofInt 1)), none, none, none, none] (zLe_of (by simp [zLeB])) ?_
  exact h11 l0 l1 (l2 + ((l4 * (s0 + s1.toInt64)) - (l9 * l6))) l9 (s0 + s1.toInt64) (l8 + Int32.ofInt 1) M hp hQ
def b52_29 (n : Nat) (k11 : Nat → Int32 → Int64 → Int64 → Int64 → Int32 → zM → Int64 × zM) (l0 : Nat) (l1 : Int32) (l2 : Int64) (l4 : Int64) (l6 : Int64) (l8 : Int32) (s0 : Int64) (s1 : Int32) (M : zM) : Int64 × zM := b52_42 n k11 l0 l1 l2 l4 l6 l8 (s0 + s1.toInt64) l6 (b49_0 n l0 l8 l1 M).1 (b49_0 n l0 l8 l1 M).2
def p52_29 (n : Nat) (q11 : Nat → Int32 → Int64 → Int64 → Int64 → Int32 → zM → Prop) (l0 : Nat) (l1 : Int32) (l2 : Int64) (l4 : Int64) (l6 : Int64) (l8 : Int32) (s0 : Int64) (s1 : Int32) (M : zM) : Prop := (zHasC 52 84 l0 M 49 2) ∧ ((p49_0 n l0 l8 l1 M) ∧ (p52_42 n q11 l0 l1 l2 l4 l6 l8 (s0 + s1.toInt64) l6 (b49_0 n l0 l8 l1 M).1 (b49_0 n l0 l8 l1 M).2))
theorem s52_29 (n : Nat) (k11 : Nat → Int32 → Int64 → Int64 → Int64 → Int32 → zM → Int64 × zM) (q11 : Nat → Int32 → Int64 → Int64 → Int64 → Int32 → zM → Prop) (h11 : ∀ (l0 : Nat) (l1 : Int32) (l2 : Int64) (l4 : Int64) (l6 : Int64) (l8 : Int32) (M : zM), q11 l0 l1 l2 l4 l6 l8 M → ∀ {Q : Option Value → zM → Prop}, (∀ r M1, zRJ (k11 l0 l1 l2 l4 l6 l8 M) r M1 → Q r M1) → zWP 52 11 [some (.ref l0), some (.int l1), some (.long l2), none, some (.long l4), none, some (.long l6), none, some (.int l8), none, none, none, none] [] M Q) (l0 : Nat) (l1 : Int32) (l2 : Int64) (l4 : Int64) (l6 : Int64) (l8 : Int32) (s0 : Int64) (s1 : Int32) (M : zM) (hp : p52_29 n q11 l0 l1 l2 l4 l6 l8 s0 s1 M) {Q : Option Value → zM → Prop} (hQ : ∀ r M1, zRJ (b52_29 n k11 l0 l1 l2 l4 l6 l8 s0 s1 M) r M1 → Q r M1) : zWP 52 29 [some (.ref l0), some (.int l1), some (.long l2), none, some (.long l4), none, some (.long l6), none, some (.int l8), none, none, none, none] [.int s1, .long s0] M Q := by
  unfold b52_29 at hQ
  unfold p52_29 at hp
  refine wp_go 5 (pc' := 36) (L' := [some (.ref l0), some (.int l1), some (.long l2), none, some (.long l4), none, some (.long l6), none, some (.int l8), some (.long (s0 + s1.toInt64)), none, none, none]) (st' := [.ref l0, .long l6]) (M' := M) rfl ?_
  refine wp_go 2 (pc' := 39) (L' := [some (.ref l0), some (.int l1), some (.long l2), none, some (.long l4), none, some (.long l6), none, some (.int l8), some (.long (s0 + s1.toInt64)), none, none, none]) (st' := [.int l1, .int l8, .ref l0, .long l6]) (M' := M) rfl ?_
  obtain ⟨hv, hp⟩ := hp
  obtain ⟨hc, hp⟩ := hp
  refine wp_calli (v := (b49_0 n l0 l8 l1 M).1) (M1 := (b49_0 n l0 l8 l1 M).2) rfl rfl rfl (zInv_v (np := 2) rfl rfl hv rfl) (s49_0 n l0 l8 l1 M hc (fun r M1 h => h)) ?_
  exact s52_42 n k11 q11 h11 l0 l1 l2 l4 l6 l8 (s0 + s1.toInt64) l6 (b49_0 n l0 l8 l1 M).1 (b49_0 n l0 l8 l1 M).2 hp hQ
def c52_11 (n : Nat) (k11 : Nat → Int32 → Int64 → Int64 → Int64 → Int32 → zM → Int64 × zM) (l0 : Nat) (l1 : Int32) (l2 : Int64) (l4 : Int64) (l6 : Int64) (l8 : Int32) (M : zM) : Int64 × zM := (if (zI M l0 7) ≤ l8 then b52_78 n  (b191_0 n l2 M).1 (b191_0 n l2 M).2 else b52_29 n k11 l0 l1 l2 l4 l6 l8 l4 (b48_0 n l0 l8 l1 M).1 (b48_0 n l0 l8 l1 M).2)
def d52_11 (n : Nat) (q11 : Nat → Int32 → Int64 → Int64 → Int64 → Int32 → zM → Prop) (l0 : Nat) (l1 : Int32) (l2 : Int64) (l4 : Int64) (l6 : Int64) (l8 : Int32) (M : zM) : Prop := (zHasI 6 37 l0 M 7) ∧ ((((zI M l0 7) ≤ l8 → (p191_0 n l2 M) ∧ (p52_78 n  (b191_0 n l2 M).1 (b191_0 n l2 M).2)) ∧ (¬ (zI M l0 7) ≤ l8 → (zHasC 52 81 l0 M 48 2) ∧ ((p48_0 n l0 l8 l1 M) ∧ (p52_29 n q11 l0 l1 l2 l4 l6 l8 l4 (b48_0 n l0 l8 l1 M).1 (b48_0 n l0 l8 l1 M).2)))))
theorem t52_11 (n : Nat) (k11 : Nat → Int32 → Int64 → Int64 → Int64 → Int32 → zM → Int64 × zM) (q11 : Nat → Int32 → Int64 → Int64 → Int64 → Int32 → zM → Prop) (h11 : ∀ (l0 : Nat) (l1 : Int32) (l2 : Int64) (l4 : Int64) (l6 : Int64) (l8 : Int32) (M : zM), q11 l0 l1 l2 l4 l6 l8 M → ∀ {Q : Option Value → zM → Prop}, (∀ r M1, zRJ (k11 l0 l1 l2 l4 l6 l8 M) r M1 → Q r M1) → zWP 52 11 [some (.ref l0), some (.int l1), some (.long l2), none, some (.long l4), none, some (.long l6), none, some (.int l8), none, none, none, none] [] M Q) (l0 : Nat) (l1 : Int32) (l2 : Int64) (l4 : Int64) (l6 : Int64) (l8 : Int32) (M : zM) (hp : d52_11 n q11 l0 l1 l2 l4 l6 l8 M) {Q : Option Value → zM → Prop} (hQ : ∀ r M1, zRJ (c52_11 n k11 l0 l1 l2 l4 l6 l8 M) r M1 → Q r M1) : zWP 52 11 [some (.ref l0), some (.int l1), some (.long l2), none, some (.long l4), none, some (.long l6), none, some (.int l8), none, none, none, none] [] M Q := by
  unfold c52_11 at hQ
  unfold d52_11 at hp
  refine wp_go 2 (pc' := 14) (L' := [some (.ref l0), some (.int l1), some (.long l2), none, some (.long l4), none, some (.long l6), none, some (.int l8), none, none, none, none]) (st' := [.ref l0, .int l8]) (M' := M) rfl ?_
  obtain ⟨hc, hp⟩ := hp
  refine wq_getI (j := 7) rfl hc ?_
  refine wp_ic_ge (t := 74) rfl rfl (fun hc => ?_) (fun hc => ?_)
  · rw [if_pos hc] at hQ
    replace hp := hp.1 hc
    refine wp_go 1 (pc' := 75) (L' := [some (.ref l0), some (.int l1), some (.long l2), none, some (.long l4), none, some (.long l6), none, some (.int l8), none, none, none, none]) (st' := [.long l2]) (M' := M) rfl ?_
    obtain ⟨hc, hp⟩ := hp
    refine wp_calll (v := (b191_0 n l2 M).1) (M1 := (b191_0 n l2 M).2) rfl rfl rfl rfl (s191_0 n l2 M hc (fun r M1 h => h)) ?_
    refine wp_le [none, none, none, none, none, none, none, none, none, none, none, none, none] (zLe_of (by simp [zLeB])) ?_
    exact s52_78 n    (b191_0 n l2 M).1 (b191_0 n l2 M).2 hp hQ
  · rw [if_neg hc] at hQ
    replace hp := hp.2 hc
    refine wp_go 4 (pc' := 26) (L' := [some (.ref l0), some (.int l1), some (.long l2), none, some (.long l4), none, some (.long l6), none, some (.int l8), none, none, none, none]) (st' := [.int l1, .int l8, .ref l0, .long l4]) (M' := M) rfl ?_
    obtain ⟨hv, hp⟩ := hp
    obtain ⟨hc, hp⟩ := hp
    refine wp_calli (v := (b48_0 n l0 l8 l1 M).1) (M1 := (b48_0 n l0 l8 l1 M).2) rfl rfl rfl (zInv_v (np := 2) rfl rfl hv rfl) (s48_0 n l0 l8 l1 M hc (fun r M1 h => h)) ?_
    exact s52_29 n k11 q11 h11 l0 l1 l2 l4 l6 l8 l4 (b48_0 n l0 l8 l1 M).1 (b48_0 n l0 l8 l1 M).2 hp hQ
def b52_11 (n : Nat)  : Nat → Nat → Int32 → Int64 → Int64 → Int64 → Int32 → zM → Int64 × zM
  | 0, _, _, _, _, _, _, M => (0, M)
  | k + 1, l0, l1, l2, l4, l6, l8, M => c52_11 n  (b52_11 n  k) l0 l1 l2 l4 l6 l8 M
def p52_11 (n : Nat)  : Nat → Nat → Int32 → Int64 → Int64 → Int64 → Int32 → zM → Prop
  | 0, _, _, _, _, _, _, _ => False
  | k + 1, l0, l1, l2, l4, l6, l8, M => d52_11 n  (p52_11 n  k) l0 l1 l2 l4 l6 l8 M
theorem s52_11 (n : Nat)    : ∀ (k : Nat) (l0 : Nat) (l1 : Int32) (l2 : Int64) (l4 : Int64) (l6 : Int64) (l8 : Int32) (M : zM), p52_11 n  k l0 l1 l2 l4 l6 l8 M → ∀ {Q : Option Value → zM → Prop}, (∀ r M1, zRJ (b52_11 n  k l0 l1 l2 l4 l6 l8 M) r M1 → Q r M1) → zWP 52 11 [some (.ref l0), some (.int l1), some (.long l2), none, some (.long l4), none, some (.long l6), none, some (.int l8), none, none, none, none] [] M Q
  | 0, _, _, _, _, _, _, _, h, _, _ => h.elim
  | k + 1, l0, l1, l2, l4, l6, l8, M, h, _, hQ => t52_11 n  (b52_11 n  k)  (p52_11 n  k)  (s52_11 n    k) l0 l1 l2 l4 l6 l8 M h hQ
def b52_0 (n : Nat)  (l0 : Nat) (l1 : Int32) (M : zM) : Int64 × zM := b52_11 n  n l0 l1 (0 : Int64) (0 : Int64) (0 : Int64) (0 : Int32) M
def p52_0 (n : Nat)  (l0 : Nat) (l1 : Int32) (M : zM) : Prop := p52_11 n  n l0 l1 (0 : Int64) (0 : Int64) (0 : Int64) (0 : Int32) M
theorem s52_0 (n : Nat)    (l0 : Nat) (l1 : Int32) (M : zM) (hp : p52_0 n  l0 l1 M) {Q : Option Value → zM → Prop} (hQ : ∀ r M1, zRJ (b52_0 n  l0 l1 M) r M1 → Q r M1) : zWP 52 0 [some (.ref l0), some (.int l1), none, none, none, none, none, none, none, none, none, none, none] [] M Q := by
  unfold b52_0 at hQ
  unfold p52_0 at hp
  refine wp_go 5 (pc' := 6) (L' := [some (.ref l0), some (.int l1), some (.long (0 : Int64)), none, some (.long (0 : Int64)), none, none, none, none, none, none, none, none]) (st' := [.long (0 : Int64)]) (M' := M) rfl ?_
  refine wp_go 3 (pc' := 11) (L' := [some (.ref l0), some (.int l1), some (.long (0 : Int64)), none, some (.long (0 : Int64)), none, some (.long (0 : Int64)), none, some (.int (0 : Int32)), none, none, none, none]) (st' := []) (M' := M) rfl ?_
  exact s52_11 n    n l0 l1 (0 : Int64) (0 : Int64) (0 : Int64) (0 : Int32) M hp hQ
/-! X7_stepsInJoins -/
def b53_25 (n : Nat) (k4 : Nat → Int32 → Int32 → zM → Int32 × zM) (l0 : Nat) (l1 : Int32) (l2 : Int32) (M : zM) : Int32 × zM := k4 l0 l1 (l2 + Int32.ofInt 1) M
def p53_25 (n : Nat) (q4 : Nat → Int32 → Int32 → zM → Prop) (l0 : Nat) (l1 : Int32) (l2 : Int32) (M : zM) : Prop := q4 l0 l1 (l2 + Int32.ofInt 1) M
theorem s53_25 (n : Nat) (k4 : Nat → Int32 → Int32 → zM → Int32 × zM) (q4 : Nat → Int32 → Int32 → zM → Prop) (h4 : ∀ (l0 : Nat) (l1 : Int32) (l2 : Int32) (M : zM), q4 l0 l1 l2 M → ∀ {Q : Option Value → zM → Prop}, (∀ r M1, zRI (k4 l0 l1 l2 M) r M1 → Q r M1) → zWP 53 4 [some (.ref l0), some (.int l1), some (.int l2)] [] M Q) (l0 : Nat) (l1 : Int32) (l2 : Int32) (M : zM) (hp : p53_25 n q4 l0 l1 l2 M) {Q : Option Value → zM → Prop} (hQ : ∀ r M1, zRI (b53_25 n k4 l0 l1 l2 M) r M1 → Q r M1) : zWP 53 25 [some (.ref l0), some (.int l1), some (.int l2)] [] M Q := by
  unfold b53_25 at hQ
  unfold p53_25 at hp
  refine wp_go 2 (pc' := 4) (L' := [some (.ref l0), some (.int l1), some (.int (l2 + Int32.ofInt 1))]) (st' := []) (M' := M) rfl ?_
  exact h4 l0 l1 (l2 + Int32.ofInt 1) M hp hQ
def c53_4 (n : Nat) (k4 : Nat → Int32 → Int32 → zM → Int32 × zM) (l0 : Nat) (l1 : Int32) (l2 : Int32) (M : zM) : Int32 × zM := (if (zI M l0 7) ≤ l2 then (l1, M) else (if (zI M (zQ M l0 4) l2.toNatClampNeg) = ((-1) : Int32) then b53_25 n k4 l0 l1 l2 M else b53_25 n k4 l0 (l1 + Int32.ofInt 1) l2 M))
def d53_4 (n : Nat) (q4 : Nat → Int32 → Int32 → zM → Prop) (l0 : Nat) (l1 : Int32) (l2 : Int32) (M : zM) : Prop := (zHasI 6 37 l0 M 7) ∧ ((((zI M l0 7) ≤ l2 → True) ∧ (¬ (zI M l0 7) ≤ l2 → (zHasQ 6 21 l0 M 4) ∧ ((zOkI (zQ M l0 4) l2 M) ∧ ((((zI M (zQ M l0 4) l2.toNatClampNeg) = ((-1) : Int32) → p53_25 n q4 l0 l1 l2 M) ∧ (¬ (zI M (zQ M l0 4) l2.toNatClampNeg) = ((-1) : Int32) → p53_25 n q4 l0 (l1 + Int32.ofInt 1) l2 M)))))))
theorem t53_4 (n : Nat) (k4 : Nat → Int32 → Int32 → zM → Int32 × zM) (q4 : Nat → Int32 → Int32 → zM → Prop) (h4 : ∀ (l0 : Nat) (l1 : Int32) (l2 : Int32) (M : zM), q4 l0 l1 l2 M → ∀ {Q : Option Value → zM → Prop}, (∀ r M1, zRI (k4 l0 l1 l2 M) r M1 → Q r M1) → zWP 53 4 [some (.ref l0), some (.int l1), some (.int l2)] [] M Q) (l0 : Nat) (l1 : Int32) (l2 : Int32) (M : zM) (hp : d53_4 n q4 l0 l1 l2 M) {Q : Option Value → zM → Prop} (hQ : ∀ r M1, zRI (c53_4 n k4 l0 l1 l2 M) r M1 → Q r M1) : zWP 53 4 [some (.ref l0), some (.int l1), some (.int l2)] [] M Q := by
  unfold c53_4 at hQ
  unfold d53_4 at hp
  refine wp_go 2 (pc' := 6) (L' := [some (.ref l0), some (.int l1), some (.int l2)]) (st' := [.ref l0, .int l2]) (M' := M) rfl ?_
  obtain ⟨hc, hp⟩ := hp
  refine wq_getI (j := 7) rfl hc ?_
  refine wp_ic_ge (t := 31) rfl rfl (fun hc => ?_) (fun hc => ?_)
  · rw [if_pos hc] at hQ
    replace hp := hp.1 hc
    refine wp_go 1 (pc' := 32) (L' := [some (.ref l0), some (.int l1), some (.int l2)]) (st' := [.int l1]) (M' := M) rfl ?_
    exact wp_ret (r := some (.int l1)) rfl rfl (hQ _ _ ⟨rfl, rfl⟩)
  · rw [if_neg hc] at hQ
    replace hp := hp.2 hc
    refine wp_go 1 (pc' := 13) (L' := [some (.ref l0), some (.int l1), some (.int l2)]) (st' := [.ref l0]) (M' := M) rfl ?_
    obtain ⟨hc, hp⟩ := hp
    refine wq_getQ (j := 4) rfl hc ?_
    refine wp_go 1 (pc' := 17) (L' := [some (.ref l0), some (.int l1), some (.int l2)]) (st' := [.int l2, .ref (zQ M l0 4)]) (M' := M) rfl ?_
    obtain ⟨hc, hp⟩ := hp
    refine wq_iald rfl hc ?_
    refine wp_go 1 (pc' := 19) (L' := [some (.ref l0), some (.int l1), some (.int l2)]) (st' := [.int ((-1) : Int32), .int (zI M (zQ M l0 4) l2.toNatClampNeg)]) (M' := M) rfl ?_
    refine wp_ic_eq (t := 25) rfl rfl (fun hc => ?_) (fun hc => ?_)
    · rw [if_pos hc] at hQ
      replace hp := hp.1 hc
      exact s53_25 n k4 q4 h4 l0 l1 l2 M hp hQ
    · rw [if_neg hc] at hQ
      replace hp := hp.2 hc
      refine wp_go 1 (pc' := 25) (L' := [some (.ref l0), some (.int (l1 + Int32.ofInt 1)), some (.int l2)]) (st' := []) (M' := M) rfl ?_
      exact s53_25 n k4 q4 h4 l0 (l1 + Int32.ofInt 1) l2 M hp hQ
def b53_4 (n : Nat)  : Nat → Nat → Int32 → Int32 → zM → Int32 × zM
  | 0, _, _, _, M => (0, M)
  | k + 1, l0, l1, l2, M => c53_4 n  (b53_4 n  k) l0 l1 l2 M
def p53_4 (n : Nat)  : Nat → Nat → Int32 → Int32 → zM → Prop
  | 0, _, _, _, _ => False
  | k + 1, l0, l1, l2, M => d53_4 n  (p53_4 n  k) l0 l1 l2 M
theorem s53_4 (n : Nat)    : ∀ (k : Nat) (l0 : Nat) (l1 : Int32) (l2 : Int32) (M : zM), p53_4 n  k l0 l1 l2 M → ∀ {Q : Option Value → zM → Prop}, (∀ r M1, zRI (b53_4 n  k l0 l1 l2 M) r M1 → Q r M1) → zWP 53 4 [some (.ref l0), some (.int l1), some (.int l2)] [] M Q
  | 0, _, _, _, _, h, _, _ => h.elim
  | k + 1, l0, l1, l2, M, h, _, hQ => t53_4 n  (b53_4 n  k)  (p53_4 n  k)  (s53_4 n    k) l0 l1 l2 M h hQ
def b53_0 (n : Nat)  (l0 : Nat) (M : zM) : Int32 × zM := b53_4 n  n l0 (0 : Int32) (0 : Int32) M
def p53_0 (n : Nat)  (l0 : Nat) (M : zM) : Prop := p53_4 n  n l0 (0 : Int32) (0 : Int32) M
theorem s53_0 (n : Nat)    (l0 : Nat) (M : zM) (hp : p53_0 n  l0 M) {Q : Option Value → zM → Prop} (hQ : ∀ r M1, zRI (b53_0 n  l0 M) r M1 → Q r M1) : zWP 53 0 [some (.ref l0), none, none] [] M Q := by
  unfold b53_0 at hQ
  unfold p53_0 at hp
  refine wp_go 4 (pc' := 4) (L' := [some (.ref l0), some (.int (0 : Int32)), some (.int (0 : Int32))]) (st' := []) (M' := M) rfl ?_
  exact s53_4 n    n l0 (0 : Int32) (0 : Int32) M hp hQ
/-! X8_measure -/
def b55_226 (n : Nat)   (M : zM) : zM := M
def p55_226 (n : Nat)   (M : zM) : Prop := True
theorem s55_226 (n : Nat)     (M : zM) (hp : p55_226 n   M) {Q : Option Value → zM → Prop} (hQ : ∀ r M1, zRV (b55_226 n   M) r M1 → Q r M1) : zWP 55 226 [none, none, none, none, none, none, none, none, none, none, none, none, none, none, none, none] [] M Q := by
  unfold b55_226 at hQ
  unfold p55_226 at hp
  exact wp_ret (r := none) rfl rfl (hQ _ _ ⟨rfl, rfl⟩)
def b55_223 (n : Nat)  (s0 : Nat) (s1 : Int32) (M : zM) : zM := b55_226 n  (zWI M s0 8 s1)
def p55_223 (n : Nat)  (s0 : Nat) (s1 : Int32) (M : zM) : Prop := (zPutI 55 9 s0 M 8 s1) ∧ (p55_226 n  (zWI M s0 8 s1))
theorem s55_223 (n : Nat)    (s0 : Nat) (s1 : Int32) (M : zM) (hp : p55_223 n  s0 s1 M) {Q : Option Value → zM → Prop} (hQ : ∀ r M1, zRV (b55_223 n  s0 s1 M) r M1 → Q r M1) : zWP 55 223 [none, none, none, none, none, none, none, none, none, none, none, none, none, none, none, none] [.int s1, .ref s0] M Q := by
  unfold b55_223 at hQ
  unfold p55_223 at hp
  obtain ⟨hc, hp⟩ := hp
  refine wq_putI (j := 8) rfl hc ?_
  exact s55_226 n    (zWI M s0 8 s1) hp hQ
def b55_215 (n : Nat)  (l0 : Nat) (l9 : Int32) (l10 : Int32) (M : zM) : zM := b55_223 n  l0 (b194_0 n l9 l10 M).1 (b194_0 n l9 l10 M).2
def p55_215 (n : Nat)  (l0 : Nat) (l9 : Int32) (l10 : Int32) (M : zM) : Prop := (p194_0 n l9 l10 M) ∧ (p55_223 n  l0 (b194_0 n l9 l10 M).1 (b194_0 n l9 l10 M).2)
theorem s55_215 (n : Nat)    (l0 : Nat) (l9 : Int32) (l10 : Int32) (M : zM) (hp : p55_215 n  l0 l9 l10 M) {Q : Option Value → zM → Prop} (hQ : ∀ r M1, zRV (b55_215 n  l0 l9 l10 M) r M1 → Q r M1) : zWP 55 215 [some (.ref l0), none, none, none, none, none, none, none, none, some (.int l9), some (.int l10), none, none, none, none, none] [] M Q := by
  unfold b55_215 at hQ
  unfold p55_215 at hp
  refine wp_go 3 (pc' := 220) (L' := [some (.ref l0), none, none, none, none, none, none, none, none, some (.int l9), some (.int l10), none, none, none, none, none]) (st' := [.int l10, .int l9, .ref l0]) (M' := M) rfl ?_
  obtain ⟨hc, hp⟩ := hp
  refine wp_calli (v := (b194_0 n l9 l10 M).1) (M1 := (b194_0 n l9 l10 M).2) rfl rfl rfl rfl (s194_0 n l9 l10 M hc (fun r M1 h => h)) ?_
  refine wp_le [none, none, none, none, none, none, none, none, none, none, none, none, none, none, none, none] (zLe_of (by simp [zLeB])) ?_
  exact s55_223 n    l0 (b194_0 n l9 l10 M).1 (b194_0 n l9 l10 M).2 hp hQ
def b55_212 (n : Nat) (k60 : Nat → Nat → Nat → Int32 → Int32 → Int32 → Int32 → Int32 → Int32 → Int32 → zM → zM) (l0 : Nat) (l1 : Nat) (l3 : Nat) (l6 : Int32) (l7 : Int32) (l8 : Int32) (l9 : Int32) (l10 : Int32) (l11 : Int32) (l12 : Int32) (M : zM) : zM := k60 l0 l1 l3 l6 l7 l8 l9 l10 l11 l12 M
def p55_212 (n : Nat) (q60 : Nat → Nat → Nat → Int32 → Int32 → Int32 → Int32 → Int32 → Int32 → Int32 → zM → Prop) (l0 : Nat) (l1 : Nat) (l3 : Nat) (l6 : Int32) (l7 : Int32) (l8 : Int32) (l9 : Int32) (l10 : Int32) (l11 : Int32) (l12 : Int32) (M : zM) : Prop := q60 l0 l1 l3 l6 l7 l8 l9 l10 l11 l12 M
theorem s55_212 (n : Nat) (k60 : Nat → Nat → Nat → Int32 → Int32 → Int32 → Int32 → Int32 → Int32 → Int32 → zM → zM) (q60 : Nat → Nat → Nat → Int32 → Int32 → Int32 → Int32 → Int32 → Int32 → Int32 → zM → Prop) (h60 : ∀ (l0 : Nat) (l1 : Nat) (l3 : Nat) (l6 : Int32) (l7 : Int32) (l8 : Int32) (l9 : Int32) (l10 : Int32) (l11 : Int32) (l12 : Int32) (M : zM), q60 l0 l1 l3 l6 l7 l8 l9 l10 l11 l12 M → ∀ {Q : Option Value → zM → Prop}, (∀ r M1, zRV (k60 l0 l1 l3 l6 l7 l8 l9 l10 l11 l12 M) r M1 → Q r M1) → zWP 55 60 [some (.ref l0), some (.ref l1), none, some (.ref l3), none, none, some (.int l6), some (.int l7), some (.int l8), some (.int l9), some (.int l10), some (.int l11), some (.int l12), none, none, none] [] M Q) (l0 : Nat) (l1 : Nat) (l3 : Nat) (l6 : Int32) (l7 : Int32) (l8 : Int32) (l9 : Int32) (l10 : Int32) (l11 : Int32) (l12 : Int32) (M : zM) (hp : p55_212 n q60 l0 l1 l3 l6 l7 l8 l9 l10 l11 l12 M) {Q : Option Value → zM → Prop} (hQ : ∀ r M1, zRV (b55_212 n k60 l0 l1 l3 l6 l7 l8 l9 l10 l11 l12 M) r M1 → Q r M1) : zWP 55 212 [some (.ref l0), some (.ref l1), none, some (.ref l3), none, none, some (.int l6), some (.int l7), some (.int l8), some (.int l9), some (.int l10), some (.int l11), some (.int l12), none, none, none] [] M Q := by
  unfold b55_212 at hQ
  unfold p55_212 at hp
  refine wp_go 1 (pc' := 60) (L' := [some (.ref l0), some (.ref l1), none, some (.ref l3), none, none, some (.int l6), some (.int l7), some (.int l8), some (.int l9), some (.int l10), some (.int l11), some (.int l12), none, none, none]) (st' := []) (M' := M) rfl ?_
  exact h60 l0 l1 l3 l6 l7 l8 l9 l10 l11 l12 M hp hQ
def b55_178 (n : Nat) (k60 : Nat → Nat → Nat → Int32 → Int32 → Int32 → Int32 → Int32 → Int32 → Int32 → zM → zM) (l0 : Nat) (l1 : Nat) (l3 : Nat) (l6 : Int32) (l7 : Int32) (l8 : Int32) (l9 : Int32) (l10 : Int32) (l11 : Int32) (l12 : Int32) (l13 : Int32) (l14 : Int32) (M : zM) : zM := b55_212 n k60 l0 l1 l3 l6 l7 l8 (l9 + (zI M (zQ M l1 2) l13.toNatClampNeg)) (l10 + (zI M (zQ M l3 2) l14.toNatClampNeg)) l11 l12 (zWI M l0 5 ((zI M l0 5) + (1 : Int32)))
def p55_178 (n : Nat) (q60 : Nat → Nat → Nat → Int32 → Int32 → Int32 → Int32 → Int32 → Int32 → Int32 → zM → Prop) (l0 : Nat) (l1 : Nat) (l3 : Nat) (l6 : Int32) (l7 : Int32) (l8 : Int32) (l9 : Int32) (l10 : Int32) (l11 : Int32) (l12 : Int32) (l13 : Int32) (l14 : Int32) (M : zM) : Prop := (zHasQ 7 66 l1 M 2) ∧ ((zOkI (zQ M l1 2) l13 M) ∧ ((zHasQ 7 66 l3 M 2) ∧ ((zOkI (zQ M l3 2) l14 M) ∧ ((zHasI 7 40 l0 M 5) ∧ ((zPutI 55 40 l0 M 5 ((zI M l0 5) + (1 : Int32))) ∧ (p55_212 n q60 l0 l1 l3 l6 l7 l8 (l9 + (zI M (zQ M l1 2) l13.toNatClampNeg)) (l10 + (zI M (zQ M l3 2) l14.toNatClampNeg)) l11 l12 (zWI M l0 5 ((zI M l0 5) + (1 : Int32)))))))))
theorem s55_178 (n : Nat) (k60 : Nat → Nat → Nat → Int32 → Int32 → Int32 → Int32 → Int32 → Int32 → Int32 → zM → zM) (q60 : Nat → Nat → Nat → Int32 → Int32 → Int32 → Int32 → Int32 → Int32 → Int32 → zM → Prop) (h60 : ∀ (l0 : Nat) (l1 : Nat) (l3 : Nat) (l6 : Int32) (l7 : Int32) (l8 : Int32) (l9 : Int32) (l10 : Int32) (l11 : Int32) (l12 : Int32) (M : zM), q60 l0 l1 l3 l6 l7 l8 l9 l10 l11 l12 M → ∀ {Q : Option Value → zM → Prop}, (∀ r M1, zRV (k60 l0 l1 l3 l6 l7 l8 l9 l10 l11 l12 M) r M1 → Q r M1) → zWP 55 60 [some (.ref l0), some (.ref l1), none, some (.ref l3), none, none, some (.int l6), some (.int l7), some (.int l8), some (.int l9), some (.int l10), some (.int l11), some (.int l12), none, none, none] [] M Q) (l0 : Nat) (l1 : Nat) (l3 : Nat) (l6 : Int32) (l7 : Int32) (l8 : Int32) (l9 : Int32) (l10 : Int32) (l11 : Int32) (l12 : Int32) (l13 : Int32) (l14 : Int32) (M : zM) (hp : p55_178 n q60 l0 l1 l3 l6 l7 l8 l9 l10 l11 l12 l13 l14 M) {Q : Option Value → zM → Prop} (hQ : ∀ r M1, zRV (b55_178 n k60 l0 l1 l3 l6 l7 l8 l9 l10 l11 l12 l13 l14 M) r M1 → Q r M1) : zWP 55 178 [some (.ref l0), some (.ref l1), none, some (.ref l3), none, none, some (.int l6), some (.int l7), some (.int l8), some (.int l9), some (.int l10), some (.int l11), some (.int l12), some (.int l13), some (.int l14), none] [] M Q := by
  unfold b55_178 at hQ
  unfold p55_178 at hp
  refine wp_go 2 (pc' := 181) (L' := [some (.ref l0), some (.ref l1), none, some (.ref l3), none, none, some (.int l6), some (.int l7), some (.int l8), some (.int l9), some (.int l10), some (.int l11), some (.int l12), some (.int l13), some (.int l14), none]) (st' := [.ref l1, .int l9]) (M' := M) rfl ?_
  obtain ⟨hc, hp⟩ := hp
  refine wq_getQ (j := 2) rfl hc ?_
  refine wp_go 1 (pc' := 186) (L' := [some (.ref l0), some (.ref l1), none, some (.ref l3), none, none, some (.int l6), some (.int l7), some (.int l8), some (.int l9), some (.int l10), some (.int l11), some (.int l12), some (.int l13), some (.int l14), none]) (st' := [.int l13, .ref (zQ M l1 2), .int l9]) (M' := M) rfl ?_
  obtain ⟨hc, hp⟩ := hp
  refine wq_iald rfl hc ?_
  refine wp_go 4 (pc' := 193) (L' := [some (.ref l0), some (.ref l1), none, some (.ref l3), none, none, some (.int l6), some (.int l7), some (.int l8), some (.int (l9 + (zI M (zQ M l1 2) l13.toNatClampNeg))), some (.int l10), some (.int l11), some (.int l12), some (.int l13), some (.int l14), none]) (st' := [.ref l3, .int l10]) (M' := M) rfl ?_
  obtain ⟨hc, hp⟩ := hp
  refine wq_getQ (j := 2) rfl hc ?_
  refine wp_go 1 (pc' := 198) (L' := [some (.ref l0), some (.ref l1), none, some (.ref l3), none, none, some (.int l6), some (.int l7), some (.int l8), some (.int (l9 + (zI M (zQ M l1 2) l13.toNatClampNeg))), some (.int l10), some (.int l11), some (.int l12), some (.int l13), some (.int l14), none]) (st' := [.int l14, .ref (zQ M l3 2), .int l10]) (M' := M) rfl ?_
  obtain ⟨hc, hp⟩ := hp
  refine wq_iald rfl hc ?_
  refine wp_go 4 (pc' := 204) (L' := [some (.ref l0), some (.ref l1), none, some (.ref l3), none, none, some (.int l6), some (.int l7), some (.int l8), some (.int (l9 + (zI M (zQ M l1 2) l13.toNatClampNeg))), some (.int (l10 + (zI M (zQ M l3 2) l14.toNatClampNeg))), some (.int l11), some (.int l12), some (.int l13), some (.int l14), none]) (st' := [.ref l0, .ref l0]) (M' := M) rfl ?_
  obtain ⟨hc, hp⟩ := hp
  refine wq_getI (j := 5) rfl hc ?_
  refine wp_go 2 (pc' := 209) (L' := [some (.ref l0), some (.ref l1), none, some (.ref l3), none, none, some (.int l6), some (.int l7), some (.int l8), some (.int (l9 + (zI M (zQ M l1 2) l13.toNatClampNeg))), some (.int (l10 + (zI M (zQ M l3 2) l14.toNatClampNeg))), some (.int l11), some (.int l12), some (.int l13), some (.int l14), none]) (st' := [.int ((zI M l0 5) + (1 : Int32)), .ref l0]) (M' := M) rfl ?_
  obtain ⟨hc, hp⟩ := hp
  refine wq_putI (j := 5) rfl hc ?_
  refine wp_le [some (.ref l0), some (.ref l1), none, some (.ref l3), none, none, some (.int l6), some (.int l7), some (.int l8), some (.int (l9 + (zI M (zQ M l1 2) l13.toNatClampNeg))), some (.int (l10 + (zI M (zQ M l3 2) l14.toNatClampNeg))), some (.int l11), some (.int l12), none, none, none] (zLe_of (by simp [zLeB])) ?_
  exact s55_212 n k60 q60 h60 l0 l1 l3 l6 l7 l8 (l9 + (zI M (zQ M l1 2) l13.toNatClampNeg)) (l10 + (zI M (zQ M l3 2) l14.toNatClampNeg)) l11 l12 (zWI M l0 5 ((zI M l0 5) + (1 : Int32))) hp hQ
def b55_175 (n : Nat) (k60 : Nat → Nat → Nat → Int32 → Int32 → Int32 → Int32 → Int32 → Int32 → Int32 → zM → zM) (l0 : Nat) (l1 : Nat) (l3 : Nat) (l6 : Int32) (l7 : Int32) (l8 : Int32) (l9 : Int32) (l10 : Int32) (l11 : Int32) (l12 : Int32) (l13 : Int32) (l14 : Int32) (s0 : Nat) (s1 : Int32) (M : zM) : zM := b55_178 n k60 l0 l1 l3 l6 l7 l8 l9 l10 l11 l12 l13 l14 (zWI M s0 9 s1)
def p55_175 (n : Nat) (q60 : Nat → Nat → Nat → Int32 → Int32 → Int32 → Int32 → Int32 → Int32 → Int32 → zM → Prop) (l0 : Nat) (l1 : Nat) (l3 : Nat) (l6 : Int32) (l7 : Int32) (l8 : Int32) (l9 : Int32) (l10 : Int32) (l11 : Int32) (l12 : Int32) (l13 : Int32) (l14 : Int32) (s0 : Nat) (s1 : Int32) (M : zM) : Prop := (zPutI 55 15 s0 M 9 s1) ∧ (p55_178 n q60 l0 l1 l3 l6 l7 l8 l9 l10 l11 l12 l13 l14 (zWI M s0 9 s1))
theorem s55_175 (n : Nat) (k60 : Nat → Nat → Nat → Int32 → Int32 → Int32 → Int32 → Int32 → Int32 → Int32 → zM → zM) (q60 : Nat → Nat → Nat → Int32 → Int32 → Int32 → Int32 → Int32 → Int32 → Int32 → zM → Prop) (h60 : ∀ (l0 : Nat) (l1 : Nat) (l3 : Nat) (l6 : Int32) (l7 : Int32) (l8 : Int32) (l9 : Int32) (l10 : Int32) (l11 : Int32) (l12 : Int32) (M : zM), q60 l0 l1 l3 l6 l7 l8 l9 l10 l11 l12 M → ∀ {Q : Option Value → zM → Prop}, (∀ r M1, zRV (k60 l0 l1 l3 l6 l7 l8 l9 l10 l11 l12 M) r M1 → Q r M1) → zWP 55 60 [some (.ref l0), some (.ref l1), none, some (.ref l3), none, none, some (.int l6), some (.int l7), some (.int l8), some (.int l9), some (.int l10), some (.int l11), some (.int l12), none, none, none] [] M Q) (l0 : Nat) (l1 : Nat) (l3 : Nat) (l6 : Int32) (l7 : Int32) (l8 : Int32) (l9 : Int32) (l10 : Int32) (l11 : Int32) (l12 : Int32) (l13 : Int32) (l14 : Int32) (s0 : Nat) (s1 : Int32) (M : zM) (hp : p55_175 n q60 l0 l1 l3 l6 l7 l8 l9 l10 l11 l12 l13 l14 s0 s1 M) {Q : Option Value → zM → Prop} (hQ : ∀ r M1, zRV (b55_175 n k60 l0 l1 l3 l6 l7 l8 l9 l10 l11 l12 l13 l14 s0 s1 M) r M1 → Q r M1) : zWP 55 175 [some (.ref l0), some (.ref l1), none, some (.ref l3), none, none, some (.int l6), some (.int l7), some (.int l8), some (.int l9), some (.int l10), some (.int l11), some (.int l12), some (.int l13), some (.int l14), none] [.int s1, .ref s0] M Q := by
  unfold b55_175 at hQ
  unfold p55_175 at hp
  obtain ⟨hc, hp⟩ := hp
  refine wq_putI (j := 9) rfl hc ?_
  exact s55_178 n k60 q60 h60 l0 l1 l3 l6 l7 l8 l9 l10 l11 l12 l13 l14 (zWI M s0 9 s1) hp hQ
def b55_153 (n : Nat) (k60 : Nat → Nat → Nat → Int32 → Int32 → Int32 → Int32 → Int32 → Int32 → Int32 → zM → zM) (l0 : Nat) (l1 : Nat) (l3 : Nat) (l6 : Int32) (l7 : Int32) (l8 : Int32) (l9 : Int32) (l10 : Int32) (l11 : Int32) (l12 : Int32) (l13 : Int32) (l14 : Int32) (s0 : Int32) (M : zM) : zM := (if s0 ≤ l7 then b55_175 n k60 l0 l1 l3 l6 l7 l8 l9 l10 l11 l12 l13 l14 l0 (b192_0 n (zI M l0 9) s0 M).1 (b192_0 n (zI M l0 9) s0 M).2 else b55_215 n  l0 l9 l10 M)
def p55_153 (n : Nat) (q60 : Nat → Nat → Nat → Int32 → Int32 → Int32 → Int32 → Int32 → Int32 → Int32 → zM → Prop) (l0 : Nat) (l1 : Nat) (l3 : Nat) (l6 : Int32) (l7 : Int32) (l8 : Int32) (l9 : Int32) (l10 : Int32) (l11 : Int32) (l12 : Int32) (l13 : Int32) (l14 : Int32) (s0 : Int32) (M : zM) : Prop := ((s0 ≤ l7 → (zHasI 7 15 l0 M 9) ∧ ((p192_0 n (zI M l0 9) s0 M) ∧ (p55_175 n q60 l0 l1 l3 l6 l7 l8 l9 l10 l11 l12 l13 l14 l0 (b192_0 n (zI M l0 9) s0 M).1 (b192_0 n (zI M l0 9) s0 M).2))) ∧ (¬ s0 ≤ l7 → p55_215 n  l0 l9 l10 M))
theorem s55_153 (n : Nat) (k60 : Nat → Nat → Nat → Int32 → Int32 → Int32 → Int32 → Int32 → Int32 → Int32 → zM → zM) (q60 : Nat → Nat → Nat → Int32 → Int32 → Int32 → Int32 → Int32 → Int32 → Int32 → zM → Prop) (h60 : ∀ (l0 : Nat) (l1 : Nat) (l3 : Nat) (l6 : Int32) (l7 : Int32) (l8 : Int32) (l9 : Int32) (l10 : Int32) (l11 : Int32) (l12 : Int32) (M : zM), q60 l0 l1 l3 l6 l7 l8 l9 l10 l11 l12 M → ∀ {Q : Option Value → zM → Prop}, (∀ r M1, zRV (k60 l0 l1 l3 l6 l7 l8 l9 l10 l11 l12 M) r M1 → Q r M1) → zWP 55 60 [some (.ref l0), some (.ref l1), none, some (.ref l3), none, none, some (.int l6), some (.int l7), some (.int l8), some (.int l9), some (.int l10), some (.int l11), some (.int l12), none, none, none] [] M Q) (l0 : Nat) (l1 : Nat) (l3 : Nat) (l6 : Int32) (l7 : Int32) (l8 : Int32) (l9 : Int32) (l10 : Int32) (l11 : Int32) (l12 : Int32) (l13 : Int32) (l14 : Int32) (s0 : Int32) (M : zM) (hp : p55_153 n q60 l0 l1 l3 l6 l7 l8 l9 l10 l11 l12 l13 l14 s0 M) {Q : Option Value → zM → Prop} (hQ : ∀ r M1, zRV (b55_153 n k60 l0 l1 l3 l6 l7 l8 l9 l10 l11 l12 l13 l14 s0 M) r M1 → Q r M1) : zWP 55 153 [some (.ref l0), some (.ref l1), none, some (.ref l3), none, none, some (.int l6), some (.int l7), some (.int l8), some (.int l9), some (.int l10), some (.int l11), some (.int l12), some (.int l13), some (.int l14), none] [.int s0] M Q := by
  unfold b55_153 at hQ
  unfold p55_153 at hp
  refine wp_go 3 (pc' := 159) (L' := [some (.ref l0), some (.ref l1), none, some (.ref l3), none, none, some (.int l6), some (.int l7), some (.int l8), some (.int l9), some (.int l10), some (.int l11), some (.int l12), some (.int l13), some (.int l14), some (.int s0)]) (st' := [.int l7, .int s0]) (M' := M) rfl ?_
  refine wp_ic_le (t := 165) rfl rfl (fun hc => ?_) (fun hc => ?_)
  · rw [if_pos hc] at hQ
    replace hp := hp.1 hc
    refine wp_go 2 (pc' := 167) (L' := [some (.ref l0), some (.ref l1), none, some (.ref l3), none, none, some (.int l6), some (.int l7), some (.int l8), some (.int l9), some (.int l10), some (.int l11), some (.int l12), some (.int l13), some (.int l14), some (.int s0)]) (st' := [.ref l0, .ref l0]) (M' := M) rfl ?_
    obtain ⟨hc, hp⟩ := hp
    refine wq_getI (j := 9) rfl hc ?_
    refine wp_go 1 (pc' := 172) (L' := [some (.ref l0), some (.ref l1), none, some (.ref l3), none, none, some (.int l6), some (.int l7), some (.int l8), some (.int l9), some (.int l10), some (.int l11), some (.int l12), some (.int l13), some (.int l14), some (.int s0)]) (st' := [.int s0, .int (zI M l0 9), .ref l0]) (M' := M) rfl ?_
    obtain ⟨hc, hp⟩ := hp
    refine wp_calli (v := (b192_0 n (zI M l0 9) s0 M).1) (M1 := (b192_0 n (zI M l0 9) s0 M).2) rfl rfl rfl rfl (s192_0 n (zI M l0 9) s0 M hc (fun r M1 h => h)) ?_
    refine wp_le [some (.ref l0), some (.ref l1), none, some (.ref l3), none, none, some (.int l6), some (.int l7), some (.int l8), some (.int l9), some (.int l10), some (.int l11), some (.int l12), some (.int l13), some (.int l14), none] (zLe_of (by simp [zLeB])) ?_
    exact s55_175 n k60 q60 h60 l0 l1 l3 l6 l7 l8 l9 l10 l11 l12 l13 l14 l0 (b192_0 n (zI M l0 9) s0 M).1 (b192_0 n (zI M l0 9) s0 M).2 hp hQ
  · rw [if_neg hc] at hQ
    replace hp := hp.2 hc
    refine wp_go 1 (pc' := 215) (L' := [some (.ref l0), some (.ref l1), none, some (.ref l3), none, none, some (.int l6), some (.int l7), some (.int l8), some (.int l9), some (.int l10), some (.int l11), some (.int l12), some (.int l13), some (.int l14), some (.int s0)]) (st' := []) (M' := M) rfl ?_
    refine wp_le [some (.ref l0), none, none, none, none, none, none, none, none, some (.int l9), some (.int l10), none, none, none, none, none] (zLe_of (by simp [zLeB])) ?_
    exact s55_215 n    l0 l9 l10 M hp hQ
def b55_142 (n : Nat) (k60 : Nat → Nat → Nat → Int32 → Int32 → Int32 → Int32 → Int32 → Int32 → Int32 → zM → zM) (l0 : Nat) (l1 : Nat) (l3 : Nat) (l6 : Int32) (l7 : Int32) (l8 : Int32) (l9 : Int32) (l10 : Int32) (l11 : Int32) (l13 : Int32) (l14 : Int32) (s0 : Int32) (s1 : Int32) (s2 : Int32) (M : zM) : zM := b55_153 n k60 l0 l1 l3 l6 l7 l8 l9 l10 l11 (s0 + (s1 - s2)) l13 l14 (b96_0 n l11 (s0 + (s1 - s2)) M).1 (b96_0 n l11 (s0 + (s1 - s2)) M).2
def p55_142 (n : Nat) (q60 : Nat → Nat → Nat → Int32 → Int32 → Int32 → Int32 → Int32 → Int32 → Int32 → zM → Prop) (l0 : Nat) (l1 : Nat) (l3 : Nat) (l6 : Int32) (l7 : Int32) (l8 : Int32) (l9 : Int32) (l10 : Int32) (l11 : Int32) (l13 : Int32) (l14 : Int32) (s0 : Int32) (s1 : Int32) (s2 : Int32) (M : zM) : Prop := (p96_0 n l11 (s0 + (s1 - s2)) M) ∧ (p55_153 n q60 l0 l1 l3 l6 l7 l8 l9 l10 l11 (s0 + (s1 - s2)) l13 l14 (b96_0 n l11 (s0 + (s1 - s2)) M).1 (b96_0 n l11 (s0 + (s1 - s2)) M).2)
theorem s55_142 (n : Nat) (k60 : Nat → Nat → Nat → Int32 → Int32 → Int32 → Int32 → Int32 → Int32 → Int32 → zM → zM) (q60 : Nat → Nat → Nat → Int32 → Int32 → Int32 → Int32 → Int32 → Int32 → Int32 → zM → Prop) (h60 : ∀ (l0 : Nat) (l1 : Nat) (l3 : Nat) (l6 : Int32) (l7 : Int32) (l8 : Int32) (l9 : Int32) (l10 : Int32) (l11 : Int32) (l12 : Int32) (M : zM), q60 l0 l1 l3 l6 l7 l8 l9 l10 l11 l12 M → ∀ {Q : Option Value → zM → Prop}, (∀ r M1, zRV (k60 l0 l1 l3 l6 l7 l8 l9 l10 l11 l12 M) r M1 → Q r M1) → zWP 55 60 [some (.ref l0), some (.ref l1), none, some (.ref l3), none, none, some (.int l6), some (.int l7), some (.int l8), some (.int l9), some (.int l10), some (.int l11), some (.int l12), none, none, none] [] M Q) (l0 : Nat) (l1 : Nat) (l3 : Nat) (l6 : Int32) (l7 : Int32) (l8 : Int32) (l9 : Int32) (l10 : Int32) (l11 : Int32) (l13 : Int32) (l14 : Int32) (s0 : Int32) (s1 : Int32) (s2 : Int32) (M : zM) (hp : p55_142 n q60 l0 l1 l3 l6 l7 l8 l9 l10 l11 l13 l14 s0 s1 s2 M) {Q : Option Value → zM → Prop} (hQ : ∀ r M1, zRV (b55_142 n k60 l0 l1 l3 l6 l7 l8 l9 l10 l11 l13 l14 s0 s1 s2 M) r M1 → Q r M1) : zWP 55 142 [some (.ref l0), some (.ref l1), none, some (.ref l3), none, none, some (.int l6), some (.int l7), some (.int l8), some (.int l9), some (.int l10), some (.int l11), none, some (.int l13), some (.int l14), none] [.int s2, .int s1, .int s0] M Q := by
  unfold b55_142 at hQ
  unfold p55_142 at hp
  refine wp_go 5 (pc' := 150) (L' := [some (.ref l0), some (.ref l1), none, some (.ref l3), none, none, some (.int l6), some (.int l7), some (.int l8), some (.int l9), some (.int l10), some (.int l11), some (.int (s0 + (s1 - s2))), some (.int l13), some (.int l14), none]) (st' := [.int (s0 + (s1 - s2)), .int l11]) (M' := M) rfl ?_
  obtain ⟨hc, hp⟩ := hp
  refine wp_calli (v := (b96_0 n l11 (s0 + (s1 - s2)) M).1) (M1 := (b96_0 n l11 (s0 + (s1 - s2)) M).2) rfl rfl rfl rfl (s96_0 n l11 (s0 + (s1 - s2)) M hc (fun r M1 h => h)) ?_
  exact s55_153 n k60 q60 h60 l0 l1 l3 l6 l7 l8 l9 l10 l11 (s0 + (s1 - s2)) l13 l14 (b96_0 n l11 (s0 + (s1 - s2)) M).1 (b96_0 n l11 (s0 + (s1 - s2)) M).2 hp hQ
def b55_134 (n : Nat) (k60 : Nat → Nat → Nat → Int32 → Int32 → Int32 → Int32 → Int32 → Int32 → Int32 → zM → zM) (l0 : Nat) (l1 : Nat) (l3 : Nat) (l6 : Int32) (l7 : Int32) (l8 : Int32) (l9 : Int32) (l10 : Int32) (l11 : Int32) (l13 : Int32) (l14 : Int32) (s0 : Int32) (s1 : Int32) (M : zM) : zM := b55_142 n k60 l0 l1 l3 l6 l7 l8 l9 l10 l11 l13 l14 s0 s1 (b49_0 n l3 l14 l8 M).1 (b49_0 n l3 l14 l8 M).2
def p55_134 (n : Nat) (q60 : Nat → Nat → Nat → Int32 → Int32 → Int32 → Int32 → Int32 → Int32 → Int32 → zM → Prop) (l0 : Nat) (l1 : Nat) (l3 : Nat) (l6 : Int32) (l7 : Int32) (l8 : Int32) (l9 : Int32) (l10 : Int32) (l11 : Int32) (l13 : Int32) (l14 : Int32) (s0 : Int32) (s1 : Int32) (M : zM) : Prop := (zHasC 55 57 l3 M 49 2) ∧ ((p49_0 n l3 l14 l8 M) ∧ (p55_142 n q60 l0 l1 l3 l6 l7 l8 l9 l10 l11 l13 l14 s0 s1 (b49_0 n l3 l14 l8 M).1 (b49_0 n l3 l14 l8 M).2))
theorem s55_134 (n : Nat) (k60 : Nat → Nat → Nat → Int32 → Int32 → Int32 → Int32 → Int32 → Int32 → Int32 → zM → zM) (q60 : Nat → Nat → Nat → Int32 → Int32 → Int32 → Int32 → Int32 → Int32 → Int32 → zM → Prop) (h60 : ∀ (l0 : Nat) (l1 : Nat) (l3 : Nat) (l6 : Int32) (l7 : Int32) (l8 : Int32) (l9 : Int32) (l10 : Int32) (l11 : Int32) (l12 : Int32) (M : zM), q60 l0 l1 l3 l6 l7 l8 l9 l10 l11 l12 M → ∀ {Q : Option Value → zM → Prop}, (∀ r M1, zRV (k60 l0 l1 l3 l6 l7 l8 l9 l10 l11 l12 M) r M1 → Q r M1) → zWP 55 60 [some (.ref l0), some (.ref l1), none, some (.ref l3), none, none, some (.int l6), some (.int l7), some (.int l8), some (.int l9), some (.int l10), some (.int l11), some (.int l12), none, none, none] [] M Q) (l0 : Nat) (l1 : Nat) (l3 : Nat) (l6 : Int32) (l7 : Int32) (l8 : Int32) (l9 : Int32) (l10 : Int32) (l11 : Int32) (l13 : Int32) (l14 : Int32) (s0 : Int32) (s1 : Int32) (M : zM) (hp : p55_134 n q60 l0 l1 l3 l6 l7 l8 l9 l10 l11 l13 l14 s0 s1 M) {Q : Option Value → zM → Prop} (hQ : ∀ r M1, zRV (b55_134 n k60 l0 l1 l3 l6 l7 l8 l9 l10 l11 l13 l14 s0 s1 M) r M1 → Q r M1) : zWP 55 134 [some (.ref l0), some (.ref l1), none, some (.ref l3), none, none, some (.int l6), some (.int l7), some (.int l8), some (.int l9), some (.int l10), some (.int l11), none, some (.int l13), some (.int l14), none] [.int s1, .int s0] M Q := by
  unfold b55_134 at hQ
  unfold p55_134 at hp
  refine wp_go 3 (pc' := 139) (L' := [some (.ref l0), some (.ref l1), none, some (.ref l3), none, none, some (.int l6), some (.int l7), some (.int l8), some (.int l9), some (.int l10), some (.int l11), none, some (.int l13), some (.int l14), none]) (st' := [.int l8, .int l14, .ref l3, .int s1, .int s0]) (M' := M) rfl ?_
  obtain ⟨hv, hp⟩ := hp
  obtain ⟨hc, hp⟩ := hp
  refine wp_calli (v := (b49_0 n l3 l14 l8 M).1) (M1 := (b49_0 n l3 l14 l8 M).2) rfl rfl rfl (zInv_v (np := 2) rfl rfl hv rfl) (s49_0 n l3 l14 l8 M hc (fun r M1 h => h)) ?_
  exact s55_142 n k60 q60 h60 l0 l1 l3 l6 l7 l8 l9 l10 l11 l13 l14 s0 s1 (b49_0 n l3 l14 l8 M).1 (b49_0 n l3 l14 l8 M).2 hp hQ
def b55_121 (n : Nat) (k60 : Nat → Nat → Nat → Int32 → Int32 → Int32 → Int32 → Int32 → Int32 → Int32 → zM → zM) (l0 : Nat) (l1 : Nat) (l3 : Nat) (l6 : Int32) (l7 : Int32) (l8 : Int32) (l9 : Int32) (l10 : Int32) (l12 : Int32) (l13 : Int32) (l14 : Int32) (s0 : Int32) (s1 : Int32) (s2 : Int32) (M : zM) : zM := b55_134 n k60 l0 l1 l3 l6 l7 l8 l9 l10 (s0 + (s1 - s2)) l13 l14 l12 (b49_0 n l1 l13 (0 : Int32) M).1 (b49_0 n l1 l13 (0 : Int32) M).2
def p55_121 (n : Nat) (q60 : Nat → Nat → Nat → Int32 → Int32 → Int32 → Int32 → Int32 → Int32 → Int32 → zM → Prop) (l0 : Nat) (l1 : Nat) (l3 : Nat) (l6 : Int32) (l7 : Int32) (l8 : Int32) (l9 : Int32) (l10 : Int32) (l12 : Int32) (l13 : Int32) (l14 : Int32) (s0 : Int32) (s1 : Int32) (s2 : Int32) (M : zM) : Prop := (zHasC 55 57 l1 M 49 2) ∧ ((p49_0 n l1 l13 (0 : Int32) M) ∧ (p55_134 n q60 l0 l1 l3 l6 l7 l8 l9 l10 (s0 + (s1 - s2)) l13 l14 l12 (b49_0 n l1 l13 (0 : Int32) M).1 (b49_0 n l1 l13 (0 : Int32) M).2))
theorem s55_121 (n : Nat) (k60 : Nat → Nat → Nat → Int32 → Int32 → Int32 → Int32 → Int32 → Int32 → Int32 → zM → zM) (q60 : Nat → Nat → Nat → Int32 → Int32 → Int32 → Int32 → Int32 → Int32 → Int32 → zM → Prop) (h60 : ∀ (l0 : Nat) (l1 : Nat) (l3 : Nat) (l6 : Int32) (l7 : Int32) (l8 : Int32) (l9 : Int32) (l10 : Int32) (l11 : Int32) (l12 : Int32) (M : zM), q60 l0 l1 l3 l6 l7 l8 l9 l10 l11 l12 M → ∀ {Q : Option Value → zM → Prop}, (∀ r M1, zRV (k60 l0 l1 l3 l6 l7 l8 l9 l10 l11 l12 M) r M1 → Q r M1) → zWP 55 60 [some (.ref l0), some (.ref l1), none, some (.ref l3), none, none, some (.int l6), some (.int l7), some (.int l8), some (.int l9), some (.int l10), some (.int l11), some (.int l12), none, none, none] [] M Q) (l0 : Nat) (l1 : Nat) (l3 : Nat) (l6 : Int32) (l7 : Int32) (l8 : Int32) (l9 : Int32) (l10 : Int32) (l12 : Int32) (l13 : Int32) (l14 : Int32) (s0 : Int32) (s1 : Int32) (s2 : Int32) (M : zM) (hp : p55_121 n q60 l0 l1 l3 l6 l7 l8 l9 l10 l12 l13 l14 s0 s1 s2 M) {Q : Option Value → zM → Prop} (hQ : ∀ r M1, zRV (b55_121 n k60 l0 l1 l3 l6 l7 l8 l9 l10 l12 l13 l14 s0 s1 s2 M) r M1 → Q r M1) : zWP 55 121 [some (.ref l0), some (.ref l1), none, some (.ref l3), none, none, some (.int l6), some (.int l7), some (.int l8), some (.int l9), some (.int l10), none, some (.int l12), some (.int l13), some (.int l14), none] [.int s2, .int s1, .int s0] M Q := by
  unfold b55_121 at hQ
  unfold p55_121 at hp
  refine wp_go 5 (pc' := 128) (L' := [some (.ref l0), some (.ref l1), none, some (.ref l3), none, none, some (.int l6), some (.int l7), some (.int l8), some (.int l9), some (.int l10), some (.int (s0 + (s1 - s2))), some (.int l12), some (.int l13), some (.int l14), none]) (st' := [.ref l1, .int l12]) (M' := M) rfl ?_
  refine wp_go 2 (pc' := 131) (L' := [some (.ref l0), some (.ref l1), none, some (.ref l3), none, none, some (.int l6), some (.int l7), some (.int l8), some (.int l9), some (.int l10), some (.int (s0 + (s1 - s2))), some (.int l12), some (.int l13), some (.int l14), none]) (st' := [.int (0 : Int32), .int l13, .ref l1, .int l12]) (M' := M) rfl ?_
  obtain ⟨hv, hp⟩ := hp
  obtain ⟨hc, hp⟩ := hp
  refine wp_calli (v := (b49_0 n l1 l13 (0 : Int32) M).1) (M1 := (b49_0 n l1 l13 (0 : Int32) M).2) rfl rfl rfl (zInv_v (np := 2) rfl rfl hv rfl) (s49_0 n l1 l13 (0 : Int32) M hc (fun r M1 h => h)) ?_
  refine wp_le [some (.ref l0), some (.ref l1), none, some (.ref l3), none, none, some (.int l6), some (.int l7), some (.int l8), some (.int l9), some (.int l10), some (.int (s0 + (s1 - s2))), none, some (.int l13), some (.int l14), none] (zLe_of (by simp [zLeB])) ?_
  exact s55_134 n k60 q60 h60 l0 l1 l3 l6 l7 l8 l9 l10 (s0 + (s1 - s2)) l13 l14 l12 (b49_0 n l1 l13 (0 : Int32) M).1 (b49_0 n l1 l13 (0 : Int32) M).2 hp hQ
def b55_113 (n : Nat) (k60 : Nat → Nat → Nat → Int32 → Int32 → Int32 → Int32 → Int32 → Int32 → Int32 → zM → zM) (l0 : Nat) (l1 : Nat) (l3 : Nat) (l6 : Int32) (l7 : Int32) (l8 : Int32) (l9 : Int32) (l10 : Int32) (l12 : Int32) (l13 : Int32) (l14 : Int32) (s0 : Int32) (s1 : Int32) (M : zM) : zM := b55_121 n k60 l0 l1 l3 l6 l7 l8 l9 l10 l12 l13 l14 s0 s1 (b48_0 n l3 l14 l8 M).1 (b48_0 n l3 l14 l8 M).2
def p55_113 (n : Nat) (q60 : Nat → Nat → Nat → Int32 → Int32 → Int32 → Int32 → Int32 → Int32 → Int32 → zM → Prop) (l0 : Nat) (l1 : Nat) (l3 : Nat) (l6 : Int32) (l7 : Int32) (l8 : Int32) (l9 : Int32) (l10 : Int32) (l12 : Int32) (l13 : Int32) (l14 : Int32) (s0 : Int32) (s1 : Int32) (M : zM) : Prop := (zHasC 55 54 l3 M 48 2) ∧ ((p48_0 n l3 l14 l8 M) ∧ (p55_121 n q60 l0 l1 l3 l6 l7 l8 l9 l10 l12 l13 l14 s0 s1 (b48_0 n l3 l14 l8 M).1 (b48_0 n l3 l14 l8 M).2))
theorem s55_113 (n : Nat) (k60 : Nat → Nat → Nat → Int32 → Int32 → Int32 → Int32 → Int32 → Int32 → Int32 → zM → zM) (q60 : Nat → Nat → Nat → Int32 → Int32 → Int32 → Int32 → Int32 → Int32 → Int32 → zM → Prop) (h60 : ∀ (l0 : Nat) (l1 : Nat) (l3 : Nat) (l6 : Int32) (l7 : Int32) (l8 : Int32) (l9 : Int32) (l10 : Int32) (l11 : Int32) (l12 : Int32) (M : zM), q60 l0 l1 l3 l6 l7 l8 l9 l10 l11 l12 M → ∀ {Q : Option Value → zM → Prop}, (∀ r M1, zRV (k60 l0 l1 l3 l6 l7 l8 l9 l10 l11 l12 M) r M1 → Q r M1) → zWP 55 60 [some (.ref l0), some (.ref l1), none, some (.ref l3), none, none, some (.int l6), some (.int l7), some (.int l8), some (.int l9), some (.int l10), some (.int l11), some (.int l12), none, none, none] [] M Q) (l0 : Nat) (l1 : Nat) (l3 : Nat) (l6 : Int32) (l7 : Int32) (l8 : Int32) (l9 : Int32) (l10 : Int32) (l12 : Int32) (l13 : Int32) (l14 : Int32) (s0 : Int32) (s1 : Int32) (M : zM) (hp : p55_113 n q60 l0 l1 l3 l6 l7 l8 l9 l10 l12 l13 l14 s0 s1 M) {Q : Option Value → zM → Prop} (hQ : ∀ r M1, zRV (b55_113 n k60 l0 l1 l3 l6 l7 l8 l9 l10 l12 l13 l14 s0 s1 M) r M1 → Q r M1) : zWP 55 113 [some (.ref l0), some (.ref l1), none, some (.ref l3), none, none, some (.int l6), some (.int l7), some (.int l8), some (.int l9), some (.int l10), none, some (.int l12), some (.int l13), some (.int l14), none] [.int s1, .int s0] M Q := by
  unfold b55_113 at hQ
  unfold p55_113 at hp
  refine wp_go 3 (pc' := 118) (L' := [some (.ref l0), some (.ref l1), none, some (.ref l3), none, none, some (.int l6), some (.int l7), some (.int l8), some (.int l9), some (.int l10), none, some (.int l12), some (.int l13), some (.int l14), none]) (st' := [.int l8, .int l14, .ref l3, .int s1, .int s0]) (M' := M) rfl ?_
  obtain ⟨hv, hp⟩ := hp
  obtain ⟨hc, hp⟩ := hp
  refine wp_calli (v := (b48_0 n l3 l14 l8 M).1) (M1 := (b48_0 n l3 l14 l8 M).2) rfl rfl rfl (zInv_v (np := 2) rfl rfl hv rfl) (s48_0 n l3 l14 l8 M hc (fun r M1 h => h)) ?_
  exact s55_121 n k60 q60 h60 l0 l1 l3 l6 l7 l8 l9 l10 l12 l13 l14 s0 s1 (b48_0 n l3 l14 l8 M).1 (b48_0 n l3 l14 l8 M).2 hp hQ
def b55_98 (n : Nat) (k60 : Nat → Nat → Nat → Int32 → Int32 → Int32 → Int32 → Int32 → Int32 → Int32 → zM → zM) (l0 : Nat) (l1 : Nat) (l3 : Nat) (l6 : Int32) (l7 : Int32) (l8 : Int32) (l9 : Int32) (l10 : Int32) (l11 : Int32) (l12 : Int32) (l13 : Int32) (l14 : Int32) (s0 : Int32) (M : zM) : zM := (if s0 = 0 then b55_215 n  l0 l9 l10 M else b55_113 n k60 l0 l1 l3 l6 l7 l8 l9 l10 l12 l13 l14 l11 (b48_0 n l1 l13 (0 : Int32) M).1 (b48_0 n l1 l13 (0 : Int32) M).2)
def p55_98 (n : Nat) (q60 : Nat → Nat → Nat → Int32 → Int32 → Int32 → Int32 → Int32 → Int32 → Int32 → zM → Prop) (l0 : Nat) (l1 : Nat) (l3 : Nat) (l6 : Int32) (l7 : Int32) (l8 : Int32) (l9 : Int32) (l10 : Int32) (l11 : Int32) (l12 : Int32) (l13 : Int32) (l14 : Int32) (s0 : Int32) (M : zM) : Prop := ((s0 = 0 → p55_215 n  l0 l9 l10 M) ∧ (¬ s0 = 0 → (zHasC 55 54 l1 M 48 2) ∧ ((p48_0 n l1 l13 (0 : Int32) M) ∧ (p55_113 n q60 l0 l1 l3 l6 l7 l8 l9 l10 l12 l13 l14 l11 (b48_0 n l1 l13 (0 : Int32) M).1 (b48_0 n l1 l13 (0 : Int32) M).2))))
theorem s55_98 (n : Nat) (k60 : Nat → Nat → Nat → Int32 → Int32 → Int32 → Int32 → Int32 → Int32 → Int32 → zM → zM) (q60 : Nat → Nat → Nat → Int32 → Int32 → Int32 → Int32 → Int32 → Int32 → Int32 → zM → Prop) (h60 : ∀ (l0 : Nat) (l1 : Nat) (l3 : Nat) (l6 : Int32) (l7 : Int32) (l8 : Int32) (l9 : Int32) (l10 : Int32) (l11 : Int32) (l12 : Int32) (M : zM), q60 l0 l1 l3 l6 l7 l8 l9 l10 l11 l12 M → ∀ {Q : Option Value → zM → Prop}, (∀ r M1, zRV (k60 l0 l1 l3 l6 l7 l8 l9 l10 l11 l12 M) r M1 → Q r M1) → zWP 55 60 [some (.ref l0), some (.ref l1), none, some (.ref l3), none, none, some (.int l6), some (.int l7), some (.int l8), some (.int l9), some (.int l10), some (.int l11), some (.int l12), none, none, none] [] M Q) (l0 : Nat) (l1 : Nat) (l3 : Nat) (l6 : Int32) (l7 : Int32) (l8 : Int32) (l9 : Int32) (l10 : Int32) (l11 : Int32) (l12 : Int32) (l13 : Int32) (l14 : Int32) (s0 : Int32) (M : zM) (hp : p55_98 n q60 l0 l1 l3 l6 l7 l8 l9 l10 l11 l12 l13 l14 s0 M) {Q : Option Value → zM → Prop} (hQ : ∀ r M1, zRV (b55_98 n k60 l0 l1 l3 l6 l7 l8 l9 l10 l11 l12 l13 l14 s0 M) r M1 → Q r M1) : zWP 55 98 [some (.ref l0), some (.ref l1), none, some (.ref l3), none, none, some (.int l6), some (.int l7), some (.int l8), some (.int l9), some (.int l10), some (.int l11), some (.int l12), some (.int l13), some (.int l14), none] [.int s0] M Q := by
  unfold b55_98 at hQ
  unfold p55_98 at hp
  refine wp_if_ne (t := 104) rfl rfl (fun hc => ?_) (fun hc => ?_)
  · rw [if_neg hc] at hQ
    replace hp := hp.2 hc
    refine wp_go 4 (pc' := 110) (L' := [some (.ref l0), some (.ref l1), none, some (.ref l3), none, none, some (.int l6), some (.int l7), some (.int l8), some (.int l9), some (.int l10), some (.int l11), some (.int l12), some (.int l13), some (.int l14), none]) (st' := [.int (0 : Int32), .int l13, .ref l1, .int l11]) (M' := M) rfl ?_
    obtain ⟨hv, hp⟩ := hp
    obtain ⟨hc, hp⟩ := hp
    refine wp_calli (v := (b48_0 n l1 l13 (0 : Int32) M).1) (M1 := (b48_0 n l1 l13 (0 : Int32) M).2) rfl rfl rfl (zInv_v (np := 2) rfl rfl hv rfl) (s48_0 n l1 l13 (0 : Int32) M hc (fun r M1 h => h)) ?_
    refine wp_le [some (.ref l0), some (.ref l1), none, some (.ref l3), none, none, some (.int l6), some (.int l7), some (.int l8), some (.int l9), some (.int l10), none, some (.int l12), some (.int l13), some (.int l14), none] (zLe_of (by simp [zLeB])) ?_
    exact s55_113 n k60 q60 h60 l0 l1 l3 l6 l7 l8 l9 l10 l12 l13 l14 l11 (b48_0 n l1 l13 (0 : Int32) M).1 (b48_0 n l1 l13 (0 : Int32) M).2 hp hQ
  · rw [if_pos hc] at hQ
    replace hp := hp.1 hc
    refine wp_go 1 (pc' := 215) (L' := [some (.ref l0), some (.ref l1), none, some (.ref l3), none, none, some (.int l6), some (.int l7), some (.int l8), some (.int l9), some (.int l10), some (.int l11), some (.int l12), some (.int l13), some (.int l14), none]) (st' := []) (M' := M) rfl ?_
    refine wp_le [some (.ref l0), none, none, none, none, none, none, none, none, some (.int l9), some (.int l10), none, none, none, none, none] (zLe_of (by simp [zLeB])) ?_
    exact s55_215 n    l0 l9 l10 M hp hQ
def b55_87 (n : Nat) (k60 : Nat → Nat → Nat → Int32 → Int32 → Int32 → Int32 → Int32 → Int32 → Int32 → zM → zM) (l0 : Nat) (l1 : Nat) (l3 : Nat) (l6 : Int32) (l7 : Int32) (l8 : Int32) (l9 : Int32) (l10 : Int32) (l11 : Int32) (l12 : Int32) (l13 : Int32) (s0 : Int32) (M : zM) : zM := b55_98 n k60 l0 l1 l3 l6 l7 l8 l9 l10 l11 l12 l13 s0 (b45_0 n l1 l13 l3 s0 M).1 (b45_0 n l1 l13 l3 s0 M).2
def p55_87 (n : Nat) (q60 : Nat → Nat → Nat → Int32 → Int32 → Int32 → Int32 → Int32 → Int32 → Int32 → zM → Prop) (l0 : Nat) (l1 : Nat) (l3 : Nat) (l6 : Int32) (l7 : Int32) (l8 : Int32) (l9 : Int32) (l10 : Int32) (l11 : Int32) (l12 : Int32) (l13 : Int32) (s0 : Int32) (M : zM) : Prop := (zHasC 55 50 l1 M 45 3) ∧ ((p45_0 n l1 l13 l3 s0 M) ∧ (p55_98 n q60 l0 l1 l3 l6 l7 l8 l9 l10 l11 l12 l13 s0 (b45_0 n l1 l13 l3 s0 M).1 (b45_0 n l1 l13 l3 s0 M).2))
theorem s55_87 (n : Nat) (k60 : Nat → Nat → Nat → Int32 → Int32 → Int32 → Int32 → Int32 → Int32 → Int32 → zM → zM) (q60 : Nat → Nat → Nat → Int32 → Int32 → Int32 → Int32 → Int32 → Int32 → Int32 → zM → Prop) (h60 : ∀ (l0 : Nat) (l1 : Nat) (l3 : Nat) (l6 : Int32) (l7 : Int32) (l8 : Int32) (l9 : Int32) (l10 : Int32) (l11 : Int32) (l12 : Int32) (M : zM), q60 l0 l1 l3 l6 l7 l8 l9 l10 l11 l12 M → ∀ {Q : Option Value → zM → Prop}, (∀ r M1, zRV (k60 l0 l1 l3 l6 l7 l8 l9 l10 l11 l12 M) r M1 → Q r M1) → zWP 55 60 [some (.ref l0), some (.ref l1), none, some (.ref l3), none, none, some (.int l6), some (.int l7), some (.int l8), some (.int l9), some (.int l10), some (.int l11), some (.int l12), none, none, none] [] M Q) (l0 : Nat) (l1 : Nat) (l3 : Nat) (l6 : Int32) (l7 : Int32) (l8 : Int32) (l9 : Int32) (l10 : Int32) (l11 : Int32) (l12 : Int32) (l13 : Int32) (s0 : Int32) (M : zM) (hp : p55_87 n q60 l0 l1 l3 l6 l7 l8 l9 l10 l11 l12 l13 s0 M) {Q : Option Value → zM → Prop} (hQ : ∀ r M1, zRV (b55_87 n k60 l0 l1 l3 l6 l7 l8 l9 l10 l11 l12 l13 s0 M) r M1 → Q r M1) : zWP 55 87 [some (.ref l0), some (.ref l1), none, some (.ref l3), none, none, some (.int l6), some (.int l7), some (.int l8), some (.int l9), some (.int l10), some (.int l11), some (.int l12), some (.int l13), none, none] [.int s0] M Q := by
  unfold b55_87 at hQ
  unfold p55_87 at hp
  refine wp_go 5 (pc' := 95) (L' := [some (.ref l0), some (.ref l1), none, some (.ref l3), none, none, some (.int l6), some (.int l7), some (.int l8), some (.int l9), some (.int l10), some (.int l11), some (.int l12), some (.int l13), some (.int s0), none]) (st' := [.int s0, .ref l3, .int l13, .ref l1]) (M' := M) rfl ?_
  obtain ⟨hv, hp⟩ := hp
  obtain ⟨hc, hp⟩ := hp
  refine wp_calli (v := (b45_0 n l1 l13 l3 s0 M).1) (M1 := (b45_0 n l1 l13 l3 s0 M).2) rfl rfl rfl (zInv_v (np := 3) rfl rfl hv rfl) (s45_0 n l1 l13 l3 s0 M hc (fun r M1 h => h)) ?_
  exact s55_98 n k60 q60 h60 l0 l1 l3 l6 l7 l8 l9 l10 l11 l12 l13 s0 (b45_0 n l1 l13 l3 s0 M).1 (b45_0 n l1 l13 l3 s0 M).2 hp hQ
def b55_77 (n : Nat) (k60 : Nat → Nat → Nat → Int32 → Int32 → Int32 → Int32 → Int32 → Int32 → Int32 → zM → zM) (l0 : Nat) (l1 : Nat) (l3 : Nat) (l6 : Int32) (l7 : Int32) (l8 : Int32) (l9 : Int32) (l10 : Int32) (l11 : Int32) (l12 : Int32) (s0 : Int32) (M : zM) : zM := b55_87 n k60 l0 l1 l3 l6 l7 l8 l9 l10 l11 l12 s0 (b40_0 n l0 (zI M l0 5) M).1 (b40_0 n l0 (zI M l0 5) M).2
def p55_77 (n : Nat) (q60 : Nat → Nat → Nat → Int32 → Int32 → Int32 → Int32 → Int32 → Int32 → Int32 → zM → Prop) (l0 : Nat) (l1 : Nat) (l3 : Nat) (l6 : Int32) (l7 : Int32) (l8 : Int32) (l9 : Int32) (l10 : Int32) (l11 : Int32) (l12 : Int32) (s0 : Int32) (M : zM) : Prop := (zHasI 7 40 l0 M 5) ∧ ((zHasC 55 47 l0 M 40 1) ∧ ((p40_0 n l0 (zI M l0 5) M) ∧ (p55_87 n q60 l0 l1 l3 l6 l7 l8 l9 l10 l11 l12 s0 (b40_0 n l0 (zI M l0 5) M).1 (b40_0 n l0 (zI M l0 5) M).2)))
theorem s55_77 (n : Nat) (k60 : Nat → Nat → Nat → Int32 → Int32 → Int32 → Int32 → Int32 → Int32 → Int32 → zM → zM) (q60 : Nat → Nat → Nat → Int32 → Int32 → Int32 → Int32 → Int32 → Int32 → Int32 → zM → Prop) (h60 : ∀ (l0 : Nat) (l1 : Nat) (l3 : Nat) (l6 : Int32) (l7 : Int32) (l8 : Int32) (l9 : Int32) (l10 : Int32) (l11 : Int32) (l12 : Int32) (M : zM), q60 l0 l1 l3 l6 l7 l8 l9 l10 l11 l12 M → ∀ {Q : Option Value → zM → Prop}, (∀ r M1, zRV (k60 l0 l1 l3 l6 l7 l8 l9 l10 l11 l12 M) r M1 → Q r M1) → zWP 55 60 [some (.ref l0), some (.ref l1), none, some (.ref l3), none, none, some (.int l6), some (.int l7), some (.int l8), some (.int l9), some (.int l10), some (.int l11), some (.int l12), none, none, none] [] M Q) (l0 : Nat) (l1 : Nat) (l3 : Nat) (l6 : Int32) (l7 : Int32) (l8 : Int32) (l9 : Int32) (l10 : Int32) (l11 : Int32) (l12 : Int32) (s0 : Int32) (M : zM) (hp : p55_77 n q60 l0 l1 l3 l6 l7 l8 l9 l10 l11 l12 s0 M) {Q : Option Value → zM → Prop} (hQ : ∀ r M1, zRV (b55_77 n k60 l0 l1 l3 l6 l7 l8 l9 l10 l11 l12 s0 M) r M1 → Q r M1) : zWP 55 77 [some (.ref l0), some (.ref l1), none, some (.ref l3), none, none, some (.int l6), some (.int l7), some (.int l8), some (.int l9), some (.int l10), some (.int l11), some (.int l12), none, none, none] [.int s0] M Q := by
  unfold b55_77 at hQ
  unfold p55_77 at hp
  refine wp_go 3 (pc' := 81) (L' := [some (.ref l0), some (.ref l1), none, some (.ref l3), none, none, some (.int l6), some (.int l7), some (.int l8), some (.int l9), some (.int l10), some (.int l11), some (.int l12), some (.int s0), none, none]) (st' := [.ref l0, .ref l0]) (M' := M) rfl ?_
  obtain ⟨hc, hp⟩ := hp
  refine wq_getI (j := 5) rfl hc ?_
  obtain ⟨hv, hp⟩ := hp
  obtain ⟨hc, hp⟩ := hp
  refine wp_calli (v := (b40_0 n l0 (zI M l0 5) M).1) (M1 := (b40_0 n l0 (zI M l0 5) M).2) rfl rfl rfl (zInv_v (np := 1) rfl rfl hv rfl) (s40_0 n l0 (zI M l0 5) M hc (fun r M1 h => h)) ?_
  exact s55_87 n k60 q60 h60 l0 l1 l3 l6 l7 l8 l9 l10 l11 l12 s0 (b40_0 n l0 (zI M l0 5) M).1 (b40_0 n l0 (zI M l0 5) M).2 hp hQ
def c55_60 (n : Nat) (k60 : Nat → Nat → Nat → Int32 → Int32 → Int32 → Int32 → Int32 → Int32 → Int32 → zM → zM) (l0 : Nat) (l1 : Nat) (l3 : Nat) (l6 : Int32) (l7 : Int32) (l8 : Int32) (l9 : Int32) (l10 : Int32) (l11 : Int32) (l12 : Int32) (M : zM) : zM := (if l6 ≤ (zI M l0 5) then b55_215 n  l0 l9 l10 M else b55_77 n k60 l0 l1 l3 l6 l7 l8 l9 l10 l11 l12 (b39_0 n l0 (zI M l0 5) M).1 (b39_0 n l0 (zI M l0 5) M).2)
def d55_60 (n : Nat) (q60 : Nat → Nat → Nat → Int32 → Int32 → Int32 → Int32 → Int32 → Int32 → Int32 → zM → Prop) (l0 : Nat) (l1 : Nat) (l3 : Nat) (l6 : Int32) (l7 : Int32) (l8 : Int32) (l9 : Int32) (l10 : Int32) (l11 : Int32) (l12 : Int32) (M : zM) : Prop := (zHasI 7 40 l0 M 5) ∧ (((l6 ≤ (zI M l0 5) → p55_215 n  l0 l9 l10 M) ∧ (¬ l6 ≤ (zI M l0 5) → (zHasI 7 40 l0 M 5) ∧ ((zHasC 55 43 l0 M 39 1) ∧ ((p39_0 n l0 (zI M l0 5) M) ∧ (p55_77 n q60 l0 l1 l3 l6 l7 l8 l9 l10 l11 l12 (b39_0 n l0 (zI M l0 5) M).1 (b39_0 n l0 (zI M l0 5) M).2))))))
theorem t55_60 (n : Nat) (k60 : Nat → Nat → Nat → Int32 → Int32 → Int32 → Int32 → Int32 → Int32 → Int32 → zM → zM) (q60 : Nat → Nat → Nat → Int32 → Int32 → Int32 → Int32 → Int32 → Int32 → Int32 → zM → Prop) (h60 : ∀ (l0 : Nat) (l1 : Nat) (l3 : Nat) (l6 : Int32) (l7 : Int32) (l8 : Int32) (l9 : Int32) (l10 : Int32) (l11 : Int32) (l12 : Int32) (M : zM), q60 l0 l1 l3 l6 l7 l8 l9 l10 l11 l12 M → ∀ {Q : Option Value → zM → Prop}, (∀ r M1, zRV (k60 l0 l1 l3 l6 l7 l8 l9 l10 l11 l12 M) r M1 → Q r M1) → zWP 55 60 [some (.ref l0), some (.ref l1), none, some (.ref l3), none, none, some (.int l6), some (.int l7), some (.int l8), some (.int l9), some (.int l10), some (.int l11), some (.int l12), none, none, none] [] M Q) (l0 : Nat) (l1 : Nat) (l3 : Nat) (l6 : Int32) (l7 : Int32) (l8 : Int32) (l9 : Int32) (l10 : Int32) (l11 : Int32) (l12 : Int32) (M : zM) (hp : d55_60 n q60 l0 l1 l3 l6 l7 l8 l9 l10 l11 l12 M) {Q : Option Value → zM → Prop} (hQ : ∀ r M1, zRV (c55_60 n k60 l0 l1 l3 l6 l7 l8 l9 l10 l11 l12 M) r M1 → Q r M1) : zWP 55 60 [some (.ref l0), some (.ref l1), none, some (.ref l3), none, none, some (.int l6), some (.int l7), some (.int l8), some (.int l9), some (.int l10), some (.int l11), some (.int l12), none, none, none] [] M Q := by
  unfold c55_60 at hQ
  unfold d55_60 at hp
  refine wp_go 1 (pc' := 61) (L' := [some (.ref l0), some (.ref l1), none, some (.ref l3), none, none, some (.int l6), some (.int l7), some (.int l8), some (.int l9), some (.int l10), some (.int l11), some (.int l12), none, none, none]) (st' := [.ref l0]) (M' := M) rfl ?_
  obtain ⟨hc, hp⟩ := hp
  refine wq_getI (j := 5) rfl hc ?_
  refine wp_go 1 (pc' := 66) (L' := [some (.ref l0), some (.ref l1), none, some (.ref l3), none, none, some (.int l6), some (.int l7), some (.int l8), some (.int l9), some (.int l10), some (.int l11), some (.int l12), none, none, none]) (st' := [.int l6, .int (zI M l0 5)]) (M' := M) rfl ?_
  refine wp_ic_ge (t := 215) rfl rfl (fun hc => ?_) (fun hc => ?_)
  · rw [if_pos hc] at hQ
    replace hp := hp.1 hc
    refine wp_le [some (.ref l0), none, none, none, none, none, none, none, none, some (.int l9), some (.int l10), none, none, none, none, none] (zLe_of (by simp [zLeB])) ?_
    exact s55_215 n    l0 l9 l10 M hp hQ
  · rw [if_neg hc] at hQ
    replace hp := hp.2 hc
    refine wp_go 2 (pc' := 71) (L' := [some (.ref l0), some (.ref l1), none, some (.ref l3), none, none, some (.int l6), some (.int l7), some (.int l8), some (.int l9), some (.int l10), some (.int l11), some (.int l12), none, none, none]) (st' := [.ref l0, .ref l0]) (M' := M) rfl ?_
    obtain ⟨hc, hp⟩ := hp
    refine wq_getI (j := 5) rfl hc ?_
    obtain ⟨hv, hp⟩ := hp
    obtain ⟨hc, hp⟩ := hp
    refine wp_calli (v := (b39_0 n l0 (zI M l0 5) M).1) (M1 := (b39_0 n l0 (zI M l0 5) M).2) rfl rfl rfl (zInv_v (np := 1) rfl rfl hv rfl) (s39_0 n l0 (zI M l0 5) M hc (fun r M1 h => h)) ?_
    exact s55_77 n k60 q60 h60 l0 l1 l3 l6 l7 l8 l9 l10 l11 l12 (b39_0 n l0 (zI M l0 5) M).1 (b39_0 n l0 (zI M l0 5) M).2 hp hQ
def b55_60 (n : Nat)  : Nat → Nat → Nat → Nat → Int32 → Int32 → Int32 → Int32 → Int32 → Int32 → Int32 → zM → zM
  | 0, _, _, _, _, _, _, _, _, _, _, M => M
  | k + 1, l0, l1, l3, l6, l7, l8, l9, l10, l11, l12, M => c55_60 n  (b55_60 n  k) l0 l1 l3 l6 l7 l8 l9 l10 l11 l12 M
def p55_60 (n : Nat)  : Nat → Nat → Nat → Nat → Int32 → Int32 → Int32 → Int32 → Int32 → Int32 → Int32 → zM → Prop
  | 0, _, _, _, _, _, _, _, _, _, _, _ => False
  | k + 1, l0, l1, l3, l6, l7, l8, l9, l10, l11, l12, M => d55_60 n  (p55_60 n  k) l0 l1 l3 l6 l7 l8 l9 l10 l11 l12 M
theorem s55_60 (n : Nat)    : ∀ (k : Nat) (l0 : Nat) (l1 : Nat) (l3 : Nat) (l6 : Int32) (l7 : Int32) (l8 : Int32) (l9 : Int32) (l10 : Int32) (l11 : Int32) (l12 : Int32) (M : zM), p55_60 n  k l0 l1 l3 l6 l7 l8 l9 l10 l11 l12 M → ∀ {Q : Option Value → zM → Prop}, (∀ r M1, zRV (b55_60 n  k l0 l1 l3 l6 l7 l8 l9 l10 l11 l12 M) r M1 → Q r M1) → zWP 55 60 [some (.ref l0), some (.ref l1), none, some (.ref l3), none, none, some (.int l6), some (.int l7), some (.int l8), some (.int l9), some (.int l10), some (.int l11), some (.int l12), none, none, none] [] M Q
  | 0, _, _, _, _, _, _, _, _, _, _, _, h, _, _ => h.elim
  | k + 1, l0, l1, l3, l6, l7, l8, l9, l10, l11, l12, M, h, _, hQ => t55_60 n  (b55_60 n  k)  (p55_60 n  k)  (s55_60 n    k) l0 l1 l3 l6 l7 l8 l9 l10 l11 l12 M h hQ
def b55_55 (n : Nat)  (l0 : Nat) (l1 : Nat) (l3 : Nat) (l6 : Int32) (l7 : Int32) (l8 : Int32) (l9 : Int32) (l10 : Int32) (l11 : Int32) (l12 : Int32) (M : zM) : zM := b55_60 n  n l0 l1 l3 l6 l7 l8 l9 l10 l11 l12 (zWI M l0 9 (0 : Int32))
def p55_55 (n : Nat)  (l0 : Nat) (l1 : Nat) (l3 : Nat) (l6 : Int32) (l7 : Int32) (l8 : Int32) (l9 : Int32) (l10 : Int32) (l11 : Int32) (l12 : Int32) (M : zM) : Prop := (zPutI 55 15 l0 M 9 (0 : Int32)) ∧ (p55_60 n  n l0 l1 l3 l6 l7 l8 l9 l10 l11 l12 (zWI M l0 9 (0 : Int32)))
theorem s55_55 (n : Nat)    (l0 : Nat) (l1 : Nat) (l3 : Nat) (l6 : Int32) (l7 : Int32) (l8 : Int32) (l9 : Int32) (l10 : Int32) (l11 : Int32) (l12 : Int32) (M : zM) (hp : p55_55 n  l0 l1 l3 l6 l7 l8 l9 l10 l11 l12 M) {Q : Option Value → zM → Prop} (hQ : ∀ r M1, zRV (b55_55 n  l0 l1 l3 l6 l7 l8 l9 l10 l11 l12 M) r M1 → Q r M1) : zWP 55 55 [some (.ref l0), some (.ref l1), none, some (.ref l3), none, none, some (.int l6), some (.int l7), some (.int l8), some (.int l9), some (.int l10), some (.int l11), some (.int l12), none, none, none] [] M Q := by
  unfold b55_55 at hQ
  unfold p55_55 at hp
  refine wp_go 2 (pc' := 57) (L' := [some (.ref l0), some (.ref l1), none, some (.ref l3), none, none, some (.int l6), some (.int l7), some (.int l8), some (.int l9), some (.int l10), some (.int l11), some (.int l12), none, none, none]) (st' := [.int (0 : Int32), .ref l0]) (M' := M) rfl ?_
  obtain ⟨hc, hp⟩ := hp
  refine wq_putI (j := 9) rfl hc ?_
  exact s55_60 n    n l0 l1 l3 l6 l7 l8 l9 l10 l11 l12 (zWI M l0 9 (0 : Int32)) hp hQ
def b55_29 (n : Nat)  (l0 : Nat) (l1 : Nat) (l3 : Nat) (l5 : Int32) (l6 : Int32) (s0 : Int32) (M : zM) : zM := b55_55 n  l0 l1 l3 l6 s0 (l5 + (12 : Int32)) (0 : Int32) (0 : Int32) (0 : Int32) (0 : Int32) (zWI M l0 5 (0 : Int32))
def p55_29 (n : Nat)  (l0 : Nat) (l1 : Nat) (l3 : Nat) (l5 : Int32) (l6 : Int32) (s0 : Int32) (M : zM) : Prop := (zPutI 55 40 l0 M 5 (0 : Int32)) ∧ (p55_55 n  l0 l1 l3 l6 s0 (l5 + (12 : Int32)) (0 : Int32) (0 : Int32) (0 : Int32) (0 : Int32) (zWI M l0 5 (0 : Int32)))
theorem s55_29 (n : Nat)    (l0 : Nat) (l1 : Nat) (l3 : Nat) (l5 : Int32) (l6 : Int32) (s0 : Int32) (M : zM) (hp : p55_29 n  l0 l1 l3 l5 l6 s0 M) {Q : Option Value → zM → Prop} (hQ : ∀ r M1, zRV (b55_29 n  l0 l1 l3 l5 l6 s0 M) r M1 → Q r M1) : zWP 55 29 [some (.ref l0), some (.ref l1), none, some (.ref l3), none, some (.int l5), some (.int l6), none, none, none, none, none, none, none, none, none] [.int s0] M Q := by
  unfold b55_29 at hQ
  unfold p55_29 at hp
  refine wp_go 5 (pc' := 38) (L' := [some (.ref l0), some (.ref l1), none, some (.ref l3), none, some (.int l5), some (.int l6), some (.int s0), some (.int (l5 + (12 : Int32))), none, none, none, none, none, none, none]) (st' := []) (M' := M) rfl ?_
  refine wp_go 5 (pc' := 45) (L' := [some (.ref l0), some (.ref l1), none, some (.ref l3), none, some (.int l5), some (.int l6), some (.int s0), some (.int (l5 + (12 : Int32))), some (.int (0 : Int32)), some (.int (0 : Int32)), none, none, none, none, none]) (st' := [.int (0 : Int32)]) (M' := M) rfl ?_
  refine wp_go 5 (pc' := 52) (L' := [some (.ref l0), some (.ref l1), none, some (.ref l3), none, some (.int l5), some (.int l6), some (.int s0), some (.int (l5 + (12 : Int32))), some (.int (0 : Int32)), some (.int (0 : Int32)), some (.int (0 : Int32)), some (.int (0 : Int32)), none, none, none]) (st' := [.int (0 : Int32), .ref l0]) (M' := M) rfl ?_
  obtain ⟨hc, hp⟩ := hp
  refine wq_putI (j := 5) rfl hc ?_
  refine wp_le [some (.ref l0), some (.ref l1), none, some (.ref l3), none, none, some (.int l6), some (.int s0), some (.int (l5 + (12 : Int32))), some (.int (0 : Int32)), some (.int (0 : Int32)), some (.int (0 : Int32)), some (.int (0 : Int32)), none, none, none] (zLe_of (by simp [zLeB])) ?_
  exact s55_55 n    l0 l1 l3 l6 s0 (l5 + (12 : Int32)) (0 : Int32) (0 : Int32) (0 : Int32) (0 : Int32) (zWI M l0 5 (0 : Int32)) hp hQ
def b55_22 (n : Nat)  (l0 : Nat) (l1 : Nat) (l3 : Nat) (l5 : Int32) (s0 : Int32) (M : zM) : zM := b55_29 n  l0 l1 l3 l5 s0 (b44_0 n l1 l3 M).1 (b44_0 n l1 l3 M).2
def p55_22 (n : Nat)  (l0 : Nat) (l1 : Nat) (l3 : Nat) (l5 : Int32) (s0 : Int32) (M : zM) : Prop := (zHasC 55 34 l1 M 44 1) ∧ ((p44_0 n l1 l3 M) ∧ (p55_29 n  l0 l1 l3 l5 s0 (b44_0 n l1 l3 M).1 (b44_0 n l1 l3 M).2))
theorem s55_22 (n : Nat)    (l0 : Nat) (l1 : Nat) (l3 : Nat) (l5 : Int32) (s0 : Int32) (M : zM) (hp : p55_22 n  l0 l1 l3 l5 s0 M) {Q : Option Value → zM → Prop} (hQ : ∀ r M1, zRV (b55_22 n  l0 l1 l3 l5 s0 M) r M1 → Q r M1) : zWP 55 22 [some (.ref l0), some (.ref l1), none, some (.ref l3), none, some (.int l5), none, none, none, none, none, none, none, none, none, none] [.int s0] M Q := by
  unfold b55_22 at hQ
  unfold p55_22 at hp
  refine wp_go 3 (pc' := 26) (L' := [some (.ref l0), some (.ref l1), none, some (.ref l3), none, some (.int l5), some (.int s0), none, none, none, none, none, none, none, none, none]) (st' := [.ref l3, .ref l1]) (M' := M) rfl ?_
  obtain ⟨hv, hp⟩ := hp
  obtain ⟨hc, hp⟩ := hp
  refine wp_calli (v := (b44_0 n l1 l3 M).1) (M1 := (b44_0 n l1 l3 M).2) rfl rfl rfl (zInv_v (np := 1) rfl rfl hv rfl) (s44_0 n l1 l3 M hc (fun r M1 h => h)) ?_
  exact s55_29 n    l0 l1 l3 l5 s0 (b44_0 n l1 l3 M).1 (b44_0 n l1 l3 M).2 hp hQ
def b55_11 (n : Nat)  (l0 : Nat) (l1 : Nat) (l3 : Nat) (l5 : Int32) (M : zM) : zM := b55_22 n  l0 l1 l3 l5 (b194_0 n (zI M l0 6) (zI M l0 7) M).1 (b194_0 n (zI M l0 6) (zI M l0 7) M).2
def p55_11 (n : Nat)  (l0 : Nat) (l1 : Nat) (l3 : Nat) (l5 : Int32) (M : zM) : Prop := (zHasI 7 22 l0 M 6) ∧ ((zHasI 7 25 l0 M 7) ∧ ((p194_0 n (zI M l0 6) (zI M l0 7) M) ∧ (p55_22 n  l0 l1 l3 l5 (b194_0 n (zI M l0 6) (zI M l0 7) M).1 (b194_0 n (zI M l0 6) (zI M l0 7) M).2)))
theorem s55_11 (n : Nat)    (l0 : Nat) (l1 : Nat) (l3 : Nat) (l5 : Int32) (M : zM) (hp : p55_11 n  l0 l1 l3 l5 M) {Q : Option Value → zM → Prop} (hQ : ∀ r M1, zRV (b55_11 n  l0 l1 l3 l5 M) r M1 → Q r M1) : zWP 55 11 [some (.ref l0), some (.ref l1), none, some (.ref l3), none, some (.int l5), none, none, none, none, none, none, none, none, none, none] [] M Q := by
  unfold b55_11 at hQ
  unfold p55_11 at hp
  refine wp_go 1 (pc' := 12) (L' := [some (.ref l0), some (.ref l1), none, some (.ref l3), none, some (.int l5), none, none, none, none, none, none, none, none, none, none]) (st' := [.ref l0]) (M' := M) rfl ?_
  obtain ⟨hc, hp⟩ := hp
  refine wq_getI (j := 6) rfl hc ?_
  refine wp_go 1 (pc' := 16) (L' := [some (.ref l0), some (.ref l1), none, some (.ref l3), none, some (.int l5), none, none, none, none, none, none, none, none, none, none]) (st' := [.ref l0, .int (zI M l0 6)]) (M' := M) rfl ?_
  obtain ⟨hc, hp⟩ := hp
  refine wq_getI (j := 7) rfl hc ?_
  obtain ⟨hc, hp⟩ := hp
  refine wp_calli (v := (b194_0 n (zI M l0 6) (zI M l0 7) M).1) (M1 := (b194_0 n (zI M l0 6) (zI M l0 7) M).2) rfl rfl rfl rfl (s194_0 n (zI M l0 6) (zI M l0 7) M hc (fun r M1 h => h)) ?_
  exact s55_22 n    l0 l1 l3 l5 (b194_0 n (zI M l0 6) (zI M l0 7) M).1 (b194_0 n (zI M l0 6) (zI M l0 7) M).2 hp hQ
def b55_0 (n : Nat)  (l0 : Nat) (l1 : Nat) (l2 : Int32) (l3 : Nat) (l4 : Int32) (l5 : Int32) (M : zM) : zM := b55_11 n  l0 l1 l3 l5 (b36_0 n l0 l1 l2 l3 l4 l5 M)
def p55_0 (n : Nat)  (l0 : Nat) (l1 : Nat) (l2 : Int32) (l3 : Nat) (l4 : Int32) (l5 : Int32) (M : zM) : Prop := (zHasC 55 18 l0 M 36 5) ∧ ((p36_0 n l0 l1 l2 l3 l4 l5 M) ∧ (p55_11 n  l0 l1 l3 l5 (b36_0 n l0 l1 l2 l3 l4 l5 M)))
theorem s55_0 (n : Nat)    (l0 : Nat) (l1 : Nat) (l2 : Int32) (l3 : Nat) (l4 : Int32) (l5 : Int32) (M : zM) (hp : p55_0 n  l0 l1 l2 l3 l4 l5 M) {Q : Option Value → zM → Prop} (hQ : ∀ r M1, zRV (b55_0 n  l0 l1 l2 l3 l4 l5 M) r M1 → Q r M1) : zWP 55 0 [some (.ref l0), some (.ref l1), some (.int l2), some (.ref l3), some (.int l4), some (.int l5), none, none, none, none, none, none, none, none, none, none] [] M Q := by
  unfold b55_0 at hQ
  unfold p55_0 at hp
  refine wp_go 5 (pc' := 6) (L' := [some (.ref l0), some (.ref l1), some (.int l2), some (.ref l3), some (.int l4), some (.int l5), none, none, none, none, none, none, none, none, none, none]) (st' := [.int l4, .ref l3, .int l2, .ref l1, .ref l0]) (M' := M) rfl ?_
  refine wp_go 1 (pc' := 8) (L' := [some (.ref l0), some (.ref l1), some (.int l2), some (.ref l3), some (.int l4), some (.int l5), none, none, none, none, none, none, none, none, none, none]) (st' := [.int l5, .int l4, .ref l3, .int l2, .ref l1, .ref l0]) (M' := M) rfl ?_
  obtain ⟨hv, hp⟩ := hp
  obtain ⟨hc, hp⟩ := hp
  refine wp_callv (M1 := (b36_0 n l0 l1 l2 l3 l4 l5 M)) rfl rfl rfl (zInv_v (np := 5) rfl rfl hv rfl) (s36_0 n l0 l1 l2 l3 l4 l5 M hc (fun r M1 h => h)) ?_
  refine wp_le [some (.ref l0), some (.ref l1), none, some (.ref l3), none, some (.int l5), none, none, none, none, none, none, none, none, none, none] (zLe_of (by simp [zLeB])) ?_
  exact s55_11 n    l0 l1 l3 l5 (b36_0 n l0 l1 l2 l3 l4 l5 M) hp hQ
/-! X8_goesAheadOf -/
def b56_186 (n : Nat)  (s0 : Int32) (M : zM) : Int32 × zM := (s0, M)
def p56_186 (n : Nat)  (s0 : Int32) (M : zM) : Prop := zNar .boolean s0 = true
theorem s56_186 (n : Nat)    (s0 : Int32) (M : zM) (hp : p56_186 n  s0 M) {Q : Option Value → zM → Prop} (hQ : ∀ r M1, zRI (b56_186 n  s0 M) r M1 → Q r M1) : zWP 56 186 [none, none] [.int s0] M Q := by
  unfold b56_186 at hQ
  unfold p56_186 at hp
  exact wp_retz rfl rfl hp (hQ _ _ ⟨rfl, rfl⟩)
def b56_139 (n : Nat)  (s0 : Int32) (M : zM) : Int32 × zM := (s0, M)
def p56_139 (n : Nat)  (s0 : Int32) (M : zM) : Prop := zNar .boolean s0 = true
theorem s56_139 (n : Nat)    (s0 : Int32) (M : zM) (hp : p56_139 n  s0 M) {Q : Option Value → zM → Prop} (hQ : ∀ r M1, zRI (b56_139 n  s0 M) r M1 → Q r M1) : zWP 56 139 [none, none] [.int s0] M Q := by
  unfold b56_139 at hQ
  unfold p56_139 at hp
  exact wp_retz rfl rfl hp (hQ _ _ ⟨rfl, rfl⟩)
def b56_111 (n : Nat)  (s0 : Int32) (M : zM) : Int32 × zM := (s0, M)
def p56_111 (n : Nat)  (s0 : Int32) (M : zM) : Prop := zNar .boolean s0 = true
theorem s56_111 (n : Nat)    (s0 : Int32) (M : zM) (hp : p56_111 n  s0 M) {Q : Option Value → zM → Prop} (hQ : ∀ r M1, zRI (b56_111 n  s0 M) r M1 → Q r M1) : zWP 56 111 [none, none] [.int s0] M Q := by
  unfold b56_111 at hQ
  unfold p56_111 at hp
  exact wp_retz rfl rfl hp (hQ _ _ ⟨rfl, rfl⟩)
def b56_83 (n : Nat)  (s0 : Int32) (M : zM) : Int32 × zM := (s0, M)
def p56_83 (n : Nat)  (s0 : Int32) (M : zM) : Prop := zNar .boolean s0 = true
theorem s56_83 (n : Nat)    (s0 : Int32) (M : zM) (hp : p56_83 n  s0 M) {Q : Option Value → zM → Prop} (hQ : ∀ r M1, zRI (b56_83 n  s0 M) r M1 → Q r M1) : zWP 56 83 [none, none] [.int s0] M Q := by
  unfold b56_83 at hQ
  unfold p56_83 at hp
  exact wp_retz rfl rfl hp (hQ _ _ ⟨rfl, rfl⟩)
def b56_55 (n : Nat)  (s0 : Int32) (M : zM) : Int32 × zM := (s0, M)
def p56_55 (n : Nat)  (s0 : Int32) (M : zM) : Prop := zNar .boolean s0 = true
theorem s56_55 (n : Nat)    (s0 : Int32) (M : zM) (hp : p56_55 n  s0 M) {Q : Option Value → zM → Prop} (hQ : ∀ r M1, zRI (b56_55 n  s0 M) r M1 → Q r M1) : zWP 56 55 [none, none] [.int s0] M Q := by
  unfold b56_55 at hQ
  unfold p56_55 at hp
  exact wp_retz rfl rfl hp (hQ _ _ ⟨rfl, rfl⟩)
def b56_27 (n : Nat)  (s0 : Int32) (M : zM) : Int32 × zM := (s0, M)
def p56_27 (n : Nat)  (s0 : Int32) (M : zM) : Prop := zNar .boolean s0 = true
theorem s56_27 (n : Nat)    (s0 : Int32) (M : zM) (hp : p56_27 n  s0 M) {Q : Option Value → zM → Prop} (hQ : ∀ r M1, zRI (b56_27 n  s0 M) r M1 → Q r M1) : zWP 56 27 [none, none] [.int s0] M Q := by
  unfold b56_27 at hQ
  unfold p56_27 at hp
  exact wp_retz rfl rfl hp (hQ _ _ ⟨rfl, rfl⟩)
def b56_0 (n : Nat)  (l0 : Nat) (l1 : Nat) (M : zM) : Int32 × zM := (if (zI M l0 8) = (zI M l1 8) then (if (zI M l0 9) = (zI M l1 9) then (if (zI M l0 0) = (zI M l1 0) then (if (zI M l0 2) = (zI M l1 2) then (if (zI M l0 1) = (zI M l1 1) then (if (zI M l0 3) = (zI M l1 3) then (if (zI M l1 4) ≤ (zI M l0 4) then b56_186 n  (0 : Int32) M else b56_186 n  (1 : Int32) M) else (if (zI M l1 3) ≤ (zI M l0 3) then b56_186 n  (0 : Int32) M else b56_186 n  (1 : Int32) M)) else (if (zI M l1 1) ≤ (zI M l0 1) then b56_139 n  (0 : Int32) M else b56_139 n  (1 : Int32) M)) else (if (zI M l1 2) ≤ (zI M l0 2) then b56_111 n  (0 : Int32) M else b56_111 n  (1 : Int32) M)) else (if (zI M l1 0) ≤ (zI M l0 0) then b56_83 n  (0 : Int32) M else b56_83 n  (1 : Int32) M)) else (if (zI M l1 9) ≤ (zI M l0 9) then b56_55 n  (0 : Int32) M else b56_55 n  (1 : Int32) M)) else (if (zI M l0 8) ≤ (zI M l1 8) then b56_27 n  (0 : Int32) M else b56_27 n  (1 : Int32) M))
def p56_0 (n : Nat)  (l0 : Nat) (l1 : Nat) (M : zM) : Prop := (zHasI 7 9 l0 M 8) ∧ ((zHasI 7 9 l1 M 8) ∧ ((((zI M l0 8) = (zI M l1 8) → (zHasI 7 15 l0 M 9) ∧ ((zHasI 7 15 l1 M 9) ∧ ((((zI M l0 9) = (zI M l1 9) → (zHasI 7 70 l0 M 0) ∧ ((zHasI 7 70 l1 M 0) ∧ ((((zI M l0 0) = (zI M l1 0) → (zHasI 7 73 l0 M 2) ∧ ((zHasI 7 73 l1 M 2) ∧ ((((zI M l0 2) = (zI M l1 2) → (zHasI 7 76 l0 M 1) ∧ ((zHasI 7 76 l1 M 1) ∧ ((((zI M l0 1) = (zI M l1 1) → (zHasI 7 79 l0 M 3) ∧ ((zHasI 7 79 l1 M 3) ∧ ((((zI M l0 3) = (zI M l1 3) → (zHasI 7 82 l0 M 4) ∧ ((zHasI 7 82 l1 M 4) ∧ ((((zI M l1 4) ≤ (zI M l0 4) → p56_186 n  (0 : Int32) M) ∧ (¬ (zI M l1 4) ≤ (zI M l0 4) → p56_186 n  (1 : Int32) M))))) ∧ (¬ (zI M l0 3) = (zI M l1 3) → (zHasI 7 79 l0 M 3) ∧ ((zHasI 7 79 l1 M 3) ∧ ((((zI M l1 3) ≤ (zI M l0 3) → p56_186 n  (0 : Int32) M) ∧ (¬ (zI M l1 3) ≤ (zI M l0 3) → p56_186 n  (1 : Int32) M))))))))) ∧ (¬ (zI M l0 1) = (zI M l1 1) → (zHasI 7 76 l0 M 1) ∧ ((zHasI 7 76 l1 M 1) ∧ ((((zI M l1 1) ≤ (zI M l0 1) → p56_139 n  (0 : Int32) M) ∧ (¬ (zI M l1 1) ≤ (zI M l0 1) → p56_139 n  (1 : Int32) M))))))))) ∧ (¬ (zI M l0 2) = (zI M l1 2) → (zHasI 7 73 l0 M 2) ∧ ((zHasI 7 73 l1 M 2) ∧ ((((zI M l1 2) ≤ (zI M l0 2) → p56_111 n  (0 : Int32) M) ∧ (¬ (zI M l1 2) ≤ (zI M l0 2) → p56_111 n  (1 : Int32) M))))))))) ∧ (¬ (zI M l0 0) = (zI M l1 0) → (zHasI 7 70 l0 M 0) ∧ ((zHasI 7 70 l1 M 0) ∧ ((((zI M l1 0) ≤ (zI M l0 0) → p56_83 n  (0 : Int32) M) ∧ (¬ (zI M l1 0) ≤ (zI M l0 0) → p56_83 n  (1 : Int32) M))))))))) ∧ (¬ (zI M l0 9) = (zI M l1 9) → (zHasI 7 15 l0 M 9) ∧ ((zHasI 7 15 l1 M 9) ∧ ((((zI M l1 9) ≤ (zI M l0 9) → p56_55 n  (0 : Int32) M) ∧ (¬ (zI M l1 9) ≤ (zI M l0 9) → p56_55 n  (1 : Int32) M))))))))) ∧ (¬ (zI M l0 8) = (zI M l1 8) → (zHasI 7 9 l0 M 8) ∧ ((zHasI 7 9 l1 M 8) ∧ ((((zI M l0 8) ≤ (zI M l1 8) → p56_27 n  (0 : Int32) M) ∧ (¬ (zI M l0 8) ≤ (zI M l1 8) → p56_27 n  (1 : Int32) M))))))))
theorem s56_0 (n : Nat)    (l0 : Nat) (l1 : Nat) (M : zM) (hp : p56_0 n  l0 l1 M) {Q : Option Value → zM → Prop} (hQ : ∀ r M1, zRI (b56_0 n  l0 l1 M) r M1 → Q r M1) : zWP 56 0 [some (.ref l0), some (.ref l1)] [] M Q := by
  unfold b56_0 at hQ
  unfold p56_0 at hp
  refine wp_go 1 (pc' := 1) (L' := [some (.ref l0), some (.ref l1)]) (st' := [.ref l0]) (M' := M) rfl ?_
  obtain ⟨hc, hp⟩ := hp
  refine wq_getI (j := 8) rfl hc ?_
  refine wp_go 1 (pc' := 5) (L' := [some (.ref l0), some (.ref l1)]) (st' := [.ref l1, .int (zI M l0 8)]) (M' := M) rfl ?_
  obtain ⟨hc, hp⟩ := hp
  refine wq_getI (j := 8) rfl hc ?_
  refine wp_ic_eq (t := 28) rfl rfl (fun hc => ?_) (fun hc => ?_)
  · rw [if_pos hc] at hQ
    replace hp := hp.1 hc
    refine wp_go 1 (pc' := 29) (L' := [some (.ref l0), some (.ref l1)]) (st' := [.ref l0]) (M' := M) rfl ?_
    obtain ⟨hc, hp⟩ := hp
    refine wq_getI (j := 9) rfl hc ?_
    refine wp_go 1 (pc' := 33) (L' := [some (.ref l0), some (.ref l1)]) (st' := [.ref l1, .int (zI M l0 9)]) (M' := M) rfl ?_
    obtain ⟨hc, hp⟩ := hp
    refine wq_getI (j := 9) rfl hc ?_
    refine wp_ic_eq (t := 56) rfl rfl (fun hc => ?_) (fun hc => ?_)
    · rw [if_pos hc] at hQ
      replace hp := hp.1 hc
      refine wp_go 1 (pc' := 57) (L' := [some (.ref l0), some (.ref l1)]) (st' := [.ref l0]) (M' := M) rfl ?_
      obtain ⟨hc, hp⟩ := hp
      refine wq_getI (j := 0) rfl hc ?_
      refine wp_go 1 (pc' := 61) (L' := [some (.ref l0), some (.ref l1)]) (st' := [.ref l1, .int (zI M l0 0)]) (M' := M) rfl ?_
      obtain ⟨hc, hp⟩ := hp
      refine wq_getI (j := 0) rfl hc ?_
      refine wp_ic_eq (t := 84) rfl rfl (fun hc => ?_) (fun hc => ?_)
      · rw [if_pos hc] at hQ
        replace hp := hp.1 hc
        refine wp_go 1 (pc' := 85) (L' := [some (.ref l0), some (.ref l1)]) (st' := [.ref l0]) (M' := M) rfl ?_
        obtain ⟨hc, hp⟩ := hp
        refine wq_getI (j := 2) rfl hc ?_
        refine wp_go 1 (pc' := 89) (L' := [some (.ref l0), some (.ref l1)]) (st' := [.ref l1, .int (zI M l0 2)]) (M' := M) rfl ?_
        obtain ⟨hc, hp⟩ := hp
        refine wq_getI (j := 2) rfl hc ?_
        refine wp_ic_eq (t := 112) rfl rfl (fun hc => ?_) (fun hc => ?_)
        · rw [if_pos hc] at hQ
          replace hp := hp.1 hc
          refine wp_go 1 (pc' := 113) (L' := [some (.ref l0), some (.ref l1)]) (st' := [.ref l0]) (M' := M) rfl ?_
          obtain ⟨hc, hp⟩ := hp
          refine wq_getI (j := 1) rfl hc ?_
          refine wp_go 1 (pc' := 117) (L' := [some (.ref l0), some (.ref l1)]) (st' := [.ref l1, .int (zI M l0 1)]) (M' := M) rfl ?_
          obtain ⟨hc, hp⟩ := hp
          refine wq_getI (j := 1) rfl hc ?_
          refine wp_ic_eq (t := 140) rfl rfl (fun hc => ?_) (fun hc => ?_)
          · rw [if_pos hc] at hQ
            replace hp := hp.1 hc
            refine wp_go 1 (pc' := 141) (L' := [some (.ref l0), some (.ref l1)]) (st' := [.ref l0]) (M' := M) rfl ?_
            obtain ⟨hc, hp⟩ := hp
            refine wq_getI (j := 3) rfl hc ?_
            refine wp_go 1 (pc' := 145) (L' := [some (.ref l0), some (.ref l1)]) (st' := [.ref l1, .int (zI M l0 3)]) (M' := M) rfl ?_
            obtain ⟨hc, hp⟩ := hp
            refine wq_getI (j := 3) rfl hc ?_
            refine wp_ic_eq (t := 170) rfl rfl (fun hc => ?_) (fun hc => ?_)
            · rw [if_pos hc] at hQ
              replace hp := hp.1 hc
              refine wp_go 1 (pc' := 171) (L' := [some (.ref l0), some (.ref l1)]) (st' := [.ref l0]) (M' := M) rfl ?_
              obtain ⟨hc, hp⟩ := hp
              refine wq_getI (j := 4) rfl hc ?_
              refine wp_go 1 (pc' := 175) (L' := [some (.ref l0), some (.ref l1)]) (st' := [.ref l1, .int (zI M l0 4)]) (M' := M) rfl ?_
              obtain ⟨hc, hp⟩ := hp
              refine wq_getI (j := 4) rfl hc ?_
              refine wp_ic_ge (t := 185) rfl rfl (fun hc => ?_) (fun hc => ?_)
              · rw [if_pos hc] at hQ
                replace hp := hp.1 hc
                refine wp_go 1 (pc' := 186) (L' := [some (.ref l0), some (.ref l1)]) (st' := [.int (0 : Int32)]) (M' := M) rfl ?_
                refine wp_le [none, none] (zLe_of (by simp [zLeB])) ?_
                exact s56_186 n    (0 : Int32) M hp hQ
              · rw [if_neg hc] at hQ
                replace hp := hp.2 hc
                refine wp_go 2 (pc' := 186) (L' := [some (.ref l0), some (.ref l1)]) (st' := [.int (1 : Int32)]) (M' := M) rfl ?_
                refine wp_le [none, none] (zLe_of (by simp [zLeB])) ?_
                exact s56_186 n    (1 : Int32) M hp hQ
            · rw [if_neg hc] at hQ
              replace hp := hp.2 hc
              refine wp_go 1 (pc' := 152) (L' := [some (.ref l0), some (.ref l1)]) (st' := [.ref l0]) (M' := M) rfl ?_
              obtain ⟨hc, hp⟩ := hp
              refine wq_getI (j := 3) rfl hc ?_
              refine wp_go 1 (pc' := 156) (L' := [some (.ref l0), some (.ref l1)]) (st' := [.ref l1, .int (zI M l0 3)]) (M' := M) rfl ?_
              obtain ⟨hc, hp⟩ := hp
              refine wq_getI (j := 3) rfl hc ?_
              refine wp_ic_ge (t := 166) rfl rfl (fun hc => ?_) (fun hc => ?_)
              · rw [if_pos hc] at hQ
                replace hp := hp.1 hc
                refine wp_go 2 (pc' := 186) (L' := [some (.ref l0), some (.ref l1)]) (st' := [.int (0 : Int32)]) (M' := M) rfl ?_
                refine wp_le [none, none] (zLe_of (by simp [zLeB])) ?_
                exact s56_186 n    (0 : Int32) M hp hQ
              · rw [if_neg hc] at hQ
                replace hp := hp.2 hc
                refine wp_go 2 (pc' := 186) (L' := [some (.ref l0), some (.ref l1)]) (st' := [.int (1 : Int32)]) (M' := M) rfl ?_
                refine wp_le [none, none] (zLe_of (by simp [zLeB])) ?_
                exact s56_186 n    (1 : Int32) M hp hQ
          · rw [if_neg hc] at hQ
            replace hp := hp.2 hc
            refine wp_go 1 (pc' := 124) (L' := [some (.ref l0), some (.ref l1)]) (st' := [.ref l0]) (M' := M) rfl ?_
            obtain ⟨hc, hp⟩ := hp
            refine wq_getI (j := 1) rfl hc ?_
            refine wp_go 1 (pc' := 128) (L' := [some (.ref l0), some (.ref l1)]) (st' := [.ref l1, .int (zI M l0 1)]) (M' := M) rfl ?_
            obtain ⟨hc, hp⟩ := hp
            refine wq_getI (j := 1) rfl hc ?_
            refine wp_ic_ge (t := 138) rfl rfl (fun hc => ?_) (fun hc => ?_)
            · rw [if_pos hc] at hQ
              replace hp := hp.1 hc
              refine wp_go 1 (pc' := 139) (L' := [some (.ref l0), some (.ref l1)]) (st' := [.int (0 : Int32)]) (M' := M) rfl ?_
              refine wp_le [none, none] (zLe_of (by simp [zLeB])) ?_
              exact s56_139 n    (0 : Int32) M hp hQ
            · rw [if_neg hc] at hQ
              replace hp := hp.2 hc
              refine wp_go 2 (pc' := 139) (L' := [some (.ref l0), some (.ref l1)]) (st' := [.int (1 : Int32)]) (M' := M) rfl ?_
              refine wp_le [none, none] (zLe_of (by simp [zLeB])) ?_
              exact s56_139 n    (1 : Int32) M hp hQ
        · rw [if_neg hc] at hQ
          replace hp := hp.2 hc
          refine wp_go 1 (pc' := 96) (L' := [some (.ref l0), some (.ref l1)]) (st' := [.ref l0]) (M' := M) rfl ?_
          obtain ⟨hc, hp⟩ := hp
          refine wq_getI (j := 2) rfl hc ?_
          refine wp_go 1 (pc' := 100) (L' := [some (.ref l0), some (.ref l1)]) (st' := [.ref l1, .int (zI M l0 2)]) (M' := M) rfl ?_
          obtain ⟨hc, hp⟩ := hp
          refine wq_getI (j := 2) rfl hc ?_
          refine wp_ic_ge (t := 110) rfl rfl (fun hc => ?_) (fun hc => ?_)
          · rw [if_pos hc] at hQ
            replace hp := hp.1 hc
            refine wp_go 1 (pc' := 111) (L' := [some (.ref l0), some (.ref l1)]) (st' := [.int (0 : Int32)]) (M' := M) rfl ?_
            refine wp_le [none, none] (zLe_of (by simp [zLeB])) ?_
            exact s56_111 n    (0 : Int32) M hp hQ
          · rw [if_neg hc] at hQ
            replace hp := hp.2 hc
            refine wp_go 2 (pc' := 111) (L' := [some (.ref l0), some (.ref l1)]) (st' := [.int (1 : Int32)]) (M' := M) rfl ?_
            refine wp_le [none, none] (zLe_of (by simp [zLeB])) ?_
            exact s56_111 n    (1 : Int32) M hp hQ
      · rw [if_neg hc] at hQ
        replace hp := hp.2 hc
        refine wp_go 1 (pc' := 68) (L' := [some (.ref l0), some (.ref l1)]) (st' := [.ref l0]) (M' := M) rfl ?_
        obtain ⟨hc, hp⟩ := hp
        refine wq_getI (j := 0) rfl hc ?_
        refine wp_go 1 (pc' := 72) (L' := [some (.ref l0), some (.ref l1)]) (st' := [.ref l1, .int (zI M l0 0)]) (M' := M) rfl ?_
        obtain ⟨hc, hp⟩ := hp
        refine wq_getI (j := 0) rfl hc ?_
        refine wp_ic_ge (t := 82) rfl rfl (fun hc => ?_) (fun hc => ?_)
        · rw [if_pos hc] at hQ
          replace hp := hp.1 hc
          refine wp_go 1 (pc' := 83) (L' := [some (.ref l0), some (.ref l1)]) (st' := [.int (0 : Int32)]) (M' := M) rfl ?_
          refine wp_le [none, none] (zLe_of (by simp [zLeB])) ?_
          exact s56_83 n    (0 : Int32) M hp hQ
        · rw [if_neg hc] at hQ
          replace hp := hp.2 hc
          refine wp_go 2 (pc' := 83) (L' := [some (.ref l0), some (.ref l1)]) (st' := [.int (1 : Int32)]) (M' := M) rfl ?_
          refine wp_le [none, none] (zLe_of (by simp [zLeB])) ?_
          exact s56_83 n    (1 : Int32) M hp hQ
    · rw [if_neg hc] at hQ
      replace hp := hp.2 hc
      refine wp_go 1 (pc' := 40) (L' := [some (.ref l0), some (.ref l1)]) (st' := [.ref l0]) (M' := M) rfl ?_
      obtain ⟨hc, hp⟩ := hp
      refine wq_getI (j := 9) rfl hc ?_
      refine wp_go 1 (pc' := 44) (L' := [some (.ref l0), some (.ref l1)]) (st' := [.ref l1, .int (zI M l0 9)]) (M' := M) rfl ?_
      obtain ⟨hc, hp⟩ := hp
      refine wq_getI (j := 9) rfl hc ?_
      refine wp_ic_ge (t := 54) rfl rfl (fun hc => ?_) (fun hc => ?_)
      · rw [if_pos hc] at hQ
        replace hp := hp.1 hc
        refine wp_go 1 (pc' := 55) (L' := [some (.ref l0), some (.ref l1)]) (st' := [.int (0 : Int32)]) (M' := M) rfl ?_
        refine wp_le [none, none] (zLe_of (by simp [zLeB])) ?_
        exact s56_55 n    (0 : Int32) M hp hQ
      · rw [if_neg hc] at hQ
        replace hp := hp.2 hc
        refine wp_go 2 (pc' := 55) (L' := [some (.ref l0), some (.ref l1)]) (st' := [.int (1 : Int32)]) (M' := M) rfl ?_
        refine wp_le [none, none] (zLe_of (by simp [zLeB])) ?_
        exact s56_55 n    (1 : Int32) M hp hQ
  · rw [if_neg hc] at hQ
    replace hp := hp.2 hc
    refine wp_go 1 (pc' := 12) (L' := [some (.ref l0), some (.ref l1)]) (st' := [.ref l0]) (M' := M) rfl ?_
    obtain ⟨hc, hp⟩ := hp
    refine wq_getI (j := 8) rfl hc ?_
    refine wp_go 1 (pc' := 16) (L' := [some (.ref l0), some (.ref l1)]) (st' := [.ref l1, .int (zI M l0 8)]) (M' := M) rfl ?_
    obtain ⟨hc, hp⟩ := hp
    refine wq_getI (j := 8) rfl hc ?_
    refine wp_ic_le (t := 26) rfl rfl (fun hc => ?_) (fun hc => ?_)
    · rw [if_pos hc] at hQ
      replace hp := hp.1 hc
      refine wp_go 1 (pc' := 27) (L' := [some (.ref l0), some (.ref l1)]) (st' := [.int (0 : Int32)]) (M' := M) rfl ?_
      refine wp_le [none, none] (zLe_of (by simp [zLeB])) ?_
      exact s56_27 n    (0 : Int32) M hp hQ
    · rw [if_neg hc] at hQ
      replace hp := hp.2 hc
      refine wp_go 2 (pc' := 27) (L' := [some (.ref l0), some (.ref l1)]) (st' := [.int (1 : Int32)]) (M' := M) rfl ?_
      refine wp_le [none, none] (zLe_of (by simp [zLeB])) ?_
      exact s56_27 n    (1 : Int32) M hp hQ
