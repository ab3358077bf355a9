/-! X12_freeJoin -/
def c164_2 (n : Nat) (k2 : Nat → Int32 → zM → Int32 × zM) (l0 : Nat) (l1 : Int32) (M : zM) : Int32 × zM := (if (zI M (zQ M l0 17) l1.toNatClampNeg) = 0 then (l1, M) else k2 l0 (l1 + Int32.ofInt 1) M)
def d164_2 (n : Nat) (q2 : Nat → Int32 → zM → Prop) (l0 : Nat) (l1 : Int32) (M : zM) : Prop := (zHasQ 10 54 l0 M 17) ∧ ((zOkT 2 (zQ M l0 17) l1 M) ∧ ((((zI M (zQ M l0 17) l1.toNatClampNeg) = 0 → True) ∧ (¬ (zI M (zQ M l0 17) l1.toNatClampNeg) = 0 → q2 l0 (l1 + Int32.ofInt 1) M))))
theorem t164_2 (n : Nat) (k2 : Nat → Int32 → zM → Int32 × zM) (q2 : Nat → Int32 → zM → Prop) (h2 : ∀ (l0 : Nat) (l1 : Int32) (M : zM), q2 l0 l1 M → ∀ {Q : Option Value → zM → Prop}, (∀ r M1, zRI (k2 l0 l1 M) r M1 → Q r M1) → zWP 164 2 [some (.ref l0), some (.int l1)] [] M Q) (l0 : Nat) (l1 : Int32) (M : zM) (hp : d164_2 n q2 l0 l1 M) {Q : Option Value → zM → Prop} (hQ : ∀ r M1, zRI (c164_2 n k2 l0 l1 M) r M1 → Q r M1) : zWP 164 2 [some (.ref l0), some (.int l1)] [] M Q := by
  unfold c164_2 at hQ
  unfold d164_2 at hp
  refine wp_go 1 (pc' := 3) (L' := [some (.ref l0), some (.int l1)]) (st' := [.ref l0]) (M' := M) rfl ?_
  obtain ⟨hc, hp⟩ := hp
  refine wq_getQ (j := 17) rfl hc ?_
  refine wp_go 1 (pc' := 7) (L' := [some (.ref l0), some (.int l1)]) (st' := [.int l1, .ref (zQ M l0 17)]) (M' := M) rfl ?_
  obtain ⟨hc, hp⟩ := hp
  refine wq_zald rfl hc ?_
  refine wp_if_eq (t := 17) rfl rfl (fun hc => ?_) (fun hc => ?_)
  · rw [if_pos hc] at hQ
    replace hp := hp.1 hc
    refine wp_go 1 (pc' := 18) (L' := [some (.ref l0), some (.int l1)]) (st' := [.int l1]) (M' := M) rfl ?_
    exact wp_ret (r := some (.int l1)) rfl rfl (hQ _ _ ⟨rfl, rfl⟩)
  · rw [if_neg hc] at hQ
    replace hp := hp.2 hc
    refine wp_go 2 (pc' := 2) (L' := [some (.ref l0), some (.int (l1 + Int32.ofInt 1))]) (st' := []) (M' := M) rfl ?_
    exact h2 l0 (l1 + Int32.ofInt 1) M hp hQ
def b164_2 (n : Nat)  : Nat → Nat → Int32 → zM → Int32 × zM
  | 0, _, _, M => (0, M)
  | k + 1, l0, l1, M => c164_2 n  (b164_2 n  k) l0 l1 M
def p164_2 (n : Nat)  : Nat → Nat → Int32 → zM → Prop
  | 0, _, _, _ => False
  | k + 1, l0, l1, M => d164_2 n  (p164_2 n  k) l0 l1 M
theorem s164_2 (n : Nat)    : ∀ (k : Nat) (l0 : Nat) (l1 : Int32) (M : zM), p164_2 n  k l0 l1 M → ∀ {Q : Option Value → zM → Prop}, (∀ r M1, zRI (b164_2 n  k l0 l1 M) r M1 → Q r M1) → zWP 164 2 [some (.ref l0), some (.int l1)] [] M Q
  | 0, _, _, _, h, _, _ => h.elim
  | k + 1, l0, l1, M, h, _, hQ => t164_2 n  (b164_2 n  k)  (p164_2 n  k)  (s164_2 n    k) l0 l1 M h hQ
def b164_0 (n : Nat)  (l0 : Nat) (M : zM) : Int32 × zM := b164_2 n  n l0 (0 : Int32) M
def p164_0 (n : Nat)  (l0 : Nat) (M : zM) : Prop := p164_2 n  n l0 (0 : Int32) M
theorem s164_0 (n : Nat)    (l0 : Nat) (M : zM) (hp : p164_0 n  l0 M) {Q : Option Value → zM → Prop} (hQ : ∀ r M1, zRI (b164_0 n  l0 M) r M1 → Q r M1) : zWP 164 0 [some (.ref l0), none] [] M Q := by
  unfold b164_0 at hQ
  unfold p164_0 at hp
  refine wp_go 2 (pc' := 2) (L' := [some (.ref l0), some (.int (0 : Int32))]) (st' := []) (M' := M) rfl ?_
  exact s164_2 n    n l0 (0 : Int32) M hp hQ
/-! X12_putJoin -/
def b165_61 (n : Nat)   (M : zM) : zM := M
def p165_61 (n : Nat)   (M : zM) : Prop := True
theorem s165_61 (n : Nat)     (M : zM) (hp : p165_61 n   M) {Q : Option Value → zM → Prop} (hQ : ∀ r M1, zRV (b165_61 n   M) r M1 → Q r M1) : zWP 165 61 [none, none, none, none, none, none, none, none, none] [] M Q := by
  unfold b165_61 at hQ
  unfold p165_61 at hp
  exact wp_ret (r := none) rfl rfl (hQ _ _ ⟨rfl, rfl⟩)
def b165_53 (n : Nat)  (l0 : Nat) (l1 : Int32) (l8 : Int32) (M : zM) : zM := b165_61 n  (zWI M (zQ M l0 24) l1.toNatClampNeg l8)
def p165_53 (n : Nat)  (l0 : Nat) (l1 : Int32) (l8 : Int32) (M : zM) : Prop := (zHasQ 10 75 l0 M 24) ∧ ((zOkT 2 (zQ M l0 24) l1 M ∧ zNar .boolean l8 = true) ∧ (p165_61 n  (zWI M (zQ M l0 24) l1.toNatClampNeg l8)))
theorem s165_53 (n : Nat)    (l0 : Nat) (l1 : Int32) (l8 : Int32) (M : zM) (hp : p165_53 n  l0 l1 l8 M) {Q : Option Value → zM → Prop} (hQ : ∀ r M1, zRV (b165_53 n  l0 l1 l8 M) r M1 → Q r M1) : zWP 165 53 [some (.ref l0), some (.int l1), none, none, none, none, none, none, some (.int l8)] [] M Q := by
  unfold b165_53 at hQ
  unfold p165_53 at hp
  refine wp_go 1 (pc' := 54) (L' := [some (.ref l0), some (.int l1), none, none, none, none, none, none, some (.int l8)]) (st' := [.ref l0]) (M' := M) rfl ?_
  obtain ⟨hc, hp⟩ := hp
  refine wq_getQ (j := 24) rfl hc ?_
  refine wp_go 2 (pc' := 60) (L' := [some (.ref l0), some (.int l1), none, none, none, none, none, none, some (.int l8)]) (st' := [.int l8, .int l1, .ref (zQ M l0 24)]) (M' := M) rfl ?_
  obtain ⟨hc, hp⟩ := hp
  refine wq_zast rfl hc ?_
  refine wp_le [none, none, none, none, none, none, none, none, none] (zLe_of (by simp [zLeB])) ?_
  exact s165_61 n    (zWI M (zQ M l0 24) l1.toNatClampNeg l8) hp hQ
def b165_45 (n : Nat)  (l0 : Nat) (l1 : Int32) (l7 : Int32) (l8 : Int32) (M : zM) : zM := b165_53 n  l0 l1 l8 (zWI M (zQ M l0 23) l1.toNatClampNeg l7)
def p165_45 (n : Nat)  (l0 : Nat) (l1 : Int32) (l7 : Int32) (l8 : Int32) (M : zM) : Prop := (zHasQ 10 72 l0 M 23) ∧ ((zOkT 1 (zQ M l0 23) l1 M) ∧ (p165_53 n  l0 l1 l8 (zWI M (zQ M l0 23) l1.toNatClampNeg l7)))
theorem s165_45 (n : Nat)    (l0 : Nat) (l1 : Int32) (l7 : Int32) (l8 : Int32) (M : zM) (hp : p165_45 n  l0 l1 l7 l8 M) {Q : Option Value → zM → Prop} (hQ : ∀ r M1, zRV (b165_45 n  l0 l1 l7 l8 M) r M1 → Q r M1) : zWP 165 45 [some (.ref l0), some (.int l1), none, none, none, none, none, some (.int l7), some (.int l8)] [] M Q := by
  unfold b165_45 at hQ
  unfold p165_45 at hp
  refine wp_go 1 (pc' := 46) (L' := [some (.ref l0), some (.int l1), none, none, none, none, none, some (.int l7), some (.int l8)]) (st' := [.ref l0]) (M' := M) rfl ?_
  obtain ⟨hc, hp⟩ := hp
  refine wq_getQ (j := 23) rfl hc ?_
  refine wp_go 2 (pc' := 52) (L' := [some (.ref l0), some (.int l1), none, none, none, none, none, some (.int l7), some (.int l8)]) (st' := [.int l7, .int l1, .ref (zQ M l0 23)]) (M' := M) rfl ?_
  obtain ⟨hc, hp⟩ := hp
  refine wq_iast rfl hc ?_
  refine wp_le [some (.ref l0), some (.int l1), none, none, none, none, none, none, some (.int l8)] (zLe_of (by simp [zLeB])) ?_
  exact s165_53 n    l0 l1 l8 (zWI M (zQ M l0 23) l1.toNatClampNeg l7) hp hQ
def b165_37 (n : Nat)  (l0 : Nat) (l1 : Int32) (l6 : Int32) (l7 : Int32) (l8 : Int32) (M : zM) : zM := b165_45 n  l0 l1 l7 l8 (zWI M (zQ M l0 22) l1.toNatClampNeg l6)
def p165_37 (n : Nat)  (l0 : Nat) (l1 : Int32) (l6 : Int32) (l7 : Int32) (l8 : Int32) (M : zM) : Prop := (zHasQ 10 69 l0 M 22) ∧ ((zOkT 1 (zQ M l0 22) l1 M) ∧ (p165_45 n  l0 l1 l7 l8 (zWI M (zQ M l0 22) l1.toNatClampNeg l6)))
theorem s165_37 (n : Nat)    (l0 : Nat) (l1 : Int32) (l6 : Int32) (l7 : Int32) (l8 : Int32) (M : zM) (hp : p165_37 n  l0 l1 l6 l7 l8 M) {Q : Option Value → zM → Prop} (hQ : ∀ r M1, zRV (b165_37 n  l0 l1 l6 l7 l8 M) r M1 → Q r M1) : zWP 165 37 [some (.ref l0), some (.int l1), none, none, none, none, some (.int l6), some (.int l7), some (.int l8)] [] M Q := by
  unfold b165_37 at hQ
  unfold p165_37 at hp
  refine wp_go 1 (pc' := 38) (L' := [some (.ref l0), some (.int l1), none, none, none, none, some (.int l6), some (.int l7), some (.int l8)]) (st' := [.ref l0]) (M' := M) rfl ?_
  obtain ⟨hc, hp⟩ := hp
  refine wq_getQ (j := 22) rfl hc ?_
  refine wp_go 2 (pc' := 44) (L' := [some (.ref l0), some (.int l1), none, none, none, none, some (.int l6), some (.int l7), some (.int l8)]) (st' := [.int l6, .int l1, .ref (zQ M l0 22)]) (M' := M) rfl ?_
  obtain ⟨hc, hp⟩ := hp
  refine wq_iast rfl hc ?_
  refine wp_le [some (.ref l0), some (.int l1), none, none, none, none, none, some (.int l7), some (.int l8)] (zLe_of (by simp [zLeB])) ?_
  exact s165_45 n    l0 l1 l7 l8 (zWI M (zQ M l0 22) l1.toNatClampNeg l6) hp hQ
def b165_29 (n : Nat)  (l0 : Nat) (l1 : Int32) (l5 : Int32) (l6 : Int32) (l7 : Int32) (l8 : Int32) (M : zM) : zM := b165_37 n  l0 l1 l6 l7 l8 (zWI M (zQ M l0 21) l1.toNatClampNeg l5)
def p165_29 (n : Nat)  (l0 : Nat) (l1 : Int32) (l5 : Int32) (l6 : Int32) (l7 : Int32) (l8 : Int32) (M : zM) : Prop := (zHasQ 10 66 l0 M 21) ∧ ((zOkT 1 (zQ M l0 21) l1 M) ∧ (p165_37 n  l0 l1 l6 l7 l8 (zWI M (zQ M l0 21) l1.toNatClampNeg l5)))
theorem s165_29 (n : Nat)    (l0 : Nat) (l1 : Int32) (l5 : Int32) (l6 : Int32) (l7 : Int32) (l8 : Int32) (M : zM) (hp : p165_29 n  l0 l1 l5 l6 l7 l8 M) {Q : Option Value → zM → Prop} (hQ : ∀ r M1, zRV (b165_29 n  l0 l1 l5 l6 l7 l8 M) r M1 → Q r M1) : zWP 165 29 [some (.ref l0), some (.int l1), none, none, none, some (.int l5), some (.int l6), some (.int l7), some (.int l8)] [] M Q := by
  unfold b165_29 at hQ
  unfold p165_29 at hp
  refine wp_go 1 (pc' := 30) (L' := [some (.ref l0), some (.int l1), none, none, none, some (.int l5), some (.int l6), some (.int l7), some (.int l8)]) (st' := [.ref l0]) (M' := M) rfl ?_
  obtain ⟨hc, hp⟩ := hp
  refine wq_getQ (j := 21) rfl hc ?_
  refine wp_go 2 (pc' := 36) (L' := [some (.ref l0), some (.int l1), none, none, none, some (.int l5), some (.int l6), some (.int l7), some (.int l8)]) (st' := [.int l5, .int l1, .ref (zQ M l0 21)]) (M' := M) rfl ?_
  obtain ⟨hc, hp⟩ := hp
  refine wq_iast rfl hc ?_
  refine wp_le [some (.ref l0), some (.int l1), none, none, none, none, some (.int l6), some (.int l7), some (.int l8)] (zLe_of (by simp [zLeB])) ?_
  exact s165_37 n    l0 l1 l6 l7 l8 (zWI M (zQ M l0 21) l1.toNatClampNeg l5) hp hQ
def b165_21 (n : Nat)  (l0 : Nat) (l1 : Int32) (l4 : Int32) (l5 : Int32) (l6 : Int32) (l7 : Int32) (l8 : Int32) (M : zM) : zM := b165_29 n  l0 l1 l5 l6 l7 l8 (zWI M (zQ M l0 20) l1.toNatClampNeg l4)
def p165_21 (n : Nat)  (l0 : Nat) (l1 : Int32) (l4 : Int32) (l5 : Int32) (l6 : Int32) (l7 : Int32) (l8 : Int32) (M : zM) : Prop := (zHasQ 10 63 l0 M 20) ∧ ((zOkT 1 (zQ M l0 20) l1 M) ∧ (p165_29 n  l0 l1 l5 l6 l7 l8 (zWI M (zQ M l0 20) l1.toNatClampNeg l4)))
theorem s165_21 (n : Nat)    (l0 : Nat) (l1 : Int32) (l4 : Int32) (l5 : Int32) (l6 : Int32) (l7 : Int32) (l8 : Int32) (M : zM) (hp : p165_21 n  l0 l1 l4 l5 l6 l7 l8 M) {Q : Option Value → zM → Prop} (hQ : ∀ r M1, zRV (b165_21 n  l0 l1 l4 l5 l6 l7 l8 M) r M1 → Q r M1) : zWP 165 21 [some (.ref l0), some (.int l1), none, none, some (.int l4), some (.int l5), some (.int l6), some (.int l7), some (.int l8)] [] M Q := by
  unfold b165_21 at hQ
  unfold p165_21 at hp
  refine wp_go 1 (pc' := 22) (L' := [some (.ref l0), some (.int l1), none, none, some (.int l4), some (.int l5), some (.int l6), some (.int l7), some (.int l8)]) (st' := [.ref l0]) (M' := M) rfl ?_
  obtain ⟨hc, hp⟩ := hp
  refine wq_getQ (j := 20) rfl hc ?_
  refine wp_go 2 (pc' := 28) (L' := [some (.ref l0), some (.int l1), none, none, some (.int l4), some (.int l5), some (.int l6), some (.int l7), some (.int l8)]) (st' := [.int l4, .int l1, .ref (zQ M l0 20)]) (M' := M) rfl ?_
  obtain ⟨hc, hp⟩ := hp
  refine wq_iast rfl hc ?_
  refine wp_le [some (.ref l0), some (.int l1), none, none, none, some (.int l5), some (.int l6), some (.int l7), some (.int l8)] (zLe_of (by simp [zLeB])) ?_
  exact s165_29 n    l0 l1 l5 l6 l7 l8 (zWI M (zQ M l0 20) l1.toNatClampNeg l4) hp hQ
def b165_14 (n : Nat)  (l0 : Nat) (l1 : Int32) (l3 : Int32) (l4 : Int32) (l5 : Int32) (l6 : Int32) (l7 : Int32) (l8 : Int32) (M : zM) : zM := b165_21 n  l0 l1 l4 l5 l6 l7 l8 (zWI M (zQ M l0 19) l1.toNatClampNeg l3)
def p165_14 (n : Nat)  (l0 : Nat) (l1 : Int32) (l3 : Int32) (l4 : Int32) (l5 : Int32) (l6 : Int32) (l7 : Int32) (l8 : Int32) (M : zM) : Prop := (zHasQ 10 60 l0 M 19) ∧ ((zOkT 1 (zQ M l0 19) l1 M) ∧ (p165_21 n  l0 l1 l4 l5 l6 l7 l8 (zWI M (zQ M l0 19) l1.toNatClampNeg l3)))
theorem s165_14 (n : Nat)    (l0 : Nat) (l1 : Int32) (l3 : Int32) (l4 : Int32) (l5 : Int32) (l6 : Int32) (l7 : Int32) (l8 : Int32) (M : zM) (hp : p165_14 n  l0 l1 l3 l4 l5 l6 l7 l8 M) {Q : Option Value → zM → Prop} (hQ : ∀ r M1, zRV (b165_14 n  l0 l1 l3 l4 l5 l6 l7 l8 M) r M1 → Q r M1) : zWP 165 14 [some (.ref l0), some (.int l1), none, some (.int l3), some (.int l4), some (.int l5), some (.int l6), some (.int l7), some (.int l8)] [] M Q := by
  unfold b165_14 at hQ
  unfold p165_14 at hp
  refine wp_go 1 (pc' := 15) (L' := [some (.ref l0), some (.int l1), none, some (.int l3), some (.int l4), some (.int l5), some (.int l6), some (.int l7), some (.int l8)]) (st' := [.ref l0]) (M' := M) rfl ?_
  obtain ⟨hc, hp⟩ := hp
  refine wq_getQ (j := 19) rfl hc ?_
  refine wp_go 2 (pc' := 20) (L' := [some (.ref l0), some (.int l1), none, some (.int l3), some (.int l4), some (.int l5), some (.int l6), some (.int l7), some (.int l8)]) (st' := [.int l3, .int l1, .ref (zQ M l0 19)]) (M' := M) rfl ?_
  obtain ⟨hc, hp⟩ := hp
  refine wq_iast rfl hc ?_
  refine wp_le [some (.ref l0), some (.int l1), none, none, some (.int l4), some (.int l5), some (.int l6), some (.int l7), some (.int l8)] (zLe_of (by simp [zLeB])) ?_
  exact s165_21 n    l0 l1 l4 l5 l6 l7 l8 (zWI M (zQ M l0 19) l1.toNatClampNeg l3) hp hQ
def b165_7 (n : Nat)  (l0 : Nat) (l1 : Int32) (l2 : Int32) (l3 : Int32) (l4 : Int32) (l5 : Int32) (l6 : Int32) (l7 : Int32) (l8 : Int32) (M : zM) : zM := b165_14 n  l0 l1 l3 l4 l5 l6 l7 l8 (zWI M (zQ M l0 18) l1.toNatClampNeg l2)
def p165_7 (n : Nat)  (l0 : Nat) (l1 : Int32) (l2 : Int32) (l3 : Int32) (l4 : Int32) (l5 : Int32) (l6 : Int32) (l7 : Int32) (l8 : Int32) (M : zM) : Prop := (zHasQ 10 57 l0 M 18) ∧ ((zOkT 1 (zQ M l0 18) l1 M) ∧ (p165_14 n  l0 l1 l3 l4 l5 l6 l7 l8 (zWI M (zQ M l0 18) l1.toNatClampNeg l2)))
theorem s165_7 (n : Nat)    (l0 : Nat) (l1 : Int32) (l2 : Int32) (l3 : Int32) (l4 : Int32) (l5 : Int32) (l6 : Int32) (l7 : Int32) (l8 : Int32) (M : zM) (hp : p165_7 n  l0 l1 l2 l3 l4 l5 l6 l7 l8 M) {Q : Option Value → zM → Prop} (hQ : ∀ r M1, zRV (b165_7 n  l0 l1 l2 l3 l4 l5 l6 l7 l8 M) r M1 → Q r M1) : zWP 165 7 [some (.ref l0), some (.int l1), some (.int l2), some (.int l3), some (.int l4), some (.int l5), some (.int l6), some (.int l7), some (.int l8)] [] M Q := by
  unfold b165_7 at hQ
  unfold p165_7 at hp
  refine wp_go 1 (pc' := 8) (L' := [some (.ref l0), some (.int l1), some (.int l2), some (.int l3), some (.int l4), some (.int l5), some (.int l6), some (.int l7), some (.int l8)]) (st' := [.ref l0]) (M' := M) rfl ?_
  obtain ⟨hc, hp⟩ := hp
  refine wq_getQ (j := 18) rfl hc ?_
  refine wp_go 2 (pc' := 13) (L' := [some (.ref l0), some (.int l1), some (.int l2), some (.int l3), some (.int l4), some (.int l5), some (.int l6), some (.int l7), some (.int l8)]) (st' := [.int l2, .int l1, .ref (zQ M l0 18)]) (M' := M) rfl ?_
  obtain ⟨hc, hp⟩ := hp
  refine wq_iast rfl hc ?_
  refine wp_le [some (.ref l0), some (.int l1), none, some (.int l3), some (.int l4), some (.int l5), some (.int l6), some (.int l7), some (.int l8)] (zLe_of (by simp [zLeB])) ?_
  exact s165_14 n    l0 l1 l3 l4 l5 l6 l7 l8 (zWI M (zQ M l0 18) l1.toNatClampNeg l2) hp hQ
def b165_0 (n : Nat)  (l0 : Nat) (l1 : Int32) (l2 : Int32) (l3 : Int32) (l4 : Int32) (l5 : Int32) (l6 : Int32) (l7 : Int32) (l8 : Int32) (M : zM) : zM := b165_7 n  l0 l1 l2 l3 l4 l5 l6 l7 l8 (zWI M (zQ M l0 17) l1.toNatClampNeg (1 : Int32))
def p165_0 (n : Nat)  (l0 : Nat) (l1 : Int32) (l2 : Int32) (l3 : Int32) (l4 : Int32) (l5 : Int32) (l6 : Int32) (l7 : Int32) (l8 : Int32) (M : zM) : Prop := (zHasQ 10 54 l0 M 17) ∧ ((zOkT 2 (zQ M l0 17) l1 M ∧ zNar .boolean (1 : Int32) = true) ∧ (p165_7 n  l0 l1 l2 l3 l4 l5 l6 l7 l8 (zWI M (zQ M l0 17) l1.toNatClampNeg (1 : Int32))))
theorem s165_0 (n : Nat)    (l0 : Nat) (l1 : Int32) (l2 : Int32) (l3 : Int32) (l4 : Int32) (l5 : Int32) (l6 : Int32) (l7 : Int32) (l8 : Int32) (M : zM) (hp : p165_0 n  l0 l1 l2 l3 l4 l5 l6 l7 l8 M) {Q : Option Value → zM → Prop} (hQ : ∀ r M1, zRV (b165_0 n  l0 l1 l2 l3 l4 l5 l6 l7 l8 M) r M1 → Q r M1) : zWP 165 0 [some (.ref l0), some (.int l1), some (.int l2), some (.int l3), some (.int l4), some (.int l5), some (.int l6), some (.int l7), some (.int l8)] [] M Q := by
  unfold b165_0 at hQ
  unfold p165_0 at hp
  refine wp_go 1 (pc' := 1) (L' := [some (.ref l0), some (.int l1), some (.int l2), some (.int l3), some (.int l4), some (.int l5), some (.int l6), some (.int l7), some (.int l8)]) (st' := [.ref l0]) (M' := M) rfl ?_
  obtain ⟨hc, hp⟩ := hp
  refine wq_getQ (j := 17) rfl hc ?_
  refine wp_go 2 (pc' := 6) (L' := [some (.ref l0), some (.int l1), some (.int l2), some (.int l3), some (.int l4), some (.int l5), some (.int l6), some (.int l7), some (.int l8)]) (st' := [.int (1 : Int32), .int l1, .ref (zQ M l0 17)]) (M' := M) rfl ?_
  obtain ⟨hc, hp⟩ := hp
  refine wq_zast rfl hc ?_
  exact s165_7 n    l0 l1 l2 l3 l4 l5 l6 l7 l8 (zWI M (zQ M l0 17) l1.toNatClampNeg (1 : Int32)) hp hQ
/-! X12_holds -/
def b166_96 (n : Nat) (k2 : Nat → Int32 → Int32 → Int32 → zM → zM) (l0 : Nat) (l1 : Int32) (l2 : Int32) (l3 : Int32) (M : zM) : zM := k2 l0 l1 l2 (l3 + Int32.ofInt 1) M
def p166_96 (n : Nat) (q2 : Nat → Int32 → Int32 → Int32 → zM → Prop) (l0 : Nat) (l1 : Int32) (l2 : Int32) (l3 : Int32) (M : zM) : Prop := q2 l0 l1 l2 (l3 + Int32.ofInt 1) M
theorem s166_96 (n : Nat) (k2 : Nat → Int32 → Int32 → Int32 → zM → zM) (q2 : Nat → Int32 → Int32 → Int32 → zM → Prop) (h2 : ∀ (l0 : Nat) (l1 : Int32) (l2 : Int32) (l3 : Int32) (M : zM), q2 l0 l1 l2 l3 M → ∀ {Q : Option Value → zM → Prop}, (∀ r M1, zRV (k2 l0 l1 l2 l3 M) r M1 → Q r M1) → zWP 166 2 [some (.ref l0), some (.int l1), some (.int l2), some (.int l3)] [] M Q) (l0 : Nat) (l1 : Int32) (l2 : Int32) (l3 : Int32) (M : zM) (hp : p166_96 n q2 l0 l1 l2 l3 M) {Q : Option Value → zM → Prop} (hQ : ∀ r M1, zRV (b166_96 n k2 l0 l1 l2 l3 M) r M1 → Q r M1) : zWP 166 96 [some (.ref l0), some (.int l1), some (.int l2), some (.int l3)] [] M Q := by
  unfold b166_96 at hQ
  unfold p166_96 at hp
  refine wp_go 2 (pc' := 2) (L' := [some (.ref l0), some (.int l1), some (.int l2), some (.int (l3 + Int32.ofInt 1))]) (st' := []) (M' := M) rfl ?_
  exact h2 l0 l1 l2 (l3 + Int32.ofInt 1) M hp hQ
def b166_48 (n : Nat) (k2 : Nat → Int32 → Int32 → Int32 → zM → zM) (l0 : Nat) (l1 : Int32) (l2 : Int32) (l3 : Int32) (M : zM) : zM := b166_96 n k2 l0 l1 l2 l3 (zWI M (zQ M l0 10) (((20 : Int32) * (zI M (zQ M l0 20) l1.toNatClampNeg)) + ((((zI M (zQ M l0 21) l1.toNatClampNeg) - l3) + (zI M (zQ M l0 2) (zI M (zQ M l0 20) l1.toNatClampNeg).toNatClampNeg)) - (((zI M (zQ M l0 21) l1.toNatClampNeg) - l3) + (zI M (zQ M l0 2) (zI M (zQ M l0 20) l1.toNatClampNeg).toNatClampNeg)) / (zI M (zQ M l0 2) (zI M (zQ M l0 20) l1.toNatClampNeg).toNatClampNeg) * (zI M (zQ M l0 2) (zI M (zQ M l0 20) l1.toNatClampNeg).toNatClampNeg))).toNatClampNeg l2)
def p166_48 (n : Nat) (q2 : Nat → Int32 → Int32 → Int32 → zM → Prop) (l0 : Nat) (l1 : Int32) (l2 : Int32) (l3 : Int32) (M : zM) : Prop := (zHasQ 10 38 l0 M 10) ∧ ((zHasQ 10 63 l0 M 20) ∧ ((zOkI (zQ M l0 20) l1 M) ∧ ((zHasQ 10 66 l0 M 21) ∧ ((zOkI (zQ M l0 21) l1 M) ∧ ((zHasQ 10 13 l0 M 2) ∧ ((zHasQ 10 63 l0 M 20) ∧ ((zOkI (zQ M l0 20) l1 M) ∧ ((zOkI (zQ M l0 2) (zI M (zQ M l0 20) l1.toNatClampNeg) M) ∧ ((zHasQ 10 13 l0 M 2) ∧ ((zHasQ 10 63 l0 M 20) ∧ ((zOkI (zQ M l0 20) l1 M) ∧ ((zOkI (zQ M l0 2) (zI M (zQ M l0 20) l1.toNatClampNeg) M) ∧ ((¬ (zI M (zQ M l0 2) (zI M (zQ M l0 20) l1.toNatClampNeg).toNatClampNeg) = 0) ∧ ((zOkT 1 (zQ M l0 10) (((20 : Int32) * (zI M (zQ M l0 20) l1.toNatClampNeg)) + ((((zI M (zQ M l0 21) l1.toNatClampNeg) - l3) + (zI M (zQ M l0 2) (zI M (zQ M l0 20) l1.toNatClampNeg).toNatClampNeg)) - (((zI M (zQ M l0 21) l1.toNatClampNeg) - l3) + (zI M (zQ M l0 2) (zI M (zQ M l0 20) l1.toNatClampNeg).toNatClampNeg)) / (zI M (zQ M l0 2) (zI M (zQ M l0 20) l1.toNatClampNeg).toNatClampNeg) * (zI M (zQ M l0 2) (zI M (zQ M l0 20) l1.toNatClampNeg).toNatClampNeg))) M) ∧ (p166_96 n q2 l0 l1 l2 l3 (zWI M (zQ M l0 10) (((20 : Int32) * (zI M (zQ M l0 20) l1.toNatClampNeg)) + ((((zI M (zQ M l0 21) l1.toNatClampNeg) - l3) + (zI M (zQ M l0 2) (zI M (zQ M l0 20) l1.toNatClampNeg).toNatClampNeg)) - (((zI M (zQ M l0 21) l1.toNatClampNeg) - l3) + (zI M (zQ M l0 2) (zI M (zQ M l0 20) l1.toNatClampNeg).toNatClampNeg)) / (zI M (zQ M l0 2) (zI M (zQ M l0 20) l1.toNatClampNeg).toNatClampNeg) * (zI M (zQ M l0 2) (zI M (zQ M l0 20) l1.toNatClampNeg).toNatClampNeg))).toNatClampNeg l2))))))))))))))))
theorem s166_48 (n : Nat) (k2 : Nat → Int32 → Int32 → Int32 → zM → zM) (q2 : Nat → Int32 → Int32 → Int32 → zM → Prop) (h2 : ∀ (l0 : Nat) (l1 : Int32) (l2 : Int32) (l3 : Int32) (M : zM), q2 l0 l1 l2 l3 M → ∀ {Q : Option Value → zM → Prop}, (∀ r M1, zRV (k2 l0 l1 l2 l3 M) r M1 → Q r M1) → zWP 166 2 [some (.ref l0), some (.int l1), some (.int l2), some (.int l3)] [] M Q) (l0 : Nat) (l1 : Int32) (l2 : Int32) (l3 : Int32) (M : zM) (hp : p166_48 n q2 l0 l1 l2 l3 M) {Q : Option Value → zM → Prop} (hQ : ∀ r M1, zRV (b166_48 n k2 l0 l1 l2 l3 M) r M1 → Q r M1) : zWP 166 48 [some (.ref l0), some (.int l1), some (.int l2), some (.int l3)] [] M Q := by
  unfold b166_48 at hQ
  unfold p166_48 at hp
  refine wp_go 1 (pc' := 49) (L' := [some (.ref l0), some (.int l1), some (.int l2), some (.int l3)]) (st' := [.ref l0]) (M' := M) rfl ?_
  obtain ⟨hc, hp⟩ := hp
  refine wq_getQ (j := 10) rfl hc ?_
  refine wp_go 2 (pc' := 55) (L' := [some (.ref l0), some (.int l1), some (.int l2), some (.int l3)]) (st' := [.ref l0, .int (20 : Int32), .ref (zQ M l0 10)]) (M' := M) rfl ?_
  obtain ⟨hc, hp⟩ := hp
  refine wq_getQ (j := 20) rfl hc ?_
  refine wp_go 1 (pc' := 59) (L' := [some (.ref l0), some (.int l1), some (.int l2), some (.int l3)]) (st' := [.int l1, .ref (zQ M l0 20), .int (20 : Int32), .ref (zQ M l0 10)]) (M' := M) rfl ?_
  obtain ⟨hc, hp⟩ := hp
  refine wq_iald rfl hc ?_
  refine wp_go 2 (pc' := 62) (L' := [some (.ref l0), some (.int l1), some (.int l2), some (.int l3)]) (st' := [.ref l0, .int ((20 : Int32) * (zI M (zQ M l0 20) l1.toNatClampNeg)), .ref (zQ M l0 10)]) (M' := M) rfl ?_
  obtain ⟨hc, hp⟩ := hp
  refine wq_getQ (j := 21) rfl hc ?_
  refine wp_go 1 (pc' := 66) (L' := [some (.ref l0), some (.int l1), some (.int l2), some (.int l3)]) (st' := [.int l1, .ref (zQ M l0 21), .int ((20 : Int32) * (zI M (zQ M l0 20) l1.toNatClampNeg)), .ref (zQ M l0 10)]) (M' := M) rfl ?_
  obtain ⟨hc, hp⟩ := hp
  refine wq_iald rfl hc ?_
  refine wp_go 3 (pc' := 70) (L' := [some (.ref l0), some (.int l1), some (.int l2), some (.int l3)]) (st' := [.ref l0, .int ((zI M (zQ M l0 21) l1.toNatClampNeg) - l3), .int ((20 : Int32) * (zI M (zQ M l0 20) l1.toNatClampNeg)), .ref (zQ M l0 10)]) (M' := M) rfl ?_
  obtain ⟨hc, hp⟩ := hp
  refine wq_getQ (j := 2) rfl hc ?_
  refine wp_go 1 (pc' := 74) (L' := [some (.ref l0), some (.int l1), some (.int l2), some (.int l3)]) (st' := [.ref l0, .ref (zQ M l0 2), .int ((zI M (zQ M l0 21) l1.toNatClampNeg) - l3), .int ((20 : Int32) * (zI M (zQ M l0 20) l1.toNatClampNeg)), .ref (zQ M l0 10)]) (M' := M) rfl ?_
  obtain ⟨hc, hp⟩ := hp
  refine wq_getQ (j := 20) rfl hc ?_
  refine wp_go 1 (pc' := 78) (L' := [some (.ref l0), some (.int l1), some (.int l2), some (.int l3)]) (st' := [.int l1, .ref (zQ M l0 20), .ref (zQ M l0 2), .int ((zI M (zQ M l0 21) l1.toNatClampNeg) - l3), .int ((20 : Int32) * (zI M (zQ M l0 20) l1.toNatClampNeg)), .ref (zQ M l0 10)]) (M' := M) rfl ?_
  obtain ⟨hc, hp⟩ := hp
  refine wq_iald rfl hc ?_
  obtain ⟨hc, hp⟩ := hp
  refine wq_iald rfl hc ?_
  refine wp_go 2 (pc' := 82) (L' := [some (.ref l0), some (.int l1), some (.int l2), some (.int l3)]) (st' := [.ref l0, .int (((zI M (zQ M l0 21) l1.toNatClampNeg) - l3) + (zI M (zQ M l0 2) (zI M (zQ M l0 20) l1.toNatClampNeg).toNatClampNeg)), .int ((20 : Int32) * (zI M (zQ M l0 20) l1.toNatClampNeg)), .ref (zQ M l0 10)]) (M' := M) rfl ?_
  obtain ⟨hc, hp⟩ := hp
  refine wq_getQ (j := 2) rfl hc ?_
  refine wp_go 1 (pc' := 86) (L' := [some (.ref l0), some (.int l1), some (.int l2), some (.int l3)]) (st' := [.ref l0, .ref (zQ M l0 2), .int (((zI M (zQ M l0 21) l1.toNatClampNeg) - l3) + (zI M (zQ M l0 2) (zI M (zQ M l0 20) l1.toNatClampNeg).toNatClampNeg)), .int ((20 : Int32) * (zI M (zQ M l0 20) l1.toNatClampNeg)), .ref (zQ M l0 10)]) (M' := M) rfl ?_
  obtain ⟨hc, hp⟩ := hp
  refine wq_getQ (j := 20) rfl hc ?_
  refine wp_go 1 (pc' := 90) (L' := [some (.ref l0), some (.int l1), some (.int l2), some (.int l3)]) (st' := [.int l1, .ref (zQ M l0 20), .ref (zQ M l0 2), .int (((zI M (zQ M l0 21) l1.toNatClampNeg) - l3) + (zI M (zQ M l0 2) (zI M (zQ M l0 20) l1.toNatClampNeg).toNatClampNeg)), .int ((20 : Int32) * (zI M (zQ M l0 20) l1.toNatClampNeg)), .ref (zQ M l0 10)]) (M' := M) rfl ?_
  obtain ⟨hc, hp⟩ := hp
  refine wq_iald rfl hc ?_
  obtain ⟨hc, hp⟩ := hp
  refine wq_iald rfl hc ?_
  obtain ⟨hc, hp⟩ := hp
  refine wq_irem rfl hc ?_
  refine wp_go 2 (pc' := 95) (L' := [some (.ref l0), some (.int l1), some (.int l2), some (.int l3)]) (st' := [.int l2, .int (((20 : Int32) * (zI M (zQ M l0 20) l1.toNatClampNeg)) + ((((zI M (zQ M l0 21) l1.toNatClampNeg) - l3) + (zI M (zQ M l0 2) (zI M (zQ M l0 20) l1.toNatClampNeg).toNatClampNeg)) - (((zI M (zQ M l0 21) l1.toNatClampNeg) - l3) + (zI M (zQ M l0 2) (zI M (zQ M l0 20) l1.toNatClampNeg).toNatClampNeg)) / (zI M (zQ M l0 2) (zI M (zQ M l0 20) l1.toNatClampNeg).toNatClampNeg) * (zI M (zQ M l0 2) (zI M (zQ M l0 20) l1.toNatClampNeg).toNatClampNeg))), .ref (zQ M l0 10)]) (M' := M) rfl ?_
  obtain ⟨hc, hp⟩ := hp
  refine wq_iast rfl hc ?_
  exact s166_96 n k2 q2 h2 l0 l1 l2 l3 (zWI M (zQ M l0 10) (((20 : Int32) * (zI M (zQ M l0 20) l1.toNatClampNeg)) + ((((zI M (zQ M l0 21) l1.toNatClampNeg) - l3) + (zI M (zQ M l0 2) (zI M (zQ M l0 20) l1.toNatClampNeg).toNatClampNeg)) - (((zI M (zQ M l0 21) l1.toNatClampNeg) - l3) + (zI M (zQ M l0 2) (zI M (zQ M l0 20) l1.toNatClampNeg).toNatClampNeg)) / (zI M (zQ M l0 2) (zI M (zQ M l0 20) l1.toNatClampNeg).toNatClampNeg) * (zI M (zQ M l0 2) (zI M (zQ M l0 20) l1.toNatClampNeg).toNatClampNeg))).toNatClampNeg l2) hp hQ
def c166_2 (n : Nat) (k2 : Nat → Int32 → Int32 → Int32 → zM → zM) (l0 : Nat) (l1 : Int32) (l2 : Int32) (l3 : Int32) (M : zM) : zM := (if (zI M (zQ M l0 23) l1.toNatClampNeg) ≤ l3 then M else b166_48 n k2 l0 l1 l2 l3 (zWI M (zQ M l0 10) (((20 : Int32) * (zI M (zQ M l0 18) l1.toNatClampNeg)) + (((zI M (zQ M l0 19) l1.toNatClampNeg) + l3) - ((zI M (zQ M l0 19) l1.toNatClampNeg) + l3) / (zI M (zQ M l0 2) (zI M (zQ M l0 18) l1.toNatClampNeg).toNatClampNeg) * (zI M (zQ M l0 2) (zI M (zQ M l0 18) l1.toNatClampNeg).toNatClampNeg))).toNatClampNeg l2))
def d166_2 (n : Nat) (q2 : Nat → Int32 → Int32 → Int32 → zM → Prop) (l0 : Nat) (l1 : Int32) (l2 : Int32) (l3 : Int32) (M : zM) : Prop := (zHasQ 10 72 l0 M 23) ∧ ((zOkI (zQ M l0 23) l1 M) ∧ ((((zI M (zQ M l0 23) l1.toNatClampNeg) ≤ l3 → True) ∧ (¬ (zI M (zQ M l0 23) l1.toNatClampNeg) ≤ l3 → (zHasQ 10 38 l0 M 10) ∧ ((zHasQ 10 57 l0 M 18) ∧ ((zOkI (zQ M l0 18) l1 M) ∧ ((zHasQ 10 60 l0 M 19) ∧ ((zOkI (zQ M l0 19) l1 M) ∧ ((zHasQ 10 13 l0 M 2) ∧ ((zHasQ 10 57 l0 M 18) ∧ ((zOkI (zQ M l0 18) l1 M) ∧ ((zOkI (zQ M l0 2) (zI M (zQ M l0 18) l1.toNatClampNeg) M) ∧ ((¬ (zI M (zQ M l0 2) (zI M (zQ M l0 18) l1.toNatClampNeg).toNatClampNeg) = 0) ∧ ((zOkT 1 (zQ M l0 10) (((20 : Int32) * (zI M (zQ M l0 18) l1.toNatClampNeg)) + (((zI M (zQ M l0 19) l1.toNatClampNeg) + l3) - ((zI M (zQ M l0 19) l1.toNatClampNeg) + l3) / (zI M (zQ M l0 2) (zI M (zQ M l0 18) l1.toNatClampNeg).toNatClampNeg) * (zI M (zQ M l0 2) (zI M (zQ M l0 18) l1.toNatClampNeg).toNatClampNeg))) M) ∧ (p166_48 n q2 l0 l1 l2 l3 (zWI M (zQ M l0 10) (((20 : Int32) * (zI M (zQ M l0 18) l1.toNatClampNeg)) + (((zI M (zQ M l0 19) l1.toNatClampNeg) + l3) - ((zI M (zQ M l0 19) l1.toNatClampNeg) + l3) / (zI M (zQ M l0 2) (zI M (zQ M l0 18) l1.toNatClampNeg).toNatClampNeg) * (zI M (zQ M l0 2) (zI M (zQ M l0 18) l1.toNatClampNeg).toNatClampNeg))).toNatClampNeg l2))))))))))))))))
theorem t166_2 (n : Nat) (k2 : Nat → Int32 → Int32 → Int32 → zM → zM) (q2 : Nat → Int32 → Int32 → Int32 → zM → Prop) (h2 : ∀ (l0 : Nat) (l1 : Int32) (l2 : Int32) (l3 : Int32) (M : zM), q2 l0 l1 l2 l3 M → ∀ {Q : Option Value → zM → Prop}, (∀ r M1, zRV (k2 l0 l1 l2 l3 M) r M1 → Q r M1) → zWP 166 2 [some (.ref l0), some (.int l1), some (.int l2), some (.int l3)] [] M Q) (l0 : Nat) (l1 : Int32) (l2 : Int32) (l3 : Int32) (M : zM) (hp : d166_2 n q2 l0 l1 l2 l3 M) {Q : Option Value → zM → Prop} (hQ : ∀ r M1, zRV (c166_2 n k2 l0 l1 l2 l3 M) r M1 → Q r M1) : zWP 166 2 [some (.ref l0), some (.int l1), some (.int l2), some (.int l3)] [] M Q := by
  unfold c166_2 at hQ
  unfold d166_2 at hp
  refine wp_go 2 (pc' := 4) (L' := [some (.ref l0), some (.int l1), some (.int l2), some (.int l3)]) (st' := [.ref l0, .int l3]) (M' := M) rfl ?_
  obtain ⟨hc, hp⟩ := hp
  refine wq_getQ (j := 23) rfl hc ?_
  refine wp_go 1 (pc' := 8) (L' := [some (.ref l0), some (.int l1), some (.int l2), some (.int l3)]) (st' := [.int l1, .ref (zQ M l0 23), .int l3]) (M' := M) rfl ?_
  obtain ⟨hc, hp⟩ := hp
  refine wq_iald rfl hc ?_
  refine wp_ic_ge (t := 102) rfl rfl (fun hc => ?_) (fun hc => ?_)
  · rw [if_pos hc] at hQ
    replace hp := hp.1 hc
    exact wp_ret (r := none) rfl rfl (hQ _ _ ⟨rfl, rfl⟩)
  · rw [if_neg hc] at hQ
    replace hp := hp.2 hc
    refine wp_go 1 (pc' := 13) (L' := [some (.ref l0), some (.int l1), some (.int l2), some (.int l3)]) (st' := [.ref l0]) (M' := M) rfl ?_
    obtain ⟨hc, hp⟩ := hp
    refine wq_getQ (j := 10) rfl hc ?_
    refine wp_go 2 (pc' := 19) (L' := [some (.ref l0), some (.int l1), some (.int l2), some (.int l3)]) (st' := [.ref l0, .int (20 : Int32), .ref (zQ M l0 10)]) (M' := M) rfl ?_
    obtain ⟨hc, hp⟩ := hp
    refine wq_getQ (j := 18) rfl hc ?_
    refine wp_go 1 (pc' := 23) (L' := [some (.ref l0), some (.int l1), some (.int l2), some (.int l3)]) (st' := [.int l1, .ref (zQ M l0 18), .int (20 : Int32), .ref (zQ M l0 10)]) (M' := M) rfl ?_
    obtain ⟨hc, hp⟩ := hp
    refine wq_iald rfl hc ?_
    refine wp_go 2 (pc' := 26) (L' := [some (.ref l0), some (.int l1), some (.int l2), some (.int l3)]) (st' := [.ref l0, .int ((20 : Int32) * (zI M (zQ M l0 18) l1.toNatClampNeg)), .ref (zQ M l0 10)]) (M' := M) rfl ?_
    obtain ⟨hc, hp⟩ := hp
    refine wq_getQ (j := 19) rfl hc ?_
    refine wp_go 1 (pc' := 30) (L' := [some (.ref l0), some (.int l1), some (.int l2), some (.int l3)]) (st' := [.int l1, .ref (zQ M l0 19), .int ((20 : Int32) * (zI M (zQ M l0 18) l1.toNatClampNeg)), .ref (zQ M l0 10)]) (M' := M) rfl ?_
    obtain ⟨hc, hp⟩ := hp
    refine wq_iald rfl hc ?_
    refine wp_go 3 (pc' := 34) (L' := [some (.ref l0), some (.int l1), some (.int l2), some (.int l3)]) (st' := [.ref l0, .int ((zI M (zQ M l0 19) l1.toNatClampNeg) + l3), .int ((20 : Int32) * (zI M (zQ M l0 18) l1.toNatClampNeg)), .ref (zQ M l0 10)]) (M' := M) rfl ?_
    obtain ⟨hc, hp⟩ := hp
    refine wq_getQ (j := 2) rfl hc ?_
    refine wp_go 1 (pc' := 38) (L' := [some (.ref l0), some (.int l1), some (.int l2), some (.int l3)]) (st' := [.ref l0, .ref (zQ M l0 2), .int ((zI M (zQ M l0 19) l1.toNatClampNeg) + l3), .int ((20 : Int32) * (zI M (zQ M l0 18) l1.toNatClampNeg)), .ref (zQ M l0 10)]) (M' := M) rfl ?_
    obtain ⟨hc, hp⟩ := hp
    refine wq_getQ (j := 18) rfl hc ?_
    refine wp_go 1 (pc' := 42) (L' := [some (.ref l0), some (.int l1), some (.int l2), some (.int l3)]) (st' := [.int l1, .ref (zQ M l0 18), .ref (zQ M l0 2), .int ((zI M (zQ M l0 19) l1.toNatClampNeg) + l3), .int ((20 : Int32) * (zI M (zQ M l0 18) l1.toNatClampNeg)), .ref (zQ M l0 10)]) (M' := M) rfl ?_
    obtain ⟨hc, hp⟩ := hp
    refine wq_iald rfl hc ?_
    obtain ⟨hc, hp⟩ := hp
    refine wq_iald rfl hc ?_
    obtain ⟨hc, hp⟩ := hp
    refine wq_irem rfl hc ?_
    refine wp_go 2 (pc' := 47) (L' := [some (.ref l0), some (.int l1), some (.int l2), some (.int l3)]) (st' := [.int l2, .int (((20 : Int32) * (zI M (zQ M l0 18) l1.toNatClampNeg)) + (((zI M (zQ M l0 19) l1.toNatClampNeg) + l3) - ((zI M (zQ M l0 19) l1.toNatClampNeg) + l3) / (zI M (zQ M l0 2) (zI M (zQ M l0 18) l1.toNatClampNeg).toNatClampNeg) * (zI M (zQ M l0 2) (zI M (zQ M l0 18) l1.toNatClampNeg).toNatClampNeg))), .ref (zQ M l0 10)]) (M' := M) rfl ?_
    obtain ⟨hc, hp⟩ := hp
    refine wq_iast rfl hc ?_
    exact s166_48 n k2 q2 h2 l0 l1 l2 l3 (zWI M (zQ M l0 10) (((20 : Int32) * (zI M (zQ M l0 18) l1.toNatClampNeg)) + (((zI M (zQ M l0 19) l1.toNatClampNeg) + l3) - ((zI M (zQ M l0 19) l1.toNatClampNeg) + l3) / (zI M (zQ M l0 2) (zI M (zQ M l0 18) l1.toNatClampNeg).toNatClampNeg) * (zI M (zQ M l0 2) (zI M (zQ M l0 18) l1.toNatClampNeg).toNatClampNeg))).toNatClampNeg l2) hp hQ
def b166_2 (n : Nat)  : Nat → Nat → Int32 → Int32 → Int32 → zM → zM
  | 0, _, _, _, _, M => M
  | k + 1, l0, l1, l2, l3, M => c166_2 n  (b166_2 n  k) l0 l1 l2 l3 M
def p166_2 (n : Nat)  : Nat → Nat → Int32 → Int32 → Int32 → zM → Prop
  | 0, _, _, _, _, _ => False
  | k + 1, l0, l1, l2, l3, M => d166_2 n  (p166_2 n  k) l0 l1 l2 l3 M
theorem s166_2 (n : Nat)    : ∀ (k : Nat) (l0 : Nat) (l1 : Int32) (l2 : Int32) (l3 : Int32) (M : zM), p166_2 n  k l0 l1 l2 l3 M → ∀ {Q : Option Value → zM → Prop}, (∀ r M1, zRV (b166_2 n  k l0 l1 l2 l3 M) r M1 → Q r M1) → zWP 166 2 [some (.ref l0), some (.int l1), some (.int l2), some (.int l3)] [] M Q
  | 0, _, _, _, _, _, h, _, _ => h.elim
  | k + 1, l0, l1, l2, l3, M, h, _, hQ => t166_2 n  (b166_2 n  k)  (p166_2 n  k)  (s166_2 n    k) l0 l1 l2 l3 M h hQ
def b166_0 (n : Nat)  (l0 : Nat) (l1 : Int32) (l2 : Int32) (M : zM) : zM := b166_2 n  n l0 l1 l2 (0 : Int32) M
def p166_0 (n : Nat)  (l0 : Nat) (l1 : Int32) (l2 : Int32) (M : zM) : Prop := p166_2 n  n l0 l1 l2 (0 : Int32) M
theorem s166_0 (n : Nat)    (l0 : Nat) (l1 : Int32) (l2 : Int32) (M : zM) (hp : p166_0 n  l0 l1 l2 M) {Q : Option Value → zM → Prop} (hQ : ∀ r M1, zRV (b166_0 n  l0 l1 l2 M) r M1 → Q r M1) : zWP 166 0 [some (.ref l0), some (.int l1), some (.int l2), none] [] M Q := by
  unfold b166_0 at hQ
  unfold p166_0 at hp
  refine wp_go 2 (pc' := 2) (L' := [some (.ref l0), some (.int l1), some (.int l2), some (.int (0 : Int32))]) (st' := []) (M' := M) rfl ?_
  exact s166_2 n    n l0 l1 l2 (0 : Int32) M hp hQ
/-! X12_joins -/
def b167_36 (n : Nat)  (l1 : Int32) (M : zM) : Int32 × zM := (l1, M)
def p167_36 (n : Nat)  (l1 : Int32) (M : zM) : Prop := True
theorem s167_36 (n : Nat)    (l1 : Int32) (M : zM) (hp : p167_36 n  l1 M) {Q : Option Value → zM → Prop} (hQ : ∀ r M1, zRI (b167_36 n  l1 M) r M1 → Q r M1) : zWP 167 36 [none, some (.int l1)] [] M Q := by
  unfold b167_36 at hQ
  unfold p167_36 at hp
  refine wp_go 1 (pc' := 37) (L' := [none, some (.int l1)]) (st' := [.int l1]) (M' := M) rfl ?_
  exact wp_ret (r := some (.int l1)) rfl rfl (hQ _ _ ⟨rfl, rfl⟩)
def b167_26 (n : Nat)  (l0 : Nat) (l1 : Int32) (M : zM) : Int32 × zM := b167_36 n  l1 (zWI M (zQ M l0 25) l1.toNatClampNeg (zI M l0 16))
def p167_26 (n : Nat)  (l0 : Nat) (l1 : Int32) (M : zM) : Prop := (zHasQ 10 78 l0 M 25) ∧ ((zHasI 10 281 l0 M 16) ∧ ((zOkT 1 (zQ M l0 25) l1 M) ∧ (p167_36 n  l1 (zWI M (zQ M l0 25) l1.toNatClampNeg (zI M l0 16)))))
theorem s167_26 (n : Nat)    (l0 : Nat) (l1 : Int32) (M : zM) (hp : p167_26 n  l0 l1 M) {Q : Option Value → zM → Prop} (hQ : ∀ r M1, zRI (b167_26 n  l0 l1 M) r M1 → Q r M1) : zWP 167 26 [some (.ref l0), some (.int l1)] [] M Q := by
  unfold b167_26 at hQ
  unfold p167_26 at hp
  refine wp_go 1 (pc' := 27) (L' := [some (.ref l0), some (.int l1)]) (st' := [.ref l0]) (M' := M) rfl ?_
  obtain ⟨hc, hp⟩ := hp
  refine wq_getQ (j := 25) rfl hc ?_
  refine wp_go 2 (pc' := 32) (L' := [some (.ref l0), some (.int l1)]) (st' := [.ref l0, .int l1, .ref (zQ M l0 25)]) (M' := M) rfl ?_
  obtain ⟨hc, hp⟩ := hp
  refine wq_getI (j := 16) rfl hc ?_
  obtain ⟨hc, hp⟩ := hp
  refine wq_iast rfl hc ?_
  refine wp_le [none, some (.int l1)] (zLe_of (by simp [zLeB])) ?_
  exact s167_36 n    l1 (zWI M (zQ M l0 25) l1.toNatClampNeg (zI M l0 16)) hp hQ
def b167_16 (n : Nat)  (l0 : Nat) (l1 : Int32) (M : zM) : Int32 × zM := b167_26 n  l0 l1 (zWI M l0 16 ((zI M l0 16) + (1 : Int32)))
def p167_16 (n : Nat)  (l0 : Nat) (l1 : Int32) (M : zM) : Prop := (zHasI 10 281 l0 M 16) ∧ ((zPutI 167 281 l0 M 16 ((zI M l0 16) + (1 : Int32))) ∧ (p167_26 n  l0 l1 (zWI M l0 16 ((zI M l0 16) + (1 : Int32)))))
theorem s167_16 (n : Nat)    (l0 : Nat) (l1 : Int32) (M : zM) (hp : p167_16 n  l0 l1 M) {Q : Option Value → zM → Prop} (hQ : ∀ r M1, zRI (b167_16 n  l0 l1 M) r M1 → Q r M1) : zWP 167 16 [some (.ref l0), some (.int l1)] [] M Q := by
  unfold b167_16 at hQ
  unfold p167_16 at hp
  refine wp_go 2 (pc' := 18) (L' := [some (.ref l0), some (.int l1)]) (st' := [.ref l0, .ref l0]) (M' := M) rfl ?_
  obtain ⟨hc, hp⟩ := hp
  refine wq_getI (j := 16) rfl hc ?_
  refine wp_go 2 (pc' := 23) (L' := [some (.ref l0), some (.int l1)]) (st' := [.int ((zI M l0 16) + (1 : Int32)), .ref l0]) (M' := M) rfl ?_
  obtain ⟨hc, hp⟩ := hp
  refine wq_putI (j := 16) rfl hc ?_
  exact s167_26 n    l0 l1 (zWI M l0 16 ((zI M l0 16) + (1 : Int32))) hp hQ
def b167_6 (n : Nat)  (l0 : Nat) (l1 : Int32) (M : zM) : Int32 × zM := b167_16 n  l0 l1 (zWI M l0 15 ((zI M l0 15) + (1 : Int32)))
def p167_6 (n : Nat)  (l0 : Nat) (l1 : Int32) (M : zM) : Prop := (zHasI 10 278 l0 M 15) ∧ ((zPutI 167 278 l0 M 15 ((zI M l0 15) + (1 : Int32))) ∧ (p167_16 n  l0 l1 (zWI M l0 15 ((zI M l0 15) + (1 : Int32)))))
theorem s167_6 (n : Nat)    (l0 : Nat) (l1 : Int32) (M : zM) (hp : p167_6 n  l0 l1 M) {Q : Option Value → zM → Prop} (hQ : ∀ r M1, zRI (b167_6 n  l0 l1 M) r M1 → Q r M1) : zWP 167 6 [some (.ref l0), some (.int l1)] [] M Q := by
  unfold b167_6 at hQ
  unfold p167_6 at hp
  refine wp_go 2 (pc' := 8) (L' := [some (.ref l0), some (.int l1)]) (st' := [.ref l0, .ref l0]) (M' := M) rfl ?_
  obtain ⟨hc, hp⟩ := hp
  refine wq_getI (j := 15) rfl hc ?_
  refine wp_go 2 (pc' := 13) (L' := [some (.ref l0), some (.int l1)]) (st' := [.int ((zI M l0 15) + (1 : Int32)), .ref l0]) (M' := M) rfl ?_
  obtain ⟨hc, hp⟩ := hp
  refine wq_putI (j := 15) rfl hc ?_
  exact s167_16 n    l0 l1 (zWI M l0 15 ((zI M l0 15) + (1 : Int32))) hp hQ
def b167_0 (n : Nat)  (l0 : Nat) (l1 : Int32) (M : zM) : Int32 × zM := b167_6 n  l0 l1 (b166_0 n l0 l1 l1 M)
def p167_0 (n : Nat)  (l0 : Nat) (l1 : Int32) (M : zM) : Prop := (zHasC 167 274 l0 M 166 2) ∧ ((p166_0 n l0 l1 l1 M) ∧ (p167_6 n  l0 l1 (b166_0 n l0 l1 l1 M)))
theorem s167_0 (n : Nat)    (l0 : Nat) (l1 : Int32) (M : zM) (hp : p167_0 n  l0 l1 M) {Q : Option Value → zM → Prop} (hQ : ∀ r M1, zRI (b167_0 n  l0 l1 M) r M1 → Q r M1) : zWP 167 0 [some (.ref l0), some (.int l1)] [] M Q := by
  unfold b167_0 at hQ
  unfold p167_0 at hp
  refine wp_go 3 (pc' := 3) (L' := [some (.ref l0), some (.int l1)]) (st' := [.int l1, .int l1, .ref l0]) (M' := M) rfl ?_
  obtain ⟨hv, hp⟩ := hp
  obtain ⟨hc, hp⟩ := hp
  refine wp_callv (M1 := (b166_0 n l0 l1 l1 M)) rfl rfl rfl (zInv_v (np := 2) rfl rfl hv rfl) (s166_0 n l0 l1 l1 M hc (fun r M1 h => h)) ?_
  exact s167_6 n    l0 l1 (b166_0 n l0 l1 l1 M) hp hQ
/-! X12_tryJoin -/
def b168_353 (n : Nat)  (s0 : Int32) (M : zM) : Int32 × zM := (s0, M)
def p168_353 (n : Nat)  (s0 : Int32) (M : zM) : Prop := True
theorem s168_353 (n : Nat)    (s0 : Int32) (M : zM) (hp : p168_353 n  s0 M) {Q : Option Value → zM → Prop} (hQ : ∀ r M1, zRI (b168_353 n  s0 M) r M1 → Q r M1) : zWP 168 353 [none, none, none, none, none, none, none, none, none, none, none, none, none] [.int s0] M Q := by
  unfold b168_353 at hQ
  unfold p168_353 at hp
  exact wp_ret (r := some (.int s0)) rfl rfl (hQ _ _ ⟨rfl, rfl⟩)
def b168_335 (n : Nat) (k240 : Nat → Int32 → Int32 → zM → Int32 × zM) (k255 : Nat → Int32 → Int32 → Int32 → zM → Int32 × zM) (l0 : Nat) (l9 : Int32) (l10 : Int32) (l11 : Int32) (M : zM) : Int32 × zM := k255 l0 l9 l10 (l11 + Int32.ofInt 1) M
def p168_335 (n : Nat) (q240 : Nat → Int32 → Int32 → zM → Prop) (q255 : Nat → Int32 → Int32 → Int32 → zM → Prop) (l0 : Nat) (l9 : Int32) (l10 : Int32) (l11 : Int32) (M : zM) : Prop := q255 l0 l9 l10 (l11 + Int32.ofInt 1) M
theorem s168_335 (n : Nat) (k240 : Nat → Int32 → Int32 → zM → Int32 × zM) (k255 : Nat → Int32 → Int32 → Int32 → zM → Int32 × zM) (q240 : Nat → Int32 → Int32 → zM → Prop) (q255 : Nat → Int32 → Int32 → Int32 → zM → Prop) (h240 : ∀ (l0 : Nat) (l9 : Int32) (l10 : Int32) (M : zM), q240 l0 l9 l10 M → ∀ {Q : Option Value → zM → Prop}, (∀ r M1, zRI (k240 l0 l9 l10 M) r M1 → Q r M1) → zWP 168 240 [some (.ref l0), none, none, none, none, none, none, none, none, some (.int l9), some (.int l10), none, none] [] M Q) (h255 : ∀ (l0 : Nat) (l9 : Int32) (l10 : Int32) (l11 : Int32) (M : zM), q255 l0 l9 l10 l11 M → ∀ {Q : Option Value → zM → Prop}, (∀ r M1, zRI (k255 l0 l9 l10 l11 M) r M1 → Q r M1) → zWP 168 255 [some (.ref l0), none, none, none, none, none, none, none, none, some (.int l9), some (.int l10), some (.int l11), none] [] M Q) (l0 : Nat) (l9 : Int32) (l10 : Int32) (l11 : Int32) (M : zM) (hp : p168_335 n q240 q255 l0 l9 l10 l11 M) {Q : Option Value → zM → Prop} (hQ : ∀ r M1, zRI (b168_335 n k240 k255 l0 l9 l10 l11 M) r M1 → Q r M1) : zWP 168 335 [some (.ref l0), none, none, none, none, none, none, none, none, some (.int l9), some (.int l10), some (.int l11), none] [] M Q := by
  unfold b168_335 at hQ
  unfold p168_335 at hp
  refine wp_go 2 (pc' := 255) (L' := [some (.ref l0), none, none, none, none, none, none, none, none, some (.int l9), some (.int l10), some (.int (l11 + Int32.ofInt 1)), none]) (st' := []) (M' := M) rfl ?_
  exact h255 l0 l9 l10 (l11 + Int32.ofInt 1) M hp hQ
def b168_332 (n : Nat)   (M : zM) : Int32 × zM := (((-6) : Int32), M)
def p168_332 (n : Nat)   (M : zM) : Prop := True
theorem s168_332 (n : Nat)     (M : zM) (hp : p168_332 n   M) {Q : Option Value → zM → Prop} (hQ : ∀ r M1, zRI (b168_332 n   M) r M1 → Q r M1) : zWP 168 332 [none, none, none, none, none, none, none, none, none, none, none, none, none] [] M Q := by
  unfold b168_332 at hQ
  unfold p168_332 at hp
  refine wp_go 1 (pc' := 334) (L' := [none, none, none, none, none, none, none, none, none, none, none, none, none]) (st' := [.int ((-6) : Int32)]) (M' := M) rfl ?_
  exact wp_ret (r := some (.int ((-6) : Int32))) rfl rfl (hQ _ _ ⟨rfl, rfl⟩)
def b168_326 (n : Nat)  (l0 : Nat) (l12 : Int32) (M : zM) : Int32 × zM := b168_332 n  (zWI M l0 53 l12)
def p168_326 (n : Nat)  (l0 : Nat) (l12 : Int32) (M : zM) : Prop := (zPutI 168 126 l0 M 53 l12) ∧ (p168_332 n  (zWI M l0 53 l12))
theorem s168_326 (n : Nat)    (l0 : Nat) (l12 : Int32) (M : zM) (hp : p168_326 n  l0 l12 M) {Q : Option Value → zM → Prop} (hQ : ∀ r M1, zRI (b168_326 n  l0 l12 M) r M1 → Q r M1) : zWP 168 326 [some (.ref l0), none, none, none, none, none, none, none, none, none, none, none, some (.int l12)] [] M Q := by
  unfold b168_326 at hQ
  unfold p168_326 at hp
  refine wp_go 2 (pc' := 329) (L' := [some (.ref l0), none, none, none, none, none, none, none, none, none, none, none, some (.int l12)]) (st' := [.int l12, .ref l0]) (M' := M) rfl ?_
  obtain ⟨hc, hp⟩ := hp
  refine wq_putI (j := 53) rfl hc ?_
  refine wp_le [none, none, none, none, none, none, none, none, none, none, none, none, none] (zLe_of (by simp [zLeB])) ?_
  exact s168_332 n    (zWI M l0 53 l12) hp hQ
def b168_320 (n : Nat)  (l0 : Nat) (l11 : Int32) (l12 : Int32) (M : zM) : Int32 × zM := b168_326 n  l0 l12 (zWI M l0 52 l11)
def p168_320 (n : Nat)  (l0 : Nat) (l11 : Int32) (l12 : Int32) (M : zM) : Prop := (zPutI 168 123 l0 M 52 l11) ∧ (p168_326 n  l0 l12 (zWI M l0 52 l11))
theorem s168_320 (n : Nat)    (l0 : Nat) (l11 : Int32) (l12 : Int32) (M : zM) (hp : p168_320 n  l0 l11 l12 M) {Q : Option Value → zM → Prop} (hQ : ∀ r M1, zRI (b168_320 n  l0 l11 l12 M) r M1 → Q r M1) : zWP 168 320 [some (.ref l0), none, none, none, none, none, none, none, none, none, none, some (.int l11), some (.int l12)] [] M Q := by
  unfold b168_320 at hQ
  unfold p168_320 at hp
  refine wp_go 2 (pc' := 323) (L' := [some (.ref l0), none, none, none, none, none, none, none, none, none, none, some (.int l11), some (.int l12)]) (st' := [.int l11, .ref l0]) (M' := M) rfl ?_
  obtain ⟨hc, hp⟩ := hp
  refine wq_putI (j := 52) rfl hc ?_
  refine wp_le [some (.ref l0), none, none, none, none, none, none, none, none, none, none, none, some (.int l12)] (zLe_of (by simp [zLeB])) ?_
  exact s168_326 n    l0 l12 (zWI M l0 52 l11) hp hQ
def b168_314 (n : Nat)  (l0 : Nat) (l10 : Int32) (l11 : Int32) (l12 : Int32) (M : zM) : Int32 × zM := b168_320 n  l0 l11 l12 (zWI M l0 51 l10)
def p168_314 (n : Nat)  (l0 : Nat) (l10 : Int32) (l11 : Int32) (l12 : Int32) (M : zM) : Prop := (zPutI 168 120 l0 M 51 l10) ∧ (p168_320 n  l0 l11 l12 (zWI M l0 51 l10))
theorem s168_314 (n : Nat)    (l0 : Nat) (l10 : Int32) (l11 : Int32) (l12 : Int32) (M : zM) (hp : p168_314 n  l0 l10 l11 l12 M) {Q : Option Value → zM → Prop} (hQ : ∀ r M1, zRI (b168_314 n  l0 l10 l11 l12 M) r M1 → Q r M1) : zWP 168 314 [some (.ref l0), none, none, none, none, none, none, none, none, none, some (.int l10), some (.int l11), some (.int l12)] [] M Q := by
  unfold b168_314 at hQ
  unfold p168_314 at hp
  refine wp_go 2 (pc' := 317) (L' := [some (.ref l0), none, none, none, none, none, none, none, none, none, some (.int l10), some (.int l11), some (.int l12)]) (st' := [.int l10, .ref l0]) (M' := M) rfl ?_
  obtain ⟨hc, hp⟩ := hp
  refine wq_putI (j := 51) rfl hc ?_
  refine wp_le [some (.ref l0), none, none, none, none, none, none, none, none, none, none, some (.int l11), some (.int l12)] (zLe_of (by simp [zLeB])) ?_
  exact s168_320 n    l0 l11 l12 (zWI M l0 51 l10) hp hQ
def b168_295 (n : Nat) (k240 : Nat → Int32 → Int32 → zM → Int32 × zM) (k255 : Nat → Int32 → Int32 → Int32 → zM → Int32 × zM) (l0 : Nat) (l9 : Int32) (l10 : Int32) (l11 : Int32) (s0 : Int32) (M : zM) : Int32 × zM := (if s0 ≤ (zI M l0 14) then b168_335 n k240 k255 l0 l9 l10 l11 M else b168_314 n  l0 l10 l11 s0 (zWI M (zQ M l0 17) l9.toNatClampNeg (0 : Int32)))
def p168_295 (n : Nat) (q240 : Nat → Int32 → Int32 → zM → Prop) (q255 : Nat → Int32 → Int32 → Int32 → zM → Prop) (l0 : Nat) (l9 : Int32) (l10 : Int32) (l11 : Int32) (s0 : Int32) (M : zM) : Prop := (zHasI 10 51 l0 M 14) ∧ (((s0 ≤ (zI M l0 14) → p168_335 n q240 q255 l0 l9 l10 l11 M) ∧ (¬ s0 ≤ (zI M l0 14) → (zHasQ 10 54 l0 M 17) ∧ ((zOkT 2 (zQ M l0 17) l9 M ∧ zNar .boolean (0 : Int32) = true) ∧ (p168_314 n  l0 l10 l11 s0 (zWI M (zQ M l0 17) l9.toNatClampNeg (0 : Int32)))))))
theorem s168_295 (n : Nat) (k240 : Nat → Int32 → Int32 → zM → Int32 × zM) (k255 : Nat → Int32 → Int32 → Int32 → zM → Int32 × zM) (q240 : Nat → Int32 → Int32 → zM → Prop) (q255 : Nat → Int32 → Int32 → Int32 → zM → Prop) (h240 : ∀ (l0 : Nat) (l9 : Int32) (l10 : Int32) (M : zM), q240 l0 l9 l10 M → ∀ {Q : Option Value → zM → Prop}, (∀ r M1, zRI (k240 l0 l9 l10 M) r M1 → Q r M1) → zWP 168 240 [some (.ref l0), none, none, none, none, none, none, none, none, some (.int l9), some (.int l10), none, none] [] M Q) (h255 : ∀ (l0 : Nat) (l9 : Int32) (l10 : Int32) (l11 : Int32) (M : zM), q255 l0 l9 l10 l11 M → ∀ {Q : Option Value → zM → Prop}, (∀ r M1, zRI (k255 l0 l9 l10 l11 M) r M1 → Q r M1) → zWP 168 255 [some (.ref l0), none, none, none, none, none, none, none, none, some (.int l9), some (.int l10), some (.int l11), none] [] M Q) (l0 : Nat) (l9 : Int32) (l10 : Int32) (l11 : Int32) (s0 : Int32) (M : zM) (hp : p168_295 n q240 q255 l0 l9 l10 l11 s0 M) {Q : Option Value → zM → Prop} (hQ : ∀ r M1, zRI (b168_295 n k240 k255 l0 l9 l10 l11 s0 M) r M1 → Q r M1) : zWP 168 295 [some (.ref l0), none, none, none, none, none, none, none, none, some (.int l9), some (.int l10), some (.int l11), none] [.int s0] M Q := by
  unfold b168_295 at hQ
  unfold p168_295 at hp
  refine wp_go 3 (pc' := 300) (L' := [some (.ref l0), none, none, none, none, none, none, none, none, some (.int l9), some (.int l10), some (.int l11), some (.int s0)]) (st' := [.ref l0, .int s0]) (M' := M) rfl ?_
  obtain ⟨hc, hp⟩ := hp
  refine wq_getI (j := 14) rfl hc ?_
  refine wp_ic_le (t := 335) rfl rfl (fun hc => ?_) (fun hc => ?_)
  · rw [if_pos hc] at hQ
    replace hp := hp.1 hc
    refine wp_le [some (.ref l0), none, none, none, none, none, none, none, none, some (.int l9), some (.int l10), some (.int l11), none] (zLe_of (by simp [zLeB])) ?_
    exact s168_335 n k240 k255 q240 q255 h240 h255 l0 l9 l10 l11 M hp hQ
  · rw [if_neg hc] at hQ
    replace hp := hp.2 hc
    refine wp_go 1 (pc' := 307) (L' := [some (.ref l0), none, none, none, none, none, none, none, none, some (.int l9), some (.int l10), some (.int l11), some (.int s0)]) (st' := [.ref l0]) (M' := M) rfl ?_
    obtain ⟨hc, hp⟩ := hp
    refine wq_getQ (j := 17) rfl hc ?_
    refine wp_go 2 (pc' := 313) (L' := [some (.ref l0), none, none, none, none, none, none, none, none, some (.int l9), some (.int l10), some (.int l11), some (.int s0)]) (st' := [.int (0 : Int32), .int l9, .ref (zQ M l0 17)]) (M' := M) rfl ?_
    obtain ⟨hc, hp⟩ := hp
    refine wq_zast rfl hc ?_
    refine wp_le [some (.ref l0), none, none, none, none, none, none, none, none, none, some (.int l10), some (.int l11), some (.int s0)] (zLe_of (by simp [zLeB])) ?_
    exact s168_314 n    l0 l10 l11 s0 (zWI M (zQ M l0 17) l9.toNatClampNeg (0 : Int32)) hp hQ
def c168_255 (n : Nat) (k240 : Nat → Int32 → Int32 → zM → Int32 × zM) (k255 : Nat → Int32 → Int32 → Int32 → zM → Int32 × zM) (l0 : Nat) (l9 : Int32) (l10 : Int32) (l11 : Int32) (M : zM) : Int32 × zM := (if (zI M l0 0) ≤ l11 then k240 l0 l9 (l10 + Int32.ofInt 1) M else (if (zI M (zQ M l0 41) l10.toNatClampNeg) = 0 then b168_335 n k240 k255 l0 l9 l10 l11 M else (if (zI M (zQ M l0 41) l11.toNatClampNeg) = 0 then b168_335 n k240 k255 l0 l9 l10 l11 M else b168_295 n k240 k255 l0 l9 l10 l11 (b163_0 n l0 l10 l11 M).1 (b163_0 n l0 l10 l11 M).2)))
def d168_255 (n : Nat) (q240 : Nat → Int32 → Int32 → zM → Prop) (q255 : Nat → Int32 → Int32 → Int32 → zM → Prop) (l0 : Nat) (l9 : Int32) (l10 : Int32) (l11 : Int32) (M : zM) : Prop := (zHasI 10 148 l0 M 0) ∧ ((((zI M l0 0) ≤ l11 → q240 l0 l9 (l10 + Int32.ofInt 1) M) ∧ (¬ (zI M l0 0) ≤ l11 → (zHasQ 10 99 l0 M 41) ∧ ((zOkT 2 (zQ M l0 41) l10 M) ∧ ((((zI M (zQ M l0 41) l10.toNatClampNeg) = 0 → p168_335 n q240 q255 l0 l9 l10 l11 M) ∧ (¬ (zI M (zQ M l0 41) l10.toNatClampNeg) = 0 → (zHasQ 10 99 l0 M 41) ∧ ((zOkT 2 (zQ M l0 41) l11 M) ∧ ((((zI M (zQ M l0 41) l11.toNatClampNeg) = 0 → p168_335 n q240 q255 l0 l9 l10 l11 M) ∧ (¬ (zI M (zQ M l0 41) l11.toNatClampNeg) = 0 → (zHasC 168 298 l0 M 163 2) ∧ ((p163_0 n l0 l10 l11 M) ∧ (p168_295 n q240 q255 l0 l9 l10 l11 (b163_0 n l0 l10 l11 M).1 (b163_0 n l0 l10 l11 M).2)))))))))))))
theorem t168_255 (n : Nat) (k240 : Nat → Int32 → Int32 → zM → Int32 × zM) (k255 : Nat → Int32 → Int32 → Int32 → zM → Int32 × zM) (q240 : Nat → Int32 → Int32 → zM → Prop) (q255 : Nat → Int32 → Int32 → Int32 → zM → Prop) (h240 : ∀ (l0 : Nat) (l9 : Int32) (l10 : Int32) (M : zM), q240 l0 l9 l10 M → ∀ {Q : Option Value → zM → Prop}, (∀ r M1, zRI (k240 l0 l9 l10 M) r M1 → Q r M1) → zWP 168 240 [some (.ref l0), none, none, none, none, none, none, none, none, some (.int l9), some (.int l10), none, none] [] M Q) (h255 : ∀ (l0 : Nat) (l9 : Int32) (l10 : Int32) (l11 : Int32) (M : zM), q255 l0 l9 l10 l11 M → ∀ {Q : Option Value → zM → Prop}, (∀ r M1, zRI (k255 l0 l9 l10 l11 M) r M1 → Q r M1) → zWP 168 255 [some (.ref l0), none, none, none, none, none, none, none, none, some (.int l9), some (.int l10), some (.int l11), none] [] M Q) (l0 : Nat) (l9 : Int32) (l10 : Int32) (l11 : Int32) (M : zM) (hp : d168_255 n q240 q255 l0 l9 l10 l11 M) {Q : Option Value → zM → Prop} (hQ : ∀ r M1, zRI (c168_255 n k240 k255 l0 l9 l10 l11 M) r M1 → Q r M1) : zWP 168 255 [some (.ref l0), none, none, none, none, none, none, none, none, some (.int l9), some (.int l10), some (.int l11), none] [] M Q := by
  unfold c168_255 at hQ
  unfold d168_255 at hp
  refine wp_go 2 (pc' := 258) (L' := [some (.ref l0), none, none, none, none, none, none, none, none, some (.int l9), some (.int l10), some (.int l11), none]) (st' := [.ref l0, .int l11]) (M' := M) rfl ?_
  obtain ⟨hc, hp⟩ := hp
  refine wq_getI (j := 0) rfl hc ?_
  refine wp_ic_ge (t := 341) rfl rfl (fun hc => ?_) (fun hc => ?_)
  · rw [if_pos hc] at hQ
    replace hp := hp.1 hc
    refine wp_go 2 (pc' := 240) (L' := [some (.ref l0), none, none, none, none, none, none, none, none, some (.int l9), some (.int (l10 + Int32.ofInt 1)), some (.int l11), none]) (st' := []) (M' := M) rfl ?_
    refine wp_le [some (.ref l0), none, none, none, none, none, none, none, none, some (.int l9), some (.int (l10 + Int32.ofInt 1)), none, none] (zLe_of (by simp [zLeB])) ?_
    exact h240 l0 l9 (l10 + Int32.ofInt 1) M hp hQ
  · rw [if_neg hc] at hQ
    replace hp := hp.2 hc
    refine wp_go 1 (pc' := 265) (L' := [some (.ref l0), none, none, none, none, none, none, none, none, some (.int l9), some (.int l10), some (.int l11), none]) (st' := [.ref l0]) (M' := M) rfl ?_
    obtain ⟨hc, hp⟩ := hp
    refine wq_getQ (j := 41) rfl hc ?_
    refine wp_go 1 (pc' := 270) (L' := [some (.ref l0), none, none, none, none, none, none, none, none, some (.int l9), some (.int l10), some (.int l11), none]) (st' := [.int l10, .ref (zQ M l0 41)]) (M' := M) rfl ?_
    obtain ⟨hc, hp⟩ := hp
    refine wq_zald rfl hc ?_
    refine wp_if_eq (t := 335) rfl rfl (fun hc => ?_) (fun hc => ?_)
    · rw [if_pos hc] at hQ
      replace hp := hp.1 hc
      exact s168_335 n k240 k255 q240 q255 h240 h255 l0 l9 l10 l11 M hp hQ
    · rw [if_neg hc] at hQ
      replace hp := hp.2 hc
      refine wp_go 1 (pc' := 275) (L' := [some (.ref l0), none, none, none, none, none, none, none, none, some (.int l9), some (.int l10), some (.int l11), none]) (st' := [.ref l0]) (M' := M) rfl ?_
      obtain ⟨hc, hp⟩ := hp
      refine wq_getQ (j := 41) rfl hc ?_
      refine wp_go 1 (pc' := 280) (L' := [some (.ref l0), none, none, none, none, none, none, none, none, some (.int l9), some (.int l10), some (.int l11), none]) (st' := [.int l11, .ref (zQ M l0 41)]) (M' := M) rfl ?_
      obtain ⟨hc, hp⟩ := hp
      refine wq_zald rfl hc ?_
      refine wp_if_ne (t := 287) rfl rfl (fun hc => ?_) (fun hc => ?_)
      · rw [if_neg hc] at hQ
        replace hp := hp.2 hc
        refine wp_go 3 (pc' := 292) (L' := [some (.ref l0), none, none, none, none, none, none, none, none, some (.int l9), some (.int l10), some (.int l11), none]) (st' := [.int l11, .int l10, .ref l0]) (M' := M) rfl ?_
        obtain ⟨hv, hp⟩ := hp
        obtain ⟨hc, hp⟩ := hp
        refine wp_calli (v := (b163_0 n l0 l10 l11 M).1) (M1 := (b163_0 n l0 l10 l11 M).2) rfl rfl rfl (zInv_v (np := 2) rfl rfl hv rfl) (s163_0 n l0 l10 l11 M hc (fun r M1 h => h)) ?_
        exact s168_295 n k240 k255 q240 q255 h240 h255 l0 l9 l10 l11 (b163_0 n l0 l10 l11 M).1 (b163_0 n l0 l10 l11 M).2 hp hQ
      · rw [if_pos hc] at hQ
        replace hp := hp.1 hc
        refine wp_go 1 (pc' := 335) (L' := [some (.ref l0), none, none, none, none, none, none, none, none, some (.int l9), some (.int l10), some (.int l11), none]) (st' := []) (M' := M) rfl ?_
        exact s168_335 n k240 k255 q240 q255 h240 h255 l0 l9 l10 l11 M hp hQ
def b168_255 (n : Nat) (k240 : Nat → Int32 → Int32 → zM → Int32 × zM) : Nat → Nat → Int32 → Int32 → Int32 → zM → Int32 × zM
  | 0, _, _, _, _, M => (0, M)
  | k + 1, l0, l9, l10, l11, M => c168_255 n k240 (b168_255 n k240 k) l0 l9 l10 l11 M
def p168_255 (n : Nat) (q240 : Nat → Int32 → Int32 → zM → Prop) : Nat → Nat → Int32 → Int32 → Int32 → zM → Prop
  | 0, _, _, _, _, _ => False
  | k + 1, l0, l9, l10, l11, M => d168_255 n q240 (p168_255 n q240 k) l0 l9 l10 l11 M
theorem s168_255 (n : Nat) (k240 : Nat → Int32 → Int32 → zM → Int32 × zM) (q240 : Nat → Int32 → Int32 → zM → Prop) (h240 : ∀ (l0 : Nat) (l9 : Int32) (l10 : Int32) (M : zM), q240 l0 l9 l10 M → ∀ {Q : Option Value → zM → Prop}, (∀ r M1, zRI (k240 l0 l9 l10 M) r M1 → Q r M1) → zWP 168 240 [some (.ref l0), none, none, none, none, none, none, none, none, some (.int l9), some (.int l10), none, none] [] M Q) : ∀ (k : Nat) (l0 : Nat) (l9 : Int32) (l10 : Int32) (l11 : Int32) (M : zM), p168_255 n q240 k l0 l9 l10 l11 M → ∀ {Q : Option Value → zM → Prop}, (∀ r M1, zRI (b168_255 n k240 k l0 l9 l10 l11 M) r M1 → Q r M1) → zWP 168 255 [some (.ref l0), none, none, none, none, none, none, none, none, some (.int l9), some (.int l10), some (.int l11), none] [] M Q
  | 0, _, _, _, _, _, h, _, _ => h.elim
  | k + 1, l0, l9, l10, l11, M, h, _, hQ => t168_255 n k240 (b168_255 n k240 k) q240 (p168_255 n q240 k) h240 (s168_255 n k240 q240 h240 k) l0 l9 l10 l11 M h hQ
def c168_240 (n : Nat) (k240 : Nat → Int32 → Int32 → zM → Int32 × zM) (l0 : Nat) (l9 : Int32) (l10 : Int32) (M : zM) : Int32 × zM := (if (zI M l0 0) ≤ l10 then b168_353 n  (b167_0 n l0 l9 M).1 (b167_0 n l0 l9 M).2 else b168_255 n k240 n l0 l9 l10 (l10 + (1 : Int32)) M)
def d168_240 (n : Nat) (q240 : Nat → Int32 → Int32 → zM → Prop) (l0 : Nat) (l9 : Int32) (l10 : Int32) (M : zM) : Prop := (zHasI 10 148 l0 M 0) ∧ ((((zI M l0 0) ≤ l10 → (zHasC 168 301 l0 M 167 1) ∧ ((p167_0 n l0 l9 M) ∧ (p168_353 n  (b167_0 n l0 l9 M).1 (b167_0 n l0 l9 M).2))) ∧ (¬ (zI M l0 0) ≤ l10 → p168_255 n q240 n l0 l9 l10 (l10 + (1 : Int32)) M)))
theorem t168_240 (n : Nat) (k240 : Nat → Int32 → Int32 → zM → Int32 × zM) (q240 : Nat → Int32 → Int32 → zM → Prop) (h240 : ∀ (l0 : Nat) (l9 : Int32) (l10 : Int32) (M : zM), q240 l0 l9 l10 M → ∀ {Q : Option Value → zM → Prop}, (∀ r M1, zRI (k240 l0 l9 l10 M) r M1 → Q r M1) → zWP 168 240 [some (.ref l0), none, none, none, none, none, none, none, none, some (.int l9), some (.int l10), none, none] [] M Q) (l0 : Nat) (l9 : Int32) (l10 : Int32) (M : zM) (hp : d168_240 n q240 l0 l9 l10 M) {Q : Option Value → zM → Prop} (hQ : ∀ r M1, zRI (c168_240 n k240 l0 l9 l10 M) r M1 → Q r M1) : zWP 168 240 [some (.ref l0), none, none, none, none, none, none, none, none, some (.int l9), some (.int l10), none, none] [] M Q := by
  unfold c168_240 at hQ
  unfold d168_240 at hp
  refine wp_go 2 (pc' := 243) (L' := [some (.ref l0), none, none, none, none, none, none, none, none, some (.int l9), some (.int l10), none, none]) (st' := [.ref l0, .int l10]) (M' := M) rfl ?_
  obtain ⟨hc, hp⟩ := hp
  refine wq_getI (j := 0) rfl hc ?_
  refine wp_ic_ge (t := 347) rfl rfl (fun hc => ?_) (fun hc => ?_)
  · rw [if_pos hc] at hQ
    replace hp := hp.1 hc
    refine wp_go 2 (pc' := 350) (L' := [some (.ref l0), none, none, none, none, none, none, none, none, some (.int l9), some (.int l10), none, none]) (st' := [.int l9, .ref l0]) (M' := M) rfl ?_
    obtain ⟨hv, hp⟩ := hp
    obtain ⟨hc, hp⟩ := hp
    refine wp_calli (v := (b167_0 n l0 l9 M).1) (M1 := (b167_0 n l0 l9 M).2) rfl rfl rfl (zInv_v (np := 1) rfl rfl hv rfl) (s167_0 n l0 l9 M hc (fun r M1 h => h)) ?_
    refine wp_le [none, none, none, none, none, none, none, none, none, none, none, none, none] (zLe_of (by simp [zLeB])) ?_
    exact s168_353 n    (b167_0 n l0 l9 M).1 (b167_0 n l0 l9 M).2 hp hQ
  · rw [if_neg hc] at hQ
    replace hp := hp.2 hc
    refine wp_go 4 (pc' := 255) (L' := [some (.ref l0), none, none, none, none, none, none, none, none, some (.int l9), some (.int l10), some (.int (l10 + (1 : Int32))), none]) (st' := []) (M' := M) rfl ?_
    exact s168_255 n k240 q240 h240 n l0 l9 l10 (l10 + (1 : Int32)) M hp hQ
def b168_240 (n : Nat)  : Nat → Nat → Int32 → Int32 → zM → Int32 × zM
  | 0, _, _, _, M => (0, M)
  | k + 1, l0, l9, l10, M => c168_240 n  (b168_240 n  k) l0 l9 l10 M
def p168_240 (n : Nat)  : Nat → Nat → Int32 → Int32 → zM → Prop
  | 0, _, _, _, _ => False
  | k + 1, l0, l9, l10, M => d168_240 n  (p168_240 n  k) l0 l9 l10 M
theorem s168_240 (n : Nat)    : ∀ (k : Nat) (l0 : Nat) (l9 : Int32) (l10 : Int32) (M : zM), p168_240 n  k l0 l9 l10 M → ∀ {Q : Option Value → zM → Prop}, (∀ r M1, zRI (b168_240 n  k l0 l9 l10 M) r M1 → Q r M1) → zWP 168 240 [some (.ref l0), none, none, none, none, none, none, none, none, some (.int l9), some (.int l10), none, none] [] M Q
  | 0, _, _, _, _, h, _, _ => h.elim
  | k + 1, l0, l9, l10, M, h, _, hQ => t168_240 n  (b168_240 n  k)  (p168_240 n  k)  (s168_240 n    k) l0 l9 l10 M h hQ
def b168_231 (n : Nat) (k211 : Nat → Int32 → Int32 → zM → Int32 × zM) (l0 : Nat) (l9 : Int32) (l10 : Int32) (M : zM) : Int32 × zM := k211 l0 l9 (l10 + Int32.ofInt 1) M
def p168_231 (n : Nat) (q211 : Nat → Int32 → Int32 → zM → Prop) (l0 : Nat) (l9 : Int32) (l10 : Int32) (M : zM) : Prop := q211 l0 l9 (l10 + Int32.ofInt 1) M
theorem s168_231 (n : Nat) (k211 : Nat → Int32 → Int32 → zM → Int32 × zM) (q211 : Nat → Int32 → Int32 → zM → Prop) (h211 : ∀ (l0 : Nat) (l9 : Int32) (l10 : Int32) (M : zM), q211 l0 l9 l10 M → ∀ {Q : Option Value → zM → Prop}, (∀ r M1, zRI (k211 l0 l9 l10 M) r M1 → Q r M1) → zWP 168 211 [some (.ref l0), none, none, none, none, none, none, none, none, some (.int l9), some (.int l10), none, none] [] M Q) (l0 : Nat) (l9 : Int32) (l10 : Int32) (M : zM) (hp : p168_231 n q211 l0 l9 l10 M) {Q : Option Value → zM → Prop} (hQ : ∀ r M1, zRI (b168_231 n k211 l0 l9 l10 M) r M1 → Q r M1) : zWP 168 231 [some (.ref l0), none, none, none, none, none, none, none, none, some (.int l9), some (.int l10), none, none] [] M Q := by
  unfold b168_231 at hQ
  unfold p168_231 at hp
  refine wp_go 2 (pc' := 211) (L' := [some (.ref l0), none, none, none, none, none, none, none, none, some (.int l9), some (.int (l10 + Int32.ofInt 1)), none, none]) (st' := []) (M' := M) rfl ?_
  exact h211 l0 l9 (l10 + Int32.ofInt 1) M hp hQ
def c168_211 (n : Nat) (k211 : Nat → Int32 → Int32 → zM → Int32 × zM) (l0 : Nat) (l9 : Int32) (l10 : Int32) (M : zM) : Int32 × zM := (if (zI M l0 40) ≤ l10 then b168_240 n  n l0 l9 (0 : Int32) M else b168_231 n k211 l0 l9 l10 (b161_0 n l0 (zI M (zQ M l0 39) l10.toNatClampNeg) M))
def d168_211 (n : Nat) (q211 : Nat → Int32 → Int32 → zM → Prop) (l0 : Nat) (l9 : Int32) (l10 : Int32) (M : zM) : Prop := (zHasI 10 183 l0 M 40) ∧ ((((zI M l0 40) ≤ l10 → p168_240 n  n l0 l9 (0 : Int32) M) ∧ (¬ (zI M l0 40) ≤ l10 → (zHasQ 10 96 l0 M 39) ∧ ((zOkI (zQ M l0 39) l10 M) ∧ ((zHasC 168 295 l0 M 161 1) ∧ ((p161_0 n l0 (zI M (zQ M l0 39) l10.toNatClampNeg) M) ∧ (p168_231 n q211 l0 l9 l10 (b161_0 n l0 (zI M (zQ M l0 39) l10.toNatClampNeg) M))))))))
theorem t168_211 (n : Nat) (k211 : Nat → Int32 → Int32 → zM → Int32 × zM) (q211 : Nat → Int32 → Int32 → zM → Prop) (h211 : ∀ (l0 : Nat) (l9 : Int32) (l10 : Int32) (M : zM), q211 l0 l9 l10 M → ∀ {Q : Option Value → zM → Prop}, (∀ r M1, zRI (k211 l0 l9 l10 M) r M1 → Q r M1) → zWP 168 211 [some (.ref l0), none, none, none, none, none, none, none, none, some (.int l9), some (.int l10), none, none] [] M Q) (l0 : Nat) (l9 : Int32) (l10 : Int32) (M : zM) (hp : d168_211 n q211 l0 l9 l10 M) {Q : Option Value → zM → Prop} (hQ : ∀ r M1, zRI (c168_211 n k211 l0 l9 l10 M) r M1 → Q r M1) : zWP 168 211 [some (.ref l0), none, none, none, none, none, none, none, none, some (.int l9), some (.int l10), none, none] [] M Q := by
  unfold c168_211 at hQ
  unfold d168_211 at hp
  refine wp_go 2 (pc' := 214) (L' := [some (.ref l0), none, none, none, none, none, none, none, none, some (.int l9), some (.int l10), none, none]) (st' := [.ref l0, .int l10]) (M' := M) rfl ?_
  obtain ⟨hc, hp⟩ := hp
  refine wq_getI (j := 40) rfl hc ?_
  refine wp_ic_ge (t := 237) rfl rfl (fun hc => ?_) (fun hc => ?_)
  · rw [if_pos hc] at hQ
    replace hp := hp.1 hc
    refine wp_go 2 (pc' := 240) (L' := [some (.ref l0), none, none, none, none, none, none, none, none, some (.int l9), some (.int (0 : Int32)), none, none]) (st' := []) (M' := M) rfl ?_
    exact s168_240 n    n l0 l9 (0 : Int32) M hp hQ
  · rw [if_neg hc] at hQ
    replace hp := hp.2 hc
    refine wp_go 2 (pc' := 222) (L' := [some (.ref l0), none, none, none, none, none, none, none, none, some (.int l9), some (.int l10), none, none]) (st' := [.ref l0, .ref l0]) (M' := M) rfl ?_
    obtain ⟨hc, hp⟩ := hp
    refine wq_getQ (j := 39) rfl hc ?_
    refine wp_go 1 (pc' := 227) (L' := [some (.ref l0), none, none, none, none, none, none, none, none, some (.int l9), some (.int l10), none, none]) (st' := [.int l10, .ref (zQ M l0 39), .ref l0]) (M' := M) rfl ?_
    obtain ⟨hc, hp⟩ := hp
    refine wq_iald rfl hc ?_
    obtain ⟨hv, hp⟩ := hp
    obtain ⟨hc, hp⟩ := hp
    refine wp_callv (M1 := (b161_0 n l0 (zI M (zQ M l0 39) l10.toNatClampNeg) M)) rfl rfl rfl (zInv_v (np := 1) rfl rfl hv rfl) (s161_0 n l0 (zI M (zQ M l0 39) l10.toNatClampNeg) M hc (fun r M1 h => h)) ?_
    exact s168_231 n k211 q211 h211 l0 l9 l10 (b161_0 n l0 (zI M (zQ M l0 39) l10.toNatClampNeg) M) hp hQ
def b168_211 (n : Nat)  : Nat → Nat → Int32 → Int32 → zM → Int32 × zM
  | 0, _, _, _, M => (0, M)
  | k + 1, l0, l9, l10, M => c168_211 n  (b168_211 n  k) l0 l9 l10 M
def p168_211 (n : Nat)  : Nat → Nat → Int32 → Int32 → zM → Prop
  | 0, _, _, _, _ => False
  | k + 1, l0, l9, l10, M => d168_211 n  (p168_211 n  k) l0 l9 l10 M
theorem s168_211 (n : Nat)    : ∀ (k : Nat) (l0 : Nat) (l9 : Int32) (l10 : Int32) (M : zM), p168_211 n  k l0 l9 l10 M → ∀ {Q : Option Value → zM → Prop}, (∀ r M1, zRI (b168_211 n  k l0 l9 l10 M) r M1 → Q r M1) → zWP 168 211 [some (.ref l0), none, none, none, none, none, none, none, none, some (.int l9), some (.int l10), none, none] [] M Q
  | 0, _, _, _, _, h, _, _ => h.elim
  | k + 1, l0, l9, l10, M, h, _, hQ => t168_211 n  (b168_211 n  k)  (p168_211 n  k)  (s168_211 n    k) l0 l9 l10 M h hQ
def b168_208 (n : Nat)  (l0 : Nat) (l9 : Int32) (M : zM) : Int32 × zM := b168_211 n  n l0 l9 (0 : Int32) M
def p168_208 (n : Nat)  (l0 : Nat) (l9 : Int32) (M : zM) : Prop := p168_211 n  n l0 l9 (0 : Int32) M
theorem s168_208 (n : Nat)    (l0 : Nat) (l9 : Int32) (M : zM) (hp : p168_208 n  l0 l9 M) {Q : Option Value → zM → Prop} (hQ : ∀ r M1, zRI (b168_208 n  l0 l9 M) r M1 → Q r M1) : zWP 168 208 [some (.ref l0), none, none, none, none, none, none, none, none, some (.int l9), none, none, none] [] M Q := by
  unfold b168_208 at hQ
  unfold p168_208 at hp
  refine wp_go 2 (pc' := 211) (L' := [some (.ref l0), none, none, none, none, none, none, none, none, some (.int l9), some (.int (0 : Int32)), none, none]) (st' := []) (M' := M) rfl ?_
  exact s168_211 n    n l0 l9 (0 : Int32) M hp hQ
def b168_205 (n : Nat)  (l0 : Nat) (l9 : Int32) (s0 : Nat) (s1 : Int32) (M : zM) : Int32 × zM := b168_208 n  l0 l9 (b158_0 n s0 s1 M)
def p168_205 (n : Nat)  (l0 : Nat) (l9 : Int32) (s0 : Nat) (s1 : Int32) (M : zM) : Prop := (zHasC 168 179 s0 M 158 1) ∧ ((p158_0 n s0 s1 M) ∧ (p168_208 n  l0 l9 (b158_0 n s0 s1 M)))
theorem s168_205 (n : Nat)    (l0 : Nat) (l9 : Int32) (s0 : Nat) (s1 : Int32) (M : zM) (hp : p168_205 n  l0 l9 s0 s1 M) {Q : Option Value → zM → Prop} (hQ : ∀ r M1, zRI (b168_205 n  l0 l9 s0 s1 M) r M1 → Q r M1) : zWP 168 205 [some (.ref l0), none, none, none, none, none, none, none, none, some (.int l9), none, none, none] [.int s1, .ref s0] M Q := by
  unfold b168_205 at hQ
  unfold p168_205 at hp
  obtain ⟨hv, hp⟩ := hp
  obtain ⟨hc, hp⟩ := hp
  refine wp_callv (M1 := (b158_0 n s0 s1 M)) rfl rfl rfl (zInv_v (np := 1) rfl rfl hv rfl) (s158_0 n s0 s1 M hc (fun r M1 h => h)) ?_
  exact s168_208 n    l0 l9 (b158_0 n s0 s1 M) hp hQ
def b168_190 (n : Nat)  (l0 : Nat) (l7 : Int32) (l8 : Int32) (l9 : Int32) (M : zM) : Int32 × zM := (if l8 ≤ l7 then b168_205 n  l0 l9 l0 l8 M else b168_205 n  l0 l9 l0 l7 M)
def p168_190 (n : Nat)  (l0 : Nat) (l7 : Int32) (l8 : Int32) (l9 : Int32) (M : zM) : Prop := ((l8 ≤ l7 → p168_205 n  l0 l9 l0 l8 M) ∧ (¬ l8 ≤ l7 → p168_205 n  l0 l9 l0 l7 M))
theorem s168_190 (n : Nat)    (l0 : Nat) (l7 : Int32) (l8 : Int32) (l9 : Int32) (M : zM) (hp : p168_190 n  l0 l7 l8 l9 M) {Q : Option Value → zM → Prop} (hQ : ∀ r M1, zRI (b168_190 n  l0 l7 l8 l9 M) r M1 → Q r M1) : zWP 168 190 [some (.ref l0), none, none, none, none, none, none, some (.int l7), some (.int l8), some (.int l9), none, none, none] [] M Q := by
  unfold b168_190 at hQ
  unfold p168_190 at hp
  refine wp_go 3 (pc' := 195) (L' := [some (.ref l0), none, none, none, none, none, none, some (.int l7), some (.int l8), some (.int l9), none, none, none]) (st' := [.int l8, .int l7, .ref l0]) (M' := M) rfl ?_
  refine wp_ic_ge (t := 203) rfl rfl (fun hc => ?_) (fun hc => ?_)
  · rw [if_pos hc] at hQ
    replace hp := hp.1 hc
    refine wp_go 1 (pc' := 205) (L' := [some (.ref l0), none, none, none, none, none, none, some (.int l7), some (.int l8), some (.int l9), none, none, none]) (st' := [.int l8, .ref l0]) (M' := M) rfl ?_
    refine wp_le [some (.ref l0), none, none, none, none, none, none, none, none, some (.int l9), none, none, none] (zLe_of (by simp [zLeB])) ?_
    exact s168_205 n    l0 l9 l0 l8 M hp hQ
  · rw [if_neg hc] at hQ
    replace hp := hp.2 hc
    refine wp_go 2 (pc' := 205) (L' := [some (.ref l0), none, none, none, none, none, none, some (.int l7), some (.int l8), some (.int l9), none, none, none]) (st' := [.int l7, .ref l0]) (M' := M) rfl ?_
    refine wp_le [some (.ref l0), none, none, none, none, none, none, none, none, some (.int l9), none, none, none] (zLe_of (by simp [zLeB])) ?_
    exact s168_205 n    l0 l9 l0 l7 M hp hQ
def b168_174 (n : Nat)  (l0 : Nat) (l1 : Int32) (l2 : Int32) (l3 : Int32) (l4 : Int32) (l5 : Int32) (l6 : Int32) (l7 : Int32) (l8 : Int32) (l9 : Int32) (M : zM) : Int32 × zM := b168_190 n  l0 l7 l8 l9 (b165_0 n l0 l9 l1 l2 l3 l4 l5 l6 (0 : Int32) M)
def p168_174 (n : Nat)  (l0 : Nat) (l1 : Int32) (l2 : Int32) (l3 : Int32) (l4 : Int32) (l5 : Int32) (l6 : Int32) (l7 : Int32) (l8 : Int32) (l9 : Int32) (M : zM) : Prop := (zHasC 168 288 l0 M 165 8) ∧ ((p165_0 n l0 l9 l1 l2 l3 l4 l5 l6 (0 : Int32) M) ∧ (p168_190 n  l0 l7 l8 l9 (b165_0 n l0 l9 l1 l2 l3 l4 l5 l6 (0 : Int32) M)))
theorem s168_174 (n : Nat)    (l0 : Nat) (l1 : Int32) (l2 : Int32) (l3 : Int32) (l4 : Int32) (l5 : Int32) (l6 : Int32) (l7 : Int32) (l8 : Int32) (l9 : Int32) (M : zM) (hp : p168_174 n  l0 l1 l2 l3 l4 l5 l6 l7 l8 l9 M) {Q : Option Value → zM → Prop} (hQ : ∀ r M1, zRI (b168_174 n  l0 l1 l2 l3 l4 l5 l6 l7 l8 l9 M) r M1 → Q r M1) : zWP 168 174 [some (.ref l0), some (.int l1), some (.int l2), some (.int l3), some (.int l4), some (.int l5), some (.int l6), some (.int l7), some (.int l8), some (.int l9), none, none, none] [] M Q := by
  unfold b168_174 at hQ
  unfold p168_174 at hp
  refine wp_go 5 (pc' := 180) (L' := [some (.ref l0), some (.int l1), some (.int l2), some (.int l3), some (.int l4), some (.int l5), some (.int l6), some (.int l7), some (.int l8), some (.int l9), none, none, none]) (st' := [.int l3, .int l2, .int l1, .int l9, .ref l0]) (M' := M) rfl ?_
  refine wp_go 4 (pc' := 187) (L' := [some (.ref l0), some (.int l1), some (.int l2), some (.int l3), some (.int l4), some (.int l5), some (.int l6), some (.int l7), some (.int l8), some (.int l9), none, none, none]) (st' := [.int (0 : Int32), .int l6, .int l5, .int l4, .int l3, .int l2, .int l1, .int l9, .ref l0]) (M' := M) rfl ?_
  obtain ⟨hv, hp⟩ := hp
  obtain ⟨hc, hp⟩ := hp
  refine wp_callv (M1 := (b165_0 n l0 l9 l1 l2 l3 l4 l5 l6 (0 : Int32) M)) rfl rfl rfl (zInv_v (np := 8) rfl rfl hv rfl) (s165_0 n l0 l9 l1 l2 l3 l4 l5 l6 (0 : Int32) M hc (fun r M1 h => h)) ?_
  refine wp_le [some (.ref l0), none, none, none, none, none, none, some (.int l7), some (.int l8), some (.int l9), none, none, none] (zLe_of (by simp [zLeB])) ?_
  exact s168_190 n    l0 l7 l8 l9 (b165_0 n l0 l9 l1 l2 l3 l4 l5 l6 (0 : Int32) M) hp hQ
def b168_171 (n : Nat)   (M : zM) : Int32 × zM := (((-5) : Int32), M)
def p168_171 (n : Nat)   (M : zM) : Prop := True
theorem s168_171 (n : Nat)     (M : zM) (hp : p168_171 n   M) {Q : Option Value → zM → Prop} (hQ : ∀ r M1, zRI (b168_171 n   M) r M1 → Q r M1) : zWP 168 171 [none, none, none, none, none, none, none, none, none, none, none, none, none] [] M Q := by
  unfold b168_171 at hQ
  unfold p168_171 at hp
  refine wp_go 1 (pc' := 173) (L' := [none, none, none, none, none, none, none, none, none, none, none, none, none]) (st' := [.int ((-5) : Int32)]) (M' := M) rfl ?_
  exact wp_ret (r := some (.int ((-5) : Int32))) rfl rfl (hQ _ _ ⟨rfl, rfl⟩)
def b168_156 (n : Nat)  (l0 : Nat) (l1 : Int32) (l2 : Int32) (l3 : Int32) (l4 : Int32) (l5 : Int32) (l6 : Int32) (l7 : Int32) (l8 : Int32) (l9 : Int32) (l10 : Int32) (M : zM) : Int32 × zM := (if l10 ≤ (zI M l0 13) then b168_174 n  l0 l1 l2 l3 l4 l5 l6 l7 l8 l9 M else b168_171 n  (zWI M l0 50 l10))
def p168_156 (n : Nat)  (l0 : Nat) (l1 : Int32) (l2 : Int32) (l3 : Int32) (l4 : Int32) (l5 : Int32) (l6 : Int32) (l7 : Int32) (l8 : Int32) (l9 : Int32) (l10 : Int32) (M : zM) : Prop := (zHasI 10 48 l0 M 13) ∧ (((l10 ≤ (zI M l0 13) → p168_174 n  l0 l1 l2 l3 l4 l5 l6 l7 l8 l9 M) ∧ (¬ l10 ≤ (zI M l0 13) → (zPutI 168 117 l0 M 50 l10) ∧ (p168_171 n  (zWI M l0 50 l10)))))
theorem s168_156 (n : Nat)    (l0 : Nat) (l1 : Int32) (l2 : Int32) (l3 : Int32) (l4 : Int32) (l5 : Int32) (l6 : Int32) (l7 : Int32) (l8 : Int32) (l9 : Int32) (l10 : Int32) (M : zM) (hp : p168_156 n  l0 l1 l2 l3 l4 l5 l6 l7 l8 l9 l10 M) {Q : Option Value → zM → Prop} (hQ : ∀ r M1, zRI (b168_156 n  l0 l1 l2 l3 l4 l5 l6 l7 l8 l9 l10 M) r M1 → Q r M1) : zWP 168 156 [some (.ref l0), some (.int l1), some (.int l2), some (.int l3), some (.int l4), some (.int l5), some (.int l6), some (.int l7), some (.int l8), some (.int l9), some (.int l10), none, none] [] M Q := by
  unfold b168_156 at hQ
  unfold p168_156 at hp
  refine wp_go 2 (pc' := 159) (L' := [some (.ref l0), some (.int l1), some (.int l2), some (.int l3), some (.int l4), some (.int l5), some (.int l6), some (.int l7), some (.int l8), some (.int l9), some (.int l10), none, none]) (st' := [.ref l0, .int l10]) (M' := M) rfl ?_
  obtain ⟨hc, hp⟩ := hp
  refine wq_getI (j := 13) rfl hc ?_
  refine wp_ic_le (t := 174) rfl rfl (fun hc => ?_) (fun hc => ?_)
  · rw [if_pos hc] at hQ
    replace hp := hp.1 hc
    refine wp_le [some (.ref l0), some (.int l1), some (.int l2), some (.int l3), some (.int l4), some (.int l5), some (.int l6), some (.int l7), some (.int l8), some (.int l9), none, none, none] (zLe_of (by simp [zLeB])) ?_
    exact s168_174 n    l0 l1 l2 l3 l4 l5 l6 l7 l8 l9 M hp hQ
  · rw [if_neg hc] at hQ
    replace hp := hp.2 hc
    refine wp_go 2 (pc' := 168) (L' := [some (.ref l0), some (.int l1), some (.int l2), some (.int l3), some (.int l4), some (.int l5), some (.int l6), some (.int l7), some (.int l8), some (.int l9), some (.int l10), none, none]) (st' := [.int l10, .ref l0]) (M' := M) rfl ?_
    obtain ⟨hc, hp⟩ := hp
    refine wq_putI (j := 50) rfl hc ?_
    refine wp_le [none, none, none, none, none, none, none, none, none, none, none, none, none] (zLe_of (by simp [zLeB])) ?_
    exact s168_171 n    (zWI M l0 50 l10) hp hQ
def b168_146 (n : Nat)  (l0 : Nat) (l1 : Int32) (l2 : Int32) (l3 : Int32) (l4 : Int32) (l5 : Int32) (l6 : Int32) (l7 : Int32) (l8 : Int32) (l9 : Int32) (s0 : Int32) (M : zM) : Int32 × zM := b168_156 n  l0 l1 l2 l3 l4 l5 l6 l7 l8 l9 s0 (zWI M (zQ M l0 17) l9.toNatClampNeg (0 : Int32))
def p168_146 (n : Nat)  (l0 : Nat) (l1 : Int32) (l2 : Int32) (l3 : Int32) (l4 : Int32) (l5 : Int32) (l6 : Int32) (l7 : Int32) (l8 : Int32) (l9 : Int32) (s0 : Int32) (M : zM) : Prop := (zHasQ 10 54 l0 M 17) ∧ ((zOkT 2 (zQ M l0 17) l9 M ∧ zNar .boolean (0 : Int32) = true) ∧ (p168_156 n  l0 l1 l2 l3 l4 l5 l6 l7 l8 l9 s0 (zWI M (zQ M l0 17) l9.toNatClampNeg (0 : Int32))))
theorem s168_146 (n : Nat)    (l0 : Nat) (l1 : Int32) (l2 : Int32) (l3 : Int32) (l4 : Int32) (l5 : Int32) (l6 : Int32) (l7 : Int32) (l8 : Int32) (l9 : Int32) (s0 : Int32) (M : zM) (hp : p168_146 n  l0 l1 l2 l3 l4 l5 l6 l7 l8 l9 s0 M) {Q : Option Value → zM → Prop} (hQ : ∀ r M1, zRI (b168_146 n  l0 l1 l2 l3 l4 l5 l6 l7 l8 l9 s0 M) r M1 → Q r M1) : zWP 168 146 [some (.ref l0), some (.int l1), some (.int l2), some (.int l3), some (.int l4), some (.int l5), some (.int l6), some (.int l7), some (.int l8), some (.int l9), none, none, none] [.int s0] M Q := by
  unfold b168_146 at hQ
  unfold p168_146 at hp
  refine wp_go 2 (pc' := 149) (L' := [some (.ref l0), some (.int l1), some (.int l2), some (.int l3), some (.int l4), some (.int l5), some (.int l6), some (.int l7), some (.int l8), some (.int l9), some (.int s0), none, none]) (st' := [.ref l0]) (M' := M) rfl ?_
  obtain ⟨hc, hp⟩ := hp
  refine wq_getQ (j := 17) rfl hc ?_
  refine wp_go 2 (pc' := 155) (L' := [some (.ref l0), some (.int l1), some (.int l2), some (.int l3), some (.int l4), some (.int l5), some (.int l6), some (.int l7), some (.int l8), some (.int l9), some (.int s0), none, none]) (st' := [.int (0 : Int32), .int l9, .ref (zQ M l0 17)]) (M' := M) rfl ?_
  obtain ⟨hc, hp⟩ := hp
  refine wq_zast rfl hc ?_
  exact s168_156 n    l0 l1 l2 l3 l4 l5 l6 l7 l8 l9 s0 (zWI M (zQ M l0 17) l9.toNatClampNeg (0 : Int32)) hp hQ
def b168_140 (n : Nat)  (l0 : Nat) (l1 : Int32) (l2 : Int32) (l3 : Int32) (l4 : Int32) (l5 : Int32) (l6 : Int32) (l7 : Int32) (l8 : Int32) (l9 : Int32) (M : zM) : Int32 × zM := b168_146 n  l0 l1 l2 l3 l4 l5 l6 l7 l8 l9 (b159_0 n l0 l9 M).1 (b159_0 n l0 l9 M).2
def p168_140 (n : Nat)  (l0 : Nat) (l1 : Int32) (l2 : Int32) (l3 : Int32) (l4 : Int32) (l5 : Int32) (l6 : Int32) (l7 : Int32) (l8 : Int32) (l9 : Int32) (M : zM) : Prop := (zHasC 168 292 l0 M 159 1) ∧ ((p159_0 n l0 l9 M) ∧ (p168_146 n  l0 l1 l2 l3 l4 l5 l6 l7 l8 l9 (b159_0 n l0 l9 M).1 (b159_0 n l0 l9 M).2))
theorem s168_140 (n : Nat)    (l0 : Nat) (l1 : Int32) (l2 : Int32) (l3 : Int32) (l4 : Int32) (l5 : Int32) (l6 : Int32) (l7 : Int32) (l8 : Int32) (l9 : Int32) (M : zM) (hp : p168_140 n  l0 l1 l2 l3 l4 l5 l6 l7 l8 l9 M) {Q : Option Value → zM → Prop} (hQ : ∀ r M1, zRI (b168_140 n  l0 l1 l2 l3 l4 l5 l6 l7 l8 l9 M) r M1 → Q r M1) : zWP 168 140 [some (.ref l0), some (.int l1), some (.int l2), some (.int l3), some (.int l4), some (.int l5), some (.int l6), some (.int l7), some (.int l8), some (.int l9), none, none, none] [] M Q := by
  unfold b168_140 at hQ
  unfold p168_140 at hp
  refine wp_go 2 (pc' := 143) (L' := [some (.ref l0), some (.int l1), some (.int l2), some (.int l3), some (.int l4), some (.int l5), some (.int l6), some (.int l7), some (.int l8), some (.int l9), none, none, none]) (st' := [.int l9, .ref l0]) (M' := M) rfl ?_
  obtain ⟨hv, hp⟩ := hp
  obtain ⟨hc, hp⟩ := hp
  refine wp_calli (v := (b159_0 n l0 l9 M).1) (M1 := (b159_0 n l0 l9 M).2) rfl rfl rfl (zInv_v (np := 1) rfl rfl hv rfl) (s159_0 n l0 l9 M hc (fun r M1 h => h)) ?_
  exact s168_146 n    l0 l1 l2 l3 l4 l5 l6 l7 l8 l9 (b159_0 n l0 l9 M).1 (b159_0 n l0 l9 M).2 hp hQ
def b168_124 (n : Nat)  (l0 : Nat) (l1 : Int32) (l2 : Int32) (l3 : Int32) (l4 : Int32) (l5 : Int32) (l6 : Int32) (l7 : Int32) (l8 : Int32) (l9 : Int32) (M : zM) : Int32 × zM := b168_140 n  l0 l1 l2 l3 l4 l5 l6 l7 l8 l9 (b165_0 n l0 l9 l1 l2 l3 l4 l5 l6 (0 : Int32) M)
def p168_124 (n : Nat)  (l0 : Nat) (l1 : Int32) (l2 : Int32) (l3 : Int32) (l4 : Int32) (l5 : Int32) (l6 : Int32) (l7 : Int32) (l8 : Int32) (l9 : Int32) (M : zM) : Prop := (zHasC 168 288 l0 M 165 8) ∧ ((p165_0 n l0 l9 l1 l2 l3 l4 l5 l6 (0 : Int32) M) ∧ (p168_140 n  l0 l1 l2 l3 l4 l5 l6 l7 l8 l9 (b165_0 n l0 l9 l1 l2 l3 l4 l5 l6 (0 : Int32) M)))
theorem s168_124 (n : Nat)    (l0 : Nat) (l1 : Int32) (l2 : Int32) (l3 : Int32) (l4 : Int32) (l5 : Int32) (l6 : Int32) (l7 : Int32) (l8 : Int32) (l9 : Int32) (M : zM) (hp : p168_124 n  l0 l1 l2 l3 l4 l5 l6 l7 l8 l9 M) {Q : Option Value → zM → Prop} (hQ : ∀ r M1, zRI (b168_124 n  l0 l1 l2 l3 l4 l5 l6 l7 l8 l9 M) r M1 → Q r M1) : zWP 168 124 [some (.ref l0), some (.int l1), some (.int l2), some (.int l3), some (.int l4), some (.int l5), some (.int l6), some (.int l7), some (.int l8), some (.int l9), none, none, none] [] M Q := by
  unfold b168_124 at hQ
  unfold p168_124 at hp
  refine wp_go 5 (pc' := 130) (L' := [some (.ref l0), some (.int l1), some (.int l2), some (.int l3), some (.int l4), some (.int l5), some (.int l6), some (.int l7), some (.int l8), some (.int l9), none, none, none]) (st' := [.int l3, .int l2, .int l1, .int l9, .ref l0]) (M' := M) rfl ?_
  refine wp_go 4 (pc' := 137) (L' := [some (.ref l0), some (.int l1), some (.int l2), some (.int l3), some (.int l4), some (.int l5), some (.int l6), some (.int l7), some (.int l8), some (.int l9), none, none, none]) (st' := [.int (0 : Int32), .int l6, .int l5, .int l4, .int l3, .int l2, .int l1, .int l9, .ref l0]) (M' := M) rfl ?_
  obtain ⟨hv, hp⟩ := hp
  obtain ⟨hc, hp⟩ := hp
  refine wp_callv (M1 := (b165_0 n l0 l9 l1 l2 l3 l4 l5 l6 (0 : Int32) M)) rfl rfl rfl (zInv_v (np := 8) rfl rfl hv rfl) (s165_0 n l0 l9 l1 l2 l3 l4 l5 l6 (0 : Int32) M hc (fun r M1 h => h)) ?_
  exact s168_140 n    l0 l1 l2 l3 l4 l5 l6 l7 l8 l9 (b165_0 n l0 l9 l1 l2 l3 l4 l5 l6 (0 : Int32) M) hp hQ
def b168_109 (n : Nat)  (l0 : Nat) (l1 : Int32) (l2 : Int32) (l3 : Int32) (l4 : Int32) (l5 : Int32) (l6 : Int32) (l7 : Int32) (l8 : Int32) (s0 : Int32) (M : zM) : Int32 × zM := (if l7 = l8 then b168_124 n  l0 l1 l2 l3 l4 l5 l6 l7 l8 s0 (b158_0 n l0 l7 M) else b168_174 n  l0 l1 l2 l3 l4 l5 l6 l7 l8 s0 M)
def p168_109 (n : Nat)  (l0 : Nat) (l1 : Int32) (l2 : Int32) (l3 : Int32) (l4 : Int32) (l5 : Int32) (l6 : Int32) (l7 : Int32) (l8 : Int32) (s0 : Int32) (M : zM) : Prop := ((l7 = l8 → (zHasC 168 179 l0 M 158 1) ∧ ((p158_0 n l0 l7 M) ∧ (p168_124 n  l0 l1 l2 l3 l4 l5 l6 l7 l8 s0 (b158_0 n l0 l7 M)))) ∧ (¬ l7 = l8 → p168_174 n  l0 l1 l2 l3 l4 l5 l6 l7 l8 s0 M))
theorem s168_109 (n : Nat)    (l0 : Nat) (l1 : Int32) (l2 : Int32) (l3 : Int32) (l4 : Int32) (l5 : Int32) (l6 : Int32) (l7 : Int32) (l8 : Int32) (s0 : Int32) (M : zM) (hp : p168_109 n  l0 l1 l2 l3 l4 l5 l6 l7 l8 s0 M) {Q : Option Value → zM → Prop} (hQ : ∀ r M1, zRI (b168_109 n  l0 l1 l2 l3 l4 l5 l6 l7 l8 s0 M) r M1 → Q r M1) : zWP 168 109 [some (.ref l0), some (.int l1), some (.int l2), some (.int l3), some (.int l4), some (.int l5), some (.int l6), some (.int l7), some (.int l8), none, none, none, none] [.int s0] M Q := by
  unfold b168_109 at hQ
  unfold p168_109 at hp
  refine wp_go 3 (pc' := 115) (L' := [some (.ref l0), some (.int l1), some (.int l2), some (.int l3), some (.int l4), some (.int l5), some (.int l6), some (.int l7), some (.int l8), some (.int s0), none, none, none]) (st' := [.int l8, .int l7]) (M' := M) rfl ?_
  refine wp_ic_ne (t := 174) rfl rfl (fun hc => ?_) (fun hc => ?_)
  · rw [if_neg hc] at hQ
    replace hp := hp.2 hc
    exact s168_174 n    l0 l1 l2 l3 l4 l5 l6 l7 l8 s0 M hp hQ
  · rw [if_pos hc] at hQ
    replace hp := hp.1 hc
    refine wp_go 2 (pc' := 121) (L' := [some (.ref l0), some (.int l1), some (.int l2), some (.int l3), some (.int l4), some (.int l5), some (.int l6), some (.int l7), some (.int l8), some (.int s0), none, none, none]) (st' := [.int l7, .ref l0]) (M' := M) rfl ?_
    obtain ⟨hv, hp⟩ := hp
    obtain ⟨hc, hp⟩ := hp
    refine wp_callv (M1 := (b158_0 n l0 l7 M)) rfl rfl rfl (zInv_v (np := 1) rfl rfl hv rfl) (s158_0 n l0 l7 M hc (fun r M1 h => h)) ?_
    exact s168_124 n    l0 l1 l2 l3 l4 l5 l6 l7 l8 s0 (b158_0 n l0 l7 M) hp hQ
def b168_93 (n : Nat)  (l0 : Nat) (l1 : Int32) (l2 : Int32) (l3 : Int32) (l4 : Int32) (l5 : Int32) (l6 : Int32) (l7 : Int32) (l8 : Int32) (M : zM) : Int32 × zM := (if (zI M l0 15) = (40 : Int32) then (((-4) : Int32), M) else b168_109 n  l0 l1 l2 l3 l4 l5 l6 l7 l8 (b164_0 n l0 M).1 (b164_0 n l0 M).2)
def p168_93 (n : Nat)  (l0 : Nat) (l1 : Int32) (l2 : Int32) (l3 : Int32) (l4 : Int32) (l5 : Int32) (l6 : Int32) (l7 : Int32) (l8 : Int32) (M : zM) : Prop := (zHasI 10 278 l0 M 15) ∧ ((((zI M l0 15) = (40 : Int32) → True) ∧ (¬ (zI M l0 15) = (40 : Int32) → (zHasC 168 284 l0 M 164 0) ∧ ((p164_0 n l0 M) ∧ (p168_109 n  l0 l1 l2 l3 l4 l5 l6 l7 l8 (b164_0 n l0 M).1 (b164_0 n l0 M).2)))))
theorem s168_93 (n : Nat)    (l0 : Nat) (l1 : Int32) (l2 : Int32) (l3 : Int32) (l4 : Int32) (l5 : Int32) (l6 : Int32) (l7 : Int32) (l8 : Int32) (M : zM) (hp : p168_93 n  l0 l1 l2 l3 l4 l5 l6 l7 l8 M) {Q : Option Value → zM → Prop} (hQ : ∀ r M1, zRI (b168_93 n  l0 l1 l2 l3 l4 l5 l6 l7 l8 M) r M1 → Q r M1) : zWP 168 93 [some (.ref l0), some (.int l1), some (.int l2), some (.int l3), some (.int l4), some (.int l5), some (.int l6), some (.int l7), some (.int l8), none, none, none, none] [] M Q := by
  unfold b168_93 at hQ
  unfold p168_93 at hp
  refine wp_go 1 (pc' := 94) (L' := [some (.ref l0), some (.int l1), some (.int l2), some (.int l3), some (.int l4), some (.int l5), some (.int l6), some (.int l7), some (.int l8), none, none, none, none]) (st' := [.ref l0]) (M' := M) rfl ?_
  obtain ⟨hc, hp⟩ := hp
  refine wq_getI (j := 15) rfl hc ?_
  refine wp_go 1 (pc' := 99) (L' := [some (.ref l0), some (.int l1), some (.int l2), some (.int l3), some (.int l4), some (.int l5), some (.int l6), some (.int l7), some (.int l8), none, none, none, none]) (st' := [.int (40 : Int32), .int (zI M l0 15)]) (M' := M) rfl ?_
  refine wp_ic_ne (t := 105) rfl rfl (fun hc => ?_) (fun hc => ?_)
  · rw [if_neg hc] at hQ
    replace hp := hp.2 hc
    refine wp_go 1 (pc' := 106) (L' := [some (.ref l0), some (.int l1), some (.int l2), some (.int l3), some (.int l4), some (.int l5), some (.int l6), some (.int l7), some (.int l8), none, none, none, none]) (st' := [.ref l0]) (M' := M) rfl ?_
    obtain ⟨hv, hp⟩ := hp
    obtain ⟨hc, hp⟩ := hp
    refine wp_calli (v := (b164_0 n l0 M).1) (M1 := (b164_0 n l0 M).2) rfl rfl rfl (zInv_v (np := 0) rfl rfl hv rfl) (s164_0 n l0 M hc (fun r M1 h => h)) ?_
    exact s168_109 n    l0 l1 l2 l3 l4 l5 l6 l7 l8 (b164_0 n l0 M).1 (b164_0 n l0 M).2 hp hQ
  · rw [if_pos hc] at hQ
    replace hp := hp.1 hc
    refine wp_go 1 (pc' := 104) (L' := [some (.ref l0), some (.int l1), some (.int l2), some (.int l3), some (.int l4), some (.int l5), some (.int l6), some (.int l7), some (.int l8), none, none, none, none]) (st' := [.int ((-4) : Int32)]) (M' := M) rfl ?_
    exact wp_ret (r := some (.int ((-4) : Int32))) rfl rfl (hQ _ _ ⟨rfl, rfl⟩)
def b168_81 (n : Nat) (k24 : Nat → Int32 → Int32 → Int32 → Int32 → Int32 → Int32 → Int32 → Int32 → Int32 → zM → Int32 × zM) (k36 : Nat → Int32 → Int32 → Int32 → Int32 → Int32 → Int32 → Int32 → Int32 → Int32 → Int32 → zM → Int32 × zM) (l0 : Nat) (l1 : Int32) (l2 : Int32) (l3 : Int32) (l4 : Int32) (l5 : Int32) (l6 : Int32) (l7 : Int32) (l8 : Int32) (l9 : Int32) (l10 : Int32) (M : zM) : Int32 × zM := k36 l0 l1 l2 l3 l4 l5 l6 l7 l8 l9 (l10 + Int32.ofInt 1) M
def p168_81 (n : Nat) (q24 : Nat → Int32 → Int32 → Int32 → Int32 → Int32 → Int32 → Int32 → Int32 → Int32 → zM → Prop) (q36 : Nat → Int32 → Int32 → Int32 → Int32 → Int32 → Int32 → Int32 → Int32 → Int32 → Int32 → zM → Prop) (l0 : Nat) (l1 : Int32) (l2 : Int32) (l3 : Int32) (l4 : Int32) (l5 : Int32) (l6 : Int32) (l7 : Int32) (l8 : Int32) (l9 : Int32) (l10 : Int32) (M : zM) : Prop := q36 l0 l1 l2 l3 l4 l5 l6 l7 l8 l9 (l10 + Int32.ofInt 1) M
theorem s168_81 (n : Nat) (k24 : Nat → Int32 → Int32 → Int32 → Int32 → Int32 → Int32 → Int32 → Int32 → Int32 → zM → Int32 × zM) (k36 : Nat → Int32 → Int32 → Int32 → Int32 → Int32 → Int32 → Int32 → Int32 → Int32 → Int32 → zM → Int32 × zM) (q24 : Nat → Int32 → Int32 → Int32 → Int32 → Int32 → Int32 → Int32 → Int32 → Int32 → zM → Prop) (q36 : Nat → Int32 → Int32 → Int32 → Int32 → Int32 → Int32 → Int32 → Int32 → Int32 → Int32 → zM → Prop) (h24 : ∀ (l0 : Nat) (l1 : Int32) (l2 : Int32) (l3 : Int32) (l4 : Int32) (l5 : Int32) (l6 : Int32) (l7 : Int32) (l8 : Int32) (l9 : Int32) (M : zM), q24 l0 l1 l2 l3 l4 l5 l6 l7 l8 l9 M → ∀ {Q : Option Value → zM → Prop}, (∀ r M1, zRI (k24 l0 l1 l2 l3 l4 l5 l6 l7 l8 l9 M) r M1 → Q r M1) → zWP 168 24 [some (.ref l0), some (.int l1), some (.int l2), some (.int l3), some (.int l4), some (.int l5), some (.int l6), some (.int l7), some (.int l8), some (.int l9), none, none, none] [] M Q) (h36 : ∀ (l0 : Nat) (l1 : Int32) (l2 : Int32) (l3 : Int32) (l4 : Int32) (l5 : Int32) (l6 : Int32) (l7 : Int32) (l8 : Int32) (l9 : Int32) (l10 : Int32) (M : zM), q36 l0 l1 l2 l3 l4 l5 l6 l7 l8 l9 l10 M → ∀ {Q : Option Value → zM → Prop}, (∀ r M1, zRI (k36 l0 l1 l2 l3 l4 l5 l6 l7 l8 l9 l10 M) r M1 → Q r M1) → zWP 168 36 [some (.ref l0), some (.int l1), some (.int l2), some (.int l3), some (.int l4), some (.int l5), some (.int l6), some (.int l7), some (.int l8), some (.int l9), some (.int l10), none, none] [] M Q) (l0 : Nat) (l1 : Int32) (l2 : Int32) (l3 : Int32) (l4 : Int32) (l5 : Int32) (l6 : Int32) (l7 : Int32) (l8 : Int32) (l9 : Int32) (l10 : Int32) (M : zM) (hp : p168_81 n q24 q36 l0 l1 l2 l3 l4 l5 l6 l7 l8 l9 l10 M) {Q : Option Value → zM → Prop} (hQ : ∀ r M1, zRI (b168_81 n k24 k36 l0 l1 l2 l3 l4 l5 l6 l7 l8 l9 l10 M) r M1 → Q r M1) : zWP 168 81 [some (.ref l0), some (.int l1), some (.int l2), some (.int l3), some (.int l4), some (.int l5), some (.int l6), some (.int l7), some (.int l8), some (.int l9), some (.int l10), none, none] [] M Q := by
  unfold b168_81 at hQ
  unfold p168_81 at hp
  refine wp_go 2 (pc' := 36) (L' := [some (.ref l0), some (.int l1), some (.int l2), some (.int l3), some (.int l4), some (.int l5), some (.int l6), some (.int l7), some (.int l8), some (.int l9), some (.int (l10 + Int32.ofInt 1)), none, none]) (st' := []) (M' := M) rfl ?_
  exact h36 l0 l1 l2 l3 l4 l5 l6 l7 l8 l9 (l10 + Int32.ofInt 1) M hp hQ
def b168_75 (n : Nat) (k24 : Nat → Int32 → Int32 → Int32 → Int32 → Int32 → Int32 → Int32 → Int32 → Int32 → zM → Int32 × zM) (k36 : Nat → Int32 → Int32 → Int32 → Int32 → Int32 → Int32 → Int32 → Int32 → Int32 → Int32 → zM → Int32 × zM) (l0 : Nat) (l1 : Int32) (l2 : Int32) (l3 : Int32) (l4 : Int32) (l5 : Int32) (l6 : Int32) (l7 : Int32) (l8 : Int32) (l9 : Int32) (l10 : Int32) (s0 : Int32) (M : zM) : Int32 × zM := (if s0 ≤ 0 then b168_81 n k24 k36 l0 l1 l2 l3 l4 l5 l6 l7 l8 l9 l10 M else (((-3) : Int32), M))
def p168_75 (n : Nat) (q24 : Nat → Int32 → Int32 → Int32 → Int32 → Int32 → Int32 → Int32 → Int32 → Int32 → zM → Prop) (q36 : Nat → Int32 → Int32 → Int32 → Int32 → Int32 → Int32 → Int32 → Int32 → Int32 → Int32 → zM → Prop) (l0 : Nat) (l1 : Int32) (l2 : Int32) (l3 : Int32) (l4 : Int32) (l5 : Int32) (l6 : Int32) (l7 : Int32) (l8 : Int32) (l9 : Int32) (l10 : Int32) (s0 : Int32) (M : zM) : Prop := ((s0 ≤ 0 → p168_81 n q24 q36 l0 l1 l2 l3 l4 l5 l6 l7 l8 l9 l10 M) ∧ (¬ s0 ≤ 0 → True))
theorem s168_75 (n : Nat) (k24 : Nat → Int32 → Int32 → Int32 → Int32 → Int32 → Int32 → Int32 → Int32 → Int32 → zM → Int32 × zM) (k36 : Nat → Int32 → Int32 → Int32 → Int32 → Int32 → Int32 → Int32 → Int32 → Int32 → Int32 → zM → Int32 × zM) (q24 : Nat → Int32 → Int32 → Int32 → Int32 → Int32 → Int32 → Int32 → Int32 → Int32 → zM → Prop) (q36 : Nat → Int32 → Int32 → Int32 → Int32 → Int32 → Int32 → Int32 → Int32 → Int32 → Int32 → zM → Prop) (h24 : ∀ (l0 : Nat) (l1 : Int32) (l2 : Int32) (l3 : Int32) (l4 : Int32) (l5 : Int32) (l6 : Int32) (l7 : Int32) (l8 : Int32) (l9 : Int32) (M : zM), q24 l0 l1 l2 l3 l4 l5 l6 l7 l8 l9 M → ∀ {Q : Option Value → zM → Prop}, (∀ r M1, zRI (k24 l0 l1 l2 l3 l4 l5 l6 l7 l8 l9 M) r M1 → Q r M1) → zWP 168 24 [some (.ref l0), some (.int l1), some (.int l2), some (.int l3), some (.int l4), some (.int l5), some (.int l6), some (.int l7), some (.int l8), some (.int l9), none, none, none] [] M Q) (h36 : ∀ (l0 : Nat) (l1 : Int32) (l2 : Int32) (l3 : Int32) (l4 : Int32) (l5 : Int32) (l6 : Int32) (l7 : Int32) (l8 : Int32) (l9 : Int32) (l10 : Int32) (M : zM), q36 l0 l1 l2 l3 l4 l5 l6 l7 l8 l9 l10 M → ∀ {Q : Option Value → zM → Prop}, (∀ r M1, zRI (k36 l0 l1 l2 l3 l4 l5 l6 l7 l8 l9 l10 M) r M1 → Q r M1) → zWP 168 36 [some (.ref l0), some (.int l1), some (.int l2), some (.int l3), some (.int l4), some (.int l5), some (.int l6), some (.int l7), some (.int l8), some (.int l9), some (.int l10), none, none] [] M Q) (l0 : Nat) (l1 : Int32) (l2 : Int32) (l3 : Int32) (l4 : Int32) (l5 : Int32) (l6 : Int32) (l7 : Int32) (l8 : Int32) (l9 : Int32) (l10 : Int32) (s0 : Int32) (M : zM) (hp : p168_75 n q24 q36 l0 l1 l2 l3 l4 l5 l6 l7 l8 l9 l10 s0 M) {Q : Option Value → zM → Prop} (hQ : ∀ r M1, zRI (b168_75 n k24 k36 l0 l1 l2 l3 l4 l5 l6 l7 l8 l9 l10 s0 M) r M1 → Q r M1) : zWP 168 75 [some (.ref l0), some (.int l1), some (.int l2), some (.int l3), some (.int l4), some (.int l5), some (.int l6), some (.int l7), some (.int l8), some (.int l9), some (.int l10), none, none] [.int s0] M Q := by
  unfold b168_75 at hQ
  unfold p168_75 at hp
  refine wp_if_le (t := 81) rfl rfl (fun hc => ?_) (fun hc => ?_)
  · rw [if_pos hc] at hQ
    replace hp := hp.1 hc
    exact s168_81 n k24 k36 q24 q36 h24 h36 l0 l1 l2 l3 l4 l5 l6 l7 l8 l9 l10 M hp hQ
  · rw [if_neg hc] at hQ
    replace hp := hp.2 hc
    refine wp_go 1 (pc' := 80) (L' := [some (.ref l0), some (.int l1), some (.int l2), some (.int l3), some (.int l4), some (.int l5), some (.int l6), some (.int l7), some (.int l8), some (.int l9), some (.int l10), none, none]) (st' := [.int ((-3) : Int32)]) (M' := M) rfl ?_
    exact wp_ret (r := some (.int ((-3) : Int32))) rfl rfl (hQ _ _ ⟨rfl, rfl⟩)
def b168_62 (n : Nat) (k24 : Nat → Int32 → Int32 → Int32 → Int32 → Int32 → Int32 → Int32 → Int32 → Int32 → zM → Int32 × zM) (k36 : Nat → Int32 → Int32 → Int32 → Int32 → Int32 → Int32 → Int32 → Int32 → Int32 → Int32 → zM → Int32 × zM) (l0 : Nat) (l1 : Int32) (l2 : Int32) (l3 : Int32) (l4 : Int32) (l5 : Int32) (l6 : Int32) (l7 : Int32) (l8 : Int32) (l9 : Int32) (l10 : Int32) (s0 : Int32) (M : zM) : Int32 × zM := (if s0 = l8 then b168_75 n k24 k36 l0 l1 l2 l3 l4 l5 l6 l7 l8 l9 l10 (b152_0 n l0 l9 l10 M).1 (b152_0 n l0 l9 l10 M).2 else b168_81 n k24 k36 l0 l1 l2 l3 l4 l5 l6 l7 l8 l9 l10 M)
def p168_62 (n : Nat) (q24 : Nat → Int32 → Int32 → Int32 → Int32 → Int32 → Int32 → Int32 → Int32 → Int32 → zM → Prop) (q36 : Nat → Int32 → Int32 → Int32 → Int32 → Int32 → Int32 → Int32 → Int32 → Int32 → Int32 → zM → Prop) (l0 : Nat) (l1 : Int32) (l2 : Int32) (l3 : Int32) (l4 : Int32) (l5 : Int32) (l6 : Int32) (l7 : Int32) (l8 : Int32) (l9 : Int32) (l10 : Int32) (s0 : Int32) (M : zM) : Prop := ((s0 = l8 → (zHasC 168 247 l0 M 152 2) ∧ ((p152_0 n l0 l9 l10 M) ∧ (p168_75 n q24 q36 l0 l1 l2 l3 l4 l5 l6 l7 l8 l9 l10 (b152_0 n l0 l9 l10 M).1 (b152_0 n l0 l9 l10 M).2))) ∧ (¬ s0 = l8 → p168_81 n q24 q36 l0 l1 l2 l3 l4 l5 l6 l7 l8 l9 l10 M))
theorem s168_62 (n : Nat) (k24 : Nat → Int32 → Int32 → Int32 → Int32 → Int32 → Int32 → Int32 → Int32 → Int32 → zM → Int32 × zM) (k36 : Nat → Int32 → Int32 → Int32 → Int32 → Int32 → Int32 → Int32 → Int32 → Int32 → Int32 → zM → Int32 × zM) (q24 : Nat → Int32 → Int32 → Int32 → Int32 → Int32 → Int32 → Int32 → Int32 → Int32 → zM → Prop) (q36 : Nat → Int32 → Int32 → Int32 → Int32 → Int32 → Int32 → Int32 → Int32 → Int32 → Int32 → zM → Prop) (h24 : ∀ (l0 : Nat) (l1 : Int32) (l2 : Int32) (l3 : Int32) (l4 : Int32) (l5 : Int32) (l6 : Int32) (l7 : Int32) (l8 : Int32) (l9 : Int32) (M : zM), q24 l0 l1 l2 l3 l4 l5 l6 l7 l8 l9 M → ∀ {Q : Option Value → zM → Prop}, (∀ r M1, zRI (k24 l0 l1 l2 l3 l4 l5 l6 l7 l8 l9 M) r M1 → Q r M1) → zWP 168 24 [some (.ref l0), some (.int l1), some (.int l2), some (.int l3), some (.int l4), some (.int l5), some (.int l6), some (.int l7), some (.int l8), some (.int l9), none, none, none] [] M Q) (h36 : ∀ (l0 : Nat) (l1 : Int32) (l2 : Int32) (l3 : Int32) (l4 : Int32) (l5 : Int32) (l6 : Int32) (l7 : Int32) (l8 : Int32) (l9 : Int32) (l10 : Int32) (M : zM), q36 l0 l1 l2 l3 l4 l5 l6 l7 l8 l9 l10 M → ∀ {Q : Option Value → zM → Prop}, (∀ r M1, zRI (k36 l0 l1 l2 l3 l4 l5 l6 l7 l8 l9 l10 M) r M1 → Q r M1) → zWP 168 36 [some (.ref l0), some (.int l1), some (.int l2), some (.int l3), some (.int l4), some (.int l5), some (.int l6), some (.int l7), some (.int l8), some (.int l9), some (.int l10), none, none] [] M Q) (l0 : Nat) (l1 : Int32) (l2 : Int32) (l3 : Int32) (l4 : Int32) (l5 : Int32) (l6 : Int32) (l7 : Int32) (l8 : Int32) (l9 : Int32) (l10 : Int32) (s0 : Int32) (M : zM) (hp : p168_62 n q24 q36 l0 l1 l2 l3 l4 l5 l6 l7 l8 l9 l10 s0 M) {Q : Option Value → zM → Prop} (hQ : ∀ r M1, zRI (b168_62 n k24 k36 l0 l1 l2 l3 l4 l5 l6 l7 l8 l9 l10 s0 M) r M1 → Q r M1) : zWP 168 62 [some (.ref l0), some (.int l1), some (.int l2), some (.int l3), some (.int l4), some (.int l5), some (.int l6), some (.int l7), some (.int l8), some (.int l9), some (.int l10), none, none] [.int s0] M Q := by
  unfold b168_62 at hQ
  unfold p168_62 at hp
  refine wp_go 1 (pc' := 64) (L' := [some (.ref l0), some (.int l1), some (.int l2), some (.int l3), some (.int l4), some (.int l5), some (.int l6), some (.int l7), some (.int l8), some (.int l9), some (.int l10), none, none]) (st' := [.int l8, .int s0]) (M' := M) rfl ?_
  refine wp_ic_ne (t := 81) rfl rfl (fun hc => ?_) (fun hc => ?_)
  · rw [if_neg hc] at hQ
    replace hp := hp.2 hc
    exact s168_81 n k24 k36 q24 q36 h24 h36 l0 l1 l2 l3 l4 l5 l6 l7 l8 l9 l10 M hp hQ
  · rw [if_pos hc] at hQ
    replace hp := hp.1 hc
    refine wp_go 3 (pc' := 72) (L' := [some (.ref l0), some (.int l1), some (.int l2), some (.int l3), some (.int l4), some (.int l5), some (.int l6), some (.int l7), some (.int l8), some (.int l9), some (.int l10), none, none]) (st' := [.int l10, .int l9, .ref l0]) (M' := M) rfl ?_
    obtain ⟨hv, hp⟩ := hp
    obtain ⟨hc, hp⟩ := hp
    refine wp_calli (v := (b152_0 n l0 l9 l10 M).1) (M1 := (b152_0 n l0 l9 l10 M).2) rfl rfl rfl (zInv_v (np := 2) rfl rfl hv rfl) (s152_0 n l0 l9 l10 M hc (fun r M1 h => h)) ?_
    exact s168_75 n k24 k36 q24 q36 h24 h36 l0 l1 l2 l3 l4 l5 l6 l7 l8 l9 l10 (b152_0 n l0 l9 l10 M).1 (b152_0 n l0 l9 l10 M).2 hp hQ
def b168_51 (n : Nat) (k24 : Nat → Int32 → Int32 → Int32 → Int32 → Int32 → Int32 → Int32 → Int32 → Int32 → zM → Int32 × zM) (k36 : Nat → Int32 → Int32 → Int32 → Int32 → Int32 → Int32 → Int32 → Int32 → Int32 → Int32 → zM → Int32 × zM) (l0 : Nat) (l1 : Int32) (l2 : Int32) (l3 : Int32) (l4 : Int32) (l5 : Int32) (l6 : Int32) (l7 : Int32) (l8 : Int32) (l9 : Int32) (l10 : Int32) (s0 : Int32) (M : zM) : Int32 × zM := (if s0 = l7 then b168_62 n k24 k36 l0 l1 l2 l3 l4 l5 l6 l7 l8 l9 l10 (b155_0 n l0 l10 M).1 (b155_0 n l0 l10 M).2 else b168_81 n k24 k36 l0 l1 l2 l3 l4 l5 l6 l7 l8 l9 l10 M)
def p168_51 (n : Nat) (q24 : Nat → Int32 → Int32 → Int32 → Int32 → Int32 → Int32 → Int32 → Int32 → Int32 → zM → Prop) (q36 : Nat → Int32 → Int32 → Int32 → Int32 → Int32 → Int32 → Int32 → Int32 → Int32 → Int32 → zM → Prop) (l0 : Nat) (l1 : Int32) (l2 : Int32) (l3 : Int32) (l4 : Int32) (l5 : Int32) (l6 : Int32) (l7 : Int32) (l8 : Int32) (l9 : Int32) (l10 : Int32) (s0 : Int32) (M : zM) : Prop := ((s0 = l7 → (zHasC 168 176 l0 M 155 1) ∧ ((p155_0 n l0 l10 M) ∧ (p168_62 n q24 q36 l0 l1 l2 l3 l4 l5 l6 l7 l8 l9 l10 (b155_0 n l0 l10 M).1 (b155_0 n l0 l10 M).2))) ∧ (¬ s0 = l7 → p168_81 n q24 q36 l0 l1 l2 l3 l4 l5 l6 l7 l8 l9 l10 M))
theorem s168_51 (n : Nat) (k24 : Nat → Int32 → Int32 → Int32 → Int32 → Int32 → Int32 → Int32 → Int32 → Int32 → zM → Int32 × zM) (k36 : Nat → Int32 → Int32 → Int32 → Int32 → Int32 → Int32 → Int32 → Int32 → Int32 → Int32 → zM → Int32 × zM) (q24 : Nat → Int32 → Int32 → Int32 → Int32 → Int32 → Int32 → Int32 → Int32 → Int32 → zM → Prop) (q36 : Nat → Int32 → Int32 → Int32 → Int32 → Int32 → Int32 → Int32 → Int32 → Int32 → Int32 → zM → Prop) (h24 : ∀ (l0 : Nat) (l1 : Int32) (l2 : Int32) (l3 : Int32) (l4 : Int32) (l5 : Int32) (l6 : Int32) (l7 : Int32) (l8 : Int32) (l9 : Int32) (M : zM), q24 l0 l1 l2 l3 l4 l5 l6 l7 l8 l9 M → ∀ {Q : Option Value → zM → Prop}, (∀ r M1, zRI (k24 l0 l1 l2 l3 l4 l5 l6 l7 l8 l9 M) r M1 → Q r M1) → zWP 168 24 [some (.ref l0), some (.int l1), some (.int l2), some (.int l3), some (.int l4), some (.int l5), some (.int l6), some (.int l7), some (.int l8), some (.int l9), none, none, none] [] M Q) (h36 : ∀ (l0 : Nat) (l1 : Int32) (l2 : Int32) (l3 : Int32) (l4 : Int32) (l5 : Int32) (l6 : Int32) (l7 : Int32) (l8 : Int32) (l9 : Int32) (l10 : Int32) (M : zM), q36 l0 l1 l2 l3 l4 l5 l6 l7 l8 l9 l10 M → ∀ {Q : Option Value → zM → Prop}, (∀ r M1, zRI (k36 l0 l1 l2 l3 l4 l5 l6 l7 l8 l9 l10 M) r M1 → Q r M1) → zWP 168 36 [some (.ref l0), some (.int l1), some (.int l2), some (.int l3), some (.int l4), some (.int l5), some (.int l6), some (.int l7), some (.int l8), some (.int l9), some (.int l10), none, none] [] M Q) (l0 : Nat) (l1 : Int32) (l2 : Int32) (l3 : Int32) (l4 : Int32) (l5 : Int32) (l6 : Int32) (l7 : Int32) (l8 : Int32) (l9 : Int32) (l10 : Int32) (s0 : Int32) (M : zM) (hp : p168_51 n q24 q36 l0 l1 l2 l3 l4 l5 l6 l7 l8 l9 l10 s0 M) {Q : Option Value → zM → Prop} (hQ : ∀ r M1, zRI (b168_51 n k24 k36 l0 l1 l2 l3 l4 l5 l6 l7 l8 l9 l10 s0 M) r M1 → Q r M1) : zWP 168 51 [some (.ref l0), some (.int l1), some (.int l2), some (.int l3), some (.int l4), some (.int l5), some (.int l6), some (.int l7), some (.int l8), some (.int l9), some (.int l10), none, none] [.int s0] M Q := by
  unfold b168_51 at hQ
  unfold p168_51 at hp
  refine wp_go 1 (pc' := 53) (L' := [some (.ref l0), some (.int l1), some (.int l2), some (.int l3), some (.int l4), some (.int l5), some (.int l6), some (.int l7), some (.int l8), some (.int l9), some (.int l10), none, none]) (st' := [.int l7, .int s0]) (M' := M) rfl ?_
  refine wp_ic_ne (t := 81) rfl rfl (fun hc => ?_) (fun hc => ?_)
  · rw [if_neg hc] at hQ
    replace hp := hp.2 hc
    exact s168_81 n k24 k36 q24 q36 h24 h36 l0 l1 l2 l3 l4 l5 l6 l7 l8 l9 l10 M hp hQ
  · rw [if_pos hc] at hQ
    replace hp := hp.1 hc
    refine wp_go 2 (pc' := 59) (L' := [some (.ref l0), some (.int l1), some (.int l2), some (.int l3), some (.int l4), some (.int l5), some (.int l6), some (.int l7), some (.int l8), some (.int l9), some (.int l10), none, none]) (st' := [.int l10, .ref l0]) (M' := M) rfl ?_
    obtain ⟨hv, hp⟩ := hp
    obtain ⟨hc, hp⟩ := hp
    refine wp_calli (v := (b155_0 n l0 l10 M).1) (M1 := (b155_0 n l0 l10 M).2) rfl rfl rfl (zInv_v (np := 1) rfl rfl hv rfl) (s155_0 n l0 l10 M hc (fun r M1 h => h)) ?_
    exact s168_62 n k24 k36 q24 q36 h24 h36 l0 l1 l2 l3 l4 l5 l6 l7 l8 l9 l10 (b155_0 n l0 l10 M).1 (b155_0 n l0 l10 M).2 hp hQ
def c168_36 (n : Nat) (k24 : Nat → Int32 → Int32 → Int32 → Int32 → Int32 → Int32 → Int32 → Int32 → Int32 → zM → Int32 × zM) (k36 : Nat → Int32 → Int32 → Int32 → Int32 → Int32 → Int32 → Int32 → Int32 → Int32 → Int32 → zM → Int32 × zM) (l0 : Nat) (l1 : Int32) (l2 : Int32) (l3 : Int32) (l4 : Int32) (l5 : Int32) (l6 : Int32) (l7 : Int32) (l8 : Int32) (l9 : Int32) (l10 : Int32) (M : zM) : Int32 × zM := (if (zI M l0 0) ≤ l10 then k24 l0 l1 l2 l3 l4 l5 l6 l7 l8 (l9 + Int32.ofInt 1) M else b168_51 n k24 k36 l0 l1 l2 l3 l4 l5 l6 l7 l8 l9 l10 (b155_0 n l0 l9 M).1 (b155_0 n l0 l9 M).2)
def d168_36 (n : Nat) (q24 : Nat → Int32 → Int32 → Int32 → Int32 → Int32 → Int32 → Int32 → Int32 → Int32 → zM → Prop) (q36 : Nat → Int32 → Int32 → Int32 → Int32 → Int32 → Int32 → Int32 → Int32 → Int32 → Int32 → zM → Prop) (l0 : Nat) (l1 : Int32) (l2 : Int32) (l3 : Int32) (l4 : Int32) (l5 : Int32) (l6 : Int32) (l7 : Int32) (l8 : Int32) (l9 : Int32) (l10 : Int32) (M : zM) : Prop := (zHasI 10 148 l0 M 0) ∧ ((((zI M l0 0) ≤ l10 → q24 l0 l1 l2 l3 l4 l5 l6 l7 l8 (l9 + Int32.ofInt 1) M) ∧ (¬ (zI M l0 0) ≤ l10 → (zHasC 168 176 l0 M 155 1) ∧ ((p155_0 n l0 l9 M) ∧ (p168_51 n q24 q36 l0 l1 l2 l3 l4 l5 l6 l7 l8 l9 l10 (b155_0 n l0 l9 M).1 (b155_0 n l0 l9 M).2)))))
theorem t168_36 (n : Nat) (k24 : Nat → Int32 → Int32 → Int32 → Int32 → Int32 → Int32 → Int32 → Int32 → Int32 → zM → Int32 × zM) (k36 : Nat → Int32 → Int32 → Int32 → Int32 → Int32 → Int32 → Int32 → Int32 → Int32 → Int32 → zM → Int32 × zM) (q24 : Nat → Int32 → Int32 → Int32 → Int32 → Int32 → Int32 → Int32 → Int32 → Int32 → zM → Prop) (q36 : Nat → Int32 → Int32 → Int32 → Int32 → Int32 → Int32 → Int32 → Int32 → Int32 → Int32 → zM → Prop) (h24 : ∀ (l0 : Nat) (l1 : Int32) (l2 : Int32) (l3 : Int32) (l4 : Int32) (l5 : Int32) (l6 : Int32) (l7 : Int32) (l8 : Int32) (l9 : Int32) (M : zM), q24 l0 l1 l2 l3 l4 l5 l6 l7 l8 l9 M → ∀ {Q : Option Value → zM → Prop}, (∀ r M1, zRI (k24 l0 l1 l2 l3 l4 l5 l6 l7 l8 l9 M) r M1 → Q r M1) → zWP 168 24 [some (.ref l0), some (.int l1), some (.int l2), some (.int l3), some (.int l4), some (.int l5), some (.int l6), some (.int l7), some (.int l8), some (.int l9), none, none, none] [] M Q) (h36 : ∀ (l0 : Nat) (l1 : Int32) (l2 : Int32) (l3 : Int32) (l4 : Int32) (l5 : Int32) (l6 : Int32) (l7 : Int32) (l8 : Int32) (l9 : Int32) (l10 : Int32) (M : zM), q36 l0 l1 l2 l3 l4 l5 l6 l7 l8 l9 l10 M → ∀ {Q : Option Value → zM → Prop}, (∀ r M1, zRI (k36 l0 l1 l2 l3 l4 l5 l6 l7 l8 l9 l10 M) r M1 → Q r M1) → zWP 168 36 [some (.ref l0), some (.int l1), some (.int l2), some (.int l3), some (.int l4), some (.int l5), some (.int l6), some (.int l7), some (.int l8), some (.int l9), some (.int l10), none, none] [] M Q) (l0 : Nat) (l1 : Int32) (l2 : Int32) (l3 : Int32) (l4 : Int32) (l5 : Int32) (l6 : Int32) (l7 : Int32) (l8 : Int32) (l9 : Int32) (l10 : Int32) (M : zM) (hp : d168_36 n q24 q36 l0 l1 l2 l3 l4 l5 l6 l7 l8 l9 l10 M) {Q : Option Value → zM → Prop} (hQ : ∀ r M1, zRI (c168_36 n k24 k36 l0 l1 l2 l3 l4 l5 l6 l7 l8 l9 l10 M) r M1 → Q r M1) : zWP 168 36 [some (.ref l0), some (.int l1), some (.int l2), some (.int l3), some (.int l4), some (.int l5), some (.int l6), some (.int l7), some (.int l8), some (.int l9), some (.int l10), none, none] [] M Q := by
  unfold c168_36 at hQ
  unfold d168_36 at hp
  refine wp_go 2 (pc' := 39) (L' := [some (.ref l0), some (.int l1), some (.int l2), some (.int l3), some (.int l4), some (.int l5), some (.int l6), some (.int l7), some (.int l8), some (.int l9), some (.int l10), none, none]) (st' := [.ref l0, .int l10]) (M' := M) rfl ?_
  obtain ⟨hc, hp⟩ := hp
  refine wq_getI (j := 0) rfl hc ?_
  refine wp_ic_ge (t := 87) rfl rfl (fun hc => ?_) (fun hc => ?_)
  · rw [if_pos hc] at hQ
    replace hp := hp.1 hc
    refine wp_go 2 (pc' := 24) (L' := [some (.ref l0), some (.int l1), some (.int l2), some (.int l3), some (.int l4), some (.int l5), some (.int l6), some (.int l7), some (.int l8), some (.int (l9 + Int32.ofInt 1)), some (.int l10), none, none]) (st' := []) (M' := M) rfl ?_
    refine wp_le [some (.ref l0), some (.int l1), some (.int l2), some (.int l3), some (.int l4), some (.int l5), some (.int l6), some (.int l7), some (.int l8), some (.int (l9 + Int32.ofInt 1)), none, none, none] (zLe_of (by simp [zLeB])) ?_
    exact h24 l0 l1 l2 l3 l4 l5 l6 l7 l8 (l9 + Int32.ofInt 1) M hp hQ
  · rw [if_neg hc] at hQ
    replace hp := hp.2 hc
    refine wp_go 2 (pc' := 48) (L' := [some (.ref l0), some (.int l1), some (.int l2), some (.int l3), some (.int l4), some (.int l5), some (.int l6), some (.int l7), some (.int l8), some (.int l9), some (.int l10), none, none]) (st' := [.int l9, .ref l0]) (M' := M) rfl ?_
    obtain ⟨hv, hp⟩ := hp
    obtain ⟨hc, hp⟩ := hp
    refine wp_calli (v := (b155_0 n l0 l9 M).1) (M1 := (b155_0 n l0 l9 M).2) rfl rfl rfl (zInv_v (np := 1) rfl rfl hv rfl) (s155_0 n l0 l9 M hc (fun r M1 h => h)) ?_
    exact s168_51 n k24 k36 q24 q36 h24 h36 l0 l1 l2 l3 l4 l5 l6 l7 l8 l9 l10 (b155_0 n l0 l9 M).1 (b155_0 n l0 l9 M).2 hp hQ
def b168_36 (n : Nat) (k24 : Nat → Int32 → Int32 → Int32 → Int32 → Int32 → Int32 → Int32 → Int32 → Int32 → zM → Int32 × zM) : Nat → Nat → Int32 → Int32 → Int32 → Int32 → Int32 → Int32 → Int32 → Int32 → Int32 → Int32 → zM → Int32 × zM
  | 0, _, _, _, _, _, _, _, _, _, _, _, M => (0, M)
  | k + 1, l0, l1, l2, l3, l4, l5, l6, l7, l8, l9, l10, M => c168_36 n k24 (b168_36 n k24 k) l0 l1 l2 l3 l4 l5 l6 l7 l8 l9 l10 M
def p168_36 (n : Nat) (q24 : Nat → Int32 → Int32 → Int32 → Int32 → Int32 → Int32 → Int32 → Int32 → Int32 → zM → Prop) : Nat → Nat → Int32 → Int32 → Int32 → Int32 → Int32 → Int32 → Int32 → Int32 → Int32 → Int32 → zM → Prop
  | 0, _, _, _, _, _, _, _, _, _, _, _, _ => False
  | k + 1, l0, l1, l2, l3, l4, l5, l6, l7, l8, l9, l10, M => d168_36 n q24 (p168_36 n q24 k) l0 l1 l2 l3 l4 l5 l6 l7 l8 l9 l10 M
theorem s168_36 (n : Nat) (k24 : Nat → Int32 → Int32 → Int32 → Int32 → Int32 → Int32 → Int32 → Int32 → Int32 → zM → Int32 × zM) (q24 : Nat → Int32 → Int32 → Int32 → Int32 → Int32 → Int32 → Int32 → Int32 → Int32 → zM → Prop) (h24 : ∀ (l0 : Nat) (l1 : Int32) (l2 : Int32) (l3 : Int32) (l4 : Int32) (l5 : Int32) (l6 : Int32) (l7 : Int32) (l8 : Int32) (l9 : Int32) (M : zM), q24 l0 l1 l2 l3 l4 l5 l6 l7 l8 l9 M → ∀ {Q : Option Value → zM → Prop}, (∀ r M1, zRI (k24 l0 l1 l2 l3 l4 l5 l6 l7 l8 l9 M) r M1 → Q r M1) → zWP 168 24 [some (.ref l0), some (.int l1), some (.int l2), some (.int l3), some (.int l4), some (.int l5), some (.int l6), some (.int l7), some (.int l8), some (.int l9), none, none, none] [] M Q) : ∀ (k : Nat) (l0 : Nat) (l1 : Int32) (l2 : Int32) (l3 : Int32) (l4 : Int32) (l5 : Int32) (l6 : Int32) (l7 : Int32) (l8 : Int32) (l9 : Int32) (l10 : Int32) (M : zM), p168_36 n q24 k l0 l1 l2 l3 l4 l5 l6 l7 l8 l9 l10 M → ∀ {Q : Option Value → zM → Prop}, (∀ r M1, zRI (b168_36 n k24 k l0 l1 l2 l3 l4 l5 l6 l7 l8 l9 l10 M) r M1 → Q r M1) → zWP 168 36 [some (.ref l0), some (.int l1), some (.int l2), some (.int l3), some (.int l4), some (.int l5), some (.int l6), some (.int l7), some (.int l8), some (.int l9), some (.int l10), none, none] [] M Q
  | 0, _, _, _, _, _, _, _, _, _, _, _, _, h, _, _ => h.elim
  | k + 1, l0, l1, l2, l3, l4, l5, l6, l7, l8, l9, l10, M, h, _, hQ => t168_36 n k24 (b168_36 n k24 k) q24 (p168_36 n q24 k) h24 (s168_36 n k24 q24 h24 k) l0 l1 l2 l3 l4 l5 l6 l7 l8 l9 l10 M h hQ
def c168_24 (n : Nat) (k24 : Nat → Int32 → Int32 → Int32 → Int32 → Int32 → Int32 → Int32 → Int32 → Int32 → zM → Int32 × zM) (l0 : Nat) (l1 : Int32) (l2 : Int32) (l3 : Int32) (l4 : Int32) (l5 : Int32) (l6 : Int32) (l7 : Int32) (l8 : Int32) (l9 : Int32) (M : zM) : Int32 × zM := (if (zI M l0 0) ≤ l9 then b168_93 n  l0 l1 l2 l3 l4 l5 l6 l7 l8 M else b168_36 n k24 n l0 l1 l2 l3 l4 l5 l6 l7 l8 l9 (0 : Int32) M)
def d168_24 (n : Nat) (q24 : Nat → Int32 → Int32 → Int32 → Int32 → Int32 → Int32 → Int32 → Int32 → Int32 → zM → Prop) (l0 : Nat) (l1 : Int32) (l2 : Int32) (l3 : Int32) (l4 : Int32) (l5 : Int32) (l6 : Int32) (l7 : Int32) (l8 : Int32) (l9 : Int32) (M : zM) : Prop := (zHasI 10 148 l0 M 0) ∧ ((((zI M l0 0) ≤ l9 → p168_93 n  l0 l1 l2 l3 l4 l5 l6 l7 l8 M) ∧ (¬ (zI M l0 0) ≤ l9 → p168_36 n q24 n l0 l1 l2 l3 l4 l5 l6 l7 l8 l9 (0 : Int32) M)))
theorem t168_24 (n : Nat) (k24 : Nat → Int32 → Int32 → Int32 → Int32 → Int32 → Int32 → Int32 → Int32 → Int32 → zM → Int32 × zM) (q24 : Nat → Int32 → Int32 → Int32 → Int32 → Int32 → Int32 → Int32 → Int32 → Int32 → zM → Prop) (h24 : ∀ (l0 : Nat) (l1 : Int32) (l2 : Int32) (l3 : Int32) (l4 : Int32) (l5 : Int32) (l6 : Int32) (l7 : Int32) (l8 : Int32) (l9 : Int32) (M : zM), q24 l0 l1 l2 l3 l4 l5 l6 l7 l8 l9 M → ∀ {Q : Option Value → zM → Prop}, (∀ r M1, zRI (k24 l0 l1 l2 l3 l4 l5 l6 l7 l8 l9 M) r M1 → Q r M1) → zWP 168 24 [some (.ref l0), some (.int l1), some (.int l2), some (.int l3), some (.int l4), some (.int l5), some (.int l6), some (.int l7), some (.int l8), some (.int l9), none, none, none] [] M Q) (l0 : Nat) (l1 : Int32) (l2 : Int32) (l3 : Int32) (l4 : Int32) (l5 : Int32) (l6 : Int32) (l7 : Int32) (l8 : Int32) (l9 : Int32) (M : zM) (hp : d168_24 n q24 l0 l1 l2 l3 l4 l5 l6 l7 l8 l9 M) {Q : Option Value → zM → Prop} (hQ : ∀ r M1, zRI (c168_24 n k24 l0 l1 l2 l3 l4 l5 l6 l7 l8 l9 M) r M1 → Q r M1) : zWP 168 24 [some (.ref l0), some (.int l1), some (.int l2), some (.int l3), some (.int l4), some (.int l5), some (.int l6), some (.int l7), some (.int l8), some (.int l9), none, none, none] [] M Q := by
  unfold c168_24 at hQ
  unfold d168_24 at hp
  refine wp_go 2 (pc' := 27) (L' := [some (.ref l0), some (.int l1), some (.int l2), some (.int l3), some (.int l4), some (.int l5), some (.int l6), some (.int l7), some (.int l8), some (.int l9), none, none, none]) (st' := [.ref l0, .int l9]) (M' := M) rfl ?_
  obtain ⟨hc, hp⟩ := hp
  refine wq_getI (j := 0) rfl hc ?_
  refine wp_ic_ge (t := 93) rfl rfl (fun hc => ?_) (fun hc => ?_)
  · rw [if_pos hc] at hQ
    replace hp := hp.1 hc
    refine wp_le [some (.ref l0), some (.int l1), some (.int l2), some (.int l3), some (.int l4), some (.int l5), some (.int l6), some (.int l7), some (.int l8), none, none, none, none] (zLe_of (by simp [zLeB])) ?_
    exact s168_93 n    l0 l1 l2 l3 l4 l5 l6 l7 l8 M hp hQ
  · rw [if_neg hc] at hQ
    replace hp := hp.2 hc
    refine wp_go 2 (pc' := 36) (L' := [some (.ref l0), some (.int l1), some (.int l2), some (.int l3), some (.int l4), some (.int l5), some (.int l6), some (.int l7), some (.int l8), some (.int l9), some (.int (0 : Int32)), none, none]) (st' := []) (M' := M) rfl ?_
    exact s168_36 n k24 q24 h24 n l0 l1 l2 l3 l4 l5 l6 l7 l8 l9 (0 : Int32) M hp hQ
def b168_24 (n : Nat)  : Nat → Nat → Int32 → Int32 → Int32 → Int32 → Int32 → Int32 → Int32 → Int32 → Int32 → zM → Int32 × zM
  | 0, _, _, _, _, _, _, _, _, _, _, M => (0, M)
  | k + 1, l0, l1, l2, l3, l4, l5, l6, l7, l8, l9, M => c168_24 n  (b168_24 n  k) l0 l1 l2 l3 l4 l5 l6 l7 l8 l9 M
def p168_24 (n : Nat)  : Nat → Nat → Int32 → Int32 → Int32 → Int32 → Int32 → Int32 → Int32 → Int32 → Int32 → zM → Prop
  | 0, _, _, _, _, _, _, _, _, _, _, _ => False
  | k + 1, l0, l1, l2, l3, l4, l5, l6, l7, l8, l9, M => d168_24 n  (p168_24 n  k) l0 l1 l2 l3 l4 l5 l6 l7 l8 l9 M
theorem s168_24 (n : Nat)    : ∀ (k : Nat) (l0 : Nat) (l1 : Int32) (l2 : Int32) (l3 : Int32) (l4 : Int32) (l5 : Int32) (l6 : Int32) (l7 : Int32) (l8 : Int32) (l9 : Int32) (M : zM), p168_24 n  k l0 l1 l2 l3 l4 l5 l6 l7 l8 l9 M → ∀ {Q : Option Value → zM → Prop}, (∀ r M1, zRI (b168_24 n  k l0 l1 l2 l3 l4 l5 l6 l7 l8 l9 M) r M1 → Q r M1) → zWP 168 24 [some (.ref l0), some (.int l1), some (.int l2), some (.int l3), some (.int l4), some (.int l5), some (.int l6), some (.int l7), some (.int l8), some (.int l9), none, none, none] [] M Q
  | 0, _, _, _, _, _, _, _, _, _, _, _, h, _, _ => h.elim
  | k + 1, l0, l1, l2, l3, l4, l5, l6, l7, l8, l9, M, h, _, hQ => t168_24 n  (b168_24 n  k)  (p168_24 n  k)  (s168_24 n    k) l0 l1 l2 l3 l4 l5 l6 l7 l8 l9 M h hQ
def b168_12 (n : Nat)  (l0 : Nat) (l1 : Int32) (l2 : Int32) (l3 : Int32) (l4 : Int32) (l5 : Int32) (l6 : Int32) (l7 : Int32) (s0 : Int32) (M : zM) : Int32 × zM := (if l7 = s0 then b168_93 n  l0 l1 l2 l3 l4 l5 l6 l7 s0 M else b168_24 n  n l0 l1 l2 l3 l4 l5 l6 l7 s0 (0 : Int32) M)
def p168_12 (n : Nat)  (l0 : Nat) (l1 : Int32) (l2 : Int32) (l3 : Int32) (l4 : Int32) (l5 : Int32) (l6 : Int32) (l7 : Int32) (s0 : Int32) (M : zM) : Prop := ((l7 = s0 → p168_93 n  l0 l1 l2 l3 l4 l5 l6 l7 s0 M) ∧ (¬ l7 = s0 → p168_24 n  n l0 l1 l2 l3 l4 l5 l6 l7 s0 (0 : Int32) M))
theorem s168_12 (n : Nat)    (l0 : Nat) (l1 : Int32) (l2 : Int32) (l3 : Int32) (l4 : Int32) (l5 : Int32) (l6 : Int32) (l7 : Int32) (s0 : Int32) (M : zM) (hp : p168_12 n  l0 l1 l2 l3 l4 l5 l6 l7 s0 M) {Q : Option Value → zM → Prop} (hQ : ∀ r M1, zRI (b168_12 n  l0 l1 l2 l3 l4 l5 l6 l7 s0 M) r M1 → Q r M1) : zWP 168 12 [some (.ref l0), some (.int l1), some (.int l2), some (.int l3), some (.int l4), some (.int l5), some (.int l6), some (.int l7), none, none, none, none, none] [.int s0] M Q := by
  unfold b168_12 at hQ
  unfold p168_12 at hp
  refine wp_go 3 (pc' := 18) (L' := [some (.ref l0), some (.int l1), some (.int l2), some (.int l3), some (.int l4), some (.int l5), some (.int l6), some (.int l7), some (.int s0), none, none, none, none]) (st' := [.int s0, .int l7]) (M' := M) rfl ?_
  refine wp_ic_eq (t := 93) rfl rfl (fun hc => ?_) (fun hc => ?_)
  · rw [if_pos hc] at hQ
    replace hp := hp.1 hc
    exact s168_93 n    l0 l1 l2 l3 l4 l5 l6 l7 s0 M hp hQ
  · rw [if_neg hc] at hQ
    replace hp := hp.2 hc
    refine wp_go 2 (pc' := 24) (L' := [some (.ref l0), some (.int l1), some (.int l2), some (.int l3), some (.int l4), some (.int l5), some (.int l6), some (.int l7), some (.int s0), some (.int (0 : Int32)), none, none, none]) (st' := []) (M' := M) rfl ?_
    exact s168_24 n    n l0 l1 l2 l3 l4 l5 l6 l7 s0 (0 : Int32) M hp hQ
def b168_5 (n : Nat)  (l0 : Nat) (l1 : Int32) (l2 : Int32) (l3 : Int32) (l4 : Int32) (l5 : Int32) (l6 : Int32) (s0 : Int32) (M : zM) : Int32 × zM := b168_12 n  l0 l1 l2 l3 l4 l5 l6 s0 (b155_0 n l0 l3 M).1 (b155_0 n l0 l3 M).2
def p168_5 (n : Nat)  (l0 : Nat) (l1 : Int32) (l2 : Int32) (l3 : Int32) (l4 : Int32) (l5 : Int32) (l6 : Int32) (s0 : Int32) (M : zM) : Prop := (zHasC 168 176 l0 M 155 1) ∧ ((p155_0 n l0 l3 M) ∧ (p168_12 n  l0 l1 l2 l3 l4 l5 l6 s0 (b155_0 n l0 l3 M).1 (b155_0 n l0 l3 M).2))
theorem s168_5 (n : Nat)    (l0 : Nat) (l1 : Int32) (l2 : Int32) (l3 : Int32) (l4 : Int32) (l5 : Int32) (l6 : Int32) (s0 : Int32) (M : zM) (hp : p168_5 n  l0 l1 l2 l3 l4 l5 l6 s0 M) {Q : Option Value → zM → Prop} (hQ : ∀ r M1, zRI (b168_5 n  l0 l1 l2 l3 l4 l5 l6 s0 M) r M1 → Q r M1) : zWP 168 5 [some (.ref l0), some (.int l1), some (.int l2), some (.int l3), some (.int l4), some (.int l5), some (.int l6), none, none, none, none, none, none] [.int s0] M Q := by
  unfold b168_5 at hQ
  unfold p168_5 at hp
  refine wp_go 3 (pc' := 9) (L' := [some (.ref l0), some (.int l1), some (.int l2), some (.int l3), some (.int l4), some (.int l5), some (.int l6), some (.int s0), none, none, none, none, none]) (st' := [.int l3, .ref l0]) (M' := M) rfl ?_
  obtain ⟨hv, hp⟩ := hp
  obtain ⟨hc, hp⟩ := hp
  refine wp_calli (v := (b155_0 n l0 l3 M).1) (M1 := (b155_0 n l0 l3 M).2) rfl rfl rfl (zInv_v (np := 1) rfl rfl hv rfl) (s155_0 n l0 l3 M hc (fun r M1 h => h)) ?_
  exact s168_12 n    l0 l1 l2 l3 l4 l5 l6 s0 (b155_0 n l0 l3 M).1 (b155_0 n l0 l3 M).2 hp hQ
def b168_0 (n : Nat)  (l0 : Nat) (l1 : Int32) (l2 : Int32) (l3 : Int32) (l4 : Int32) (l5 : Int32) (l6 : Int32) (M : zM) : Int32 × zM := b168_5 n  l0 l1 l2 l3 l4 l5 l6 (b155_0 n l0 l1 M).1 (b155_0 n l0 l1 M).2
def p168_0 (n : Nat)  (l0 : Nat) (l1 : Int32) (l2 : Int32) (l3 : Int32) (l4 : Int32) (l5 : Int32) (l6 : Int32) (M : zM) : Prop := (zHasC 168 176 l0 M 155 1) ∧ ((p155_0 n l0 l1 M) ∧ (p168_5 n  l0 l1 l2 l3 l4 l5 l6 (b155_0 n l0 l1 M).1 (b155_0 n l0 l1 M).2))
theorem s168_0 (n : Nat)    (l0 : Nat) (l1 : Int32) (l2 : Int32) (l3 : Int32) (l4 : Int32) (l5 : Int32) (l6 : Int32) (M : zM) (hp : p168_0 n  l0 l1 l2 l3 l4 l5 l6 M) {Q : Option Value → zM → Prop} (hQ : ∀ r M1, zRI (b168_0 n  l0 l1 l2 l3 l4 l5 l6 M) r M1 → Q r M1) : zWP 168 0 [some (.ref l0), some (.int l1), some (.int l2), some (.int l3), some (.int l4), some (.int l5), some (.int l6), none, none, none, none, none, none] [] M Q := by
  unfold b168_0 at hQ
  unfold p168_0 at hp
  refine wp_go 2 (pc' := 2) (L' := [some (.ref l0), some (.int l1), some (.int l2), some (.int l3), some (.int l4), some (.int l5), some (.int l6), none, none, none, none, none, none]) (st' := [.int l1, .ref l0]) (M' := M) rfl ?_
  obtain ⟨hv, hp⟩ := hp
  obtain ⟨hc, hp⟩ := hp
  refine wp_calli (v := (b155_0 n l0 l1 M).1) (M1 := (b155_0 n l0 l1 M).2) rfl rfl rfl (zInv_v (np := 1) rfl rfl hv rfl) (s155_0 n l0 l1 M hc (fun r M1 h => h)) ?_
  exact s168_5 n    l0 l1 l2 l3 l4 l5 l6 (b155_0 n l0 l1 M).1 (b155_0 n l0 l1 M).2 hp hQ
/-! X12_join -/
def b169_99 (n : Nat)  (s0 : Int32) (M : zM) : Int32 × zM := (s0, M)
def p169_99 (n : Nat)  (s0 : Int32) (M : zM) : Prop := True
theorem s169_99 (n : Nat)    (s0 : Int32) (M : zM) (hp : p169_99 n  s0 M) {Q : Option Value → zM → Prop} (hQ : ∀ r M1, zRI (b169_99 n  s0 M) r M1 → Q r M1) : zWP 169 99 [none, none, none, none, none, none, none] [.int s0] M Q := by
  unfold b169_99 at hQ
  unfold p169_99 at hp
  exact wp_ret (r := some (.int s0)) rfl rfl (hQ _ _ ⟨rfl, rfl⟩)
def b169_81 (n : Nat)  (s0 : Int32) (M : zM) : Int32 × zM := b169_99 n  s0 M
def p169_81 (n : Nat)  (s0 : Int32) (M : zM) : Prop := p169_99 n  s0 M
theorem s169_81 (n : Nat)    (s0 : Int32) (M : zM) (hp : p169_81 n  s0 M) {Q : Option Value → zM → Prop} (hQ : ∀ r M1, zRI (b169_81 n  s0 M) r M1 → Q r M1) : zWP 169 81 [none, none, none, none, none, none, none] [.int s0] M Q := by
  unfold b169_81 at hQ
  unfold p169_81 at hp
  refine wp_go 1 (pc' := 99) (L' := [none, none, none, none, none, none, none]) (st' := [.int s0]) (M' := M) rfl ?_
  exact s169_99 n    s0 M hp hQ
def b169_51 (n : Nat)  (l0 : Nat) (l1 : Int32) (l2 : Int32) (l3 : Int32) (l4 : Int32) (l5 : Int32) (s0 : Int32) (M : zM) : Int32 × zM := (if s0 = 0 then (((-2) : Int32), M) else (if l3 ≤ l1 then b169_99 n  (b168_0 n l0 l3 l4 l1 l2 l5 (zI M l0 32) M).1 (b168_0 n l0 l3 l4 l1 l2 l5 (zI M l0 32) M).2 else b169_81 n  (b168_0 n l0 l1 l2 l3 l4 l5 (zI M l0 32) M).1 (b168_0 n l0 l1 l2 l3 l4 l5 (zI M l0 32) M).2))
def p169_51 (n : Nat)  (l0 : Nat) (l1 : Int32) (l2 : Int32) (l3 : Int32) (l4 : Int32) (l5 : Int32) (s0 : Int32) (M : zM) : Prop := ((s0 = 0 → True) ∧ (¬ s0 = 0 → ((l3 ≤ l1 → (zHasI 10 228 l0 M 32) ∧ ((zHasC 169 303 l0 M 168 6) ∧ ((p168_0 n l0 l3 l4 l1 l2 l5 (zI M l0 32) M) ∧ (p169_99 n  (b168_0 n l0 l3 l4 l1 l2 l5 (zI M l0 32) M).1 (b168_0 n l0 l3 l4 l1 l2 l5 (zI M l0 32) M).2)))) ∧ (¬ l3 ≤ l1 → (zHasI 10 228 l0 M 32) ∧ ((zHasC 169 303 l0 M 168 6) ∧ ((p168_0 n l0 l1 l2 l3 l4 l5 (zI M l0 32) M) ∧ (p169_81 n  (b168_0 n l0 l1 l2 l3 l4 l5 (zI M l0 32) M).1 (b168_0 n l0 l1 l2 l3 l4 l5 (zI M l0 32) M).2)))))))
theorem s169_51 (n : Nat)    (l0 : Nat) (l1 : Int32) (l2 : Int32) (l3 : Int32) (l4 : Int32) (l5 : Int32) (s0 : Int32) (M : zM) (hp : p169_51 n  l0 l1 l2 l3 l4 l5 s0 M) {Q : Option Value → zM → Prop} (hQ : ∀ r M1, zRI (b169_51 n  l0 l1 l2 l3 l4 l5 s0 M) r M1 → Q r M1) : zWP 169 51 [some (.ref l0), some (.int l1), some (.int l2), some (.int l3), some (.int l4), some (.int l5), none] [.int s0] M Q := by
  unfold b169_51 at hQ
  unfold p169_51 at hp
  refine wp_go 2 (pc' := 55) (L' := [some (.ref l0), some (.int l1), some (.int l2), some (.int l3), some (.int l4), some (.int l5), some (.int s0)]) (st' := [.int s0]) (M' := M) rfl ?_
  refine wp_if_ne (t := 61) rfl rfl (fun hc => ?_) (fun hc => ?_)
  · rw [if_neg hc] at hQ
    replace hp := hp.2 hc
    refine wp_go 2 (pc' := 63) (L' := [some (.ref l0), some (.int l1), some (.int l2), some (.int l3), some (.int l4), some (.int l5), some (.int s0)]) (st' := [.int l3, .int l1]) (M' := M) rfl ?_
    refine wp_ic_ge (t := 84) rfl rfl (fun hc => ?_) (fun hc => ?_)
    · rw [if_pos hc] at hQ
      replace hp := hp.1 hc
      refine wp_go 5 (pc' := 90) (L' := [some (.ref l0), some (.int l1), some (.int l2), some (.int l3), some (.int l4), some (.int l5), some (.int s0)]) (st' := [.int l2, .int l1, .int l4, .int l3, .ref l0]) (M' := M) rfl ?_
      refine wp_go 2 (pc' := 93) (L' := [some (.ref l0), some (.int l1), some (.int l2), some (.int l3), some (.int l4), some (.int l5), some (.int s0)]) (st' := [.ref l0, .int l5, .int l2, .int l1, .int l4, .int l3, .ref l0]) (M' := M) rfl ?_
      obtain ⟨hc, hp⟩ := hp
      refine wq_getI (j := 32) rfl hc ?_
      obtain ⟨hv, hp⟩ := hp
      obtain ⟨hc, hp⟩ := hp
      refine wp_calli (v := (b168_0 n l0 l3 l4 l1 l2 l5 (zI M l0 32) M).1) (M1 := (b168_0 n l0 l3 l4 l1 l2 l5 (zI M l0 32) M).2) rfl rfl rfl (zInv_v (np := 6) rfl rfl hv rfl) (s168_0 n l0 l3 l4 l1 l2 l5 (zI M l0 32) M hc (fun r M1 h => h)) ?_
      refine wp_le [none, none, none, none, none, none, none] (zLe_of (by simp [zLeB])) ?_
      exact s169_99 n    (b168_0 n l0 l3 l4 l1 l2 l5 (zI M l0 32) M).1 (b168_0 n l0 l3 l4 l1 l2 l5 (zI M l0 32) M).2 hp hQ
    · rw [if_neg hc] at hQ
      replace hp := hp.2 hc
      refine wp_go 5 (pc' := 72) (L' := [some (.ref l0), some (.int l1), some (.int l2), some (.int l3), some (.int l4), some (.int l5), some (.int s0)]) (st' := [.int l4, .int l3, .int l2, .int l1, .ref l0]) (M' := M) rfl ?_
      refine wp_go 2 (pc' := 75) (L' := [some (.ref l0), some (.int l1), some (.int l2), some (.int l3), some (.int l4), some (.int l5), some (.int s0)]) (st' := [.ref l0, .int l5, .int l4, .int l3, .int l2, .int l1, .ref l0]) (M' := M) rfl ?_
      obtain ⟨hc, hp⟩ := hp
      refine wq_getI (j := 32) rfl hc ?_
      obtain ⟨hv, hp⟩ := hp
      obtain ⟨hc, hp⟩ := hp
      refine wp_calli (v := (b168_0 n l0 l1 l2 l3 l4 l5 (zI M l0 32) M).1) (M1 := (b168_0 n l0 l1 l2 l3 l4 l5 (zI M l0 32) M).2) rfl rfl rfl (zInv_v (np := 6) rfl rfl hv rfl) (s168_0 n l0 l1 l2 l3 l4 l5 (zI M l0 32) M hc (fun r M1 h => h)) ?_
      refine wp_le [none, none, none, none, none, none, none] (zLe_of (by simp [zLeB])) ?_
      exact s169_81 n    (b168_0 n l0 l1 l2 l3 l4 l5 (zI M l0 32) M).1 (b168_0 n l0 l1 l2 l3 l4 l5 (zI M l0 32) M).2 hp hQ
  · rw [if_pos hc] at hQ
    replace hp := hp.1 hc
    refine wp_go 1 (pc' := 60) (L' := [some (.ref l0), some (.int l1), some (.int l2), some (.int l3), some (.int l4), some (.int l5), some (.int s0)]) (st' := [.int ((-2) : Int32)]) (M' := M) rfl ?_
    exact wp_ret (r := some (.int ((-2) : Int32))) rfl rfl (hQ _ _ ⟨rfl, rfl⟩)
def b169_37 (n : Nat)  (l0 : Nat) (l1 : Int32) (l2 : Int32) (l3 : Int32) (l4 : Int32) (l5 : Int32) (s0 : Int32) (M : zM) : Int32 × zM := b169_51 n  l0 l1 l2 l3 l4 l5 s0 M
def p169_37 (n : Nat)  (l0 : Nat) (l1 : Int32) (l2 : Int32) (l3 : Int32) (l4 : Int32) (l5 : Int32) (s0 : Int32) (M : zM) : Prop := p169_51 n  l0 l1 l2 l3 l4 l5 s0 M
theorem s169_37 (n : Nat)    (l0 : Nat) (l1 : Int32) (l2 : Int32) (l3 : Int32) (l4 : Int32) (l5 : Int32) (s0 : Int32) (M : zM) (hp : p169_37 n  l0 l1 l2 l3 l4 l5 s0 M) {Q : Option Value → zM → Prop} (hQ : ∀ r M1, zRI (b169_37 n  l0 l1 l2 l3 l4 l5 s0 M) r M1 → Q r M1) : zWP 169 37 [some (.ref l0), some (.int l1), some (.int l2), some (.int l3), some (.int l4), some (.int l5), none] [.int s0] M Q := by
  unfold b169_37 at hQ
  unfold p169_37 at hp
  refine wp_go 1 (pc' := 51) (L' := [some (.ref l0), some (.int l1), some (.int l2), some (.int l3), some (.int l4), some (.int l5), none]) (st' := [.int s0]) (M' := M) rfl ?_
  exact s169_51 n    l0 l1 l2 l3 l4 l5 s0 M hp hQ
def b169_16 (n : Nat)  (l0 : Nat) (l1 : Int32) (l2 : Int32) (l3 : Int32) (l4 : Int32) (l5 : Int32) (s0 : Int32) (M : zM) : Int32 × zM := (if s0 = 0 then (((-1) : Int32), M) else (if l3 ≤ l1 then b169_51 n  l0 l1 l2 l3 l4 l5 (b148_0 n l0 l3 l4 l1 l2 l5 M).1 (b148_0 n l0 l3 l4 l1 l2 l5 M).2 else b169_37 n  l0 l1 l2 l3 l4 l5 (b148_0 n l0 l1 l2 l3 l4 l5 M).1 (b148_0 n l0 l1 l2 l3 l4 l5 M).2))
def p169_16 (n : Nat)  (l0 : Nat) (l1 : Int32) (l2 : Int32) (l3 : Int32) (l4 : Int32) (l5 : Int32) (s0 : Int32) (M : zM) : Prop := ((s0 = 0 → True) ∧ (¬ s0 = 0 → ((l3 ≤ l1 → (zHasC 169 240 l0 M 148 5) ∧ ((p148_0 n l0 l3 l4 l1 l2 l5 M) ∧ (p169_51 n  l0 l1 l2 l3 l4 l5 (b148_0 n l0 l3 l4 l1 l2 l5 M).1 (b148_0 n l0 l3 l4 l1 l2 l5 M).2))) ∧ (¬ l3 ≤ l1 → (zHasC 169 240 l0 M 148 5) ∧ ((p148_0 n l0 l1 l2 l3 l4 l5 M) ∧ (p169_37 n  l0 l1 l2 l3 l4 l5 (b148_0 n l0 l1 l2 l3 l4 l5 M).1 (b148_0 n l0 l1 l2 l3 l4 l5 M).2))))))
theorem s169_16 (n : Nat)    (l0 : Nat) (l1 : Int32) (l2 : Int32) (l3 : Int32) (l4 : Int32) (l5 : Int32) (s0 : Int32) (M : zM) (hp : p169_16 n  l0 l1 l2 l3 l4 l5 s0 M) {Q : Option Value → zM → Prop} (hQ : ∀ r M1, zRI (b169_16 n  l0 l1 l2 l3 l4 l5 s0 M) r M1 → Q r M1) : zWP 169 16 [some (.ref l0), some (.int l1), some (.int l2), some (.int l3), some (.int l4), some (.int l5), none] [.int s0] M Q := by
  unfold b169_16 at hQ
  unfold p169_16 at hp
  refine wp_if_ne (t := 21) rfl rfl (fun hc => ?_) (fun hc => ?_)
  · rw [if_neg hc] at hQ
    replace hp := hp.2 hc
    refine wp_go 2 (pc' := 23) (L' := [some (.ref l0), some (.int l1), some (.int l2), some (.int l3), some (.int l4), some (.int l5), none]) (st' := [.int l3, .int l1]) (M' := M) rfl ?_
    refine wp_ic_ge (t := 40) rfl rfl (fun hc => ?_) (fun hc => ?_)
    · rw [if_pos hc] at hQ
      replace hp := hp.1 hc
      refine wp_go 5 (pc' := 46) (L' := [some (.ref l0), some (.int l1), some (.int l2), some (.int l3), some (.int l4), some (.int l5), none]) (st' := [.int l2, .int l1, .int l4, .int l3, .ref l0]) (M' := M) rfl ?_
      refine wp_go 1 (pc' := 48) (L' := [some (.ref l0), some (.int l1), some (.int l2), some (.int l3), some (.int l4), some (.int l5), none]) (st' := [.int l5, .int l2, .int l1, .int l4, .int l3, .ref l0]) (M' := M) rfl ?_
      obtain ⟨hv, hp⟩ := hp
      obtain ⟨hc, hp⟩ := hp
      refine wp_calli (v := (b148_0 n l0 l3 l4 l1 l2 l5 M).1) (M1 := (b148_0 n l0 l3 l4 l1 l2 l5 M).2) rfl rfl rfl (zInv_v (np := 5) rfl rfl hv rfl) (s148_0 n l0 l3 l4 l1 l2 l5 M hc (fun r M1 h => h)) ?_
      exact s169_51 n    l0 l1 l2 l3 l4 l5 (b148_0 n l0 l3 l4 l1 l2 l5 M).1 (b148_0 n l0 l3 l4 l1 l2 l5 M).2 hp hQ
    · rw [if_neg hc] at hQ
      replace hp := hp.2 hc
      refine wp_go 5 (pc' := 32) (L' := [some (.ref l0), some (.int l1), some (.int l2), some (.int l3), some (.int l4), some (.int l5), none]) (st' := [.int l4, .int l3, .int l2, .int l1, .ref l0]) (M' := M) rfl ?_
      refine wp_go 1 (pc' := 34) (L' := [some (.ref l0), some (.int l1), some (.int l2), some (.int l3), some (.int l4), some (.int l5), none]) (st' := [.int l5, .int l4, .int l3, .int l2, .int l1, .ref l0]) (M' := M) rfl ?_
      obtain ⟨hv, hp⟩ := hp
      obtain ⟨hc, hp⟩ := hp
      refine wp_calli (v := (b148_0 n l0 l1 l2 l3 l4 l5 M).1) (M1 := (b148_0 n l0 l1 l2 l3 l4 l5 M).2) rfl rfl rfl (zInv_v (np := 5) rfl rfl hv rfl) (s148_0 n l0 l1 l2 l3 l4 l5 M hc (fun r M1 h => h)) ?_
      exact s169_37 n    l0 l1 l2 l3 l4 l5 (b148_0 n l0 l1 l2 l3 l4 l5 M).1 (b148_0 n l0 l1 l2 l3 l4 l5 M).2 hp hQ
  · rw [if_pos hc] at hQ
    replace hp := hp.1 hc
    refine wp_go 1 (pc' := 20) (L' := [some (.ref l0), some (.int l1), some (.int l2), some (.int l3), some (.int l4), some (.int l5), none]) (st' := [.int ((-1) : Int32)]) (M' := M) rfl ?_
    exact wp_ret (r := some (.int ((-1) : Int32))) rfl rfl (hQ _ _ ⟨rfl, rfl⟩)
def b169_5 (n : Nat)  (l0 : Nat) (l1 : Int32) (l2 : Int32) (l3 : Int32) (l4 : Int32) (l5 : Int32) (M : zM) : Int32 × zM := b169_16 n  l0 l1 l2 l3 l4 l5 (b145_0 n l0 l1 l2 l3 l4 l5 M).1 (b145_0 n l0 l1 l2 l3 l4 l5 M).2
def p169_5 (n : Nat)  (l0 : Nat) (l1 : Int32) (l2 : Int32) (l3 : Int32) (l4 : Int32) (l5 : Int32) (M : zM) : Prop := (zHasC 169 220 l0 M 145 5) ∧ ((p145_0 n l0 l1 l2 l3 l4 l5 M) ∧ (p169_16 n  l0 l1 l2 l3 l4 l5 (b145_0 n l0 l1 l2 l3 l4 l5 M).1 (b145_0 n l0 l1 l2 l3 l4 l5 M).2))
theorem s169_5 (n : Nat)    (l0 : Nat) (l1 : Int32) (l2 : Int32) (l3 : Int32) (l4 : Int32) (l5 : Int32) (M : zM) (hp : p169_5 n  l0 l1 l2 l3 l4 l5 M) {Q : Option Value → zM → Prop} (hQ : ∀ r M1, zRI (b169_5 n  l0 l1 l2 l3 l4 l5 M) r M1 → Q r M1) : zWP 169 5 [some (.ref l0), some (.int l1), some (.int l2), some (.int l3), some (.int l4), some (.int l5), none] [] M Q := by
  unfold b169_5 at hQ
  unfold p169_5 at hp
  refine wp_go 5 (pc' := 11) (L' := [some (.ref l0), some (.int l1), some (.int l2), some (.int l3), some (.int l4), some (.int l5), none]) (st' := [.int l4, .int l3, .int l2, .int l1, .ref l0]) (M' := M) rfl ?_
  refine wp_go 1 (pc' := 13) (L' := [some (.ref l0), some (.int l1), some (.int l2), some (.int l3), some (.int l4), some (.int l5), none]) (st' := [.int l5, .int l4, .int l3, .int l2, .int l1, .ref l0]) (M' := M) rfl ?_
  obtain ⟨hv, hp⟩ := hp
  obtain ⟨hc, hp⟩ := hp
  refine wp_calli (v := (b145_0 n l0 l1 l2 l3 l4 l5 M).1) (M1 := (b145_0 n l0 l1 l2 l3 l4 l5 M).2) rfl rfl rfl (zInv_v (np := 5) rfl rfl hv rfl) (s145_0 n l0 l1 l2 l3 l4 l5 M hc (fun r M1 h => h)) ?_
  exact s169_16 n    l0 l1 l2 l3 l4 l5 (b145_0 n l0 l1 l2 l3 l4 l5 M).1 (b145_0 n l0 l1 l2 l3 l4 l5 M).2 hp hQ
def b169_0 (n : Nat)  (l0 : Nat) (l1 : Int32) (l2 : Int32) (l3 : Int32) (l4 : Int32) (l5 : Int32) (M : zM) : Int32 × zM := b169_5 n  l0 l1 l2 l3 l4 l5 (zWI M l0 26 (0 : Int32))
def p169_0 (n : Nat)  (l0 : Nat) (l1 : Int32) (l2 : Int32) (l3 : Int32) (l4 : Int32) (l5 : Int32) (M : zM) : Prop := (zPutI 169 138 l0 M 26 (0 : Int32)) ∧ (p169_5 n  l0 l1 l2 l3 l4 l5 (zWI M l0 26 (0 : Int32)))
theorem s169_0 (n : Nat)    (l0 : Nat) (l1 : Int32) (l2 : Int32) (l3 : Int32) (l4 : Int32) (l5 : Int32) (M : zM) (hp : p169_0 n  l0 l1 l2 l3 l4 l5 M) {Q : Option Value → zM → Prop} (hQ : ∀ r M1, zRI (b169_0 n  l0 l1 l2 l3 l4 l5 M) r M1 → Q r M1) : zWP 169 0 [some (.ref l0), some (.int l1), some (.int l2), some (.int l3), some (.int l4), some (.int l5), none] [] M Q := by
  unfold b169_0 at hQ
  unfold p169_0 at hp
  refine wp_go 2 (pc' := 2) (L' := [some (.ref l0), some (.int l1), some (.int l2), some (.int l3), some (.int l4), some (.int l5), none]) (st' := [.int (0 : Int32), .ref l0]) (M' := M) rfl ?_
  obtain ⟨hc, hp⟩ := hp
  refine wq_putI (j := 26) rfl hc ?_
  exact s169_5 n    l0 l1 l2 l3 l4 l5 (zWI M l0 26 (0 : Int32)) hp hQ
/-! X12_byHand -/
def b170_45 (n : Nat)   (M : zM) : Int32 × zM := (((-2) : Int32), M)
def p170_45 (n : Nat)   (M : zM) : Prop := True
theorem s170_45 (n : Nat)     (M : zM) (hp : p170_45 n   M) {Q : Option Value → zM → Prop} (hQ : ∀ r M1, zRI (b170_45 n   M) r M1 → Q r M1) : zWP 170 45 [none, none, none, none, none, none, none, none, none] [] M Q := by
  unfold b170_45 at hQ
  unfold p170_45 at hp
  refine wp_go 1 (pc' := 47) (L' := [none, none, none, none, none, none, none, none, none]) (st' := [.int ((-2) : Int32)]) (M' := M) rfl ?_
  exact wp_ret (r := some (.int ((-2) : Int32))) rfl rfl (hQ _ _ ⟨rfl, rfl⟩)
def b170_195 (n : Nat)  (s0 : Int32) (M : zM) : Int32 × zM := (s0, M)
def p170_195 (n : Nat)  (s0 : Int32) (M : zM) : Prop := True
theorem s170_195 (n : Nat)    (s0 : Int32) (M : zM) (hp : p170_195 n  s0 M) {Q : Option Value → zM → Prop} (hQ : ∀ r M1, zRI (b170_195 n  s0 M) r M1 → Q r M1) : zWP 170 195 [none, none, none, none, none, none, none, none, none] [.int s0] M Q := by
  unfold b170_195 at hQ
  unfold p170_195 at hp
  exact wp_ret (r := some (.int s0)) rfl rfl (hQ _ _ ⟨rfl, rfl⟩)
def b170_189 (n : Nat)  (l0 : Nat) (l7 : Int32) (M : zM) : Int32 × zM := b170_195 n  (b167_0 n l0 l7 M).1 (b167_0 n l0 l7 M).2
def p170_189 (n : Nat)  (l0 : Nat) (l7 : Int32) (M : zM) : Prop := (zHasC 170 301 l0 M 167 1) ∧ ((p167_0 n l0 l7 M) ∧ (p170_195 n  (b167_0 n l0 l7 M).1 (b167_0 n l0 l7 M).2))
theorem s170_189 (n : Nat)    (l0 : Nat) (l7 : Int32) (M : zM) (hp : p170_189 n  l0 l7 M) {Q : Option Value → zM → Prop} (hQ : ∀ r M1, zRI (b170_189 n  l0 l7 M) r M1 → Q r M1) : zWP 170 189 [some (.ref l0), none, none, none, none, none, none, some (.int l7), none] [] M Q := by
  unfold b170_189 at hQ
  unfold p170_189 at hp
  refine wp_go 2 (pc' := 192) (L' := [some (.ref l0), none, none, none, none, none, none, some (.int l7), none]) (st' := [.int l7, .ref l0]) (M' := M) rfl ?_
  obtain ⟨hv, hp⟩ := hp
  obtain ⟨hc, hp⟩ := hp
  refine wp_calli (v := (b167_0 n l0 l7 M).1) (M1 := (b167_0 n l0 l7 M).2) rfl rfl rfl (zInv_v (np := 1) rfl rfl hv rfl) (s167_0 n l0 l7 M hc (fun r M1 h => h)) ?_
  refine wp_le [none, none, none, none, none, none, none, none, none] (zLe_of (by simp [zLeB])) ?_
  exact s170_195 n    (b167_0 n l0 l7 M).1 (b167_0 n l0 l7 M).2 hp hQ
def b170_139 (n : Nat)  (l0 : Nat) (l1 : Int32) (l2 : Int32) (l3 : Int32) (l4 : Int32) (l5 : Int32) (s0 : Int32) (M : zM) : Int32 × zM := b170_189 n  l0 s0 (b165_0 n l0 s0 l1 l2 l3 l4 ((((zI M (zQ M l0 6) (((20 : Int32) * l1) + l2).toNatClampNeg) - (zI M (zQ M l0 6) (((20 : Int32) * l3) + l4).toNatClampNeg)) + (36 : Int32)) - (((zI M (zQ M l0 6) (((20 : Int32) * l1) + l2).toNatClampNeg) - (zI M (zQ M l0 6) (((20 : Int32) * l3) + l4).toNatClampNeg)) + (36 : Int32)) / (24 : Int32) * (24 : Int32)) l5 (1 : Int32) M)
def p170_139 (n : Nat)  (l0 : Nat) (l1 : Int32) (l2 : Int32) (l3 : Int32) (l4 : Int32) (l5 : Int32) (s0 : Int32) (M : zM) : Prop := (zHasQ 10 26 l0 M 6) ∧ ((zOkI (zQ M l0 6) (((20 : Int32) * l1) + l2) M) ∧ ((zHasQ 10 26 l0 M 6) ∧ ((zOkI (zQ M l0 6) (((20 : Int32) * l3) + l4) M) ∧ ((zHasC 170 288 l0 M 165 8) ∧ ((p165_0 n l0 s0 l1 l2 l3 l4 ((((zI M (zQ M l0 6) (((20 : Int32) * l1) + l2).toNatClampNeg) - (zI M (zQ M l0 6) (((20 : Int32) * l3) + l4).toNatClampNeg)) + (36 : Int32)) - (((zI M (zQ M l0 6) (((20 : Int32) * l1) + l2).toNatClampNeg) - (zI M (zQ M l0 6) (((20 : Int32) * l3) + l4).toNatClampNeg)) + (36 : Int32)) / (24 : Int32) * (24 : Int32)) l5 (1 : Int32) M) ∧ (p170_189 n  l0 s0 (b165_0 n l0 s0 l1 l2 l3 l4 ((((zI M (zQ M l0 6) (((20 : Int32) * l1) + l2).toNatClampNeg) - (zI M (zQ M l0 6) (((20 : Int32) * l3) + l4).toNatClampNeg)) + (36 : Int32)) - (((zI M (zQ M l0 6) (((20 : Int32) * l1) + l2).toNatClampNeg) - (zI M (zQ M l0 6) (((20 : Int32) * l3) + l4).toNatClampNeg)) + (36 : Int32)) / (24 : Int32) * (24 : Int32)) l5 (1 : Int32) M)))))))
theorem s170_139 (n : Nat)    (l0 : Nat) (l1 : Int32) (l2 : Int32) (l3 : Int32) (l4 : Int32) (l5 : Int32) (s0 : Int32) (M : zM) (hp : p170_139 n  l0 l1 l2 l3 l4 l5 s0 M) {Q : Option Value → zM → Prop} (hQ : ∀ r M1, zRI (b170_139 n  l0 l1 l2 l3 l4 l5 s0 M) r M1 → Q r M1) : zWP 170 139 [some (.ref l0), some (.int l1), some (.int l2), some (.int l3), some (.int l4), some (.int l5), none, none, none] [.int s0] M Q := by
  unfold b170_139 at hQ
  unfold p170_139 at hp
  refine wp_go 2 (pc' := 142) (L' := [some (.ref l0), some (.int l1), some (.int l2), some (.int l3), some (.int l4), some (.int l5), none, some (.int s0), none]) (st' := [.ref l0]) (M' := M) rfl ?_
  obtain ⟨hc, hp⟩ := hp
  refine wq_getQ (j := 6) rfl hc ?_
  refine wp_go 5 (pc' := 151) (L' := [some (.ref l0), some (.int l1), some (.int l2), some (.int l3), some (.int l4), some (.int l5), none, some (.int s0), none]) (st' := [.int (((20 : Int32) * l1) + l2), .ref (zQ M l0 6)]) (M' := M) rfl ?_
  obtain ⟨hc, hp⟩ := hp
  refine wq_iald rfl hc ?_
  refine wp_go 1 (pc' := 153) (L' := [some (.ref l0), some (.int l1), some (.int l2), some (.int l3), some (.int l4), some (.int l5), none, some (.int s0), none]) (st' := [.ref l0, .int (zI M (zQ M l0 6) (((20 : Int32) * l1) + l2).toNatClampNeg)]) (M' := M) rfl ?_
  obtain ⟨hc, hp⟩ := hp
  refine wq_getQ (j := 6) rfl hc ?_
  refine wp_go 5 (pc' := 163) (L' := [some (.ref l0), some (.int l1), some (.int l2), some (.int l3), some (.int l4), some (.int l5), none, some (.int s0), none]) (st' := [.int (((20 : Int32) * l3) + l4), .ref (zQ M l0 6), .int (zI M (zQ M l0 6) (((20 : Int32) * l1) + l2).toNatClampNeg)]) (M' := M) rfl ?_
  obtain ⟨hc, hp⟩ := hp
  refine wq_iald rfl hc ?_
  refine wp_go 4 (pc' := 170) (L' := [some (.ref l0), some (.int l1), some (.int l2), some (.int l3), some (.int l4), some (.int l5), none, some (.int s0), none]) (st' := [.int (24 : Int32), .int (((zI M (zQ M l0 6) (((20 : Int32) * l1) + l2).toNatClampNeg) - (zI M (zQ M l0 6) (((20 : Int32) * l3) + l4).toNatClampNeg)) + (36 : Int32))]) (M' := M) rfl ?_
  refine wq_irem rfl (by decide) ?_
  refine wp_go 5 (pc' := 178) (L' := [some (.ref l0), some (.int l1), some (.int l2), some (.int l3), some (.int l4), some (.int l5), none, some (.int s0), some (.int ((((zI M (zQ M l0 6) (((20 : Int32) * l1) + l2).toNatClampNeg) - (zI M (zQ M l0 6) (((20 : Int32) * l3) + l4).toNatClampNeg)) + (36 : Int32)) - (((zI M (zQ M l0 6) (((20 : Int32) * l1) + l2).toNatClampNeg) - (zI M (zQ M l0 6) (((20 : Int32) * l3) + l4).toNatClampNeg)) + (36 : Int32)) / (24 : Int32) * (24 : Int32)))]) (st' := [.int l2, .int l1, .int s0, .ref l0]) (M' := M) rfl ?_
  refine wp_go 5 (pc' := 186) (L' := [some (.ref l0), some (.int l1), some (.int l2), some (.int l3), some (.int l4), some (.int l5), none, some (.int s0), some (.int ((((zI M (zQ M l0 6) (((20 : Int32) * l1) + l2).toNatClampNeg) - (zI M (zQ M l0 6) (((20 : Int32) * l3) + l4).toNatClampNeg)) + (36 : Int32)) - (((zI M (zQ M l0 6) (((20 : Int32) * l1) + l2).toNatClampNeg) - (zI M (zQ M l0 6) (((20 : Int32) * l3) + l4).toNatClampNeg)) + (36 : Int32)) / (24 : Int32) * (24 : Int32)))]) (st' := [.int (1 : Int32), .int l5, .int ((((zI M (zQ M l0 6) (((20 : Int32) * l1) + l2).toNatClampNeg) - (zI M (zQ M l0 6) (((20 : Int32) * l3) + l4).toNatClampNeg)) + (36 : Int32)) - (((zI M (zQ M l0 6) (((20 : Int32) * l1) + l2).toNatClampNeg) - (zI M (zQ M l0 6) (((20 : Int32) * l3) + l4).toNatClampNeg)) + (36 : Int32)) / (24 : Int32) * (24 : Int32)), .int l4, .int l3, .int l2, .int l1, .int s0, .ref l0]) (M' := M) rfl ?_
  obtain ⟨hv, hp⟩ := hp
  obtain ⟨hc, hp⟩ := hp
  refine wp_callv (M1 := (b165_0 n l0 s0 l1 l2 l3 l4 ((((zI M (zQ M l0 6) (((20 : Int32) * l1) + l2).toNatClampNeg) - (zI M (zQ M l0 6) (((20 : Int32) * l3) + l4).toNatClampNeg)) + (36 : Int32)) - (((zI M (zQ M l0 6) (((20 : Int32) * l1) + l2).toNatClampNeg) - (zI M (zQ M l0 6) (((20 : Int32) * l3) + l4).toNatClampNeg)) + (36 : Int32)) / (24 : Int32) * (24 : Int32)) l5 (1 : Int32) M)) rfl rfl rfl (zInv_v (np := 8) rfl rfl hv rfl) (s165_0 n l0 s0 l1 l2 l3 l4 ((((zI M (zQ M l0 6) (((20 : Int32) * l1) + l2).toNatClampNeg) - (zI M (zQ M l0 6) (((20 : Int32) * l3) + l4).toNatClampNeg)) + (36 : Int32)) - (((zI M (zQ M l0 6) (((20 : Int32) * l1) + l2).toNatClampNeg) - (zI M (zQ M l0 6) (((20 : Int32) * l3) + l4).toNatClampNeg)) + (36 : Int32)) / (24 : Int32) * (24 : Int32)) l5 (1 : Int32) M hc (fun r M1 h => h)) ?_
  refine wp_le [some (.ref l0), none, none, none, none, none, none, some (.int s0), none] (zLe_of (by simp [zLeB])) ?_
  exact s170_189 n    l0 s0 (b165_0 n l0 s0 l1 l2 l3 l4 ((((zI M (zQ M l0 6) (((20 : Int32) * l1) + l2).toNatClampNeg) - (zI M (zQ M l0 6) (((20 : Int32) * l3) + l4).toNatClampNeg)) + (36 : Int32)) - (((zI M (zQ M l0 6) (((20 : Int32) * l1) + l2).toNatClampNeg) - (zI M (zQ M l0 6) (((20 : Int32) * l3) + l4).toNatClampNeg)) + (36 : Int32)) / (24 : Int32) * (24 : Int32)) l5 (1 : Int32) M) hp hQ
def b170_114 (n : Nat)   (M : zM) : Int32 × zM := (((-2) : Int32), M)
def p170_114 (n : Nat)   (M : zM) : Prop := True
theorem s170_114 (n : Nat)     (M : zM) (hp : p170_114 n   M) {Q : Option Value → zM → Prop} (hQ : ∀ r M1, zRI (b170_114 n   M) r M1 → Q r M1) : zWP 170 114 [none, none, none, none, none, none, none, none, none] [] M Q := by
  unfold b170_114 at hQ
  unfold p170_114 at hp
  refine wp_go 1 (pc' := 116) (L' := [none, none, none, none, none, none, none, none, none]) (st' := [.int ((-2) : Int32)]) (M' := M) rfl ?_
  exact wp_ret (r := some (.int ((-2) : Int32))) rfl rfl (hQ _ _ ⟨rfl, rfl⟩)
def c170_51 (n : Nat) (k51 : Nat → Int32 → Int32 → Int32 → Int32 → Int32 → Int32 → zM → Int32 × zM) (l0 : Nat) (l1 : Int32) (l2 : Int32) (l3 : Int32) (l4 : Int32) (l5 : Int32) (l7 : Int32) (M : zM) : Int32 × zM := (if l5 ≤ l7 then (if (zI M l0 15) = (40 : Int32) then (((-4) : Int32), M) else b170_139 n  l0 l1 l2 l3 l4 l5 (b164_0 n l0 M).1 (b164_0 n l0 M).2) else (if 0 ≤ (zI M (zQ M l0 10) (((20 : Int32) * l1) + ((l2 + l7) - (l2 + l7) / (zI M (zQ M l0 2) l1.toNatClampNeg) * (zI M (zQ M l0 2) l1.toNatClampNeg))).toNatClampNeg) then b170_114 n  M else (if (zI M (zQ M l0 10) (((20 : Int32) * l3) + (((l4 - l7) + (zI M (zQ M l0 2) l3.toNatClampNeg)) - ((l4 - l7) + (zI M (zQ M l0 2) l3.toNatClampNeg)) / (zI M (zQ M l0 2) l3.toNatClampNeg) * (zI M (zQ M l0 2) l3.toNatClampNeg))).toNatClampNeg) < 0 then k51 l0 l1 l2 l3 l4 l5 (l7 + Int32.ofInt 1) M else b170_114 n  M)))
def d170_51 (n : Nat) (q51 : Nat → Int32 → Int32 → Int32 → Int32 → Int32 → Int32 → zM → Prop) (l0 : Nat) (l1 : Int32) (l2 : Int32) (l3 : Int32) (l4 : Int32) (l5 : Int32) (l7 : Int32) (M : zM) : Prop := ((l5 ≤ l7 → (zHasI 10 278 l0 M 15) ∧ ((((zI M l0 15) = (40 : Int32) → True) ∧ (¬ (zI M l0 15) = (40 : Int32) → (zHasC 170 284 l0 M 164 0) ∧ ((p164_0 n l0 M) ∧ (p170_139 n  l0 l1 l2 l3 l4 l5 (b164_0 n l0 M).1 (b164_0 n l0 M).2)))))) ∧ (¬ l5 ≤ l7 → (zHasQ 10 38 l0 M 10) ∧ ((zHasQ 10 13 l0 M 2) ∧ ((zOkI (zQ M l0 2) l1 M) ∧ ((¬ (zI M (zQ M l0 2) l1.toNatClampNeg) = 0) ∧ ((zOkI (zQ M l0 10) (((20 : Int32) * l1) + ((l2 + l7) - (l2 + l7) / (zI M (zQ M l0 2) l1.toNatClampNeg) * (zI M (zQ M l0 2) l1.toNatClampNeg))) M) ∧ (((0 ≤ (zI M (zQ M l0 10) (((20 : Int32) * l1) + ((l2 + l7) - (l2 + l7) / (zI M (zQ M l0 2) l1.toNatClampNeg) * (zI M (zQ M l0 2) l1.toNatClampNeg))).toNatClampNeg) → p170_114 n  M) ∧ (¬ 0 ≤ (zI M (zQ M l0 10) (((20 : Int32) * l1) + ((l2 + l7) - (l2 + l7) / (zI M (zQ M l0 2) l1.toNatClampNeg) * (zI M (zQ M l0 2) l1.toNatClampNeg))).toNatClampNeg) → (zHasQ 10 38 l0 M 10) ∧ ((zHasQ 10 13 l0 M 2) ∧ ((zOkI (zQ M l0 2) l3 M) ∧ ((zHasQ 10 13 l0 M 2) ∧ ((zOkI (zQ M l0 2) l3 M) ∧ ((¬ (zI M (zQ M l0 2) l3.toNatClampNeg) = 0) ∧ ((zOkI (zQ M l0 10) (((20 : Int32) * l3) + (((l4 - l7) + (zI M (zQ M l0 2) l3.toNatClampNeg)) - ((l4 - l7) + (zI M (zQ M l0 2) l3.toNatClampNeg)) / (zI M (zQ M l0 2) l3.toNatClampNeg) * (zI M (zQ M l0 2) l3.toNatClampNeg))) M) ∧ ((((zI M (zQ M l0 10) (((20 : Int32) * l3) + (((l4 - l7) + (zI M (zQ M l0 2) l3.toNatClampNeg)) - ((l4 - l7) + (zI M (zQ M l0 2) l3.toNatClampNeg)) / (zI M (zQ M l0 2) l3.toNatClampNeg) * (zI M (zQ M l0 2) l3.toNatClampNeg))).toNatClampNeg) < 0 → q51 l0 l1 l2 l3 l4 l5 (l7 + Int32.ofInt 1) M) ∧ (¬ (zI M (zQ M l0 10) (((20 : Int32) * l3) + (((l4 - l7) + (zI M (zQ M l0 2) l3.toNatClampNeg)) - ((l4 - l7) + (zI M (zQ M l0 2) l3.toNatClampNeg)) / (zI M (zQ M l0 2) l3.toNatClampNeg) * (zI M (zQ M l0 2) l3.toNatClampNeg))).toNatClampNeg) < 0 → p170_114 n  M))))))))))))))))))
theorem t170_51 (n : Nat) (k51 : Nat → Int32 → Int32 → Int32 → Int32 → Int32 → Int32 → zM → Int32 × zM) (q51 : Nat → Int32 → Int32 → Int32 → Int32 → Int32 → Int32 → zM → Prop) (h51 : ∀ (l0 : Nat) (l1 : Int32) (l2 : Int32) (l3 : Int32) (l4 : Int32) (l5 : Int32) (l7 : Int32) (M : zM), q51 l0 l1 l2 l3 l4 l5 l7 M → ∀ {Q : Option Value → zM → Prop}, (∀ r M1, zRI (k51 l0 l1 l2 l3 l4 l5 l7 M) r M1 → Q r M1) → zWP 170 51 [some (.ref l0), some (.int l1), some (.int l2), some (.int l3), some (.int l4), some (.int l5), none, some (.int l7), none] [] M Q) (l0 : Nat) (l1 : Int32) (l2 : Int32) (l3 : Int32) (l4 : Int32) (l5 : Int32) (l7 : Int32) (M : zM) (hp : d170_51 n q51 l0 l1 l2 l3 l4 l5 l7 M) {Q : Option Value → zM → Prop} (hQ : ∀ r M1, zRI (c170_51 n k51 l0 l1 l2 l3 l4 l5 l7 M) r M1 → Q r M1) : zWP 170 51 [some (.ref l0), some (.int l1), some (.int l2), some (.int l3), some (.int l4), some (.int l5), none, some (.int l7), none] [] M Q := by
  unfold c170_51 at hQ
  unfold d170_51 at hp
  refine wp_go 2 (pc' := 55) (L' := [some (.ref l0), some (.int l1), some (.int l2), some (.int l3), some (.int l4), some (.int l5), none, some (.int l7), none]) (st' := [.int l5, .int l7]) (M' := M) rfl ?_
  refine wp_ic_ge (t := 123) rfl rfl (fun hc => ?_) (fun hc => ?_)
  · rw [if_pos hc] at hQ
    replace hp := hp.1 hc
    refine wp_go 1 (pc' := 124) (L' := [some (.ref l0), some (.int l1), some (.int l2), some (.int l3), some (.int l4), some (.int l5), none, some (.int l7), none]) (st' := [.ref l0]) (M' := M) rfl ?_
    obtain ⟨hc, hp⟩ := hp
    refine wq_getI (j := 15) rfl hc ?_
    refine wp_go 1 (pc' := 129) (L' := [some (.ref l0), some (.int l1), some (.int l2), some (.int l3), some (.int l4), some (.int l5), none, some (.int l7), none]) (st' := [.int (40 : Int32), .int (zI M l0 15)]) (M' := M) rfl ?_
    refine wp_ic_ne (t := 135) rfl rfl (fun hc => ?_) (fun hc => ?_)
    · rw [if_neg hc] at hQ
      replace hp := hp.2 hc
      refine wp_go 1 (pc' := 136) (L' := [some (.ref l0), some (.int l1), some (.int l2), some (.int l3), some (.int l4), some (.int l5), none, some (.int l7), none]) (st' := [.ref l0]) (M' := M) rfl ?_
      obtain ⟨hv, hp⟩ := hp
      obtain ⟨hc, hp⟩ := hp
      refine wp_calli (v := (b164_0 n l0 M).1) (M1 := (b164_0 n l0 M).2) rfl rfl rfl (zInv_v (np := 0) rfl rfl hv rfl) (s164_0 n l0 M hc (fun r M1 h => h)) ?_
      refine wp_le [some (.ref l0), some (.int l1), some (.int l2), some (.int l3), some (.int l4), some (.int l5), none, none, none] (zLe_of (by simp [zLeB])) ?_
      exact s170_139 n    l0 l1 l2 l3 l4 l5 (b164_0 n l0 M).1 (b164_0 n l0 M).2 hp hQ
    · rw [if_pos hc] at hQ
      replace hp := hp.1 hc
      refine wp_go 1 (pc' := 134) (L' := [some (.ref l0), some (.int l1), some (.int l2), some (.int l3), some (.int l4), some (.int l5), none, some (.int l7), none]) (st' := [.int ((-4) : Int32)]) (M' := M) rfl ?_
      exact wp_ret (r := some (.int ((-4) : Int32))) rfl rfl (hQ _ _ ⟨rfl, rfl⟩)
  · rw [if_neg hc] at hQ
    replace hp := hp.2 hc
    refine wp_go 1 (pc' := 59) (L' := [some (.ref l0), some (.int l1), some (.int l2), some (.int l3), some (.int l4), some (.int l5), none, some (.int l7), none]) (st' := [.ref l0]) (M' := M) rfl ?_
    obtain ⟨hc, hp⟩ := hp
    refine wq_getQ (j := 10) rfl hc ?_
    refine wp_go 5 (pc' := 69) (L' := [some (.ref l0), some (.int l1), some (.int l2), some (.int l3), some (.int l4), some (.int l5), none, some (.int l7), none]) (st' := [.int l7, .int l2, .int ((20 : Int32) * l1), .ref (zQ M l0 10)]) (M' := M) rfl ?_
    refine wp_go 2 (pc' := 71) (L' := [some (.ref l0), some (.int l1), some (.int l2), some (.int l3), some (.int l4), some (.int l5), none, some (.int l7), none]) (st' := [.ref l0, .int (l2 + l7), .int ((20 : Int32) * l1), .ref (zQ M l0 10)]) (M' := M) rfl ?_
    obtain ⟨hc, hp⟩ := hp
    refine wq_getQ (j := 2) rfl hc ?_
    refine wp_go 1 (pc' := 75) (L' := [some (.ref l0), some (.int l1), some (.int l2), some (.int l3), some (.int l4), some (.int l5), none, some (.int l7), none]) (st' := [.int l1, .ref (zQ M l0 2), .int (l2 + l7), .int ((20 : Int32) * l1), .ref (zQ M l0 10)]) (M' := M) rfl ?_
    obtain ⟨hc, hp⟩ := hp
    refine wq_iald rfl hc ?_
    obtain ⟨hc, hp⟩ := hp
    refine wq_irem rfl hc ?_
    refine wp_go 1 (pc' := 78) (L' := [some (.ref l0), some (.int l1), some (.int l2), some (.int l3), some (.int l4), some (.int l5), none, some (.int l7), none]) (st' := [.int (((20 : Int32) * l1) + ((l2 + l7) - (l2 + l7) / (zI M (zQ M l0 2) l1.toNatClampNeg) * (zI M (zQ M l0 2) l1.toNatClampNeg))), .ref (zQ M l0 10)]) (M' := M) rfl ?_
    obtain ⟨hc, hp⟩ := hp
    refine wq_iald rfl hc ?_
    refine wp_if_ge (t := 114) rfl rfl (fun hc => ?_) (fun hc => ?_)
    · rw [if_pos hc] at hQ
      replace hp := hp.1 hc
      refine wp_le [none, none, none, none, none, none, none, none, none] (zLe_of (by simp [zLeB])) ?_
      exact s170_114 n    M hp hQ
    · rw [if_neg hc] at hQ
      replace hp := hp.2 hc
      refine wp_go 1 (pc' := 83) (L' := [some (.ref l0), some (.int l1), some (.int l2), some (.int l3), some (.int l4), some (.int l5), none, some (.int l7), none]) (st' := [.ref l0]) (M' := M) rfl ?_
      obtain ⟨hc, hp⟩ := hp
      refine wq_getQ (j := 10) rfl hc ?_
      refine wp_go 5 (pc' := 94) (L' := [some (.ref l0), some (.int l1), some (.int l2), some (.int l3), some (.int l4), some (.int l5), none, some (.int l7), none]) (st' := [.int l7, .int l4, .int ((20 : Int32) * l3), .ref (zQ M l0 10)]) (M' := M) rfl ?_
      refine wp_go 2 (pc' := 96) (L' := [some (.ref l0), some (.int l1), some (.int l2), some (.int l3), some (.int l4), some (.int l5), none, some (.int l7), none]) (st' := [.ref l0, .int (l4 - l7), .int ((20 : Int32) * l3), .ref (zQ M l0 10)]) (M' := M) rfl ?_
      obtain ⟨hc, hp⟩ := hp
      refine wq_getQ (j := 2) rfl hc ?_
      refine wp_go 1 (pc' := 100) (L' := [some (.ref l0), some (.int l1), some (.int l2), some (.int l3), some (.int l4), some (.int l5), none, some (.int l7), none]) (st' := [.int l3, .ref (zQ M l0 2), .int (l4 - l7), .int ((20 : Int32) * l3), .ref (zQ M l0 10)]) (M' := M) rfl ?_
      obtain ⟨hc, hp⟩ := hp
      refine wq_iald rfl hc ?_
      refine wp_go 2 (pc' := 103) (L' := [some (.ref l0), some (.int l1), some (.int l2), some (.int l3), some (.int l4), some (.int l5), none, some (.int l7), none]) (st' := [.ref l0, .int ((l4 - l7) + (zI M (zQ M l0 2) l3.toNatClampNeg)), .int ((20 : Int32) * l3), .ref (zQ M l0 10)]) (M' := M) rfl ?_
      obtain ⟨hc, hp⟩ := hp
      refine wq_getQ (j := 2) rfl hc ?_
      refine wp_go 1 (pc' := 107) (L' := [some (.ref l0), some (.int l1), some (.int l2), some (.int l3), some (.int l4), some (.int l5), none, some (.int l7), none]) (st' := [.int l3, .ref (zQ M l0 2), .int ((l4 - l7) + (zI M (zQ M l0 2) l3.toNatClampNeg)), .int ((20 : Int32) * l3), .ref (zQ M l0 10)]) (M' := M) rfl ?_
      obtain ⟨hc, hp⟩ := hp
      refine wq_iald rfl hc ?_
      obtain ⟨hc, hp⟩ := hp
      refine wq_irem rfl hc ?_
      refine wp_go 1 (pc' := 110) (L' := [some (.ref l0), some (.int l1), some (.int l2), some (.int l3), some (.int l4), some (.int l5), none, some (.int l7), none]) (st' := [.int (((20 : Int32) * l3) + (((l4 - l7) + (zI M (zQ M l0 2) l3.toNatClampNeg)) - ((l4 - l7) + (zI M (zQ M l0 2) l3.toNatClampNeg)) / (zI M (zQ M l0 2) l3.toNatClampNeg) * (zI M (zQ M l0 2) l3.toNatClampNeg))), .ref (zQ M l0 10)]) (M' := M) rfl ?_
      obtain ⟨hc, hp⟩ := hp
      refine wq_iald rfl hc ?_
      refine wp_if_lt (t := 117) rfl rfl (fun hc => ?_) (fun hc => ?_)
      · rw [if_pos hc] at hQ
        replace hp := hp.1 hc
        refine wp_go 2 (pc' := 51) (L' := [some (.ref l0), some (.int l1), some (.int l2), some (.int l3), some (.int l4), some (.int l5), none, some (.int (l7 + Int32.ofInt 1)), none]) (st' := []) (M' := M) rfl ?_
        exact h51 l0 l1 l2 l3 l4 l5 (l7 + Int32.ofInt 1) M hp hQ
      · rw [if_neg hc] at hQ
        replace hp := hp.2 hc
        refine wp_le [none, none, none, none, none, none, none, none, none] (zLe_of (by simp [zLeB])) ?_
        exact s170_114 n    M hp hQ
def b170_51 (n : Nat)  : Nat → Nat → Int32 → Int32 → Int32 → Int32 → Int32 → Int32 → zM → Int32 × zM
  | 0, _, _, _, _, _, _, _, M => (0, M)
  | k + 1, l0, l1, l2, l3, l4, l5, l7, M => c170_51 n  (b170_51 n  k) l0 l1 l2 l3 l4 l5 l7 M
def p170_51 (n : Nat)  : Nat → Nat → Int32 → Int32 → Int32 → Int32 → Int32 → Int32 → zM → Prop
  | 0, _, _, _, _, _, _, _, _ => False
  | k + 1, l0, l1, l2, l3, l4, l5, l7, M => d170_51 n  (p170_51 n  k) l0 l1 l2 l3 l4 l5 l7 M
theorem s170_51 (n : Nat)    : ∀ (k : Nat) (l0 : Nat) (l1 : Int32) (l2 : Int32) (l3 : Int32) (l4 : Int32) (l5 : Int32) (l7 : Int32) (M : zM), p170_51 n  k l0 l1 l2 l3 l4 l5 l7 M → ∀ {Q : Option Value → zM → Prop}, (∀ r M1, zRI (b170_51 n  k l0 l1 l2 l3 l4 l5 l7 M) r M1 → Q r M1) → zWP 170 51 [some (.ref l0), some (.int l1), some (.int l2), some (.int l3), some (.int l4), some (.int l5), none, some (.int l7), none] [] M Q
  | 0, _, _, _, _, _, _, _, _, h, _, _ => h.elim
  | k + 1, l0, l1, l2, l3, l4, l5, l7, M, h, _, hQ => t170_51 n  (b170_51 n  k)  (p170_51 n  k)  (s170_51 n    k) l0 l1 l2 l3 l4 l5 l7 M h hQ
def b170_30 (n : Nat)  (l0 : Nat) (l1 : Int32) (l2 : Int32) (l3 : Int32) (l4 : Int32) (l5 : Int32) (s0 : Int32) (M : zM) : Int32 × zM := (if l5 < (1 : Int32) then b170_45 n  M else (if l5 ≤ s0 then b170_51 n  n l0 l1 l2 l3 l4 l5 (0 : Int32) M else b170_45 n  M))
def p170_30 (n : Nat)  (l0 : Nat) (l1 : Int32) (l2 : Int32) (l3 : Int32) (l4 : Int32) (l5 : Int32) (s0 : Int32) (M : zM) : Prop := ((l5 < (1 : Int32) → p170_45 n  M) ∧ (¬ l5 < (1 : Int32) → ((l5 ≤ s0 → p170_51 n  n l0 l1 l2 l3 l4 l5 (0 : Int32) M) ∧ (¬ l5 ≤ s0 → p170_45 n  M))))
theorem s170_30 (n : Nat)    (l0 : Nat) (l1 : Int32) (l2 : Int32) (l3 : Int32) (l4 : Int32) (l5 : Int32) (s0 : Int32) (M : zM) (hp : p170_30 n  l0 l1 l2 l3 l4 l5 s0 M) {Q : Option Value → zM → Prop} (hQ : ∀ r M1, zRI (b170_30 n  l0 l1 l2 l3 l4 l5 s0 M) r M1 → Q r M1) : zWP 170 30 [some (.ref l0), some (.int l1), some (.int l2), some (.int l3), some (.int l4), some (.int l5), none, none, none] [.int s0] M Q := by
  unfold b170_30 at hQ
  unfold p170_30 at hp
  refine wp_go 3 (pc' := 35) (L' := [some (.ref l0), some (.int l1), some (.int l2), some (.int l3), some (.int l4), some (.int l5), some (.int s0), none, none]) (st' := [.int (1 : Int32), .int l5]) (M' := M) rfl ?_
  refine wp_ic_lt (t := 45) rfl rfl (fun hc => ?_) (fun hc => ?_)
  · rw [if_pos hc] at hQ
    replace hp := hp.1 hc
    refine wp_le [none, none, none, none, none, none, none, none, none] (zLe_of (by simp [zLeB])) ?_
    exact s170_45 n    M hp hQ
  · rw [if_neg hc] at hQ
    replace hp := hp.2 hc
    refine wp_go 2 (pc' := 42) (L' := [some (.ref l0), some (.int l1), some (.int l2), some (.int l3), some (.int l4), some (.int l5), some (.int s0), none, none]) (st' := [.int s0, .int l5]) (M' := M) rfl ?_
    refine wp_ic_le (t := 48) rfl rfl (fun hc => ?_) (fun hc => ?_)
    · rw [if_pos hc] at hQ
      replace hp := hp.1 hc
      refine wp_go 2 (pc' := 51) (L' := [some (.ref l0), some (.int l1), some (.int l2), some (.int l3), some (.int l4), some (.int l5), some (.int s0), some (.int (0 : Int32)), none]) (st' := []) (M' := M) rfl ?_
      refine wp_le [some (.ref l0), some (.int l1), some (.int l2), some (.int l3), some (.int l4), some (.int l5), none, some (.int (0 : Int32)), none] (zLe_of (by simp [zLeB])) ?_
      exact s170_51 n    n l0 l1 l2 l3 l4 l5 (0 : Int32) M hp hQ
    · rw [if_neg hc] at hQ
      replace hp := hp.2 hc
      refine wp_le [none, none, none, none, none, none, none, none, none] (zLe_of (by simp [zLeB])) ?_
      exact s170_45 n    M hp hQ
def b170_0 (n : Nat)  (l0 : Nat) (l1 : Int32) (l2 : Int32) (l3 : Int32) (l4 : Int32) (l5 : Int32) (M : zM) : Int32 × zM := (if (zI M (zQ M l0 2) l3.toNatClampNeg) ≤ (zI M (zQ M l0 2) l1.toNatClampNeg) then b170_30 n  l0 l1 l2 l3 l4 l5 (zI M (zQ M l0 2) l3.toNatClampNeg) M else b170_30 n  l0 l1 l2 l3 l4 l5 (zI M (zQ M l0 2) l1.toNatClampNeg) M)
def p170_0 (n : Nat)  (l0 : Nat) (l1 : Int32) (l2 : Int32) (l3 : Int32) (l4 : Int32) (l5 : Int32) (M : zM) : Prop := (zHasQ 10 13 l0 M 2) ∧ ((zOkI (zQ M l0 2) l1 M) ∧ ((zHasQ 10 13 l0 M 2) ∧ ((zOkI (zQ M l0 2) l3 M) ∧ ((((zI M (zQ M l0 2) l3.toNatClampNeg) ≤ (zI M (zQ M l0 2) l1.toNatClampNeg) → (zHasQ 10 13 l0 M 2) ∧ ((zOkI (zQ M l0 2) l3 M) ∧ (p170_30 n  l0 l1 l2 l3 l4 l5 (zI M (zQ M l0 2) l3.toNatClampNeg) M))) ∧ (¬ (zI M (zQ M l0 2) l3.toNatClampNeg) ≤ (zI M (zQ M l0 2) l1.toNatClampNeg) → (zHasQ 10 13 l0 M 2) ∧ ((zOkI (zQ M l0 2) l1 M) ∧ (p170_30 n  l0 l1 l2 l3 l4 l5 (zI M (zQ M l0 2) l1.toNatClampNeg) M))))))))
theorem s170_0 (n : Nat)    (l0 : Nat) (l1 : Int32) (l2 : Int32) (l3 : Int32) (l4 : Int32) (l5 : Int32) (M : zM) (hp : p170_0 n  l0 l1 l2 l3 l4 l5 M) {Q : Option Value → zM → Prop} (hQ : ∀ r M1, zRI (b170_0 n  l0 l1 l2 l3 l4 l5 M) r M1 → Q r M1) : zWP 170 0 [some (.ref l0), some (.int l1), some (.int l2), some (.int l3), some (.int l4), some (.int l5), none, none, none] [] M Q := by
  unfold b170_0 at hQ
  unfold p170_0 at hp
  refine wp_go 1 (pc' := 1) (L' := [some (.ref l0), some (.int l1), some (.int l2), some (.int l3), some (.int l4), some (.int l5), none, none, none]) (st' := [.ref l0]) (M' := M) rfl ?_
  obtain ⟨hc, hp⟩ := hp
  refine wq_getQ (j := 2) rfl hc ?_
  refine wp_go 1 (pc' := 5) (L' := [some (.ref l0), some (.int l1), some (.int l2), some (.int l3), some (.int l4), some (.int l5), none, none, none]) (st' := [.int l1, .ref (zQ M l0 2)]) (M' := M) rfl ?_
  obtain ⟨hc, hp⟩ := hp
  refine wq_iald rfl hc ?_
  refine wp_go 1 (pc' := 7) (L' := [some (.ref l0), some (.int l1), some (.int l2), some (.int l3), some (.int l4), some (.int l5), none, none, none]) (st' := [.ref l0, .int (zI M (zQ M l0 2) l1.toNatClampNeg)]) (M' := M) rfl ?_
  obtain ⟨hc, hp⟩ := hp
  refine wq_getQ (j := 2) rfl hc ?_
  refine wp_go 1 (pc' := 11) (L' := [some (.ref l0), some (.int l1), some (.int l2), some (.int l3), some (.int l4), some (.int l5), none, none, none]) (st' := [.int l3, .ref (zQ M l0 2), .int (zI M (zQ M l0 2) l1.toNatClampNeg)]) (M' := M) rfl ?_
  obtain ⟨hc, hp⟩ := hp
  refine wq_iald rfl hc ?_
  refine wp_ic_ge (t := 24) rfl rfl (fun hc => ?_) (fun hc => ?_)
  · rw [if_pos hc] at hQ
    replace hp := hp.1 hc
    refine wp_go 1 (pc' := 25) (L' := [some (.ref l0), some (.int l1), some (.int l2), some (.int l3), some (.int l4), some (.int l5), none, none, none]) (st' := [.ref l0]) (M' := M) rfl ?_
    obtain ⟨hc, hp⟩ := hp
    refine wq_getQ (j := 2) rfl hc ?_
    refine wp_go 1 (pc' := 29) (L' := [some (.ref l0), some (.int l1), some (.int l2), some (.int l3), some (.int l4), some (.int l5), none, none, none]) (st' := [.int l3, .ref (zQ M l0 2)]) (M' := M) rfl ?_
    obtain ⟨hc, hp⟩ := hp
    refine wq_iald rfl hc ?_
    exact s170_30 n    l0 l1 l2 l3 l4 l5 (zI M (zQ M l0 2) l3.toNatClampNeg) M hp hQ
  · rw [if_neg hc] at hQ
    replace hp := hp.2 hc
    refine wp_go 1 (pc' := 16) (L' := [some (.ref l0), some (.int l1), some (.int l2), some (.int l3), some (.int l4), some (.int l5), none, none, none]) (st' := [.ref l0]) (M' := M) rfl ?_
    obtain ⟨hc, hp⟩ := hp
    refine wq_getQ (j := 2) rfl hc ?_
    refine wp_go 1 (pc' := 20) (L' := [some (.ref l0), some (.int l1), some (.int l2), some (.int l3), some (.int l4), some (.int l5), none, none, none]) (st' := [.int l1, .ref (zQ M l0 2)]) (M' := M) rfl ?_
    obtain ⟨hc, hp⟩ := hp
    refine wq_iald rfl hc ?_
    refine wp_go 1 (pc' := 30) (L' := [some (.ref l0), some (.int l1), some (.int l2), some (.int l3), some (.int l4), some (.int l5), none, none, none]) (st' := [.int (zI M (zQ M l0 2) l1.toNatClampNeg)]) (M' := M) rfl ?_
    exact s170_30 n    l0 l1 l2 l3 l4 l5 (zI M (zQ M l0 2) l1.toNatClampNeg) M hp hQ
