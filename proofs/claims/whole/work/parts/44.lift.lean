/-! X8_copySpan -/
def b57_21 (n : Nat)   (M : zM) : zM := M
def p57_21 (n : Nat)   (M : zM) : Prop := True
theorem s57_21 (n : Nat)     (M : zM) (hp : p57_21 n   M) {Q : Option Value → zM → Prop} (hQ : ∀ r M1, zRV (b57_21 n   M) r M1 → Q r M1) : zWP 57 21 [none, none] [] M Q := by
  unfold b57_21 at hQ
  unfold p57_21 at hp
  exact wp_ret (r := none) rfl rfl (hQ _ _ ⟨rfl, rfl⟩)
def b57_13 (n : Nat)  (l0 : Nat) (l1 : Nat) (M : zM) : zM := b57_21 n  (zWI M l0 9 (zI M l1 9))
def p57_13 (n : Nat)  (l0 : Nat) (l1 : Nat) (M : zM) : Prop := (zHasI 7 15 l1 M 9) ∧ ((zPutI 57 15 l0 M 9 (zI M l1 9)) ∧ (p57_21 n  (zWI M l0 9 (zI M l1 9))))
theorem s57_13 (n : Nat)    (l0 : Nat) (l1 : Nat) (M : zM) (hp : p57_13 n  l0 l1 M) {Q : Option Value → zM → Prop} (hQ : ∀ r M1, zRV (b57_13 n  l0 l1 M) r M1 → Q r M1) : zWP 57 13 [some (.ref l0), some (.ref l1)] [] M Q := by
  unfold b57_13 at hQ
  unfold p57_13 at hp
  refine wp_go 2 (pc' := 15) (L' := [some (.ref l0), some (.ref l1)]) (st' := [.ref l1, .ref l0]) (M' := M) rfl ?_
  obtain ⟨hc, hp⟩ := hp
  refine wq_getI (j := 9) rfl hc ?_
  obtain ⟨hc, hp⟩ := hp
  refine wq_putI (j := 9) rfl hc ?_
  refine wp_le [none, none] (zLe_of (by simp [zLeB])) ?_
  exact s57_21 n    (zWI M l0 9 (zI M l1 9)) hp hQ
def b57_5 (n : Nat)  (l0 : Nat) (l1 : Nat) (M : zM) : zM := b57_13 n  l0 l1 (zWI M l0 8 (zI M l1 8))
def p57_5 (n : Nat)  (l0 : Nat) (l1 : Nat) (M : zM) : Prop := (zHasI 7 9 l1 M 8) ∧ ((zPutI 57 9 l0 M 8 (zI M l1 8)) ∧ (p57_13 n  l0 l1 (zWI M l0 8 (zI M l1 8))))
theorem s57_5 (n : Nat)    (l0 : Nat) (l1 : Nat) (M : zM) (hp : p57_5 n  l0 l1 M) {Q : Option Value → zM → Prop} (hQ : ∀ r M1, zRV (b57_5 n  l0 l1 M) r M1 → Q r M1) : zWP 57 5 [some (.ref l0), some (.ref l1)] [] M Q := by
  unfold b57_5 at hQ
  unfold p57_5 at hp
  refine wp_go 2 (pc' := 7) (L' := [some (.ref l0), some (.ref l1)]) (st' := [.ref l1, .ref l0]) (M' := M) rfl ?_
  obtain ⟨hc, hp⟩ := hp
  refine wq_getI (j := 8) rfl hc ?_
  obtain ⟨hc, hp⟩ := hp
  refine wq_putI (j := 8) rfl hc ?_
  exact s57_13 n    l0 l1 (zWI M l0 8 (zI M l1 8)) hp hQ
def b57_0 (n : Nat)  (l0 : Nat) (l1 : Nat) (M : zM) : zM := b57_5 n  l0 l1 (b38_0 n l0 l1 M)
def p57_0 (n : Nat)  (l0 : Nat) (l1 : Nat) (M : zM) : Prop := (zHasC 57 85 l0 M 38 1) ∧ ((p38_0 n l0 l1 M) ∧ (p57_5 n  l0 l1 (b38_0 n l0 l1 M)))
theorem s57_0 (n : Nat)    (l0 : Nat) (l1 : Nat) (M : zM) (hp : p57_0 n  l0 l1 M) {Q : Option Value → zM → Prop} (hQ : ∀ r M1, zRV (b57_0 n  l0 l1 M) r M1 → Q r M1) : zWP 57 0 [some (.ref l0), some (.ref l1)] [] M Q := by
  unfold b57_0 at hQ
  unfold p57_0 at hp
  refine wp_go 2 (pc' := 2) (L' := [some (.ref l0), some (.ref l1)]) (st' := [.ref l1, .ref l0]) (M' := M) rfl ?_
  obtain ⟨hv, hp⟩ := hp
  obtain ⟨hc, hp⟩ := hp
  refine wp_callv (M1 := (b38_0 n l0 l1 M)) rfl rfl rfl (zInv_v (np := 1) rfl rfl hv rfl) (s38_0 n l0 l1 M hc (fun r M1 h => h)) ?_
  exact s57_5 n    l0 l1 (b38_0 n l0 l1 M) hp hQ
/-! X9_clear -/
def b59_5 (n : Nat)   (M : zM) : zM := M
def p59_5 (n : Nat)   (M : zM) : Prop := True
theorem s59_5 (n : Nat)     (M : zM) (hp : p59_5 n   M) {Q : Option Value → zM → Prop} (hQ : ∀ r M1, zRV (b59_5 n   M) r M1 → Q r M1) : zWP 59 5 [none] [] M Q := by
  unfold b59_5 at hQ
  unfold p59_5 at hp
  exact wp_ret (r := none) rfl rfl (hQ _ _ ⟨rfl, rfl⟩)
def b59_0 (n : Nat)  (l0 : Nat) (M : zM) : zM := b59_5 n  (zWI M l0 1 (0 : Int32))
def p59_0 (n : Nat)  (l0 : Nat) (M : zM) : Prop := (zPutI 59 7 l0 M 1 (0 : Int32)) ∧ (p59_5 n  (zWI M l0 1 (0 : Int32)))
theorem s59_0 (n : Nat)    (l0 : Nat) (M : zM) (hp : p59_0 n  l0 M) {Q : Option Value → zM → Prop} (hQ : ∀ r M1, zRV (b59_0 n  l0 M) r M1 → Q r M1) : zWP 59 0 [some (.ref l0)] [] M Q := by
  unfold b59_0 at hQ
  unfold p59_0 at hp
  refine wp_go 2 (pc' := 2) (L' := [some (.ref l0)]) (st' := [.int (0 : Int32), .ref l0]) (M' := M) rfl ?_
  obtain ⟨hc, hp⟩ := hp
  refine wq_putI (j := 1) rfl hc ?_
  refine wp_le [none] (zLe_of (by simp [zLeB])) ?_
  exact s59_5 n    (zWI M l0 1 (0 : Int32)) hp hQ
/-! X9_take -/
def b60_115 (n : Nat)   (M : zM) : zM := M
def p60_115 (n : Nat)   (M : zM) : Prop := True
theorem s60_115 (n : Nat)     (M : zM) (hp : p60_115 n   M) {Q : Option Value → zM → Prop} (hQ : ∀ r M1, zRV (b60_115 n   M) r M1 → Q r M1) : zWP 60 115 [none, none, none, none, none, none] [] M Q := by
  unfold b60_115 at hQ
  unfold p60_115 at hp
  exact wp_ret (r := none) rfl rfl (hQ _ _ ⟨rfl, rfl⟩)
def b60_108 (n : Nat)  (l0 : Nat) (l3 : Int32) (M : zM) : zM := b60_115 n  (zWI M l0 1 (l3 + (1 : Int32)))
def p60_108 (n : Nat)  (l0 : Nat) (l3 : Int32) (M : zM) : Prop := (zPutI 60 7 l0 M 1 (l3 + (1 : Int32))) ∧ (p60_115 n  (zWI M l0 1 (l3 + (1 : Int32))))
theorem s60_108 (n : Nat)    (l0 : Nat) (l3 : Int32) (M : zM) (hp : p60_108 n  l0 l3 M) {Q : Option Value → zM → Prop} (hQ : ∀ r M1, zRV (b60_108 n  l0 l3 M) r M1 → Q r M1) : zWP 60 108 [some (.ref l0), none, none, some (.int l3), none, none] [] M Q := by
  unfold b60_108 at hQ
  unfold p60_108 at hp
  refine wp_go 4 (pc' := 112) (L' := [some (.ref l0), none, none, some (.int l3), none, none]) (st' := [.int (l3 + (1 : Int32)), .ref l0]) (M' := M) rfl ?_
  obtain ⟨hc, hp⟩ := hp
  refine wq_putI (j := 1) rfl hc ?_
  refine wp_le [none, none, none, none, none, none] (zLe_of (by simp [zLeB])) ?_
  exact s60_115 n    (zWI M l0 1 (l3 + (1 : Int32))) hp hQ
def b60_100 (n : Nat)  (l0 : Nat) (l2 : Int32) (l3 : Int32) (l4 : Nat) (M : zM) : zM := b60_108 n  l0 l3 (zWQ M (zQ M l0 0) l2.toNatClampNeg (some l4))
def p60_100 (n : Nat)  (l0 : Nat) (l2 : Int32) (l3 : Int32) (l4 : Nat) (M : zM) : Prop := (zHasQ 8 15 l0 M 0) ∧ ((zOkS (zQ M l0 0) l4 l2 M) ∧ (p60_108 n  l0 l3 (zWQ M (zQ M l0 0) l2.toNatClampNeg (some l4))))
theorem s60_100 (n : Nat)    (l0 : Nat) (l2 : Int32) (l3 : Int32) (l4 : Nat) (M : zM) (hp : p60_100 n  l0 l2 l3 l4 M) {Q : Option Value → zM → Prop} (hQ : ∀ r M1, zRV (b60_100 n  l0 l2 l3 l4 M) r M1 → Q r M1) : zWP 60 100 [some (.ref l0), none, some (.int l2), some (.int l3), some (.ref l4), none] [] M Q := by
  unfold b60_100 at hQ
  unfold p60_100 at hp
  refine wp_go 1 (pc' := 101) (L' := [some (.ref l0), none, some (.int l2), some (.int l3), some (.ref l4), none]) (st' := [.ref l0]) (M' := M) rfl ?_
  obtain ⟨hc, hp⟩ := hp
  refine wq_getQ (j := 0) rfl hc ?_
  refine wp_go 2 (pc' := 107) (L' := [some (.ref l0), none, some (.int l2), some (.int l3), some (.ref l4), none]) (st' := [.ref l4, .int l2, .ref (zQ M l0 0)]) (M' := M) rfl ?_
  obtain ⟨hc, hp⟩ := hp
  refine wq_aast rfl hc ?_
  refine wp_le [some (.ref l0), none, none, some (.int l3), none, none] (zLe_of (by simp [zLeB])) ?_
  exact s60_108 n    l0 l3 (zWQ M (zQ M l0 0) l2.toNatClampNeg (some l4)) hp hQ
def b60_88 (n : Nat) (k66 : Nat → Nat → Int32 → Int32 → Nat → Int32 → zM → zM) (l0 : Nat) (l1 : Nat) (l2 : Int32) (l3 : Int32) (l4 : Nat) (l5 : Int32) (M : zM) : zM := k66 l0 l1 l2 l3 l4 (l5 + Int32.ofInt (-1)) M
def p60_88 (n : Nat) (q66 : Nat → Nat → Int32 → Int32 → Nat → Int32 → zM → Prop) (l0 : Nat) (l1 : Nat) (l2 : Int32) (l3 : Int32) (l4 : Nat) (l5 : Int32) (M : zM) : Prop := q66 l0 l1 l2 l3 l4 (l5 + Int32.ofInt (-1)) M
theorem s60_88 (n : Nat) (k66 : Nat → Nat → Int32 → Int32 → Nat → Int32 → zM → zM) (q66 : Nat → Nat → Int32 → Int32 → Nat → Int32 → zM → Prop) (h66 : ∀ (l0 : Nat) (l1 : Nat) (l2 : Int32) (l3 : Int32) (l4 : Nat) (l5 : Int32) (M : zM), q66 l0 l1 l2 l3 l4 l5 M → ∀ {Q : Option Value → zM → Prop}, (∀ r M1, zRV (k66 l0 l1 l2 l3 l4 l5 M) r M1 → Q r M1) → zWP 60 66 [some (.ref l0), some (.ref l1), some (.int l2), some (.int l3), some (.ref l4), some (.int l5)] [] M Q) (l0 : Nat) (l1 : Nat) (l2 : Int32) (l3 : Int32) (l4 : Nat) (l5 : Int32) (M : zM) (hp : p60_88 n q66 l0 l1 l2 l3 l4 l5 M) {Q : Option Value → zM → Prop} (hQ : ∀ r M1, zRV (b60_88 n k66 l0 l1 l2 l3 l4 l5 M) r M1 → Q r M1) : zWP 60 88 [some (.ref l0), some (.ref l1), some (.int l2), some (.int l3), some (.ref l4), some (.int l5)] [] M Q := by
  unfold b60_88 at hQ
  unfold p60_88 at hp
  refine wp_go 2 (pc' := 66) (L' := [some (.ref l0), some (.ref l1), some (.int l2), some (.int l3), some (.ref l4), some (.int (l5 + Int32.ofInt (-1)))]) (st' := []) (M' := M) rfl ?_
  exact h66 l0 l1 l2 l3 l4 (l5 + Int32.ofInt (-1)) M hp hQ
def c60_66 (n : Nat) (k66 : Nat → Nat → Int32 → Int32 → Nat → Int32 → zM → zM) (l0 : Nat) (l1 : Nat) (l2 : Int32) (l3 : Int32) (l4 : Nat) (l5 : Int32) (M : zM) : zM := (if l5 ≤ l2 then b60_100 n  l0 l2 l3 l4 (b57_0 n l4 l1 M) else b60_88 n k66 l0 l1 l2 l3 l4 l5 (zWQ M (zQ M l0 0) l5.toNatClampNeg (some (zQ M (zQ M l0 0) (l5 - (1 : Int32)).toNatClampNeg))))
def d60_66 (n : Nat) (q66 : Nat → Nat → Int32 → Int32 → Nat → Int32 → zM → Prop) (l0 : Nat) (l1 : Nat) (l2 : Int32) (l3 : Int32) (l4 : Nat) (l5 : Int32) (M : zM) : Prop := ((l5 ≤ l2 → (zHasC 60 30 l4 M 57 1) ∧ ((p57_0 n l4 l1 M) ∧ (p60_100 n  l0 l2 l3 l4 (b57_0 n l4 l1 M)))) ∧ (¬ l5 ≤ l2 → (zHasQ 8 15 l0 M 0) ∧ ((zHasQ 8 15 l0 M 0) ∧ ((zOkR (zQ M l0 0) (l5 - (1 : Int32)) M) ∧ ((zOkS (zQ M l0 0) (zQ M (zQ M l0 0) (l5 - (1 : Int32)).toNatClampNeg) l5 M) ∧ (p60_88 n q66 l0 l1 l2 l3 l4 l5 (zWQ M (zQ M l0 0) l5.toNatClampNeg (some (zQ M (zQ M l0 0) (l5 - (1 : Int32)).toNatClampNeg)))))))))
theorem t60_66 (n : Nat) (k66 : Nat → Nat → Int32 → Int32 → Nat → Int32 → zM → zM) (q66 : Nat → Nat → Int32 → Int32 → Nat → Int32 → zM → Prop) (h66 : ∀ (l0 : Nat) (l1 : Nat) (l2 : Int32) (l3 : Int32) (l4 : Nat) (l5 : Int32) (M : zM), q66 l0 l1 l2 l3 l4 l5 M → ∀ {Q : Option Value → zM → Prop}, (∀ r M1, zRV (k66 l0 l1 l2 l3 l4 l5 M) r M1 → Q r M1) → zWP 60 66 [some (.ref l0), some (.ref l1), some (.int l2), some (.int l3), some (.ref l4), some (.int l5)] [] M Q) (l0 : Nat) (l1 : Nat) (l2 : Int32) (l3 : Int32) (l4 : Nat) (l5 : Int32) (M : zM) (hp : d60_66 n q66 l0 l1 l2 l3 l4 l5 M) {Q : Option Value → zM → Prop} (hQ : ∀ r M1, zRV (c60_66 n k66 l0 l1 l2 l3 l4 l5 M) r M1 → Q r M1) : zWP 60 66 [some (.ref l0), some (.ref l1), some (.int l2), some (.int l3), some (.ref l4), some (.int l5)] [] M Q := by
  unfold c60_66 at hQ
  unfold d60_66 at hp
  refine wp_go 2 (pc' := 69) (L' := [some (.ref l0), some (.ref l1), some (.int l2), some (.int l3), some (.ref l4), some (.int l5)]) (st' := [.int l2, .int l5]) (M' := M) rfl ?_
  refine wp_ic_le (t := 94) rfl rfl (fun hc => ?_) (fun hc => ?_)
  · rw [if_pos hc] at hQ
    replace hp := hp.1 hc
    refine wp_go 2 (pc' := 97) (L' := [some (.ref l0), some (.ref l1), some (.int l2), some (.int l3), some (.ref l4), some (.int l5)]) (st' := [.ref l1, .ref l4]) (M' := M) rfl ?_
    obtain ⟨hv, hp⟩ := hp
    obtain ⟨hc, hp⟩ := hp
    refine wp_callv (M1 := (b57_0 n l4 l1 M)) rfl rfl rfl (zInv_v (np := 1) rfl rfl hv rfl) (s57_0 n l4 l1 M hc (fun r M1 h => h)) ?_
    refine wp_le [some (.ref l0), none, some (.int l2), some (.int l3), some (.ref l4), none] (zLe_of (by simp [zLeB])) ?_
    exact s60_100 n    l0 l2 l3 l4 (b57_0 n l4 l1 M) hp hQ
  · rw [if_neg hc] at hQ
    replace hp := hp.2 hc
    refine wp_go 1 (pc' := 73) (L' := [some (.ref l0), some (.ref l1), some (.int l2), some (.int l3), some (.ref l4), some (.int l5)]) (st' := [.ref l0]) (M' := M) rfl ?_
    obtain ⟨hc, hp⟩ := hp
    refine wq_getQ (j := 0) rfl hc ?_
    refine wp_go 2 (pc' := 79) (L' := [some (.ref l0), some (.ref l1), some (.int l2), some (.int l3), some (.ref l4), some (.int l5)]) (st' := [.ref l0, .int l5, .ref (zQ M l0 0)]) (M' := M) rfl ?_
    obtain ⟨hc, hp⟩ := hp
    refine wq_getQ (j := 0) rfl hc ?_
    refine wp_go 3 (pc' := 86) (L' := [some (.ref l0), some (.ref l1), some (.int l2), some (.int l3), some (.ref l4), some (.int l5)]) (st' := [.int (l5 - (1 : Int32)), .ref (zQ M l0 0), .int l5, .ref (zQ M l0 0)]) (M' := M) rfl ?_
    obtain ⟨hc, hp⟩ := hp
    refine wq_aald rfl hc ?_
    obtain ⟨hc, hp⟩ := hp
    refine wq_aast rfl hc ?_
    exact s60_88 n k66 q66 h66 l0 l1 l2 l3 l4 l5 (zWQ M (zQ M l0 0) l5.toNatClampNeg (some (zQ M (zQ M l0 0) (l5 - (1 : Int32)).toNatClampNeg))) hp hQ
def b60_66 (n : Nat)  : Nat → Nat → Nat → Int32 → Int32 → Nat → Int32 → zM → zM
  | 0, _, _, _, _, _, _, M => M
  | k + 1, l0, l1, l2, l3, l4, l5, M => c60_66 n  (b60_66 n  k) l0 l1 l2 l3 l4 l5 M
def p60_66 (n : Nat)  : Nat → Nat → Nat → Int32 → Int32 → Nat → Int32 → zM → Prop
  | 0, _, _, _, _, _, _, _ => False
  | k + 1, l0, l1, l2, l3, l4, l5, M => d60_66 n  (p60_66 n  k) l0 l1 l2 l3 l4 l5 M
theorem s60_66 (n : Nat)    : ∀ (k : Nat) (l0 : Nat) (l1 : Nat) (l2 : Int32) (l3 : Int32) (l4 : Nat) (l5 : Int32) (M : zM), p60_66 n  k l0 l1 l2 l3 l4 l5 M → ∀ {Q : Option Value → zM → Prop}, (∀ r M1, zRV (b60_66 n  k l0 l1 l2 l3 l4 l5 M) r M1 → Q r M1) → zWP 60 66 [some (.ref l0), some (.ref l1), some (.int l2), some (.int l3), some (.ref l4), some (.int l5)] [] M Q
  | 0, _, _, _, _, _, _, _, h, _, _ => h.elim
  | k + 1, l0, l1, l2, l3, l4, l5, M, h, _, hQ => t60_66 n  (b60_66 n  k)  (p60_66 n  k)  (s60_66 n    k) l0 l1 l2 l3 l4 l5 M h hQ
def b60_54 (n : Nat)  (l0 : Nat) (l1 : Nat) (l2 : Int32) (s0 : Int32) (M : zM) : zM := b60_66 n  n l0 l1 l2 s0 (zQ M (zQ M l0 0) s0.toNatClampNeg) s0 M
def p60_54 (n : Nat)  (l0 : Nat) (l1 : Nat) (l2 : Int32) (s0 : Int32) (M : zM) : Prop := (zHasQ 8 15 l0 M 0) ∧ ((zOkR (zQ M l0 0) s0 M) ∧ (p60_66 n  n l0 l1 l2 s0 (zQ M (zQ M l0 0) s0.toNatClampNeg) s0 M))
theorem s60_54 (n : Nat)    (l0 : Nat) (l1 : Nat) (l2 : Int32) (s0 : Int32) (M : zM) (hp : p60_54 n  l0 l1 l2 s0 M) {Q : Option Value → zM → Prop} (hQ : ∀ r M1, zRV (b60_54 n  l0 l1 l2 s0 M) r M1 → Q r M1) : zWP 60 54 [some (.ref l0), some (.ref l1), some (.int l2), none, none, none] [.int s0] M Q := by
  unfold b60_54 at hQ
  unfold p60_54 at hp
  refine wp_go 2 (pc' := 56) (L' := [some (.ref l0), some (.ref l1), some (.int l2), some (.int s0), none, none]) (st' := [.ref l0]) (M' := M) rfl ?_
  obtain ⟨hc, hp⟩ := hp
  refine wq_getQ (j := 0) rfl hc ?_
  refine wp_go 1 (pc' := 60) (L' := [some (.ref l0), some (.ref l1), some (.int l2), some (.int s0), none, none]) (st' := [.int s0, .ref (zQ M l0 0)]) (M' := M) rfl ?_
  obtain ⟨hc, hp⟩ := hp
  refine wq_aald rfl hc ?_
  refine wp_go 3 (pc' := 66) (L' := [some (.ref l0), some (.ref l1), some (.int l2), some (.int s0), some (.ref (zQ M (zQ M l0 0) s0.toNatClampNeg)), some (.int s0)]) (st' := []) (M' := M) rfl ?_
  exact s60_66 n    n l0 l1 l2 s0 (zQ M (zQ M l0 0) s0.toNatClampNeg) s0 M hp hQ
def b60_30 (n : Nat)  (l0 : Nat) (l1 : Nat) (l2 : Int32) (M : zM) : zM := (if l2 < (Int32.ofNat (zS M (zQ M l0 0)).2) then b60_54 n  l0 l1 l2 (b194_0 n (zI M l0 1) ((Int32.ofNat (zS M (zQ M l0 0)).2) - (1 : Int32)) M).1 (b194_0 n (zI M l0 1) ((Int32.ofNat (zS M (zQ M l0 0)).2) - (1 : Int32)) M).2 else M)
def p60_30 (n : Nat)  (l0 : Nat) (l1 : Nat) (l2 : Int32) (M : zM) : Prop := (zHasQ 8 15 l0 M 0) ∧ ((zOkN (zQ M l0 0) M) ∧ (((l2 < (Int32.ofNat (zS M (zQ M l0 0)).2) → (zHasI 8 7 l0 M 1) ∧ ((zHasQ 8 15 l0 M 0) ∧ ((zOkN (zQ M l0 0) M) ∧ ((p194_0 n (zI M l0 1) ((Int32.ofNat (zS M (zQ M l0 0)).2) - (1 : Int32)) M) ∧ (p60_54 n  l0 l1 l2 (b194_0 n (zI M l0 1) ((Int32.ofNat (zS M (zQ M l0 0)).2) - (1 : Int32)) M).1 (b194_0 n (zI M l0 1) ((Int32.ofNat (zS M (zQ M l0 0)).2) - (1 : Int32)) M).2))))) ∧ (¬ l2 < (Int32.ofNat (zS M (zQ M l0 0)).2) → True))))
theorem s60_30 (n : Nat)    (l0 : Nat) (l1 : Nat) (l2 : Int32) (M : zM) (hp : p60_30 n  l0 l1 l2 M) {Q : Option Value → zM → Prop} (hQ : ∀ r M1, zRV (b60_30 n  l0 l1 l2 M) r M1 → Q r M1) : zWP 60 30 [some (.ref l0), some (.ref l1), some (.int l2), none, none, none] [] M Q := by
  unfold b60_30 at hQ
  unfold p60_30 at hp
  refine wp_go 2 (pc' := 32) (L' := [some (.ref l0), some (.ref l1), some (.int l2), none, none, none]) (st' := [.ref l0, .int l2]) (M' := M) rfl ?_
  obtain ⟨hc, hp⟩ := hp
  refine wq_getQ (j := 0) rfl hc ?_
  obtain ⟨hc, hp⟩ := hp
  refine wq_alen rfl hc ?_
  refine wp_ic_lt (t := 40) rfl rfl (fun hc => ?_) (fun hc => ?_)
  · rw [if_pos hc] at hQ
    replace hp := hp.1 hc
    refine wp_go 1 (pc' := 41) (L' := [some (.ref l0), some (.ref l1), some (.int l2), none, none, none]) (st' := [.ref l0]) (M' := M) rfl ?_
    obtain ⟨hc, hp⟩ := hp
    refine wq_getI (j := 1) rfl hc ?_
    refine wp_go 1 (pc' := 45) (L' := [some (.ref l0), some (.ref l1), some (.int l2), none, none, none]) (st' := [.ref l0, .int (zI M l0 1)]) (M' := M) rfl ?_
    obtain ⟨hc, hp⟩ := hp
    refine wq_getQ (j := 0) rfl hc ?_
    obtain ⟨hc, hp⟩ := hp
    refine wq_alen rfl hc ?_
    refine wp_go 2 (pc' := 51) (L' := [some (.ref l0), some (.ref l1), some (.int l2), none, none, none]) (st' := [.int ((Int32.ofNat (zS M (zQ M l0 0)).2) - (1 : Int32)), .int (zI M l0 1)]) (M' := M) rfl ?_
    obtain ⟨hc, hp⟩ := hp
    refine wp_calli (v := (b194_0 n (zI M l0 1) ((Int32.ofNat (zS M (zQ M l0 0)).2) - (1 : Int32)) M).1) (M1 := (b194_0 n (zI M l0 1) ((Int32.ofNat (zS M (zQ M l0 0)).2) - (1 : Int32)) M).2) rfl rfl rfl rfl (s194_0 n (zI M l0 1) ((Int32.ofNat (zS M (zQ M l0 0)).2) - (1 : Int32)) M hc (fun r M1 h => h)) ?_
    exact s60_54 n    l0 l1 l2 (b194_0 n (zI M l0 1) ((Int32.ofNat (zS M (zQ M l0 0)).2) - (1 : Int32)) M).1 (b194_0 n (zI M l0 1) ((Int32.ofNat (zS M (zQ M l0 0)).2) - (1 : Int32)) M).2 hp hQ
  · rw [if_neg hc] at hQ
    replace hp := hp.2 hc
    exact wp_ret (r := none) rfl rfl (hQ _ _ ⟨rfl, rfl⟩)
def b60_21 (n : Nat) (k5 : Nat → Nat → Int32 → zM → zM) (l0 : Nat) (l1 : Nat) (l2 : Int32) (s0 : Int32) (M : zM) : zM := (if s0 = 0 then b60_30 n  l0 l1 l2 M else k5 l0 l1 (l2 + Int32.ofInt (-1)) M)
def p60_21 (n : Nat) (q5 : Nat → Nat → Int32 → zM → Prop) (l0 : Nat) (l1 : Nat) (l2 : Int32) (s0 : Int32) (M : zM) : Prop := ((s0 = 0 → p60_30 n  l0 l1 l2 M) ∧ (¬ s0 = 0 → q5 l0 l1 (l2 + Int32.ofInt (-1)) M))
theorem s60_21 (n : Nat) (k5 : Nat → Nat → Int32 → zM → zM) (q5 : Nat → Nat → Int32 → zM → Prop) (h5 : ∀ (l0 : Nat) (l1 : Nat) (l2 : Int32) (M : zM), q5 l0 l1 l2 M → ∀ {Q : Option Value → zM → Prop}, (∀ r M1, zRV (k5 l0 l1 l2 M) r M1 → Q r M1) → zWP 60 5 [some (.ref l0), some (.ref l1), some (.int l2), none, none, none] [] M Q) (l0 : Nat) (l1 : Nat) (l2 : Int32) (s0 : Int32) (M : zM) (hp : p60_21 n q5 l0 l1 l2 s0 M) {Q : Option Value → zM → Prop} (hQ : ∀ r M1, zRV (b60_21 n k5 l0 l1 l2 s0 M) r M1 → Q r M1) : zWP 60 21 [some (.ref l0), some (.ref l1), some (.int l2), none, none, none] [.int s0] M Q := by
  unfold b60_21 at hQ
  unfold p60_21 at hp
  refine wp_if_eq (t := 30) rfl rfl (fun hc => ?_) (fun hc => ?_)
  · rw [if_pos hc] at hQ
    replace hp := hp.1 hc
    exact s60_30 n    l0 l1 l2 M hp hQ
  · rw [if_neg hc] at hQ
    replace hp := hp.2 hc
    refine wp_go 2 (pc' := 5) (L' := [some (.ref l0), some (.ref l1), some (.int (l2 + Int32.ofInt (-1))), none, none, none]) (st' := []) (M' := M) rfl ?_
    exact h5 l0 l1 (l2 + Int32.ofInt (-1)) M hp hQ
def c60_5 (n : Nat) (k5 : Nat → Nat → Int32 → zM → zM) (l0 : Nat) (l1 : Nat) (l2 : Int32) (M : zM) : zM := (if l2 ≤ 0 then b60_30 n  l0 l1 l2 M else b60_21 n k5 l0 l1 l2 (b56_0 n l1 (zQ M (zQ M l0 0) (l2 - (1 : Int32)).toNatClampNeg) M).1 (b56_0 n l1 (zQ M (zQ M l0 0) (l2 - (1 : Int32)).toNatClampNeg) M).2)
def d60_5 (n : Nat) (q5 : Nat → Nat → Int32 → zM → Prop) (l0 : Nat) (l1 : Nat) (l2 : Int32) (M : zM) : Prop := ((l2 ≤ 0 → p60_30 n  l0 l1 l2 M) ∧ (¬ l2 ≤ 0 → (zHasQ 8 15 l0 M 0) ∧ ((zOkR (zQ M l0 0) (l2 - (1 : Int32)) M) ∧ ((zHasC 60 20 l1 M 56 1) ∧ ((p56_0 n l1 (zQ M (zQ M l0 0) (l2 - (1 : Int32)).toNatClampNeg) M) ∧ (p60_21 n q5 l0 l1 l2 (b56_0 n l1 (zQ M (zQ M l0 0) (l2 - (1 : Int32)).toNatClampNeg) M).1 (b56_0 n l1 (zQ M (zQ M l0 0) (l2 - (1 : Int32)).toNatClampNeg) M).2))))))
theorem t60_5 (n : Nat) (k5 : Nat → Nat → Int32 → zM → zM) (q5 : Nat → Nat → Int32 → zM → Prop) (h5 : ∀ (l0 : Nat) (l1 : Nat) (l2 : Int32) (M : zM), q5 l0 l1 l2 M → ∀ {Q : Option Value → zM → Prop}, (∀ r M1, zRV (k5 l0 l1 l2 M) r M1 → Q r M1) → zWP 60 5 [some (.ref l0), some (.ref l1), some (.int l2), none, none, none] [] M Q) (l0 : Nat) (l1 : Nat) (l2 : Int32) (M : zM) (hp : d60_5 n q5 l0 l1 l2 M) {Q : Option Value → zM → Prop} (hQ : ∀ r M1, zRV (c60_5 n k5 l0 l1 l2 M) r M1 → Q r M1) : zWP 60 5 [some (.ref l0), some (.ref l1), some (.int l2), none, none, none] [] M Q := by
  unfold c60_5 at hQ
  unfold d60_5 at hp
  refine wp_go 1 (pc' := 6) (L' := [some (.ref l0), some (.ref l1), some (.int l2), none, none, none]) (st' := [.int l2]) (M' := M) rfl ?_
  refine wp_if_le (t := 30) rfl rfl (fun hc => ?_) (fun hc => ?_)
  · rw [if_pos hc] at hQ
    replace hp := hp.1 hc
    exact s60_30 n    l0 l1 l2 M hp hQ
  · rw [if_neg hc] at hQ
    replace hp := hp.2 hc
    refine wp_go 2 (pc' := 11) (L' := [some (.ref l0), some (.ref l1), some (.int l2), none, none, none]) (st' := [.ref l0, .ref l1]) (M' := M) rfl ?_
    obtain ⟨hc, hp⟩ := hp
    refine wq_getQ (j := 0) rfl hc ?_
    refine wp_go 3 (pc' := 17) (L' := [some (.ref l0), some (.ref l1), some (.int l2), none, none, none]) (st' := [.int (l2 - (1 : Int32)), .ref (zQ M l0 0), .ref l1]) (M' := M) rfl ?_
    obtain ⟨hc, hp⟩ := hp
    refine wq_aald rfl hc ?_
    obtain ⟨hv, hp⟩ := hp
    obtain ⟨hc, hp⟩ := hp
    refine wp_calli (v := (b56_0 n l1 (zQ M (zQ M l0 0) (l2 - (1 : Int32)).toNatClampNeg) M).1) (M1 := (b56_0 n l1 (zQ M (zQ M l0 0) (l2 - (1 : Int32)).toNatClampNeg) M).2) rfl rfl rfl (zInv_v (np := 1) rfl rfl hv rfl) (s56_0 n l1 (zQ M (zQ M l0 0) (l2 - (1 : Int32)).toNatClampNeg) M hc (fun r M1 h => h)) ?_
    exact s60_21 n k5 q5 h5 l0 l1 l2 (b56_0 n l1 (zQ M (zQ M l0 0) (l2 - (1 : Int32)).toNatClampNeg) M).1 (b56_0 n l1 (zQ M (zQ M l0 0) (l2 - (1 : Int32)).toNatClampNeg) M).2 hp hQ
def b60_5 (n : Nat)  : Nat → Nat → Nat → Int32 → zM → zM
  | 0, _, _, _, M => M
  | k + 1, l0, l1, l2, M => c60_5 n  (b60_5 n  k) l0 l1 l2 M
def p60_5 (n : Nat)  : Nat → Nat → Nat → Int32 → zM → Prop
  | 0, _, _, _, _ => False
  | k + 1, l0, l1, l2, M => d60_5 n  (p60_5 n  k) l0 l1 l2 M
theorem s60_5 (n : Nat)    : ∀ (k : Nat) (l0 : Nat) (l1 : Nat) (l2 : Int32) (M : zM), p60_5 n  k l0 l1 l2 M → ∀ {Q : Option Value → zM → Prop}, (∀ r M1, zRV (b60_5 n  k l0 l1 l2 M) r M1 → Q r M1) → zWP 60 5 [some (.ref l0), some (.ref l1), some (.int l2), none, none, none] [] M Q
  | 0, _, _, _, _, h, _, _ => h.elim
  | k + 1, l0, l1, l2, M, h, _, hQ => t60_5 n  (b60_5 n  k)  (p60_5 n  k)  (s60_5 n    k) l0 l1 l2 M h hQ
def b60_0 (n : Nat)  (l0 : Nat) (l1 : Nat) (M : zM) : zM := b60_5 n  n l0 l1 (zI M l0 1) M
def p60_0 (n : Nat)  (l0 : Nat) (l1 : Nat) (M : zM) : Prop := (zHasI 8 7 l0 M 1) ∧ (p60_5 n  n l0 l1 (zI M l0 1) M)
theorem s60_0 (n : Nat)    (l0 : Nat) (l1 : Nat) (M : zM) (hp : p60_0 n  l0 l1 M) {Q : Option Value → zM → Prop} (hQ : ∀ r M1, zRV (b60_0 n  l0 l1 M) r M1 → Q r M1) : zWP 60 0 [some (.ref l0), some (.ref l1), none, none, none, none] [] M Q := by
  unfold b60_0 at hQ
  unfold p60_0 at hp
  refine wp_go 1 (pc' := 1) (L' := [some (.ref l0), some (.ref l1), none, none, none, none]) (st' := [.ref l0]) (M' := M) rfl ?_
  obtain ⟨hc, hp⟩ := hp
  refine wq_getI (j := 1) rfl hc ?_
  refine wp_go 1 (pc' := 5) (L' := [some (.ref l0), some (.ref l1), some (.int (zI M l0 1)), none, none, none]) (st' := []) (M' := M) rfl ?_
  exact s60_5 n    n l0 l1 (zI M l0 1) M hp hQ
/-! X11_sherd -/
def b62_21 (n : Nat)   (M : zM) : Int32 × zM := (((-1) : Int32), M)
def p62_21 (n : Nat)   (M : zM) : Prop := True
theorem s62_21 (n : Nat)     (M : zM) (hp : p62_21 n   M) {Q : Option Value → zM → Prop} (hQ : ∀ r M1, zRI (b62_21 n   M) r M1 → Q r M1) : zWP 62 21 [none, none, none] [] M Q := by
  unfold b62_21 at hQ
  unfold p62_21 at hp
  refine wp_go 1 (pc' := 22) (L' := [none, none, none]) (st' := [.int ((-1) : Int32)]) (M' := M) rfl ?_
  exact wp_ret (r := some (.int ((-1) : Int32))) rfl rfl (hQ _ _ ⟨rfl, rfl⟩)
def b62_68 (n : Nat)  (l2 : Int32) (M : zM) : Int32 × zM := (l2, M)
def p62_68 (n : Nat)  (l2 : Int32) (M : zM) : Prop := True
theorem s62_68 (n : Nat)    (l2 : Int32) (M : zM) (hp : p62_68 n  l2 M) {Q : Option Value → zM → Prop} (hQ : ∀ r M1, zRI (b62_68 n  l2 M) r M1 → Q r M1) : zWP 62 68 [none, none, some (.int l2)] [] M Q := by
  unfold b62_68 at hQ
  unfold p62_68 at hp
  refine wp_go 1 (pc' := 69) (L' := [none, none, some (.int l2)]) (st' := [.int l2]) (M' := M) rfl ?_
  exact wp_ret (r := some (.int l2)) rfl rfl (hQ _ _ ⟨rfl, rfl⟩)
def b62_49 (n : Nat)  (l0 : Nat) (l2 : Int32) (M : zM) : Int32 × zM := b62_68 n  l2 (b22_0 n (zQ M l0 4) (zQ M l0 0) (zI M l0 12) (zQ M l0 3) M)
def p62_49 (n : Nat)  (l0 : Nat) (l2 : Int32) (M : zM) : Prop := (zHasQ 9 35 l0 M 4) ∧ ((zHasQ 9 11 l0 M 0) ∧ ((zHasI 9 78 l0 M 12) ∧ ((zHasQ 9 28 l0 M 3) ∧ ((zHasC 62 113 (zQ M l0 4) M 22 3) ∧ ((p22_0 n (zQ M l0 4) (zQ M l0 0) (zI M l0 12) (zQ M l0 3) M) ∧ (p62_68 n  l2 (b22_0 n (zQ M l0 4) (zQ M l0 0) (zI M l0 12) (zQ M l0 3) M)))))))
theorem s62_49 (n : Nat)    (l0 : Nat) (l2 : Int32) (M : zM) (hp : p62_49 n  l0 l2 M) {Q : Option Value → zM → Prop} (hQ : ∀ r M1, zRI (b62_49 n  l0 l2 M) r M1 → Q r M1) : zWP 62 49 [some (.ref l0), none, some (.int l2)] [] M Q := by
  unfold b62_49 at hQ
  unfold p62_49 at hp
  refine wp_go 1 (pc' := 50) (L' := [some (.ref l0), none, some (.int l2)]) (st' := [.ref l0]) (M' := M) rfl ?_
  obtain ⟨hc, hp⟩ := hp
  refine wq_getQ (j := 4) rfl hc ?_
  refine wp_go 1 (pc' := 54) (L' := [some (.ref l0), none, some (.int l2)]) (st' := [.ref l0, .ref (zQ M l0 4)]) (M' := M) rfl ?_
  obtain ⟨hc, hp⟩ := hp
  refine wq_getQ (j := 0) rfl hc ?_
  refine wp_go 1 (pc' := 58) (L' := [some (.ref l0), none, some (.int l2)]) (st' := [.ref l0, .ref (zQ M l0 0), .ref (zQ M l0 4)]) (M' := M) rfl ?_
  obtain ⟨hc, hp⟩ := hp
  refine wq_getI (j := 12) rfl hc ?_
  refine wp_go 1 (pc' := 62) (L' := [some (.ref l0), none, some (.int l2)]) (st' := [.ref l0, .int (zI M l0 12), .ref (zQ M l0 0), .ref (zQ M l0 4)]) (M' := M) rfl ?_
  obtain ⟨hc, hp⟩ := hp
  refine wq_getQ (j := 3) rfl hc ?_
  obtain ⟨hv, hp⟩ := hp
  obtain ⟨hc, hp⟩ := hp
  refine wp_callv (M1 := (b22_0 n (zQ M l0 4) (zQ M l0 0) (zI M l0 12) (zQ M l0 3) M)) rfl rfl rfl (zInv_v (np := 3) rfl rfl hv rfl) (s22_0 n (zQ M l0 4) (zQ M l0 0) (zI M l0 12) (zQ M l0 3) M hc (fun r M1 h => h)) ?_
  refine wp_le [none, none, some (.int l2)] (zLe_of (by simp [zLeB])) ?_
  exact s62_68 n    l2 (b22_0 n (zQ M l0 4) (zQ M l0 0) (zI M l0 12) (zQ M l0 3) M) hp hQ
def b62_42 (n : Nat)  (l0 : Nat) (l2 : Int32) (M : zM) : Int32 × zM := b62_49 n  l0 l2 (zWI M l0 12 (l2 + (1 : Int32)))
def p62_42 (n : Nat)  (l0 : Nat) (l2 : Int32) (M : zM) : Prop := (zPutI 62 78 l0 M 12 (l2 + (1 : Int32))) ∧ (p62_49 n  l0 l2 (zWI M l0 12 (l2 + (1 : Int32))))
theorem s62_42 (n : Nat)    (l0 : Nat) (l2 : Int32) (M : zM) (hp : p62_42 n  l0 l2 M) {Q : Option Value → zM → Prop} (hQ : ∀ r M1, zRI (b62_42 n  l0 l2 M) r M1 → Q r M1) : zWP 62 42 [some (.ref l0), none, some (.int l2)] [] M Q := by
  unfold b62_42 at hQ
  unfold p62_42 at hp
  refine wp_go 4 (pc' := 46) (L' := [some (.ref l0), none, some (.int l2)]) (st' := [.int (l2 + (1 : Int32)), .ref l0]) (M' := M) rfl ?_
  obtain ⟨hc, hp⟩ := hp
  refine wq_putI (j := 12) rfl hc ?_
  exact s62_49 n    l0 l2 (zWI M l0 12 (l2 + (1 : Int32))) hp hQ
def b62_0 (n : Nat)  (l0 : Nat) (l1 : Int32) (M : zM) : Int32 × zM := (if l1 < 0 then b62_21 n  M else (if (Int32.ofNat (zS M 1000007).2) ≤ l1 then b62_21 n  M else (if (zI M l0 12) < (12 : Int32) then b62_42 n  l0 (zI M l0 12) (zWQ M (zQ M (zQ M l0 0) (zI M l0 12).toNatClampNeg) 6 (some (zQ M 1000007 l1.toNatClampNeg))) else b62_21 n  M)))
def p62_0 (n : Nat)  (l0 : Nat) (l1 : Int32) (M : zM) : Prop := ((l1 < 0 → p62_21 n  M) ∧ (¬ l1 < 0 → (zOkN 1000007 M) ∧ ((((Int32.ofNat (zS M 1000007).2) ≤ l1 → p62_21 n  M) ∧ (¬ (Int32.ofNat (zS M 1000007).2) ≤ l1 → (zHasI 9 78 l0 M 12) ∧ ((((zI M l0 12) < (12 : Int32) → (zHasI 9 78 l0 M 12) ∧ ((zHasQ 9 11 l0 M 0) ∧ ((zOkR (zQ M l0 0) (zI M l0 12) M) ∧ ((zOkR 1000007 l1 M) ∧ ((zPutQ 62 109 (zQ M (zQ M l0 0) (zI M l0 12).toNatClampNeg) M 6) ∧ (p62_42 n  l0 (zI M l0 12) (zWQ M (zQ M (zQ M l0 0) (zI M l0 12).toNatClampNeg) 6 (some (zQ M 1000007 l1.toNatClampNeg))))))))) ∧ (¬ (zI M l0 12) < (12 : Int32) → p62_21 n  M))))))))
theorem s62_0 (n : Nat)    (l0 : Nat) (l1 : Int32) (M : zM) (hp : p62_0 n  l0 l1 M) {Q : Option Value → zM → Prop} (hQ : ∀ r M1, zRI (b62_0 n  l0 l1 M) r M1 → Q r M1) : zWP 62 0 [some (.ref l0), some (.int l1), none] [] M Q := by
  unfold b62_0 at hQ
  unfold p62_0 at hp
  refine wp_go 1 (pc' := 1) (L' := [some (.ref l0), some (.int l1), none]) (st' := [.int l1]) (M' := M) rfl ?_
  refine wp_if_lt (t := 21) rfl rfl (fun hc => ?_) (fun hc => ?_)
  · rw [if_pos hc] at hQ
    replace hp := hp.1 hc
    refine wp_le [none, none, none] (zLe_of (by simp [zLeB])) ?_
    exact s62_21 n    M hp hQ
  · rw [if_neg hc] at hQ
    replace hp := hp.2 hc
    refine wp_go 1 (pc' := 5) (L' := [some (.ref l0), some (.int l1), none]) (st' := [.int l1]) (M' := M) rfl ?_
    refine wq_gets (j := 7) rfl rfl ?_
    obtain ⟨hc, hp⟩ := hp
    refine wq_alen rfl hc ?_
    refine wp_ic_ge (t := 21) rfl rfl (fun hc => ?_) (fun hc => ?_)
    · rw [if_pos hc] at hQ
      replace hp := hp.1 hc
      refine wp_le [none, none, none] (zLe_of (by simp [zLeB])) ?_
      exact s62_21 n    M hp hQ
    · rw [if_neg hc] at hQ
      replace hp := hp.2 hc
      refine wp_go 1 (pc' := 13) (L' := [some (.ref l0), some (.int l1), none]) (st' := [.ref l0]) (M' := M) rfl ?_
      obtain ⟨hc, hp⟩ := hp
      refine wq_getI (j := 12) rfl hc ?_
      refine wp_go 1 (pc' := 18) (L' := [some (.ref l0), some (.int l1), none]) (st' := [.int (12 : Int32), .int (zI M l0 12)]) (M' := M) rfl ?_
      refine wp_ic_lt (t := 23) rfl rfl (fun hc => ?_) (fun hc => ?_)
      · rw [if_pos hc] at hQ
        replace hp := hp.1 hc
        refine wp_go 1 (pc' := 24) (L' := [some (.ref l0), some (.int l1), none]) (st' := [.ref l0]) (M' := M) rfl ?_
        obtain ⟨hc, hp⟩ := hp
        refine wq_getI (j := 12) rfl hc ?_
        refine wp_go 2 (pc' := 29) (L' := [some (.ref l0), some (.int l1), some (.int (zI M l0 12))]) (st' := [.ref l0]) (M' := M) rfl ?_
        obtain ⟨hc, hp⟩ := hp
        refine wq_getQ (j := 0) rfl hc ?_
        refine wp_go 1 (pc' := 33) (L' := [some (.ref l0), some (.int l1), some (.int (zI M l0 12))]) (st' := [.int (zI M l0 12), .ref (zQ M l0 0)]) (M' := M) rfl ?_
        obtain ⟨hc, hp⟩ := hp
        refine wq_aald rfl hc ?_
        refine wq_gets (j := 7) rfl rfl ?_
        refine wp_go 1 (pc' := 38) (L' := [some (.ref l0), some (.int l1), some (.int (zI M l0 12))]) (st' := [.int l1, .ref 1000007, .ref (zQ M (zQ M l0 0) (zI M l0 12).toNatClampNeg)]) (M' := M) rfl ?_
        obtain ⟨hc, hp⟩ := hp
        refine wq_aald rfl hc ?_
        obtain ⟨hc, hp⟩ := hp
        refine wq_putQ (j := 6) rfl hc ?_
        refine wp_le [some (.ref l0), none, some (.int (zI M l0 12))] (zLe_of (by simp [zLeB])) ?_
        exact s62_42 n    l0 (zI M l0 12) (zWQ M (zQ M (zQ M l0 0) (zI M l0 12).toNatClampNeg) 6 (some (zQ M 1000007 l1.toNatClampNeg))) hp hQ
      · rw [if_neg hc] at hQ
        replace hp := hp.2 hc
        refine wp_le [none, none, none] (zLe_of (by simp [zLeB])) ?_
        exact s62_21 n    M hp hQ
/-! X11_hasSherd -/
def b89_17 (n : Nat)  (s0 : Int32) (M : zM) : Int32 × zM := (s0, M)
def p89_17 (n : Nat)  (s0 : Int32) (M : zM) : Prop := zNar .boolean s0 = true
theorem s89_17 (n : Nat)    (s0 : Int32) (M : zM) (hp : p89_17 n  s0 M) {Q : Option Value → zM → Prop} (hQ : ∀ r M1, zRI (b89_17 n  s0 M) r M1 → Q r M1) : zWP 89 17 [none, none] [.int s0] M Q := by
  unfold b89_17 at hQ
  unfold p89_17 at hp
  exact wp_retz rfl rfl hp (hQ _ _ ⟨rfl, rfl⟩)
def b89_16 (n : Nat)   (M : zM) : Int32 × zM := b89_17 n  (0 : Int32) M
def p89_16 (n : Nat)   (M : zM) : Prop := p89_17 n  (0 : Int32) M
theorem s89_16 (n : Nat)     (M : zM) (hp : p89_16 n   M) {Q : Option Value → zM → Prop} (hQ : ∀ r M1, zRI (b89_16 n   M) r M1 → Q r M1) : zWP 89 16 [none, none] [] M Q := by
  unfold b89_16 at hQ
  unfold p89_16 at hp
  refine wp_go 1 (pc' := 17) (L' := [none, none]) (st' := [.int (0 : Int32)]) (M' := M) rfl ?_
  exact s89_17 n    (0 : Int32) M hp hQ
def b89_0 (n : Nat)  (l0 : Nat) (l1 : Int32) (M : zM) : Int32 × zM := (if l1 < 0 then b89_16 n  M else (if (zI M l0 12) ≤ l1 then b89_16 n  M else b89_17 n  (1 : Int32) M))
def p89_0 (n : Nat)  (l0 : Nat) (l1 : Int32) (M : zM) : Prop := ((l1 < 0 → p89_16 n  M) ∧ (¬ l1 < 0 → (zHasI 9 78 l0 M 12) ∧ ((((zI M l0 12) ≤ l1 → p89_16 n  M) ∧ (¬ (zI M l0 12) ≤ l1 → p89_17 n  (1 : Int32) M)))))
theorem s89_0 (n : Nat)    (l0 : Nat) (l1 : Int32) (M : zM) (hp : p89_0 n  l0 l1 M) {Q : Option Value → zM → Prop} (hQ : ∀ r M1, zRI (b89_0 n  l0 l1 M) r M1 → Q r M1) : zWP 89 0 [some (.ref l0), some (.int l1)] [] M Q := by
  unfold b89_0 at hQ
  unfold p89_0 at hp
  refine wp_go 1 (pc' := 1) (L' := [some (.ref l0), some (.int l1)]) (st' := [.int l1]) (M' := M) rfl ?_
  refine wp_if_lt (t := 16) rfl rfl (fun hc => ?_) (fun hc => ?_)
  · rw [if_pos hc] at hQ
    replace hp := hp.1 hc
    refine wp_le [none, none] (zLe_of (by simp [zLeB])) ?_
    exact s89_16 n    M hp hQ
  · rw [if_neg hc] at hQ
    replace hp := hp.2 hc
    refine wp_go 2 (pc' := 6) (L' := [some (.ref l0), some (.int l1)]) (st' := [.ref l0, .int l1]) (M' := M) rfl ?_
    obtain ⟨hc, hp⟩ := hp
    refine wq_getI (j := 12) rfl hc ?_
    refine wp_ic_ge (t := 16) rfl rfl (fun hc => ?_) (fun hc => ?_)
    · rw [if_pos hc] at hQ
      replace hp := hp.1 hc
      refine wp_le [none, none] (zLe_of (by simp [zLeB])) ?_
      exact s89_16 n    M hp hQ
    · rw [if_neg hc] at hQ
      replace hp := hp.2 hc
      refine wp_go 2 (pc' := 17) (L' := [some (.ref l0), some (.int l1)]) (st' := [.int (1 : Int32)]) (M' := M) rfl ?_
      refine wp_le [none, none] (zLe_of (by simp [zLeB])) ?_
      exact s89_17 n    (1 : Int32) M hp hQ
/-! X11_isTurn -/
def b95_15 (n : Nat)  (s0 : Int32) (M : zM) : Int32 × zM := (s0, M)
def p95_15 (n : Nat)  (s0 : Int32) (M : zM) : Prop := zNar .boolean s0 = true
theorem s95_15 (n : Nat)    (s0 : Int32) (M : zM) (hp : p95_15 n  s0 M) {Q : Option Value → zM → Prop} (hQ : ∀ r M1, zRI (b95_15 n  s0 M) r M1 → Q r M1) : zWP 95 15 [none] [.int s0] M Q := by
  unfold b95_15 at hQ
  unfold p95_15 at hp
  exact wp_retz rfl rfl hp (hQ _ _ ⟨rfl, rfl⟩)
def b95_14 (n : Nat)   (M : zM) : Int32 × zM := b95_15 n  (0 : Int32) M
def p95_14 (n : Nat)   (M : zM) : Prop := p95_15 n  (0 : Int32) M
theorem s95_14 (n : Nat)     (M : zM) (hp : p95_14 n   M) {Q : Option Value → zM → Prop} (hQ : ∀ r M1, zRI (b95_14 n   M) r M1 → Q r M1) : zWP 95 14 [none] [] M Q := by
  unfold b95_14 at hQ
  unfold p95_14 at hp
  refine wp_go 1 (pc' := 15) (L' := [none]) (st' := [.int (0 : Int32)]) (M' := M) rfl ?_
  exact s95_15 n    (0 : Int32) M hp hQ
def b95_0 (n : Nat)  (l0 : Int32) (M : zM) : Int32 × zM := (if l0 < 0 then b95_14 n  M else (if (24 : Int32) ≤ l0 then b95_14 n  M else b95_15 n  (1 : Int32) M))
def p95_0 (n : Nat)  (l0 : Int32) (M : zM) : Prop := ((l0 < 0 → p95_14 n  M) ∧ (¬ l0 < 0 → (((24 : Int32) ≤ l0 → p95_14 n  M) ∧ (¬ (24 : Int32) ≤ l0 → p95_15 n  (1 : Int32) M))))
theorem s95_0 (n : Nat)    (l0 : Int32) (M : zM) (hp : p95_0 n  l0 M) {Q : Option Value → zM → Prop} (hQ : ∀ r M1, zRI (b95_0 n  l0 M) r M1 → Q r M1) : zWP 95 0 [some (.int l0)] [] M Q := by
  unfold b95_0 at hQ
  unfold p95_0 at hp
  refine wp_go 1 (pc' := 1) (L' := [some (.int l0)]) (st' := [.int l0]) (M' := M) rfl ?_
  refine wp_if_lt (t := 14) rfl rfl (fun hc => ?_) (fun hc => ?_)
  · rw [if_pos hc] at hQ
    replace hp := hp.1 hc
    refine wp_le [none] (zLe_of (by simp [zLeB])) ?_
    exact s95_14 n    M hp hQ
  · rw [if_neg hc] at hQ
    replace hp := hp.2 hc
    refine wp_go 2 (pc' := 7) (L' := [some (.int l0)]) (st' := [.int (24 : Int32), .int l0]) (M' := M) rfl ?_
    refine wp_ic_ge (t := 14) rfl rfl (fun hc => ?_) (fun hc => ?_)
    · rw [if_pos hc] at hQ
      replace hp := hp.1 hc
      refine wp_le [none] (zLe_of (by simp [zLeB])) ?_
      exact s95_14 n    M hp hQ
    · rw [if_neg hc] at hQ
      replace hp := hp.2 hc
      refine wp_go 2 (pc' := 15) (L' := [some (.int l0)]) (st' := [.int (1 : Int32)]) (M' := M) rfl ?_
      refine wp_le [none] (zLe_of (by simp [zLeB])) ?_
      exact s95_15 n    (1 : Int32) M hp hQ
/-! X11_step -/
def b63_26 (n : Nat)   (M : zM) : Int32 × zM := (((-1) : Int32), M)
def p63_26 (n : Nat)   (M : zM) : Prop := True
theorem s63_26 (n : Nat)     (M : zM) (hp : p63_26 n   M) {Q : Option Value → zM → Prop} (hQ : ∀ r M1, zRI (b63_26 n   M) r M1 → Q r M1) : zWP 63 26 [none, none, none, none, none] [] M Q := by
  unfold b63_26 at hQ
  unfold p63_26 at hp
  refine wp_go 1 (pc' := 27) (L' := [none, none, none, none, none]) (st' := [.int ((-1) : Int32)]) (M' := M) rfl ?_
  exact wp_ret (r := some (.int ((-1) : Int32))) rfl rfl (hQ _ _ ⟨rfl, rfl⟩)
def b63_54 (n : Nat)   (M : zM) : Int32 × zM := (((-1) : Int32), M)
def p63_54 (n : Nat)   (M : zM) : Prop := True
theorem s63_54 (n : Nat)     (M : zM) (hp : p63_54 n   M) {Q : Option Value → zM → Prop} (hQ : ∀ r M1, zRI (b63_54 n   M) r M1 → Q r M1) : zWP 63 54 [none, none, none, none, none] [] M Q := by
  unfold b63_54 at hQ
  unfold p63_54 at hp
  refine wp_go 1 (pc' := 55) (L' := [none, none, none, none, none]) (st' := [.int ((-1) : Int32)]) (M' := M) rfl ?_
  exact wp_ret (r := some (.int ((-1) : Int32))) rfl rfl (hQ _ _ ⟨rfl, rfl⟩)
def b63_63 (n : Nat)  (l4 : Nat) (M : zM) : Int32 × zM := ((zI M l4 7), M)
def p63_63 (n : Nat)  (l4 : Nat) (M : zM) : Prop := (zHasI 9 128 l4 M 7) ∧ (True)
theorem s63_63 (n : Nat)    (l4 : Nat) (M : zM) (hp : p63_63 n  l4 M) {Q : Option Value → zM → Prop} (hQ : ∀ r M1, zRI (b63_63 n  l4 M) r M1 → Q r M1) : zWP 63 63 [none, none, none, none, some (.ref l4)] [] M Q := by
  unfold b63_63 at hQ
  unfold p63_63 at hp
  refine wp_go 1 (pc' := 65) (L' := [none, none, none, none, some (.ref l4)]) (st' := [.ref l4]) (M' := M) rfl ?_
  obtain ⟨hc, hp⟩ := hp
  refine wq_getI (j := 7) rfl hc ?_
  exact wp_ret (r := some (.int (zI M l4 7))) rfl rfl (hQ _ _ ⟨rfl, rfl⟩)
def b63_12 (n : Nat)  (l0 : Nat) (l1 : Int32) (l2 : Int32) (l3 : Int32) (s0 : Int32) (M : zM) : Int32 × zM := (if s0 = 0 then b63_26 n  M else (if l3 < (1 : Int32) then b63_26 n  M else (if l3 ≤ (12 : Int32) then (if (zI M (zQ M (zQ M l0 0) l1.toNatClampNeg) 8) = 0 then (if (zI M (zQ M (zQ M l0 0) l1.toNatClampNeg) 7) < (20 : Int32) then b63_63 n  (zQ M (zQ M l0 0) l1.toNatClampNeg) (b42_0 n (zQ M (zQ M l0 0) l1.toNatClampNeg) l2 l3 M) else b63_54 n  M) else b63_54 n  M) else b63_26 n  M)))
def p63_12 (n : Nat)  (l0 : Nat) (l1 : Int32) (l2 : Int32) (l3 : Int32) (s0 : Int32) (M : zM) : Prop := ((s0 = 0 → p63_26 n  M) ∧ (¬ s0 = 0 → ((l3 < (1 : Int32) → p63_26 n  M) ∧ (¬ l3 < (1 : Int32) → ((l3 ≤ (12 : Int32) → (zHasQ 9 11 l0 M 0) ∧ ((zOkR (zQ M l0 0) l1 M) ∧ ((zHasI 9 124 (zQ M (zQ M l0 0) l1.toNatClampNeg) M 8) ∧ ((((zI M (zQ M (zQ M l0 0) l1.toNatClampNeg) 8) = 0 → (zHasI 9 128 (zQ M (zQ M l0 0) l1.toNatClampNeg) M 7) ∧ ((((zI M (zQ M (zQ M l0 0) l1.toNatClampNeg) 7) < (20 : Int32) → (zHasC 63 131 (zQ M (zQ M l0 0) l1.toNatClampNeg) M 42 2) ∧ ((p42_0 n (zQ M (zQ M l0 0) l1.toNatClampNeg) l2 l3 M) ∧ (p63_63 n  (zQ M (zQ M l0 0) l1.toNatClampNeg) (b42_0 n (zQ M (zQ M l0 0) l1.toNatClampNeg) l2 l3 M)))) ∧ (¬ (zI M (zQ M (zQ M l0 0) l1.toNatClampNeg) 7) < (20 : Int32) → p63_54 n  M)))) ∧ (¬ (zI M (zQ M (zQ M l0 0) l1.toNatClampNeg) 8) = 0 → p63_54 n  M)))))) ∧ (¬ l3 ≤ (12 : Int32) → p63_26 n  M))))))
theorem s63_12 (n : Nat)    (l0 : Nat) (l1 : Int32) (l2 : Int32) (l3 : Int32) (s0 : Int32) (M : zM) (hp : p63_12 n  l0 l1 l2 l3 s0 M) {Q : Option Value → zM → Prop} (hQ : ∀ r M1, zRI (b63_12 n  l0 l1 l2 l3 s0 M) r M1 → Q r M1) : zWP 63 12 [some (.ref l0), some (.int l1), some (.int l2), some (.int l3), none] [.int s0] M Q := by
  unfold b63_12 at hQ
  unfold p63_12 at hp
  refine wp_if_eq (t := 26) rfl rfl (fun hc => ?_) (fun hc => ?_)
  · rw [if_pos hc] at hQ
    replace hp := hp.1 hc
    refine wp_le [none, none, none, none, none] (zLe_of (by simp [zLeB])) ?_
    exact s63_26 n    M hp hQ
  · rw [if_neg hc] at hQ
    replace hp := hp.2 hc
    refine wp_go 2 (pc' := 17) (L' := [some (.ref l0), some (.int l1), some (.int l2), some (.int l3), none]) (st' := [.int (1 : Int32), .int l3]) (M' := M) rfl ?_
    refine wp_ic_lt (t := 26) rfl rfl (fun hc => ?_) (fun hc => ?_)
    · rw [if_pos hc] at hQ
      replace hp := hp.1 hc
      refine wp_le [none, none, none, none, none] (zLe_of (by simp [zLeB])) ?_
      exact s63_26 n    M hp hQ
    · rw [if_neg hc] at hQ
      replace hp := hp.2 hc
      refine wp_go 2 (pc' := 23) (L' := [some (.ref l0), some (.int l1), some (.int l2), some (.int l3), none]) (st' := [.int (12 : Int32), .int l3]) (M' := M) rfl ?_
      refine wp_ic_le (t := 28) rfl rfl (fun hc => ?_) (fun hc => ?_)
      · rw [if_pos hc] at hQ
        replace hp := hp.1 hc
        refine wp_go 1 (pc' := 29) (L' := [some (.ref l0), some (.int l1), some (.int l2), some (.int l3), none]) (st' := [.ref l0]) (M' := M) rfl ?_
        obtain ⟨hc, hp⟩ := hp
        refine wq_getQ (j := 0) rfl hc ?_
        refine wp_go 1 (pc' := 33) (L' := [some (.ref l0), some (.int l1), some (.int l2), some (.int l3), none]) (st' := [.int l1, .ref (zQ M l0 0)]) (M' := M) rfl ?_
        obtain ⟨hc, hp⟩ := hp
        refine wq_aald rfl hc ?_
        refine wp_go 2 (pc' := 38) (L' := [some (.ref l0), some (.int l1), some (.int l2), some (.int l3), some (.ref (zQ M (zQ M l0 0) l1.toNatClampNeg))]) (st' := [.ref (zQ M (zQ M l0 0) l1.toNatClampNeg)]) (M' := M) rfl ?_
        obtain ⟨hc, hp⟩ := hp
        refine wq_getI (j := 8) rfl hc ?_
        refine wp_if_ne (t := 54) rfl rfl (fun hc => ?_) (fun hc => ?_)
        · rw [if_neg hc] at hQ
          replace hp := hp.2 hc
          refine wp_le [none, none, none, none, none] (zLe_of (by simp [zLeB])) ?_
          exact s63_54 n    M hp hQ
        · rw [if_pos hc] at hQ
          replace hp := hp.1 hc
          refine wp_go 1 (pc' := 46) (L' := [some (.ref l0), some (.int l1), some (.int l2), some (.int l3), some (.ref (zQ M (zQ M l0 0) l1.toNatClampNeg))]) (st' := [.ref (zQ M (zQ M l0 0) l1.toNatClampNeg)]) (M' := M) rfl ?_
          obtain ⟨hc, hp⟩ := hp
          refine wq_getI (j := 7) rfl hc ?_
          refine wp_go 1 (pc' := 51) (L' := [some (.ref l0), some (.int l1), some (.int l2), some (.int l3), some (.ref (zQ M (zQ M l0 0) l1.toNatClampNeg))]) (st' := [.int (20 : Int32), .int (zI M (zQ M (zQ M l0 0) l1.toNatClampNeg) 7)]) (M' := M) rfl ?_
          refine wp_ic_lt (t := 56) rfl rfl (fun hc => ?_) (fun hc => ?_)
          · rw [if_pos hc] at hQ
            replace hp := hp.1 hc
            refine wp_go 3 (pc' := 60) (L' := [some (.ref l0), some (.int l1), some (.int l2), some (.int l3), some (.ref (zQ M (zQ M l0 0) l1.toNatClampNeg))]) (st' := [.int l3, .int l2, .ref (zQ M (zQ M l0 0) l1.toNatClampNeg)]) (M' := M) rfl ?_
            obtain ⟨hv, hp⟩ := hp
            obtain ⟨hc, hp⟩ := hp
            refine wp_callv (M1 := (b42_0 n (zQ M (zQ M l0 0) l1.toNatClampNeg) l2 l3 M)) rfl rfl rfl (zInv_v (np := 2) rfl rfl hv rfl) (s42_0 n (zQ M (zQ M l0 0) l1.toNatClampNeg) l2 l3 M hc (fun r M1 h => h)) ?_
            refine wp_le [none, none, none, none, some (.ref (zQ M (zQ M l0 0) l1.toNatClampNeg))] (zLe_of (by simp [zLeB])) ?_
            exact s63_63 n    (zQ M (zQ M l0 0) l1.toNatClampNeg) (b42_0 n (zQ M (zQ M l0 0) l1.toNatClampNeg) l2 l3 M) hp hQ
          · rw [if_neg hc] at hQ
            replace hp := hp.2 hc
            refine wp_le [none, none, none, none, none] (zLe_of (by simp [zLeB])) ?_
            exact s63_54 n    M hp hQ
      · rw [if_neg hc] at hQ
        replace hp := hp.2 hc
        refine wp_le [none, none, none, none, none] (zLe_of (by simp [zLeB])) ?_
        exact s63_26 n    M hp hQ
def b63_5 (n : Nat)  (l0 : Nat) (l1 : Int32) (l2 : Int32) (l3 : Int32) (s0 : Int32) (M : zM) : Int32 × zM := (if s0 = 0 then b63_26 n  M else b63_12 n  l0 l1 l2 l3 (b95_0 n l2 M).1 (b95_0 n l2 M).2)
def p63_5 (n : Nat)  (l0 : Nat) (l1 : Int32) (l2 : Int32) (l3 : Int32) (s0 : Int32) (M : zM) : Prop := ((s0 = 0 → p63_26 n  M) ∧ (¬ s0 = 0 → (p95_0 n l2 M) ∧ (p63_12 n  l0 l1 l2 l3 (b95_0 n l2 M).1 (b95_0 n l2 M).2)))
theorem s63_5 (n : Nat)    (l0 : Nat) (l1 : Int32) (l2 : Int32) (l3 : Int32) (s0 : Int32) (M : zM) (hp : p63_5 n  l0 l1 l2 l3 s0 M) {Q : Option Value → zM → Prop} (hQ : ∀ r M1, zRI (b63_5 n  l0 l1 l2 l3 s0 M) r M1 → Q r M1) : zWP 63 5 [some (.ref l0), some (.int l1), some (.int l2), some (.int l3), none] [.int s0] M Q := by
  unfold b63_5 at hQ
  unfold p63_5 at hp
  refine wp_if_eq (t := 26) rfl rfl (fun hc => ?_) (fun hc => ?_)
  · rw [if_pos hc] at hQ
    replace hp := hp.1 hc
    refine wp_le [none, none, none, none, none] (zLe_of (by simp [zLeB])) ?_
    exact s63_26 n    M hp hQ
  · rw [if_neg hc] at hQ
    replace hp := hp.2 hc
    refine wp_go 1 (pc' := 9) (L' := [some (.ref l0), some (.int l1), some (.int l2), some (.int l3), none]) (st' := [.int l2]) (M' := M) rfl ?_
    obtain ⟨hc, hp⟩ := hp
    refine wp_calli (v := (b95_0 n l2 M).1) (M1 := (b95_0 n l2 M).2) rfl rfl rfl rfl (s95_0 n l2 M hc (fun r M1 h => h)) ?_
    exact s63_12 n    l0 l1 l2 l3 (b95_0 n l2 M).1 (b95_0 n l2 M).2 hp hQ
def b63_0 (n : Nat)  (l0 : Nat) (l1 : Int32) (l2 : Int32) (l3 : Int32) (M : zM) : Int32 × zM := b63_5 n  l0 l1 l2 l3 (b89_0 n l0 l1 M).1 (b89_0 n l0 l1 M).2
def p63_0 (n : Nat)  (l0 : Nat) (l1 : Int32) (l2 : Int32) (l3 : Int32) (M : zM) : Prop := (zHasC 63 117 l0 M 89 1) ∧ ((p89_0 n l0 l1 M) ∧ (p63_5 n  l0 l1 l2 l3 (b89_0 n l0 l1 M).1 (b89_0 n l0 l1 M).2))
theorem s63_0 (n : Nat)    (l0 : Nat) (l1 : Int32) (l2 : Int32) (l3 : Int32) (M : zM) (hp : p63_0 n  l0 l1 l2 l3 M) {Q : Option Value → zM → Prop} (hQ : ∀ r M1, zRI (b63_0 n  l0 l1 l2 l3 M) r M1 → Q r M1) : zWP 63 0 [some (.ref l0), some (.int l1), some (.int l2), some (.int l3), none] [] M Q := by
  unfold b63_0 at hQ
  unfold p63_0 at hp
  refine wp_go 2 (pc' := 2) (L' := [some (.ref l0), some (.int l1), some (.int l2), some (.int l3), none]) (st' := [.int l1, .ref l0]) (M' := M) rfl ?_
  obtain ⟨hv, hp⟩ := hp
  obtain ⟨hc, hp⟩ := hp
  refine wp_calli (v := (b89_0 n l0 l1 M).1) (M1 := (b89_0 n l0 l1 M).2) rfl rfl rfl (zInv_v (np := 1) rfl rfl hv rfl) (s89_0 n l0 l1 M hc (fun r M1 h => h)) ?_
  exact s63_5 n    l0 l1 l2 l3 (b89_0 n l0 l1 M).1 (b89_0 n l0 l1 M).2 hp hQ
/-! X11_close -/
def b64_32 (n : Nat)   (M : zM) : Int32 × zM := (((-1) : Int32), M)
def p64_32 (n : Nat)   (M : zM) : Prop := True
theorem s64_32 (n : Nat)     (M : zM) (hp : p64_32 n   M) {Q : Option Value → zM → Prop} (hQ : ∀ r M1, zRI (b64_32 n   M) r M1 → Q r M1) : zWP 64 32 [none, none, none, none] [] M Q := by
  unfold b64_32 at hQ
  unfold p64_32 at hp
  refine wp_go 1 (pc' := 33) (L' := [none, none, none, none]) (st' := [.int ((-1) : Int32)]) (M' := M) rfl ?_
  exact wp_ret (r := some (.int ((-1) : Int32))) rfl rfl (hQ _ _ ⟨rfl, rfl⟩)
def b64_70 (n : Nat)   (M : zM) : Int32 × zM := ((0 : Int32), M)
def p64_70 (n : Nat)   (M : zM) : Prop := True
theorem s64_70 (n : Nat)     (M : zM) (hp : p64_70 n   M) {Q : Option Value → zM → Prop} (hQ : ∀ r M1, zRI (b64_70 n   M) r M1 → Q r M1) : zWP 64 70 [none, none, none, none] [] M Q := by
  unfold b64_70 at hQ
  unfold p64_70 at hp
  refine wp_go 1 (pc' := 71) (L' := [none, none, none, none]) (st' := [.int (0 : Int32)]) (M' := M) rfl ?_
  exact wp_ret (r := some (.int (0 : Int32))) rfl rfl (hQ _ _ ⟨rfl, rfl⟩)
def b64_55 (n : Nat)  (l2 : Nat) (s0 : Int32) (M : zM) : Int32 × zM := (if s0 ≤ (2000 : Int32) then b64_70 n  (zWI M l2 8 (1 : Int32)) else (s0, M))
def p64_55 (n : Nat)  (l2 : Nat) (s0 : Int32) (M : zM) : Prop := ((s0 ≤ (2000 : Int32) → (zPutI 64 124 l2 M 8 (1 : Int32)) ∧ (p64_70 n  (zWI M l2 8 (1 : Int32)))) ∧ (¬ s0 ≤ (2000 : Int32) → True))
theorem s64_55 (n : Nat)    (l2 : Nat) (s0 : Int32) (M : zM) (hp : p64_55 n  l2 s0 M) {Q : Option Value → zM → Prop} (hQ : ∀ r M1, zRI (b64_55 n  l2 s0 M) r M1 → Q r M1) : zWP 64 55 [none, none, some (.ref l2), none] [.int s0] M Q := by
  unfold b64_55 at hQ
  unfold p64_55 at hp
  refine wp_go 3 (pc' := 60) (L' := [none, none, some (.ref l2), some (.int s0)]) (st' := [.int (2000 : Int32), .int s0]) (M' := M) rfl ?_
  refine wp_ic_le (t := 65) rfl rfl (fun hc => ?_) (fun hc => ?_)
  · rw [if_pos hc] at hQ
    replace hp := hp.1 hc
    refine wp_go 2 (pc' := 67) (L' := [none, none, some (.ref l2), some (.int s0)]) (st' := [.int (1 : Int32), .ref l2]) (M' := M) rfl ?_
    obtain ⟨hc, hp⟩ := hp
    refine wq_putI (j := 8) rfl hc ?_
    refine wp_le [none, none, none, none] (zLe_of (by simp [zLeB])) ?_
    exact s64_70 n    (zWI M l2 8 (1 : Int32)) hp hQ
  · rw [if_neg hc] at hQ
    replace hp := hp.2 hc
    refine wp_go 1 (pc' := 64) (L' := [none, none, some (.ref l2), some (.int s0)]) (st' := [.int s0]) (M' := M) rfl ?_
    exact wp_ret (r := some (.int s0)) rfl rfl (hQ _ _ ⟨rfl, rfl⟩)
def b64_52 (n : Nat)  (l2 : Nat) (s0 : Int32) (s1 : Int32) (M : zM) : Int32 × zM := b64_55 n  l2 (b96_0 n s0 s1 M).1 (b96_0 n s0 s1 M).2
def p64_52 (n : Nat)  (l2 : Nat) (s0 : Int32) (s1 : Int32) (M : zM) : Prop := (p96_0 n s0 s1 M) ∧ (p64_55 n  l2 (b96_0 n s0 s1 M).1 (b96_0 n s0 s1 M).2)
theorem s64_52 (n : Nat)    (l2 : Nat) (s0 : Int32) (s1 : Int32) (M : zM) (hp : p64_52 n  l2 s0 s1 M) {Q : Option Value → zM → Prop} (hQ : ∀ r M1, zRI (b64_52 n  l2 s0 s1 M) r M1 → Q r M1) : zWP 64 52 [none, none, some (.ref l2), none] [.int s1, .int s0] M Q := by
  unfold b64_52 at hQ
  unfold p64_52 at hp
  obtain ⟨hc, hp⟩ := hp
  refine wp_calli (v := (b96_0 n s0 s1 M).1) (M1 := (b96_0 n s0 s1 M).2) rfl rfl rfl rfl (s96_0 n s0 s1 M hc (fun r M1 h => h)) ?_
  exact s64_55 n    l2 (b96_0 n s0 s1 M).1 (b96_0 n s0 s1 M).2 hp hQ
def b64_43 (n : Nat)  (l2 : Nat) (s0 : Int32) (M : zM) : Int32 × zM := b64_52 n  l2 s0 (b51_0 n l2 (zI M l2 7) (0 : Int32) M).1 (b51_0 n l2 (zI M l2 7) (0 : Int32) M).2
def p64_43 (n : Nat)  (l2 : Nat) (s0 : Int32) (M : zM) : Prop := (zHasI 9 128 l2 M 7) ∧ ((zHasC 64 139 l2 M 51 2) ∧ ((p51_0 n l2 (zI M l2 7) (0 : Int32) M) ∧ (p64_52 n  l2 s0 (b51_0 n l2 (zI M l2 7) (0 : Int32) M).1 (b51_0 n l2 (zI M l2 7) (0 : Int32) M).2)))
theorem s64_43 (n : Nat)    (l2 : Nat) (s0 : Int32) (M : zM) (hp : p64_43 n  l2 s0 M) {Q : Option Value → zM → Prop} (hQ : ∀ r M1, zRI (b64_43 n  l2 s0 M) r M1 → Q r M1) : zWP 64 43 [none, none, some (.ref l2), none] [.int s0] M Q := by
  unfold b64_43 at hQ
  unfold p64_43 at hp
  refine wp_go 2 (pc' := 45) (L' := [none, none, some (.ref l2), none]) (st' := [.ref l2, .ref l2, .int s0]) (M' := M) rfl ?_
  obtain ⟨hc, hp⟩ := hp
  refine wq_getI (j := 7) rfl hc ?_
  refine wp_go 1 (pc' := 49) (L' := [none, none, some (.ref l2), none]) (st' := [.int (0 : Int32), .int (zI M l2 7), .ref l2, .int s0]) (M' := M) rfl ?_
  obtain ⟨hv, hp⟩ := hp
  obtain ⟨hc, hp⟩ := hp
  refine wp_calli (v := (b51_0 n l2 (zI M l2 7) (0 : Int32) M).1) (M1 := (b51_0 n l2 (zI M l2 7) (0 : Int32) M).2) rfl rfl rfl (zInv_v (np := 2) rfl rfl hv rfl) (s51_0 n l2 (zI M l2 7) (0 : Int32) M hc (fun r M1 h => h)) ?_
  exact s64_52 n    l2 s0 (b51_0 n l2 (zI M l2 7) (0 : Int32) M).1 (b51_0 n l2 (zI M l2 7) (0 : Int32) M).2 hp hQ
def b64_5 (n : Nat)  (l0 : Nat) (l1 : Int32) (s0 : Int32) (M : zM) : Int32 × zM := (if s0 = 0 then (((-1) : Int32), M) else (if (zI M (zQ M (zQ M l0 0) l1.toNatClampNeg) 8) = 0 then (if (3 : Int32) ≤ (zI M (zQ M (zQ M l0 0) l1.toNatClampNeg) 7) then b64_43 n  (zQ M (zQ M l0 0) l1.toNatClampNeg) (b50_0 n (zQ M (zQ M l0 0) l1.toNatClampNeg) (zI M (zQ M (zQ M l0 0) l1.toNatClampNeg) 7) (0 : Int32) M).1 (b50_0 n (zQ M (zQ M l0 0) l1.toNatClampNeg) (zI M (zQ M (zQ M l0 0) l1.toNatClampNeg) 7) (0 : Int32) M).2 else b64_32 n  M) else b64_32 n  M))
def p64_5 (n : Nat)  (l0 : Nat) (l1 : Int32) (s0 : Int32) (M : zM) : Prop := ((s0 = 0 → True) ∧ (¬ s0 = 0 → (zHasQ 9 11 l0 M 0) ∧ ((zOkR (zQ M l0 0) l1 M) ∧ ((zHasI 9 124 (zQ M (zQ M l0 0) l1.toNatClampNeg) M 8) ∧ ((((zI M (zQ M (zQ M l0 0) l1.toNatClampNeg) 8) = 0 → (zHasI 9 128 (zQ M (zQ M l0 0) l1.toNatClampNeg) M 7) ∧ ((((3 : Int32) ≤ (zI M (zQ M (zQ M l0 0) l1.toNatClampNeg) 7) → (zHasI 9 128 (zQ M (zQ M l0 0) l1.toNatClampNeg) M 7) ∧ ((zHasC 64 135 (zQ M (zQ M l0 0) l1.toNatClampNeg) M 50 2) ∧ ((p50_0 n (zQ M (zQ M l0 0) l1.toNatClampNeg) (zI M (zQ M (zQ M l0 0) l1.toNatClampNeg) 7) (0 : Int32) M) ∧ (p64_43 n  (zQ M (zQ M l0 0) l1.toNatClampNeg) (b50_0 n (zQ M (zQ M l0 0) l1.toNatClampNeg) (zI M (zQ M (zQ M l0 0) l1.toNatClampNeg) 7) (0 : Int32) M).1 (b50_0 n (zQ M (zQ M l0 0) l1.toNatClampNeg) (zI M (zQ M (zQ M l0 0) l1.toNatClampNeg) 7) (0 : Int32) M).2)))) ∧ (¬ (3 : Int32) ≤ (zI M (zQ M (zQ M l0 0) l1.toNatClampNeg) 7) → p64_32 n  M)))) ∧ (¬ (zI M (zQ M (zQ M l0 0) l1.toNatClampNeg) 8) = 0 → p64_32 n  M)))))))
theorem s64_5 (n : Nat)    (l0 : Nat) (l1 : Int32) (s0 : Int32) (M : zM) (hp : p64_5 n  l0 l1 s0 M) {Q : Option Value → zM → Prop} (hQ : ∀ r M1, zRI (b64_5 n  l0 l1 s0 M) r M1 → Q r M1) : zWP 64 5 [some (.ref l0), some (.int l1), none, none] [.int s0] M Q := by
  unfold b64_5 at hQ
  unfold p64_5 at hp
  refine wp_if_ne (t := 10) rfl rfl (fun hc => ?_) (fun hc => ?_)
  · rw [if_neg hc] at hQ
    replace hp := hp.2 hc
    refine wp_go 1 (pc' := 11) (L' := [some (.ref l0), some (.int l1), none, none]) (st' := [.ref l0]) (M' := M) rfl ?_
    obtain ⟨hc, hp⟩ := hp
    refine wq_getQ (j := 0) rfl hc ?_
    refine wp_go 1 (pc' := 15) (L' := [some (.ref l0), some (.int l1), none, none]) (st' := [.int l1, .ref (zQ M l0 0)]) (M' := M) rfl ?_
    obtain ⟨hc, hp⟩ := hp
    refine wq_aald rfl hc ?_
    refine wp_go 2 (pc' := 18) (L' := [some (.ref l0), some (.int l1), some (.ref (zQ M (zQ M l0 0) l1.toNatClampNeg)), none]) (st' := [.ref (zQ M (zQ M l0 0) l1.toNatClampNeg)]) (M' := M) rfl ?_
    obtain ⟨hc, hp⟩ := hp
    refine wq_getI (j := 8) rfl hc ?_
    refine wp_if_ne (t := 32) rfl rfl (fun hc => ?_) (fun hc => ?_)
    · rw [if_neg hc] at hQ
      replace hp := hp.2 hc
      refine wp_le [none, none, none, none] (zLe_of (by simp [zLeB])) ?_
      exact s64_32 n    M hp hQ
    · rw [if_pos hc] at hQ
      replace hp := hp.1 hc
      refine wp_go 1 (pc' := 25) (L' := [some (.ref l0), some (.int l1), some (.ref (zQ M (zQ M l0 0) l1.toNatClampNeg)), none]) (st' := [.ref (zQ M (zQ M l0 0) l1.toNatClampNeg)]) (M' := M) rfl ?_
      obtain ⟨hc, hp⟩ := hp
      refine wq_getI (j := 7) rfl hc ?_
      refine wp_go 1 (pc' := 29) (L' := [some (.ref l0), some (.int l1), some (.ref (zQ M (zQ M l0 0) l1.toNatClampNeg)), none]) (st' := [.int (3 : Int32), .int (zI M (zQ M (zQ M l0 0) l1.toNatClampNeg) 7)]) (M' := M) rfl ?_
      refine wp_ic_ge (t := 34) rfl rfl (fun hc => ?_) (fun hc => ?_)
      · rw [if_pos hc] at hQ
        replace hp := hp.1 hc
        refine wp_go 2 (pc' := 36) (L' := [some (.ref l0), some (.int l1), some (.ref (zQ M (zQ M l0 0) l1.toNatClampNeg)), none]) (st' := [.ref (zQ M (zQ M l0 0) l1.toNatClampNeg), .ref (zQ M (zQ M l0 0) l1.toNatClampNeg)]) (M' := M) rfl ?_
        obtain ⟨hc, hp⟩ := hp
        refine wq_getI (j := 7) rfl hc ?_
        refine wp_go 1 (pc' := 40) (L' := [some (.ref l0), some (.int l1), some (.ref (zQ M (zQ M l0 0) l1.toNatClampNeg)), none]) (st' := [.int (0 : Int32), .int (zI M (zQ M (zQ M l0 0) l1.toNatClampNeg) 7), .ref (zQ M (zQ M l0 0) l1.toNatClampNeg)]) (M' := M) rfl ?_
        obtain ⟨hv, hp⟩ := hp
        obtain ⟨hc, hp⟩ := hp
        refine wp_calli (v := (b50_0 n (zQ M (zQ M l0 0) l1.toNatClampNeg) (zI M (zQ M (zQ M l0 0) l1.toNatClampNeg) 7) (0 : Int32) M).1) (M1 := (b50_0 n (zQ M (zQ M l0 0) l1.toNatClampNeg) (zI M (zQ M (zQ M l0 0) l1.toNatClampNeg) 7) (0 : Int32) M).2) rfl rfl rfl (zInv_v (np := 2) rfl rfl hv rfl) (s50_0 n (zQ M (zQ M l0 0) l1.toNatClampNeg) (zI M (zQ M (zQ M l0 0) l1.toNatClampNeg) 7) (0 : Int32) M hc (fun r M1 h => h)) ?_
        refine wp_le [none, none, some (.ref (zQ M (zQ M l0 0) l1.toNatClampNeg)), none] (zLe_of (by simp [zLeB])) ?_
        exact s64_43 n    (zQ M (zQ M l0 0) l1.toNatClampNeg) (b50_0 n (zQ M (zQ M l0 0) l1.toNatClampNeg) (zI M (zQ M (zQ M l0 0) l1.toNatClampNeg) 7) (0 : Int32) M).1 (b50_0 n (zQ M (zQ M l0 0) l1.toNatClampNeg) (zI M (zQ M (zQ M l0 0) l1.toNatClampNeg) 7) (0 : Int32) M).2 hp hQ
      · rw [if_neg hc] at hQ
        replace hp := hp.2 hc
        refine wp_le [none, none, none, none] (zLe_of (by simp [zLeB])) ?_
        exact s64_32 n    M hp hQ
  · rw [if_pos hc] at hQ
    replace hp := hp.1 hc
    refine wp_go 1 (pc' := 9) (L' := [some (.ref l0), some (.int l1), none, none]) (st' := [.int ((-1) : Int32)]) (M' := M) rfl ?_
    exact wp_ret (r := some (.int ((-1) : Int32))) rfl rfl (hQ _ _ ⟨rfl, rfl⟩)
def b64_0 (n : Nat)  (l0 : Nat) (l1 : Int32) (M : zM) : Int32 × zM := b64_5 n  l0 l1 (b89_0 n l0 l1 M).1 (b89_0 n l0 l1 M).2
def p64_0 (n : Nat)  (l0 : Nat) (l1 : Int32) (M : zM) : Prop := (zHasC 64 117 l0 M 89 1) ∧ ((p89_0 n l0 l1 M) ∧ (p64_5 n  l0 l1 (b89_0 n l0 l1 M).1 (b89_0 n l0 l1 M).2))
theorem s64_0 (n : Nat)    (l0 : Nat) (l1 : Int32) (M : zM) (hp : p64_0 n  l0 l1 M) {Q : Option Value → zM → Prop} (hQ : ∀ r M1, zRI (b64_0 n  l0 l1 M) r M1 → Q r M1) : zWP 64 0 [some (.ref l0), some (.int l1), none, none] [] M Q := by
  unfold b64_0 at hQ
  unfold p64_0 at hp
  refine wp_go 2 (pc' := 2) (L' := [some (.ref l0), some (.int l1), none, none]) (st' := [.int l1, .ref l0]) (M' := M) rfl ?_
  obtain ⟨hv, hp⟩ := hp
  obtain ⟨hc, hp⟩ := hp
  refine wp_calli (v := (b89_0 n l0 l1 M).1) (M1 := (b89_0 n l0 l1 M).2) rfl rfl rfl (zInv_v (np := 1) rfl rfl hv rfl) (s89_0 n l0 l1 M hc (fun r M1 h => h)) ?_
  exact s64_5 n    l0 l1 (b89_0 n l0 l1 M).1 (b89_0 n l0 l1 M).2 hp hQ
/-! X11_hasStep -/
def b90_30 (n : Nat)  (s0 : Int32) (M : zM) : Int32 × zM := (s0, M)
def p90_30 (n : Nat)  (s0 : Int32) (M : zM) : Prop := zNar .boolean s0 = true
theorem s90_30 (n : Nat)    (s0 : Int32) (M : zM) (hp : p90_30 n  s0 M) {Q : Option Value → zM → Prop} (hQ : ∀ r M1, zRI (b90_30 n  s0 M) r M1 → Q r M1) : zWP 90 30 [none, none, none] [.int s0] M Q := by
  unfold b90_30 at hQ
  unfold p90_30 at hp
  exact wp_retz rfl rfl hp (hQ _ _ ⟨rfl, rfl⟩)
def b90_29 (n : Nat)   (M : zM) : Int32 × zM := b90_30 n  (0 : Int32) M
def p90_29 (n : Nat)   (M : zM) : Prop := p90_30 n  (0 : Int32) M
theorem s90_29 (n : Nat)     (M : zM) (hp : p90_29 n   M) {Q : Option Value → zM → Prop} (hQ : ∀ r M1, zRI (b90_29 n   M) r M1 → Q r M1) : zWP 90 29 [none, none, none] [] M Q := by
  unfold b90_29 at hQ
  unfold p90_29 at hp
  refine wp_go 1 (pc' := 30) (L' := [none, none, none]) (st' := [.int (0 : Int32)]) (M' := M) rfl ?_
  exact s90_30 n    (0 : Int32) M hp hQ
def b90_5 (n : Nat)  (l0 : Nat) (l1 : Int32) (l2 : Int32) (s0 : Int32) (M : zM) : Int32 × zM := (if s0 = 0 then b90_29 n  M else (if l2 < 0 then b90_29 n  M else (if (zI M (zQ M (zQ M l0 0) l1.toNatClampNeg) 7) ≤ l2 then b90_29 n  M else b90_30 n  (1 : Int32) M)))
def p90_5 (n : Nat)  (l0 : Nat) (l1 : Int32) (l2 : Int32) (s0 : Int32) (M : zM) : Prop := ((s0 = 0 → p90_29 n  M) ∧ (¬ s0 = 0 → ((l2 < 0 → p90_29 n  M) ∧ (¬ l2 < 0 → (zHasQ 9 11 l0 M 0) ∧ ((zOkR (zQ M l0 0) l1 M) ∧ ((zHasI 9 128 (zQ M (zQ M l0 0) l1.toNatClampNeg) M 7) ∧ ((((zI M (zQ M (zQ M l0 0) l1.toNatClampNeg) 7) ≤ l2 → p90_29 n  M) ∧ (¬ (zI M (zQ M (zQ M l0 0) l1.toNatClampNeg) 7) ≤ l2 → p90_30 n  (1 : Int32) M)))))))))
theorem s90_5 (n : Nat)    (l0 : Nat) (l1 : Int32) (l2 : Int32) (s0 : Int32) (M : zM) (hp : p90_5 n  l0 l1 l2 s0 M) {Q : Option Value → zM → Prop} (hQ : ∀ r M1, zRI (b90_5 n  l0 l1 l2 s0 M) r M1 → Q r M1) : zWP 90 5 [some (.ref l0), some (.int l1), some (.int l2)] [.int s0] M Q := by
  unfold b90_5 at hQ
  unfold p90_5 at hp
  refine wp_if_eq (t := 29) rfl rfl (fun hc => ?_) (fun hc => ?_)
  · rw [if_pos hc] at hQ
    replace hp := hp.1 hc
    refine wp_le [none, none, none] (zLe_of (by simp [zLeB])) ?_
    exact s90_29 n    M hp hQ
  · rw [if_neg hc] at hQ
    replace hp := hp.2 hc
    refine wp_go 1 (pc' := 9) (L' := [some (.ref l0), some (.int l1), some (.int l2)]) (st' := [.int l2]) (M' := M) rfl ?_
    refine wp_if_lt (t := 29) rfl rfl (fun hc => ?_) (fun hc => ?_)
    · rw [if_pos hc] at hQ
      replace hp := hp.1 hc
      refine wp_le [none, none, none] (zLe_of (by simp [zLeB])) ?_
      exact s90_29 n    M hp hQ
    · rw [if_neg hc] at hQ
      replace hp := hp.2 hc
      refine wp_go 2 (pc' := 14) (L' := [some (.ref l0), some (.int l1), some (.int l2)]) (st' := [.ref l0, .int l2]) (M' := M) rfl ?_
      obtain ⟨hc, hp⟩ := hp
      refine wq_getQ (j := 0) rfl hc ?_
      refine wp_go 1 (pc' := 18) (L' := [some (.ref l0), some (.int l1), some (.int l2)]) (st' := [.int l1, .ref (zQ M l0 0), .int l2]) (M' := M) rfl ?_
      obtain ⟨hc, hp⟩ := hp
      refine wq_aald rfl hc ?_
      obtain ⟨hc, hp⟩ := hp
      refine wq_getI (j := 7) rfl hc ?_
      refine wp_ic_ge (t := 29) rfl rfl (fun hc => ?_) (fun hc => ?_)
      · rw [if_pos hc] at hQ
        replace hp := hp.1 hc
        refine wp_le [none, none, none] (zLe_of (by simp [zLeB])) ?_
        exact s90_29 n    M hp hQ
      · rw [if_neg hc] at hQ
        replace hp := hp.2 hc
        refine wp_go 2 (pc' := 30) (L' := [some (.ref l0), some (.int l1), some (.int l2)]) (st' := [.int (1 : Int32)]) (M' := M) rfl ?_
        refine wp_le [none, none, none] (zLe_of (by simp [zLeB])) ?_
        exact s90_30 n    (1 : Int32) M hp hQ
def b90_0 (n : Nat)  (l0 : Nat) (l1 : Int32) (l2 : Int32) (M : zM) : Int32 × zM := b90_5 n  l0 l1 l2 (b89_0 n l0 l1 M).1 (b89_0 n l0 l1 M).2
def p90_0 (n : Nat)  (l0 : Nat) (l1 : Int32) (l2 : Int32) (M : zM) : Prop := (zHasC 90 117 l0 M 89 1) ∧ ((p89_0 n l0 l1 M) ∧ (p90_5 n  l0 l1 l2 (b89_0 n l0 l1 M).1 (b89_0 n l0 l1 M).2))
theorem s90_0 (n : Nat)    (l0 : Nat) (l1 : Int32) (l2 : Int32) (M : zM) (hp : p90_0 n  l0 l1 l2 M) {Q : Option Value → zM → Prop} (hQ : ∀ r M1, zRI (b90_0 n  l0 l1 l2 M) r M1 → Q r M1) : zWP 90 0 [some (.ref l0), some (.int l1), some (.int l2)] [] M Q := by
  unfold b90_0 at hQ
  unfold p90_0 at hp
  refine wp_go 2 (pc' := 2) (L' := [some (.ref l0), some (.int l1), some (.int l2)]) (st' := [.int l1, .ref l0]) (M' := M) rfl ?_
  obtain ⟨hv, hp⟩ := hp
  obtain ⟨hc, hp⟩ := hp
  refine wp_calli (v := (b89_0 n l0 l1 M).1) (M1 := (b89_0 n l0 l1 M).2) rfl rfl rfl (zInv_v (np := 1) rfl rfl hv rfl) (s89_0 n l0 l1 M hc (fun r M1 h => h)) ?_
  exact s90_5 n    l0 l1 l2 (b89_0 n l0 l1 M).1 (b89_0 n l0 l1 M).2 hp hQ
/-! X11_canChange -/
def b92_29 (n : Nat)  (s0 : Int32) (M : zM) : Int32 × zM := (s0, M)
def p92_29 (n : Nat)  (s0 : Int32) (M : zM) : Prop := zNar .boolean s0 = true
theorem s92_29 (n : Nat)    (s0 : Int32) (M : zM) (hp : p92_29 n  s0 M) {Q : Option Value → zM → Prop} (hQ : ∀ r M1, zRI (b92_29 n  s0 M) r M1 → Q r M1) : zWP 92 29 [none, none, none] [.int s0] M Q := by
  unfold b92_29 at hQ
  unfold p92_29 at hp
  exact wp_retz rfl rfl hp (hQ _ _ ⟨rfl, rfl⟩)
def b92_28 (n : Nat)   (M : zM) : Int32 × zM := b92_29 n  (0 : Int32) M
def p92_28 (n : Nat)   (M : zM) : Prop := p92_29 n  (0 : Int32) M
theorem s92_28 (n : Nat)     (M : zM) (hp : p92_28 n   M) {Q : Option Value → zM → Prop} (hQ : ∀ r M1, zRI (b92_28 n   M) r M1 → Q r M1) : zWP 92 28 [none, none, none] [] M Q := by
  unfold b92_28 at hQ
  unfold p92_28 at hp
  refine wp_go 1 (pc' := 29) (L' := [none, none, none]) (st' := [.int (0 : Int32)]) (M' := M) rfl ?_
  exact s92_29 n    (0 : Int32) M hp hQ
def b92_6 (n : Nat)  (l0 : Nat) (l1 : Int32) (l2 : Int32) (s0 : Int32) (M : zM) : Int32 × zM := (if s0 = 0 then b92_28 n  M else (if (zI M (zQ M (zQ M (zQ M l0 0) l1.toNatClampNeg) 4) l2.toNatClampNeg) = ((-1) : Int32) then b92_29 n  (1 : Int32) M else b92_28 n  M))
def p92_6 (n : Nat)  (l0 : Nat) (l1 : Int32) (l2 : Int32) (s0 : Int32) (M : zM) : Prop := ((s0 = 0 → p92_28 n  M) ∧ (¬ s0 = 0 → (zHasQ 9 11 l0 M 0) ∧ ((zOkR (zQ M l0 0) l1 M) ∧ ((zHasQ 9 228 (zQ M (zQ M l0 0) l1.toNatClampNeg) M 4) ∧ ((zOkI (zQ M (zQ M (zQ M l0 0) l1.toNatClampNeg) 4) l2 M) ∧ ((((zI M (zQ M (zQ M (zQ M l0 0) l1.toNatClampNeg) 4) l2.toNatClampNeg) = ((-1) : Int32) → p92_29 n  (1 : Int32) M) ∧ (¬ (zI M (zQ M (zQ M (zQ M l0 0) l1.toNatClampNeg) 4) l2.toNatClampNeg) = ((-1) : Int32) → p92_28 n  M))))))))
theorem s92_6 (n : Nat)    (l0 : Nat) (l1 : Int32) (l2 : Int32) (s0 : Int32) (M : zM) (hp : p92_6 n  l0 l1 l2 s0 M) {Q : Option Value → zM → Prop} (hQ : ∀ r M1, zRI (b92_6 n  l0 l1 l2 s0 M) r M1 → Q r M1) : zWP 92 6 [some (.ref l0), some (.int l1), some (.int l2)] [.int s0] M Q := by
  unfold b92_6 at hQ
  unfold p92_6 at hp
  refine wp_if_eq (t := 28) rfl rfl (fun hc => ?_) (fun hc => ?_)
  · rw [if_pos hc] at hQ
    replace hp := hp.1 hc
    refine wp_le [none, none, none] (zLe_of (by simp [zLeB])) ?_
    exact s92_28 n    M hp hQ
  · rw [if_neg hc] at hQ
    replace hp := hp.2 hc
    refine wp_go 1 (pc' := 10) (L' := [some (.ref l0), some (.int l1), some (.int l2)]) (st' := [.ref l0]) (M' := M) rfl ?_
    obtain ⟨hc, hp⟩ := hp
    refine wq_getQ (j := 0) rfl hc ?_
    refine wp_go 1 (pc' := 14) (L' := [some (.ref l0), some (.int l1), some (.int l2)]) (st' := [.int l1, .ref (zQ M l0 0)]) (M' := M) rfl ?_
    obtain ⟨hc, hp⟩ := hp
    refine wq_aald rfl hc ?_
    obtain ⟨hc, hp⟩ := hp
    refine wq_getQ (j := 4) rfl hc ?_
    refine wp_go 1 (pc' := 19) (L' := [some (.ref l0), some (.int l1), some (.int l2)]) (st' := [.int l2, .ref (zQ M (zQ M (zQ M l0 0) l1.toNatClampNeg) 4)]) (M' := M) rfl ?_
    obtain ⟨hc, hp⟩ := hp
    refine wq_iald rfl hc ?_
    refine wp_go 1 (pc' := 21) (L' := [some (.ref l0), some (.int l1), some (.int l2)]) (st' := [.int ((-1) : Int32), .int (zI M (zQ M (zQ M (zQ M l0 0) l1.toNatClampNeg) 4) l2.toNatClampNeg)]) (M' := M) rfl ?_
    refine wp_ic_ne (t := 28) rfl rfl (fun hc => ?_) (fun hc => ?_)
    · rw [if_neg hc] at hQ
      replace hp := hp.2 hc
      refine wp_le [none, none, none] (zLe_of (by simp [zLeB])) ?_
      exact s92_28 n    M hp hQ
    · rw [if_pos hc] at hQ
      replace hp := hp.1 hc
      refine wp_go 2 (pc' := 29) (L' := [some (.ref l0), some (.int l1), some (.int l2)]) (st' := [.int (1 : Int32)]) (M' := M) rfl ?_
      refine wp_le [none, none, none] (zLe_of (by simp [zLeB])) ?_
      exact s92_29 n    (1 : Int32) M hp hQ
def b92_0 (n : Nat)  (l0 : Nat) (l1 : Int32) (l2 : Int32) (M : zM) : Int32 × zM := b92_6 n  l0 l1 l2 (b90_0 n l0 l1 l2 M).1 (b90_0 n l0 l1 l2 M).2
def p92_0 (n : Nat)  (l0 : Nat) (l1 : Int32) (l2 : Int32) (M : zM) : Prop := (zHasC 92 213 l0 M 90 2) ∧ ((p90_0 n l0 l1 l2 M) ∧ (p92_6 n  l0 l1 l2 (b90_0 n l0 l1 l2 M).1 (b90_0 n l0 l1 l2 M).2))
theorem s92_0 (n : Nat)    (l0 : Nat) (l1 : Int32) (l2 : Int32) (M : zM) (hp : p92_0 n  l0 l1 l2 M) {Q : Option Value → zM → Prop} (hQ : ∀ r M1, zRI (b92_0 n  l0 l1 l2 M) r M1 → Q r M1) : zWP 92 0 [some (.ref l0), some (.int l1), some (.int l2)] [] M Q := by
  unfold b92_0 at hQ
  unfold p92_0 at hp
  refine wp_go 3 (pc' := 3) (L' := [some (.ref l0), some (.int l1), some (.int l2)]) (st' := [.int l2, .int l1, .ref l0]) (M' := M) rfl ?_
  obtain ⟨hv, hp⟩ := hp
  obtain ⟨hc, hp⟩ := hp
  refine wp_calli (v := (b90_0 n l0 l1 l2 M).1) (M1 := (b90_0 n l0 l1 l2 M).2) rfl rfl rfl (zInv_v (np := 2) rfl rfl hv rfl) (s90_0 n l0 l1 l2 M hc (fun r M1 h => h)) ?_
  exact s92_6 n    l0 l1 l2 (b90_0 n l0 l1 l2 M).1 (b90_0 n l0 l1 l2 M).2 hp hQ
/-! X11_mark -/
def b65_24 (n : Nat)   (M : zM) : Int32 × zM := ((0 : Int32), M)
def p65_24 (n : Nat)   (M : zM) : Prop := True
theorem s65_24 (n : Nat)     (M : zM) (hp : p65_24 n   M) {Q : Option Value → zM → Prop} (hQ : ∀ r M1, zRI (b65_24 n   M) r M1 → Q r M1) : zWP 65 24 [none, none, none, none] [] M Q := by
  unfold b65_24 at hQ
  unfold p65_24 at hp
  refine wp_go 1 (pc' := 25) (L' := [none, none, none, none]) (st' := [.int (0 : Int32)]) (M' := M) rfl ?_
  exact wp_ret (r := some (.int (0 : Int32))) rfl rfl (hQ _ _ ⟨rfl, rfl⟩)
def b65_37 (n : Nat)   (M : zM) : Int32 × zM := ((1 : Int32), M)
def p65_37 (n : Nat)   (M : zM) : Prop := True
theorem s65_37 (n : Nat)     (M : zM) (hp : p65_37 n   M) {Q : Option Value → zM → Prop} (hQ : ∀ r M1, zRI (b65_37 n   M) r M1 → Q r M1) : zWP 65 37 [none, none, none, none] [] M Q := by
  unfold b65_37 at hQ
  unfold p65_37 at hp
  refine wp_go 1 (pc' := 38) (L' := [none, none, none, none]) (st' := [.int (1 : Int32)]) (M' := M) rfl ?_
  exact wp_ret (r := some (.int (1 : Int32))) rfl rfl (hQ _ _ ⟨rfl, rfl⟩)
def b65_21 (n : Nat)  (l0 : Nat) (l1 : Int32) (l2 : Int32) (l3 : Int32) (s0 : Int32) (M : zM) : Int32 × zM := (if s0 = 0 then b65_24 n  M else b65_37 n  (b43_0 n (zQ M (zQ M l0 0) l1.toNatClampNeg) l2 l3 M))
def p65_21 (n : Nat)  (l0 : Nat) (l1 : Int32) (l2 : Int32) (l3 : Int32) (s0 : Int32) (M : zM) : Prop := ((s0 = 0 → p65_24 n  M) ∧ (¬ s0 = 0 → (zHasQ 9 11 l0 M 0) ∧ ((zOkR (zQ M l0 0) l1 M) ∧ ((zHasC 65 155 (zQ M (zQ M l0 0) l1.toNatClampNeg) M 43 2) ∧ ((p43_0 n (zQ M (zQ M l0 0) l1.toNatClampNeg) l2 l3 M) ∧ (p65_37 n  (b43_0 n (zQ M (zQ M l0 0) l1.toNatClampNeg) l2 l3 M)))))))
theorem s65_21 (n : Nat)    (l0 : Nat) (l1 : Int32) (l2 : Int32) (l3 : Int32) (s0 : Int32) (M : zM) (hp : p65_21 n  l0 l1 l2 l3 s0 M) {Q : Option Value → zM → Prop} (hQ : ∀ r M1, zRI (b65_21 n  l0 l1 l2 l3 s0 M) r M1 → Q r M1) : zWP 65 21 [some (.ref l0), some (.int l1), some (.int l2), some (.int l3)] [.int s0] M Q := by
  unfold b65_21 at hQ
  unfold p65_21 at hp
  refine wp_if_ne (t := 26) rfl rfl (fun hc => ?_) (fun hc => ?_)
  · rw [if_neg hc] at hQ
    replace hp := hp.2 hc
    refine wp_go 1 (pc' := 27) (L' := [some (.ref l0), some (.int l1), some (.int l2), some (.int l3)]) (st' := [.ref l0]) (M' := M) rfl ?_
    obtain ⟨hc, hp⟩ := hp
    refine wq_getQ (j := 0) rfl hc ?_
    refine wp_go 1 (pc' := 31) (L' := [some (.ref l0), some (.int l1), some (.int l2), some (.int l3)]) (st' := [.int l1, .ref (zQ M l0 0)]) (M' := M) rfl ?_
    obtain ⟨hc, hp⟩ := hp
    refine wq_aald rfl hc ?_
    refine wp_go 2 (pc' := 34) (L' := [some (.ref l0), some (.int l1), some (.int l2), some (.int l3)]) (st' := [.int l3, .int l2, .ref (zQ M (zQ M l0 0) l1.toNatClampNeg)]) (M' := M) rfl ?_
    obtain ⟨hv, hp⟩ := hp
    obtain ⟨hc, hp⟩ := hp
    refine wp_callv (M1 := (b43_0 n (zQ M (zQ M l0 0) l1.toNatClampNeg) l2 l3 M)) rfl rfl rfl (zInv_v (np := 2) rfl rfl hv rfl) (s43_0 n (zQ M (zQ M l0 0) l1.toNatClampNeg) l2 l3 M hc (fun r M1 h => h)) ?_
    refine wp_le [none, none, none, none] (zLe_of (by simp [zLeB])) ?_
    exact s65_37 n    (b43_0 n (zQ M (zQ M l0 0) l1.toNatClampNeg) l2 l3 M) hp hQ
  · rw [if_pos hc] at hQ
    replace hp := hp.1 hc
    refine wp_le [none, none, none, none] (zLe_of (by simp [zLeB])) ?_
    exact s65_24 n    M hp hQ
def b65_6 (n : Nat)  (l0 : Nat) (l1 : Int32) (l2 : Int32) (l3 : Int32) (s0 : Int32) (M : zM) : Int32 × zM := (if s0 = 0 then b65_24 n  M else b65_21 n  l0 l1 l2 l3 (b20_0 n (zQ M (zQ M (zQ M l0 0) l1.toNatClampNeg) 6) M).1 (b20_0 n (zQ M (zQ M (zQ M l0 0) l1.toNatClampNeg) 6) M).2)
def p65_6 (n : Nat)  (l0 : Nat) (l1 : Int32) (l2 : Int32) (l3 : Int32) (s0 : Int32) (M : zM) : Prop := ((s0 = 0 → p65_24 n  M) ∧ (¬ s0 = 0 → (zHasQ 9 11 l0 M 0) ∧ ((zOkR (zQ M l0 0) l1 M) ∧ ((zHasQ 9 109 (zQ M (zQ M l0 0) l1.toNatClampNeg) M 6) ∧ ((zHasC 65 149 (zQ M (zQ M (zQ M l0 0) l1.toNatClampNeg) 6) M 20 0) ∧ ((p20_0 n (zQ M (zQ M (zQ M l0 0) l1.toNatClampNeg) 6) M) ∧ (p65_21 n  l0 l1 l2 l3 (b20_0 n (zQ M (zQ M (zQ M l0 0) l1.toNatClampNeg) 6) M).1 (b20_0 n (zQ M (zQ M (zQ M l0 0) l1.toNatClampNeg) 6) M).2)))))))
theorem s65_6 (n : Nat)    (l0 : Nat) (l1 : Int32) (l2 : Int32) (l3 : Int32) (s0 : Int32) (M : zM) (hp : p65_6 n  l0 l1 l2 l3 s0 M) {Q : Option Value → zM → Prop} (hQ : ∀ r M1, zRI (b65_6 n  l0 l1 l2 l3 s0 M) r M1 → Q r M1) : zWP 65 6 [some (.ref l0), some (.int l1), some (.int l2), some (.int l3)] [.int s0] M Q := by
  unfold b65_6 at hQ
  unfold p65_6 at hp
  refine wp_if_eq (t := 24) rfl rfl (fun hc => ?_) (fun hc => ?_)
  · rw [if_pos hc] at hQ
    replace hp := hp.1 hc
    refine wp_le [none, none, none, none] (zLe_of (by simp [zLeB])) ?_
    exact s65_24 n    M hp hQ
  · rw [if_neg hc] at hQ
    replace hp := hp.2 hc
    refine wp_go 1 (pc' := 10) (L' := [some (.ref l0), some (.int l1), some (.int l2), some (.int l3)]) (st' := [.ref l0]) (M' := M) rfl ?_
    obtain ⟨hc, hp⟩ := hp
    refine wq_getQ (j := 0) rfl hc ?_
    refine wp_go 1 (pc' := 14) (L' := [some (.ref l0), some (.int l1), some (.int l2), some (.int l3)]) (st' := [.int l1, .ref (zQ M l0 0)]) (M' := M) rfl ?_
    obtain ⟨hc, hp⟩ := hp
    refine wq_aald rfl hc ?_
    obtain ⟨hc, hp⟩ := hp
    refine wq_getQ (j := 6) rfl hc ?_
    obtain ⟨hv, hp⟩ := hp
    obtain ⟨hc, hp⟩ := hp
    refine wp_calli (v := (b20_0 n (zQ M (zQ M (zQ M l0 0) l1.toNatClampNeg) 6) M).1) (M1 := (b20_0 n (zQ M (zQ M (zQ M l0 0) l1.toNatClampNeg) 6) M).2) rfl rfl rfl (zInv_v (np := 0) rfl rfl hv rfl) (s20_0 n (zQ M (zQ M (zQ M l0 0) l1.toNatClampNeg) 6) M hc (fun r M1 h => h)) ?_
    exact s65_21 n    l0 l1 l2 l3 (b20_0 n (zQ M (zQ M (zQ M l0 0) l1.toNatClampNeg) 6) M).1 (b20_0 n (zQ M (zQ M (zQ M l0 0) l1.toNatClampNeg) 6) M).2 hp hQ
def b65_0 (n : Nat)  (l0 : Nat) (l1 : Int32) (l2 : Int32) (l3 : Int32) (M : zM) : Int32 × zM := b65_6 n  l0 l1 l2 l3 (b92_0 n l0 l1 l2 M).1 (b92_0 n l0 l1 l2 M).2
def p65_0 (n : Nat)  (l0 : Nat) (l1 : Int32) (l2 : Int32) (l3 : Int32) (M : zM) : Prop := (zHasC 65 145 l0 M 92 2) ∧ ((p92_0 n l0 l1 l2 M) ∧ (p65_6 n  l0 l1 l2 l3 (b92_0 n l0 l1 l2 M).1 (b92_0 n l0 l1 l2 M).2))
theorem s65_0 (n : Nat)    (l0 : Nat) (l1 : Int32) (l2 : Int32) (l3 : Int32) (M : zM) (hp : p65_0 n  l0 l1 l2 l3 M) {Q : Option Value → zM → Prop} (hQ : ∀ r M1, zRI (b65_0 n  l0 l1 l2 l3 M) r M1 → Q r M1) : zWP 65 0 [some (.ref l0), some (.int l1), some (.int l2), some (.int l3)] [] M Q := by
  unfold b65_0 at hQ
  unfold p65_0 at hp
  refine wp_go 3 (pc' := 3) (L' := [some (.ref l0), some (.int l1), some (.int l2), some (.int l3)]) (st' := [.int l2, .int l1, .ref l0]) (M' := M) rfl ?_
  obtain ⟨hv, hp⟩ := hp
  obtain ⟨hc, hp⟩ := hp
  refine wp_calli (v := (b92_0 n l0 l1 l2 M).1) (M1 := (b92_0 n l0 l1 l2 M).2) rfl rfl rfl (zInv_v (np := 2) rfl rfl hv rfl) (s92_0 n l0 l1 l2 M hc (fun r M1 h => h)) ?_
  exact s65_6 n    l0 l1 l2 l3 (b92_0 n l0 l1 l2 M).1 (b92_0 n l0 l1 l2 M).2 hp hQ
/-! X11_paint -/
def b66_24 (n : Nat)   (M : zM) : Int32 × zM := ((0 : Int32), M)
def p66_24 (n : Nat)   (M : zM) : Prop := True
theorem s66_24 (n : Nat)     (M : zM) (hp : p66_24 n   M) {Q : Option Value → zM → Prop} (hQ : ∀ r M1, zRI (b66_24 n   M) r M1 → Q r M1) : zWP 66 24 [none, none, none, none] [] M Q := by
  unfold b66_24 at hQ
  unfold p66_24 at hp
  refine wp_go 1 (pc' := 25) (L' := [none, none, none, none]) (st' := [.int (0 : Int32)]) (M' := M) rfl ?_
  exact wp_ret (r := some (.int (0 : Int32))) rfl rfl (hQ _ _ ⟨rfl, rfl⟩)
def b66_36 (n : Nat)   (M : zM) : Int32 × zM := ((0 : Int32), M)
def p66_36 (n : Nat)   (M : zM) : Prop := True
theorem s66_36 (n : Nat)     (M : zM) (hp : p66_36 n   M) {Q : Option Value → zM → Prop} (hQ : ∀ r M1, zRI (b66_36 n   M) r M1 → Q r M1) : zWP 66 36 [none, none, none, none] [] M Q := by
  unfold b66_36 at hQ
  unfold p66_36 at hp
  refine wp_go 1 (pc' := 37) (L' := [none, none, none, none]) (st' := [.int (0 : Int32)]) (M' := M) rfl ?_
  exact wp_ret (r := some (.int (0 : Int32))) rfl rfl (hQ _ _ ⟨rfl, rfl⟩)
def b66_50 (n : Nat)   (M : zM) : Int32 × zM := ((1 : Int32), M)
def p66_50 (n : Nat)   (M : zM) : Prop := True
theorem s66_50 (n : Nat)     (M : zM) (hp : p66_50 n   M) {Q : Option Value → zM → Prop} (hQ : ∀ r M1, zRI (b66_50 n   M) r M1 → Q r M1) : zWP 66 50 [none, none, none, none] [] M Q := by
  unfold b66_50 at hQ
  unfold p66_50 at hp
  refine wp_go 1 (pc' := 51) (L' := [none, none, none, none]) (st' := [.int (1 : Int32)]) (M' := M) rfl ?_
  exact wp_ret (r := some (.int (1 : Int32))) rfl rfl (hQ _ _ ⟨rfl, rfl⟩)
def b66_6 (n : Nat)  (l0 : Nat) (l1 : Int32) (l2 : Int32) (l3 : Int32) (s0 : Int32) (M : zM) : Int32 × zM := (if s0 = 0 then b66_24 n  M else (if (zI M (zQ M (zQ M (zQ M l0 0) l1.toNatClampNeg) 6) 2) = 0 then b66_24 n  M else (if l3 < 0 then b66_36 n  M else (if l3 ≤ (9 : Int32) then b66_50 n  (zWI M (zQ M (zQ M (zQ M l0 0) l1.toNatClampNeg) 3) l2.toNatClampNeg l3) else b66_36 n  M))))
def p66_6 (n : Nat)  (l0 : Nat) (l1 : Int32) (l2 : Int32) (l3 : Int32) (s0 : Int32) (M : zM) : Prop := ((s0 = 0 → p66_24 n  M) ∧ (¬ s0 = 0 → (zHasQ 9 11 l0 M 0) ∧ ((zOkR (zQ M l0 0) l1 M) ∧ ((zHasQ 9 109 (zQ M (zQ M l0 0) l1.toNatClampNeg) M 6) ∧ ((zHasK (zQ M (zQ M (zQ M l0 0) l1.toNatClampNeg) 6) M) ∧ ((((zI M (zQ M (zQ M (zQ M l0 0) l1.toNatClampNeg) 6) 2) = 0 → p66_24 n  M) ∧ (¬ (zI M (zQ M (zQ M (zQ M l0 0) l1.toNatClampNeg) 6) 2) = 0 → ((l3 < 0 → p66_36 n  M) ∧ (¬ l3 < 0 → ((l3 ≤ (9 : Int32) → (zHasQ 9 11 l0 M 0) ∧ ((zOkR (zQ M l0 0) l1 M) ∧ ((zHasQ 9 162 (zQ M (zQ M l0 0) l1.toNatClampNeg) M 3) ∧ ((zOkT 1 (zQ M (zQ M (zQ M l0 0) l1.toNatClampNeg) 3) l2 M) ∧ (p66_50 n  (zWI M (zQ M (zQ M (zQ M l0 0) l1.toNatClampNeg) 3) l2.toNatClampNeg l3)))))) ∧ (¬ l3 ≤ (9 : Int32) → p66_36 n  M))))))))))))
theorem s66_6 (n : Nat)    (l0 : Nat) (l1 : Int32) (l2 : Int32) (l3 : Int32) (s0 : Int32) (M : zM) (hp : p66_6 n  l0 l1 l2 l3 s0 M) {Q : Option Value → zM → Prop} (hQ : ∀ r M1, zRI (b66_6 n  l0 l1 l2 l3 s0 M) r M1 → Q r M1) : zWP 66 6 [some (.ref l0), some (.int l1), some (.int l2), some (.int l3)] [.int s0] M Q := by
  unfold b66_6 at hQ
  unfold p66_6 at hp
  refine wp_if_eq (t := 24) rfl rfl (fun hc => ?_) (fun hc => ?_)
  · rw [if_pos hc] at hQ
    replace hp := hp.1 hc
    refine wp_le [none, none, none, none] (zLe_of (by simp [zLeB])) ?_
    exact s66_24 n    M hp hQ
  · rw [if_neg hc] at hQ
    replace hp := hp.2 hc
    refine wp_go 1 (pc' := 10) (L' := [some (.ref l0), some (.int l1), some (.int l2), some (.int l3)]) (st' := [.ref l0]) (M' := M) rfl ?_
    obtain ⟨hc, hp⟩ := hp
    refine wq_getQ (j := 0) rfl hc ?_
    refine wp_go 1 (pc' := 14) (L' := [some (.ref l0), some (.int l1), some (.int l2), some (.int l3)]) (st' := [.int l1, .ref (zQ M l0 0)]) (M' := M) rfl ?_
    obtain ⟨hc, hp⟩ := hp
    refine wq_aald rfl hc ?_
    obtain ⟨hc, hp⟩ := hp
    refine wq_getQ (j := 6) rfl hc ?_
    obtain ⟨hc, hp⟩ := hp
    refine wq_getK (j := 2) rfl rfl hc ?_
    refine wp_if_ne (t := 26) rfl rfl (fun hc => ?_) (fun hc => ?_)
    · rw [if_neg hc] at hQ
      replace hp := hp.2 hc
      refine wp_go 1 (pc' := 27) (L' := [some (.ref l0), some (.int l1), some (.int l2), some (.int l3)]) (st' := [.int l3]) (M' := M) rfl ?_
      refine wp_if_lt (t := 36) rfl rfl (fun hc => ?_) (fun hc => ?_)
      · rw [if_pos hc] at hQ
        replace hp := hp.1 hc
        refine wp_le [none, none, none, none] (zLe_of (by simp [zLeB])) ?_
        exact s66_36 n    M hp hQ
      · rw [if_neg hc] at hQ
        replace hp := hp.2 hc
        refine wp_go 2 (pc' := 33) (L' := [some (.ref l0), some (.int l1), some (.int l2), some (.int l3)]) (st' := [.int (9 : Int32), .int l3]) (M' := M) rfl ?_
        refine wp_ic_le (t := 38) rfl rfl (fun hc => ?_) (fun hc => ?_)
        · rw [if_pos hc] at hQ
          replace hp := hp.1 hc
          refine wp_go 1 (pc' := 39) (L' := [some (.ref l0), some (.int l1), some (.int l2), some (.int l3)]) (st' := [.ref l0]) (M' := M) rfl ?_
          obtain ⟨hc, hp⟩ := hp
          refine wq_getQ (j := 0) rfl hc ?_
          refine wp_go 1 (pc' := 43) (L' := [some (.ref l0), some (.int l1), some (.int l2), some (.int l3)]) (st' := [.int l1, .ref (zQ M l0 0)]) (M' := M) rfl ?_
          obtain ⟨hc, hp⟩ := hp
          refine wq_aald rfl hc ?_
          obtain ⟨hc, hp⟩ := hp
          refine wq_getQ (j := 3) rfl hc ?_
          refine wp_go 2 (pc' := 49) (L' := [some (.ref l0), some (.int l1), some (.int l2), some (.int l3)]) (st' := [.int l3, .int l2, .ref (zQ M (zQ M (zQ M l0 0) l1.toNatClampNeg) 3)]) (M' := M) rfl ?_
          obtain ⟨hc, hp⟩ := hp
          refine wq_iast rfl hc ?_
          refine wp_le [none, none, none, none] (zLe_of (by simp [zLeB])) ?_
          exact s66_50 n    (zWI M (zQ M (zQ M (zQ M l0 0) l1.toNatClampNeg) 3) l2.toNatClampNeg l3) hp hQ
        · rw [if_neg hc] at hQ
          replace hp := hp.2 hc
          refine wp_le [none, none, none, none] (zLe_of (by simp [zLeB])) ?_
          exact s66_36 n    M hp hQ
    · rw [if_pos hc] at hQ
      replace hp := hp.1 hc
      refine wp_le [none, none, none, none] (zLe_of (by simp [zLeB])) ?_
      exact s66_24 n    M hp hQ
def b66_0 (n : Nat)  (l0 : Nat) (l1 : Int32) (l2 : Int32) (l3 : Int32) (M : zM) : Int32 × zM := b66_6 n  l0 l1 l2 l3 (b92_0 n l0 l1 l2 M).1 (b92_0 n l0 l1 l2 M).2
def p66_0 (n : Nat)  (l0 : Nat) (l1 : Int32) (l2 : Int32) (l3 : Int32) (M : zM) : Prop := (zHasC 66 145 l0 M 92 2) ∧ ((p92_0 n l0 l1 l2 M) ∧ (p66_6 n  l0 l1 l2 l3 (b92_0 n l0 l1 l2 M).1 (b92_0 n l0 l1 l2 M).2))
theorem s66_0 (n : Nat)    (l0 : Nat) (l1 : Int32) (l2 : Int32) (l3 : Int32) (M : zM) (hp : p66_0 n  l0 l1 l2 l3 M) {Q : Option Value → zM → Prop} (hQ : ∀ r M1, zRI (b66_0 n  l0 l1 l2 l3 M) r M1 → Q r M1) : zWP 66 0 [some (.ref l0), some (.int l1), some (.int l2), some (.int l3)] [] M Q := by
  unfold b66_0 at hQ
  unfold p66_0 at hp
  refine wp_go 3 (pc' := 3) (L' := [some (.ref l0), some (.int l1), some (.int l2), some (.int l3)]) (st' := [.int l2, .int l1, .ref l0]) (M' := M) rfl ?_
  obtain ⟨hv, hp⟩ := hp
  obtain ⟨hc, hp⟩ := hp
  refine wp_calli (v := (b92_0 n l0 l1 l2 M).1) (M1 := (b92_0 n l0 l1 l2 M).2) rfl rfl rfl (zInv_v (np := 2) rfl rfl hv rfl) (s92_0 n l0 l1 l2 M hc (fun r M1 h => h)) ?_
  exact s66_6 n    l0 l1 l2 l3 (b92_0 n l0 l1 l2 M).1 (b92_0 n l0 l1 l2 M).2 hp hQ
/-! X11_sherdsIn -/
def b113_28 (n : Nat) (k4 : Nat → Int32 → Int32 → Int32 → zM → Int32 × zM) (l0 : Nat) (l1 : Int32) (l2 : Int32) (l3 : Int32) (M : zM) : Int32 × zM := k4 l0 l1 l2 (l3 + Int32.ofInt 1) M
def p113_28 (n : Nat) (q4 : Nat → Int32 → Int32 → Int32 → zM → Prop) (l0 : Nat) (l1 : Int32) (l2 : Int32) (l3 : Int32) (M : zM) : Prop := q4 l0 l1 l2 (l3 + Int32.ofInt 1) M
theorem s113_28 (n : Nat) (k4 : Nat → Int32 → Int32 → Int32 → zM → Int32 × zM) (q4 : Nat → Int32 → Int32 → Int32 → zM → Prop) (h4 : ∀ (l0 : Nat) (l1 : Int32) (l2 : Int32) (l3 : Int32) (M : zM), q4 l0 l1 l2 l3 M → ∀ {Q : Option Value → zM → Prop}, (∀ r M1, zRI (k4 l0 l1 l2 l3 M) r M1 → Q r M1) → zWP 113 4 [some (.ref l0), some (.int l1), some (.int l2), some (.int l3)] [] M Q) (l0 : Nat) (l1 : Int32) (l2 : Int32) (l3 : Int32) (M : zM) (hp : p113_28 n q4 l0 l1 l2 l3 M) {Q : Option Value → zM → Prop} (hQ : ∀ r M1, zRI (b113_28 n k4 l0 l1 l2 l3 M) r M1 → Q r M1) : zWP 113 28 [some (.ref l0), some (.int l1), some (.int l2), some (.int l3)] [] M Q := by
  unfold b113_28 at hQ
  unfold p113_28 at hp
  refine wp_go 2 (pc' := 4) (L' := [some (.ref l0), some (.int l1), some (.int l2), some (.int (l3 + Int32.ofInt 1))]) (st' := []) (M' := M) rfl ?_
  exact h4 l0 l1 l2 (l3 + Int32.ofInt 1) M hp hQ
def c113_4 (n : Nat) (k4 : Nat → Int32 → Int32 → Int32 → zM → Int32 × zM) (l0 : Nat) (l1 : Int32) (l2 : Int32) (l3 : Int32) (M : zM) : Int32 × zM := (if (zI M l0 12) ≤ l3 then (l2, M) else (if (zI M (zQ M (zQ M l0 4) 0) l3.toNatClampNeg) = l1 then b113_28 n k4 l0 l1 (l2 + Int32.ofInt 1) l3 M else b113_28 n k4 l0 l1 l2 l3 M))
def d113_4 (n : Nat) (q4 : Nat → Int32 → Int32 → Int32 → zM → Prop) (l0 : Nat) (l1 : Int32) (l2 : Int32) (l3 : Int32) (M : zM) : Prop := (zHasI 9 78 l0 M 12) ∧ ((((zI M l0 12) ≤ l3 → True) ∧ (¬ (zI M l0 12) ≤ l3 → (zHasQ 9 35 l0 M 4) ∧ ((zHasQ 9 192 (zQ M l0 4) M 0) ∧ ((zOkI (zQ M (zQ M l0 4) 0) l3 M) ∧ ((((zI M (zQ M (zQ M l0 4) 0) l3.toNatClampNeg) = l1 → p113_28 n q4 l0 l1 (l2 + Int32.ofInt 1) l3 M) ∧ (¬ (zI M (zQ M (zQ M l0 4) 0) l3.toNatClampNeg) = l1 → p113_28 n q4 l0 l1 l2 l3 M))))))))
theorem t113_4 (n : Nat) (k4 : Nat → Int32 → Int32 → Int32 → zM → Int32 × zM) (q4 : Nat → Int32 → Int32 → Int32 → zM → Prop) (h4 : ∀ (l0 : Nat) (l1 : Int32) (l2 : Int32) (l3 : Int32) (M : zM), q4 l0 l1 l2 l3 M → ∀ {Q : Option Value → zM → Prop}, (∀ r M1, zRI (k4 l0 l1 l2 l3 M) r M1 → Q r M1) → zWP 113 4 [some (.ref l0), some (.int l1), some (.int l2), some (.int l3)] [] M Q) (l0 : Nat) (l1 : Int32) (l2 : Int32) (l3 : Int32) (M : zM) (hp : d113_4 n q4 l0 l1 l2 l3 M) {Q : Option Value → zM → Prop} (hQ : ∀ r M1, zRI (c113_4 n k4 l0 l1 l2 l3 M) r M1 → Q r M1) : zWP 113 4 [some (.ref l0), some (.int l1), some (.int l2), some (.int l3)] [] M Q := by
  unfold c113_4 at hQ
  unfold d113_4 at hp
  refine wp_go 2 (pc' := 6) (L' := [some (.ref l0), some (.int l1), some (.int l2), some (.int l3)]) (st' := [.ref l0, .int l3]) (M' := M) rfl ?_
  obtain ⟨hc, hp⟩ := hp
  refine wq_getI (j := 12) rfl hc ?_
  refine wp_ic_ge (t := 34) rfl rfl (fun hc => ?_) (fun hc => ?_)
  · rw [if_pos hc] at hQ
    replace hp := hp.1 hc
    refine wp_go 1 (pc' := 35) (L' := [some (.ref l0), some (.int l1), some (.int l2), some (.int l3)]) (st' := [.int l2]) (M' := M) rfl ?_
    exact wp_ret (r := some (.int l2)) rfl rfl (hQ _ _ ⟨rfl, rfl⟩)
  · rw [if_neg hc] at hQ
    replace hp := hp.2 hc
    refine wp_go 1 (pc' := 13) (L' := [some (.ref l0), some (.int l1), some (.int l2), some (.int l3)]) (st' := [.ref l0]) (M' := M) rfl ?_
    obtain ⟨hc, hp⟩ := hp
    refine wq_getQ (j := 4) rfl hc ?_
    obtain ⟨hc, hp⟩ := hp
    refine wq_getQ (j := 0) rfl hc ?_
    refine wp_go 1 (pc' := 20) (L' := [some (.ref l0), some (.int l1), some (.int l2), some (.int l3)]) (st' := [.int l3, .ref (zQ M (zQ M l0 4) 0)]) (M' := M) rfl ?_
    obtain ⟨hc, hp⟩ := hp
    refine wq_iald rfl hc ?_
    refine wp_go 1 (pc' := 22) (L' := [some (.ref l0), some (.int l1), some (.int l2), some (.int l3)]) (st' := [.int l1, .int (zI M (zQ M (zQ M l0 4) 0) l3.toNatClampNeg)]) (M' := M) rfl ?_
    refine wp_ic_ne (t := 28) rfl rfl (fun hc => ?_) (fun hc => ?_)
    · rw [if_neg hc] at hQ
      replace hp := hp.2 hc
      exact s113_28 n k4 q4 h4 l0 l1 l2 l3 M hp hQ
    · rw [if_pos hc] at hQ
      replace hp := hp.1 hc
      refine wp_go 1 (pc' := 28) (L' := [some (.ref l0), some (.int l1), some (.int (l2 + Int32.ofInt 1)), some (.int l3)]) (st' := []) (M' := M) rfl ?_
      exact s113_28 n k4 q4 h4 l0 l1 (l2 + Int32.ofInt 1) l3 M hp hQ
def b113_4 (n : Nat)  : Nat → Nat → Int32 → Int32 → Int32 → zM → Int32 × zM
  | 0, _, _, _, _, M => (0, M)
  | k + 1, l0, l1, l2, l3, M => c113_4 n  (b113_4 n  k) l0 l1 l2 l3 M
def p113_4 (n : Nat)  : Nat → Nat → Int32 → Int32 → Int32 → zM → Prop
  | 0, _, _, _, _, _ => False
  | k + 1, l0, l1, l2, l3, M => d113_4 n  (p113_4 n  k) l0 l1 l2 l3 M
theorem s113_4 (n : Nat)    : ∀ (k : Nat) (l0 : Nat) (l1 : Int32) (l2 : Int32) (l3 : Int32) (M : zM), p113_4 n  k l0 l1 l2 l3 M → ∀ {Q : Option Value → zM → Prop}, (∀ r M1, zRI (b113_4 n  k l0 l1 l2 l3 M) r M1 → Q r M1) → zWP 113 4 [some (.ref l0), some (.int l1), some (.int l2), some (.int l3)] [] M Q
  | 0, _, _, _, _, _, h, _, _ => h.elim
  | k + 1, l0, l1, l2, l3, M, h, _, hQ => t113_4 n  (b113_4 n  k)  (p113_4 n  k)  (s113_4 n    k) l0 l1 l2 l3 M h hQ
def b113_0 (n : Nat)  (l0 : Nat) (l1 : Int32) (M : zM) : Int32 × zM := b113_4 n  n l0 l1 (0 : Int32) (0 : Int32) M
def p113_0 (n : Nat)  (l0 : Nat) (l1 : Int32) (M : zM) : Prop := p113_4 n  n l0 l1 (0 : Int32) (0 : Int32) M
theorem s113_0 (n : Nat)    (l0 : Nat) (l1 : Int32) (M : zM) (hp : p113_0 n  l0 l1 M) {Q : Option Value → zM → Prop} (hQ : ∀ r M1, zRI (b113_0 n  l0 l1 M) r M1 → Q r M1) : zWP 113 0 [some (.ref l0), some (.int l1), none, none] [] M Q := by
  unfold b113_0 at hQ
  unfold p113_0 at hp
  refine wp_go 4 (pc' := 4) (L' := [some (.ref l0), some (.int l1), some (.int (0 : Int32)), some (.int (0 : Int32))]) (st' := []) (M' := M) rfl ?_
  exact s113_4 n    n l0 l1 (0 : Int32) (0 : Int32) M hp hQ
/-! X11_isAlone -/
def b94_22 (n : Nat)  (s0 : Int32) (M : zM) : Int32 × zM := (s0, M)
def p94_22 (n : Nat)  (s0 : Int32) (M : zM) : Prop := zNar .boolean s0 = true
theorem s94_22 (n : Nat)    (s0 : Int32) (M : zM) (hp : p94_22 n  s0 M) {Q : Option Value → zM → Prop} (hQ : ∀ r M1, zRI (b94_22 n  s0 M) r M1 → Q r M1) : zWP 94 22 [none, none] [.int s0] M Q := by
  unfold b94_22 at hQ
  unfold p94_22 at hp
  exact wp_retz rfl rfl hp (hQ _ _ ⟨rfl, rfl⟩)
def b94_13 (n : Nat)  (s0 : Int32) (M : zM) : Int32 × zM := (if s0 = (1 : Int32) then b94_22 n  (1 : Int32) M else b94_22 n  (0 : Int32) M)
def p94_13 (n : Nat)  (s0 : Int32) (M : zM) : Prop := ((s0 = (1 : Int32) → p94_22 n  (1 : Int32) M) ∧ (¬ s0 = (1 : Int32) → p94_22 n  (0 : Int32) M))
theorem s94_13 (n : Nat)    (s0 : Int32) (M : zM) (hp : p94_13 n  s0 M) {Q : Option Value → zM → Prop} (hQ : ∀ r M1, zRI (b94_13 n  s0 M) r M1 → Q r M1) : zWP 94 13 [none, none] [.int s0] M Q := by
  unfold b94_13 at hQ
  unfold p94_13 at hp
  refine wp_go 1 (pc' := 14) (L' := [none, none]) (st' := [.int (1 : Int32), .int s0]) (M' := M) rfl ?_
  refine wp_ic_ne (t := 21) rfl rfl (fun hc => ?_) (fun hc => ?_)
  · rw [if_neg hc] at hQ
    replace hp := hp.2 hc
    refine wp_go 1 (pc' := 22) (L' := [none, none]) (st' := [.int (0 : Int32)]) (M' := M) rfl ?_
    exact s94_22 n    (0 : Int32) M hp hQ
  · rw [if_pos hc] at hQ
    replace hp := hp.1 hc
    refine wp_go 2 (pc' := 22) (L' := [none, none]) (st' := [.int (1 : Int32)]) (M' := M) rfl ?_
    exact s94_22 n    (1 : Int32) M hp hQ
def b94_0 (n : Nat)  (l0 : Nat) (l1 : Int32) (M : zM) : Int32 × zM := b94_13 n  (b113_0 n l0 (zI M (zQ M (zQ M l0 4) 0) l1.toNatClampNeg) M).1 (b113_0 n l0 (zI M (zQ M (zQ M l0 4) 0) l1.toNatClampNeg) M).2
def p94_0 (n : Nat)  (l0 : Nat) (l1 : Int32) (M : zM) : Prop := (zHasQ 9 35 l0 M 4) ∧ ((zHasQ 9 192 (zQ M l0 4) M 0) ∧ ((zOkI (zQ M (zQ M l0 4) 0) l1 M) ∧ ((zHasC 94 360 l0 M 113 1) ∧ ((p113_0 n l0 (zI M (zQ M (zQ M l0 4) 0) l1.toNatClampNeg) M) ∧ (p94_13 n  (b113_0 n l0 (zI M (zQ M (zQ M l0 4) 0) l1.toNatClampNeg) M).1 (b113_0 n l0 (zI M (zQ M (zQ M l0 4) 0) l1.toNatClampNeg) M).2)))))
theorem s94_0 (n : Nat)    (l0 : Nat) (l1 : Int32) (M : zM) (hp : p94_0 n  l0 l1 M) {Q : Option Value → zM → Prop} (hQ : ∀ r M1, zRI (b94_0 n  l0 l1 M) r M1 → Q r M1) : zWP 94 0 [some (.ref l0), some (.int l1)] [] M Q := by
  unfold b94_0 at hQ
  unfold p94_0 at hp
  refine wp_go 2 (pc' := 2) (L' := [some (.ref l0), some (.int l1)]) (st' := [.ref l0, .ref l0]) (M' := M) rfl ?_
  obtain ⟨hc, hp⟩ := hp
  refine wq_getQ (j := 4) rfl hc ?_
  obtain ⟨hc, hp⟩ := hp
  refine wq_getQ (j := 0) rfl hc ?_
  refine wp_go 1 (pc' := 9) (L' := [some (.ref l0), some (.int l1)]) (st' := [.int l1, .ref (zQ M (zQ M l0 4) 0), .ref l0]) (M' := M) rfl ?_
  obtain ⟨hc, hp⟩ := hp
  refine wq_iald rfl hc ?_
  obtain ⟨hv, hp⟩ := hp
  obtain ⟨hc, hp⟩ := hp
  refine wp_calli (v := (b113_0 n l0 (zI M (zQ M (zQ M l0 4) 0) l1.toNatClampNeg) M).1) (M1 := (b113_0 n l0 (zI M (zQ M (zQ M l0 4) 0) l1.toNatClampNeg) M).2) rfl rfl rfl (zInv_v (np := 1) rfl rfl hv rfl) (s113_0 n l0 (zI M (zQ M (zQ M l0 4) 0) l1.toNatClampNeg) M hc (fun r M1 h => h)) ?_
  refine wp_le [none, none] (zLe_of (by simp [zLeB])) ?_
  exact s94_13 n    (b113_0 n l0 (zI M (zQ M (zQ M l0 4) 0) l1.toNatClampNeg) M).1 (b113_0 n l0 (zI M (zQ M (zQ M l0 4) 0) l1.toNatClampNeg) M).2 hp hQ
