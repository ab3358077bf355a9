/-! L_law -/
def b198_1243 (n : Nat) (k23 : Nat → Nat → Nat → Nat → Int32 → zM → Int32 × zM) (l0 : Nat) (l1 : Nat) (l2 : Nat) (l3 : Nat) (l4 : Int32) (M : zM) : Int32 × zM := k23 l0 l1 l2 l3 (l4 + Int32.ofInt 6) M
def p198_1243 (n : Nat) (q23 : Nat → Nat → Nat → Nat → Int32 → zM → Prop) (l0 : Nat) (l1 : Nat) (l2 : Nat) (l3 : Nat) (l4 : Int32) (M : zM) : Prop := q23 l0 l1 l2 l3 (l4 + Int32.ofInt 6) M
set_option maxRecDepth 100000 in
set_option maxHeartbeats 4000000 in
theorem s198_1243 (n : Nat) (k23 : Nat → Nat → Nat → Nat → Int32 → zM → Int32 × zM) (q23 : Nat → Nat → Nat → Nat → Int32 → zM → Prop) (h23 : ∀ (l0 : Nat) (l1 : Nat) (l2 : Nat) (l3 : Nat) (l4 : Int32) (M : zM), q23 l0 l1 l2 l3 l4 M → ∀ {Q : Option Value → zM → Prop}, (∀ r M1, zRI (k23 l0 l1 l2 l3 l4 M) r M1 → Q r M1) → zWP 198 23 [some (.ref l0), some (.ref l1), some (.ref l2), some (.ref l3), some (.int l4), none, none] [] M Q) (l0 : Nat) (l1 : Nat) (l2 : Nat) (l3 : Nat) (l4 : Int32) (M : zM) (hp : p198_1243 n q23 l0 l1 l2 l3 l4 M) {Q : Option Value → zM → Prop} (hQ : ∀ r M1, zRI (b198_1243 n k23 l0 l1 l2 l3 l4 M) r M1 → Q r M1) : zWP 198 1243 [some (.ref l0), some (.ref l1), some (.ref l2), some (.ref l3), some (.int l4), none, none] [] M Q := by
  unfold b198_1243 at hQ
  unfold p198_1243 at hp
  refine wp_go 2 (pc' := 23) (L' := [some (.ref l0), some (.ref l1), some (.ref l2), some (.ref l3), some (.int (l4 + Int32.ofInt 6)), none, none]) (st' := []) (M' := M) rfl ?_
  exact h23 l0 l1 l2 l3 (l4 + Int32.ofInt 6) M hp hQ
def b198_184 (n : Nat) (k23 : Nat → Nat → Nat → Nat → Int32 → zM → Int32 × zM) (l0 : Nat) (l1 : Nat) (l2 : Nat) (l3 : Nat) (l4 : Int32) (s0 : Int32) (s1 : Int32) (M : zM) : Int32 × zM := (if s0 = s1 then b198_1243 n k23 l0 l1 l2 l3 l4 M else ((0 : Int32), M))
def p198_184 (n : Nat) (q23 : Nat → Nat → Nat → Nat → Int32 → zM → Prop) (l0 : Nat) (l1 : Nat) (l2 : Nat) (l3 : Nat) (l4 : Int32) (s0 : Int32) (s1 : Int32) (M : zM) : Prop := ((s0 = s1 → p198_1243 n q23 l0 l1 l2 l3 l4 M) ∧ (¬ s0 = s1 → True))
set_option maxRecDepth 100000 in
set_option maxHeartbeats 4000000 in
theorem s198_184 (n : Nat) (k23 : Nat → Nat → Nat → Nat → Int32 → zM → Int32 × zM) (q23 : Nat → Nat → Nat → Nat → Int32 → zM → Prop) (h23 : ∀ (l0 : Nat) (l1 : Nat) (l2 : Nat) (l3 : Nat) (l4 : Int32) (M : zM), q23 l0 l1 l2 l3 l4 M → ∀ {Q : Option Value → zM → Prop}, (∀ r M1, zRI (k23 l0 l1 l2 l3 l4 M) r M1 → Q r M1) → zWP 198 23 [some (.ref l0), some (.ref l1), some (.ref l2), some (.ref l3), some (.int l4), none, none] [] M Q) (l0 : Nat) (l1 : Nat) (l2 : Nat) (l3 : Nat) (l4 : Int32) (s0 : Int32) (s1 : Int32) (M : zM) (hp : p198_184 n q23 l0 l1 l2 l3 l4 s0 s1 M) {Q : Option Value → zM → Prop} (hQ : ∀ r M1, zRI (b198_184 n k23 l0 l1 l2 l3 l4 s0 s1 M) r M1 → Q r M1) : zWP 198 184 [some (.ref l0), some (.ref l1), some (.ref l2), some (.ref l3), some (.int l4), none, none] [.int s1, .int s0] M Q := by
  unfold b198_184 at hQ
  unfold p198_184 at hp
  refine wp_ic_eq (t := 1243) rfl rfl (fun hc => ?_) (fun hc => ?_)
  · rw [if_pos hc] at hQ
    replace hp := hp.1 hc
    exact s198_1243 n k23 q23 h23 l0 l1 l2 l3 l4 M hp hQ
  · rw [if_neg hc] at hQ
    replace hp := hp.2 hc
    refine wp_go 1 (pc' := 188) (L' := [some (.ref l0), some (.ref l1), some (.ref l2), some (.ref l3), some (.int l4), none, none]) (st' := [.int (0 : Int32)]) (M' := M) rfl ?_
    exact wp_ret (r := some (.int (0 : Int32))) rfl rfl (hQ _ _ ⟨rfl, rfl⟩)
def b198_174 (n : Nat) (k23 : Nat → Nat → Nat → Nat → Int32 → zM → Int32 × zM) (l0 : Nat) (l1 : Nat) (l2 : Nat) (l3 : Nat) (l4 : Int32) (s0 : Int32) (M : zM) : Int32 × zM := b198_184 n k23 l0 l1 l2 l3 l4 s0 (b127_0 n l2 (zI M l0 (l4 + (1 : Int32)).toNatClampNeg) M).1 (b127_0 n l2 (zI M l0 (l4 + (1 : Int32)).toNatClampNeg) M).2
def p198_174 (n : Nat) (q23 : Nat → Nat → Nat → Nat → Int32 → zM → Prop) (l0 : Nat) (l1 : Nat) (l2 : Nat) (l3 : Nat) (l4 : Int32) (s0 : Int32) (M : zM) : Prop := (zOkI l0 (l4 + (1 : Int32)) M) ∧ ((zHasC 198 29 l2 M 127 1) ∧ ((p127_0 n l2 (zI M l0 (l4 + (1 : Int32)).toNatClampNeg) M) ∧ (p198_184 n q23 l0 l1 l2 l3 l4 s0 (b127_0 n l2 (zI M l0 (l4 + (1 : Int32)).toNatClampNeg) M).1 (b127_0 n l2 (zI M l0 (l4 + (1 : Int32)).toNatClampNeg) M).2)))
set_option maxRecDepth 100000 in
set_option maxHeartbeats 4000000 in
theorem s198_174 (n : Nat) (k23 : Nat → Nat → Nat → Nat → Int32 → zM → Int32 × zM) (q23 : Nat → Nat → Nat → Nat → Int32 → zM → Prop) (h23 : ∀ (l0 : Nat) (l1 : Nat) (l2 : Nat) (l3 : Nat) (l4 : Int32) (M : zM), q23 l0 l1 l2 l3 l4 M → ∀ {Q : Option Value → zM → Prop}, (∀ r M1, zRI (k23 l0 l1 l2 l3 l4 M) r M1 → Q r M1) → zWP 198 23 [some (.ref l0), some (.ref l1), some (.ref l2), some (.ref l3), some (.int l4), none, none] [] M Q) (l0 : Nat) (l1 : Nat) (l2 : Nat) (l3 : Nat) (l4 : Int32) (s0 : Int32) (M : zM) (hp : p198_174 n q23 l0 l1 l2 l3 l4 s0 M) {Q : Option Value → zM → Prop} (hQ : ∀ r M1, zRI (b198_174 n k23 l0 l1 l2 l3 l4 s0 M) r M1 → Q r M1) : zWP 198 174 [some (.ref l0), some (.ref l1), some (.ref l2), some (.ref l3), some (.int l4), none, none] [.int s0] M Q := by
  unfold b198_174 at hQ
  unfold p198_174 at hp
  refine wp_go 5 (pc' := 180) (L' := [some (.ref l0), some (.ref l1), some (.ref l2), some (.ref l3), some (.int l4), none, none]) (st' := [.int (l4 + (1 : Int32)), .ref l0, .ref l2, .int s0]) (M' := M) rfl ?_
  obtain ⟨hc, hp⟩ := hp
  refine wq_iald rfl hc ?_
  obtain ⟨hv, hp⟩ := hp
  obtain ⟨hc, hp⟩ := hp
  refine wp_calli (v := (b127_0 n l2 (zI M l0 (l4 + (1 : Int32)).toNatClampNeg) M).1) (M1 := (b127_0 n l2 (zI M l0 (l4 + (1 : Int32)).toNatClampNeg) M).2) rfl rfl rfl (zInv_v (np := 1) rfl rfl hv rfl) (s127_0 n l2 (zI M l0 (l4 + (1 : Int32)).toNatClampNeg) M hc (fun r M1 h => h)) ?_
  exact s198_184 n k23 q23 h23 l0 l1 l2 l3 l4 s0 (b127_0 n l2 (zI M l0 (l4 + (1 : Int32)).toNatClampNeg) M).1 (b127_0 n l2 (zI M l0 (l4 + (1 : Int32)).toNatClampNeg) M).2 hp hQ
def b198_233 (n : Nat) (k23 : Nat → Nat → Nat → Nat → Int32 → zM → Int32 × zM) (l0 : Nat) (l1 : Nat) (l2 : Nat) (l3 : Nat) (l4 : Int32) (s0 : Int32) (s1 : Int32) (M : zM) : Int32 × zM := (if s0 = s1 then b198_1243 n k23 l0 l1 l2 l3 l4 M else ((0 : Int32), M))
def p198_233 (n : Nat) (q23 : Nat → Nat → Nat → Nat → Int32 → zM → Prop) (l0 : Nat) (l1 : Nat) (l2 : Nat) (l3 : Nat) (l4 : Int32) (s0 : Int32) (s1 : Int32) (M : zM) : Prop := ((s0 = s1 → p198_1243 n q23 l0 l1 l2 l3 l4 M) ∧ (¬ s0 = s1 → True))
set_option maxRecDepth 100000 in
set_option maxHeartbeats 4000000 in
theorem s198_233 (n : Nat) (k23 : Nat → Nat → Nat → Nat → Int32 → zM → Int32 × zM) (q23 : Nat → Nat → Nat → Nat → Int32 → zM → Prop) (h23 : ∀ (l0 : Nat) (l1 : Nat) (l2 : Nat) (l3 : Nat) (l4 : Int32) (M : zM), q23 l0 l1 l2 l3 l4 M → ∀ {Q : Option Value → zM → Prop}, (∀ r M1, zRI (k23 l0 l1 l2 l3 l4 M) r M1 → Q r M1) → zWP 198 23 [some (.ref l0), some (.ref l1), some (.ref l2), some (.ref l3), some (.int l4), none, none] [] M Q) (l0 : Nat) (l1 : Nat) (l2 : Nat) (l3 : Nat) (l4 : Int32) (s0 : Int32) (s1 : Int32) (M : zM) (hp : p198_233 n q23 l0 l1 l2 l3 l4 s0 s1 M) {Q : Option Value → zM → Prop} (hQ : ∀ r M1, zRI (b198_233 n k23 l0 l1 l2 l3 l4 s0 s1 M) r M1 → Q r M1) : zWP 198 233 [some (.ref l0), some (.ref l1), some (.ref l2), some (.ref l3), some (.int l4), none, none] [.int s1, .int s0] M Q := by
  unfold b198_233 at hQ
  unfold p198_233 at hp
  refine wp_ic_eq (t := 1243) rfl rfl (fun hc => ?_) (fun hc => ?_)
  · rw [if_pos hc] at hQ
    replace hp := hp.1 hc
    exact s198_1243 n k23 q23 h23 l0 l1 l2 l3 l4 M hp hQ
  · rw [if_neg hc] at hQ
    replace hp := hp.2 hc
    refine wp_go 1 (pc' := 237) (L' := [some (.ref l0), some (.ref l1), some (.ref l2), some (.ref l3), some (.int l4), none, none]) (st' := [.int (0 : Int32)]) (M' := M) rfl ?_
    exact wp_ret (r := some (.int (0 : Int32))) rfl rfl (hQ _ _ ⟨rfl, rfl⟩)
def b198_211 (n : Nat) (k23 : Nat → Nat → Nat → Nat → Int32 → zM → Int32 × zM) (l0 : Nat) (l1 : Nat) (l2 : Nat) (l3 : Nat) (l4 : Int32) (s0 : Int32) (M : zM) : Int32 × zM := b198_233 n k23 l0 l1 l2 l3 l4 s0 (b128_0 n l2 (zI M l0 (l4 + (1 : Int32)).toNatClampNeg) (zI M l0 (l4 + (2 : Int32)).toNatClampNeg) (zI M l0 (l4 + (3 : Int32)).toNatClampNeg) M).1 (b128_0 n l2 (zI M l0 (l4 + (1 : Int32)).toNatClampNeg) (zI M l0 (l4 + (2 : Int32)).toNatClampNeg) (zI M l0 (l4 + (3 : Int32)).toNatClampNeg) M).2
def p198_211 (n : Nat) (q23 : Nat → Nat → Nat → Nat → Int32 → zM → Prop) (l0 : Nat) (l1 : Nat) (l2 : Nat) (l3 : Nat) (l4 : Int32) (s0 : Int32) (M : zM) : Prop := (zOkI l0 (l4 + (1 : Int32)) M) ∧ ((zOkI l0 (l4 + (2 : Int32)) M) ∧ ((zOkI l0 (l4 + (3 : Int32)) M) ∧ ((zHasC 198 33 l2 M 128 3) ∧ ((p128_0 n l2 (zI M l0 (l4 + (1 : Int32)).toNatClampNeg) (zI M l0 (l4 + (2 : Int32)).toNatClampNeg) (zI M l0 (l4 + (3 : Int32)).toNatClampNeg) M) ∧ (p198_233 n q23 l0 l1 l2 l3 l4 s0 (b128_0 n l2 (zI M l0 (l4 + (1 : Int32)).toNatClampNeg) (zI M l0 (l4 + (2 : Int32)).toNatClampNeg) (zI M l0 (l4 + (3 : Int32)).toNatClampNeg) M).1 (b128_0 n l2 (zI M l0 (l4 + (1 : Int32)).toNatClampNeg) (zI M l0 (l4 + (2 : Int32)).toNatClampNeg) (zI M l0 (l4 + (3 : Int32)).toNatClampNeg) M).2)))))
set_option maxRecDepth 100000 in
set_option maxHeartbeats 4000000 in
theorem s198_211 (n : Nat) (k23 : Nat → Nat → Nat → Nat → Int32 → zM → Int32 × zM) (q23 : Nat → Nat → Nat → Nat → Int32 → zM → Prop) (h23 : ∀ (l0 : Nat) (l1 : Nat) (l2 : Nat) (l3 : Nat) (l4 : Int32) (M : zM), q23 l0 l1 l2 l3 l4 M → ∀ {Q : Option Value → zM → Prop}, (∀ r M1, zRI (k23 l0 l1 l2 l3 l4 M) r M1 → Q r M1) → zWP 198 23 [some (.ref l0), some (.ref l1), some (.ref l2), some (.ref l3), some (.int l4), none, none] [] M Q) (l0 : Nat) (l1 : Nat) (l2 : Nat) (l3 : Nat) (l4 : Int32) (s0 : Int32) (M : zM) (hp : p198_211 n q23 l0 l1 l2 l3 l4 s0 M) {Q : Option Value → zM → Prop} (hQ : ∀ r M1, zRI (b198_211 n k23 l0 l1 l2 l3 l4 s0 M) r M1 → Q r M1) : zWP 198 211 [some (.ref l0), some (.ref l1), some (.ref l2), some (.ref l3), some (.int l4), none, none] [.int s0] M Q := by
  unfold b198_211 at hQ
  unfold p198_211 at hp
  refine wp_go 5 (pc' := 217) (L' := [some (.ref l0), some (.ref l1), some (.ref l2), some (.ref l3), some (.int l4), none, none]) (st' := [.int (l4 + (1 : Int32)), .ref l0, .ref l2, .int s0]) (M' := M) rfl ?_
  obtain ⟨hc, hp⟩ := hp
  refine wq_iald rfl hc ?_
  refine wp_go 4 (pc' := 223) (L' := [some (.ref l0), some (.ref l1), some (.ref l2), some (.ref l3), some (.int l4), none, none]) (st' := [.int (l4 + (2 : Int32)), .ref l0, .int (zI M l0 (l4 + (1 : Int32)).toNatClampNeg), .ref l2, .int s0]) (M' := M) rfl ?_
  obtain ⟨hc, hp⟩ := hp
  refine wq_iald rfl hc ?_
  refine wp_go 4 (pc' := 229) (L' := [some (.ref l0), some (.ref l1), some (.ref l2), some (.ref l3), some (.int l4), none, none]) (st' := [.int (l4 + (3 : Int32)), .ref l0, .int (zI M l0 (l4 + (2 : Int32)).toNatClampNeg), .int (zI M l0 (l4 + (1 : Int32)).toNatClampNeg), .ref l2, .int s0]) (M' := M) rfl ?_
  obtain ⟨hc, hp⟩ := hp
  refine wq_iald rfl hc ?_
  obtain ⟨hv, hp⟩ := hp
  obtain ⟨hc, hp⟩ := hp
  refine wp_calli (v := (b128_0 n l2 (zI M l0 (l4 + (1 : Int32)).toNatClampNeg) (zI M l0 (l4 + (2 : Int32)).toNatClampNeg) (zI M l0 (l4 + (3 : Int32)).toNatClampNeg) M).1) (M1 := (b128_0 n l2 (zI M l0 (l4 + (1 : Int32)).toNatClampNeg) (zI M l0 (l4 + (2 : Int32)).toNatClampNeg) (zI M l0 (l4 + (3 : Int32)).toNatClampNeg) M).2) rfl rfl rfl (zInv_v (np := 3) rfl rfl hv rfl) (s128_0 n l2 (zI M l0 (l4 + (1 : Int32)).toNatClampNeg) (zI M l0 (l4 + (2 : Int32)).toNatClampNeg) (zI M l0 (l4 + (3 : Int32)).toNatClampNeg) M hc (fun r M1 h => h)) ?_
  exact s198_233 n k23 q23 h23 l0 l1 l2 l3 l4 s0 (b128_0 n l2 (zI M l0 (l4 + (1 : Int32)).toNatClampNeg) (zI M l0 (l4 + (2 : Int32)).toNatClampNeg) (zI M l0 (l4 + (3 : Int32)).toNatClampNeg) M).1 (b128_0 n l2 (zI M l0 (l4 + (1 : Int32)).toNatClampNeg) (zI M l0 (l4 + (2 : Int32)).toNatClampNeg) (zI M l0 (l4 + (3 : Int32)).toNatClampNeg) M).2 hp hQ
def b198_258 (n : Nat) (k23 : Nat → Nat → Nat → Nat → Int32 → zM → Int32 × zM) (l0 : Nat) (l1 : Nat) (l2 : Nat) (l3 : Nat) (l4 : Int32) (s0 : Int32) (s1 : Int32) (M : zM) : Int32 × zM := (if s0 = s1 then b198_1243 n k23 l0 l1 l2 l3 l4 M else ((0 : Int32), M))
def p198_258 (n : Nat) (q23 : Nat → Nat → Nat → Nat → Int32 → zM → Prop) (l0 : Nat) (l1 : Nat) (l2 : Nat) (l3 : Nat) (l4 : Int32) (s0 : Int32) (s1 : Int32) (M : zM) : Prop := ((s0 = s1 → p198_1243 n q23 l0 l1 l2 l3 l4 M) ∧ (¬ s0 = s1 → True))
set_option maxRecDepth 100000 in
set_option maxHeartbeats 4000000 in
theorem s198_258 (n : Nat) (k23 : Nat → Nat → Nat → Nat → Int32 → zM → Int32 × zM) (q23 : Nat → Nat → Nat → Nat → Int32 → zM → Prop) (h23 : ∀ (l0 : Nat) (l1 : Nat) (l2 : Nat) (l3 : Nat) (l4 : Int32) (M : zM), q23 l0 l1 l2 l3 l4 M → ∀ {Q : Option Value → zM → Prop}, (∀ r M1, zRI (k23 l0 l1 l2 l3 l4 M) r M1 → Q r M1) → zWP 198 23 [some (.ref l0), some (.ref l1), some (.ref l2), some (.ref l3), some (.int l4), none, none] [] M Q) (l0 : Nat) (l1 : Nat) (l2 : Nat) (l3 : Nat) (l4 : Int32) (s0 : Int32) (s1 : Int32) (M : zM) (hp : p198_258 n q23 l0 l1 l2 l3 l4 s0 s1 M) {Q : Option Value → zM → Prop} (hQ : ∀ r M1, zRI (b198_258 n k23 l0 l1 l2 l3 l4 s0 s1 M) r M1 → Q r M1) : zWP 198 258 [some (.ref l0), some (.ref l1), some (.ref l2), some (.ref l3), some (.int l4), none, none] [.int s1, .int s0] M Q := by
  unfold b198_258 at hQ
  unfold p198_258 at hp
  refine wp_ic_eq (t := 1243) rfl rfl (fun hc => ?_) (fun hc => ?_)
  · rw [if_pos hc] at hQ
    replace hp := hp.1 hc
    exact s198_1243 n k23 q23 h23 l0 l1 l2 l3 l4 M hp hQ
  · rw [if_neg hc] at hQ
    replace hp := hp.2 hc
    refine wp_go 1 (pc' := 262) (L' := [some (.ref l0), some (.ref l1), some (.ref l2), some (.ref l3), some (.int l4), none, none]) (st' := [.int (0 : Int32)]) (M' := M) rfl ?_
    exact wp_ret (r := some (.int (0 : Int32))) rfl rfl (hQ _ _ ⟨rfl, rfl⟩)
def b198_248 (n : Nat) (k23 : Nat → Nat → Nat → Nat → Int32 → zM → Int32 × zM) (l0 : Nat) (l1 : Nat) (l2 : Nat) (l3 : Nat) (l4 : Int32) (s0 : Int32) (M : zM) : Int32 × zM := b198_258 n k23 l0 l1 l2 l3 l4 s0 (b129_0 n l2 (zI M l0 (l4 + (1 : Int32)).toNatClampNeg) M).1 (b129_0 n l2 (zI M l0 (l4 + (1 : Int32)).toNatClampNeg) M).2
def p198_248 (n : Nat) (q23 : Nat → Nat → Nat → Nat → Int32 → zM → Prop) (l0 : Nat) (l1 : Nat) (l2 : Nat) (l3 : Nat) (l4 : Int32) (s0 : Int32) (M : zM) : Prop := (zOkI l0 (l4 + (1 : Int32)) M) ∧ ((zHasC 198 37 l2 M 129 1) ∧ ((p129_0 n l2 (zI M l0 (l4 + (1 : Int32)).toNatClampNeg) M) ∧ (p198_258 n q23 l0 l1 l2 l3 l4 s0 (b129_0 n l2 (zI M l0 (l4 + (1 : Int32)).toNatClampNeg) M).1 (b129_0 n l2 (zI M l0 (l4 + (1 : Int32)).toNatClampNeg) M).2)))
set_option maxRecDepth 100000 in
set_option maxHeartbeats 4000000 in
theorem s198_248 (n : Nat) (k23 : Nat → Nat → Nat → Nat → Int32 → zM → Int32 × zM) (q23 : Nat → Nat → Nat → Nat → Int32 → zM → Prop) (h23 : ∀ (l0 : Nat) (l1 : Nat) (l2 : Nat) (l3 : Nat) (l4 : Int32) (M : zM), q23 l0 l1 l2 l3 l4 M → ∀ {Q : Option Value → zM → Prop}, (∀ r M1, zRI (k23 l0 l1 l2 l3 l4 M) r M1 → Q r M1) → zWP 198 23 [some (.ref l0), some (.ref l1), some (.ref l2), some (.ref l3), some (.int l4), none, none] [] M Q) (l0 : Nat) (l1 : Nat) (l2 : Nat) (l3 : Nat) (l4 : Int32) (s0 : Int32) (M : zM) (hp : p198_248 n q23 l0 l1 l2 l3 l4 s0 M) {Q : Option Value → zM → Prop} (hQ : ∀ r M1, zRI (b198_248 n k23 l0 l1 l2 l3 l4 s0 M) r M1 → Q r M1) : zWP 198 248 [some (.ref l0), some (.ref l1), some (.ref l2), some (.ref l3), some (.int l4), none, none] [.int s0] M Q := by
  unfold b198_248 at hQ
  unfold p198_248 at hp
  refine wp_go 5 (pc' := 254) (L' := [some (.ref l0), some (.ref l1), some (.ref l2), some (.ref l3), some (.int l4), none, none]) (st' := [.int (l4 + (1 : Int32)), .ref l0, .ref l2, .int s0]) (M' := M) rfl ?_
  obtain ⟨hc, hp⟩ := hp
  refine wq_iald rfl hc ?_
  obtain ⟨hv, hp⟩ := hp
  obtain ⟨hc, hp⟩ := hp
  refine wp_calli (v := (b129_0 n l2 (zI M l0 (l4 + (1 : Int32)).toNatClampNeg) M).1) (M1 := (b129_0 n l2 (zI M l0 (l4 + (1 : Int32)).toNatClampNeg) M).2) rfl rfl rfl (zInv_v (np := 1) rfl rfl hv rfl) (s129_0 n l2 (zI M l0 (l4 + (1 : Int32)).toNatClampNeg) M hc (fun r M1 h => h)) ?_
  exact s198_258 n k23 q23 h23 l0 l1 l2 l3 l4 s0 (b129_0 n l2 (zI M l0 (l4 + (1 : Int32)).toNatClampNeg) M).1 (b129_0 n l2 (zI M l0 (l4 + (1 : Int32)).toNatClampNeg) M).2 hp hQ
def b198_323 (n : Nat) (k23 : Nat → Nat → Nat → Nat → Int32 → zM → Int32 × zM) (l0 : Nat) (l1 : Nat) (l2 : Nat) (l3 : Nat) (l4 : Int32) (s0 : Int32) (s1 : Int32) (M : zM) : Int32 × zM := (if s0 = s1 then b198_1243 n k23 l0 l1 l2 l3 l4 M else ((0 : Int32), M))
def p198_323 (n : Nat) (q23 : Nat → Nat → Nat → Nat → Int32 → zM → Prop) (l0 : Nat) (l1 : Nat) (l2 : Nat) (l3 : Nat) (l4 : Int32) (s0 : Int32) (s1 : Int32) (M : zM) : Prop := ((s0 = s1 → p198_1243 n q23 l0 l1 l2 l3 l4 M) ∧ (¬ s0 = s1 → True))
set_option maxRecDepth 100000 in
set_option maxHeartbeats 4000000 in
theorem s198_323 (n : Nat) (k23 : Nat → Nat → Nat → Nat → Int32 → zM → Int32 × zM) (q23 : Nat → Nat → Nat → Nat → Int32 → zM → Prop) (h23 : ∀ (l0 : Nat) (l1 : Nat) (l2 : Nat) (l3 : Nat) (l4 : Int32) (M : zM), q23 l0 l1 l2 l3 l4 M → ∀ {Q : Option Value → zM → Prop}, (∀ r M1, zRI (k23 l0 l1 l2 l3 l4 M) r M1 → Q r M1) → zWP 198 23 [some (.ref l0), some (.ref l1), some (.ref l2), some (.ref l3), some (.int l4), none, none] [] M Q) (l0 : Nat) (l1 : Nat) (l2 : Nat) (l3 : Nat) (l4 : Int32) (s0 : Int32) (s1 : Int32) (M : zM) (hp : p198_323 n q23 l0 l1 l2 l3 l4 s0 s1 M) {Q : Option Value → zM → Prop} (hQ : ∀ r M1, zRI (b198_323 n k23 l0 l1 l2 l3 l4 s0 s1 M) r M1 → Q r M1) : zWP 198 323 [some (.ref l0), some (.ref l1), some (.ref l2), some (.ref l3), some (.int l4), none, none] [.int s1, .int s0] M Q := by
  unfold b198_323 at hQ
  unfold p198_323 at hp
  refine wp_ic_eq (t := 1243) rfl rfl (fun hc => ?_) (fun hc => ?_)
  · rw [if_pos hc] at hQ
    replace hp := hp.1 hc
    exact s198_1243 n k23 q23 h23 l0 l1 l2 l3 l4 M hp hQ
  · rw [if_neg hc] at hQ
    replace hp := hp.2 hc
    refine wp_go 1 (pc' := 327) (L' := [some (.ref l0), some (.ref l1), some (.ref l2), some (.ref l3), some (.int l4), none, none]) (st' := [.int (0 : Int32)]) (M' := M) rfl ?_
    exact wp_ret (r := some (.int (0 : Int32))) rfl rfl (hQ _ _ ⟨rfl, rfl⟩)
def b198_320 (n : Nat) (k23 : Nat → Nat → Nat → Nat → Int32 → zM → Int32 × zM) (l0 : Nat) (l1 : Nat) (l2 : Nat) (l3 : Nat) (l4 : Int32) (s0 : Int32) (s1 : Nat) (s2 : Int32) (s3 : Int32) (s4 : Int32) (M : zM) : Int32 × zM := b198_323 n k23 l0 l1 l2 l3 l4 s0 (b131_0 n s1 s2 s3 s4 M).1 (b131_0 n s1 s2 s3 s4 M).2
def p198_320 (n : Nat) (q23 : Nat → Nat → Nat → Nat → Int32 → zM → Prop) (l0 : Nat) (l1 : Nat) (l2 : Nat) (l3 : Nat) (l4 : Int32) (s0 : Int32) (s1 : Nat) (s2 : Int32) (s3 : Int32) (s4 : Int32) (M : zM) : Prop := (zHasC 198 42 s1 M 131 3) ∧ ((p131_0 n s1 s2 s3 s4 M) ∧ (p198_323 n q23 l0 l1 l2 l3 l4 s0 (b131_0 n s1 s2 s3 s4 M).1 (b131_0 n s1 s2 s3 s4 M).2))
set_option maxRecDepth 100000 in
set_option maxHeartbeats 4000000 in
theorem s198_320 (n : Nat) (k23 : Nat → Nat → Nat → Nat → Int32 → zM → Int32 × zM) (q23 : Nat → Nat → Nat → Nat → Int32 → zM → Prop) (h23 : ∀ (l0 : Nat) (l1 : Nat) (l2 : Nat) (l3 : Nat) (l4 : Int32) (M : zM), q23 l0 l1 l2 l3 l4 M → ∀ {Q : Option Value → zM → Prop}, (∀ r M1, zRI (k23 l0 l1 l2 l3 l4 M) r M1 → Q r M1) → zWP 198 23 [some (.ref l0), some (.ref l1), some (.ref l2), some (.ref l3), some (.int l4), none, none] [] M Q) (l0 : Nat) (l1 : Nat) (l2 : Nat) (l3 : Nat) (l4 : Int32) (s0 : Int32) (s1 : Nat) (s2 : Int32) (s3 : Int32) (s4 : Int32) (M : zM) (hp : p198_320 n q23 l0 l1 l2 l3 l4 s0 s1 s2 s3 s4 M) {Q : Option Value → zM → Prop} (hQ : ∀ r M1, zRI (b198_320 n k23 l0 l1 l2 l3 l4 s0 s1 s2 s3 s4 M) r M1 → Q r M1) : zWP 198 320 [some (.ref l0), some (.ref l1), some (.ref l2), some (.ref l3), some (.int l4), none, none] [.int s4, .int s3, .int s2, .ref s1, .int s0] M Q := by
  unfold b198_320 at hQ
  unfold p198_320 at hp
  obtain ⟨hv, hp⟩ := hp
  obtain ⟨hc, hp⟩ := hp
  refine wp_calli (v := (b131_0 n s1 s2 s3 s4 M).1) (M1 := (b131_0 n s1 s2 s3 s4 M).2) rfl rfl rfl (zInv_v (np := 3) rfl rfl hv rfl) (s131_0 n s1 s2 s3 s4 M hc (fun r M1 h => h)) ?_
  exact s198_323 n k23 q23 h23 l0 l1 l2 l3 l4 s0 (b131_0 n s1 s2 s3 s4 M).1 (b131_0 n s1 s2 s3 s4 M).2 hp hQ
def b198_293 (n : Nat) (k23 : Nat → Nat → Nat → Nat → Int32 → zM → Int32 × zM) (l0 : Nat) (l1 : Nat) (l2 : Nat) (l3 : Nat) (l4 : Int32) (s0 : Int32) (M : zM) : Int32 × zM := (if (zI M l0 (l4 + (3 : Int32)).toNatClampNeg) = 0 then b198_320 n k23 l0 l1 l2 l3 l4 s0 l2 (zI M l0 (l4 + (1 : Int32)).toNatClampNeg) (zI M l0 (l4 + (2 : Int32)).toNatClampNeg) (0 : Int32) M else b198_320 n k23 l0 l1 l2 l3 l4 s0 l2 (zI M l0 (l4 + (1 : Int32)).toNatClampNeg) (zI M l0 (l4 + (2 : Int32)).toNatClampNeg) (1 : Int32) M)
def p198_293 (n : Nat) (q23 : Nat → Nat → Nat → Nat → Int32 → zM → Prop) (l0 : Nat) (l1 : Nat) (l2 : Nat) (l3 : Nat) (l4 : Int32) (s0 : Int32) (M : zM) : Prop := (zOkI l0 (l4 + (1 : Int32)) M) ∧ ((zOkI l0 (l4 + (2 : Int32)) M) ∧ ((zOkI l0 (l4 + (3 : Int32)) M) ∧ ((((zI M l0 (l4 + (3 : Int32)).toNatClampNeg) = 0 → p198_320 n q23 l0 l1 l2 l3 l4 s0 l2 (zI M l0 (l4 + (1 : Int32)).toNatClampNeg) (zI M l0 (l4 + (2 : Int32)).toNatClampNeg) (0 : Int32) M) ∧ (¬ (zI M l0 (l4 + (3 : Int32)).toNatClampNeg) = 0 → p198_320 n q23 l0 l1 l2 l3 l4 s0 l2 (zI M l0 (l4 + (1 : Int32)).toNatClampNeg) (zI M l0 (l4 + (2 : Int32)).toNatClampNeg) (1 : Int32) M)))))
set_option maxRecDepth 100000 in
set_option maxHeartbeats 4000000 in
theorem s198_293 (n : Nat) (k23 : Nat → Nat → Nat → Nat → Int32 → zM → Int32 × zM) (q23 : Nat → Nat → Nat → Nat → Int32 → zM → Prop) (h23 : ∀ (l0 : Nat) (l1 : Nat) (l2 : Nat) (l3 : Nat) (l4 : Int32) (M : zM), q23 l0 l1 l2 l3 l4 M → ∀ {Q : Option Value → zM → Prop}, (∀ r M1, zRI (k23 l0 l1 l2 l3 l4 M) r M1 → Q r M1) → zWP 198 23 [some (.ref l0), some (.ref l1), some (.ref l2), some (.ref l3), some (.int l4), none, none] [] M Q) (l0 : Nat) (l1 : Nat) (l2 : Nat) (l3 : Nat) (l4 : Int32) (s0 : Int32) (M : zM) (hp : p198_293 n q23 l0 l1 l2 l3 l4 s0 M) {Q : Option Value → zM → Prop} (hQ : ∀ r M1, zRI (b198_293 n k23 l0 l1 l2 l3 l4 s0 M) r M1 → Q r M1) : zWP 198 293 [some (.ref l0), some (.ref l1), some (.ref l2), some (.ref l3), some (.int l4), none, none] [.int s0] M Q := by
  unfold b198_293 at hQ
  unfold p198_293 at hp
  refine wp_go 5 (pc' := 299) (L' := [some (.ref l0), some (.ref l1), some (.ref l2), some (.ref l3), some (.int l4), none, none]) (st' := [.int (l4 + (1 : Int32)), .ref l0, .ref l2, .int s0]) (M' := M) rfl ?_
  obtain ⟨hc, hp⟩ := hp
  refine wq_iald rfl hc ?_
  refine wp_go 4 (pc' := 305) (L' := [some (.ref l0), some (.ref l1), some (.ref l2), some (.ref l3), some (.int l4), none, none]) (st' := [.int (l4 + (2 : Int32)), .ref l0, .int (zI M l0 (l4 + (1 : Int32)).toNatClampNeg), .ref l2, .int s0]) (M' := M) rfl ?_
  obtain ⟨hc, hp⟩ := hp
  refine wq_iald rfl hc ?_
  refine wp_go 4 (pc' := 311) (L' := [some (.ref l0), some (.ref l1), some (.ref l2), some (.ref l3), some (.int l4), none, none]) (st' := [.int (l4 + (3 : Int32)), .ref l0, .int (zI M l0 (l4 + (2 : Int32)).toNatClampNeg), .int (zI M l0 (l4 + (1 : Int32)).toNatClampNeg), .ref l2, .int s0]) (M' := M) rfl ?_
  obtain ⟨hc, hp⟩ := hp
  refine wq_iald rfl hc ?_
  refine wp_if_eq (t := 319) rfl rfl (fun hc => ?_) (fun hc => ?_)
  · rw [if_pos hc] at hQ
    replace hp := hp.1 hc
    refine wp_go 1 (pc' := 320) (L' := [some (.ref l0), some (.ref l1), some (.ref l2), some (.ref l3), some (.int l4), none, none]) (st' := [.int (0 : Int32), .int (zI M l0 (l4 + (2 : Int32)).toNatClampNeg), .int (zI M l0 (l4 + (1 : Int32)).toNatClampNeg), .ref l2, .int s0]) (M' := M) rfl ?_
    exact s198_320 n k23 q23 h23 l0 l1 l2 l3 l4 s0 l2 (zI M l0 (l4 + (1 : Int32)).toNatClampNeg) (zI M l0 (l4 + (2 : Int32)).toNatClampNeg) (0 : Int32) M hp hQ
  · rw [if_neg hc] at hQ
    replace hp := hp.2 hc
    refine wp_go 2 (pc' := 320) (L' := [some (.ref l0), some (.ref l1), some (.ref l2), some (.ref l3), some (.int l4), none, none]) (st' := [.int (1 : Int32), .int (zI M l0 (l4 + (2 : Int32)).toNatClampNeg), .int (zI M l0 (l4 + (1 : Int32)).toNatClampNeg), .ref l2, .int s0]) (M' := M) rfl ?_
    exact s198_320 n k23 q23 h23 l0 l1 l2 l3 l4 s0 l2 (zI M l0 (l4 + (1 : Int32)).toNatClampNeg) (zI M l0 (l4 + (2 : Int32)).toNatClampNeg) (1 : Int32) M hp hQ
def b198_290 (n : Nat) (k23 : Nat → Nat → Nat → Nat → Int32 → zM → Int32 × zM) (l0 : Nat) (l1 : Nat) (l2 : Nat) (l3 : Nat) (l4 : Int32) (s0 : Nat) (s1 : Int32) (s2 : Int32) (s3 : Int32) (M : zM) : Int32 × zM := b198_293 n k23 l0 l1 l2 l3 l4 (b65_0 n s0 s1 s2 s3 M).1 (b65_0 n s0 s1 s2 s3 M).2
def p198_290 (n : Nat) (q23 : Nat → Nat → Nat → Nat → Int32 → zM → Prop) (l0 : Nat) (l1 : Nat) (l2 : Nat) (l3 : Nat) (l4 : Int32) (s0 : Nat) (s1 : Int32) (s2 : Int32) (s3 : Int32) (M : zM) : Prop := (zHasC 198 38 s0 M 65 3) ∧ ((p65_0 n s0 s1 s2 s3 M) ∧ (p198_293 n q23 l0 l1 l2 l3 l4 (b65_0 n s0 s1 s2 s3 M).1 (b65_0 n s0 s1 s2 s3 M).2))
set_option maxRecDepth 100000 in
set_option maxHeartbeats 4000000 in
theorem s198_290 (n : Nat) (k23 : Nat → Nat → Nat → Nat → Int32 → zM → Int32 × zM) (q23 : Nat → Nat → Nat → Nat → Int32 → zM → Prop) (h23 : ∀ (l0 : Nat) (l1 : Nat) (l2 : Nat) (l3 : Nat) (l4 : Int32) (M : zM), q23 l0 l1 l2 l3 l4 M → ∀ {Q : Option Value → zM → Prop}, (∀ r M1, zRI (k23 l0 l1 l2 l3 l4 M) r M1 → Q r M1) → zWP 198 23 [some (.ref l0), some (.ref l1), some (.ref l2), some (.ref l3), some (.int l4), none, none] [] M Q) (l0 : Nat) (l1 : Nat) (l2 : Nat) (l3 : Nat) (l4 : Int32) (s0 : Nat) (s1 : Int32) (s2 : Int32) (s3 : Int32) (M : zM) (hp : p198_290 n q23 l0 l1 l2 l3 l4 s0 s1 s2 s3 M) {Q : Option Value → zM → Prop} (hQ : ∀ r M1, zRI (b198_290 n k23 l0 l1 l2 l3 l4 s0 s1 s2 s3 M) r M1 → Q r M1) : zWP 198 290 [some (.ref l0), some (.ref l1), some (.ref l2), some (.ref l3), some (.int l4), none, none] [.int s3, .int s2, .int s1, .ref s0] M Q := by
  unfold b198_290 at hQ
  unfold p198_290 at hp
  obtain ⟨hv, hp⟩ := hp
  obtain ⟨hc, hp⟩ := hp
  refine wp_calli (v := (b65_0 n s0 s1 s2 s3 M).1) (M1 := (b65_0 n s0 s1 s2 s3 M).2) rfl rfl rfl (zInv_v (np := 3) rfl rfl hv rfl) (s65_0 n s0 s1 s2 s3 M hc (fun r M1 h => h)) ?_
  exact s198_293 n k23 q23 h23 l0 l1 l2 l3 l4 (b65_0 n s0 s1 s2 s3 M).1 (b65_0 n s0 s1 s2 s3 M).2 hp hQ
def b198_372 (n : Nat) (k23 : Nat → Nat → Nat → Nat → Int32 → zM → Int32 × zM) (l0 : Nat) (l1 : Nat) (l2 : Nat) (l3 : Nat) (l4 : Int32) (s0 : Int32) (s1 : Int32) (M : zM) : Int32 × zM := (if s0 = s1 then b198_1243 n k23 l0 l1 l2 l3 l4 M else ((0 : Int32), M))
def p198_372 (n : Nat) (q23 : Nat → Nat → Nat → Nat → Int32 → zM → Prop) (l0 : Nat) (l1 : Nat) (l2 : Nat) (l3 : Nat) (l4 : Int32) (s0 : Int32) (s1 : Int32) (M : zM) : Prop := ((s0 = s1 → p198_1243 n q23 l0 l1 l2 l3 l4 M) ∧ (¬ s0 = s1 → True))
set_option maxRecDepth 100000 in
set_option maxHeartbeats 4000000 in
theorem s198_372 (n : Nat) (k23 : Nat → Nat → Nat → Nat → Int32 → zM → Int32 × zM) (q23 : Nat → Nat → Nat → Nat → Int32 → zM → Prop) (h23 : ∀ (l0 : Nat) (l1 : Nat) (l2 : Nat) (l3 : Nat) (l4 : Int32) (M : zM), q23 l0 l1 l2 l3 l4 M → ∀ {Q : Option Value → zM → Prop}, (∀ r M1, zRI (k23 l0 l1 l2 l3 l4 M) r M1 → Q r M1) → zWP 198 23 [some (.ref l0), some (.ref l1), some (.ref l2), some (.ref l3), some (.int l4), none, none] [] M Q) (l0 : Nat) (l1 : Nat) (l2 : Nat) (l3 : Nat) (l4 : Int32) (s0 : Int32) (s1 : Int32) (M : zM) (hp : p198_372 n q23 l0 l1 l2 l3 l4 s0 s1 M) {Q : Option Value → zM → Prop} (hQ : ∀ r M1, zRI (b198_372 n k23 l0 l1 l2 l3 l4 s0 s1 M) r M1 → Q r M1) : zWP 198 372 [some (.ref l0), some (.ref l1), some (.ref l2), some (.ref l3), some (.int l4), none, none] [.int s1, .int s0] M Q := by
  unfold b198_372 at hQ
  unfold p198_372 at hp
  refine wp_ic_eq (t := 1243) rfl rfl (fun hc => ?_) (fun hc => ?_)
  · rw [if_pos hc] at hQ
    replace hp := hp.1 hc
    exact s198_1243 n k23 q23 h23 l0 l1 l2 l3 l4 M hp hQ
  · rw [if_neg hc] at hQ
    replace hp := hp.2 hc
    refine wp_go 1 (pc' := 376) (L' := [some (.ref l0), some (.ref l1), some (.ref l2), some (.ref l3), some (.int l4), none, none]) (st' := [.int (0 : Int32)]) (M' := M) rfl ?_
    exact wp_ret (r := some (.int (0 : Int32))) rfl rfl (hQ _ _ ⟨rfl, rfl⟩)
def b198_350 (n : Nat) (k23 : Nat → Nat → Nat → Nat → Int32 → zM → Int32 × zM) (l0 : Nat) (l1 : Nat) (l2 : Nat) (l3 : Nat) (l4 : Int32) (s0 : Int32) (M : zM) : Int32 × zM := b198_372 n k23 l0 l1 l2 l3 l4 s0 (b133_0 n l2 (zI M l0 (l4 + (1 : Int32)).toNatClampNeg) (zI M l0 (l4 + (2 : Int32)).toNatClampNeg) (zI M l0 (l4 + (3 : Int32)).toNatClampNeg) M).1 (b133_0 n l2 (zI M l0 (l4 + (1 : Int32)).toNatClampNeg) (zI M l0 (l4 + (2 : Int32)).toNatClampNeg) (zI M l0 (l4 + (3 : Int32)).toNatClampNeg) M).2
def p198_350 (n : Nat) (q23 : Nat → Nat → Nat → Nat → Int32 → zM → Prop) (l0 : Nat) (l1 : Nat) (l2 : Nat) (l3 : Nat) (l4 : Int32) (s0 : Int32) (M : zM) : Prop := (zOkI l0 (l4 + (1 : Int32)) M) ∧ ((zOkI l0 (l4 + (2 : Int32)) M) ∧ ((zOkI l0 (l4 + (3 : Int32)) M) ∧ ((zHasC 198 47 l2 M 133 3) ∧ ((p133_0 n l2 (zI M l0 (l4 + (1 : Int32)).toNatClampNeg) (zI M l0 (l4 + (2 : Int32)).toNatClampNeg) (zI M l0 (l4 + (3 : Int32)).toNatClampNeg) M) ∧ (p198_372 n q23 l0 l1 l2 l3 l4 s0 (b133_0 n l2 (zI M l0 (l4 + (1 : Int32)).toNatClampNeg) (zI M l0 (l4 + (2 : Int32)).toNatClampNeg) (zI M l0 (l4 + (3 : Int32)).toNatClampNeg) M).1 (b133_0 n l2 (zI M l0 (l4 + (1 : Int32)).toNatClampNeg) (zI M l0 (l4 + (2 : Int32)).toNatClampNeg) (zI M l0 (l4 + (3 : Int32)).toNatClampNeg) M).2)))))
set_option maxRecDepth 100000 in
set_option maxHeartbeats 4000000 in
theorem s198_350 (n : Nat) (k23 : Nat → Nat → Nat → Nat → Int32 → zM → Int32 × zM) (q23 : Nat → Nat → Nat → Nat → Int32 → zM → Prop) (h23 : ∀ (l0 : Nat) (l1 : Nat) (l2 : Nat) (l3 : Nat) (l4 : Int32) (M : zM), q23 l0 l1 l2 l3 l4 M → ∀ {Q : Option Value → zM → Prop}, (∀ r M1, zRI (k23 l0 l1 l2 l3 l4 M) r M1 → Q r M1) → zWP 198 23 [some (.ref l0), some (.ref l1), some (.ref l2), some (.ref l3), some (.int l4), none, none] [] M Q) (l0 : Nat) (l1 : Nat) (l2 : Nat) (l3 : Nat) (l4 : Int32) (s0 : Int32) (M : zM) (hp : p198_350 n q23 l0 l1 l2 l3 l4 s0 M) {Q : Option Value → zM → Prop} (hQ : ∀ r M1, zRI (b198_350 n k23 l0 l1 l2 l3 l4 s0 M) r M1 → Q r M1) : zWP 198 350 [some (.ref l0), some (.ref l1), some (.ref l2), some (.ref l3), some (.int l4), none, none] [.int s0] M Q := by
  unfold b198_350 at hQ
  unfold p198_350 at hp
  refine wp_go 5 (pc' := 356) (L' := [some (.ref l0), some (.ref l1), some (.ref l2), some (.ref l3), some (.int l4), none, none]) (st' := [.int (l4 + (1 : Int32)), .ref l0, .ref l2, .int s0]) (M' := M) rfl ?_
  obtain ⟨hc, hp⟩ := hp
  refine wq_iald rfl hc ?_
  refine wp_go 4 (pc' := 362) (L' := [some (.ref l0), some (.ref l1), some (.ref l2), some (.ref l3), some (.int l4), none, none]) (st' := [.int (l4 + (2 : Int32)), .ref l0, .int (zI M l0 (l4 + (1 : Int32)).toNatClampNeg), .ref l2, .int s0]) (M' := M) rfl ?_
  obtain ⟨hc, hp⟩ := hp
  refine wq_iald rfl hc ?_
  refine wp_go 4 (pc' := 368) (L' := [some (.ref l0), some (.ref l1), some (.ref l2), some (.ref l3), some (.int l4), none, none]) (st' := [.int (l4 + (3 : Int32)), .ref l0, .int (zI M l0 (l4 + (2 : Int32)).toNatClampNeg), .int (zI M l0 (l4 + (1 : Int32)).toNatClampNeg), .ref l2, .int s0]) (M' := M) rfl ?_
  obtain ⟨hc, hp⟩ := hp
  refine wq_iald rfl hc ?_
  obtain ⟨hv, hp⟩ := hp
  obtain ⟨hc, hp⟩ := hp
  refine wp_calli (v := (b133_0 n l2 (zI M l0 (l4 + (1 : Int32)).toNatClampNeg) (zI M l0 (l4 + (2 : Int32)).toNatClampNeg) (zI M l0 (l4 + (3 : Int32)).toNatClampNeg) M).1) (M1 := (b133_0 n l2 (zI M l0 (l4 + (1 : Int32)).toNatClampNeg) (zI M l0 (l4 + (2 : Int32)).toNatClampNeg) (zI M l0 (l4 + (3 : Int32)).toNatClampNeg) M).2) rfl rfl rfl (zInv_v (np := 3) rfl rfl hv rfl) (s133_0 n l2 (zI M l0 (l4 + (1 : Int32)).toNatClampNeg) (zI M l0 (l4 + (2 : Int32)).toNatClampNeg) (zI M l0 (l4 + (3 : Int32)).toNatClampNeg) M hc (fun r M1 h => h)) ?_
  exact s198_372 n k23 q23 h23 l0 l1 l2 l3 l4 s0 (b133_0 n l2 (zI M l0 (l4 + (1 : Int32)).toNatClampNeg) (zI M l0 (l4 + (2 : Int32)).toNatClampNeg) (zI M l0 (l4 + (3 : Int32)).toNatClampNeg) M).1 (b133_0 n l2 (zI M l0 (l4 + (1 : Int32)).toNatClampNeg) (zI M l0 (l4 + (2 : Int32)).toNatClampNeg) (zI M l0 (l4 + (3 : Int32)).toNatClampNeg) M).2 hp hQ
def b198_409 (n : Nat) (k23 : Nat → Nat → Nat → Nat → Int32 → zM → Int32 × zM) (l0 : Nat) (l1 : Nat) (l2 : Nat) (l3 : Nat) (l4 : Int32) (s0 : Int32) (s1 : Int32) (M : zM) : Int32 × zM := (if s0 = s1 then b198_1243 n k23 l0 l1 l2 l3 l4 M else ((0 : Int32), M))
def p198_409 (n : Nat) (q23 : Nat → Nat → Nat → Nat → Int32 → zM → Prop) (l0 : Nat) (l1 : Nat) (l2 : Nat) (l3 : Nat) (l4 : Int32) (s0 : Int32) (s1 : Int32) (M : zM) : Prop := ((s0 = s1 → p198_1243 n q23 l0 l1 l2 l3 l4 M) ∧ (¬ s0 = s1 → True))
set_option maxRecDepth 100000 in
set_option maxHeartbeats 4000000 in
theorem s198_409 (n : Nat) (k23 : Nat → Nat → Nat → Nat → Int32 → zM → Int32 × zM) (q23 : Nat → Nat → Nat → Nat → Int32 → zM → Prop) (h23 : ∀ (l0 : Nat) (l1 : Nat) (l2 : Nat) (l3 : Nat) (l4 : Int32) (M : zM), q23 l0 l1 l2 l3 l4 M → ∀ {Q : Option Value → zM → Prop}, (∀ r M1, zRI (k23 l0 l1 l2 l3 l4 M) r M1 → Q r M1) → zWP 198 23 [some (.ref l0), some (.ref l1), some (.ref l2), some (.ref l3), some (.int l4), none, none] [] M Q) (l0 : Nat) (l1 : Nat) (l2 : Nat) (l3 : Nat) (l4 : Int32) (s0 : Int32) (s1 : Int32) (M : zM) (hp : p198_409 n q23 l0 l1 l2 l3 l4 s0 s1 M) {Q : Option Value → zM → Prop} (hQ : ∀ r M1, zRI (b198_409 n k23 l0 l1 l2 l3 l4 s0 s1 M) r M1 → Q r M1) : zWP 198 409 [some (.ref l0), some (.ref l1), some (.ref l2), some (.ref l3), some (.int l4), none, none] [.int s1, .int s0] M Q := by
  unfold b198_409 at hQ
  unfold p198_409 at hp
  refine wp_ic_eq (t := 1243) rfl rfl (fun hc => ?_) (fun hc => ?_)
  · rw [if_pos hc] at hQ
    replace hp := hp.1 hc
    exact s198_1243 n k23 q23 h23 l0 l1 l2 l3 l4 M hp hQ
  · rw [if_neg hc] at hQ
    replace hp := hp.2 hc
    refine wp_go 1 (pc' := 413) (L' := [some (.ref l0), some (.ref l1), some (.ref l2), some (.ref l3), some (.int l4), none, none]) (st' := [.int (0 : Int32)]) (M' := M) rfl ?_
    exact wp_ret (r := some (.int (0 : Int32))) rfl rfl (hQ _ _ ⟨rfl, rfl⟩)
def b198_393 (n : Nat) (k23 : Nat → Nat → Nat → Nat → Int32 → zM → Int32 × zM) (l0 : Nat) (l1 : Nat) (l2 : Nat) (l3 : Nat) (l4 : Int32) (s0 : Int32) (M : zM) : Int32 × zM := b198_409 n k23 l0 l1 l2 l3 l4 s0 (b136_0 n l2 (zI M l0 (l4 + (1 : Int32)).toNatClampNeg) (zI M l0 (l4 + (2 : Int32)).toNatClampNeg) M).1 (b136_0 n l2 (zI M l0 (l4 + (1 : Int32)).toNatClampNeg) (zI M l0 (l4 + (2 : Int32)).toNatClampNeg) M).2
def p198_393 (n : Nat) (q23 : Nat → Nat → Nat → Nat → Int32 → zM → Prop) (l0 : Nat) (l1 : Nat) (l2 : Nat) (l3 : Nat) (l4 : Int32) (s0 : Int32) (M : zM) : Prop := (zOkI l0 (l4 + (1 : Int32)) M) ∧ ((zOkI l0 (l4 + (2 : Int32)) M) ∧ ((zHasC 198 52 l2 M 136 2) ∧ ((p136_0 n l2 (zI M l0 (l4 + (1 : Int32)).toNatClampNeg) (zI M l0 (l4 + (2 : Int32)).toNatClampNeg) M) ∧ (p198_409 n q23 l0 l1 l2 l3 l4 s0 (b136_0 n l2 (zI M l0 (l4 + (1 : Int32)).toNatClampNeg) (zI M l0 (l4 + (2 : Int32)).toNatClampNeg) M).1 (b136_0 n l2 (zI M l0 (l4 + (1 : Int32)).toNatClampNeg) (zI M l0 (l4 + (2 : Int32)).toNatClampNeg) M).2))))
set_option maxRecDepth 100000 in
set_option maxHeartbeats 4000000 in
theorem s198_393 (n : Nat) (k23 : Nat → Nat → Nat → Nat → Int32 → zM → Int32 × zM) (q23 : Nat → Nat → Nat → Nat → Int32 → zM → Prop) (h23 : ∀ (l0 : Nat) (l1 : Nat) (l2 : Nat) (l3 : Nat) (l4 : Int32) (M : zM), q23 l0 l1 l2 l3 l4 M → ∀ {Q : Option Value → zM → Prop}, (∀ r M1, zRI (k23 l0 l1 l2 l3 l4 M) r M1 → Q r M1) → zWP 198 23 [some (.ref l0), some (.ref l1), some (.ref l2), some (.ref l3), some (.int l4), none, none] [] M Q) (l0 : Nat) (l1 : Nat) (l2 : Nat) (l3 : Nat) (l4 : Int32) (s0 : Int32) (M : zM) (hp : p198_393 n q23 l0 l1 l2 l3 l4 s0 M) {Q : Option Value → zM → Prop} (hQ : ∀ r M1, zRI (b198_393 n k23 l0 l1 l2 l3 l4 s0 M) r M1 → Q r M1) : zWP 198 393 [some (.ref l0), some (.ref l1), some (.ref l2), some (.ref l3), some (.int l4), none, none] [.int s0] M Q := by
  unfold b198_393 at hQ
  unfold p198_393 at hp
  refine wp_go 5 (pc' := 399) (L' := [some (.ref l0), some (.ref l1), some (.ref l2), some (.ref l3), some (.int l4), none, none]) (st' := [.int (l4 + (1 : Int32)), .ref l0, .ref l2, .int s0]) (M' := M) rfl ?_
  obtain ⟨hc, hp⟩ := hp
  refine wq_iald rfl hc ?_
  refine wp_go 4 (pc' := 405) (L' := [some (.ref l0), some (.ref l1), some (.ref l2), some (.ref l3), some (.int l4), none, none]) (st' := [.int (l4 + (2 : Int32)), .ref l0, .int (zI M l0 (l4 + (1 : Int32)).toNatClampNeg), .ref l2, .int s0]) (M' := M) rfl ?_
  obtain ⟨hc, hp⟩ := hp
  refine wq_iald rfl hc ?_
  obtain ⟨hv, hp⟩ := hp
  obtain ⟨hc, hp⟩ := hp
  refine wp_calli (v := (b136_0 n l2 (zI M l0 (l4 + (1 : Int32)).toNatClampNeg) (zI M l0 (l4 + (2 : Int32)).toNatClampNeg) M).1) (M1 := (b136_0 n l2 (zI M l0 (l4 + (1 : Int32)).toNatClampNeg) (zI M l0 (l4 + (2 : Int32)).toNatClampNeg) M).2) rfl rfl rfl (zInv_v (np := 2) rfl rfl hv rfl) (s136_0 n l2 (zI M l0 (l4 + (1 : Int32)).toNatClampNeg) (zI M l0 (l4 + (2 : Int32)).toNatClampNeg) M hc (fun r M1 h => h)) ?_
  exact s198_409 n k23 q23 h23 l0 l1 l2 l3 l4 s0 (b136_0 n l2 (zI M l0 (l4 + (1 : Int32)).toNatClampNeg) (zI M l0 (l4 + (2 : Int32)).toNatClampNeg) M).1 (b136_0 n l2 (zI M l0 (l4 + (1 : Int32)).toNatClampNeg) (zI M l0 (l4 + (2 : Int32)).toNatClampNeg) M).2 hp hQ
def b198_446 (n : Nat) (k23 : Nat → Nat → Nat → Nat → Int32 → zM → Int32 × zM) (l0 : Nat) (l1 : Nat) (l2 : Nat) (l3 : Nat) (l4 : Int32) (s0 : Int32) (s1 : Int32) (M : zM) : Int32 × zM := (if s0 = s1 then b198_1243 n k23 l0 l1 l2 l3 l4 M else ((0 : Int32), M))
def p198_446 (n : Nat) (q23 : Nat → Nat → Nat → Nat → Int32 → zM → Prop) (l0 : Nat) (l1 : Nat) (l2 : Nat) (l3 : Nat) (l4 : Int32) (s0 : Int32) (s1 : Int32) (M : zM) : Prop := ((s0 = s1 → p198_1243 n q23 l0 l1 l2 l3 l4 M) ∧ (¬ s0 = s1 → True))
set_option maxRecDepth 100000 in
set_option maxHeartbeats 4000000 in
theorem s198_446 (n : Nat) (k23 : Nat → Nat → Nat → Nat → Int32 → zM → Int32 × zM) (q23 : Nat → Nat → Nat → Nat → Int32 → zM → Prop) (h23 : ∀ (l0 : Nat) (l1 : Nat) (l2 : Nat) (l3 : Nat) (l4 : Int32) (M : zM), q23 l0 l1 l2 l3 l4 M → ∀ {Q : Option Value → zM → Prop}, (∀ r M1, zRI (k23 l0 l1 l2 l3 l4 M) r M1 → Q r M1) → zWP 198 23 [some (.ref l0), some (.ref l1), some (.ref l2), some (.ref l3), some (.int l4), none, none] [] M Q) (l0 : Nat) (l1 : Nat) (l2 : Nat) (l3 : Nat) (l4 : Int32) (s0 : Int32) (s1 : Int32) (M : zM) (hp : p198_446 n q23 l0 l1 l2 l3 l4 s0 s1 M) {Q : Option Value → zM → Prop} (hQ : ∀ r M1, zRI (b198_446 n k23 l0 l1 l2 l3 l4 s0 s1 M) r M1 → Q r M1) : zWP 198 446 [some (.ref l0), some (.ref l1), some (.ref l2), some (.ref l3), some (.int l4), none, none] [.int s1, .int s0] M Q := by
  unfold b198_446 at hQ
  unfold p198_446 at hp
  refine wp_ic_eq (t := 1243) rfl rfl (fun hc => ?_) (fun hc => ?_)
  · rw [if_pos hc] at hQ
    replace hp := hp.1 hc
    exact s198_1243 n k23 q23 h23 l0 l1 l2 l3 l4 M hp hQ
  · rw [if_neg hc] at hQ
    replace hp := hp.2 hc
    refine wp_go 1 (pc' := 450) (L' := [some (.ref l0), some (.ref l1), some (.ref l2), some (.ref l3), some (.int l4), none, none]) (st' := [.int (0 : Int32)]) (M' := M) rfl ?_
    exact wp_ret (r := some (.int (0 : Int32))) rfl rfl (hQ _ _ ⟨rfl, rfl⟩)
def b198_430 (n : Nat) (k23 : Nat → Nat → Nat → Nat → Int32 → zM → Int32 × zM) (l0 : Nat) (l1 : Nat) (l2 : Nat) (l3 : Nat) (l4 : Int32) (s0 : Int32) (M : zM) : Int32 × zM := b198_446 n k23 l0 l1 l2 l3 l4 s0 (b137_0 n l2 (zI M l0 (l4 + (1 : Int32)).toNatClampNeg) (zI M l0 (l4 + (2 : Int32)).toNatClampNeg) M).1 (b137_0 n l2 (zI M l0 (l4 + (1 : Int32)).toNatClampNeg) (zI M l0 (l4 + (2 : Int32)).toNatClampNeg) M).2
def p198_430 (n : Nat) (q23 : Nat → Nat → Nat → Nat → Int32 → zM → Prop) (l0 : Nat) (l1 : Nat) (l2 : Nat) (l3 : Nat) (l4 : Int32) (s0 : Int32) (M : zM) : Prop := (zOkI l0 (l4 + (1 : Int32)) M) ∧ ((zOkI l0 (l4 + (2 : Int32)) M) ∧ ((zHasC 198 56 l2 M 137 2) ∧ ((p137_0 n l2 (zI M l0 (l4 + (1 : Int32)).toNatClampNeg) (zI M l0 (l4 + (2 : Int32)).toNatClampNeg) M) ∧ (p198_446 n q23 l0 l1 l2 l3 l4 s0 (b137_0 n l2 (zI M l0 (l4 + (1 : Int32)).toNatClampNeg) (zI M l0 (l4 + (2 : Int32)).toNatClampNeg) M).1 (b137_0 n l2 (zI M l0 (l4 + (1 : Int32)).toNatClampNeg) (zI M l0 (l4 + (2 : Int32)).toNatClampNeg) M).2))))
set_option maxRecDepth 100000 in
set_option maxHeartbeats 4000000 in
theorem s198_430 (n : Nat) (k23 : Nat → Nat → Nat → Nat → Int32 → zM → Int32 × zM) (q23 : Nat → Nat → Nat → Nat → Int32 → zM → Prop) (h23 : ∀ (l0 : Nat) (l1 : Nat) (l2 : Nat) (l3 : Nat) (l4 : Int32) (M : zM), q23 l0 l1 l2 l3 l4 M → ∀ {Q : Option Value → zM → Prop}, (∀ r M1, zRI (k23 l0 l1 l2 l3 l4 M) r M1 → Q r M1) → zWP 198 23 [some (.ref l0), some (.ref l1), some (.ref l2), some (.ref l3), some (.int l4), none, none] [] M Q) (l0 : Nat) (l1 : Nat) (l2 : Nat) (l3 : Nat) (l4 : Int32) (s0 : Int32) (M : zM) (hp : p198_430 n q23 l0 l1 l2 l3 l4 s0 M) {Q : Option Value → zM → Prop} (hQ : ∀ r M1, zRI (b198_430 n k23 l0 l1 l2 l3 l4 s0 M) r M1 → Q r M1) : zWP 198 430 [some (.ref l0), some (.ref l1), some (.ref l2), some (.ref l3), some (.int l4), none, none] [.int s0] M Q := by
  unfold b198_430 at hQ
  unfold p198_430 at hp
  refine wp_go 5 (pc' := 436) (L' := [some (.ref l0), some (.ref l1), some (.ref l2), some (.ref l3), some (.int l4), none, none]) (st' := [.int (l4 + (1 : Int32)), .ref l0, .ref l2, .int s0]) (M' := M) rfl ?_
  obtain ⟨hc, hp⟩ := hp
  refine wq_iald rfl hc ?_
  refine wp_go 4 (pc' := 442) (L' := [some (.ref l0), some (.ref l1), some (.ref l2), some (.ref l3), some (.int l4), none, none]) (st' := [.int (l4 + (2 : Int32)), .ref l0, .int (zI M l0 (l4 + (1 : Int32)).toNatClampNeg), .ref l2, .int s0]) (M' := M) rfl ?_
  obtain ⟨hc, hp⟩ := hp
  refine wq_iald rfl hc ?_
  obtain ⟨hv, hp⟩ := hp
  obtain ⟨hc, hp⟩ := hp
  refine wp_calli (v := (b137_0 n l2 (zI M l0 (l4 + (1 : Int32)).toNatClampNeg) (zI M l0 (l4 + (2 : Int32)).toNatClampNeg) M).1) (M1 := (b137_0 n l2 (zI M l0 (l4 + (1 : Int32)).toNatClampNeg) (zI M l0 (l4 + (2 : Int32)).toNatClampNeg) M).2) rfl rfl rfl (zInv_v (np := 2) rfl rfl hv rfl) (s137_0 n l2 (zI M l0 (l4 + (1 : Int32)).toNatClampNeg) (zI M l0 (l4 + (2 : Int32)).toNatClampNeg) M hc (fun r M1 h => h)) ?_
  exact s198_446 n k23 q23 h23 l0 l1 l2 l3 l4 s0 (b137_0 n l2 (zI M l0 (l4 + (1 : Int32)).toNatClampNeg) (zI M l0 (l4 + (2 : Int32)).toNatClampNeg) M).1 (b137_0 n l2 (zI M l0 (l4 + (1 : Int32)).toNatClampNeg) (zI M l0 (l4 + (2 : Int32)).toNatClampNeg) M).2 hp hQ
def b198_483 (n : Nat) (k23 : Nat → Nat → Nat → Nat → Int32 → zM → Int32 × zM) (l0 : Nat) (l1 : Nat) (l2 : Nat) (l3 : Nat) (l4 : Int32) (s0 : Int32) (s1 : Int32) (M : zM) : Int32 × zM := (if s0 = s1 then b198_1243 n k23 l0 l1 l2 l3 l4 M else ((0 : Int32), M))
def p198_483 (n : Nat) (q23 : Nat → Nat → Nat → Nat → Int32 → zM → Prop) (l0 : Nat) (l1 : Nat) (l2 : Nat) (l3 : Nat) (l4 : Int32) (s0 : Int32) (s1 : Int32) (M : zM) : Prop := ((s0 = s1 → p198_1243 n q23 l0 l1 l2 l3 l4 M) ∧ (¬ s0 = s1 → True))
set_option maxRecDepth 100000 in
set_option maxHeartbeats 4000000 in
theorem s198_483 (n : Nat) (k23 : Nat → Nat → Nat → Nat → Int32 → zM → Int32 × zM) (q23 : Nat → Nat → Nat → Nat → Int32 → zM → Prop) (h23 : ∀ (l0 : Nat) (l1 : Nat) (l2 : Nat) (l3 : Nat) (l4 : Int32) (M : zM), q23 l0 l1 l2 l3 l4 M → ∀ {Q : Option Value → zM → Prop}, (∀ r M1, zRI (k23 l0 l1 l2 l3 l4 M) r M1 → Q r M1) → zWP 198 23 [some (.ref l0), some (.ref l1), some (.ref l2), some (.ref l3), some (.int l4), none, none] [] M Q) (l0 : Nat) (l1 : Nat) (l2 : Nat) (l3 : Nat) (l4 : Int32) (s0 : Int32) (s1 : Int32) (M : zM) (hp : p198_483 n q23 l0 l1 l2 l3 l4 s0 s1 M) {Q : Option Value → zM → Prop} (hQ : ∀ r M1, zRI (b198_483 n k23 l0 l1 l2 l3 l4 s0 s1 M) r M1 → Q r M1) : zWP 198 483 [some (.ref l0), some (.ref l1), some (.ref l2), some (.ref l3), some (.int l4), none, none] [.int s1, .int s0] M Q := by
  unfold b198_483 at hQ
  unfold p198_483 at hp
  refine wp_ic_eq (t := 1243) rfl rfl (fun hc => ?_) (fun hc => ?_)
  · rw [if_pos hc] at hQ
    replace hp := hp.1 hc
    exact s198_1243 n k23 q23 h23 l0 l1 l2 l3 l4 M hp hQ
  · rw [if_neg hc] at hQ
    replace hp := hp.2 hc
    refine wp_go 1 (pc' := 487) (L' := [some (.ref l0), some (.ref l1), some (.ref l2), some (.ref l3), some (.int l4), none, none]) (st' := [.int (0 : Int32)]) (M' := M) rfl ?_
    exact wp_ret (r := some (.int (0 : Int32))) rfl rfl (hQ _ _ ⟨rfl, rfl⟩)
def b198_467 (n : Nat) (k23 : Nat → Nat → Nat → Nat → Int32 → zM → Int32 × zM) (l0 : Nat) (l1 : Nat) (l2 : Nat) (l3 : Nat) (l4 : Int32) (s0 : Int32) (M : zM) : Int32 × zM := b198_483 n k23 l0 l1 l2 l3 l4 s0 (b138_0 n l2 (zI M l0 (l4 + (1 : Int32)).toNatClampNeg) (zI M l0 (l4 + (2 : Int32)).toNatClampNeg) M).1 (b138_0 n l2 (zI M l0 (l4 + (1 : Int32)).toNatClampNeg) (zI M l0 (l4 + (2 : Int32)).toNatClampNeg) M).2
def p198_467 (n : Nat) (q23 : Nat → Nat → Nat → Nat → Int32 → zM → Prop) (l0 : Nat) (l1 : Nat) (l2 : Nat) (l3 : Nat) (l4 : Int32) (s0 : Int32) (M : zM) : Prop := (zOkI l0 (l4 + (1 : Int32)) M) ∧ ((zOkI l0 (l4 + (2 : Int32)) M) ∧ ((zHasC 198 60 l2 M 138 2) ∧ ((p138_0 n l2 (zI M l0 (l4 + (1 : Int32)).toNatClampNeg) (zI M l0 (l4 + (2 : Int32)).toNatClampNeg) M) ∧ (p198_483 n q23 l0 l1 l2 l3 l4 s0 (b138_0 n l2 (zI M l0 (l4 + (1 : Int32)).toNatClampNeg) (zI M l0 (l4 + (2 : Int32)).toNatClampNeg) M).1 (b138_0 n l2 (zI M l0 (l4 + (1 : Int32)).toNatClampNeg) (zI M l0 (l4 + (2 : Int32)).toNatClampNeg) M).2))))
set_option maxRecDepth 100000 in
set_option maxHeartbeats 4000000 in
theorem s198_467 (n : Nat) (k23 : Nat → Nat → Nat → Nat → Int32 → zM → Int32 × zM) (q23 : Nat → Nat → Nat → Nat → Int32 → zM → Prop) (h23 : ∀ (l0 : Nat) (l1 : Nat) (l2 : Nat) (l3 : Nat) (l4 : Int32) (M : zM), q23 l0 l1 l2 l3 l4 M → ∀ {Q : Option Value → zM → Prop}, (∀ r M1, zRI (k23 l0 l1 l2 l3 l4 M) r M1 → Q r M1) → zWP 198 23 [some (.ref l0), some (.ref l1), some (.ref l2), some (.ref l3), some (.int l4), none, none] [] M Q) (l0 : Nat) (l1 : Nat) (l2 : Nat) (l3 : Nat) (l4 : Int32) (s0 : Int32) (M : zM) (hp : p198_467 n q23 l0 l1 l2 l3 l4 s0 M) {Q : Option Value → zM → Prop} (hQ : ∀ r M1, zRI (b198_467 n k23 l0 l1 l2 l3 l4 s0 M) r M1 → Q r M1) : zWP 198 467 [some (.ref l0), some (.ref l1), some (.ref l2), some (.ref l3), some (.int l4), none, none] [.int s0] M Q := by
  unfold b198_467 at hQ
  unfold p198_467 at hp
  refine wp_go 5 (pc' := 473) (L' := [some (.ref l0), some (.ref l1), some (.ref l2), some (.ref l3), some (.int l4), none, none]) (st' := [.int (l4 + (1 : Int32)), .ref l0, .ref l2, .int s0]) (M' := M) rfl ?_
  obtain ⟨hc, hp⟩ := hp
  refine wq_iald rfl hc ?_
  refine wp_go 4 (pc' := 479) (L' := [some (.ref l0), some (.ref l1), some (.ref l2), some (.ref l3), some (.int l4), none, none]) (st' := [.int (l4 + (2 : Int32)), .ref l0, .int (zI M l0 (l4 + (1 : Int32)).toNatClampNeg), .ref l2, .int s0]) (M' := M) rfl ?_
  obtain ⟨hc, hp⟩ := hp
  refine wq_iald rfl hc ?_
  obtain ⟨hv, hp⟩ := hp
  obtain ⟨hc, hp⟩ := hp
  refine wp_calli (v := (b138_0 n l2 (zI M l0 (l4 + (1 : Int32)).toNatClampNeg) (zI M l0 (l4 + (2 : Int32)).toNatClampNeg) M).1) (M1 := (b138_0 n l2 (zI M l0 (l4 + (1 : Int32)).toNatClampNeg) (zI M l0 (l4 + (2 : Int32)).toNatClampNeg) M).2) rfl rfl rfl (zInv_v (np := 2) rfl rfl hv rfl) (s138_0 n l2 (zI M l0 (l4 + (1 : Int32)).toNatClampNeg) (zI M l0 (l4 + (2 : Int32)).toNatClampNeg) M hc (fun r M1 h => h)) ?_
  exact s198_483 n k23 q23 h23 l0 l1 l2 l3 l4 s0 (b138_0 n l2 (zI M l0 (l4 + (1 : Int32)).toNatClampNeg) (zI M l0 (l4 + (2 : Int32)).toNatClampNeg) M).1 (b138_0 n l2 (zI M l0 (l4 + (1 : Int32)).toNatClampNeg) (zI M l0 (l4 + (2 : Int32)).toNatClampNeg) M).2 hp hQ
def b198_553 (n : Nat) (k23 : Nat → Nat → Nat → Nat → Int32 → zM → Int32 × zM) (l0 : Nat) (l1 : Nat) (l2 : Nat) (l3 : Nat) (l4 : Int32) (M : zM) : Int32 × zM := b198_1243 n k23 l0 l1 l2 l3 l4 M
def p198_553 (n : Nat) (q23 : Nat → Nat → Nat → Nat → Int32 → zM → Prop) (l0 : Nat) (l1 : Nat) (l2 : Nat) (l3 : Nat) (l4 : Int32) (M : zM) : Prop := p198_1243 n q23 l0 l1 l2 l3 l4 M
set_option maxRecDepth 100000 in
set_option maxHeartbeats 4000000 in
theorem s198_553 (n : Nat) (k23 : Nat → Nat → Nat → Nat → Int32 → zM → Int32 × zM) (q23 : Nat → Nat → Nat → Nat → Int32 → zM → Prop) (h23 : ∀ (l0 : Nat) (l1 : Nat) (l2 : Nat) (l3 : Nat) (l4 : Int32) (M : zM), q23 l0 l1 l2 l3 l4 M → ∀ {Q : Option Value → zM → Prop}, (∀ r M1, zRI (k23 l0 l1 l2 l3 l4 M) r M1 → Q r M1) → zWP 198 23 [some (.ref l0), some (.ref l1), some (.ref l2), some (.ref l3), some (.int l4), none, none] [] M Q) (l0 : Nat) (l1 : Nat) (l2 : Nat) (l3 : Nat) (l4 : Int32) (M : zM) (hp : p198_553 n q23 l0 l1 l2 l3 l4 M) {Q : Option Value → zM → Prop} (hQ : ∀ r M1, zRI (b198_553 n k23 l0 l1 l2 l3 l4 M) r M1 → Q r M1) : zWP 198 553 [some (.ref l0), some (.ref l1), some (.ref l2), some (.ref l3), some (.int l4), none, none] [] M Q := by
  unfold b198_553 at hQ
  unfold p198_553 at hp
  refine wp_go 1 (pc' := 1243) (L' := [some (.ref l0), some (.ref l1), some (.ref l2), some (.ref l3), some (.int l4), none, none]) (st' := []) (M' := M) rfl ?_
  exact s198_1243 n k23 q23 h23 l0 l1 l2 l3 l4 M hp hQ
def b198_529 (n : Nat) (k23 : Nat → Nat → Nat → Nat → Int32 → zM → Int32 × zM) (l0 : Nat) (l1 : Nat) (l2 : Nat) (l3 : Nat) (l4 : Int32) (l5 : Int32) (l6 : Int32) (s0 : Int32) (M : zM) : Int32 × zM := (if s0 = l5 then (if l5 = 0 then (if (lg_cmp (zJ M l3 (0 : Int32).toNatClampNeg) l6.toInt64) = 0 then b198_553 n k23 l0 l1 l2 l3 l4 M else ((0 : Int32), M)) else b198_553 n k23 l0 l1 l2 l3 l4 M) else ((0 : Int32), M))
def p198_529 (n : Nat) (q23 : Nat → Nat → Nat → Nat → Int32 → zM → Prop) (l0 : Nat) (l1 : Nat) (l2 : Nat) (l3 : Nat) (l4 : Int32) (l5 : Int32) (l6 : Int32) (s0 : Int32) (M : zM) : Prop := ((s0 = l5 → ((l5 = 0 → (zOkT 3 l3 (0 : Int32) M) ∧ ((((lg_cmp (zJ M l3 (0 : Int32).toNatClampNeg) l6.toInt64) = 0 → p198_553 n q23 l0 l1 l2 l3 l4 M) ∧ (¬ (lg_cmp (zJ M l3 (0 : Int32).toNatClampNeg) l6.toInt64) = 0 → True)))) ∧ (¬ l5 = 0 → p198_553 n q23 l0 l1 l2 l3 l4 M))) ∧ (¬ s0 = l5 → True))
set_option maxRecDepth 100000 in
set_option maxHeartbeats 4000000 in
theorem s198_529 (n : Nat) (k23 : Nat → Nat → Nat → Nat → Int32 → zM → Int32 × zM) (q23 : Nat → Nat → Nat → Nat → Int32 → zM → Prop) (h23 : ∀ (l0 : Nat) (l1 : Nat) (l2 : Nat) (l3 : Nat) (l4 : Int32) (M : zM), q23 l0 l1 l2 l3 l4 M → ∀ {Q : Option Value → zM → Prop}, (∀ r M1, zRI (k23 l0 l1 l2 l3 l4 M) r M1 → Q r M1) → zWP 198 23 [some (.ref l0), some (.ref l1), some (.ref l2), some (.ref l3), some (.int l4), none, none] [] M Q) (l0 : Nat) (l1 : Nat) (l2 : Nat) (l3 : Nat) (l4 : Int32) (l5 : Int32) (l6 : Int32) (s0 : Int32) (M : zM) (hp : p198_529 n q23 l0 l1 l2 l3 l4 l5 l6 s0 M) {Q : Option Value → zM → Prop} (hQ : ∀ r M1, zRI (b198_529 n k23 l0 l1 l2 l3 l4 l5 l6 s0 M) r M1 → Q r M1) : zWP 198 529 [some (.ref l0), some (.ref l1), some (.ref l2), some (.ref l3), some (.int l4), some (.int l5), some (.int l6)] [.int s0] M Q := by
  unfold b198_529 at hQ
  unfold p198_529 at hp
  refine wp_go 1 (pc' := 531) (L' := [some (.ref l0), some (.ref l1), some (.ref l2), some (.ref l3), some (.int l4), some (.int l5), some (.int l6)]) (st' := [.int l5, .int s0]) (M' := M) rfl ?_
  refine wp_ic_eq (t := 536) rfl rfl (fun hc => ?_) (fun hc => ?_)
  · rw [if_pos hc] at hQ
    replace hp := hp.1 hc
    refine wp_go 1 (pc' := 538) (L' := [some (.ref l0), some (.ref l1), some (.ref l2), some (.ref l3), some (.int l4), some (.int l5), some (.int l6)]) (st' := [.int l5]) (M' := M) rfl ?_
    refine wp_if_ne (t := 553) rfl rfl (fun hc => ?_) (fun hc => ?_)
    · rw [if_neg hc] at hQ
      replace hp := hp.2 hc
      refine wp_le [some (.ref l0), some (.ref l1), some (.ref l2), some (.ref l3), some (.int l4), none, none] (zLe_of (by simp [zLeB])) ?_
      exact s198_553 n k23 q23 h23 l0 l1 l2 l3 l4 M hp hQ
    · rw [if_pos hc] at hQ
      replace hp := hp.1 hc
      refine wp_go 2 (pc' := 543) (L' := [some (.ref l0), some (.ref l1), some (.ref l2), some (.ref l3), some (.int l4), some (.int l5), some (.int l6)]) (st' := [.int (0 : Int32), .ref l3]) (M' := M) rfl ?_
      obtain ⟨hc, hp⟩ := hp
      refine wq_lald rfl hc ?_
      refine wp_go 3 (pc' := 548) (L' := [some (.ref l0), some (.ref l1), some (.ref l2), some (.ref l3), some (.int l4), some (.int l5), some (.int l6)]) (st' := [.int (lg_cmp (zJ M l3 (0 : Int32).toNatClampNeg) l6.toInt64)]) (M' := M) rfl ?_
      refine wp_if_eq (t := 553) rfl rfl (fun hc => ?_) (fun hc => ?_)
      · rw [if_pos hc] at hQ
        replace hp := hp.1 hc
        refine wp_le [some (.ref l0), some (.ref l1), some (.ref l2), some (.ref l3), some (.int l4), none, none] (zLe_of (by simp [zLeB])) ?_
        exact s198_553 n k23 q23 h23 l0 l1 l2 l3 l4 M hp hQ
      · rw [if_neg hc] at hQ
        replace hp := hp.2 hc
        refine wp_go 1 (pc' := 552) (L' := [some (.ref l0), some (.ref l1), some (.ref l2), some (.ref l3), some (.int l4), some (.int l5), some (.int l6)]) (st' := [.int (0 : Int32)]) (M' := M) rfl ?_
        exact wp_ret (r := some (.int (0 : Int32))) rfl rfl (hQ _ _ ⟨rfl, rfl⟩)
  · rw [if_neg hc] at hQ
    replace hp := hp.2 hc
    refine wp_go 1 (pc' := 535) (L' := [some (.ref l0), some (.ref l1), some (.ref l2), some (.ref l3), some (.int l4), some (.int l5), some (.int l6)]) (st' := [.int (0 : Int32)]) (M' := M) rfl ?_
    exact wp_ret (r := some (.int (0 : Int32))) rfl rfl (hQ _ _ ⟨rfl, rfl⟩)
def b198_523 (n : Nat) (k23 : Nat → Nat → Nat → Nat → Int32 → zM → Int32 × zM) (l0 : Nat) (l1 : Nat) (l2 : Nat) (l3 : Nat) (l4 : Int32) (l5 : Int32) (s0 : Int32) (M : zM) : Int32 × zM := b198_529 n k23 l0 l1 l2 l3 l4 l5 s0 (b118_0 n l2 M).1 (b118_0 n l2 M).2
def p198_523 (n : Nat) (q23 : Nat → Nat → Nat → Nat → Int32 → zM → Prop) (l0 : Nat) (l1 : Nat) (l2 : Nat) (l3 : Nat) (l4 : Int32) (l5 : Int32) (s0 : Int32) (M : zM) : Prop := (zHasC 198 67 l2 M 118 0) ∧ ((p118_0 n l2 M) ∧ (p198_529 n q23 l0 l1 l2 l3 l4 l5 s0 (b118_0 n l2 M).1 (b118_0 n l2 M).2))
set_option maxRecDepth 100000 in
set_option maxHeartbeats 4000000 in
theorem s198_523 (n : Nat) (k23 : Nat → Nat → Nat → Nat → Int32 → zM → Int32 × zM) (q23 : Nat → Nat → Nat → Nat → Int32 → zM → Prop) (h23 : ∀ (l0 : Nat) (l1 : Nat) (l2 : Nat) (l3 : Nat) (l4 : Int32) (M : zM), q23 l0 l1 l2 l3 l4 M → ∀ {Q : Option Value → zM → Prop}, (∀ r M1, zRI (k23 l0 l1 l2 l3 l4 M) r M1 → Q r M1) → zWP 198 23 [some (.ref l0), some (.ref l1), some (.ref l2), some (.ref l3), some (.int l4), none, none] [] M Q) (l0 : Nat) (l1 : Nat) (l2 : Nat) (l3 : Nat) (l4 : Int32) (l5 : Int32) (s0 : Int32) (M : zM) (hp : p198_523 n q23 l0 l1 l2 l3 l4 l5 s0 M) {Q : Option Value → zM → Prop} (hQ : ∀ r M1, zRI (b198_523 n k23 l0 l1 l2 l3 l4 l5 s0 M) r M1 → Q r M1) : zWP 198 523 [some (.ref l0), some (.ref l1), some (.ref l2), some (.ref l3), some (.int l4), some (.int l5), none] [.int s0] M Q := by
  unfold b198_523 at hQ
  unfold p198_523 at hp
  refine wp_go 2 (pc' := 526) (L' := [some (.ref l0), some (.ref l1), some (.ref l2), some (.ref l3), some (.int l4), some (.int l5), some (.int s0)]) (st' := [.ref l2]) (M' := M) rfl ?_
  obtain ⟨hv, hp⟩ := hp
  obtain ⟨hc, hp⟩ := hp
  refine wp_calli (v := (b118_0 n l2 M).1) (M1 := (b118_0 n l2 M).2) rfl rfl rfl (zInv_v (np := 0) rfl rfl hv rfl) (s118_0 n l2 M hc (fun r M1 h => h)) ?_
  exact s198_529 n k23 q23 h23 l0 l1 l2 l3 l4 l5 s0 (b118_0 n l2 M).1 (b118_0 n l2 M).2 hp hQ
def b198_505 (n : Nat) (k23 : Nat → Nat → Nat → Nat → Int32 → zM → Int32 × zM) (l0 : Nat) (l1 : Nat) (l2 : Nat) (l3 : Nat) (l4 : Int32) (s0 : Int32) (M : zM) : Int32 × zM := b198_523 n k23 l0 l1 l2 l3 l4 s0 (b139_0 n l2 (zI M l0 (l4 + (1 : Int32)).toNatClampNeg) (zI M l0 (l4 + (2 : Int32)).toNatClampNeg) M).1 (b139_0 n l2 (zI M l0 (l4 + (1 : Int32)).toNatClampNeg) (zI M l0 (l4 + (2 : Int32)).toNatClampNeg) M).2
def p198_505 (n : Nat) (q23 : Nat → Nat → Nat → Nat → Int32 → zM → Prop) (l0 : Nat) (l1 : Nat) (l2 : Nat) (l3 : Nat) (l4 : Int32) (s0 : Int32) (M : zM) : Prop := (zOkI l0 (l4 + (1 : Int32)) M) ∧ ((zOkI l0 (l4 + (2 : Int32)) M) ∧ ((zHasC 198 66 l2 M 139 2) ∧ ((p139_0 n l2 (zI M l0 (l4 + (1 : Int32)).toNatClampNeg) (zI M l0 (l4 + (2 : Int32)).toNatClampNeg) M) ∧ (p198_523 n q23 l0 l1 l2 l3 l4 s0 (b139_0 n l2 (zI M l0 (l4 + (1 : Int32)).toNatClampNeg) (zI M l0 (l4 + (2 : Int32)).toNatClampNeg) M).1 (b139_0 n l2 (zI M l0 (l4 + (1 : Int32)).toNatClampNeg) (zI M l0 (l4 + (2 : Int32)).toNatClampNeg) M).2))))
set_option maxRecDepth 100000 in
set_option maxHeartbeats 4000000 in
theorem s198_505 (n : Nat) (k23 : Nat → Nat → Nat → Nat → Int32 → zM → Int32 × zM) (q23 : Nat → Nat → Nat → Nat → Int32 → zM → Prop) (h23 : ∀ (l0 : Nat) (l1 : Nat) (l2 : Nat) (l3 : Nat) (l4 : Int32) (M : zM), q23 l0 l1 l2 l3 l4 M → ∀ {Q : Option Value → zM → Prop}, (∀ r M1, zRI (k23 l0 l1 l2 l3 l4 M) r M1 → Q r M1) → zWP 198 23 [some (.ref l0), some (.ref l1), some (.ref l2), some (.ref l3), some (.int l4), none, none] [] M Q) (l0 : Nat) (l1 : Nat) (l2 : Nat) (l3 : Nat) (l4 : Int32) (s0 : Int32) (M : zM) (hp : p198_505 n q23 l0 l1 l2 l3 l4 s0 M) {Q : Option Value → zM → Prop} (hQ : ∀ r M1, zRI (b198_505 n k23 l0 l1 l2 l3 l4 s0 M) r M1 → Q r M1) : zWP 198 505 [some (.ref l0), some (.ref l1), some (.ref l2), some (.ref l3), some (.int l4), none, none] [.int s0] M Q := by
  unfold b198_505 at hQ
  unfold p198_505 at hp
  refine wp_go 5 (pc' := 512) (L' := [some (.ref l0), some (.ref l1), some (.ref l2), some (.ref l3), some (.int l4), some (.int s0), none]) (st' := [.int (1 : Int32), .int l4, .ref l0, .ref l2]) (M' := M) rfl ?_
  refine wp_go 1 (pc' := 513) (L' := [some (.ref l0), some (.ref l1), some (.ref l2), some (.ref l3), some (.int l4), some (.int s0), none]) (st' := [.int (l4 + (1 : Int32)), .ref l0, .ref l2]) (M' := M) rfl ?_
  obtain ⟨hc, hp⟩ := hp
  refine wq_iald rfl hc ?_
  refine wp_go 4 (pc' := 519) (L' := [some (.ref l0), some (.ref l1), some (.ref l2), some (.ref l3), some (.int l4), some (.int s0), none]) (st' := [.int (l4 + (2 : Int32)), .ref l0, .int (zI M l0 (l4 + (1 : Int32)).toNatClampNeg), .ref l2]) (M' := M) rfl ?_
  obtain ⟨hc, hp⟩ := hp
  refine wq_iald rfl hc ?_
  obtain ⟨hv, hp⟩ := hp
  obtain ⟨hc, hp⟩ := hp
  refine wp_calli (v := (b139_0 n l2 (zI M l0 (l4 + (1 : Int32)).toNatClampNeg) (zI M l0 (l4 + (2 : Int32)).toNatClampNeg) M).1) (M1 := (b139_0 n l2 (zI M l0 (l4 + (1 : Int32)).toNatClampNeg) (zI M l0 (l4 + (2 : Int32)).toNatClampNeg) M).2) rfl rfl rfl (zInv_v (np := 2) rfl rfl hv rfl) (s139_0 n l2 (zI M l0 (l4 + (1 : Int32)).toNatClampNeg) (zI M l0 (l4 + (2 : Int32)).toNatClampNeg) M hc (fun r M1 h => h)) ?_
  exact s198_523 n k23 q23 h23 l0 l1 l2 l3 l4 s0 (b139_0 n l2 (zI M l0 (l4 + (1 : Int32)).toNatClampNeg) (zI M l0 (l4 + (2 : Int32)).toNatClampNeg) M).1 (b139_0 n l2 (zI M l0 (l4 + (1 : Int32)).toNatClampNeg) (zI M l0 (l4 + (2 : Int32)).toNatClampNeg) M).2 hp hQ
def b198_633 (n : Nat) (k23 : Nat → Nat → Nat → Nat → Int32 → zM → Int32 × zM) (l0 : Nat) (l1 : Nat) (l2 : Nat) (l3 : Nat) (l4 : Int32) (M : zM) : Int32 × zM := b198_1243 n k23 l0 l1 l2 l3 l4 M
def p198_633 (n : Nat) (q23 : Nat → Nat → Nat → Nat → Int32 → zM → Prop) (l0 : Nat) (l1 : Nat) (l2 : Nat) (l3 : Nat) (l4 : Int32) (M : zM) : Prop := p198_1243 n q23 l0 l1 l2 l3 l4 M
set_option maxRecDepth 100000 in
set_option maxHeartbeats 4000000 in
theorem s198_633 (n : Nat) (k23 : Nat → Nat → Nat → Nat → Int32 → zM → Int32 × zM) (q23 : Nat → Nat → Nat → Nat → Int32 → zM → Prop) (h23 : ∀ (l0 : Nat) (l1 : Nat) (l2 : Nat) (l3 : Nat) (l4 : Int32) (M : zM), q23 l0 l1 l2 l3 l4 M → ∀ {Q : Option Value → zM → Prop}, (∀ r M1, zRI (k23 l0 l1 l2 l3 l4 M) r M1 → Q r M1) → zWP 198 23 [some (.ref l0), some (.ref l1), some (.ref l2), some (.ref l3), some (.int l4), none, none] [] M Q) (l0 : Nat) (l1 : Nat) (l2 : Nat) (l3 : Nat) (l4 : Int32) (M : zM) (hp : p198_633 n q23 l0 l1 l2 l3 l4 M) {Q : Option Value → zM → Prop} (hQ : ∀ r M1, zRI (b198_633 n k23 l0 l1 l2 l3 l4 M) r M1 → Q r M1) : zWP 198 633 [some (.ref l0), some (.ref l1), some (.ref l2), some (.ref l3), some (.int l4), none, none] [] M Q := by
  unfold b198_633 at hQ
  unfold p198_633 at hp
  refine wp_go 1 (pc' := 1243) (L' := [some (.ref l0), some (.ref l1), some (.ref l2), some (.ref l3), some (.int l4), none, none]) (st' := []) (M' := M) rfl ?_
  exact s198_1243 n k23 q23 h23 l0 l1 l2 l3 l4 M hp hQ
def b198_609 (n : Nat) (k23 : Nat → Nat → Nat → Nat → Int32 → zM → Int32 × zM) (l0 : Nat) (l1 : Nat) (l2 : Nat) (l3 : Nat) (l4 : Int32) (l5 : Int32) (l6 : Int32) (s0 : Int32) (M : zM) : Int32 × zM := (if s0 = l5 then (if l5 = 0 then (if (lg_cmp (zJ M l3 (0 : Int32).toNatClampNeg) l6.toInt64) = 0 then b198_633 n k23 l0 l1 l2 l3 l4 M else ((0 : Int32), M)) else b198_633 n k23 l0 l1 l2 l3 l4 M) else ((0 : Int32), M))
def p198_609 (n : Nat) (q23 : Nat → Nat → Nat → Nat → Int32 → zM → Prop) (l0 : Nat) (l1 : Nat) (l2 : Nat) (l3 : Nat) (l4 : Int32) (l5 : Int32) (l6 : Int32) (s0 : Int32) (M : zM) : Prop := ((s0 = l5 → ((l5 = 0 → (zOkT 3 l3 (0 : Int32) M) ∧ ((((lg_cmp (zJ M l3 (0 : Int32).toNatClampNeg) l6.toInt64) = 0 → p198_633 n q23 l0 l1 l2 l3 l4 M) ∧ (¬ (lg_cmp (zJ M l3 (0 : Int32).toNatClampNeg) l6.toInt64) = 0 → True)))) ∧ (¬ l5 = 0 → p198_633 n q23 l0 l1 l2 l3 l4 M))) ∧ (¬ s0 = l5 → True))
set_option maxRecDepth 100000 in
set_option maxHeartbeats 4000000 in
theorem s198_609 (n : Nat) (k23 : Nat → Nat → Nat → Nat → Int32 → zM → Int32 × zM) (q23 : Nat → Nat → Nat → Nat → Int32 → zM → Prop) (h23 : ∀ (l0 : Nat) (l1 : Nat) (l2 : Nat) (l3 : Nat) (l4 : Int32) (M : zM), q23 l0 l1 l2 l3 l4 M → ∀ {Q : Option Value → zM → Prop}, (∀ r M1, zRI (k23 l0 l1 l2 l3 l4 M) r M1 → Q r M1) → zWP 198 23 [some (.ref l0), some (.ref l1), some (.ref l2), some (.ref l3), some (.int l4), none, none] [] M Q) (l0 : Nat) (l1 : Nat) (l2 : Nat) (l3 : Nat) (l4 : Int32) (l5 : Int32) (l6 : Int32) (s0 : Int32) (M : zM) (hp : p198_609 n q23 l0 l1 l2 l3 l4 l5 l6 s0 M) {Q : Option Value → zM → Prop} (hQ : ∀ r M1, zRI (b198_609 n k23 l0 l1 l2 l3 l4 l5 l6 s0 M) r M1 → Q r M1) : zWP 198 609 [some (.ref l0), some (.ref l1), some (.ref l2), some (.ref l3), some (.int l4), some (.int l5), some (.int l6)] [.int s0] M Q := by
  unfold b198_609 at hQ
  unfold p198_609 at hp
  refine wp_go 1 (pc' := 611) (L' := [some (.ref l0), some (.ref l1), some (.ref l2), some (.ref l3), some (.int l4), some (.int l5), some (.int l6)]) (st' := [.int l5, .int s0]) (M' := M) rfl ?_
  refine wp_ic_eq (t := 616) rfl rfl (fun hc => ?_) (fun hc => ?_)
  · rw [if_pos hc] at hQ
    replace hp := hp.1 hc
    refine wp_go 1 (pc' := 618) (L' := [some (.ref l0), some (.ref l1), some (.ref l2), some (.ref l3), some (.int l4), some (.int l5), some (.int l6)]) (st' := [.int l5]) (M' := M) rfl ?_
    refine wp_if_ne (t := 633) rfl rfl (fun hc => ?_) (fun hc => ?_)
    · rw [if_neg hc] at hQ
      replace hp := hp.2 hc
      refine wp_le [some (.ref l0), some (.ref l1), some (.ref l2), some (.ref l3), some (.int l4), none, none] (zLe_of (by simp [zLeB])) ?_
      exact s198_633 n k23 q23 h23 l0 l1 l2 l3 l4 M hp hQ
    · rw [if_pos hc] at hQ
      replace hp := hp.1 hc
      refine wp_go 2 (pc' := 623) (L' := [some (.ref l0), some (.ref l1), some (.ref l2), some (.ref l3), some (.int l4), some (.int l5), some (.int l6)]) (st' := [.int (0 : Int32), .ref l3]) (M' := M) rfl ?_
      obtain ⟨hc, hp⟩ := hp
      refine wq_lald rfl hc ?_
      refine wp_go 3 (pc' := 628) (L' := [some (.ref l0), some (.ref l1), some (.ref l2), some (.ref l3), some (.int l4), some (.int l5), some (.int l6)]) (st' := [.int (lg_cmp (zJ M l3 (0 : Int32).toNatClampNeg) l6.toInt64)]) (M' := M) rfl ?_
      refine wp_if_eq (t := 633) rfl rfl (fun hc => ?_) (fun hc => ?_)
      · rw [if_pos hc] at hQ
        replace hp := hp.1 hc
        refine wp_le [some (.ref l0), some (.ref l1), some (.ref l2), some (.ref l3), some (.int l4), none, none] (zLe_of (by simp [zLeB])) ?_
        exact s198_633 n k23 q23 h23 l0 l1 l2 l3 l4 M hp hQ
      · rw [if_neg hc] at hQ
        replace hp := hp.2 hc
        refine wp_go 1 (pc' := 632) (L' := [some (.ref l0), some (.ref l1), some (.ref l2), some (.ref l3), some (.int l4), some (.int l5), some (.int l6)]) (st' := [.int (0 : Int32)]) (M' := M) rfl ?_
        exact wp_ret (r := some (.int (0 : Int32))) rfl rfl (hQ _ _ ⟨rfl, rfl⟩)
  · rw [if_neg hc] at hQ
    replace hp := hp.2 hc
    refine wp_go 1 (pc' := 615) (L' := [some (.ref l0), some (.ref l1), some (.ref l2), some (.ref l3), some (.int l4), some (.int l5), some (.int l6)]) (st' := [.int (0 : Int32)]) (M' := M) rfl ?_
    exact wp_ret (r := some (.int (0 : Int32))) rfl rfl (hQ _ _ ⟨rfl, rfl⟩)
def b198_603 (n : Nat) (k23 : Nat → Nat → Nat → Nat → Int32 → zM → Int32 × zM) (l0 : Nat) (l1 : Nat) (l2 : Nat) (l3 : Nat) (l4 : Int32) (l5 : Int32) (s0 : Int32) (M : zM) : Int32 × zM := b198_609 n k23 l0 l1 l2 l3 l4 l5 s0 (b118_0 n l2 M).1 (b118_0 n l2 M).2
def p198_603 (n : Nat) (q23 : Nat → Nat → Nat → Nat → Int32 → zM → Prop) (l0 : Nat) (l1 : Nat) (l2 : Nat) (l3 : Nat) (l4 : Int32) (l5 : Int32) (s0 : Int32) (M : zM) : Prop := (zHasC 198 67 l2 M 118 0) ∧ ((p118_0 n l2 M) ∧ (p198_609 n q23 l0 l1 l2 l3 l4 l5 s0 (b118_0 n l2 M).1 (b118_0 n l2 M).2))
set_option maxRecDepth 100000 in
set_option maxHeartbeats 4000000 in
theorem s198_603 (n : Nat) (k23 : Nat → Nat → Nat → Nat → Int32 → zM → Int32 × zM) (q23 : Nat → Nat → Nat → Nat → Int32 → zM → Prop) (h23 : ∀ (l0 : Nat) (l1 : Nat) (l2 : Nat) (l3 : Nat) (l4 : Int32) (M : zM), q23 l0 l1 l2 l3 l4 M → ∀ {Q : Option Value → zM → Prop}, (∀ r M1, zRI (k23 l0 l1 l2 l3 l4 M) r M1 → Q r M1) → zWP 198 23 [some (.ref l0), some (.ref l1), some (.ref l2), some (.ref l3), some (.int l4), none, none] [] M Q) (l0 : Nat) (l1 : Nat) (l2 : Nat) (l3 : Nat) (l4 : Int32) (l5 : Int32) (s0 : Int32) (M : zM) (hp : p198_603 n q23 l0 l1 l2 l3 l4 l5 s0 M) {Q : Option Value → zM → Prop} (hQ : ∀ r M1, zRI (b198_603 n k23 l0 l1 l2 l3 l4 l5 s0 M) r M1 → Q r M1) : zWP 198 603 [some (.ref l0), some (.ref l1), some (.ref l2), some (.ref l3), some (.int l4), some (.int l5), none] [.int s0] M Q := by
  unfold b198_603 at hQ
  unfold p198_603 at hp
  refine wp_go 2 (pc' := 606) (L' := [some (.ref l0), some (.ref l1), some (.ref l2), some (.ref l3), some (.int l4), some (.int l5), some (.int s0)]) (st' := [.ref l2]) (M' := M) rfl ?_
  obtain ⟨hv, hp⟩ := hp
  obtain ⟨hc, hp⟩ := hp
  refine wp_calli (v := (b118_0 n l2 M).1) (M1 := (b118_0 n l2 M).2) rfl rfl rfl (zInv_v (np := 0) rfl rfl hv rfl) (s118_0 n l2 M hc (fun r M1 h => h)) ?_
  exact s198_609 n k23 q23 h23 l0 l1 l2 l3 l4 l5 s0 (b118_0 n l2 M).1 (b118_0 n l2 M).2 hp hQ
def b198_579 (n : Nat) (k23 : Nat → Nat → Nat → Nat → Int32 → zM → Int32 × zM) (l0 : Nat) (l1 : Nat) (l2 : Nat) (l3 : Nat) (l4 : Int32) (s0 : Int32) (M : zM) : Int32 × zM := b198_603 n k23 l0 l1 l2 l3 l4 s0 (b140_0 n l2 (zI M l0 (l4 + (1 : Int32)).toNatClampNeg) (zI M l0 (l4 + (2 : Int32)).toNatClampNeg) (zI M l0 (l4 + (3 : Int32)).toNatClampNeg) M).1 (b140_0 n l2 (zI M l0 (l4 + (1 : Int32)).toNatClampNeg) (zI M l0 (l4 + (2 : Int32)).toNatClampNeg) (zI M l0 (l4 + (3 : Int32)).toNatClampNeg) M).2
def p198_579 (n : Nat) (q23 : Nat → Nat → Nat → Nat → Int32 → zM → Prop) (l0 : Nat) (l1 : Nat) (l2 : Nat) (l3 : Nat) (l4 : Int32) (s0 : Int32) (M : zM) : Prop := (zOkI l0 (l4 + (1 : Int32)) M) ∧ ((zOkI l0 (l4 + (2 : Int32)) M) ∧ ((zOkI l0 (l4 + (3 : Int32)) M) ∧ ((zHasC 198 74 l2 M 140 3) ∧ ((p140_0 n l2 (zI M l0 (l4 + (1 : Int32)).toNatClampNeg) (zI M l0 (l4 + (2 : Int32)).toNatClampNeg) (zI M l0 (l4 + (3 : Int32)).toNatClampNeg) M) ∧ (p198_603 n q23 l0 l1 l2 l3 l4 s0 (b140_0 n l2 (zI M l0 (l4 + (1 : Int32)).toNatClampNeg) (zI M l0 (l4 + (2 : Int32)).toNatClampNeg) (zI M l0 (l4 + (3 : Int32)).toNatClampNeg) M).1 (b140_0 n l2 (zI M l0 (l4 + (1 : Int32)).toNatClampNeg) (zI M l0 (l4 + (2 : Int32)).toNatClampNeg) (zI M l0 (l4 + (3 : Int32)).toNatClampNeg) M).2)))))
set_option maxRecDepth 100000 in
set_option maxHeartbeats 4000000 in
theorem s198_579 (n : Nat) (k23 : Nat → Nat → Nat → Nat → Int32 → zM → Int32 × zM) (q23 : Nat → Nat → Nat → Nat → Int32 → zM → Prop) (h23 : ∀ (l0 : Nat) (l1 : Nat) (l2 : Nat) (l3 : Nat) (l4 : Int32) (M : zM), q23 l0 l1 l2 l3 l4 M → ∀ {Q : Option Value → zM → Prop}, (∀ r M1, zRI (k23 l0 l1 l2 l3 l4 M) r M1 → Q r M1) → zWP 198 23 [some (.ref l0), some (.ref l1), some (.ref l2), some (.ref l3), some (.int l4), none, none] [] M Q) (l0 : Nat) (l1 : Nat) (l2 : Nat) (l3 : Nat) (l4 : Int32) (s0 : Int32) (M : zM) (hp : p198_579 n q23 l0 l1 l2 l3 l4 s0 M) {Q : Option Value → zM → Prop} (hQ : ∀ r M1, zRI (b198_579 n k23 l0 l1 l2 l3 l4 s0 M) r M1 → Q r M1) : zWP 198 579 [some (.ref l0), some (.ref l1), some (.ref l2), some (.ref l3), some (.int l4), none, none] [.int s0] M Q := by
  unfold b198_579 at hQ
  unfold p198_579 at hp
  refine wp_go 5 (pc' := 586) (L' := [some (.ref l0), some (.ref l1), some (.ref l2), some (.ref l3), some (.int l4), some (.int s0), none]) (st' := [.int (1 : Int32), .int l4, .ref l0, .ref l2]) (M' := M) rfl ?_
  refine wp_go 1 (pc' := 587) (L' := [some (.ref l0), some (.ref l1), some (.ref l2), some (.ref l3), some (.int l4), some (.int s0), none]) (st' := [.int (l4 + (1 : Int32)), .ref l0, .ref l2]) (M' := M) rfl ?_
  obtain ⟨hc, hp⟩ := hp
  refine wq_iald rfl hc ?_
  refine wp_go 4 (pc' := 593) (L' := [some (.ref l0), some (.ref l1), some (.ref l2), some (.ref l3), some (.int l4), some (.int s0), none]) (st' := [.int (l4 + (2 : Int32)), .ref l0, .int (zI M l0 (l4 + (1 : Int32)).toNatClampNeg), .ref l2]) (M' := M) rfl ?_
  obtain ⟨hc, hp⟩ := hp
  refine wq_iald rfl hc ?_
  refine wp_go 4 (pc' := 599) (L' := [some (.ref l0), some (.ref l1), some (.ref l2), some (.ref l3), some (.int l4), some (.int s0), none]) (st' := [.int (l4 + (3 : Int32)), .ref l0, .int (zI M l0 (l4 + (2 : Int32)).toNatClampNeg), .int (zI M l0 (l4 + (1 : Int32)).toNatClampNeg), .ref l2]) (M' := M) rfl ?_
  obtain ⟨hc, hp⟩ := hp
  refine wq_iald rfl hc ?_
  obtain ⟨hv, hp⟩ := hp
  obtain ⟨hc, hp⟩ := hp
  refine wp_calli (v := (b140_0 n l2 (zI M l0 (l4 + (1 : Int32)).toNatClampNeg) (zI M l0 (l4 + (2 : Int32)).toNatClampNeg) (zI M l0 (l4 + (3 : Int32)).toNatClampNeg) M).1) (M1 := (b140_0 n l2 (zI M l0 (l4 + (1 : Int32)).toNatClampNeg) (zI M l0 (l4 + (2 : Int32)).toNatClampNeg) (zI M l0 (l4 + (3 : Int32)).toNatClampNeg) M).2) rfl rfl rfl (zInv_v (np := 3) rfl rfl hv rfl) (s140_0 n l2 (zI M l0 (l4 + (1 : Int32)).toNatClampNeg) (zI M l0 (l4 + (2 : Int32)).toNatClampNeg) (zI M l0 (l4 + (3 : Int32)).toNatClampNeg) M hc (fun r M1 h => h)) ?_
  exact s198_603 n k23 q23 h23 l0 l1 l2 l3 l4 s0 (b140_0 n l2 (zI M l0 (l4 + (1 : Int32)).toNatClampNeg) (zI M l0 (l4 + (2 : Int32)).toNatClampNeg) (zI M l0 (l4 + (3 : Int32)).toNatClampNeg) M).1 (b140_0 n l2 (zI M l0 (l4 + (1 : Int32)).toNatClampNeg) (zI M l0 (l4 + (2 : Int32)).toNatClampNeg) (zI M l0 (l4 + (3 : Int32)).toNatClampNeg) M).2 hp hQ
def b198_668 (n : Nat) (k23 : Nat → Nat → Nat → Nat → Int32 → zM → Int32 × zM) (l0 : Nat) (l1 : Nat) (l2 : Nat) (l3 : Nat) (l4 : Int32) (s0 : Int64) (s1 : Int64) (M : zM) : Int32 × zM := (if (lg_cmp s0 s1) = 0 then b198_1243 n k23 l0 l1 l2 l3 l4 M else ((0 : Int32), M))
def p198_668 (n : Nat) (q23 : Nat → Nat → Nat → Nat → Int32 → zM → Prop) (l0 : Nat) (l1 : Nat) (l2 : Nat) (l3 : Nat) (l4 : Int32) (s0 : Int64) (s1 : Int64) (M : zM) : Prop := (((lg_cmp s0 s1) = 0 → p198_1243 n q23 l0 l1 l2 l3 l4 M) ∧ (¬ (lg_cmp s0 s1) = 0 → True))
set_option maxRecDepth 100000 in
set_option maxHeartbeats 4000000 in
theorem s198_668 (n : Nat) (k23 : Nat → Nat → Nat → Nat → Int32 → zM → Int32 × zM) (q23 : Nat → Nat → Nat → Nat → Int32 → zM → Prop) (h23 : ∀ (l0 : Nat) (l1 : Nat) (l2 : Nat) (l3 : Nat) (l4 : Int32) (M : zM), q23 l0 l1 l2 l3 l4 M → ∀ {Q : Option Value → zM → Prop}, (∀ r M1, zRI (k23 l0 l1 l2 l3 l4 M) r M1 → Q r M1) → zWP 198 23 [some (.ref l0), some (.ref l1), some (.ref l2), some (.ref l3), some (.int l4), none, none] [] M Q) (l0 : Nat) (l1 : Nat) (l2 : Nat) (l3 : Nat) (l4 : Int32) (s0 : Int64) (s1 : Int64) (M : zM) (hp : p198_668 n q23 l0 l1 l2 l3 l4 s0 s1 M) {Q : Option Value → zM → Prop} (hQ : ∀ r M1, zRI (b198_668 n k23 l0 l1 l2 l3 l4 s0 s1 M) r M1 → Q r M1) : zWP 198 668 [some (.ref l0), some (.ref l1), some (.ref l2), some (.ref l3), some (.int l4), none, none] [.long s1, .long s0] M Q := by
  unfold b198_668 at hQ
  unfold p198_668 at hp
  refine wp_go 1 (pc' := 669) (L' := [some (.ref l0), some (.ref l1), some (.ref l2), some (.ref l3), some (.int l4), none, none]) (st' := [.int (lg_cmp s0 s1)]) (M' := M) rfl ?_
  refine wp_if_eq (t := 1243) rfl rfl (fun hc => ?_) (fun hc => ?_)
  · rw [if_pos hc] at hQ
    replace hp := hp.1 hc
    exact s198_1243 n k23 q23 h23 l0 l1 l2 l3 l4 M hp hQ
  · rw [if_neg hc] at hQ
    replace hp := hp.2 hc
    refine wp_go 1 (pc' := 673) (L' := [some (.ref l0), some (.ref l1), some (.ref l2), some (.ref l3), some (.int l4), none, none]) (st' := [.int (0 : Int32)]) (M' := M) rfl ?_
    exact wp_ret (r := some (.int (0 : Int32))) rfl rfl (hQ _ _ ⟨rfl, rfl⟩)
def b198_652 (n : Nat) (k23 : Nat → Nat → Nat → Nat → Int32 → zM → Int32 × zM) (l0 : Nat) (l1 : Nat) (l2 : Nat) (l3 : Nat) (l4 : Int32) (s0 : Int64) (M : zM) : Int32 × zM := b198_668 n k23 l0 l1 l2 l3 l4 s0 (b142_0 n l2 (zI M l0 (l4 + (1 : Int32)).toNatClampNeg) (zI M l0 (l4 + (2 : Int32)).toNatClampNeg) M).1 (b142_0 n l2 (zI M l0 (l4 + (1 : Int32)).toNatClampNeg) (zI M l0 (l4 + (2 : Int32)).toNatClampNeg) M).2
def p198_652 (n : Nat) (q23 : Nat → Nat → Nat → Nat → Int32 → zM → Prop) (l0 : Nat) (l1 : Nat) (l2 : Nat) (l3 : Nat) (l4 : Int32) (s0 : Int64) (M : zM) : Prop := (zOkI l0 (l4 + (1 : Int32)) M) ∧ ((zOkI l0 (l4 + (2 : Int32)) M) ∧ ((zHasC 198 79 l2 M 142 2) ∧ ((p142_0 n l2 (zI M l0 (l4 + (1 : Int32)).toNatClampNeg) (zI M l0 (l4 + (2 : Int32)).toNatClampNeg) M) ∧ (p198_668 n q23 l0 l1 l2 l3 l4 s0 (b142_0 n l2 (zI M l0 (l4 + (1 : Int32)).toNatClampNeg) (zI M l0 (l4 + (2 : Int32)).toNatClampNeg) M).1 (b142_0 n l2 (zI M l0 (l4 + (1 : Int32)).toNatClampNeg) (zI M l0 (l4 + (2 : Int32)).toNatClampNeg) M).2))))
set_option maxRecDepth 100000 in
set_option maxHeartbeats 4000000 in
theorem s198_652 (n : Nat) (k23 : Nat → Nat → Nat → Nat → Int32 → zM → Int32 × zM) (q23 : Nat → Nat → Nat → Nat → Int32 → zM → Prop) (h23 : ∀ (l0 : Nat) (l1 : Nat) (l2 : Nat) (l3 : Nat) (l4 : Int32) (M : zM), q23 l0 l1 l2 l3 l4 M → ∀ {Q : Option Value → zM → Prop}, (∀ r M1, zRI (k23 l0 l1 l2 l3 l4 M) r M1 → Q r M1) → zWP 198 23 [some (.ref l0), some (.ref l1), some (.ref l2), some (.ref l3), some (.int l4), none, none] [] M Q) (l0 : Nat) (l1 : Nat) (l2 : Nat) (l3 : Nat) (l4 : Int32) (s0 : Int64) (M : zM) (hp : p198_652 n q23 l0 l1 l2 l3 l4 s0 M) {Q : Option Value → zM → Prop} (hQ : ∀ r M1, zRI (b198_652 n k23 l0 l1 l2 l3 l4 s0 M) r M1 → Q r M1) : zWP 198 652 [some (.ref l0), some (.ref l1), some (.ref l2), some (.ref l3), some (.int l4), none, none] [.long s0] M Q := by
  unfold b198_652 at hQ
  unfold p198_652 at hp
  refine wp_go 5 (pc' := 658) (L' := [some (.ref l0), some (.ref l1), some (.ref l2), some (.ref l3), some (.int l4), none, none]) (st' := [.int (l4 + (1 : Int32)), .ref l0, .ref l2, .long s0]) (M' := M) rfl ?_
  obtain ⟨hc, hp⟩ := hp
  refine wq_iald rfl hc ?_
  refine wp_go 4 (pc' := 664) (L' := [some (.ref l0), some (.ref l1), some (.ref l2), some (.ref l3), some (.int l4), none, none]) (st' := [.int (l4 + (2 : Int32)), .ref l0, .int (zI M l0 (l4 + (1 : Int32)).toNatClampNeg), .ref l2, .long s0]) (M' := M) rfl ?_
  obtain ⟨hc, hp⟩ := hp
  refine wq_iald rfl hc ?_
  obtain ⟨hv, hp⟩ := hp
  obtain ⟨hc, hp⟩ := hp
  refine wp_calll (v := (b142_0 n l2 (zI M l0 (l4 + (1 : Int32)).toNatClampNeg) (zI M l0 (l4 + (2 : Int32)).toNatClampNeg) M).1) (M1 := (b142_0 n l2 (zI M l0 (l4 + (1 : Int32)).toNatClampNeg) (zI M l0 (l4 + (2 : Int32)).toNatClampNeg) M).2) rfl rfl rfl (zInv_v (np := 2) rfl rfl hv rfl) (s142_0 n l2 (zI M l0 (l4 + (1 : Int32)).toNatClampNeg) (zI M l0 (l4 + (2 : Int32)).toNatClampNeg) M hc (fun r M1 h => h)) ?_
  exact s198_668 n k23 q23 h23 l0 l1 l2 l3 l4 s0 (b142_0 n l2 (zI M l0 (l4 + (1 : Int32)).toNatClampNeg) (zI M l0 (l4 + (2 : Int32)).toNatClampNeg) M).1 (b142_0 n l2 (zI M l0 (l4 + (1 : Int32)).toNatClampNeg) (zI M l0 (l4 + (2 : Int32)).toNatClampNeg) M).2 hp hQ
def b198_742 (n : Nat) (k23 : Nat → Nat → Nat → Nat → Int32 → zM → Int32 × zM) (l0 : Nat) (l1 : Nat) (l2 : Nat) (l3 : Nat) (l4 : Int32) (s0 : Int32) (s1 : Int32) (M : zM) : Int32 × zM := (if s0 = s1 then b198_1243 n k23 l0 l1 l2 l3 l4 M else ((0 : Int32), M))
def p198_742 (n : Nat) (q23 : Nat → Nat → Nat → Nat → Int32 → zM → Prop) (l0 : Nat) (l1 : Nat) (l2 : Nat) (l3 : Nat) (l4 : Int32) (s0 : Int32) (s1 : Int32) (M : zM) : Prop := ((s0 = s1 → p198_1243 n q23 l0 l1 l2 l3 l4 M) ∧ (¬ s0 = s1 → True))
set_option maxRecDepth 100000 in
set_option maxHeartbeats 4000000 in
theorem s198_742 (n : Nat) (k23 : Nat → Nat → Nat → Nat → Int32 → zM → Int32 × zM) (q23 : Nat → Nat → Nat → Nat → Int32 → zM → Prop) (h23 : ∀ (l0 : Nat) (l1 : Nat) (l2 : Nat) (l3 : Nat) (l4 : Int32) (M : zM), q23 l0 l1 l2 l3 l4 M → ∀ {Q : Option Value → zM → Prop}, (∀ r M1, zRI (k23 l0 l1 l2 l3 l4 M) r M1 → Q r M1) → zWP 198 23 [some (.ref l0), some (.ref l1), some (.ref l2), some (.ref l3), some (.int l4), none, none] [] M Q) (l0 : Nat) (l1 : Nat) (l2 : Nat) (l3 : Nat) (l4 : Int32) (s0 : Int32) (s1 : Int32) (M : zM) (hp : p198_742 n q23 l0 l1 l2 l3 l4 s0 s1 M) {Q : Option Value → zM → Prop} (hQ : ∀ r M1, zRI (b198_742 n k23 l0 l1 l2 l3 l4 s0 s1 M) r M1 → Q r M1) : zWP 198 742 [some (.ref l0), some (.ref l1), some (.ref l2), some (.ref l3), some (.int l4), none, none] [.int s1, .int s0] M Q := by
  unfold b198_742 at hQ
  unfold p198_742 at hp
  refine wp_ic_eq (t := 1243) rfl rfl (fun hc => ?_) (fun hc => ?_)
  · rw [if_pos hc] at hQ
    replace hp := hp.1 hc
    exact s198_1243 n k23 q23 h23 l0 l1 l2 l3 l4 M hp hQ
  · rw [if_neg hc] at hQ
    replace hp := hp.2 hc
    refine wp_go 1 (pc' := 746) (L' := [some (.ref l0), some (.ref l1), some (.ref l2), some (.ref l3), some (.int l4), none, none]) (st' := [.int (0 : Int32)]) (M' := M) rfl ?_
    exact wp_ret (r := some (.int (0 : Int32))) rfl rfl (hQ _ _ ⟨rfl, rfl⟩)
def b198_708 (n : Nat) (k23 : Nat → Nat → Nat → Nat → Int32 → zM → Int32 × zM) (l0 : Nat) (l1 : Nat) (l2 : Nat) (l3 : Nat) (l4 : Int32) (s0 : Int32) (M : zM) : Int32 × zM := b198_742 n k23 l0 l1 l2 l3 l4 s0 (b146_0 n l2 (zI M l0 (l4 + (1 : Int32)).toNatClampNeg) (zI M l0 (l4 + (2 : Int32)).toNatClampNeg) (zI M l0 (l4 + (3 : Int32)).toNatClampNeg) (zI M l0 (l4 + (4 : Int32)).toNatClampNeg) (zI M l0 (l4 + (5 : Int32)).toNatClampNeg) M).1 (b146_0 n l2 (zI M l0 (l4 + (1 : Int32)).toNatClampNeg) (zI M l0 (l4 + (2 : Int32)).toNatClampNeg) (zI M l0 (l4 + (3 : Int32)).toNatClampNeg) (zI M l0 (l4 + (4 : Int32)).toNatClampNeg) (zI M l0 (l4 + (5 : Int32)).toNatClampNeg) M).2
def p198_708 (n : Nat) (q23 : Nat → Nat → Nat → Nat → Int32 → zM → Prop) (l0 : Nat) (l1 : Nat) (l2 : Nat) (l3 : Nat) (l4 : Int32) (s0 : Int32) (M : zM) : Prop := (zOkI l0 (l4 + (1 : Int32)) M) ∧ ((zOkI l0 (l4 + (2 : Int32)) M) ∧ ((zOkI l0 (l4 + (3 : Int32)) M) ∧ ((zOkI l0 (l4 + (4 : Int32)) M) ∧ ((zOkI l0 (l4 + (5 : Int32)) M) ∧ ((zHasC 198 84 l2 M 146 5) ∧ ((p146_0 n l2 (zI M l0 (l4 + (1 : Int32)).toNatClampNeg) (zI M l0 (l4 + (2 : Int32)).toNatClampNeg) (zI M l0 (l4 + (3 : Int32)).toNatClampNeg) (zI M l0 (l4 + (4 : Int32)).toNatClampNeg) (zI M l0 (l4 + (5 : Int32)).toNatClampNeg) M) ∧ (p198_742 n q23 l0 l1 l2 l3 l4 s0 (b146_0 n l2 (zI M l0 (l4 + (1 : Int32)).toNatClampNeg) (zI M l0 (l4 + (2 : Int32)).toNatClampNeg) (zI M l0 (l4 + (3 : Int32)).toNatClampNeg) (zI M l0 (l4 + (4 : Int32)).toNatClampNeg) (zI M l0 (l4 + (5 : Int32)).toNatClampNeg) M).1 (b146_0 n l2 (zI M l0 (l4 + (1 : Int32)).toNatClampNeg) (zI M l0 (l4 + (2 : Int32)).toNatClampNeg) (zI M l0 (l4 + (3 : Int32)).toNatClampNeg) (zI M l0 (l4 + (4 : Int32)).toNatClampNeg) (zI M l0 (l4 + (5 : Int32)).toNatClampNeg) M).2)))))))
set_option maxRecDepth 100000 in
set_option maxHeartbeats 4000000 in
theorem s198_708 (n : Nat) (k23 : Nat → Nat → Nat → Nat → Int32 → zM → Int32 × zM) (q23 : Nat → Nat → Nat → Nat → Int32 → zM → Prop) (h23 : ∀ (l0 : Nat) (l1 : Nat) (l2 : Nat) (l3 : Nat) (l4 : Int32) (M : zM), q23 l0 l1 l2 l3 l4 M → ∀ {Q : Option Value → zM → Prop}, (∀ r M1, zRI (k23 l0 l1 l2 l3 l4 M) r M1 → Q r M1) → zWP 198 23 [some (.ref l0), some (.ref l1), some (.ref l2), some (.ref l3), some (.int l4), none, none] [] M Q) (l0 : Nat) (l1 : Nat) (l2 : Nat) (l3 : Nat) (l4 : Int32) (s0 : Int32) (M : zM) (hp : p198_708 n q23 l0 l1 l2 l3 l4 s0 M) {Q : Option Value → zM → Prop} (hQ : ∀ r M1, zRI (b198_708 n k23 l0 l1 l2 l3 l4 s0 M) r M1 → Q r M1) : zWP 198 708 [some (.ref l0), some (.ref l1), some (.ref l2), some (.ref l3), some (.int l4), none, none] [.int s0] M Q := by
  unfold b198_708 at hQ
  unfold p198_708 at hp
  refine wp_go 5 (pc' := 714) (L' := [some (.ref l0), some (.ref l1), some (.ref l2), some (.ref l3), some (.int l4), none, none]) (st' := [.int (l4 + (1 : Int32)), .ref l0, .ref l2, .int s0]) (M' := M) rfl ?_
  obtain ⟨hc, hp⟩ := hp
  refine wq_iald rfl hc ?_
  refine wp_go 4 (pc' := 720) (L' := [some (.ref l0), some (.ref l1), some (.ref l2), some (.ref l3), some (.int l4), none, none]) (st' := [.int (l4 + (2 : Int32)), .ref l0, .int (zI M l0 (l4 + (1 : Int32)).toNatClampNeg), .ref l2, .int s0]) (M' := M) rfl ?_
  obtain ⟨hc, hp⟩ := hp
  refine wq_iald rfl hc ?_
  refine wp_go 4 (pc' := 726) (L' := [some (.ref l0), some (.ref l1), some (.ref l2), some (.ref l3), some (.int l4), none, none]) (st' := [.int (l4 + (3 : Int32)), .ref l0, .int (zI M l0 (l4 + (2 : Int32)).toNatClampNeg), .int (zI M l0 (l4 + (1 : Int32)).toNatClampNeg), .ref l2, .int s0]) (M' := M) rfl ?_
  obtain ⟨hc, hp⟩ := hp
  refine wq_iald rfl hc ?_
  refine wp_go 4 (pc' := 732) (L' := [some (.ref l0), some (.ref l1), some (.ref l2), some (.ref l3), some (.int l4), none, none]) (st' := [.int (l4 + (4 : Int32)), .ref l0, .int (zI M l0 (l4 + (3 : Int32)).toNatClampNeg), .int (zI M l0 (l4 + (2 : Int32)).toNatClampNeg), .int (zI M l0 (l4 + (1 : Int32)).toNatClampNeg), .ref l2, .int s0]) (M' := M) rfl ?_
  obtain ⟨hc, hp⟩ := hp
  refine wq_iald rfl hc ?_
  refine wp_go 4 (pc' := 738) (L' := [some (.ref l0), some (.ref l1), some (.ref l2), some (.ref l3), some (.int l4), none, none]) (st' := [.int (l4 + (5 : Int32)), .ref l0, .int (zI M l0 (l4 + (4 : Int32)).toNatClampNeg), .int (zI M l0 (l4 + (3 : Int32)).toNatClampNeg), .int (zI M l0 (l4 + (2 : Int32)).toNatClampNeg), .int (zI M l0 (l4 + (1 : Int32)).toNatClampNeg), .ref l2, .int s0]) (M' := M) rfl ?_
  obtain ⟨hc, hp⟩ := hp
  refine wq_iald rfl hc ?_
  obtain ⟨hv, hp⟩ := hp
  obtain ⟨hc, hp⟩ := hp
  refine wp_calli (v := (b146_0 n l2 (zI M l0 (l4 + (1 : Int32)).toNatClampNeg) (zI M l0 (l4 + (2 : Int32)).toNatClampNeg) (zI M l0 (l4 + (3 : Int32)).toNatClampNeg) (zI M l0 (l4 + (4 : Int32)).toNatClampNeg) (zI M l0 (l4 + (5 : Int32)).toNatClampNeg) M).1) (M1 := (b146_0 n l2 (zI M l0 (l4 + (1 : Int32)).toNatClampNeg) (zI M l0 (l4 + (2 : Int32)).toNatClampNeg) (zI M l0 (l4 + (3 : Int32)).toNatClampNeg) (zI M l0 (l4 + (4 : Int32)).toNatClampNeg) (zI M l0 (l4 + (5 : Int32)).toNatClampNeg) M).2) rfl rfl rfl (zInv_v (np := 5) rfl rfl hv rfl) (s146_0 n l2 (zI M l0 (l4 + (1 : Int32)).toNatClampNeg) (zI M l0 (l4 + (2 : Int32)).toNatClampNeg) (zI M l0 (l4 + (3 : Int32)).toNatClampNeg) (zI M l0 (l4 + (4 : Int32)).toNatClampNeg) (zI M l0 (l4 + (5 : Int32)).toNatClampNeg) M hc (fun r M1 h => h)) ?_
  exact s198_742 n k23 q23 h23 l0 l1 l2 l3 l4 s0 (b146_0 n l2 (zI M l0 (l4 + (1 : Int32)).toNatClampNeg) (zI M l0 (l4 + (2 : Int32)).toNatClampNeg) (zI M l0 (l4 + (3 : Int32)).toNatClampNeg) (zI M l0 (l4 + (4 : Int32)).toNatClampNeg) (zI M l0 (l4 + (5 : Int32)).toNatClampNeg) M).1 (b146_0 n l2 (zI M l0 (l4 + (1 : Int32)).toNatClampNeg) (zI M l0 (l4 + (2 : Int32)).toNatClampNeg) (zI M l0 (l4 + (3 : Int32)).toNatClampNeg) (zI M l0 (l4 + (4 : Int32)).toNatClampNeg) (zI M l0 (l4 + (5 : Int32)).toNatClampNeg) M).2 hp hQ
def b198_767 (n : Nat) (k23 : Nat → Nat → Nat → Nat → Int32 → zM → Int32 × zM) (l0 : Nat) (l1 : Nat) (l2 : Nat) (l3 : Nat) (l4 : Int32) (s0 : Int32) (s1 : Int32) (M : zM) : Int32 × zM := (if s0 = s1 then b198_1243 n k23 l0 l1 l2 l3 l4 M else ((0 : Int32), M))
def p198_767 (n : Nat) (q23 : Nat → Nat → Nat → Nat → Int32 → zM → Prop) (l0 : Nat) (l1 : Nat) (l2 : Nat) (l3 : Nat) (l4 : Int32) (s0 : Int32) (s1 : Int32) (M : zM) : Prop := ((s0 = s1 → p198_1243 n q23 l0 l1 l2 l3 l4 M) ∧ (¬ s0 = s1 → True))
set_option maxRecDepth 100000 in
set_option maxHeartbeats 4000000 in
theorem s198_767 (n : Nat) (k23 : Nat → Nat → Nat → Nat → Int32 → zM → Int32 × zM) (q23 : Nat → Nat → Nat → Nat → Int32 → zM → Prop) (h23 : ∀ (l0 : Nat) (l1 : Nat) (l2 : Nat) (l3 : Nat) (l4 : Int32) (M : zM), q23 l0 l1 l2 l3 l4 M → ∀ {Q : Option Value → zM → Prop}, (∀ r M1, zRI (k23 l0 l1 l2 l3 l4 M) r M1 → Q r M1) → zWP 198 23 [some (.ref l0), some (.ref l1), some (.ref l2), some (.ref l3), some (.int l4), none, none] [] M Q) (l0 : Nat) (l1 : Nat) (l2 : Nat) (l3 : Nat) (l4 : Int32) (s0 : Int32) (s1 : Int32) (M : zM) (hp : p198_767 n q23 l0 l1 l2 l3 l4 s0 s1 M) {Q : Option Value → zM → Prop} (hQ : ∀ r M1, zRI (b198_767 n k23 l0 l1 l2 l3 l4 s0 s1 M) r M1 → Q r M1) : zWP 198 767 [some (.ref l0), some (.ref l1), some (.ref l2), some (.ref l3), some (.int l4), none, none] [.int s1, .int s0] M Q := by
  unfold b198_767 at hQ
  unfold p198_767 at hp
  refine wp_ic_eq (t := 1243) rfl rfl (fun hc => ?_) (fun hc => ?_)
  · rw [if_pos hc] at hQ
    replace hp := hp.1 hc
    exact s198_1243 n k23 q23 h23 l0 l1 l2 l3 l4 M hp hQ
  · rw [if_neg hc] at hQ
    replace hp := hp.2 hc
    refine wp_go 1 (pc' := 771) (L' := [some (.ref l0), some (.ref l1), some (.ref l2), some (.ref l3), some (.int l4), none, none]) (st' := [.int (0 : Int32)]) (M' := M) rfl ?_
    exact wp_ret (r := some (.int (0 : Int32))) rfl rfl (hQ _ _ ⟨rfl, rfl⟩)
def b198_757 (n : Nat) (k23 : Nat → Nat → Nat → Nat → Int32 → zM → Int32 × zM) (l0 : Nat) (l1 : Nat) (l2 : Nat) (l3 : Nat) (l4 : Int32) (s0 : Int32) (M : zM) : Int32 × zM := b198_767 n k23 l0 l1 l2 l3 l4 s0 (b147_0 n l2 (zI M l0 (l4 + (1 : Int32)).toNatClampNeg) M).1 (b147_0 n l2 (zI M l0 (l4 + (1 : Int32)).toNatClampNeg) M).2
def p198_757 (n : Nat) (q23 : Nat → Nat → Nat → Nat → Int32 → zM → Prop) (l0 : Nat) (l1 : Nat) (l2 : Nat) (l3 : Nat) (l4 : Int32) (s0 : Int32) (M : zM) : Prop := (zOkI l0 (l4 + (1 : Int32)) M) ∧ ((zHasC 198 88 l2 M 147 1) ∧ ((p147_0 n l2 (zI M l0 (l4 + (1 : Int32)).toNatClampNeg) M) ∧ (p198_767 n q23 l0 l1 l2 l3 l4 s0 (b147_0 n l2 (zI M l0 (l4 + (1 : Int32)).toNatClampNeg) M).1 (b147_0 n l2 (zI M l0 (l4 + (1 : Int32)).toNatClampNeg) M).2)))
set_option maxRecDepth 100000 in
set_option maxHeartbeats 4000000 in
theorem s198_757 (n : Nat) (k23 : Nat → Nat → Nat → Nat → Int32 → zM → Int32 × zM) (q23 : Nat → Nat → Nat → Nat → Int32 → zM → Prop) (h23 : ∀ (l0 : Nat) (l1 : Nat) (l2 : Nat) (l3 : Nat) (l4 : Int32) (M : zM), q23 l0 l1 l2 l3 l4 M → ∀ {Q : Option Value → zM → Prop}, (∀ r M1, zRI (k23 l0 l1 l2 l3 l4 M) r M1 → Q r M1) → zWP 198 23 [some (.ref l0), some (.ref l1), some (.ref l2), some (.ref l3), some (.int l4), none, none] [] M Q) (l0 : Nat) (l1 : Nat) (l2 : Nat) (l3 : Nat) (l4 : Int32) (s0 : Int32) (M : zM) (hp : p198_757 n q23 l0 l1 l2 l3 l4 s0 M) {Q : Option Value → zM → Prop} (hQ : ∀ r M1, zRI (b198_757 n k23 l0 l1 l2 l3 l4 s0 M) r M1 → Q r M1) : zWP 198 757 [some (.ref l0), some (.ref l1), some (.ref l2), some (.ref l3), some (.int l4), none, none] [.int s0] M Q := by
  unfold b198_757 at hQ
  unfold p198_757 at hp
  refine wp_go 5 (pc' := 763) (L' := [some (.ref l0), some (.ref l1), some (.ref l2), some (.ref l3), some (.int l4), none, none]) (st' := [.int (l4 + (1 : Int32)), .ref l0, .ref l2, .int s0]) (M' := M) rfl ?_
  obtain ⟨hc, hp⟩ := hp
  refine wq_iald rfl hc ?_
  obtain ⟨hv, hp⟩ := hp
  obtain ⟨hc, hp⟩ := hp
  refine wp_calli (v := (b147_0 n l2 (zI M l0 (l4 + (1 : Int32)).toNatClampNeg) M).1) (M1 := (b147_0 n l2 (zI M l0 (l4 + (1 : Int32)).toNatClampNeg) M).2) rfl rfl rfl (zInv_v (np := 1) rfl rfl hv rfl) (s147_0 n l2 (zI M l0 (l4 + (1 : Int32)).toNatClampNeg) M hc (fun r M1 h => h)) ?_
  exact s198_767 n k23 q23 h23 l0 l1 l2 l3 l4 s0 (b147_0 n l2 (zI M l0 (l4 + (1 : Int32)).toNatClampNeg) M).1 (b147_0 n l2 (zI M l0 (l4 + (1 : Int32)).toNatClampNeg) M).2 hp hQ
def b198_804 (n : Nat) (k23 : Nat → Nat → Nat → Nat → Int32 → zM → Int32 × zM) (l0 : Nat) (l1 : Nat) (l2 : Nat) (l3 : Nat) (l4 : Int32) (s0 : Int32) (s1 : Int32) (M : zM) : Int32 × zM := (if s0 = s1 then b198_1243 n k23 l0 l1 l2 l3 l4 M else ((0 : Int32), M))
def p198_804 (n : Nat) (q23 : Nat → Nat → Nat → Nat → Int32 → zM → Prop) (l0 : Nat) (l1 : Nat) (l2 : Nat) (l3 : Nat) (l4 : Int32) (s0 : Int32) (s1 : Int32) (M : zM) : Prop := ((s0 = s1 → p198_1243 n q23 l0 l1 l2 l3 l4 M) ∧ (¬ s0 = s1 → True))
set_option maxRecDepth 100000 in
set_option maxHeartbeats 4000000 in
theorem s198_804 (n : Nat) (k23 : Nat → Nat → Nat → Nat → Int32 → zM → Int32 × zM) (q23 : Nat → Nat → Nat → Nat → Int32 → zM → Prop) (h23 : ∀ (l0 : Nat) (l1 : Nat) (l2 : Nat) (l3 : Nat) (l4 : Int32) (M : zM), q23 l0 l1 l2 l3 l4 M → ∀ {Q : Option Value → zM → Prop}, (∀ r M1, zRI (k23 l0 l1 l2 l3 l4 M) r M1 → Q r M1) → zWP 198 23 [some (.ref l0), some (.ref l1), some (.ref l2), some (.ref l3), some (.int l4), none, none] [] M Q) (l0 : Nat) (l1 : Nat) (l2 : Nat) (l3 : Nat) (l4 : Int32) (s0 : Int32) (s1 : Int32) (M : zM) (hp : p198_804 n q23 l0 l1 l2 l3 l4 s0 s1 M) {Q : Option Value → zM → Prop} (hQ : ∀ r M1, zRI (b198_804 n k23 l0 l1 l2 l3 l4 s0 s1 M) r M1 → Q r M1) : zWP 198 804 [some (.ref l0), some (.ref l1), some (.ref l2), some (.ref l3), some (.int l4), none, none] [.int s1, .int s0] M Q := by
  unfold b198_804 at hQ
  unfold p198_804 at hp
  refine wp_ic_eq (t := 1243) rfl rfl (fun hc => ?_) (fun hc => ?_)
  · rw [if_pos hc] at hQ
    replace hp := hp.1 hc
    exact s198_1243 n k23 q23 h23 l0 l1 l2 l3 l4 M hp hQ
  · rw [if_neg hc] at hQ
    replace hp := hp.2 hc
    refine wp_go 1 (pc' := 808) (L' := [some (.ref l0), some (.ref l1), some (.ref l2), some (.ref l3), some (.int l4), none, none]) (st' := [.int (0 : Int32)]) (M' := M) rfl ?_
    exact wp_ret (r := some (.int (0 : Int32))) rfl rfl (hQ _ _ ⟨rfl, rfl⟩)
def b198_788 (n : Nat) (k23 : Nat → Nat → Nat → Nat → Int32 → zM → Int32 × zM) (l0 : Nat) (l1 : Nat) (l2 : Nat) (l3 : Nat) (l4 : Int32) (s0 : Int32) (M : zM) : Int32 × zM := b198_804 n k23 l0 l1 l2 l3 l4 s0 (b150_0 n l2 (zI M l0 (l4 + (1 : Int32)).toNatClampNeg) (zI M l0 (l4 + (2 : Int32)).toNatClampNeg) M).1 (b150_0 n l2 (zI M l0 (l4 + (1 : Int32)).toNatClampNeg) (zI M l0 (l4 + (2 : Int32)).toNatClampNeg) M).2
def p198_788 (n : Nat) (q23 : Nat → Nat → Nat → Nat → Int32 → zM → Prop) (l0 : Nat) (l1 : Nat) (l2 : Nat) (l3 : Nat) (l4 : Int32) (s0 : Int32) (M : zM) : Prop := (zOkI l0 (l4 + (1 : Int32)) M) ∧ ((zOkI l0 (l4 + (2 : Int32)) M) ∧ ((zHasC 198 92 l2 M 150 2) ∧ ((p150_0 n l2 (zI M l0 (l4 + (1 : Int32)).toNatClampNeg) (zI M l0 (l4 + (2 : Int32)).toNatClampNeg) M) ∧ (p198_804 n q23 l0 l1 l2 l3 l4 s0 (b150_0 n l2 (zI M l0 (l4 + (1 : Int32)).toNatClampNeg) (zI M l0 (l4 + (2 : Int32)).toNatClampNeg) M).1 (b150_0 n l2 (zI M l0 (l4 + (1 : Int32)).toNatClampNeg) (zI M l0 (l4 + (2 : Int32)).toNatClampNeg) M).2))))
set_option maxRecDepth 100000 in
set_option maxHeartbeats 4000000 in
theorem s198_788 (n : Nat) (k23 : Nat → Nat → Nat → Nat → Int32 → zM → Int32 × zM) (q23 : Nat → Nat → Nat → Nat → Int32 → zM → Prop) (h23 : ∀ (l0 : Nat) (l1 : Nat) (l2 : Nat) (l3 : Nat) (l4 : Int32) (M : zM), q23 l0 l1 l2 l3 l4 M → ∀ {Q : Option Value → zM → Prop}, (∀ r M1, zRI (k23 l0 l1 l2 l3 l4 M) r M1 → Q r M1) → zWP 198 23 [some (.ref l0), some (.ref l1), some (.ref l2), some (.ref l3), some (.int l4), none, none] [] M Q) (l0 : Nat) (l1 : Nat) (l2 : Nat) (l3 : Nat) (l4 : Int32) (s0 : Int32) (M : zM) (hp : p198_788 n q23 l0 l1 l2 l3 l4 s0 M) {Q : Option Value → zM → Prop} (hQ : ∀ r M1, zRI (b198_788 n k23 l0 l1 l2 l3 l4 s0 M) r M1 → Q r M1) : zWP 198 788 [some (.ref l0), some (.ref l1), some (.ref l2), some (.ref l3), some (.int l4), none, none] [.int s0] M Q := by
  unfold b198_788 at hQ
  unfold p198_788 at hp
  refine wp_go 5 (pc' := 794) (L' := [some (.ref l0), some (.ref l1), some (.ref l2), some (.ref l3), some (.int l4), none, none]) (st' := [.int (l4 + (1 : Int32)), .ref l0, .ref l2, .int s0]) (M' := M) rfl ?_
  obtain ⟨hc, hp⟩ := hp
  refine wq_iald rfl hc ?_
  refine wp_go 4 (pc' := 800) (L' := [some (.ref l0), some (.ref l1), some (.ref l2), some (.ref l3), some (.int l4), none, none]) (st' := [.int (l4 + (2 : Int32)), .ref l0, .int (zI M l0 (l4 + (1 : Int32)).toNatClampNeg), .ref l2, .int s0]) (M' := M) rfl ?_
  obtain ⟨hc, hp⟩ := hp
  refine wq_iald rfl hc ?_
  obtain ⟨hv, hp⟩ := hp
  obtain ⟨hc, hp⟩ := hp
  refine wp_calli (v := (b150_0 n l2 (zI M l0 (l4 + (1 : Int32)).toNatClampNeg) (zI M l0 (l4 + (2 : Int32)).toNatClampNeg) M).1) (M1 := (b150_0 n l2 (zI M l0 (l4 + (1 : Int32)).toNatClampNeg) (zI M l0 (l4 + (2 : Int32)).toNatClampNeg) M).2) rfl rfl rfl (zInv_v (np := 2) rfl rfl hv rfl) (s150_0 n l2 (zI M l0 (l4 + (1 : Int32)).toNatClampNeg) (zI M l0 (l4 + (2 : Int32)).toNatClampNeg) M hc (fun r M1 h => h)) ?_
  exact s198_804 n k23 q23 h23 l0 l1 l2 l3 l4 s0 (b150_0 n l2 (zI M l0 (l4 + (1 : Int32)).toNatClampNeg) (zI M l0 (l4 + (2 : Int32)).toNatClampNeg) M).1 (b150_0 n l2 (zI M l0 (l4 + (1 : Int32)).toNatClampNeg) (zI M l0 (l4 + (2 : Int32)).toNatClampNeg) M).2 hp hQ
def b198_841 (n : Nat) (k23 : Nat → Nat → Nat → Nat → Int32 → zM → Int32 × zM) (l0 : Nat) (l1 : Nat) (l2 : Nat) (l3 : Nat) (l4 : Int32) (s0 : Int32) (s1 : Int32) (M : zM) : Int32 × zM := (if s0 = s1 then b198_1243 n k23 l0 l1 l2 l3 l4 M else ((0 : Int32), M))
def p198_841 (n : Nat) (q23 : Nat → Nat → Nat → Nat → Int32 → zM → Prop) (l0 : Nat) (l1 : Nat) (l2 : Nat) (l3 : Nat) (l4 : Int32) (s0 : Int32) (s1 : Int32) (M : zM) : Prop := ((s0 = s1 → p198_1243 n q23 l0 l1 l2 l3 l4 M) ∧ (¬ s0 = s1 → True))
set_option maxRecDepth 100000 in
set_option maxHeartbeats 4000000 in
theorem s198_841 (n : Nat) (k23 : Nat → Nat → Nat → Nat → Int32 → zM → Int32 × zM) (q23 : Nat → Nat → Nat → Nat → Int32 → zM → Prop) (h23 : ∀ (l0 : Nat) (l1 : Nat) (l2 : Nat) (l3 : Nat) (l4 : Int32) (M : zM), q23 l0 l1 l2 l3 l4 M → ∀ {Q : Option Value → zM → Prop}, (∀ r M1, zRI (k23 l0 l1 l2 l3 l4 M) r M1 → Q r M1) → zWP 198 23 [some (.ref l0), some (.ref l1), some (.ref l2), some (.ref l3), some (.int l4), none, none] [] M Q) (l0 : Nat) (l1 : Nat) (l2 : Nat) (l3 : Nat) (l4 : Int32) (s0 : Int32) (s1 : Int32) (M : zM) (hp : p198_841 n q23 l0 l1 l2 l3 l4 s0 s1 M) {Q : Option Value → zM → Prop} (hQ : ∀ r M1, zRI (b198_841 n k23 l0 l1 l2 l3 l4 s0 s1 M) r M1 → Q r M1) : zWP 198 841 [some (.ref l0), some (.ref l1), some (.ref l2), some (.ref l3), some (.int l4), none, none] [.int s1, .int s0] M Q := by
  unfold b198_841 at hQ
  unfold p198_841 at hp
  refine wp_ic_eq (t := 1243) rfl rfl (fun hc => ?_) (fun hc => ?_)
  · rw [if_pos hc] at hQ
    replace hp := hp.1 hc
    exact s198_1243 n k23 q23 h23 l0 l1 l2 l3 l4 M hp hQ
  · rw [if_neg hc] at hQ
    replace hp := hp.2 hc
    refine wp_go 1 (pc' := 845) (L' := [some (.ref l0), some (.ref l1), some (.ref l2), some (.ref l3), some (.int l4), none, none]) (st' := [.int (0 : Int32)]) (M' := M) rfl ?_
    exact wp_ret (r := some (.int (0 : Int32))) rfl rfl (hQ _ _ ⟨rfl, rfl⟩)
def b198_825 (n : Nat) (k23 : Nat → Nat → Nat → Nat → Int32 → zM → Int32 × zM) (l0 : Nat) (l1 : Nat) (l2 : Nat) (l3 : Nat) (l4 : Int32) (s0 : Int32) (M : zM) : Int32 × zM := b198_841 n k23 l0 l1 l2 l3 l4 s0 (b151_0 n l2 (zI M l0 (l4 + (1 : Int32)).toNatClampNeg) (zI M l0 (l4 + (2 : Int32)).toNatClampNeg) M).1 (b151_0 n l2 (zI M l0 (l4 + (1 : Int32)).toNatClampNeg) (zI M l0 (l4 + (2 : Int32)).toNatClampNeg) M).2
def p198_825 (n : Nat) (q23 : Nat → Nat → Nat → Nat → Int32 → zM → Prop) (l0 : Nat) (l1 : Nat) (l2 : Nat) (l3 : Nat) (l4 : Int32) (s0 : Int32) (M : zM) : Prop := (zOkI l0 (l4 + (1 : Int32)) M) ∧ ((zOkI l0 (l4 + (2 : Int32)) M) ∧ ((zHasC 198 96 l2 M 151 2) ∧ ((p151_0 n l2 (zI M l0 (l4 + (1 : Int32)).toNatClampNeg) (zI M l0 (l4 + (2 : Int32)).toNatClampNeg) M) ∧ (p198_841 n q23 l0 l1 l2 l3 l4 s0 (b151_0 n l2 (zI M l0 (l4 + (1 : Int32)).toNatClampNeg) (zI M l0 (l4 + (2 : Int32)).toNatClampNeg) M).1 (b151_0 n l2 (zI M l0 (l4 + (1 : Int32)).toNatClampNeg) (zI M l0 (l4 + (2 : Int32)).toNatClampNeg) M).2))))
set_option maxRecDepth 100000 in
set_option maxHeartbeats 4000000 in
theorem s198_825 (n : Nat) (k23 : Nat → Nat → Nat → Nat → Int32 → zM → Int32 × zM) (q23 : Nat → Nat → Nat → Nat → Int32 → zM → Prop) (h23 : ∀ (l0 : Nat) (l1 : Nat) (l2 : Nat) (l3 : Nat) (l4 : Int32) (M : zM), q23 l0 l1 l2 l3 l4 M → ∀ {Q : Option Value → zM → Prop}, (∀ r M1, zRI (k23 l0 l1 l2 l3 l4 M) r M1 → Q r M1) → zWP 198 23 [some (.ref l0), some (.ref l1), some (.ref l2), some (.ref l3), some (.int l4), none, none] [] M Q) (l0 : Nat) (l1 : Nat) (l2 : Nat) (l3 : Nat) (l4 : Int32) (s0 : Int32) (M : zM) (hp : p198_825 n q23 l0 l1 l2 l3 l4 s0 M) {Q : Option Value → zM → Prop} (hQ : ∀ r M1, zRI (b198_825 n k23 l0 l1 l2 l3 l4 s0 M) r M1 → Q r M1) : zWP 198 825 [some (.ref l0), some (.ref l1), some (.ref l2), some (.ref l3), some (.int l4), none, none] [.int s0] M Q := by
  unfold b198_825 at hQ
  unfold p198_825 at hp
  refine wp_go 5 (pc' := 831) (L' := [some (.ref l0), some (.ref l1), some (.ref l2), some (.ref l3), some (.int l4), none, none]) (st' := [.int (l4 + (1 : Int32)), .ref l0, .ref l2, .int s0]) (M' := M) rfl ?_
  obtain ⟨hc, hp⟩ := hp
  refine wq_iald rfl hc ?_
  refine wp_go 4 (pc' := 837) (L' := [some (.ref l0), some (.ref l1), some (.ref l2), some (.ref l3), some (.int l4), none, none]) (st' := [.int (l4 + (2 : Int32)), .ref l0, .int (zI M l0 (l4 + (1 : Int32)).toNatClampNeg), .ref l2, .int s0]) (M' := M) rfl ?_
  obtain ⟨hc, hp⟩ := hp
  refine wq_iald rfl hc ?_
  obtain ⟨hv, hp⟩ := hp
  obtain ⟨hc, hp⟩ := hp
  refine wp_calli (v := (b151_0 n l2 (zI M l0 (l4 + (1 : Int32)).toNatClampNeg) (zI M l0 (l4 + (2 : Int32)).toNatClampNeg) M).1) (M1 := (b151_0 n l2 (zI M l0 (l4 + (1 : Int32)).toNatClampNeg) (zI M l0 (l4 + (2 : Int32)).toNatClampNeg) M).2) rfl rfl rfl (zInv_v (np := 2) rfl rfl hv rfl) (s151_0 n l2 (zI M l0 (l4 + (1 : Int32)).toNatClampNeg) (zI M l0 (l4 + (2 : Int32)).toNatClampNeg) M hc (fun r M1 h => h)) ?_
  exact s198_841 n k23 q23 h23 l0 l1 l2 l3 l4 s0 (b151_0 n l2 (zI M l0 (l4 + (1 : Int32)).toNatClampNeg) (zI M l0 (l4 + (2 : Int32)).toNatClampNeg) M).1 (b151_0 n l2 (zI M l0 (l4 + (1 : Int32)).toNatClampNeg) (zI M l0 (l4 + (2 : Int32)).toNatClampNeg) M).2 hp hQ
def b198_878 (n : Nat) (k23 : Nat → Nat → Nat → Nat → Int32 → zM → Int32 × zM) (l0 : Nat) (l1 : Nat) (l2 : Nat) (l3 : Nat) (l4 : Int32) (s0 : Int32) (s1 : Int32) (M : zM) : Int32 × zM := (if s0 = s1 then b198_1243 n k23 l0 l1 l2 l3 l4 M else ((0 : Int32), M))
def p198_878 (n : Nat) (q23 : Nat → Nat → Nat → Nat → Int32 → zM → Prop) (l0 : Nat) (l1 : Nat) (l2 : Nat) (l3 : Nat) (l4 : Int32) (s0 : Int32) (s1 : Int32) (M : zM) : Prop := ((s0 = s1 → p198_1243 n q23 l0 l1 l2 l3 l4 M) ∧ (¬ s0 = s1 → True))
set_option maxRecDepth 100000 in
set_option maxHeartbeats 4000000 in
theorem s198_878 (n : Nat) (k23 : Nat → Nat → Nat → Nat → Int32 → zM → Int32 × zM) (q23 : Nat → Nat → Nat → Nat → Int32 → zM → Prop) (h23 : ∀ (l0 : Nat) (l1 : Nat) (l2 : Nat) (l3 : Nat) (l4 : Int32) (M : zM), q23 l0 l1 l2 l3 l4 M → ∀ {Q : Option Value → zM → Prop}, (∀ r M1, zRI (k23 l0 l1 l2 l3 l4 M) r M1 → Q r M1) → zWP 198 23 [some (.ref l0), some (.ref l1), some (.ref l2), some (.ref l3), some (.int l4), none, none] [] M Q) (l0 : Nat) (l1 : Nat) (l2 : Nat) (l3 : Nat) (l4 : Int32) (s0 : Int32) (s1 : Int32) (M : zM) (hp : p198_878 n q23 l0 l1 l2 l3 l4 s0 s1 M) {Q : Option Value → zM → Prop} (hQ : ∀ r M1, zRI (b198_878 n k23 l0 l1 l2 l3 l4 s0 s1 M) r M1 → Q r M1) : zWP 198 878 [some (.ref l0), some (.ref l1), some (.ref l2), some (.ref l3), some (.int l4), none, none] [.int s1, .int s0] M Q := by
  unfold b198_878 at hQ
  unfold p198_878 at hp
  refine wp_ic_eq (t := 1243) rfl rfl (fun hc => ?_) (fun hc => ?_)
  · rw [if_pos hc] at hQ
    replace hp := hp.1 hc
    exact s198_1243 n k23 q23 h23 l0 l1 l2 l3 l4 M hp hQ
  · rw [if_neg hc] at hQ
    replace hp := hp.2 hc
    refine wp_go 1 (pc' := 882) (L' := [some (.ref l0), some (.ref l1), some (.ref l2), some (.ref l3), some (.int l4), none, none]) (st' := [.int (0 : Int32)]) (M' := M) rfl ?_
    exact wp_ret (r := some (.int (0 : Int32))) rfl rfl (hQ _ _ ⟨rfl, rfl⟩)
def b198_862 (n : Nat) (k23 : Nat → Nat → Nat → Nat → Int32 → zM → Int32 × zM) (l0 : Nat) (l1 : Nat) (l2 : Nat) (l3 : Nat) (l4 : Int32) (s0 : Int32) (M : zM) : Int32 × zM := b198_878 n k23 l0 l1 l2 l3 l4 s0 (b153_0 n l2 (zI M l0 (l4 + (1 : Int32)).toNatClampNeg) (zI M l0 (l4 + (2 : Int32)).toNatClampNeg) M).1 (b153_0 n l2 (zI M l0 (l4 + (1 : Int32)).toNatClampNeg) (zI M l0 (l4 + (2 : Int32)).toNatClampNeg) M).2
def p198_862 (n : Nat) (q23 : Nat → Nat → Nat → Nat → Int32 → zM → Prop) (l0 : Nat) (l1 : Nat) (l2 : Nat) (l3 : Nat) (l4 : Int32) (s0 : Int32) (M : zM) : Prop := (zOkI l0 (l4 + (1 : Int32)) M) ∧ ((zOkI l0 (l4 + (2 : Int32)) M) ∧ ((zHasC 198 100 l2 M 153 2) ∧ ((p153_0 n l2 (zI M l0 (l4 + (1 : Int32)).toNatClampNeg) (zI M l0 (l4 + (2 : Int32)).toNatClampNeg) M) ∧ (p198_878 n q23 l0 l1 l2 l3 l4 s0 (b153_0 n l2 (zI M l0 (l4 + (1 : Int32)).toNatClampNeg) (zI M l0 (l4 + (2 : Int32)).toNatClampNeg) M).1 (b153_0 n l2 (zI M l0 (l4 + (1 : Int32)).toNatClampNeg) (zI M l0 (l4 + (2 : Int32)).toNatClampNeg) M).2))))
set_option maxRecDepth 100000 in
set_option maxHeartbeats 4000000 in
theorem s198_862 (n : Nat) (k23 : Nat → Nat → Nat → Nat → Int32 → zM → Int32 × zM) (q23 : Nat → Nat → Nat → Nat → Int32 → zM → Prop) (h23 : ∀ (l0 : Nat) (l1 : Nat) (l2 : Nat) (l3 : Nat) (l4 : Int32) (M : zM), q23 l0 l1 l2 l3 l4 M → ∀ {Q : Option Value → zM → Prop}, (∀ r M1, zRI (k23 l0 l1 l2 l3 l4 M) r M1 → Q r M1) → zWP 198 23 [some (.ref l0), some (.ref l1), some (.ref l2), some (.ref l3), some (.int l4), none, none] [] M Q) (l0 : Nat) (l1 : Nat) (l2 : Nat) (l3 : Nat) (l4 : Int32) (s0 : Int32) (M : zM) (hp : p198_862 n q23 l0 l1 l2 l3 l4 s0 M) {Q : Option Value → zM → Prop} (hQ : ∀ r M1, zRI (b198_862 n k23 l0 l1 l2 l3 l4 s0 M) r M1 → Q r M1) : zWP 198 862 [some (.ref l0), some (.ref l1), some (.ref l2), some (.ref l3), some (.int l4), none, none] [.int s0] M Q := by
  unfold b198_862 at hQ
  unfold p198_862 at hp
  refine wp_go 5 (pc' := 868) (L' := [some (.ref l0), some (.ref l1), some (.ref l2), some (.ref l3), some (.int l4), none, none]) (st' := [.int (l4 + (1 : Int32)), .ref l0, .ref l2, .int s0]) (M' := M) rfl ?_
  obtain ⟨hc, hp⟩ := hp
  refine wq_iald rfl hc ?_
  refine wp_go 4 (pc' := 874) (L' := [some (.ref l0), some (.ref l1), some (.ref l2), some (.ref l3), some (.int l4), none, none]) (st' := [.int (l4 + (2 : Int32)), .ref l0, .int (zI M l0 (l4 + (1 : Int32)).toNatClampNeg), .ref l2, .int s0]) (M' := M) rfl ?_
  obtain ⟨hc, hp⟩ := hp
  refine wq_iald rfl hc ?_
  obtain ⟨hv, hp⟩ := hp
  obtain ⟨hc, hp⟩ := hp
  refine wp_calli (v := (b153_0 n l2 (zI M l0 (l4 + (1 : Int32)).toNatClampNeg) (zI M l0 (l4 + (2 : Int32)).toNatClampNeg) M).1) (M1 := (b153_0 n l2 (zI M l0 (l4 + (1 : Int32)).toNatClampNeg) (zI M l0 (l4 + (2 : Int32)).toNatClampNeg) M).2) rfl rfl rfl (zInv_v (np := 2) rfl rfl hv rfl) (s153_0 n l2 (zI M l0 (l4 + (1 : Int32)).toNatClampNeg) (zI M l0 (l4 + (2 : Int32)).toNatClampNeg) M hc (fun r M1 h => h)) ?_
  exact s198_878 n k23 q23 h23 l0 l1 l2 l3 l4 s0 (b153_0 n l2 (zI M l0 (l4 + (1 : Int32)).toNatClampNeg) (zI M l0 (l4 + (2 : Int32)).toNatClampNeg) M).1 (b153_0 n l2 (zI M l0 (l4 + (1 : Int32)).toNatClampNeg) (zI M l0 (l4 + (2 : Int32)).toNatClampNeg) M).2 hp hQ
def b198_903 (n : Nat) (k23 : Nat → Nat → Nat → Nat → Int32 → zM → Int32 × zM) (l0 : Nat) (l1 : Nat) (l2 : Nat) (l3 : Nat) (l4 : Int32) (s0 : Int32) (s1 : Int32) (M : zM) : Int32 × zM := (if s0 = s1 then b198_1243 n k23 l0 l1 l2 l3 l4 M else ((0 : Int32), M))
def p198_903 (n : Nat) (q23 : Nat → Nat → Nat → Nat → Int32 → zM → Prop) (l0 : Nat) (l1 : Nat) (l2 : Nat) (l3 : Nat) (l4 : Int32) (s0 : Int32) (s1 : Int32) (M : zM) : Prop := ((s0 = s1 → p198_1243 n q23 l0 l1 l2 l3 l4 M) ∧ (¬ s0 = s1 → True))
set_option maxRecDepth 100000 in
set_option maxHeartbeats 4000000 in
theorem s198_903 (n : Nat) (k23 : Nat → Nat → Nat → Nat → Int32 → zM → Int32 × zM) (q23 : Nat → Nat → Nat → Nat → Int32 → zM → Prop) (h23 : ∀ (l0 : Nat) (l1 : Nat) (l2 : Nat) (l3 : Nat) (l4 : Int32) (M : zM), q23 l0 l1 l2 l3 l4 M → ∀ {Q : Option Value → zM → Prop}, (∀ r M1, zRI (k23 l0 l1 l2 l3 l4 M) r M1 → Q r M1) → zWP 198 23 [some (.ref l0), some (.ref l1), some (.ref l2), some (.ref l3), some (.int l4), none, none] [] M Q) (l0 : Nat) (l1 : Nat) (l2 : Nat) (l3 : Nat) (l4 : Int32) (s0 : Int32) (s1 : Int32) (M : zM) (hp : p198_903 n q23 l0 l1 l2 l3 l4 s0 s1 M) {Q : Option Value → zM → Prop} (hQ : ∀ r M1, zRI (b198_903 n k23 l0 l1 l2 l3 l4 s0 s1 M) r M1 → Q r M1) : zWP 198 903 [some (.ref l0), some (.ref l1), some (.ref l2), some (.ref l3), some (.int l4), none, none] [.int s1, .int s0] M Q := by
  unfold b198_903 at hQ
  unfold p198_903 at hp
  refine wp_ic_eq (t := 1243) rfl rfl (fun hc => ?_) (fun hc => ?_)
  · rw [if_pos hc] at hQ
    replace hp := hp.1 hc
    exact s198_1243 n k23 q23 h23 l0 l1 l2 l3 l4 M hp hQ
  · rw [if_neg hc] at hQ
    replace hp := hp.2 hc
    refine wp_go 1 (pc' := 907) (L' := [some (.ref l0), some (.ref l1), some (.ref l2), some (.ref l3), some (.int l4), none, none]) (st' := [.int (0 : Int32)]) (M' := M) rfl ?_
    exact wp_ret (r := some (.int (0 : Int32))) rfl rfl (hQ _ _ ⟨rfl, rfl⟩)
def b198_893 (n : Nat) (k23 : Nat → Nat → Nat → Nat → Int32 → zM → Int32 × zM) (l0 : Nat) (l1 : Nat) (l2 : Nat) (l3 : Nat) (l4 : Int32) (s0 : Int32) (M : zM) : Int32 × zM := b198_903 n k23 l0 l1 l2 l3 l4 s0 (b154_0 n l2 (zI M l0 (l4 + (1 : Int32)).toNatClampNeg) M).1 (b154_0 n l2 (zI M l0 (l4 + (1 : Int32)).toNatClampNeg) M).2
def p198_893 (n : Nat) (q23 : Nat → Nat → Nat → Nat → Int32 → zM → Prop) (l0 : Nat) (l1 : Nat) (l2 : Nat) (l3 : Nat) (l4 : Int32) (s0 : Int32) (M : zM) : Prop := (zOkI l0 (l4 + (1 : Int32)) M) ∧ ((zHasC 198 104 l2 M 154 1) ∧ ((p154_0 n l2 (zI M l0 (l4 + (1 : Int32)).toNatClampNeg) M) ∧ (p198_903 n q23 l0 l1 l2 l3 l4 s0 (b154_0 n l2 (zI M l0 (l4 + (1 : Int32)).toNatClampNeg) M).1 (b154_0 n l2 (zI M l0 (l4 + (1 : Int32)).toNatClampNeg) M).2)))
set_option maxRecDepth 100000 in
set_option maxHeartbeats 4000000 in
theorem s198_893 (n : Nat) (k23 : Nat → Nat → Nat → Nat → Int32 → zM → Int32 × zM) (q23 : Nat → Nat → Nat → Nat → Int32 → zM → Prop) (h23 : ∀ (l0 : Nat) (l1 : Nat) (l2 : Nat) (l3 : Nat) (l4 : Int32) (M : zM), q23 l0 l1 l2 l3 l4 M → ∀ {Q : Option Value → zM → Prop}, (∀ r M1, zRI (k23 l0 l1 l2 l3 l4 M) r M1 → Q r M1) → zWP 198 23 [some (.ref l0), some (.ref l1), some (.ref l2), some (.ref l3), some (.int l4), none, none] [] M Q) (l0 : Nat) (l1 : Nat) (l2 : Nat) (l3 : Nat) (l4 : Int32) (s0 : Int32) (M : zM) (hp : p198_893 n q23 l0 l1 l2 l3 l4 s0 M) {Q : Option Value → zM → Prop} (hQ : ∀ r M1, zRI (b198_893 n k23 l0 l1 l2 l3 l4 s0 M) r M1 → Q r M1) : zWP 198 893 [some (.ref l0), some (.ref l1), some (.ref l2), some (.ref l3), some (.int l4), none, none] [.int s0] M Q := by
  unfold b198_893 at hQ
  unfold p198_893 at hp
  refine wp_go 5 (pc' := 899) (L' := [some (.ref l0), some (.ref l1), some (.ref l2), some (.ref l3), some (.int l4), none, none]) (st' := [.int (l4 + (1 : Int32)), .ref l0, .ref l2, .int s0]) (M' := M) rfl ?_
  obtain ⟨hc, hp⟩ := hp
  refine wq_iald rfl hc ?_
  obtain ⟨hv, hp⟩ := hp
  obtain ⟨hc, hp⟩ := hp
  refine wp_calli (v := (b154_0 n l2 (zI M l0 (l4 + (1 : Int32)).toNatClampNeg) M).1) (M1 := (b154_0 n l2 (zI M l0 (l4 + (1 : Int32)).toNatClampNeg) M).2) rfl rfl rfl (zInv_v (np := 1) rfl rfl hv rfl) (s154_0 n l2 (zI M l0 (l4 + (1 : Int32)).toNatClampNeg) M hc (fun r M1 h => h)) ?_
  exact s198_903 n k23 q23 h23 l0 l1 l2 l3 l4 s0 (b154_0 n l2 (zI M l0 (l4 + (1 : Int32)).toNatClampNeg) M).1 (b154_0 n l2 (zI M l0 (l4 + (1 : Int32)).toNatClampNeg) M).2 hp hQ
def b198_976 (n : Nat) (k23 : Nat → Nat → Nat → Nat → Int32 → zM → Int32 × zM) (l0 : Nat) (l1 : Nat) (l2 : Nat) (l3 : Nat) (l4 : Int32) (s0 : Int32) (s1 : Int32) (M : zM) : Int32 × zM := (if s0 = s1 then b198_1243 n k23 l0 l1 l2 l3 l4 M else ((0 : Int32), M))
def p198_976 (n : Nat) (q23 : Nat → Nat → Nat → Nat → Int32 → zM → Prop) (l0 : Nat) (l1 : Nat) (l2 : Nat) (l3 : Nat) (l4 : Int32) (s0 : Int32) (s1 : Int32) (M : zM) : Prop := ((s0 = s1 → p198_1243 n q23 l0 l1 l2 l3 l4 M) ∧ (¬ s0 = s1 → True))
set_option maxRecDepth 100000 in
set_option maxHeartbeats 4000000 in
theorem s198_976 (n : Nat) (k23 : Nat → Nat → Nat → Nat → Int32 → zM → Int32 × zM) (q23 : Nat → Nat → Nat → Nat → Int32 → zM → Prop) (h23 : ∀ (l0 : Nat) (l1 : Nat) (l2 : Nat) (l3 : Nat) (l4 : Int32) (M : zM), q23 l0 l1 l2 l3 l4 M → ∀ {Q : Option Value → zM → Prop}, (∀ r M1, zRI (k23 l0 l1 l2 l3 l4 M) r M1 → Q r M1) → zWP 198 23 [some (.ref l0), some (.ref l1), some (.ref l2), some (.ref l3), some (.int l4), none, none] [] M Q) (l0 : Nat) (l1 : Nat) (l2 : Nat) (l3 : Nat) (l4 : Int32) (s0 : Int32) (s1 : Int32) (M : zM) (hp : p198_976 n q23 l0 l1 l2 l3 l4 s0 s1 M) {Q : Option Value → zM → Prop} (hQ : ∀ r M1, zRI (b198_976 n k23 l0 l1 l2 l3 l4 s0 s1 M) r M1 → Q r M1) : zWP 198 976 [some (.ref l0), some (.ref l1), some (.ref l2), some (.ref l3), some (.int l4), none, none] [.int s1, .int s0] M Q := by
  unfold b198_976 at hQ
  unfold p198_976 at hp
  refine wp_ic_eq (t := 1243) rfl rfl (fun hc => ?_) (fun hc => ?_)
  · rw [if_pos hc] at hQ
    replace hp := hp.1 hc
    exact s198_1243 n k23 q23 h23 l0 l1 l2 l3 l4 M hp hQ
  · rw [if_neg hc] at hQ
    replace hp := hp.2 hc
    refine wp_go 1 (pc' := 980) (L' := [some (.ref l0), some (.ref l1), some (.ref l2), some (.ref l3), some (.int l4), none, none]) (st' := [.int (0 : Int32)]) (M' := M) rfl ?_
    exact wp_ret (r := some (.int (0 : Int32))) rfl rfl (hQ _ _ ⟨rfl, rfl⟩)
def b198_942 (n : Nat) (k23 : Nat → Nat → Nat → Nat → Int32 → zM → Int32 × zM) (l0 : Nat) (l1 : Nat) (l2 : Nat) (l3 : Nat) (l4 : Int32) (s0 : Int32) (M : zM) : Int32 × zM := b198_976 n k23 l0 l1 l2 l3 l4 s0 (b169_0 n l2 (zI M l0 (l4 + (1 : Int32)).toNatClampNeg) (zI M l0 (l4 + (2 : Int32)).toNatClampNeg) (zI M l0 (l4 + (3 : Int32)).toNatClampNeg) (zI M l0 (l4 + (4 : Int32)).toNatClampNeg) (zI M l0 (l4 + (5 : Int32)).toNatClampNeg) M).1 (b169_0 n l2 (zI M l0 (l4 + (1 : Int32)).toNatClampNeg) (zI M l0 (l4 + (2 : Int32)).toNatClampNeg) (zI M l0 (l4 + (3 : Int32)).toNatClampNeg) (zI M l0 (l4 + (4 : Int32)).toNatClampNeg) (zI M l0 (l4 + (5 : Int32)).toNatClampNeg) M).2
def p198_942 (n : Nat) (q23 : Nat → Nat → Nat → Nat → Int32 → zM → Prop) (l0 : Nat) (l1 : Nat) (l2 : Nat) (l3 : Nat) (l4 : Int32) (s0 : Int32) (M : zM) : Prop := (zOkI l0 (l4 + (1 : Int32)) M) ∧ ((zOkI l0 (l4 + (2 : Int32)) M) ∧ ((zOkI l0 (l4 + (3 : Int32)) M) ∧ ((zOkI l0 (l4 + (4 : Int32)) M) ∧ ((zOkI l0 (l4 + (5 : Int32)) M) ∧ ((zHasC 198 108 l2 M 169 5) ∧ ((p169_0 n l2 (zI M l0 (l4 + (1 : Int32)).toNatClampNeg) (zI M l0 (l4 + (2 : Int32)).toNatClampNeg) (zI M l0 (l4 + (3 : Int32)).toNatClampNeg) (zI M l0 (l4 + (4 : Int32)).toNatClampNeg) (zI M l0 (l4 + (5 : Int32)).toNatClampNeg) M) ∧ (p198_976 n q23 l0 l1 l2 l3 l4 s0 (b169_0 n l2 (zI M l0 (l4 + (1 : Int32)).toNatClampNeg) (zI M l0 (l4 + (2 : Int32)).toNatClampNeg) (zI M l0 (l4 + (3 : Int32)).toNatClampNeg) (zI M l0 (l4 + (4 : Int32)).toNatClampNeg) (zI M l0 (l4 + (5 : Int32)).toNatClampNeg) M).1 (b169_0 n l2 (zI M l0 (l4 + (1 : Int32)).toNatClampNeg) (zI M l0 (l4 + (2 : Int32)).toNatClampNeg) (zI M l0 (l4 + (3 : Int32)).toNatClampNeg) (zI M l0 (l4 + (4 : Int32)).toNatClampNeg) (zI M l0 (l4 + (5 : Int32)).toNatClampNeg) M).2)))))))
set_option maxRecDepth 100000 in
set_option maxHeartbeats 4000000 in
theorem s198_942 (n : Nat) (k23 : Nat → Nat → Nat → Nat → Int32 → zM → Int32 × zM) (q23 : Nat → Nat → Nat → Nat → Int32 → zM → Prop) (h23 : ∀ (l0 : Nat) (l1 : Nat) (l2 : Nat) (l3 : Nat) (l4 : Int32) (M : zM), q23 l0 l1 l2 l3 l4 M → ∀ {Q : Option Value → zM → Prop}, (∀ r M1, zRI (k23 l0 l1 l2 l3 l4 M) r M1 → Q r M1) → zWP 198 23 [some (.ref l0), some (.ref l1), some (.ref l2), some (.ref l3), some (.int l4), none, none] [] M Q) (l0 : Nat) (l1 : Nat) (l2 : Nat) (l3 : Nat) (l4 : Int32) (s0 : Int32) (M : zM) (hp : p198_942 n q23 l0 l1 l2 l3 l4 s0 M) {Q : Option Value → zM → Prop} (hQ : ∀ r M1, zRI (b198_942 n k23 l0 l1 l2 l3 l4 s0 M) r M1 → Q r M1) : zWP 198 942 [some (.ref l0), some (.ref l1), some (.ref l2), some (.ref l3), some (.int l4), none, none] [.int s0] M Q := by
  unfold b198_942 at hQ
  unfold p198_942 at hp
  refine wp_go 5 (pc' := 948) (L' := [some (.ref l0), some (.ref l1), some (.ref l2), some (.ref l3), some (.int l4), none, none]) (st' := [.int (l4 + (1 : Int32)), .ref l0, .ref l2, .int s0]) (M' := M) rfl ?_
  obtain ⟨hc, hp⟩ := hp
  refine wq_iald rfl hc ?_
  refine wp_go 4 (pc' := 954) (L' := [some (.ref l0), some (.ref l1), some (.ref l2), some (.ref l3), some (.int l4), none, none]) (st' := [.int (l4 + (2 : Int32)), .ref l0, .int (zI M l0 (l4 + (1 : Int32)).toNatClampNeg), .ref l2, .int s0]) (M' := M) rfl ?_
  obtain ⟨hc, hp⟩ := hp
  refine wq_iald rfl hc ?_
  refine wp_go 4 (pc' := 960) (L' := [some (.ref l0), some (.ref l1), some (.ref l2), some (.ref l3), some (.int l4), none, none]) (st' := [.int (l4 + (3 : Int32)), .ref l0, .int (zI M l0 (l4 + (2 : Int32)).toNatClampNeg), .int (zI M l0 (l4 + (1 : Int32)).toNatClampNeg), .ref l2, .int s0]) (M' := M) rfl ?_
  obtain ⟨hc, hp⟩ := hp
  refine wq_iald rfl hc ?_
  refine wp_go 4 (pc' := 966) (L' := [some (.ref l0), some (.ref l1), some (.ref l2), some (.ref l3), some (.int l4), none, none]) (st' := [.int (l4 + (4 : Int32)), .ref l0, .int (zI M l0 (l4 + (3 : Int32)).toNatClampNeg), .int (zI M l0 (l4 + (2 : Int32)).toNatClampNeg), .int (zI M l0 (l4 + (1 : Int32)).toNatClampNeg), .ref l2, .int s0]) (M' := M) rfl ?_
  obtain ⟨hc, hp⟩ := hp
  refine wq_iald rfl hc ?_
  refine wp_go 4 (pc' := 972) (L' := [some (.ref l0), some (.ref l1), some (.ref l2), some (.ref l3), some (.int l4), none, none]) (st' := [.int (l4 + (5 : Int32)), .ref l0, .int (zI M l0 (l4 + (4 : Int32)).toNatClampNeg), .int (zI M l0 (l4 + (3 : Int32)).toNatClampNeg), .int (zI M l0 (l4 + (2 : Int32)).toNatClampNeg), .int (zI M l0 (l4 + (1 : Int32)).toNatClampNeg), .ref l2, .int s0]) (M' := M) rfl ?_
  obtain ⟨hc, hp⟩ := hp
  refine wq_iald rfl hc ?_
  obtain ⟨hv, hp⟩ := hp
  obtain ⟨hc, hp⟩ := hp
  refine wp_calli (v := (b169_0 n l2 (zI M l0 (l4 + (1 : Int32)).toNatClampNeg) (zI M l0 (l4 + (2 : Int32)).toNatClampNeg) (zI M l0 (l4 + (3 : Int32)).toNatClampNeg) (zI M l0 (l4 + (4 : Int32)).toNatClampNeg) (zI M l0 (l4 + (5 : Int32)).toNatClampNeg) M).1) (M1 := (b169_0 n l2 (zI M l0 (l4 + (1 : Int32)).toNatClampNeg) (zI M l0 (l4 + (2 : Int32)).toNatClampNeg) (zI M l0 (l4 + (3 : Int32)).toNatClampNeg) (zI M l0 (l4 + (4 : Int32)).toNatClampNeg) (zI M l0 (l4 + (5 : Int32)).toNatClampNeg) M).2) rfl rfl rfl (zInv_v (np := 5) rfl rfl hv rfl) (s169_0 n l2 (zI M l0 (l4 + (1 : Int32)).toNatClampNeg) (zI M l0 (l4 + (2 : Int32)).toNatClampNeg) (zI M l0 (l4 + (3 : Int32)).toNatClampNeg) (zI M l0 (l4 + (4 : Int32)).toNatClampNeg) (zI M l0 (l4 + (5 : Int32)).toNatClampNeg) M hc (fun r M1 h => h)) ?_
  exact s198_976 n k23 q23 h23 l0 l1 l2 l3 l4 s0 (b169_0 n l2 (zI M l0 (l4 + (1 : Int32)).toNatClampNeg) (zI M l0 (l4 + (2 : Int32)).toNatClampNeg) (zI M l0 (l4 + (3 : Int32)).toNatClampNeg) (zI M l0 (l4 + (4 : Int32)).toNatClampNeg) (zI M l0 (l4 + (5 : Int32)).toNatClampNeg) M).1 (b169_0 n l2 (zI M l0 (l4 + (1 : Int32)).toNatClampNeg) (zI M l0 (l4 + (2 : Int32)).toNatClampNeg) (zI M l0 (l4 + (3 : Int32)).toNatClampNeg) (zI M l0 (l4 + (4 : Int32)).toNatClampNeg) (zI M l0 (l4 + (5 : Int32)).toNatClampNeg) M).2 hp hQ
def b198_1049 (n : Nat) (k23 : Nat → Nat → Nat → Nat → Int32 → zM → Int32 × zM) (l0 : Nat) (l1 : Nat) (l2 : Nat) (l3 : Nat) (l4 : Int32) (s0 : Int32) (s1 : Int32) (M : zM) : Int32 × zM := (if s0 = s1 then b198_1243 n k23 l0 l1 l2 l3 l4 M else ((0 : Int32), M))
def p198_1049 (n : Nat) (q23 : Nat → Nat → Nat → Nat → Int32 → zM → Prop) (l0 : Nat) (l1 : Nat) (l2 : Nat) (l3 : Nat) (l4 : Int32) (s0 : Int32) (s1 : Int32) (M : zM) : Prop := ((s0 = s1 → p198_1243 n q23 l0 l1 l2 l3 l4 M) ∧ (¬ s0 = s1 → True))
set_option maxRecDepth 100000 in
set_option maxHeartbeats 4000000 in
theorem s198_1049 (n : Nat) (k23 : Nat → Nat → Nat → Nat → Int32 → zM → Int32 × zM) (q23 : Nat → Nat → Nat → Nat → Int32 → zM → Prop) (h23 : ∀ (l0 : Nat) (l1 : Nat) (l2 : Nat) (l3 : Nat) (l4 : Int32) (M : zM), q23 l0 l1 l2 l3 l4 M → ∀ {Q : Option Value → zM → Prop}, (∀ r M1, zRI (k23 l0 l1 l2 l3 l4 M) r M1 → Q r M1) → zWP 198 23 [some (.ref l0), some (.ref l1), some (.ref l2), some (.ref l3), some (.int l4), none, none] [] M Q) (l0 : Nat) (l1 : Nat) (l2 : Nat) (l3 : Nat) (l4 : Int32) (s0 : Int32) (s1 : Int32) (M : zM) (hp : p198_1049 n q23 l0 l1 l2 l3 l4 s0 s1 M) {Q : Option Value → zM → Prop} (hQ : ∀ r M1, zRI (b198_1049 n k23 l0 l1 l2 l3 l4 s0 s1 M) r M1 → Q r M1) : zWP 198 1049 [some (.ref l0), some (.ref l1), some (.ref l2), some (.ref l3), some (.int l4), none, none] [.int s1, .int s0] M Q := by
  unfold b198_1049 at hQ
  unfold p198_1049 at hp
  refine wp_ic_eq (t := 1243) rfl rfl (fun hc => ?_) (fun hc => ?_)
  · rw [if_pos hc] at hQ
    replace hp := hp.1 hc
    exact s198_1243 n k23 q23 h23 l0 l1 l2 l3 l4 M hp hQ
  · rw [if_neg hc] at hQ
    replace hp := hp.2 hc
    refine wp_go 1 (pc' := 1053) (L' := [some (.ref l0), some (.ref l1), some (.ref l2), some (.ref l3), some (.int l4), none, none]) (st' := [.int (0 : Int32)]) (M' := M) rfl ?_
    exact wp_ret (r := some (.int (0 : Int32))) rfl rfl (hQ _ _ ⟨rfl, rfl⟩)
def b198_1015 (n : Nat) (k23 : Nat → Nat → Nat → Nat → Int32 → zM → Int32 × zM) (l0 : Nat) (l1 : Nat) (l2 : Nat) (l3 : Nat) (l4 : Int32) (s0 : Int32) (M : zM) : Int32 × zM := b198_1049 n k23 l0 l1 l2 l3 l4 s0 (b171_0 n l2 (zI M l0 (l4 + (1 : Int32)).toNatClampNeg) (zI M l0 (l4 + (2 : Int32)).toNatClampNeg) (zI M l0 (l4 + (3 : Int32)).toNatClampNeg) (zI M l0 (l4 + (4 : Int32)).toNatClampNeg) (zI M l0 (l4 + (5 : Int32)).toNatClampNeg) M).1 (b171_0 n l2 (zI M l0 (l4 + (1 : Int32)).toNatClampNeg) (zI M l0 (l4 + (2 : Int32)).toNatClampNeg) (zI M l0 (l4 + (3 : Int32)).toNatClampNeg) (zI M l0 (l4 + (4 : Int32)).toNatClampNeg) (zI M l0 (l4 + (5 : Int32)).toNatClampNeg) M).2
def p198_1015 (n : Nat) (q23 : Nat → Nat → Nat → Nat → Int32 → zM → Prop) (l0 : Nat) (l1 : Nat) (l2 : Nat) (l3 : Nat) (l4 : Int32) (s0 : Int32) (M : zM) : Prop := (zOkI l0 (l4 + (1 : Int32)) M) ∧ ((zOkI l0 (l4 + (2 : Int32)) M) ∧ ((zOkI l0 (l4 + (3 : Int32)) M) ∧ ((zOkI l0 (l4 + (4 : Int32)) M) ∧ ((zOkI l0 (l4 + (5 : Int32)) M) ∧ ((zHasC 198 112 l2 M 171 5) ∧ ((p171_0 n l2 (zI M l0 (l4 + (1 : Int32)).toNatClampNeg) (zI M l0 (l4 + (2 : Int32)).toNatClampNeg) (zI M l0 (l4 + (3 : Int32)).toNatClampNeg) (zI M l0 (l4 + (4 : Int32)).toNatClampNeg) (zI M l0 (l4 + (5 : Int32)).toNatClampNeg) M) ∧ (p198_1049 n q23 l0 l1 l2 l3 l4 s0 (b171_0 n l2 (zI M l0 (l4 + (1 : Int32)).toNatClampNeg) (zI M l0 (l4 + (2 : Int32)).toNatClampNeg) (zI M l0 (l4 + (3 : Int32)).toNatClampNeg) (zI M l0 (l4 + (4 : Int32)).toNatClampNeg) (zI M l0 (l4 + (5 : Int32)).toNatClampNeg) M).1 (b171_0 n l2 (zI M l0 (l4 + (1 : Int32)).toNatClampNeg) (zI M l0 (l4 + (2 : Int32)).toNatClampNeg) (zI M l0 (l4 + (3 : Int32)).toNatClampNeg) (zI M l0 (l4 + (4 : Int32)).toNatClampNeg) (zI M l0 (l4 + (5 : Int32)).toNatClampNeg) M).2)))))))
set_option maxRecDepth 100000 in
set_option maxHeartbeats 4000000 in
theorem s198_1015 (n : Nat) (k23 : Nat → Nat → Nat → Nat → Int32 → zM → Int32 × zM) (q23 : Nat → Nat → Nat → Nat → Int32 → zM → Prop) (h23 : ∀ (l0 : Nat) (l1 : Nat) (l2 : Nat) (l3 : Nat) (l4 : Int32) (M : zM), q23 l0 l1 l2 l3 l4 M → ∀ {Q : Option Value → zM → Prop}, (∀ r M1, zRI (k23 l0 l1 l2 l3 l4 M) r M1 → Q r M1) → zWP 198 23 [some (.ref l0), some (.ref l1), some (.ref l2), some (.ref l3), some (.int l4), none, none] [] M Q) (l0 : Nat) (l1 : Nat) (l2 : Nat) (l3 : Nat) (l4 : Int32) (s0 : Int32) (M : zM) (hp : p198_1015 n q23 l0 l1 l2 l3 l4 s0 M) {Q : Option Value → zM → Prop} (hQ : ∀ r M1, zRI (b198_1015 n k23 l0 l1 l2 l3 l4 s0 M) r M1 → Q r M1) : zWP 198 1015 [some (.ref l0), some (.ref l1), some (.ref l2), some (.ref l3), some (.int l4), none, none] [.int s0] M Q := by
  unfold b198_1015 at hQ
  unfold p198_1015 at hp
  refine wp_go 5 (pc' := 1021) (L' := [some (.ref l0), some (.ref l1), some (.ref l2), some (.ref l3), some (.int l4), none, none]) (st' := [.int (l4 + (1 : Int32)), .ref l0, .ref l2, .int s0]) (M' := M) rfl ?_
  obtain ⟨hc, hp⟩ := hp
  refine wq_iald rfl hc ?_
  refine wp_go 4 (pc' := 1027) (L' := [some (.ref l0), some (.ref l1), some (.ref l2), some (.ref l3), some (.int l4), none, none]) (st' := [.int (l4 + (2 : Int32)), .ref l0, .int (zI M l0 (l4 + (1 : Int32)).toNatClampNeg), .ref l2, .int s0]) (M' := M) rfl ?_
  obtain ⟨hc, hp⟩ := hp
  refine wq_iald rfl hc ?_
  refine wp_go 4 (pc' := 1033) (L' := [some (.ref l0), some (.ref l1), some (.ref l2), some (.ref l3), some (.int l4), none, none]) (st' := [.int (l4 + (3 : Int32)), .ref l0, .int (zI M l0 (l4 + (2 : Int32)).toNatClampNeg), .int (zI M l0 (l4 + (1 : Int32)).toNatClampNeg), .ref l2, .int s0]) (M' := M) rfl ?_
  obtain ⟨hc, hp⟩ := hp
  refine wq_iald rfl hc ?_
  refine wp_go 4 (pc' := 1039) (L' := [some (.ref l0), some (.ref l1), some (.ref l2), some (.ref l3), some (.int l4), none, none]) (st' := [.int (l4 + (4 : Int32)), .ref l0, .int (zI M l0 (l4 + (3 : Int32)).toNatClampNeg), .int (zI M l0 (l4 + (2 : Int32)).toNatClampNeg), .int (zI M l0 (l4 + (1 : Int32)).toNatClampNeg), .ref l2, .int s0]) (M' := M) rfl ?_
  obtain ⟨hc, hp⟩ := hp
  refine wq_iald rfl hc ?_
  refine wp_go 4 (pc' := 1045) (L' := [some (.ref l0), some (.ref l1), some (.ref l2), some (.ref l3), some (.int l4), none, none]) (st' := [.int (l4 + (5 : Int32)), .ref l0, .int (zI M l0 (l4 + (4 : Int32)).toNatClampNeg), .int (zI M l0 (l4 + (3 : Int32)).toNatClampNeg), .int (zI M l0 (l4 + (2 : Int32)).toNatClampNeg), .int (zI M l0 (l4 + (1 : Int32)).toNatClampNeg), .ref l2, .int s0]) (M' := M) rfl ?_
  obtain ⟨hc, hp⟩ := hp
  refine wq_iald rfl hc ?_
  obtain ⟨hv, hp⟩ := hp
  obtain ⟨hc, hp⟩ := hp
  refine wp_calli (v := (b171_0 n l2 (zI M l0 (l4 + (1 : Int32)).toNatClampNeg) (zI M l0 (l4 + (2 : Int32)).toNatClampNeg) (zI M l0 (l4 + (3 : Int32)).toNatClampNeg) (zI M l0 (l4 + (4 : Int32)).toNatClampNeg) (zI M l0 (l4 + (5 : Int32)).toNatClampNeg) M).1) (M1 := (b171_0 n l2 (zI M l0 (l4 + (1 : Int32)).toNatClampNeg) (zI M l0 (l4 + (2 : Int32)).toNatClampNeg) (zI M l0 (l4 + (3 : Int32)).toNatClampNeg) (zI M l0 (l4 + (4 : Int32)).toNatClampNeg) (zI M l0 (l4 + (5 : Int32)).toNatClampNeg) M).2) rfl rfl rfl (zInv_v (np := 5) rfl rfl hv rfl) (s171_0 n l2 (zI M l0 (l4 + (1 : Int32)).toNatClampNeg) (zI M l0 (l4 + (2 : Int32)).toNatClampNeg) (zI M l0 (l4 + (3 : Int32)).toNatClampNeg) (zI M l0 (l4 + (4 : Int32)).toNatClampNeg) (zI M l0 (l4 + (5 : Int32)).toNatClampNeg) M hc (fun r M1 h => h)) ?_
  exact s198_1049 n k23 q23 h23 l0 l1 l2 l3 l4 s0 (b171_0 n l2 (zI M l0 (l4 + (1 : Int32)).toNatClampNeg) (zI M l0 (l4 + (2 : Int32)).toNatClampNeg) (zI M l0 (l4 + (3 : Int32)).toNatClampNeg) (zI M l0 (l4 + (4 : Int32)).toNatClampNeg) (zI M l0 (l4 + (5 : Int32)).toNatClampNeg) M).1 (b171_0 n l2 (zI M l0 (l4 + (1 : Int32)).toNatClampNeg) (zI M l0 (l4 + (2 : Int32)).toNatClampNeg) (zI M l0 (l4 + (3 : Int32)).toNatClampNeg) (zI M l0 (l4 + (4 : Int32)).toNatClampNeg) (zI M l0 (l4 + (5 : Int32)).toNatClampNeg) M).2 hp hQ
def b198_1074 (n : Nat) (k23 : Nat → Nat → Nat → Nat → Int32 → zM → Int32 × zM) (l0 : Nat) (l1 : Nat) (l2 : Nat) (l3 : Nat) (l4 : Int32) (s0 : Int32) (s1 : Int32) (M : zM) : Int32 × zM := (if s0 = s1 then b198_1243 n k23 l0 l1 l2 l3 l4 M else ((0 : Int32), M))
def p198_1074 (n : Nat) (q23 : Nat → Nat → Nat → Nat → Int32 → zM → Prop) (l0 : Nat) (l1 : Nat) (l2 : Nat) (l3 : Nat) (l4 : Int32) (s0 : Int32) (s1 : Int32) (M : zM) : Prop := ((s0 = s1 → p198_1243 n q23 l0 l1 l2 l3 l4 M) ∧ (¬ s0 = s1 → True))
set_option maxRecDepth 100000 in
set_option maxHeartbeats 4000000 in
theorem s198_1074 (n : Nat) (k23 : Nat → Nat → Nat → Nat → Int32 → zM → Int32 × zM) (q23 : Nat → Nat → Nat → Nat → Int32 → zM → Prop) (h23 : ∀ (l0 : Nat) (l1 : Nat) (l2 : Nat) (l3 : Nat) (l4 : Int32) (M : zM), q23 l0 l1 l2 l3 l4 M → ∀ {Q : Option Value → zM → Prop}, (∀ r M1, zRI (k23 l0 l1 l2 l3 l4 M) r M1 → Q r M1) → zWP 198 23 [some (.ref l0), some (.ref l1), some (.ref l2), some (.ref l3), some (.int l4), none, none] [] M Q) (l0 : Nat) (l1 : Nat) (l2 : Nat) (l3 : Nat) (l4 : Int32) (s0 : Int32) (s1 : Int32) (M : zM) (hp : p198_1074 n q23 l0 l1 l2 l3 l4 s0 s1 M) {Q : Option Value → zM → Prop} (hQ : ∀ r M1, zRI (b198_1074 n k23 l0 l1 l2 l3 l4 s0 s1 M) r M1 → Q r M1) : zWP 198 1074 [some (.ref l0), some (.ref l1), some (.ref l2), some (.ref l3), some (.int l4), none, none] [.int s1, .int s0] M Q := by
  unfold b198_1074 at hQ
  unfold p198_1074 at hp
  refine wp_ic_eq (t := 1243) rfl rfl (fun hc => ?_) (fun hc => ?_)
  · rw [if_pos hc] at hQ
    replace hp := hp.1 hc
    exact s198_1243 n k23 q23 h23 l0 l1 l2 l3 l4 M hp hQ
  · rw [if_neg hc] at hQ
    replace hp := hp.2 hc
    refine wp_go 1 (pc' := 1078) (L' := [some (.ref l0), some (.ref l1), some (.ref l2), some (.ref l3), some (.int l4), none, none]) (st' := [.int (0 : Int32)]) (M' := M) rfl ?_
    exact wp_ret (r := some (.int (0 : Int32))) rfl rfl (hQ _ _ ⟨rfl, rfl⟩)
def b198_1064 (n : Nat) (k23 : Nat → Nat → Nat → Nat → Int32 → zM → Int32 × zM) (l0 : Nat) (l1 : Nat) (l2 : Nat) (l3 : Nat) (l4 : Int32) (s0 : Int32) (M : zM) : Int32 × zM := b198_1074 n k23 l0 l1 l2 l3 l4 s0 (b175_0 n l2 (zI M l0 (l4 + (1 : Int32)).toNatClampNeg) M).1 (b175_0 n l2 (zI M l0 (l4 + (1 : Int32)).toNatClampNeg) M).2
def p198_1064 (n : Nat) (q23 : Nat → Nat → Nat → Nat → Int32 → zM → Prop) (l0 : Nat) (l1 : Nat) (l2 : Nat) (l3 : Nat) (l4 : Int32) (s0 : Int32) (M : zM) : Prop := (zOkI l0 (l4 + (1 : Int32)) M) ∧ ((zHasC 198 116 l2 M 175 1) ∧ ((p175_0 n l2 (zI M l0 (l4 + (1 : Int32)).toNatClampNeg) M) ∧ (p198_1074 n q23 l0 l1 l2 l3 l4 s0 (b175_0 n l2 (zI M l0 (l4 + (1 : Int32)).toNatClampNeg) M).1 (b175_0 n l2 (zI M l0 (l4 + (1 : Int32)).toNatClampNeg) M).2)))
set_option maxRecDepth 100000 in
set_option maxHeartbeats 4000000 in
theorem s198_1064 (n : Nat) (k23 : Nat → Nat → Nat → Nat → Int32 → zM → Int32 × zM) (q23 : Nat → Nat → Nat → Nat → Int32 → zM → Prop) (h23 : ∀ (l0 : Nat) (l1 : Nat) (l2 : Nat) (l3 : Nat) (l4 : Int32) (M : zM), q23 l0 l1 l2 l3 l4 M → ∀ {Q : Option Value → zM → Prop}, (∀ r M1, zRI (k23 l0 l1 l2 l3 l4 M) r M1 → Q r M1) → zWP 198 23 [some (.ref l0), some (.ref l1), some (.ref l2), some (.ref l3), some (.int l4), none, none] [] M Q) (l0 : Nat) (l1 : Nat) (l2 : Nat) (l3 : Nat) (l4 : Int32) (s0 : Int32) (M : zM) (hp : p198_1064 n q23 l0 l1 l2 l3 l4 s0 M) {Q : Option Value → zM → Prop} (hQ : ∀ r M1, zRI (b198_1064 n k23 l0 l1 l2 l3 l4 s0 M) r M1 → Q r M1) : zWP 198 1064 [some (.ref l0), some (.ref l1), some (.ref l2), some (.ref l3), some (.int l4), none, none] [.int s0] M Q := by
  unfold b198_1064 at hQ
  unfold p198_1064 at hp
  refine wp_go 5 (pc' := 1070) (L' := [some (.ref l0), some (.ref l1), some (.ref l2), some (.ref l3), some (.int l4), none, none]) (st' := [.int (l4 + (1 : Int32)), .ref l0, .ref l2, .int s0]) (M' := M) rfl ?_
  obtain ⟨hc, hp⟩ := hp
  refine wq_iald rfl hc ?_
  obtain ⟨hv, hp⟩ := hp
  obtain ⟨hc, hp⟩ := hp
  refine wp_calli (v := (b175_0 n l2 (zI M l0 (l4 + (1 : Int32)).toNatClampNeg) M).1) (M1 := (b175_0 n l2 (zI M l0 (l4 + (1 : Int32)).toNatClampNeg) M).2) rfl rfl rfl (zInv_v (np := 1) rfl rfl hv rfl) (s175_0 n l2 (zI M l0 (l4 + (1 : Int32)).toNatClampNeg) M hc (fun r M1 h => h)) ?_
  exact s198_1074 n k23 q23 h23 l0 l1 l2 l3 l4 s0 (b175_0 n l2 (zI M l0 (l4 + (1 : Int32)).toNatClampNeg) M).1 (b175_0 n l2 (zI M l0 (l4 + (1 : Int32)).toNatClampNeg) M).2 hp hQ
def b198_1111 (n : Nat) (k23 : Nat → Nat → Nat → Nat → Int32 → zM → Int32 × zM) (l0 : Nat) (l1 : Nat) (l2 : Nat) (l3 : Nat) (l4 : Int32) (s0 : Int32) (s1 : Int32) (M : zM) : Int32 × zM := (if s0 = s1 then b198_1243 n k23 l0 l1 l2 l3 l4 M else ((0 : Int32), M))
def p198_1111 (n : Nat) (q23 : Nat → Nat → Nat → Nat → Int32 → zM → Prop) (l0 : Nat) (l1 : Nat) (l2 : Nat) (l3 : Nat) (l4 : Int32) (s0 : Int32) (s1 : Int32) (M : zM) : Prop := ((s0 = s1 → p198_1243 n q23 l0 l1 l2 l3 l4 M) ∧ (¬ s0 = s1 → True))
set_option maxRecDepth 100000 in
set_option maxHeartbeats 4000000 in
theorem s198_1111 (n : Nat) (k23 : Nat → Nat → Nat → Nat → Int32 → zM → Int32 × zM) (q23 : Nat → Nat → Nat → Nat → Int32 → zM → Prop) (h23 : ∀ (l0 : Nat) (l1 : Nat) (l2 : Nat) (l3 : Nat) (l4 : Int32) (M : zM), q23 l0 l1 l2 l3 l4 M → ∀ {Q : Option Value → zM → Prop}, (∀ r M1, zRI (k23 l0 l1 l2 l3 l4 M) r M1 → Q r M1) → zWP 198 23 [some (.ref l0), some (.ref l1), some (.ref l2), some (.ref l3), some (.int l4), none, none] [] M Q) (l0 : Nat) (l1 : Nat) (l2 : Nat) (l3 : Nat) (l4 : Int32) (s0 : Int32) (s1 : Int32) (M : zM) (hp : p198_1111 n q23 l0 l1 l2 l3 l4 s0 s1 M) {Q : Option Value → zM → Prop} (hQ : ∀ r M1, zRI (b198_1111 n k23 l0 l1 l2 l3 l4 s0 s1 M) r M1 → Q r M1) : zWP 198 1111 [some (.ref l0), some (.ref l1), some (.ref l2), some (.ref l3), some (.int l4), none, none] [.int s1, .int s0] M Q := by
  unfold b198_1111 at hQ
  unfold p198_1111 at hp
  refine wp_ic_eq (t := 1243) rfl rfl (fun hc => ?_) (fun hc => ?_)
  · rw [if_pos hc] at hQ
    replace hp := hp.1 hc
    exact s198_1243 n k23 q23 h23 l0 l1 l2 l3 l4 M hp hQ
  · rw [if_neg hc] at hQ
    replace hp := hp.2 hc
    refine wp_go 1 (pc' := 1115) (L' := [some (.ref l0), some (.ref l1), some (.ref l2), some (.ref l3), some (.int l4), none, none]) (st' := [.int (0 : Int32)]) (M' := M) rfl ?_
    exact wp_ret (r := some (.int (0 : Int32))) rfl rfl (hQ _ _ ⟨rfl, rfl⟩)
def b198_1095 (n : Nat) (k23 : Nat → Nat → Nat → Nat → Int32 → zM → Int32 × zM) (l0 : Nat) (l1 : Nat) (l2 : Nat) (l3 : Nat) (l4 : Int32) (s0 : Int32) (M : zM) : Int32 × zM := b198_1111 n k23 l0 l1 l2 l3 l4 s0 (b176_0 n l2 (zI M l0 (l4 + (1 : Int32)).toNatClampNeg) (zI M l0 (l4 + (2 : Int32)).toNatClampNeg) M).1 (b176_0 n l2 (zI M l0 (l4 + (1 : Int32)).toNatClampNeg) (zI M l0 (l4 + (2 : Int32)).toNatClampNeg) M).2
def p198_1095 (n : Nat) (q23 : Nat → Nat → Nat → Nat → Int32 → zM → Prop) (l0 : Nat) (l1 : Nat) (l2 : Nat) (l3 : Nat) (l4 : Int32) (s0 : Int32) (M : zM) : Prop := (zOkI l0 (l4 + (1 : Int32)) M) ∧ ((zOkI l0 (l4 + (2 : Int32)) M) ∧ ((zHasC 198 120 l2 M 176 2) ∧ ((p176_0 n l2 (zI M l0 (l4 + (1 : Int32)).toNatClampNeg) (zI M l0 (l4 + (2 : Int32)).toNatClampNeg) M) ∧ (p198_1111 n q23 l0 l1 l2 l3 l4 s0 (b176_0 n l2 (zI M l0 (l4 + (1 : Int32)).toNatClampNeg) (zI M l0 (l4 + (2 : Int32)).toNatClampNeg) M).1 (b176_0 n l2 (zI M l0 (l4 + (1 : Int32)).toNatClampNeg) (zI M l0 (l4 + (2 : Int32)).toNatClampNeg) M).2))))
set_option maxRecDepth 100000 in
set_option maxHeartbeats 4000000 in
theorem s198_1095 (n : Nat) (k23 : Nat → Nat → Nat → Nat → Int32 → zM → Int32 × zM) (q23 : Nat → Nat → Nat → Nat → Int32 → zM → Prop) (h23 : ∀ (l0 : Nat) (l1 : Nat) (l2 : Nat) (l3 : Nat) (l4 : Int32) (M : zM), q23 l0 l1 l2 l3 l4 M → ∀ {Q : Option Value → zM → Prop}, (∀ r M1, zRI (k23 l0 l1 l2 l3 l4 M) r M1 → Q r M1) → zWP 198 23 [some (.ref l0), some (.ref l1), some (.ref l2), some (.ref l3), some (.int l4), none, none] [] M Q) (l0 : Nat) (l1 : Nat) (l2 : Nat) (l3 : Nat) (l4 : Int32) (s0 : Int32) (M : zM) (hp : p198_1095 n q23 l0 l1 l2 l3 l4 s0 M) {Q : Option Value → zM → Prop} (hQ : ∀ r M1, zRI (b198_1095 n k23 l0 l1 l2 l3 l4 s0 M) r M1 → Q r M1) : zWP 198 1095 [some (.ref l0), some (.ref l1), some (.ref l2), some (.ref l3), some (.int l4), none, none] [.int s0] M Q := by
  unfold b198_1095 at hQ
  unfold p198_1095 at hp
  refine wp_go 5 (pc' := 1101) (L' := [some (.ref l0), some (.ref l1), some (.ref l2), some (.ref l3), some (.int l4), none, none]) (st' := [.int (l4 + (1 : Int32)), .ref l0, .ref l2, .int s0]) (M' := M) rfl ?_
  obtain ⟨hc, hp⟩ := hp
  refine wq_iald rfl hc ?_
  refine wp_go 4 (pc' := 1107) (L' := [some (.ref l0), some (.ref l1), some (.ref l2), some (.ref l3), some (.int l4), none, none]) (st' := [.int (l4 + (2 : Int32)), .ref l0, .int (zI M l0 (l4 + (1 : Int32)).toNatClampNeg), .ref l2, .int s0]) (M' := M) rfl ?_
  obtain ⟨hc, hp⟩ := hp
  refine wq_iald rfl hc ?_
  obtain ⟨hv, hp⟩ := hp
  obtain ⟨hc, hp⟩ := hp
  refine wp_calli (v := (b176_0 n l2 (zI M l0 (l4 + (1 : Int32)).toNatClampNeg) (zI M l0 (l4 + (2 : Int32)).toNatClampNeg) M).1) (M1 := (b176_0 n l2 (zI M l0 (l4 + (1 : Int32)).toNatClampNeg) (zI M l0 (l4 + (2 : Int32)).toNatClampNeg) M).2) rfl rfl rfl (zInv_v (np := 2) rfl rfl hv rfl) (s176_0 n l2 (zI M l0 (l4 + (1 : Int32)).toNatClampNeg) (zI M l0 (l4 + (2 : Int32)).toNatClampNeg) M hc (fun r M1 h => h)) ?_
  exact s198_1111 n k23 q23 h23 l0 l1 l2 l3 l4 s0 (b176_0 n l2 (zI M l0 (l4 + (1 : Int32)).toNatClampNeg) (zI M l0 (l4 + (2 : Int32)).toNatClampNeg) M).1 (b176_0 n l2 (zI M l0 (l4 + (1 : Int32)).toNatClampNeg) (zI M l0 (l4 + (2 : Int32)).toNatClampNeg) M).2 hp hQ
def b198_1124 (n : Nat) (k23 : Nat → Nat → Nat → Nat → Int32 → zM → Int32 × zM) (l0 : Nat) (l1 : Nat) (l2 : Nat) (l3 : Nat) (l4 : Int32) (s0 : Int32) (s1 : Int32) (M : zM) : Int32 × zM := (if s0 = s1 then b198_1243 n k23 l0 l1 l2 l3 l4 M else ((0 : Int32), M))
def p198_1124 (n : Nat) (q23 : Nat → Nat → Nat → Nat → Int32 → zM → Prop) (l0 : Nat) (l1 : Nat) (l2 : Nat) (l3 : Nat) (l4 : Int32) (s0 : Int32) (s1 : Int32) (M : zM) : Prop := ((s0 = s1 → p198_1243 n q23 l0 l1 l2 l3 l4 M) ∧ (¬ s0 = s1 → True))
set_option maxRecDepth 100000 in
set_option maxHeartbeats 4000000 in
theorem s198_1124 (n : Nat) (k23 : Nat → Nat → Nat → Nat → Int32 → zM → Int32 × zM) (q23 : Nat → Nat → Nat → Nat → Int32 → zM → Prop) (h23 : ∀ (l0 : Nat) (l1 : Nat) (l2 : Nat) (l3 : Nat) (l4 : Int32) (M : zM), q23 l0 l1 l2 l3 l4 M → ∀ {Q : Option Value → zM → Prop}, (∀ r M1, zRI (k23 l0 l1 l2 l3 l4 M) r M1 → Q r M1) → zWP 198 23 [some (.ref l0), some (.ref l1), some (.ref l2), some (.ref l3), some (.int l4), none, none] [] M Q) (l0 : Nat) (l1 : Nat) (l2 : Nat) (l3 : Nat) (l4 : Int32) (s0 : Int32) (s1 : Int32) (M : zM) (hp : p198_1124 n q23 l0 l1 l2 l3 l4 s0 s1 M) {Q : Option Value → zM → Prop} (hQ : ∀ r M1, zRI (b198_1124 n k23 l0 l1 l2 l3 l4 s0 s1 M) r M1 → Q r M1) : zWP 198 1124 [some (.ref l0), some (.ref l1), some (.ref l2), some (.ref l3), some (.int l4), none, none] [.int s1, .int s0] M Q := by
  unfold b198_1124 at hQ
  unfold p198_1124 at hp
  refine wp_ic_eq (t := 1243) rfl rfl (fun hc => ?_) (fun hc => ?_)
  · rw [if_pos hc] at hQ
    replace hp := hp.1 hc
    exact s198_1243 n k23 q23 h23 l0 l1 l2 l3 l4 M hp hQ
  · rw [if_neg hc] at hQ
    replace hp := hp.2 hc
    refine wp_go 1 (pc' := 1128) (L' := [some (.ref l0), some (.ref l1), some (.ref l2), some (.ref l3), some (.int l4), none, none]) (st' := [.int (0 : Int32)]) (M' := M) rfl ?_
    exact wp_ret (r := some (.int (0 : Int32))) rfl rfl (hQ _ _ ⟨rfl, rfl⟩)
def b198_1120 (n : Nat) (k23 : Nat → Nat → Nat → Nat → Int32 → zM → Int32 × zM) (l0 : Nat) (l1 : Nat) (l2 : Nat) (l3 : Nat) (l4 : Int32) (s0 : Int32) (M : zM) : Int32 × zM := b198_1124 n k23 l0 l1 l2 l3 l4 s0 (b177_0 n l2 M).1 (b177_0 n l2 M).2
def p198_1120 (n : Nat) (q23 : Nat → Nat → Nat → Nat → Int32 → zM → Prop) (l0 : Nat) (l1 : Nat) (l2 : Nat) (l3 : Nat) (l4 : Int32) (s0 : Int32) (M : zM) : Prop := (zHasC 198 124 l2 M 177 0) ∧ ((p177_0 n l2 M) ∧ (p198_1124 n q23 l0 l1 l2 l3 l4 s0 (b177_0 n l2 M).1 (b177_0 n l2 M).2))
set_option maxRecDepth 100000 in
set_option maxHeartbeats 4000000 in
theorem s198_1120 (n : Nat) (k23 : Nat → Nat → Nat → Nat → Int32 → zM → Int32 × zM) (q23 : Nat → Nat → Nat → Nat → Int32 → zM → Prop) (h23 : ∀ (l0 : Nat) (l1 : Nat) (l2 : Nat) (l3 : Nat) (l4 : Int32) (M : zM), q23 l0 l1 l2 l3 l4 M → ∀ {Q : Option Value → zM → Prop}, (∀ r M1, zRI (k23 l0 l1 l2 l3 l4 M) r M1 → Q r M1) → zWP 198 23 [some (.ref l0), some (.ref l1), some (.ref l2), some (.ref l3), some (.int l4), none, none] [] M Q) (l0 : Nat) (l1 : Nat) (l2 : Nat) (l3 : Nat) (l4 : Int32) (s0 : Int32) (M : zM) (hp : p198_1120 n q23 l0 l1 l2 l3 l4 s0 M) {Q : Option Value → zM → Prop} (hQ : ∀ r M1, zRI (b198_1120 n k23 l0 l1 l2 l3 l4 s0 M) r M1 → Q r M1) : zWP 198 1120 [some (.ref l0), some (.ref l1), some (.ref l2), some (.ref l3), some (.int l4), none, none] [.int s0] M Q := by
  unfold b198_1120 at hQ
  unfold p198_1120 at hp
  refine wp_go 1 (pc' := 1121) (L' := [some (.ref l0), some (.ref l1), some (.ref l2), some (.ref l3), some (.int l4), none, none]) (st' := [.ref l2, .int s0]) (M' := M) rfl ?_
  obtain ⟨hv, hp⟩ := hp
  obtain ⟨hc, hp⟩ := hp
  refine wp_calli (v := (b177_0 n l2 M).1) (M1 := (b177_0 n l2 M).2) rfl rfl rfl (zInv_v (np := 0) rfl rfl hv rfl) (s177_0 n l2 M hc (fun r M1 h => h)) ?_
  exact s198_1124 n k23 q23 h23 l0 l1 l2 l3 l4 s0 (b177_0 n l2 M).1 (b177_0 n l2 M).2 hp hQ
def b198_1149 (n : Nat) (k23 : Nat → Nat → Nat → Nat → Int32 → zM → Int32 × zM) (l0 : Nat) (l1 : Nat) (l2 : Nat) (l3 : Nat) (l4 : Int32) (s0 : Int32) (s1 : Int32) (M : zM) : Int32 × zM := (if s0 = s1 then b198_1243 n k23 l0 l1 l2 l3 l4 M else ((0 : Int32), M))
def p198_1149 (n : Nat) (q23 : Nat → Nat → Nat → Nat → Int32 → zM → Prop) (l0 : Nat) (l1 : Nat) (l2 : Nat) (l3 : Nat) (l4 : Int32) (s0 : Int32) (s1 : Int32) (M : zM) : Prop := ((s0 = s1 → p198_1243 n q23 l0 l1 l2 l3 l4 M) ∧ (¬ s0 = s1 → True))
set_option maxRecDepth 100000 in
set_option maxHeartbeats 4000000 in
theorem s198_1149 (n : Nat) (k23 : Nat → Nat → Nat → Nat → Int32 → zM → Int32 × zM) (q23 : Nat → Nat → Nat → Nat → Int32 → zM → Prop) (h23 : ∀ (l0 : Nat) (l1 : Nat) (l2 : Nat) (l3 : Nat) (l4 : Int32) (M : zM), q23 l0 l1 l2 l3 l4 M → ∀ {Q : Option Value → zM → Prop}, (∀ r M1, zRI (k23 l0 l1 l2 l3 l4 M) r M1 → Q r M1) → zWP 198 23 [some (.ref l0), some (.ref l1), some (.ref l2), some (.ref l3), some (.int l4), none, none] [] M Q) (l0 : Nat) (l1 : Nat) (l2 : Nat) (l3 : Nat) (l4 : Int32) (s0 : Int32) (s1 : Int32) (M : zM) (hp : p198_1149 n q23 l0 l1 l2 l3 l4 s0 s1 M) {Q : Option Value → zM → Prop} (hQ : ∀ r M1, zRI (b198_1149 n k23 l0 l1 l2 l3 l4 s0 s1 M) r M1 → Q r M1) : zWP 198 1149 [some (.ref l0), some (.ref l1), some (.ref l2), some (.ref l3), some (.int l4), none, none] [.int s1, .int s0] M Q := by
  unfold b198_1149 at hQ
  unfold p198_1149 at hp
  refine wp_ic_eq (t := 1243) rfl rfl (fun hc => ?_) (fun hc => ?_)
  · rw [if_pos hc] at hQ
    replace hp := hp.1 hc
    exact s198_1243 n k23 q23 h23 l0 l1 l2 l3 l4 M hp hQ
  · rw [if_neg hc] at hQ
    replace hp := hp.2 hc
    refine wp_go 1 (pc' := 1153) (L' := [some (.ref l0), some (.ref l1), some (.ref l2), some (.ref l3), some (.int l4), none, none]) (st' := [.int (0 : Int32)]) (M' := M) rfl ?_
    exact wp_ret (r := some (.int (0 : Int32))) rfl rfl (hQ _ _ ⟨rfl, rfl⟩)
def b198_1139 (n : Nat) (k23 : Nat → Nat → Nat → Nat → Int32 → zM → Int32 × zM) (l0 : Nat) (l1 : Nat) (l2 : Nat) (l3 : Nat) (l4 : Int32) (s0 : Int32) (M : zM) : Int32 × zM := b198_1149 n k23 l0 l1 l2 l3 l4 s0 (b178_0 n l2 (zI M l0 (l4 + (1 : Int32)).toNatClampNeg) M).1 (b178_0 n l2 (zI M l0 (l4 + (1 : Int32)).toNatClampNeg) M).2
def p198_1139 (n : Nat) (q23 : Nat → Nat → Nat → Nat → Int32 → zM → Prop) (l0 : Nat) (l1 : Nat) (l2 : Nat) (l3 : Nat) (l4 : Int32) (s0 : Int32) (M : zM) : Prop := (zOkI l0 (l4 + (1 : Int32)) M) ∧ ((zHasC 198 128 l2 M 178 1) ∧ ((p178_0 n l2 (zI M l0 (l4 + (1 : Int32)).toNatClampNeg) M) ∧ (p198_1149 n q23 l0 l1 l2 l3 l4 s0 (b178_0 n l2 (zI M l0 (l4 + (1 : Int32)).toNatClampNeg) M).1 (b178_0 n l2 (zI M l0 (l4 + (1 : Int32)).toNatClampNeg) M).2)))
set_option maxRecDepth 100000 in
set_option maxHeartbeats 4000000 in
theorem s198_1139 (n : Nat) (k23 : Nat → Nat → Nat → Nat → Int32 → zM → Int32 × zM) (q23 : Nat → Nat → Nat → Nat → Int32 → zM → Prop) (h23 : ∀ (l0 : Nat) (l1 : Nat) (l2 : Nat) (l3 : Nat) (l4 : Int32) (M : zM), q23 l0 l1 l2 l3 l4 M → ∀ {Q : Option Value → zM → Prop}, (∀ r M1, zRI (k23 l0 l1 l2 l3 l4 M) r M1 → Q r M1) → zWP 198 23 [some (.ref l0), some (.ref l1), some (.ref l2), some (.ref l3), some (.int l4), none, none] [] M Q) (l0 : Nat) (l1 : Nat) (l2 : Nat) (l3 : Nat) (l4 : Int32) (s0 : Int32) (M : zM) (hp : p198_1139 n q23 l0 l1 l2 l3 l4 s0 M) {Q : Option Value → zM → Prop} (hQ : ∀ r M1, zRI (b198_1139 n k23 l0 l1 l2 l3 l4 s0 M) r M1 → Q r M1) : zWP 198 1139 [some (.ref l0), some (.ref l1), some (.ref l2), some (.ref l3), some (.int l4), none, none] [.int s0] M Q := by
  unfold b198_1139 at hQ
  unfold p198_1139 at hp
  refine wp_go 5 (pc' := 1145) (L' := [some (.ref l0), some (.ref l1), some (.ref l2), some (.ref l3), some (.int l4), none, none]) (st' := [.int (l4 + (1 : Int32)), .ref l0, .ref l2, .int s0]) (M' := M) rfl ?_
  obtain ⟨hc, hp⟩ := hp
  refine wq_iald rfl hc ?_
  obtain ⟨hv, hp⟩ := hp
  obtain ⟨hc, hp⟩ := hp
  refine wp_calli (v := (b178_0 n l2 (zI M l0 (l4 + (1 : Int32)).toNatClampNeg) M).1) (M1 := (b178_0 n l2 (zI M l0 (l4 + (1 : Int32)).toNatClampNeg) M).2) rfl rfl rfl (zInv_v (np := 1) rfl rfl hv rfl) (s178_0 n l2 (zI M l0 (l4 + (1 : Int32)).toNatClampNeg) M hc (fun r M1 h => h)) ?_
  exact s198_1149 n k23 q23 h23 l0 l1 l2 l3 l4 s0 (b178_0 n l2 (zI M l0 (l4 + (1 : Int32)).toNatClampNeg) M).1 (b178_0 n l2 (zI M l0 (l4 + (1 : Int32)).toNatClampNeg) M).2 hp hQ
def b198_1162 (n : Nat) (k23 : Nat → Nat → Nat → Nat → Int32 → zM → Int32 × zM) (l0 : Nat) (l1 : Nat) (l2 : Nat) (l3 : Nat) (l4 : Int32) (s0 : Int32) (s1 : Int32) (M : zM) : Int32 × zM := (if s0 = s1 then b198_1243 n k23 l0 l1 l2 l3 l4 M else ((0 : Int32), M))
def p198_1162 (n : Nat) (q23 : Nat → Nat → Nat → Nat → Int32 → zM → Prop) (l0 : Nat) (l1 : Nat) (l2 : Nat) (l3 : Nat) (l4 : Int32) (s0 : Int32) (s1 : Int32) (M : zM) : Prop := ((s0 = s1 → p198_1243 n q23 l0 l1 l2 l3 l4 M) ∧ (¬ s0 = s1 → True))
set_option maxRecDepth 100000 in
set_option maxHeartbeats 4000000 in
theorem s198_1162 (n : Nat) (k23 : Nat → Nat → Nat → Nat → Int32 → zM → Int32 × zM) (q23 : Nat → Nat → Nat → Nat → Int32 → zM → Prop) (h23 : ∀ (l0 : Nat) (l1 : Nat) (l2 : Nat) (l3 : Nat) (l4 : Int32) (M : zM), q23 l0 l1 l2 l3 l4 M → ∀ {Q : Option Value → zM → Prop}, (∀ r M1, zRI (k23 l0 l1 l2 l3 l4 M) r M1 → Q r M1) → zWP 198 23 [some (.ref l0), some (.ref l1), some (.ref l2), some (.ref l3), some (.int l4), none, none] [] M Q) (l0 : Nat) (l1 : Nat) (l2 : Nat) (l3 : Nat) (l4 : Int32) (s0 : Int32) (s1 : Int32) (M : zM) (hp : p198_1162 n q23 l0 l1 l2 l3 l4 s0 s1 M) {Q : Option Value → zM → Prop} (hQ : ∀ r M1, zRI (b198_1162 n k23 l0 l1 l2 l3 l4 s0 s1 M) r M1 → Q r M1) : zWP 198 1162 [some (.ref l0), some (.ref l1), some (.ref l2), some (.ref l3), some (.int l4), none, none] [.int s1, .int s0] M Q := by
  unfold b198_1162 at hQ
  unfold p198_1162 at hp
  refine wp_ic_eq (t := 1243) rfl rfl (fun hc => ?_) (fun hc => ?_)
  · rw [if_pos hc] at hQ
    replace hp := hp.1 hc
    exact s198_1243 n k23 q23 h23 l0 l1 l2 l3 l4 M hp hQ
  · rw [if_neg hc] at hQ
    replace hp := hp.2 hc
    refine wp_go 1 (pc' := 1166) (L' := [some (.ref l0), some (.ref l1), some (.ref l2), some (.ref l3), some (.int l4), none, none]) (st' := [.int (0 : Int32)]) (M' := M) rfl ?_
    exact wp_ret (r := some (.int (0 : Int32))) rfl rfl (hQ _ _ ⟨rfl, rfl⟩)
def b198_1158 (n : Nat) (k23 : Nat → Nat → Nat → Nat → Int32 → zM → Int32 × zM) (l0 : Nat) (l1 : Nat) (l2 : Nat) (l3 : Nat) (l4 : Int32) (s0 : Int32) (M : zM) : Int32 × zM := b198_1162 n k23 l0 l1 l2 l3 l4 s0 (b183_0 n l2 M).1 (b183_0 n l2 M).2
def p198_1158 (n : Nat) (q23 : Nat → Nat → Nat → Nat → Int32 → zM → Prop) (l0 : Nat) (l1 : Nat) (l2 : Nat) (l3 : Nat) (l4 : Int32) (s0 : Int32) (M : zM) : Prop := (zHasC 198 132 l2 M 183 0) ∧ ((p183_0 n l2 M) ∧ (p198_1162 n q23 l0 l1 l2 l3 l4 s0 (b183_0 n l2 M).1 (b183_0 n l2 M).2))
set_option maxRecDepth 100000 in
set_option maxHeartbeats 4000000 in
theorem s198_1158 (n : Nat) (k23 : Nat → Nat → Nat → Nat → Int32 → zM → Int32 × zM) (q23 : Nat → Nat → Nat → Nat → Int32 → zM → Prop) (h23 : ∀ (l0 : Nat) (l1 : Nat) (l2 : Nat) (l3 : Nat) (l4 : Int32) (M : zM), q23 l0 l1 l2 l3 l4 M → ∀ {Q : Option Value → zM → Prop}, (∀ r M1, zRI (k23 l0 l1 l2 l3 l4 M) r M1 → Q r M1) → zWP 198 23 [some (.ref l0), some (.ref l1), some (.ref l2), some (.ref l3), some (.int l4), none, none] [] M Q) (l0 : Nat) (l1 : Nat) (l2 : Nat) (l3 : Nat) (l4 : Int32) (s0 : Int32) (M : zM) (hp : p198_1158 n q23 l0 l1 l2 l3 l4 s0 M) {Q : Option Value → zM → Prop} (hQ : ∀ r M1, zRI (b198_1158 n k23 l0 l1 l2 l3 l4 s0 M) r M1 → Q r M1) : zWP 198 1158 [some (.ref l0), some (.ref l1), some (.ref l2), some (.ref l3), some (.int l4), none, none] [.int s0] M Q := by
  unfold b198_1158 at hQ
  unfold p198_1158 at hp
  refine wp_go 1 (pc' := 1159) (L' := [some (.ref l0), some (.ref l1), some (.ref l2), some (.ref l3), some (.int l4), none, none]) (st' := [.ref l2, .int s0]) (M' := M) rfl ?_
  obtain ⟨hv, hp⟩ := hp
  obtain ⟨hc, hp⟩ := hp
  refine wp_calli (v := (b183_0 n l2 M).1) (M1 := (b183_0 n l2 M).2) rfl rfl rfl (zInv_v (np := 0) rfl rfl hv rfl) (s183_0 n l2 M hc (fun r M1 h => h)) ?_
  exact s198_1162 n k23 q23 h23 l0 l1 l2 l3 l4 s0 (b183_0 n l2 M).1 (b183_0 n l2 M).2 hp hQ
def b198_1175 (n : Nat) (k23 : Nat → Nat → Nat → Nat → Int32 → zM → Int32 × zM) (l0 : Nat) (l1 : Nat) (l2 : Nat) (l3 : Nat) (l4 : Int32) (s0 : Int32) (s1 : Int32) (M : zM) : Int32 × zM := (if s0 = s1 then b198_1243 n k23 l0 l1 l2 l3 l4 M else ((0 : Int32), M))
def p198_1175 (n : Nat) (q23 : Nat → Nat → Nat → Nat → Int32 → zM → Prop) (l0 : Nat) (l1 : Nat) (l2 : Nat) (l3 : Nat) (l4 : Int32) (s0 : Int32) (s1 : Int32) (M : zM) : Prop := ((s0 = s1 → p198_1243 n q23 l0 l1 l2 l3 l4 M) ∧ (¬ s0 = s1 → True))
set_option maxRecDepth 100000 in
set_option maxHeartbeats 4000000 in
theorem s198_1175 (n : Nat) (k23 : Nat → Nat → Nat → Nat → Int32 → zM → Int32 × zM) (q23 : Nat → Nat → Nat → Nat → Int32 → zM → Prop) (h23 : ∀ (l0 : Nat) (l1 : Nat) (l2 : Nat) (l3 : Nat) (l4 : Int32) (M : zM), q23 l0 l1 l2 l3 l4 M → ∀ {Q : Option Value → zM → Prop}, (∀ r M1, zRI (k23 l0 l1 l2 l3 l4 M) r M1 → Q r M1) → zWP 198 23 [some (.ref l0), some (.ref l1), some (.ref l2), some (.ref l3), some (.int l4), none, none] [] M Q) (l0 : Nat) (l1 : Nat) (l2 : Nat) (l3 : Nat) (l4 : Int32) (s0 : Int32) (s1 : Int32) (M : zM) (hp : p198_1175 n q23 l0 l1 l2 l3 l4 s0 s1 M) {Q : Option Value → zM → Prop} (hQ : ∀ r M1, zRI (b198_1175 n k23 l0 l1 l2 l3 l4 s0 s1 M) r M1 → Q r M1) : zWP 198 1175 [some (.ref l0), some (.ref l1), some (.ref l2), some (.ref l3), some (.int l4), none, none] [.int s1, .int s0] M Q := by
  unfold b198_1175 at hQ
  unfold p198_1175 at hp
  refine wp_ic_eq (t := 1243) rfl rfl (fun hc => ?_) (fun hc => ?_)
  · rw [if_pos hc] at hQ
    replace hp := hp.1 hc
    exact s198_1243 n k23 q23 h23 l0 l1 l2 l3 l4 M hp hQ
  · rw [if_neg hc] at hQ
    replace hp := hp.2 hc
    refine wp_go 1 (pc' := 1179) (L' := [some (.ref l0), some (.ref l1), some (.ref l2), some (.ref l3), some (.int l4), none, none]) (st' := [.int (0 : Int32)]) (M' := M) rfl ?_
    exact wp_ret (r := some (.int (0 : Int32))) rfl rfl (hQ _ _ ⟨rfl, rfl⟩)
def b198_1171 (n : Nat) (k23 : Nat → Nat → Nat → Nat → Int32 → zM → Int32 × zM) (l0 : Nat) (l1 : Nat) (l2 : Nat) (l3 : Nat) (l4 : Int32) (s0 : Int32) (M : zM) : Int32 × zM := b198_1175 n k23 l0 l1 l2 l3 l4 s0 (b184_0 n l2 M).1 (b184_0 n l2 M).2
def p198_1171 (n : Nat) (q23 : Nat → Nat → Nat → Nat → Int32 → zM → Prop) (l0 : Nat) (l1 : Nat) (l2 : Nat) (l3 : Nat) (l4 : Int32) (s0 : Int32) (M : zM) : Prop := (zHasC 198 136 l2 M 184 0) ∧ ((p184_0 n l2 M) ∧ (p198_1175 n q23 l0 l1 l2 l3 l4 s0 (b184_0 n l2 M).1 (b184_0 n l2 M).2))
set_option maxRecDepth 100000 in
set_option maxHeartbeats 4000000 in
theorem s198_1171 (n : Nat) (k23 : Nat → Nat → Nat → Nat → Int32 → zM → Int32 × zM) (q23 : Nat → Nat → Nat → Nat → Int32 → zM → Prop) (h23 : ∀ (l0 : Nat) (l1 : Nat) (l2 : Nat) (l3 : Nat) (l4 : Int32) (M : zM), q23 l0 l1 l2 l3 l4 M → ∀ {Q : Option Value → zM → Prop}, (∀ r M1, zRI (k23 l0 l1 l2 l3 l4 M) r M1 → Q r M1) → zWP 198 23 [some (.ref l0), some (.ref l1), some (.ref l2), some (.ref l3), some (.int l4), none, none] [] M Q) (l0 : Nat) (l1 : Nat) (l2 : Nat) (l3 : Nat) (l4 : Int32) (s0 : Int32) (M : zM) (hp : p198_1171 n q23 l0 l1 l2 l3 l4 s0 M) {Q : Option Value → zM → Prop} (hQ : ∀ r M1, zRI (b198_1171 n k23 l0 l1 l2 l3 l4 s0 M) r M1 → Q r M1) : zWP 198 1171 [some (.ref l0), some (.ref l1), some (.ref l2), some (.ref l3), some (.int l4), none, none] [.int s0] M Q := by
  unfold b198_1171 at hQ
  unfold p198_1171 at hp
  refine wp_go 1 (pc' := 1172) (L' := [some (.ref l0), some (.ref l1), some (.ref l2), some (.ref l3), some (.int l4), none, none]) (st' := [.ref l2, .int s0]) (M' := M) rfl ?_
  obtain ⟨hv, hp⟩ := hp
  obtain ⟨hc, hp⟩ := hp
  refine wp_calli (v := (b184_0 n l2 M).1) (M1 := (b184_0 n l2 M).2) rfl rfl rfl (zInv_v (np := 0) rfl rfl hv rfl) (s184_0 n l2 M hc (fun r M1 h => h)) ?_
  exact s198_1175 n k23 q23 h23 l0 l1 l2 l3 l4 s0 (b184_0 n l2 M).1 (b184_0 n l2 M).2 hp hQ
def b198_1212 (n : Nat) (k23 : Nat → Nat → Nat → Nat → Int32 → zM → Int32 × zM) (l0 : Nat) (l1 : Nat) (l2 : Nat) (l3 : Nat) (l4 : Int32) (s0 : Int64) (s1 : Int64) (M : zM) : Int32 × zM := (if (lg_cmp s0 s1) = 0 then b198_1243 n k23 l0 l1 l2 l3 l4 M else ((0 : Int32), M))
def p198_1212 (n : Nat) (q23 : Nat → Nat → Nat → Nat → Int32 → zM → Prop) (l0 : Nat) (l1 : Nat) (l2 : Nat) (l3 : Nat) (l4 : Int32) (s0 : Int64) (s1 : Int64) (M : zM) : Prop := (((lg_cmp s0 s1) = 0 → p198_1243 n q23 l0 l1 l2 l3 l4 M) ∧ (¬ (lg_cmp s0 s1) = 0 → True))
set_option maxRecDepth 100000 in
set_option maxHeartbeats 4000000 in
theorem s198_1212 (n : Nat) (k23 : Nat → Nat → Nat → Nat → Int32 → zM → Int32 × zM) (q23 : Nat → Nat → Nat → Nat → Int32 → zM → Prop) (h23 : ∀ (l0 : Nat) (l1 : Nat) (l2 : Nat) (l3 : Nat) (l4 : Int32) (M : zM), q23 l0 l1 l2 l3 l4 M → ∀ {Q : Option Value → zM → Prop}, (∀ r M1, zRI (k23 l0 l1 l2 l3 l4 M) r M1 → Q r M1) → zWP 198 23 [some (.ref l0), some (.ref l1), some (.ref l2), some (.ref l3), some (.int l4), none, none] [] M Q) (l0 : Nat) (l1 : Nat) (l2 : Nat) (l3 : Nat) (l4 : Int32) (s0 : Int64) (s1 : Int64) (M : zM) (hp : p198_1212 n q23 l0 l1 l2 l3 l4 s0 s1 M) {Q : Option Value → zM → Prop} (hQ : ∀ r M1, zRI (b198_1212 n k23 l0 l1 l2 l3 l4 s0 s1 M) r M1 → Q r M1) : zWP 198 1212 [some (.ref l0), some (.ref l1), some (.ref l2), some (.ref l3), some (.int l4), none, none] [.long s1, .long s0] M Q := by
  unfold b198_1212 at hQ
  unfold p198_1212 at hp
  refine wp_go 1 (pc' := 1213) (L' := [some (.ref l0), some (.ref l1), some (.ref l2), some (.ref l3), some (.int l4), none, none]) (st' := [.int (lg_cmp s0 s1)]) (M' := M) rfl ?_
  refine wp_if_eq (t := 1243) rfl rfl (fun hc => ?_) (fun hc => ?_)
  · rw [if_pos hc] at hQ
    replace hp := hp.1 hc
    exact s198_1243 n k23 q23 h23 l0 l1 l2 l3 l4 M hp hQ
  · rw [if_neg hc] at hQ
    replace hp := hp.2 hc
    refine wp_go 1 (pc' := 1217) (L' := [some (.ref l0), some (.ref l1), some (.ref l2), some (.ref l3), some (.int l4), none, none]) (st' := [.int (0 : Int32)]) (M' := M) rfl ?_
    exact wp_ret (r := some (.int (0 : Int32))) rfl rfl (hQ _ _ ⟨rfl, rfl⟩)
def b198_1196 (n : Nat) (k23 : Nat → Nat → Nat → Nat → Int32 → zM → Int32 × zM) (l0 : Nat) (l1 : Nat) (l2 : Nat) (l3 : Nat) (l4 : Int32) (s0 : Int64) (M : zM) : Int32 × zM := b198_1212 n k23 l0 l1 l2 l3 l4 s0 (b185_0 n l2 (zI M l0 (l4 + (1 : Int32)).toNatClampNeg) (zI M l0 (l4 + (2 : Int32)).toNatClampNeg) M).1 (b185_0 n l2 (zI M l0 (l4 + (1 : Int32)).toNatClampNeg) (zI M l0 (l4 + (2 : Int32)).toNatClampNeg) M).2
def p198_1196 (n : Nat) (q23 : Nat → Nat → Nat → Nat → Int32 → zM → Prop) (l0 : Nat) (l1 : Nat) (l2 : Nat) (l3 : Nat) (l4 : Int32) (s0 : Int64) (M : zM) : Prop := (zOkI l0 (l4 + (1 : Int32)) M) ∧ ((zOkI l0 (l4 + (2 : Int32)) M) ∧ ((zHasC 198 140 l2 M 185 2) ∧ ((p185_0 n l2 (zI M l0 (l4 + (1 : Int32)).toNatClampNeg) (zI M l0 (l4 + (2 : Int32)).toNatClampNeg) M) ∧ (p198_1212 n q23 l0 l1 l2 l3 l4 s0 (b185_0 n l2 (zI M l0 (l4 + (1 : Int32)).toNatClampNeg) (zI M l0 (l4 + (2 : Int32)).toNatClampNeg) M).1 (b185_0 n l2 (zI M l0 (l4 + (1 : Int32)).toNatClampNeg) (zI M l0 (l4 + (2 : Int32)).toNatClampNeg) M).2))))
set_option maxRecDepth 100000 in
set_option maxHeartbeats 4000000 in
theorem s198_1196 (n : Nat) (k23 : Nat → Nat → Nat → Nat → Int32 → zM → Int32 × zM) (q23 : Nat → Nat → Nat → Nat → Int32 → zM → Prop) (h23 : ∀ (l0 : Nat) (l1 : Nat) (l2 : Nat) (l3 : Nat) (l4 : Int32) (M : zM), q23 l0 l1 l2 l3 l4 M → ∀ {Q : Option Value → zM → Prop}, (∀ r M1, zRI (k23 l0 l1 l2 l3 l4 M) r M1 → Q r M1) → zWP 198 23 [some (.ref l0), some (.ref l1), some (.ref l2), some (.ref l3), some (.int l4), none, none] [] M Q) (l0 : Nat) (l1 : Nat) (l2 : Nat) (l3 : Nat) (l4 : Int32) (s0 : Int64) (M : zM) (hp : p198_1196 n q23 l0 l1 l2 l3 l4 s0 M) {Q : Option Value → zM → Prop} (hQ : ∀ r M1, zRI (b198_1196 n k23 l0 l1 l2 l3 l4 s0 M) r M1 → Q r M1) : zWP 198 1196 [some (.ref l0), some (.ref l1), some (.ref l2), some (.ref l3), some (.int l4), none, none] [.long s0] M Q := by
  unfold b198_1196 at hQ
  unfold p198_1196 at hp
  refine wp_go 5 (pc' := 1202) (L' := [some (.ref l0), some (.ref l1), some (.ref l2), some (.ref l3), some (.int l4), none, none]) (st' := [.int (l4 + (1 : Int32)), .ref l0, .ref l2, .long s0]) (M' := M) rfl ?_
  obtain ⟨hc, hp⟩ := hp
  refine wq_iald rfl hc ?_
  refine wp_go 4 (pc' := 1208) (L' := [some (.ref l0), some (.ref l1), some (.ref l2), some (.ref l3), some (.int l4), none, none]) (st' := [.int (l4 + (2 : Int32)), .ref l0, .int (zI M l0 (l4 + (1 : Int32)).toNatClampNeg), .ref l2, .long s0]) (M' := M) rfl ?_
  obtain ⟨hc, hp⟩ := hp
  refine wq_iald rfl hc ?_
  obtain ⟨hv, hp⟩ := hp
  obtain ⟨hc, hp⟩ := hp
  refine wp_calll (v := (b185_0 n l2 (zI M l0 (l4 + (1 : Int32)).toNatClampNeg) (zI M l0 (l4 + (2 : Int32)).toNatClampNeg) M).1) (M1 := (b185_0 n l2 (zI M l0 (l4 + (1 : Int32)).toNatClampNeg) (zI M l0 (l4 + (2 : Int32)).toNatClampNeg) M).2) rfl rfl rfl (zInv_v (np := 2) rfl rfl hv rfl) (s185_0 n l2 (zI M l0 (l4 + (1 : Int32)).toNatClampNeg) (zI M l0 (l4 + (2 : Int32)).toNatClampNeg) M hc (fun r M1 h => h)) ?_
  exact s198_1212 n k23 q23 h23 l0 l1 l2 l3 l4 s0 (b185_0 n l2 (zI M l0 (l4 + (1 : Int32)).toNatClampNeg) (zI M l0 (l4 + (2 : Int32)).toNatClampNeg) M).1 (b185_0 n l2 (zI M l0 (l4 + (1 : Int32)).toNatClampNeg) (zI M l0 (l4 + (2 : Int32)).toNatClampNeg) M).2 hp hQ
def b198_1238 (n : Nat) (k23 : Nat → Nat → Nat → Nat → Int32 → zM → Int32 × zM) (l0 : Nat) (l1 : Nat) (l2 : Nat) (l3 : Nat) (l4 : Int32) (s0 : Int32) (s1 : Int32) (M : zM) : Int32 × zM := (if s0 = s1 then b198_1243 n k23 l0 l1 l2 l3 l4 M else ((0 : Int32), M))
def p198_1238 (n : Nat) (q23 : Nat → Nat → Nat → Nat → Int32 → zM → Prop) (l0 : Nat) (l1 : Nat) (l2 : Nat) (l3 : Nat) (l4 : Int32) (s0 : Int32) (s1 : Int32) (M : zM) : Prop := ((s0 = s1 → p198_1243 n q23 l0 l1 l2 l3 l4 M) ∧ (¬ s0 = s1 → True))
set_option maxRecDepth 100000 in
set_option maxHeartbeats 4000000 in
theorem s198_1238 (n : Nat) (k23 : Nat → Nat → Nat → Nat → Int32 → zM → Int32 × zM) (q23 : Nat → Nat → Nat → Nat → Int32 → zM → Prop) (h23 : ∀ (l0 : Nat) (l1 : Nat) (l2 : Nat) (l3 : Nat) (l4 : Int32) (M : zM), q23 l0 l1 l2 l3 l4 M → ∀ {Q : Option Value → zM → Prop}, (∀ r M1, zRI (k23 l0 l1 l2 l3 l4 M) r M1 → Q r M1) → zWP 198 23 [some (.ref l0), some (.ref l1), some (.ref l2), some (.ref l3), some (.int l4), none, none] [] M Q) (l0 : Nat) (l1 : Nat) (l2 : Nat) (l3 : Nat) (l4 : Int32) (s0 : Int32) (s1 : Int32) (M : zM) (hp : p198_1238 n q23 l0 l1 l2 l3 l4 s0 s1 M) {Q : Option Value → zM → Prop} (hQ : ∀ r M1, zRI (b198_1238 n k23 l0 l1 l2 l3 l4 s0 s1 M) r M1 → Q r M1) : zWP 198 1238 [some (.ref l0), some (.ref l1), some (.ref l2), some (.ref l3), some (.int l4), none, none] [.int s1, .int s0] M Q := by
  unfold b198_1238 at hQ
  unfold p198_1238 at hp
  refine wp_ic_eq (t := 1243) rfl rfl (fun hc => ?_) (fun hc => ?_)
  · rw [if_pos hc] at hQ
    replace hp := hp.1 hc
    exact s198_1243 n k23 q23 h23 l0 l1 l2 l3 l4 M hp hQ
  · rw [if_neg hc] at hQ
    replace hp := hp.2 hc
    refine wp_go 1 (pc' := 1242) (L' := [some (.ref l0), some (.ref l1), some (.ref l2), some (.ref l3), some (.int l4), none, none]) (st' := [.int (0 : Int32)]) (M' := M) rfl ?_
    exact wp_ret (r := some (.int (0 : Int32))) rfl rfl (hQ _ _ ⟨rfl, rfl⟩)
def b198_1228 (n : Nat) (k23 : Nat → Nat → Nat → Nat → Int32 → zM → Int32 × zM) (l0 : Nat) (l1 : Nat) (l2 : Nat) (l3 : Nat) (l4 : Int32) (s0 : Int32) (M : zM) : Int32 × zM := b198_1238 n k23 l0 l1 l2 l3 l4 s0 (b186_0 n l2 (zI M l0 (l4 + (1 : Int32)).toNatClampNeg) M).1 (b186_0 n l2 (zI M l0 (l4 + (1 : Int32)).toNatClampNeg) M).2
def p198_1228 (n : Nat) (q23 : Nat → Nat → Nat → Nat → Int32 → zM → Prop) (l0 : Nat) (l1 : Nat) (l2 : Nat) (l3 : Nat) (l4 : Int32) (s0 : Int32) (M : zM) : Prop := (zOkI l0 (l4 + (1 : Int32)) M) ∧ ((zHasC 198 144 l2 M 186 1) ∧ ((p186_0 n l2 (zI M l0 (l4 + (1 : Int32)).toNatClampNeg) M) ∧ (p198_1238 n q23 l0 l1 l2 l3 l4 s0 (b186_0 n l2 (zI M l0 (l4 + (1 : Int32)).toNatClampNeg) M).1 (b186_0 n l2 (zI M l0 (l4 + (1 : Int32)).toNatClampNeg) M).2)))
set_option maxRecDepth 100000 in
set_option maxHeartbeats 4000000 in
theorem s198_1228 (n : Nat) (k23 : Nat → Nat → Nat → Nat → Int32 → zM → Int32 × zM) (q23 : Nat → Nat → Nat → Nat → Int32 → zM → Prop) (h23 : ∀ (l0 : Nat) (l1 : Nat) (l2 : Nat) (l3 : Nat) (l4 : Int32) (M : zM), q23 l0 l1 l2 l3 l4 M → ∀ {Q : Option Value → zM → Prop}, (∀ r M1, zRI (k23 l0 l1 l2 l3 l4 M) r M1 → Q r M1) → zWP 198 23 [some (.ref l0), some (.ref l1), some (.ref l2), some (.ref l3), some (.int l4), none, none] [] M Q) (l0 : Nat) (l1 : Nat) (l2 : Nat) (l3 : Nat) (l4 : Int32) (s0 : Int32) (M : zM) (hp : p198_1228 n q23 l0 l1 l2 l3 l4 s0 M) {Q : Option Value → zM → Prop} (hQ : ∀ r M1, zRI (b198_1228 n k23 l0 l1 l2 l3 l4 s0 M) r M1 → Q r M1) : zWP 198 1228 [some (.ref l0), some (.ref l1), some (.ref l2), some (.ref l3), some (.int l4), none, none] [.int s0] M Q := by
  unfold b198_1228 at hQ
  unfold p198_1228 at hp
  refine wp_go 5 (pc' := 1234) (L' := [some (.ref l0), some (.ref l1), some (.ref l2), some (.ref l3), some (.int l4), none, none]) (st' := [.int (l4 + (1 : Int32)), .ref l0, .ref l2, .int s0]) (M' := M) rfl ?_
  obtain ⟨hc, hp⟩ := hp
  refine wq_iald rfl hc ?_
  obtain ⟨hv, hp⟩ := hp
  obtain ⟨hc, hp⟩ := hp
  refine wp_calli (v := (b186_0 n l2 (zI M l0 (l4 + (1 : Int32)).toNatClampNeg) M).1) (M1 := (b186_0 n l2 (zI M l0 (l4 + (1 : Int32)).toNatClampNeg) M).2) rfl rfl rfl (zInv_v (np := 1) rfl rfl hv rfl) (s186_0 n l2 (zI M l0 (l4 + (1 : Int32)).toNatClampNeg) M hc (fun r M1 h => h)) ?_
  exact s198_1238 n k23 q23 h23 l0 l1 l2 l3 l4 s0 (b186_0 n l2 (zI M l0 (l4 + (1 : Int32)).toNatClampNeg) M).1 (b186_0 n l2 (zI M l0 (l4 + (1 : Int32)).toNatClampNeg) M).2 hp hQ
def c198_23 (n : Nat) (k23 : Nat → Nat → Nat → Nat → Int32 → zM → Int32 × zM) (l0 : Nat) (l1 : Nat) (l2 : Nat) (l3 : Nat) (l4 : Int32) (M : zM) : Int32 × zM := (if ((Int32.ofNat (zS M l0).2) - (6 : Int32)) < l4 then ((1 : Int32), M) else (if ((zI M l0 l4.toNatClampNeg) &&& (31 : Int32)) = 0 then b198_174 n k23 l0 l1 l2 l3 l4 (b62_0 n l1 (zI M l0 (l4 + (1 : Int32)).toNatClampNeg) M).1 (b62_0 n l1 (zI M l0 (l4 + (1 : Int32)).toNatClampNeg) M).2 else if ((zI M l0 l4.toNatClampNeg) &&& (31 : Int32)) = 1 then b198_211 n k23 l0 l1 l2 l3 l4 (b63_0 n l1 (zI M l0 (l4 + (1 : Int32)).toNatClampNeg) (zI M l0 (l4 + (2 : Int32)).toNatClampNeg) (zI M l0 (l4 + (3 : Int32)).toNatClampNeg) M).1 (b63_0 n l1 (zI M l0 (l4 + (1 : Int32)).toNatClampNeg) (zI M l0 (l4 + (2 : Int32)).toNatClampNeg) (zI M l0 (l4 + (3 : Int32)).toNatClampNeg) M).2 else if ((zI M l0 l4.toNatClampNeg) &&& (31 : Int32)) = 2 then b198_248 n k23 l0 l1 l2 l3 l4 (b64_0 n l1 (zI M l0 (l4 + (1 : Int32)).toNatClampNeg) M).1 (b64_0 n l1 (zI M l0 (l4 + (1 : Int32)).toNatClampNeg) M).2 else if ((zI M l0 l4.toNatClampNeg) &&& (31 : Int32)) = 3 then (if (zI M l0 (l4 + (3 : Int32)).toNatClampNeg) = 0 then b198_290 n k23 l0 l1 l2 l3 l4 l1 (zI M l0 (l4 + (1 : Int32)).toNatClampNeg) (zI M l0 (l4 + (2 : Int32)).toNatClampNeg) (0 : Int32) M else b198_290 n k23 l0 l1 l2 l3 l4 l1 (zI M l0 (l4 + (1 : Int32)).toNatClampNeg) (zI M l0 (l4 + (2 : Int32)).toNatClampNeg) (1 : Int32) M) else if ((zI M l0 l4.toNatClampNeg) &&& (31 : Int32)) = 4 then b198_350 n k23 l0 l1 l2 l3 l4 (b66_0 n l1 (zI M l0 (l4 + (1 : Int32)).toNatClampNeg) (zI M l0 (l4 + (2 : Int32)).toNatClampNeg) (zI M l0 (l4 + (3 : Int32)).toNatClampNeg) M).1 (b66_0 n l1 (zI M l0 (l4 + (1 : Int32)).toNatClampNeg) (zI M l0 (l4 + (2 : Int32)).toNatClampNeg) (zI M l0 (l4 + (3 : Int32)).toNatClampNeg) M).2 else if ((zI M l0 l4.toNatClampNeg) &&& (31 : Int32)) = 5 then b198_393 n k23 l0 l1 l2 l3 l4 (b67_0 n l1 (zI M l0 (l4 + (1 : Int32)).toNatClampNeg) (zI M l0 (l4 + (2 : Int32)).toNatClampNeg) M).1 (b67_0 n l1 (zI M l0 (l4 + (1 : Int32)).toNatClampNeg) (zI M l0 (l4 + (2 : Int32)).toNatClampNeg) M).2 else if ((zI M l0 l4.toNatClampNeg) &&& (31 : Int32)) = 6 then b198_430 n k23 l0 l1 l2 l3 l4 (b68_0 n l1 (zI M l0 (l4 + (1 : Int32)).toNatClampNeg) (zI M l0 (l4 + (2 : Int32)).toNatClampNeg) M).1 (b68_0 n l1 (zI M l0 (l4 + (1 : Int32)).toNatClampNeg) (zI M l0 (l4 + (2 : Int32)).toNatClampNeg) M).2 else if ((zI M l0 l4.toNatClampNeg) &&& (31 : Int32)) = 7 then b198_467 n k23 l0 l1 l2 l3 l4 (b69_0 n l1 (zI M l0 (l4 + (1 : Int32)).toNatClampNeg) (zI M l0 (l4 + (2 : Int32)).toNatClampNeg) M).1 (b69_0 n l1 (zI M l0 (l4 + (1 : Int32)).toNatClampNeg) (zI M l0 (l4 + (2 : Int32)).toNatClampNeg) M).2 else if ((zI M l0 l4.toNatClampNeg) &&& (31 : Int32)) = 8 then b198_505 n k23 l0 l1 l2 l3 l4 (nI (b70_0 n l1 (zI M l0 (l4 + (1 : Int32)).toNatClampNeg) (zI M l0 (l4 + (2 : Int32)).toNatClampNeg) M).2.1) (if (b70_0 n l1 (zI M l0 (l4 + (1 : Int32)).toNatClampNeg) (zI M l0 (l4 + (2 : Int32)).toNatClampNeg) M).2.1 = 0 then zWJ (b70_0 n l1 (zI M l0 (l4 + (1 : Int32)).toNatClampNeg) (zI M l0 (l4 + (2 : Int32)).toNatClampNeg) M).2.2 l3 0 (b70_0 n l1 (zI M l0 (l4 + (1 : Int32)).toNatClampNeg) (zI M l0 (l4 + (2 : Int32)).toNatClampNeg) M).1.toInt64 else (b70_0 n l1 (zI M l0 (l4 + (1 : Int32)).toNatClampNeg) (zI M l0 (l4 + (2 : Int32)).toNatClampNeg) M).2.2) else if ((zI M l0 l4.toNatClampNeg) &&& (31 : Int32)) = 9 then b198_579 n k23 l0 l1 l2 l3 l4 (nI (b71_0 n l1 (zI M l0 (l4 + (1 : Int32)).toNatClampNeg) (zI M l0 (l4 + (2 : Int32)).toNatClampNeg) (zI M l0 (l4 + (3 : Int32)).toNatClampNeg) M).2.1) (if (b71_0 n l1 (zI M l0 (l4 + (1 : Int32)).toNatClampNeg) (zI M l0 (l4 + (2 : Int32)).toNatClampNeg) (zI M l0 (l4 + (3 : Int32)).toNatClampNeg) M).2.1 = 0 then zWJ (b71_0 n l1 (zI M l0 (l4 + (1 : Int32)).toNatClampNeg) (zI M l0 (l4 + (2 : Int32)).toNatClampNeg) (zI M l0 (l4 + (3 : Int32)).toNatClampNeg) M).2.2 l3 0 (b71_0 n l1 (zI M l0 (l4 + (1 : Int32)).toNatClampNeg) (zI M l0 (l4 + (2 : Int32)).toNatClampNeg) (zI M l0 (l4 + (3 : Int32)).toNatClampNeg) M).1.toInt64 else (b71_0 n l1 (zI M l0 (l4 + (1 : Int32)).toNatClampNeg) (zI M l0 (l4 + (2 : Int32)).toNatClampNeg) (zI M l0 (l4 + (3 : Int32)).toNatClampNeg) M).2.2) else if ((zI M l0 l4.toNatClampNeg) &&& (31 : Int32)) = 10 then b198_652 n k23 l0 l1 l2 l3 l4 (b72_0 n l1 (zI M l0 (l4 + (1 : Int32)).toNatClampNeg) (zI M l0 (l4 + (2 : Int32)).toNatClampNeg) M).1 (b72_0 n l1 (zI M l0 (l4 + (1 : Int32)).toNatClampNeg) (zI M l0 (l4 + (2 : Int32)).toNatClampNeg) M).2 else if ((zI M l0 l4.toNatClampNeg) &&& (31 : Int32)) = 11 then b198_708 n k23 l0 l1 l2 l3 l4 (b73_0 n l1 (zI M l0 (l4 + (1 : Int32)).toNatClampNeg) (zI M l0 (l4 + (2 : Int32)).toNatClampNeg) (zI M l0 (l4 + (3 : Int32)).toNatClampNeg) (zI M l0 (l4 + (4 : Int32)).toNatClampNeg) (zI M l0 (l4 + (5 : Int32)).toNatClampNeg) M).1 (b73_0 n l1 (zI M l0 (l4 + (1 : Int32)).toNatClampNeg) (zI M l0 (l4 + (2 : Int32)).toNatClampNeg) (zI M l0 (l4 + (3 : Int32)).toNatClampNeg) (zI M l0 (l4 + (4 : Int32)).toNatClampNeg) (zI M l0 (l4 + (5 : Int32)).toNatClampNeg) M).2 else if ((zI M l0 l4.toNatClampNeg) &&& (31 : Int32)) = 12 then b198_757 n k23 l0 l1 l2 l3 l4 (b74_0 n l1 (zI M l0 (l4 + (1 : Int32)).toNatClampNeg) M).1 (b74_0 n l1 (zI M l0 (l4 + (1 : Int32)).toNatClampNeg) M).2 else if ((zI M l0 l4.toNatClampNeg) &&& (31 : Int32)) = 13 then b198_788 n k23 l0 l1 l2 l3 l4 (b75_0 n l1 (zI M l0 (l4 + (1 : Int32)).toNatClampNeg) (zI M l0 (l4 + (2 : Int32)).toNatClampNeg) M).1 (b75_0 n l1 (zI M l0 (l4 + (1 : Int32)).toNatClampNeg) (zI M l0 (l4 + (2 : Int32)).toNatClampNeg) M).2 else if ((zI M l0 l4.toNatClampNeg) &&& (31 : Int32)) = 14 then b198_825 n k23 l0 l1 l2 l3 l4 (b76_0 n l1 (zI M l0 (l4 + (1 : Int32)).toNatClampNeg) (zI M l0 (l4 + (2 : Int32)).toNatClampNeg) M).1 (b76_0 n l1 (zI M l0 (l4 + (1 : Int32)).toNatClampNeg) (zI M l0 (l4 + (2 : Int32)).toNatClampNeg) M).2 else if ((zI M l0 l4.toNatClampNeg) &&& (31 : Int32)) = 15 then b198_862 n k23 l0 l1 l2 l3 l4 (b77_0 n l1 (zI M l0 (l4 + (1 : Int32)).toNatClampNeg) (zI M l0 (l4 + (2 : Int32)).toNatClampNeg) M).1 (b77_0 n l1 (zI M l0 (l4 + (1 : Int32)).toNatClampNeg) (zI M l0 (l4 + (2 : Int32)).toNatClampNeg) M).2 else if ((zI M l0 l4.toNatClampNeg) &&& (31 : Int32)) = 16 then b198_893 n k23 l0 l1 l2 l3 l4 (b78_0 n l1 (zI M l0 (l4 + (1 : Int32)).toNatClampNeg) M).1 (b78_0 n l1 (zI M l0 (l4 + (1 : Int32)).toNatClampNeg) M).2 else if ((zI M l0 l4.toNatClampNeg) &&& (31 : Int32)) = 17 then b198_942 n k23 l0 l1 l2 l3 l4 (b79_0 n l1 (zI M l0 (l4 + (1 : Int32)).toNatClampNeg) (zI M l0 (l4 + (2 : Int32)).toNatClampNeg) (zI M l0 (l4 + (3 : Int32)).toNatClampNeg) (zI M l0 (l4 + (4 : Int32)).toNatClampNeg) (zI M l0 (l4 + (5 : Int32)).toNatClampNeg) M).1 (b79_0 n l1 (zI M l0 (l4 + (1 : Int32)).toNatClampNeg) (zI M l0 (l4 + (2 : Int32)).toNatClampNeg) (zI M l0 (l4 + (3 : Int32)).toNatClampNeg) (zI M l0 (l4 + (4 : Int32)).toNatClampNeg) (zI M l0 (l4 + (5 : Int32)).toNatClampNeg) M).2 else if ((zI M l0 l4.toNatClampNeg) &&& (31 : Int32)) = 18 then b198_1015 n k23 l0 l1 l2 l3 l4 (b80_0 n l1 (zI M l0 (l4 + (1 : Int32)).toNatClampNeg) (zI M l0 (l4 + (2 : Int32)).toNatClampNeg) (zI M l0 (l4 + (3 : Int32)).toNatClampNeg) (zI M l0 (l4 + (4 : Int32)).toNatClampNeg) (zI M l0 (l4 + (5 : Int32)).toNatClampNeg) M).1 (b80_0 n l1 (zI M l0 (l4 + (1 : Int32)).toNatClampNeg) (zI M l0 (l4 + (2 : Int32)).toNatClampNeg) (zI M l0 (l4 + (3 : Int32)).toNatClampNeg) (zI M l0 (l4 + (4 : Int32)).toNatClampNeg) (zI M l0 (l4 + (5 : Int32)).toNatClampNeg) M).2 else if ((zI M l0 l4.toNatClampNeg) &&& (31 : Int32)) = 19 then b198_1064 n k23 l0 l1 l2 l3 l4 (b81_0 n l1 (zI M l0 (l4 + (1 : Int32)).toNatClampNeg) M).1 (b81_0 n l1 (zI M l0 (l4 + (1 : Int32)).toNatClampNeg) M).2 else if ((zI M l0 l4.toNatClampNeg) &&& (31 : Int32)) = 20 then b198_1095 n k23 l0 l1 l2 l3 l4 (b82_0 n l1 (zI M l0 (l4 + (1 : Int32)).toNatClampNeg) (zI M l0 (l4 + (2 : Int32)).toNatClampNeg) M).1 (b82_0 n l1 (zI M l0 (l4 + (1 : Int32)).toNatClampNeg) (zI M l0 (l4 + (2 : Int32)).toNatClampNeg) M).2 else if ((zI M l0 l4.toNatClampNeg) &&& (31 : Int32)) = 21 then b198_1120 n k23 l0 l1 l2 l3 l4 (b83_0 n l1 M).1 (b83_0 n l1 M).2 else if ((zI M l0 l4.toNatClampNeg) &&& (31 : Int32)) = 22 then b198_1139 n k23 l0 l1 l2 l3 l4 (b84_0 n l1 (zI M l0 (l4 + (1 : Int32)).toNatClampNeg) M).1 (b84_0 n l1 (zI M l0 (l4 + (1 : Int32)).toNatClampNeg) M).2 else if ((zI M l0 l4.toNatClampNeg) &&& (31 : Int32)) = 23 then b198_1158 n k23 l0 l1 l2 l3 l4 (b85_0 n l1 M).1 (b85_0 n l1 M).2 else if ((zI M l0 l4.toNatClampNeg) &&& (31 : Int32)) = 24 then b198_1171 n k23 l0 l1 l2 l3 l4 (b86_0 n l1 M).1 (b86_0 n l1 M).2 else if ((zI M l0 l4.toNatClampNeg) &&& (31 : Int32)) = 25 then b198_1196 n k23 l0 l1 l2 l3 l4 (b87_0 n l1 (zI M l0 (l4 + (1 : Int32)).toNatClampNeg) (zI M l0 (l4 + (2 : Int32)).toNatClampNeg) M).1 (b87_0 n l1 (zI M l0 (l4 + (1 : Int32)).toNatClampNeg) (zI M l0 (l4 + (2 : Int32)).toNatClampNeg) M).2 else if ((zI M l0 l4.toNatClampNeg) &&& (31 : Int32)) = 26 then b198_1228 n k23 l0 l1 l2 l3 l4 (b88_0 n l1 (zI M l0 (l4 + (1 : Int32)).toNatClampNeg) M).1 (b88_0 n l1 (zI M l0 (l4 + (1 : Int32)).toNatClampNeg) M).2 else b198_1243 n k23 l0 l1 l2 l3 l4 M))
def d198_23 (n : Nat) (q23 : Nat → Nat → Nat → Nat → Int32 → zM → Prop) (l0 : Nat) (l1 : Nat) (l2 : Nat) (l3 : Nat) (l4 : Int32) (M : zM) : Prop := (zOkN l0 M) ∧ (((((Int32.ofNat (zS M l0).2) - (6 : Int32)) < l4 → True) ∧ (¬ ((Int32.ofNat (zS M l0).2) - (6 : Int32)) < l4 → (zOkI l0 l4 M) ∧ (((((zI M l0 l4.toNatClampNeg) &&& (31 : Int32)) = 0 → (zOkI l0 (l4 + (1 : Int32)) M) ∧ ((zHasC 198 25 l1 M 62 1) ∧ ((p62_0 n l1 (zI M l0 (l4 + (1 : Int32)).toNatClampNeg) M) ∧ (p198_174 n q23 l0 l1 l2 l3 l4 (b62_0 n l1 (zI M l0 (l4 + (1 : Int32)).toNatClampNeg) M).1 (b62_0 n l1 (zI M l0 (l4 + (1 : Int32)).toNatClampNeg) M).2)))) ∧ (¬ ((zI M l0 l4.toNatClampNeg) &&& (31 : Int32)) = 0 → (((zI M l0 l4.toNatClampNeg) &&& (31 : Int32)) = 1 → (zOkI l0 (l4 + (1 : Int32)) M) ∧ ((zOkI l0 (l4 + (2 : Int32)) M) ∧ ((zOkI l0 (l4 + (3 : Int32)) M) ∧ ((zHasC 198 30 l1 M 63 3) ∧ ((p63_0 n l1 (zI M l0 (l4 + (1 : Int32)).toNatClampNeg) (zI M l0 (l4 + (2 : Int32)).toNatClampNeg) (zI M l0 (l4 + (3 : Int32)).toNatClampNeg) M) ∧ (p198_211 n q23 l0 l1 l2 l3 l4 (b63_0 n l1 (zI M l0 (l4 + (1 : Int32)).toNatClampNeg) (zI M l0 (l4 + (2 : Int32)).toNatClampNeg) (zI M l0 (l4 + (3 : Int32)).toNatClampNeg) M).1 (b63_0 n l1 (zI M l0 (l4 + (1 : Int32)).toNatClampNeg) (zI M l0 (l4 + (2 : Int32)).toNatClampNeg) (zI M l0 (l4 + (3 : Int32)).toNatClampNeg) M).2)))))) ∧ (¬ ((zI M l0 l4.toNatClampNeg) &&& (31 : Int32)) = 1 → (((zI M l0 l4.toNatClampNeg) &&& (31 : Int32)) = 2 → (zOkI l0 (l4 + (1 : Int32)) M) ∧ ((zHasC 198 34 l1 M 64 1) ∧ ((p64_0 n l1 (zI M l0 (l4 + (1 : Int32)).toNatClampNeg) M) ∧ (p198_248 n q23 l0 l1 l2 l3 l4 (b64_0 n l1 (zI M l0 (l4 + (1 : Int32)).toNatClampNeg) M).1 (b64_0 n l1 (zI M l0 (l4 + (1 : Int32)).toNatClampNeg) M).2)))) ∧ (¬ ((zI M l0 l4.toNatClampNeg) &&& (31 : Int32)) = 2 → (((zI M l0 l4.toNatClampNeg) &&& (31 : Int32)) = 3 → (zOkI l0 (l4 + (1 : Int32)) M) ∧ ((zOkI l0 (l4 + (2 : Int32)) M) ∧ ((zOkI l0 (l4 + (3 : Int32)) M) ∧ ((((zI M l0 (l4 + (3 : Int32)).toNatClampNeg) = 0 → p198_290 n q23 l0 l1 l2 l3 l4 l1 (zI M l0 (l4 + (1 : Int32)).toNatClampNeg) (zI M l0 (l4 + (2 : Int32)).toNatClampNeg) (0 : Int32) M) ∧ (¬ (zI M l0 (l4 + (3 : Int32)).toNatClampNeg) = 0 → p198_290 n q23 l0 l1 l2 l3 l4 l1 (zI M l0 (l4 + (1 : Int32)).toNatClampNeg) (zI M l0 (l4 + (2 : Int32)).toNatClampNeg) (1 : Int32) M)))))) ∧ (¬ ((zI M l0 l4.toNatClampNeg) &&& (31 : Int32)) = 3 → (((zI M l0 l4.toNatClampNeg) &&& (31 : Int32)) = 4 → (zOkI l0 (l4 + (1 : Int32)) M) ∧ ((zOkI l0 (l4 + (2 : Int32)) M) ∧ ((zOkI l0 (l4 + (3 : Int32)) M) ∧ ((zHasC 198 43 l1 M 66 3) ∧ ((p66_0 n l1 (zI M l0 (l4 + (1 : Int32)).toNatClampNeg) (zI M l0 (l4 + (2 : Int32)).toNatClampNeg) (zI M l0 (l4 + (3 : Int32)).toNatClampNeg) M) ∧ (p198_350 n q23 l0 l1 l2 l3 l4 (b66_0 n l1 (zI M l0 (l4 + (1 : Int32)).toNatClampNeg) (zI M l0 (l4 + (2 : Int32)).toNatClampNeg) (zI M l0 (l4 + (3 : Int32)).toNatClampNeg) M).1 (b66_0 n l1 (zI M l0 (l4 + (1 : Int32)).toNatClampNeg) (zI M l0 (l4 + (2 : Int32)).toNatClampNeg) (zI M l0 (l4 + (3 : Int32)).toNatClampNeg) M).2)))))) ∧ (¬ ((zI M l0 l4.toNatClampNeg) &&& (31 : Int32)) = 4 → (((zI M l0 l4.toNatClampNeg) &&& (31 : Int32)) = 5 → (zOkI l0 (l4 + (1 : Int32)) M) ∧ ((zOkI l0 (l4 + (2 : Int32)) M) ∧ ((zHasC 198 48 l1 M 67 2) ∧ ((p67_0 n l1 (zI M l0 (l4 + (1 : Int32)).toNatClampNeg) (zI M l0 (l4 + (2 : Int32)).toNatClampNeg) M) ∧ (p198_393 n q23 l0 l1 l2 l3 l4 (b67_0 n l1 (zI M l0 (l4 + (1 : Int32)).toNatClampNeg) (zI M l0 (l4 + (2 : Int32)).toNatClampNeg) M).1 (b67_0 n l1 (zI M l0 (l4 + (1 : Int32)).toNatClampNeg) (zI M l0 (l4 + (2 : Int32)).toNatClampNeg) M).2))))) ∧ (¬ ((zI M l0 l4.toNatClampNeg) &&& (31 : Int32)) = 5 → (((zI M l0 l4.toNatClampNeg) &&& (31 : Int32)) = 6 → (zOkI l0 (l4 + (1 : Int32)) M) ∧ ((zOkI l0 (l4 + (2 : Int32)) M) ∧ ((zHasC 198 53 l1 M 68 2) ∧ ((p68_0 n l1 (zI M l0 (l4 + (1 : Int32)).toNatClampNeg) (zI M l0 (l4 + (2 : Int32)).toNatClampNeg) M) ∧ (p198_430 n q23 l0 l1 l2 l3 l4 (b68_0 n l1 (zI M l0 (l4 + (1 : Int32)).toNatClampNeg) (zI M l0 (l4 + (2 : Int32)).toNatClampNeg) M).1 (b68_0 n l1 (zI M l0 (l4 + (1 : Int32)).toNatClampNeg) (zI M l0 (l4 + (2 : Int32)).toNatClampNeg) M).2))))) ∧ (¬ ((zI M l0 l4.toNatClampNeg) &&& (31 : Int32)) = 6 → (((zI M l0 l4.toNatClampNeg) &&& (31 : Int32)) = 7 → (zOkI l0 (l4 + (1 : Int32)) M) ∧ ((zOkI l0 (l4 + (2 : Int32)) M) ∧ ((zHasC 198 57 l1 M 69 2) ∧ ((p69_0 n l1 (zI M l0 (l4 + (1 : Int32)).toNatClampNeg) (zI M l0 (l4 + (2 : Int32)).toNatClampNeg) M) ∧ (p198_467 n q23 l0 l1 l2 l3 l4 (b69_0 n l1 (zI M l0 (l4 + (1 : Int32)).toNatClampNeg) (zI M l0 (l4 + (2 : Int32)).toNatClampNeg) M).1 (b69_0 n l1 (zI M l0 (l4 + (1 : Int32)).toNatClampNeg) (zI M l0 (l4 + (2 : Int32)).toNatClampNeg) M).2))))) ∧ (¬ ((zI M l0 l4.toNatClampNeg) &&& (31 : Int32)) = 7 → (((zI M l0 l4.toNatClampNeg) &&& (31 : Int32)) = 8 → (zOkI l0 (l4 + (1 : Int32)) M) ∧ ((zOkI l0 (l4 + (2 : Int32)) M) ∧ ((zS M l3 = (3, 1) ∧ l3 < zN M) ∧ ((p70_0 n l1 (zI M l0 (l4 + (1 : Int32)).toNatClampNeg) (zI M l0 (l4 + (2 : Int32)).toNatClampNeg) M) ∧ (p198_505 n q23 l0 l1 l2 l3 l4 (nI (b70_0 n l1 (zI M l0 (l4 + (1 : Int32)).toNatClampNeg) (zI M l0 (l4 + (2 : Int32)).toNatClampNeg) M).2.1) (if (b70_0 n l1 (zI M l0 (l4 + (1 : Int32)).toNatClampNeg) (zI M l0 (l4 + (2 : Int32)).toNatClampNeg) M).2.1 = 0 then zWJ (b70_0 n l1 (zI M l0 (l4 + (1 : Int32)).toNatClampNeg) (zI M l0 (l4 + (2 : Int32)).toNatClampNeg) M).2.2 l3 0 (b70_0 n l1 (zI M l0 (l4 + (1 : Int32)).toNatClampNeg) (zI M l0 (l4 + (2 : Int32)).toNatClampNeg) M).1.toInt64 else (b70_0 n l1 (zI M l0 (l4 + (1 : Int32)).toNatClampNeg) (zI M l0 (l4 + (2 : Int32)).toNatClampNeg) M).2.2)))))) ∧ (¬ ((zI M l0 l4.toNatClampNeg) &&& (31 : Int32)) = 8 → (((zI M l0 l4.toNatClampNeg) &&& (31 : Int32)) = 9 → (zOkI l0 (l4 + (1 : Int32)) M) ∧ ((zOkI l0 (l4 + (2 : Int32)) M) ∧ ((zOkI l0 (l4 + (3 : Int32)) M) ∧ ((zS M l3 = (3, 1) ∧ l3 < zN M) ∧ ((p71_0 n l1 (zI M l0 (l4 + (1 : Int32)).toNatClampNeg) (zI M l0 (l4 + (2 : Int32)).toNatClampNeg) (zI M l0 (l4 + (3 : Int32)).toNatClampNeg) M) ∧ (p198_579 n q23 l0 l1 l2 l3 l4 (nI (b71_0 n l1 (zI M l0 (l4 + (1 : Int32)).toNatClampNeg) (zI M l0 (l4 + (2 : Int32)).toNatClampNeg) (zI M l0 (l4 + (3 : Int32)).toNatClampNeg) M).2.1) (if (b71_0 n l1 (zI M l0 (l4 + (1 : Int32)).toNatClampNeg) (zI M l0 (l4 + (2 : Int32)).toNatClampNeg) (zI M l0 (l4 + (3 : Int32)).toNatClampNeg) M).2.1 = 0 then zWJ (b71_0 n l1 (zI M l0 (l4 + (1 : Int32)).toNatClampNeg) (zI M l0 (l4 + (2 : Int32)).toNatClampNeg) (zI M l0 (l4 + (3 : Int32)).toNatClampNeg) M).2.2 l3 0 (b71_0 n l1 (zI M l0 (l4 + (1 : Int32)).toNatClampNeg) (zI M l0 (l4 + (2 : Int32)).toNatClampNeg) (zI M l0 (l4 + (3 : Int32)).toNatClampNeg) M).1.toInt64 else (b71_0 n l1 (zI M l0 (l4 + (1 : Int32)).toNatClampNeg) (zI M l0 (l4 + (2 : Int32)).toNatClampNeg) (zI M l0 (l4 + (3 : Int32)).toNatClampNeg) M).2.2))))))) ∧ (¬ ((zI M l0 l4.toNatClampNeg) &&& (31 : Int32)) = 9 → (((zI M l0 l4.toNatClampNeg) &&& (31 : Int32)) = 10 → (zOkI l0 (l4 + (1 : Int32)) M) ∧ ((zOkI l0 (l4 + (2 : Int32)) M) ∧ ((zHasC 198 75 l1 M 72 2) ∧ ((p72_0 n l1 (zI M l0 (l4 + (1 : Int32)).toNatClampNeg) (zI M l0 (l4 + (2 : Int32)).toNatClampNeg) M) ∧ (p198_652 n q23 l0 l1 l2 l3 l4 (b72_0 n l1 (zI M l0 (l4 + (1 : Int32)).toNatClampNeg) (zI M l0 (l4 + (2 : Int32)).toNatClampNeg) M).1 (b72_0 n l1 (zI M l0 (l4 + (1 : Int32)).toNatClampNeg) (zI M l0 (l4 + (2 : Int32)).toNatClampNeg) M).2))))) ∧ (¬ ((zI M l0 l4.toNatClampNeg) &&& (31 : Int32)) = 10 → (((zI M l0 l4.toNatClampNeg) &&& (31 : Int32)) = 11 → (zOkI l0 (l4 + (1 : Int32)) M) ∧ ((zOkI l0 (l4 + (2 : Int32)) M) ∧ ((zOkI l0 (l4 + (3 : Int32)) M) ∧ ((zOkI l0 (l4 + (4 : Int32)) M) ∧ ((zOkI l0 (l4 + (5 : Int32)) M) ∧ ((zHasC 198 80 l1 M 73 5) ∧ ((p73_0 n l1 (zI M l0 (l4 + (1 : Int32)).toNatClampNeg) (zI M l0 (l4 + (2 : Int32)).toNatClampNeg) (zI M l0 (l4 + (3 : Int32)).toNatClampNeg) (zI M l0 (l4 + (4 : Int32)).toNatClampNeg) (zI M l0 (l4 + (5 : Int32)).toNatClampNeg) M) ∧ (p198_708 n q23 l0 l1 l2 l3 l4 (b73_0 n l1 (zI M l0 (l4 + (1 : Int32)).toNatClampNeg) (zI M l0 (l4 + (2 : Int32)).toNatClampNeg) (zI M l0 (l4 + (3 : Int32)).toNatClampNeg) (zI M l0 (l4 + (4 : Int32)).toNatClampNeg) (zI M l0 (l4 + (5 : Int32)).toNatClampNeg) M).1 (b73_0 n l1 (zI M l0 (l4 + (1 : Int32)).toNatClampNeg) (zI M l0 (l4 + (2 : Int32)).toNatClampNeg) (zI M l0 (l4 + (3 : Int32)).toNatClampNeg) (zI M l0 (l4 + (4 : Int32)).toNatClampNeg) (zI M l0 (l4 + (5 : Int32)).toNatClampNeg) M).2)))))))) ∧ (¬ ((zI M l0 l4.toNatClampNeg) &&& (31 : Int32)) = 11 → (((zI M l0 l4.toNatClampNeg) &&& (31 : Int32)) = 12 → (zOkI l0 (l4 + (1 : Int32)) M) ∧ ((zHasC 198 85 l1 M 74 1) ∧ ((p74_0 n l1 (zI M l0 (l4 + (1 : Int32)).toNatClampNeg) M) ∧ (p198_757 n q23 l0 l1 l2 l3 l4 (b74_0 n l1 (zI M l0 (l4 + (1 : Int32)).toNatClampNeg) M).1 (b74_0 n l1 (zI M l0 (l4 + (1 : Int32)).toNatClampNeg) M).2)))) ∧ (¬ ((zI M l0 l4.toNatClampNeg) &&& (31 : Int32)) = 12 → (((zI M l0 l4.toNatClampNeg) &&& (31 : Int32)) = 13 → (zOkI l0 (l4 + (1 : Int32)) M) ∧ ((zOkI l0 (l4 + (2 : Int32)) M) ∧ ((zHasC 198 89 l1 M 75 2) ∧ ((p75_0 n l1 (zI M l0 (l4 + (1 : Int32)).toNatClampNeg) (zI M l0 (l4 + (2 : Int32)).toNatClampNeg) M) ∧ (p198_788 n q23 l0 l1 l2 l3 l4 (b75_0 n l1 (zI M l0 (l4 + (1 : Int32)).toNatClampNeg) (zI M l0 (l4 + (2 : Int32)).toNatClampNeg) M).1 (b75_0 n l1 (zI M l0 (l4 + (1 : Int32)).toNatClampNeg) (zI M l0 (l4 + (2 : Int32)).toNatClampNeg) M).2))))) ∧ (¬ ((zI M l0 l4.toNatClampNeg) &&& (31 : Int32)) = 13 → (((zI M l0 l4.toNatClampNeg) &&& (31 : Int32)) = 14 → (zOkI l0 (l4 + (1 : Int32)) M) ∧ ((zOkI l0 (l4 + (2 : Int32)) M) ∧ ((zHasC 198 93 l1 M 76 2) ∧ ((p76_0 n l1 (zI M l0 (l4 + (1 : Int32)).toNatClampNeg) (zI M l0 (l4 + (2 : Int32)).toNatClampNeg) M) ∧ (p198_825 n q23 l0 l1 l2 l3 l4 (b76_0 n l1 (zI M l0 (l4 + (1 : Int32)).toNatClampNeg) (zI M l0 (l4 + (2 : Int32)).toNatClampNeg) M).1 (b76_0 n l1 (zI M l0 (l4 + (1 : Int32)).toNatClampNeg) (zI M l0 (l4 + (2 : Int32)).toNatClampNeg) M).2))))) ∧ (¬ ((zI M l0 l4.toNatClampNeg) &&& (31 : Int32)) = 14 → (((zI M l0 l4.toNatClampNeg) &&& (31 : Int32)) = 15 → (zOkI l0 (l4 + (1 : Int32)) M) ∧ ((zOkI l0 (l4 + (2 : Int32)) M) ∧ ((zHasC 198 97 l1 M 77 2) ∧ ((p77_0 n l1 (zI M l0 (l4 + (1 : Int32)).toNatClampNeg) (zI M l0 (l4 + (2 : Int32)).toNatClampNeg) M) ∧ (p198_862 n q23 l0 l1 l2 l3 l4 (b77_0 n l1 (zI M l0 (l4 + (1 : Int32)).toNatClampNeg) (zI M l0 (l4 + (2 : Int32)).toNatClampNeg) M).1 (b77_0 n l1 (zI M l0 (l4 + (1 : Int32)).toNatClampNeg) (zI M l0 (l4 + (2 : Int32)).toNatClampNeg) M).2))))) ∧ (¬ ((zI M l0 l4.toNatClampNeg) &&& (31 : Int32)) = 15 → (((zI M l0 l4.toNatClampNeg) &&& (31 : Int32)) = 16 → (zOkI l0 (l4 + (1 : Int32)) M) ∧ ((zHasC 198 101 l1 M 78 1) ∧ ((p78_0 n l1 (zI M l0 (l4 + (1 : Int32)).toNatClampNeg) M) ∧ (p198_893 n q23 l0 l1 l2 l3 l4 (b78_0 n l1 (zI M l0 (l4 + (1 : Int32)).toNatClampNeg) M).1 (b78_0 n l1 (zI M l0 (l4 + (1 : Int32)).toNatClampNeg) M).2)))) ∧ (¬ ((zI M l0 l4.toNatClampNeg) &&& (31 : Int32)) = 16 → (((zI M l0 l4.toNatClampNeg) &&& (31 : Int32)) = 17 → (zOkI l0 (l4 + (1 : Int32)) M) ∧ ((zOkI l0 (l4 + (2 : Int32)) M) ∧ ((zOkI l0 (l4 + (3 : Int32)) M) ∧ ((zOkI l0 (l4 + (4 : Int32)) M) ∧ ((zOkI l0 (l4 + (5 : Int32)) M) ∧ ((zHasC 198 105 l1 M 79 5) ∧ ((p79_0 n l1 (zI M l0 (l4 + (1 : Int32)).toNatClampNeg) (zI M l0 (l4 + (2 : Int32)).toNatClampNeg) (zI M l0 (l4 + (3 : Int32)).toNatClampNeg) (zI M l0 (l4 + (4 : Int32)).toNatClampNeg) (zI M l0 (l4 + (5 : Int32)).toNatClampNeg) M) ∧ (p198_942 n q23 l0 l1 l2 l3 l4 (b79_0 n l1 (zI M l0 (l4 + (1 : Int32)).toNatClampNeg) (zI M l0 (l4 + (2 : Int32)).toNatClampNeg) (zI M l0 (l4 + (3 : Int32)).toNatClampNeg) (zI M l0 (l4 + (4 : Int32)).toNatClampNeg) (zI M l0 (l4 + (5 : Int32)).toNatClampNeg) M).1 (b79_0 n l1 (zI M l0 (l4 + (1 : Int32)).toNatClampNeg) (zI M l0 (l4 + (2 : Int32)).toNatClampNeg) (zI M l0 (l4 + (3 : Int32)).toNatClampNeg) (zI M l0 (l4 + (4 : Int32)).toNatClampNeg) (zI M l0 (l4 + (5 : Int32)).toNatClampNeg) M).2)))))))) ∧ (¬ ((zI M l0 l4.toNatClampNeg) &&& (31 : Int32)) = 17 → (((zI M l0 l4.toNatClampNeg) &&& (31 : Int32)) = 18 → (zOkI l0 (l4 + (1 : Int32)) M) ∧ ((zOkI l0 (l4 + (2 : Int32)) M) ∧ ((zOkI l0 (l4 + (3 : Int32)) M) ∧ ((zOkI l0 (l4 + (4 : Int32)) M) ∧ ((zOkI l0 (l4 + (5 : Int32)) M) ∧ ((zHasC 198 109 l1 M 80 5) ∧ ((p80_0 n l1 (zI M l0 (l4 + (1 : Int32)).toNatClampNeg) (zI M l0 (l4 + (2 : Int32)).toNatClampNeg) (zI M l0 (l4 + (3 : Int32)).toNatClampNeg) (zI M l0 (l4 + (4 : Int32)).toNatClampNeg) (zI M l0 (l4 + (5 : Int32)).toNatClampNeg) M) ∧ (p198_1015 n q23 l0 l1 l2 l3 l4 (b80_0 n l1 (zI M l0 (l4 + (1 : Int32)).toNatClampNeg) (zI M l0 (l4 + (2 : Int32)).toNatClampNeg) (zI M l0 (l4 + (3 : Int32)).toNatClampNeg) (zI M l0 (l4 + (4 : Int32)).toNatClampNeg) (zI M l0 (l4 + (5 : Int32)).toNatClampNeg) M).1 (b80_0 n l1 (zI M l0 (l4 + (1 : Int32)).toNatClampNeg) (zI M l0 (l4 + (2 : Int32)).toNatClampNeg) (zI M l0 (l4 + (3 : Int32)).toNatClampNeg) (zI M l0 (l4 + (4 : Int32)).toNatClampNeg) (zI M l0 (l4 + (5 : Int32)).toNatClampNeg) M).2)))))))) ∧ (¬ ((zI M l0 l4.toNatClampNeg) &&& (31 : Int32)) = 18 → (((zI M l0 l4.toNatClampNeg) &&& (31 : Int32)) = 19 → (zOkI l0 (l4 + (1 : Int32)) M) ∧ ((zHasC 198 113 l1 M 81 1) ∧ ((p81_0 n l1 (zI M l0 (l4 + (1 : Int32)).toNatClampNeg) M) ∧ (p198_1064 n q23 l0 l1 l2 l3 l4 (b81_0 n l1 (zI M l0 (l4 + (1 : Int32)).toNatClampNeg) M).1 (b81_0 n l1 (zI M l0 (l4 + (1 : Int32)).toNatClampNeg) M).2)))) ∧ (¬ ((zI M l0 l4.toNatClampNeg) &&& (31 : Int32)) = 19 → (((zI M l0 l4.toNatClampNeg) &&& (31 : Int32)) = 20 → (zOkI l0 (l4 + (1 : Int32)) M) ∧ ((zOkI l0 (l4 + (2 : Int32)) M) ∧ ((zHasC 198 117 l1 M 82 2) ∧ ((p82_0 n l1 (zI M l0 (l4 + (1 : Int32)).toNatClampNeg) (zI M l0 (l4 + (2 : Int32)).toNatClampNeg) M) ∧ (p198_1095 n q23 l0 l1 l2 l3 l4 (b82_0 n l1 (zI M l0 (l4 + (1 : Int32)).toNatClampNeg) (zI M l0 (l4 + (2 : Int32)).toNatClampNeg) M).1 (b82_0 n l1 (zI M l0 (l4 + (1 : Int32)).toNatClampNeg) (zI M l0 (l4 + (2 : Int32)).toNatClampNeg) M).2))))) ∧ (¬ ((zI M l0 l4.toNatClampNeg) &&& (31 : Int32)) = 20 → (((zI M l0 l4.toNatClampNeg) &&& (31 : Int32)) = 21 → (zHasC 198 121 l1 M 83 0) ∧ ((p83_0 n l1 M) ∧ (p198_1120 n q23 l0 l1 l2 l3 l4 (b83_0 n l1 M).1 (b83_0 n l1 M).2))) ∧ (¬ ((zI M l0 l4.toNatClampNeg) &&& (31 : Int32)) = 21 → (((zI M l0 l4.toNatClampNeg) &&& (31 : Int32)) = 22 → (zOkI l0 (l4 + (1 : Int32)) M) ∧ ((zHasC 198 125 l1 M 84 1) ∧ ((p84_0 n l1 (zI M l0 (l4 + (1 : Int32)).toNatClampNeg) M) ∧ (p198_1139 n q23 l0 l1 l2 l3 l4 (b84_0 n l1 (zI M l0 (l4 + (1 : Int32)).toNatClampNeg) M).1 (b84_0 n l1 (zI M l0 (l4 + (1 : Int32)).toNatClampNeg) M).2)))) ∧ (¬ ((zI M l0 l4.toNatClampNeg) &&& (31 : Int32)) = 22 → (((zI M l0 l4.toNatClampNeg) &&& (31 : Int32)) = 23 → (zHasC 198 129 l1 M 85 0) ∧ ((p85_0 n l1 M) ∧ (p198_1158 n q23 l0 l1 l2 l3 l4 (b85_0 n l1 M).1 (b85_0 n l1 M).2))) ∧ (¬ ((zI M l0 l4.toNatClampNeg) &&& (31 : Int32)) = 23 → (((zI M l0 l4.toNatClampNeg) &&& (31 : Int32)) = 24 → (zHasC 198 133 l1 M 86 0) ∧ ((p86_0 n l1 M) ∧ (p198_1171 n q23 l0 l1 l2 l3 l4 (b86_0 n l1 M).1 (b86_0 n l1 M).2))) ∧ (¬ ((zI M l0 l4.toNatClampNeg) &&& (31 : Int32)) = 24 → (((zI M l0 l4.toNatClampNeg) &&& (31 : Int32)) = 25 → (zOkI l0 (l4 + (1 : Int32)) M) ∧ ((zOkI l0 (l4 + (2 : Int32)) M) ∧ ((zHasC 198 137 l1 M 87 2) ∧ ((p87_0 n l1 (zI M l0 (l4 + (1 : Int32)).toNatClampNeg) (zI M l0 (l4 + (2 : Int32)).toNatClampNeg) M) ∧ (p198_1196 n q23 l0 l1 l2 l3 l4 (b87_0 n l1 (zI M l0 (l4 + (1 : Int32)).toNatClampNeg) (zI M l0 (l4 + (2 : Int32)).toNatClampNeg) M).1 (b87_0 n l1 (zI M l0 (l4 + (1 : Int32)).toNatClampNeg) (zI M l0 (l4 + (2 : Int32)).toNatClampNeg) M).2))))) ∧ (¬ ((zI M l0 l4.toNatClampNeg) &&& (31 : Int32)) = 25 → (((zI M l0 l4.toNatClampNeg) &&& (31 : Int32)) = 26 → (zOkI l0 (l4 + (1 : Int32)) M) ∧ ((zHasC 198 141 l1 M 88 1) ∧ ((p88_0 n l1 (zI M l0 (l4 + (1 : Int32)).toNatClampNeg) M) ∧ (p198_1228 n q23 l0 l1 l2 l3 l4 (b88_0 n l1 (zI M l0 (l4 + (1 : Int32)).toNatClampNeg) M).1 (b88_0 n l1 (zI M l0 (l4 + (1 : Int32)).toNatClampNeg) M).2)))) ∧ (¬ ((zI M l0 l4.toNatClampNeg) &&& (31 : Int32)) = 26 → p198_1243 n q23 l0 l1 l2 l3 l4 M))))))))))))))))))))))))))))))))
set_option maxRecDepth 100000 in
set_option maxHeartbeats 4000000 in
theorem t198_23 (n : Nat) (k23 : Nat → Nat → Nat → Nat → Int32 → zM → Int32 × zM) (q23 : Nat → Nat → Nat → Nat → Int32 → zM → Prop) (h23 : ∀ (l0 : Nat) (l1 : Nat) (l2 : Nat) (l3 : Nat) (l4 : Int32) (M : zM), q23 l0 l1 l2 l3 l4 M → ∀ {Q : Option Value → zM → Prop}, (∀ r M1, zRI (k23 l0 l1 l2 l3 l4 M) r M1 → Q r M1) → zWP 198 23 [some (.ref l0), some (.ref l1), some (.ref l2), some (.ref l3), some (.int l4), none, none] [] M Q) (l0 : Nat) (l1 : Nat) (l2 : Nat) (l3 : Nat) (l4 : Int32) (M : zM) (hp : d198_23 n q23 l0 l1 l2 l3 l4 M) {Q : Option Value → zM → Prop} (hQ : ∀ r M1, zRI (c198_23 n k23 l0 l1 l2 l3 l4 M) r M1 → Q r M1) : zWP 198 23 [some (.ref l0), some (.ref l1), some (.ref l2), some (.ref l3), some (.int l4), none, none] [] M Q := by
  unfold c198_23 at hQ
  unfold d198_23 at hp
  refine wp_go 2 (pc' := 26) (L' := [some (.ref l0), some (.ref l1), some (.ref l2), some (.ref l3), some (.int l4), none, none]) (st' := [.ref l0, .int l4]) (M' := M) rfl ?_
  obtain ⟨hc, hp⟩ := hp
  refine wq_alen rfl hc ?_
  refine wp_go 2 (pc' := 30) (L' := [some (.ref l0), some (.ref l1), some (.ref l2), some (.ref l3), some (.int l4), none, none]) (st' := [.int ((Int32.ofNat (zS M l0).2) - (6 : Int32)), .int l4]) (M' := M) rfl ?_
  refine wp_ic_gt (t := 1249) rfl rfl (fun hc => ?_) (fun hc => ?_)
  · rw [if_pos hc] at hQ
    replace hp := hp.1 hc
    refine wp_go 1 (pc' := 1250) (L' := [some (.ref l0), some (.ref l1), some (.ref l2), some (.ref l3), some (.int l4), none, none]) (st' := [.int (1 : Int32)]) (M' := M) rfl ?_
    exact wp_ret (r := some (.int (1 : Int32))) rfl rfl (hQ _ _ ⟨rfl, rfl⟩)
  · rw [if_neg hc] at hQ
    replace hp := hp.2 hc
    refine wp_go 2 (pc' := 36) (L' := [some (.ref l0), some (.ref l1), some (.ref l2), some (.ref l3), some (.int l4), none, none]) (st' := [.int l4, .ref l0]) (M' := M) rfl ?_
    obtain ⟨hc, hp⟩ := hp
    refine wq_iald rfl hc ?_
    refine wp_go 2 (pc' := 40) (L' := [some (.ref l0), some (.ref l1), some (.ref l2), some (.ref l3), some (.int l4), none, none]) (st' := [.int ((zI M l0 l4.toNatClampNeg) &&& (31 : Int32))]) (M' := M) rfl ?_
    by_cases hc0 : ((zI M l0 l4.toNatClampNeg) &&& (31 : Int32)) = 0
    · rw [if_pos hc0] at hQ
      replace hp := hp.1 hc0
      refine wp_tabI rfl hc0 (t := 164) rfl ?_
      refine wp_go 5 (pc' := 170) (L' := [some (.ref l0), some (.ref l1), some (.ref l2), some (.ref l3), some (.int l4), none, none]) (st' := [.int (l4 + (1 : Int32)), .ref l0, .ref l1]) (M' := M) rfl ?_
      obtain ⟨hc, hp⟩ := hp
      refine wq_iald rfl hc ?_
      obtain ⟨hv, hp⟩ := hp
      obtain ⟨hc, hp⟩ := hp
      refine wp_calli (v := (b62_0 n l1 (zI M l0 (l4 + (1 : Int32)).toNatClampNeg) M).1) (M1 := (b62_0 n l1 (zI M l0 (l4 + (1 : Int32)).toNatClampNeg) M).2) rfl rfl rfl (zInv_v (np := 1) rfl rfl hv rfl) (s62_0 n l1 (zI M l0 (l4 + (1 : Int32)).toNatClampNeg) M hc (fun r M1 h => h)) ?_
      exact s198_174 n k23 q23 h23 l0 l1 l2 l3 l4 (b62_0 n l1 (zI M l0 (l4 + (1 : Int32)).toNatClampNeg) M).1 (b62_0 n l1 (zI M l0 (l4 + (1 : Int32)).toNatClampNeg) M).2 hp hQ
    rw [if_neg hc0] at hQ
    replace hp := hp.2 hc0
    by_cases hc1 : ((zI M l0 l4.toNatClampNeg) &&& (31 : Int32)) = 1
    · rw [if_pos hc1] at hQ
      replace hp := hp.1 hc1
      refine wp_tabI rfl hc1 (t := 189) rfl ?_
      refine wp_go 5 (pc' := 195) (L' := [some (.ref l0), some (.ref l1), some (.ref l2), some (.ref l3), some (.int l4), none, none]) (st' := [.int (l4 + (1 : Int32)), .ref l0, .ref l1]) (M' := M) rfl ?_
      obtain ⟨hc, hp⟩ := hp
      refine wq_iald rfl hc ?_
      refine wp_go 4 (pc' := 201) (L' := [some (.ref l0), some (.ref l1), some (.ref l2), some (.ref l3), some (.int l4), none, none]) (st' := [.int (l4 + (2 : Int32)), .ref l0, .int (zI M l0 (l4 + (1 : Int32)).toNatClampNeg), .ref l1]) (M' := M) rfl ?_
      obtain ⟨hc, hp⟩ := hp
      refine wq_iald rfl hc ?_
      refine wp_go 4 (pc' := 207) (L' := [some (.ref l0), some (.ref l1), some (.ref l2), some (.ref l3), some (.int l4), none, none]) (st' := [.int (l4 + (3 : Int32)), .ref l0, .int (zI M l0 (l4 + (2 : Int32)).toNatClampNeg), .int (zI M l0 (l4 + (1 : Int32)).toNatClampNeg), .ref l1]) (M' := M) rfl ?_
      obtain ⟨hc, hp⟩ := hp
      refine wq_iald rfl hc ?_
      obtain ⟨hv, hp⟩ := hp
      obtain ⟨hc, hp⟩ := hp
      refine wp_calli (v := (b63_0 n l1 (zI M l0 (l4 + (1 : Int32)).toNatClampNeg) (zI M l0 (l4 + (2 : Int32)).toNatClampNeg) (zI M l0 (l4 + (3 : Int32)).toNatClampNeg) M).1) (M1 := (b63_0 n l1 (zI M l0 (l4 + (1 : Int32)).toNatClampNeg) (zI M l0 (l4 + (2 : Int32)).toNatClampNeg) (zI M l0 (l4 + (3 : Int32)).toNatClampNeg) M).2) rfl rfl rfl (zInv_v (np := 3) rfl rfl hv rfl) (s63_0 n l1 (zI M l0 (l4 + (1 : Int32)).toNatClampNeg) (zI M l0 (l4 + (2 : Int32)).toNatClampNeg) (zI M l0 (l4 + (3 : Int32)).toNatClampNeg) M hc (fun r M1 h => h)) ?_
      exact s198_211 n k23 q23 h23 l0 l1 l2 l3 l4 (b63_0 n l1 (zI M l0 (l4 + (1 : Int32)).toNatClampNeg) (zI M l0 (l4 + (2 : Int32)).toNatClampNeg) (zI M l0 (l4 + (3 : Int32)).toNatClampNeg) M).1 (b63_0 n l1 (zI M l0 (l4 + (1 : Int32)).toNatClampNeg) (zI M l0 (l4 + (2 : Int32)).toNatClampNeg) (zI M l0 (l4 + (3 : Int32)).toNatClampNeg) M).2 hp hQ
    rw [if_neg hc1] at hQ
    replace hp := hp.2 hc1
    by_cases hc2 : ((zI M l0 l4.toNatClampNeg) &&& (31 : Int32)) = 2
    · rw [if_pos hc2] at hQ
      replace hp := hp.1 hc2
      refine wp_tabI rfl hc2 (t := 238) rfl ?_
      refine wp_go 5 (pc' := 244) (L' := [some (.ref l0), some (.ref l1), some (.ref l2), some (.ref l3), some (.int l4), none, none]) (st' := [.int (l4 + (1 : Int32)), .ref l0, .ref l1]) (M' := M) rfl ?_
      obtain ⟨hc, hp⟩ := hp
      refine wq_iald rfl hc ?_
      obtain ⟨hv, hp⟩ := hp
      obtain ⟨hc, hp⟩ := hp
      refine wp_calli (v := (b64_0 n l1 (zI M l0 (l4 + (1 : Int32)).toNatClampNeg) M).1) (M1 := (b64_0 n l1 (zI M l0 (l4 + (1 : Int32)).toNatClampNeg) M).2) rfl rfl rfl (zInv_v (np := 1) rfl rfl hv rfl) (s64_0 n l1 (zI M l0 (l4 + (1 : Int32)).toNatClampNeg) M hc (fun r M1 h => h)) ?_
      exact s198_248 n k23 q23 h23 l0 l1 l2 l3 l4 (b64_0 n l1 (zI M l0 (l4 + (1 : Int32)).toNatClampNeg) M).1 (b64_0 n l1 (zI M l0 (l4 + (1 : Int32)).toNatClampNeg) M).2 hp hQ
    rw [if_neg hc2] at hQ
    replace hp := hp.2 hc2
    by_cases hc3 : ((zI M l0 l4.toNatClampNeg) &&& (31 : Int32)) = 3
    · rw [if_pos hc3] at hQ
      replace hp := hp.1 hc3
      refine wp_tabI rfl hc3 (t := 263) rfl ?_
      refine wp_go 5 (pc' := 269) (L' := [some (.ref l0), some (.ref l1), some (.ref l2), some (.ref l3), some (.int l4), none, none]) (st' := [.int (l4 + (1 : Int32)), .ref l0, .ref l1]) (M' := M) rfl ?_
      obtain ⟨hc, hp⟩ := hp
      refine wq_iald rfl hc ?_
      refine wp_go 4 (pc' := 275) (L' := [some (.ref l0), some (.ref l1), some (.ref l2), some (.ref l3), some (.int l4), none, none]) (st' := [.int (l4 + (2 : Int32)), .ref l0, .int (zI M l0 (l4 + (1 : Int32)).toNatClampNeg), .ref l1]) (M' := M) rfl ?_
      obtain ⟨hc, hp⟩ := hp
      refine wq_iald rfl hc ?_
      refine wp_go 4 (pc' := 281) (L' := [some (.ref l0), some (.ref l1), some (.ref l2), some (.ref l3), some (.int l4), none, none]) (st' := [.int (l4 + (3 : Int32)), .ref l0, .int (zI M l0 (l4 + (2 : Int32)).toNatClampNeg), .int (zI M l0 (l4 + (1 : Int32)).toNatClampNeg), .ref l1]) (M' := M) rfl ?_
      obtain ⟨hc, hp⟩ := hp
      refine wq_iald rfl hc ?_
      refine wp_if_eq (t := 289) rfl rfl (fun hc => ?_) (fun hc => ?_)
      · rw [if_pos hc] at hQ
        replace hp := hp.1 hc
        refine wp_go 1 (pc' := 290) (L' := [some (.ref l0), some (.ref l1), some (.ref l2), some (.ref l3), some (.int l4), none, none]) (st' := [.int (0 : Int32), .int (zI M l0 (l4 + (2 : Int32)).toNatClampNeg), .int (zI M l0 (l4 + (1 : Int32)).toNatClampNeg), .ref l1]) (M' := M) rfl ?_
        exact s198_290 n k23 q23 h23 l0 l1 l2 l3 l4 l1 (zI M l0 (l4 + (1 : Int32)).toNatClampNeg) (zI M l0 (l4 + (2 : Int32)).toNatClampNeg) (0 : Int32) M hp hQ
      · rw [if_neg hc] at hQ
        replace hp := hp.2 hc
        refine wp_go 2 (pc' := 290) (L' := [some (.ref l0), some (.ref l1), some (.ref l2), some (.ref l3), some (.int l4), none, none]) (st' := [.int (1 : Int32), .int (zI M l0 (l4 + (2 : Int32)).toNatClampNeg), .int (zI M l0 (l4 + (1 : Int32)).toNatClampNeg), .ref l1]) (M' := M) rfl ?_
        exact s198_290 n k23 q23 h23 l0 l1 l2 l3 l4 l1 (zI M l0 (l4 + (1 : Int32)).toNatClampNeg) (zI M l0 (l4 + (2 : Int32)).toNatClampNeg) (1 : Int32) M hp hQ
    rw [if_neg hc3] at hQ
    replace hp := hp.2 hc3
    by_cases hc4 : ((zI M l0 l4.toNatClampNeg) &&& (31 : Int32)) = 4
    · rw [if_pos hc4] at hQ
      replace hp := hp.1 hc4
      refine wp_tabI rfl hc4 (t := 328) rfl ?_
      refine wp_go 5 (pc' := 334) (L' := [some (.ref l0), some (.ref l1), some (.ref l2), some (.ref l3), some (.int l4), none, none]) (st' := [.int (l4 + (1 : Int32)), .ref l0, .ref l1]) (M' := M) rfl ?_
      obtain ⟨hc, hp⟩ := hp
      refine wq_iald rfl hc ?_
      refine wp_go 4 (pc' := 340) (L' := [some (.ref l0), some (.ref l1), some (.ref l2), some (.ref l3), some (.int l4), none, none]) (st' := [.int (l4 + (2 : Int32)), .ref l0, .int (zI M l0 (l4 + (1 : Int32)).toNatClampNeg), .ref l1]) (M' := M) rfl ?_
      obtain ⟨hc, hp⟩ := hp
      refine wq_iald rfl hc ?_
      refine wp_go 4 (pc' := 346) (L' := [some (.ref l0), some (.ref l1), some (.ref l2), some (.ref l3), some (.int l4), none, none]) (st' := [.int (l4 + (3 : Int32)), .ref l0, .int (zI M l0 (l4 + (2 : Int32)).toNatClampNeg), .int (zI M l0 (l4 + (1 : Int32)).toNatClampNeg), .ref l1]) (M' := M) rfl ?_
      obtain ⟨hc, hp⟩ := hp
      refine wq_iald rfl hc ?_
      obtain ⟨hv, hp⟩ := hp
      obtain ⟨hc, hp⟩ := hp
      refine wp_calli (v := (b66_0 n l1 (zI M l0 (l4 + (1 : Int32)).toNatClampNeg) (zI M l0 (l4 + (2 : Int32)).toNatClampNeg) (zI M l0 (l4 + (3 : Int32)).toNatClampNeg) M).1) (M1 := (b66_0 n l1 (zI M l0 (l4 + (1 : Int32)).toNatClampNeg) (zI M l0 (l4 + (2 : Int32)).toNatClampNeg) (zI M l0 (l4 + (3 : Int32)).toNatClampNeg) M).2) rfl rfl rfl (zInv_v (np := 3) rfl rfl hv rfl) (s66_0 n l1 (zI M l0 (l4 + (1 : Int32)).toNatClampNeg) (zI M l0 (l4 + (2 : Int32)).toNatClampNeg) (zI M l0 (l4 + (3 : Int32)).toNatClampNeg) M hc (fun r M1 h => h)) ?_
      exact s198_350 n k23 q23 h23 l0 l1 l2 l3 l4 (b66_0 n l1 (zI M l0 (l4 + (1 : Int32)).toNatClampNeg) (zI M l0 (l4 + (2 : Int32)).toNatClampNeg) (zI M l0 (l4 + (3 : Int32)).toNatClampNeg) M).1 (b66_0 n l1 (zI M l0 (l4 + (1 : Int32)).toNatClampNeg) (zI M l0 (l4 + (2 : Int32)).toNatClampNeg) (zI M l0 (l4 + (3 : Int32)).toNatClampNeg) M).2 hp hQ
    rw [if_neg hc4] at hQ
    replace hp := hp.2 hc4
    by_cases hc5 : ((zI M l0 l4.toNatClampNeg) &&& (31 : Int32)) = 5
    · rw [if_pos hc5] at hQ
      replace hp := hp.1 hc5
      refine wp_tabI rfl hc5 (t := 377) rfl ?_
      refine wp_go 5 (pc' := 383) (L' := [some (.ref l0), some (.ref l1), some (.ref l2), some (.ref l3), some (.int l4), none, none]) (st' := [.int (l4 + (1 : Int32)), .ref l0, .ref l1]) (M' := M) rfl ?_
      obtain ⟨hc, hp⟩ := hp
      refine wq_iald rfl hc ?_
      refine wp_go 4 (pc' := 389) (L' := [some (.ref l0), some (.ref l1), some (.ref l2), some (.ref l3), some (.int l4), none, none]) (st' := [.int (l4 + (2 : Int32)), .ref l0, .int (zI M l0 (l4 + (1 : Int32)).toNatClampNeg), .ref l1]) (M' := M) rfl ?_
      obtain ⟨hc, hp⟩ := hp
      refine wq_iald rfl hc ?_
      obtain ⟨hv, hp⟩ := hp
      obtain ⟨hc, hp⟩ := hp
      refine wp_calli (v := (b67_0 n l1 (zI M l0 (l4 + (1 : Int32)).toNatClampNeg) (zI M l0 (l4 + (2 : Int32)).toNatClampNeg) M).1) (M1 := (b67_0 n l1 (zI M l0 (l4 + (1 : Int32)).toNatClampNeg) (zI M l0 (l4 + (2 : Int32)).toNatClampNeg) M).2) rfl rfl rfl (zInv_v (np := 2) rfl rfl hv rfl) (s67_0 n l1 (zI M l0 (l4 + (1 : Int32)).toNatClampNeg) (zI M l0 (l4 + (2 : Int32)).toNatClampNeg) M hc (fun r M1 h => h)) ?_
      exact s198_393 n k23 q23 h23 l0 l1 l2 l3 l4 (b67_0 n l1 (zI M l0 (l4 + (1 : Int32)).toNatClampNeg) (zI M l0 (l4 + (2 : Int32)).toNatClampNeg) M).1 (b67_0 n l1 (zI M l0 (l4 + (1 : Int32)).toNatClampNeg) (zI M l0 (l4 + (2 : Int32)).toNatClampNeg) M).2 hp hQ
    rw [if_neg hc5] at hQ
    replace hp := hp.2 hc5
    by_cases hc6 : ((zI M l0 l4.toNatClampNeg) &&& (31 : Int32)) = 6
    · rw [if_pos hc6] at hQ
      replace hp := hp.1 hc6
      refine wp_tabI rfl hc6 (t := 414) rfl ?_
      refine wp_go 5 (pc' := 420) (L' := [some (.ref l0), some (.ref l1), some (.ref l2), some (.ref l3), some (.int l4), none, none]) (st' := [.int (l4 + (1 : Int32)), .ref l0, .ref l1]) (M' := M) rfl ?_
      obtain ⟨hc, hp⟩ := hp
      refine wq_iald rfl hc ?_
      refine wp_go 4 (pc' := 426) (L' := [some (.ref l0), some (.ref l1), some (.ref l2), some (.ref l3), some (.int l4), none, none]) (st' := [.int (l4 + (2 : Int32)), .ref l0, .int (zI M l0 (l4 + (1 : Int32)).toNatClampNeg), .ref l1]) (M' := M) rfl ?_
      obtain ⟨hc, hp⟩ := hp
      refine wq_iald rfl hc ?_
      obtain ⟨hv, hp⟩ := hp
      obtain ⟨hc, hp⟩ := hp
      refine wp_calli (v := (b68_0 n l1 (zI M l0 (l4 + (1 : Int32)).toNatClampNeg) (zI M l0 (l4 + (2 : Int32)).toNatClampNeg) M).1) (M1 := (b68_0 n l1 (zI M l0 (l4 + (1 : Int32)).toNatClampNeg) (zI M l0 (l4 + (2 : Int32)).toNatClampNeg) M).2) rfl rfl rfl (zInv_v (np := 2) rfl rfl hv rfl) (s68_0 n l1 (zI M l0 (l4 + (1 : Int32)).toNatClampNeg) (zI M l0 (l4 + (2 : Int32)).toNatClampNeg) M hc (fun r M1 h => h)) ?_
      exact s198_430 n k23 q23 h23 l0 l1 l2 l3 l4 (b68_0 n l1 (zI M l0 (l4 + (1 : Int32)).toNatClampNeg) (zI M l0 (l4 + (2 : Int32)).toNatClampNeg) M).1 (b68_0 n l1 (zI M l0 (l4 + (1 : Int32)).toNatClampNeg) (zI M l0 (l4 + (2 : Int32)).toNatClampNeg) M).2 hp hQ
    rw [if_neg hc6] at hQ
    replace hp := hp.2 hc6
    by_cases hc7 : ((zI M l0 l4.toNatClampNeg) &&& (31 : Int32)) = 7
    · rw [if_pos hc7] at hQ
      replace hp := hp.1 hc7
      refine wp_tabI rfl hc7 (t := 451) rfl ?_
      refine wp_go 5 (pc' := 457) (L' := [some (.ref l0), some (.ref l1), some (.ref l2), some (.ref l3), some (.int l4), none, none]) (st' := [.int (l4 + (1 : Int32)), .ref l0, .ref l1]) (M' := M) rfl ?_
      obtain ⟨hc, hp⟩ := hp
      refine wq_iald rfl hc ?_
      refine wp_go 4 (pc' := 463) (L' := [some (.ref l0), some (.ref l1), some (.ref l2), some (.ref l3), some (.int l4), none, none]) (st' := [.int (l4 + (2 : Int32)), .ref l0, .int (zI M l0 (l4 + (1 : Int32)).toNatClampNeg), .ref l1]) (M' := M) rfl ?_
      obtain ⟨hc, hp⟩ := hp
      refine wq_iald rfl hc ?_
      obtain ⟨hv, hp⟩ := hp
      obtain ⟨hc, hp⟩ := hp
      refine wp_calli (v := (b69_0 n l1 (zI M l0 (l4 + (1 : Int32)).toNatClampNeg) (zI M l0 (l4 + (2 : Int32)).toNatClampNeg) M).1) (M1 := (b69_0 n l1 (zI M l0 (l4 + (1 : Int32)).toNatClampNeg) (zI M l0 (l4 + (2 : Int32)).toNatClampNeg) M).2) rfl rfl rfl (zInv_v (np := 2) rfl rfl hv rfl) (s69_0 n l1 (zI M l0 (l4 + (1 : Int32)).toNatClampNeg) (zI M l0 (l4 + (2 : Int32)).toNatClampNeg) M hc (fun r M1 h => h)) ?_
      exact s198_467 n k23 q23 h23 l0 l1 l2 l3 l4 (b69_0 n l1 (zI M l0 (l4 + (1 : Int32)).toNatClampNeg) (zI M l0 (l4 + (2 : Int32)).toNatClampNeg) M).1 (b69_0 n l1 (zI M l0 (l4 + (1 : Int32)).toNatClampNeg) (zI M l0 (l4 + (2 : Int32)).toNatClampNeg) M).2 hp hQ
    rw [if_neg hc7] at hQ
    replace hp := hp.2 hc7
    by_cases hc8 : ((zI M l0 l4.toNatClampNeg) &&& (31 : Int32)) = 8
    · rw [if_pos hc8] at hQ
      replace hp := hp.1 hc8
      refine wp_tabI rfl hc8 (t := 488) rfl ?_
      refine wp_go 5 (pc' := 494) (L' := [some (.ref l0), some (.ref l1), some (.ref l2), some (.ref l3), some (.int l4), none, none]) (st' := [.int (l4 + (1 : Int32)), .ref l0, .ref l1]) (M' := M) rfl ?_
      obtain ⟨hc, hp⟩ := hp
      refine wq_iald rfl hc ?_
      refine wp_go 4 (pc' := 500) (L' := [some (.ref l0), some (.ref l1), some (.ref l2), some (.ref l3), some (.int l4), none, none]) (st' := [.int (l4 + (2 : Int32)), .ref l0, .int (zI M l0 (l4 + (1 : Int32)).toNatClampNeg), .ref l1]) (M' := M) rfl ?_
      obtain ⟨hc, hp⟩ := hp
      refine wq_iald rfl hc ?_
      refine wp_go 1 (pc' := 502) (L' := [some (.ref l0), some (.ref l1), some (.ref l2), some (.ref l3), some (.int l4), none, none]) (st' := [.ref l3, .int (zI M l0 (l4 + (2 : Int32)).toNatClampNeg), .int (zI M l0 (l4 + (1 : Int32)).toNatClampNeg), .ref l1]) (M' := M) rfl ?_
      obtain ⟨hv, hp⟩ := hp
      obtain ⟨hc, hp⟩ := hp
      refine wp_spc (z := 70) (as := [.ref l1, .int (zI M l0 (l4 + (1 : Int32)).toNatClampNeg), .int (zI M l0 (l4 + (2 : Int32)).toNatClampNeg)]) (o := l3) (rest := []) (v := (b70_0 n l1 (zI M l0 (l4 + (1 : Int32)).toNatClampNeg) (zI M l0 (l4 + (2 : Int32)).toNatClampNeg) M).1) (q := (b70_0 n l1 (zI M l0 (l4 + (1 : Int32)).toNatClampNeg) (zI M l0 (l4 + (2 : Int32)).toNatClampNeg) M).2.1) (M1 := (b70_0 n l1 (zI M l0 (l4 + (1 : Int32)).toNatClampNeg) (zI M l0 (l4 + (2 : Int32)).toNatClampNeg) M).2.2) rfl rfl (by simp only [zSpc, if_true]; exact if_pos ⟨trivial, hv.1, hv.2, by decide⟩) (s70_0 n l1 (zI M l0 (l4 + (1 : Int32)).toNatClampNeg) (zI M l0 (l4 + (2 : Int32)).toNatClampNeg) M hc (fun r M1 h => h)) ?_
      exact s198_505 n k23 q23 h23 l0 l1 l2 l3 l4 (nI (b70_0 n l1 (zI M l0 (l4 + (1 : Int32)).toNatClampNeg) (zI M l0 (l4 + (2 : Int32)).toNatClampNeg) M).2.1) (if (b70_0 n l1 (zI M l0 (l4 + (1 : Int32)).toNatClampNeg) (zI M l0 (l4 + (2 : Int32)).toNatClampNeg) M).2.1 = 0 then zWJ (b70_0 n l1 (zI M l0 (l4 + (1 : Int32)).toNatClampNeg) (zI M l0 (l4 + (2 : Int32)).toNatClampNeg) M).2.2 l3 0 (b70_0 n l1 (zI M l0 (l4 + (1 : Int32)).toNatClampNeg) (zI M l0 (l4 + (2 : Int32)).toNatClampNeg) M).1.toInt64 else (b70_0 n l1 (zI M l0 (l4 + (1 : Int32)).toNatClampNeg) (zI M l0 (l4 + (2 : Int32)).toNatClampNeg) M).2.2) hp hQ
    rw [if_neg hc8] at hQ
    replace hp := hp.2 hc8
    by_cases hc9 : ((zI M l0 l4.toNatClampNeg) &&& (31 : Int32)) = 9
    · rw [if_pos hc9] at hQ
      replace hp := hp.1 hc9
      refine wp_tabI rfl hc9 (t := 556) rfl ?_
      refine wp_go 5 (pc' := 562) (L' := [some (.ref l0), some (.ref l1), some (.ref l2), some (.ref l3), some (.int l4), none, none]) (st' := [.int (l4 + (1 : Int32)), .ref l0, .ref l1]) (M' := M) rfl ?_
      obtain ⟨hc, hp⟩ := hp
      refine wq_iald rfl hc ?_
      refine wp_go 4 (pc' := 568) (L' := [some (.ref l0), some (.ref l1), some (.ref l2), some (.ref l3), some (.int l4), none, none]) (st' := [.int (l4 + (2 : Int32)), .ref l0, .int (zI M l0 (l4 + (1 : Int32)).toNatClampNeg), .ref l1]) (M' := M) rfl ?_
      obtain ⟨hc, hp⟩ := hp
      refine wq_iald rfl hc ?_
      refine wp_go 4 (pc' := 574) (L' := [some (.ref l0), some (.ref l1), some (.ref l2), some (.ref l3), some (.int l4), none, none]) (st' := [.int (l4 + (3 : Int32)), .ref l0, .int (zI M l0 (l4 + (2 : Int32)).toNatClampNeg), .int (zI M l0 (l4 + (1 : Int32)).toNatClampNeg), .ref l1]) (M' := M) rfl ?_
      obtain ⟨hc, hp⟩ := hp
      refine wq_iald rfl hc ?_
      refine wp_go 1 (pc' := 576) (L' := [some (.ref l0), some (.ref l1), some (.ref l2), some (.ref l3), some (.int l4), none, none]) (st' := [.ref l3, .int (zI M l0 (l4 + (3 : Int32)).toNatClampNeg), .int (zI M l0 (l4 + (2 : Int32)).toNatClampNeg), .int (zI M l0 (l4 + (1 : Int32)).toNatClampNeg), .ref l1]) (M' := M) rfl ?_
      obtain ⟨hv, hp⟩ := hp
      obtain ⟨hc, hp⟩ := hp
      refine wp_spc (z := 71) (as := [.ref l1, .int (zI M l0 (l4 + (1 : Int32)).toNatClampNeg), .int (zI M l0 (l4 + (2 : Int32)).toNatClampNeg), .int (zI M l0 (l4 + (3 : Int32)).toNatClampNeg)]) (o := l3) (rest := []) (v := (b71_0 n l1 (zI M l0 (l4 + (1 : Int32)).toNatClampNeg) (zI M l0 (l4 + (2 : Int32)).toNatClampNeg) (zI M l0 (l4 + (3 : Int32)).toNatClampNeg) M).1) (q := (b71_0 n l1 (zI M l0 (l4 + (1 : Int32)).toNatClampNeg) (zI M l0 (l4 + (2 : Int32)).toNatClampNeg) (zI M l0 (l4 + (3 : Int32)).toNatClampNeg) M).2.1) (M1 := (b71_0 n l1 (zI M l0 (l4 + (1 : Int32)).toNatClampNeg) (zI M l0 (l4 + (2 : Int32)).toNatClampNeg) (zI M l0 (l4 + (3 : Int32)).toNatClampNeg) M).2.2) rfl rfl (by simp only [zSpc, if_true]; exact if_pos ⟨trivial, hv.1, hv.2, by decide⟩) (s71_0 n l1 (zI M l0 (l4 + (1 : Int32)).toNatClampNeg) (zI M l0 (l4 + (2 : Int32)).toNatClampNeg) (zI M l0 (l4 + (3 : Int32)).toNatClampNeg) M hc (fun r M1 h => h)) ?_
      exact s198_579 n k23 q23 h23 l0 l1 l2 l3 l4 (nI (b71_0 n l1 (zI M l0 (l4 + (1 : Int32)).toNatClampNeg) (zI M l0 (l4 + (2 : Int32)).toNatClampNeg) (zI M l0 (l4 + (3 : Int32)).toNatClampNeg) M).2.1) (if (b71_0 n l1 (zI M l0 (l4 + (1 : Int32)).toNatClampNeg) (zI M l0 (l4 + (2 : Int32)).toNatClampNeg) (zI M l0 (l4 + (3 : Int32)).toNatClampNeg) M).2.1 = 0 then zWJ (b71_0 n l1 (zI M l0 (l4 + (1 : Int32)).toNatClampNeg) (zI M l0 (l4 + (2 : Int32)).toNatClampNeg) (zI M l0 (l4 + (3 : Int32)).toNatClampNeg) M).2.2 l3 0 (b71_0 n l1 (zI M l0 (l4 + (1 : Int32)).toNatClampNeg) (zI M l0 (l4 + (2 : Int32)).toNatClampNeg) (zI M l0 (l4 + (3 : Int32)).toNatClampNeg) M).1.toInt64 else (b71_0 n l1 (zI M l0 (l4 + (1 : Int32)).toNatClampNeg) (zI M l0 (l4 + (2 : Int32)).toNatClampNeg) (zI M l0 (l4 + (3 : Int32)).toNatClampNeg) M).2.2) hp hQ
    rw [if_neg hc9] at hQ
    replace hp := hp.2 hc9
    by_cases hc10 : ((zI M l0 l4.toNatClampNeg) &&& (31 : Int32)) = 10
    · rw [if_pos hc10] at hQ
      replace hp := hp.1 hc10
      refine wp_tabI rfl hc10 (t := 636) rfl ?_
      refine wp_go 5 (pc' := 642) (L' := [some (.ref l0), some (.ref l1), some (.ref l2), some (.ref l3), some (.int l4), none, none]) (st' := [.int (l4 + (1 : Int32)), .ref l0, .ref l1]) (M' := M) rfl ?_
      obtain ⟨hc, hp⟩ := hp
      refine wq_iald rfl hc ?_
      refine wp_go 4 (pc' := 648) (L' := [some (.ref l0), some (.ref l1), some (.ref l2), some (.ref l3), some (.int l4), none, none]) (st' := [.int (l4 + (2 : Int32)), .ref l0, .int (zI M l0 (l4 + (1 : Int32)).toNatClampNeg), .ref l1]) (M' := M) rfl ?_
      obtain ⟨hc, hp⟩ := hp
      refine wq_iald rfl hc ?_
      obtain ⟨hv, hp⟩ := hp
      obtain ⟨hc, hp⟩ := hp
      refine wp_calll (v := (b72_0 n l1 (zI M l0 (l4 + (1 : Int32)).toNatClampNeg) (zI M l0 (l4 + (2 : Int32)).toNatClampNeg) M).1) (M1 := (b72_0 n l1 (zI M l0 (l4 + (1 : Int32)).toNatClampNeg) (zI M l0 (l4 + (2 : Int32)).toNatClampNeg) M).2) rfl rfl rfl (zInv_v (np := 2) rfl rfl hv rfl) (s72_0 n l1 (zI M l0 (l4 + (1 : Int32)).toNatClampNeg) (zI M l0 (l4 + (2 : Int32)).toNatClampNeg) M hc (fun r M1 h => h)) ?_
      exact s198_652 n k23 q23 h23 l0 l1 l2 l3 l4 (b72_0 n l1 (zI M l0 (l4 + (1 : Int32)).toNatClampNeg) (zI M l0 (l4 + (2 : Int32)).toNatClampNeg) M).1 (b72_0 n l1 (zI M l0 (l4 + (1 : Int32)).toNatClampNeg) (zI M l0 (l4 + (2 : Int32)).toNatClampNeg) M).2 hp hQ
    rw [if_neg hc10] at hQ
    replace hp := hp.2 hc10
    by_cases hc11 : ((zI M l0 l4.toNatClampNeg) &&& (31 : Int32)) = 11
    · rw [if_pos hc11] at hQ
      replace hp := hp.1 hc11
      refine wp_tabI rfl hc11 (t := 674) rfl ?_
      refine wp_go 5 (pc' := 680) (L' := [some (.ref l0), some (.ref l1), some (.ref l2), some (.ref l3), some (.int l4), none, none]) (st' := [.int (l4 + (1 : Int32)), .ref l0, .ref l1]) (M' := M) rfl ?_
      obtain ⟨hc, hp⟩ := hp
      refine wq_iald rfl hc ?_
      refine wp_go 4 (pc' := 686) (L' := [some (.ref l0), some (.ref l1), some (.ref l2), some (.ref l3), some (.int l4), none, none]) (st' := [.int (l4 + (2 : Int32)), .ref l0, .int (zI M l0 (l4 + (1 : Int32)).toNatClampNeg), .ref l1]) (M' := M) rfl ?_
      obtain ⟨hc, hp⟩ := hp
      refine wq_iald rfl hc ?_
      refine wp_go 4 (pc' := 692) (L' := [some (.ref l0), some (.ref l1), some (.ref l2), some (.ref l3), some (.int l4), none, none]) (st' := [.int (l4 + (3 : Int32)), .ref l0, .int (zI M l0 (l4 + (2 : Int32)).toNatClampNeg), .int (zI M l0 (l4 + (1 : Int32)).toNatClampNeg), .ref l1]) (M' := M) rfl ?_
      obtain ⟨hc, hp⟩ := hp
      refine wq_iald rfl hc ?_
      refine wp_go 4 (pc' := 698) (L' := [some (.ref l0), some (.ref l1), some (.ref l2), some (.ref l3), some (.int l4), none, none]) (st' := [.int (l4 + (4 : Int32)), .ref l0, .int (zI M l0 (l4 + (3 : Int32)).toNatClampNeg), .int (zI M l0 (l4 + (2 : Int32)).toNatClampNeg), .int (zI M l0 (l4 + (1 : Int32)).toNatClampNeg), .ref l1]) (M' := M) rfl ?_
      obtain ⟨hc, hp⟩ := hp
      refine wq_iald rfl hc ?_
      refine wp_go 4 (pc' := 704) (L' := [some (.ref l0), some (.ref l1), some (.ref l2), some (.ref l3), some (.int l4), none, none]) (st' := [.int (l4 + (5 : Int32)), .ref l0, .int (zI M l0 (l4 + (4 : Int32)).toNatClampNeg), .int (zI M l0 (l4 + (3 : Int32)).toNatClampNeg), .int (zI M l0 (l4 + (2 : Int32)).toNatClampNeg), .int (zI M l0 (l4 + (1 : Int32)).toNatClampNeg), .ref l1]) (M' := M) rfl ?_
      obtain ⟨hc, hp⟩ := hp
      refine wq_iald rfl hc ?_
      obtain ⟨hv, hp⟩ := hp
      obtain ⟨hc, hp⟩ := hp
      refine wp_calli (v := (b73_0 n l1 (zI M l0 (l4 + (1 : Int32)).toNatClampNeg) (zI M l0 (l4 + (2 : Int32)).toNatClampNeg) (zI M l0 (l4 + (3 : Int32)).toNatClampNeg) (zI M l0 (l4 + (4 : Int32)).toNatClampNeg) (zI M l0 (l4 + (5 : Int32)).toNatClampNeg) M).1) (M1 := (b73_0 n l1 (zI M l0 (l4 + (1 : Int32)).toNatClampNeg) (zI M l0 (l4 + (2 : Int32)).toNatClampNeg) (zI M l0 (l4 + (3 : Int32)).toNatClampNeg) (zI M l0 (l4 + (4 : Int32)).toNatClampNeg) (zI M l0 (l4 + (5 : Int32)).toNatClampNeg) M).2) rfl rfl rfl (zInv_v (np := 5) rfl rfl hv rfl) (s73_0 n l1 (zI M l0 (l4 + (1 : Int32)).toNatClampNeg) (zI M l0 (l4 + (2 : Int32)).toNatClampNeg) (zI M l0 (l4 + (3 : Int32)).toNatClampNeg) (zI M l0 (l4 + (4 : Int32)).toNatClampNeg) (zI M l0 (l4 + (5 : Int32)).toNatClampNeg) M hc (fun r M1 h => h)) ?_
      exact s198_708 n k23 q23 h23 l0 l1 l2 l3 l4 (b73_0 n l1 (zI M l0 (l4 + (1 : Int32)).toNatClampNeg) (zI M l0 (l4 + (2 : Int32)).toNatClampNeg) (zI M l0 (l4 + (3 : Int32)).toNatClampNeg) (zI M l0 (l4 + (4 : Int32)).toNatClampNeg) (zI M l0 (l4 + (5 : Int32)).toNatClampNeg) M).1 (b73_0 n l1 (zI M l0 (l4 + (1 : Int32)).toNatClampNeg) (zI M l0 (l4 + (2 : Int32)).toNatClampNeg) (zI M l0 (l4 + (3 : Int32)).toNatClampNeg) (zI M l0 (l4 + (4 : Int32)).toNatClampNeg) (zI M l0 (l4 + (5 : Int32)).toNatClampNeg) M).2 hp hQ
    rw [if_neg hc11] at hQ
    replace hp := hp.2 hc11
    by_cases hc12 : ((zI M l0 l4.toNatClampNeg) &&& (31 : Int32)) = 12
    · rw [if_pos hc12] at hQ
      replace hp := hp.1 hc12
      refine wp_tabI rfl hc12 (t := 747) rfl ?_
      refine wp_go 5 (pc' := 753) (L' := [some (.ref l0), some (.ref l1), some (.ref l2), some (.ref l3), some (.int l4), none, none]) (st' := [.int (l4 + (1 : Int32)), .ref l0, .ref l1]) (M' := M) rfl ?_
      obtain ⟨hc, hp⟩ := hp
      refine wq_iald rfl hc ?_
      obtain ⟨hv, hp⟩ := hp
      obtain ⟨hc, hp⟩ := hp
      refine wp_calli (v := (b74_0 n l1 (zI M l0 (l4 + (1 : Int32)).toNatClampNeg) M).1) (M1 := (b74_0 n l1 (zI M l0 (l4 + (1 : Int32)).toNatClampNeg) M).2) rfl rfl rfl (zInv_v (np := 1) rfl rfl hv rfl) (s74_0 n l1 (zI M l0 (l4 + (1 : Int32)).toNatClampNeg) M hc (fun r M1 h => h)) ?_
      exact s198_757 n k23 q23 h23 l0 l1 l2 l3 l4 (b74_0 n l1 (zI M l0 (l4 + (1 : Int32)).toNatClampNeg) M).1 (b74_0 n l1 (zI M l0 (l4 + (1 : Int32)).toNatClampNeg) M).2 hp hQ
    rw [if_neg hc12] at hQ
    replace hp := hp.2 hc12
    by_cases hc13 : ((zI M l0 l4.toNatClampNeg) &&& (31 : Int32)) = 13
    · rw [if_pos hc13] at hQ
      replace hp := hp.1 hc13
      refine wp_tabI rfl hc13 (t := 772) rfl ?_
      refine wp_go 5 (pc' := 778) (L' := [some (.ref l0), some (.ref l1), some (.ref l2), some (.ref l3), some (.int l4), none, none]) (st' := [.int (l4 + (1 : Int32)), .ref l0, .ref l1]) (M' := M) rfl ?_
      obtain ⟨hc, hp⟩ := hp
      refine wq_iald rfl hc ?_
      refine wp_go 4 (pc' := 784) (L' := [some (.ref l0), some (.ref l1), some (.ref l2), some (.ref l3), some (.int l4), none, none]) (st' := [.int (l4 + (2 : Int32)), .ref l0, .int (zI M l0 (l4 + (1 : Int32)).toNatClampNeg), .ref l1]) (M' := M) rfl ?_
      obtain ⟨hc, hp⟩ := hp
      refine wq_iald rfl hc ?_
      obtain ⟨hv, hp⟩ := hp
      obtain ⟨hc, hp⟩ := hp
      refine wp_calli (v := (b75_0 n l1 (zI M l0 (l4 + (1 : Int32)).toNatClampNeg) (zI M l0 (l4 + (2 : Int32)).toNatClampNeg) M).1) (M1 := (b75_0 n l1 (zI M l0 (l4 + (1 : Int32)).toNatClampNeg) (zI M l0 (l4 + (2 : Int32)).toNatClampNeg) M).2) rfl rfl rfl (zInv_v (np := 2) rfl rfl hv rfl) (s75_0 n l1 (zI M l0 (l4 + (1 : Int32)).toNatClampNeg) (zI M l0 (l4 + (2 : Int32)).toNatClampNeg) M hc (fun r M1 h => h)) ?_
      exact s198_788 n k23 q23 h23 l0 l1 l2 l3 l4 (b75_0 n l1 (zI M l0 (l4 + (1 : Int32)).toNatClampNeg) (zI M l0 (l4 + (2 : Int32)).toNatClampNeg) M).1 (b75_0 n l1 (zI M l0 (l4 + (1 : Int32)).toNatClampNeg) (zI M l0 (l4 + (2 : Int32)).toNatClampNeg) M).2 hp hQ
    rw [if_neg hc13] at hQ
    replace hp := hp.2 hc13
    by_cases hc14 : ((zI M l0 l4.toNatClampNeg) &&& (31 : Int32)) = 14
    · rw [if_pos hc14] at hQ
      replace hp := hp.1 hc14
      refine wp_tabI rfl hc14 (t := 809) rfl ?_
      refine wp_go 5 (pc' := 815) (L' := [some (.ref l0), some (.ref l1), some (.ref l2), some (.ref l3), some (.int l4), none, none]) (st' := [.int (l4 + (1 : Int32)), .ref l0, .ref l1]) (M' := M) rfl ?_
      obtain ⟨hc, hp⟩ := hp
      refine wq_iald rfl hc ?_
      refine wp_go 4 (pc' := 821) (L' := [some (.ref l0), some (.ref l1), some (.ref l2), some (.ref l3), some (.int l4), none, none]) (st' := [.int (l4 + (2 : Int32)), .ref l0, .int (zI M l0 (l4 + (1 : Int32)).toNatClampNeg), .ref l1]) (M' := M) rfl ?_
      obtain ⟨hc, hp⟩ := hp
      refine wq_iald rfl hc ?_
      obtain ⟨hv, hp⟩ := hp
      obtain ⟨hc, hp⟩ := hp
      refine wp_calli (v := (b76_0 n l1 (zI M l0 (l4 + (1 : Int32)).toNatClampNeg) (zI M l0 (l4 + (2 : Int32)).toNatClampNeg) M).1) (M1 := (b76_0 n l1 (zI M l0 (l4 + (1 : Int32)).toNatClampNeg) (zI M l0 (l4 + (2 : Int32)).toNatClampNeg) M).2) rfl rfl rfl (zInv_v (np := 2) rfl rfl hv rfl) (s76_0 n l1 (zI M l0 (l4 + (1 : Int32)).toNatClampNeg) (zI M l0 (l4 + (2 : Int32)).toNatClampNeg) M hc (fun r M1 h => h)) ?_
      exact s198_825 n k23 q23 h23 l0 l1 l2 l3 l4 (b76_0 n l1 (zI M l0 (l4 + (1 : Int32)).toNatClampNeg) (zI M l0 (l4 + (2 : Int32)).toNatClampNeg) M).1 (b76_0 n l1 (zI M l0 (l4 + (1 : Int32)).toNatClampNeg) (zI M l0 (l4 + (2 : Int32)).toNatClampNeg) M).2 hp hQ
    rw [if_neg hc14] at hQ
    replace hp := hp.2 hc14
    by_cases hc15 : ((zI M l0 l4.toNatClampNeg) &&& (31 : Int32)) = 15
    · rw [if_pos hc15] at hQ
      replace hp := hp.1 hc15
      refine wp_tabI rfl hc15 (t := 846) rfl ?_
      refine wp_go 5 (pc' := 852) (L' := [some (.ref l0), some (.ref l1), some (.ref l2), some (.ref l3), some (.int l4), none, none]) (st' := [.int (l4 + (1 : Int32)), .ref l0, .ref l1]) (M' := M) rfl ?_
      obtain ⟨hc, hp⟩ := hp
      refine wq_iald rfl hc ?_
      refine wp_go 4 (pc' := 858) (L' := [some (.ref l0), some (.ref l1), some (.ref l2), some (.ref l3), some (.int l4), none, none]) (st' := [.int (l4 + (2 : Int32)), .ref l0, .int (zI M l0 (l4 + (1 : Int32)).toNatClampNeg), .ref l1]) (M' := M) rfl ?_
      obtain ⟨hc, hp⟩ := hp
      refine wq_iald rfl hc ?_
      obtain ⟨hv, hp⟩ := hp
      obtain ⟨hc, hp⟩ := hp
      refine wp_calli (v := (b77_0 n l1 (zI M l0 (l4 + (1 : Int32)).toNatClampNeg) (zI M l0 (l4 + (2 : Int32)).toNatClampNeg) M).1) (M1 := (b77_0 n l1 (zI M l0 (l4 + (1 : Int32)).toNatClampNeg) (zI M l0 (l4 + (2 : Int32)).toNatClampNeg) M).2) rfl rfl rfl (zInv_v (np := 2) rfl rfl hv rfl) (s77_0 n l1 (zI M l0 (l4 + (1 : Int32)).toNatClampNeg) (zI M l0 (l4 + (2 : Int32)).toNatClampNeg) M hc (fun r M1 h => h)) ?_
      exact s198_862 n k23 q23 h23 l0 l1 l2 l3 l4 (b77_0 n l1 (zI M l0 (l4 + (1 : Int32)).toNatClampNeg) (zI M l0 (l4 + (2 : Int32)).toNatClampNeg) M).1 (b77_0 n l1 (zI M l0 (l4 + (1 : Int32)).toNatClampNeg) (zI M l0 (l4 + (2 : Int32)).toNatClampNeg) M).2 hp hQ
    rw [if_neg hc15] at hQ
    replace hp := hp.2 hc15
    by_cases hc16 : ((zI M l0 l4.toNatClampNeg) &&& (31 : Int32)) = 16
    · rw [if_pos hc16] at hQ
      replace hp := hp.1 hc16
      refine wp_tabI rfl hc16 (t := 883) rfl ?_
      refine wp_go 5 (pc' := 889) (L' := [some (.ref l0), some (.ref l1), some (.ref l2), some (.ref l3), some (.int l4), none, none]) (st' := [.int (l4 + (1 : Int32)), .ref l0, .ref l1]) (M' := M) rfl ?_
      obtain ⟨hc, hp⟩ := hp
      refine wq_iald rfl hc ?_
      obtain ⟨hv, hp⟩ := hp
      obtain ⟨hc, hp⟩ := hp
      refine wp_calli (v := (b78_0 n l1 (zI M l0 (l4 + (1 : Int32)).toNatClampNeg) M).1) (M1 := (b78_0 n l1 (zI M l0 (l4 + (1 : Int32)).toNatClampNeg) M).2) rfl rfl rfl (zInv_v (np := 1) rfl rfl hv rfl) (s78_0 n l1 (zI M l0 (l4 + (1 : Int32)).toNatClampNeg) M hc (fun r M1 h => h)) ?_
      exact s198_893 n k23 q23 h23 l0 l1 l2 l3 l4 (b78_0 n l1 (zI M l0 (l4 + (1 : Int32)).toNatClampNeg) M).1 (b78_0 n l1 (zI M l0 (l4 + (1 : Int32)).toNatClampNeg) M).2 hp hQ
    rw [if_neg hc16] at hQ
    replace hp := hp.2 hc16
    by_cases hc17 : ((zI M l0 l4.toNatClampNeg) &&& (31 : Int32)) = 17
    · rw [if_pos hc17] at hQ
      replace hp := hp.1 hc17
      refine wp_tabI rfl hc17 (t := 908) rfl ?_
      refine wp_go 5 (pc' := 914) (L' := [some (.ref l0), some (.ref l1), some (.ref l2), some (.ref l3), some (.int l4), none, none]) (st' := [.int (l4 + (1 : Int32)), .ref l0, .ref l1]) (M' := M) rfl ?_
      obtain ⟨hc, hp⟩ := hp
      refine wq_iald rfl hc ?_
      refine wp_go 4 (pc' := 920) (L' := [some (.ref l0), some (.ref l1), some (.ref l2), some (.ref l3), some (.int l4), none, none]) (st' := [.int (l4 + (2 : Int32)), .ref l0, .int (zI M l0 (l4 + (1 : Int32)).toNatClampNeg), .ref l1]) (M' := M) rfl ?_
      obtain ⟨hc, hp⟩ := hp
      refine wq_iald rfl hc ?_
      refine wp_go 4 (pc' := 926) (L' := [some (.ref l0), some (.ref l1), some (.ref l2), some (.ref l3), some (.int l4), none, none]) (st' := [.int (l4 + (3 : Int32)), .ref l0, .int (zI M l0 (l4 + (2 : Int32)).toNatClampNeg), .int (zI M l0 (l4 + (1 : Int32)).toNatClampNeg), .ref l1]) (M' := M) rfl ?_
      obtain ⟨hc, hp⟩ := hp
      refine wq_iald rfl hc ?_
      refine wp_go 4 (pc' := 932) (L' := [some (.ref l0), some (.ref l1), some (.ref l2), some (.ref l3), some (.int l4), none, none]) (st' := [.int (l4 + (4 : Int32)), .ref l0, .int (zI M l0 (l4 + (3 : Int32)).toNatClampNeg), .int (zI M l0 (l4 + (2 : Int32)).toNatClampNeg), .int (zI M l0 (l4 + (1 : Int32)).toNatClampNeg), .ref l1]) (M' := M) rfl ?_
      obtain ⟨hc, hp⟩ := hp
      refine wq_iald rfl hc ?_
      refine wp_go 4 (pc' := 938) (L' := [some (.ref l0), some (.ref l1), some (.ref l2), some (.ref l3), some (.int l4), none, none]) (st' := [.int (l4 + (5 : Int32)), .ref l0, .int (zI M l0 (l4 + (4 : Int32)).toNatClampNeg), .int (zI M l0 (l4 + (3 : Int32)).toNatClampNeg), .int (zI M l0 (l4 + (2 : Int32)).toNatClampNeg), .int (zI M l0 (l4 + (1 : Int32)).toNatClampNeg), .ref l1]) (M' := M) rfl ?_
      obtain ⟨hc, hp⟩ := hp
      refine wq_iald rfl hc ?_
      obtain ⟨hv, hp⟩ := hp
      obtain ⟨hc, hp⟩ := hp
      refine wp_calli (v := (b79_0 n l1 (zI M l0 (l4 + (1 : Int32)).toNatClampNeg) (zI M l0 (l4 + (2 : Int32)).toNatClampNeg) (zI M l0 (l4 + (3 : Int32)).toNatClampNeg) (zI M l0 (l4 + (4 : Int32)).toNatClampNeg) (zI M l0 (l4 + (5 : Int32)).toNatClampNeg) M).1) (M1 := (b79_0 n l1 (zI M l0 (l4 + (1 : Int32)).toNatClampNeg) (zI M l0 (l4 + (2 : Int32)).toNatClampNeg) (zI M l0 (l4 + (3 : Int32)).toNatClampNeg) (zI M l0 (l4 + (4 : Int32)).toNatClampNeg) (zI M l0 (l4 + (5 : Int32)).toNatClampNeg) M).2) rfl rfl rfl (zInv_v (np := 5) rfl rfl hv rfl) (s79_0 n l1 (zI M l0 (l4 + (1 : Int32)).toNatClampNeg) (zI M l0 (l4 + (2 : Int32)).toNatClampNeg) (zI M l0 (l4 + (3 : Int32)).toNatClampNeg) (zI M l0 (l4 + (4 : Int32)).toNatClampNeg) (zI M l0 (l4 + (5 : Int32)).toNatClampNeg) M hc (fun r M1 h => h)) ?_
      exact s198_942 n k23 q23 h23 l0 l1 l2 l3 l4 (b79_0 n l1 (zI M l0 (l4 + (1 : Int32)).toNatClampNeg) (zI M l0 (l4 + (2 : Int32)).toNatClampNeg) (zI M l0 (l4 + (3 : Int32)).toNatClampNeg) (zI M l0 (l4 + (4 : Int32)).toNatClampNeg) (zI M l0 (l4 + (5 : Int32)).toNatClampNeg) M).1 (b79_0 n l1 (zI M l0 (l4 + (1 : Int32)).toNatClampNeg) (zI M l0 (l4 + (2 : Int32)).toNatClampNeg) (zI M l0 (l4 + (3 : Int32)).toNatClampNeg) (zI M l0 (l4 + (4 : Int32)).toNatClampNeg) (zI M l0 (l4 + (5 : Int32)).toNatClampNeg) M).2 hp hQ
    rw [if_neg hc17] at hQ
    replace hp := hp.2 hc17
    by_cases hc18 : ((zI M l0 l4.toNatClampNeg) &&& (31 : Int32)) = 18
    · rw [if_pos hc18] at hQ
      replace hp := hp.1 hc18
      refine wp_tabI rfl hc18 (t := 981) rfl ?_
      refine wp_go 5 (pc' := 987) (L' := [some (.ref l0), some (.ref l1), some (.ref l2), some (.ref l3), some (.int l4), none, none]) (st' := [.int (l4 + (1 : Int32)), .ref l0, .ref l1]) (M' := M) rfl ?_
      obtain ⟨hc, hp⟩ := hp
      refine wq_iald rfl hc ?_
      refine wp_go 4 (pc' := 993) (L' := [some (.ref l0), some (.ref l1), some (.ref l2), some (.ref l3), some (.int l4), none, none]) (st' := [.int (l4 + (2 : Int32)), .ref l0, .int (zI M l0 (l4 + (1 : Int32)).toNatClampNeg), .ref l1]) (M' := M) rfl ?_
      obtain ⟨hc, hp⟩ := hp
      refine wq_iald rfl hc ?_
      refine wp_go 4 (pc' := 999) (L' := [some (.ref l0), some (.ref l1), some (.ref l2), some (.ref l3), some (.int l4), none, none]) (st' := [.int (l4 + (3 : Int32)), .ref l0, .int (zI M l0 (l4 + (2 : Int32)).toNatClampNeg), .int (zI M l0 (l4 + (1 : Int32)).toNatClampNeg), .ref l1]) (M' := M) rfl ?_
      obtain ⟨hc, hp⟩ := hp
      refine wq_iald rfl hc ?_
      refine wp_go 4 (pc' := 1005) (L' := [some (.ref l0), some (.ref l1), some (.ref l2), some (.ref l3), some (.int l4), none, none]) (st' := [.int (l4 + (4 : Int32)), .ref l0, .int (zI M l0 (l4 + (3 : Int32)).toNatClampNeg), .int (zI M l0 (l4 + (2 : Int32)).toNatClampNeg), .int (zI M l0 (l4 + (1 : Int32)).toNatClampNeg), .ref l1]) (M' := M) rfl ?_
      obtain ⟨hc, hp⟩ := hp
      refine wq_iald rfl hc ?_
      refine wp_go 4 (pc' := 1011) (L' := [some (.ref l0), some (.ref l1), some (.ref l2), some (.ref l3), some (.int l4), none, none]) (st' := [.int (l4 + (5 : Int32)), .ref l0, .int (zI M l0 (l4 + (4 : Int32)).toNatClampNeg), .int (zI M l0 (l4 + (3 : Int32)).toNatClampNeg), .int (zI M l0 (l4 + (2 : Int32)).toNatClampNeg), .int (zI M l0 (l4 + (1 : Int32)).toNatClampNeg), .ref l1]) (M' := M) rfl ?_
      obtain ⟨hc, hp⟩ := hp
      refine wq_iald rfl hc ?_
      obtain ⟨hv, hp⟩ := hp
      obtain ⟨hc, hp⟩ := hp
      refine wp_calli (v := (b80_0 n l1 (zI M l0 (l4 + (1 : Int32)).toNatClampNeg) (zI M l0 (l4 + (2 : Int32)).toNatClampNeg) (zI M l0 (l4 + (3 : Int32)).toNatClampNeg) (zI M l0 (l4 + (4 : Int32)).toNatClampNeg) (zI M l0 (l4 + (5 : Int32)).toNatClampNeg) M).1) (M1 := (b80_0 n l1 (zI M l0 (l4 + (1 : Int32)).toNatClampNeg) (zI M l0 (l4 + (2 : Int32)).toNatClampNeg) (zI M l0 (l4 + (3 : Int32)).toNatClampNeg) (zI M l0 (l4 + (4 : Int32)).toNatClampNeg) (zI M l0 (l4 + (5 : Int32)).toNatClampNeg) M).2) rfl rfl rfl (zInv_v (np := 5) rfl rfl hv rfl) (s80_0 n l1 (zI M l0 (l4 + (1 : Int32)).toNatClampNeg) (zI M l0 (l4 + (2 : Int32)).toNatClampNeg) (zI M l0 (l4 + (3 : Int32)).toNatClampNeg) (zI M l0 (l4 + (4 : Int32)).toNatClampNeg) (zI M l0 (l4 + (5 : Int32)).toNatClampNeg) M hc (fun r M1 h => h)) ?_
      exact s198_1015 n k23 q23 h23 l0 l1 l2 l3 l4 (b80_0 n l1 (zI M l0 (l4 + (1 : Int32)).toNatClampNeg) (zI M l0 (l4 + (2 : Int32)).toNatClampNeg) (zI M l0 (l4 + (3 : Int32)).toNatClampNeg) (zI M l0 (l4 + (4 : Int32)).toNatClampNeg) (zI M l0 (l4 + (5 : Int32)).toNatClampNeg) M).1 (b80_0 n l1 (zI M l0 (l4 + (1 : Int32)).toNatClampNeg) (zI M l0 (l4 + (2 : Int32)).toNatClampNeg) (zI M l0 (l4 + (3 : Int32)).toNatClampNeg) (zI M l0 (l4 + (4 : Int32)).toNatClampNeg) (zI M l0 (l4 + (5 : Int32)).toNatClampNeg) M).2 hp hQ
    rw [if_neg hc18] at hQ
    replace hp := hp.2 hc18
    by_cases hc19 : ((zI M l0 l4.toNatClampNeg) &&& (31 : Int32)) = 19
    · rw [if_pos hc19] at hQ
      replace hp := hp.1 hc19
      refine wp_tabI rfl hc19 (t := 1054) rfl ?_
      refine wp_go 5 (pc' := 1060) (L' := [some (.ref l0), some (.ref l1), some (.ref l2), some (.ref l3), some (.int l4), none, none]) (st' := [.int (l4 + (1 : Int32)), .ref l0, .ref l1]) (M' := M) rfl ?_
      obtain ⟨hc, hp⟩ := hp
      refine wq_iald rfl hc ?_
      obtain ⟨hv, hp⟩ := hp
      obtain ⟨hc, hp⟩ := hp
      refine wp_calli (v := (b81_0 n l1 (zI M l0 (l4 + (1 : Int32)).toNatClampNeg) M).1) (M1 := (b81_0 n l1 (zI M l0 (l4 + (1 : Int32)).toNatClampNeg) M).2) rfl rfl rfl (zInv_v (np := 1) rfl rfl hv rfl) (s81_0 n l1 (zI M l0 (l4 + (1 : Int32)).toNatClampNeg) M hc (fun r M1 h => h)) ?_
      exact s198_1064 n k23 q23 h23 l0 l1 l2 l3 l4 (b81_0 n l1 (zI M l0 (l4 + (1 : Int32)).toNatClampNeg) M).1 (b81_0 n l1 (zI M l0 (l4 + (1 : Int32)).toNatClampNeg) M).2 hp hQ
    rw [if_neg hc19] at hQ
    replace hp := hp.2 hc19
    by_cases hc20 : ((zI M l0 l4.toNatClampNeg) &&& (31 : Int32)) = 20
    · rw [if_pos hc20] at hQ
      replace hp := hp.1 hc20
      refine wp_tabI rfl hc20 (t := 1079) rfl ?_
      refine wp_go 5 (pc' := 1085) (L' := [some (.ref l0), some (.ref l1), some (.ref l2), some (.ref l3), some (.int l4), none, none]) (st' := [.int (l4 + (1 : Int32)), .ref l0, .ref l1]) (M' := M) rfl ?_
      obtain ⟨hc, hp⟩ := hp
      refine wq_iald rfl hc ?_
      refine wp_go 4 (pc' := 1091) (L' := [some (.ref l0), some (.ref l1), some (.ref l2), some (.ref l3), some (.int l4), none, none]) (st' := [.int (l4 + (2 : Int32)), .ref l0, .int (zI M l0 (l4 + (1 : Int32)).toNatClampNeg), .ref l1]) (M' := M) rfl ?_
      obtain ⟨hc, hp⟩ := hp
      refine wq_iald rfl hc ?_
      obtain ⟨hv, hp⟩ := hp
      obtain ⟨hc, hp⟩ := hp
      refine wp_calli (v := (b82_0 n l1 (zI M l0 (l4 + (1 : Int32)).toNatClampNeg) (zI M l0 (l4 + (2 : Int32)).toNatClampNeg) M).1) (M1 := (b82_0 n l1 (zI M l0 (l4 + (1 : Int32)).toNatClampNeg) (zI M l0 (l4 + (2 : Int32)).toNatClampNeg) M).2) rfl rfl rfl (zInv_v (np := 2) rfl rfl hv rfl) (s82_0 n l1 (zI M l0 (l4 + (1 : Int32)).toNatClampNeg) (zI M l0 (l4 + (2 : Int32)).toNatClampNeg) M hc (fun r M1 h => h)) ?_
      exact s198_1095 n k23 q23 h23 l0 l1 l2 l3 l4 (b82_0 n l1 (zI M l0 (l4 + (1 : Int32)).toNatClampNeg) (zI M l0 (l4 + (2 : Int32)).toNatClampNeg) M).1 (b82_0 n l1 (zI M l0 (l4 + (1 : Int32)).toNatClampNeg) (zI M l0 (l4 + (2 : Int32)).toNatClampNeg) M).2 hp hQ
    rw [if_neg hc20] at hQ
    replace hp := hp.2 hc20
    by_cases hc21 : ((zI M l0 l4.toNatClampNeg) &&& (31 : Int32)) = 21
    · rw [if_pos hc21] at hQ
      replace hp := hp.1 hc21
      refine wp_tabI rfl hc21 (t := 1116) rfl ?_
      refine wp_go 1 (pc' := 1117) (L' := [some (.ref l0), some (.ref l1), some (.ref l2), some (.ref l3), some (.int l4), none, none]) (st' := [.ref l1]) (M' := M) rfl ?_
      obtain ⟨hv, hp⟩ := hp
      obtain ⟨hc, hp⟩ := hp
      refine wp_calli (v := (b83_0 n l1 M).1) (M1 := (b83_0 n l1 M).2) rfl rfl rfl (zInv_v (np := 0) rfl rfl hv rfl) (s83_0 n l1 M hc (fun r M1 h => h)) ?_
      exact s198_1120 n k23 q23 h23 l0 l1 l2 l3 l4 (b83_0 n l1 M).1 (b83_0 n l1 M).2 hp hQ
    rw [if_neg hc21] at hQ
    replace hp := hp.2 hc21
    by_cases hc22 : ((zI M l0 l4.toNatClampNeg) &&& (31 : Int32)) = 22
    · rw [if_pos hc22] at hQ
      replace hp := hp.1 hc22
      refine wp_tabI rfl hc22 (t := 1129) rfl ?_
      refine wp_go 5 (pc' := 1135) (L' := [some (.ref l0), some (.ref l1), some (.ref l2), some (.ref l3), some (.int l4), none, none]) (st' := [.int (l4 + (1 : Int32)), .ref l0, .ref l1]) (M' := M) rfl ?_
      obtain ⟨hc, hp⟩ := hp
      refine wq_iald rfl hc ?_
      obtain ⟨hv, hp⟩ := hp
      obtain ⟨hc, hp⟩ := hp
      refine wp_calli (v := (b84_0 n l1 (zI M l0 (l4 + (1 : Int32)).toNatClampNeg) M).1) (M1 := (b84_0 n l1 (zI M l0 (l4 + (1 : Int32)).toNatClampNeg) M).2) rfl rfl rfl (zInv_v (np := 1) rfl rfl hv rfl) (s84_0 n l1 (zI M l0 (l4 + (1 : Int32)).toNatClampNeg) M hc (fun r M1 h => h)) ?_
      exact s198_1139 n k23 q23 h23 l0 l1 l2 l3 l4 (b84_0 n l1 (zI M l0 (l4 + (1 : Int32)).toNatClampNeg) M).1 (b84_0 n l1 (zI M l0 (l4 + (1 : Int32)).toNatClampNeg) M).2 hp hQ
    rw [if_neg hc22] at hQ
    replace hp := hp.2 hc22
    by_cases hc23 : ((zI M l0 l4.toNatClampNeg) &&& (31 : Int32)) = 23
    · rw [if_pos hc23] at hQ
      replace hp := hp.1 hc23
      refine wp_tabI rfl hc23 (t := 1154) rfl ?_
      refine wp_go 1 (pc' := 1155) (L' := [some (.ref l0), some (.ref l1), some (.ref l2), some (.ref l3), some (.int l4), none, none]) (st' := [.ref l1]) (M' := M) rfl ?_
      obtain ⟨hv, hp⟩ := hp
      obtain ⟨hc, hp⟩ := hp
      refine wp_calli (v := (b85_0 n l1 M).1) (M1 := (b85_0 n l1 M).2) rfl rfl rfl (zInv_v (np := 0) rfl rfl hv rfl) (s85_0 n l1 M hc (fun r M1 h => h)) ?_
      exact s198_1158 n k23 q23 h23 l0 l1 l2 l3 l4 (b85_0 n l1 M).1 (b85_0 n l1 M).2 hp hQ
    rw [if_neg hc23] at hQ
    replace hp := hp.2 hc23
    by_cases hc24 : ((zI M l0 l4.toNatClampNeg) &&& (31 : Int32)) = 24
    · rw [if_pos hc24] at hQ
      replace hp := hp.1 hc24
      refine wp_tabI rfl hc24 (t := 1167) rfl ?_
      refine wp_go 1 (pc' := 1168) (L' := [some (.ref l0), some (.ref l1), some (.ref l2), some (.ref l3), some (.int l4), none, none]) (st' := [.ref l1]) (M' := M) rfl ?_
      obtain ⟨hv, hp⟩ := hp
      obtain ⟨hc, hp⟩ := hp
      refine wp_calli (v := (b86_0 n l1 M).1) (M1 := (b86_0 n l1 M).2) rfl rfl rfl (zInv_v (np := 0) rfl rfl hv rfl) (s86_0 n l1 M hc (fun r M1 h => h)) ?_
      exact s198_1171 n k23 q23 h23 l0 l1 l2 l3 l4 (b86_0 n l1 M).1 (b86_0 n l1 M).2 hp hQ
    rw [if_neg hc24] at hQ
    replace hp := hp.2 hc24
    by_cases hc25 : ((zI M l0 l4.toNatClampNeg) &&& (31 : Int32)) = 25
    · rw [if_pos hc25] at hQ
      replace hp := hp.1 hc25
      refine wp_tabI rfl hc25 (t := 1180) rfl ?_
      refine wp_go 5 (pc' := 1186) (L' := [some (.ref l0), some (.ref l1), some (.ref l2), some (.ref l3), some (.int l4), none, none]) (st' := [.int (l4 + (1 : Int32)), .ref l0, .ref l1]) (M' := M) rfl ?_
      obtain ⟨hc, hp⟩ := hp
      refine wq_iald rfl hc ?_
      refine wp_go 4 (pc' := 1192) (L' := [some (.ref l0), some (.ref l1), some (.ref l2), some (.ref l3), some (.int l4), none, none]) (st' := [.int (l4 + (2 : Int32)), .ref l0, .int (zI M l0 (l4 + (1 : Int32)).toNatClampNeg), .ref l1]) (M' := M) rfl ?_
      obtain ⟨hc, hp⟩ := hp
      refine wq_iald rfl hc ?_
      obtain ⟨hv, hp⟩ := hp
      obtain ⟨hc, hp⟩ := hp
      refine wp_calll (v := (b87_0 n l1 (zI M l0 (l4 + (1 : Int32)).toNatClampNeg) (zI M l0 (l4 + (2 : Int32)).toNatClampNeg) M).1) (M1 := (b87_0 n l1 (zI M l0 (l4 + (1 : Int32)).toNatClampNeg) (zI M l0 (l4 + (2 : Int32)).toNatClampNeg) M).2) rfl rfl rfl (zInv_v (np := 2) rfl rfl hv rfl) (s87_0 n l1 (zI M l0 (l4 + (1 : Int32)).toNatClampNeg) (zI M l0 (l4 + (2 : Int32)).toNatClampNeg) M hc (fun r M1 h => h)) ?_
      exact s198_1196 n k23 q23 h23 l0 l1 l2 l3 l4 (b87_0 n l1 (zI M l0 (l4 + (1 : Int32)).toNatClampNeg) (zI M l0 (l4 + (2 : Int32)).toNatClampNeg) M).1 (b87_0 n l1 (zI M l0 (l4 + (1 : Int32)).toNatClampNeg) (zI M l0 (l4 + (2 : Int32)).toNatClampNeg) M).2 hp hQ
    rw [if_neg hc25] at hQ
    replace hp := hp.2 hc25
    by_cases hc26 : ((zI M l0 l4.toNatClampNeg) &&& (31 : Int32)) = 26
    · rw [if_pos hc26] at hQ
      replace hp := hp.1 hc26
      refine wp_tabI rfl hc26 (t := 1218) rfl ?_
      refine wp_go 5 (pc' := 1224) (L' := [some (.ref l0), some (.ref l1), some (.ref l2), some (.ref l3), some (.int l4), none, none]) (st' := [.int (l4 + (1 : Int32)), .ref l0, .ref l1]) (M' := M) rfl ?_
      obtain ⟨hc, hp⟩ := hp
      refine wq_iald rfl hc ?_
      obtain ⟨hv, hp⟩ := hp
      obtain ⟨hc, hp⟩ := hp
      refine wp_calli (v := (b88_0 n l1 (zI M l0 (l4 + (1 : Int32)).toNatClampNeg) M).1) (M1 := (b88_0 n l1 (zI M l0 (l4 + (1 : Int32)).toNatClampNeg) M).2) rfl rfl rfl (zInv_v (np := 1) rfl rfl hv rfl) (s88_0 n l1 (zI M l0 (l4 + (1 : Int32)).toNatClampNeg) M hc (fun r M1 h => h)) ?_
      exact s198_1228 n k23 q23 h23 l0 l1 l2 l3 l4 (b88_0 n l1 (zI M l0 (l4 + (1 : Int32)).toNatClampNeg) M).1 (b88_0 n l1 (zI M l0 (l4 + (1 : Int32)).toNatClampNeg) M).2 hp hQ
    rw [if_neg hc26] at hQ
    replace hp := hp.2 hc26
    refine wp_tabO (t := 1243) rfl (by have e0 : ¬ (((zI M l0 l4.toNatClampNeg) &&& (31 : Int32))).toInt = 0 := fun h => hc0 (Int32.toInt_inj.mp h); have e1 : ¬ (((zI M l0 l4.toNatClampNeg) &&& (31 : Int32))).toInt = 1 := fun h => hc1 (Int32.toInt_inj.mp h); have e2 : ¬ (((zI M l0 l4.toNatClampNeg) &&& (31 : Int32))).toInt = 2 := fun h => hc2 (Int32.toInt_inj.mp h); have e3 : ¬ (((zI M l0 l4.toNatClampNeg) &&& (31 : Int32))).toInt = 3 := fun h => hc3 (Int32.toInt_inj.mp h); have e4 : ¬ (((zI M l0 l4.toNatClampNeg) &&& (31 : Int32))).toInt = 4 := fun h => hc4 (Int32.toInt_inj.mp h); have e5 : ¬ (((zI M l0 l4.toNatClampNeg) &&& (31 : Int32))).toInt = 5 := fun h => hc5 (Int32.toInt_inj.mp h); have e6 : ¬ (((zI M l0 l4.toNatClampNeg) &&& (31 : Int32))).toInt = 6 := fun h => hc6 (Int32.toInt_inj.mp h); have e7 : ¬ (((zI M l0 l4.toNatClampNeg) &&& (31 : Int32))).toInt = 7 := fun h => hc7 (Int32.toInt_inj.mp h); have e8 : ¬ (((zI M l0 l4.toNatClampNeg) &&& (31 : Int32))).toInt = 8 := fun h => hc8 (Int32.toInt_inj.mp h); have e9 : ¬ (((zI M l0 l4.toNatClampNeg) &&& (31 : Int32))).toInt = 9 := fun h => hc9 (Int32.toInt_inj.mp h); have e10 : ¬ (((zI M l0 l4.toNatClampNeg) &&& (31 : Int32))).toInt = 10 := fun h => hc10 (Int32.toInt_inj.mp h); have e11 : ¬ (((zI M l0 l4.toNatClampNeg) &&& (31 : Int32))).toInt = 11 := fun h => hc11 (Int32.toInt_inj.mp h); have e12 : ¬ (((zI M l0 l4.toNatClampNeg) &&& (31 : Int32))).toInt = 12 := fun h => hc12 (Int32.toInt_inj.mp h); have e13 : ¬ (((zI M l0 l4.toNatClampNeg) &&& (31 : Int32))).toInt = 13 := fun h => hc13 (Int32.toInt_inj.mp h); have e14 : ¬ (((zI M l0 l4.toNatClampNeg) &&& (31 : Int32))).toInt = 14 := fun h => hc14 (Int32.toInt_inj.mp h); have e15 : ¬ (((zI M l0 l4.toNatClampNeg) &&& (31 : Int32))).toInt = 15 := fun h => hc15 (Int32.toInt_inj.mp h); have e16 : ¬ (((zI M l0 l4.toNatClampNeg) &&& (31 : Int32))).toInt = 16 := fun h => hc16 (Int32.toInt_inj.mp h); have e17 : ¬ (((zI M l0 l4.toNatClampNeg) &&& (31 : Int32))).toInt = 17 := fun h => hc17 (Int32.toInt_inj.mp h); have e18 : ¬ (((zI M l0 l4.toNatClampNeg) &&& (31 : Int32))).toInt = 18 := fun h => hc18 (Int32.toInt_inj.mp h); have e19 : ¬ (((zI M l0 l4.toNatClampNeg) &&& (31 : Int32))).toInt = 19 := fun h => hc19 (Int32.toInt_inj.mp h); have e20 : ¬ (((zI M l0 l4.toNatClampNeg) &&& (31 : Int32))).toInt = 20 := fun h => hc20 (Int32.toInt_inj.mp h); have e21 : ¬ (((zI M l0 l4.toNatClampNeg) &&& (31 : Int32))).toInt = 21 := fun h => hc21 (Int32.toInt_inj.mp h); have e22 : ¬ (((zI M l0 l4.toNatClampNeg) &&& (31 : Int32))).toInt = 22 := fun h => hc22 (Int32.toInt_inj.mp h); have e23 : ¬ (((zI M l0 l4.toNatClampNeg) &&& (31 : Int32))).toInt = 23 := fun h => hc23 (Int32.toInt_inj.mp h); have e24 : ¬ (((zI M l0 l4.toNatClampNeg) &&& (31 : Int32))).toInt = 24 := fun h => hc24 (Int32.toInt_inj.mp h); have e25 : ¬ (((zI M l0 l4.toNatClampNeg) &&& (31 : Int32))).toInt = 25 := fun h => hc25 (Int32.toInt_inj.mp h); have e26 : ¬ (((zI M l0 l4.toNatClampNeg) &&& (31 : Int32))).toInt = 26 := fun h => hc26 (Int32.toInt_inj.mp h); omega) rfl ?_
    exact s198_1243 n k23 q23 h23 l0 l1 l2 l3 l4 M hp hQ
def b198_23 (n : Nat)  : Nat → Nat → Nat → Nat → Nat → Int32 → zM → Int32 × zM
  | 0, _, _, _, _, _, M => (0, M)
  | k + 1, l0, l1, l2, l3, l4, M => c198_23 n  (b198_23 n  k) l0 l1 l2 l3 l4 M
def p198_23 (n : Nat)  : Nat → Nat → Nat → Nat → Nat → Int32 → zM → Prop
  | 0, _, _, _, _, _, _ => False
  | k + 1, l0, l1, l2, l3, l4, M => d198_23 n  (p198_23 n  k) l0 l1 l2 l3 l4 M
set_option maxRecDepth 100000 in
set_option maxHeartbeats 4000000 in
theorem s198_23 (n : Nat)    : ∀ (k : Nat) (l0 : Nat) (l1 : Nat) (l2 : Nat) (l3 : Nat) (l4 : Int32) (M : zM), p198_23 n  k l0 l1 l2 l3 l4 M → ∀ {Q : Option Value → zM → Prop}, (∀ r M1, zRI (b198_23 n  k l0 l1 l2 l3 l4 M) r M1 → Q r M1) → zWP 198 23 [some (.ref l0), some (.ref l1), some (.ref l2), some (.ref l3), some (.int l4), none, none] [] M Q
  | 0, _, _, _, _, _, _, h, _, _ => h.elim
  | k + 1, l0, l1, l2, l3, l4, M, h, _, hQ => t198_23 n  (b198_23 n  k)  (p198_23 n  k)  (s198_23 n    k) l0 l1 l2 l3 l4 M h hQ
def b198_19 (n : Nat)  (l0 : Nat) (l1 : Nat) (l2 : Nat) (s0 : Nat) (M : zM) : Int32 × zM := b198_23 n  n l0 l1 l2 s0 (0 : Int32) M
def p198_19 (n : Nat)  (l0 : Nat) (l1 : Nat) (l2 : Nat) (s0 : Nat) (M : zM) : Prop := p198_23 n  n l0 l1 l2 s0 (0 : Int32) M
set_option maxRecDepth 100000 in
set_option maxHeartbeats 4000000 in
theorem s198_19 (n : Nat)    (l0 : Nat) (l1 : Nat) (l2 : Nat) (s0 : Nat) (M : zM) (hp : p198_19 n  l0 l1 l2 s0 M) {Q : Option Value → zM → Prop} (hQ : ∀ r M1, zRI (b198_19 n  l0 l1 l2 s0 M) r M1 → Q r M1) : zWP 198 19 [some (.ref l0), some (.ref l1), some (.ref l2), none, none, none, none] [.ref s0] M Q := by
  unfold b198_19 at hQ
  unfold p198_19 at hp
  refine wp_go 3 (pc' := 23) (L' := [some (.ref l0), some (.ref l1), some (.ref l2), some (.ref s0), some (.int (0 : Int32)), none, none]) (st' := []) (M' := M) rfl ?_
  exact s198_23 n    n l0 l1 l2 s0 (0 : Int32) M hp hQ
def b198_15 (n : Nat)  (l0 : Nat) (l1 : Nat) (s0 : Nat) (M : zM) : Int32 × zM := b198_19 n  l0 l1 s0 (zN M) (zNew M (3, (1 : Int32).toNatClampNeg) (1 : Int32).toNatClampNeg)
def p198_15 (n : Nat)  (l0 : Nat) (l1 : Nat) (s0 : Nat) (M : zM) : Prop := (zOkW (1 : Int32) M) ∧ (p198_19 n  l0 l1 s0 (zN M) (zNew M (3, (1 : Int32).toNatClampNeg) (1 : Int32).toNatClampNeg))
set_option maxRecDepth 100000 in
set_option maxHeartbeats 4000000 in
theorem s198_15 (n : Nat)    (l0 : Nat) (l1 : Nat) (s0 : Nat) (M : zM) (hp : p198_15 n  l0 l1 s0 M) {Q : Option Value → zM → Prop} (hQ : ∀ r M1, zRI (b198_15 n  l0 l1 s0 M) r M1 → Q r M1) : zWP 198 15 [some (.ref l0), some (.ref l1), none, none, none, none, none] [.ref s0] M Q := by
  unfold b198_15 at hQ
  unfold p198_15 at hp
  refine wp_go 2 (pc' := 17) (L' := [some (.ref l0), some (.ref l1), some (.ref s0), none, none, none, none]) (st' := [.int (1 : Int32)]) (M' := M) rfl ?_
  obtain ⟨hc, hp⟩ := hp
  refine wq_newp (k := 2) rfl rfl hc ?_
  exact s198_19 n    l0 l1 s0 (zN M) (zNew M (3, (1 : Int32).toNatClampNeg) (1 : Int32).toNatClampNeg) hp hQ
def b198_11 (n : Nat)  (l0 : Nat) (l1 : Nat) (s0 : Nat) (M : zM) : Int32 × zM := b198_15 n  l0 l1 s0 (b117_0 n s0 M)
def p198_11 (n : Nat)  (l0 : Nat) (l1 : Nat) (s0 : Nat) (M : zM) : Prop := (p117_0 n s0 M) ∧ (p198_15 n  l0 l1 s0 (b117_0 n s0 M))
set_option maxRecDepth 100000 in
set_option maxHeartbeats 4000000 in
theorem s198_11 (n : Nat)    (l0 : Nat) (l1 : Nat) (s0 : Nat) (M : zM) (hp : p198_11 n  l0 l1 s0 M) {Q : Option Value → zM → Prop} (hQ : ∀ r M1, zRI (b198_11 n  l0 l1 s0 M) r M1 → Q r M1) : zWP 198 11 [some (.ref l0), some (.ref l1), none, none, none, none, none] [.ref s0] M Q := by
  unfold b198_11 at hQ
  unfold p198_11 at hp
  refine wp_go 1 (pc' := 12) (L' := [some (.ref l0), some (.ref l1), none, none, none, none, none]) (st' := [.ref s0, .ref s0]) (M' := M) rfl ?_
  obtain ⟨hc, hp⟩ := hp
  refine wp_callv (M1 := (b117_0 n s0 M)) rfl rfl rfl rfl (s117_0 n s0 M hc (fun r M1 h => h)) ?_
  exact s198_15 n    l0 l1 s0 (b117_0 n s0 M) hp hQ
def b198_7 (n : Nat)  (l0 : Nat) (s0 : Nat) (M : zM) : Int32 × zM := b198_11 n  l0 s0 (zN M) (zNew M (0, 10) (zNf 10))
def p198_7 (n : Nat)  (l0 : Nat) (s0 : Nat) (M : zM) : Prop := (zOkM M) ∧ (p198_11 n  l0 s0 (zN M) (zNew M (0, 10) (zNf 10)))
set_option maxRecDepth 100000 in
set_option maxHeartbeats 4000000 in
theorem s198_7 (n : Nat)    (l0 : Nat) (s0 : Nat) (M : zM) (hp : p198_7 n  l0 s0 M) {Q : Option Value → zM → Prop} (hQ : ∀ r M1, zRI (b198_7 n  l0 s0 M) r M1 → Q r M1) : zWP 198 7 [some (.ref l0), none, none, none, none, none, none] [.ref s0] M Q := by
  unfold b198_7 at hQ
  unfold p198_7 at hp
  refine wp_go 1 (pc' := 8) (L' := [some (.ref l0), some (.ref s0), none, none, none, none, none]) (st' := []) (M' := M) rfl ?_
  obtain ⟨hc, hp⟩ := hp
  refine wq_new (c := 10) rfl rfl rfl hc ?_
  exact s198_11 n    l0 s0 (zN M) (zNew M (0, 10) (zNf 10)) hp hQ
def b198_3 (n : Nat)  (l0 : Nat) (s0 : Nat) (M : zM) : Int32 × zM := b198_7 n  l0 s0 (b61_0 n s0 M)
def p198_3 (n : Nat)  (l0 : Nat) (s0 : Nat) (M : zM) : Prop := (p61_0 n s0 M) ∧ (p198_7 n  l0 s0 (b61_0 n s0 M))
set_option maxRecDepth 100000 in
set_option maxHeartbeats 4000000 in
theorem s198_3 (n : Nat)    (l0 : Nat) (s0 : Nat) (M : zM) (hp : p198_3 n  l0 s0 M) {Q : Option Value → zM → Prop} (hQ : ∀ r M1, zRI (b198_3 n  l0 s0 M) r M1 → Q r M1) : zWP 198 3 [some (.ref l0), none, none, none, none, none, none] [.ref s0] M Q := by
  unfold b198_3 at hQ
  unfold p198_3 at hp
  refine wp_go 1 (pc' := 4) (L' := [some (.ref l0), none, none, none, none, none, none]) (st' := [.ref s0, .ref s0]) (M' := M) rfl ?_
  obtain ⟨hc, hp⟩ := hp
  refine wp_callv (M1 := (b61_0 n s0 M)) rfl rfl rfl rfl (s61_0 n s0 M hc (fun r M1 h => h)) ?_
  exact s198_7 n    l0 s0 (b61_0 n s0 M) hp hQ
def b198_0 (n : Nat)  (l0 : Nat) (l1 : Nat) (M : zM) : Int32 × zM := b198_3 n  l0 (zN M) (zNew M (0, 9) (zNf 9))
def p198_0 (n : Nat)  (l0 : Nat) (l1 : Nat) (M : zM) : Prop := (zOkM M) ∧ (p198_3 n  l0 (zN M) (zNew M (0, 9) (zNf 9)))
set_option maxRecDepth 100000 in
set_option maxHeartbeats 4000000 in
theorem s198_0 (n : Nat)    (l0 : Nat) (l1 : Nat) (M : zM) (hp : p198_0 n  l0 l1 M) {Q : Option Value → zM → Prop} (hQ : ∀ r M1, zRI (b198_0 n  l0 l1 M) r M1 → Q r M1) : zWP 198 0 [some (.ref l0), some (.ref l1), none, none, none, none, none] [] M Q := by
  unfold b198_0 at hQ
  unfold p198_0 at hp
  obtain ⟨hc, hp⟩ := hp
  refine wq_new (c := 9) rfl rfl rfl hc ?_
  refine wp_le [some (.ref l0), none, none, none, none, none, none] (zLe_of (by simp [zLeB])) ?_
  exact s198_3 n    l0 (zN M) (zNew M (0, 9) (zNf 9)) hp hQ
