/-! X12_apart -/
def b154_101 (n : Nat) (k17 : Nat → Int32 → Int32 → zM → Int32 × zM) (l0 : Nat) (l1 : Int32) (l2 : Int32) (M : zM) : Int32 × zM := k17 l0 l1 (l2 + Int32.ofInt 1) M
def p154_101 (n : Nat) (q17 : Nat → Int32 → Int32 → zM → Prop) (l0 : Nat) (l1 : Int32) (l2 : Int32) (M : zM) : Prop := q17 l0 l1 (l2 + Int32.ofInt 1) M
theorem s154_101 (n : Nat) (k17 : Nat → Int32 → Int32 → zM → Int32 × zM) (q17 : Nat → Int32 → Int32 → zM → Prop) (h17 : ∀ (l0 : Nat) (l1 : Int32) (l2 : Int32) (M : zM), q17 l0 l1 l2 M → ∀ {Q : Option Value → zM → Prop}, (∀ r M1, zRI (k17 l0 l1 l2 M) r M1 → Q r M1) → zWP 154 17 [some (.ref l0), some (.int l1), some (.int l2), none, none, none] [] M Q) (l0 : Nat) (l1 : Int32) (l2 : Int32) (M : zM) (hp : p154_101 n q17 l0 l1 l2 M) {Q : Option Value → zM → Prop} (hQ : ∀ r M1, zRI (b154_101 n k17 l0 l1 l2 M) r M1 → Q r M1) : zWP 154 101 [some (.ref l0), some (.int l1), some (.int l2), none, none, none] [] M Q := by
  unfold b154_101 at hQ
  unfold p154_101 at hp
  refine wp_go 2 (pc' := 17) (L' := [some (.ref l0), some (.int l1), some (.int (l2 + Int32.ofInt 1)), none, none, none]) (st' := []) (M' := M) rfl ?_
  exact h17 l0 l1 (l2 + Int32.ofInt 1) M hp hQ
def b154_75 (n : Nat) (k17 : Nat → Int32 → Int32 → zM → Int32 × zM) (k27 : Nat → Int32 → Int32 → Int32 → Int32 → zM → Int32 × zM) (k38 : Nat → Int32 → Int32 → Int32 → Int32 → Int32 → zM → Int32 × zM) (l0 : Nat) (l1 : Int32) (l2 : Int32) (l3 : Int32) (l5 : Int32) (s0 : Int32) (M : zM) : Int32 × zM := k38 l0 l1 l2 l3 s0 (l5 + Int32.ofInt 1) M
def p154_75 (n : Nat) (q17 : Nat → Int32 → Int32 → zM → Prop) (q27 : Nat → Int32 → Int32 → Int32 → Int32 → zM → Prop) (q38 : Nat → Int32 → Int32 → Int32 → Int32 → Int32 → zM → Prop) (l0 : Nat) (l1 : Int32) (l2 : Int32) (l3 : Int32) (l5 : Int32) (s0 : Int32) (M : zM) : Prop := q38 l0 l1 l2 l3 s0 (l5 + Int32.ofInt 1) M
theorem s154_75 (n : Nat) (k17 : Nat → Int32 → Int32 → zM → Int32 × zM) (k27 : Nat → Int32 → Int32 → Int32 → Int32 → zM → Int32 × zM) (k38 : Nat → Int32 → Int32 → Int32 → Int32 → Int32 → zM → Int32 × zM) (q17 : Nat → Int32 → Int32 → zM → Prop) (q27 : Nat → Int32 → Int32 → Int32 → Int32 → zM → Prop) (q38 : Nat → Int32 → Int32 → Int32 → Int32 → Int32 → zM → Prop) (h17 : ∀ (l0 : Nat) (l1 : Int32) (l2 : Int32) (M : zM), q17 l0 l1 l2 M → ∀ {Q : Option Value → zM → Prop}, (∀ r M1, zRI (k17 l0 l1 l2 M) r M1 → Q r M1) → zWP 154 17 [some (.ref l0), some (.int l1), some (.int l2), none, none, none] [] M Q) (h27 : ∀ (l0 : Nat) (l1 : Int32) (l2 : Int32) (l3 : Int32) (l4 : Int32) (M : zM), q27 l0 l1 l2 l3 l4 M → ∀ {Q : Option Value → zM → Prop}, (∀ r M1, zRI (k27 l0 l1 l2 l3 l4 M) r M1 → Q r M1) → zWP 154 27 [some (.ref l0), some (.int l1), some (.int l2), some (.int l3), some (.int l4), none] [] M Q) (h38 : ∀ (l0 : Nat) (l1 : Int32) (l2 : Int32) (l3 : Int32) (l4 : Int32) (l5 : Int32) (M : zM), q38 l0 l1 l2 l3 l4 l5 M → ∀ {Q : Option Value → zM → Prop}, (∀ r M1, zRI (k38 l0 l1 l2 l3 l4 l5 M) r M1 → Q r M1) → zWP 154 38 [some (.ref l0), some (.int l1), some (.int l2), some (.int l3), some (.int l4), some (.int l5)] [] M Q) (l0 : Nat) (l1 : Int32) (l2 : Int32) (l3 : Int32) (l5 : Int32) (s0 : Int32) (M : zM) (hp : p154_75 n q17 q27 q38 l0 l1 l2 l3 l5 s0 M) {Q : Option Value → zM → Prop} (hQ : ∀ r M1, zRI (b154_75 n k17 k27 k38 l0 l1 l2 l3 l5 s0 M) r M1 → Q r M1) : zWP 154 75 [some (.ref l0), some (.int l1), some (.int l2), some (.int l3), none, some (.int l5)] [.int s0] M Q := by
  unfold b154_75 at hQ
  unfold p154_75 at hp
  refine wp_go 3 (pc' := 38) (L' := [some (.ref l0), some (.int l1), some (.int l2), some (.int l3), some (.int s0), some (.int (l5 + Int32.ofInt 1))]) (st' := []) (M' := M) rfl ?_
  exact h38 l0 l1 l2 l3 s0 (l5 + Int32.ofInt 1) M hp hQ
def b154_70 (n : Nat) (k17 : Nat → Int32 → Int32 → zM → Int32 × zM) (k27 : Nat → Int32 → Int32 → Int32 → Int32 → zM → Int32 × zM) (k38 : Nat → Int32 → Int32 → Int32 → Int32 → Int32 → zM → Int32 × zM) (l0 : Nat) (l1 : Int32) (l2 : Int32) (l3 : Int32) (l5 : Int32) (M : zM) : Int32 × zM := b154_75 n k17 k27 k38 l0 l1 l2 l3 l5 (1 : Int32) M
def p154_70 (n : Nat) (q17 : Nat → Int32 → Int32 → zM → Prop) (q27 : Nat → Int32 → Int32 → Int32 → Int32 → zM → Prop) (q38 : Nat → Int32 → Int32 → Int32 → Int32 → Int32 → zM → Prop) (l0 : Nat) (l1 : Int32) (l2 : Int32) (l3 : Int32) (l5 : Int32) (M : zM) : Prop := p154_75 n q17 q27 q38 l0 l1 l2 l3 l5 (1 : Int32) M
theorem s154_70 (n : Nat) (k17 : Nat → Int32 → Int32 → zM → Int32 × zM) (k27 : Nat → Int32 → Int32 → Int32 → Int32 → zM → Int32 × zM) (k38 : Nat → Int32 → Int32 → Int32 → Int32 → Int32 → zM → Int32 × zM) (q17 : Nat → Int32 → Int32 → zM → Prop) (q27 : Nat → Int32 → Int32 → Int32 → Int32 → zM → Prop) (q38 : Nat → Int32 → Int32 → Int32 → Int32 → Int32 → zM → Prop) (h17 : ∀ (l0 : Nat) (l1 : Int32) (l2 : Int32) (M : zM), q17 l0 l1 l2 M → ∀ {Q : Option Value → zM → Prop}, (∀ r M1, zRI (k17 l0 l1 l2 M) r M1 → Q r M1) → zWP 154 17 [some (.ref l0), some (.int l1), some (.int l2), none, none, none] [] M Q) (h27 : ∀ (l0 : Nat) (l1 : Int32) (l2 : Int32) (l3 : Int32) (l4 : Int32) (M : zM), q27 l0 l1 l2 l3 l4 M → ∀ {Q : Option Value → zM → Prop}, (∀ r M1, zRI (k27 l0 l1 l2 l3 l4 M) r M1 → Q r M1) → zWP 154 27 [some (.ref l0), some (.int l1), some (.int l2), some (.int l3), some (.int l4), none] [] M Q) (h38 : ∀ (l0 : Nat) (l1 : Int32) (l2 : Int32) (l3 : Int32) (l4 : Int32) (l5 : Int32) (M : zM), q38 l0 l1 l2 l3 l4 l5 M → ∀ {Q : Option Value → zM → Prop}, (∀ r M1, zRI (k38 l0 l1 l2 l3 l4 l5 M) r M1 → Q r M1) → zWP 154 38 [some (.ref l0), some (.int l1), some (.int l2), some (.int l3), some (.int l4), some (.int l5)] [] M Q) (l0 : Nat) (l1 : Int32) (l2 : Int32) (l3 : Int32) (l5 : Int32) (M : zM) (hp : p154_70 n q17 q27 q38 l0 l1 l2 l3 l5 M) {Q : Option Value → zM → Prop} (hQ : ∀ r M1, zRI (b154_70 n k17 k27 k38 l0 l1 l2 l3 l5 M) r M1 → Q r M1) : zWP 154 70 [some (.ref l0), some (.int l1), some (.int l2), some (.int l3), none, some (.int l5)] [] M Q := by
  unfold b154_70 at hQ
  unfold p154_70 at hp
  refine wp_go 2 (pc' := 75) (L' := [some (.ref l0), some (.int l1), some (.int l2), some (.int l3), none, some (.int l5)]) (st' := [.int (1 : Int32)]) (M' := M) rfl ?_
  exact s154_75 n k17 k27 k38 q17 q27 q38 h17 h27 h38 l0 l1 l2 l3 l5 (1 : Int32) M hp hQ
def b154_74 (n : Nat) (k17 : Nat → Int32 → Int32 → zM → Int32 × zM) (k27 : Nat → Int32 → Int32 → Int32 → Int32 → zM → Int32 × zM) (k38 : Nat → Int32 → Int32 → Int32 → Int32 → Int32 → zM → Int32 × zM) (l0 : Nat) (l1 : Int32) (l2 : Int32) (l3 : Int32) (l5 : Int32) (M : zM) : Int32 × zM := b154_75 n k17 k27 k38 l0 l1 l2 l3 l5 (0 : Int32) M
def p154_74 (n : Nat) (q17 : Nat → Int32 → Int32 → zM → Prop) (q27 : Nat → Int32 → Int32 → Int32 → Int32 → zM → Prop) (q38 : Nat → Int32 → Int32 → Int32 → Int32 → Int32 → zM → Prop) (l0 : Nat) (l1 : Int32) (l2 : Int32) (l3 : Int32) (l5 : Int32) (M : zM) : Prop := p154_75 n q17 q27 q38 l0 l1 l2 l3 l5 (0 : Int32) M
theorem s154_74 (n : Nat) (k17 : Nat → Int32 → Int32 → zM → Int32 × zM) (k27 : Nat → Int32 → Int32 → Int32 → Int32 → zM → Int32 × zM) (k38 : Nat → Int32 → Int32 → Int32 → Int32 → Int32 → zM → Int32 × zM) (q17 : Nat → Int32 → Int32 → zM → Prop) (q27 : Nat → Int32 → Int32 → Int32 → Int32 → zM → Prop) (q38 : Nat → Int32 → Int32 → Int32 → Int32 → Int32 → zM → Prop) (h17 : ∀ (l0 : Nat) (l1 : Int32) (l2 : Int32) (M : zM), q17 l0 l1 l2 M → ∀ {Q : Option Value → zM → Prop}, (∀ r M1, zRI (k17 l0 l1 l2 M) r M1 → Q r M1) → zWP 154 17 [some (.ref l0), some (.int l1), some (.int l2), none, none, none] [] M Q) (h27 : ∀ (l0 : Nat) (l1 : Int32) (l2 : Int32) (l3 : Int32) (l4 : Int32) (M : zM), q27 l0 l1 l2 l3 l4 M → ∀ {Q : Option Value → zM → Prop}, (∀ r M1, zRI (k27 l0 l1 l2 l3 l4 M) r M1 → Q r M1) → zWP 154 27 [some (.ref l0), some (.int l1), some (.int l2), some (.int l3), some (.int l4), none] [] M Q) (h38 : ∀ (l0 : Nat) (l1 : Int32) (l2 : Int32) (l3 : Int32) (l4 : Int32) (l5 : Int32) (M : zM), q38 l0 l1 l2 l3 l4 l5 M → ∀ {Q : Option Value → zM → Prop}, (∀ r M1, zRI (k38 l0 l1 l2 l3 l4 l5 M) r M1 → Q r M1) → zWP 154 38 [some (.ref l0), some (.int l1), some (.int l2), some (.int l3), some (.int l4), some (.int l5)] [] M Q) (l0 : Nat) (l1 : Int32) (l2 : Int32) (l3 : Int32) (l5 : Int32) (M : zM) (hp : p154_74 n q17 q27 q38 l0 l1 l2 l3 l5 M) {Q : Option Value → zM → Prop} (hQ : ∀ r M1, zRI (b154_74 n k17 k27 k38 l0 l1 l2 l3 l5 M) r M1 → Q r M1) : zWP 154 74 [some (.ref l0), some (.int l1), some (.int l2), some (.int l3), none, some (.int l5)] [] M Q := by
  unfold b154_74 at hQ
  unfold p154_74 at hp
  refine wp_go 1 (pc' := 75) (L' := [some (.ref l0), some (.int l1), some (.int l2), some (.int l3), none, some (.int l5)]) (st' := [.int (0 : Int32)]) (M' := M) rfl ?_
  exact s154_75 n k17 k27 k38 q17 q27 q38 h17 h27 h38 l0 l1 l2 l3 l5 (0 : Int32) M hp hQ
def b154_67 (n : Nat) (k17 : Nat → Int32 → Int32 → zM → Int32 × zM) (k27 : Nat → Int32 → Int32 → Int32 → Int32 → zM → Int32 × zM) (k38 : Nat → Int32 → Int32 → Int32 → Int32 → Int32 → zM → Int32 × zM) (l0 : Nat) (l1 : Int32) (l2 : Int32) (l3 : Int32) (l5 : Int32) (s0 : Int32) (M : zM) : Int32 × zM := (if s0 ≤ 0 then b154_74 n k17 k27 k38 l0 l1 l2 l3 l5 M else b154_70 n k17 k27 k38 l0 l1 l2 l3 l5 M)
def p154_67 (n : Nat) (q17 : Nat → Int32 → Int32 → zM → Prop) (q27 : Nat → Int32 → Int32 → Int32 → Int32 → zM → Prop) (q38 : Nat → Int32 → Int32 → Int32 → Int32 → Int32 → zM → Prop) (l0 : Nat) (l1 : Int32) (l2 : Int32) (l3 : Int32) (l5 : Int32) (s0 : Int32) (M : zM) : Prop := ((s0 ≤ 0 → p154_74 n q17 q27 q38 l0 l1 l2 l3 l5 M) ∧ (¬ s0 ≤ 0 → p154_70 n q17 q27 q38 l0 l1 l2 l3 l5 M))
theorem s154_67 (n : Nat) (k17 : Nat → Int32 → Int32 → zM → Int32 × zM) (k27 : Nat → Int32 → Int32 → Int32 → Int32 → zM → Int32 × zM) (k38 : Nat → Int32 → Int32 → Int32 → Int32 → Int32 → zM → Int32 × zM) (q17 : Nat → Int32 → Int32 → zM → Prop) (q27 : Nat → Int32 → Int32 → Int32 → Int32 → zM → Prop) (q38 : Nat → Int32 → Int32 → Int32 → Int32 → Int32 → zM → Prop) (h17 : ∀ (l0 : Nat) (l1 : Int32) (l2 : Int32) (M : zM), q17 l0 l1 l2 M → ∀ {Q : Option Value → zM → Prop}, (∀ r M1, zRI (k17 l0 l1 l2 M) r M1 → Q r M1) → zWP 154 17 [some (.ref l0), some (.int l1), some (.int l2), none, none, none] [] M Q) (h27 : ∀ (l0 : Nat) (l1 : Int32) (l2 : Int32) (l3 : Int32) (l4 : Int32) (M : zM), q27 l0 l1 l2 l3 l4 M → ∀ {Q : Option Value → zM → Prop}, (∀ r M1, zRI (k27 l0 l1 l2 l3 l4 M) r M1 → Q r M1) → zWP 154 27 [some (.ref l0), some (.int l1), some (.int l2), some (.int l3), some (.int l4), none] [] M Q) (h38 : ∀ (l0 : Nat) (l1 : Int32) (l2 : Int32) (l3 : Int32) (l4 : Int32) (l5 : Int32) (M : zM), q38 l0 l1 l2 l3 l4 l5 M → ∀ {Q : Option Value → zM → Prop}, (∀ r M1, zRI (k38 l0 l1 l2 l3 l4 l5 M) r M1 → Q r M1) → zWP 154 38 [some (.ref l0), some (.int l1), some (.int l2), some (.int l3), some (.int l4), some (.int l5)] [] M Q) (l0 : Nat) (l1 : Int32) (l2 : Int32) (l3 : Int32) (l5 : Int32) (s0 : Int32) (M : zM) (hp : p154_67 n q17 q27 q38 l0 l1 l2 l3 l5 s0 M) {Q : Option Value → zM → Prop} (hQ : ∀ r M1, zRI (b154_67 n k17 k27 k38 l0 l1 l2 l3 l5 s0 M) r M1 → Q r M1) : zWP 154 67 [some (.ref l0), some (.int l1), some (.int l2), some (.int l3), none, some (.int l5)] [.int s0] M Q := by
  unfold b154_67 at hQ
  unfold p154_67 at hp
  refine wp_if_le (t := 74) rfl rfl (fun hc => ?_) (fun hc => ?_)
  · rw [if_pos hc] at hQ
    replace hp := hp.1 hc
    exact s154_74 n k17 k27 k38 q17 q27 q38 h17 h27 h38 l0 l1 l2 l3 l5 M hp hQ
  · rw [if_neg hc] at hQ
    replace hp := hp.2 hc
    exact s154_70 n k17 k27 k38 q17 q27 q38 h17 h27 h38 l0 l1 l2 l3 l5 M hp hQ
def c154_38 (n : Nat) (k17 : Nat → Int32 → Int32 → zM → Int32 × zM) (k27 : Nat → Int32 → Int32 → Int32 → Int32 → zM → Int32 × zM) (k38 : Nat → Int32 → Int32 → Int32 → Int32 → Int32 → zM → Int32 × zM) (l0 : Nat) (l1 : Int32) (l2 : Int32) (l3 : Int32) (l4 : Int32) (l5 : Int32) (M : zM) : Int32 × zM := (if l2 ≤ l5 then (if l4 = 0 then k27 l0 l1 l2 l3 l4 M else k27 l0 l1 l2 (l3 + Int32.ofInt 1) l4 M) else (if l4 = 0 then (if (zI M (zQ M l0 37) l5.toNatClampNeg) = l3 then b154_67 n k17 k27 k38 l0 l1 l2 l3 l5 (b152_0 n l0 l2 l5 M).1 (b152_0 n l0 l2 l5 M).2 else b154_74 n k17 k27 k38 l0 l1 l2 l3 l5 M) else b154_70 n k17 k27 k38 l0 l1 l2 l3 l5 M))
def d154_38 (n : Nat) (q17 : Nat → Int32 → Int32 → zM → Prop) (q27 : Nat → Int32 → Int32 → Int32 → Int32 → zM → Prop) (q38 : Nat → Int32 → Int32 → Int32 → Int32 → Int32 → zM → Prop) (l0 : Nat) (l1 : Int32) (l2 : Int32) (l3 : Int32) (l4 : Int32) (l5 : Int32) (M : zM) : Prop := ((l2 ≤ l5 → ((l4 = 0 → q27 l0 l1 l2 l3 l4 M) ∧ (¬ l4 = 0 → q27 l0 l1 l2 (l3 + Int32.ofInt 1) l4 M))) ∧ (¬ l2 ≤ l5 → ((l4 = 0 → (zHasQ 10 90 l0 M 37) ∧ ((zOkI (zQ M l0 37) l5 M) ∧ ((((zI M (zQ M l0 37) l5.toNatClampNeg) = l3 → (zHasC 154 247 l0 M 152 2) ∧ ((p152_0 n l0 l2 l5 M) ∧ (p154_67 n q17 q27 q38 l0 l1 l2 l3 l5 (b152_0 n l0 l2 l5 M).1 (b152_0 n l0 l2 l5 M).2))) ∧ (¬ (zI M (zQ M l0 37) l5.toNatClampNeg) = l3 → p154_74 n q17 q27 q38 l0 l1 l2 l3 l5 M))))) ∧ (¬ l4 = 0 → p154_70 n q17 q27 q38 l0 l1 l2 l3 l5 M))))
theorem t154_38 (n : Nat) (k17 : Nat → Int32 → Int32 → zM → Int32 × zM) (k27 : Nat → Int32 → Int32 → Int32 → Int32 → zM → Int32 × zM) (k38 : Nat → Int32 → Int32 → Int32 → Int32 → Int32 → zM → Int32 × zM) (q17 : Nat → Int32 → Int32 → zM → Prop) (q27 : Nat → Int32 → Int32 → Int32 → Int32 → zM → Prop) (q38 : Nat → Int32 → Int32 → Int32 → Int32 → Int32 → zM → Prop) (h17 : ∀ (l0 : Nat) (l1 : Int32) (l2 : Int32) (M : zM), q17 l0 l1 l2 M → ∀ {Q : Option Value → zM → Prop}, (∀ r M1, zRI (k17 l0 l1 l2 M) r M1 → Q r M1) → zWP 154 17 [some (.ref l0), some (.int l1), some (.int l2), none, none, none] [] M Q) (h27 : ∀ (l0 : Nat) (l1 : Int32) (l2 : Int32) (l3 : Int32) (l4 : Int32) (M : zM), q27 l0 l1 l2 l3 l4 M → ∀ {Q : Option Value → zM → Prop}, (∀ r M1, zRI (k27 l0 l1 l2 l3 l4 M) r M1 → Q r M1) → zWP 154 27 [some (.ref l0), some (.int l1), some (.int l2), some (.int l3), some (.int l4), none] [] M Q) (h38 : ∀ (l0 : Nat) (l1 : Int32) (l2 : Int32) (l3 : Int32) (l4 : Int32) (l5 : Int32) (M : zM), q38 l0 l1 l2 l3 l4 l5 M → ∀ {Q : Option Value → zM → Prop}, (∀ r M1, zRI (k38 l0 l1 l2 l3 l4 l5 M) r M1 → Q r M1) → zWP 154 38 [some (.ref l0), some (.int l1), some (.int l2), some (.int l3), some (.int l4), some (.int l5)] [] M Q) (l0 : Nat) (l1 : Int32) (l2 : Int32) (l3 : Int32) (l4 : Int32) (l5 : Int32) (M : zM) (hp : d154_38 n q17 q27 q38 l0 l1 l2 l3 l4 l5 M) {Q : Option Value → zM → Prop} (hQ : ∀ r M1, zRI (c154_38 n k17 k27 k38 l0 l1 l2 l3 l4 l5 M) r M1 → Q r M1) : zWP 154 38 [some (.ref l0), some (.int l1), some (.int l2), some (.int l3), some (.int l4), some (.int l5)] [] M Q := by
  unfold c154_38 at hQ
  unfold d154_38 at hp
  refine wp_go 2 (pc' := 41) (L' := [some (.ref l0), some (.int l1), some (.int l2), some (.int l3), some (.int l4), some (.int l5)]) (st' := [.int l2, .int l5]) (M' := M) rfl ?_
  refine wp_ic_ge (t := 83) rfl rfl (fun hc => ?_) (fun hc => ?_)
  · rw [if_pos hc] at hQ
    replace hp := hp.1 hc
    refine wp_go 1 (pc' := 85) (L' := [some (.ref l0), some (.int l1), some (.int l2), some (.int l3), some (.int l4), some (.int l5)]) (st' := [.int l4]) (M' := M) rfl ?_
    refine wp_if_eq (t := 27) rfl rfl (fun hc => ?_) (fun hc => ?_)
    · rw [if_pos hc] at hQ
      replace hp := hp.1 hc
      refine wp_le [some (.ref l0), some (.int l1), some (.int l2), some (.int l3), some (.int l4), none] (zLe_of (by simp [zLeB])) ?_
      exact h27 l0 l1 l2 l3 l4 M hp hQ
    · rw [if_neg hc] at hQ
      replace hp := hp.2 hc
      refine wp_go 2 (pc' := 27) (L' := [some (.ref l0), some (.int l1), some (.int l2), some (.int (l3 + Int32.ofInt 1)), some (.int l4), some (.int l5)]) (st' := []) (M' := M) rfl ?_
      refine wp_le [some (.ref l0), some (.int l1), some (.int l2), some (.int (l3 + Int32.ofInt 1)), some (.int l4), none] (zLe_of (by simp [zLeB])) ?_
      exact h27 l0 l1 l2 (l3 + Int32.ofInt 1) l4 M hp hQ
  · rw [if_neg hc] at hQ
    replace hp := hp.2 hc
    refine wp_go 1 (pc' := 46) (L' := [some (.ref l0), some (.int l1), some (.int l2), some (.int l3), some (.int l4), some (.int l5)]) (st' := [.int l4]) (M' := M) rfl ?_
    refine wp_if_ne (t := 70) rfl rfl (fun hc => ?_) (fun hc => ?_)
    · rw [if_neg hc] at hQ
      replace hp := hp.2 hc
      refine wp_le [some (.ref l0), some (.int l1), some (.int l2), some (.int l3), none, some (.int l5)] (zLe_of (by simp [zLeB])) ?_
      exact s154_70 n k17 k27 k38 q17 q27 q38 h17 h27 h38 l0 l1 l2 l3 l5 M hp hQ
    · rw [if_pos hc] at hQ
      replace hp := hp.1 hc
      refine wp_go 1 (pc' := 50) (L' := [some (.ref l0), some (.int l1), some (.int l2), some (.int l3), some (.int l4), some (.int l5)]) (st' := [.ref l0]) (M' := M) rfl ?_
      obtain ⟨hc, hp⟩ := hp
      refine wq_getQ (j := 37) rfl hc ?_
      refine wp_go 1 (pc' := 55) (L' := [some (.ref l0), some (.int l1), some (.int l2), some (.int l3), some (.int l4), some (.int l5)]) (st' := [.int l5, .ref (zQ M l0 37)]) (M' := M) rfl ?_
      obtain ⟨hc, hp⟩ := hp
      refine wq_iald rfl hc ?_
      refine wp_go 1 (pc' := 57) (L' := [some (.ref l0), some (.int l1), some (.int l2), some (.int l3), some (.int l4), some (.int l5)]) (st' := [.int l3, .int (zI M (zQ M l0 37) l5.toNatClampNeg)]) (M' := M) rfl ?_
      refine wp_ic_ne (t := 74) rfl rfl (fun hc => ?_) (fun hc => ?_)
      · rw [if_neg hc] at hQ
        replace hp := hp.2 hc
        refine wp_le [some (.ref l0), some (.int l1), some (.int l2), some (.int l3), none, some (.int l5)] (zLe_of (by simp [zLeB])) ?_
        exact s154_74 n k17 k27 k38 q17 q27 q38 h17 h27 h38 l0 l1 l2 l3 l5 M hp hQ
      · rw [if_pos hc] at hQ
        replace hp := hp.1 hc
        refine wp_go 3 (pc' := 64) (L' := [some (.ref l0), some (.int l1), some (.int l2), some (.int l3), some (.int l4), some (.int l5)]) (st' := [.int l5, .int l2, .ref l0]) (M' := M) rfl ?_
        obtain ⟨hv, hp⟩ := hp
        obtain ⟨hc, hp⟩ := hp
        refine wp_calli (v := (b152_0 n l0 l2 l5 M).1) (M1 := (b152_0 n l0 l2 l5 M).2) rfl rfl rfl (zInv_v (np := 2) rfl rfl hv rfl) (s152_0 n l0 l2 l5 M hc (fun r M1 h => h)) ?_
        refine wp_le [some (.ref l0), some (.int l1), some (.int l2), some (.int l3), none, some (.int l5)] (zLe_of (by simp [zLeB])) ?_
        exact s154_67 n k17 k27 k38 q17 q27 q38 h17 h27 h38 l0 l1 l2 l3 l5 (b152_0 n l0 l2 l5 M).1 (b152_0 n l0 l2 l5 M).2 hp hQ
def b154_38 (n : Nat) (k17 : Nat → Int32 → Int32 → zM → Int32 × zM) (k27 : Nat → Int32 → Int32 → Int32 → Int32 → zM → Int32 × zM) : Nat → Nat → Int32 → Int32 → Int32 → Int32 → Int32 → zM → Int32 × zM
  | 0, _, _, _, _, _, _, M => (0, M)
  | k + 1, l0, l1, l2, l3, l4, l5, M => c154_38 n k17 k27 (b154_38 n k17 k27 k) l0 l1 l2 l3 l4 l5 M
def p154_38 (n : Nat) (q17 : Nat → Int32 → Int32 → zM → Prop) (q27 : Nat → Int32 → Int32 → Int32 → Int32 → zM → Prop) : Nat → Nat → Int32 → Int32 → Int32 → Int32 → Int32 → zM → Prop
  | 0, _, _, _, _, _, _, _ => False
  | k + 1, l0, l1, l2, l3, l4, l5, M => d154_38 n q17 q27 (p154_38 n q17 q27 k) l0 l1 l2 l3 l4 l5 M
theorem s154_38 (n : Nat) (k17 : Nat → Int32 → Int32 → zM → Int32 × zM) (k27 : Nat → Int32 → Int32 → Int32 → Int32 → zM → Int32 × zM) (q17 : Nat → Int32 → Int32 → zM → Prop) (q27 : Nat → Int32 → Int32 → Int32 → Int32 → zM → Prop) (h17 : ∀ (l0 : Nat) (l1 : Int32) (l2 : Int32) (M : zM), q17 l0 l1 l2 M → ∀ {Q : Option Value → zM → Prop}, (∀ r M1, zRI (k17 l0 l1 l2 M) r M1 → Q r M1) → zWP 154 17 [some (.ref l0), some (.int l1), some (.int l2), none, none, none] [] M Q) (h27 : ∀ (l0 : Nat) (l1 : Int32) (l2 : Int32) (l3 : Int32) (l4 : Int32) (M : zM), q27 l0 l1 l2 l3 l4 M → ∀ {Q : Option Value → zM → Prop}, (∀ r M1, zRI (k27 l0 l1 l2 l3 l4 M) r M1 → Q r M1) → zWP 154 27 [some (.ref l0), some (.int l1), some (.int l2), some (.int l3), some (.int l4), none] [] M Q) : ∀ (k : Nat) (l0 : Nat) (l1 : Int32) (l2 : Int32) (l3 : Int32) (l4 : Int32) (l5 : Int32) (M : zM), p154_38 n q17 q27 k l0 l1 l2 l3 l4 l5 M → ∀ {Q : Option Value → zM → Prop}, (∀ r M1, zRI (b154_38 n k17 k27 k l0 l1 l2 l3 l4 l5 M) r M1 → Q r M1) → zWP 154 38 [some (.ref l0), some (.int l1), some (.int l2), some (.int l3), some (.int l4), some (.int l5)] [] M Q
  | 0, _, _, _, _, _, _, _, h, _, _ => h.elim
  | k + 1, l0, l1, l2, l3, l4, l5, M, h, _, hQ => t154_38 n k17 k27 (b154_38 n k17 k27 k) q17 q27 (p154_38 n q17 q27 k) h17 h27 (s154_38 n k17 k27 q17 q27 h17 h27 k) l0 l1 l2 l3 l4 l5 M h hQ
def c154_27 (n : Nat) (k17 : Nat → Int32 → Int32 → zM → Int32 × zM) (k27 : Nat → Int32 → Int32 → Int32 → Int32 → zM → Int32 × zM) (l0 : Nat) (l1 : Int32) (l2 : Int32) (l3 : Int32) (l4 : Int32) (M : zM) : Int32 × zM := (if l4 = 0 then b154_101 n k17 l0 l1 l2 (zWI M (zQ M l0 37) l2.toNatClampNeg l3) else b154_38 n k17 k27 n l0 l1 l2 l3 (0 : Int32) (0 : Int32) M)
def d154_27 (n : Nat) (q17 : Nat → Int32 → Int32 → zM → Prop) (q27 : Nat → Int32 → Int32 → Int32 → Int32 → zM → Prop) (l0 : Nat) (l1 : Int32) (l2 : Int32) (l3 : Int32) (l4 : Int32) (M : zM) : Prop := ((l4 = 0 → (zHasQ 10 90 l0 M 37) ∧ ((zOkT 1 (zQ M l0 37) l2 M) ∧ (p154_101 n q17 l0 l1 l2 (zWI M (zQ M l0 37) l2.toNatClampNeg l3)))) ∧ (¬ l4 = 0 → p154_38 n q17 q27 n l0 l1 l2 l3 (0 : Int32) (0 : Int32) M))
theorem t154_27 (n : Nat) (k17 : Nat → Int32 → Int32 → zM → Int32 × zM) (k27 : Nat → Int32 → Int32 → Int32 → Int32 → zM → Int32 × zM) (q17 : Nat → Int32 → Int32 → zM → Prop) (q27 : Nat → Int32 → Int32 → Int32 → Int32 → zM → Prop) (h17 : ∀ (l0 : Nat) (l1 : Int32) (l2 : Int32) (M : zM), q17 l0 l1 l2 M → ∀ {Q : Option Value → zM → Prop}, (∀ r M1, zRI (k17 l0 l1 l2 M) r M1 → Q r M1) → zWP 154 17 [some (.ref l0), some (.int l1), some (.int l2), none, none, none] [] M Q) (h27 : ∀ (l0 : Nat) (l1 : Int32) (l2 : Int32) (l3 : Int32) (l4 : Int32) (M : zM), q27 l0 l1 l2 l3 l4 M → ∀ {Q : Option Value → zM → Prop}, (∀ r M1, zRI (k27 l0 l1 l2 l3 l4 M) r M1 → Q r M1) → zWP 154 27 [some (.ref l0), some (.int l1), some (.int l2), some (.int l3), some (.int l4), none] [] M Q) (l0 : Nat) (l1 : Int32) (l2 : Int32) (l3 : Int32) (l4 : Int32) (M : zM) (hp : d154_27 n q17 q27 l0 l1 l2 l3 l4 M) {Q : Option Value → zM → Prop} (hQ : ∀ r M1, zRI (c154_27 n k17 k27 l0 l1 l2 l3 l4 M) r M1 → Q r M1) : zWP 154 27 [some (.ref l0), some (.int l1), some (.int l2), some (.int l3), some (.int l4), none] [] M Q := by
  unfold c154_27 at hQ
  unfold d154_27 at hp
  refine wp_go 1 (pc' := 29) (L' := [some (.ref l0), some (.int l1), some (.int l2), some (.int l3), some (.int l4), none]) (st' := [.int l4]) (M' := M) rfl ?_
  refine wp_if_eq (t := 94) rfl rfl (fun hc => ?_) (fun hc => ?_)
  · rw [if_pos hc] at hQ
    replace hp := hp.1 hc
    refine wp_go 1 (pc' := 95) (L' := [some (.ref l0), some (.int l1), some (.int l2), some (.int l3), some (.int l4), none]) (st' := [.ref l0]) (M' := M) rfl ?_
    obtain ⟨hc, hp⟩ := hp
    refine wq_getQ (j := 37) rfl hc ?_
    refine wp_go 2 (pc' := 100) (L' := [some (.ref l0), some (.int l1), some (.int l2), some (.int l3), some (.int l4), none]) (st' := [.int l3, .int l2, .ref (zQ M l0 37)]) (M' := M) rfl ?_
    obtain ⟨hc, hp⟩ := hp
    refine wq_iast rfl hc ?_
    refine wp_le [some (.ref l0), some (.int l1), some (.int l2), none, none, none] (zLe_of (by simp [zLeB])) ?_
    exact s154_101 n k17 q17 h17 l0 l1 l2 (zWI M (zQ M l0 37) l2.toNatClampNeg l3) hp hQ
  · rw [if_neg hc] at hQ
    replace hp := hp.2 hc
    refine wp_go 4 (pc' := 38) (L' := [some (.ref l0), some (.int l1), some (.int l2), some (.int l3), some (.int (0 : Int32)), some (.int (0 : Int32))]) (st' := []) (M' := M) rfl ?_
    exact s154_38 n k17 k27 q17 q27 h17 h27 n l0 l1 l2 l3 (0 : Int32) (0 : Int32) M hp hQ
def b154_27 (n : Nat) (k17 : Nat → Int32 → Int32 → zM → Int32 × zM) : Nat → Nat → Int32 → Int32 → Int32 → Int32 → zM → Int32 × zM
  | 0, _, _, _, _, _, M => (0, M)
  | k + 1, l0, l1, l2, l3, l4, M => c154_27 n k17 (b154_27 n k17 k) l0 l1 l2 l3 l4 M
def p154_27 (n : Nat) (q17 : Nat → Int32 → Int32 → zM → Prop) : Nat → Nat → Int32 → Int32 → Int32 → Int32 → zM → Prop
  | 0, _, _, _, _, _, _ => False
  | k + 1, l0, l1, l2, l3, l4, M => d154_27 n q17 (p154_27 n q17 k) l0 l1 l2 l3 l4 M
theorem s154_27 (n : Nat) (k17 : Nat → Int32 → Int32 → zM → Int32 × zM) (q17 : Nat → Int32 → Int32 → zM → Prop) (h17 : ∀ (l0 : Nat) (l1 : Int32) (l2 : Int32) (M : zM), q17 l0 l1 l2 M → ∀ {Q : Option Value → zM → Prop}, (∀ r M1, zRI (k17 l0 l1 l2 M) r M1 → Q r M1) → zWP 154 17 [some (.ref l0), some (.int l1), some (.int l2), none, none, none] [] M Q) : ∀ (k : Nat) (l0 : Nat) (l1 : Int32) (l2 : Int32) (l3 : Int32) (l4 : Int32) (M : zM), p154_27 n q17 k l0 l1 l2 l3 l4 M → ∀ {Q : Option Value → zM → Prop}, (∀ r M1, zRI (b154_27 n k17 k l0 l1 l2 l3 l4 M) r M1 → Q r M1) → zWP 154 27 [some (.ref l0), some (.int l1), some (.int l2), some (.int l3), some (.int l4), none] [] M Q
  | 0, _, _, _, _, _, _, h, _, _ => h.elim
  | k + 1, l0, l1, l2, l3, l4, M, h, _, hQ => t154_27 n k17 (b154_27 n k17 k) q17 (p154_27 n q17 k) h17 (s154_27 n k17 q17 h17 k) l0 l1 l2 l3 l4 M h hQ
def c154_17 (n : Nat) (k17 : Nat → Int32 → Int32 → zM → Int32 × zM) (l0 : Nat) (l1 : Int32) (l2 : Int32) (M : zM) : Int32 × zM := (if l1 < l2 then ((zI M (zQ M l0 37) l1.toNatClampNeg), M) else b154_27 n k17 n l0 l1 l2 (0 : Int32) (1 : Int32) M)
def d154_17 (n : Nat) (q17 : Nat → Int32 → Int32 → zM → Prop) (l0 : Nat) (l1 : Int32) (l2 : Int32) (M : zM) : Prop := ((l1 < l2 → (zHasQ 10 90 l0 M 37) ∧ ((zOkI (zQ M l0 37) l1 M) ∧ (True))) ∧ (¬ l1 < l2 → p154_27 n q17 n l0 l1 l2 (0 : Int32) (1 : Int32) M))
theorem t154_17 (n : Nat) (k17 : Nat → Int32 → Int32 → zM → Int32 × zM) (q17 : Nat → Int32 → Int32 → zM → Prop) (h17 : ∀ (l0 : Nat) (l1 : Int32) (l2 : Int32) (M : zM), q17 l0 l1 l2 M → ∀ {Q : Option Value → zM → Prop}, (∀ r M1, zRI (k17 l0 l1 l2 M) r M1 → Q r M1) → zWP 154 17 [some (.ref l0), some (.int l1), some (.int l2), none, none, none] [] M Q) (l0 : Nat) (l1 : Int32) (l2 : Int32) (M : zM) (hp : d154_17 n q17 l0 l1 l2 M) {Q : Option Value → zM → Prop} (hQ : ∀ r M1, zRI (c154_17 n k17 l0 l1 l2 M) r M1 → Q r M1) : zWP 154 17 [some (.ref l0), some (.int l1), some (.int l2), none, none, none] [] M Q := by
  unfold c154_17 at hQ
  unfold d154_17 at hp
  refine wp_go 2 (pc' := 19) (L' := [some (.ref l0), some (.int l1), some (.int l2), none, none, none]) (st' := [.int l1, .int l2]) (M' := M) rfl ?_
  refine wp_ic_gt (t := 107) rfl rfl (fun hc => ?_) (fun hc => ?_)
  · rw [if_pos hc] at hQ
    replace hp := hp.1 hc
    refine wp_go 1 (pc' := 108) (L' := [some (.ref l0), some (.int l1), some (.int l2), none, none, none]) (st' := [.ref l0]) (M' := M) rfl ?_
    obtain ⟨hc, hp⟩ := hp
    refine wq_getQ (j := 37) rfl hc ?_
    refine wp_go 1 (pc' := 112) (L' := [some (.ref l0), some (.int l1), some (.int l2), none, none, none]) (st' := [.int l1, .ref (zQ M l0 37)]) (M' := M) rfl ?_
    obtain ⟨hc, hp⟩ := hp
    refine wq_iald rfl hc ?_
    exact wp_ret (r := some (.int (zI M (zQ M l0 37) l1.toNatClampNeg))) rfl rfl (hQ _ _ ⟨rfl, rfl⟩)
  · rw [if_neg hc] at hQ
    replace hp := hp.2 hc
    refine wp_go 4 (pc' := 27) (L' := [some (.ref l0), some (.int l1), some (.int l2), some (.int (0 : Int32)), some (.int (1 : Int32)), none]) (st' := []) (M' := M) rfl ?_
    exact s154_27 n k17 q17 h17 n l0 l1 l2 (0 : Int32) (1 : Int32) M hp hQ
def b154_17 (n : Nat)  : Nat → Nat → Int32 → Int32 → zM → Int32 × zM
  | 0, _, _, _, M => (0, M)
  | k + 1, l0, l1, l2, M => c154_17 n  (b154_17 n  k) l0 l1 l2 M
def p154_17 (n : Nat)  : Nat → Nat → Int32 → Int32 → zM → Prop
  | 0, _, _, _, _ => False
  | k + 1, l0, l1, l2, M => d154_17 n  (p154_17 n  k) l0 l1 l2 M
theorem s154_17 (n : Nat)    : ∀ (k : Nat) (l0 : Nat) (l1 : Int32) (l2 : Int32) (M : zM), p154_17 n  k l0 l1 l2 M → ∀ {Q : Option Value → zM → Prop}, (∀ r M1, zRI (b154_17 n  k l0 l1 l2 M) r M1 → Q r M1) → zWP 154 17 [some (.ref l0), some (.int l1), some (.int l2), none, none, none] [] M Q
  | 0, _, _, _, _, h, _, _ => h.elim
  | k + 1, l0, l1, l2, M, h, _, hQ => t154_17 n  (b154_17 n  k)  (p154_17 n  k)  (s154_17 n    k) l0 l1 l2 M h hQ
def b154_10 (n : Nat)  (l0 : Nat) (l1 : Int32) (s0 : Int32) (M : zM) : Int32 × zM := (if s0 = 0 then (((-1) : Int32), M) else b154_17 n  n l0 l1 (0 : Int32) M)
def p154_10 (n : Nat)  (l0 : Nat) (l1 : Int32) (s0 : Int32) (M : zM) : Prop := ((s0 = 0 → True) ∧ (¬ s0 = 0 → p154_17 n  n l0 l1 (0 : Int32) M))
theorem s154_10 (n : Nat)    (l0 : Nat) (l1 : Int32) (s0 : Int32) (M : zM) (hp : p154_10 n  l0 l1 s0 M) {Q : Option Value → zM → Prop} (hQ : ∀ r M1, zRI (b154_10 n  l0 l1 s0 M) r M1 → Q r M1) : zWP 154 10 [some (.ref l0), some (.int l1), none, none, none, none] [.int s0] M Q := by
  unfold b154_10 at hQ
  unfold p154_10 at hp
  refine wp_if_ne (t := 15) rfl rfl (fun hc => ?_) (fun hc => ?_)
  · rw [if_neg hc] at hQ
    replace hp := hp.2 hc
    refine wp_go 2 (pc' := 17) (L' := [some (.ref l0), some (.int l1), some (.int (0 : Int32)), none, none, none]) (st' := []) (M' := M) rfl ?_
    exact s154_17 n    n l0 l1 (0 : Int32) M hp hQ
  · rw [if_pos hc] at hQ
    replace hp := hp.1 hc
    refine wp_go 1 (pc' := 14) (L' := [some (.ref l0), some (.int l1), none, none, none, none]) (st' := [.int ((-1) : Int32)]) (M' := M) rfl ?_
    exact wp_ret (r := some (.int ((-1) : Int32))) rfl rfl (hQ _ _ ⟨rfl, rfl⟩)
def b154_5 (n : Nat)  (l0 : Nat) (l1 : Int32) (M : zM) : Int32 × zM := b154_10 n  l0 l1 (b126_0 n l0 l1 M).1 (b126_0 n l0 l1 M).2
def p154_5 (n : Nat)  (l0 : Nat) (l1 : Int32) (M : zM) : Prop := (zHasC 154 151 l0 M 126 1) ∧ ((p126_0 n l0 l1 M) ∧ (p154_10 n  l0 l1 (b126_0 n l0 l1 M).1 (b126_0 n l0 l1 M).2))
theorem s154_5 (n : Nat)    (l0 : Nat) (l1 : Int32) (M : zM) (hp : p154_5 n  l0 l1 M) {Q : Option Value → zM → Prop} (hQ : ∀ r M1, zRI (b154_5 n  l0 l1 M) r M1 → Q r M1) : zWP 154 5 [some (.ref l0), some (.int l1), none, none, none, none] [] M Q := by
  unfold b154_5 at hQ
  unfold p154_5 at hp
  refine wp_go 2 (pc' := 7) (L' := [some (.ref l0), some (.int l1), none, none, none, none]) (st' := [.int l1, .ref l0]) (M' := M) rfl ?_
  obtain ⟨hv, hp⟩ := hp
  obtain ⟨hc, hp⟩ := hp
  refine wp_calli (v := (b126_0 n l0 l1 M).1) (M1 := (b126_0 n l0 l1 M).2) rfl rfl rfl (zInv_v (np := 1) rfl rfl hv rfl) (s126_0 n l0 l1 M hc (fun r M1 h => h)) ?_
  exact s154_10 n    l0 l1 (b126_0 n l0 l1 M).1 (b126_0 n l0 l1 M).2 hp hQ
def b154_0 (n : Nat)  (l0 : Nat) (l1 : Int32) (M : zM) : Int32 × zM := b154_5 n  l0 l1 (zWI M l0 26 (0 : Int32))
def p154_0 (n : Nat)  (l0 : Nat) (l1 : Int32) (M : zM) : Prop := (zPutI 154 138 l0 M 26 (0 : Int32)) ∧ (p154_5 n  l0 l1 (zWI M l0 26 (0 : Int32)))
theorem s154_0 (n : Nat)    (l0 : Nat) (l1 : Int32) (M : zM) (hp : p154_0 n  l0 l1 M) {Q : Option Value → zM → Prop} (hQ : ∀ r M1, zRI (b154_0 n  l0 l1 M) r M1 → Q r M1) : zWP 154 0 [some (.ref l0), some (.int l1), none, none, none, none] [] M Q := by
  unfold b154_0 at hQ
  unfold p154_0 at hp
  refine wp_go 2 (pc' := 2) (L' := [some (.ref l0), some (.int l1), none, none, none, none]) (st' := [.int (0 : Int32), .ref l0]) (M' := M) rfl ?_
  obtain ⟨hc, hp⟩ := hp
  refine wq_putI (j := 26) rfl hc ?_
  exact s154_5 n    l0 l1 (zWI M l0 26 (0 : Int32)) hp hQ
/-! X12_misses -/
def b159_63 (n : Nat)  (s0 : Int32) (M : zM) : Int32 × zM := (s0, M)
def p159_63 (n : Nat)  (s0 : Int32) (M : zM) : Prop := True
theorem s159_63 (n : Nat)    (s0 : Int32) (M : zM) (hp : p159_63 n  s0 M) {Q : Option Value → zM → Prop} (hQ : ∀ r M1, zRI (b159_63 n  s0 M) r M1 → Q r M1) : zWP 159 63 [none, none, none] [.int s0] M Q := by
  unfold b159_63 at hQ
  unfold p159_63 at hp
  exact wp_ret (r := some (.int s0)) rfl rfl (hQ _ _ ⟨rfl, rfl⟩)
def b159_60 (n : Nat)  (s0 : Int32) (s1 : Int32) (M : zM) : Int32 × zM := b159_63 n  (b125_0 n s0 s1 M).1 (b125_0 n s0 s1 M).2
def p159_60 (n : Nat)  (s0 : Int32) (s1 : Int32) (M : zM) : Prop := (p125_0 n s0 s1 M) ∧ (p159_63 n  (b125_0 n s0 s1 M).1 (b125_0 n s0 s1 M).2)
theorem s159_60 (n : Nat)    (s0 : Int32) (s1 : Int32) (M : zM) (hp : p159_60 n  s0 s1 M) {Q : Option Value → zM → Prop} (hQ : ∀ r M1, zRI (b159_60 n  s0 s1 M) r M1 → Q r M1) : zWP 159 60 [none, none, none] [.int s1, .int s0] M Q := by
  unfold b159_60 at hQ
  unfold p159_60 at hp
  obtain ⟨hc, hp⟩ := hp
  refine wp_calli (v := (b125_0 n s0 s1 M).1) (M1 := (b125_0 n s0 s1 M).2) rfl rfl rfl rfl (s125_0 n s0 s1 M hc (fun r M1 h => h)) ?_
  exact s159_63 n    (b125_0 n s0 s1 M).1 (b125_0 n s0 s1 M).2 hp hQ
def b159_46 (n : Nat)  (l0 : Nat) (l2 : Int32) (s0 : Int32) (M : zM) : Int32 × zM := b159_60 n  s0 (b124_0 n ((zI M (zQ M l0 44) l2.toNatClampNeg) - (zI M l0 47)) M).1 (b124_0 n ((zI M (zQ M l0 44) l2.toNatClampNeg) - (zI M l0 47)) M).2
def p159_46 (n : Nat)  (l0 : Nat) (l2 : Int32) (s0 : Int32) (M : zM) : Prop := (zHasQ 10 108 l0 M 44) ∧ ((zOkI (zQ M l0 44) l2 M) ∧ ((zHasI 10 256 l0 M 47) ∧ ((p124_0 n ((zI M (zQ M l0 44) l2.toNatClampNeg) - (zI M l0 47)) M) ∧ (p159_60 n  s0 (b124_0 n ((zI M (zQ M l0 44) l2.toNatClampNeg) - (zI M l0 47)) M).1 (b124_0 n ((zI M (zQ M l0 44) l2.toNatClampNeg) - (zI M l0 47)) M).2))))
theorem s159_46 (n : Nat)    (l0 : Nat) (l2 : Int32) (s0 : Int32) (M : zM) (hp : p159_46 n  l0 l2 s0 M) {Q : Option Value → zM → Prop} (hQ : ∀ r M1, zRI (b159_46 n  l0 l2 s0 M) r M1 → Q r M1) : zWP 159 46 [some (.ref l0), none, some (.int l2)] [.int s0] M Q := by
  unfold b159_46 at hQ
  unfold p159_46 at hp
  refine wp_go 1 (pc' := 47) (L' := [some (.ref l0), none, some (.int l2)]) (st' := [.ref l0, .int s0]) (M' := M) rfl ?_
  obtain ⟨hc, hp⟩ := hp
  refine wq_getQ (j := 44) rfl hc ?_
  refine wp_go 1 (pc' := 51) (L' := [some (.ref l0), none, some (.int l2)]) (st' := [.int l2, .ref (zQ M l0 44), .int s0]) (M' := M) rfl ?_
  obtain ⟨hc, hp⟩ := hp
  refine wq_iald rfl hc ?_
  refine wp_go 1 (pc' := 53) (L' := [some (.ref l0), none, some (.int l2)]) (st' := [.ref l0, .int (zI M (zQ M l0 44) l2.toNatClampNeg), .int s0]) (M' := M) rfl ?_
  obtain ⟨hc, hp⟩ := hp
  refine wq_getI (j := 47) rfl hc ?_
  refine wp_go 1 (pc' := 57) (L' := [some (.ref l0), none, some (.int l2)]) (st' := [.int ((zI M (zQ M l0 44) l2.toNatClampNeg) - (zI M l0 47)), .int s0]) (M' := M) rfl ?_
  obtain ⟨hc, hp⟩ := hp
  refine wp_calli (v := (b124_0 n ((zI M (zQ M l0 44) l2.toNatClampNeg) - (zI M l0 47)) M).1) (M1 := (b124_0 n ((zI M (zQ M l0 44) l2.toNatClampNeg) - (zI M l0 47)) M).2) rfl rfl rfl rfl (s124_0 n ((zI M (zQ M l0 44) l2.toNatClampNeg) - (zI M l0 47)) M hc (fun r M1 h => h)) ?_
  refine wp_le [none, none, none] (zLe_of (by simp [zLeB])) ?_
  exact s159_60 n    s0 (b124_0 n ((zI M (zQ M l0 44) l2.toNatClampNeg) - (zI M l0 47)) M).1 (b124_0 n ((zI M (zQ M l0 44) l2.toNatClampNeg) - (zI M l0 47)) M).2 hp hQ
def b159_6 (n : Nat)  (l0 : Nat) (l1 : Int32) (M : zM) : Int32 × zM := (if (zI M (zQ M l0 42) (zI M (zQ M l0 20) l1.toNatClampNeg).toNatClampNeg) = (zI M l0 45) then b159_46 n  l0 (zI M (zQ M l0 20) l1.toNatClampNeg) (b124_0 n ((zI M (zQ M l0 43) (zI M (zQ M l0 20) l1.toNatClampNeg).toNatClampNeg) - (zI M l0 46)) M).1 (b124_0 n ((zI M (zQ M l0 43) (zI M (zQ M l0 20) l1.toNatClampNeg).toNatClampNeg) - (zI M l0 46)) M).2 else b159_63 n  (1000000000 : Int32) M)
def p159_6 (n : Nat)  (l0 : Nat) (l1 : Int32) (M : zM) : Prop := (zHasQ 10 63 l0 M 20) ∧ ((zOkI (zQ M l0 20) l1 M) ∧ ((zHasQ 10 102 l0 M 42) ∧ ((zOkI (zQ M l0 42) (zI M (zQ M l0 20) l1.toNatClampNeg) M) ∧ ((zHasI 10 250 l0 M 45) ∧ ((((zI M (zQ M l0 42) (zI M (zQ M l0 20) l1.toNatClampNeg).toNatClampNeg) = (zI M l0 45) → (zHasQ 10 105 l0 M 43) ∧ ((zOkI (zQ M l0 43) (zI M (zQ M l0 20) l1.toNatClampNeg) M) ∧ ((zHasI 10 253 l0 M 46) ∧ ((p124_0 n ((zI M (zQ M l0 43) (zI M (zQ M l0 20) l1.toNatClampNeg).toNatClampNeg) - (zI M l0 46)) M) ∧ (p159_46 n  l0 (zI M (zQ M l0 20) l1.toNatClampNeg) (b124_0 n ((zI M (zQ M l0 43) (zI M (zQ M l0 20) l1.toNatClampNeg).toNatClampNeg) - (zI M l0 46)) M).1 (b124_0 n ((zI M (zQ M l0 43) (zI M (zQ M l0 20) l1.toNatClampNeg).toNatClampNeg) - (zI M l0 46)) M).2))))) ∧ (¬ (zI M (zQ M l0 42) (zI M (zQ M l0 20) l1.toNatClampNeg).toNatClampNeg) = (zI M l0 45) → p159_63 n  (1000000000 : Int32) M)))))))
theorem s159_6 (n : Nat)    (l0 : Nat) (l1 : Int32) (M : zM) (hp : p159_6 n  l0 l1 M) {Q : Option Value → zM → Prop} (hQ : ∀ r M1, zRI (b159_6 n  l0 l1 M) r M1 → Q r M1) : zWP 159 6 [some (.ref l0), some (.int l1), none] [] M Q := by
  unfold b159_6 at hQ
  unfold p159_6 at hp
  refine wp_go 1 (pc' := 7) (L' := [some (.ref l0), some (.int l1), none]) (st' := [.ref l0]) (M' := M) rfl ?_
  obtain ⟨hc, hp⟩ := hp
  refine wq_getQ (j := 20) rfl hc ?_
  refine wp_go 1 (pc' := 11) (L' := [some (.ref l0), some (.int l1), none]) (st' := [.int l1, .ref (zQ M l0 20)]) (M' := M) rfl ?_
  obtain ⟨hc, hp⟩ := hp
  refine wq_iald rfl hc ?_
  refine wp_go 2 (pc' := 14) (L' := [some (.ref l0), some (.int l1), some (.int (zI M (zQ M l0 20) l1.toNatClampNeg))]) (st' := [.ref l0]) (M' := M) rfl ?_
  obtain ⟨hc, hp⟩ := hp
  refine wq_getQ (j := 42) rfl hc ?_
  refine wp_go 1 (pc' := 18) (L' := [some (.ref l0), some (.int l1), some (.int (zI M (zQ M l0 20) l1.toNatClampNeg))]) (st' := [.int (zI M (zQ M l0 20) l1.toNatClampNeg), .ref (zQ M l0 42)]) (M' := M) rfl ?_
  obtain ⟨hc, hp⟩ := hp
  refine wq_iald rfl hc ?_
  refine wp_go 1 (pc' := 20) (L' := [some (.ref l0), some (.int l1), some (.int (zI M (zQ M l0 20) l1.toNatClampNeg))]) (st' := [.ref l0, .int (zI M (zQ M l0 42) (zI M (zQ M l0 20) l1.toNatClampNeg).toNatClampNeg)]) (M' := M) rfl ?_
  obtain ⟨hc, hp⟩ := hp
  refine wq_getI (j := 45) rfl hc ?_
  refine wp_ic_eq (t := 32) rfl rfl (fun hc => ?_) (fun hc => ?_)
  · rw [if_pos hc] at hQ
    replace hp := hp.1 hc
    refine wp_go 1 (pc' := 33) (L' := [some (.ref l0), some (.int l1), some (.int (zI M (zQ M l0 20) l1.toNatClampNeg))]) (st' := [.ref l0]) (M' := M) rfl ?_
    obtain ⟨hc, hp⟩ := hp
    refine wq_getQ (j := 43) rfl hc ?_
    refine wp_go 1 (pc' := 37) (L' := [some (.ref l0), some (.int l1), some (.int (zI M (zQ M l0 20) l1.toNatClampNeg))]) (st' := [.int (zI M (zQ M l0 20) l1.toNatClampNeg), .ref (zQ M l0 43)]) (M' := M) rfl ?_
    obtain ⟨hc, hp⟩ := hp
    refine wq_iald rfl hc ?_
    refine wp_go 1 (pc' := 39) (L' := [some (.ref l0), some (.int l1), some (.int (zI M (zQ M l0 20) l1.toNatClampNeg))]) (st' := [.ref l0, .int (zI M (zQ M l0 43) (zI M (zQ M l0 20) l1.toNatClampNeg).toNatClampNeg)]) (M' := M) rfl ?_
    obtain ⟨hc, hp⟩ := hp
    refine wq_getI (j := 46) rfl hc ?_
    refine wp_go 1 (pc' := 43) (L' := [some (.ref l0), some (.int l1), some (.int (zI M (zQ M l0 20) l1.toNatClampNeg))]) (st' := [.int ((zI M (zQ M l0 43) (zI M (zQ M l0 20) l1.toNatClampNeg).toNatClampNeg) - (zI M l0 46))]) (M' := M) rfl ?_
    obtain ⟨hc, hp⟩ := hp
    refine wp_calli (v := (b124_0 n ((zI M (zQ M l0 43) (zI M (zQ M l0 20) l1.toNatClampNeg).toNatClampNeg) - (zI M l0 46)) M).1) (M1 := (b124_0 n ((zI M (zQ M l0 43) (zI M (zQ M l0 20) l1.toNatClampNeg).toNatClampNeg) - (zI M l0 46)) M).2) rfl rfl rfl rfl (s124_0 n ((zI M (zQ M l0 43) (zI M (zQ M l0 20) l1.toNatClampNeg).toNatClampNeg) - (zI M l0 46)) M hc (fun r M1 h => h)) ?_
    refine wp_le [some (.ref l0), none, some (.int (zI M (zQ M l0 20) l1.toNatClampNeg))] (zLe_of (by simp [zLeB])) ?_
    exact s159_46 n    l0 (zI M (zQ M l0 20) l1.toNatClampNeg) (b124_0 n ((zI M (zQ M l0 43) (zI M (zQ M l0 20) l1.toNatClampNeg).toNatClampNeg) - (zI M l0 46)) M).1 (b124_0 n ((zI M (zQ M l0 43) (zI M (zQ M l0 20) l1.toNatClampNeg).toNatClampNeg) - (zI M l0 46)) M).2 hp hQ
  · rw [if_neg hc] at hQ
    replace hp := hp.2 hc
    refine wp_go 2 (pc' := 63) (L' := [some (.ref l0), some (.int l1), some (.int (zI M (zQ M l0 20) l1.toNatClampNeg))]) (st' := [.int (1000000000 : Int32)]) (M' := M) rfl ?_
    refine wp_le [none, none, none] (zLe_of (by simp [zLeB])) ?_
    exact s159_63 n    (1000000000 : Int32) M hp hQ
def b159_0 (n : Nat)  (l0 : Nat) (l1 : Int32) (M : zM) : Int32 × zM := b159_6 n  l0 l1 (b156_0 n l0 l1 (1 : Int32) M)
def p159_0 (n : Nat)  (l0 : Nat) (l1 : Int32) (M : zM) : Prop := (zHasC 159 263 l0 M 156 2) ∧ ((p156_0 n l0 l1 (1 : Int32) M) ∧ (p159_6 n  l0 l1 (b156_0 n l0 l1 (1 : Int32) M)))
theorem s159_0 (n : Nat)    (l0 : Nat) (l1 : Int32) (M : zM) (hp : p159_0 n  l0 l1 M) {Q : Option Value → zM → Prop} (hQ : ∀ r M1, zRI (b159_0 n  l0 l1 M) r M1 → Q r M1) : zWP 159 0 [some (.ref l0), some (.int l1), none] [] M Q := by
  unfold b159_0 at hQ
  unfold p159_0 at hp
  refine wp_go 3 (pc' := 3) (L' := [some (.ref l0), some (.int l1), none]) (st' := [.int (1 : Int32), .int l1, .ref l0]) (M' := M) rfl ?_
  obtain ⟨hv, hp⟩ := hp
  obtain ⟨hc, hp⟩ := hp
  refine wp_callv (M1 := (b156_0 n l0 l1 (1 : Int32) M)) rfl rfl rfl (zInv_v (np := 2) rfl rfl hv rfl) (s156_0 n l0 l1 (1 : Int32) M hc (fun r M1 h => h)) ?_
  exact s159_6 n    l0 l1 (b156_0 n l0 l1 (1 : Int32) M) hp hQ
/-! X12_isIn -/
def b160_239 (n : Nat) (k30 : Nat → Int32 → Int32 → Int32 → Int32 → Int32 → Int32 → Int32 → Int32 → zM → Int32 × zM) (l0 : Nat) (l1 : Int32) (l2 : Int32) (l3 : Int32) (l4 : Int32) (l5 : Int32) (l8 : Int32) (l9 : Int32) (l10 : Int32) (M : zM) : Int32 × zM := k30 l0 l1 l2 l3 l4 l5 l9 l10 (l8 + Int32.ofInt 1) M
def p160_239 (n : Nat) (q30 : Nat → Int32 → Int32 → Int32 → Int32 → Int32 → Int32 → Int32 → Int32 → zM → Prop) (l0 : Nat) (l1 : Int32) (l2 : Int32) (l3 : Int32) (l4 : Int32) (l5 : Int32) (l8 : Int32) (l9 : Int32) (l10 : Int32) (M : zM) : Prop := q30 l0 l1 l2 l3 l4 l5 l9 l10 (l8 + Int32.ofInt 1) M
theorem s160_239 (n : Nat) (k30 : Nat → Int32 → Int32 → Int32 → Int32 → Int32 → Int32 → Int32 → Int32 → zM → Int32 × zM) (q30 : Nat → Int32 → Int32 → Int32 → Int32 → Int32 → Int32 → Int32 → Int32 → zM → Prop) (h30 : ∀ (l0 : Nat) (l1 : Int32) (l2 : Int32) (l3 : Int32) (l4 : Int32) (l5 : Int32) (l6 : Int32) (l7 : Int32) (l8 : Int32) (M : zM), q30 l0 l1 l2 l3 l4 l5 l6 l7 l8 M → ∀ {Q : Option Value → zM → Prop}, (∀ r M1, zRI (k30 l0 l1 l2 l3 l4 l5 l6 l7 l8 M) r M1 → Q r M1) → zWP 160 30 [some (.ref l0), some (.int l1), some (.int l2), some (.int l3), some (.int l4), some (.int l5), some (.int l6), some (.int l7), some (.int l8), none, none, none, none, none, none] [] M Q) (l0 : Nat) (l1 : Int32) (l2 : Int32) (l3 : Int32) (l4 : Int32) (l5 : Int32) (l8 : Int32) (l9 : Int32) (l10 : Int32) (M : zM) (hp : p160_239 n q30 l0 l1 l2 l3 l4 l5 l8 l9 l10 M) {Q : Option Value → zM → Prop} (hQ : ∀ r M1, zRI (b160_239 n k30 l0 l1 l2 l3 l4 l5 l8 l9 l10 M) r M1 → Q r M1) : zWP 160 239 [some (.ref l0), some (.int l1), some (.int l2), some (.int l3), some (.int l4), some (.int l5), none, none, some (.int l8), some (.int l9), some (.int l10), none, none, none, none] [] M Q := by
  unfold b160_239 at hQ
  unfold p160_239 at hp
  refine wp_go 5 (pc' := 250) (L' := [some (.ref l0), some (.int l1), some (.int l2), some (.int l3), some (.int l4), some (.int l5), some (.int l9), some (.int l10), some (.int (l8 + Int32.ofInt 1)), some (.int l9), some (.int l10), none, none, none, none]) (st' := []) (M' := M) rfl ?_
  refine wp_go 1 (pc' := 30) (L' := [some (.ref l0), some (.int l1), some (.int l2), some (.int l3), some (.int l4), some (.int l5), some (.int l9), some (.int l10), some (.int (l8 + Int32.ofInt 1)), some (.int l9), some (.int l10), none, none, none, none]) (st' := []) (M' := M) rfl ?_
  refine wp_le [some (.ref l0), some (.int l1), some (.int l2), some (.int l3), some (.int l4), some (.int l5), some (.int l9), some (.int l10), some (.int (l8 + Int32.ofInt 1)), none, none, none, none, none, none] (zLe_of (by simp [zLeB])) ?_
  exact h30 l0 l1 l2 l3 l4 l5 l9 l10 (l8 + Int32.ofInt 1) M hp hQ
def b160_237 (n : Nat) (k30 : Nat → Int32 → Int32 → Int32 → Int32 → Int32 → Int32 → Int32 → Int32 → zM → Int32 × zM) (l0 : Nat) (l1 : Int32) (l2 : Int32) (l3 : Int32) (l5 : Int32) (l8 : Int32) (l9 : Int32) (l10 : Int32) (s0 : Int32) (M : zM) : Int32 × zM := b160_239 n k30 l0 l1 l2 l3 s0 l5 l8 l9 l10 M
def p160_237 (n : Nat) (q30 : Nat → Int32 → Int32 → Int32 → Int32 → Int32 → Int32 → Int32 → Int32 → zM → Prop) (l0 : Nat) (l1 : Int32) (l2 : Int32) (l3 : Int32) (l5 : Int32) (l8 : Int32) (l9 : Int32) (l10 : Int32) (s0 : Int32) (M : zM) : Prop := p160_239 n q30 l0 l1 l2 l3 s0 l5 l8 l9 l10 M
theorem s160_237 (n : Nat) (k30 : Nat → Int32 → Int32 → Int32 → Int32 → Int32 → Int32 → Int32 → Int32 → zM → Int32 × zM) (q30 : Nat → Int32 → Int32 → Int32 → Int32 → Int32 → Int32 → Int32 → Int32 → zM → Prop) (h30 : ∀ (l0 : Nat) (l1 : Int32) (l2 : Int32) (l3 : Int32) (l4 : Int32) (l5 : Int32) (l6 : Int32) (l7 : Int32) (l8 : Int32) (M : zM), q30 l0 l1 l2 l3 l4 l5 l6 l7 l8 M → ∀ {Q : Option Value → zM → Prop}, (∀ r M1, zRI (k30 l0 l1 l2 l3 l4 l5 l6 l7 l8 M) r M1 → Q r M1) → zWP 160 30 [some (.ref l0), some (.int l1), some (.int l2), some (.int l3), some (.int l4), some (.int l5), some (.int l6), some (.int l7), some (.int l8), none, none, none, none, none, none] [] M Q) (l0 : Nat) (l1 : Int32) (l2 : Int32) (l3 : Int32) (l5 : Int32) (l8 : Int32) (l9 : Int32) (l10 : Int32) (s0 : Int32) (M : zM) (hp : p160_237 n q30 l0 l1 l2 l3 l5 l8 l9 l10 s0 M) {Q : Option Value → zM → Prop} (hQ : ∀ r M1, zRI (b160_237 n k30 l0 l1 l2 l3 l5 l8 l9 l10 s0 M) r M1 → Q r M1) : zWP 160 237 [some (.ref l0), some (.int l1), some (.int l2), some (.int l3), none, some (.int l5), none, none, some (.int l8), some (.int l9), some (.int l10), none, none, none, none] [.int s0] M Q := by
  unfold b160_237 at hQ
  unfold p160_237 at hp
  refine wp_go 1 (pc' := 239) (L' := [some (.ref l0), some (.int l1), some (.int l2), some (.int l3), some (.int s0), some (.int l5), none, none, some (.int l8), some (.int l9), some (.int l10), none, none, none, none]) (st' := []) (M' := M) rfl ?_
  exact s160_239 n k30 q30 h30 l0 l1 l2 l3 s0 l5 l8 l9 l10 M hp hQ
def b160_227 (n : Nat) (k30 : Nat → Int32 → Int32 → Int32 → Int32 → Int32 → Int32 → Int32 → Int32 → zM → Int32 × zM) (l0 : Nat) (l1 : Int32) (l2 : Int32) (l3 : Int32) (l4 : Int32) (l5 : Int32) (l8 : Int32) (l9 : Int32) (l10 : Int32) (M : zM) : Int32 × zM := (if l4 = 0 then b160_237 n k30 l0 l1 l2 l3 l5 l8 l9 l10 (1 : Int32) M else b160_237 n k30 l0 l1 l2 l3 l5 l8 l9 l10 (0 : Int32) M)
def p160_227 (n : Nat) (q30 : Nat → Int32 → Int32 → Int32 → Int32 → Int32 → Int32 → Int32 → Int32 → zM → Prop) (l0 : Nat) (l1 : Int32) (l2 : Int32) (l3 : Int32) (l4 : Int32) (l5 : Int32) (l8 : Int32) (l9 : Int32) (l10 : Int32) (M : zM) : Prop := ((l4 = 0 → p160_237 n q30 l0 l1 l2 l3 l5 l8 l9 l10 (1 : Int32) M) ∧ (¬ l4 = 0 → p160_237 n q30 l0 l1 l2 l3 l5 l8 l9 l10 (0 : Int32) M))
theorem s160_227 (n : Nat) (k30 : Nat → Int32 → Int32 → Int32 → Int32 → Int32 → Int32 → Int32 → Int32 → zM → Int32 × zM) (q30 : Nat → Int32 → Int32 → Int32 → Int32 → Int32 → Int32 → Int32 → Int32 → zM → Prop) (h30 : ∀ (l0 : Nat) (l1 : Int32) (l2 : Int32) (l3 : Int32) (l4 : Int32) (l5 : Int32) (l6 : Int32) (l7 : Int32) (l8 : Int32) (M : zM), q30 l0 l1 l2 l3 l4 l5 l6 l7 l8 M → ∀ {Q : Option Value → zM → Prop}, (∀ r M1, zRI (k30 l0 l1 l2 l3 l4 l5 l6 l7 l8 M) r M1 → Q r M1) → zWP 160 30 [some (.ref l0), some (.int l1), some (.int l2), some (.int l3), some (.int l4), some (.int l5), some (.int l6), some (.int l7), some (.int l8), none, none, none, none, none, none] [] M Q) (l0 : Nat) (l1 : Int32) (l2 : Int32) (l3 : Int32) (l4 : Int32) (l5 : Int32) (l8 : Int32) (l9 : Int32) (l10 : Int32) (M : zM) (hp : p160_227 n q30 l0 l1 l2 l3 l4 l5 l8 l9 l10 M) {Q : Option Value → zM → Prop} (hQ : ∀ r M1, zRI (b160_227 n k30 l0 l1 l2 l3 l4 l5 l8 l9 l10 M) r M1 → Q r M1) : zWP 160 227 [some (.ref l0), some (.int l1), some (.int l2), some (.int l3), some (.int l4), some (.int l5), none, none, some (.int l8), some (.int l9), some (.int l10), none, none, none, none] [] M Q := by
  unfold b160_227 at hQ
  unfold p160_227 at hp
  refine wp_go 1 (pc' := 229) (L' := [some (.ref l0), some (.int l1), some (.int l2), some (.int l3), some (.int l4), some (.int l5), none, none, some (.int l8), some (.int l9), some (.int l10), none, none, none, none]) (st' := [.int l4]) (M' := M) rfl ?_
  refine wp_if_ne (t := 236) rfl rfl (fun hc => ?_) (fun hc => ?_)
  · rw [if_neg hc] at hQ
    replace hp := hp.2 hc
    refine wp_go 1 (pc' := 237) (L' := [some (.ref l0), some (.int l1), some (.int l2), some (.int l3), some (.int l4), some (.int l5), none, none, some (.int l8), some (.int l9), some (.int l10), none, none, none, none]) (st' := [.int (0 : Int32)]) (M' := M) rfl ?_
    refine wp_le [some (.ref l0), some (.int l1), some (.int l2), some (.int l3), none, some (.int l5), none, none, some (.int l8), some (.int l9), some (.int l10), none, none, none, none] (zLe_of (by simp [zLeB])) ?_
    exact s160_237 n k30 q30 h30 l0 l1 l2 l3 l5 l8 l9 l10 (0 : Int32) M hp hQ
  · rw [if_pos hc] at hQ
    replace hp := hp.1 hc
    refine wp_go 2 (pc' := 237) (L' := [some (.ref l0), some (.int l1), some (.int l2), some (.int l3), some (.int l4), some (.int l5), none, none, some (.int l8), some (.int l9), some (.int l10), none, none, none, none]) (st' := [.int (1 : Int32)]) (M' := M) rfl ?_
    refine wp_le [some (.ref l0), some (.int l1), some (.int l2), some (.int l3), none, some (.int l5), none, none, some (.int l8), some (.int l9), some (.int l10), none, none, none, none] (zLe_of (by simp [zLeB])) ?_
    exact s160_237 n k30 q30 h30 l0 l1 l2 l3 l5 l8 l9 l10 (1 : Int32) M hp hQ
def b160_173 (n : Nat) (k30 : Nat → Int32 → Int32 → Int32 → Int32 → Int32 → Int32 → Int32 → Int32 → zM → Int32 × zM) (l0 : Nat) (l1 : Int32) (l2 : Int32) (l3 : Int32) (l4 : Int32) (l5 : Int32) (l6 : Int32) (l7 : Int32) (l8 : Int32) (l9 : Int32) (l10 : Int32) (M : zM) : Int32 × zM := (if l10 ≤ l7 then (if (lg_cmp ((l2 - l6).toInt64 * (l10 - l7).toInt64) ((l3 - l7).toInt64 * (l9 - l6).toInt64)) ≤ 0 then b160_239 n k30 l0 l1 l2 l3 l4 l5 l8 l9 l10 M else b160_227 n k30 l0 l1 l2 l3 l4 l5 l8 l9 l10 M) else (if 0 ≤ (lg_cmp ((l2 - l6).toInt64 * (l10 - l7).toInt64) ((l3 - l7).toInt64 * (l9 - l6).toInt64)) then b160_239 n k30 l0 l1 l2 l3 l4 l5 l8 l9 l10 M else b160_227 n k30 l0 l1 l2 l3 l4 l5 l8 l9 l10 M))
def p160_173 (n : Nat) (q30 : Nat → Int32 → Int32 → Int32 → Int32 → Int32 → Int32 → Int32 → Int32 → zM → Prop) (l0 : Nat) (l1 : Int32) (l2 : Int32) (l3 : Int32) (l4 : Int32) (l5 : Int32) (l6 : Int32) (l7 : Int32) (l8 : Int32) (l9 : Int32) (l10 : Int32) (M : zM) : Prop := ((l10 ≤ l7 → (((lg_cmp ((l2 - l6).toInt64 * (l10 - l7).toInt64) ((l3 - l7).toInt64 * (l9 - l6).toInt64)) ≤ 0 → p160_239 n q30 l0 l1 l2 l3 l4 l5 l8 l9 l10 M) ∧ (¬ (lg_cmp ((l2 - l6).toInt64 * (l10 - l7).toInt64) ((l3 - l7).toInt64 * (l9 - l6).toInt64)) ≤ 0 → p160_227 n q30 l0 l1 l2 l3 l4 l5 l8 l9 l10 M))) ∧ (¬ l10 ≤ l7 → ((0 ≤ (lg_cmp ((l2 - l6).toInt64 * (l10 - l7).toInt64) ((l3 - l7).toInt64 * (l9 - l6).toInt64)) → p160_239 n q30 l0 l1 l2 l3 l4 l5 l8 l9 l10 M) ∧ (¬ 0 ≤ (lg_cmp ((l2 - l6).toInt64 * (l10 - l7).toInt64) ((l3 - l7).toInt64 * (l9 - l6).toInt64)) → p160_227 n q30 l0 l1 l2 l3 l4 l5 l8 l9 l10 M))))
theorem s160_173 (n : Nat) (k30 : Nat → Int32 → Int32 → Int32 → Int32 → Int32 → Int32 → Int32 → Int32 → zM → Int32 × zM) (q30 : Nat → Int32 → Int32 → Int32 → Int32 → Int32 → Int32 → Int32 → Int32 → zM → Prop) (h30 : ∀ (l0 : Nat) (l1 : Int32) (l2 : Int32) (l3 : Int32) (l4 : Int32) (l5 : Int32) (l6 : Int32) (l7 : Int32) (l8 : Int32) (M : zM), q30 l0 l1 l2 l3 l4 l5 l6 l7 l8 M → ∀ {Q : Option Value → zM → Prop}, (∀ r M1, zRI (k30 l0 l1 l2 l3 l4 l5 l6 l7 l8 M) r M1 → Q r M1) → zWP 160 30 [some (.ref l0), some (.int l1), some (.int l2), some (.int l3), some (.int l4), some (.int l5), some (.int l6), some (.int l7), some (.int l8), none, none, none, none, none, none] [] M Q) (l0 : Nat) (l1 : Int32) (l2 : Int32) (l3 : Int32) (l4 : Int32) (l5 : Int32) (l6 : Int32) (l7 : Int32) (l8 : Int32) (l9 : Int32) (l10 : Int32) (M : zM) (hp : p160_173 n q30 l0 l1 l2 l3 l4 l5 l6 l7 l8 l9 l10 M) {Q : Option Value → zM → Prop} (hQ : ∀ r M1, zRI (b160_173 n k30 l0 l1 l2 l3 l4 l5 l6 l7 l8 l9 l10 M) r M1 → Q r M1) : zWP 160 173 [some (.ref l0), some (.int l1), some (.int l2), some (.int l3), some (.int l4), some (.int l5), some (.int l6), some (.int l7), some (.int l8), some (.int l9), some (.int l10), none, none, none, none] [] M Q := by
  unfold b160_173 at hQ
  unfold p160_173 at hp
  refine wp_go 5 (pc' := 180) (L' := [some (.ref l0), some (.int l1), some (.int l2), some (.int l3), some (.int l4), some (.int l5), some (.int l6), some (.int l7), some (.int l8), some (.int l9), some (.int l10), none, none, none, none]) (st' := [.int l10, .long (l2 - l6).toInt64]) (M' := M) rfl ?_
  refine wp_go 5 (pc' := 187) (L' := [some (.ref l0), some (.int l1), some (.int l2), some (.int l3), some (.int l4), some (.int l5), some (.int l6), some (.int l7), some (.int l8), some (.int l9), some (.int l10), some (.long ((l2 - l6).toInt64 * (l10 - l7).toInt64)), none, none, none]) (st' := []) (M' := M) rfl ?_
  refine wp_go 5 (pc' := 194) (L' := [some (.ref l0), some (.int l1), some (.int l2), some (.int l3), some (.int l4), some (.int l5), some (.int l6), some (.int l7), some (.int l8), some (.int l9), some (.int l10), some (.long ((l2 - l6).toInt64 * (l10 - l7).toInt64)), none, none, none]) (st' := [.int l9, .long (l3 - l7).toInt64]) (M' := M) rfl ?_
  refine wp_go 5 (pc' := 201) (L' := [some (.ref l0), some (.int l1), some (.int l2), some (.int l3), some (.int l4), some (.int l5), some (.int l6), some (.int l7), some (.int l8), some (.int l9), some (.int l10), some (.long ((l2 - l6).toInt64 * (l10 - l7).toInt64)), none, some (.long ((l3 - l7).toInt64 * (l9 - l6).toInt64)), none]) (st' := []) (M' := M) rfl ?_
  refine wp_go 2 (pc' := 205) (L' := [some (.ref l0), some (.int l1), some (.int l2), some (.int l3), some (.int l4), some (.int l5), some (.int l6), some (.int l7), some (.int l8), some (.int l9), some (.int l10), some (.long ((l2 - l6).toInt64 * (l10 - l7).toInt64)), none, some (.long ((l3 - l7).toInt64 * (l9 - l6).toInt64)), none]) (st' := [.int l7, .int l10]) (M' := M) rfl ?_
  refine wp_ic_le (t := 219) rfl rfl (fun hc => ?_) (fun hc => ?_)
  · rw [if_pos hc] at hQ
    replace hp := hp.1 hc
    refine wp_go 3 (pc' := 224) (L' := [some (.ref l0), some (.int l1), some (.int l2), some (.int l3), some (.int l4), some (.int l5), some (.int l6), some (.int l7), some (.int l8), some (.int l9), some (.int l10), some (.long ((l2 - l6).toInt64 * (l10 - l7).toInt64)), none, some (.long ((l3 - l7).toInt64 * (l9 - l6).toInt64)), none]) (st' := [.int (lg_cmp ((l2 - l6).toInt64 * (l10 - l7).toInt64) ((l3 - l7).toInt64 * (l9 - l6).toInt64))]) (M' := M) rfl ?_
    refine wp_if_le (t := 239) rfl rfl (fun hc => ?_) (fun hc => ?_)
    · rw [if_pos hc] at hQ
      replace hp := hp.1 hc
      refine wp_le [some (.ref l0), some (.int l1), some (.int l2), some (.int l3), some (.int l4), some (.int l5), none, none, some (.int l8), some (.int l9), some (.int l10), none, none, none, none] (zLe_of (by simp [zLeB])) ?_
      exact s160_239 n k30 q30 h30 l0 l1 l2 l3 l4 l5 l8 l9 l10 M hp hQ
    · rw [if_neg hc] at hQ
      replace hp := hp.2 hc
      refine wp_le [some (.ref l0), some (.int l1), some (.int l2), some (.int l3), some (.int l4), some (.int l5), none, none, some (.int l8), some (.int l9), some (.int l10), none, none, none, none] (zLe_of (by simp [zLeB])) ?_
      exact s160_227 n k30 q30 h30 l0 l1 l2 l3 l4 l5 l8 l9 l10 M hp hQ
  · rw [if_neg hc] at hQ
    replace hp := hp.2 hc
    refine wp_go 3 (pc' := 213) (L' := [some (.ref l0), some (.int l1), some (.int l2), some (.int l3), some (.int l4), some (.int l5), some (.int l6), some (.int l7), some (.int l8), some (.int l9), some (.int l10), some (.long ((l2 - l6).toInt64 * (l10 - l7).toInt64)), none, some (.long ((l3 - l7).toInt64 * (l9 - l6).toInt64)), none]) (st' := [.int (lg_cmp ((l2 - l6).toInt64 * (l10 - l7).toInt64) ((l3 - l7).toInt64 * (l9 - l6).toInt64))]) (M' := M) rfl ?_
    refine wp_if_ge (t := 239) rfl rfl (fun hc => ?_) (fun hc => ?_)
    · rw [if_pos hc] at hQ
      replace hp := hp.1 hc
      refine wp_le [some (.ref l0), some (.int l1), some (.int l2), some (.int l3), some (.int l4), some (.int l5), none, none, some (.int l8), some (.int l9), some (.int l10), none, none, none, none] (zLe_of (by simp [zLeB])) ?_
      exact s160_239 n k30 q30 h30 l0 l1 l2 l3 l4 l5 l8 l9 l10 M hp hQ
    · rw [if_neg hc] at hQ
      replace hp := hp.2 hc
      refine wp_go 1 (pc' := 227) (L' := [some (.ref l0), some (.int l1), some (.int l2), some (.int l3), some (.int l4), some (.int l5), some (.int l6), some (.int l7), some (.int l8), some (.int l9), some (.int l10), some (.long ((l2 - l6).toInt64 * (l10 - l7).toInt64)), none, some (.long ((l3 - l7).toInt64 * (l9 - l6).toInt64)), none]) (st' := []) (M' := M) rfl ?_
      refine wp_le [some (.ref l0), some (.int l1), some (.int l2), some (.int l3), some (.int l4), some (.int l5), none, none, some (.int l8), some (.int l9), some (.int l10), none, none, none, none] (zLe_of (by simp [zLeB])) ?_
      exact s160_227 n k30 q30 h30 l0 l1 l2 l3 l4 l5 l8 l9 l10 M hp hQ
def b160_161 (n : Nat) (k30 : Nat → Int32 → Int32 → Int32 → Int32 → Int32 → Int32 → Int32 → Int32 → zM → Int32 × zM) (l0 : Nat) (l1 : Int32) (l2 : Int32) (l3 : Int32) (l4 : Int32) (l5 : Int32) (l6 : Int32) (l7 : Int32) (l8 : Int32) (l9 : Int32) (l10 : Int32) (M : zM) : Int32 × zM := (if l3 < l10 then b160_239 n k30 l0 l1 l2 l3 l4 l5 l8 l9 l10 M else (if l7 ≤ l3 then b160_239 n k30 l0 l1 l2 l3 l4 l5 l8 l9 l10 M else b160_173 n k30 l0 l1 l2 l3 l4 l5 l6 l7 l8 l9 l10 M))
def p160_161 (n : Nat) (q30 : Nat → Int32 → Int32 → Int32 → Int32 → Int32 → Int32 → Int32 → Int32 → zM → Prop) (l0 : Nat) (l1 : Int32) (l2 : Int32) (l3 : Int32) (l4 : Int32) (l5 : Int32) (l6 : Int32) (l7 : Int32) (l8 : Int32) (l9 : Int32) (l10 : Int32) (M : zM) : Prop := ((l3 < l10 → p160_239 n q30 l0 l1 l2 l3 l4 l5 l8 l9 l10 M) ∧ (¬ l3 < l10 → ((l7 ≤ l3 → p160_239 n q30 l0 l1 l2 l3 l4 l5 l8 l9 l10 M) ∧ (¬ l7 ≤ l3 → p160_173 n q30 l0 l1 l2 l3 l4 l5 l6 l7 l8 l9 l10 M))))
theorem s160_161 (n : Nat) (k30 : Nat → Int32 → Int32 → Int32 → Int32 → Int32 → Int32 → Int32 → Int32 → zM → Int32 × zM) (q30 : Nat → Int32 → Int32 → Int32 → Int32 → Int32 → Int32 → Int32 → Int32 → zM → Prop) (h30 : ∀ (l0 : Nat) (l1 : Int32) (l2 : Int32) (l3 : Int32) (l4 : Int32) (l5 : Int32) (l6 : Int32) (l7 : Int32) (l8 : Int32) (M : zM), q30 l0 l1 l2 l3 l4 l5 l6 l7 l8 M → ∀ {Q : Option Value → zM → Prop}, (∀ r M1, zRI (k30 l0 l1 l2 l3 l4 l5 l6 l7 l8 M) r M1 → Q r M1) → zWP 160 30 [some (.ref l0), some (.int l1), some (.int l2), some (.int l3), some (.int l4), some (.int l5), some (.int l6), some (.int l7), some (.int l8), none, none, none, none, none, none] [] M Q) (l0 : Nat) (l1 : Int32) (l2 : Int32) (l3 : Int32) (l4 : Int32) (l5 : Int32) (l6 : Int32) (l7 : Int32) (l8 : Int32) (l9 : Int32) (l10 : Int32) (M : zM) (hp : p160_161 n q30 l0 l1 l2 l3 l4 l5 l6 l7 l8 l9 l10 M) {Q : Option Value → zM → Prop} (hQ : ∀ r M1, zRI (b160_161 n k30 l0 l1 l2 l3 l4 l5 l6 l7 l8 l9 l10 M) r M1 → Q r M1) : zWP 160 161 [some (.ref l0), some (.int l1), some (.int l2), some (.int l3), some (.int l4), some (.int l5), some (.int l6), some (.int l7), some (.int l8), some (.int l9), some (.int l10), none, none, none, none] [] M Q := by
  unfold b160_161 at hQ
  unfold p160_161 at hp
  refine wp_go 2 (pc' := 164) (L' := [some (.ref l0), some (.int l1), some (.int l2), some (.int l3), some (.int l4), some (.int l5), some (.int l6), some (.int l7), some (.int l8), some (.int l9), some (.int l10), none, none, none, none]) (st' := [.int l3, .int l10]) (M' := M) rfl ?_
  refine wp_ic_gt (t := 239) rfl rfl (fun hc => ?_) (fun hc => ?_)
  · rw [if_pos hc] at hQ
    replace hp := hp.1 hc
    refine wp_le [some (.ref l0), some (.int l1), some (.int l2), some (.int l3), some (.int l4), some (.int l5), none, none, some (.int l8), some (.int l9), some (.int l10), none, none, none, none] (zLe_of (by simp [zLeB])) ?_
    exact s160_239 n k30 q30 h30 l0 l1 l2 l3 l4 l5 l8 l9 l10 M hp hQ
  · rw [if_neg hc] at hQ
    replace hp := hp.2 hc
    refine wp_go 2 (pc' := 170) (L' := [some (.ref l0), some (.int l1), some (.int l2), some (.int l3), some (.int l4), some (.int l5), some (.int l6), some (.int l7), some (.int l8), some (.int l9), some (.int l10), none, none, none, none]) (st' := [.int l7, .int l3]) (M' := M) rfl ?_
    refine wp_ic_ge (t := 239) rfl rfl (fun hc => ?_) (fun hc => ?_)
    · rw [if_pos hc] at hQ
      replace hp := hp.1 hc
      refine wp_le [some (.ref l0), some (.int l1), some (.int l2), some (.int l3), some (.int l4), some (.int l5), none, none, some (.int l8), some (.int l9), some (.int l10), none, none, none, none] (zLe_of (by simp [zLeB])) ?_
      exact s160_239 n k30 q30 h30 l0 l1 l2 l3 l4 l5 l8 l9 l10 M hp hQ
    · rw [if_neg hc] at hQ
      replace hp := hp.2 hc
      exact s160_173 n k30 q30 h30 l0 l1 l2 l3 l4 l5 l6 l7 l8 l9 l10 M hp hQ
def b160_147 (n : Nat) (k30 : Nat → Int32 → Int32 → Int32 → Int32 → Int32 → Int32 → Int32 → Int32 → zM → Int32 × zM) (l0 : Nat) (l1 : Int32) (l2 : Int32) (l3 : Int32) (l4 : Int32) (l5 : Int32) (l6 : Int32) (l7 : Int32) (l8 : Int32) (l9 : Int32) (s0 : Int32) (M : zM) : Int32 × zM := (if l3 < l7 then b160_161 n k30 l0 l1 l2 l3 l4 l5 l6 l7 l8 l9 s0 M else (if l3 < s0 then b160_173 n k30 l0 l1 l2 l3 l4 l5 l6 l7 l8 l9 s0 M else b160_161 n k30 l0 l1 l2 l3 l4 l5 l6 l7 l8 l9 s0 M))
def p160_147 (n : Nat) (q30 : Nat → Int32 → Int32 → Int32 → Int32 → Int32 → Int32 → Int32 → Int32 → zM → Prop) (l0 : Nat) (l1 : Int32) (l2 : Int32) (l3 : Int32) (l4 : Int32) (l5 : Int32) (l6 : Int32) (l7 : Int32) (l8 : Int32) (l9 : Int32) (s0 : Int32) (M : zM) : Prop := ((l3 < l7 → p160_161 n q30 l0 l1 l2 l3 l4 l5 l6 l7 l8 l9 s0 M) ∧ (¬ l3 < l7 → ((l3 < s0 → p160_173 n q30 l0 l1 l2 l3 l4 l5 l6 l7 l8 l9 s0 M) ∧ (¬ l3 < s0 → p160_161 n q30 l0 l1 l2 l3 l4 l5 l6 l7 l8 l9 s0 M))))
theorem s160_147 (n : Nat) (k30 : Nat → Int32 → Int32 → Int32 → Int32 → Int32 → Int32 → Int32 → Int32 → zM → Int32 × zM) (q30 : Nat → Int32 → Int32 → Int32 → Int32 → Int32 → Int32 → Int32 → Int32 → zM → Prop) (h30 : ∀ (l0 : Nat) (l1 : Int32) (l2 : Int32) (l3 : Int32) (l4 : Int32) (l5 : Int32) (l6 : Int32) (l7 : Int32) (l8 : Int32) (M : zM), q30 l0 l1 l2 l3 l4 l5 l6 l7 l8 M → ∀ {Q : Option Value → zM → Prop}, (∀ r M1, zRI (k30 l0 l1 l2 l3 l4 l5 l6 l7 l8 M) r M1 → Q r M1) → zWP 160 30 [some (.ref l0), some (.int l1), some (.int l2), some (.int l3), some (.int l4), some (.int l5), some (.int l6), some (.int l7), some (.int l8), none, none, none, none, none, none] [] M Q) (l0 : Nat) (l1 : Int32) (l2 : Int32) (l3 : Int32) (l4 : Int32) (l5 : Int32) (l6 : Int32) (l7 : Int32) (l8 : Int32) (l9 : Int32) (s0 : Int32) (M : zM) (hp : p160_147 n q30 l0 l1 l2 l3 l4 l5 l6 l7 l8 l9 s0 M) {Q : Option Value → zM → Prop} (hQ : ∀ r M1, zRI (b160_147 n k30 l0 l1 l2 l3 l4 l5 l6 l7 l8 l9 s0 M) r M1 → Q r M1) : zWP 160 147 [some (.ref l0), some (.int l1), some (.int l2), some (.int l3), some (.int l4), some (.int l5), some (.int l6), some (.int l7), some (.int l8), some (.int l9), none, none, none, none, none] [.int s0] M Q := by
  unfold b160_147 at hQ
  unfold p160_147 at hp
  refine wp_go 3 (pc' := 152) (L' := [some (.ref l0), some (.int l1), some (.int l2), some (.int l3), some (.int l4), some (.int l5), some (.int l6), some (.int l7), some (.int l8), some (.int l9), some (.int s0), none, none, none, none]) (st' := [.int l3, .int l7]) (M' := M) rfl ?_
  refine wp_ic_gt (t := 161) rfl rfl (fun hc => ?_) (fun hc => ?_)
  · rw [if_pos hc] at hQ
    replace hp := hp.1 hc
    exact s160_161 n k30 q30 h30 l0 l1 l2 l3 l4 l5 l6 l7 l8 l9 s0 M hp hQ
  · rw [if_neg hc] at hQ
    replace hp := hp.2 hc
    refine wp_go 2 (pc' := 158) (L' := [some (.ref l0), some (.int l1), some (.int l2), some (.int l3), some (.int l4), some (.int l5), some (.int l6), some (.int l7), some (.int l8), some (.int l9), some (.int s0), none, none, none, none]) (st' := [.int s0, .int l3]) (M' := M) rfl ?_
    refine wp_ic_lt (t := 173) rfl rfl (fun hc => ?_) (fun hc => ?_)
    · rw [if_pos hc] at hQ
      replace hp := hp.1 hc
      exact s160_173 n k30 q30 h30 l0 l1 l2 l3 l4 l5 l6 l7 l8 l9 s0 M hp hQ
    · rw [if_neg hc] at hQ
      replace hp := hp.2 hc
      exact s160_161 n k30 q30 h30 l0 l1 l2 l3 l4 l5 l6 l7 l8 l9 s0 M hp hQ
def b160_145 (n : Nat) (k30 : Nat → Int32 → Int32 → Int32 → Int32 → Int32 → Int32 → Int32 → Int32 → zM → Int32 × zM) (l0 : Nat) (l1 : Int32) (l2 : Int32) (l3 : Int32) (l4 : Int32) (l5 : Int32) (l6 : Int32) (l7 : Int32) (l8 : Int32) (l9 : Int32) (s0 : Int32) (s1 : Int32) (s2 : Int32) (M : zM) : Int32 × zM := b160_147 n k30 l0 l1 l2 l3 l4 l5 l6 l7 l8 l9 (s0 + (s1 * s2)) M
def p160_145 (n : Nat) (q30 : Nat → Int32 → Int32 → Int32 → Int32 → Int32 → Int32 → Int32 → Int32 → zM → Prop) (l0 : Nat) (l1 : Int32) (l2 : Int32) (l3 : Int32) (l4 : Int32) (l5 : Int32) (l6 : Int32) (l7 : Int32) (l8 : Int32) (l9 : Int32) (s0 : Int32) (s1 : Int32) (s2 : Int32) (M : zM) : Prop := p160_147 n q30 l0 l1 l2 l3 l4 l5 l6 l7 l8 l9 (s0 + (s1 * s2)) M
theorem s160_145 (n : Nat) (k30 : Nat → Int32 → Int32 → Int32 → Int32 → Int32 → Int32 → Int32 → Int32 → zM → Int32 × zM) (q30 : Nat → Int32 → Int32 → Int32 → Int32 → Int32 → Int32 → Int32 → Int32 → zM → Prop) (h30 : ∀ (l0 : Nat) (l1 : Int32) (l2 : Int32) (l3 : Int32) (l4 : Int32) (l5 : Int32) (l6 : Int32) (l7 : Int32) (l8 : Int32) (M : zM), q30 l0 l1 l2 l3 l4 l5 l6 l7 l8 M → ∀ {Q : Option Value → zM → Prop}, (∀ r M1, zRI (k30 l0 l1 l2 l3 l4 l5 l6 l7 l8 M) r M1 → Q r M1) → zWP 160 30 [some (.ref l0), some (.int l1), some (.int l2), some (.int l3), some (.int l4), some (.int l5), some (.int l6), some (.int l7), some (.int l8), none, none, none, none, none, none] [] M Q) (l0 : Nat) (l1 : Int32) (l2 : Int32) (l3 : Int32) (l4 : Int32) (l5 : Int32) (l6 : Int32) (l7 : Int32) (l8 : Int32) (l9 : Int32) (s0 : Int32) (s1 : Int32) (s2 : Int32) (M : zM) (hp : p160_145 n q30 l0 l1 l2 l3 l4 l5 l6 l7 l8 l9 s0 s1 s2 M) {Q : Option Value → zM → Prop} (hQ : ∀ r M1, zRI (b160_145 n k30 l0 l1 l2 l3 l4 l5 l6 l7 l8 l9 s0 s1 s2 M) r M1 → Q r M1) : zWP 160 145 [some (.ref l0), some (.int l1), some (.int l2), some (.int l3), some (.int l4), some (.int l5), some (.int l6), some (.int l7), some (.int l8), some (.int l9), none, none, none, none, none] [.int s2, .int s1, .int s0] M Q := by
  unfold b160_145 at hQ
  unfold p160_145 at hp
  refine wp_go 2 (pc' := 147) (L' := [some (.ref l0), some (.int l1), some (.int l2), some (.int l3), some (.int l4), some (.int l5), some (.int l6), some (.int l7), some (.int l8), some (.int l9), none, none, none, none, none]) (st' := [.int (s0 + (s1 * s2))]) (M' := M) rfl ?_
  exact s160_147 n k30 q30 h30 l0 l1 l2 l3 l4 l5 l6 l7 l8 l9 (s0 + (s1 * s2)) M hp hQ
def b160_91 (n : Nat) (k30 : Nat → Int32 → Int32 → Int32 → Int32 → Int32 → Int32 → Int32 → Int32 → zM → Int32 × zM) (l0 : Nat) (l1 : Int32) (l2 : Int32) (l3 : Int32) (l4 : Int32) (l5 : Int32) (l6 : Int32) (l7 : Int32) (l8 : Int32) (s0 : Int32) (M : zM) : Int32 × zM := (if l8 = l5 then b160_147 n k30 l0 l1 l2 l3 l4 l5 l6 l7 l8 s0 (zI M (zQ M l0 44) l1.toNatClampNeg) M else b160_145 n k30 l0 l1 l2 l3 l4 l5 l6 l7 l8 s0 l7 (zI M (zQ M l0 7) (((20 : Int32) * l1) + l8).toNatClampNeg) (b121_0 n ((zI M (zQ M l0 6) (((20 : Int32) * l1) + l8).toNatClampNeg) + (zI M (zQ M l0 42) l1.toNatClampNeg)) M).1 (b121_0 n ((zI M (zQ M l0 6) (((20 : Int32) * l1) + l8).toNatClampNeg) + (zI M (zQ M l0 42) l1.toNatClampNeg)) M).2)
def p160_91 (n : Nat) (q30 : Nat → Int32 → Int32 → Int32 → Int32 → Int32 → Int32 → Int32 → Int32 → zM → Prop) (l0 : Nat) (l1 : Int32) (l2 : Int32) (l3 : Int32) (l4 : Int32) (l5 : Int32) (l6 : Int32) (l7 : Int32) (l8 : Int32) (s0 : Int32) (M : zM) : Prop := ((l8 = l5 → (zHasQ 10 108 l0 M 44) ∧ ((zOkI (zQ M l0 44) l1 M) ∧ (p160_147 n q30 l0 l1 l2 l3 l4 l5 l6 l7 l8 s0 (zI M (zQ M l0 44) l1.toNatClampNeg) M))) ∧ (¬ l8 = l5 → (zHasQ 10 29 l0 M 7) ∧ ((zOkI (zQ M l0 7) (((20 : Int32) * l1) + l8) M) ∧ ((zHasQ 10 26 l0 M 6) ∧ ((zOkI (zQ M l0 6) (((20 : Int32) * l1) + l8) M) ∧ ((zHasQ 10 102 l0 M 42) ∧ ((zOkI (zQ M l0 42) l1 M) ∧ ((p121_0 n ((zI M (zQ M l0 6) (((20 : Int32) * l1) + l8).toNatClampNeg) + (zI M (zQ M l0 42) l1.toNatClampNeg)) M) ∧ (p160_145 n q30 l0 l1 l2 l3 l4 l5 l6 l7 l8 s0 l7 (zI M (zQ M l0 7) (((20 : Int32) * l1) + l8).toNatClampNeg) (b121_0 n ((zI M (zQ M l0 6) (((20 : Int32) * l1) + l8).toNatClampNeg) + (zI M (zQ M l0 42) l1.toNatClampNeg)) M).1 (b121_0 n ((zI M (zQ M l0 6) (((20 : Int32) * l1) + l8).toNatClampNeg) + (zI M (zQ M l0 42) l1.toNatClampNeg)) M).2)))))))))
theorem s160_91 (n : Nat) (k30 : Nat → Int32 → Int32 → Int32 → Int32 → Int32 → Int32 → Int32 → Int32 → zM → Int32 × zM) (q30 : Nat → Int32 → Int32 → Int32 → Int32 → Int32 → Int32 → Int32 → Int32 → zM → Prop) (h30 : ∀ (l0 : Nat) (l1 : Int32) (l2 : Int32) (l3 : Int32) (l4 : Int32) (l5 : Int32) (l6 : Int32) (l7 : Int32) (l8 : Int32) (M : zM), q30 l0 l1 l2 l3 l4 l5 l6 l7 l8 M → ∀ {Q : Option Value → zM → Prop}, (∀ r M1, zRI (k30 l0 l1 l2 l3 l4 l5 l6 l7 l8 M) r M1 → Q r M1) → zWP 160 30 [some (.ref l0), some (.int l1), some (.int l2), some (.int l3), some (.int l4), some (.int l5), some (.int l6), some (.int l7), some (.int l8), none, none, none, none, none, none] [] M Q) (l0 : Nat) (l1 : Int32) (l2 : Int32) (l3 : Int32) (l4 : Int32) (l5 : Int32) (l6 : Int32) (l7 : Int32) (l8 : Int32) (s0 : Int32) (M : zM) (hp : p160_91 n q30 l0 l1 l2 l3 l4 l5 l6 l7 l8 s0 M) {Q : Option Value → zM → Prop} (hQ : ∀ r M1, zRI (b160_91 n k30 l0 l1 l2 l3 l4 l5 l6 l7 l8 s0 M) r M1 → Q r M1) : zWP 160 91 [some (.ref l0), some (.int l1), some (.int l2), some (.int l3), some (.int l4), some (.int l5), some (.int l6), some (.int l7), some (.int l8), none, none, none, none, none, none] [.int s0] M Q := by
  unfold b160_91 at hQ
  unfold p160_91 at hp
  refine wp_go 3 (pc' := 97) (L' := [some (.ref l0), some (.int l1), some (.int l2), some (.int l3), some (.int l4), some (.int l5), some (.int l6), some (.int l7), some (.int l8), some (.int s0), none, none, none, none, none]) (st' := [.int l5, .int l8]) (M' := M) rfl ?_
  refine wp_ic_ne (t := 109) rfl rfl (fun hc => ?_) (fun hc => ?_)
  · rw [if_neg hc] at hQ
    replace hp := hp.2 hc
    refine wp_go 2 (pc' := 112) (L' := [some (.ref l0), some (.int l1), some (.int l2), some (.int l3), some (.int l4), some (.int l5), some (.int l6), some (.int l7), some (.int l8), some (.int s0), none, none, none, none, none]) (st' := [.ref l0, .int l7]) (M' := M) rfl ?_
    obtain ⟨hc, hp⟩ := hp
    refine wq_getQ (j := 7) rfl hc ?_
    refine wp_go 5 (pc' := 122) (L' := [some (.ref l0), some (.int l1), some (.int l2), some (.int l3), some (.int l4), some (.int l5), some (.int l6), some (.int l7), some (.int l8), some (.int s0), none, none, none, none, none]) (st' := [.int (((20 : Int32) * l1) + l8), .ref (zQ M l0 7), .int l7]) (M' := M) rfl ?_
    obtain ⟨hc, hp⟩ := hp
    refine wq_iald rfl hc ?_
    refine wp_go 1 (pc' := 124) (L' := [some (.ref l0), some (.int l1), some (.int l2), some (.int l3), some (.int l4), some (.int l5), some (.int l6), some (.int l7), some (.int l8), some (.int s0), none, none, none, none, none]) (st' := [.ref l0, .int (zI M (zQ M l0 7) (((20 : Int32) * l1) + l8).toNatClampNeg), .int l7]) (M' := M) rfl ?_
    obtain ⟨hc, hp⟩ := hp
    refine wq_getQ (j := 6) rfl hc ?_
    refine wp_go 5 (pc' := 134) (L' := [some (.ref l0), some (.int l1), some (.int l2), some (.int l3), some (.int l4), some (.int l5), some (.int l6), some (.int l7), some (.int l8), some (.int s0), none, none, none, none, none]) (st' := [.int (((20 : Int32) * l1) + l8), .ref (zQ M l0 6), .int (zI M (zQ M l0 7) (((20 : Int32) * l1) + l8).toNatClampNeg), .int l7]) (M' := M) rfl ?_
    obtain ⟨hc, hp⟩ := hp
    refine wq_iald rfl hc ?_
    refine wp_go 1 (pc' := 136) (L' := [some (.ref l0), some (.int l1), some (.int l2), some (.int l3), some (.int l4), some (.int l5), some (.int l6), some (.int l7), some (.int l8), some (.int s0), none, none, none, none, none]) (st' := [.ref l0, .int (zI M (zQ M l0 6) (((20 : Int32) * l1) + l8).toNatClampNeg), .int (zI M (zQ M l0 7) (((20 : Int32) * l1) + l8).toNatClampNeg), .int l7]) (M' := M) rfl ?_
    obtain ⟨hc, hp⟩ := hp
    refine wq_getQ (j := 42) rfl hc ?_
    refine wp_go 1 (pc' := 140) (L' := [some (.ref l0), some (.int l1), some (.int l2), some (.int l3), some (.int l4), some (.int l5), some (.int l6), some (.int l7), some (.int l8), some (.int s0), none, none, none, none, none]) (st' := [.int l1, .ref (zQ M l0 42), .int (zI M (zQ M l0 6) (((20 : Int32) * l1) + l8).toNatClampNeg), .int (zI M (zQ M l0 7) (((20 : Int32) * l1) + l8).toNatClampNeg), .int l7]) (M' := M) rfl ?_
    obtain ⟨hc, hp⟩ := hp
    refine wq_iald rfl hc ?_
    refine wp_go 1 (pc' := 142) (L' := [some (.ref l0), some (.int l1), some (.int l2), some (.int l3), some (.int l4), some (.int l5), some (.int l6), some (.int l7), some (.int l8), some (.int s0), none, none, none, none, none]) (st' := [.int ((zI M (zQ M l0 6) (((20 : Int32) * l1) + l8).toNatClampNeg) + (zI M (zQ M l0 42) l1.toNatClampNeg)), .int (zI M (zQ M l0 7) (((20 : Int32) * l1) + l8).toNatClampNeg), .int l7]) (M' := M) rfl ?_
    obtain ⟨hc, hp⟩ := hp
    refine wp_calli (v := (b121_0 n ((zI M (zQ M l0 6) (((20 : Int32) * l1) + l8).toNatClampNeg) + (zI M (zQ M l0 42) l1.toNatClampNeg)) M).1) (M1 := (b121_0 n ((zI M (zQ M l0 6) (((20 : Int32) * l1) + l8).toNatClampNeg) + (zI M (zQ M l0 42) l1.toNatClampNeg)) M).2) rfl rfl rfl rfl (s121_0 n ((zI M (zQ M l0 6) (((20 : Int32) * l1) + l8).toNatClampNeg) + (zI M (zQ M l0 42) l1.toNatClampNeg)) M hc (fun r M1 h => h)) ?_
    exact s160_145 n k30 q30 h30 l0 l1 l2 l3 l4 l5 l6 l7 l8 s0 l7 (zI M (zQ M l0 7) (((20 : Int32) * l1) + l8).toNatClampNeg) (b121_0 n ((zI M (zQ M l0 6) (((20 : Int32) * l1) + l8).toNatClampNeg) + (zI M (zQ M l0 42) l1.toNatClampNeg)) M).1 (b121_0 n ((zI M (zQ M l0 6) (((20 : Int32) * l1) + l8).toNatClampNeg) + (zI M (zQ M l0 42) l1.toNatClampNeg)) M).2 hp hQ
  · rw [if_pos hc] at hQ
    replace hp := hp.1 hc
    refine wp_go 1 (pc' := 101) (L' := [some (.ref l0), some (.int l1), some (.int l2), some (.int l3), some (.int l4), some (.int l5), some (.int l6), some (.int l7), some (.int l8), some (.int s0), none, none, none, none, none]) (st' := [.ref l0]) (M' := M) rfl ?_
    obtain ⟨hc, hp⟩ := hp
    refine wq_getQ (j := 44) rfl hc ?_
    refine wp_go 1 (pc' := 105) (L' := [some (.ref l0), some (.int l1), some (.int l2), some (.int l3), some (.int l4), some (.int l5), some (.int l6), some (.int l7), some (.int l8), some (.int s0), none, none, none, none, none]) (st' := [.int l1, .ref (zQ M l0 44)]) (M' := M) rfl ?_
    obtain ⟨hc, hp⟩ := hp
    refine wq_iald rfl hc ?_
    refine wp_go 1 (pc' := 147) (L' := [some (.ref l0), some (.int l1), some (.int l2), some (.int l3), some (.int l4), some (.int l5), some (.int l6), some (.int l7), some (.int l8), some (.int s0), none, none, none, none, none]) (st' := [.int (zI M (zQ M l0 44) l1.toNatClampNeg)]) (M' := M) rfl ?_
    exact s160_147 n k30 q30 h30 l0 l1 l2 l3 l4 l5 l6 l7 l8 s0 (zI M (zQ M l0 44) l1.toNatClampNeg) M hp hQ
def b160_89 (n : Nat) (k30 : Nat → Int32 → Int32 → Int32 → Int32 → Int32 → Int32 → Int32 → Int32 → zM → Int32 × zM) (l0 : Nat) (l1 : Int32) (l2 : Int32) (l3 : Int32) (l4 : Int32) (l5 : Int32) (l6 : Int32) (l7 : Int32) (l8 : Int32) (s0 : Int32) (s1 : Int32) (s2 : Int32) (M : zM) : Int32 × zM := b160_91 n k30 l0 l1 l2 l3 l4 l5 l6 l7 l8 (s0 + (s1 * s2)) M
def p160_89 (n : Nat) (q30 : Nat → Int32 → Int32 → Int32 → Int32 → Int32 → Int32 → Int32 → Int32 → zM → Prop) (l0 : Nat) (l1 : Int32) (l2 : Int32) (l3 : Int32) (l4 : Int32) (l5 : Int32) (l6 : Int32) (l7 : Int32) (l8 : Int32) (s0 : Int32) (s1 : Int32) (s2 : Int32) (M : zM) : Prop := p160_91 n q30 l0 l1 l2 l3 l4 l5 l6 l7 l8 (s0 + (s1 * s2)) M
theorem s160_89 (n : Nat) (k30 : Nat → Int32 → Int32 → Int32 → Int32 → Int32 → Int32 → Int32 → Int32 → zM → Int32 × zM) (q30 : Nat → Int32 → Int32 → Int32 → Int32 → Int32 → Int32 → Int32 → Int32 → zM → Prop) (h30 : ∀ (l0 : Nat) (l1 : Int32) (l2 : Int32) (l3 : Int32) (l4 : Int32) (l5 : Int32) (l6 : Int32) (l7 : Int32) (l8 : Int32) (M : zM), q30 l0 l1 l2 l3 l4 l5 l6 l7 l8 M → ∀ {Q : Option Value → zM → Prop}, (∀ r M1, zRI (k30 l0 l1 l2 l3 l4 l5 l6 l7 l8 M) r M1 → Q r M1) → zWP 160 30 [some (.ref l0), some (.int l1), some (.int l2), some (.int l3), some (.int l4), some (.int l5), some (.int l6), some (.int l7), some (.int l8), none, none, none, none, none, none] [] M Q) (l0 : Nat) (l1 : Int32) (l2 : Int32) (l3 : Int32) (l4 : Int32) (l5 : Int32) (l6 : Int32) (l7 : Int32) (l8 : Int32) (s0 : Int32) (s1 : Int32) (s2 : Int32) (M : zM) (hp : p160_89 n q30 l0 l1 l2 l3 l4 l5 l6 l7 l8 s0 s1 s2 M) {Q : Option Value → zM → Prop} (hQ : ∀ r M1, zRI (b160_89 n k30 l0 l1 l2 l3 l4 l5 l6 l7 l8 s0 s1 s2 M) r M1 → Q r M1) : zWP 160 89 [some (.ref l0), some (.int l1), some (.int l2), some (.int l3), some (.int l4), some (.int l5), some (.int l6), some (.int l7), some (.int l8), none, none, none, none, none, none] [.int s2, .int s1, .int s0] M Q := by
  unfold b160_89 at hQ
  unfold p160_89 at hp
  refine wp_go 2 (pc' := 91) (L' := [some (.ref l0), some (.int l1), some (.int l2), some (.int l3), some (.int l4), some (.int l5), some (.int l6), some (.int l7), some (.int l8), none, none, none, none, none, none]) (st' := [.int (s0 + (s1 * s2))]) (M' := M) rfl ?_
  exact s160_91 n k30 q30 h30 l0 l1 l2 l3 l4 l5 l6 l7 l8 (s0 + (s1 * s2)) M hp hQ
def c160_30 (n : Nat) (k30 : Nat → Int32 → Int32 → Int32 → Int32 → Int32 → Int32 → Int32 → Int32 → zM → Int32 × zM) (l0 : Nat) (l1 : Int32) (l2 : Int32) (l3 : Int32) (l4 : Int32) (l5 : Int32) (l6 : Int32) (l7 : Int32) (l8 : Int32) (M : zM) : Int32 × zM := (if l5 < l8 then (l4, M) else (if l8 = l5 then b160_91 n k30 l0 l1 l2 l3 l4 l5 l6 l7 l8 (zI M (zQ M l0 43) l1.toNatClampNeg) M else b160_89 n k30 l0 l1 l2 l3 l4 l5 l6 l7 l8 l6 (zI M (zQ M l0 7) (((20 : Int32) * l1) + l8).toNatClampNeg) (b120_0 n ((zI M (zQ M l0 6) (((20 : Int32) * l1) + l8).toNatClampNeg) + (zI M (zQ M l0 42) l1.toNatClampNeg)) M).1 (b120_0 n ((zI M (zQ M l0 6) (((20 : Int32) * l1) + l8).toNatClampNeg) + (zI M (zQ M l0 42) l1.toNatClampNeg)) M).2))
def d160_30 (n : Nat) (q30 : Nat → Int32 → Int32 → Int32 → Int32 → Int32 → Int32 → Int32 → Int32 → zM → Prop) (l0 : Nat) (l1 : Int32) (l2 : Int32) (l3 : Int32) (l4 : Int32) (l5 : Int32) (l6 : Int32) (l7 : Int32) (l8 : Int32) (M : zM) : Prop := ((l5 < l8 → zNar .boolean l4 = true) ∧ (¬ l5 < l8 → ((l8 = l5 → (zHasQ 10 105 l0 M 43) ∧ ((zOkI (zQ M l0 43) l1 M) ∧ (p160_91 n q30 l0 l1 l2 l3 l4 l5 l6 l7 l8 (zI M (zQ M l0 43) l1.toNatClampNeg) M))) ∧ (¬ l8 = l5 → (zHasQ 10 29 l0 M 7) ∧ ((zOkI (zQ M l0 7) (((20 : Int32) * l1) + l8) M) ∧ ((zHasQ 10 26 l0 M 6) ∧ ((zOkI (zQ M l0 6) (((20 : Int32) * l1) + l8) M) ∧ ((zHasQ 10 102 l0 M 42) ∧ ((zOkI (zQ M l0 42) l1 M) ∧ ((p120_0 n ((zI M (zQ M l0 6) (((20 : Int32) * l1) + l8).toNatClampNeg) + (zI M (zQ M l0 42) l1.toNatClampNeg)) M) ∧ (p160_89 n q30 l0 l1 l2 l3 l4 l5 l6 l7 l8 l6 (zI M (zQ M l0 7) (((20 : Int32) * l1) + l8).toNatClampNeg) (b120_0 n ((zI M (zQ M l0 6) (((20 : Int32) * l1) + l8).toNatClampNeg) + (zI M (zQ M l0 42) l1.toNatClampNeg)) M).1 (b120_0 n ((zI M (zQ M l0 6) (((20 : Int32) * l1) + l8).toNatClampNeg) + (zI M (zQ M l0 42) l1.toNatClampNeg)) M).2)))))))))))
theorem t160_30 (n : Nat) (k30 : Nat → Int32 → Int32 → Int32 → Int32 → Int32 → Int32 → Int32 → Int32 → zM → Int32 × zM) (q30 : Nat → Int32 → Int32 → Int32 → Int32 → Int32 → Int32 → Int32 → Int32 → zM → Prop) (h30 : ∀ (l0 : Nat) (l1 : Int32) (l2 : Int32) (l3 : Int32) (l4 : Int32) (l5 : Int32) (l6 : Int32) (l7 : Int32) (l8 : Int32) (M : zM), q30 l0 l1 l2 l3 l4 l5 l6 l7 l8 M → ∀ {Q : Option Value → zM → Prop}, (∀ r M1, zRI (k30 l0 l1 l2 l3 l4 l5 l6 l7 l8 M) r M1 → Q r M1) → zWP 160 30 [some (.ref l0), some (.int l1), some (.int l2), some (.int l3), some (.int l4), some (.int l5), some (.int l6), some (.int l7), some (.int l8), none, none, none, none, none, none] [] M Q) (l0 : Nat) (l1 : Int32) (l2 : Int32) (l3 : Int32) (l4 : Int32) (l5 : Int32) (l6 : Int32) (l7 : Int32) (l8 : Int32) (M : zM) (hp : d160_30 n q30 l0 l1 l2 l3 l4 l5 l6 l7 l8 M) {Q : Option Value → zM → Prop} (hQ : ∀ r M1, zRI (c160_30 n k30 l0 l1 l2 l3 l4 l5 l6 l7 l8 M) r M1 → Q r M1) : zWP 160 30 [some (.ref l0), some (.int l1), some (.int l2), some (.int l3), some (.int l4), some (.int l5), some (.int l6), some (.int l7), some (.int l8), none, none, none, none, none, none] [] M Q := by
  unfold c160_30 at hQ
  unfold d160_30 at hp
  refine wp_go 2 (pc' := 34) (L' := [some (.ref l0), some (.int l1), some (.int l2), some (.int l3), some (.int l4), some (.int l5), some (.int l6), some (.int l7), some (.int l8), none, none, none, none, none, none]) (st' := [.int l5, .int l8]) (M' := M) rfl ?_
  refine wp_ic_gt (t := 253) rfl rfl (fun hc => ?_) (fun hc => ?_)
  · rw [if_pos hc] at hQ
    replace hp := hp.1 hc
    refine wp_go 1 (pc' := 255) (L' := [some (.ref l0), some (.int l1), some (.int l2), some (.int l3), some (.int l4), some (.int l5), some (.int l6), some (.int l7), some (.int l8), none, none, none, none, none, none]) (st' := [.int l4]) (M' := M) rfl ?_
    exact wp_retz rfl rfl hp (hQ _ _ ⟨rfl, rfl⟩)
  · rw [if_neg hc] at hQ
    replace hp := hp.2 hc
    refine wp_go 2 (pc' := 41) (L' := [some (.ref l0), some (.int l1), some (.int l2), some (.int l3), some (.int l4), some (.int l5), some (.int l6), some (.int l7), some (.int l8), none, none, none, none, none, none]) (st' := [.int l5, .int l8]) (M' := M) rfl ?_
    refine wp_ic_ne (t := 53) rfl rfl (fun hc => ?_) (fun hc => ?_)
    · rw [if_neg hc] at hQ
      replace hp := hp.2 hc
      refine wp_go 2 (pc' := 56) (L' := [some (.ref l0), some (.int l1), some (.int l2), some (.int l3), some (.int l4), some (.int l5), some (.int l6), some (.int l7), some (.int l8), none, none, none, none, none, none]) (st' := [.ref l0, .int l6]) (M' := M) rfl ?_
      obtain ⟨hc, hp⟩ := hp
      refine wq_getQ (j := 7) rfl hc ?_
      refine wp_go 5 (pc' := 66) (L' := [some (.ref l0), some (.int l1), some (.int l2), some (.int l3), some (.int l4), some (.int l5), some (.int l6), some (.int l7), some (.int l8), none, none, none, none, none, none]) (st' := [.int (((20 : Int32) * l1) + l8), .ref (zQ M l0 7), .int l6]) (M' := M) rfl ?_
      obtain ⟨hc, hp⟩ := hp
      refine wq_iald rfl hc ?_
      refine wp_go 1 (pc' := 68) (L' := [some (.ref l0), some (.int l1), some (.int l2), some (.int l3), some (.int l4), some (.int l5), some (.int l6), some (.int l7), some (.int l8), none, none, none, none, none, none]) (st' := [.ref l0, .int (zI M (zQ M l0 7) (((20 : Int32) * l1) + l8).toNatClampNeg), .int l6]) (M' := M) rfl ?_
      obtain ⟨hc, hp⟩ := hp
      refine wq_getQ (j := 6) rfl hc ?_
      refine wp_go 5 (pc' := 78) (L' := [some (.ref l0), some (.int l1), some (.int l2), some (.int l3), some (.int l4), some (.int l5), some (.int l6), some (.int l7), some (.int l8), none, none, none, none, none, none]) (st' := [.int (((20 : Int32) * l1) + l8), .ref (zQ M l0 6), .int (zI M (zQ M l0 7) (((20 : Int32) * l1) + l8).toNatClampNeg), .int l6]) (M' := M) rfl ?_
      obtain ⟨hc, hp⟩ := hp
      refine wq_iald rfl hc ?_
      refine wp_go 1 (pc' := 80) (L' := [some (.ref l0), some (.int l1), some (.int l2), some (.int l3), some (.int l4), some (.int l5), some (.int l6), some (.int l7), some (.int l8), none, none, none, none, none, none]) (st' := [.ref l0, .int (zI M (zQ M l0 6) (((20 : Int32) * l1) + l8).toNatClampNeg), .int (zI M (zQ M l0 7) (((20 : Int32) * l1) + l8).toNatClampNeg), .int l6]) (M' := M) rfl ?_
      obtain ⟨hc, hp⟩ := hp
      refine wq_getQ (j := 42) rfl hc ?_
      refine wp_go 1 (pc' := 84) (L' := [some (.ref l0), some (.int l1), some (.int l2), some (.int l3), some (.int l4), some (.int l5), some (.int l6), some (.int l7), some (.int l8), none, none, none, none, none, none]) (st' := [.int l1, .ref (zQ M l0 42), .int (zI M (zQ M l0 6) (((20 : Int32) * l1) + l8).toNatClampNeg), .int (zI M (zQ M l0 7) (((20 : Int32) * l1) + l8).toNatClampNeg), .int l6]) (M' := M) rfl ?_
      obtain ⟨hc, hp⟩ := hp
      refine wq_iald rfl hc ?_
      refine wp_go 1 (pc' := 86) (L' := [some (.ref l0), some (.int l1), some (.int l2), some (.int l3), some (.int l4), some (.int l5), some (.int l6), some (.int l7), some (.int l8), none, none, none, none, none, none]) (st' := [.int ((zI M (zQ M l0 6) (((20 : Int32) * l1) + l8).toNatClampNeg) + (zI M (zQ M l0 42) l1.toNatClampNeg)), .int (zI M (zQ M l0 7) (((20 : Int32) * l1) + l8).toNatClampNeg), .int l6]) (M' := M) rfl ?_
      obtain ⟨hc, hp⟩ := hp
      refine wp_calli (v := (b120_0 n ((zI M (zQ M l0 6) (((20 : Int32) * l1) + l8).toNatClampNeg) + (zI M (zQ M l0 42) l1.toNatClampNeg)) M).1) (M1 := (b120_0 n ((zI M (zQ M l0 6) (((20 : Int32) * l1) + l8).toNatClampNeg) + (zI M (zQ M l0 42) l1.toNatClampNeg)) M).2) rfl rfl rfl rfl (s120_0 n ((zI M (zQ M l0 6) (((20 : Int32) * l1) + l8).toNatClampNeg) + (zI M (zQ M l0 42) l1.toNatClampNeg)) M hc (fun r M1 h => h)) ?_
      exact s160_89 n k30 q30 h30 l0 l1 l2 l3 l4 l5 l6 l7 l8 l6 (zI M (zQ M l0 7) (((20 : Int32) * l1) + l8).toNatClampNeg) (b120_0 n ((zI M (zQ M l0 6) (((20 : Int32) * l1) + l8).toNatClampNeg) + (zI M (zQ M l0 42) l1.toNatClampNeg)) M).1 (b120_0 n ((zI M (zQ M l0 6) (((20 : Int32) * l1) + l8).toNatClampNeg) + (zI M (zQ M l0 42) l1.toNatClampNeg)) M).2 hp hQ
    · rw [if_pos hc] at hQ
      replace hp := hp.1 hc
      refine wp_go 1 (pc' := 45) (L' := [some (.ref l0), some (.int l1), some (.int l2), some (.int l3), some (.int l4), some (.int l5), some (.int l6), some (.int l7), some (.int l8), none, none, none, none, none, none]) (st' := [.ref l0]) (M' := M) rfl ?_
      obtain ⟨hc, hp⟩ := hp
      refine wq_getQ (j := 43) rfl hc ?_
      refine wp_go 1 (pc' := 49) (L' := [some (.ref l0), some (.int l1), some (.int l2), some (.int l3), some (.int l4), some (.int l5), some (.int l6), some (.int l7), some (.int l8), none, none, none, none, none, none]) (st' := [.int l1, .ref (zQ M l0 43)]) (M' := M) rfl ?_
      obtain ⟨hc, hp⟩ := hp
      refine wq_iald rfl hc ?_
      refine wp_go 1 (pc' := 91) (L' := [some (.ref l0), some (.int l1), some (.int l2), some (.int l3), some (.int l4), some (.int l5), some (.int l6), some (.int l7), some (.int l8), none, none, none, none, none, none]) (st' := [.int (zI M (zQ M l0 43) l1.toNatClampNeg)]) (M' := M) rfl ?_
      exact s160_91 n k30 q30 h30 l0 l1 l2 l3 l4 l5 l6 l7 l8 (zI M (zQ M l0 43) l1.toNatClampNeg) M hp hQ
def b160_30 (n : Nat)  : Nat → Nat → Int32 → Int32 → Int32 → Int32 → Int32 → Int32 → Int32 → Int32 → zM → Int32 × zM
  | 0, _, _, _, _, _, _, _, _, _, M => (0, M)
  | k + 1, l0, l1, l2, l3, l4, l5, l6, l7, l8, M => c160_30 n  (b160_30 n  k) l0 l1 l2 l3 l4 l5 l6 l7 l8 M
def p160_30 (n : Nat)  : Nat → Nat → Int32 → Int32 → Int32 → Int32 → Int32 → Int32 → Int32 → Int32 → zM → Prop
  | 0, _, _, _, _, _, _, _, _, _, _ => False
  | k + 1, l0, l1, l2, l3, l4, l5, l6, l7, l8, M => d160_30 n  (p160_30 n  k) l0 l1 l2 l3 l4 l5 l6 l7 l8 M
theorem s160_30 (n : Nat)    : ∀ (k : Nat) (l0 : Nat) (l1 : Int32) (l2 : Int32) (l3 : Int32) (l4 : Int32) (l5 : Int32) (l6 : Int32) (l7 : Int32) (l8 : Int32) (M : zM), p160_30 n  k l0 l1 l2 l3 l4 l5 l6 l7 l8 M → ∀ {Q : Option Value → zM → Prop}, (∀ r M1, zRI (b160_30 n  k l0 l1 l2 l3 l4 l5 l6 l7 l8 M) r M1 → Q r M1) → zWP 160 30 [some (.ref l0), some (.int l1), some (.int l2), some (.int l3), some (.int l4), some (.int l5), some (.int l6), some (.int l7), some (.int l8), none, none, none, none, none, none] [] M Q
  | 0, _, _, _, _, _, _, _, _, _, _, h, _, _ => h.elim
  | k + 1, l0, l1, l2, l3, l4, l5, l6, l7, l8, M, h, _, hQ => t160_30 n  (b160_30 n  k)  (p160_30 n  k)  (s160_30 n    k) l0 l1 l2 l3 l4 l5 l6 l7 l8 M h hQ
def b160_0 (n : Nat)  (l0 : Nat) (l1 : Int32) (l2 : Int32) (l3 : Int32) (M : zM) : Int32 × zM := b160_30 n  n l0 l1 l2 l3 (0 : Int32) (zI M (zQ M l0 2) l1.toNatClampNeg) (zI M (zQ M l0 43) l1.toNatClampNeg) (zI M (zQ M l0 44) l1.toNatClampNeg) (0 : Int32) M
def p160_0 (n : Nat)  (l0 : Nat) (l1 : Int32) (l2 : Int32) (l3 : Int32) (M : zM) : Prop := (zHasQ 10 13 l0 M 2) ∧ ((zOkI (zQ M l0 2) l1 M) ∧ ((zHasQ 10 105 l0 M 43) ∧ ((zOkI (zQ M l0 43) l1 M) ∧ ((zHasQ 10 108 l0 M 44) ∧ ((zOkI (zQ M l0 44) l1 M) ∧ (p160_30 n  n l0 l1 l2 l3 (0 : Int32) (zI M (zQ M l0 2) l1.toNatClampNeg) (zI M (zQ M l0 43) l1.toNatClampNeg) (zI M (zQ M l0 44) l1.toNatClampNeg) (0 : Int32) M))))))
theorem s160_0 (n : Nat)    (l0 : Nat) (l1 : Int32) (l2 : Int32) (l3 : Int32) (M : zM) (hp : p160_0 n  l0 l1 l2 l3 M) {Q : Option Value → zM → Prop} (hQ : ∀ r M1, zRI (b160_0 n  l0 l1 l2 l3 M) r M1 → Q r M1) : zWP 160 0 [some (.ref l0), some (.int l1), some (.int l2), some (.int l3), none, none, none, none, none, none, none, none, none, none, none] [] M Q := by
  unfold b160_0 at hQ
  unfold p160_0 at hp
  refine wp_go 3 (pc' := 4) (L' := [some (.ref l0), some (.int l1), some (.int l2), some (.int l3), some (.int (0 : Int32)), none, none, none, none, none, none, none, none, none, none]) (st' := [.ref l0]) (M' := M) rfl ?_
  obtain ⟨hc, hp⟩ := hp
  refine wq_getQ (j := 2) rfl hc ?_
  refine wp_go 1 (pc' := 8) (L' := [some (.ref l0), some (.int l1), some (.int l2), some (.int l3), some (.int (0 : Int32)), none, none, none, none, none, none, none, none, none, none]) (st' := [.int l1, .ref (zQ M l0 2)]) (M' := M) rfl ?_
  obtain ⟨hc, hp⟩ := hp
  refine wq_iald rfl hc ?_
  refine wp_go 2 (pc' := 12) (L' := [some (.ref l0), some (.int l1), some (.int l2), some (.int l3), some (.int (0 : Int32)), some (.int (zI M (zQ M l0 2) l1.toNatClampNeg)), none, none, none, none, none, none, none, none, none]) (st' := [.ref l0]) (M' := M) rfl ?_
  obtain ⟨hc, hp⟩ := hp
  refine wq_getQ (j := 43) rfl hc ?_
  refine wp_go 1 (pc' := 16) (L' := [some (.ref l0), some (.int l1), some (.int l2), some (.int l3), some (.int (0 : Int32)), some (.int (zI M (zQ M l0 2) l1.toNatClampNeg)), none, none, none, none, none, none, none, none, none]) (st' := [.int l1, .ref (zQ M l0 43)]) (M' := M) rfl ?_
  obtain ⟨hc, hp⟩ := hp
  refine wq_iald rfl hc ?_
  refine wp_go 2 (pc' := 20) (L' := [some (.ref l0), some (.int l1), some (.int l2), some (.int l3), some (.int (0 : Int32)), some (.int (zI M (zQ M l0 2) l1.toNatClampNeg)), some (.int (zI M (zQ M l0 43) l1.toNatClampNeg)), none, none, none, none, none, none, none, none]) (st' := [.ref l0]) (M' := M) rfl ?_
  obtain ⟨hc, hp⟩ := hp
  refine wq_getQ (j := 44) rfl hc ?_
  refine wp_go 1 (pc' := 24) (L' := [some (.ref l0), some (.int l1), some (.int l2), some (.int l3), some (.int (0 : Int32)), some (.int (zI M (zQ M l0 2) l1.toNatClampNeg)), some (.int (zI M (zQ M l0 43) l1.toNatClampNeg)), none, none, none, none, none, none, none, none]) (st' := [.int l1, .ref (zQ M l0 44)]) (M' := M) rfl ?_
  obtain ⟨hc, hp⟩ := hp
  refine wq_iald rfl hc ?_
  refine wp_go 3 (pc' := 30) (L' := [some (.ref l0), some (.int l1), some (.int l2), some (.int l3), some (.int (0 : Int32)), some (.int (zI M (zQ M l0 2) l1.toNatClampNeg)), some (.int (zI M (zQ M l0 43) l1.toNatClampNeg)), some (.int (zI M (zQ M l0 44) l1.toNatClampNeg)), some (.int (0 : Int32)), none, none, none, none, none, none]) (st' := []) (M' := M) rfl ?_
  exact s160_30 n    n l0 l1 l2 l3 (0 : Int32) (zI M (zQ M l0 2) l1.toNatClampNeg) (zI M (zQ M l0 43) l1.toNatClampNeg) (zI M (zQ M l0 44) l1.toNatClampNeg) (0 : Int32) M hp hQ
/-! X12_bounds -/
def b161_258 (n : Nat) (k57 : Nat → Int32 → Int32 → Int32 → Int32 → zM → zM) (l0 : Nat) (l1 : Int32) (l2 : Int32) (l3 : Int32) (l4 : Int32) (M : zM) : zM := k57 l0 l1 l2 l3 (l4 + Int32.ofInt 1) M
def p161_258 (n : Nat) (q57 : Nat → Int32 → Int32 → Int32 → Int32 → zM → Prop) (l0 : Nat) (l1 : Int32) (l2 : Int32) (l3 : Int32) (l4 : Int32) (M : zM) : Prop := q57 l0 l1 l2 l3 (l4 + Int32.ofInt 1) M
theorem s161_258 (n : Nat) (k57 : Nat → Int32 → Int32 → Int32 → Int32 → zM → zM) (q57 : Nat → Int32 → Int32 → Int32 → Int32 → zM → Prop) (h57 : ∀ (l0 : Nat) (l1 : Int32) (l2 : Int32) (l3 : Int32) (l4 : Int32) (M : zM), q57 l0 l1 l2 l3 l4 M → ∀ {Q : Option Value → zM → Prop}, (∀ r M1, zRV (k57 l0 l1 l2 l3 l4 M) r M1 → Q r M1) → zWP 161 57 [some (.ref l0), some (.int l1), some (.int l2), some (.int l3), some (.int l4)] [] M Q) (l0 : Nat) (l1 : Int32) (l2 : Int32) (l3 : Int32) (l4 : Int32) (M : zM) (hp : p161_258 n q57 l0 l1 l2 l3 l4 M) {Q : Option Value → zM → Prop} (hQ : ∀ r M1, zRV (b161_258 n k57 l0 l1 l2 l3 l4 M) r M1 → Q r M1) : zWP 161 258 [some (.ref l0), some (.int l1), some (.int l2), some (.int l3), some (.int l4)] [] M Q := by
  unfold b161_258 at hQ
  unfold p161_258 at hp
  refine wp_go 2 (pc' := 57) (L' := [some (.ref l0), some (.int l1), some (.int l2), some (.int l3), some (.int (l4 + Int32.ofInt 1))]) (st' := []) (M' := M) rfl ?_
  exact h57 l0 l1 l2 l3 (l4 + Int32.ofInt 1) M hp hQ
def b161_257 (n : Nat) (k57 : Nat → Int32 → Int32 → Int32 → Int32 → zM → zM) (l0 : Nat) (l1 : Int32) (l2 : Int32) (l3 : Int32) (l4 : Int32) (s0 : Nat) (s1 : Int32) (s2 : Int32) (M : zM) : zM := b161_258 n k57 l0 l1 l2 l3 l4 (zWI M s0 s1.toNatClampNeg s2)
def p161_257 (n : Nat) (q57 : Nat → Int32 → Int32 → Int32 → Int32 → zM → Prop) (l0 : Nat) (l1 : Int32) (l2 : Int32) (l3 : Int32) (l4 : Int32) (s0 : Nat) (s1 : Int32) (s2 : Int32) (M : zM) : Prop := (zOkT 1 s0 s1 M) ∧ (p161_258 n q57 l0 l1 l2 l3 l4 (zWI M s0 s1.toNatClampNeg s2))
theorem s161_257 (n : Nat) (k57 : Nat → Int32 → Int32 → Int32 → Int32 → zM → zM) (q57 : Nat → Int32 → Int32 → Int32 → Int32 → zM → Prop) (h57 : ∀ (l0 : Nat) (l1 : Int32) (l2 : Int32) (l3 : Int32) (l4 : Int32) (M : zM), q57 l0 l1 l2 l3 l4 M → ∀ {Q : Option Value → zM → Prop}, (∀ r M1, zRV (k57 l0 l1 l2 l3 l4 M) r M1 → Q r M1) → zWP 161 57 [some (.ref l0), some (.int l1), some (.int l2), some (.int l3), some (.int l4)] [] M Q) (l0 : Nat) (l1 : Int32) (l2 : Int32) (l3 : Int32) (l4 : Int32) (s0 : Nat) (s1 : Int32) (s2 : Int32) (M : zM) (hp : p161_257 n q57 l0 l1 l2 l3 l4 s0 s1 s2 M) {Q : Option Value → zM → Prop} (hQ : ∀ r M1, zRV (b161_257 n k57 l0 l1 l2 l3 l4 s0 s1 s2 M) r M1 → Q r M1) : zWP 161 257 [some (.ref l0), some (.int l1), some (.int l2), some (.int l3), some (.int l4)] [.int s2, .int s1, .ref s0] M Q := by
  unfold b161_257 at hQ
  unfold p161_257 at hp
  obtain ⟨hc, hp⟩ := hp
  refine wq_iast rfl hc ?_
  exact s161_258 n k57 q57 h57 l0 l1 l2 l3 l4 (zWI M s0 s1.toNatClampNeg s2) hp hQ
def b161_234 (n : Nat) (k57 : Nat → Int32 → Int32 → Int32 → Int32 → zM → zM) (l0 : Nat) (l1 : Int32) (l2 : Int32) (l3 : Int32) (l4 : Int32) (M : zM) : zM := b161_257 n k57 l0 l1 l2 l3 l4 (zQ M l0 49) (((2 : Int32) * l1) + (1 : Int32)) (b125_0 n (zI M (zQ M l0 49) (((2 : Int32) * l1) + (1 : Int32)).toNatClampNeg) l3 M).1 (b125_0 n (zI M (zQ M l0 49) (((2 : Int32) * l1) + (1 : Int32)).toNatClampNeg) l3 M).2
def p161_234 (n : Nat) (q57 : Nat → Int32 → Int32 → Int32 → Int32 → zM → Prop) (l0 : Nat) (l1 : Int32) (l2 : Int32) (l3 : Int32) (l4 : Int32) (M : zM) : Prop := (zHasQ 10 114 l0 M 49) ∧ ((zHasQ 10 114 l0 M 49) ∧ ((zOkI (zQ M l0 49) (((2 : Int32) * l1) + (1 : Int32)) M) ∧ ((p125_0 n (zI M (zQ M l0 49) (((2 : Int32) * l1) + (1 : Int32)).toNatClampNeg) l3 M) ∧ (p161_257 n q57 l0 l1 l2 l3 l4 (zQ M l0 49) (((2 : Int32) * l1) + (1 : Int32)) (b125_0 n (zI M (zQ M l0 49) (((2 : Int32) * l1) + (1 : Int32)).toNatClampNeg) l3 M).1 (b125_0 n (zI M (zQ M l0 49) (((2 : Int32) * l1) + (1 : Int32)).toNatClampNeg) l3 M).2))))
theorem s161_234 (n : Nat) (k57 : Nat → Int32 → Int32 → Int32 → Int32 → zM → zM) (q57 : Nat → Int32 → Int32 → Int32 → Int32 → zM → Prop) (h57 : ∀ (l0 : Nat) (l1 : Int32) (l2 : Int32) (l3 : Int32) (l4 : Int32) (M : zM), q57 l0 l1 l2 l3 l4 M → ∀ {Q : Option Value → zM → Prop}, (∀ r M1, zRV (k57 l0 l1 l2 l3 l4 M) r M1 → Q r M1) → zWP 161 57 [some (.ref l0), some (.int l1), some (.int l2), some (.int l3), some (.int l4)] [] M Q) (l0 : Nat) (l1 : Int32) (l2 : Int32) (l3 : Int32) (l4 : Int32) (M : zM) (hp : p161_234 n q57 l0 l1 l2 l3 l4 M) {Q : Option Value → zM → Prop} (hQ : ∀ r M1, zRV (b161_234 n k57 l0 l1 l2 l3 l4 M) r M1 → Q r M1) : zWP 161 234 [some (.ref l0), some (.int l1), some (.int l2), some (.int l3), some (.int l4)] [] M Q := by
  unfold b161_234 at hQ
  unfold p161_234 at hp
  refine wp_go 1 (pc' := 235) (L' := [some (.ref l0), some (.int l1), some (.int l2), some (.int l3), some (.int l4)]) (st' := [.ref l0]) (M' := M) rfl ?_
  obtain ⟨hc, hp⟩ := hp
  refine wq_getQ (j := 49) rfl hc ?_
  refine wp_go 5 (pc' := 243) (L' := [some (.ref l0), some (.int l1), some (.int l2), some (.int l3), some (.int l4)]) (st' := [.int (((2 : Int32) * l1) + (1 : Int32)), .ref (zQ M l0 49)]) (M' := M) rfl ?_
  refine wp_go 1 (pc' := 244) (L' := [some (.ref l0), some (.int l1), some (.int l2), some (.int l3), some (.int l4)]) (st' := [.ref l0, .int (((2 : Int32) * l1) + (1 : Int32)), .ref (zQ M l0 49)]) (M' := M) rfl ?_
  obtain ⟨hc, hp⟩ := hp
  refine wq_getQ (j := 49) rfl hc ?_
  refine wp_go 5 (pc' := 252) (L' := [some (.ref l0), some (.int l1), some (.int l2), some (.int l3), some (.int l4)]) (st' := [.int (((2 : Int32) * l1) + (1 : Int32)), .ref (zQ M l0 49), .int (((2 : Int32) * l1) + (1 : Int32)), .ref (zQ M l0 49)]) (M' := M) rfl ?_
  obtain ⟨hc, hp⟩ := hp
  refine wq_iald rfl hc ?_
  refine wp_go 1 (pc' := 254) (L' := [some (.ref l0), some (.int l1), some (.int l2), some (.int l3), some (.int l4)]) (st' := [.int l3, .int (zI M (zQ M l0 49) (((2 : Int32) * l1) + (1 : Int32)).toNatClampNeg), .int (((2 : Int32) * l1) + (1 : Int32)), .ref (zQ M l0 49)]) (M' := M) rfl ?_
  obtain ⟨hc, hp⟩ := hp
  refine wp_calli (v := (b125_0 n (zI M (zQ M l0 49) (((2 : Int32) * l1) + (1 : Int32)).toNatClampNeg) l3 M).1) (M1 := (b125_0 n (zI M (zQ M l0 49) (((2 : Int32) * l1) + (1 : Int32)).toNatClampNeg) l3 M).2) rfl rfl rfl rfl (s125_0 n (zI M (zQ M l0 49) (((2 : Int32) * l1) + (1 : Int32)).toNatClampNeg) l3 M hc (fun r M1 h => h)) ?_
  exact s161_257 n k57 q57 h57 l0 l1 l2 l3 l4 (zQ M l0 49) (((2 : Int32) * l1) + (1 : Int32)) (b125_0 n (zI M (zQ M l0 49) (((2 : Int32) * l1) + (1 : Int32)).toNatClampNeg) l3 M).1 (b125_0 n (zI M (zQ M l0 49) (((2 : Int32) * l1) + (1 : Int32)).toNatClampNeg) l3 M).2 hp hQ
def b161_233 (n : Nat) (k57 : Nat → Int32 → Int32 → Int32 → Int32 → zM → zM) (l0 : Nat) (l1 : Int32) (l2 : Int32) (l3 : Int32) (l4 : Int32) (s0 : Nat) (s1 : Int32) (s2 : Int32) (M : zM) : zM := b161_234 n k57 l0 l1 l2 l3 l4 (zWI M s0 s1.toNatClampNeg s2)
def p161_233 (n : Nat) (q57 : Nat → Int32 → Int32 → Int32 → Int32 → zM → Prop) (l0 : Nat) (l1 : Int32) (l2 : Int32) (l3 : Int32) (l4 : Int32) (s0 : Nat) (s1 : Int32) (s2 : Int32) (M : zM) : Prop := (zOkT 1 s0 s1 M) ∧ (p161_234 n q57 l0 l1 l2 l3 l4 (zWI M s0 s1.toNatClampNeg s2))
theorem s161_233 (n : Nat) (k57 : Nat → Int32 → Int32 → Int32 → Int32 → zM → zM) (q57 : Nat → Int32 → Int32 → Int32 → Int32 → zM → Prop) (h57 : ∀ (l0 : Nat) (l1 : Int32) (l2 : Int32) (l3 : Int32) (l4 : Int32) (M : zM), q57 l0 l1 l2 l3 l4 M → ∀ {Q : Option Value → zM → Prop}, (∀ r M1, zRV (k57 l0 l1 l2 l3 l4 M) r M1 → Q r M1) → zWP 161 57 [some (.ref l0), some (.int l1), some (.int l2), some (.int l3), some (.int l4)] [] M Q) (l0 : Nat) (l1 : Int32) (l2 : Int32) (l3 : Int32) (l4 : Int32) (s0 : Nat) (s1 : Int32) (s2 : Int32) (M : zM) (hp : p161_233 n q57 l0 l1 l2 l3 l4 s0 s1 s2 M) {Q : Option Value → zM → Prop} (hQ : ∀ r M1, zRV (b161_233 n k57 l0 l1 l2 l3 l4 s0 s1 s2 M) r M1 → Q r M1) : zWP 161 233 [some (.ref l0), some (.int l1), some (.int l2), some (.int l3), some (.int l4)] [.int s2, .int s1, .ref s0] M Q := by
  unfold b161_233 at hQ
  unfold p161_233 at hp
  obtain ⟨hc, hp⟩ := hp
  refine wq_iast rfl hc ?_
  exact s161_234 n k57 q57 h57 l0 l1 l2 l3 l4 (zWI M s0 s1.toNatClampNeg s2) hp hQ
def b161_214 (n : Nat) (k57 : Nat → Int32 → Int32 → Int32 → Int32 → zM → zM) (l0 : Nat) (l1 : Int32) (l2 : Int32) (l3 : Int32) (l4 : Int32) (M : zM) : zM := b161_233 n k57 l0 l1 l2 l3 l4 (zQ M l0 49) ((2 : Int32) * l1) (b125_0 n (zI M (zQ M l0 49) ((2 : Int32) * l1).toNatClampNeg) l2 M).1 (b125_0 n (zI M (zQ M l0 49) ((2 : Int32) * l1).toNatClampNeg) l2 M).2
def p161_214 (n : Nat) (q57 : Nat → Int32 → Int32 → Int32 → Int32 → zM → Prop) (l0 : Nat) (l1 : Int32) (l2 : Int32) (l3 : Int32) (l4 : Int32) (M : zM) : Prop := (zHasQ 10 114 l0 M 49) ∧ ((zHasQ 10 114 l0 M 49) ∧ ((zOkI (zQ M l0 49) ((2 : Int32) * l1) M) ∧ ((p125_0 n (zI M (zQ M l0 49) ((2 : Int32) * l1).toNatClampNeg) l2 M) ∧ (p161_233 n q57 l0 l1 l2 l3 l4 (zQ M l0 49) ((2 : Int32) * l1) (b125_0 n (zI M (zQ M l0 49) ((2 : Int32) * l1).toNatClampNeg) l2 M).1 (b125_0 n (zI M (zQ M l0 49) ((2 : Int32) * l1).toNatClampNeg) l2 M).2))))
theorem s161_214 (n : Nat) (k57 : Nat → Int32 → Int32 → Int32 → Int32 → zM → zM) (q57 : Nat → Int32 → Int32 → Int32 → Int32 → zM → Prop) (h57 : ∀ (l0 : Nat) (l1 : Int32) (l2 : Int32) (l3 : Int32) (l4 : Int32) (M : zM), q57 l0 l1 l2 l3 l4 M → ∀ {Q : Option Value → zM → Prop}, (∀ r M1, zRV (k57 l0 l1 l2 l3 l4 M) r M1 → Q r M1) → zWP 161 57 [some (.ref l0), some (.int l1), some (.int l2), some (.int l3), some (.int l4)] [] M Q) (l0 : Nat) (l1 : Int32) (l2 : Int32) (l3 : Int32) (l4 : Int32) (M : zM) (hp : p161_214 n q57 l0 l1 l2 l3 l4 M) {Q : Option Value → zM → Prop} (hQ : ∀ r M1, zRV (b161_214 n k57 l0 l1 l2 l3 l4 M) r M1 → Q r M1) : zWP 161 214 [some (.ref l0), some (.int l1), some (.int l2), some (.int l3), some (.int l4)] [] M Q := by
  unfold b161_214 at hQ
  unfold p161_214 at hp
  refine wp_go 1 (pc' := 215) (L' := [some (.ref l0), some (.int l1), some (.int l2), some (.int l3), some (.int l4)]) (st' := [.ref l0]) (M' := M) rfl ?_
  obtain ⟨hc, hp⟩ := hp
  refine wq_getQ (j := 49) rfl hc ?_
  refine wp_go 4 (pc' := 222) (L' := [some (.ref l0), some (.int l1), some (.int l2), some (.int l3), some (.int l4)]) (st' := [.ref l0, .int ((2 : Int32) * l1), .ref (zQ M l0 49)]) (M' := M) rfl ?_
  obtain ⟨hc, hp⟩ := hp
  refine wq_getQ (j := 49) rfl hc ?_
  refine wp_go 3 (pc' := 228) (L' := [some (.ref l0), some (.int l1), some (.int l2), some (.int l3), some (.int l4)]) (st' := [.int ((2 : Int32) * l1), .ref (zQ M l0 49), .int ((2 : Int32) * l1), .ref (zQ M l0 49)]) (M' := M) rfl ?_
  obtain ⟨hc, hp⟩ := hp
  refine wq_iald rfl hc ?_
  refine wp_go 1 (pc' := 230) (L' := [some (.ref l0), some (.int l1), some (.int l2), some (.int l3), some (.int l4)]) (st' := [.int l2, .int (zI M (zQ M l0 49) ((2 : Int32) * l1).toNatClampNeg), .int ((2 : Int32) * l1), .ref (zQ M l0 49)]) (M' := M) rfl ?_
  obtain ⟨hc, hp⟩ := hp
  refine wp_calli (v := (b125_0 n (zI M (zQ M l0 49) ((2 : Int32) * l1).toNatClampNeg) l2 M).1) (M1 := (b125_0 n (zI M (zQ M l0 49) ((2 : Int32) * l1).toNatClampNeg) l2 M).2) rfl rfl rfl rfl (s125_0 n (zI M (zQ M l0 49) ((2 : Int32) * l1).toNatClampNeg) l2 M hc (fun r M1 h => h)) ?_
  exact s161_233 n k57 q57 h57 l0 l1 l2 l3 l4 (zQ M l0 49) ((2 : Int32) * l1) (b125_0 n (zI M (zQ M l0 49) ((2 : Int32) * l1).toNatClampNeg) l2 M).1 (b125_0 n (zI M (zQ M l0 49) ((2 : Int32) * l1).toNatClampNeg) l2 M).2 hp hQ
def b161_213 (n : Nat) (k57 : Nat → Int32 → Int32 → Int32 → Int32 → zM → zM) (l0 : Nat) (l1 : Int32) (l2 : Int32) (l3 : Int32) (l4 : Int32) (s0 : Nat) (s1 : Int32) (s2 : Int32) (M : zM) : zM := b161_214 n k57 l0 l1 l2 l3 l4 (zWI M s0 s1.toNatClampNeg s2)
def p161_213 (n : Nat) (q57 : Nat → Int32 → Int32 → Int32 → Int32 → zM → Prop) (l0 : Nat) (l1 : Int32) (l2 : Int32) (l3 : Int32) (l4 : Int32) (s0 : Nat) (s1 : Int32) (s2 : Int32) (M : zM) : Prop := (zOkT 1 s0 s1 M) ∧ (p161_214 n q57 l0 l1 l2 l3 l4 (zWI M s0 s1.toNatClampNeg s2))
theorem s161_213 (n : Nat) (k57 : Nat → Int32 → Int32 → Int32 → Int32 → zM → zM) (q57 : Nat → Int32 → Int32 → Int32 → Int32 → zM → Prop) (h57 : ∀ (l0 : Nat) (l1 : Int32) (l2 : Int32) (l3 : Int32) (l4 : Int32) (M : zM), q57 l0 l1 l2 l3 l4 M → ∀ {Q : Option Value → zM → Prop}, (∀ r M1, zRV (k57 l0 l1 l2 l3 l4 M) r M1 → Q r M1) → zWP 161 57 [some (.ref l0), some (.int l1), some (.int l2), some (.int l3), some (.int l4)] [] M Q) (l0 : Nat) (l1 : Int32) (l2 : Int32) (l3 : Int32) (l4 : Int32) (s0 : Nat) (s1 : Int32) (s2 : Int32) (M : zM) (hp : p161_213 n q57 l0 l1 l2 l3 l4 s0 s1 s2 M) {Q : Option Value → zM → Prop} (hQ : ∀ r M1, zRV (b161_213 n k57 l0 l1 l2 l3 l4 s0 s1 s2 M) r M1 → Q r M1) : zWP 161 213 [some (.ref l0), some (.int l1), some (.int l2), some (.int l3), some (.int l4)] [.int s2, .int s1, .ref s0] M Q := by
  unfold b161_213 at hQ
  unfold p161_213 at hp
  obtain ⟨hc, hp⟩ := hp
  refine wq_iast rfl hc ?_
  exact s161_214 n k57 q57 h57 l0 l1 l2 l3 l4 (zWI M s0 s1.toNatClampNeg s2) hp hQ
def b161_176 (n : Nat) (k57 : Nat → Int32 → Int32 → Int32 → Int32 → zM → zM) (l0 : Nat) (l1 : Int32) (l2 : Int32) (l3 : Int32) (l4 : Int32) (M : zM) : zM := (if (zI M (zQ M l0 48) (((2 : Int32) * l1) + (1 : Int32)).toNatClampNeg) ≤ l3 then b161_213 n k57 l0 l1 l2 l3 l4 (zQ M l0 48) (((2 : Int32) * l1) + (1 : Int32)) (zI M (zQ M l0 48) (((2 : Int32) * l1) + (1 : Int32)).toNatClampNeg) M else b161_213 n k57 l0 l1 l2 l3 l4 (zQ M l0 48) (((2 : Int32) * l1) + (1 : Int32)) l3 M)
def p161_176 (n : Nat) (q57 : Nat → Int32 → Int32 → Int32 → Int32 → zM → Prop) (l0 : Nat) (l1 : Int32) (l2 : Int32) (l3 : Int32) (l4 : Int32) (M : zM) : Prop := (zHasQ 10 111 l0 M 48) ∧ ((zHasQ 10 111 l0 M 48) ∧ ((zOkI (zQ M l0 48) (((2 : Int32) * l1) + (1 : Int32)) M) ∧ ((((zI M (zQ M l0 48) (((2 : Int32) * l1) + (1 : Int32)).toNatClampNeg) ≤ l3 → (zHasQ 10 111 l0 M 48) ∧ ((zOkI (zQ M l0 48) (((2 : Int32) * l1) + (1 : Int32)) M) ∧ (p161_213 n q57 l0 l1 l2 l3 l4 (zQ M l0 48) (((2 : Int32) * l1) + (1 : Int32)) (zI M (zQ M l0 48) (((2 : Int32) * l1) + (1 : Int32)).toNatClampNeg) M))) ∧ (¬ (zI M (zQ M l0 48) (((2 : Int32) * l1) + (1 : Int32)).toNatClampNeg) ≤ l3 → p161_213 n q57 l0 l1 l2 l3 l4 (zQ M l0 48) (((2 : Int32) * l1) + (1 : Int32)) l3 M)))))
theorem s161_176 (n : Nat) (k57 : Nat → Int32 → Int32 → Int32 → Int32 → zM → zM) (q57 : Nat → Int32 → Int32 → Int32 → Int32 → zM → Prop) (h57 : ∀ (l0 : Nat) (l1 : Int32) (l2 : Int32) (l3 : Int32) (l4 : Int32) (M : zM), q57 l0 l1 l2 l3 l4 M → ∀ {Q : Option Value → zM → Prop}, (∀ r M1, zRV (k57 l0 l1 l2 l3 l4 M) r M1 → Q r M1) → zWP 161 57 [some (.ref l0), some (.int l1), some (.int l2), some (.int l3), some (.int l4)] [] M Q) (l0 : Nat) (l1 : Int32) (l2 : Int32) (l3 : Int32) (l4 : Int32) (M : zM) (hp : p161_176 n q57 l0 l1 l2 l3 l4 M) {Q : Option Value → zM → Prop} (hQ : ∀ r M1, zRV (b161_176 n k57 l0 l1 l2 l3 l4 M) r M1 → Q r M1) : zWP 161 176 [some (.ref l0), some (.int l1), some (.int l2), some (.int l3), some (.int l4)] [] M Q := by
  unfold b161_176 at hQ
  unfold p161_176 at hp
  refine wp_go 1 (pc' := 177) (L' := [some (.ref l0), some (.int l1), some (.int l2), some (.int l3), some (.int l4)]) (st' := [.ref l0]) (M' := M) rfl ?_
  obtain ⟨hc, hp⟩ := hp
  refine wq_getQ (j := 48) rfl hc ?_
  refine wp_go 5 (pc' := 185) (L' := [some (.ref l0), some (.int l1), some (.int l2), some (.int l3), some (.int l4)]) (st' := [.int (((2 : Int32) * l1) + (1 : Int32)), .ref (zQ M l0 48)]) (M' := M) rfl ?_
  refine wp_go 2 (pc' := 187) (L' := [some (.ref l0), some (.int l1), some (.int l2), some (.int l3), some (.int l4)]) (st' := [.ref l0, .int l3, .int (((2 : Int32) * l1) + (1 : Int32)), .ref (zQ M l0 48)]) (M' := M) rfl ?_
  obtain ⟨hc, hp⟩ := hp
  refine wq_getQ (j := 48) rfl hc ?_
  refine wp_go 5 (pc' := 195) (L' := [some (.ref l0), some (.int l1), some (.int l2), some (.int l3), some (.int l4)]) (st' := [.int (((2 : Int32) * l1) + (1 : Int32)), .ref (zQ M l0 48), .int l3, .int (((2 : Int32) * l1) + (1 : Int32)), .ref (zQ M l0 48)]) (M' := M) rfl ?_
  obtain ⟨hc, hp⟩ := hp
  refine wq_iald rfl hc ?_
  refine wp_ic_ge (t := 203) rfl rfl (fun hc => ?_) (fun hc => ?_)
  · rw [if_pos hc] at hQ
    replace hp := hp.1 hc
    refine wp_go 1 (pc' := 204) (L' := [some (.ref l0), some (.int l1), some (.int l2), some (.int l3), some (.int l4)]) (st' := [.ref l0, .int (((2 : Int32) * l1) + (1 : Int32)), .ref (zQ M l0 48)]) (M' := M) rfl ?_
    obtain ⟨hc, hp⟩ := hp
    refine wq_getQ (j := 48) rfl hc ?_
    refine wp_go 5 (pc' := 212) (L' := [some (.ref l0), some (.int l1), some (.int l2), some (.int l3), some (.int l4)]) (st' := [.int (((2 : Int32) * l1) + (1 : Int32)), .ref (zQ M l0 48), .int (((2 : Int32) * l1) + (1 : Int32)), .ref (zQ M l0 48)]) (M' := M) rfl ?_
    obtain ⟨hc, hp⟩ := hp
    refine wq_iald rfl hc ?_
    exact s161_213 n k57 q57 h57 l0 l1 l2 l3 l4 (zQ M l0 48) (((2 : Int32) * l1) + (1 : Int32)) (zI M (zQ M l0 48) (((2 : Int32) * l1) + (1 : Int32)).toNatClampNeg) M hp hQ
  · rw [if_neg hc] at hQ
    replace hp := hp.2 hc
    refine wp_go 2 (pc' := 213) (L' := [some (.ref l0), some (.int l1), some (.int l2), some (.int l3), some (.int l4)]) (st' := [.int l3, .int (((2 : Int32) * l1) + (1 : Int32)), .ref (zQ M l0 48)]) (M' := M) rfl ?_
    exact s161_213 n k57 q57 h57 l0 l1 l2 l3 l4 (zQ M l0 48) (((2 : Int32) * l1) + (1 : Int32)) l3 M hp hQ
def b161_175 (n : Nat) (k57 : Nat → Int32 → Int32 → Int32 → Int32 → zM → zM) (l0 : Nat) (l1 : Int32) (l2 : Int32) (l3 : Int32) (l4 : Int32) (s0 : Nat) (s1 : Int32) (s2 : Int32) (M : zM) : zM := b161_176 n k57 l0 l1 l2 l3 l4 (zWI M s0 s1.toNatClampNeg s2)
def p161_175 (n : Nat) (q57 : Nat → Int32 → Int32 → Int32 → Int32 → zM → Prop) (l0 : Nat) (l1 : Int32) (l2 : Int32) (l3 : Int32) (l4 : Int32) (s0 : Nat) (s1 : Int32) (s2 : Int32) (M : zM) : Prop := (zOkT 1 s0 s1 M) ∧ (p161_176 n q57 l0 l1 l2 l3 l4 (zWI M s0 s1.toNatClampNeg s2))
theorem s161_175 (n : Nat) (k57 : Nat → Int32 → Int32 → Int32 → Int32 → zM → zM) (q57 : Nat → Int32 → Int32 → Int32 → Int32 → zM → Prop) (h57 : ∀ (l0 : Nat) (l1 : Int32) (l2 : Int32) (l3 : Int32) (l4 : Int32) (M : zM), q57 l0 l1 l2 l3 l4 M → ∀ {Q : Option Value → zM → Prop}, (∀ r M1, zRV (k57 l0 l1 l2 l3 l4 M) r M1 → Q r M1) → zWP 161 57 [some (.ref l0), some (.int l1), some (.int l2), some (.int l3), some (.int l4)] [] M Q) (l0 : Nat) (l1 : Int32) (l2 : Int32) (l3 : Int32) (l4 : Int32) (s0 : Nat) (s1 : Int32) (s2 : Int32) (M : zM) (hp : p161_175 n q57 l0 l1 l2 l3 l4 s0 s1 s2 M) {Q : Option Value → zM → Prop} (hQ : ∀ r M1, zRV (b161_175 n k57 l0 l1 l2 l3 l4 s0 s1 s2 M) r M1 → Q r M1) : zWP 161 175 [some (.ref l0), some (.int l1), some (.int l2), some (.int l3), some (.int l4)] [.int s2, .int s1, .ref s0] M Q := by
  unfold b161_175 at hQ
  unfold p161_175 at hp
  obtain ⟨hc, hp⟩ := hp
  refine wq_iast rfl hc ?_
  exact s161_176 n k57 q57 h57 l0 l1 l2 l3 l4 (zWI M s0 s1.toNatClampNeg s2) hp hQ
def b161_141 (n : Nat) (k57 : Nat → Int32 → Int32 → Int32 → Int32 → zM → zM) (l0 : Nat) (l1 : Int32) (l2 : Int32) (l4 : Int32) (s0 : Int32) (s1 : Int32) (s2 : Int32) (M : zM) : zM := (if (zI M (zQ M l0 48) ((2 : Int32) * l1).toNatClampNeg) ≤ l2 then b161_175 n k57 l0 l1 l2 (s0 + (s1 * s2)) l4 (zQ M l0 48) ((2 : Int32) * l1) (zI M (zQ M l0 48) ((2 : Int32) * l1).toNatClampNeg) M else b161_175 n k57 l0 l1 l2 (s0 + (s1 * s2)) l4 (zQ M l0 48) ((2 : Int32) * l1) l2 M)
def p161_141 (n : Nat) (q57 : Nat → Int32 → Int32 → Int32 → Int32 → zM → Prop) (l0 : Nat) (l1 : Int32) (l2 : Int32) (l4 : Int32) (s0 : Int32) (s1 : Int32) (s2 : Int32) (M : zM) : Prop := (zHasQ 10 111 l0 M 48) ∧ ((zHasQ 10 111 l0 M 48) ∧ ((zOkI (zQ M l0 48) ((2 : Int32) * l1) M) ∧ ((((zI M (zQ M l0 48) ((2 : Int32) * l1).toNatClampNeg) ≤ l2 → (zHasQ 10 111 l0 M 48) ∧ ((zOkI (zQ M l0 48) ((2 : Int32) * l1) M) ∧ (p161_175 n q57 l0 l1 l2 (s0 + (s1 * s2)) l4 (zQ M l0 48) ((2 : Int32) * l1) (zI M (zQ M l0 48) ((2 : Int32) * l1).toNatClampNeg) M))) ∧ (¬ (zI M (zQ M l0 48) ((2 : Int32) * l1).toNatClampNeg) ≤ l2 → p161_175 n q57 l0 l1 l2 (s0 + (s1 * s2)) l4 (zQ M l0 48) ((2 : Int32) * l1) l2 M)))))
theorem s161_141 (n : Nat) (k57 : Nat → Int32 → Int32 → Int32 → Int32 → zM → zM) (q57 : Nat → Int32 → Int32 → Int32 → Int32 → zM → Prop) (h57 : ∀ (l0 : Nat) (l1 : Int32) (l2 : Int32) (l3 : Int32) (l4 : Int32) (M : zM), q57 l0 l1 l2 l3 l4 M → ∀ {Q : Option Value → zM → Prop}, (∀ r M1, zRV (k57 l0 l1 l2 l3 l4 M) r M1 → Q r M1) → zWP 161 57 [some (.ref l0), some (.int l1), some (.int l2), some (.int l3), some (.int l4)] [] M Q) (l0 : Nat) (l1 : Int32) (l2 : Int32) (l4 : Int32) (s0 : Int32) (s1 : Int32) (s2 : Int32) (M : zM) (hp : p161_141 n q57 l0 l1 l2 l4 s0 s1 s2 M) {Q : Option Value → zM → Prop} (hQ : ∀ r M1, zRV (b161_141 n k57 l0 l1 l2 l4 s0 s1 s2 M) r M1 → Q r M1) : zWP 161 141 [some (.ref l0), some (.int l1), some (.int l2), none, some (.int l4)] [.int s2, .int s1, .int s0] M Q := by
  unfold b161_141 at hQ
  unfold p161_141 at hp
  refine wp_go 4 (pc' := 145) (L' := [some (.ref l0), some (.int l1), some (.int l2), some (.int (s0 + (s1 * s2))), some (.int l4)]) (st' := [.ref l0]) (M' := M) rfl ?_
  obtain ⟨hc, hp⟩ := hp
  refine wq_getQ (j := 48) rfl hc ?_
  refine wp_go 5 (pc' := 153) (L' := [some (.ref l0), some (.int l1), some (.int l2), some (.int (s0 + (s1 * s2))), some (.int l4)]) (st' := [.ref l0, .int l2, .int ((2 : Int32) * l1), .ref (zQ M l0 48)]) (M' := M) rfl ?_
  obtain ⟨hc, hp⟩ := hp
  refine wq_getQ (j := 48) rfl hc ?_
  refine wp_go 3 (pc' := 159) (L' := [some (.ref l0), some (.int l1), some (.int l2), some (.int (s0 + (s1 * s2))), some (.int l4)]) (st' := [.int ((2 : Int32) * l1), .ref (zQ M l0 48), .int l2, .int ((2 : Int32) * l1), .ref (zQ M l0 48)]) (M' := M) rfl ?_
  obtain ⟨hc, hp⟩ := hp
  refine wq_iald rfl hc ?_
  refine wp_ic_ge (t := 167) rfl rfl (fun hc => ?_) (fun hc => ?_)
  · rw [if_pos hc] at hQ
    replace hp := hp.1 hc
    refine wp_go 1 (pc' := 168) (L' := [some (.ref l0), some (.int l1), some (.int l2), some (.int (s0 + (s1 * s2))), some (.int l4)]) (st' := [.ref l0, .int ((2 : Int32) * l1), .ref (zQ M l0 48)]) (M' := M) rfl ?_
    obtain ⟨hc, hp⟩ := hp
    refine wq_getQ (j := 48) rfl hc ?_
    refine wp_go 3 (pc' := 174) (L' := [some (.ref l0), some (.int l1), some (.int l2), some (.int (s0 + (s1 * s2))), some (.int l4)]) (st' := [.int ((2 : Int32) * l1), .ref (zQ M l0 48), .int ((2 : Int32) * l1), .ref (zQ M l0 48)]) (M' := M) rfl ?_
    obtain ⟨hc, hp⟩ := hp
    refine wq_iald rfl hc ?_
    exact s161_175 n k57 q57 h57 l0 l1 l2 (s0 + (s1 * s2)) l4 (zQ M l0 48) ((2 : Int32) * l1) (zI M (zQ M l0 48) ((2 : Int32) * l1).toNatClampNeg) M hp hQ
  · rw [if_neg hc] at hQ
    replace hp := hp.2 hc
    refine wp_go 2 (pc' := 175) (L' := [some (.ref l0), some (.int l1), some (.int l2), some (.int (s0 + (s1 * s2))), some (.int l4)]) (st' := [.int l2, .int ((2 : Int32) * l1), .ref (zQ M l0 48)]) (M' := M) rfl ?_
    exact s161_175 n k57 q57 h57 l0 l1 l2 (s0 + (s1 * s2)) l4 (zQ M l0 48) ((2 : Int32) * l1) l2 M hp hQ
def b161_103 (n : Nat) (k57 : Nat → Int32 → Int32 → Int32 → Int32 → zM → zM) (l0 : Nat) (l1 : Int32) (l3 : Int32) (l4 : Int32) (s0 : Int32) (s1 : Int32) (s2 : Int32) (M : zM) : zM := b161_141 n k57 l0 l1 (s0 + (s1 * s2)) l4 l3 (zI M (zQ M l0 7) (((20 : Int32) * l1) + l4).toNatClampNeg) (b121_0 n ((zI M (zQ M l0 6) (((20 : Int32) * l1) + l4).toNatClampNeg) + (zI M (zQ M l0 42) l1.toNatClampNeg)) M).1 (b121_0 n ((zI M (zQ M l0 6) (((20 : Int32) * l1) + l4).toNatClampNeg) + (zI M (zQ M l0 42) l1.toNatClampNeg)) M).2
def p161_103 (n : Nat) (q57 : Nat → Int32 → Int32 → Int32 → Int32 → zM → Prop) (l0 : Nat) (l1 : Int32) (l3 : Int32) (l4 : Int32) (s0 : Int32) (s1 : Int32) (s2 : Int32) (M : zM) : Prop := (zHasQ 10 29 l0 M 7) ∧ ((zOkI (zQ M l0 7) (((20 : Int32) * l1) + l4) M) ∧ ((zHasQ 10 26 l0 M 6) ∧ ((zOkI (zQ M l0 6) (((20 : Int32) * l1) + l4) M) ∧ ((zHasQ 10 102 l0 M 42) ∧ ((zOkI (zQ M l0 42) l1 M) ∧ ((p121_0 n ((zI M (zQ M l0 6) (((20 : Int32) * l1) + l4).toNatClampNeg) + (zI M (zQ M l0 42) l1.toNatClampNeg)) M) ∧ (p161_141 n q57 l0 l1 (s0 + (s1 * s2)) l4 l3 (zI M (zQ M l0 7) (((20 : Int32) * l1) + l4).toNatClampNeg) (b121_0 n ((zI M (zQ M l0 6) (((20 : Int32) * l1) + l4).toNatClampNeg) + (zI M (zQ M l0 42) l1.toNatClampNeg)) M).1 (b121_0 n ((zI M (zQ M l0 6) (((20 : Int32) * l1) + l4).toNatClampNeg) + (zI M (zQ M l0 42) l1.toNatClampNeg)) M).2)))))))
theorem s161_103 (n : Nat) (k57 : Nat → Int32 → Int32 → Int32 → Int32 → zM → zM) (q57 : Nat → Int32 → Int32 → Int32 → Int32 → zM → Prop) (h57 : ∀ (l0 : Nat) (l1 : Int32) (l2 : Int32) (l3 : Int32) (l4 : Int32) (M : zM), q57 l0 l1 l2 l3 l4 M → ∀ {Q : Option Value → zM → Prop}, (∀ r M1, zRV (k57 l0 l1 l2 l3 l4 M) r M1 → Q r M1) → zWP 161 57 [some (.ref l0), some (.int l1), some (.int l2), some (.int l3), some (.int l4)] [] M Q) (l0 : Nat) (l1 : Int32) (l3 : Int32) (l4 : Int32) (s0 : Int32) (s1 : Int32) (s2 : Int32) (M : zM) (hp : p161_103 n q57 l0 l1 l3 l4 s0 s1 s2 M) {Q : Option Value → zM → Prop} (hQ : ∀ r M1, zRV (b161_103 n k57 l0 l1 l3 l4 s0 s1 s2 M) r M1 → Q r M1) : zWP 161 103 [some (.ref l0), some (.int l1), none, some (.int l3), some (.int l4)] [.int s2, .int s1, .int s0] M Q := by
  unfold b161_103 at hQ
  unfold p161_103 at hp
  refine wp_go 5 (pc' := 108) (L' := [some (.ref l0), some (.int l1), some (.int (s0 + (s1 * s2))), some (.int l3), some (.int l4)]) (st' := [.ref l0, .int l3]) (M' := M) rfl ?_
  obtain ⟨hc, hp⟩ := hp
  refine wq_getQ (j := 7) rfl hc ?_
  refine wp_go 5 (pc' := 118) (L' := [some (.ref l0), some (.int l1), some (.int (s0 + (s1 * s2))), some (.int l3), some (.int l4)]) (st' := [.int (((20 : Int32) * l1) + l4), .ref (zQ M l0 7), .int l3]) (M' := M) rfl ?_
  obtain ⟨hc, hp⟩ := hp
  refine wq_iald rfl hc ?_
  refine wp_go 1 (pc' := 120) (L' := [some (.ref l0), some (.int l1), some (.int (s0 + (s1 * s2))), some (.int l3), some (.int l4)]) (st' := [.ref l0, .int (zI M (zQ M l0 7) (((20 : Int32) * l1) + l4).toNatClampNeg), .int l3]) (M' := M) rfl ?_
  obtain ⟨hc, hp⟩ := hp
  refine wq_getQ (j := 6) rfl hc ?_
  refine wp_go 5 (pc' := 130) (L' := [some (.ref l0), some (.int l1), some (.int (s0 + (s1 * s2))), some (.int l3), some (.int l4)]) (st' := [.int (((20 : Int32) * l1) + l4), .ref (zQ M l0 6), .int (zI M (zQ M l0 7) (((20 : Int32) * l1) + l4).toNatClampNeg), .int l3]) (M' := M) rfl ?_
  obtain ⟨hc, hp⟩ := hp
  refine wq_iald rfl hc ?_
  refine wp_go 1 (pc' := 132) (L' := [some (.ref l0), some (.int l1), some (.int (s0 + (s1 * s2))), some (.int l3), some (.int l4)]) (st' := [.ref l0, .int (zI M (zQ M l0 6) (((20 : Int32) * l1) + l4).toNatClampNeg), .int (zI M (zQ M l0 7) (((20 : Int32) * l1) + l4).toNatClampNeg), .int l3]) (M' := M) rfl ?_
  obtain ⟨hc, hp⟩ := hp
  refine wq_getQ (j := 42) rfl hc ?_
  refine wp_go 1 (pc' := 136) (L' := [some (.ref l0), some (.int l1), some (.int (s0 + (s1 * s2))), some (.int l3), some (.int l4)]) (st' := [.int l1, .ref (zQ M l0 42), .int (zI M (zQ M l0 6) (((20 : Int32) * l1) + l4).toNatClampNeg), .int (zI M (zQ M l0 7) (((20 : Int32) * l1) + l4).toNatClampNeg), .int l3]) (M' := M) rfl ?_
  obtain ⟨hc, hp⟩ := hp
  refine wq_iald rfl hc ?_
  refine wp_go 1 (pc' := 138) (L' := [some (.ref l0), some (.int l1), some (.int (s0 + (s1 * s2))), some (.int l3), some (.int l4)]) (st' := [.int ((zI M (zQ M l0 6) (((20 : Int32) * l1) + l4).toNatClampNeg) + (zI M (zQ M l0 42) l1.toNatClampNeg)), .int (zI M (zQ M l0 7) (((20 : Int32) * l1) + l4).toNatClampNeg), .int l3]) (M' := M) rfl ?_
  obtain ⟨hc, hp⟩ := hp
  refine wp_calli (v := (b121_0 n ((zI M (zQ M l0 6) (((20 : Int32) * l1) + l4).toNatClampNeg) + (zI M (zQ M l0 42) l1.toNatClampNeg)) M).1) (M1 := (b121_0 n ((zI M (zQ M l0 6) (((20 : Int32) * l1) + l4).toNatClampNeg) + (zI M (zQ M l0 42) l1.toNatClampNeg)) M).2) rfl rfl rfl rfl (s121_0 n ((zI M (zQ M l0 6) (((20 : Int32) * l1) + l4).toNatClampNeg) + (zI M (zQ M l0 42) l1.toNatClampNeg)) M hc (fun r M1 h => h)) ?_
  refine wp_le [some (.ref l0), some (.int l1), some (.int (s0 + (s1 * s2))), none, some (.int l4)] (zLe_of (by simp [zLeB])) ?_
  exact s161_141 n k57 q57 h57 l0 l1 (s0 + (s1 * s2)) l4 l3 (zI M (zQ M l0 7) (((20 : Int32) * l1) + l4).toNatClampNeg) (b121_0 n ((zI M (zQ M l0 6) (((20 : Int32) * l1) + l4).toNatClampNeg) + (zI M (zQ M l0 42) l1.toNatClampNeg)) M).1 (b121_0 n ((zI M (zQ M l0 6) (((20 : Int32) * l1) + l4).toNatClampNeg) + (zI M (zQ M l0 42) l1.toNatClampNeg)) M).2 hp hQ
def c161_57 (n : Nat) (k57 : Nat → Int32 → Int32 → Int32 → Int32 → zM → zM) (l0 : Nat) (l1 : Int32) (l2 : Int32) (l3 : Int32) (l4 : Int32) (M : zM) : zM := (if (zI M (zQ M l0 2) l1.toNatClampNeg) ≤ l4 then M else b161_103 n k57 l0 l1 l3 l4 l2 (zI M (zQ M l0 7) (((20 : Int32) * l1) + l4).toNatClampNeg) (b120_0 n ((zI M (zQ M l0 6) (((20 : Int32) * l1) + l4).toNatClampNeg) + (zI M (zQ M l0 42) l1.toNatClampNeg)) M).1 (b120_0 n ((zI M (zQ M l0 6) (((20 : Int32) * l1) + l4).toNatClampNeg) + (zI M (zQ M l0 42) l1.toNatClampNeg)) M).2)
def d161_57 (n : Nat) (q57 : Nat → Int32 → Int32 → Int32 → Int32 → zM → Prop) (l0 : Nat) (l1 : Int32) (l2 : Int32) (l3 : Int32) (l4 : Int32) (M : zM) : Prop := (zHasQ 10 13 l0 M 2) ∧ ((zOkI (zQ M l0 2) l1 M) ∧ ((((zI M (zQ M l0 2) l1.toNatClampNeg) ≤ l4 → True) ∧ (¬ (zI M (zQ M l0 2) l1.toNatClampNeg) ≤ l4 → (zHasQ 10 29 l0 M 7) ∧ ((zOkI (zQ M l0 7) (((20 : Int32) * l1) + l4) M) ∧ ((zHasQ 10 26 l0 M 6) ∧ ((zOkI (zQ M l0 6) (((20 : Int32) * l1) + l4) M) ∧ ((zHasQ 10 102 l0 M 42) ∧ ((zOkI (zQ M l0 42) l1 M) ∧ ((p120_0 n ((zI M (zQ M l0 6) (((20 : Int32) * l1) + l4).toNatClampNeg) + (zI M (zQ M l0 42) l1.toNatClampNeg)) M) ∧ (p161_103 n q57 l0 l1 l3 l4 l2 (zI M (zQ M l0 7) (((20 : Int32) * l1) + l4).toNatClampNeg) (b120_0 n ((zI M (zQ M l0 6) (((20 : Int32) * l1) + l4).toNatClampNeg) + (zI M (zQ M l0 42) l1.toNatClampNeg)) M).1 (b120_0 n ((zI M (zQ M l0 6) (((20 : Int32) * l1) + l4).toNatClampNeg) + (zI M (zQ M l0 42) l1.toNatClampNeg)) M).2)))))))))))
theorem t161_57 (n : Nat) (k57 : Nat → Int32 → Int32 → Int32 → Int32 → zM → zM) (q57 : Nat → Int32 → Int32 → Int32 → Int32 → zM → Prop) (h57 : ∀ (l0 : Nat) (l1 : Int32) (l2 : Int32) (l3 : Int32) (l4 : Int32) (M : zM), q57 l0 l1 l2 l3 l4 M → ∀ {Q : Option Value → zM → Prop}, (∀ r M1, zRV (k57 l0 l1 l2 l3 l4 M) r M1 → Q r M1) → zWP 161 57 [some (.ref l0), some (.int l1), some (.int l2), some (.int l3), some (.int l4)] [] M Q) (l0 : Nat) (l1 : Int32) (l2 : Int32) (l3 : Int32) (l4 : Int32) (M : zM) (hp : d161_57 n q57 l0 l1 l2 l3 l4 M) {Q : Option Value → zM → Prop} (hQ : ∀ r M1, zRV (c161_57 n k57 l0 l1 l2 l3 l4 M) r M1 → Q r M1) : zWP 161 57 [some (.ref l0), some (.int l1), some (.int l2), some (.int l3), some (.int l4)] [] M Q := by
  unfold c161_57 at hQ
  unfold d161_57 at hp
  refine wp_go 2 (pc' := 60) (L' := [some (.ref l0), some (.int l1), some (.int l2), some (.int l3), some (.int l4)]) (st' := [.ref l0, .int l4]) (M' := M) rfl ?_
  obtain ⟨hc, hp⟩ := hp
  refine wq_getQ (j := 2) rfl hc ?_
  refine wp_go 1 (pc' := 64) (L' := [some (.ref l0), some (.int l1), some (.int l2), some (.int l3), some (.int l4)]) (st' := [.int l1, .ref (zQ M l0 2), .int l4]) (M' := M) rfl ?_
  obtain ⟨hc, hp⟩ := hp
  refine wq_iald rfl hc ?_
  refine wp_ic_ge (t := 264) rfl rfl (fun hc => ?_) (fun hc => ?_)
  · rw [if_pos hc] at hQ
    replace hp := hp.1 hc
    exact wp_ret (r := none) rfl rfl (hQ _ _ ⟨rfl, rfl⟩)
  · rw [if_neg hc] at hQ
    replace hp := hp.2 hc
    refine wp_go 2 (pc' := 70) (L' := [some (.ref l0), some (.int l1), some (.int l2), some (.int l3), some (.int l4)]) (st' := [.ref l0, .int l2]) (M' := M) rfl ?_
    obtain ⟨hc, hp⟩ := hp
    refine wq_getQ (j := 7) rfl hc ?_
    refine wp_go 5 (pc' := 80) (L' := [some (.ref l0), some (.int l1), some (.int l2), some (.int l3), some (.int l4)]) (st' := [.int (((20 : Int32) * l1) + l4), .ref (zQ M l0 7), .int l2]) (M' := M) rfl ?_
    obtain ⟨hc, hp⟩ := hp
    refine wq_iald rfl hc ?_
    refine wp_go 1 (pc' := 82) (L' := [some (.ref l0), some (.int l1), some (.int l2), some (.int l3), some (.int l4)]) (st' := [.ref l0, .int (zI M (zQ M l0 7) (((20 : Int32) * l1) + l4).toNatClampNeg), .int l2]) (M' := M) rfl ?_
    obtain ⟨hc, hp⟩ := hp
    refine wq_getQ (j := 6) rfl hc ?_
    refine wp_go 5 (pc' := 92) (L' := [some (.ref l0), some (.int l1), some (.int l2), some (.int l3), some (.int l4)]) (st' := [.int (((20 : Int32) * l1) + l4), .ref (zQ M l0 6), .int (zI M (zQ M l0 7) (((20 : Int32) * l1) + l4).toNatClampNeg), .int l2]) (M' := M) rfl ?_
    obtain ⟨hc, hp⟩ := hp
    refine wq_iald rfl hc ?_
    refine wp_go 1 (pc' := 94) (L' := [some (.ref l0), some (.int l1), some (.int l2), some (.int l3), some (.int l4)]) (st' := [.ref l0, .int (zI M (zQ M l0 6) (((20 : Int32) * l1) + l4).toNatClampNeg), .int (zI M (zQ M l0 7) (((20 : Int32) * l1) + l4).toNatClampNeg), .int l2]) (M' := M) rfl ?_
    obtain ⟨hc, hp⟩ := hp
    refine wq_getQ (j := 42) rfl hc ?_
    refine wp_go 1 (pc' := 98) (L' := [some (.ref l0), some (.int l1), some (.int l2), some (.int l3), some (.int l4)]) (st' := [.int l1, .ref (zQ M l0 42), .int (zI M (zQ M l0 6) (((20 : Int32) * l1) + l4).toNatClampNeg), .int (zI M (zQ M l0 7) (((20 : Int32) * l1) + l4).toNatClampNeg), .int l2]) (M' := M) rfl ?_
    obtain ⟨hc, hp⟩ := hp
    refine wq_iald rfl hc ?_
    refine wp_go 1 (pc' := 100) (L' := [some (.ref l0), some (.int l1), some (.int l2), some (.int l3), some (.int l4)]) (st' := [.int ((zI M (zQ M l0 6) (((20 : Int32) * l1) + l4).toNatClampNeg) + (zI M (zQ M l0 42) l1.toNatClampNeg)), .int (zI M (zQ M l0 7) (((20 : Int32) * l1) + l4).toNatClampNeg), .int l2]) (M' := M) rfl ?_
    obtain ⟨hc, hp⟩ := hp
    refine wp_calli (v := (b120_0 n ((zI M (zQ M l0 6) (((20 : Int32) * l1) + l4).toNatClampNeg) + (zI M (zQ M l0 42) l1.toNatClampNeg)) M).1) (M1 := (b120_0 n ((zI M (zQ M l0 6) (((20 : Int32) * l1) + l4).toNatClampNeg) + (zI M (zQ M l0 42) l1.toNatClampNeg)) M).2) rfl rfl rfl rfl (s120_0 n ((zI M (zQ M l0 6) (((20 : Int32) * l1) + l4).toNatClampNeg) + (zI M (zQ M l0 42) l1.toNatClampNeg)) M hc (fun r M1 h => h)) ?_
    refine wp_le [some (.ref l0), some (.int l1), none, some (.int l3), some (.int l4)] (zLe_of (by simp [zLeB])) ?_
    exact s161_103 n k57 q57 h57 l0 l1 l3 l4 l2 (zI M (zQ M l0 7) (((20 : Int32) * l1) + l4).toNatClampNeg) (b120_0 n ((zI M (zQ M l0 6) (((20 : Int32) * l1) + l4).toNatClampNeg) + (zI M (zQ M l0 42) l1.toNatClampNeg)) M).1 (b120_0 n ((zI M (zQ M l0 6) (((20 : Int32) * l1) + l4).toNatClampNeg) + (zI M (zQ M l0 42) l1.toNatClampNeg)) M).2 hp hQ
def b161_57 (n : Nat)  : Nat → Nat → Int32 → Int32 → Int32 → Int32 → zM → zM
  | 0, _, _, _, _, _, M => M
  | k + 1, l0, l1, l2, l3, l4, M => c161_57 n  (b161_57 n  k) l0 l1 l2 l3 l4 M
def p161_57 (n : Nat)  : Nat → Nat → Int32 → Int32 → Int32 → Int32 → zM → Prop
  | 0, _, _, _, _, _, _ => False
  | k + 1, l0, l1, l2, l3, l4, M => d161_57 n  (p161_57 n  k) l0 l1 l2 l3 l4 M
theorem s161_57 (n : Nat)    : ∀ (k : Nat) (l0 : Nat) (l1 : Int32) (l2 : Int32) (l3 : Int32) (l4 : Int32) (M : zM), p161_57 n  k l0 l1 l2 l3 l4 M → ∀ {Q : Option Value → zM → Prop}, (∀ r M1, zRV (b161_57 n  k l0 l1 l2 l3 l4 M) r M1 → Q r M1) → zWP 161 57 [some (.ref l0), some (.int l1), some (.int l2), some (.int l3), some (.int l4)] [] M Q
  | 0, _, _, _, _, _, _, h, _, _ => h.elim
  | k + 1, l0, l1, l2, l3, l4, M, h, _, hQ => t161_57 n  (b161_57 n  k)  (p161_57 n  k)  (s161_57 n    k) l0 l1 l2 l3 l4 M h hQ
def b161_54 (n : Nat)  (l0 : Nat) (l1 : Int32) (l2 : Int32) (l3 : Int32) (M : zM) : zM := b161_57 n  n l0 l1 l2 l3 (0 : Int32) M
def p161_54 (n : Nat)  (l0 : Nat) (l1 : Int32) (l2 : Int32) (l3 : Int32) (M : zM) : Prop := p161_57 n  n l0 l1 l2 l3 (0 : Int32) M
theorem s161_54 (n : Nat)    (l0 : Nat) (l1 : Int32) (l2 : Int32) (l3 : Int32) (M : zM) (hp : p161_54 n  l0 l1 l2 l3 M) {Q : Option Value → zM → Prop} (hQ : ∀ r M1, zRV (b161_54 n  l0 l1 l2 l3 M) r M1 → Q r M1) : zWP 161 54 [some (.ref l0), some (.int l1), some (.int l2), some (.int l3), none] [] M Q := by
  unfold b161_54 at hQ
  unfold p161_54 at hp
  refine wp_go 2 (pc' := 57) (L' := [some (.ref l0), some (.int l1), some (.int l2), some (.int l3), some (.int (0 : Int32))]) (st' := []) (M' := M) rfl ?_
  exact s161_57 n    n l0 l1 l2 l3 (0 : Int32) M hp hQ
def b161_43 (n : Nat)  (l0 : Nat) (l1 : Int32) (l2 : Int32) (l3 : Int32) (M : zM) : zM := b161_54 n  l0 l1 l2 l3 (zWI M (zQ M l0 49) (((2 : Int32) * l1) + (1 : Int32)).toNatClampNeg l3)
def p161_43 (n : Nat)  (l0 : Nat) (l1 : Int32) (l2 : Int32) (l3 : Int32) (M : zM) : Prop := (zHasQ 10 114 l0 M 49) ∧ ((zOkT 1 (zQ M l0 49) (((2 : Int32) * l1) + (1 : Int32)) M) ∧ (p161_54 n  l0 l1 l2 l3 (zWI M (zQ M l0 49) (((2 : Int32) * l1) + (1 : Int32)).toNatClampNeg l3)))
theorem s161_43 (n : Nat)    (l0 : Nat) (l1 : Int32) (l2 : Int32) (l3 : Int32) (M : zM) (hp : p161_43 n  l0 l1 l2 l3 M) {Q : Option Value → zM → Prop} (hQ : ∀ r M1, zRV (b161_43 n  l0 l1 l2 l3 M) r M1 → Q r M1) : zWP 161 43 [some (.ref l0), some (.int l1), some (.int l2), some (.int l3), none] [] M Q := by
  unfold b161_43 at hQ
  unfold p161_43 at hp
  refine wp_go 1 (pc' := 44) (L' := [some (.ref l0), some (.int l1), some (.int l2), some (.int l3), none]) (st' := [.ref l0]) (M' := M) rfl ?_
  obtain ⟨hc, hp⟩ := hp
  refine wq_getQ (j := 49) rfl hc ?_
  refine wp_go 5 (pc' := 52) (L' := [some (.ref l0), some (.int l1), some (.int l2), some (.int l3), none]) (st' := [.int (((2 : Int32) * l1) + (1 : Int32)), .ref (zQ M l0 49)]) (M' := M) rfl ?_
  refine wp_go 1 (pc' := 53) (L' := [some (.ref l0), some (.int l1), some (.int l2), some (.int l3), none]) (st' := [.int l3, .int (((2 : Int32) * l1) + (1 : Int32)), .ref (zQ M l0 49)]) (M' := M) rfl ?_
  obtain ⟨hc, hp⟩ := hp
  refine wq_iast rfl hc ?_
  exact s161_54 n    l0 l1 l2 l3 (zWI M (zQ M l0 49) (((2 : Int32) * l1) + (1 : Int32)).toNatClampNeg l3) hp hQ
def b161_34 (n : Nat)  (l0 : Nat) (l1 : Int32) (l2 : Int32) (l3 : Int32) (M : zM) : zM := b161_43 n  l0 l1 l2 l3 (zWI M (zQ M l0 49) ((2 : Int32) * l1).toNatClampNeg l2)
def p161_34 (n : Nat)  (l0 : Nat) (l1 : Int32) (l2 : Int32) (l3 : Int32) (M : zM) : Prop := (zHasQ 10 114 l0 M 49) ∧ ((zOkT 1 (zQ M l0 49) ((2 : Int32) * l1) M) ∧ (p161_43 n  l0 l1 l2 l3 (zWI M (zQ M l0 49) ((2 : Int32) * l1).toNatClampNeg l2)))
theorem s161_34 (n : Nat)    (l0 : Nat) (l1 : Int32) (l2 : Int32) (l3 : Int32) (M : zM) (hp : p161_34 n  l0 l1 l2 l3 M) {Q : Option Value → zM → Prop} (hQ : ∀ r M1, zRV (b161_34 n  l0 l1 l2 l3 M) r M1 → Q r M1) : zWP 161 34 [some (.ref l0), some (.int l1), some (.int l2), some (.int l3), none] [] M Q := by
  unfold b161_34 at hQ
  unfold p161_34 at hp
  refine wp_go 1 (pc' := 35) (L' := [some (.ref l0), some (.int l1), some (.int l2), some (.int l3), none]) (st' := [.ref l0]) (M' := M) rfl ?_
  obtain ⟨hc, hp⟩ := hp
  refine wq_getQ (j := 49) rfl hc ?_
  refine wp_go 4 (pc' := 42) (L' := [some (.ref l0), some (.int l1), some (.int l2), some (.int l3), none]) (st' := [.int l2, .int ((2 : Int32) * l1), .ref (zQ M l0 49)]) (M' := M) rfl ?_
  obtain ⟨hc, hp⟩ := hp
  refine wq_iast rfl hc ?_
  exact s161_43 n    l0 l1 l2 l3 (zWI M (zQ M l0 49) ((2 : Int32) * l1).toNatClampNeg l2) hp hQ
def b161_23 (n : Nat)  (l0 : Nat) (l1 : Int32) (l2 : Int32) (l3 : Int32) (M : zM) : zM := b161_34 n  l0 l1 l2 l3 (zWI M (zQ M l0 48) (((2 : Int32) * l1) + (1 : Int32)).toNatClampNeg l3)
def p161_23 (n : Nat)  (l0 : Nat) (l1 : Int32) (l2 : Int32) (l3 : Int32) (M : zM) : Prop := (zHasQ 10 111 l0 M 48) ∧ ((zOkT 1 (zQ M l0 48) (((2 : Int32) * l1) + (1 : Int32)) M) ∧ (p161_34 n  l0 l1 l2 l3 (zWI M (zQ M l0 48) (((2 : Int32) * l1) + (1 : Int32)).toNatClampNeg l3)))
theorem s161_23 (n : Nat)    (l0 : Nat) (l1 : Int32) (l2 : Int32) (l3 : Int32) (M : zM) (hp : p161_23 n  l0 l1 l2 l3 M) {Q : Option Value → zM → Prop} (hQ : ∀ r M1, zRV (b161_23 n  l0 l1 l2 l3 M) r M1 → Q r M1) : zWP 161 23 [some (.ref l0), some (.int l1), some (.int l2), some (.int l3), none] [] M Q := by
  unfold b161_23 at hQ
  unfold p161_23 at hp
  refine wp_go 1 (pc' := 24) (L' := [some (.ref l0), some (.int l1), some (.int l2), some (.int l3), none]) (st' := [.ref l0]) (M' := M) rfl ?_
  obtain ⟨hc, hp⟩ := hp
  refine wq_getQ (j := 48) rfl hc ?_
  refine wp_go 5 (pc' := 32) (L' := [some (.ref l0), some (.int l1), some (.int l2), some (.int l3), none]) (st' := [.int (((2 : Int32) * l1) + (1 : Int32)), .ref (zQ M l0 48)]) (M' := M) rfl ?_
  refine wp_go 1 (pc' := 33) (L' := [some (.ref l0), some (.int l1), some (.int l2), some (.int l3), none]) (st' := [.int l3, .int (((2 : Int32) * l1) + (1 : Int32)), .ref (zQ M l0 48)]) (M' := M) rfl ?_
  obtain ⟨hc, hp⟩ := hp
  refine wq_iast rfl hc ?_
  exact s161_34 n    l0 l1 l2 l3 (zWI M (zQ M l0 48) (((2 : Int32) * l1) + (1 : Int32)).toNatClampNeg l3) hp hQ
def b161_0 (n : Nat)  (l0 : Nat) (l1 : Int32) (M : zM) : zM := b161_23 n  l0 l1 (zI M (zQ M l0 43) l1.toNatClampNeg) (zI M (zQ M l0 44) l1.toNatClampNeg) (zWI M (zQ M l0 48) ((2 : Int32) * l1).toNatClampNeg (zI M (zQ M l0 43) l1.toNatClampNeg))
def p161_0 (n : Nat)  (l0 : Nat) (l1 : Int32) (M : zM) : Prop := (zHasQ 10 105 l0 M 43) ∧ ((zOkI (zQ M l0 43) l1 M) ∧ ((zHasQ 10 108 l0 M 44) ∧ ((zOkI (zQ M l0 44) l1 M) ∧ ((zHasQ 10 111 l0 M 48) ∧ ((zOkT 1 (zQ M l0 48) ((2 : Int32) * l1) M) ∧ (p161_23 n  l0 l1 (zI M (zQ M l0 43) l1.toNatClampNeg) (zI M (zQ M l0 44) l1.toNatClampNeg) (zWI M (zQ M l0 48) ((2 : Int32) * l1).toNatClampNeg (zI M (zQ M l0 43) l1.toNatClampNeg))))))))
theorem s161_0 (n : Nat)    (l0 : Nat) (l1 : Int32) (M : zM) (hp : p161_0 n  l0 l1 M) {Q : Option Value → zM → Prop} (hQ : ∀ r M1, zRV (b161_0 n  l0 l1 M) r M1 → Q r M1) : zWP 161 0 [some (.ref l0), some (.int l1), none, none, none] [] M Q := by
  unfold b161_0 at hQ
  unfold p161_0 at hp
  refine wp_go 1 (pc' := 1) (L' := [some (.ref l0), some (.int l1), none, none, none]) (st' := [.ref l0]) (M' := M) rfl ?_
  obtain ⟨hc, hp⟩ := hp
  refine wq_getQ (j := 43) rfl hc ?_
  refine wp_go 1 (pc' := 5) (L' := [some (.ref l0), some (.int l1), none, none, none]) (st' := [.int l1, .ref (zQ M l0 43)]) (M' := M) rfl ?_
  obtain ⟨hc, hp⟩ := hp
  refine wq_iald rfl hc ?_
  refine wp_go 2 (pc' := 8) (L' := [some (.ref l0), some (.int l1), some (.int (zI M (zQ M l0 43) l1.toNatClampNeg)), none, none]) (st' := [.ref l0]) (M' := M) rfl ?_
  obtain ⟨hc, hp⟩ := hp
  refine wq_getQ (j := 44) rfl hc ?_
  refine wp_go 1 (pc' := 12) (L' := [some (.ref l0), some (.int l1), some (.int (zI M (zQ M l0 43) l1.toNatClampNeg)), none, none]) (st' := [.int l1, .ref (zQ M l0 44)]) (M' := M) rfl ?_
  obtain ⟨hc, hp⟩ := hp
  refine wq_iald rfl hc ?_
  refine wp_go 2 (pc' := 15) (L' := [some (.ref l0), some (.int l1), some (.int (zI M (zQ M l0 43) l1.toNatClampNeg)), some (.int (zI M (zQ M l0 44) l1.toNatClampNeg)), none]) (st' := [.ref l0]) (M' := M) rfl ?_
  obtain ⟨hc, hp⟩ := hp
  refine wq_getQ (j := 48) rfl hc ?_
  refine wp_go 4 (pc' := 22) (L' := [some (.ref l0), some (.int l1), some (.int (zI M (zQ M l0 43) l1.toNatClampNeg)), some (.int (zI M (zQ M l0 44) l1.toNatClampNeg)), none]) (st' := [.int (zI M (zQ M l0 43) l1.toNatClampNeg), .int ((2 : Int32) * l1), .ref (zQ M l0 48)]) (M' := M) rfl ?_
  obtain ⟨hc, hp⟩ := hp
  refine wq_iast rfl hc ?_
  exact s161_23 n    l0 l1 (zI M (zQ M l0 43) l1.toNatClampNeg) (zI M (zQ M l0 44) l1.toNatClampNeg) (zWI M (zQ M l0 48) ((2 : Int32) * l1).toNatClampNeg (zI M (zQ M l0 43) l1.toNatClampNeg)) hp hQ
/-! X12_floor -/
def b162_22 (n : Nat)  (s0 : Int32) (M : zM) : Int32 × zM := (s0, M)
def p162_22 (n : Nat)  (s0 : Int32) (M : zM) : Prop := True
theorem s162_22 (n : Nat)    (s0 : Int32) (M : zM) (hp : p162_22 n  s0 M) {Q : Option Value → zM → Prop} (hQ : ∀ r M1, zRI (b162_22 n  s0 M) r M1 → Q r M1) : zWP 162 22 [none] [.int s0] M Q := by
  unfold b162_22 at hQ
  unfold p162_22 at hp
  exact wp_ret (r := some (.int s0)) rfl rfl (hQ _ _ ⟨rfl, rfl⟩)
def b162_0 (n : Nat)  (l0 : Int32) (M : zM) : Int32 × zM := (if l0 < 0 then b162_22 n  (-(((999 : Int32) - l0) / (1000 : Int32))) M else b162_22 n  (l0 / (1000 : Int32)) M)
def p162_0 (n : Nat)  (l0 : Int32) (M : zM) : Prop := ((l0 < 0 → p162_22 n  (-(((999 : Int32) - l0) / (1000 : Int32))) M) ∧ (¬ l0 < 0 → p162_22 n  (l0 / (1000 : Int32)) M))
theorem s162_0 (n : Nat)    (l0 : Int32) (M : zM) (hp : p162_0 n  l0 M) {Q : Option Value → zM → Prop} (hQ : ∀ r M1, zRI (b162_0 n  l0 M) r M1 → Q r M1) : zWP 162 0 [some (.int l0)] [] M Q := by
  unfold b162_0 at hQ
  unfold p162_0 at hp
  refine wp_go 1 (pc' := 1) (L' := [some (.int l0)]) (st' := [.int l0]) (M' := M) rfl ?_
  refine wp_if_lt (t := 12) rfl rfl (fun hc => ?_) (fun hc => ?_)
  · rw [if_pos hc] at hQ
    replace hp := hp.1 hc
    refine wp_go 4 (pc' := 20) (L' := [some (.int l0)]) (st' := [.int (1000 : Int32), .int ((999 : Int32) - l0)]) (M' := M) rfl ?_
    refine wq_idiv rfl (by decide) ?_
    refine wp_go 1 (pc' := 22) (L' := [some (.int l0)]) (st' := [.int (-(((999 : Int32) - l0) / (1000 : Int32)))]) (M' := M) rfl ?_
    refine wp_le [none] (zLe_of (by simp [zLeB])) ?_
    exact s162_22 n    (-(((999 : Int32) - l0) / (1000 : Int32))) M hp hQ
  · rw [if_neg hc] at hQ
    replace hp := hp.2 hc
    refine wp_go 2 (pc' := 8) (L' := [some (.int l0)]) (st' := [.int (1000 : Int32), .int l0]) (M' := M) rfl ?_
    refine wq_idiv rfl (by decide) ?_
    refine wp_go 1 (pc' := 22) (L' := [some (.int l0)]) (st' := [.int (l0 / (1000 : Int32))]) (M' := M) rfl ?_
    refine wp_le [none] (zLe_of (by simp [zLeB])) ?_
    exact s162_22 n    (l0 / (1000 : Int32)) M hp hQ
/-! X12_points -/
def b163_210 (n : Nat) (k158 : Nat → Int32 → Int32 → Int32 → Int32 → Int32 → Int32 → Int32 → zM → Int32 × zM) (k176 : Nat → Int32 → Int32 → Int32 → Int32 → Int32 → Int32 → Int32 → Int32 → zM → Int32 × zM) (l0 : Nat) (l1 : Int32) (l2 : Int32) (l3 : Int32) (l5 : Int32) (l6 : Int32) (l7 : Int32) (l8 : Int32) (l9 : Int32) (M : zM) : Int32 × zM := k176 l0 l1 l2 l3 l5 l6 l7 l8 (l9 + Int32.ofInt 1000) M
def p163_210 (n : Nat) (q158 : Nat → Int32 → Int32 → Int32 → Int32 → Int32 → Int32 → Int32 → zM → Prop) (q176 : Nat → Int32 → Int32 → Int32 → Int32 → Int32 → Int32 → Int32 → Int32 → zM → Prop) (l0 : Nat) (l1 : Int32) (l2 : Int32) (l3 : Int32) (l5 : Int32) (l6 : Int32) (l7 : Int32) (l8 : Int32) (l9 : Int32) (M : zM) : Prop := q176 l0 l1 l2 l3 l5 l6 l7 l8 (l9 + Int32.ofInt 1000) M
theorem s163_210 (n : Nat) (k158 : Nat → Int32 → Int32 → Int32 → Int32 → Int32 → Int32 → Int32 → zM → Int32 × zM) (k176 : Nat → Int32 → Int32 → Int32 → Int32 → Int32 → Int32 → Int32 → Int32 → zM → Int32 × zM) (q158 : Nat → Int32 → Int32 → Int32 → Int32 → Int32 → Int32 → Int32 → zM → Prop) (q176 : Nat → Int32 → Int32 → Int32 → Int32 → Int32 → Int32 → Int32 → Int32 → zM → Prop) (h158 : ∀ (l0 : Nat) (l1 : Int32) (l2 : Int32) (l3 : Int32) (l5 : Int32) (l6 : Int32) (l7 : Int32) (l8 : Int32) (M : zM), q158 l0 l1 l2 l3 l5 l6 l7 l8 M → ∀ {Q : Option Value → zM → Prop}, (∀ r M1, zRI (k158 l0 l1 l2 l3 l5 l6 l7 l8 M) r M1 → Q r M1) → zWP 163 158 [some (.ref l0), some (.int l1), some (.int l2), some (.int l3), none, some (.int l5), some (.int l6), some (.int l7), some (.int l8), none] [] M Q) (h176 : ∀ (l0 : Nat) (l1 : Int32) (l2 : Int32) (l3 : Int32) (l5 : Int32) (l6 : Int32) (l7 : Int32) (l8 : Int32) (l9 : Int32) (M : zM), q176 l0 l1 l2 l3 l5 l6 l7 l8 l9 M → ∀ {Q : Option Value → zM → Prop}, (∀ r M1, zRI (k176 l0 l1 l2 l3 l5 l6 l7 l8 l9 M) r M1 → Q r M1) → zWP 163 176 [some (.ref l0), some (.int l1), some (.int l2), some (.int l3), none, some (.int l5), some (.int l6), some (.int l7), some (.int l8), some (.int l9)] [] M Q) (l0 : Nat) (l1 : Int32) (l2 : Int32) (l3 : Int32) (l5 : Int32) (l6 : Int32) (l7 : Int32) (l8 : Int32) (l9 : Int32) (M : zM) (hp : p163_210 n q158 q176 l0 l1 l2 l3 l5 l6 l7 l8 l9 M) {Q : Option Value → zM → Prop} (hQ : ∀ r M1, zRI (b163_210 n k158 k176 l0 l1 l2 l3 l5 l6 l7 l8 l9 M) r M1 → Q r M1) : zWP 163 210 [some (.ref l0), some (.int l1), some (.int l2), some (.int l3), none, some (.int l5), some (.int l6), some (.int l7), some (.int l8), some (.int l9)] [] M Q := by
  unfold b163_210 at hQ
  unfold p163_210 at hp
  refine wp_go 2 (pc' := 176) (L' := [some (.ref l0), some (.int l1), some (.int l2), some (.int l3), none, some (.int l5), some (.int l6), some (.int l7), some (.int l8), some (.int (l9 + Int32.ofInt 1000))]) (st' := []) (M' := M) rfl ?_
  exact h176 l0 l1 l2 l3 l5 l6 l7 l8 (l9 + Int32.ofInt 1000) M hp hQ
def b163_204 (n : Nat) (k158 : Nat → Int32 → Int32 → Int32 → Int32 → Int32 → Int32 → Int32 → zM → Int32 × zM) (k176 : Nat → Int32 → Int32 → Int32 → Int32 → Int32 → Int32 → Int32 → Int32 → zM → Int32 × zM) (l0 : Nat) (l1 : Int32) (l2 : Int32) (l3 : Int32) (l5 : Int32) (l6 : Int32) (l7 : Int32) (l8 : Int32) (l9 : Int32) (s0 : Int32) (M : zM) : Int32 × zM := (if s0 = 0 then b163_210 n k158 k176 l0 l1 l2 l3 l5 l6 l7 l8 l9 M else b163_210 n k158 k176 l0 l1 l2 l3 l5 l6 (l7 + Int32.ofInt 1) l8 l9 M)
def p163_204 (n : Nat) (q158 : Nat → Int32 → Int32 → Int32 → Int32 → Int32 → Int32 → Int32 → zM → Prop) (q176 : Nat → Int32 → Int32 → Int32 → Int32 → Int32 → Int32 → Int32 → Int32 → zM → Prop) (l0 : Nat) (l1 : Int32) (l2 : Int32) (l3 : Int32) (l5 : Int32) (l6 : Int32) (l7 : Int32) (l8 : Int32) (l9 : Int32) (s0 : Int32) (M : zM) : Prop := ((s0 = 0 → p163_210 n q158 q176 l0 l1 l2 l3 l5 l6 l7 l8 l9 M) ∧ (¬ s0 = 0 → p163_210 n q158 q176 l0 l1 l2 l3 l5 l6 (l7 + Int32.ofInt 1) l8 l9 M))
theorem s163_204 (n : Nat) (k158 : Nat → Int32 → Int32 → Int32 → Int32 → Int32 → Int32 → Int32 → zM → Int32 × zM) (k176 : Nat → Int32 → Int32 → Int32 → Int32 → Int32 → Int32 → Int32 → Int32 → zM → Int32 × zM) (q158 : Nat → Int32 → Int32 → Int32 → Int32 → Int32 → Int32 → Int32 → zM → Prop) (q176 : Nat → Int32 → Int32 → Int32 → Int32 → Int32 → Int32 → Int32 → Int32 → zM → Prop) (h158 : ∀ (l0 : Nat) (l1 : Int32) (l2 : Int32) (l3 : Int32) (l5 : Int32) (l6 : Int32) (l7 : Int32) (l8 : Int32) (M : zM), q158 l0 l1 l2 l3 l5 l6 l7 l8 M → ∀ {Q : Option Value → zM → Prop}, (∀ r M1, zRI (k158 l0 l1 l2 l3 l5 l6 l7 l8 M) r M1 → Q r M1) → zWP 163 158 [some (.ref l0), some (.int l1), some (.int l2), some (.int l3), none, some (.int l5), some (.int l6), some (.int l7), some (.int l8), none] [] M Q) (h176 : ∀ (l0 : Nat) (l1 : Int32) (l2 : Int32) (l3 : Int32) (l5 : Int32) (l6 : Int32) (l7 : Int32) (l8 : Int32) (l9 : Int32) (M : zM), q176 l0 l1 l2 l3 l5 l6 l7 l8 l9 M → ∀ {Q : Option Value → zM → Prop}, (∀ r M1, zRI (k176 l0 l1 l2 l3 l5 l6 l7 l8 l9 M) r M1 → Q r M1) → zWP 163 176 [some (.ref l0), some (.int l1), some (.int l2), some (.int l3), none, some (.int l5), some (.int l6), some (.int l7), some (.int l8), some (.int l9)] [] M Q) (l0 : Nat) (l1 : Int32) (l2 : Int32) (l3 : Int32) (l5 : Int32) (l6 : Int32) (l7 : Int32) (l8 : Int32) (l9 : Int32) (s0 : Int32) (M : zM) (hp : p163_204 n q158 q176 l0 l1 l2 l3 l5 l6 l7 l8 l9 s0 M) {Q : Option Value → zM → Prop} (hQ : ∀ r M1, zRI (b163_204 n k158 k176 l0 l1 l2 l3 l5 l6 l7 l8 l9 s0 M) r M1 → Q r M1) : zWP 163 204 [some (.ref l0), some (.int l1), some (.int l2), some (.int l3), none, some (.int l5), some (.int l6), some (.int l7), some (.int l8), some (.int l9)] [.int s0] M Q := by
  unfold b163_204 at hQ
  unfold p163_204 at hp
  refine wp_if_eq (t := 210) rfl rfl (fun hc => ?_) (fun hc => ?_)
  · rw [if_pos hc] at hQ
    replace hp := hp.1 hc
    exact s163_210 n k158 k176 q158 q176 h158 h176 l0 l1 l2 l3 l5 l6 l7 l8 l9 M hp hQ
  · rw [if_neg hc] at hQ
    replace hp := hp.2 hc
    refine wp_go 1 (pc' := 210) (L' := [some (.ref l0), some (.int l1), some (.int l2), some (.int l3), none, some (.int l5), some (.int l6), some (.int (l7 + Int32.ofInt 1)), some (.int l8), some (.int l9)]) (st' := []) (M' := M) rfl ?_
    exact s163_210 n k158 k176 q158 q176 h158 h176 l0 l1 l2 l3 l5 l6 (l7 + Int32.ofInt 1) l8 l9 M hp hQ
def b163_192 (n : Nat) (k158 : Nat → Int32 → Int32 → Int32 → Int32 → Int32 → Int32 → Int32 → zM → Int32 × zM) (k176 : Nat → Int32 → Int32 → Int32 → Int32 → Int32 → Int32 → Int32 → Int32 → zM → Int32 × zM) (l0 : Nat) (l1 : Int32) (l2 : Int32) (l3 : Int32) (l5 : Int32) (l6 : Int32) (l7 : Int32) (l8 : Int32) (l9 : Int32) (s0 : Int32) (M : zM) : Int32 × zM := (if s0 = 0 then b163_210 n k158 k176 l0 l1 l2 l3 l5 l6 l7 l8 l9 M else b163_204 n k158 k176 l0 l1 l2 l3 l5 l6 l7 l8 l9 (b160_0 n l0 l2 l9 l8 M).1 (b160_0 n l0 l2 l9 l8 M).2)
def p163_192 (n : Nat) (q158 : Nat → Int32 → Int32 → Int32 → Int32 → Int32 → Int32 → Int32 → zM → Prop) (q176 : Nat → Int32 → Int32 → Int32 → Int32 → Int32 → Int32 → Int32 → Int32 → zM → Prop) (l0 : Nat) (l1 : Int32) (l2 : Int32) (l3 : Int32) (l5 : Int32) (l6 : Int32) (l7 : Int32) (l8 : Int32) (l9 : Int32) (s0 : Int32) (M : zM) : Prop := ((s0 = 0 → p163_210 n q158 q176 l0 l1 l2 l3 l5 l6 l7 l8 l9 M) ∧ (¬ s0 = 0 → (zHasC 163 271 l0 M 160 3) ∧ ((p160_0 n l0 l2 l9 l8 M) ∧ (p163_204 n q158 q176 l0 l1 l2 l3 l5 l6 l7 l8 l9 (b160_0 n l0 l2 l9 l8 M).1 (b160_0 n l0 l2 l9 l8 M).2))))
theorem s163_192 (n : Nat) (k158 : Nat → Int32 → Int32 → Int32 → Int32 → Int32 → Int32 → Int32 → zM → Int32 × zM) (k176 : Nat → Int32 → Int32 → Int32 → Int32 → Int32 → Int32 → Int32 → Int32 → zM → Int32 × zM) (q158 : Nat → Int32 → Int32 → Int32 → Int32 → Int32 → Int32 → Int32 → zM → Prop) (q176 : Nat → Int32 → Int32 → Int32 → Int32 → Int32 → Int32 → Int32 → Int32 → zM → Prop) (h158 : ∀ (l0 : Nat) (l1 : Int32) (l2 : Int32) (l3 : Int32) (l5 : Int32) (l6 : Int32) (l7 : Int32) (l8 : Int32) (M : zM), q158 l0 l1 l2 l3 l5 l6 l7 l8 M → ∀ {Q : Option Value → zM → Prop}, (∀ r M1, zRI (k158 l0 l1 l2 l3 l5 l6 l7 l8 M) r M1 → Q r M1) → zWP 163 158 [some (.ref l0), some (.int l1), some (.int l2), some (.int l3), none, some (.int l5), some (.int l6), some (.int l7), some (.int l8), none] [] M Q) (h176 : ∀ (l0 : Nat) (l1 : Int32) (l2 : Int32) (l3 : Int32) (l5 : Int32) (l6 : Int32) (l7 : Int32) (l8 : Int32) (l9 : Int32) (M : zM), q176 l0 l1 l2 l3 l5 l6 l7 l8 l9 M → ∀ {Q : Option Value → zM → Prop}, (∀ r M1, zRI (k176 l0 l1 l2 l3 l5 l6 l7 l8 l9 M) r M1 → Q r M1) → zWP 163 176 [some (.ref l0), some (.int l1), some (.int l2), some (.int l3), none, some (.int l5), some (.int l6), some (.int l7), some (.int l8), some (.int l9)] [] M Q) (l0 : Nat) (l1 : Int32) (l2 : Int32) (l3 : Int32) (l5 : Int32) (l6 : Int32) (l7 : Int32) (l8 : Int32) (l9 : Int32) (s0 : Int32) (M : zM) (hp : p163_192 n q158 q176 l0 l1 l2 l3 l5 l6 l7 l8 l9 s0 M) {Q : Option Value → zM → Prop} (hQ : ∀ r M1, zRI (b163_192 n k158 k176 l0 l1 l2 l3 l5 l6 l7 l8 l9 s0 M) r M1 → Q r M1) : zWP 163 192 [some (.ref l0), some (.int l1), some (.int l2), some (.int l3), none, some (.int l5), some (.int l6), some (.int l7), some (.int l8), some (.int l9)] [.int s0] M Q := by
  unfold b163_192 at hQ
  unfold p163_192 at hp
  refine wp_if_eq (t := 210) rfl rfl (fun hc => ?_) (fun hc => ?_)
  · rw [if_pos hc] at hQ
    replace hp := hp.1 hc
    exact s163_210 n k158 k176 q158 q176 h158 h176 l0 l1 l2 l3 l5 l6 l7 l8 l9 M hp hQ
  · rw [if_neg hc] at hQ
    replace hp := hp.2 hc
    refine wp_go 4 (pc' := 201) (L' := [some (.ref l0), some (.int l1), some (.int l2), some (.int l3), none, some (.int l5), some (.int l6), some (.int l7), some (.int l8), some (.int l9)]) (st' := [.int l8, .int l9, .int l2, .ref l0]) (M' := M) rfl ?_
    obtain ⟨hv, hp⟩ := hp
    obtain ⟨hc, hp⟩ := hp
    refine wp_calli (v := (b160_0 n l0 l2 l9 l8 M).1) (M1 := (b160_0 n l0 l2 l9 l8 M).2) rfl rfl rfl (zInv_v (np := 3) rfl rfl hv rfl) (s160_0 n l0 l2 l9 l8 M hc (fun r M1 h => h)) ?_
    exact s163_204 n k158 k176 q158 q176 h158 h176 l0 l1 l2 l3 l5 l6 l7 l8 l9 (b160_0 n l0 l2 l9 l8 M).1 (b160_0 n l0 l2 l9 l8 M).2 hp hQ
def c163_176 (n : Nat) (k158 : Nat → Int32 → Int32 → Int32 → Int32 → Int32 → Int32 → Int32 → zM → Int32 × zM) (k176 : Nat → Int32 → Int32 → Int32 → Int32 → Int32 → Int32 → Int32 → Int32 → zM → Int32 × zM) (l0 : Nat) (l1 : Int32) (l2 : Int32) (l3 : Int32) (l5 : Int32) (l6 : Int32) (l7 : Int32) (l8 : Int32) (l9 : Int32) (M : zM) : Int32 × zM := (if l5 < l9 then k158 l0 l1 l2 l3 l5 l6 l7 (l8 + Int32.ofInt 1000) M else b163_192 n k158 k176 l0 l1 l2 l3 l5 l6 l7 l8 l9 (b160_0 n l0 l1 l9 l8 M).1 (b160_0 n l0 l1 l9 l8 M).2)
def d163_176 (n : Nat) (q158 : Nat → Int32 → Int32 → Int32 → Int32 → Int32 → Int32 → Int32 → zM → Prop) (q176 : Nat → Int32 → Int32 → Int32 → Int32 → Int32 → Int32 → Int32 → Int32 → zM → Prop) (l0 : Nat) (l1 : Int32) (l2 : Int32) (l3 : Int32) (l5 : Int32) (l6 : Int32) (l7 : Int32) (l8 : Int32) (l9 : Int32) (M : zM) : Prop := ((l5 < l9 → q158 l0 l1 l2 l3 l5 l6 l7 (l8 + Int32.ofInt 1000) M) ∧ (¬ l5 < l9 → (zHasC 163 271 l0 M 160 3) ∧ ((p160_0 n l0 l1 l9 l8 M) ∧ (p163_192 n q158 q176 l0 l1 l2 l3 l5 l6 l7 l8 l9 (b160_0 n l0 l1 l9 l8 M).1 (b160_0 n l0 l1 l9 l8 M).2))))
theorem t163_176 (n : Nat) (k158 : Nat → Int32 → Int32 → Int32 → Int32 → Int32 → Int32 → Int32 → zM → Int32 × zM) (k176 : Nat → Int32 → Int32 → Int32 → Int32 → Int32 → Int32 → Int32 → Int32 → zM → Int32 × zM) (q158 : Nat → Int32 → Int32 → Int32 → Int32 → Int32 → Int32 → Int32 → zM → Prop) (q176 : Nat → Int32 → Int32 → Int32 → Int32 → Int32 → Int32 → Int32 → Int32 → zM → Prop) (h158 : ∀ (l0 : Nat) (l1 : Int32) (l2 : Int32) (l3 : Int32) (l5 : Int32) (l6 : Int32) (l7 : Int32) (l8 : Int32) (M : zM), q158 l0 l1 l2 l3 l5 l6 l7 l8 M → ∀ {Q : Option Value → zM → Prop}, (∀ r M1, zRI (k158 l0 l1 l2 l3 l5 l6 l7 l8 M) r M1 → Q r M1) → zWP 163 158 [some (.ref l0), some (.int l1), some (.int l2), some (.int l3), none, some (.int l5), some (.int l6), some (.int l7), some (.int l8), none] [] M Q) (h176 : ∀ (l0 : Nat) (l1 : Int32) (l2 : Int32) (l3 : Int32) (l5 : Int32) (l6 : Int32) (l7 : Int32) (l8 : Int32) (l9 : Int32) (M : zM), q176 l0 l1 l2 l3 l5 l6 l7 l8 l9 M → ∀ {Q : Option Value → zM → Prop}, (∀ r M1, zRI (k176 l0 l1 l2 l3 l5 l6 l7 l8 l9 M) r M1 → Q r M1) → zWP 163 176 [some (.ref l0), some (.int l1), some (.int l2), some (.int l3), none, some (.int l5), some (.int l6), some (.int l7), some (.int l8), some (.int l9)] [] M Q) (l0 : Nat) (l1 : Int32) (l2 : Int32) (l3 : Int32) (l5 : Int32) (l6 : Int32) (l7 : Int32) (l8 : Int32) (l9 : Int32) (M : zM) (hp : d163_176 n q158 q176 l0 l1 l2 l3 l5 l6 l7 l8 l9 M) {Q : Option Value → zM → Prop} (hQ : ∀ r M1, zRI (c163_176 n k158 k176 l0 l1 l2 l3 l5 l6 l7 l8 l9 M) r M1 → Q r M1) : zWP 163 176 [some (.ref l0), some (.int l1), some (.int l2), some (.int l3), none, some (.int l5), some (.int l6), some (.int l7), some (.int l8), some (.int l9)] [] M Q := by
  unfold c163_176 at hQ
  unfold d163_176 at hp
  refine wp_go 2 (pc' := 180) (L' := [some (.ref l0), some (.int l1), some (.int l2), some (.int l3), none, some (.int l5), some (.int l6), some (.int l7), some (.int l8), some (.int l9)]) (st' := [.int l5, .int l9]) (M' := M) rfl ?_
  refine wp_ic_gt (t := 219) rfl rfl (fun hc => ?_) (fun hc => ?_)
  · rw [if_pos hc] at hQ
    replace hp := hp.1 hc
    refine wp_go 2 (pc' := 158) (L' := [some (.ref l0), some (.int l1), some (.int l2), some (.int l3), none, some (.int l5), some (.int l6), some (.int l7), some (.int (l8 + Int32.ofInt 1000)), some (.int l9)]) (st' := []) (M' := M) rfl ?_
    refine wp_le [some (.ref l0), some (.int l1), some (.int l2), some (.int l3), none, some (.int l5), some (.int l6), some (.int l7), some (.int (l8 + Int32.ofInt 1000)), none] (zLe_of (by simp [zLeB])) ?_
    exact h158 l0 l1 l2 l3 l5 l6 l7 (l8 + Int32.ofInt 1000) M hp hQ
  · rw [if_neg hc] at hQ
    replace hp := hp.2 hc
    refine wp_go 4 (pc' := 189) (L' := [some (.ref l0), some (.int l1), some (.int l2), some (.int l3), none, some (.int l5), some (.int l6), some (.int l7), some (.int l8), some (.int l9)]) (st' := [.int l8, .int l9, .int l1, .ref l0]) (M' := M) rfl ?_
    obtain ⟨hv, hp⟩ := hp
    obtain ⟨hc, hp⟩ := hp
    refine wp_calli (v := (b160_0 n l0 l1 l9 l8 M).1) (M1 := (b160_0 n l0 l1 l9 l8 M).2) rfl rfl rfl (zInv_v (np := 3) rfl rfl hv rfl) (s160_0 n l0 l1 l9 l8 M hc (fun r M1 h => h)) ?_
    exact s163_192 n k158 k176 q158 q176 h158 h176 l0 l1 l2 l3 l5 l6 l7 l8 l9 (b160_0 n l0 l1 l9 l8 M).1 (b160_0 n l0 l1 l9 l8 M).2 hp hQ
def b163_176 (n : Nat) (k158 : Nat → Int32 → Int32 → Int32 → Int32 → Int32 → Int32 → Int32 → zM → Int32 × zM) : Nat → Nat → Int32 → Int32 → Int32 → Int32 → Int32 → Int32 → Int32 → Int32 → zM → Int32 × zM
  | 0, _, _, _, _, _, _, _, _, _, M => (0, M)
  | k + 1, l0, l1, l2, l3, l5, l6, l7, l8, l9, M => c163_176 n k158 (b163_176 n k158 k) l0 l1 l2 l3 l5 l6 l7 l8 l9 M
def p163_176 (n : Nat) (q158 : Nat → Int32 → Int32 → Int32 → Int32 → Int32 → Int32 → Int32 → zM → Prop) : Nat → Nat → Int32 → Int32 → Int32 → Int32 → Int32 → Int32 → Int32 → Int32 → zM → Prop
  | 0, _, _, _, _, _, _, _, _, _, _ => False
  | k + 1, l0, l1, l2, l3, l5, l6, l7, l8, l9, M => d163_176 n q158 (p163_176 n q158 k) l0 l1 l2 l3 l5 l6 l7 l8 l9 M
theorem s163_176 (n : Nat) (k158 : Nat → Int32 → Int32 → Int32 → Int32 → Int32 → Int32 → Int32 → zM → Int32 × zM) (q158 : Nat → Int32 → Int32 → Int32 → Int32 → Int32 → Int32 → Int32 → zM → Prop) (h158 : ∀ (l0 : Nat) (l1 : Int32) (l2 : Int32) (l3 : Int32) (l5 : Int32) (l6 : Int32) (l7 : Int32) (l8 : Int32) (M : zM), q158 l0 l1 l2 l3 l5 l6 l7 l8 M → ∀ {Q : Option Value → zM → Prop}, (∀ r M1, zRI (k158 l0 l1 l2 l3 l5 l6 l7 l8 M) r M1 → Q r M1) → zWP 163 158 [some (.ref l0), some (.int l1), some (.int l2), some (.int l3), none, some (.int l5), some (.int l6), some (.int l7), some (.int l8), none] [] M Q) : ∀ (k : Nat) (l0 : Nat) (l1 : Int32) (l2 : Int32) (l3 : Int32) (l5 : Int32) (l6 : Int32) (l7 : Int32) (l8 : Int32) (l9 : Int32) (M : zM), p163_176 n q158 k l0 l1 l2 l3 l5 l6 l7 l8 l9 M → ∀ {Q : Option Value → zM → Prop}, (∀ r M1, zRI (b163_176 n k158 k l0 l1 l2 l3 l5 l6 l7 l8 l9 M) r M1 → Q r M1) → zWP 163 176 [some (.ref l0), some (.int l1), some (.int l2), some (.int l3), none, some (.int l5), some (.int l6), some (.int l7), some (.int l8), some (.int l9)] [] M Q
  | 0, _, _, _, _, _, _, _, _, _, _, h, _, _ => h.elim
  | k + 1, l0, l1, l2, l3, l5, l6, l7, l8, l9, M, h, _, hQ => t163_176 n k158 (b163_176 n k158 k) q158 (p163_176 n q158 k) h158 (s163_176 n k158 q158 h158 k) l0 l1 l2 l3 l5 l6 l7 l8 l9 M h hQ
def c163_158 (n : Nat) (k158 : Nat → Int32 → Int32 → Int32 → Int32 → Int32 → Int32 → Int32 → zM → Int32 × zM) (l0 : Nat) (l1 : Int32) (l2 : Int32) (l3 : Int32) (l5 : Int32) (l6 : Int32) (l7 : Int32) (l8 : Int32) (M : zM) : Int32 × zM := (if l6 < l8 then (l7, M) else b163_176 n k158 n l0 l1 l2 l3 l5 l6 l7 l8 (((1000 : Int32) * l3) + (500 : Int32)) M)
def d163_158 (n : Nat) (q158 : Nat → Int32 → Int32 → Int32 → Int32 → Int32 → Int32 → Int32 → zM → Prop) (l0 : Nat) (l1 : Int32) (l2 : Int32) (l3 : Int32) (l5 : Int32) (l6 : Int32) (l7 : Int32) (l8 : Int32) (M : zM) : Prop := ((l6 < l8 → True) ∧ (¬ l6 < l8 → p163_176 n q158 n l0 l1 l2 l3 l5 l6 l7 l8 (((1000 : Int32) * l3) + (500 : Int32)) M))
theorem t163_158 (n : Nat) (k158 : Nat → Int32 → Int32 → Int32 → Int32 → Int32 → Int32 → Int32 → zM → Int32 × zM) (q158 : Nat → Int32 → Int32 → Int32 → Int32 → Int32 → Int32 → Int32 → zM → Prop) (h158 : ∀ (l0 : Nat) (l1 : Int32) (l2 : Int32) (l3 : Int32) (l5 : Int32) (l6 : Int32) (l7 : Int32) (l8 : Int32) (M : zM), q158 l0 l1 l2 l3 l5 l6 l7 l8 M → ∀ {Q : Option Value → zM → Prop}, (∀ r M1, zRI (k158 l0 l1 l2 l3 l5 l6 l7 l8 M) r M1 → Q r M1) → zWP 163 158 [some (.ref l0), some (.int l1), some (.int l2), some (.int l3), none, some (.int l5), some (.int l6), some (.int l7), some (.int l8), none] [] M Q) (l0 : Nat) (l1 : Int32) (l2 : Int32) (l3 : Int32) (l5 : Int32) (l6 : Int32) (l7 : Int32) (l8 : Int32) (M : zM) (hp : d163_158 n q158 l0 l1 l2 l3 l5 l6 l7 l8 M) {Q : Option Value → zM → Prop} (hQ : ∀ r M1, zRI (c163_158 n k158 l0 l1 l2 l3 l5 l6 l7 l8 M) r M1 → Q r M1) : zWP 163 158 [some (.ref l0), some (.int l1), some (.int l2), some (.int l3), none, some (.int l5), some (.int l6), some (.int l7), some (.int l8), none] [] M Q := by
  unfold c163_158 at hQ
  unfold d163_158 at hp
  refine wp_go 2 (pc' := 162) (L' := [some (.ref l0), some (.int l1), some (.int l2), some (.int l3), none, some (.int l5), some (.int l6), some (.int l7), some (.int l8), none]) (st' := [.int l6, .int l8]) (M' := M) rfl ?_
  refine wp_ic_gt (t := 228) rfl rfl (fun hc => ?_) (fun hc => ?_)
  · rw [if_pos hc] at hQ
    replace hp := hp.1 hc
    refine wp_go 1 (pc' := 230) (L' := [some (.ref l0), some (.int l1), some (.int l2), some (.int l3), none, some (.int l5), some (.int l6), some (.int l7), some (.int l8), none]) (st' := [.int l7]) (M' := M) rfl ?_
    exact wp_ret (r := some (.int l7)) rfl rfl (hQ _ _ ⟨rfl, rfl⟩)
  · rw [if_neg hc] at hQ
    replace hp := hp.2 hc
    refine wp_go 5 (pc' := 174) (L' := [some (.ref l0), some (.int l1), some (.int l2), some (.int l3), none, some (.int l5), some (.int l6), some (.int l7), some (.int l8), none]) (st' := [.int (((1000 : Int32) * l3) + (500 : Int32))]) (M' := M) rfl ?_
    refine wp_go 1 (pc' := 176) (L' := [some (.ref l0), some (.int l1), some (.int l2), some (.int l3), none, some (.int l5), some (.int l6), some (.int l7), some (.int l8), some (.int (((1000 : Int32) * l3) + (500 : Int32)))]) (st' := []) (M' := M) rfl ?_
    exact s163_176 n k158 q158 h158 n l0 l1 l2 l3 l5 l6 l7 l8 (((1000 : Int32) * l3) + (500 : Int32)) M hp hQ
def b163_158 (n : Nat)  : Nat → Nat → Int32 → Int32 → Int32 → Int32 → Int32 → Int32 → Int32 → zM → Int32 × zM
  | 0, _, _, _, _, _, _, _, _, M => (0, M)
  | k + 1, l0, l1, l2, l3, l5, l6, l7, l8, M => c163_158 n  (b163_158 n  k) l0 l1 l2 l3 l5 l6 l7 l8 M
def p163_158 (n : Nat)  : Nat → Nat → Int32 → Int32 → Int32 → Int32 → Int32 → Int32 → Int32 → zM → Prop
  | 0, _, _, _, _, _, _, _, _, _ => False
  | k + 1, l0, l1, l2, l3, l5, l6, l7, l8, M => d163_158 n  (p163_158 n  k) l0 l1 l2 l3 l5 l6 l7 l8 M
theorem s163_158 (n : Nat)    : ∀ (k : Nat) (l0 : Nat) (l1 : Int32) (l2 : Int32) (l3 : Int32) (l5 : Int32) (l6 : Int32) (l7 : Int32) (l8 : Int32) (M : zM), p163_158 n  k l0 l1 l2 l3 l5 l6 l7 l8 M → ∀ {Q : Option Value → zM → Prop}, (∀ r M1, zRI (b163_158 n  k l0 l1 l2 l3 l5 l6 l7 l8 M) r M1 → Q r M1) → zWP 163 158 [some (.ref l0), some (.int l1), some (.int l2), some (.int l3), none, some (.int l5), some (.int l6), some (.int l7), some (.int l8), none] [] M Q
  | 0, _, _, _, _, _, _, _, _, _, h, _, _ => h.elim
  | k + 1, l0, l1, l2, l3, l5, l6, l7, l8, M, h, _, hQ => t163_158 n  (b163_158 n  k)  (p163_158 n  k)  (s163_158 n    k) l0 l1 l2 l3 l5 l6 l7 l8 M h hQ
def b163_141 (n : Nat)  (l0 : Nat) (l1 : Int32) (l2 : Int32) (l3 : Int32) (l4 : Int32) (l5 : Int32) (s0 : Int32) (M : zM) : Int32 × zM := b163_158 n  n l0 l1 l2 l3 l5 s0 (0 : Int32) (((1000 : Int32) * l4) + (500 : Int32)) M
def p163_141 (n : Nat)  (l0 : Nat) (l1 : Int32) (l2 : Int32) (l3 : Int32) (l4 : Int32) (l5 : Int32) (s0 : Int32) (M : zM) : Prop := p163_158 n  n l0 l1 l2 l3 l5 s0 (0 : Int32) (((1000 : Int32) * l4) + (500 : Int32)) M
theorem s163_141 (n : Nat)    (l0 : Nat) (l1 : Int32) (l2 : Int32) (l3 : Int32) (l4 : Int32) (l5 : Int32) (s0 : Int32) (M : zM) (hp : p163_141 n  l0 l1 l2 l3 l4 l5 s0 M) {Q : Option Value → zM → Prop} (hQ : ∀ r M1, zRI (b163_141 n  l0 l1 l2 l3 l4 l5 s0 M) r M1 → Q r M1) : zWP 163 141 [some (.ref l0), some (.int l1), some (.int l2), some (.int l3), some (.int l4), some (.int l5), none, none, none, none] [.int s0] M Q := by
  unfold b163_141 at hQ
  unfold p163_141 at hp
  refine wp_go 5 (pc' := 151) (L' := [some (.ref l0), some (.int l1), some (.int l2), some (.int l3), some (.int l4), some (.int l5), some (.int s0), some (.int (0 : Int32)), none, none]) (st' := [.int l4, .int (1000 : Int32)]) (M' := M) rfl ?_
  refine wp_go 4 (pc' := 158) (L' := [some (.ref l0), some (.int l1), some (.int l2), some (.int l3), some (.int l4), some (.int l5), some (.int s0), some (.int (0 : Int32)), some (.int (((1000 : Int32) * l4) + (500 : Int32))), none]) (st' := []) (M' := M) rfl ?_
  refine wp_le [some (.ref l0), some (.int l1), some (.int l2), some (.int l3), none, some (.int l5), some (.int s0), some (.int (0 : Int32)), some (.int (((1000 : Int32) * l4) + (500 : Int32))), none] (zLe_of (by simp [zLeB])) ?_
  exact s163_158 n    n l0 l1 l2 l3 l5 s0 (0 : Int32) (((1000 : Int32) * l4) + (500 : Int32)) M hp hQ
def b163_93 (n : Nat)  (l0 : Nat) (l1 : Int32) (l2 : Int32) (l3 : Int32) (l4 : Int32) (s0 : Int32) (M : zM) : Int32 × zM := (if (zI M (zQ M l0 49) (((2 : Int32) * l2) + (1 : Int32)).toNatClampNeg) ≤ (zI M (zQ M l0 49) (((2 : Int32) * l1) + (1 : Int32)).toNatClampNeg) then b163_141 n  l0 l1 l2 l3 l4 s0 (zI M (zQ M l0 49) (((2 : Int32) * l2) + (1 : Int32)).toNatClampNeg) M else b163_141 n  l0 l1 l2 l3 l4 s0 (zI M (zQ M l0 49) (((2 : Int32) * l1) + (1 : Int32)).toNatClampNeg) M)
def p163_93 (n : Nat)  (l0 : Nat) (l1 : Int32) (l2 : Int32) (l3 : Int32) (l4 : Int32) (s0 : Int32) (M : zM) : Prop := (zHasQ 10 114 l0 M 49) ∧ ((zOkI (zQ M l0 49) (((2 : Int32) * l1) + (1 : Int32)) M) ∧ ((zHasQ 10 114 l0 M 49) ∧ ((zOkI (zQ M l0 49) (((2 : Int32) * l2) + (1 : Int32)) M) ∧ ((((zI M (zQ M l0 49) (((2 : Int32) * l2) + (1 : Int32)).toNatClampNeg) ≤ (zI M (zQ M l0 49) (((2 : Int32) * l1) + (1 : Int32)).toNatClampNeg) → (zHasQ 10 114 l0 M 49) ∧ ((zOkI (zQ M l0 49) (((2 : Int32) * l2) + (1 : Int32)) M) ∧ (p163_141 n  l0 l1 l2 l3 l4 s0 (zI M (zQ M l0 49) (((2 : Int32) * l2) + (1 : Int32)).toNatClampNeg) M))) ∧ (¬ (zI M (zQ M l0 49) (((2 : Int32) * l2) + (1 : Int32)).toNatClampNeg) ≤ (zI M (zQ M l0 49) (((2 : Int32) * l1) + (1 : Int32)).toNatClampNeg) → (zHasQ 10 114 l0 M 49) ∧ ((zOkI (zQ M l0 49) (((2 : Int32) * l1) + (1 : Int32)) M) ∧ (p163_141 n  l0 l1 l2 l3 l4 s0 (zI M (zQ M l0 49) (((2 : Int32) * l1) + (1 : Int32)).toNatClampNeg) M))))))))
theorem s163_93 (n : Nat)    (l0 : Nat) (l1 : Int32) (l2 : Int32) (l3 : Int32) (l4 : Int32) (s0 : Int32) (M : zM) (hp : p163_93 n  l0 l1 l2 l3 l4 s0 M) {Q : Option Value → zM → Prop} (hQ : ∀ r M1, zRI (b163_93 n  l0 l1 l2 l3 l4 s0 M) r M1 → Q r M1) : zWP 163 93 [some (.ref l0), some (.int l1), some (.int l2), some (.int l3), some (.int l4), none, none, none, none, none] [.int s0] M Q := by
  unfold b163_93 at hQ
  unfold p163_93 at hp
  refine wp_go 2 (pc' := 96) (L' := [some (.ref l0), some (.int l1), some (.int l2), some (.int l3), some (.int l4), some (.int s0), none, none, none, none]) (st' := [.ref l0]) (M' := M) rfl ?_
  obtain ⟨hc, hp⟩ := hp
  refine wq_getQ (j := 49) rfl hc ?_
  refine wp_go 5 (pc' := 104) (L' := [some (.ref l0), some (.int l1), some (.int l2), some (.int l3), some (.int l4), some (.int s0), none, none, none, none]) (st' := [.int (((2 : Int32) * l1) + (1 : Int32)), .ref (zQ M l0 49)]) (M' := M) rfl ?_
  obtain ⟨hc, hp⟩ := hp
  refine wq_iald rfl hc ?_
  refine wp_go 1 (pc' := 106) (L' := [some (.ref l0), some (.int l1), some (.int l2), some (.int l3), some (.int l4), some (.int s0), none, none, none, none]) (st' := [.ref l0, .int (zI M (zQ M l0 49) (((2 : Int32) * l1) + (1 : Int32)).toNatClampNeg)]) (M' := M) rfl ?_
  obtain ⟨hc, hp⟩ := hp
  refine wq_getQ (j := 49) rfl hc ?_
  refine wp_go 5 (pc' := 114) (L' := [some (.ref l0), some (.int l1), some (.int l2), some (.int l3), some (.int l4), some (.int s0), none, none, none, none]) (st' := [.int (((2 : Int32) * l2) + (1 : Int32)), .ref (zQ M l0 49), .int (zI M (zQ M l0 49) (((2 : Int32) * l1) + (1 : Int32)).toNatClampNeg)]) (M' := M) rfl ?_
  obtain ⟨hc, hp⟩ := hp
  refine wq_iald rfl hc ?_
  refine wp_ic_ge (t := 131) rfl rfl (fun hc => ?_) (fun hc => ?_)
  · rw [if_pos hc] at hQ
    replace hp := hp.1 hc
    refine wp_go 1 (pc' := 132) (L' := [some (.ref l0), some (.int l1), some (.int l2), some (.int l3), some (.int l4), some (.int s0), none, none, none, none]) (st' := [.ref l0]) (M' := M) rfl ?_
    obtain ⟨hc, hp⟩ := hp
    refine wq_getQ (j := 49) rfl hc ?_
    refine wp_go 5 (pc' := 140) (L' := [some (.ref l0), some (.int l1), some (.int l2), some (.int l3), some (.int l4), some (.int s0), none, none, none, none]) (st' := [.int (((2 : Int32) * l2) + (1 : Int32)), .ref (zQ M l0 49)]) (M' := M) rfl ?_
    obtain ⟨hc, hp⟩ := hp
    refine wq_iald rfl hc ?_
    exact s163_141 n    l0 l1 l2 l3 l4 s0 (zI M (zQ M l0 49) (((2 : Int32) * l2) + (1 : Int32)).toNatClampNeg) M hp hQ
  · rw [if_neg hc] at hQ
    replace hp := hp.2 hc
    refine wp_go 1 (pc' := 119) (L' := [some (.ref l0), some (.int l1), some (.int l2), some (.int l3), some (.int l4), some (.int s0), none, none, none, none]) (st' := [.ref l0]) (M' := M) rfl ?_
    obtain ⟨hc, hp⟩ := hp
    refine wq_getQ (j := 49) rfl hc ?_
    refine wp_go 5 (pc' := 127) (L' := [some (.ref l0), some (.int l1), some (.int l2), some (.int l3), some (.int l4), some (.int s0), none, none, none, none]) (st' := [.int (((2 : Int32) * l1) + (1 : Int32)), .ref (zQ M l0 49)]) (M' := M) rfl ?_
    obtain ⟨hc, hp⟩ := hp
    refine wq_iald rfl hc ?_
    refine wp_go 1 (pc' := 141) (L' := [some (.ref l0), some (.int l1), some (.int l2), some (.int l3), some (.int l4), some (.int s0), none, none, none, none]) (st' := [.int (zI M (zQ M l0 49) (((2 : Int32) * l1) + (1 : Int32)).toNatClampNeg)]) (M' := M) rfl ?_
    exact s163_141 n    l0 l1 l2 l3 l4 s0 (zI M (zQ M l0 49) (((2 : Int32) * l1) + (1 : Int32)).toNatClampNeg) M hp hQ
def b163_51 (n : Nat)  (l0 : Nat) (l1 : Int32) (l2 : Int32) (l3 : Int32) (s0 : Int32) (M : zM) : Int32 × zM := (if (zI M (zQ M l0 49) ((2 : Int32) * l2).toNatClampNeg) ≤ (zI M (zQ M l0 49) ((2 : Int32) * l1).toNatClampNeg) then b163_93 n  l0 l1 l2 l3 (s0 - (1 : Int32)) (zI M (zQ M l0 49) ((2 : Int32) * l2).toNatClampNeg) M else b163_93 n  l0 l1 l2 l3 (s0 - (1 : Int32)) (zI M (zQ M l0 49) ((2 : Int32) * l1).toNatClampNeg) M)
def p163_51 (n : Nat)  (l0 : Nat) (l1 : Int32) (l2 : Int32) (l3 : Int32) (s0 : Int32) (M : zM) : Prop := (zHasQ 10 114 l0 M 49) ∧ ((zOkI (zQ M l0 49) ((2 : Int32) * l1) M) ∧ ((zHasQ 10 114 l0 M 49) ∧ ((zOkI (zQ M l0 49) ((2 : Int32) * l2) M) ∧ ((((zI M (zQ M l0 49) ((2 : Int32) * l2).toNatClampNeg) ≤ (zI M (zQ M l0 49) ((2 : Int32) * l1).toNatClampNeg) → (zHasQ 10 114 l0 M 49) ∧ ((zOkI (zQ M l0 49) ((2 : Int32) * l2) M) ∧ (p163_93 n  l0 l1 l2 l3 (s0 - (1 : Int32)) (zI M (zQ M l0 49) ((2 : Int32) * l2).toNatClampNeg) M))) ∧ (¬ (zI M (zQ M l0 49) ((2 : Int32) * l2).toNatClampNeg) ≤ (zI M (zQ M l0 49) ((2 : Int32) * l1).toNatClampNeg) → (zHasQ 10 114 l0 M 49) ∧ ((zOkI (zQ M l0 49) ((2 : Int32) * l1) M) ∧ (p163_93 n  l0 l1 l2 l3 (s0 - (1 : Int32)) (zI M (zQ M l0 49) ((2 : Int32) * l1).toNatClampNeg) M))))))))
theorem s163_51 (n : Nat)    (l0 : Nat) (l1 : Int32) (l2 : Int32) (l3 : Int32) (s0 : Int32) (M : zM) (hp : p163_51 n  l0 l1 l2 l3 s0 M) {Q : Option Value → zM → Prop} (hQ : ∀ r M1, zRI (b163_51 n  l0 l1 l2 l3 s0 M) r M1 → Q r M1) : zWP 163 51 [some (.ref l0), some (.int l1), some (.int l2), some (.int l3), none, none, none, none, none, none] [.int s0] M Q := by
  unfold b163_51 at hQ
  unfold p163_51 at hp
  refine wp_go 4 (pc' := 56) (L' := [some (.ref l0), some (.int l1), some (.int l2), some (.int l3), some (.int (s0 - (1 : Int32))), none, none, none, none, none]) (st' := [.ref l0]) (M' := M) rfl ?_
  obtain ⟨hc, hp⟩ := hp
  refine wq_getQ (j := 49) rfl hc ?_
  refine wp_go 3 (pc' := 62) (L' := [some (.ref l0), some (.int l1), some (.int l2), some (.int l3), some (.int (s0 - (1 : Int32))), none, none, none, none, none]) (st' := [.int ((2 : Int32) * l1), .ref (zQ M l0 49)]) (M' := M) rfl ?_
  obtain ⟨hc, hp⟩ := hp
  refine wq_iald rfl hc ?_
  refine wp_go 1 (pc' := 64) (L' := [some (.ref l0), some (.int l1), some (.int l2), some (.int l3), some (.int (s0 - (1 : Int32))), none, none, none, none, none]) (st' := [.ref l0, .int (zI M (zQ M l0 49) ((2 : Int32) * l1).toNatClampNeg)]) (M' := M) rfl ?_
  obtain ⟨hc, hp⟩ := hp
  refine wq_getQ (j := 49) rfl hc ?_
  refine wp_go 3 (pc' := 70) (L' := [some (.ref l0), some (.int l1), some (.int l2), some (.int l3), some (.int (s0 - (1 : Int32))), none, none, none, none, none]) (st' := [.int ((2 : Int32) * l2), .ref (zQ M l0 49), .int (zI M (zQ M l0 49) ((2 : Int32) * l1).toNatClampNeg)]) (M' := M) rfl ?_
  obtain ⟨hc, hp⟩ := hp
  refine wq_iald rfl hc ?_
  refine wp_ic_ge (t := 85) rfl rfl (fun hc => ?_) (fun hc => ?_)
  · rw [if_pos hc] at hQ
    replace hp := hp.1 hc
    refine wp_go 1 (pc' := 86) (L' := [some (.ref l0), some (.int l1), some (.int l2), some (.int l3), some (.int (s0 - (1 : Int32))), none, none, none, none, none]) (st' := [.ref l0]) (M' := M) rfl ?_
    obtain ⟨hc, hp⟩ := hp
    refine wq_getQ (j := 49) rfl hc ?_
    refine wp_go 3 (pc' := 92) (L' := [some (.ref l0), some (.int l1), some (.int l2), some (.int l3), some (.int (s0 - (1 : Int32))), none, none, none, none, none]) (st' := [.int ((2 : Int32) * l2), .ref (zQ M l0 49)]) (M' := M) rfl ?_
    obtain ⟨hc, hp⟩ := hp
    refine wq_iald rfl hc ?_
    exact s163_93 n    l0 l1 l2 l3 (s0 - (1 : Int32)) (zI M (zQ M l0 49) ((2 : Int32) * l2).toNatClampNeg) M hp hQ
  · rw [if_neg hc] at hQ
    replace hp := hp.2 hc
    refine wp_go 1 (pc' := 75) (L' := [some (.ref l0), some (.int l1), some (.int l2), some (.int l3), some (.int (s0 - (1 : Int32))), none, none, none, none, none]) (st' := [.ref l0]) (M' := M) rfl ?_
    obtain ⟨hc, hp⟩ := hp
    refine wq_getQ (j := 49) rfl hc ?_
    refine wp_go 3 (pc' := 81) (L' := [some (.ref l0), some (.int l1), some (.int l2), some (.int l3), some (.int (s0 - (1 : Int32))), none, none, none, none, none]) (st' := [.int ((2 : Int32) * l1), .ref (zQ M l0 49)]) (M' := M) rfl ?_
    obtain ⟨hc, hp⟩ := hp
    refine wq_iald rfl hc ?_
    refine wp_go 1 (pc' := 93) (L' := [some (.ref l0), some (.int l1), some (.int l2), some (.int l3), some (.int (s0 - (1 : Int32))), none, none, none, none, none]) (st' := [.int (zI M (zQ M l0 49) ((2 : Int32) * l1).toNatClampNeg)]) (M' := M) rfl ?_
    exact s163_93 n    l0 l1 l2 l3 (s0 - (1 : Int32)) (zI M (zQ M l0 49) ((2 : Int32) * l1).toNatClampNeg) M hp hQ
def b163_48 (n : Nat)  (l0 : Nat) (l1 : Int32) (l2 : Int32) (l3 : Int32) (s0 : Int32) (M : zM) : Int32 × zM := b163_51 n  l0 l1 l2 l3 (b162_0 n s0 M).1 (b162_0 n s0 M).2
def p163_48 (n : Nat)  (l0 : Nat) (l1 : Int32) (l2 : Int32) (l3 : Int32) (s0 : Int32) (M : zM) : Prop := (p162_0 n s0 M) ∧ (p163_51 n  l0 l1 l2 l3 (b162_0 n s0 M).1 (b162_0 n s0 M).2)
theorem s163_48 (n : Nat)    (l0 : Nat) (l1 : Int32) (l2 : Int32) (l3 : Int32) (s0 : Int32) (M : zM) (hp : p163_48 n  l0 l1 l2 l3 s0 M) {Q : Option Value → zM → Prop} (hQ : ∀ r M1, zRI (b163_48 n  l0 l1 l2 l3 s0 M) r M1 → Q r M1) : zWP 163 48 [some (.ref l0), some (.int l1), some (.int l2), some (.int l3), none, none, none, none, none, none] [.int s0] M Q := by
  unfold b163_48 at hQ
  unfold p163_48 at hp
  obtain ⟨hc, hp⟩ := hp
  refine wp_calli (v := (b162_0 n s0 M).1) (M1 := (b162_0 n s0 M).2) rfl rfl rfl rfl (s162_0 n s0 M hc (fun r M1 h => h)) ?_
  exact s163_51 n    l0 l1 l2 l3 (b162_0 n s0 M).1 (b162_0 n s0 M).2 hp hQ
def b163_22 (n : Nat)  (l0 : Nat) (l1 : Int32) (l2 : Int32) (s0 : Int32) (M : zM) : Int32 × zM := b163_48 n  l0 l1 l2 (s0 - (1 : Int32)) (b125_0 n (zI M (zQ M l0 48) (((2 : Int32) * l1) + (1 : Int32)).toNatClampNeg) (zI M (zQ M l0 48) (((2 : Int32) * l2) + (1 : Int32)).toNatClampNeg) M).1 (b125_0 n (zI M (zQ M l0 48) (((2 : Int32) * l1) + (1 : Int32)).toNatClampNeg) (zI M (zQ M l0 48) (((2 : Int32) * l2) + (1 : Int32)).toNatClampNeg) M).2
def p163_22 (n : Nat)  (l0 : Nat) (l1 : Int32) (l2 : Int32) (s0 : Int32) (M : zM) : Prop := (zHasQ 10 111 l0 M 48) ∧ ((zOkI (zQ M l0 48) (((2 : Int32) * l1) + (1 : Int32)) M) ∧ ((zHasQ 10 111 l0 M 48) ∧ ((zOkI (zQ M l0 48) (((2 : Int32) * l2) + (1 : Int32)) M) ∧ ((p125_0 n (zI M (zQ M l0 48) (((2 : Int32) * l1) + (1 : Int32)).toNatClampNeg) (zI M (zQ M l0 48) (((2 : Int32) * l2) + (1 : Int32)).toNatClampNeg) M) ∧ (p163_48 n  l0 l1 l2 (s0 - (1 : Int32)) (b125_0 n (zI M (zQ M l0 48) (((2 : Int32) * l1) + (1 : Int32)).toNatClampNeg) (zI M (zQ M l0 48) (((2 : Int32) * l2) + (1 : Int32)).toNatClampNeg) M).1 (b125_0 n (zI M (zQ M l0 48) (((2 : Int32) * l1) + (1 : Int32)).toNatClampNeg) (zI M (zQ M l0 48) (((2 : Int32) * l2) + (1 : Int32)).toNatClampNeg) M).2)))))
theorem s163_22 (n : Nat)    (l0 : Nat) (l1 : Int32) (l2 : Int32) (s0 : Int32) (M : zM) (hp : p163_22 n  l0 l1 l2 s0 M) {Q : Option Value → zM → Prop} (hQ : ∀ r M1, zRI (b163_22 n  l0 l1 l2 s0 M) r M1 → Q r M1) : zWP 163 22 [some (.ref l0), some (.int l1), some (.int l2), none, none, none, none, none, none, none] [.int s0] M Q := by
  unfold b163_22 at hQ
  unfold p163_22 at hp
  refine wp_go 4 (pc' := 26) (L' := [some (.ref l0), some (.int l1), some (.int l2), some (.int (s0 - (1 : Int32))), none, none, none, none, none, none]) (st' := [.ref l0]) (M' := M) rfl ?_
  obtain ⟨hc, hp⟩ := hp
  refine wq_getQ (j := 48) rfl hc ?_
  refine wp_go 5 (pc' := 34) (L' := [some (.ref l0), some (.int l1), some (.int l2), some (.int (s0 - (1 : Int32))), none, none, none, none, none, none]) (st' := [.int (((2 : Int32) * l1) + (1 : Int32)), .ref (zQ M l0 48)]) (M' := M) rfl ?_
  obtain ⟨hc, hp⟩ := hp
  refine wq_iald rfl hc ?_
  refine wp_go 1 (pc' := 36) (L' := [some (.ref l0), some (.int l1), some (.int l2), some (.int (s0 - (1 : Int32))), none, none, none, none, none, none]) (st' := [.ref l0, .int (zI M (zQ M l0 48) (((2 : Int32) * l1) + (1 : Int32)).toNatClampNeg)]) (M' := M) rfl ?_
  obtain ⟨hc, hp⟩ := hp
  refine wq_getQ (j := 48) rfl hc ?_
  refine wp_go 5 (pc' := 44) (L' := [some (.ref l0), some (.int l1), some (.int l2), some (.int (s0 - (1 : Int32))), none, none, none, none, none, none]) (st' := [.int (((2 : Int32) * l2) + (1 : Int32)), .ref (zQ M l0 48), .int (zI M (zQ M l0 48) (((2 : Int32) * l1) + (1 : Int32)).toNatClampNeg)]) (M' := M) rfl ?_
  obtain ⟨hc, hp⟩ := hp
  refine wq_iald rfl hc ?_
  obtain ⟨hc, hp⟩ := hp
  refine wp_calli (v := (b125_0 n (zI M (zQ M l0 48) (((2 : Int32) * l1) + (1 : Int32)).toNatClampNeg) (zI M (zQ M l0 48) (((2 : Int32) * l2) + (1 : Int32)).toNatClampNeg) M).1) (M1 := (b125_0 n (zI M (zQ M l0 48) (((2 : Int32) * l1) + (1 : Int32)).toNatClampNeg) (zI M (zQ M l0 48) (((2 : Int32) * l2) + (1 : Int32)).toNatClampNeg) M).2) rfl rfl rfl rfl (s125_0 n (zI M (zQ M l0 48) (((2 : Int32) * l1) + (1 : Int32)).toNatClampNeg) (zI M (zQ M l0 48) (((2 : Int32) * l2) + (1 : Int32)).toNatClampNeg) M hc (fun r M1 h => h)) ?_
  exact s163_48 n    l0 l1 l2 (s0 - (1 : Int32)) (b125_0 n (zI M (zQ M l0 48) (((2 : Int32) * l1) + (1 : Int32)).toNatClampNeg) (zI M (zQ M l0 48) (((2 : Int32) * l2) + (1 : Int32)).toNatClampNeg) M).1 (b125_0 n (zI M (zQ M l0 48) (((2 : Int32) * l1) + (1 : Int32)).toNatClampNeg) (zI M (zQ M l0 48) (((2 : Int32) * l2) + (1 : Int32)).toNatClampNeg) M).2 hp hQ
def b163_19 (n : Nat)  (l0 : Nat) (l1 : Int32) (l2 : Int32) (s0 : Int32) (M : zM) : Int32 × zM := b163_22 n  l0 l1 l2 (b162_0 n s0 M).1 (b162_0 n s0 M).2
def p163_19 (n : Nat)  (l0 : Nat) (l1 : Int32) (l2 : Int32) (s0 : Int32) (M : zM) : Prop := (p162_0 n s0 M) ∧ (p163_22 n  l0 l1 l2 (b162_0 n s0 M).1 (b162_0 n s0 M).2)
theorem s163_19 (n : Nat)    (l0 : Nat) (l1 : Int32) (l2 : Int32) (s0 : Int32) (M : zM) (hp : p163_19 n  l0 l1 l2 s0 M) {Q : Option Value → zM → Prop} (hQ : ∀ r M1, zRI (b163_19 n  l0 l1 l2 s0 M) r M1 → Q r M1) : zWP 163 19 [some (.ref l0), some (.int l1), some (.int l2), none, none, none, none, none, none, none] [.int s0] M Q := by
  unfold b163_19 at hQ
  unfold p163_19 at hp
  obtain ⟨hc, hp⟩ := hp
  refine wp_calli (v := (b162_0 n s0 M).1) (M1 := (b162_0 n s0 M).2) rfl rfl rfl rfl (s162_0 n s0 M hc (fun r M1 h => h)) ?_
  exact s163_22 n    l0 l1 l2 (b162_0 n s0 M).1 (b162_0 n s0 M).2 hp hQ
def b163_0 (n : Nat)  (l0 : Nat) (l1 : Int32) (l2 : Int32) (M : zM) : Int32 × zM := b163_19 n  l0 l1 l2 (b125_0 n (zI M (zQ M l0 48) ((2 : Int32) * l1).toNatClampNeg) (zI M (zQ M l0 48) ((2 : Int32) * l2).toNatClampNeg) M).1 (b125_0 n (zI M (zQ M l0 48) ((2 : Int32) * l1).toNatClampNeg) (zI M (zQ M l0 48) ((2 : Int32) * l2).toNatClampNeg) M).2
def p163_0 (n : Nat)  (l0 : Nat) (l1 : Int32) (l2 : Int32) (M : zM) : Prop := (zHasQ 10 111 l0 M 48) ∧ ((zOkI (zQ M l0 48) ((2 : Int32) * l1) M) ∧ ((zHasQ 10 111 l0 M 48) ∧ ((zOkI (zQ M l0 48) ((2 : Int32) * l2) M) ∧ ((p125_0 n (zI M (zQ M l0 48) ((2 : Int32) * l1).toNatClampNeg) (zI M (zQ M l0 48) ((2 : Int32) * l2).toNatClampNeg) M) ∧ (p163_19 n  l0 l1 l2 (b125_0 n (zI M (zQ M l0 48) ((2 : Int32) * l1).toNatClampNeg) (zI M (zQ M l0 48) ((2 : Int32) * l2).toNatClampNeg) M).1 (b125_0 n (zI M (zQ M l0 48) ((2 : Int32) * l1).toNatClampNeg) (zI M (zQ M l0 48) ((2 : Int32) * l2).toNatClampNeg) M).2)))))
theorem s163_0 (n : Nat)    (l0 : Nat) (l1 : Int32) (l2 : Int32) (M : zM) (hp : p163_0 n  l0 l1 l2 M) {Q : Option Value → zM → Prop} (hQ : ∀ r M1, zRI (b163_0 n  l0 l1 l2 M) r M1 → Q r M1) : zWP 163 0 [some (.ref l0), some (.int l1), some (.int l2), none, none, none, none, none, none, none] [] M Q := by
  unfold b163_0 at hQ
  unfold p163_0 at hp
  refine wp_go 1 (pc' := 1) (L' := [some (.ref l0), some (.int l1), some (.int l2), none, none, none, none, none, none, none]) (st' := [.ref l0]) (M' := M) rfl ?_
  obtain ⟨hc, hp⟩ := hp
  refine wq_getQ (j := 48) rfl hc ?_
  refine wp_go 3 (pc' := 7) (L' := [some (.ref l0), some (.int l1), some (.int l2), none, none, none, none, none, none, none]) (st' := [.int ((2 : Int32) * l1), .ref (zQ M l0 48)]) (M' := M) rfl ?_
  obtain ⟨hc, hp⟩ := hp
  refine wq_iald rfl hc ?_
  refine wp_go 1 (pc' := 9) (L' := [some (.ref l0), some (.int l1), some (.int l2), none, none, none, none, none, none, none]) (st' := [.ref l0, .int (zI M (zQ M l0 48) ((2 : Int32) * l1).toNatClampNeg)]) (M' := M) rfl ?_
  obtain ⟨hc, hp⟩ := hp
  refine wq_getQ (j := 48) rfl hc ?_
  refine wp_go 3 (pc' := 15) (L' := [some (.ref l0), some (.int l1), some (.int l2), none, none, none, none, none, none, none]) (st' := [.int ((2 : Int32) * l2), .ref (zQ M l0 48), .int (zI M (zQ M l0 48) ((2 : Int32) * l1).toNatClampNeg)]) (M' := M) rfl ?_
  obtain ⟨hc, hp⟩ := hp
  refine wq_iald rfl hc ?_
  obtain ⟨hc, hp⟩ := hp
  refine wp_calli (v := (b125_0 n (zI M (zQ M l0 48) ((2 : Int32) * l1).toNatClampNeg) (zI M (zQ M l0 48) ((2 : Int32) * l2).toNatClampNeg) M).1) (M1 := (b125_0 n (zI M (zQ M l0 48) ((2 : Int32) * l1).toNatClampNeg) (zI M (zQ M l0 48) ((2 : Int32) * l2).toNatClampNeg) M).2) rfl rfl rfl rfl (s125_0 n (zI M (zQ M l0 48) ((2 : Int32) * l1).toNatClampNeg) (zI M (zQ M l0 48) ((2 : Int32) * l2).toNatClampNeg) M hc (fun r M1 h => h)) ?_
  exact s163_19 n    l0 l1 l2 (b125_0 n (zI M (zQ M l0 48) ((2 : Int32) * l1).toNatClampNeg) (zI M (zQ M l0 48) ((2 : Int32) * l2).toNatClampNeg) M).1 (b125_0 n (zI M (zQ M l0 48) ((2 : Int32) * l1).toNatClampNeg) (zI M (zQ M l0 48) ((2 : Int32) * l2).toNatClampNeg) M).2 hp hQ
