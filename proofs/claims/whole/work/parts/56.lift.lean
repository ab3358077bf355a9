/-! X12_through -/
def b180_136 (n : Nat) (k2 : Nat → Int32 → Int32 → zM → zM) (k14 : Nat → Int32 → Int32 → Int32 → zM → zM) (l0 : Nat) (l1 : Int32) (l2 : Int32) (l3 : Int32) (M : zM) : zM := k14 l0 l1 l2 (l3 + Int32.ofInt 1) M
def p180_136 (n : Nat) (q2 : Nat → Int32 → Int32 → zM → Prop) (q14 : Nat → Int32 → Int32 → Int32 → zM → Prop) (l0 : Nat) (l1 : Int32) (l2 : Int32) (l3 : Int32) (M : zM) : Prop := q14 l0 l1 l2 (l3 + Int32.ofInt 1) M
theorem s180_136 (n : Nat) (k2 : Nat → Int32 → Int32 → zM → zM) (k14 : Nat → Int32 → Int32 → Int32 → zM → zM) (q2 : Nat → Int32 → Int32 → zM → Prop) (q14 : Nat → Int32 → Int32 → Int32 → zM → Prop) (h2 : ∀ (l0 : Nat) (l1 : Int32) (l2 : Int32) (M : zM), q2 l0 l1 l2 M → ∀ {Q : Option Value → zM → Prop}, (∀ r M1, zRV (k2 l0 l1 l2 M) r M1 → Q r M1) → zWP 180 2 [some (.ref l0), some (.int l1), some (.int l2), none, none, none, none] [] M Q) (h14 : ∀ (l0 : Nat) (l1 : Int32) (l2 : Int32) (l3 : Int32) (M : zM), q14 l0 l1 l2 l3 M → ∀ {Q : Option Value → zM → Prop}, (∀ r M1, zRV (k14 l0 l1 l2 l3 M) r M1 → Q r M1) → zWP 180 14 [some (.ref l0), some (.int l1), some (.int l2), some (.int l3), none, none, none] [] M Q) (l0 : Nat) (l1 : Int32) (l2 : Int32) (l3 : Int32) (M : zM) (hp : p180_136 n q2 q14 l0 l1 l2 l3 M) {Q : Option Value → zM → Prop} (hQ : ∀ r M1, zRV (b180_136 n k2 k14 l0 l1 l2 l3 M) r M1 → Q r M1) : zWP 180 136 [some (.ref l0), some (.int l1), some (.int l2), some (.int l3), none, none, none] [] M Q := by
  unfold b180_136 at hQ
  unfold p180_136 at hp
  refine wp_go 2 (pc' := 14) (L' := [some (.ref l0), some (.int l1), some (.int l2), some (.int (l3 + Int32.ofInt 1)), none, none, none]) (st' := []) (M' := M) rfl ?_
  exact h14 l0 l1 l2 (l3 + Int32.ofInt 1) M hp hQ
def b180_118 (n : Nat) (k2 : Nat → Int32 → Int32 → zM → zM) (k14 : Nat → Int32 → Int32 → Int32 → zM → zM) (k37 : Nat → Int32 → Int32 → Int32 → Int32 → zM → zM) (k51 : Nat → Int32 → Int32 → Int32 → Int32 → Int32 → zM → zM) (k65 : Nat → Int32 → Int32 → Int32 → Int32 → Int32 → Int32 → zM → zM) (l0 : Nat) (l1 : Int32) (l2 : Int32) (l3 : Int32) (l4 : Int32) (l5 : Int32) (l6 : Int32) (M : zM) : zM := k65 l0 l1 l2 l3 l4 l5 (l6 + Int32.ofInt 1) M
def p180_118 (n : Nat) (q2 : Nat → Int32 → Int32 → zM → Prop) (q14 : Nat → Int32 → Int32 → Int32 → zM → Prop) (q37 : Nat → Int32 → Int32 → Int32 → Int32 → zM → Prop) (q51 : Nat → Int32 → Int32 → Int32 → Int32 → Int32 → zM → Prop) (q65 : Nat → Int32 → Int32 → Int32 → Int32 → Int32 → Int32 → zM → Prop) (l0 : Nat) (l1 : Int32) (l2 : Int32) (l3 : Int32) (l4 : Int32) (l5 : Int32) (l6 : Int32) (M : zM) : Prop := q65 l0 l1 l2 l3 l4 l5 (l6 + Int32.ofInt 1) M
theorem s180_118 (n : Nat) (k2 : Nat → Int32 → Int32 → zM → zM) (k14 : Nat → Int32 → Int32 → Int32 → zM → zM) (k37 : Nat → Int32 → Int32 → Int32 → Int32 → zM → zM) (k51 : Nat → Int32 → Int32 → Int32 → Int32 → Int32 → zM → zM) (k65 : Nat → Int32 → Int32 → Int32 → Int32 → Int32 → Int32 → zM → zM) (q2 : Nat → Int32 → Int32 → zM → Prop) (q14 : Nat → Int32 → Int32 → Int32 → zM → Prop) (q37 : Nat → Int32 → Int32 → Int32 → Int32 → zM → Prop) (q51 : Nat → Int32 → Int32 → Int32 → Int32 → Int32 → zM → Prop) (q65 : Nat → Int32 → Int32 → Int32 → Int32 → Int32 → Int32 → zM → Prop) (h2 : ∀ (l0 : Nat) (l1 : Int32) (l2 : Int32) (M : zM), q2 l0 l1 l2 M → ∀ {Q : Option Value → zM → Prop}, (∀ r M1, zRV (k2 l0 l1 l2 M) r M1 → Q r M1) → zWP 180 2 [some (.ref l0), some (.int l1), some (.int l2), none, none, none, none] [] M Q) (h14 : ∀ (l0 : Nat) (l1 : Int32) (l2 : Int32) (l3 : Int32) (M : zM), q14 l0 l1 l2 l3 M → ∀ {Q : Option Value → zM → Prop}, (∀ r M1, zRV (k14 l0 l1 l2 l3 M) r M1 → Q r M1) → zWP 180 14 [some (.ref l0), some (.int l1), some (.int l2), some (.int l3), none, none, none] [] M Q) (h37 : ∀ (l0 : Nat) (l1 : Int32) (l2 : Int32) (l3 : Int32) (l4 : Int32) (M : zM), q37 l0 l1 l2 l3 l4 M → ∀ {Q : Option Value → zM → Prop}, (∀ r M1, zRV (k37 l0 l1 l2 l3 l4 M) r M1 → Q r M1) → zWP 180 37 [some (.ref l0), some (.int l1), some (.int l2), some (.int l3), some (.int l4), none, none] [] M Q) (h51 : ∀ (l0 : Nat) (l1 : Int32) (l2 : Int32) (l3 : Int32) (l4 : Int32) (l5 : Int32) (M : zM), q51 l0 l1 l2 l3 l4 l5 M → ∀ {Q : Option Value → zM → Prop}, (∀ r M1, zRV (k51 l0 l1 l2 l3 l4 l5 M) r M1 → Q r M1) → zWP 180 51 [some (.ref l0), some (.int l1), some (.int l2), some (.int l3), some (.int l4), some (.int l5), none] [] M Q) (h65 : ∀ (l0 : Nat) (l1 : Int32) (l2 : Int32) (l3 : Int32) (l4 : Int32) (l5 : Int32) (l6 : Int32) (M : zM), q65 l0 l1 l2 l3 l4 l5 l6 M → ∀ {Q : Option Value → zM → Prop}, (∀ r M1, zRV (k65 l0 l1 l2 l3 l4 l5 l6 M) r M1 → Q r M1) → zWP 180 65 [some (.ref l0), some (.int l1), some (.int l2), some (.int l3), some (.int l4), some (.int l5), some (.int l6)] [] M Q) (l0 : Nat) (l1 : Int32) (l2 : Int32) (l3 : Int32) (l4 : Int32) (l5 : Int32) (l6 : Int32) (M : zM) (hp : p180_118 n q2 q14 q37 q51 q65 l0 l1 l2 l3 l4 l5 l6 M) {Q : Option Value → zM → Prop} (hQ : ∀ r M1, zRV (b180_118 n k2 k14 k37 k51 k65 l0 l1 l2 l3 l4 l5 l6 M) r M1 → Q r M1) : zWP 180 118 [some (.ref l0), some (.int l1), some (.int l2), some (.int l3), some (.int l4), some (.int l5), some (.int l6)] [] M Q := by
  unfold b180_118 at hQ
  unfold p180_118 at hp
  refine wp_go 2 (pc' := 65) (L' := [some (.ref l0), some (.int l1), some (.int l2), some (.int l3), some (.int l4), some (.int l5), some (.int (l6 + Int32.ofInt 1))]) (st' := []) (M' := M) rfl ?_
  exact h65 l0 l1 l2 l3 l4 l5 (l6 + Int32.ofInt 1) M hp hQ
def b180_98 (n : Nat) (k2 : Nat → Int32 → Int32 → zM → zM) (k14 : Nat → Int32 → Int32 → Int32 → zM → zM) (k37 : Nat → Int32 → Int32 → Int32 → Int32 → zM → zM) (k51 : Nat → Int32 → Int32 → Int32 → Int32 → Int32 → zM → zM) (k65 : Nat → Int32 → Int32 → Int32 → Int32 → Int32 → Int32 → zM → zM) (l0 : Nat) (l1 : Int32) (l2 : Int32) (l3 : Int32) (l4 : Int32) (l5 : Int32) (l6 : Int32) (s0 : Int32) (M : zM) : zM := (if s0 = 0 then b180_118 n k2 k14 k37 k51 k65 l0 l1 l2 l3 l4 l5 l6 M else (if l1 = (1 : Int32) then b180_118 n k2 k14 k37 k51 k65 l0 l1 l2 l3 l4 l5 l6 (b181_0 n l0 l2 l4 l3 l5 l6 M) else b180_118 n k2 k14 k37 k51 k65 l0 l1 l2 l3 l4 l5 l6 M))
def p180_98 (n : Nat) (q2 : Nat → Int32 → Int32 → zM → Prop) (q14 : Nat → Int32 → Int32 → Int32 → zM → Prop) (q37 : Nat → Int32 → Int32 → Int32 → Int32 → zM → Prop) (q51 : Nat → Int32 → Int32 → Int32 → Int32 → Int32 → zM → Prop) (q65 : Nat → Int32 → Int32 → Int32 → Int32 → Int32 → Int32 → zM → Prop) (l0 : Nat) (l1 : Int32) (l2 : Int32) (l3 : Int32) (l4 : Int32) (l5 : Int32) (l6 : Int32) (s0 : Int32) (M : zM) : Prop := ((s0 = 0 → p180_118 n q2 q14 q37 q51 q65 l0 l1 l2 l3 l4 l5 l6 M) ∧ (¬ s0 = 0 → ((l1 = (1 : Int32) → (zHasC 180 323 l0 M 181 5) ∧ ((p181_0 n l0 l2 l4 l3 l5 l6 M) ∧ (p180_118 n q2 q14 q37 q51 q65 l0 l1 l2 l3 l4 l5 l6 (b181_0 n l0 l2 l4 l3 l5 l6 M)))) ∧ (¬ l1 = (1 : Int32) → p180_118 n q2 q14 q37 q51 q65 l0 l1 l2 l3 l4 l5 l6 M))))
theorem s180_98 (n : Nat) (k2 : Nat → Int32 → Int32 → zM → zM) (k14 : Nat → Int32 → Int32 → Int32 → zM → zM) (k37 : Nat → Int32 → Int32 → Int32 → Int32 → zM → zM) (k51 : Nat → Int32 → Int32 → Int32 → Int32 → Int32 → zM → zM) (k65 : Nat → Int32 → Int32 → Int32 → Int32 → Int32 → Int32 → zM → zM) (q2 : Nat → Int32 → Int32 → zM → Prop) (q14 : Nat → Int32 → Int32 → Int32 → zM → Prop) (q37 : Nat → Int32 → Int32 → Int32 → Int32 → zM → Prop) (q51 : Nat → Int32 → Int32 → Int32 → Int32 → Int32 → zM → Prop) (q65 : Nat → Int32 → Int32 → Int32 → Int32 → Int32 → Int32 → zM → Prop) (h2 : ∀ (l0 : Nat) (l1 : Int32) (l2 : Int32) (M : zM), q2 l0 l1 l2 M → ∀ {Q : Option Value → zM → Prop}, (∀ r M1, zRV (k2 l0 l1 l2 M) r M1 → Q r M1) → zWP 180 2 [some (.ref l0), some (.int l1), some (.int l2), none, none, none, none] [] M Q) (h14 : ∀ (l0 : Nat) (l1 : Int32) (l2 : Int32) (l3 : Int32) (M : zM), q14 l0 l1 l2 l3 M → ∀ {Q : Option Value → zM → Prop}, (∀ r M1, zRV (k14 l0 l1 l2 l3 M) r M1 → Q r M1) → zWP 180 14 [some (.ref l0), some (.int l1), some (.int l2), some (.int l3), none, none, none] [] M Q) (h37 : ∀ (l0 : Nat) (l1 : Int32) (l2 : Int32) (l3 : Int32) (l4 : Int32) (M : zM), q37 l0 l1 l2 l3 l4 M → ∀ {Q : Option Value → zM → Prop}, (∀ r M1, zRV (k37 l0 l1 l2 l3 l4 M) r M1 → Q r M1) → zWP 180 37 [some (.ref l0), some (.int l1), some (.int l2), some (.int l3), some (.int l4), none, none] [] M Q) (h51 : ∀ (l0 : Nat) (l1 : Int32) (l2 : Int32) (l3 : Int32) (l4 : Int32) (l5 : Int32) (M : zM), q51 l0 l1 l2 l3 l4 l5 M → ∀ {Q : Option Value → zM → Prop}, (∀ r M1, zRV (k51 l0 l1 l2 l3 l4 l5 M) r M1 → Q r M1) → zWP 180 51 [some (.ref l0), some (.int l1), some (.int l2), some (.int l3), some (.int l4), some (.int l5), none] [] M Q) (h65 : ∀ (l0 : Nat) (l1 : Int32) (l2 : Int32) (l3 : Int32) (l4 : Int32) (l5 : Int32) (l6 : Int32) (M : zM), q65 l0 l1 l2 l3 l4 l5 l6 M → ∀ {Q : Option Value → zM → Prop}, (∀ r M1, zRV (k65 l0 l1 l2 l3 l4 l5 l6 M) r M1 → Q r M1) → zWP 180 65 [some (.ref l0), some (.int l1), some (.int l2), some (.int l3), some (.int l4), some (.int l5), some (.int l6)] [] M Q) (l0 : Nat) (l1 : Int32) (l2 : Int32) (l3 : Int32) (l4 : Int32) (l5 : Int32) (l6 : Int32) (s0 : Int32) (M : zM) (hp : p180_98 n q2 q14 q37 q51 q65 l0 l1 l2 l3 l4 l5 l6 s0 M) {Q : Option Value → zM → Prop} (hQ : ∀ r M1, zRV (b180_98 n k2 k14 k37 k51 k65 l0 l1 l2 l3 l4 l5 l6 s0 M) r M1 → Q r M1) : zWP 180 98 [some (.ref l0), some (.int l1), some (.int l2), some (.int l3), some (.int l4), some (.int l5), some (.int l6)] [.int s0] M Q := by
  unfold b180_98 at hQ
  unfold p180_98 at hp
  refine wp_if_eq (t := 118) rfl rfl (fun hc => ?_) (fun hc => ?_)
  · rw [if_pos hc] at hQ
    replace hp := hp.1 hc
    exact s180_118 n k2 k14 k37 k51 k65 q2 q14 q37 q51 q65 h2 h14 h37 h51 h65 l0 l1 l2 l3 l4 l5 l6 M hp hQ
  · rw [if_neg hc] at hQ
    replace hp := hp.2 hc
    refine wp_go 2 (pc' := 103) (L' := [some (.ref l0), some (.int l1), some (.int l2), some (.int l3), some (.int l4), some (.int l5), some (.int l6)]) (st' := [.int (1 : Int32), .int l1]) (M' := M) rfl ?_
    refine wp_ic_ne (t := 118) rfl rfl (fun hc => ?_) (fun hc => ?_)
    · rw [if_neg hc] at hQ
      replace hp := hp.2 hc
      exact s180_118 n k2 k14 k37 k51 k65 q2 q14 q37 q51 q65 h2 h14 h37 h51 h65 l0 l1 l2 l3 l4 l5 l6 M hp hQ
    · rw [if_pos hc] at hQ
      replace hp := hp.1 hc
      refine wp_go 5 (pc' := 113) (L' := [some (.ref l0), some (.int l1), some (.int l2), some (.int l3), some (.int l4), some (.int l5), some (.int l6)]) (st' := [.int l5, .int l3, .int l4, .int l2, .ref l0]) (M' := M) rfl ?_
      refine wp_go 1 (pc' := 115) (L' := [some (.ref l0), some (.int l1), some (.int l2), some (.int l3), some (.int l4), some (.int l5), some (.int l6)]) (st' := [.int l6, .int l5, .int l3, .int l4, .int l2, .ref l0]) (M' := M) rfl ?_
      obtain ⟨hv, hp⟩ := hp
      obtain ⟨hc, hp⟩ := hp
      refine wp_callv (M1 := (b181_0 n l0 l2 l4 l3 l5 l6 M)) rfl rfl rfl (zInv_v (np := 5) rfl rfl hv rfl) (s181_0 n l0 l2 l4 l3 l5 l6 M hc (fun r M1 h => h)) ?_
      exact s180_118 n k2 k14 k37 k51 k65 q2 q14 q37 q51 q65 h2 h14 h37 h51 h65 l0 l1 l2 l3 l4 l5 l6 (b181_0 n l0 l2 l4 l3 l5 l6 M) hp hQ
def b180_84 (n : Nat) (k2 : Nat → Int32 → Int32 → zM → zM) (k14 : Nat → Int32 → Int32 → Int32 → zM → zM) (k37 : Nat → Int32 → Int32 → Int32 → Int32 → zM → zM) (k51 : Nat → Int32 → Int32 → Int32 → Int32 → Int32 → zM → zM) (k65 : Nat → Int32 → Int32 → Int32 → Int32 → Int32 → Int32 → zM → zM) (l0 : Nat) (l1 : Int32) (l2 : Int32) (l3 : Int32) (l4 : Int32) (l5 : Int32) (l6 : Int32) (s0 : Int32) (M : zM) : zM := (if s0 = 0 then b180_118 n k2 k14 k37 k51 k65 l0 l1 l2 l3 l4 l5 l6 M else b180_98 n k2 k14 k37 k51 k65 l0 l1 l2 l3 l4 l5 l6 (b179_0 n l0 l2 l4 l3 l5 l1 M).1 (b179_0 n l0 l2 l4 l3 l5 l1 M).2)
def p180_84 (n : Nat) (q2 : Nat → Int32 → Int32 → zM → Prop) (q14 : Nat → Int32 → Int32 → Int32 → zM → Prop) (q37 : Nat → Int32 → Int32 → Int32 → Int32 → zM → Prop) (q51 : Nat → Int32 → Int32 → Int32 → Int32 → Int32 → zM → Prop) (q65 : Nat → Int32 → Int32 → Int32 → Int32 → Int32 → Int32 → zM → Prop) (l0 : Nat) (l1 : Int32) (l2 : Int32) (l3 : Int32) (l4 : Int32) (l5 : Int32) (l6 : Int32) (s0 : Int32) (M : zM) : Prop := ((s0 = 0 → p180_118 n q2 q14 q37 q51 q65 l0 l1 l2 l3 l4 l5 l6 M) ∧ (¬ s0 = 0 → (zHasC 180 320 l0 M 179 5) ∧ ((p179_0 n l0 l2 l4 l3 l5 l1 M) ∧ (p180_98 n q2 q14 q37 q51 q65 l0 l1 l2 l3 l4 l5 l6 (b179_0 n l0 l2 l4 l3 l5 l1 M).1 (b179_0 n l0 l2 l4 l3 l5 l1 M).2))))
theorem s180_84 (n : Nat) (k2 : Nat → Int32 → Int32 → zM → zM) (k14 : Nat → Int32 → Int32 → Int32 → zM → zM) (k37 : Nat → Int32 → Int32 → Int32 → Int32 → zM → zM) (k51 : Nat → Int32 → Int32 → Int32 → Int32 → Int32 → zM → zM) (k65 : Nat → Int32 → Int32 → Int32 → Int32 → Int32 → Int32 → zM → zM) (q2 : Nat → Int32 → Int32 → zM → Prop) (q14 : Nat → Int32 → Int32 → Int32 → zM → Prop) (q37 : Nat → Int32 → Int32 → Int32 → Int32 → zM → Prop) (q51 : Nat → Int32 → Int32 → Int32 → Int32 → Int32 → zM → Prop) (q65 : Nat → Int32 → Int32 → Int32 → Int32 → Int32 → Int32 → zM → Prop) (h2 : ∀ (l0 : Nat) (l1 : Int32) (l2 : Int32) (M : zM), q2 l0 l1 l2 M → ∀ {Q : Option Value → zM → Prop}, (∀ r M1, zRV (k2 l0 l1 l2 M) r M1 → Q r M1) → zWP 180 2 [some (.ref l0), some (.int l1), some (.int l2), none, none, none, none] [] M Q) (h14 : ∀ (l0 : Nat) (l1 : Int32) (l2 : Int32) (l3 : Int32) (M : zM), q14 l0 l1 l2 l3 M → ∀ {Q : Option Value → zM → Prop}, (∀ r M1, zRV (k14 l0 l1 l2 l3 M) r M1 → Q r M1) → zWP 180 14 [some (.ref l0), some (.int l1), some (.int l2), some (.int l3), none, none, none] [] M Q) (h37 : ∀ (l0 : Nat) (l1 : Int32) (l2 : Int32) (l3 : Int32) (l4 : Int32) (M : zM), q37 l0 l1 l2 l3 l4 M → ∀ {Q : Option Value → zM → Prop}, (∀ r M1, zRV (k37 l0 l1 l2 l3 l4 M) r M1 → Q r M1) → zWP 180 37 [some (.ref l0), some (.int l1), some (.int l2), some (.int l3), some (.int l4), none, none] [] M Q) (h51 : ∀ (l0 : Nat) (l1 : Int32) (l2 : Int32) (l3 : Int32) (l4 : Int32) (l5 : Int32) (M : zM), q51 l0 l1 l2 l3 l4 l5 M → ∀ {Q : Option Value → zM → Prop}, (∀ r M1, zRV (k51 l0 l1 l2 l3 l4 l5 M) r M1 → Q r M1) → zWP 180 51 [some (.ref l0), some (.int l1), some (.int l2), some (.int l3), some (.int l4), some (.int l5), none] [] M Q) (h65 : ∀ (l0 : Nat) (l1 : Int32) (l2 : Int32) (l3 : Int32) (l4 : Int32) (l5 : Int32) (l6 : Int32) (M : zM), q65 l0 l1 l2 l3 l4 l5 l6 M → ∀ {Q : Option Value → zM → Prop}, (∀ r M1, zRV (k65 l0 l1 l2 l3 l4 l5 l6 M) r M1 → Q r M1) → zWP 180 65 [some (.ref l0), some (.int l1), some (.int l2), some (.int l3), some (.int l4), some (.int l5), some (.int l6)] [] M Q) (l0 : Nat) (l1 : Int32) (l2 : Int32) (l3 : Int32) (l4 : Int32) (l5 : Int32) (l6 : Int32) (s0 : Int32) (M : zM) (hp : p180_84 n q2 q14 q37 q51 q65 l0 l1 l2 l3 l4 l5 l6 s0 M) {Q : Option Value → zM → Prop} (hQ : ∀ r M1, zRV (b180_84 n k2 k14 k37 k51 k65 l0 l1 l2 l3 l4 l5 l6 s0 M) r M1 → Q r M1) : zWP 180 84 [some (.ref l0), some (.int l1), some (.int l2), some (.int l3), some (.int l4), some (.int l5), some (.int l6)] [.int s0] M Q := by
  unfold b180_84 at hQ
  unfold p180_84 at hp
  refine wp_if_eq (t := 118) rfl rfl (fun hc => ?_) (fun hc => ?_)
  · rw [if_pos hc] at hQ
    replace hp := hp.1 hc
    exact s180_118 n k2 k14 k37 k51 k65 q2 q14 q37 q51 q65 h2 h14 h37 h51 h65 l0 l1 l2 l3 l4 l5 l6 M hp hQ
  · rw [if_neg hc] at hQ
    replace hp := hp.2 hc
    refine wp_go 5 (pc' := 94) (L' := [some (.ref l0), some (.int l1), some (.int l2), some (.int l3), some (.int l4), some (.int l5), some (.int l6)]) (st' := [.int l5, .int l3, .int l4, .int l2, .ref l0]) (M' := M) rfl ?_
    refine wp_go 1 (pc' := 95) (L' := [some (.ref l0), some (.int l1), some (.int l2), some (.int l3), some (.int l4), some (.int l5), some (.int l6)]) (st' := [.int l1, .int l5, .int l3, .int l4, .int l2, .ref l0]) (M' := M) rfl ?_
    obtain ⟨hv, hp⟩ := hp
    obtain ⟨hc, hp⟩ := hp
    refine wp_calli (v := (b179_0 n l0 l2 l4 l3 l5 l1 M).1) (M1 := (b179_0 n l0 l2 l4 l3 l5 l1 M).2) rfl rfl rfl (zInv_v (np := 5) rfl rfl hv rfl) (s179_0 n l0 l2 l4 l3 l5 l1 M hc (fun r M1 h => h)) ?_
    exact s180_98 n k2 k14 k37 k51 k65 q2 q14 q37 q51 q65 h2 h14 h37 h51 h65 l0 l1 l2 l3 l4 l5 l6 (b179_0 n l0 l2 l4 l3 l5 l1 M).1 (b179_0 n l0 l2 l4 l3 l5 l1 M).2 hp hQ
def c180_65 (n : Nat) (k2 : Nat → Int32 → Int32 → zM → zM) (k14 : Nat → Int32 → Int32 → Int32 → zM → zM) (k37 : Nat → Int32 → Int32 → Int32 → Int32 → zM → zM) (k51 : Nat → Int32 → Int32 → Int32 → Int32 → Int32 → zM → zM) (k65 : Nat → Int32 → Int32 → Int32 → Int32 → Int32 → Int32 → zM → zM) (l0 : Nat) (l1 : Int32) (l2 : Int32) (l3 : Int32) (l4 : Int32) (l5 : Int32) (l6 : Int32) (M : zM) : zM := (if (24 : Int32) ≤ l6 then k51 l0 l1 l2 l3 l4 (l5 + Int32.ofInt 1) M else b180_84 n k2 k14 k37 k51 k65 l0 l1 l2 l3 l4 l5 l6 (b148_0 n l0 l2 l4 l3 l5 l6 M).1 (b148_0 n l0 l2 l4 l3 l5 l6 M).2)
def d180_65 (n : Nat) (q2 : Nat → Int32 → Int32 → zM → Prop) (q14 : Nat → Int32 → Int32 → Int32 → zM → Prop) (q37 : Nat → Int32 → Int32 → Int32 → Int32 → zM → Prop) (q51 : Nat → Int32 → Int32 → Int32 → Int32 → Int32 → zM → Prop) (q65 : Nat → Int32 → Int32 → Int32 → Int32 → Int32 → Int32 → zM → Prop) (l0 : Nat) (l1 : Int32) (l2 : Int32) (l3 : Int32) (l4 : Int32) (l5 : Int32) (l6 : Int32) (M : zM) : Prop := (((24 : Int32) ≤ l6 → q51 l0 l1 l2 l3 l4 (l5 + Int32.ofInt 1) M) ∧ (¬ (24 : Int32) ≤ l6 → (zHasC 180 240 l0 M 148 5) ∧ ((p148_0 n l0 l2 l4 l3 l5 l6 M) ∧ (p180_84 n q2 q14 q37 q51 q65 l0 l1 l2 l3 l4 l5 l6 (b148_0 n l0 l2 l4 l3 l5 l6 M).1 (b148_0 n l0 l2 l4 l3 l5 l6 M).2))))
theorem t180_65 (n : Nat) (k2 : Nat → Int32 → Int32 → zM → zM) (k14 : Nat → Int32 → Int32 → Int32 → zM → zM) (k37 : Nat → Int32 → Int32 → Int32 → Int32 → zM → zM) (k51 : Nat → Int32 → Int32 → Int32 → Int32 → Int32 → zM → zM) (k65 : Nat → Int32 → Int32 → Int32 → Int32 → Int32 → Int32 → zM → zM) (q2 : Nat → Int32 → Int32 → zM → Prop) (q14 : Nat → Int32 → Int32 → Int32 → zM → Prop) (q37 : Nat → Int32 → Int32 → Int32 → Int32 → zM → Prop) (q51 : Nat → Int32 → Int32 → Int32 → Int32 → Int32 → zM → Prop) (q65 : Nat → Int32 → Int32 → Int32 → Int32 → Int32 → Int32 → zM → Prop) (h2 : ∀ (l0 : Nat) (l1 : Int32) (l2 : Int32) (M : zM), q2 l0 l1 l2 M → ∀ {Q : Option Value → zM → Prop}, (∀ r M1, zRV (k2 l0 l1 l2 M) r M1 → Q r M1) → zWP 180 2 [some (.ref l0), some (.int l1), some (.int l2), none, none, none, none] [] M Q) (h14 : ∀ (l0 : Nat) (l1 : Int32) (l2 : Int32) (l3 : Int32) (M : zM), q14 l0 l1 l2 l3 M → ∀ {Q : Option Value → zM → Prop}, (∀ r M1, zRV (k14 l0 l1 l2 l3 M) r M1 → Q r M1) → zWP 180 14 [some (.ref l0), some (.int l1), some (.int l2), some (.int l3), none, none, none] [] M Q) (h37 : ∀ (l0 : Nat) (l1 : Int32) (l2 : Int32) (l3 : Int32) (l4 : Int32) (M : zM), q37 l0 l1 l2 l3 l4 M → ∀ {Q : Option Value → zM → Prop}, (∀ r M1, zRV (k37 l0 l1 l2 l3 l4 M) r M1 → Q r M1) → zWP 180 37 [some (.ref l0), some (.int l1), some (.int l2), some (.int l3), some (.int l4), none, none] [] M Q) (h51 : ∀ (l0 : Nat) (l1 : Int32) (l2 : Int32) (l3 : Int32) (l4 : Int32) (l5 : Int32) (M : zM), q51 l0 l1 l2 l3 l4 l5 M → ∀ {Q : Option Value → zM → Prop}, (∀ r M1, zRV (k51 l0 l1 l2 l3 l4 l5 M) r M1 → Q r M1) → zWP 180 51 [some (.ref l0), some (.int l1), some (.int l2), some (.int l3), some (.int l4), some (.int l5), none] [] M Q) (h65 : ∀ (l0 : Nat) (l1 : Int32) (l2 : Int32) (l3 : Int32) (l4 : Int32) (l5 : Int32) (l6 : Int32) (M : zM), q65 l0 l1 l2 l3 l4 l5 l6 M → ∀ {Q : Option Value → zM → Prop}, (∀ r M1, zRV (k65 l0 l1 l2 l3 l4 l5 l6 M) r M1 → Q r M1) → zWP 180 65 [some (.ref l0), some (.int l1), some (.int l2), some (.int l3), some (.int l4), some (.int l5), some (.int l6)] [] M Q) (l0 : Nat) (l1 : Int32) (l2 : Int32) (l3 : Int32) (l4 : Int32) (l5 : Int32) (l6 : Int32) (M : zM) (hp : d180_65 n q2 q14 q37 q51 q65 l0 l1 l2 l3 l4 l5 l6 M) {Q : Option Value → zM → Prop} (hQ : ∀ r M1, zRV (c180_65 n k2 k14 k37 k51 k65 l0 l1 l2 l3 l4 l5 l6 M) r M1 → Q r M1) : zWP 180 65 [some (.ref l0), some (.int l1), some (.int l2), some (.int l3), some (.int l4), some (.int l5), some (.int l6)] [] M Q := by
  unfold c180_65 at hQ
  unfold d180_65 at hp
  refine wp_go 2 (pc' := 69) (L' := [some (.ref l0), some (.int l1), some (.int l2), some (.int l3), some (.int l4), some (.int l5), some (.int l6)]) (st' := [.int (24 : Int32), .int l6]) (M' := M) rfl ?_
  refine wp_ic_ge (t := 124) rfl rfl (fun hc => ?_) (fun hc => ?_)
  · rw [if_pos hc] at hQ
    replace hp := hp.1 hc
    refine wp_go 2 (pc' := 51) (L' := [some (.ref l0), some (.int l1), some (.int l2), some (.int l3), some (.int l4), some (.int (l5 + Int32.ofInt 1)), some (.int l6)]) (st' := []) (M' := M) rfl ?_
    refine wp_le [some (.ref l0), some (.int l1), some (.int l2), some (.int l3), some (.int l4), some (.int (l5 + Int32.ofInt 1)), none] (zLe_of (by simp [zLeB])) ?_
    exact h51 l0 l1 l2 l3 l4 (l5 + Int32.ofInt 1) M hp hQ
  · rw [if_neg hc] at hQ
    replace hp := hp.2 hc
    refine wp_go 5 (pc' := 79) (L' := [some (.ref l0), some (.int l1), some (.int l2), some (.int l3), some (.int l4), some (.int l5), some (.int l6)]) (st' := [.int l5, .int l3, .int l4, .int l2, .ref l0]) (M' := M) rfl ?_
    refine wp_go 1 (pc' := 81) (L' := [some (.ref l0), some (.int l1), some (.int l2), some (.int l3), some (.int l4), some (.int l5), some (.int l6)]) (st' := [.int l6, .int l5, .int l3, .int l4, .int l2, .ref l0]) (M' := M) rfl ?_
    obtain ⟨hv, hp⟩ := hp
    obtain ⟨hc, hp⟩ := hp
    refine wp_calli (v := (b148_0 n l0 l2 l4 l3 l5 l6 M).1) (M1 := (b148_0 n l0 l2 l4 l3 l5 l6 M).2) rfl rfl rfl (zInv_v (np := 5) rfl rfl hv rfl) (s148_0 n l0 l2 l4 l3 l5 l6 M hc (fun r M1 h => h)) ?_
    exact s180_84 n k2 k14 k37 k51 k65 q2 q14 q37 q51 q65 h2 h14 h37 h51 h65 l0 l1 l2 l3 l4 l5 l6 (b148_0 n l0 l2 l4 l3 l5 l6 M).1 (b148_0 n l0 l2 l4 l3 l5 l6 M).2 hp hQ
def b180_65 (n : Nat) (k2 : Nat → Int32 → Int32 → zM → zM) (k14 : Nat → Int32 → Int32 → Int32 → zM → zM) (k37 : Nat → Int32 → Int32 → Int32 → Int32 → zM → zM) (k51 : Nat → Int32 → Int32 → Int32 → Int32 → Int32 → zM → zM) : Nat → Nat → Int32 → Int32 → Int32 → Int32 → Int32 → Int32 → zM → zM
  | 0, _, _, _, _, _, _, _, M => M
  | k + 1, l0, l1, l2, l3, l4, l5, l6, M => c180_65 n k2 k14 k37 k51 (b180_65 n k2 k14 k37 k51 k) l0 l1 l2 l3 l4 l5 l6 M
def p180_65 (n : Nat) (q2 : Nat → Int32 → Int32 → zM → Prop) (q14 : Nat → Int32 → Int32 → Int32 → zM → Prop) (q37 : Nat → Int32 → Int32 → Int32 → Int32 → zM → Prop) (q51 : Nat → Int32 → Int32 → Int32 → Int32 → Int32 → zM → Prop) : Nat → Nat → Int32 → Int32 → Int32 → Int32 → Int32 → Int32 → zM → Prop
  | 0, _, _, _, _, _, _, _, _ => False
  | k + 1, l0, l1, l2, l3, l4, l5, l6, M => d180_65 n q2 q14 q37 q51 (p180_65 n q2 q14 q37 q51 k) l0 l1 l2 l3 l4 l5 l6 M
theorem s180_65 (n : Nat) (k2 : Nat → Int32 → Int32 → zM → zM) (k14 : Nat → Int32 → Int32 → Int32 → zM → zM) (k37 : Nat → Int32 → Int32 → Int32 → Int32 → zM → zM) (k51 : Nat → Int32 → Int32 → Int32 → Int32 → Int32 → zM → zM) (q2 : Nat → Int32 → Int32 → zM → Prop) (q14 : Nat → Int32 → Int32 → Int32 → zM → Prop) (q37 : Nat → Int32 → Int32 → Int32 → Int32 → zM → Prop) (q51 : Nat → Int32 → Int32 → Int32 → Int32 → Int32 → zM → Prop) (h2 : ∀ (l0 : Nat) (l1 : Int32) (l2 : Int32) (M : zM), q2 l0 l1 l2 M → ∀ {Q : Option Value → zM → Prop}, (∀ r M1, zRV (k2 l0 l1 l2 M) r M1 → Q r M1) → zWP 180 2 [some (.ref l0), some (.int l1), some (.int l2), none, none, none, none] [] M Q) (h14 : ∀ (l0 : Nat) (l1 : Int32) (l2 : Int32) (l3 : Int32) (M : zM), q14 l0 l1 l2 l3 M → ∀ {Q : Option Value → zM → Prop}, (∀ r M1, zRV (k14 l0 l1 l2 l3 M) r M1 → Q r M1) → zWP 180 14 [some (.ref l0), some (.int l1), some (.int l2), some (.int l3), none, none, none] [] M Q) (h37 : ∀ (l0 : Nat) (l1 : Int32) (l2 : Int32) (l3 : Int32) (l4 : Int32) (M : zM), q37 l0 l1 l2 l3 l4 M → ∀ {Q : Option Value → zM → Prop}, (∀ r M1, zRV (k37 l0 l1 l2 l3 l4 M) r M1 → Q r M1) → zWP 180 37 [some (.ref l0), some (.int l1), some (.int l2), some (.int l3), some (.int l4), none, none] [] M Q) (h51 : ∀ (l0 : Nat) (l1 : Int32) (l2 : Int32) (l3 : Int32) (l4 : Int32) (l5 : Int32) (M : zM), q51 l0 l1 l2 l3 l4 l5 M → ∀ {Q : Option Value → zM → Prop}, (∀ r M1, zRV (k51 l0 l1 l2 l3 l4 l5 M) r M1 → Q r M1) → zWP 180 51 [some (.ref l0), some (.int l1), some (.int l2), some (.int l3), some (.int l4), some (.int l5), none] [] M Q) : ∀ (k : Nat) (l0 : Nat) (l1 : Int32) (l2 : Int32) (l3 : Int32) (l4 : Int32) (l5 : Int32) (l6 : Int32) (M : zM), p180_65 n q2 q14 q37 q51 k l0 l1 l2 l3 l4 l5 l6 M → ∀ {Q : Option Value → zM → Prop}, (∀ r M1, zRV (b180_65 n k2 k14 k37 k51 k l0 l1 l2 l3 l4 l5 l6 M) r M1 → Q r M1) → zWP 180 65 [some (.ref l0), some (.int l1), some (.int l2), some (.int l3), some (.int l4), some (.int l5), some (.int l6)] [] M Q
  | 0, _, _, _, _, _, _, _, _, h, _, _ => h.elim
  | k + 1, l0, l1, l2, l3, l4, l5, l6, M, h, _, hQ => t180_65 n k2 k14 k37 k51 (b180_65 n k2 k14 k37 k51 k) q2 q14 q37 q51 (p180_65 n q2 q14 q37 q51 k) h2 h14 h37 h51 (s180_65 n k2 k14 k37 k51 q2 q14 q37 q51 h2 h14 h37 h51 k) l0 l1 l2 l3 l4 l5 l6 M h hQ
def c180_51 (n : Nat) (k2 : Nat → Int32 → Int32 → zM → zM) (k14 : Nat → Int32 → Int32 → Int32 → zM → zM) (k37 : Nat → Int32 → Int32 → Int32 → Int32 → zM → zM) (k51 : Nat → Int32 → Int32 → Int32 → Int32 → Int32 → zM → zM) (l0 : Nat) (l1 : Int32) (l2 : Int32) (l3 : Int32) (l4 : Int32) (l5 : Int32) (M : zM) : zM := (if (zI M (zQ M l0 2) l3.toNatClampNeg) ≤ l5 then k37 l0 l1 l2 l3 (l4 + Int32.ofInt 1) M else b180_65 n k2 k14 k37 k51 n l0 l1 l2 l3 l4 l5 (0 : Int32) M)
def d180_51 (n : Nat) (q2 : Nat → Int32 → Int32 → zM → Prop) (q14 : Nat → Int32 → Int32 → Int32 → zM → Prop) (q37 : Nat → Int32 → Int32 → Int32 → Int32 → zM → Prop) (q51 : Nat → Int32 → Int32 → Int32 → Int32 → Int32 → zM → Prop) (l0 : Nat) (l1 : Int32) (l2 : Int32) (l3 : Int32) (l4 : Int32) (l5 : Int32) (M : zM) : Prop := (zHasQ 10 13 l0 M 2) ∧ ((zOkI (zQ M l0 2) l3 M) ∧ ((((zI M (zQ M l0 2) l3.toNatClampNeg) ≤ l5 → q37 l0 l1 l2 l3 (l4 + Int32.ofInt 1) M) ∧ (¬ (zI M (zQ M l0 2) l3.toNatClampNeg) ≤ l5 → p180_65 n q2 q14 q37 q51 n l0 l1 l2 l3 l4 l5 (0 : Int32) M))))
theorem t180_51 (n : Nat) (k2 : Nat → Int32 → Int32 → zM → zM) (k14 : Nat → Int32 → Int32 → Int32 → zM → zM) (k37 : Nat → Int32 → Int32 → Int32 → Int32 → zM → zM) (k51 : Nat → Int32 → Int32 → Int32 → Int32 → Int32 → zM → zM) (q2 : Nat → Int32 → Int32 → zM → Prop) (q14 : Nat → Int32 → Int32 → Int32 → zM → Prop) (q37 : Nat → Int32 → Int32 → Int32 → Int32 → zM → Prop) (q51 : Nat → Int32 → Int32 → Int32 → Int32 → Int32 → zM → Prop) (h2 : ∀ (l0 : Nat) (l1 : Int32) (l2 : Int32) (M : zM), q2 l0 l1 l2 M → ∀ {Q : Option Value → zM → Prop}, (∀ r M1, zRV (k2 l0 l1 l2 M) r M1 → Q r M1) → zWP 180 2 [some (.ref l0), some (.int l1), some (.int l2), none, none, none, none] [] M Q) (h14 : ∀ (l0 : Nat) (l1 : Int32) (l2 : Int32) (l3 : Int32) (M : zM), q14 l0 l1 l2 l3 M → ∀ {Q : Option Value → zM → Prop}, (∀ r M1, zRV (k14 l0 l1 l2 l3 M) r M1 → Q r M1) → zWP 180 14 [some (.ref l0), some (.int l1), some (.int l2), some (.int l3), none, none, none] [] M Q) (h37 : ∀ (l0 : Nat) (l1 : Int32) (l2 : Int32) (l3 : Int32) (l4 : Int32) (M : zM), q37 l0 l1 l2 l3 l4 M → ∀ {Q : Option Value → zM → Prop}, (∀ r M1, zRV (k37 l0 l1 l2 l3 l4 M) r M1 → Q r M1) → zWP 180 37 [some (.ref l0), some (.int l1), some (.int l2), some (.int l3), some (.int l4), none, none] [] M Q) (h51 : ∀ (l0 : Nat) (l1 : Int32) (l2 : Int32) (l3 : Int32) (l4 : Int32) (l5 : Int32) (M : zM), q51 l0 l1 l2 l3 l4 l5 M → ∀ {Q : Option Value → zM → Prop}, (∀ r M1, zRV (k51 l0 l1 l2 l3 l4 l5 M) r M1 → Q r M1) → zWP 180 51 [some (.ref l0), some (.int l1), some (.int l2), some (.int l3), some (.int l4), some (.int l5), none] [] M Q) (l0 : Nat) (l1 : Int32) (l2 : Int32) (l3 : Int32) (l4 : Int32) (l5 : Int32) (M : zM) (hp : d180_51 n q2 q14 q37 q51 l0 l1 l2 l3 l4 l5 M) {Q : Option Value → zM → Prop} (hQ : ∀ r M1, zRV (c180_51 n k2 k14 k37 k51 l0 l1 l2 l3 l4 l5 M) r M1 → Q r M1) : zWP 180 51 [some (.ref l0), some (.int l1), some (.int l2), some (.int l3), some (.int l4), some (.int l5), none] [] M Q := by
  unfold c180_51 at hQ
  unfold d180_51 at hp
  refine wp_go 2 (pc' := 54) (L' := [some (.ref l0), some (.int l1), some (.int l2), some (.int l3), some (.int l4), some (.int l5), none]) (st' := [.ref l0, .int l5]) (M' := M) rfl ?_
  obtain ⟨hc, hp⟩ := hp
  refine wq_getQ (j := 2) rfl hc ?_
  refine wp_go 1 (pc' := 58) (L' := [some (.ref l0), some (.int l1), some (.int l2), some (.int l3), some (.int l4), some (.int l5), none]) (st' := [.int l3, .ref (zQ M l0 2), .int l5]) (M' := M) rfl ?_
  obtain ⟨hc, hp⟩ := hp
  refine wq_iald rfl hc ?_
  refine wp_ic_ge (t := 130) rfl rfl (fun hc => ?_) (fun hc => ?_)
  · rw [if_pos hc] at hQ
    replace hp := hp.1 hc
    refine wp_go 2 (pc' := 37) (L' := [some (.ref l0), some (.int l1), some (.int l2), some (.int l3), some (.int (l4 + Int32.ofInt 1)), some (.int l5), none]) (st' := []) (M' := M) rfl ?_
    refine wp_le [some (.ref l0), some (.int l1), some (.int l2), some (.int l3), some (.int (l4 + Int32.ofInt 1)), none, none] (zLe_of (by simp [zLeB])) ?_
    exact h37 l0 l1 l2 l3 (l4 + Int32.ofInt 1) M hp hQ
  · rw [if_neg hc] at hQ
    replace hp := hp.2 hc
    refine wp_go 2 (pc' := 65) (L' := [some (.ref l0), some (.int l1), some (.int l2), some (.int l3), some (.int l4), some (.int l5), some (.int (0 : Int32))]) (st' := []) (M' := M) rfl ?_
    exact s180_65 n k2 k14 k37 k51 q2 q14 q37 q51 h2 h14 h37 h51 n l0 l1 l2 l3 l4 l5 (0 : Int32) M hp hQ
def b180_51 (n : Nat) (k2 : Nat → Int32 → Int32 → zM → zM) (k14 : Nat → Int32 → Int32 → Int32 → zM → zM) (k37 : Nat → Int32 → Int32 → Int32 → Int32 → zM → zM) : Nat → Nat → Int32 → Int32 → Int32 → Int32 → Int32 → zM → zM
  | 0, _, _, _, _, _, _, M => M
  | k + 1, l0, l1, l2, l3, l4, l5, M => c180_51 n k2 k14 k37 (b180_51 n k2 k14 k37 k) l0 l1 l2 l3 l4 l5 M
def p180_51 (n : Nat) (q2 : Nat → Int32 → Int32 → zM → Prop) (q14 : Nat → Int32 → Int32 → Int32 → zM → Prop) (q37 : Nat → Int32 → Int32 → Int32 → Int32 → zM → Prop) : Nat → Nat → Int32 → Int32 → Int32 → Int32 → Int32 → zM → Prop
  | 0, _, _, _, _, _, _, _ => False
  | k + 1, l0, l1, l2, l3, l4, l5, M => d180_51 n q2 q14 q37 (p180_51 n q2 q14 q37 k) l0 l1 l2 l3 l4 l5 M
theorem s180_51 (n : Nat) (k2 : Nat → Int32 → Int32 → zM → zM) (k14 : Nat → Int32 → Int32 → Int32 → zM → zM) (k37 : Nat → Int32 → Int32 → Int32 → Int32 → zM → zM) (q2 : Nat → Int32 → Int32 → zM → Prop) (q14 : Nat → Int32 → Int32 → Int32 → zM → Prop) (q37 : Nat → Int32 → Int32 → Int32 → Int32 → zM → Prop) (h2 : ∀ (l0 : Nat) (l1 : Int32) (l2 : Int32) (M : zM), q2 l0 l1 l2 M → ∀ {Q : Option Value → zM → Prop}, (∀ r M1, zRV (k2 l0 l1 l2 M) r M1 → Q r M1) → zWP 180 2 [some (.ref l0), some (.int l1), some (.int l2), none, none, none, none] [] M Q) (h14 : ∀ (l0 : Nat) (l1 : Int32) (l2 : Int32) (l3 : Int32) (M : zM), q14 l0 l1 l2 l3 M → ∀ {Q : Option Value → zM → Prop}, (∀ r M1, zRV (k14 l0 l1 l2 l3 M) r M1 → Q r M1) → zWP 180 14 [some (.ref l0), some (.int l1), some (.int l2), some (.int l3), none, none, none] [] M Q) (h37 : ∀ (l0 : Nat) (l1 : Int32) (l2 : Int32) (l3 : Int32) (l4 : Int32) (M : zM), q37 l0 l1 l2 l3 l4 M → ∀ {Q : Option Value → zM → Prop}, (∀ r M1, zRV (k37 l0 l1 l2 l3 l4 M) r M1 → Q r M1) → zWP 180 37 [some (.ref l0), some (.int l1), some (.int l2), some (.int l3), some (.int l4), none, none] [] M Q) : ∀ (k : Nat) (l0 : Nat) (l1 : Int32) (l2 : Int32) (l3 : Int32) (l4 : Int32) (l5 : Int32) (M : zM), p180_51 n q2 q14 q37 k l0 l1 l2 l3 l4 l5 M → ∀ {Q : Option Value → zM → Prop}, (∀ r M1, zRV (b180_51 n k2 k14 k37 k l0 l1 l2 l3 l4 l5 M) r M1 → Q r M1) → zWP 180 51 [some (.ref l0), some (.int l1), some (.int l2), some (.int l3), some (.int l4), some (.int l5), none] [] M Q
  | 0, _, _, _, _, _, _, _, h, _, _ => h.elim
  | k + 1, l0, l1, l2, l3, l4, l5, M, h, _, hQ => t180_51 n k2 k14 k37 (b180_51 n k2 k14 k37 k) q2 q14 q37 (p180_51 n q2 q14 q37 k) h2 h14 h37 (s180_51 n k2 k14 k37 q2 q14 q37 h2 h14 h37 k) l0 l1 l2 l3 l4 l5 M h hQ
def c180_37 (n : Nat) (k2 : Nat → Int32 → Int32 → zM → zM) (k14 : Nat → Int32 → Int32 → Int32 → zM → zM) (k37 : Nat → Int32 → Int32 → Int32 → Int32 → zM → zM) (l0 : Nat) (l1 : Int32) (l2 : Int32) (l3 : Int32) (l4 : Int32) (M : zM) : zM := (if (zI M (zQ M l0 2) l2.toNatClampNeg) ≤ l4 then b180_136 n k2 k14 l0 l1 l2 l3 M else b180_51 n k2 k14 k37 n l0 l1 l2 l3 l4 (0 : Int32) M)
def d180_37 (n : Nat) (q2 : Nat → Int32 → Int32 → zM → Prop) (q14 : Nat → Int32 → Int32 → Int32 → zM → Prop) (q37 : Nat → Int32 → Int32 → Int32 → Int32 → zM → Prop) (l0 : Nat) (l1 : Int32) (l2 : Int32) (l3 : Int32) (l4 : Int32) (M : zM) : Prop := (zHasQ 10 13 l0 M 2) ∧ ((zOkI (zQ M l0 2) l2 M) ∧ ((((zI M (zQ M l0 2) l2.toNatClampNeg) ≤ l4 → p180_136 n q2 q14 l0 l1 l2 l3 M) ∧ (¬ (zI M (zQ M l0 2) l2.toNatClampNeg) ≤ l4 → p180_51 n q2 q14 q37 n l0 l1 l2 l3 l4 (0 : Int32) M))))
theorem t180_37 (n : Nat) (k2 : Nat → Int32 → Int32 → zM → zM) (k14 : Nat → Int32 → Int32 → Int32 → zM → zM) (k37 : Nat → Int32 → Int32 → Int32 → Int32 → zM → zM) (q2 : Nat → Int32 → Int32 → zM → Prop) (q14 : Nat → Int32 → Int32 → Int32 → zM → Prop) (q37 : Nat → Int32 → Int32 → Int32 → Int32 → zM → Prop) (h2 : ∀ (l0 : Nat) (l1 : Int32) (l2 : Int32) (M : zM), q2 l0 l1 l2 M → ∀ {Q : Option Value → zM → Prop}, (∀ r M1, zRV (k2 l0 l1 l2 M) r M1 → Q r M1) → zWP 180 2 [some (.ref l0), some (.int l1), some (.int l2), none, none, none, none] [] M Q) (h14 : ∀ (l0 : Nat) (l1 : Int32) (l2 : Int32) (l3 : Int32) (M : zM), q14 l0 l1 l2 l3 M → ∀ {Q : Option Value → zM → Prop}, (∀ r M1, zRV (k14 l0 l1 l2 l3 M) r M1 → Q r M1) → zWP 180 14 [some (.ref l0), some (.int l1), some (.int l2), some (.int l3), none, none, none] [] M Q) (h37 : ∀ (l0 : Nat) (l1 : Int32) (l2 : Int32) (l3 : Int32) (l4 : Int32) (M : zM), q37 l0 l1 l2 l3 l4 M → ∀ {Q : Option Value → zM → Prop}, (∀ r M1, zRV (k37 l0 l1 l2 l3 l4 M) r M1 → Q r M1) → zWP 180 37 [some (.ref l0), some (.int l1), some (.int l2), some (.int l3), some (.int l4), none, none] [] M Q) (l0 : Nat) (l1 : Int32) (l2 : Int32) (l3 : Int32) (l4 : Int32) (M : zM) (hp : d180_37 n q2 q14 q37 l0 l1 l2 l3 l4 M) {Q : Option Value → zM → Prop} (hQ : ∀ r M1, zRV (c180_37 n k2 k14 k37 l0 l1 l2 l3 l4 M) r M1 → Q r M1) : zWP 180 37 [some (.ref l0), some (.int l1), some (.int l2), some (.int l3), some (.int l4), none, none] [] M Q := by
  unfold c180_37 at hQ
  unfold d180_37 at hp
  refine wp_go 2 (pc' := 40) (L' := [some (.ref l0), some (.int l1), some (.int l2), some (.int l3), some (.int l4), none, none]) (st' := [.ref l0, .int l4]) (M' := M) rfl ?_
  obtain ⟨hc, hp⟩ := hp
  refine wq_getQ (j := 2) rfl hc ?_
  refine wp_go 1 (pc' := 44) (L' := [some (.ref l0), some (.int l1), some (.int l2), some (.int l3), some (.int l4), none, none]) (st' := [.int l2, .ref (zQ M l0 2), .int l4]) (M' := M) rfl ?_
  obtain ⟨hc, hp⟩ := hp
  refine wq_iald rfl hc ?_
  refine wp_ic_ge (t := 136) rfl rfl (fun hc => ?_) (fun hc => ?_)
  · rw [if_pos hc] at hQ
    replace hp := hp.1 hc
    refine wp_le [some (.ref l0), some (.int l1), some (.int l2), some (.int l3), none, none, none] (zLe_of (by simp [zLeB])) ?_
    exact s180_136 n k2 k14 q2 q14 h2 h14 l0 l1 l2 l3 M hp hQ
  · rw [if_neg hc] at hQ
    replace hp := hp.2 hc
    refine wp_go 2 (pc' := 51) (L' := [some (.ref l0), some (.int l1), some (.int l2), some (.int l3), some (.int l4), some (.int (0 : Int32)), none]) (st' := []) (M' := M) rfl ?_
    exact s180_51 n k2 k14 k37 q2 q14 q37 h2 h14 h37 n l0 l1 l2 l3 l4 (0 : Int32) M hp hQ
def b180_37 (n : Nat) (k2 : Nat → Int32 → Int32 → zM → zM) (k14 : Nat → Int32 → Int32 → Int32 → zM → zM) : Nat → Nat → Int32 → Int32 → Int32 → Int32 → zM → zM
  | 0, _, _, _, _, _, M => M
  | k + 1, l0, l1, l2, l3, l4, M => c180_37 n k2 k14 (b180_37 n k2 k14 k) l0 l1 l2 l3 l4 M
def p180_37 (n : Nat) (q2 : Nat → Int32 → Int32 → zM → Prop) (q14 : Nat → Int32 → Int32 → Int32 → zM → Prop) : Nat → Nat → Int32 → Int32 → Int32 → Int32 → zM → Prop
  | 0, _, _, _, _, _, _ => False
  | k + 1, l0, l1, l2, l3, l4, M => d180_37 n q2 q14 (p180_37 n q2 q14 k) l0 l1 l2 l3 l4 M
theorem s180_37 (n : Nat) (k2 : Nat → Int32 → Int32 → zM → zM) (k14 : Nat → Int32 → Int32 → Int32 → zM → zM) (q2 : Nat → Int32 → Int32 → zM → Prop) (q14 : Nat → Int32 → Int32 → Int32 → zM → Prop) (h2 : ∀ (l0 : Nat) (l1 : Int32) (l2 : Int32) (M : zM), q2 l0 l1 l2 M → ∀ {Q : Option Value → zM → Prop}, (∀ r M1, zRV (k2 l0 l1 l2 M) r M1 → Q r M1) → zWP 180 2 [some (.ref l0), some (.int l1), some (.int l2), none, none, none, none] [] M Q) (h14 : ∀ (l0 : Nat) (l1 : Int32) (l2 : Int32) (l3 : Int32) (M : zM), q14 l0 l1 l2 l3 M → ∀ {Q : Option Value → zM → Prop}, (∀ r M1, zRV (k14 l0 l1 l2 l3 M) r M1 → Q r M1) → zWP 180 14 [some (.ref l0), some (.int l1), some (.int l2), some (.int l3), none, none, none] [] M Q) : ∀ (k : Nat) (l0 : Nat) (l1 : Int32) (l2 : Int32) (l3 : Int32) (l4 : Int32) (M : zM), p180_37 n q2 q14 k l0 l1 l2 l3 l4 M → ∀ {Q : Option Value → zM → Prop}, (∀ r M1, zRV (b180_37 n k2 k14 k l0 l1 l2 l3 l4 M) r M1 → Q r M1) → zWP 180 37 [some (.ref l0), some (.int l1), some (.int l2), some (.int l3), some (.int l4), none, none] [] M Q
  | 0, _, _, _, _, _, _, h, _, _ => h.elim
  | k + 1, l0, l1, l2, l3, l4, M, h, _, hQ => t180_37 n k2 k14 (b180_37 n k2 k14 k) q2 q14 (p180_37 n q2 q14 k) h2 h14 (s180_37 n k2 k14 q2 q14 h2 h14 k) l0 l1 l2 l3 l4 M h hQ
def b180_28 (n : Nat) (k2 : Nat → Int32 → Int32 → zM → zM) (k14 : Nat → Int32 → Int32 → Int32 → zM → zM) (l0 : Nat) (l1 : Int32) (l2 : Int32) (l3 : Int32) (s0 : Int32) (M : zM) : zM := (if s0 = 0 then b180_136 n k2 k14 l0 l1 l2 l3 M else b180_37 n k2 k14 n l0 l1 l2 l3 (0 : Int32) M)
def p180_28 (n : Nat) (q2 : Nat → Int32 → Int32 → zM → Prop) (q14 : Nat → Int32 → Int32 → Int32 → zM → Prop) (l0 : Nat) (l1 : Int32) (l2 : Int32) (l3 : Int32) (s0 : Int32) (M : zM) : Prop := ((s0 = 0 → p180_136 n q2 q14 l0 l1 l2 l3 M) ∧ (¬ s0 = 0 → p180_37 n q2 q14 n l0 l1 l2 l3 (0 : Int32) M))
theorem s180_28 (n : Nat) (k2 : Nat → Int32 → Int32 → zM → zM) (k14 : Nat → Int32 → Int32 → Int32 → zM → zM) (q2 : Nat → Int32 → Int32 → zM → Prop) (q14 : Nat → Int32 → Int32 → Int32 → zM → Prop) (h2 : ∀ (l0 : Nat) (l1 : Int32) (l2 : Int32) (M : zM), q2 l0 l1 l2 M → ∀ {Q : Option Value → zM → Prop}, (∀ r M1, zRV (k2 l0 l1 l2 M) r M1 → Q r M1) → zWP 180 2 [some (.ref l0), some (.int l1), some (.int l2), none, none, none, none] [] M Q) (h14 : ∀ (l0 : Nat) (l1 : Int32) (l2 : Int32) (l3 : Int32) (M : zM), q14 l0 l1 l2 l3 M → ∀ {Q : Option Value → zM → Prop}, (∀ r M1, zRV (k14 l0 l1 l2 l3 M) r M1 → Q r M1) → zWP 180 14 [some (.ref l0), some (.int l1), some (.int l2), some (.int l3), none, none, none] [] M Q) (l0 : Nat) (l1 : Int32) (l2 : Int32) (l3 : Int32) (s0 : Int32) (M : zM) (hp : p180_28 n q2 q14 l0 l1 l2 l3 s0 M) {Q : Option Value → zM → Prop} (hQ : ∀ r M1, zRV (b180_28 n k2 k14 l0 l1 l2 l3 s0 M) r M1 → Q r M1) : zWP 180 28 [some (.ref l0), some (.int l1), some (.int l2), some (.int l3), none, none, none] [.int s0] M Q := by
  unfold b180_28 at hQ
  unfold p180_28 at hp
  refine wp_if_ne (t := 34) rfl rfl (fun hc => ?_) (fun hc => ?_)
  · rw [if_neg hc] at hQ
    replace hp := hp.2 hc
    refine wp_go 2 (pc' := 37) (L' := [some (.ref l0), some (.int l1), some (.int l2), some (.int l3), some (.int (0 : Int32)), none, none]) (st' := []) (M' := M) rfl ?_
    exact s180_37 n k2 k14 q2 q14 h2 h14 n l0 l1 l2 l3 (0 : Int32) M hp hQ
  · rw [if_pos hc] at hQ
    replace hp := hp.1 hc
    refine wp_go 1 (pc' := 136) (L' := [some (.ref l0), some (.int l1), some (.int l2), some (.int l3), none, none, none]) (st' := []) (M' := M) rfl ?_
    exact s180_136 n k2 k14 q2 q14 h2 h14 l0 l1 l2 l3 M hp hQ
def c180_14 (n : Nat) (k2 : Nat → Int32 → Int32 → zM → zM) (k14 : Nat → Int32 → Int32 → Int32 → zM → zM) (l0 : Nat) (l1 : Int32) (l2 : Int32) (l3 : Int32) (M : zM) : zM := (if (zI M l0 0) ≤ l3 then k2 l0 l1 (l2 + Int32.ofInt 1) M else b180_28 n k2 k14 l0 l1 l2 l3 (b144_0 n l0 l2 l3 M).1 (b144_0 n l0 l2 l3 M).2)
def d180_14 (n : Nat) (q2 : Nat → Int32 → Int32 → zM → Prop) (q14 : Nat → Int32 → Int32 → Int32 → zM → Prop) (l0 : Nat) (l1 : Int32) (l2 : Int32) (l3 : Int32) (M : zM) : Prop := (zHasI 10 148 l0 M 0) ∧ ((((zI M l0 0) ≤ l3 → q2 l0 l1 (l2 + Int32.ofInt 1) M) ∧ (¬ (zI M l0 0) ≤ l3 → (zHasC 180 217 l0 M 144 2) ∧ ((p144_0 n l0 l2 l3 M) ∧ (p180_28 n q2 q14 l0 l1 l2 l3 (b144_0 n l0 l2 l3 M).1 (b144_0 n l0 l2 l3 M).2)))))
theorem t180_14 (n : Nat) (k2 : Nat → Int32 → Int32 → zM → zM) (k14 : Nat → Int32 → Int32 → Int32 → zM → zM) (q2 : Nat → Int32 → Int32 → zM → Prop) (q14 : Nat → Int32 → Int32 → Int32 → zM → Prop) (h2 : ∀ (l0 : Nat) (l1 : Int32) (l2 : Int32) (M : zM), q2 l0 l1 l2 M → ∀ {Q : Option Value → zM → Prop}, (∀ r M1, zRV (k2 l0 l1 l2 M) r M1 → Q r M1) → zWP 180 2 [some (.ref l0), some (.int l1), some (.int l2), none, none, none, none] [] M Q) (h14 : ∀ (l0 : Nat) (l1 : Int32) (l2 : Int32) (l3 : Int32) (M : zM), q14 l0 l1 l2 l3 M → ∀ {Q : Option Value → zM → Prop}, (∀ r M1, zRV (k14 l0 l1 l2 l3 M) r M1 → Q r M1) → zWP 180 14 [some (.ref l0), some (.int l1), some (.int l2), some (.int l3), none, none, none] [] M Q) (l0 : Nat) (l1 : Int32) (l2 : Int32) (l3 : Int32) (M : zM) (hp : d180_14 n q2 q14 l0 l1 l2 l3 M) {Q : Option Value → zM → Prop} (hQ : ∀ r M1, zRV (c180_14 n k2 k14 l0 l1 l2 l3 M) r M1 → Q r M1) : zWP 180 14 [some (.ref l0), some (.int l1), some (.int l2), some (.int l3), none, none, none] [] M Q := by
  unfold c180_14 at hQ
  unfold d180_14 at hp
  refine wp_go 2 (pc' := 16) (L' := [some (.ref l0), some (.int l1), some (.int l2), some (.int l3), none, none, none]) (st' := [.ref l0, .int l3]) (M' := M) rfl ?_
  obtain ⟨hc, hp⟩ := hp
  refine wq_getI (j := 0) rfl hc ?_
  refine wp_ic_ge (t := 142) rfl rfl (fun hc => ?_) (fun hc => ?_)
  · rw [if_pos hc] at hQ
    replace hp := hp.1 hc
    refine wp_go 2 (pc' := 2) (L' := [some (.ref l0), some (.int l1), some (.int (l2 + Int32.ofInt 1)), some (.int l3), none, none, none]) (st' := []) (M' := M) rfl ?_
    refine wp_le [some (.ref l0), some (.int l1), some (.int (l2 + Int32.ofInt 1)), none, none, none, none] (zLe_of (by simp [zLeB])) ?_
    exact h2 l0 l1 (l2 + Int32.ofInt 1) M hp hQ
  · rw [if_neg hc] at hQ
    replace hp := hp.2 hc
    refine wp_go 3 (pc' := 25) (L' := [some (.ref l0), some (.int l1), some (.int l2), some (.int l3), none, none, none]) (st' := [.int l3, .int l2, .ref l0]) (M' := M) rfl ?_
    obtain ⟨hv, hp⟩ := hp
    obtain ⟨hc, hp⟩ := hp
    refine wp_calli (v := (b144_0 n l0 l2 l3 M).1) (M1 := (b144_0 n l0 l2 l3 M).2) rfl rfl rfl (zInv_v (np := 2) rfl rfl hv rfl) (s144_0 n l0 l2 l3 M hc (fun r M1 h => h)) ?_
    exact s180_28 n k2 k14 q2 q14 h2 h14 l0 l1 l2 l3 (b144_0 n l0 l2 l3 M).1 (b144_0 n l0 l2 l3 M).2 hp hQ
def b180_14 (n : Nat) (k2 : Nat → Int32 → Int32 → zM → zM) : Nat → Nat → Int32 → Int32 → Int32 → zM → zM
  | 0, _, _, _, _, M => M
  | k + 1, l0, l1, l2, l3, M => c180_14 n k2 (b180_14 n k2 k) l0 l1 l2 l3 M
def p180_14 (n : Nat) (q2 : Nat → Int32 → Int32 → zM → Prop) : Nat → Nat → Int32 → Int32 → Int32 → zM → Prop
  | 0, _, _, _, _, _ => False
  | k + 1, l0, l1, l2, l3, M => d180_14 n q2 (p180_14 n q2 k) l0 l1 l2 l3 M
theorem s180_14 (n : Nat) (k2 : Nat → Int32 → Int32 → zM → zM) (q2 : Nat → Int32 → Int32 → zM → Prop) (h2 : ∀ (l0 : Nat) (l1 : Int32) (l2 : Int32) (M : zM), q2 l0 l1 l2 M → ∀ {Q : Option Value → zM → Prop}, (∀ r M1, zRV (k2 l0 l1 l2 M) r M1 → Q r M1) → zWP 180 2 [some (.ref l0), some (.int l1), some (.int l2), none, none, none, none] [] M Q) : ∀ (k : Nat) (l0 : Nat) (l1 : Int32) (l2 : Int32) (l3 : Int32) (M : zM), p180_14 n q2 k l0 l1 l2 l3 M → ∀ {Q : Option Value → zM → Prop}, (∀ r M1, zRV (b180_14 n k2 k l0 l1 l2 l3 M) r M1 → Q r M1) → zWP 180 14 [some (.ref l0), some (.int l1), some (.int l2), some (.int l3), none, none, none] [] M Q
  | 0, _, _, _, _, _, h, _, _ => h.elim
  | k + 1, l0, l1, l2, l3, M, h, _, hQ => t180_14 n k2 (b180_14 n k2 k) q2 (p180_14 n q2 k) h2 (s180_14 n k2 q2 h2 k) l0 l1 l2 l3 M h hQ
def c180_2 (n : Nat) (k2 : Nat → Int32 → Int32 → zM → zM) (l0 : Nat) (l1 : Int32) (l2 : Int32) (M : zM) : zM := (if (zI M l0 0) ≤ l2 then M else b180_14 n k2 n l0 l1 l2 (l2 + (1 : Int32)) M)
def d180_2 (n : Nat) (q2 : Nat → Int32 → Int32 → zM → Prop) (l0 : Nat) (l1 : Int32) (l2 : Int32) (M : zM) : Prop := (zHasI 10 148 l0 M 0) ∧ ((((zI M l0 0) ≤ l2 → True) ∧ (¬ (zI M l0 0) ≤ l2 → p180_14 n q2 n l0 l1 l2 (l2 + (1 : Int32)) M)))
theorem t180_2 (n : Nat) (k2 : Nat → Int32 → Int32 → zM → zM) (q2 : Nat → Int32 → Int32 → zM → Prop) (h2 : ∀ (l0 : Nat) (l1 : Int32) (l2 : Int32) (M : zM), q2 l0 l1 l2 M → ∀ {Q : Option Value → zM → Prop}, (∀ r M1, zRV (k2 l0 l1 l2 M) r M1 → Q r M1) → zWP 180 2 [some (.ref l0), some (.int l1), some (.int l2), none, none, none, none] [] M Q) (l0 : Nat) (l1 : Int32) (l2 : Int32) (M : zM) (hp : d180_2 n q2 l0 l1 l2 M) {Q : Option Value → zM → Prop} (hQ : ∀ r M1, zRV (c180_2 n k2 l0 l1 l2 M) r M1 → Q r M1) : zWP 180 2 [some (.ref l0), some (.int l1), some (.int l2), none, none, none, none] [] M Q := by
  unfold c180_2 at hQ
  unfold d180_2 at hp
  refine wp_go 2 (pc' := 4) (L' := [some (.ref l0), some (.int l1), some (.int l2), none, none, none, none]) (st' := [.ref l0, .int l2]) (M' := M) rfl ?_
  obtain ⟨hc, hp⟩ := hp
  refine wq_getI (j := 0) rfl hc ?_
  refine wp_ic_ge (t := 148) rfl rfl (fun hc => ?_) (fun hc => ?_)
  · rw [if_pos hc] at hQ
    replace hp := hp.1 hc
    exact wp_ret (r := none) rfl rfl (hQ _ _ ⟨rfl, rfl⟩)
  · rw [if_neg hc] at hQ
    replace hp := hp.2 hc
    refine wp_go 4 (pc' := 14) (L' := [some (.ref l0), some (.int l1), some (.int l2), some (.int (l2 + (1 : Int32))), none, none, none]) (st' := []) (M' := M) rfl ?_
    exact s180_14 n k2 q2 h2 n l0 l1 l2 (l2 + (1 : Int32)) M hp hQ
def b180_2 (n : Nat)  : Nat → Nat → Int32 → Int32 → zM → zM
  | 0, _, _, _, M => M
  | k + 1, l0, l1, l2, M => c180_2 n  (b180_2 n  k) l0 l1 l2 M
def p180_2 (n : Nat)  : Nat → Nat → Int32 → Int32 → zM → Prop
  | 0, _, _, _, _ => False
  | k + 1, l0, l1, l2, M => d180_2 n  (p180_2 n  k) l0 l1 l2 M
theorem s180_2 (n : Nat)    : ∀ (k : Nat) (l0 : Nat) (l1 : Int32) (l2 : Int32) (M : zM), p180_2 n  k l0 l1 l2 M → ∀ {Q : Option Value → zM → Prop}, (∀ r M1, zRV (b180_2 n  k l0 l1 l2 M) r M1 → Q r M1) → zWP 180 2 [some (.ref l0), some (.int l1), some (.int l2), none, none, none, none] [] M Q
  | 0, _, _, _, _, h, _, _ => h.elim
  | k + 1, l0, l1, l2, M, h, _, hQ => t180_2 n  (b180_2 n  k)  (p180_2 n  k)  (s180_2 n    k) l0 l1 l2 M h hQ
def b180_0 (n : Nat)  (l0 : Nat) (l1 : Int32) (M : zM) : zM := b180_2 n  n l0 l1 (0 : Int32) M
def p180_0 (n : Nat)  (l0 : Nat) (l1 : Int32) (M : zM) : Prop := p180_2 n  n l0 l1 (0 : Int32) M
theorem s180_0 (n : Nat)    (l0 : Nat) (l1 : Int32) (M : zM) (hp : p180_0 n  l0 l1 M) {Q : Option Value → zM → Prop} (hQ : ∀ r M1, zRV (b180_0 n  l0 l1 M) r M1 → Q r M1) : zWP 180 0 [some (.ref l0), some (.int l1), none, none, none, none, none] [] M Q := by
  unfold b180_0 at hQ
  unfold p180_0 at hp
  refine wp_go 2 (pc' := 2) (L' := [some (.ref l0), some (.int l1), some (.int (0 : Int32)), none, none, none, none]) (st' := []) (M' := M) rfl ?_
  exact s180_2 n    n l0 l1 (0 : Int32) M hp hQ
/-! X12_orders -/
def b182_122 (n : Nat) (k46 : Nat → Int32 → zM → Int32 × zM) (l0 : Nat) (l1 : Int32) (s0 : Int32) (M : zM) : Int32 × zM := (if s0 < 0 then k46 l0 (l1 + Int32.ofInt 1) M else ((1 : Int32), M))
def p182_122 (n : Nat) (q46 : Nat → Int32 → zM → Prop) (l0 : Nat) (l1 : Int32) (s0 : Int32) (M : zM) : Prop := ((s0 < 0 → q46 l0 (l1 + Int32.ofInt 1) M) ∧ (¬ s0 < 0 → True))
theorem s182_122 (n : Nat) (k46 : Nat → Int32 → zM → Int32 × zM) (q46 : Nat → Int32 → zM → Prop) (h46 : ∀ (l0 : Nat) (l1 : Int32) (M : zM), q46 l0 l1 M → ∀ {Q : Option Value → zM → Prop}, (∀ r M1, zRI (k46 l0 l1 M) r M1 → Q r M1) → zWP 182 46 [some (.ref l0), some (.int l1)] [] M Q) (l0 : Nat) (l1 : Int32) (s0 : Int32) (M : zM) (hp : p182_122 n q46 l0 l1 s0 M) {Q : Option Value → zM → Prop} (hQ : ∀ r M1, zRI (b182_122 n k46 l0 l1 s0 M) r M1 → Q r M1) : zWP 182 122 [some (.ref l0), some (.int l1)] [.int s0] M Q := by
  unfold b182_122 at hQ
  unfold p182_122 at hp
  refine wp_if_lt (t := 127) rfl rfl (fun hc => ?_) (fun hc => ?_)
  · rw [if_pos hc] at hQ
    replace hp := hp.1 hc
    refine wp_go 2 (pc' := 46) (L' := [some (.ref l0), some (.int (l1 + Int32.ofInt 1))]) (st' := []) (M' := M) rfl ?_
    exact h46 l0 (l1 + Int32.ofInt 1) M hp hQ
  · rw [if_neg hc] at hQ
    replace hp := hp.2 hc
    refine wp_go 1 (pc' := 126) (L' := [some (.ref l0), some (.int l1)]) (st' := [.int (1 : Int32)]) (M' := M) rfl ?_
    exact wp_ret (r := some (.int (1 : Int32))) rfl rfl (hQ _ _ ⟨rfl, rfl⟩)
def c182_46 (n : Nat) (k46 : Nat → Int32 → zM → Int32 × zM) (l0 : Nat) (l1 : Int32) (M : zM) : Int32 × zM := (if (zI M l0 57) ≤ l1 then ((0 : Int32), M) else b182_122 n k46 l0 l1 (b168_0 n l0 (zI M (zQ M l0 56) ((8 : Int32) * l1).toNatClampNeg) (zI M (zQ M l0 56) (((8 : Int32) * l1) + (1 : Int32)).toNatClampNeg) (zI M (zQ M l0 56) (((8 : Int32) * l1) + (2 : Int32)).toNatClampNeg) (zI M (zQ M l0 56) (((8 : Int32) * l1) + (3 : Int32)).toNatClampNeg) (zI M (zQ M l0 56) (((8 : Int32) * l1) + (4 : Int32)).toNatClampNeg) (zI M (zQ M l0 56) (((8 : Int32) * l1) + (5 : Int32)).toNatClampNeg) M).1 (b168_0 n l0 (zI M (zQ M l0 56) ((8 : Int32) * l1).toNatClampNeg) (zI M (zQ M l0 56) (((8 : Int32) * l1) + (1 : Int32)).toNatClampNeg) (zI M (zQ M l0 56) (((8 : Int32) * l1) + (2 : Int32)).toNatClampNeg) (zI M (zQ M l0 56) (((8 : Int32) * l1) + (3 : Int32)).toNatClampNeg) (zI M (zQ M l0 56) (((8 : Int32) * l1) + (4 : Int32)).toNatClampNeg) (zI M (zQ M l0 56) (((8 : Int32) * l1) + (5 : Int32)).toNatClampNeg) M).2)
def d182_46 (n : Nat) (q46 : Nat → Int32 → zM → Prop) (l0 : Nat) (l1 : Int32) (M : zM) : Prop := (zHasI 10 326 l0 M 57) ∧ ((((zI M l0 57) ≤ l1 → True) ∧ (¬ (zI M l0 57) ≤ l1 → (zHasQ 10 135 l0 M 56) ∧ ((zOkI (zQ M l0 56) ((8 : Int32) * l1) M) ∧ ((zHasQ 10 135 l0 M 56) ∧ ((zOkI (zQ M l0 56) (((8 : Int32) * l1) + (1 : Int32)) M) ∧ ((zHasQ 10 135 l0 M 56) ∧ ((zOkI (zQ M l0 56) (((8 : Int32) * l1) + (2 : Int32)) M) ∧ ((zHasQ 10 135 l0 M 56) ∧ ((zOkI (zQ M l0 56) (((8 : Int32) * l1) + (3 : Int32)) M) ∧ ((zHasQ 10 135 l0 M 56) ∧ ((zOkI (zQ M l0 56) (((8 : Int32) * l1) + (4 : Int32)) M) ∧ ((zHasQ 10 135 l0 M 56) ∧ ((zOkI (zQ M l0 56) (((8 : Int32) * l1) + (5 : Int32)) M) ∧ ((zHasC 182 303 l0 M 168 6) ∧ ((p168_0 n l0 (zI M (zQ M l0 56) ((8 : Int32) * l1).toNatClampNeg) (zI M (zQ M l0 56) (((8 : Int32) * l1) + (1 : Int32)).toNatClampNeg) (zI M (zQ M l0 56) (((8 : Int32) * l1) + (2 : Int32)).toNatClampNeg) (zI M (zQ M l0 56) (((8 : Int32) * l1) + (3 : Int32)).toNatClampNeg) (zI M (zQ M l0 56) (((8 : Int32) * l1) + (4 : Int32)).toNatClampNeg) (zI M (zQ M l0 56) (((8 : Int32) * l1) + (5 : Int32)).toNatClampNeg) M) ∧ (p182_122 n q46 l0 l1 (b168_0 n l0 (zI M (zQ M l0 56) ((8 : Int32) * l1).toNatClampNeg) (zI M (zQ M l0 56) (((8 : Int32) * l1) + (1 : Int32)).toNatClampNeg) (zI M (zQ M l0 56) (((8 : Int32) * l1) + (2 : Int32)).toNatClampNeg) (zI M (zQ M l0 56) (((8 : Int32) * l1) + (3 : Int32)).toNatClampNeg) (zI M (zQ M l0 56) (((8 : Int32) * l1) + (4 : Int32)).toNatClampNeg) (zI M (zQ M l0 56) (((8 : Int32) * l1) + (5 : Int32)).toNatClampNeg) M).1 (b168_0 n l0 (zI M (zQ M l0 56) ((8 : Int32) * l1).toNatClampNeg) (zI M (zQ M l0 56) (((8 : Int32) * l1) + (1 : Int32)).toNatClampNeg) (zI M (zQ M l0 56) (((8 : Int32) * l1) + (2 : Int32)).toNatClampNeg) (zI M (zQ M l0 56) (((8 : Int32) * l1) + (3 : Int32)).toNatClampNeg) (zI M (zQ M l0 56) (((8 : Int32) * l1) + (4 : Int32)).toNatClampNeg) (zI M (zQ M l0 56) (((8 : Int32) * l1) + (5 : Int32)).toNatClampNeg) M).2)))))))))))))))))
theorem t182_46 (n : Nat) (k46 : Nat → Int32 → zM → Int32 × zM) (q46 : Nat → Int32 → zM → Prop) (h46 : ∀ (l0 : Nat) (l1 : Int32) (M : zM), q46 l0 l1 M → ∀ {Q : Option Value → zM → Prop}, (∀ r M1, zRI (k46 l0 l1 M) r M1 → Q r M1) → zWP 182 46 [some (.ref l0), some (.int l1)] [] M Q) (l0 : Nat) (l1 : Int32) (M : zM) (hp : d182_46 n q46 l0 l1 M) {Q : Option Value → zM → Prop} (hQ : ∀ r M1, zRI (c182_46 n k46 l0 l1 M) r M1 → Q r M1) : zWP 182 46 [some (.ref l0), some (.int l1)] [] M Q := by
  unfold c182_46 at hQ
  unfold d182_46 at hp
  refine wp_go 2 (pc' := 48) (L' := [some (.ref l0), some (.int l1)]) (st' := [.ref l0, .int l1]) (M' := M) rfl ?_
  obtain ⟨hc, hp⟩ := hp
  refine wq_getI (j := 57) rfl hc ?_
  refine wp_ic_ge (t := 133) rfl rfl (fun hc => ?_) (fun hc => ?_)
  · rw [if_pos hc] at hQ
    replace hp := hp.1 hc
    refine wp_go 1 (pc' := 134) (L' := [some (.ref l0), some (.int l1)]) (st' := [.int (0 : Int32)]) (M' := M) rfl ?_
    exact wp_ret (r := some (.int (0 : Int32))) rfl rfl (hQ _ _ ⟨rfl, rfl⟩)
  · rw [if_neg hc] at hQ
    replace hp := hp.2 hc
    refine wp_go 2 (pc' := 56) (L' := [some (.ref l0), some (.int l1)]) (st' := [.ref l0, .ref l0]) (M' := M) rfl ?_
    obtain ⟨hc, hp⟩ := hp
    refine wq_getQ (j := 56) rfl hc ?_
    refine wp_go 3 (pc' := 63) (L' := [some (.ref l0), some (.int l1)]) (st' := [.int ((8 : Int32) * l1), .ref (zQ M l0 56), .ref l0]) (M' := M) rfl ?_
    obtain ⟨hc, hp⟩ := hp
    refine wq_iald rfl hc ?_
    refine wp_go 1 (pc' := 65) (L' := [some (.ref l0), some (.int l1)]) (st' := [.ref l0, .int (zI M (zQ M l0 56) ((8 : Int32) * l1).toNatClampNeg), .ref l0]) (M' := M) rfl ?_
    obtain ⟨hc, hp⟩ := hp
    refine wq_getQ (j := 56) rfl hc ?_
    refine wp_go 5 (pc' := 74) (L' := [some (.ref l0), some (.int l1)]) (st' := [.int (((8 : Int32) * l1) + (1 : Int32)), .ref (zQ M l0 56), .int (zI M (zQ M l0 56) ((8 : Int32) * l1).toNatClampNeg), .ref l0]) (M' := M) rfl ?_
    obtain ⟨hc, hp⟩ := hp
    refine wq_iald rfl hc ?_
    refine wp_go 1 (pc' := 76) (L' := [some (.ref l0), some (.int l1)]) (st' := [.ref l0, .int (zI M (zQ M l0 56) (((8 : Int32) * l1) + (1 : Int32)).toNatClampNeg), .int (zI M (zQ M l0 56) ((8 : Int32) * l1).toNatClampNeg), .ref l0]) (M' := M) rfl ?_
    obtain ⟨hc, hp⟩ := hp
    refine wq_getQ (j := 56) rfl hc ?_
    refine wp_go 5 (pc' := 85) (L' := [some (.ref l0), some (.int l1)]) (st' := [.int (((8 : Int32) * l1) + (2 : Int32)), .ref (zQ M l0 56), .int (zI M (zQ M l0 56) (((8 : Int32) * l1) + (1 : Int32)).toNatClampNeg), .int (zI M (zQ M l0 56) ((8 : Int32) * l1).toNatClampNeg), .ref l0]) (M' := M) rfl ?_
    obtain ⟨hc, hp⟩ := hp
    refine wq_iald rfl hc ?_
    refine wp_go 1 (pc' := 87) (L' := [some (.ref l0), some (.int l1)]) (st' := [.ref l0, .int (zI M (zQ M l0 56) (((8 : Int32) * l1) + (2 : Int32)).toNatClampNeg), .int (zI M (zQ M l0 56) (((8 : Int32) * l1) + (1 : Int32)).toNatClampNeg), .int (zI M (zQ M l0 56) ((8 : Int32) * l1).toNatClampNeg), .ref l0]) (M' := M) rfl ?_
    obtain ⟨hc, hp⟩ := hp
    refine wq_getQ (j := 56) rfl hc ?_
    refine wp_go 5 (pc' := 96) (L' := [some (.ref l0), some (.int l1)]) (st' := [.int (((8 : Int32) * l1) + (3 : Int32)), .ref (zQ M l0 56), .int (zI M (zQ M l0 56) (((8 : Int32) * l1) + (2 : Int32)).toNatClampNeg), .int (zI M (zQ M l0 56) (((8 : Int32) * l1) + (1 : Int32)).toNatClampNeg), .int (zI M (zQ M l0 56) ((8 : Int32) * l1).toNatClampNeg), .ref l0]) (M' := M) rfl ?_
    obtain ⟨hc, hp⟩ := hp
    refine wq_iald rfl hc ?_
    refine wp_go 1 (pc' := 98) (L' := [some (.ref l0), some (.int l1)]) (st' := [.ref l0, .int (zI M (zQ M l0 56) (((8 : Int32) * l1) + (3 : Int32)).toNatClampNeg), .int (zI M (zQ M l0 56) (((8 : Int32) * l1) + (2 : Int32)).toNatClampNeg), .int (zI M (zQ M l0 56) (((8 : Int32) * l1) + (1 : Int32)).toNatClampNeg), .int (zI M (zQ M l0 56) ((8 : Int32) * l1).toNatClampNeg), .ref l0]) (M' := M) rfl ?_
    obtain ⟨hc, hp⟩ := hp
    refine wq_getQ (j := 56) rfl hc ?_
    refine wp_go 5 (pc' := 107) (L' := [some (.ref l0), some (.int l1)]) (st' := [.int (((8 : Int32) * l1) + (4 : Int32)), .ref (zQ M l0 56), .int (zI M (zQ M l0 56) (((8 : Int32) * l1) + (3 : Int32)).toNatClampNeg), .int (zI M (zQ M l0 56) (((8 : Int32) * l1) + (2 : Int32)).toNatClampNeg), .int (zI M (zQ M l0 56) (((8 : Int32) * l1) + (1 : Int32)).toNatClampNeg), .int (zI M (zQ M l0 56) ((8 : Int32) * l1).toNatClampNeg), .ref l0]) (M' := M) rfl ?_
    obtain ⟨hc, hp⟩ := hp
    refine wq_iald rfl hc ?_
    refine wp_go 1 (pc' := 109) (L' := [some (.ref l0), some (.int l1)]) (st' := [.ref l0, .int (zI M (zQ M l0 56) (((8 : Int32) * l1) + (4 : Int32)).toNatClampNeg), .int (zI M (zQ M l0 56) (((8 : Int32) * l1) + (3 : Int32)).toNatClampNeg), .int (zI M (zQ M l0 56) (((8 : Int32) * l1) + (2 : Int32)).toNatClampNeg), .int (zI M (zQ M l0 56) (((8 : Int32) * l1) + (1 : Int32)).toNatClampNeg), .int (zI M (zQ M l0 56) ((8 : Int32) * l1).toNatClampNeg), .ref l0]) (M' := M) rfl ?_
    obtain ⟨hc, hp⟩ := hp
    refine wq_getQ (j := 56) rfl hc ?_
    refine wp_go 5 (pc' := 118) (L' := [some (.ref l0), some (.int l1)]) (st' := [.int (((8 : Int32) * l1) + (5 : Int32)), .ref (zQ M l0 56), .int (zI M (zQ M l0 56) (((8 : Int32) * l1) + (4 : Int32)).toNatClampNeg), .int (zI M (zQ M l0 56) (((8 : Int32) * l1) + (3 : Int32)).toNatClampNeg), .int (zI M (zQ M l0 56) (((8 : Int32) * l1) + (2 : Int32)).toNatClampNeg), .int (zI M (zQ M l0 56) (((8 : Int32) * l1) + (1 : Int32)).toNatClampNeg), .int (zI M (zQ M l0 56) ((8 : Int32) * l1).toNatClampNeg), .ref l0]) (M' := M) rfl ?_
    obtain ⟨hc, hp⟩ := hp
    refine wq_iald rfl hc ?_
    obtain ⟨hv, hp⟩ := hp
    obtain ⟨hc, hp⟩ := hp
    refine wp_calli (v := (b168_0 n l0 (zI M (zQ M l0 56) ((8 : Int32) * l1).toNatClampNeg) (zI M (zQ M l0 56) (((8 : Int32) * l1) + (1 : Int32)).toNatClampNeg) (zI M (zQ M l0 56) (((8 : Int32) * l1) + (2 : Int32)).toNatClampNeg) (zI M (zQ M l0 56) (((8 : Int32) * l1) + (3 : Int32)).toNatClampNeg) (zI M (zQ M l0 56) (((8 : Int32) * l1) + (4 : Int32)).toNatClampNeg) (zI M (zQ M l0 56) (((8 : Int32) * l1) + (5 : Int32)).toNatClampNeg) M).1) (M1 := (b168_0 n l0 (zI M (zQ M l0 56) ((8 : Int32) * l1).toNatClampNeg) (zI M (zQ M l0 56) (((8 : Int32) * l1) + (1 : Int32)).toNatClampNeg) (zI M (zQ M l0 56) (((8 : Int32) * l1) + (2 : Int32)).toNatClampNeg) (zI M (zQ M l0 56) (((8 : Int32) * l1) + (3 : Int32)).toNatClampNeg) (zI M (zQ M l0 56) (((8 : Int32) * l1) + (4 : Int32)).toNatClampNeg) (zI M (zQ M l0 56) (((8 : Int32) * l1) + (5 : Int32)).toNatClampNeg) M).2) rfl rfl rfl (zInv_v (np := 6) rfl rfl hv rfl) (s168_0 n l0 (zI M (zQ M l0 56) ((8 : Int32) * l1).toNatClampNeg) (zI M (zQ M l0 56) (((8 : Int32) * l1) + (1 : Int32)).toNatClampNeg) (zI M (zQ M l0 56) (((8 : Int32) * l1) + (2 : Int32)).toNatClampNeg) (zI M (zQ M l0 56) (((8 : Int32) * l1) + (3 : Int32)).toNatClampNeg) (zI M (zQ M l0 56) (((8 : Int32) * l1) + (4 : Int32)).toNatClampNeg) (zI M (zQ M l0 56) (((8 : Int32) * l1) + (5 : Int32)).toNatClampNeg) M hc (fun r M1 h => h)) ?_
    exact s182_122 n k46 q46 h46 l0 l1 (b168_0 n l0 (zI M (zQ M l0 56) ((8 : Int32) * l1).toNatClampNeg) (zI M (zQ M l0 56) (((8 : Int32) * l1) + (1 : Int32)).toNatClampNeg) (zI M (zQ M l0 56) (((8 : Int32) * l1) + (2 : Int32)).toNatClampNeg) (zI M (zQ M l0 56) (((8 : Int32) * l1) + (3 : Int32)).toNatClampNeg) (zI M (zQ M l0 56) (((8 : Int32) * l1) + (4 : Int32)).toNatClampNeg) (zI M (zQ M l0 56) (((8 : Int32) * l1) + (5 : Int32)).toNatClampNeg) M).1 (b168_0 n l0 (zI M (zQ M l0 56) ((8 : Int32) * l1).toNatClampNeg) (zI M (zQ M l0 56) (((8 : Int32) * l1) + (1 : Int32)).toNatClampNeg) (zI M (zQ M l0 56) (((8 : Int32) * l1) + (2 : Int32)).toNatClampNeg) (zI M (zQ M l0 56) (((8 : Int32) * l1) + (3 : Int32)).toNatClampNeg) (zI M (zQ M l0 56) (((8 : Int32) * l1) + (4 : Int32)).toNatClampNeg) (zI M (zQ M l0 56) (((8 : Int32) * l1) + (5 : Int32)).toNatClampNeg) M).2 hp hQ
def b182_46 (n : Nat)  : Nat → Nat → Int32 → zM → Int32 × zM
  | 0, _, _, M => (0, M)
  | k + 1, l0, l1, M => c182_46 n  (b182_46 n  k) l0 l1 M
def p182_46 (n : Nat)  : Nat → Nat → Int32 → zM → Prop
  | 0, _, _, _ => False
  | k + 1, l0, l1, M => d182_46 n  (p182_46 n  k) l0 l1 M
theorem s182_46 (n : Nat)    : ∀ (k : Nat) (l0 : Nat) (l1 : Int32) (M : zM), p182_46 n  k l0 l1 M → ∀ {Q : Option Value → zM → Prop}, (∀ r M1, zRI (b182_46 n  k l0 l1 M) r M1 → Q r M1) → zWP 182 46 [some (.ref l0), some (.int l1)] [] M Q
  | 0, _, _, _, h, _, _ => h.elim
  | k + 1, l0, l1, M, h, _, hQ => t182_46 n  (b182_46 n  k)  (p182_46 n  k)  (s182_46 n    k) l0 l1 M h hQ
def b182_44 (n : Nat)  (l0 : Nat) (M : zM) : Int32 × zM := b182_46 n  n l0 (0 : Int32) M
def p182_44 (n : Nat)  (l0 : Nat) (M : zM) : Prop := p182_46 n  n l0 (0 : Int32) M
theorem s182_44 (n : Nat)    (l0 : Nat) (M : zM) (hp : p182_44 n  l0 M) {Q : Option Value → zM → Prop} (hQ : ∀ r M1, zRI (b182_44 n  l0 M) r M1 → Q r M1) : zWP 182 44 [some (.ref l0), none] [] M Q := by
  unfold b182_44 at hQ
  unfold p182_44 at hp
  refine wp_go 2 (pc' := 46) (L' := [some (.ref l0), some (.int (0 : Int32))]) (st' := []) (M' := M) rfl ?_
  exact s182_46 n    n l0 (0 : Int32) M hp hQ
def b182_39 (n : Nat)  (l0 : Nat) (M : zM) : Int32 × zM := b182_44 n  l0 (b180_0 n l0 (1 : Int32) M)
def p182_39 (n : Nat)  (l0 : Nat) (M : zM) : Prop := (zHasC 182 329 l0 M 180 1) ∧ ((p180_0 n l0 (1 : Int32) M) ∧ (p182_44 n  l0 (b180_0 n l0 (1 : Int32) M)))
theorem s182_39 (n : Nat)    (l0 : Nat) (M : zM) (hp : p182_39 n  l0 M) {Q : Option Value → zM → Prop} (hQ : ∀ r M1, zRI (b182_39 n  l0 M) r M1 → Q r M1) : zWP 182 39 [some (.ref l0), none] [] M Q := by
  unfold b182_39 at hQ
  unfold p182_39 at hp
  refine wp_go 2 (pc' := 41) (L' := [some (.ref l0), none]) (st' := [.int (1 : Int32), .ref l0]) (M' := M) rfl ?_
  obtain ⟨hv, hp⟩ := hp
  obtain ⟨hc, hp⟩ := hp
  refine wp_callv (M1 := (b180_0 n l0 (1 : Int32) M)) rfl rfl rfl (zInv_v (np := 1) rfl rfl hv rfl) (s180_0 n l0 (1 : Int32) M hc (fun r M1 h => h)) ?_
  exact s182_44 n    l0 (b180_0 n l0 (1 : Int32) M) hp hQ
def b182_34 (n : Nat)  (l0 : Nat) (M : zM) : Int32 × zM := b182_39 n  l0 (b180_0 n l0 (0 : Int32) M)
def p182_34 (n : Nat)  (l0 : Nat) (M : zM) : Prop := (zHasC 182 329 l0 M 180 1) ∧ ((p180_0 n l0 (0 : Int32) M) ∧ (p182_39 n  l0 (b180_0 n l0 (0 : Int32) M)))
theorem s182_34 (n : Nat)    (l0 : Nat) (M : zM) (hp : p182_34 n  l0 M) {Q : Option Value → zM → Prop} (hQ : ∀ r M1, zRI (b182_34 n  l0 M) r M1 → Q r M1) : zWP 182 34 [some (.ref l0), none] [] M Q := by
  unfold b182_34 at hQ
  unfold p182_34 at hp
  refine wp_go 2 (pc' := 36) (L' := [some (.ref l0), none]) (st' := [.int (0 : Int32), .ref l0]) (M' := M) rfl ?_
  obtain ⟨hv, hp⟩ := hp
  obtain ⟨hc, hp⟩ := hp
  refine wp_callv (M1 := (b180_0 n l0 (0 : Int32) M)) rfl rfl rfl (zInv_v (np := 1) rfl rfl hv rfl) (s180_0 n l0 (0 : Int32) M hc (fun r M1 h => h)) ?_
  exact s182_39 n    l0 (b180_0 n l0 (0 : Int32) M) hp hQ
def b182_23 (n : Nat) (k2 : Nat → Int32 → zM → Int32 × zM) (l0 : Nat) (l1 : Int32) (M : zM) : Int32 × zM := k2 l0 (l1 + Int32.ofInt 1) M
def p182_23 (n : Nat) (q2 : Nat → Int32 → zM → Prop) (l0 : Nat) (l1 : Int32) (M : zM) : Prop := q2 l0 (l1 + Int32.ofInt 1) M
theorem s182_23 (n : Nat) (k2 : Nat → Int32 → zM → Int32 × zM) (q2 : Nat → Int32 → zM → Prop) (h2 : ∀ (l0 : Nat) (l1 : Int32) (M : zM), q2 l0 l1 M → ∀ {Q : Option Value → zM → Prop}, (∀ r M1, zRI (k2 l0 l1 M) r M1 → Q r M1) → zWP 182 2 [some (.ref l0), some (.int l1)] [] M Q) (l0 : Nat) (l1 : Int32) (M : zM) (hp : p182_23 n q2 l0 l1 M) {Q : Option Value → zM → Prop} (hQ : ∀ r M1, zRI (b182_23 n k2 l0 l1 M) r M1 → Q r M1) : zWP 182 23 [some (.ref l0), some (.int l1)] [] M Q := by
  unfold b182_23 at hQ
  unfold p182_23 at hp
  refine wp_go 2 (pc' := 2) (L' := [some (.ref l0), some (.int (l1 + Int32.ofInt 1))]) (st' := []) (M' := M) rfl ?_
  exact h2 l0 (l1 + Int32.ofInt 1) M hp hQ
def b182_16 (n : Nat) (k2 : Nat → Int32 → zM → Int32 × zM) (l0 : Nat) (l1 : Int32) (M : zM) : Int32 × zM := b182_23 n k2 l0 l1 (zWI M (zQ M l0 55) l1.toNatClampNeg (0 : Int32))
def p182_16 (n : Nat) (q2 : Nat → Int32 → zM → Prop) (l0 : Nat) (l1 : Int32) (M : zM) : Prop := (zHasQ 10 132 l0 M 55) ∧ ((zOkT 1 (zQ M l0 55) l1 M) ∧ (p182_23 n q2 l0 l1 (zWI M (zQ M l0 55) l1.toNatClampNeg (0 : Int32))))
theorem s182_16 (n : Nat) (k2 : Nat → Int32 → zM → Int32 × zM) (q2 : Nat → Int32 → zM → Prop) (h2 : ∀ (l0 : Nat) (l1 : Int32) (M : zM), q2 l0 l1 M → ∀ {Q : Option Value → zM → Prop}, (∀ r M1, zRI (k2 l0 l1 M) r M1 → Q r M1) → zWP 182 2 [some (.ref l0), some (.int l1)] [] M Q) (l0 : Nat) (l1 : Int32) (M : zM) (hp : p182_16 n q2 l0 l1 M) {Q : Option Value → zM → Prop} (hQ : ∀ r M1, zRI (b182_16 n k2 l0 l1 M) r M1 → Q r M1) : zWP 182 16 [some (.ref l0), some (.int l1)] [] M Q := by
  unfold b182_16 at hQ
  unfold p182_16 at hp
  refine wp_go 1 (pc' := 17) (L' := [some (.ref l0), some (.int l1)]) (st' := [.ref l0]) (M' := M) rfl ?_
  obtain ⟨hc, hp⟩ := hp
  refine wq_getQ (j := 55) rfl hc ?_
  refine wp_go 2 (pc' := 22) (L' := [some (.ref l0), some (.int l1)]) (st' := [.int (0 : Int32), .int l1, .ref (zQ M l0 55)]) (M' := M) rfl ?_
  obtain ⟨hc, hp⟩ := hp
  refine wq_iast rfl hc ?_
  exact s182_23 n k2 q2 h2 l0 l1 (zWI M (zQ M l0 55) l1.toNatClampNeg (0 : Int32)) hp hQ
def c182_2 (n : Nat) (k2 : Nat → Int32 → zM → Int32 × zM) (l0 : Nat) (l1 : Int32) (M : zM) : Int32 × zM := (if (240 : Int32) ≤ l1 then b182_34 n  l0 (zWI M l0 57 (0 : Int32)) else b182_16 n k2 l0 l1 (zWI M (zQ M l0 54) l1.toNatClampNeg (0 : Int32)))
def d182_2 (n : Nat) (q2 : Nat → Int32 → zM → Prop) (l0 : Nat) (l1 : Int32) (M : zM) : Prop := (((240 : Int32) ≤ l1 → (zPutI 182 326 l0 M 57 (0 : Int32)) ∧ (p182_34 n  l0 (zWI M l0 57 (0 : Int32)))) ∧ (¬ (240 : Int32) ≤ l1 → (zHasQ 10 129 l0 M 54) ∧ ((zOkT 1 (zQ M l0 54) l1 M) ∧ (p182_16 n q2 l0 l1 (zWI M (zQ M l0 54) l1.toNatClampNeg (0 : Int32))))))
theorem t182_2 (n : Nat) (k2 : Nat → Int32 → zM → Int32 × zM) (q2 : Nat → Int32 → zM → Prop) (h2 : ∀ (l0 : Nat) (l1 : Int32) (M : zM), q2 l0 l1 M → ∀ {Q : Option Value → zM → Prop}, (∀ r M1, zRI (k2 l0 l1 M) r M1 → Q r M1) → zWP 182 2 [some (.ref l0), some (.int l1)] [] M Q) (l0 : Nat) (l1 : Int32) (M : zM) (hp : d182_2 n q2 l0 l1 M) {Q : Option Value → zM → Prop} (hQ : ∀ r M1, zRI (c182_2 n k2 l0 l1 M) r M1 → Q r M1) : zWP 182 2 [some (.ref l0), some (.int l1)] [] M Q := by
  unfold c182_2 at hQ
  unfold d182_2 at hp
  refine wp_go 2 (pc' := 6) (L' := [some (.ref l0), some (.int l1)]) (st' := [.int (240 : Int32), .int l1]) (M' := M) rfl ?_
  refine wp_ic_ge (t := 29) rfl rfl (fun hc => ?_) (fun hc => ?_)
  · rw [if_pos hc] at hQ
    replace hp := hp.1 hc
    refine wp_go 2 (pc' := 31) (L' := [some (.ref l0), some (.int l1)]) (st' := [.int (0 : Int32), .ref l0]) (M' := M) rfl ?_
    obtain ⟨hc, hp⟩ := hp
    refine wq_putI (j := 57) rfl hc ?_
    refine wp_le [some (.ref l0), none] (zLe_of (by simp [zLeB])) ?_
    exact s182_34 n    l0 (zWI M l0 57 (0 : Int32)) hp hQ
  · rw [if_neg hc] at hQ
    replace hp := hp.2 hc
    refine wp_go 1 (pc' := 10) (L' := [some (.ref l0), some (.int l1)]) (st' := [.ref l0]) (M' := M) rfl ?_
    obtain ⟨hc, hp⟩ := hp
    refine wq_getQ (j := 54) rfl hc ?_
    refine wp_go 2 (pc' := 15) (L' := [some (.ref l0), some (.int l1)]) (st' := [.int (0 : Int32), .int l1, .ref (zQ M l0 54)]) (M' := M) rfl ?_
    obtain ⟨hc, hp⟩ := hp
    refine wq_iast rfl hc ?_
    exact s182_16 n k2 q2 h2 l0 l1 (zWI M (zQ M l0 54) l1.toNatClampNeg (0 : Int32)) hp hQ
def b182_2 (n : Nat)  : Nat → Nat → Int32 → zM → Int32 × zM
  | 0, _, _, M => (0, M)
  | k + 1, l0, l1, M => c182_2 n  (b182_2 n  k) l0 l1 M
def p182_2 (n : Nat)  : Nat → Nat → Int32 → zM → Prop
  | 0, _, _, _ => False
  | k + 1, l0, l1, M => d182_2 n  (p182_2 n  k) l0 l1 M
theorem s182_2 (n : Nat)    : ∀ (k : Nat) (l0 : Nat) (l1 : Int32) (M : zM), p182_2 n  k l0 l1 M → ∀ {Q : Option Value → zM → Prop}, (∀ r M1, zRI (b182_2 n  k l0 l1 M) r M1 → Q r M1) → zWP 182 2 [some (.ref l0), some (.int l1)] [] M Q
  | 0, _, _, _, h, _, _ => h.elim
  | k + 1, l0, l1, M, h, _, hQ => t182_2 n  (b182_2 n  k)  (p182_2 n  k)  (s182_2 n    k) l0 l1 M h hQ
def b182_0 (n : Nat)  (l0 : Nat) (M : zM) : Int32 × zM := b182_2 n  n l0 (0 : Int32) M
def p182_0 (n : Nat)  (l0 : Nat) (M : zM) : Prop := p182_2 n  n l0 (0 : Int32) M
theorem s182_0 (n : Nat)    (l0 : Nat) (M : zM) (hp : p182_0 n  l0 M) {Q : Option Value → zM → Prop} (hQ : ∀ r M1, zRI (b182_0 n  l0 M) r M1 → Q r M1) : zWP 182 0 [some (.ref l0), none] [] M Q := by
  unfold b182_0 at hQ
  unfold p182_0 at hp
  refine wp_go 2 (pc' := 2) (L' := [some (.ref l0), some (.int (0 : Int32))]) (st' := []) (M' := M) rfl ?_
  exact s182_2 n    n l0 (0 : Int32) M hp hQ
/-! X12_order -/
def b183_11 (n : Nat) (k7 : Nat → Int32 → zM → Int32 × zM) (l0 : Nat) (l1 : Int32) (s0 : Int32) (M : zM) : Int32 × zM := (if s0 = 0 then (l1, M) else k7 l0 (l1 + Int32.ofInt 1) M)
def p183_11 (n : Nat) (q7 : Nat → Int32 → zM → Prop) (l0 : Nat) (l1 : Int32) (s0 : Int32) (M : zM) : Prop := ((s0 = 0 → True) ∧ (¬ s0 = 0 → q7 l0 (l1 + Int32.ofInt 1) M))
theorem s183_11 (n : Nat) (k7 : Nat → Int32 → zM → Int32 × zM) (q7 : Nat → Int32 → zM → Prop) (h7 : ∀ (l0 : Nat) (l1 : Int32) (M : zM), q7 l0 l1 M → ∀ {Q : Option Value → zM → Prop}, (∀ r M1, zRI (k7 l0 l1 M) r M1 → Q r M1) → zWP 183 7 [some (.ref l0), some (.int l1)] [] M Q) (l0 : Nat) (l1 : Int32) (s0 : Int32) (M : zM) (hp : p183_11 n q7 l0 l1 s0 M) {Q : Option Value → zM → Prop} (hQ : ∀ r M1, zRI (b183_11 n k7 l0 l1 s0 M) r M1 → Q r M1) : zWP 183 11 [some (.ref l0), some (.int l1)] [.int s0] M Q := by
  unfold b183_11 at hQ
  unfold p183_11 at hp
  refine wp_if_eq (t := 20) rfl rfl (fun hc => ?_) (fun hc => ?_)
  · rw [if_pos hc] at hQ
    replace hp := hp.1 hc
    refine wp_go 1 (pc' := 21) (L' := [some (.ref l0), some (.int l1)]) (st' := [.int l1]) (M' := M) rfl ?_
    exact wp_ret (r := some (.int l1)) rfl rfl (hQ _ _ ⟨rfl, rfl⟩)
  · rw [if_neg hc] at hQ
    replace hp := hp.2 hc
    refine wp_go 2 (pc' := 7) (L' := [some (.ref l0), some (.int (l1 + Int32.ofInt 1))]) (st' := []) (M' := M) rfl ?_
    exact h7 l0 (l1 + Int32.ofInt 1) M hp hQ
def c183_7 (n : Nat) (k7 : Nat → Int32 → zM → Int32 × zM) (l0 : Nat) (l1 : Int32) (M : zM) : Int32 × zM := b183_11 n k7 l0 l1 (b182_0 n l0 M).1 (b182_0 n l0 M).2
def d183_7 (n : Nat) (q7 : Nat → Int32 → zM → Prop) (l0 : Nat) (l1 : Int32) (M : zM) : Prop := (zHasC 183 332 l0 M 182 0) ∧ ((p182_0 n l0 M) ∧ (p183_11 n q7 l0 l1 (b182_0 n l0 M).1 (b182_0 n l0 M).2))
theorem t183_7 (n : Nat) (k7 : Nat → Int32 → zM → Int32 × zM) (q7 : Nat → Int32 → zM → Prop) (h7 : ∀ (l0 : Nat) (l1 : Int32) (M : zM), q7 l0 l1 M → ∀ {Q : Option Value → zM → Prop}, (∀ r M1, zRI (k7 l0 l1 M) r M1 → Q r M1) → zWP 183 7 [some (.ref l0), some (.int l1)] [] M Q) (l0 : Nat) (l1 : Int32) (M : zM) (hp : d183_7 n q7 l0 l1 M) {Q : Option Value → zM → Prop} (hQ : ∀ r M1, zRI (c183_7 n k7 l0 l1 M) r M1 → Q r M1) : zWP 183 7 [some (.ref l0), some (.int l1)] [] M Q := by
  unfold c183_7 at hQ
  unfold d183_7 at hp
  refine wp_go 1 (pc' := 8) (L' := [some (.ref l0), some (.int l1)]) (st' := [.ref l0]) (M' := M) rfl ?_
  obtain ⟨hv, hp⟩ := hp
  obtain ⟨hc, hp⟩ := hp
  refine wp_calli (v := (b182_0 n l0 M).1) (M1 := (b182_0 n l0 M).2) rfl rfl rfl (zInv_v (np := 0) rfl rfl hv rfl) (s182_0 n l0 M hc (fun r M1 h => h)) ?_
  exact s183_11 n k7 q7 h7 l0 l1 (b182_0 n l0 M).1 (b182_0 n l0 M).2 hp hQ
def b183_7 (n : Nat)  : Nat → Nat → Int32 → zM → Int32 × zM
  | 0, _, _, M => (0, M)
  | k + 1, l0, l1, M => c183_7 n  (b183_7 n  k) l0 l1 M
def p183_7 (n : Nat)  : Nat → Nat → Int32 → zM → Prop
  | 0, _, _, _ => False
  | k + 1, l0, l1, M => d183_7 n  (p183_7 n  k) l0 l1 M
theorem s183_7 (n : Nat)    : ∀ (k : Nat) (l0 : Nat) (l1 : Int32) (M : zM), p183_7 n  k l0 l1 M → ∀ {Q : Option Value → zM → Prop}, (∀ r M1, zRI (b183_7 n  k l0 l1 M) r M1 → Q r M1) → zWP 183 7 [some (.ref l0), some (.int l1)] [] M Q
  | 0, _, _, _, h, _, _ => h.elim
  | k + 1, l0, l1, M, h, _, hQ => t183_7 n  (b183_7 n  k)  (p183_7 n  k)  (s183_7 n    k) l0 l1 M h hQ
def b183_5 (n : Nat)  (l0 : Nat) (M : zM) : Int32 × zM := b183_7 n  n l0 (0 : Int32) M
def p183_5 (n : Nat)  (l0 : Nat) (M : zM) : Prop := p183_7 n  n l0 (0 : Int32) M
theorem s183_5 (n : Nat)    (l0 : Nat) (M : zM) (hp : p183_5 n  l0 M) {Q : Option Value → zM → Prop} (hQ : ∀ r M1, zRI (b183_5 n  l0 M) r M1 → Q r M1) : zWP 183 5 [some (.ref l0), none] [] M Q := by
  unfold b183_5 at hQ
  unfold p183_5 at hp
  refine wp_go 2 (pc' := 7) (L' := [some (.ref l0), some (.int (0 : Int32))]) (st' := []) (M' := M) rfl ?_
  exact s183_7 n    n l0 (0 : Int32) M hp hQ
def b183_0 (n : Nat)  (l0 : Nat) (M : zM) : Int32 × zM := b183_5 n  l0 (zWI M l0 26 (0 : Int32))
def p183_0 (n : Nat)  (l0 : Nat) (M : zM) : Prop := (zPutI 183 138 l0 M 26 (0 : Int32)) ∧ (p183_5 n  l0 (zWI M l0 26 (0 : Int32)))
theorem s183_0 (n : Nat)    (l0 : Nat) (M : zM) (hp : p183_0 n  l0 M) {Q : Option Value → zM → Prop} (hQ : ∀ r M1, zRI (b183_0 n  l0 M) r M1 → Q r M1) : zWP 183 0 [some (.ref l0), none] [] M Q := by
  unfold b183_0 at hQ
  unfold p183_0 at hp
  refine wp_go 2 (pc' := 2) (L' := [some (.ref l0), none]) (st' := [.int (0 : Int32), .ref l0]) (M' := M) rfl ?_
  obtain ⟨hc, hp⟩ := hp
  refine wq_putI (j := 26) rfl hc ?_
  exact s183_5 n    l0 (zWI M l0 26 (0 : Int32)) hp hQ
/-! X12_groups -/
def b184_9 (n : Nat)  (s0 : Int32) (M : zM) : Int32 × zM := (s0, M)
def p184_9 (n : Nat)  (s0 : Int32) (M : zM) : Prop := True
theorem s184_9 (n : Nat)    (s0 : Int32) (M : zM) (hp : p184_9 n  s0 M) {Q : Option Value → zM → Prop} (hQ : ∀ r M1, zRI (b184_9 n  s0 M) r M1 → Q r M1) : zWP 184 9 [none] [.int s0] M Q := by
  unfold b184_9 at hQ
  unfold p184_9 at hp
  exact wp_ret (r := some (.int s0)) rfl rfl (hQ _ _ ⟨rfl, rfl⟩)
def b184_5 (n : Nat)  (l0 : Nat) (M : zM) : Int32 × zM := b184_9 n  (b172_0 n l0 M).1 (b172_0 n l0 M).2
def p184_5 (n : Nat)  (l0 : Nat) (M : zM) : Prop := (zHasC 184 317 l0 M 172 0) ∧ ((p172_0 n l0 M) ∧ (p184_9 n  (b172_0 n l0 M).1 (b172_0 n l0 M).2))
theorem s184_5 (n : Nat)    (l0 : Nat) (M : zM) (hp : p184_5 n  l0 M) {Q : Option Value → zM → Prop} (hQ : ∀ r M1, zRI (b184_5 n  l0 M) r M1 → Q r M1) : zWP 184 5 [some (.ref l0)] [] M Q := by
  unfold b184_5 at hQ
  unfold p184_5 at hp
  refine wp_go 1 (pc' := 6) (L' := [some (.ref l0)]) (st' := [.ref l0]) (M' := M) rfl ?_
  obtain ⟨hv, hp⟩ := hp
  obtain ⟨hc, hp⟩ := hp
  refine wp_calli (v := (b172_0 n l0 M).1) (M1 := (b172_0 n l0 M).2) rfl rfl rfl (zInv_v (np := 0) rfl rfl hv rfl) (s172_0 n l0 M hc (fun r M1 h => h)) ?_
  refine wp_le [none] (zLe_of (by simp [zLeB])) ?_
  exact s184_9 n    (b172_0 n l0 M).1 (b172_0 n l0 M).2 hp hQ
def b184_0 (n : Nat)  (l0 : Nat) (M : zM) : Int32 × zM := b184_5 n  l0 (zWI M l0 26 (0 : Int32))
def p184_0 (n : Nat)  (l0 : Nat) (M : zM) : Prop := (zPutI 184 138 l0 M 26 (0 : Int32)) ∧ (p184_5 n  l0 (zWI M l0 26 (0 : Int32)))
theorem s184_0 (n : Nat)    (l0 : Nat) (M : zM) (hp : p184_0 n  l0 M) {Q : Option Value → zM → Prop} (hQ : ∀ r M1, zRI (b184_0 n  l0 M) r M1 → Q r M1) : zWP 184 0 [some (.ref l0)] [] M Q := by
  unfold b184_0 at hQ
  unfold p184_0 at hp
  refine wp_go 2 (pc' := 2) (L' := [some (.ref l0)]) (st' := [.int (0 : Int32), .ref l0]) (M' := M) rfl ?_
  obtain ⟨hc, hp⟩ := hp
  refine wq_putI (j := 26) rfl hc ?_
  exact s184_5 n    l0 (zWI M l0 26 (0 : Int32)) hp hQ
/-! X12_group -/
def b185_22 (n : Nat)   (M : zM) : Int64 × zM := (((-1) : Int64), M)
def p185_22 (n : Nat)   (M : zM) : Prop := True
theorem s185_22 (n : Nat)     (M : zM) (hp : p185_22 n   M) {Q : Option Value → zM → Prop} (hQ : ∀ r M1, zRJ (b185_22 n   M) r M1 → Q r M1) : zWP 185 22 [none, none, none, none, none, none, none, none, none] [] M Q := by
  unfold b185_22 at hQ
  unfold p185_22 at hp
  refine wp_go 1 (pc' := 25) (L' := [none, none, none, none, none, none, none, none, none]) (st' := [.long ((-1) : Int64)]) (M' := M) rfl ?_
  exact wp_ret (r := some (.long ((-1) : Int64))) rfl rfl (hQ _ _ ⟨rfl, rfl⟩)
def b185_253 (n : Nat)  (s0 : Int64) (M : zM) : Int64 × zM := (s0, M)
def p185_253 (n : Nat)  (s0 : Int64) (M : zM) : Prop := True
theorem s185_253 (n : Nat)    (s0 : Int64) (M : zM) (hp : p185_253 n  s0 M) {Q : Option Value → zM → Prop} (hQ : ∀ r M1, zRJ (b185_253 n  s0 M) r M1 → Q r M1) : zWP 185 253 [none, none, none, none, none, none, none, none, none] [.long s0] M Q := by
  unfold b185_253 at hQ
  unfold p185_253 at hp
  exact wp_ret (r := some (.long s0)) rfl rfl (hQ _ _ ⟨rfl, rfl⟩)
def b185_191 (n : Nat) (k113 : Nat → Int32 → Int64 → Int32 → Int32 → zM → Int64 × zM) (l0 : Nat) (l2 : Int32) (l4 : Int64) (l6 : Int32) (l7 : Int32) (M : zM) : Int64 × zM := k113 l0 l2 l4 l6 (l7 + Int32.ofInt 1) M
def p185_191 (n : Nat) (q113 : Nat → Int32 → Int64 → Int32 → Int32 → zM → Prop) (l0 : Nat) (l2 : Int32) (l4 : Int64) (l6 : Int32) (l7 : Int32) (M : zM) : Prop := q113 l0 l2 l4 l6 (l7 + Int32.ofInt 1) M
theorem s185_191 (n : Nat) (k113 : Nat → Int32 → Int64 → Int32 → Int32 → zM → Int64 × zM) (q113 : Nat → Int32 → Int64 → Int32 → Int32 → zM → Prop) (h113 : ∀ (l0 : Nat) (l2 : Int32) (l4 : Int64) (l6 : Int32) (l7 : Int32) (M : zM), q113 l0 l2 l4 l6 l7 M → ∀ {Q : Option Value → zM → Prop}, (∀ r M1, zRJ (k113 l0 l2 l4 l6 l7 M) r M1 → Q r M1) → zWP 185 113 [some (.ref l0), none, some (.int l2), none, some (.long l4), none, some (.int l6), some (.int l7), none] [] M Q) (l0 : Nat) (l2 : Int32) (l4 : Int64) (l6 : Int32) (l7 : Int32) (M : zM) (hp : p185_191 n q113 l0 l2 l4 l6 l7 M) {Q : Option Value → zM → Prop} (hQ : ∀ r M1, zRJ (b185_191 n k113 l0 l2 l4 l6 l7 M) r M1 → Q r M1) : zWP 185 191 [some (.ref l0), none, some (.int l2), none, some (.long l4), none, some (.int l6), some (.int l7), none] [] M Q := by
  unfold b185_191 at hQ
  unfold p185_191 at hp
  refine wp_go 2 (pc' := 113) (L' := [some (.ref l0), none, some (.int l2), none, some (.long l4), none, some (.int l6), some (.int (l7 + Int32.ofInt 1)), none]) (st' := []) (M' := M) rfl ?_
  exact h113 l0 l2 l4 l6 (l7 + Int32.ofInt 1) M hp hQ
def b185_158 (n : Nat) (k113 : Nat → Int32 → Int64 → Int32 → Int32 → zM → Int64 × zM) (l0 : Nat) (l2 : Int32) (l6 : Int32) (l7 : Int32) (s0 : Int64) (s1 : Int64) (M : zM) : Int64 × zM := (if 0 ≤ l6 then b185_191 n k113 l0 l2 (s0 + s1) l6 l7 M else (if (zI M (zQ M l0 1) l7.toNatClampNeg) = (1 : Int32) then (if (zI M (zQ M l0 5) l7.toNatClampNeg) < 0 then b185_191 n k113 l0 l2 (s0 + s1) l6 l7 M else b185_191 n k113 l0 l2 (s0 + s1) l7 l7 M) else b185_191 n k113 l0 l2 (s0 + s1) l6 l7 M))
def p185_158 (n : Nat) (q113 : Nat → Int32 → Int64 → Int32 → Int32 → zM → Prop) (l0 : Nat) (l2 : Int32) (l6 : Int32) (l7 : Int32) (s0 : Int64) (s1 : Int64) (M : zM) : Prop := ((0 ≤ l6 → p185_191 n q113 l0 l2 (s0 + s1) l6 l7 M) ∧ (¬ 0 ≤ l6 → (zHasQ 10 7 l0 M 1) ∧ ((zOkI (zQ M l0 1) l7 M) ∧ ((((zI M (zQ M l0 1) l7.toNatClampNeg) = (1 : Int32) → (zHasQ 10 23 l0 M 5) ∧ ((zOkI (zQ M l0 5) l7 M) ∧ ((((zI M (zQ M l0 5) l7.toNatClampNeg) < 0 → p185_191 n q113 l0 l2 (s0 + s1) l6 l7 M) ∧ (¬ (zI M (zQ M l0 5) l7.toNatClampNeg) < 0 → p185_191 n q113 l0 l2 (s0 + s1) l7 l7 M))))) ∧ (¬ (zI M (zQ M l0 1) l7.toNatClampNeg) = (1 : Int32) → p185_191 n q113 l0 l2 (s0 + s1) l6 l7 M))))))
theorem s185_158 (n : Nat) (k113 : Nat → Int32 → Int64 → Int32 → Int32 → zM → Int64 × zM) (q113 : Nat → Int32 → Int64 → Int32 → Int32 → zM → Prop) (h113 : ∀ (l0 : Nat) (l2 : Int32) (l4 : Int64) (l6 : Int32) (l7 : Int32) (M : zM), q113 l0 l2 l4 l6 l7 M → ∀ {Q : Option Value → zM → Prop}, (∀ r M1, zRJ (k113 l0 l2 l4 l6 l7 M) r M1 → Q r M1) → zWP 185 113 [some (.ref l0), none, some (.int l2), none, some (.long l4), none, some (.int l6), some (.int l7), none] [] M Q) (l0 : Nat) (l2 : Int32) (l6 : Int32) (l7 : Int32) (s0 : Int64) (s1 : Int64) (M : zM) (hp : p185_158 n q113 l0 l2 l6 l7 s0 s1 M) {Q : Option Value → zM → Prop} (hQ : ∀ r M1, zRJ (b185_158 n k113 l0 l2 l6 l7 s0 s1 M) r M1 → Q r M1) : zWP 185 158 [some (.ref l0), none, some (.int l2), none, none, none, some (.int l6), some (.int l7), none] [.long s1, .long s0] M Q := by
  unfold b185_158 at hQ
  unfold p185_158 at hp
  refine wp_go 3 (pc' := 163) (L' := [some (.ref l0), none, some (.int l2), none, some (.long (s0 + s1)), none, some (.int l6), some (.int l7), none]) (st' := [.int l6]) (M' := M) rfl ?_
  refine wp_if_ge (t := 191) rfl rfl (fun hc => ?_) (fun hc => ?_)
  · rw [if_pos hc] at hQ
    replace hp := hp.1 hc
    exact s185_191 n k113 q113 h113 l0 l2 (s0 + s1) l6 l7 M hp hQ
  · rw [if_neg hc] at hQ
    replace hp := hp.2 hc
    refine wp_go 1 (pc' := 167) (L' := [some (.ref l0), none, some (.int l2), none, some (.long (s0 + s1)), none, some (.int l6), some (.int l7), none]) (st' := [.ref l0]) (M' := M) rfl ?_
    obtain ⟨hc, hp⟩ := hp
    refine wq_getQ (j := 1) rfl hc ?_
    refine wp_go 1 (pc' := 172) (L' := [some (.ref l0), none, some (.int l2), none, some (.long (s0 + s1)), none, some (.int l6), some (.int l7), none]) (st' := [.int l7, .ref (zQ M l0 1)]) (M' := M) rfl ?_
    obtain ⟨hc, hp⟩ := hp
    refine wq_iald rfl hc ?_
    refine wp_go 1 (pc' := 174) (L' := [some (.ref l0), none, some (.int l2), none, some (.long (s0 + s1)), none, some (.int l6), some (.int l7), none]) (st' := [.int (1 : Int32), .int (zI M (zQ M l0 1) l7.toNatClampNeg)]) (M' := M) rfl ?_
    refine wp_ic_ne (t := 191) rfl rfl (fun hc => ?_) (fun hc => ?_)
    · rw [if_neg hc] at hQ
      replace hp := hp.2 hc
      exact s185_191 n k113 q113 h113 l0 l2 (s0 + s1) l6 l7 M hp hQ
    · rw [if_pos hc] at hQ
      replace hp := hp.1 hc
      refine wp_go 1 (pc' := 178) (L' := [some (.ref l0), none, some (.int l2), none, some (.long (s0 + s1)), none, some (.int l6), some (.int l7), none]) (st' := [.ref l0]) (M' := M) rfl ?_
      obtain ⟨hc, hp⟩ := hp
      refine wq_getQ (j := 5) rfl hc ?_
      refine wp_go 1 (pc' := 183) (L' := [some (.ref l0), none, some (.int l2), none, some (.long (s0 + s1)), none, some (.int l6), some (.int l7), none]) (st' := [.int l7, .ref (zQ M l0 5)]) (M' := M) rfl ?_
      obtain ⟨hc, hp⟩ := hp
      refine wq_iald rfl hc ?_
      refine wp_if_lt (t := 191) rfl rfl (fun hc => ?_) (fun hc => ?_)
      · rw [if_pos hc] at hQ
        replace hp := hp.1 hc
        exact s185_191 n k113 q113 h113 l0 l2 (s0 + s1) l6 l7 M hp hQ
      · rw [if_neg hc] at hQ
        replace hp := hp.2 hc
        refine wp_go 2 (pc' := 191) (L' := [some (.ref l0), none, some (.int l2), none, some (.long (s0 + s1)), none, some (.int l7), some (.int l7), none]) (st' := []) (M' := M) rfl ?_
        exact s185_191 n k113 q113 h113 l0 l2 (s0 + s1) l7 l7 M hp hQ
def b185_154 (n : Nat) (k113 : Nat → Int32 → Int64 → Int32 → Int32 → zM → Int64 × zM) (l0 : Nat) (l2 : Int32) (l6 : Int32) (l7 : Int32) (s0 : Int64) (s1 : Int64) (M : zM) : Int64 × zM := b185_158 n k113 l0 l2 l6 l7 s0 s1 M
def p185_154 (n : Nat) (q113 : Nat → Int32 → Int64 → Int32 → Int32 → zM → Prop) (l0 : Nat) (l2 : Int32) (l6 : Int32) (l7 : Int32) (s0 : Int64) (s1 : Int64) (M : zM) : Prop := p185_158 n q113 l0 l2 l6 l7 s0 s1 M
theorem s185_154 (n : Nat) (k113 : Nat → Int32 → Int64 → Int32 → Int32 → zM → Int64 × zM) (q113 : Nat → Int32 → Int64 → Int32 → Int32 → zM → Prop) (h113 : ∀ (l0 : Nat) (l2 : Int32) (l4 : Int64) (l6 : Int32) (l7 : Int32) (M : zM), q113 l0 l2 l4 l6 l7 M → ∀ {Q : Option Value → zM → Prop}, (∀ r M1, zRJ (k113 l0 l2 l4 l6 l7 M) r M1 → Q r M1) → zWP 185 113 [some (.ref l0), none, some (.int l2), none, some (.long l4), none, some (.int l6), some (.int l7), none] [] M Q) (l0 : Nat) (l2 : Int32) (l6 : Int32) (l7 : Int32) (s0 : Int64) (s1 : Int64) (M : zM) (hp : p185_154 n q113 l0 l2 l6 l7 s0 s1 M) {Q : Option Value → zM → Prop} (hQ : ∀ r M1, zRJ (b185_154 n k113 l0 l2 l6 l7 s0 s1 M) r M1 → Q r M1) : zWP 185 154 [some (.ref l0), none, some (.int l2), none, none, none, some (.int l6), some (.int l7), none] [.long s1, .long s0] M Q := by
  unfold b185_154 at hQ
  unfold p185_154 at hp
  refine wp_go 1 (pc' := 158) (L' := [some (.ref l0), none, some (.int l2), none, none, none, some (.int l6), some (.int l7), none]) (st' := [.long s1, .long s0]) (M' := M) rfl ?_
  exact s185_158 n k113 q113 h113 l0 l2 l6 l7 s0 s1 M hp hQ
def c185_113 (n : Nat) (k113 : Nat → Int32 → Int64 → Int32 → Int32 → zM → Int64 × zM) (l0 : Nat) (l2 : Int32) (l4 : Int64) (l6 : Int32) (l7 : Int32) (M : zM) : Int64 × zM := (if (zI M l0 0) ≤ l7 then (if l2 = (2 : Int32) then (l4, M) else (if 0 ≤ l6 then (if 0 ≤ (lg_cmp ((((6283185 : Int64) * (zI M (zQ M l0 5) l6.toNatClampNeg).toInt64) * (zI M (zQ M l0 5) l6.toNatClampNeg).toInt64) - l4) (0 : Int64)) then b185_253 n  ((((6283185 : Int64) * (zI M (zQ M l0 5) l6.toNatClampNeg).toInt64) * (zI M (zQ M l0 5) l6.toNatClampNeg).toInt64) - l4) M else b185_253 n  (0 : Int64) M) else (((-1) : Int64), M))) else (if (zI M (zQ M l0 41) l7.toNatClampNeg) = 0 then b185_191 n k113 l0 l2 l4 l6 l7 M else (if (zI M (zQ M l0 3) l7.toNatClampNeg) = 0 then b185_158 n k113 l0 l2 l6 l7 l4 (0 : Int64) M else b185_154 n k113 l0 l2 l6 l7 l4 (b141_0 n l0 l7 (0 : Int32) M).1 (b141_0 n l0 l7 (0 : Int32) M).2)))
def d185_113 (n : Nat) (q113 : Nat → Int32 → Int64 → Int32 → Int32 → zM → Prop) (l0 : Nat) (l2 : Int32) (l4 : Int64) (l6 : Int32) (l7 : Int32) (M : zM) : Prop := (zHasI 10 148 l0 M 0) ∧ ((((zI M l0 0) ≤ l7 → ((l2 = (2 : Int32) → True) ∧ (¬ l2 = (2 : Int32) → ((0 ≤ l6 → (zHasQ 10 23 l0 M 5) ∧ ((zOkI (zQ M l0 5) l6 M) ∧ ((zHasQ 10 23 l0 M 5) ∧ ((zOkI (zQ M l0 5) l6 M) ∧ (((0 ≤ (lg_cmp ((((6283185 : Int64) * (zI M (zQ M l0 5) l6.toNatClampNeg).toInt64) * (zI M (zQ M l0 5) l6.toNatClampNeg).toInt64) - l4) (0 : Int64)) → p185_253 n  ((((6283185 : Int64) * (zI M (zQ M l0 5) l6.toNatClampNeg).toInt64) * (zI M (zQ M l0 5) l6.toNatClampNeg).toInt64) - l4) M) ∧ (¬ 0 ≤ (lg_cmp ((((6283185 : Int64) * (zI M (zQ M l0 5) l6.toNatClampNeg).toInt64) * (zI M (zQ M l0 5) l6.toNatClampNeg).toInt64) - l4) (0 : Int64)) → p185_253 n  (0 : Int64) M))))))) ∧ (¬ 0 ≤ l6 → True))))) ∧ (¬ (zI M l0 0) ≤ l7 → (zHasQ 10 99 l0 M 41) ∧ ((zOkT 2 (zQ M l0 41) l7 M) ∧ ((((zI M (zQ M l0 41) l7.toNatClampNeg) = 0 → p185_191 n q113 l0 l2 l4 l6 l7 M) ∧ (¬ (zI M (zQ M l0 41) l7.toNatClampNeg) = 0 → (zHasQ 10 16 l0 M 3) ∧ ((zOkT 2 (zQ M l0 3) l7 M) ∧ ((((zI M (zQ M l0 3) l7.toNatClampNeg) = 0 → p185_158 n q113 l0 l2 l6 l7 l4 (0 : Int64) M) ∧ (¬ (zI M (zQ M l0 3) l7.toNatClampNeg) = 0 → (zHasC 185 204 l0 M 141 2) ∧ ((p141_0 n l0 l7 (0 : Int32) M) ∧ (p185_154 n q113 l0 l2 l6 l7 l4 (b141_0 n l0 l7 (0 : Int32) M).1 (b141_0 n l0 l7 (0 : Int32) M).2)))))))))))))
theorem t185_113 (n : Nat) (k113 : Nat → Int32 → Int64 → Int32 → Int32 → zM → Int64 × zM) (q113 : Nat → Int32 → Int64 → Int32 → Int32 → zM → Prop) (h113 : ∀ (l0 : Nat) (l2 : Int32) (l4 : Int64) (l6 : Int32) (l7 : Int32) (M : zM), q113 l0 l2 l4 l6 l7 M → ∀ {Q : Option Value → zM → Prop}, (∀ r M1, zRJ (k113 l0 l2 l4 l6 l7 M) r M1 → Q r M1) → zWP 185 113 [some (.ref l0), none, some (.int l2), none, some (.long l4), none, some (.int l6), some (.int l7), none] [] M Q) (l0 : Nat) (l2 : Int32) (l4 : Int64) (l6 : Int32) (l7 : Int32) (M : zM) (hp : d185_113 n q113 l0 l2 l4 l6 l7 M) {Q : Option Value → zM → Prop} (hQ : ∀ r M1, zRJ (c185_113 n k113 l0 l2 l4 l6 l7 M) r M1 → Q r M1) : zWP 185 113 [some (.ref l0), none, some (.int l2), none, some (.long l4), none, some (.int l6), some (.int l7), none] [] M Q := by
  unfold c185_113 at hQ
  unfold d185_113 at hp
  refine wp_go 2 (pc' := 116) (L' := [some (.ref l0), none, some (.int l2), none, some (.long l4), none, some (.int l6), some (.int l7), none]) (st' := [.ref l0, .int l7]) (M' := M) rfl ?_
  obtain ⟨hc, hp⟩ := hp
  refine wq_getI (j := 0) rfl hc ?_
  refine wp_ic_ge (t := 197) rfl rfl (fun hc => ?_) (fun hc => ?_)
  · rw [if_pos hc] at hQ
    replace hp := hp.1 hc
    refine wp_go 2 (pc' := 199) (L' := [some (.ref l0), none, some (.int l2), none, some (.long l4), none, some (.int l6), some (.int l7), none]) (st' := [.int (2 : Int32), .int l2]) (M' := M) rfl ?_
    refine wp_ic_ne (t := 205) rfl rfl (fun hc => ?_) (fun hc => ?_)
    · rw [if_neg hc] at hQ
      replace hp := hp.2 hc
      refine wp_go 1 (pc' := 207) (L' := [some (.ref l0), none, some (.int l2), none, some (.long l4), none, some (.int l6), some (.int l7), none]) (st' := [.int l6]) (M' := M) rfl ?_
      refine wp_if_ge (t := 214) rfl rfl (fun hc => ?_) (fun hc => ?_)
      · rw [if_pos hc] at hQ
        replace hp := hp.1 hc
        refine wp_go 2 (pc' := 218) (L' := [some (.ref l0), none, some (.int l2), none, some (.long l4), none, some (.int l6), some (.int l7), none]) (st' := [.ref l0, .long (6283185 : Int64)]) (M' := M) rfl ?_
        obtain ⟨hc, hp⟩ := hp
        refine wq_getQ (j := 5) rfl hc ?_
        refine wp_go 1 (pc' := 223) (L' := [some (.ref l0), none, some (.int l2), none, some (.long l4), none, some (.int l6), some (.int l7), none]) (st' := [.int l6, .ref (zQ M l0 5), .long (6283185 : Int64)]) (M' := M) rfl ?_
        obtain ⟨hc, hp⟩ := hp
        refine wq_iald rfl hc ?_
        refine wp_go 3 (pc' := 227) (L' := [some (.ref l0), none, some (.int l2), none, some (.long l4), none, some (.int l6), some (.int l7), none]) (st' := [.ref l0, .long ((6283185 : Int64) * (zI M (zQ M l0 5) l6.toNatClampNeg).toInt64)]) (M' := M) rfl ?_
        obtain ⟨hc, hp⟩ := hp
        refine wq_getQ (j := 5) rfl hc ?_
        refine wp_go 1 (pc' := 232) (L' := [some (.ref l0), none, some (.int l2), none, some (.long l4), none, some (.int l6), some (.int l7), none]) (st' := [.int l6, .ref (zQ M l0 5), .long ((6283185 : Int64) * (zI M (zQ M l0 5) l6.toNatClampNeg).toInt64)]) (M' := M) rfl ?_
        obtain ⟨hc, hp⟩ := hp
        refine wq_iald rfl hc ?_
        refine wp_go 5 (pc' := 240) (L' := [some (.ref l0), none, some (.int l2), none, some (.long l4), none, some (.int l6), some (.long ((((6283185 : Int64) * (zI M (zQ M l0 5) l6.toNatClampNeg).toInt64) * (zI M (zQ M l0 5) l6.toNatClampNeg).toInt64) - l4)), none]) (st' := []) (M' := M) rfl ?_
        refine wp_go 3 (pc' := 244) (L' := [some (.ref l0), none, some (.int l2), none, some (.long l4), none, some (.int l6), some (.long ((((6283185 : Int64) * (zI M (zQ M l0 5) l6.toNatClampNeg).toInt64) * (zI M (zQ M l0 5) l6.toNatClampNeg).toInt64) - l4)), none]) (st' := [.int (lg_cmp ((((6283185 : Int64) * (zI M (zQ M l0 5) l6.toNatClampNeg).toInt64) * (zI M (zQ M l0 5) l6.toNatClampNeg).toInt64) - l4) (0 : Int64))]) (M' := M) rfl ?_
        refine wp_if_ge (t := 251) rfl rfl (fun hc => ?_) (fun hc => ?_)
        · rw [if_pos hc] at hQ
          replace hp := hp.1 hc
          refine wp_go 1 (pc' := 253) (L' := [some (.ref l0), none, some (.int l2), none, some (.long l4), none, some (.int l6), some (.long ((((6283185 : Int64) * (zI M (zQ M l0 5) l6.toNatClampNeg).toInt64) * (zI M (zQ M l0 5) l6.toNatClampNeg).toInt64) - l4)), none]) (st' := [.long ((((6283185 : Int64) * (zI M (zQ M l0 5) l6.toNatClampNeg).toInt64) * (zI M (zQ M l0 5) l6.toNatClampNeg).toInt64) - l4)]) (M' := M) rfl ?_
          refine wp_le [none, none, none, none, none, none, none, none, none] (zLe_of (by simp [zLeB])) ?_
          exact s185_253 n    ((((6283185 : Int64) * (zI M (zQ M l0 5) l6.toNatClampNeg).toInt64) * (zI M (zQ M l0 5) l6.toNatClampNeg).toInt64) - l4) M hp hQ
        · rw [if_neg hc] at hQ
          replace hp := hp.2 hc
          refine wp_go 2 (pc' := 253) (L' := [some (.ref l0), none, some (.int l2), none, some (.long l4), none, some (.int l6), some (.long ((((6283185 : Int64) * (zI M (zQ M l0 5) l6.toNatClampNeg).toInt64) * (zI M (zQ M l0 5) l6.toNatClampNeg).toInt64) - l4)), none]) (st' := [.long (0 : Int64)]) (M' := M) rfl ?_
          refine wp_le [none, none, none, none, none, none, none, none, none] (zLe_of (by simp [zLeB])) ?_
          exact s185_253 n    (0 : Int64) M hp hQ
      · rw [if_neg hc] at hQ
        replace hp := hp.2 hc
        refine wp_go 1 (pc' := 213) (L' := [some (.ref l0), none, some (.int l2), none, some (.long l4), none, some (.int l6), some (.int l7), none]) (st' := [.long ((-1) : Int64)]) (M' := M) rfl ?_
        exact wp_ret (r := some (.long ((-1) : Int64))) rfl rfl (hQ _ _ ⟨rfl, rfl⟩)
    · rw [if_pos hc] at hQ
      replace hp := hp.1 hc
      refine wp_go 1 (pc' := 204) (L' := [some (.ref l0), none, some (.int l2), none, some (.long l4), none, some (.int l6), some (.int l7), none]) (st' := [.long l4]) (M' := M) rfl ?_
      exact wp_ret (r := some (.long l4)) rfl rfl (hQ _ _ ⟨rfl, rfl⟩)
  · rw [if_neg hc] at hQ
    replace hp := hp.2 hc
    refine wp_go 1 (pc' := 123) (L' := [some (.ref l0), none, some (.int l2), none, some (.long l4), none, some (.int l6), some (.int l7), none]) (st' := [.ref l0]) (M' := M) rfl ?_
    obtain ⟨hc, hp⟩ := hp
    refine wq_getQ (j := 41) rfl hc ?_
    refine wp_go 1 (pc' := 128) (L' := [some (.ref l0), none, some (.int l2), none, some (.long l4), none, some (.int l6), some (.int l7), none]) (st' := [.int l7, .ref (zQ M l0 41)]) (M' := M) rfl ?_
    obtain ⟨hc, hp⟩ := hp
    refine wq_zald rfl hc ?_
    refine wp_if_ne (t := 135) rfl rfl (fun hc => ?_) (fun hc => ?_)
    · rw [if_neg hc] at hQ
      replace hp := hp.2 hc
      refine wp_go 2 (pc' := 138) (L' := [some (.ref l0), none, some (.int l2), none, some (.long l4), none, some (.int l6), some (.int l7), none]) (st' := [.ref l0, .long l4]) (M' := M) rfl ?_
      obtain ⟨hc, hp⟩ := hp
      refine wq_getQ (j := 3) rfl hc ?_
      refine wp_go 1 (pc' := 143) (L' := [some (.ref l0), none, some (.int l2), none, some (.long l4), none, some (.int l6), some (.int l7), none]) (st' := [.int l7, .ref (zQ M l0 3), .long l4]) (M' := M) rfl ?_
      obtain ⟨hc, hp⟩ := hp
      refine wq_zald rfl hc ?_
      refine wp_if_eq (t := 157) rfl rfl (fun hc => ?_) (fun hc => ?_)
      · rw [if_pos hc] at hQ
        replace hp := hp.1 hc
        refine wp_go 1 (pc' := 158) (L' := [some (.ref l0), none, some (.int l2), none, some (.long l4), none, some (.int l6), some (.int l7), none]) (st' := [.long (0 : Int64), .long l4]) (M' := M) rfl ?_
        refine wp_le [some (.ref l0), none, some (.int l2), none, none, none, some (.int l6), some (.int l7), none] (zLe_of (by simp [zLeB])) ?_
        exact s185_158 n k113 q113 h113 l0 l2 l6 l7 l4 (0 : Int64) M hp hQ
      · rw [if_neg hc] at hQ
        replace hp := hp.2 hc
        refine wp_go 3 (pc' := 151) (L' := [some (.ref l0), none, some (.int l2), none, some (.long l4), none, some (.int l6), some (.int l7), none]) (st' := [.int (0 : Int32), .int l7, .ref l0, .long l4]) (M' := M) rfl ?_
        obtain ⟨hv, hp⟩ := hp
        obtain ⟨hc, hp⟩ := hp
        refine wp_calll (v := (b141_0 n l0 l7 (0 : Int32) M).1) (M1 := (b141_0 n l0 l7 (0 : Int32) M).2) rfl rfl rfl (zInv_v (np := 2) rfl rfl hv rfl) (s141_0 n l0 l7 (0 : Int32) M hc (fun r M1 h => h)) ?_
        refine wp_le [some (.ref l0), none, some (.int l2), none, none, none, some (.int l6), some (.int l7), none] (zLe_of (by simp [zLeB])) ?_
        exact s185_154 n k113 q113 h113 l0 l2 l6 l7 l4 (b141_0 n l0 l7 (0 : Int32) M).1 (b141_0 n l0 l7 (0 : Int32) M).2 hp hQ
    · rw [if_pos hc] at hQ
      replace hp := hp.1 hc
      refine wp_go 1 (pc' := 191) (L' := [some (.ref l0), none, some (.int l2), none, some (.long l4), none, some (.int l6), some (.int l7), none]) (st' := []) (M' := M) rfl ?_
      exact s185_191 n k113 q113 h113 l0 l2 l4 l6 l7 M hp hQ
def b185_113 (n : Nat)  : Nat → Nat → Int32 → Int64 → Int32 → Int32 → zM → Int64 × zM
  | 0, _, _, _, _, _, M => (0, M)
  | k + 1, l0, l2, l4, l6, l7, M => c185_113 n  (b185_113 n  k) l0 l2 l4 l6 l7 M
def p185_113 (n : Nat)  : Nat → Nat → Int32 → Int64 → Int32 → Int32 → zM → Prop
  | 0, _, _, _, _, _, _ => False
  | k + 1, l0, l2, l4, l6, l7, M => d185_113 n  (p185_113 n  k) l0 l2 l4 l6 l7 M
theorem s185_113 (n : Nat)    : ∀ (k : Nat) (l0 : Nat) (l2 : Int32) (l4 : Int64) (l6 : Int32) (l7 : Int32) (M : zM), p185_113 n  k l0 l2 l4 l6 l7 M → ∀ {Q : Option Value → zM → Prop}, (∀ r M1, zRJ (b185_113 n  k l0 l2 l4 l6 l7 M) r M1 → Q r M1) → zWP 185 113 [some (.ref l0), none, some (.int l2), none, some (.long l4), none, some (.int l6), some (.int l7), none] [] M Q
  | 0, _, _, _, _, _, _, h, _, _ => h.elim
  | k + 1, l0, l2, l4, l6, l7, M, h, _, hQ => t185_113 n  (b185_113 n  k)  (p185_113 n  k)  (s185_113 n    k) l0 l2 l4 l6 l7 M h hQ
def b185_88 (n : Nat) (k50 : Nat → Int32 → Int32 → Int32 → zM → Int64 × zM) (l0 : Nat) (l2 : Int32) (l4 : Int32) (s0 : Int32) (s1 : Int32) (M : zM) : Int64 × zM := k50 l0 l2 (s0 + s1) (l4 + Int32.ofInt 1) M
def p185_88 (n : Nat) (q50 : Nat → Int32 → Int32 → Int32 → zM → Prop) (l0 : Nat) (l2 : Int32) (l4 : Int32) (s0 : Int32) (s1 : Int32) (M : zM) : Prop := q50 l0 l2 (s0 + s1) (l4 + Int32.ofInt 1) M
theorem s185_88 (n : Nat) (k50 : Nat → Int32 → Int32 → Int32 → zM → Int64 × zM) (q50 : Nat → Int32 → Int32 → Int32 → zM → Prop) (h50 : ∀ (l0 : Nat) (l2 : Int32) (l3 : Int32) (l4 : Int32) (M : zM), q50 l0 l2 l3 l4 M → ∀ {Q : Option Value → zM → Prop}, (∀ r M1, zRJ (k50 l0 l2 l3 l4 M) r M1 → Q r M1) → zWP 185 50 [some (.ref l0), none, some (.int l2), some (.int l3), some (.int l4), none, none, none, none] [] M Q) (l0 : Nat) (l2 : Int32) (l4 : Int32) (s0 : Int32) (s1 : Int32) (M : zM) (hp : p185_88 n q50 l0 l2 l4 s0 s1 M) {Q : Option Value → zM → Prop} (hQ : ∀ r M1, zRJ (b185_88 n k50 l0 l2 l4 s0 s1 M) r M1 → Q r M1) : zWP 185 88 [some (.ref l0), none, some (.int l2), none, some (.int l4), none, none, none, none] [.int s1, .int s0] M Q := by
  unfold b185_88 at hQ
  unfold p185_88 at hp
  refine wp_go 4 (pc' := 50) (L' := [some (.ref l0), none, some (.int l2), some (.int (s0 + s1)), some (.int (l4 + Int32.ofInt 1)), none, none, none, none]) (st' := []) (M' := M) rfl ?_
  exact h50 l0 l2 (s0 + s1) (l4 + Int32.ofInt 1) M hp hQ
def b185_87 (n : Nat) (k50 : Nat → Int32 → Int32 → Int32 → zM → Int64 × zM) (l0 : Nat) (l2 : Int32) (l4 : Int32) (s0 : Int32) (M : zM) : Int64 × zM := b185_88 n k50 l0 l2 l4 s0 (0 : Int32) M
def p185_87 (n : Nat) (q50 : Nat → Int32 → Int32 → Int32 → zM → Prop) (l0 : Nat) (l2 : Int32) (l4 : Int32) (s0 : Int32) (M : zM) : Prop := p185_88 n q50 l0 l2 l4 s0 (0 : Int32) M
theorem s185_87 (n : Nat) (k50 : Nat → Int32 → Int32 → Int32 → zM → Int64 × zM) (q50 : Nat → Int32 → Int32 → Int32 → zM → Prop) (h50 : ∀ (l0 : Nat) (l2 : Int32) (l3 : Int32) (l4 : Int32) (M : zM), q50 l0 l2 l3 l4 M → ∀ {Q : Option Value → zM → Prop}, (∀ r M1, zRJ (k50 l0 l2 l3 l4 M) r M1 → Q r M1) → zWP 185 50 [some (.ref l0), none, some (.int l2), some (.int l3), some (.int l4), none, none, none, none] [] M Q) (l0 : Nat) (l2 : Int32) (l4 : Int32) (s0 : Int32) (M : zM) (hp : p185_87 n q50 l0 l2 l4 s0 M) {Q : Option Value → zM → Prop} (hQ : ∀ r M1, zRJ (b185_87 n k50 l0 l2 l4 s0 M) r M1 → Q r M1) : zWP 185 87 [some (.ref l0), none, some (.int l2), none, some (.int l4), none, none, none, none] [.int s0] M Q := by
  unfold b185_87 at hQ
  unfold p185_87 at hp
  refine wp_go 1 (pc' := 88) (L' := [some (.ref l0), none, some (.int l2), none, some (.int l4), none, none, none, none]) (st' := [.int (0 : Int32), .int s0]) (M' := M) rfl ?_
  exact s185_88 n k50 q50 h50 l0 l2 l4 s0 (0 : Int32) M hp hQ
def c185_50 (n : Nat) (k50 : Nat → Int32 → Int32 → Int32 → zM → Int64 × zM) (l0 : Nat) (l2 : Int32) (l3 : Int32) (l4 : Int32) (M : zM) : Int64 × zM := (if (41 : Int32) ≤ l4 then (if l2 = (1 : Int32) then (l3.toInt64, M) else b185_113 n  n l0 l2 (0 : Int64) ((-1) : Int32) (0 : Int32) M) else (if (zI M (zQ M l0 17) l4.toNatClampNeg) = 0 then b185_87 n k50 l0 l2 l4 l3 M else (if (zI M (zQ M l0 41) (zI M (zQ M l0 18) l4.toNatClampNeg).toNatClampNeg) = 0 then b185_87 n k50 l0 l2 l4 l3 M else b185_88 n k50 l0 l2 l4 l3 (1 : Int32) M)))
def d185_50 (n : Nat) (q50 : Nat → Int32 → Int32 → Int32 → zM → Prop) (l0 : Nat) (l2 : Int32) (l3 : Int32) (l4 : Int32) (M : zM) : Prop := (((41 : Int32) ≤ l4 → ((l2 = (1 : Int32) → True) ∧ (¬ l2 = (1 : Int32) → p185_113 n  n l0 l2 (0 : Int64) ((-1) : Int32) (0 : Int32) M))) ∧ (¬ (41 : Int32) ≤ l4 → (zHasQ 10 54 l0 M 17) ∧ ((zOkT 2 (zQ M l0 17) l4 M) ∧ ((((zI M (zQ M l0 17) l4.toNatClampNeg) = 0 → p185_87 n q50 l0 l2 l4 l3 M) ∧ (¬ (zI M (zQ M l0 17) l4.toNatClampNeg) = 0 → (zHasQ 10 99 l0 M 41) ∧ ((zHasQ 10 57 l0 M 18) ∧ ((zOkI (zQ M l0 18) l4 M) ∧ ((zOkT 2 (zQ M l0 41) (zI M (zQ M l0 18) l4.toNatClampNeg) M) ∧ ((((zI M (zQ M l0 41) (zI M (zQ M l0 18) l4.toNatClampNeg).toNatClampNeg) = 0 → p185_87 n q50 l0 l2 l4 l3 M) ∧ (¬ (zI M (zQ M l0 41) (zI M (zQ M l0 18) l4.toNatClampNeg).toNatClampNeg) = 0 → p185_88 n q50 l0 l2 l4 l3 (1 : Int32) M))))))))))))
theorem t185_50 (n : Nat) (k50 : Nat → Int32 → Int32 → Int32 → zM → Int64 × zM) (q50 : Nat → Int32 → Int32 → Int32 → zM → Prop) (h50 : ∀ (l0 : Nat) (l2 : Int32) (l3 : Int32) (l4 : Int32) (M : zM), q50 l0 l2 l3 l4 M → ∀ {Q : Option Value → zM → Prop}, (∀ r M1, zRJ (k50 l0 l2 l3 l4 M) r M1 → Q r M1) → zWP 185 50 [some (.ref l0), none, some (.int l2), some (.int l3), some (.int l4), none, none, none, none] [] M Q) (l0 : Nat) (l2 : Int32) (l3 : Int32) (l4 : Int32) (M : zM) (hp : d185_50 n q50 l0 l2 l3 l4 M) {Q : Option Value → zM → Prop} (hQ : ∀ r M1, zRJ (c185_50 n k50 l0 l2 l3 l4 M) r M1 → Q r M1) : zWP 185 50 [some (.ref l0), none, some (.int l2), some (.int l3), some (.int l4), none, none, none, none] [] M Q := by
  unfold c185_50 at hQ
  unfold d185_50 at hp
  refine wp_go 2 (pc' := 54) (L' := [some (.ref l0), none, some (.int l2), some (.int l3), some (.int l4), none, none, none, none]) (st' := [.int (41 : Int32), .int l4]) (M' := M) rfl ?_
  refine wp_ic_ge (t := 96) rfl rfl (fun hc => ?_) (fun hc => ?_)
  · rw [if_pos hc] at hQ
    replace hp := hp.1 hc
    refine wp_go 2 (pc' := 98) (L' := [some (.ref l0), none, some (.int l2), some (.int l3), some (.int l4), none, none, none, none]) (st' := [.int (1 : Int32), .int l2]) (M' := M) rfl ?_
    refine wp_ic_ne (t := 104) rfl rfl (fun hc => ?_) (fun hc => ?_)
    · rw [if_neg hc] at hQ
      replace hp := hp.2 hc
      refine wp_go 5 (pc' := 111) (L' := [some (.ref l0), none, some (.int l2), some (.int l3), some (.long (0 : Int64)), none, some (.int ((-1) : Int32)), none, none]) (st' := [.int (0 : Int32)]) (M' := M) rfl ?_
      refine wp_go 1 (pc' := 113) (L' := [some (.ref l0), none, some (.int l2), some (.int l3), some (.long (0 : Int64)), none, some (.int ((-1) : Int32)), some (.int (0 : Int32)), none]) (st' := []) (M' := M) rfl ?_
      refine wp_le [some (.ref l0), none, some (.int l2), none, some (.long (0 : Int64)), none, some (.int ((-1) : Int32)), some (.int (0 : Int32)), none] (zLe_of (by simp [zLeB])) ?_
      exact s185_113 n    n l0 l2 (0 : Int64) ((-1) : Int32) (0 : Int32) M hp hQ
    · rw [if_pos hc] at hQ
      replace hp := hp.1 hc
      refine wp_go 2 (pc' := 103) (L' := [some (.ref l0), none, some (.int l2), some (.int l3), some (.int l4), none, none, none, none]) (st' := [.long l3.toInt64]) (M' := M) rfl ?_
      exact wp_ret (r := some (.long l3.toInt64)) rfl rfl (hQ _ _ ⟨rfl, rfl⟩)
  · rw [if_neg hc] at hQ
    replace hp := hp.2 hc
    refine wp_go 2 (pc' := 59) (L' := [some (.ref l0), none, some (.int l2), some (.int l3), some (.int l4), none, none, none, none]) (st' := [.ref l0, .int l3]) (M' := M) rfl ?_
    obtain ⟨hc, hp⟩ := hp
    refine wq_getQ (j := 17) rfl hc ?_
    refine wp_go 1 (pc' := 64) (L' := [some (.ref l0), none, some (.int l2), some (.int l3), some (.int l4), none, none, none, none]) (st' := [.int l4, .ref (zQ M l0 17), .int l3]) (M' := M) rfl ?_
    obtain ⟨hc, hp⟩ := hp
    refine wq_zald rfl hc ?_
    refine wp_if_eq (t := 87) rfl rfl (fun hc => ?_) (fun hc => ?_)
    · rw [if_pos hc] at hQ
      replace hp := hp.1 hc
      refine wp_le [some (.ref l0), none, some (.int l2), none, some (.int l4), none, none, none, none] (zLe_of (by simp [zLeB])) ?_
      exact s185_87 n k50 q50 h50 l0 l2 l4 l3 M hp hQ
    · rw [if_neg hc] at hQ
      replace hp := hp.2 hc
      refine wp_go 1 (pc' := 69) (L' := [some (.ref l0), none, some (.int l2), some (.int l3), some (.int l4), none, none, none, none]) (st' := [.ref l0, .int l3]) (M' := M) rfl ?_
      obtain ⟨hc, hp⟩ := hp
      refine wq_getQ (j := 41) rfl hc ?_
      refine wp_go 1 (pc' := 73) (L' := [some (.ref l0), none, some (.int l2), some (.int l3), some (.int l4), none, none, none, none]) (st' := [.ref l0, .ref (zQ M l0 41), .int l3]) (M' := M) rfl ?_
      obtain ⟨hc, hp⟩ := hp
      refine wq_getQ (j := 18) rfl hc ?_
      refine wp_go 1 (pc' := 78) (L' := [some (.ref l0), none, some (.int l2), some (.int l3), some (.int l4), none, none, none, none]) (st' := [.int l4, .ref (zQ M l0 18), .ref (zQ M l0 41), .int l3]) (M' := M) rfl ?_
      obtain ⟨hc, hp⟩ := hp
      refine wq_iald rfl hc ?_
      obtain ⟨hc, hp⟩ := hp
      refine wq_zald rfl hc ?_
      refine wp_if_eq (t := 87) rfl rfl (fun hc => ?_) (fun hc => ?_)
      · rw [if_pos hc] at hQ
        replace hp := hp.1 hc
        refine wp_le [some (.ref l0), none, some (.int l2), none, some (.int l4), none, none, none, none] (zLe_of (by simp [zLeB])) ?_
        exact s185_87 n k50 q50 h50 l0 l2 l4 l3 M hp hQ
      · rw [if_neg hc] at hQ
        replace hp := hp.2 hc
        refine wp_go 2 (pc' := 88) (L' := [some (.ref l0), none, some (.int l2), some (.int l3), some (.int l4), none, none, none, none]) (st' := [.int (1 : Int32), .int l3]) (M' := M) rfl ?_
        refine wp_le [some (.ref l0), none, some (.int l2), none, some (.int l4), none, none, none, none] (zLe_of (by simp [zLeB])) ?_
        exact s185_88 n k50 q50 h50 l0 l2 l4 l3 (1 : Int32) M hp hQ
def b185_50 (n : Nat)  : Nat → Nat → Int32 → Int32 → Int32 → zM → Int64 × zM
  | 0, _, _, _, _, M => (0, M)
  | k + 1, l0, l2, l3, l4, M => c185_50 n  (b185_50 n  k) l0 l2 l3 l4 M
def p185_50 (n : Nat)  : Nat → Nat → Int32 → Int32 → Int32 → zM → Prop
  | 0, _, _, _, _, _ => False
  | k + 1, l0, l2, l3, l4, M => d185_50 n  (p185_50 n  k) l0 l2 l3 l4 M
theorem s185_50 (n : Nat)    : ∀ (k : Nat) (l0 : Nat) (l2 : Int32) (l3 : Int32) (l4 : Int32) (M : zM), p185_50 n  k l0 l2 l3 l4 M → ∀ {Q : Option Value → zM → Prop}, (∀ r M1, zRJ (b185_50 n  k l0 l2 l3 l4 M) r M1 → Q r M1) → zWP 185 50 [some (.ref l0), none, some (.int l2), some (.int l3), some (.int l4), none, none, none, none] [] M Q
  | 0, _, _, _, _, _, h, _, _ => h.elim
  | k + 1, l0, l2, l3, l4, M, h, _, hQ => t185_50 n  (b185_50 n  k)  (p185_50 n  k)  (s185_50 n    k) l0 l2 l3 l4 M h hQ
def b185_35 (n : Nat)  (l0 : Nat) (l2 : Int32) (M : zM) : Int64 × zM := (if l2 = 0 then ((zI M l0 40).toInt64, M) else b185_50 n  n l0 l2 (0 : Int32) (0 : Int32) M)
def p185_35 (n : Nat)  (l0 : Nat) (l2 : Int32) (M : zM) : Prop := ((l2 = 0 → (zHasI 10 183 l0 M 40) ∧ (True)) ∧ (¬ l2 = 0 → p185_50 n  n l0 l2 (0 : Int32) (0 : Int32) M))
theorem s185_35 (n : Nat)    (l0 : Nat) (l2 : Int32) (M : zM) (hp : p185_35 n  l0 l2 M) {Q : Option Value → zM → Prop} (hQ : ∀ r M1, zRJ (b185_35 n  l0 l2 M) r M1 → Q r M1) : zWP 185 35 [some (.ref l0), none, some (.int l2), none, none, none, none, none, none] [] M Q := by
  unfold b185_35 at hQ
  unfold p185_35 at hp
  refine wp_go 1 (pc' := 36) (L' := [some (.ref l0), none, some (.int l2), none, none, none, none, none, none]) (st' := [.int l2]) (M' := M) rfl ?_
  refine wp_if_ne (t := 45) rfl rfl (fun hc => ?_) (fun hc => ?_)
  · rw [if_neg hc] at hQ
    replace hp := hp.2 hc
    refine wp_go 4 (pc' := 50) (L' := [some (.ref l0), none, some (.int l2), some (.int (0 : Int32)), some (.int (0 : Int32)), none, none, none, none]) (st' := []) (M' := M) rfl ?_
    exact s185_50 n    n l0 l2 (0 : Int32) (0 : Int32) M hp hQ
  · rw [if_pos hc] at hQ
    replace hp := hp.1 hc
    refine wp_go 1 (pc' := 40) (L' := [some (.ref l0), none, some (.int l2), none, none, none, none, none, none]) (st' := [.ref l0]) (M' := M) rfl ?_
    obtain ⟨hc, hp⟩ := hp
    refine wq_getI (j := 40) rfl hc ?_
    refine wp_go 1 (pc' := 44) (L' := [some (.ref l0), none, some (.int l2), none, none, none, none, none, none]) (st' := [.long (zI M l0 40).toInt64]) (M' := M) rfl ?_
    exact wp_ret (r := some (.long (zI M l0 40).toInt64)) rfl rfl (hQ _ _ ⟨rfl, rfl⟩)
def b185_32 (n : Nat)  (l0 : Nat) (l2 : Int32) (s0 : Nat) (s1 : Int32) (M : zM) : Int64 × zM := b185_35 n  l0 l2 (b158_0 n s0 s1 M)
def p185_32 (n : Nat)  (l0 : Nat) (l2 : Int32) (s0 : Nat) (s1 : Int32) (M : zM) : Prop := (zHasC 185 179 s0 M 158 1) ∧ ((p158_0 n s0 s1 M) ∧ (p185_35 n  l0 l2 (b158_0 n s0 s1 M)))
theorem s185_32 (n : Nat)    (l0 : Nat) (l2 : Int32) (s0 : Nat) (s1 : Int32) (M : zM) (hp : p185_32 n  l0 l2 s0 s1 M) {Q : Option Value → zM → Prop} (hQ : ∀ r M1, zRJ (b185_32 n  l0 l2 s0 s1 M) r M1 → Q r M1) : zWP 185 32 [some (.ref l0), none, some (.int l2), none, none, none, none, none, none] [.int s1, .ref s0] M Q := by
  unfold b185_32 at hQ
  unfold p185_32 at hp
  obtain ⟨hv, hp⟩ := hp
  obtain ⟨hc, hp⟩ := hp
  refine wp_callv (M1 := (b158_0 n s0 s1 M)) rfl rfl rfl (zInv_v (np := 1) rfl rfl hv rfl) (s158_0 n s0 s1 M hc (fun r M1 h => h)) ?_
  exact s185_35 n    l0 l2 (b158_0 n s0 s1 M) hp hQ
def b185_10 (n : Nat)  (l0 : Nat) (l1 : Int32) (l2 : Int32) (s0 : Int32) (M : zM) : Int64 × zM := (if s0 = 0 then b185_22 n  M else (if l2 < 0 then b185_22 n  M else (if l2 ≤ (3 : Int32) then b185_32 n  l0 l2 l0 (b155_0 n l0 l1 M).1 (b155_0 n l0 l1 M).2 else b185_22 n  M)))
def p185_10 (n : Nat)  (l0 : Nat) (l1 : Int32) (l2 : Int32) (s0 : Int32) (M : zM) : Prop := ((s0 = 0 → p185_22 n  M) ∧ (¬ s0 = 0 → ((l2 < 0 → p185_22 n  M) ∧ (¬ l2 < 0 → ((l2 ≤ (3 : Int32) → (zHasC 185 176 l0 M 155 1) ∧ ((p155_0 n l0 l1 M) ∧ (p185_32 n  l0 l2 l0 (b155_0 n l0 l1 M).1 (b155_0 n l0 l1 M).2))) ∧ (¬ l2 ≤ (3 : Int32) → p185_22 n  M))))))
theorem s185_10 (n : Nat)    (l0 : Nat) (l1 : Int32) (l2 : Int32) (s0 : Int32) (M : zM) (hp : p185_10 n  l0 l1 l2 s0 M) {Q : Option Value → zM → Prop} (hQ : ∀ r M1, zRJ (b185_10 n  l0 l1 l2 s0 M) r M1 → Q r M1) : zWP 185 10 [some (.ref l0), some (.int l1), some (.int l2), none, none, none, none, none, none] [.int s0] M Q := by
  unfold b185_10 at hQ
  unfold p185_10 at hp
  refine wp_if_eq (t := 22) rfl rfl (fun hc => ?_) (fun hc => ?_)
  · rw [if_pos hc] at hQ
    replace hp := hp.1 hc
    refine wp_le [none, none, none, none, none, none, none, none, none] (zLe_of (by simp [zLeB])) ?_
    exact s185_22 n    M hp hQ
  · rw [if_neg hc] at hQ
    replace hp := hp.2 hc
    refine wp_go 1 (pc' := 14) (L' := [some (.ref l0), some (.int l1), some (.int l2), none, none, none, none, none, none]) (st' := [.int l2]) (M' := M) rfl ?_
    refine wp_if_lt (t := 22) rfl rfl (fun hc => ?_) (fun hc => ?_)
    · rw [if_pos hc] at hQ
      replace hp := hp.1 hc
      refine wp_le [none, none, none, none, none, none, none, none, none] (zLe_of (by simp [zLeB])) ?_
      exact s185_22 n    M hp hQ
    · rw [if_neg hc] at hQ
      replace hp := hp.2 hc
      refine wp_go 2 (pc' := 19) (L' := [some (.ref l0), some (.int l1), some (.int l2), none, none, none, none, none, none]) (st' := [.int (3 : Int32), .int l2]) (M' := M) rfl ?_
      refine wp_ic_le (t := 26) rfl rfl (fun hc => ?_) (fun hc => ?_)
      · rw [if_pos hc] at hQ
        replace hp := hp.1 hc
        refine wp_go 3 (pc' := 29) (L' := [some (.ref l0), some (.int l1), some (.int l2), none, none, none, none, none, none]) (st' := [.int l1, .ref l0, .ref l0]) (M' := M) rfl ?_
        obtain ⟨hv, hp⟩ := hp
        obtain ⟨hc, hp⟩ := hp
        refine wp_calli (v := (b155_0 n l0 l1 M).1) (M1 := (b155_0 n l0 l1 M).2) rfl rfl rfl (zInv_v (np := 1) rfl rfl hv rfl) (s155_0 n l0 l1 M hc (fun r M1 h => h)) ?_
        refine wp_le [some (.ref l0), none, some (.int l2), none, none, none, none, none, none] (zLe_of (by simp [zLeB])) ?_
        exact s185_32 n    l0 l2 l0 (b155_0 n l0 l1 M).1 (b155_0 n l0 l1 M).2 hp hQ
      · rw [if_neg hc] at hQ
        replace hp := hp.2 hc
        refine wp_le [none, none, none, none, none, none, none, none, none] (zLe_of (by simp [zLeB])) ?_
        exact s185_22 n    M hp hQ
def b185_5 (n : Nat)  (l0 : Nat) (l1 : Int32) (l2 : Int32) (M : zM) : Int64 × zM := b185_10 n  l0 l1 l2 (b126_0 n l0 l1 M).1 (b126_0 n l0 l1 M).2
def p185_5 (n : Nat)  (l0 : Nat) (l1 : Int32) (l2 : Int32) (M : zM) : Prop := (zHasC 185 151 l0 M 126 1) ∧ ((p126_0 n l0 l1 M) ∧ (p185_10 n  l0 l1 l2 (b126_0 n l0 l1 M).1 (b126_0 n l0 l1 M).2))
theorem s185_5 (n : Nat)    (l0 : Nat) (l1 : Int32) (l2 : Int32) (M : zM) (hp : p185_5 n  l0 l1 l2 M) {Q : Option Value → zM → Prop} (hQ : ∀ r M1, zRJ (b185_5 n  l0 l1 l2 M) r M1 → Q r M1) : zWP 185 5 [some (.ref l0), some (.int l1), some (.int l2), none, none, none, none, none, none] [] M Q := by
  unfold b185_5 at hQ
  unfold p185_5 at hp
  refine wp_go 2 (pc' := 7) (L' := [some (.ref l0), some (.int l1), some (.int l2), none, none, none, none, none, none]) (st' := [.int l1, .ref l0]) (M' := M) rfl ?_
  obtain ⟨hv, hp⟩ := hp
  obtain ⟨hc, hp⟩ := hp
  refine wp_calli (v := (b126_0 n l0 l1 M).1) (M1 := (b126_0 n l0 l1 M).2) rfl rfl rfl (zInv_v (np := 1) rfl rfl hv rfl) (s126_0 n l0 l1 M hc (fun r M1 h => h)) ?_
  exact s185_10 n    l0 l1 l2 (b126_0 n l0 l1 M).1 (b126_0 n l0 l1 M).2 hp hQ
def b185_0 (n : Nat)  (l0 : Nat) (l1 : Int32) (l2 : Int32) (M : zM) : Int64 × zM := b185_5 n  l0 l1 l2 (zWI M l0 26 (0 : Int32))
def p185_0 (n : Nat)  (l0 : Nat) (l1 : Int32) (l2 : Int32) (M : zM) : Prop := (zPutI 185 138 l0 M 26 (0 : Int32)) ∧ (p185_5 n  l0 l1 l2 (zWI M l0 26 (0 : Int32)))
theorem s185_0 (n : Nat)    (l0 : Nat) (l1 : Int32) (l2 : Int32) (M : zM) (hp : p185_0 n  l0 l1 l2 M) {Q : Option Value → zM → Prop} (hQ : ∀ r M1, zRJ (b185_0 n  l0 l1 l2 M) r M1 → Q r M1) : zWP 185 0 [some (.ref l0), some (.int l1), some (.int l2), none, none, none, none, none, none] [] M Q := by
  unfold b185_0 at hQ
  unfold p185_0 at hp
  refine wp_go 2 (pc' := 2) (L' := [some (.ref l0), some (.int l1), some (.int l2), none, none, none, none, none, none]) (st' := [.int (0 : Int32), .ref l0]) (M' := M) rfl ?_
  obtain ⟨hc, hp⟩ := hp
  refine wq_putI (j := 26) rfl hc ?_
  exact s185_5 n    l0 l1 l2 (zWI M l0 26 (0 : Int32)) hp hQ
/-! X12_undo -/
def b186_17 (n : Nat)   (M : zM) : Int32 × zM := (((-1) : Int32), M)
def p186_17 (n : Nat)   (M : zM) : Prop := True
theorem s186_17 (n : Nat)     (M : zM) (hp : p186_17 n   M) {Q : Option Value → zM → Prop} (hQ : ∀ r M1, zRI (b186_17 n   M) r M1 → Q r M1) : zWP 186 17 [none, none, none, none, none] [] M Q := by
  unfold b186_17 at hQ
  unfold p186_17 at hp
  refine wp_go 1 (pc' := 18) (L' := [none, none, none, none, none]) (st' := [.int ((-1) : Int32)]) (M' := M) rfl ?_
  exact wp_ret (r := some (.int ((-1) : Int32))) rfl rfl (hQ _ _ ⟨rfl, rfl⟩)
def b186_82 (n : Nat) (k21 : Nat → Int32 → Int32 → zM → Int32 × zM) (l0 : Nat) (l1 : Int32) (l2 : Int32) (M : zM) : Int32 × zM := k21 l0 l1 (l2 + Int32.ofInt 1) M
def p186_82 (n : Nat) (q21 : Nat → Int32 → Int32 → zM → Prop) (l0 : Nat) (l1 : Int32) (l2 : Int32) (M : zM) : Prop := q21 l0 l1 (l2 + Int32.ofInt 1) M
theorem s186_82 (n : Nat) (k21 : Nat → Int32 → Int32 → zM → Int32 × zM) (q21 : Nat → Int32 → Int32 → zM → Prop) (h21 : ∀ (l0 : Nat) (l1 : Int32) (l2 : Int32) (M : zM), q21 l0 l1 l2 M → ∀ {Q : Option Value → zM → Prop}, (∀ r M1, zRI (k21 l0 l1 l2 M) r M1 → Q r M1) → zWP 186 21 [some (.ref l0), some (.int l1), some (.int l2), none, none] [] M Q) (l0 : Nat) (l1 : Int32) (l2 : Int32) (M : zM) (hp : p186_82 n q21 l0 l1 l2 M) {Q : Option Value → zM → Prop} (hQ : ∀ r M1, zRI (b186_82 n k21 l0 l1 l2 M) r M1 → Q r M1) : zWP 186 82 [some (.ref l0), some (.int l1), some (.int l2), none, none] [] M Q := by
  unfold b186_82 at hQ
  unfold p186_82 at hp
  refine wp_go 2 (pc' := 21) (L' := [some (.ref l0), some (.int l1), some (.int (l2 + Int32.ofInt 1)), none, none]) (st' := []) (M' := M) rfl ?_
  exact h21 l0 l1 (l2 + Int32.ofInt 1) M hp hQ
def b186_71 (n : Nat) (k21 : Nat → Int32 → Int32 → zM → Int32 × zM) (k31 : Nat → Int32 → Int32 → Int32 → Int32 → zM → Int32 × zM) (l0 : Nat) (l1 : Int32) (l2 : Int32) (l3 : Int32) (l4 : Int32) (M : zM) : Int32 × zM := k31 l0 l1 l2 l3 (l4 + Int32.ofInt 1) M
def p186_71 (n : Nat) (q21 : Nat → Int32 → Int32 → zM → Prop) (q31 : Nat → Int32 → Int32 → Int32 → Int32 → zM → Prop) (l0 : Nat) (l1 : Int32) (l2 : Int32) (l3 : Int32) (l4 : Int32) (M : zM) : Prop := q31 l0 l1 l2 l3 (l4 + Int32.ofInt 1) M
theorem s186_71 (n : Nat) (k21 : Nat → Int32 → Int32 → zM → Int32 × zM) (k31 : Nat → Int32 → Int32 → Int32 → Int32 → zM → Int32 × zM) (q21 : Nat → Int32 → Int32 → zM → Prop) (q31 : Nat → Int32 → Int32 → Int32 → Int32 → zM → Prop) (h21 : ∀ (l0 : Nat) (l1 : Int32) (l2 : Int32) (M : zM), q21 l0 l1 l2 M → ∀ {Q : Option Value → zM → Prop}, (∀ r M1, zRI (k21 l0 l1 l2 M) r M1 → Q r M1) → zWP 186 21 [some (.ref l0), some (.int l1), some (.int l2), none, none] [] M Q) (h31 : ∀ (l0 : Nat) (l1 : Int32) (l2 : Int32) (l3 : Int32) (l4 : Int32) (M : zM), q31 l0 l1 l2 l3 l4 M → ∀ {Q : Option Value → zM → Prop}, (∀ r M1, zRI (k31 l0 l1 l2 l3 l4 M) r M1 → Q r M1) → zWP 186 31 [some (.ref l0), some (.int l1), some (.int l2), some (.int l3), some (.int l4)] [] M Q) (l0 : Nat) (l1 : Int32) (l2 : Int32) (l3 : Int32) (l4 : Int32) (M : zM) (hp : p186_71 n q21 q31 l0 l1 l2 l3 l4 M) {Q : Option Value → zM → Prop} (hQ : ∀ r M1, zRI (b186_71 n k21 k31 l0 l1 l2 l3 l4 M) r M1 → Q r M1) : zWP 186 71 [some (.ref l0), some (.int l1), some (.int l2), some (.int l3), some (.int l4)] [] M Q := by
  unfold b186_71 at hQ
  unfold p186_71 at hp
  refine wp_go 2 (pc' := 31) (L' := [some (.ref l0), some (.int l1), some (.int l2), some (.int l3), some (.int (l4 + Int32.ofInt 1))]) (st' := []) (M' := M) rfl ?_
  exact h31 l0 l1 l2 l3 (l4 + Int32.ofInt 1) M hp hQ
def b186_68 (n : Nat) (k21 : Nat → Int32 → Int32 → zM → Int32 × zM) (k31 : Nat → Int32 → Int32 → Int32 → Int32 → zM → Int32 × zM) (l0 : Nat) (l1 : Int32) (l2 : Int32) (l4 : Int32) (M : zM) : Int32 × zM := b186_71 n k21 k31 l0 l1 l2 l4 l4 M
def p186_68 (n : Nat) (q21 : Nat → Int32 → Int32 → zM → Prop) (q31 : Nat → Int32 → Int32 → Int32 → Int32 → zM → Prop) (l0 : Nat) (l1 : Int32) (l2 : Int32) (l4 : Int32) (M : zM) : Prop := p186_71 n q21 q31 l0 l1 l2 l4 l4 M
theorem s186_68 (n : Nat) (k21 : Nat → Int32 → Int32 → zM → Int32 × zM) (k31 : Nat → Int32 → Int32 → Int32 → Int32 → zM → Int32 × zM) (q21 : Nat → Int32 → Int32 → zM → Prop) (q31 : Nat → Int32 → Int32 → Int32 → Int32 → zM → Prop) (h21 : ∀ (l0 : Nat) (l1 : Int32) (l2 : Int32) (M : zM), q21 l0 l1 l2 M → ∀ {Q : Option Value → zM → Prop}, (∀ r M1, zRI (k21 l0 l1 l2 M) r M1 → Q r M1) → zWP 186 21 [some (.ref l0), some (.int l1), some (.int l2), none, none] [] M Q) (h31 : ∀ (l0 : Nat) (l1 : Int32) (l2 : Int32) (l3 : Int32) (l4 : Int32) (M : zM), q31 l0 l1 l2 l3 l4 M → ∀ {Q : Option Value → zM → Prop}, (∀ r M1, zRI (k31 l0 l1 l2 l3 l4 M) r M1 → Q r M1) → zWP 186 31 [some (.ref l0), some (.int l1), some (.int l2), some (.int l3), some (.int l4)] [] M Q) (l0 : Nat) (l1 : Int32) (l2 : Int32) (l4 : Int32) (M : zM) (hp : p186_68 n q21 q31 l0 l1 l2 l4 M) {Q : Option Value → zM → Prop} (hQ : ∀ r M1, zRI (b186_68 n k21 k31 l0 l1 l2 l4 M) r M1 → Q r M1) : zWP 186 68 [some (.ref l0), some (.int l1), some (.int l2), none, some (.int l4)] [] M Q := by
  unfold b186_68 at hQ
  unfold p186_68 at hp
  refine wp_go 2 (pc' := 71) (L' := [some (.ref l0), some (.int l1), some (.int l2), some (.int l4), some (.int l4)]) (st' := []) (M' := M) rfl ?_
  exact s186_71 n k21 k31 q21 q31 h21 h31 l0 l1 l2 l4 l4 M hp hQ
def c186_31 (n : Nat) (k21 : Nat → Int32 → Int32 → zM → Int32 × zM) (k31 : Nat → Int32 → Int32 → Int32 → Int32 → zM → Int32 × zM) (l0 : Nat) (l1 : Int32) (l2 : Int32) (l3 : Int32) (l4 : Int32) (M : zM) : Int32 × zM := (if (41 : Int32) ≤ l4 then b186_82 n k21 l0 l1 l2 (b173_0 n l0 l3 M) else (if (zI M (zQ M l0 17) l4.toNatClampNeg) = 0 then b186_71 n k21 k31 l0 l1 l2 l3 l4 M else (if l3 < 0 then b186_68 n k21 k31 l0 l1 l2 l4 M else (if (zI M (zQ M l0 25) l4.toNatClampNeg) ≤ (zI M (zQ M l0 25) l3.toNatClampNeg) then b186_71 n k21 k31 l0 l1 l2 l3 l4 M else b186_68 n k21 k31 l0 l1 l2 l4 M))))
def d186_31 (n : Nat) (q21 : Nat → Int32 → Int32 → zM → Prop) (q31 : Nat → Int32 → Int32 → Int32 → Int32 → zM → Prop) (l0 : Nat) (l1 : Int32) (l2 : Int32) (l3 : Int32) (l4 : Int32) (M : zM) : Prop := (((41 : Int32) ≤ l4 → (zHasC 186 314 l0 M 173 1) ∧ ((p173_0 n l0 l3 M) ∧ (p186_82 n q21 l0 l1 l2 (b173_0 n l0 l3 M)))) ∧ (¬ (41 : Int32) ≤ l4 → (zHasQ 10 54 l0 M 17) ∧ ((zOkT 2 (zQ M l0 17) l4 M) ∧ ((((zI M (zQ M l0 17) l4.toNatClampNeg) = 0 → p186_71 n q21 q31 l0 l1 l2 l3 l4 M) ∧ (¬ (zI M (zQ M l0 17) l4.toNatClampNeg) = 0 → ((l3 < 0 → p186_68 n q21 q31 l0 l1 l2 l4 M) ∧ (¬ l3 < 0 → (zHasQ 10 78 l0 M 25) ∧ ((zOkI (zQ M l0 25) l4 M) ∧ ((zHasQ 10 78 l0 M 25) ∧ ((zOkI (zQ M l0 25) l3 M) ∧ ((((zI M (zQ M l0 25) l4.toNatClampNeg) ≤ (zI M (zQ M l0 25) l3.toNatClampNeg) → p186_71 n q21 q31 l0 l1 l2 l3 l4 M) ∧ (¬ (zI M (zQ M l0 25) l4.toNatClampNeg) ≤ (zI M (zQ M l0 25) l3.toNatClampNeg) → p186_68 n q21 q31 l0 l1 l2 l4 M))))))))))))))
theorem t186_31 (n : Nat) (k21 : Nat → Int32 → Int32 → zM → Int32 × zM) (k31 : Nat → Int32 → Int32 → Int32 → Int32 → zM → Int32 × zM) (q21 : Nat → Int32 → Int32 → zM → Prop) (q31 : Nat → Int32 → Int32 → Int32 → Int32 → zM → Prop) (h21 : ∀ (l0 : Nat) (l1 : Int32) (l2 : Int32) (M : zM), q21 l0 l1 l2 M → ∀ {Q : Option Value → zM → Prop}, (∀ r M1, zRI (k21 l0 l1 l2 M) r M1 → Q r M1) → zWP 186 21 [some (.ref l0), some (.int l1), some (.int l2), none, none] [] M Q) (h31 : ∀ (l0 : Nat) (l1 : Int32) (l2 : Int32) (l3 : Int32) (l4 : Int32) (M : zM), q31 l0 l1 l2 l3 l4 M → ∀ {Q : Option Value → zM → Prop}, (∀ r M1, zRI (k31 l0 l1 l2 l3 l4 M) r M1 → Q r M1) → zWP 186 31 [some (.ref l0), some (.int l1), some (.int l2), some (.int l3), some (.int l4)] [] M Q) (l0 : Nat) (l1 : Int32) (l2 : Int32) (l3 : Int32) (l4 : Int32) (M : zM) (hp : d186_31 n q21 q31 l0 l1 l2 l3 l4 M) {Q : Option Value → zM → Prop} (hQ : ∀ r M1, zRI (c186_31 n k21 k31 l0 l1 l2 l3 l4 M) r M1 → Q r M1) : zWP 186 31 [some (.ref l0), some (.int l1), some (.int l2), some (.int l3), some (.int l4)] [] M Q := by
  unfold c186_31 at hQ
  unfold d186_31 at hp
  refine wp_go 2 (pc' := 35) (L' := [some (.ref l0), some (.int l1), some (.int l2), some (.int l3), some (.int l4)]) (st' := [.int (41 : Int32), .int l4]) (M' := M) rfl ?_
  refine wp_ic_ge (t := 77) rfl rfl (fun hc => ?_) (fun hc => ?_)
  · rw [if_pos hc] at hQ
    replace hp := hp.1 hc
    refine wp_go 2 (pc' := 79) (L' := [some (.ref l0), some (.int l1), some (.int l2), some (.int l3), some (.int l4)]) (st' := [.int l3, .ref l0]) (M' := M) rfl ?_
    obtain ⟨hv, hp⟩ := hp
    obtain ⟨hc, hp⟩ := hp
    refine wp_callv (M1 := (b173_0 n l0 l3 M)) rfl rfl rfl (zInv_v (np := 1) rfl rfl hv rfl) (s173_0 n l0 l3 M hc (fun r M1 h => h)) ?_
    refine wp_le [some (.ref l0), some (.int l1), some (.int l2), none, none] (zLe_of (by simp [zLeB])) ?_
    exact s186_82 n k21 q21 h21 l0 l1 l2 (b173_0 n l0 l3 M) hp hQ
  · rw [if_neg hc] at hQ
    replace hp := hp.2 hc
    refine wp_go 1 (pc' := 39) (L' := [some (.ref l0), some (.int l1), some (.int l2), some (.int l3), some (.int l4)]) (st' := [.ref l0]) (M' := M) rfl ?_
    obtain ⟨hc, hp⟩ := hp
    refine wq_getQ (j := 17) rfl hc ?_
    refine wp_go 1 (pc' := 44) (L' := [some (.ref l0), some (.int l1), some (.int l2), some (.int l3), some (.int l4)]) (st' := [.int l4, .ref (zQ M l0 17)]) (M' := M) rfl ?_
    obtain ⟨hc, hp⟩ := hp
    refine wq_zald rfl hc ?_
    refine wp_if_eq (t := 71) rfl rfl (fun hc => ?_) (fun hc => ?_)
    · rw [if_pos hc] at hQ
      replace hp := hp.1 hc
      exact s186_71 n k21 k31 q21 q31 h21 h31 l0 l1 l2 l3 l4 M hp hQ
    · rw [if_neg hc] at hQ
      replace hp := hp.2 hc
      refine wp_go 1 (pc' := 49) (L' := [some (.ref l0), some (.int l1), some (.int l2), some (.int l3), some (.int l4)]) (st' := [.int l3]) (M' := M) rfl ?_
      refine wp_if_lt (t := 68) rfl rfl (fun hc => ?_) (fun hc => ?_)
      · rw [if_pos hc] at hQ
        replace hp := hp.1 hc
        refine wp_le [some (.ref l0), some (.int l1), some (.int l2), none, some (.int l4)] (zLe_of (by simp [zLeB])) ?_
        exact s186_68 n k21 k31 q21 q31 h21 h31 l0 l1 l2 l4 M hp hQ
      · rw [if_neg hc] at hQ
        replace hp := hp.2 hc
        refine wp_go 1 (pc' := 53) (L' := [some (.ref l0), some (.int l1), some (.int l2), some (.int l3), some (.int l4)]) (st' := [.ref l0]) (M' := M) rfl ?_
        obtain ⟨hc, hp⟩ := hp
        refine wq_getQ (j := 25) rfl hc ?_
        refine wp_go 1 (pc' := 58) (L' := [some (.ref l0), some (.int l1), some (.int l2), some (.int l3), some (.int l4)]) (st' := [.int l4, .ref (zQ M l0 25)]) (M' := M) rfl ?_
        obtain ⟨hc, hp⟩ := hp
        refine wq_iald rfl hc ?_
        refine wp_go 1 (pc' := 60) (L' := [some (.ref l0), some (.int l1), some (.int l2), some (.int l3), some (.int l4)]) (st' := [.ref l0, .int (zI M (zQ M l0 25) l4.toNatClampNeg)]) (M' := M) rfl ?_
        obtain ⟨hc, hp⟩ := hp
        refine wq_getQ (j := 25) rfl hc ?_
        refine wp_go 1 (pc' := 64) (L' := [some (.ref l0), some (.int l1), some (.int l2), some (.int l3), some (.int l4)]) (st' := [.int l3, .ref (zQ M l0 25), .int (zI M (zQ M l0 25) l4.toNatClampNeg)]) (M' := M) rfl ?_
        obtain ⟨hc, hp⟩ := hp
        refine wq_iald rfl hc ?_
        refine wp_ic_le (t := 71) rfl rfl (fun hc => ?_) (fun hc => ?_)
        · rw [if_pos hc] at hQ
          replace hp := hp.1 hc
          exact s186_71 n k21 k31 q21 q31 h21 h31 l0 l1 l2 l3 l4 M hp hQ
        · rw [if_neg hc] at hQ
          replace hp := hp.2 hc
          refine wp_le [some (.ref l0), some (.int l1), some (.int l2), none, some (.int l4)] (zLe_of (by simp [zLeB])) ?_
          exact s186_68 n k21 k31 q21 q31 h21 h31 l0 l1 l2 l4 M hp hQ
def b186_31 (n : Nat) (k21 : Nat → Int32 → Int32 → zM → Int32 × zM) : Nat → Nat → Int32 → Int32 → Int32 → Int32 → zM → Int32 × zM
  | 0, _, _, _, _, _, M => (0, M)
  | k + 1, l0, l1, l2, l3, l4, M => c186_31 n k21 (b186_31 n k21 k) l0 l1 l2 l3 l4 M
def p186_31 (n : Nat) (q21 : Nat → Int32 → Int32 → zM → Prop) : Nat → Nat → Int32 → Int32 → Int32 → Int32 → zM → Prop
  | 0, _, _, _, _, _, _ => False
  | k + 1, l0, l1, l2, l3, l4, M => d186_31 n q21 (p186_31 n q21 k) l0 l1 l2 l3 l4 M
theorem s186_31 (n : Nat) (k21 : Nat → Int32 → Int32 → zM → Int32 × zM) (q21 : Nat → Int32 → Int32 → zM → Prop) (h21 : ∀ (l0 : Nat) (l1 : Int32) (l2 : Int32) (M : zM), q21 l0 l1 l2 M → ∀ {Q : Option Value → zM → Prop}, (∀ r M1, zRI (k21 l0 l1 l2 M) r M1 → Q r M1) → zWP 186 21 [some (.ref l0), some (.int l1), some (.int l2), none, none] [] M Q) : ∀ (k : Nat) (l0 : Nat) (l1 : Int32) (l2 : Int32) (l3 : Int32) (l4 : Int32) (M : zM), p186_31 n q21 k l0 l1 l2 l3 l4 M → ∀ {Q : Option Value → zM → Prop}, (∀ r M1, zRI (b186_31 n k21 k l0 l1 l2 l3 l4 M) r M1 → Q r M1) → zWP 186 31 [some (.ref l0), some (.int l1), some (.int l2), some (.int l3), some (.int l4)] [] M Q
  | 0, _, _, _, _, _, _, h, _, _ => h.elim
  | k + 1, l0, l1, l2, l3, l4, M, h, _, hQ => t186_31 n k21 (b186_31 n k21 k) q21 (p186_31 n q21 k) h21 (s186_31 n k21 q21 h21 k) l0 l1 l2 l3 l4 M h hQ
def c186_21 (n : Nat) (k21 : Nat → Int32 → Int32 → zM → Int32 × zM) (l0 : Nat) (l1 : Int32) (l2 : Int32) (M : zM) : Int32 × zM := (if l1 ≤ l2 then ((zI M l0 15), M) else b186_31 n k21 n l0 l1 l2 ((-1) : Int32) (0 : Int32) M)
def d186_21 (n : Nat) (q21 : Nat → Int32 → Int32 → zM → Prop) (l0 : Nat) (l1 : Int32) (l2 : Int32) (M : zM) : Prop := ((l1 ≤ l2 → (zHasI 10 278 l0 M 15) ∧ (True)) ∧ (¬ l1 ≤ l2 → p186_31 n q21 n l0 l1 l2 ((-1) : Int32) (0 : Int32) M))
theorem t186_21 (n : Nat) (k21 : Nat → Int32 → Int32 → zM → Int32 × zM) (q21 : Nat → Int32 → Int32 → zM → Prop) (h21 : ∀ (l0 : Nat) (l1 : Int32) (l2 : Int32) (M : zM), q21 l0 l1 l2 M → ∀ {Q : Option Value → zM → Prop}, (∀ r M1, zRI (k21 l0 l1 l2 M) r M1 → Q r M1) → zWP 186 21 [some (.ref l0), some (.int l1), some (.int l2), none, none] [] M Q) (l0 : Nat) (l1 : Int32) (l2 : Int32) (M : zM) (hp : d186_21 n q21 l0 l1 l2 M) {Q : Option Value → zM → Prop} (hQ : ∀ r M1, zRI (c186_21 n k21 l0 l1 l2 M) r M1 → Q r M1) : zWP 186 21 [some (.ref l0), some (.int l1), some (.int l2), none, none] [] M Q := by
  unfold c186_21 at hQ
  unfold d186_21 at hp
  refine wp_go 2 (pc' := 23) (L' := [some (.ref l0), some (.int l1), some (.int l2), none, none]) (st' := [.int l1, .int l2]) (M' := M) rfl ?_
  refine wp_ic_ge (t := 88) rfl rfl (fun hc => ?_) (fun hc => ?_)
  · rw [if_pos hc] at hQ
    replace hp := hp.1 hc
    refine wp_go 1 (pc' := 89) (L' := [some (.ref l0), some (.int l1), some (.int l2), none, none]) (st' := [.ref l0]) (M' := M) rfl ?_
    obtain ⟨hc, hp⟩ := hp
    refine wq_getI (j := 15) rfl hc ?_
    exact wp_ret (r := some (.int (zI M l0 15))) rfl rfl (hQ _ _ ⟨rfl, rfl⟩)
  · rw [if_neg hc] at hQ
    replace hp := hp.2 hc
    refine wp_go 4 (pc' := 31) (L' := [some (.ref l0), some (.int l1), some (.int l2), some (.int ((-1) : Int32)), some (.int (0 : Int32))]) (st' := []) (M' := M) rfl ?_
    exact s186_31 n k21 q21 h21 n l0 l1 l2 ((-1) : Int32) (0 : Int32) M hp hQ
def b186_21 (n : Nat)  : Nat → Nat → Int32 → Int32 → zM → Int32 × zM
  | 0, _, _, _, M => (0, M)
  | k + 1, l0, l1, l2, M => c186_21 n  (b186_21 n  k) l0 l1 l2 M
def p186_21 (n : Nat)  : Nat → Nat → Int32 → Int32 → zM → Prop
  | 0, _, _, _, _ => False
  | k + 1, l0, l1, l2, M => d186_21 n  (p186_21 n  k) l0 l1 l2 M
theorem s186_21 (n : Nat)    : ∀ (k : Nat) (l0 : Nat) (l1 : Int32) (l2 : Int32) (M : zM), p186_21 n  k l0 l1 l2 M → ∀ {Q : Option Value → zM → Prop}, (∀ r M1, zRI (b186_21 n  k l0 l1 l2 M) r M1 → Q r M1) → zWP 186 21 [some (.ref l0), some (.int l1), some (.int l2), none, none] [] M Q
  | 0, _, _, _, _, h, _, _ => h.elim
  | k + 1, l0, l1, l2, M, h, _, hQ => t186_21 n  (b186_21 n  k)  (p186_21 n  k)  (s186_21 n    k) l0 l1 l2 M h hQ
def b186_5 (n : Nat)  (l0 : Nat) (l1 : Int32) (M : zM) : Int32 × zM := (if l1 < 0 then b186_17 n  M else (if l1 ≤ (zI M l0 15) then b186_21 n  n l0 l1 (0 : Int32) M else b186_17 n  M))
def p186_5 (n : Nat)  (l0 : Nat) (l1 : Int32) (M : zM) : Prop := ((l1 < 0 → p186_17 n  M) ∧ (¬ l1 < 0 → (zHasI 10 278 l0 M 15) ∧ (((l1 ≤ (zI M l0 15) → p186_21 n  n l0 l1 (0 : Int32) M) ∧ (¬ l1 ≤ (zI M l0 15) → p186_17 n  M)))))
theorem s186_5 (n : Nat)    (l0 : Nat) (l1 : Int32) (M : zM) (hp : p186_5 n  l0 l1 M) {Q : Option Value → zM → Prop} (hQ : ∀ r M1, zRI (b186_5 n  l0 l1 M) r M1 → Q r M1) : zWP 186 5 [some (.ref l0), some (.int l1), none, none, none] [] M Q := by
  unfold b186_5 at hQ
  unfold p186_5 at hp
  refine wp_go 1 (pc' := 6) (L' := [some (.ref l0), some (.int l1), none, none, none]) (st' := [.int l1]) (M' := M) rfl ?_
  refine wp_if_lt (t := 17) rfl rfl (fun hc => ?_) (fun hc => ?_)
  · rw [if_pos hc] at hQ
    replace hp := hp.1 hc
    refine wp_le [none, none, none, none, none] (zLe_of (by simp [zLeB])) ?_
    exact s186_17 n    M hp hQ
  · rw [if_neg hc] at hQ
    replace hp := hp.2 hc
    refine wp_go 2 (pc' := 11) (L' := [some (.ref l0), some (.int l1), none, none, none]) (st' := [.ref l0, .int l1]) (M' := M) rfl ?_
    obtain ⟨hc, hp⟩ := hp
    refine wq_getI (j := 15) rfl hc ?_
    refine wp_ic_le (t := 19) rfl rfl (fun hc => ?_) (fun hc => ?_)
    · rw [if_pos hc] at hQ
      replace hp := hp.1 hc
      refine wp_go 2 (pc' := 21) (L' := [some (.ref l0), some (.int l1), some (.int (0 : Int32)), none, none]) (st' := []) (M' := M) rfl ?_
      exact s186_21 n    n l0 l1 (0 : Int32) M hp hQ
    · rw [if_neg hc] at hQ
      replace hp := hp.2 hc
      refine wp_le [none, none, none, none, none] (zLe_of (by simp [zLeB])) ?_
      exact s186_17 n    M hp hQ
def b186_0 (n : Nat)  (l0 : Nat) (l1 : Int32) (M : zM) : Int32 × zM := b186_5 n  l0 l1 (zWI M l0 26 (0 : Int32))
def p186_0 (n : Nat)  (l0 : Nat) (l1 : Int32) (M : zM) : Prop := (zPutI 186 138 l0 M 26 (0 : Int32)) ∧ (p186_5 n  l0 l1 (zWI M l0 26 (0 : Int32)))
theorem s186_0 (n : Nat)    (l0 : Nat) (l1 : Int32) (M : zM) (hp : p186_0 n  l0 l1 M) {Q : Option Value → zM → Prop} (hQ : ∀ r M1, zRI (b186_0 n  l0 l1 M) r M1 → Q r M1) : zWP 186 0 [some (.ref l0), some (.int l1), none, none, none] [] M Q := by
  unfold b186_0 at hQ
  unfold p186_0 at hp
  refine wp_go 2 (pc' := 2) (L' := [some (.ref l0), some (.int l1), none, none, none]) (st' := [.int (0 : Int32), .ref l0]) (M' := M) rfl ?_
  obtain ⟨hc, hp⟩ := hp
  refine wq_putI (j := 26) rfl hc ?_
  exact s186_5 n    l0 l1 (zWI M l0 26 (0 : Int32)) hp hQ
