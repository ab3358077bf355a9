/-! X12_hand -/
def b171_50 (n : Nat)  (s0 : Int32) (M : zM) : Int32 × zM := (s0, M)
def p171_50 (n : Nat)  (s0 : Int32) (M : zM) : Prop := True
theorem s171_50 (n : Nat)    (s0 : Int32) (M : zM) (hp : p171_50 n  s0 M) {Q : Option Value → zM → Prop} (hQ : ∀ r M1, zRI (b171_50 n  s0 M) r M1 → Q r M1) : zWP 171 50 [none, none, none, none, none, none] [.int s0] M Q := by
  unfold b171_50 at hQ
  unfold p171_50 at hp
  exact wp_ret (r := some (.int s0)) rfl rfl (hQ _ _ ⟨rfl, rfl⟩)
def b171_36 (n : Nat)  (s0 : Int32) (M : zM) : Int32 × zM := b171_50 n  s0 M
def p171_36 (n : Nat)  (s0 : Int32) (M : zM) : Prop := p171_50 n  s0 M
theorem s171_36 (n : Nat)    (s0 : Int32) (M : zM) (hp : p171_36 n  s0 M) {Q : Option Value → zM → Prop} (hQ : ∀ r M1, zRI (b171_36 n  s0 M) r M1 → Q r M1) : zWP 171 36 [none, none, none, none, none, none] [.int s0] M Q := by
  unfold b171_36 at hQ
  unfold p171_36 at hp
  refine wp_go 1 (pc' := 50) (L' := [none, none, none, none, none, none]) (st' := [.int s0]) (M' := M) rfl ?_
  exact s171_50 n    s0 M hp hQ
def b171_15 (n : Nat)  (l0 : Nat) (l1 : Int32) (l2 : Int32) (l3 : Int32) (l4 : Int32) (l5 : Int32) (s0 : Int32) (M : zM) : Int32 × zM := (if s0 = 0 then (((-1) : Int32), M) else (if l3 ≤ l1 then b171_50 n  (b170_0 n l0 l3 l4 l1 l2 l5 M).1 (b170_0 n l0 l3 l4 l1 l2 l5 M).2 else b171_36 n  (b170_0 n l0 l1 l2 l3 l4 l5 M).1 (b170_0 n l0 l1 l2 l3 l4 l5 M).2))
def p171_15 (n : Nat)  (l0 : Nat) (l1 : Int32) (l2 : Int32) (l3 : Int32) (l4 : Int32) (l5 : Int32) (s0 : Int32) (M : zM) : Prop := ((s0 = 0 → True) ∧ (¬ s0 = 0 → ((l3 ≤ l1 → (zHasC 171 307 l0 M 170 5) ∧ ((p170_0 n l0 l3 l4 l1 l2 l5 M) ∧ (p171_50 n  (b170_0 n l0 l3 l4 l1 l2 l5 M).1 (b170_0 n l0 l3 l4 l1 l2 l5 M).2))) ∧ (¬ l3 ≤ l1 → (zHasC 171 307 l0 M 170 5) ∧ ((p170_0 n l0 l1 l2 l3 l4 l5 M) ∧ (p171_36 n  (b170_0 n l0 l1 l2 l3 l4 l5 M).1 (b170_0 n l0 l1 l2 l3 l4 l5 M).2))))))
theorem s171_15 (n : Nat)    (l0 : Nat) (l1 : Int32) (l2 : Int32) (l3 : Int32) (l4 : Int32) (l5 : Int32) (s0 : Int32) (M : zM) (hp : p171_15 n  l0 l1 l2 l3 l4 l5 s0 M) {Q : Option Value → zM → Prop} (hQ : ∀ r M1, zRI (b171_15 n  l0 l1 l2 l3 l4 l5 s0 M) r M1 → Q r M1) : zWP 171 15 [some (.ref l0), some (.int l1), some (.int l2), some (.int l3), some (.int l4), some (.int l5)] [.int s0] M Q := by
  unfold b171_15 at hQ
  unfold p171_15 at hp
  refine wp_if_ne (t := 20) rfl rfl (fun hc => ?_) (fun hc => ?_)
  · rw [if_neg hc] at hQ
    replace hp := hp.2 hc
    refine wp_go 2 (pc' := 22) (L' := [some (.ref l0), some (.int l1), some (.int l2), some (.int l3), some (.int l4), some (.int l5)]) (st' := [.int l3, .int l1]) (M' := M) rfl ?_
    refine wp_ic_ge (t := 39) rfl rfl (fun hc => ?_) (fun hc => ?_)
    · rw [if_pos hc] at hQ
      replace hp := hp.1 hc
      refine wp_go 5 (pc' := 45) (L' := [some (.ref l0), some (.int l1), some (.int l2), some (.int l3), some (.int l4), some (.int l5)]) (st' := [.int l2, .int l1, .int l4, .int l3, .ref l0]) (M' := M) rfl ?_
      refine wp_go 1 (pc' := 47) (L' := [some (.ref l0), some (.int l1), some (.int l2), some (.int l3), some (.int l4), some (.int l5)]) (st' := [.int l5, .int l2, .int l1, .int l4, .int l3, .ref l0]) (M' := M) rfl ?_
      obtain ⟨hv, hp⟩ := hp
      obtain ⟨hc, hp⟩ := hp
      refine wp_calli (v := (b170_0 n l0 l3 l4 l1 l2 l5 M).1) (M1 := (b170_0 n l0 l3 l4 l1 l2 l5 M).2) rfl rfl rfl (zInv_v (np := 5) rfl rfl hv rfl) (s170_0 n l0 l3 l4 l1 l2 l5 M hc (fun r M1 h => h)) ?_
      refine wp_le [none, none, none, none, none, none] (zLe_of (by simp [zLeB])) ?_
      exact s171_50 n    (b170_0 n l0 l3 l4 l1 l2 l5 M).1 (b170_0 n l0 l3 l4 l1 l2 l5 M).2 hp hQ
    · rw [if_neg hc] at hQ
      replace hp := hp.2 hc
      refine wp_go 5 (pc' := 31) (L' := [some (.ref l0), some (.int l1), some (.int l2), some (.int l3), some (.int l4), some (.int l5)]) (st' := [.int l4, .int l3, .int l2, .int l1, .ref l0]) (M' := M) rfl ?_
      refine wp_go 1 (pc' := 33) (L' := [some (.ref l0), some (.int l1), some (.int l2), some (.int l3), some (.int l4), some (.int l5)]) (st' := [.int l5, .int l4, .int l3, .int l2, .int l1, .ref l0]) (M' := M) rfl ?_
      obtain ⟨hv, hp⟩ := hp
      obtain ⟨hc, hp⟩ := hp
      refine wp_calli (v := (b170_0 n l0 l1 l2 l3 l4 l5 M).1) (M1 := (b170_0 n l0 l1 l2 l3 l4 l5 M).2) rfl rfl rfl (zInv_v (np := 5) rfl rfl hv rfl) (s170_0 n l0 l1 l2 l3 l4 l5 M hc (fun r M1 h => h)) ?_
      refine wp_le [none, none, none, none, none, none] (zLe_of (by simp [zLeB])) ?_
      exact s171_36 n    (b170_0 n l0 l1 l2 l3 l4 l5 M).1 (b170_0 n l0 l1 l2 l3 l4 l5 M).2 hp hQ
  · rw [if_pos hc] at hQ
    replace hp := hp.1 hc
    refine wp_go 1 (pc' := 19) (L' := [some (.ref l0), some (.int l1), some (.int l2), some (.int l3), some (.int l4), some (.int l5)]) (st' := [.int ((-1) : Int32)]) (M' := M) rfl ?_
    exact wp_ret (r := some (.int ((-1) : Int32))) rfl rfl (hQ _ _ ⟨rfl, rfl⟩)
def b171_5 (n : Nat)  (l0 : Nat) (l1 : Int32) (l2 : Int32) (l3 : Int32) (l4 : Int32) (l5 : Int32) (M : zM) : Int32 × zM := b171_15 n  l0 l1 l2 l3 l4 l5 (b145_0 n l0 l1 l2 l3 l4 (0 : Int32) M).1 (b145_0 n l0 l1 l2 l3 l4 (0 : Int32) M).2
def p171_5 (n : Nat)  (l0 : Nat) (l1 : Int32) (l2 : Int32) (l3 : Int32) (l4 : Int32) (l5 : Int32) (M : zM) : Prop := (zHasC 171 220 l0 M 145 5) ∧ ((p145_0 n l0 l1 l2 l3 l4 (0 : Int32) M) ∧ (p171_15 n  l0 l1 l2 l3 l4 l5 (b145_0 n l0 l1 l2 l3 l4 (0 : Int32) M).1 (b145_0 n l0 l1 l2 l3 l4 (0 : Int32) M).2))
theorem s171_5 (n : Nat)    (l0 : Nat) (l1 : Int32) (l2 : Int32) (l3 : Int32) (l4 : Int32) (l5 : Int32) (M : zM) (hp : p171_5 n  l0 l1 l2 l3 l4 l5 M) {Q : Option Value → zM → Prop} (hQ : ∀ r M1, zRI (b171_5 n  l0 l1 l2 l3 l4 l5 M) r M1 → Q r M1) : zWP 171 5 [some (.ref l0), some (.int l1), some (.int l2), some (.int l3), some (.int l4), some (.int l5)] [] M Q := by
  unfold b171_5 at hQ
  unfold p171_5 at hp
  refine wp_go 5 (pc' := 11) (L' := [some (.ref l0), some (.int l1), some (.int l2), some (.int l3), some (.int l4), some (.int l5)]) (st' := [.int l4, .int l3, .int l2, .int l1, .ref l0]) (M' := M) rfl ?_
  refine wp_go 1 (pc' := 12) (L' := [some (.ref l0), some (.int l1), some (.int l2), some (.int l3), some (.int l4), some (.int l5)]) (st' := [.int (0 : Int32), .int l4, .int l3, .int l2, .int l1, .ref l0]) (M' := M) rfl ?_
  obtain ⟨hv, hp⟩ := hp
  obtain ⟨hc, hp⟩ := hp
  refine wp_calli (v := (b145_0 n l0 l1 l2 l3 l4 (0 : Int32) M).1) (M1 := (b145_0 n l0 l1 l2 l3 l4 (0 : Int32) M).2) rfl rfl rfl (zInv_v (np := 5) rfl rfl hv rfl) (s145_0 n l0 l1 l2 l3 l4 (0 : Int32) M hc (fun r M1 h => h)) ?_
  exact s171_15 n    l0 l1 l2 l3 l4 l5 (b145_0 n l0 l1 l2 l3 l4 (0 : Int32) M).1 (b145_0 n l0 l1 l2 l3 l4 (0 : Int32) M).2 hp hQ
def b171_0 (n : Nat)  (l0 : Nat) (l1 : Int32) (l2 : Int32) (l3 : Int32) (l4 : Int32) (l5 : Int32) (M : zM) : Int32 × zM := b171_5 n  l0 l1 l2 l3 l4 l5 (zWI M l0 26 (0 : Int32))
def p171_0 (n : Nat)  (l0 : Nat) (l1 : Int32) (l2 : Int32) (l3 : Int32) (l4 : Int32) (l5 : Int32) (M : zM) : Prop := (zPutI 171 138 l0 M 26 (0 : Int32)) ∧ (p171_5 n  l0 l1 l2 l3 l4 l5 (zWI M l0 26 (0 : Int32)))
theorem s171_0 (n : Nat)    (l0 : Nat) (l1 : Int32) (l2 : Int32) (l3 : Int32) (l4 : Int32) (l5 : Int32) (M : zM) (hp : p171_0 n  l0 l1 l2 l3 l4 l5 M) {Q : Option Value → zM → Prop} (hQ : ∀ r M1, zRI (b171_0 n  l0 l1 l2 l3 l4 l5 M) r M1 → Q r M1) : zWP 171 0 [some (.ref l0), some (.int l1), some (.int l2), some (.int l3), some (.int l4), some (.int l5)] [] M Q := by
  unfold b171_0 at hQ
  unfold p171_0 at hp
  refine wp_go 2 (pc' := 2) (L' := [some (.ref l0), some (.int l1), some (.int l2), some (.int l3), some (.int l4), some (.int l5)]) (st' := [.int (0 : Int32), .ref l0]) (M' := M) rfl ?_
  obtain ⟨hc, hp⟩ := hp
  refine wq_putI (j := 26) rfl hc ?_
  exact s171_5 n    l0 l1 l2 l3 l4 l5 (zWI M l0 26 (0 : Int32)) hp hQ
/-! X12_groupMany -/
def b172_27 (n : Nat) (k4 : Nat → Int32 → Int32 → zM → Int32 × zM) (l0 : Nat) (l2 : Int32) (s0 : Int32) (s1 : Int32) (M : zM) : Int32 × zM := k4 l0 (s0 + s1) (l2 + Int32.ofInt 1) M
def p172_27 (n : Nat) (q4 : Nat → Int32 → Int32 → zM → Prop) (l0 : Nat) (l2 : Int32) (s0 : Int32) (s1 : Int32) (M : zM) : Prop := q4 l0 (s0 + s1) (l2 + Int32.ofInt 1) M
theorem s172_27 (n : Nat) (k4 : Nat → Int32 → Int32 → zM → Int32 × zM) (q4 : Nat → Int32 → Int32 → zM → Prop) (h4 : ∀ (l0 : Nat) (l1 : Int32) (l2 : Int32) (M : zM), q4 l0 l1 l2 M → ∀ {Q : Option Value → zM → Prop}, (∀ r M1, zRI (k4 l0 l1 l2 M) r M1 → Q r M1) → zWP 172 4 [some (.ref l0), some (.int l1), some (.int l2)] [] M Q) (l0 : Nat) (l2 : Int32) (s0 : Int32) (s1 : Int32) (M : zM) (hp : p172_27 n q4 l0 l2 s0 s1 M) {Q : Option Value → zM → Prop} (hQ : ∀ r M1, zRI (b172_27 n k4 l0 l2 s0 s1 M) r M1 → Q r M1) : zWP 172 27 [some (.ref l0), none, some (.int l2)] [.int s1, .int s0] M Q := by
  unfold b172_27 at hQ
  unfold p172_27 at hp
  refine wp_go 4 (pc' := 4) (L' := [some (.ref l0), some (.int (s0 + s1)), some (.int (l2 + Int32.ofInt 1))]) (st' := []) (M' := M) rfl ?_
  exact h4 l0 (s0 + s1) (l2 + Int32.ofInt 1) M hp hQ
def b172_18 (n : Nat) (k4 : Nat → Int32 → Int32 → zM → Int32 × zM) (l0 : Nat) (l2 : Int32) (s0 : Int32) (s1 : Int32) (M : zM) : Int32 × zM := (if s1 = l2 then b172_27 n k4 l0 l2 s0 (1 : Int32) M else b172_27 n k4 l0 l2 s0 (0 : Int32) M)
def p172_18 (n : Nat) (q4 : Nat → Int32 → Int32 → zM → Prop) (l0 : Nat) (l2 : Int32) (s0 : Int32) (s1 : Int32) (M : zM) : Prop := ((s1 = l2 → p172_27 n q4 l0 l2 s0 (1 : Int32) M) ∧ (¬ s1 = l2 → p172_27 n q4 l0 l2 s0 (0 : Int32) M))
theorem s172_18 (n : Nat) (k4 : Nat → Int32 → Int32 → zM → Int32 × zM) (q4 : Nat → Int32 → Int32 → zM → Prop) (h4 : ∀ (l0 : Nat) (l1 : Int32) (l2 : Int32) (M : zM), q4 l0 l1 l2 M → ∀ {Q : Option Value → zM → Prop}, (∀ r M1, zRI (k4 l0 l1 l2 M) r M1 → Q r M1) → zWP 172 4 [some (.ref l0), some (.int l1), some (.int l2)] [] M Q) (l0 : Nat) (l2 : Int32) (s0 : Int32) (s1 : Int32) (M : zM) (hp : p172_18 n q4 l0 l2 s0 s1 M) {Q : Option Value → zM → Prop} (hQ : ∀ r M1, zRI (b172_18 n k4 l0 l2 s0 s1 M) r M1 → Q r M1) : zWP 172 18 [some (.ref l0), none, some (.int l2)] [.int s1, .int s0] M Q := by
  unfold b172_18 at hQ
  unfold p172_18 at hp
  refine wp_go 1 (pc' := 19) (L' := [some (.ref l0), none, some (.int l2)]) (st' := [.int l2, .int s1, .int s0]) (M' := M) rfl ?_
  refine wp_ic_ne (t := 26) rfl rfl (fun hc => ?_) (fun hc => ?_)
  · rw [if_neg hc] at hQ
    replace hp := hp.2 hc
    refine wp_go 1 (pc' := 27) (L' := [some (.ref l0), none, some (.int l2)]) (st' := [.int (0 : Int32), .int s0]) (M' := M) rfl ?_
    exact s172_27 n k4 q4 h4 l0 l2 s0 (0 : Int32) M hp hQ
  · rw [if_pos hc] at hQ
    replace hp := hp.1 hc
    refine wp_go 2 (pc' := 27) (L' := [some (.ref l0), none, some (.int l2)]) (st' := [.int (1 : Int32), .int s0]) (M' := M) rfl ?_
    exact s172_27 n k4 q4 h4 l0 l2 s0 (1 : Int32) M hp hQ
def c172_4 (n : Nat) (k4 : Nat → Int32 → Int32 → zM → Int32 × zM) (l0 : Nat) (l1 : Int32) (l2 : Int32) (M : zM) : Int32 × zM := (if (zI M l0 0) ≤ l2 then (l1, M) else b172_18 n k4 l0 l2 l1 (b155_0 n l0 l2 M).1 (b155_0 n l0 l2 M).2)
def d172_4 (n : Nat) (q4 : Nat → Int32 → Int32 → zM → Prop) (l0 : Nat) (l1 : Int32) (l2 : Int32) (M : zM) : Prop := (zHasI 10 148 l0 M 0) ∧ ((((zI M l0 0) ≤ l2 → True) ∧ (¬ (zI M l0 0) ≤ l2 → (zHasC 172 176 l0 M 155 1) ∧ ((p155_0 n l0 l2 M) ∧ (p172_18 n q4 l0 l2 l1 (b155_0 n l0 l2 M).1 (b155_0 n l0 l2 M).2)))))
theorem t172_4 (n : Nat) (k4 : Nat → Int32 → Int32 → zM → Int32 × zM) (q4 : Nat → Int32 → Int32 → zM → Prop) (h4 : ∀ (l0 : Nat) (l1 : Int32) (l2 : Int32) (M : zM), q4 l0 l1 l2 M → ∀ {Q : Option Value → zM → Prop}, (∀ r M1, zRI (k4 l0 l1 l2 M) r M1 → Q r M1) → zWP 172 4 [some (.ref l0), some (.int l1), some (.int l2)] [] M Q) (l0 : Nat) (l1 : Int32) (l2 : Int32) (M : zM) (hp : d172_4 n q4 l0 l1 l2 M) {Q : Option Value → zM → Prop} (hQ : ∀ r M1, zRI (c172_4 n k4 l0 l1 l2 M) r M1 → Q r M1) : zWP 172 4 [some (.ref l0), some (.int l1), some (.int l2)] [] M Q := by
  unfold c172_4 at hQ
  unfold d172_4 at hp
  refine wp_go 2 (pc' := 6) (L' := [some (.ref l0), some (.int l1), some (.int l2)]) (st' := [.ref l0, .int l2]) (M' := M) rfl ?_
  obtain ⟨hc, hp⟩ := hp
  refine wq_getI (j := 0) rfl hc ?_
  refine wp_ic_ge (t := 35) rfl rfl (fun hc => ?_) (fun hc => ?_)
  · rw [if_pos hc] at hQ
    replace hp := hp.1 hc
    refine wp_go 1 (pc' := 36) (L' := [some (.ref l0), some (.int l1), some (.int l2)]) (st' := [.int l1]) (M' := M) rfl ?_
    exact wp_ret (r := some (.int l1)) rfl rfl (hQ _ _ ⟨rfl, rfl⟩)
  · rw [if_neg hc] at hQ
    replace hp := hp.2 hc
    refine wp_go 3 (pc' := 15) (L' := [some (.ref l0), some (.int l1), some (.int l2)]) (st' := [.int l2, .ref l0, .int l1]) (M' := M) rfl ?_
    obtain ⟨hv, hp⟩ := hp
    obtain ⟨hc, hp⟩ := hp
    refine wp_calli (v := (b155_0 n l0 l2 M).1) (M1 := (b155_0 n l0 l2 M).2) rfl rfl rfl (zInv_v (np := 1) rfl rfl hv rfl) (s155_0 n l0 l2 M hc (fun r M1 h => h)) ?_
    refine wp_le [some (.ref l0), none, some (.int l2)] (zLe_of (by simp [zLeB])) ?_
    exact s172_18 n k4 q4 h4 l0 l2 l1 (b155_0 n l0 l2 M).1 (b155_0 n l0 l2 M).2 hp hQ
def b172_4 (n : Nat)  : Nat → Nat → Int32 → Int32 → zM → Int32 × zM
  | 0, _, _, _, M => (0, M)
  | k + 1, l0, l1, l2, M => c172_4 n  (b172_4 n  k) l0 l1 l2 M
def p172_4 (n : Nat)  : Nat → Nat → Int32 → Int32 → zM → Prop
  | 0, _, _, _, _ => False
  | k + 1, l0, l1, l2, M => d172_4 n  (p172_4 n  k) l0 l1 l2 M
theorem s172_4 (n : Nat)    : ∀ (k : Nat) (l0 : Nat) (l1 : Int32) (l2 : Int32) (M : zM), p172_4 n  k l0 l1 l2 M → ∀ {Q : Option Value → zM → Prop}, (∀ r M1, zRI (b172_4 n  k l0 l1 l2 M) r M1 → Q r M1) → zWP 172 4 [some (.ref l0), some (.int l1), some (.int l2)] [] M Q
  | 0, _, _, _, _, h, _, _ => h.elim
  | k + 1, l0, l1, l2, M, h, _, hQ => t172_4 n  (b172_4 n  k)  (p172_4 n  k)  (s172_4 n    k) l0 l1 l2 M h hQ
def b172_0 (n : Nat)  (l0 : Nat) (M : zM) : Int32 × zM := b172_4 n  n l0 (0 : Int32) (0 : Int32) M
def p172_0 (n : Nat)  (l0 : Nat) (M : zM) : Prop := p172_4 n  n l0 (0 : Int32) (0 : Int32) M
theorem s172_0 (n : Nat)    (l0 : Nat) (M : zM) (hp : p172_0 n  l0 M) {Q : Option Value → zM → Prop} (hQ : ∀ r M1, zRI (b172_0 n  l0 M) r M1 → Q r M1) : zWP 172 0 [some (.ref l0), none, none] [] M Q := by
  unfold b172_0 at hQ
  unfold p172_0 at hp
  refine wp_go 4 (pc' := 4) (L' := [some (.ref l0), some (.int (0 : Int32)), some (.int (0 : Int32))]) (st' := []) (M' := M) rfl ?_
  exact s172_4 n    n l0 (0 : Int32) (0 : Int32) M hp hQ
/-! X12_takeAway -/
def b173_23 (n : Nat)   (M : zM) : zM := M
def p173_23 (n : Nat)   (M : zM) : Prop := True
theorem s173_23 (n : Nat)     (M : zM) (hp : p173_23 n   M) {Q : Option Value → zM → Prop} (hQ : ∀ r M1, zRV (b173_23 n   M) r M1 → Q r M1) : zWP 173 23 [none, none] [] M Q := by
  unfold b173_23 at hQ
  unfold p173_23 at hp
  exact wp_ret (r := none) rfl rfl (hQ _ _ ⟨rfl, rfl⟩)
def b173_13 (n : Nat)  (l0 : Nat) (M : zM) : zM := b173_23 n  (zWI M l0 15 ((zI M l0 15) - (1 : Int32)))
def p173_13 (n : Nat)  (l0 : Nat) (M : zM) : Prop := (zHasI 10 278 l0 M 15) ∧ ((zPutI 173 278 l0 M 15 ((zI M l0 15) - (1 : Int32))) ∧ (p173_23 n  (zWI M l0 15 ((zI M l0 15) - (1 : Int32)))))
theorem s173_13 (n : Nat)    (l0 : Nat) (M : zM) (hp : p173_13 n  l0 M) {Q : Option Value → zM → Prop} (hQ : ∀ r M1, zRV (b173_13 n  l0 M) r M1 → Q r M1) : zWP 173 13 [some (.ref l0), none] [] M Q := by
  unfold b173_13 at hQ
  unfold p173_13 at hp
  refine wp_go 2 (pc' := 15) (L' := [some (.ref l0), none]) (st' := [.ref l0, .ref l0]) (M' := M) rfl ?_
  obtain ⟨hc, hp⟩ := hp
  refine wq_getI (j := 15) rfl hc ?_
  refine wp_go 2 (pc' := 20) (L' := [some (.ref l0), none]) (st' := [.int ((zI M l0 15) - (1 : Int32)), .ref l0]) (M' := M) rfl ?_
  obtain ⟨hc, hp⟩ := hp
  refine wq_putI (j := 15) rfl hc ?_
  refine wp_le [none, none] (zLe_of (by simp [zLeB])) ?_
  exact s173_23 n    (zWI M l0 15 ((zI M l0 15) - (1 : Int32))) hp hQ
def b173_6 (n : Nat)  (l0 : Nat) (l1 : Int32) (M : zM) : zM := b173_13 n  l0 (zWI M (zQ M l0 17) l1.toNatClampNeg (0 : Int32))
def p173_6 (n : Nat)  (l0 : Nat) (l1 : Int32) (M : zM) : Prop := (zHasQ 10 54 l0 M 17) ∧ ((zOkT 2 (zQ M l0 17) l1 M ∧ zNar .boolean (0 : Int32) = true) ∧ (p173_13 n  l0 (zWI M (zQ M l0 17) l1.toNatClampNeg (0 : Int32))))
theorem s173_6 (n : Nat)    (l0 : Nat) (l1 : Int32) (M : zM) (hp : p173_6 n  l0 l1 M) {Q : Option Value → zM → Prop} (hQ : ∀ r M1, zRV (b173_6 n  l0 l1 M) r M1 → Q r M1) : zWP 173 6 [some (.ref l0), some (.int l1)] [] M Q := by
  unfold b173_6 at hQ
  unfold p173_6 at hp
  refine wp_go 1 (pc' := 7) (L' := [some (.ref l0), some (.int l1)]) (st' := [.ref l0]) (M' := M) rfl ?_
  obtain ⟨hc, hp⟩ := hp
  refine wq_getQ (j := 17) rfl hc ?_
  refine wp_go 2 (pc' := 12) (L' := [some (.ref l0), some (.int l1)]) (st' := [.int (0 : Int32), .int l1, .ref (zQ M l0 17)]) (M' := M) rfl ?_
  obtain ⟨hc, hp⟩ := hp
  refine wq_zast rfl hc ?_
  refine wp_le [some (.ref l0), none] (zLe_of (by simp [zLeB])) ?_
  exact s173_13 n    l0 (zWI M (zQ M l0 17) l1.toNatClampNeg (0 : Int32)) hp hQ
def b173_0 (n : Nat)  (l0 : Nat) (l1 : Int32) (M : zM) : zM := b173_6 n  l0 l1 (b166_0 n l0 l1 ((-1) : Int32) M)
def p173_0 (n : Nat)  (l0 : Nat) (l1 : Int32) (M : zM) : Prop := (zHasC 173 274 l0 M 166 2) ∧ ((p166_0 n l0 l1 ((-1) : Int32) M) ∧ (p173_6 n  l0 l1 (b166_0 n l0 l1 ((-1) : Int32) M)))
theorem s173_0 (n : Nat)    (l0 : Nat) (l1 : Int32) (M : zM) (hp : p173_0 n  l0 l1 M) {Q : Option Value → zM → Prop} (hQ : ∀ r M1, zRV (b173_0 n  l0 l1 M) r M1 → Q r M1) : zWP 173 0 [some (.ref l0), some (.int l1)] [] M Q := by
  unfold b173_0 at hQ
  unfold p173_0 at hp
  refine wp_go 3 (pc' := 3) (L' := [some (.ref l0), some (.int l1)]) (st' := [.int ((-1) : Int32), .int l1, .ref l0]) (M' := M) rfl ?_
  obtain ⟨hv, hp⟩ := hp
  obtain ⟨hc, hp⟩ := hp
  refine wp_callv (M1 := (b166_0 n l0 l1 ((-1) : Int32) M)) rfl rfl rfl (zInv_v (np := 2) rfl rfl hv rfl) (s166_0 n l0 l1 ((-1) : Int32) M hc (fun r M1 h => h)) ?_
  exact s173_6 n    l0 l1 (b166_0 n l0 l1 ((-1) : Int32) M) hp hQ
/-! X12_isThere -/
def b174_24 (n : Nat)  (s0 : Int32) (M : zM) : Int32 × zM := (s0, M)
def p174_24 (n : Nat)  (s0 : Int32) (M : zM) : Prop := zNar .boolean s0 = true
theorem s174_24 (n : Nat)    (s0 : Int32) (M : zM) (hp : p174_24 n  s0 M) {Q : Option Value → zM → Prop} (hQ : ∀ r M1, zRI (b174_24 n  s0 M) r M1 → Q r M1) : zWP 174 24 [none, none] [.int s0] M Q := by
  unfold b174_24 at hQ
  unfold p174_24 at hp
  exact wp_retz rfl rfl hp (hQ _ _ ⟨rfl, rfl⟩)
def b174_23 (n : Nat)   (M : zM) : Int32 × zM := b174_24 n  (0 : Int32) M
def p174_23 (n : Nat)   (M : zM) : Prop := p174_24 n  (0 : Int32) M
theorem s174_23 (n : Nat)     (M : zM) (hp : p174_23 n   M) {Q : Option Value → zM → Prop} (hQ : ∀ r M1, zRI (b174_23 n   M) r M1 → Q r M1) : zWP 174 23 [none, none] [] M Q := by
  unfold b174_23 at hQ
  unfold p174_23 at hp
  refine wp_go 1 (pc' := 24) (L' := [none, none]) (st' := [.int (0 : Int32)]) (M' := M) rfl ?_
  exact s174_24 n    (0 : Int32) M hp hQ
def b174_0 (n : Nat)  (l0 : Nat) (l1 : Int32) (M : zM) : Int32 × zM := (if l1 < 0 then b174_23 n  M else (if (41 : Int32) ≤ l1 then b174_23 n  M else (if (zI M (zQ M l0 17) l1.toNatClampNeg) = 0 then b174_23 n  M else b174_24 n  (1 : Int32) M)))
def p174_0 (n : Nat)  (l0 : Nat) (l1 : Int32) (M : zM) : Prop := ((l1 < 0 → p174_23 n  M) ∧ (¬ l1 < 0 → (((41 : Int32) ≤ l1 → p174_23 n  M) ∧ (¬ (41 : Int32) ≤ l1 → (zHasQ 10 54 l0 M 17) ∧ ((zOkT 2 (zQ M l0 17) l1 M) ∧ ((((zI M (zQ M l0 17) l1.toNatClampNeg) = 0 → p174_23 n  M) ∧ (¬ (zI M (zQ M l0 17) l1.toNatClampNeg) = 0 → p174_24 n  (1 : Int32) M))))))))
theorem s174_0 (n : Nat)    (l0 : Nat) (l1 : Int32) (M : zM) (hp : p174_0 n  l0 l1 M) {Q : Option Value → zM → Prop} (hQ : ∀ r M1, zRI (b174_0 n  l0 l1 M) r M1 → Q r M1) : zWP 174 0 [some (.ref l0), some (.int l1)] [] M Q := by
  unfold b174_0 at hQ
  unfold p174_0 at hp
  refine wp_go 1 (pc' := 1) (L' := [some (.ref l0), some (.int l1)]) (st' := [.int l1]) (M' := M) rfl ?_
  refine wp_if_lt (t := 23) rfl rfl (fun hc => ?_) (fun hc => ?_)
  · rw [if_pos hc] at hQ
    replace hp := hp.1 hc
    refine wp_le [none, none] (zLe_of (by simp [zLeB])) ?_
    exact s174_23 n    M hp hQ
  · rw [if_neg hc] at hQ
    replace hp := hp.2 hc
    refine wp_go 2 (pc' := 7) (L' := [some (.ref l0), some (.int l1)]) (st' := [.int (41 : Int32), .int l1]) (M' := M) rfl ?_
    refine wp_ic_ge (t := 23) rfl rfl (fun hc => ?_) (fun hc => ?_)
    · rw [if_pos hc] at hQ
      replace hp := hp.1 hc
      refine wp_le [none, none] (zLe_of (by simp [zLeB])) ?_
      exact s174_23 n    M hp hQ
    · rw [if_neg hc] at hQ
      replace hp := hp.2 hc
      refine wp_go 1 (pc' := 11) (L' := [some (.ref l0), some (.int l1)]) (st' := [.ref l0]) (M' := M) rfl ?_
      obtain ⟨hc, hp⟩ := hp
      refine wq_getQ (j := 17) rfl hc ?_
      refine wp_go 1 (pc' := 15) (L' := [some (.ref l0), some (.int l1)]) (st' := [.int l1, .ref (zQ M l0 17)]) (M' := M) rfl ?_
      obtain ⟨hc, hp⟩ := hp
      refine wq_zald rfl hc ?_
      refine wp_if_eq (t := 23) rfl rfl (fun hc => ?_) (fun hc => ?_)
      · rw [if_pos hc] at hQ
        replace hp := hp.1 hc
        refine wp_le [none, none] (zLe_of (by simp [zLeB])) ?_
        exact s174_23 n    M hp hQ
      · rw [if_neg hc] at hQ
        replace hp := hp.2 hc
        refine wp_go 2 (pc' := 24) (L' := [some (.ref l0), some (.int l1)]) (st' := [.int (1 : Int32)]) (M' := M) rfl ?_
        refine wp_le [none, none] (zLe_of (by simp [zLeB])) ?_
        exact s174_24 n    (1 : Int32) M hp hQ
/-! X12_part -/
def b175_24 (n : Nat)  (s0 : Int32) (M : zM) : Int32 × zM := (s0, M)
def p175_24 (n : Nat)  (s0 : Int32) (M : zM) : Prop := True
theorem s175_24 (n : Nat)    (s0 : Int32) (M : zM) (hp : p175_24 n  s0 M) {Q : Option Value → zM → Prop} (hQ : ∀ r M1, zRI (b175_24 n  s0 M) r M1 → Q r M1) : zWP 175 24 [none, none] [.int s0] M Q := by
  unfold b175_24 at hQ
  unfold p175_24 at hp
  exact wp_ret (r := some (.int s0)) rfl rfl (hQ _ _ ⟨rfl, rfl⟩)
def b175_20 (n : Nat)  (l0 : Nat) (M : zM) : Int32 × zM := b175_24 n  (b172_0 n l0 M).1 (b172_0 n l0 M).2
def p175_20 (n : Nat)  (l0 : Nat) (M : zM) : Prop := (zHasC 175 317 l0 M 172 0) ∧ ((p172_0 n l0 M) ∧ (p175_24 n  (b172_0 n l0 M).1 (b172_0 n l0 M).2))
theorem s175_20 (n : Nat)    (l0 : Nat) (M : zM) (hp : p175_20 n  l0 M) {Q : Option Value → zM → Prop} (hQ : ∀ r M1, zRI (b175_20 n  l0 M) r M1 → Q r M1) : zWP 175 20 [some (.ref l0), none] [] M Q := by
  unfold b175_20 at hQ
  unfold p175_20 at hp
  refine wp_go 1 (pc' := 21) (L' := [some (.ref l0), none]) (st' := [.ref l0]) (M' := M) rfl ?_
  obtain ⟨hv, hp⟩ := hp
  obtain ⟨hc, hp⟩ := hp
  refine wp_calli (v := (b172_0 n l0 M).1) (M1 := (b172_0 n l0 M).2) rfl rfl rfl (zInv_v (np := 0) rfl rfl hv rfl) (s172_0 n l0 M hc (fun r M1 h => h)) ?_
  refine wp_le [none, none] (zLe_of (by simp [zLeB])) ?_
  exact s175_24 n    (b172_0 n l0 M).1 (b172_0 n l0 M).2 hp hQ
def b175_10 (n : Nat)  (l0 : Nat) (l1 : Int32) (s0 : Int32) (M : zM) : Int32 × zM := (if s0 = 0 then (((-1) : Int32), M) else b175_20 n  l0 (b173_0 n l0 l1 M))
def p175_10 (n : Nat)  (l0 : Nat) (l1 : Int32) (s0 : Int32) (M : zM) : Prop := ((s0 = 0 → True) ∧ (¬ s0 = 0 → (zHasC 175 314 l0 M 173 1) ∧ ((p173_0 n l0 l1 M) ∧ (p175_20 n  l0 (b173_0 n l0 l1 M)))))
theorem s175_10 (n : Nat)    (l0 : Nat) (l1 : Int32) (s0 : Int32) (M : zM) (hp : p175_10 n  l0 l1 s0 M) {Q : Option Value → zM → Prop} (hQ : ∀ r M1, zRI (b175_10 n  l0 l1 s0 M) r M1 → Q r M1) : zWP 175 10 [some (.ref l0), some (.int l1)] [.int s0] M Q := by
  unfold b175_10 at hQ
  unfold p175_10 at hp
  refine wp_if_ne (t := 15) rfl rfl (fun hc => ?_) (fun hc => ?_)
  · rw [if_neg hc] at hQ
    replace hp := hp.2 hc
    refine wp_go 2 (pc' := 17) (L' := [some (.ref l0), some (.int l1)]) (st' := [.int l1, .ref l0]) (M' := M) rfl ?_
    obtain ⟨hv, hp⟩ := hp
    obtain ⟨hc, hp⟩ := hp
    refine wp_callv (M1 := (b173_0 n l0 l1 M)) rfl rfl rfl (zInv_v (np := 1) rfl rfl hv rfl) (s173_0 n l0 l1 M hc (fun r M1 h => h)) ?_
    refine wp_le [some (.ref l0), none] (zLe_of (by simp [zLeB])) ?_
    exact s175_20 n    l0 (b173_0 n l0 l1 M) hp hQ
  · rw [if_pos hc] at hQ
    replace hp := hp.1 hc
    refine wp_go 1 (pc' := 14) (L' := [some (.ref l0), some (.int l1)]) (st' := [.int ((-1) : Int32)]) (M' := M) rfl ?_
    exact wp_ret (r := some (.int ((-1) : Int32))) rfl rfl (hQ _ _ ⟨rfl, rfl⟩)
def b175_5 (n : Nat)  (l0 : Nat) (l1 : Int32) (M : zM) : Int32 × zM := b175_10 n  l0 l1 (b174_0 n l0 l1 M).1 (b174_0 n l0 l1 M).2
def p175_5 (n : Nat)  (l0 : Nat) (l1 : Int32) (M : zM) : Prop := (zHasC 175 311 l0 M 174 1) ∧ ((p174_0 n l0 l1 M) ∧ (p175_10 n  l0 l1 (b174_0 n l0 l1 M).1 (b174_0 n l0 l1 M).2))
theorem s175_5 (n : Nat)    (l0 : Nat) (l1 : Int32) (M : zM) (hp : p175_5 n  l0 l1 M) {Q : Option Value → zM → Prop} (hQ : ∀ r M1, zRI (b175_5 n  l0 l1 M) r M1 → Q r M1) : zWP 175 5 [some (.ref l0), some (.int l1)] [] M Q := by
  unfold b175_5 at hQ
  unfold p175_5 at hp
  refine wp_go 2 (pc' := 7) (L' := [some (.ref l0), some (.int l1)]) (st' := [.int l1, .ref l0]) (M' := M) rfl ?_
  obtain ⟨hv, hp⟩ := hp
  obtain ⟨hc, hp⟩ := hp
  refine wp_calli (v := (b174_0 n l0 l1 M).1) (M1 := (b174_0 n l0 l1 M).2) rfl rfl rfl (zInv_v (np := 1) rfl rfl hv rfl) (s174_0 n l0 l1 M hc (fun r M1 h => h)) ?_
  exact s175_10 n    l0 l1 (b174_0 n l0 l1 M).1 (b174_0 n l0 l1 M).2 hp hQ
def b175_0 (n : Nat)  (l0 : Nat) (l1 : Int32) (M : zM) : Int32 × zM := b175_5 n  l0 l1 (zWI M l0 26 (0 : Int32))
def p175_0 (n : Nat)  (l0 : Nat) (l1 : Int32) (M : zM) : Prop := (zPutI 175 138 l0 M 26 (0 : Int32)) ∧ (p175_5 n  l0 l1 (zWI M l0 26 (0 : Int32)))
theorem s175_0 (n : Nat)    (l0 : Nat) (l1 : Int32) (M : zM) (hp : p175_0 n  l0 l1 M) {Q : Option Value → zM → Prop} (hQ : ∀ r M1, zRI (b175_0 n  l0 l1 M) r M1 → Q r M1) : zWP 175 0 [some (.ref l0), some (.int l1)] [] M Q := by
  unfold b175_0 at hQ
  unfold p175_0 at hp
  refine wp_go 2 (pc' := 2) (L' := [some (.ref l0), some (.int l1)]) (st' := [.int (0 : Int32), .ref l0]) (M' := M) rfl ?_
  obtain ⟨hc, hp⟩ := hp
  refine wq_putI (j := 26) rfl hc ?_
  exact s175_5 n    l0 l1 (zWI M l0 26 (0 : Int32)) hp hQ
/-! X12_joined -/
def b176_120 (n : Nat)  (s0 : Int32) (M : zM) : Int32 × zM := (s0, M)
def p176_120 (n : Nat)  (s0 : Int32) (M : zM) : Prop := True
theorem s176_120 (n : Nat)    (s0 : Int32) (M : zM) (hp : p176_120 n  s0 M) {Q : Option Value → zM → Prop} (hQ : ∀ r M1, zRI (b176_120 n  s0 M) r M1 → Q r M1) : zWP 176 120 [none, none, none] [.int s0] M Q := by
  unfold b176_120 at hQ
  unfold p176_120 at hp
  exact wp_ret (r := some (.int s0)) rfl rfl (hQ _ _ ⟨rfl, rfl⟩)
def b176_140 (n : Nat)  (s0 : Int32) (M : zM) : Int32 × zM := (s0, M)
def p176_140 (n : Nat)  (s0 : Int32) (M : zM) : Prop := True
theorem s176_140 (n : Nat)    (s0 : Int32) (M : zM) (hp : p176_140 n  s0 M) {Q : Option Value → zM → Prop} (hQ : ∀ r M1, zRI (b176_140 n  s0 M) r M1 → Q r M1) : zWP 176 140 [none, none, none] [.int s0] M Q := by
  unfold b176_140 at hQ
  unfold p176_140 at hp
  exact wp_ret (r := some (.int s0)) rfl rfl (hQ _ _ ⟨rfl, rfl⟩)
def b176_135 (n : Nat)  (l0 : Nat) (l1 : Int32) (M : zM) : Int32 × zM := b176_140 n  (b159_0 n l0 l1 M).1 (b159_0 n l0 l1 M).2
def p176_135 (n : Nat)  (l0 : Nat) (l1 : Int32) (M : zM) : Prop := (zHasC 176 292 l0 M 159 1) ∧ ((p159_0 n l0 l1 M) ∧ (p176_140 n  (b159_0 n l0 l1 M).1 (b159_0 n l0 l1 M).2))
theorem s176_135 (n : Nat)    (l0 : Nat) (l1 : Int32) (M : zM) (hp : p176_135 n  l0 l1 M) {Q : Option Value → zM → Prop} (hQ : ∀ r M1, zRI (b176_135 n  l0 l1 M) r M1 → Q r M1) : zWP 176 135 [some (.ref l0), some (.int l1), none] [] M Q := by
  unfold b176_135 at hQ
  unfold p176_135 at hp
  refine wp_go 2 (pc' := 137) (L' := [some (.ref l0), some (.int l1), none]) (st' := [.int l1, .ref l0]) (M' := M) rfl ?_
  obtain ⟨hv, hp⟩ := hp
  obtain ⟨hc, hp⟩ := hp
  refine wp_calli (v := (b159_0 n l0 l1 M).1) (M1 := (b159_0 n l0 l1 M).2) rfl rfl rfl (zInv_v (np := 1) rfl rfl hv rfl) (s159_0 n l0 l1 M hc (fun r M1 h => h)) ?_
  refine wp_le [none, none, none] (zLe_of (by simp [zLeB])) ?_
  exact s176_140 n    (b159_0 n l0 l1 M).1 (b159_0 n l0 l1 M).2 hp hQ
def b176_132 (n : Nat)  (l0 : Nat) (l1 : Int32) (s0 : Nat) (s1 : Int32) (M : zM) : Int32 × zM := b176_135 n  l0 l1 (b158_0 n s0 s1 M)
def p176_132 (n : Nat)  (l0 : Nat) (l1 : Int32) (s0 : Nat) (s1 : Int32) (M : zM) : Prop := (zHasC 176 179 s0 M 158 1) ∧ ((p158_0 n s0 s1 M) ∧ (p176_135 n  l0 l1 (b158_0 n s0 s1 M)))
theorem s176_132 (n : Nat)    (l0 : Nat) (l1 : Int32) (s0 : Nat) (s1 : Int32) (M : zM) (hp : p176_132 n  l0 l1 s0 s1 M) {Q : Option Value → zM → Prop} (hQ : ∀ r M1, zRI (b176_132 n  l0 l1 s0 s1 M) r M1 → Q r M1) : zWP 176 132 [some (.ref l0), some (.int l1), none] [.int s1, .ref s0] M Q := by
  unfold b176_132 at hQ
  unfold p176_132 at hp
  obtain ⟨hv, hp⟩ := hp
  obtain ⟨hc, hp⟩ := hp
  refine wp_callv (M1 := (b158_0 n s0 s1 M)) rfl rfl rfl (zInv_v (np := 1) rfl rfl hv rfl) (s158_0 n s0 s1 M hc (fun r M1 h => h)) ?_
  exact s176_135 n    l0 l1 (b158_0 n s0 s1 M) hp hQ
def b176_10 (n : Nat)  (l0 : Nat) (l1 : Int32) (l2 : Int32) (s0 : Int32) (M : zM) : Int32 × zM := (if s0 = 0 then (((-1) : Int32), M) else (if l2 = 0 then ((zI M (zQ M l0 18) l1.toNatClampNeg), M) else if l2 = 1 then ((zI M (zQ M l0 19) l1.toNatClampNeg), M) else if l2 = 2 then ((zI M (zQ M l0 20) l1.toNatClampNeg), M) else if l2 = 3 then ((zI M (zQ M l0 21) l1.toNatClampNeg), M) else if l2 = 4 then ((zI M (zQ M l0 22) l1.toNatClampNeg), M) else if l2 = 5 then ((zI M (zQ M l0 23) l1.toNatClampNeg), M) else if l2 = 6 then (if (zI M (zQ M l0 24) l1.toNatClampNeg) = 0 then b176_120 n  (0 : Int32) M else b176_120 n  (1 : Int32) M) else if l2 = 7 then b176_132 n  l0 l1 l0 (b155_0 n l0 (zI M (zQ M l0 18) l1.toNatClampNeg) M).1 (b155_0 n l0 (zI M (zQ M l0 18) l1.toNatClampNeg) M).2 else (((-1) : Int32), M)))
def p176_10 (n : Nat)  (l0 : Nat) (l1 : Int32) (l2 : Int32) (s0 : Int32) (M : zM) : Prop := ((s0 = 0 → True) ∧ (¬ s0 = 0 → ((l2 = 0 → (zHasQ 10 57 l0 M 18) ∧ ((zOkI (zQ M l0 18) l1 M) ∧ (True))) ∧ (¬ l2 = 0 → (l2 = 1 → (zHasQ 10 60 l0 M 19) ∧ ((zOkI (zQ M l0 19) l1 M) ∧ (True))) ∧ (¬ l2 = 1 → (l2 = 2 → (zHasQ 10 63 l0 M 20) ∧ ((zOkI (zQ M l0 20) l1 M) ∧ (True))) ∧ (¬ l2 = 2 → (l2 = 3 → (zHasQ 10 66 l0 M 21) ∧ ((zOkI (zQ M l0 21) l1 M) ∧ (True))) ∧ (¬ l2 = 3 → (l2 = 4 → (zHasQ 10 69 l0 M 22) ∧ ((zOkI (zQ M l0 22) l1 M) ∧ (True))) ∧ (¬ l2 = 4 → (l2 = 5 → (zHasQ 10 72 l0 M 23) ∧ ((zOkI (zQ M l0 23) l1 M) ∧ (True))) ∧ (¬ l2 = 5 → (l2 = 6 → (zHasQ 10 75 l0 M 24) ∧ ((zOkT 2 (zQ M l0 24) l1 M) ∧ ((((zI M (zQ M l0 24) l1.toNatClampNeg) = 0 → p176_120 n  (0 : Int32) M) ∧ (¬ (zI M (zQ M l0 24) l1.toNatClampNeg) = 0 → p176_120 n  (1 : Int32) M))))) ∧ (¬ l2 = 6 → (l2 = 7 → (zHasQ 10 57 l0 M 18) ∧ ((zOkI (zQ M l0 18) l1 M) ∧ ((zHasC 176 176 l0 M 155 1) ∧ ((p155_0 n l0 (zI M (zQ M l0 18) l1.toNatClampNeg) M) ∧ (p176_132 n  l0 l1 l0 (b155_0 n l0 (zI M (zQ M l0 18) l1.toNatClampNeg) M).1 (b155_0 n l0 (zI M (zQ M l0 18) l1.toNatClampNeg) M).2))))) ∧ (¬ l2 = 7 → True)))))))))))
theorem s176_10 (n : Nat)    (l0 : Nat) (l1 : Int32) (l2 : Int32) (s0 : Int32) (M : zM) (hp : p176_10 n  l0 l1 l2 s0 M) {Q : Option Value → zM → Prop} (hQ : ∀ r M1, zRI (b176_10 n  l0 l1 l2 s0 M) r M1 → Q r M1) : zWP 176 10 [some (.ref l0), some (.int l1), some (.int l2)] [.int s0] M Q := by
  unfold b176_10 at hQ
  unfold p176_10 at hp
  refine wp_if_ne (t := 15) rfl rfl (fun hc => ?_) (fun hc => ?_)
  · rw [if_neg hc] at hQ
    replace hp := hp.2 hc
    refine wp_go 1 (pc' := 16) (L' := [some (.ref l0), some (.int l1), some (.int l2)]) (st' := [.int l2]) (M' := M) rfl ?_
    by_cases hc0 : l2 = 0
    · rw [if_pos hc0] at hQ
      replace hp := hp.1 hc0
      refine wp_tabI rfl hc0 (t := 64) rfl ?_
      refine wp_go 1 (pc' := 65) (L' := [some (.ref l0), some (.int l1), some (.int l2)]) (st' := [.ref l0]) (M' := M) rfl ?_
      obtain ⟨hc, hp⟩ := hp
      refine wq_getQ (j := 18) rfl hc ?_
      refine wp_go 1 (pc' := 69) (L' := [some (.ref l0), some (.int l1), some (.int l2)]) (st' := [.int l1, .ref (zQ M l0 18)]) (M' := M) rfl ?_
      obtain ⟨hc, hp⟩ := hp
      refine wq_iald rfl hc ?_
      exact wp_ret (r := some (.int (zI M (zQ M l0 18) l1.toNatClampNeg))) rfl rfl (hQ _ _ ⟨rfl, rfl⟩)
    rw [if_neg hc0] at hQ
    replace hp := hp.2 hc0
    by_cases hc1 : l2 = 1
    · rw [if_pos hc1] at hQ
      replace hp := hp.1 hc1
      refine wp_tabI rfl hc1 (t := 71) rfl ?_
      refine wp_go 1 (pc' := 72) (L' := [some (.ref l0), some (.int l1), some (.int l2)]) (st' := [.ref l0]) (M' := M) rfl ?_
      obtain ⟨hc, hp⟩ := hp
      refine wq_getQ (j := 19) rfl hc ?_
      refine wp_go 1 (pc' := 76) (L' := [some (.ref l0), some (.int l1), some (.int l2)]) (st' := [.int l1, .ref (zQ M l0 19)]) (M' := M) rfl ?_
      obtain ⟨hc, hp⟩ := hp
      refine wq_iald rfl hc ?_
      exact wp_ret (r := some (.int (zI M (zQ M l0 19) l1.toNatClampNeg))) rfl rfl (hQ _ _ ⟨rfl, rfl⟩)
    rw [if_neg hc1] at hQ
    replace hp := hp.2 hc1
    by_cases hc2 : l2 = 2
    · rw [if_pos hc2] at hQ
      replace hp := hp.1 hc2
      refine wp_tabI rfl hc2 (t := 78) rfl ?_
      refine wp_go 1 (pc' := 79) (L' := [some (.ref l0), some (.int l1), some (.int l2)]) (st' := [.ref l0]) (M' := M) rfl ?_
      obtain ⟨hc, hp⟩ := hp
      refine wq_getQ (j := 20) rfl hc ?_
      refine wp_go 1 (pc' := 83) (L' := [some (.ref l0), some (.int l1), some (.int l2)]) (st' := [.int l1, .ref (zQ M l0 20)]) (M' := M) rfl ?_
      obtain ⟨hc, hp⟩ := hp
      refine wq_iald rfl hc ?_
      exact wp_ret (r := some (.int (zI M (zQ M l0 20) l1.toNatClampNeg))) rfl rfl (hQ _ _ ⟨rfl, rfl⟩)
    rw [if_neg hc2] at hQ
    replace hp := hp.2 hc2
    by_cases hc3 : l2 = 3
    · rw [if_pos hc3] at hQ
      replace hp := hp.1 hc3
      refine wp_tabI rfl hc3 (t := 85) rfl ?_
      refine wp_go 1 (pc' := 86) (L' := [some (.ref l0), some (.int l1), some (.int l2)]) (st' := [.ref l0]) (M' := M) rfl ?_
      obtain ⟨hc, hp⟩ := hp
      refine wq_getQ (j := 21) rfl hc ?_
      refine wp_go 1 (pc' := 90) (L' := [some (.ref l0), some (.int l1), some (.int l2)]) (st' := [.int l1, .ref (zQ M l0 21)]) (M' := M) rfl ?_
      obtain ⟨hc, hp⟩ := hp
      refine wq_iald rfl hc ?_
      exact wp_ret (r := some (.int (zI M (zQ M l0 21) l1.toNatClampNeg))) rfl rfl (hQ _ _ ⟨rfl, rfl⟩)
    rw [if_neg hc3] at hQ
    replace hp := hp.2 hc3
    by_cases hc4 : l2 = 4
    · rw [if_pos hc4] at hQ
      replace hp := hp.1 hc4
      refine wp_tabI rfl hc4 (t := 92) rfl ?_
      refine wp_go 1 (pc' := 93) (L' := [some (.ref l0), some (.int l1), some (.int l2)]) (st' := [.ref l0]) (M' := M) rfl ?_
      obtain ⟨hc, hp⟩ := hp
      refine wq_getQ (j := 22) rfl hc ?_
      refine wp_go 1 (pc' := 97) (L' := [some (.ref l0), some (.int l1), some (.int l2)]) (st' := [.int l1, .ref (zQ M l0 22)]) (M' := M) rfl ?_
      obtain ⟨hc, hp⟩ := hp
      refine wq_iald rfl hc ?_
      exact wp_ret (r := some (.int (zI M (zQ M l0 22) l1.toNatClampNeg))) rfl rfl (hQ _ _ ⟨rfl, rfl⟩)
    rw [if_neg hc4] at hQ
    replace hp := hp.2 hc4
    by_cases hc5 : l2 = 5
    · rw [if_pos hc5] at hQ
      replace hp := hp.1 hc5
      refine wp_tabI rfl hc5 (t := 99) rfl ?_
      refine wp_go 1 (pc' := 100) (L' := [some (.ref l0), some (.int l1), some (.int l2)]) (st' := [.ref l0]) (M' := M) rfl ?_
      obtain ⟨hc, hp⟩ := hp
      refine wq_getQ (j := 23) rfl hc ?_
      refine wp_go 1 (pc' := 104) (L' := [some (.ref l0), some (.int l1), some (.int l2)]) (st' := [.int l1, .ref (zQ M l0 23)]) (M' := M) rfl ?_
      obtain ⟨hc, hp⟩ := hp
      refine wq_iald rfl hc ?_
      exact wp_ret (r := some (.int (zI M (zQ M l0 23) l1.toNatClampNeg))) rfl rfl (hQ _ _ ⟨rfl, rfl⟩)
    rw [if_neg hc5] at hQ
    replace hp := hp.2 hc5
    by_cases hc6 : l2 = 6
    · rw [if_pos hc6] at hQ
      replace hp := hp.1 hc6
      refine wp_tabI rfl hc6 (t := 106) rfl ?_
      refine wp_go 1 (pc' := 107) (L' := [some (.ref l0), some (.int l1), some (.int l2)]) (st' := [.ref l0]) (M' := M) rfl ?_
      obtain ⟨hc, hp⟩ := hp
      refine wq_getQ (j := 24) rfl hc ?_
      refine wp_go 1 (pc' := 111) (L' := [some (.ref l0), some (.int l1), some (.int l2)]) (st' := [.int l1, .ref (zQ M l0 24)]) (M' := M) rfl ?_
      obtain ⟨hc, hp⟩ := hp
      refine wq_zald rfl hc ?_
      refine wp_if_eq (t := 119) rfl rfl (fun hc => ?_) (fun hc => ?_)
      · rw [if_pos hc] at hQ
        replace hp := hp.1 hc
        refine wp_go 1 (pc' := 120) (L' := [some (.ref l0), some (.int l1), some (.int l2)]) (st' := [.int (0 : Int32)]) (M' := M) rfl ?_
        refine wp_le [none, none, none] (zLe_of (by simp [zLeB])) ?_
        exact s176_120 n    (0 : Int32) M hp hQ
      · rw [if_neg hc] at hQ
        replace hp := hp.2 hc
        refine wp_go 2 (pc' := 120) (L' := [some (.ref l0), some (.int l1), some (.int l2)]) (st' := [.int (1 : Int32)]) (M' := M) rfl ?_
        refine wp_le [none, none, none] (zLe_of (by simp [zLeB])) ?_
        exact s176_120 n    (1 : Int32) M hp hQ
    rw [if_neg hc6] at hQ
    replace hp := hp.2 hc6
    by_cases hc7 : l2 = 7
    · rw [if_pos hc7] at hQ
      replace hp := hp.1 hc7
      refine wp_tabI rfl hc7 (t := 121) rfl ?_
      refine wp_go 3 (pc' := 124) (L' := [some (.ref l0), some (.int l1), some (.int l2)]) (st' := [.ref l0, .ref l0, .ref l0]) (M' := M) rfl ?_
      obtain ⟨hc, hp⟩ := hp
      refine wq_getQ (j := 18) rfl hc ?_
      refine wp_go 1 (pc' := 128) (L' := [some (.ref l0), some (.int l1), some (.int l2)]) (st' := [.int l1, .ref (zQ M l0 18), .ref l0, .ref l0]) (M' := M) rfl ?_
      obtain ⟨hc, hp⟩ := hp
      refine wq_iald rfl hc ?_
      obtain ⟨hv, hp⟩ := hp
      obtain ⟨hc, hp⟩ := hp
      refine wp_calli (v := (b155_0 n l0 (zI M (zQ M l0 18) l1.toNatClampNeg) M).1) (M1 := (b155_0 n l0 (zI M (zQ M l0 18) l1.toNatClampNeg) M).2) rfl rfl rfl (zInv_v (np := 1) rfl rfl hv rfl) (s155_0 n l0 (zI M (zQ M l0 18) l1.toNatClampNeg) M hc (fun r M1 h => h)) ?_
      refine wp_le [some (.ref l0), some (.int l1), none] (zLe_of (by simp [zLeB])) ?_
      exact s176_132 n    l0 l1 l0 (b155_0 n l0 (zI M (zQ M l0 18) l1.toNatClampNeg) M).1 (b155_0 n l0 (zI M (zQ M l0 18) l1.toNatClampNeg) M).2 hp hQ
    rw [if_neg hc7] at hQ
    replace hp := hp.2 hc7
    refine wp_tabO (t := 141) rfl (by have e0 : ¬ (l2).toInt = 0 := fun h => hc0 (Int32.toInt_inj.mp h); have e1 : ¬ (l2).toInt = 1 := fun h => hc1 (Int32.toInt_inj.mp h); have e2 : ¬ (l2).toInt = 2 := fun h => hc2 (Int32.toInt_inj.mp h); have e3 : ¬ (l2).toInt = 3 := fun h => hc3 (Int32.toInt_inj.mp h); have e4 : ¬ (l2).toInt = 4 := fun h => hc4 (Int32.toInt_inj.mp h); have e5 : ¬ (l2).toInt = 5 := fun h => hc5 (Int32.toInt_inj.mp h); have e6 : ¬ (l2).toInt = 6 := fun h => hc6 (Int32.toInt_inj.mp h); have e7 : ¬ (l2).toInt = 7 := fun h => hc7 (Int32.toInt_inj.mp h); omega) rfl ?_
    refine wp_go 1 (pc' := 142) (L' := [some (.ref l0), some (.int l1), some (.int l2)]) (st' := [.int ((-1) : Int32)]) (M' := M) rfl ?_
    exact wp_ret (r := some (.int ((-1) : Int32))) rfl rfl (hQ _ _ ⟨rfl, rfl⟩)
  · rw [if_pos hc] at hQ
    replace hp := hp.1 hc
    refine wp_go 1 (pc' := 14) (L' := [some (.ref l0), some (.int l1), some (.int l2)]) (st' := [.int ((-1) : Int32)]) (M' := M) rfl ?_
    exact wp_ret (r := some (.int ((-1) : Int32))) rfl rfl (hQ _ _ ⟨rfl, rfl⟩)
def b176_5 (n : Nat)  (l0 : Nat) (l1 : Int32) (l2 : Int32) (M : zM) : Int32 × zM := b176_10 n  l0 l1 l2 (b174_0 n l0 l1 M).1 (b174_0 n l0 l1 M).2
def p176_5 (n : Nat)  (l0 : Nat) (l1 : Int32) (l2 : Int32) (M : zM) : Prop := (zHasC 176 311 l0 M 174 1) ∧ ((p174_0 n l0 l1 M) ∧ (p176_10 n  l0 l1 l2 (b174_0 n l0 l1 M).1 (b174_0 n l0 l1 M).2))
theorem s176_5 (n : Nat)    (l0 : Nat) (l1 : Int32) (l2 : Int32) (M : zM) (hp : p176_5 n  l0 l1 l2 M) {Q : Option Value → zM → Prop} (hQ : ∀ r M1, zRI (b176_5 n  l0 l1 l2 M) r M1 → Q r M1) : zWP 176 5 [some (.ref l0), some (.int l1), some (.int l2)] [] M Q := by
  unfold b176_5 at hQ
  unfold p176_5 at hp
  refine wp_go 2 (pc' := 7) (L' := [some (.ref l0), some (.int l1), some (.int l2)]) (st' := [.int l1, .ref l0]) (M' := M) rfl ?_
  obtain ⟨hv, hp⟩ := hp
  obtain ⟨hc, hp⟩ := hp
  refine wp_calli (v := (b174_0 n l0 l1 M).1) (M1 := (b174_0 n l0 l1 M).2) rfl rfl rfl (zInv_v (np := 1) rfl rfl hv rfl) (s174_0 n l0 l1 M hc (fun r M1 h => h)) ?_
  exact s176_10 n    l0 l1 l2 (b174_0 n l0 l1 M).1 (b174_0 n l0 l1 M).2 hp hQ
def b176_0 (n : Nat)  (l0 : Nat) (l1 : Int32) (l2 : Int32) (M : zM) : Int32 × zM := b176_5 n  l0 l1 l2 (zWI M l0 26 (0 : Int32))
def p176_0 (n : Nat)  (l0 : Nat) (l1 : Int32) (l2 : Int32) (M : zM) : Prop := (zPutI 176 138 l0 M 26 (0 : Int32)) ∧ (p176_5 n  l0 l1 l2 (zWI M l0 26 (0 : Int32)))
theorem s176_0 (n : Nat)    (l0 : Nat) (l1 : Int32) (l2 : Int32) (M : zM) (hp : p176_0 n  l0 l1 l2 M) {Q : Option Value → zM → Prop} (hQ : ∀ r M1, zRI (b176_0 n  l0 l1 l2 M) r M1 → Q r M1) : zWP 176 0 [some (.ref l0), some (.int l1), some (.int l2)] [] M Q := by
  unfold b176_0 at hQ
  unfold p176_0 at hp
  refine wp_go 2 (pc' := 2) (L' := [some (.ref l0), some (.int l1), some (.int l2)]) (st' := [.int (0 : Int32), .ref l0]) (M' := M) rfl ?_
  obtain ⟨hc, hp⟩ := hp
  refine wq_putI (j := 26) rfl hc ?_
  exact s176_5 n    l0 l1 l2 (zWI M l0 26 (0 : Int32)) hp hQ
/-! X12_round -/
def b177_5 (n : Nat)  (l0 : Nat) (M : zM) : Int32 × zM := ((zI M l0 50), M)
def p177_5 (n : Nat)  (l0 : Nat) (M : zM) : Prop := (zHasI 10 117 l0 M 50) ∧ (True)
theorem s177_5 (n : Nat)    (l0 : Nat) (M : zM) (hp : p177_5 n  l0 M) {Q : Option Value → zM → Prop} (hQ : ∀ r M1, zRI (b177_5 n  l0 M) r M1 → Q r M1) : zWP 177 5 [some (.ref l0)] [] M Q := by
  unfold b177_5 at hQ
  unfold p177_5 at hp
  refine wp_go 1 (pc' := 6) (L' := [some (.ref l0)]) (st' := [.ref l0]) (M' := M) rfl ?_
  obtain ⟨hc, hp⟩ := hp
  refine wq_getI (j := 50) rfl hc ?_
  exact wp_ret (r := some (.int (zI M l0 50))) rfl rfl (hQ _ _ ⟨rfl, rfl⟩)
def b177_0 (n : Nat)  (l0 : Nat) (M : zM) : Int32 × zM := b177_5 n  l0 (zWI M l0 26 (0 : Int32))
def p177_0 (n : Nat)  (l0 : Nat) (M : zM) : Prop := (zPutI 177 138 l0 M 26 (0 : Int32)) ∧ (p177_5 n  l0 (zWI M l0 26 (0 : Int32)))
theorem s177_0 (n : Nat)    (l0 : Nat) (M : zM) (hp : p177_0 n  l0 M) {Q : Option Value → zM → Prop} (hQ : ∀ r M1, zRI (b177_0 n  l0 M) r M1 → Q r M1) : zWP 177 0 [some (.ref l0)] [] M Q := by
  unfold b177_0 at hQ
  unfold p177_0 at hp
  refine wp_go 2 (pc' := 2) (L' := [some (.ref l0)]) (st' := [.int (0 : Int32), .ref l0]) (M' := M) rfl ?_
  obtain ⟨hc, hp⟩ := hp
  refine wq_putI (j := 26) rfl hc ?_
  exact s177_5 n    l0 (zWI M l0 26 (0 : Int32)) hp hQ
/-! X12_lies -/
def b178_41 (n : Nat)  (s0 : Int32) (M : zM) : Int32 × zM := (s0, M)
def p178_41 (n : Nat)  (s0 : Int32) (M : zM) : Prop := True
theorem s178_41 (n : Nat)    (s0 : Int32) (M : zM) (hp : p178_41 n  s0 M) {Q : Option Value → zM → Prop} (hQ : ∀ r M1, zRI (b178_41 n  s0 M) r M1 → Q r M1) : zWP 178 41 [none, none] [.int s0] M Q := by
  unfold b178_41 at hQ
  unfold p178_41 at hp
  exact wp_ret (r := some (.int s0)) rfl rfl (hQ _ _ ⟨rfl, rfl⟩)
def b178_5 (n : Nat)  (l0 : Nat) (l1 : Int32) (M : zM) : Int32 × zM := (if l1 = 0 then b178_41 n  (zI M l0 51) M else (if l1 = (1 : Int32) then b178_41 n  (zI M l0 52) M else (if l1 = (2 : Int32) then b178_41 n  (zI M l0 53) M else b178_41 n  ((-1) : Int32) M)))
def p178_5 (n : Nat)  (l0 : Nat) (l1 : Int32) (M : zM) : Prop := ((l1 = 0 → (zHasI 10 120 l0 M 51) ∧ (p178_41 n  (zI M l0 51) M)) ∧ (¬ l1 = 0 → ((l1 = (1 : Int32) → (zHasI 10 123 l0 M 52) ∧ (p178_41 n  (zI M l0 52) M)) ∧ (¬ l1 = (1 : Int32) → ((l1 = (2 : Int32) → (zHasI 10 126 l0 M 53) ∧ (p178_41 n  (zI M l0 53) M)) ∧ (¬ l1 = (2 : Int32) → p178_41 n  ((-1) : Int32) M))))))
theorem s178_5 (n : Nat)    (l0 : Nat) (l1 : Int32) (M : zM) (hp : p178_5 n  l0 l1 M) {Q : Option Value → zM → Prop} (hQ : ∀ r M1, zRI (b178_5 n  l0 l1 M) r M1 → Q r M1) : zWP 178 5 [some (.ref l0), some (.int l1)] [] M Q := by
  unfold b178_5 at hQ
  unfold p178_5 at hp
  refine wp_go 1 (pc' := 6) (L' := [some (.ref l0), some (.int l1)]) (st' := [.int l1]) (M' := M) rfl ?_
  refine wp_if_ne (t := 16) rfl rfl (fun hc => ?_) (fun hc => ?_)
  · rw [if_neg hc] at hQ
    replace hp := hp.2 hc
    refine wp_go 2 (pc' := 18) (L' := [some (.ref l0), some (.int l1)]) (st' := [.int (1 : Int32), .int l1]) (M' := M) rfl ?_
    refine wp_ic_ne (t := 28) rfl rfl (fun hc => ?_) (fun hc => ?_)
    · rw [if_neg hc] at hQ
      replace hp := hp.2 hc
      refine wp_go 2 (pc' := 30) (L' := [some (.ref l0), some (.int l1)]) (st' := [.int (2 : Int32), .int l1]) (M' := M) rfl ?_
      refine wp_ic_ne (t := 40) rfl rfl (fun hc => ?_) (fun hc => ?_)
      · rw [if_neg hc] at hQ
        replace hp := hp.2 hc
        refine wp_go 1 (pc' := 41) (L' := [some (.ref l0), some (.int l1)]) (st' := [.int ((-1) : Int32)]) (M' := M) rfl ?_
        refine wp_le [none, none] (zLe_of (by simp [zLeB])) ?_
        exact s178_41 n    ((-1) : Int32) M hp hQ
      · rw [if_pos hc] at hQ
        replace hp := hp.1 hc
        refine wp_go 1 (pc' := 34) (L' := [some (.ref l0), some (.int l1)]) (st' := [.ref l0]) (M' := M) rfl ?_
        obtain ⟨hc, hp⟩ := hp
        refine wq_getI (j := 53) rfl hc ?_
        refine wp_go 1 (pc' := 41) (L' := [some (.ref l0), some (.int l1)]) (st' := [.int (zI M l0 53)]) (M' := M) rfl ?_
        refine wp_le [none, none] (zLe_of (by simp [zLeB])) ?_
        exact s178_41 n    (zI M l0 53) M hp hQ
    · rw [if_pos hc] at hQ
      replace hp := hp.1 hc
      refine wp_go 1 (pc' := 22) (L' := [some (.ref l0), some (.int l1)]) (st' := [.ref l0]) (M' := M) rfl ?_
      obtain ⟨hc, hp⟩ := hp
      refine wq_getI (j := 52) rfl hc ?_
      refine wp_go 1 (pc' := 41) (L' := [some (.ref l0), some (.int l1)]) (st' := [.int (zI M l0 52)]) (M' := M) rfl ?_
      refine wp_le [none, none] (zLe_of (by simp [zLeB])) ?_
      exact s178_41 n    (zI M l0 52) M hp hQ
  · rw [if_pos hc] at hQ
    replace hp := hp.1 hc
    refine wp_go 1 (pc' := 10) (L' := [some (.ref l0), some (.int l1)]) (st' := [.ref l0]) (M' := M) rfl ?_
    obtain ⟨hc, hp⟩ := hp
    refine wq_getI (j := 51) rfl hc ?_
    refine wp_go 1 (pc' := 41) (L' := [some (.ref l0), some (.int l1)]) (st' := [.int (zI M l0 51)]) (M' := M) rfl ?_
    refine wp_le [none, none] (zLe_of (by simp [zLeB])) ?_
    exact s178_41 n    (zI M l0 51) M hp hQ
def b178_0 (n : Nat)  (l0 : Nat) (l1 : Int32) (M : zM) : Int32 × zM := b178_5 n  l0 l1 (zWI M l0 26 (0 : Int32))
def p178_0 (n : Nat)  (l0 : Nat) (l1 : Int32) (M : zM) : Prop := (zPutI 178 138 l0 M 26 (0 : Int32)) ∧ (p178_5 n  l0 l1 (zWI M l0 26 (0 : Int32)))
theorem s178_0 (n : Nat)    (l0 : Nat) (l1 : Int32) (M : zM) (hp : p178_0 n  l0 l1 M) {Q : Option Value → zM → Prop} (hQ : ∀ r M1, zRI (b178_0 n  l0 l1 M) r M1 → Q r M1) : zWP 178 0 [some (.ref l0), some (.int l1)] [] M Q := by
  unfold b178_0 at hQ
  unfold p178_0 at hp
  refine wp_go 2 (pc' := 2) (L' := [some (.ref l0), some (.int l1)]) (st' := [.int (0 : Int32), .ref l0]) (M' := M) rfl ?_
  obtain ⟨hc, hp⟩ := hp
  refine wq_putI (j := 26) rfl hc ?_
  exact s178_5 n    l0 l1 (zWI M l0 26 (0 : Int32)) hp hQ
/-! X12_along -/
def b179_183 (n : Nat) (k6 : Nat → Int32 → Int32 → Int32 → Int32 → Int32 → Int32 → Int32 → zM → Int32 × zM) (l0 : Nat) (l1 : Int32) (l2 : Int32) (l3 : Int32) (l4 : Int32) (l5 : Int32) (l6 : Int32) (l7 : Int32) (M : zM) : Int32 × zM := k6 l0 l1 l2 l3 l4 l5 l6 (l7 + Int32.ofInt 1) M
def p179_183 (n : Nat) (q6 : Nat → Int32 → Int32 → Int32 → Int32 → Int32 → Int32 → Int32 → zM → Prop) (l0 : Nat) (l1 : Int32) (l2 : Int32) (l3 : Int32) (l4 : Int32) (l5 : Int32) (l6 : Int32) (l7 : Int32) (M : zM) : Prop := q6 l0 l1 l2 l3 l4 l5 l6 (l7 + Int32.ofInt 1) M
theorem s179_183 (n : Nat) (k6 : Nat → Int32 → Int32 → Int32 → Int32 → Int32 → Int32 → Int32 → zM → Int32 × zM) (q6 : Nat → Int32 → Int32 → Int32 → Int32 → Int32 → Int32 → Int32 → zM → Prop) (h6 : ∀ (l0 : Nat) (l1 : Int32) (l2 : Int32) (l3 : Int32) (l4 : Int32) (l5 : Int32) (l6 : Int32) (l7 : Int32) (M : zM), q6 l0 l1 l2 l3 l4 l5 l6 l7 M → ∀ {Q : Option Value → zM → Prop}, (∀ r M1, zRI (k6 l0 l1 l2 l3 l4 l5 l6 l7 M) r M1 → Q r M1) → zWP 179 6 [some (.ref l0), some (.int l1), some (.int l2), some (.int l3), some (.int l4), some (.int l5), some (.int l6), some (.int l7), none] [] M Q) (l0 : Nat) (l1 : Int32) (l2 : Int32) (l3 : Int32) (l4 : Int32) (l5 : Int32) (l6 : Int32) (l7 : Int32) (M : zM) (hp : p179_183 n q6 l0 l1 l2 l3 l4 l5 l6 l7 M) {Q : Option Value → zM → Prop} (hQ : ∀ r M1, zRI (b179_183 n k6 l0 l1 l2 l3 l4 l5 l6 l7 M) r M1 → Q r M1) : zWP 179 183 [some (.ref l0), some (.int l1), some (.int l2), some (.int l3), some (.int l4), some (.int l5), some (.int l6), some (.int l7), none] [] M Q := by
  unfold b179_183 at hQ
  unfold p179_183 at hp
  refine wp_go 2 (pc' := 6) (L' := [some (.ref l0), some (.int l1), some (.int l2), some (.int l3), some (.int l4), some (.int l5), some (.int l6), some (.int (l7 + Int32.ofInt 1)), none]) (st' := []) (M' := M) rfl ?_
  exact h6 l0 l1 l2 l3 l4 l5 l6 (l7 + Int32.ofInt 1) M hp hQ
def b179_155 (n : Nat) (k6 : Nat → Int32 → Int32 → Int32 → Int32 → Int32 → Int32 → Int32 → zM → Int32 × zM) (l0 : Nat) (l1 : Int32) (l2 : Int32) (l3 : Int32) (l4 : Int32) (l5 : Int32) (l6 : Int32) (l7 : Int32) (M : zM) : Int32 × zM := b179_183 n k6 l0 l1 l2 l3 l4 l5 l6 l7 M
def p179_155 (n : Nat) (q6 : Nat → Int32 → Int32 → Int32 → Int32 → Int32 → Int32 → Int32 → zM → Prop) (l0 : Nat) (l1 : Int32) (l2 : Int32) (l3 : Int32) (l4 : Int32) (l5 : Int32) (l6 : Int32) (l7 : Int32) (M : zM) : Prop := p179_183 n q6 l0 l1 l2 l3 l4 l5 l6 l7 M
theorem s179_155 (n : Nat) (k6 : Nat → Int32 → Int32 → Int32 → Int32 → Int32 → Int32 → Int32 → zM → Int32 × zM) (q6 : Nat → Int32 → Int32 → Int32 → Int32 → Int32 → Int32 → Int32 → zM → Prop) (h6 : ∀ (l0 : Nat) (l1 : Int32) (l2 : Int32) (l3 : Int32) (l4 : Int32) (l5 : Int32) (l6 : Int32) (l7 : Int32) (M : zM), q6 l0 l1 l2 l3 l4 l5 l6 l7 M → ∀ {Q : Option Value → zM → Prop}, (∀ r M1, zRI (k6 l0 l1 l2 l3 l4 l5 l6 l7 M) r M1 → Q r M1) → zWP 179 6 [some (.ref l0), some (.int l1), some (.int l2), some (.int l3), some (.int l4), some (.int l5), some (.int l6), some (.int l7), none] [] M Q) (l0 : Nat) (l1 : Int32) (l2 : Int32) (l3 : Int32) (l4 : Int32) (l5 : Int32) (l6 : Int32) (l7 : Int32) (M : zM) (hp : p179_155 n q6 l0 l1 l2 l3 l4 l5 l6 l7 M) {Q : Option Value → zM → Prop} (hQ : ∀ r M1, zRI (b179_155 n k6 l0 l1 l2 l3 l4 l5 l6 l7 M) r M1 → Q r M1) : zWP 179 155 [some (.ref l0), some (.int l1), some (.int l2), some (.int l3), some (.int l4), some (.int l5), some (.int l6), some (.int l7), none] [] M Q := by
  unfold b179_155 at hQ
  unfold p179_155 at hp
  refine wp_go 1 (pc' := 183) (L' := [some (.ref l0), some (.int l1), some (.int l2), some (.int l3), some (.int l4), some (.int l5), some (.int l6), some (.int l7), none]) (st' := []) (M' := M) rfl ?_
  exact s179_183 n k6 q6 h6 l0 l1 l2 l3 l4 l5 l6 l7 M hp hQ
def b179_147 (n : Nat) (k6 : Nat → Int32 → Int32 → Int32 → Int32 → Int32 → Int32 → Int32 → zM → Int32 × zM) (l0 : Nat) (l1 : Int32) (l2 : Int32) (l3 : Int32) (l4 : Int32) (l5 : Int32) (l6 : Int32) (l7 : Int32) (l8 : Int32) (M : zM) : Int32 × zM := b179_155 n k6 l0 l1 l2 l3 l4 l5 l6 l7 (zWI M (zQ M l0 55) l8.toNatClampNeg (1 : Int32))
def p179_147 (n : Nat) (q6 : Nat → Int32 → Int32 → Int32 → Int32 → Int32 → Int32 → Int32 → zM → Prop) (l0 : Nat) (l1 : Int32) (l2 : Int32) (l3 : Int32) (l4 : Int32) (l5 : Int32) (l6 : Int32) (l7 : Int32) (l8 : Int32) (M : zM) : Prop := (zHasQ 10 132 l0 M 55) ∧ ((zOkT 1 (zQ M l0 55) l8 M) ∧ (p179_155 n q6 l0 l1 l2 l3 l4 l5 l6 l7 (zWI M (zQ M l0 55) l8.toNatClampNeg (1 : Int32))))
theorem s179_147 (n : Nat) (k6 : Nat → Int32 → Int32 → Int32 → Int32 → Int32 → Int32 → Int32 → zM → Int32 × zM) (q6 : Nat → Int32 → Int32 → Int32 → Int32 → Int32 → Int32 → Int32 → zM → Prop) (h6 : ∀ (l0 : Nat) (l1 : Int32) (l2 : Int32) (l3 : Int32) (l4 : Int32) (l5 : Int32) (l6 : Int32) (l7 : Int32) (M : zM), q6 l0 l1 l2 l3 l4 l5 l6 l7 M → ∀ {Q : Option Value → zM → Prop}, (∀ r M1, zRI (k6 l0 l1 l2 l3 l4 l5 l6 l7 M) r M1 → Q r M1) → zWP 179 6 [some (.ref l0), some (.int l1), some (.int l2), some (.int l3), some (.int l4), some (.int l5), some (.int l6), some (.int l7), none] [] M Q) (l0 : Nat) (l1 : Int32) (l2 : Int32) (l3 : Int32) (l4 : Int32) (l5 : Int32) (l6 : Int32) (l7 : Int32) (l8 : Int32) (M : zM) (hp : p179_147 n q6 l0 l1 l2 l3 l4 l5 l6 l7 l8 M) {Q : Option Value → zM → Prop} (hQ : ∀ r M1, zRI (b179_147 n k6 l0 l1 l2 l3 l4 l5 l6 l7 l8 M) r M1 → Q r M1) : zWP 179 147 [some (.ref l0), some (.int l1), some (.int l2), some (.int l3), some (.int l4), some (.int l5), some (.int l6), some (.int l7), some (.int l8)] [] M Q := by
  unfold b179_147 at hQ
  unfold p179_147 at hp
  refine wp_go 1 (pc' := 148) (L' := [some (.ref l0), some (.int l1), some (.int l2), some (.int l3), some (.int l4), some (.int l5), some (.int l6), some (.int l7), some (.int l8)]) (st' := [.ref l0]) (M' := M) rfl ?_
  obtain ⟨hc, hp⟩ := hp
  refine wq_getQ (j := 55) rfl hc ?_
  refine wp_go 2 (pc' := 154) (L' := [some (.ref l0), some (.int l1), some (.int l2), some (.int l3), some (.int l4), some (.int l5), some (.int l6), some (.int l7), some (.int l8)]) (st' := [.int (1 : Int32), .int l8, .ref (zQ M l0 55)]) (M' := M) rfl ?_
  obtain ⟨hc, hp⟩ := hp
  refine wq_iast rfl hc ?_
  refine wp_le [some (.ref l0), some (.int l1), some (.int l2), some (.int l3), some (.int l4), some (.int l5), some (.int l6), some (.int l7), none] (zLe_of (by simp [zLeB])) ?_
  exact s179_155 n k6 q6 h6 l0 l1 l2 l3 l4 l5 l6 l7 (zWI M (zQ M l0 55) l8.toNatClampNeg (1 : Int32)) hp hQ
def b179_117 (n : Nat) (k6 : Nat → Int32 → Int32 → Int32 → Int32 → Int32 → Int32 → Int32 → zM → Int32 × zM) (l0 : Nat) (l1 : Int32) (l2 : Int32) (l3 : Int32) (l4 : Int32) (l5 : Int32) (l7 : Int32) (s0 : Int32) (M : zM) : Int32 × zM := b179_183 n k6 l0 l1 l2 l3 l4 l5 s0 l7 M
def p179_117 (n : Nat) (q6 : Nat → Int32 → Int32 → Int32 → Int32 → Int32 → Int32 → Int32 → zM → Prop) (l0 : Nat) (l1 : Int32) (l2 : Int32) (l3 : Int32) (l4 : Int32) (l5 : Int32) (l7 : Int32) (s0 : Int32) (M : zM) : Prop := p179_183 n q6 l0 l1 l2 l3 l4 l5 s0 l7 M
theorem s179_117 (n : Nat) (k6 : Nat → Int32 → Int32 → Int32 → Int32 → Int32 → Int32 → Int32 → zM → Int32 × zM) (q6 : Nat → Int32 → Int32 → Int32 → Int32 → Int32 → Int32 → Int32 → zM → Prop) (h6 : ∀ (l0 : Nat) (l1 : Int32) (l2 : Int32) (l3 : Int32) (l4 : Int32) (l5 : Int32) (l6 : Int32) (l7 : Int32) (M : zM), q6 l0 l1 l2 l3 l4 l5 l6 l7 M → ∀ {Q : Option Value → zM → Prop}, (∀ r M1, zRI (k6 l0 l1 l2 l3 l4 l5 l6 l7 M) r M1 → Q r M1) → zWP 179 6 [some (.ref l0), some (.int l1), some (.int l2), some (.int l3), some (.int l4), some (.int l5), some (.int l6), some (.int l7), none] [] M Q) (l0 : Nat) (l1 : Int32) (l2 : Int32) (l3 : Int32) (l4 : Int32) (l5 : Int32) (l7 : Int32) (s0 : Int32) (M : zM) (hp : p179_117 n q6 l0 l1 l2 l3 l4 l5 l7 s0 M) {Q : Option Value → zM → Prop} (hQ : ∀ r M1, zRI (b179_117 n k6 l0 l1 l2 l3 l4 l5 l7 s0 M) r M1 → Q r M1) : zWP 179 117 [some (.ref l0), some (.int l1), some (.int l2), some (.int l3), some (.int l4), some (.int l5), none, some (.int l7), none] [.int s0] M Q := by
  unfold b179_117 at hQ
  unfold p179_117 at hp
  refine wp_go 2 (pc' := 183) (L' := [some (.ref l0), some (.int l1), some (.int l2), some (.int l3), some (.int l4), some (.int l5), some (.int s0), some (.int l7), none]) (st' := []) (M' := M) rfl ?_
  exact s179_183 n k6 q6 h6 l0 l1 l2 l3 l4 l5 s0 l7 M hp hQ
def b179_116 (n : Nat) (k6 : Nat → Int32 → Int32 → Int32 → Int32 → Int32 → Int32 → Int32 → zM → Int32 × zM) (l0 : Nat) (l1 : Int32) (l2 : Int32) (l3 : Int32) (l4 : Int32) (l5 : Int32) (l7 : Int32) (M : zM) : Int32 × zM := b179_117 n k6 l0 l1 l2 l3 l4 l5 l7 (0 : Int32) M
def p179_116 (n : Nat) (q6 : Nat → Int32 → Int32 → Int32 → Int32 → Int32 → Int32 → Int32 → zM → Prop) (l0 : Nat) (l1 : Int32) (l2 : Int32) (l3 : Int32) (l4 : Int32) (l5 : Int32) (l7 : Int32) (M : zM) : Prop := p179_117 n q6 l0 l1 l2 l3 l4 l5 l7 (0 : Int32) M
theorem s179_116 (n : Nat) (k6 : Nat → Int32 → Int32 → Int32 → Int32 → Int32 → Int32 → Int32 → zM → Int32 × zM) (q6 : Nat → Int32 → Int32 → Int32 → Int32 → Int32 → Int32 → Int32 → zM → Prop) (h6 : ∀ (l0 : Nat) (l1 : Int32) (l2 : Int32) (l3 : Int32) (l4 : Int32) (l5 : Int32) (l6 : Int32) (l7 : Int32) (M : zM), q6 l0 l1 l2 l3 l4 l5 l6 l7 M → ∀ {Q : Option Value → zM → Prop}, (∀ r M1, zRI (k6 l0 l1 l2 l3 l4 l5 l6 l7 M) r M1 → Q r M1) → zWP 179 6 [some (.ref l0), some (.int l1), some (.int l2), some (.int l3), some (.int l4), some (.int l5), some (.int l6), some (.int l7), none] [] M Q) (l0 : Nat) (l1 : Int32) (l2 : Int32) (l3 : Int32) (l4 : Int32) (l5 : Int32) (l7 : Int32) (M : zM) (hp : p179_116 n q6 l0 l1 l2 l3 l4 l5 l7 M) {Q : Option Value → zM → Prop} (hQ : ∀ r M1, zRI (b179_116 n k6 l0 l1 l2 l3 l4 l5 l7 M) r M1 → Q r M1) : zWP 179 116 [some (.ref l0), some (.int l1), some (.int l2), some (.int l3), some (.int l4), some (.int l5), none, some (.int l7), none] [] M Q := by
  unfold b179_116 at hQ
  unfold p179_116 at hp
  refine wp_go 1 (pc' := 117) (L' := [some (.ref l0), some (.int l1), some (.int l2), some (.int l3), some (.int l4), some (.int l5), none, some (.int l7), none]) (st' := [.int (0 : Int32)]) (M' := M) rfl ?_
  exact s179_117 n k6 q6 h6 l0 l1 l2 l3 l4 l5 l7 (0 : Int32) M hp hQ
def b179_74 (n : Nat) (k6 : Nat → Int32 → Int32 → Int32 → Int32 → Int32 → Int32 → Int32 → zM → Int32 × zM) (l0 : Nat) (l1 : Int32) (l2 : Int32) (l3 : Int32) (l4 : Int32) (l5 : Int32) (l6 : Int32) (l7 : Int32) (s0 : Int32) (M : zM) : Int32 × zM := (if l5 = (1 : Int32) then (if l6 = 0 then b179_116 n k6 l0 l1 l2 l3 l4 l5 l7 M else (if (zI M (zQ M l0 54) s0.toNatClampNeg) = (zI M l0 33) then (if (zI M (zQ M l0 55) s0.toNatClampNeg) = (1 : Int32) then b179_117 n k6 l0 l1 l2 l3 l4 l5 l7 (1 : Int32) M else b179_116 n k6 l0 l1 l2 l3 l4 l5 l7 M) else b179_116 n k6 l0 l1 l2 l3 l4 l5 l7 M)) else (if (zI M l0 33) ≤ (zI M (zQ M l0 54) s0.toNatClampNeg) then (if (zI M l0 33) = (zI M (zQ M l0 54) s0.toNatClampNeg) then b179_183 n k6 l0 l1 l2 l3 l4 l5 l6 l7 (zWI M (zQ M l0 55) s0.toNatClampNeg ((zI M (zQ M l0 55) s0.toNatClampNeg) + (1 : Int32))) else b179_183 n k6 l0 l1 l2 l3 l4 l5 l6 l7 M) else b179_147 n k6 l0 l1 l2 l3 l4 l5 l6 l7 s0 (zWI M (zQ M l0 54) s0.toNatClampNeg (zI M l0 33))))
def p179_74 (n : Nat) (q6 : Nat → Int32 → Int32 → Int32 → Int32 → Int32 → Int32 → Int32 → zM → Prop) (l0 : Nat) (l1 : Int32) (l2 : Int32) (l3 : Int32) (l4 : Int32) (l5 : Int32) (l6 : Int32) (l7 : Int32) (s0 : Int32) (M : zM) : Prop := ((l5 = (1 : Int32) → ((l6 = 0 → p179_116 n q6 l0 l1 l2 l3 l4 l5 l7 M) ∧ (¬ l6 = 0 → (zHasQ 10 129 l0 M 54) ∧ ((zOkI (zQ M l0 54) s0 M) ∧ ((zHasI 10 231 l0 M 33) ∧ ((((zI M (zQ M l0 54) s0.toNatClampNeg) = (zI M l0 33) → (zHasQ 10 132 l0 M 55) ∧ ((zOkI (zQ M l0 55) s0 M) ∧ ((((zI M (zQ M l0 55) s0.toNatClampNeg) = (1 : Int32) → p179_117 n q6 l0 l1 l2 l3 l4 l5 l7 (1 : Int32) M) ∧ (¬ (zI M (zQ M l0 55) s0.toNatClampNeg) = (1 : Int32) → p179_116 n q6 l0 l1 l2 l3 l4 l5 l7 M))))) ∧ (¬ (zI M (zQ M l0 54) s0.toNatClampNeg) = (zI M l0 33) → p179_116 n q6 l0 l1 l2 l3 l4 l5 l7 M)))))))) ∧ (¬ l5 = (1 : Int32) → (zHasI 10 231 l0 M 33) ∧ ((zHasQ 10 129 l0 M 54) ∧ ((zOkI (zQ M l0 54) s0 M) ∧ ((((zI M l0 33) ≤ (zI M (zQ M l0 54) s0.toNatClampNeg) → (zHasI 10 231 l0 M 33) ∧ ((zHasQ 10 129 l0 M 54) ∧ ((zOkI (zQ M l0 54) s0 M) ∧ ((((zI M l0 33) = (zI M (zQ M l0 54) s0.toNatClampNeg) → (zHasQ 10 132 l0 M 55) ∧ ((zOkI (zQ M l0 55) s0 M) ∧ ((zOkT 1 (zQ M l0 55) s0 M) ∧ (p179_183 n q6 l0 l1 l2 l3 l4 l5 l6 l7 (zWI M (zQ M l0 55) s0.toNatClampNeg ((zI M (zQ M l0 55) s0.toNatClampNeg) + (1 : Int32))))))) ∧ (¬ (zI M l0 33) = (zI M (zQ M l0 54) s0.toNatClampNeg) → p179_183 n q6 l0 l1 l2 l3 l4 l5 l6 l7 M)))))) ∧ (¬ (zI M l0 33) ≤ (zI M (zQ M l0 54) s0.toNatClampNeg) → (zHasQ 10 129 l0 M 54) ∧ ((zHasI 10 231 l0 M 33) ∧ ((zOkT 1 (zQ M l0 54) s0 M) ∧ (p179_147 n q6 l0 l1 l2 l3 l4 l5 l6 l7 s0 (zWI M (zQ M l0 54) s0.toNatClampNeg (zI M l0 33))))))))))))
theorem s179_74 (n : Nat) (k6 : Nat → Int32 → Int32 → Int32 → Int32 → Int32 → Int32 → Int32 → zM → Int32 × zM) (q6 : Nat → Int32 → Int32 → Int32 → Int32 → Int32 → Int32 → Int32 → zM → Prop) (h6 : ∀ (l0 : Nat) (l1 : Int32) (l2 : Int32) (l3 : Int32) (l4 : Int32) (l5 : Int32) (l6 : Int32) (l7 : Int32) (M : zM), q6 l0 l1 l2 l3 l4 l5 l6 l7 M → ∀ {Q : Option Value → zM → Prop}, (∀ r M1, zRI (k6 l0 l1 l2 l3 l4 l5 l6 l7 M) r M1 → Q r M1) → zWP 179 6 [some (.ref l0), some (.int l1), some (.int l2), some (.int l3), some (.int l4), some (.int l5), some (.int l6), some (.int l7), none] [] M Q) (l0 : Nat) (l1 : Int32) (l2 : Int32) (l3 : Int32) (l4 : Int32) (l5 : Int32) (l6 : Int32) (l7 : Int32) (s0 : Int32) (M : zM) (hp : p179_74 n q6 l0 l1 l2 l3 l4 l5 l6 l7 s0 M) {Q : Option Value → zM → Prop} (hQ : ∀ r M1, zRI (b179_74 n k6 l0 l1 l2 l3 l4 l5 l6 l7 s0 M) r M1 → Q r M1) : zWP 179 74 [some (.ref l0), some (.int l1), some (.int l2), some (.int l3), some (.int l4), some (.int l5), some (.int l6), some (.int l7), none] [.int s0] M Q := by
  unfold b179_74 at hQ
  unfold p179_74 at hp
  refine wp_go 3 (pc' := 79) (L' := [some (.ref l0), some (.int l1), some (.int l2), some (.int l3), some (.int l4), some (.int l5), some (.int l6), some (.int l7), some (.int s0)]) (st' := [.int (1 : Int32), .int l5]) (M' := M) rfl ?_
  refine wp_ic_ne (t := 122) rfl rfl (fun hc => ?_) (fun hc => ?_)
  · rw [if_neg hc] at hQ
    replace hp := hp.2 hc
    refine wp_go 1 (pc' := 123) (L' := [some (.ref l0), some (.int l1), some (.int l2), some (.int l3), some (.int l4), some (.int l5), some (.int l6), some (.int l7), some (.int s0)]) (st' := [.ref l0]) (M' := M) rfl ?_
    obtain ⟨hc, hp⟩ := hp
    refine wq_getI (j := 33) rfl hc ?_
    refine wp_go 1 (pc' := 127) (L' := [some (.ref l0), some (.int l1), some (.int l2), some (.int l3), some (.int l4), some (.int l5), some (.int l6), some (.int l7), some (.int s0)]) (st' := [.ref l0, .int (zI M l0 33)]) (M' := M) rfl ?_
    obtain ⟨hc, hp⟩ := hp
    refine wq_getQ (j := 54) rfl hc ?_
    refine wp_go 1 (pc' := 132) (L' := [some (.ref l0), some (.int l1), some (.int l2), some (.int l3), some (.int l4), some (.int l5), some (.int l6), some (.int l7), some (.int s0)]) (st' := [.int s0, .ref (zQ M l0 54), .int (zI M l0 33)]) (M' := M) rfl ?_
    obtain ⟨hc, hp⟩ := hp
    refine wq_iald rfl hc ?_
    refine wp_ic_le (t := 158) rfl rfl (fun hc => ?_) (fun hc => ?_)
    · rw [if_pos hc] at hQ
      replace hp := hp.1 hc
      refine wp_go 1 (pc' := 159) (L' := [some (.ref l0), some (.int l1), some (.int l2), some (.int l3), some (.int l4), some (.int l5), some (.int l6), some (.int l7), some (.int s0)]) (st' := [.ref l0]) (M' := M) rfl ?_
      obtain ⟨hc, hp⟩ := hp
      refine wq_getI (j := 33) rfl hc ?_
      refine wp_go 1 (pc' := 163) (L' := [some (.ref l0), some (.int l1), some (.int l2), some (.int l3), some (.int l4), some (.int l5), some (.int l6), some (.int l7), some (.int s0)]) (st' := [.ref l0, .int (zI M l0 33)]) (M' := M) rfl ?_
      obtain ⟨hc, hp⟩ := hp
      refine wq_getQ (j := 54) rfl hc ?_
      refine wp_go 1 (pc' := 168) (L' := [some (.ref l0), some (.int l1), some (.int l2), some (.int l3), some (.int l4), some (.int l5), some (.int l6), some (.int l7), some (.int s0)]) (st' := [.int s0, .ref (zQ M l0 54), .int (zI M l0 33)]) (M' := M) rfl ?_
      obtain ⟨hc, hp⟩ := hp
      refine wq_iald rfl hc ?_
      refine wp_ic_ne (t := 183) rfl rfl (fun hc => ?_) (fun hc => ?_)
      · rw [if_neg hc] at hQ
        replace hp := hp.2 hc
        refine wp_le [some (.ref l0), some (.int l1), some (.int l2), some (.int l3), some (.int l4), some (.int l5), some (.int l6), some (.int l7), none] (zLe_of (by simp [zLeB])) ?_
        exact s179_183 n k6 q6 h6 l0 l1 l2 l3 l4 l5 l6 l7 M hp hQ
      · rw [if_pos hc] at hQ
        replace hp := hp.1 hc
        refine wp_go 1 (pc' := 173) (L' := [some (.ref l0), some (.int l1), some (.int l2), some (.int l3), some (.int l4), some (.int l5), some (.int l6), some (.int l7), some (.int s0)]) (st' := [.ref l0]) (M' := M) rfl ?_
        obtain ⟨hc, hp⟩ := hp
        refine wq_getQ (j := 55) rfl hc ?_
        refine wp_go 2 (pc' := 179) (L' := [some (.ref l0), some (.int l1), some (.int l2), some (.int l3), some (.int l4), some (.int l5), some (.int l6), some (.int l7), some (.int s0)]) (st' := [.int s0, .ref (zQ M l0 55), .int s0, .ref (zQ M l0 55)]) (M' := M) rfl ?_
        obtain ⟨hc, hp⟩ := hp
        refine wq_iald rfl hc ?_
        refine wp_go 2 (pc' := 182) (L' := [some (.ref l0), some (.int l1), some (.int l2), some (.int l3), some (.int l4), some (.int l5), some (.int l6), some (.int l7), some (.int s0)]) (st' := [.int ((zI M (zQ M l0 55) s0.toNatClampNeg) + (1 : Int32)), .int s0, .ref (zQ M l0 55)]) (M' := M) rfl ?_
        obtain ⟨hc, hp⟩ := hp
        refine wq_iast rfl hc ?_
        refine wp_le [some (.ref l0), some (.int l1), some (.int l2), some (.int l3), some (.int l4), some (.int l5), some (.int l6), some (.int l7), none] (zLe_of (by simp [zLeB])) ?_
        exact s179_183 n k6 q6 h6 l0 l1 l2 l3 l4 l5 l6 l7 (zWI M (zQ M l0 55) s0.toNatClampNeg ((zI M (zQ M l0 55) s0.toNatClampNeg) + (1 : Int32))) hp hQ
    · rw [if_neg hc] at hQ
      replace hp := hp.2 hc
      refine wp_go 1 (pc' := 137) (L' := [some (.ref l0), some (.int l1), some (.int l2), some (.int l3), some (.int l4), some (.int l5), some (.int l6), some (.int l7), some (.int s0)]) (st' := [.ref l0]) (M' := M) rfl ?_
      obtain ⟨hc, hp⟩ := hp
      refine wq_getQ (j := 54) rfl hc ?_
      refine wp_go 2 (pc' := 143) (L' := [some (.ref l0), some (.int l1), some (.int l2), some (.int l3), some (.int l4), some (.int l5), some (.int l6), some (.int l7), some (.int s0)]) (st' := [.ref l0, .int s0, .ref (zQ M l0 54)]) (M' := M) rfl ?_
      obtain ⟨hc, hp⟩ := hp
      refine wq_getI (j := 33) rfl hc ?_
      obtain ⟨hc, hp⟩ := hp
      refine wq_iast rfl hc ?_
      exact s179_147 n k6 q6 h6 l0 l1 l2 l3 l4 l5 l6 l7 s0 (zWI M (zQ M l0 54) s0.toNatClampNeg (zI M l0 33)) hp hQ
  · rw [if_pos hc] at hQ
    replace hp := hp.1 hc
    refine wp_go 1 (pc' := 84) (L' := [some (.ref l0), some (.int l1), some (.int l2), some (.int l3), some (.int l4), some (.int l5), some (.int l6), some (.int l7), some (.int s0)]) (st' := [.int l6]) (M' := M) rfl ?_
    refine wp_if_eq (t := 116) rfl rfl (fun hc => ?_) (fun hc => ?_)
    · rw [if_pos hc] at hQ
      replace hp := hp.1 hc
      refine wp_le [some (.ref l0), some (.int l1), some (.int l2), some (.int l3), some (.int l4), some (.int l5), none, some (.int l7), none] (zLe_of (by simp [zLeB])) ?_
      exact s179_116 n k6 q6 h6 l0 l1 l2 l3 l4 l5 l7 M hp hQ
    · rw [if_neg hc] at hQ
      replace hp := hp.2 hc
      refine wp_go 1 (pc' := 88) (L' := [some (.ref l0), some (.int l1), some (.int l2), some (.int l3), some (.int l4), some (.int l5), some (.int l6), some (.int l7), some (.int s0)]) (st' := [.ref l0]) (M' := M) rfl ?_
      obtain ⟨hc, hp⟩ := hp
      refine wq_getQ (j := 54) rfl hc ?_
      refine wp_go 1 (pc' := 93) (L' := [some (.ref l0), some (.int l1), some (.int l2), some (.int l3), some (.int l4), some (.int l5), some (.int l6), some (.int l7), some (.int s0)]) (st' := [.int s0, .ref (zQ M l0 54)]) (M' := M) rfl ?_
      obtain ⟨hc, hp⟩ := hp
      refine wq_iald rfl hc ?_
      refine wp_go 1 (pc' := 95) (L' := [some (.ref l0), some (.int l1), some (.int l2), some (.int l3), some (.int l4), some (.int l5), some (.int l6), some (.int l7), some (.int s0)]) (st' := [.ref l0, .int (zI M (zQ M l0 54) s0.toNatClampNeg)]) (M' := M) rfl ?_
      obtain ⟨hc, hp⟩ := hp
      refine wq_getI (j := 33) rfl hc ?_
      refine wp_ic_ne (t := 116) rfl rfl (fun hc => ?_) (fun hc => ?_)
      · rw [if_neg hc] at hQ
        replace hp := hp.2 hc
        refine wp_le [some (.ref l0), some (.int l1), some (.int l2), some (.int l3), some (.int l4), some (.int l5), none, some (.int l7), none] (zLe_of (by simp [zLeB])) ?_
        exact s179_116 n k6 q6 h6 l0 l1 l2 l3 l4 l5 l7 M hp hQ
      · rw [if_pos hc] at hQ
        replace hp := hp.1 hc
        refine wp_go 1 (pc' := 102) (L' := [some (.ref l0), some (.int l1), some (.int l2), some (.int l3), some (.int l4), some (.int l5), some (.int l6), some (.int l7), some (.int s0)]) (st' := [.ref l0]) (M' := M) rfl ?_
        obtain ⟨hc, hp⟩ := hp
        refine wq_getQ (j := 55) rfl hc ?_
        refine wp_go 1 (pc' := 107) (L' := [some (.ref l0), some (.int l1), some (.int l2), some (.int l3), some (.int l4), some (.int l5), some (.int l6), some (.int l7), some (.int s0)]) (st' := [.int s0, .ref (zQ M l0 55)]) (M' := M) rfl ?_
        obtain ⟨hc, hp⟩ := hp
        refine wq_iald rfl hc ?_
        refine wp_go 1 (pc' := 109) (L' := [some (.ref l0), some (.int l1), some (.int l2), some (.int l3), some (.int l4), some (.int l5), some (.int l6), some (.int l7), some (.int s0)]) (st' := [.int (1 : Int32), .int (zI M (zQ M l0 55) s0.toNatClampNeg)]) (M' := M) rfl ?_
        refine wp_ic_ne (t := 116) rfl rfl (fun hc => ?_) (fun hc => ?_)
        · rw [if_neg hc] at hQ
          replace hp := hp.2 hc
          refine wp_le [some (.ref l0), some (.int l1), some (.int l2), some (.int l3), some (.int l4), some (.int l5), none, some (.int l7), none] (zLe_of (by simp [zLeB])) ?_
          exact s179_116 n k6 q6 h6 l0 l1 l2 l3 l4 l5 l7 M hp hQ
        · rw [if_pos hc] at hQ
          replace hp := hp.1 hc
          refine wp_go 2 (pc' := 117) (L' := [some (.ref l0), some (.int l1), some (.int l2), some (.int l3), some (.int l4), some (.int l5), some (.int l6), some (.int l7), some (.int s0)]) (st' := [.int (1 : Int32)]) (M' := M) rfl ?_
          refine wp_le [some (.ref l0), some (.int l1), some (.int l2), some (.int l3), some (.int l4), some (.int l5), none, some (.int l7), none] (zLe_of (by simp [zLeB])) ?_
          exact s179_117 n k6 q6 h6 l0 l1 l2 l3 l4 l5 l7 (1 : Int32) M hp hQ
def c179_6 (n : Nat) (k6 : Nat → Int32 → Int32 → Int32 → Int32 → Int32 → Int32 → Int32 → zM → Int32 × zM) (l0 : Nat) (l1 : Int32) (l2 : Int32) (l3 : Int32) (l4 : Int32) (l5 : Int32) (l6 : Int32) (l7 : Int32) (M : zM) : Int32 × zM := (if ((2 : Int32) * (zI M l0 32)) ≤ l7 then (l6, M) else (if (zI M l0 32) ≤ l7 then b179_74 n k6 l0 l1 l2 l3 l4 l5 l6 l7 (((20 : Int32) * l3) + (((l4 - (l7 - (zI M l0 32))) + (zI M (zQ M l0 2) l3.toNatClampNeg)) - ((l4 - (l7 - (zI M l0 32))) + (zI M (zQ M l0 2) l3.toNatClampNeg)) / (zI M (zQ M l0 2) l3.toNatClampNeg) * (zI M (zQ M l0 2) l3.toNatClampNeg))) M else b179_74 n k6 l0 l1 l2 l3 l4 l5 l6 l7 (((20 : Int32) * l1) + ((l2 + l7) - (l2 + l7) / (zI M (zQ M l0 2) l1.toNatClampNeg) * (zI M (zQ M l0 2) l1.toNatClampNeg))) M))
def d179_6 (n : Nat) (q6 : Nat → Int32 → Int32 → Int32 → Int32 → Int32 → Int32 → Int32 → zM → Prop) (l0 : Nat) (l1 : Int32) (l2 : Int32) (l3 : Int32) (l4 : Int32) (l5 : Int32) (l6 : Int32) (l7 : Int32) (M : zM) : Prop := (zHasI 10 228 l0 M 32) ∧ (((((2 : Int32) * (zI M l0 32)) ≤ l7 → zNar .boolean l6 = true) ∧ (¬ ((2 : Int32) * (zI M l0 32)) ≤ l7 → (zHasI 10 228 l0 M 32) ∧ ((((zI M l0 32) ≤ l7 → (zHasI 10 228 l0 M 32) ∧ ((zHasQ 10 13 l0 M 2) ∧ ((zOkI (zQ M l0 2) l3 M) ∧ ((zHasQ 10 13 l0 M 2) ∧ ((zOkI (zQ M l0 2) l3 M) ∧ ((¬ (zI M (zQ M l0 2) l3.toNatClampNeg) = 0) ∧ (p179_74 n q6 l0 l1 l2 l3 l4 l5 l6 l7 (((20 : Int32) * l3) + (((l4 - (l7 - (zI M l0 32))) + (zI M (zQ M l0 2) l3.toNatClampNeg)) - ((l4 - (l7 - (zI M l0 32))) + (zI M (zQ M l0 2) l3.toNatClampNeg)) / (zI M (zQ M l0 2) l3.toNatClampNeg) * (zI M (zQ M l0 2) l3.toNatClampNeg))) M))))))) ∧ (¬ (zI M l0 32) ≤ l7 → (zHasQ 10 13 l0 M 2) ∧ ((zOkI (zQ M l0 2) l1 M) ∧ ((¬ (zI M (zQ M l0 2) l1.toNatClampNeg) = 0) ∧ (p179_74 n q6 l0 l1 l2 l3 l4 l5 l6 l7 (((20 : Int32) * l1) + ((l2 + l7) - (l2 + l7) / (zI M (zQ M l0 2) l1.toNatClampNeg) * (zI M (zQ M l0 2) l1.toNatClampNeg))) M)))))))))
theorem t179_6 (n : Nat) (k6 : Nat → Int32 → Int32 → Int32 → Int32 → Int32 → Int32 → Int32 → zM → Int32 × zM) (q6 : Nat → Int32 → Int32 → Int32 → Int32 → Int32 → Int32 → Int32 → zM → Prop) (h6 : ∀ (l0 : Nat) (l1 : Int32) (l2 : Int32) (l3 : Int32) (l4 : Int32) (l5 : Int32) (l6 : Int32) (l7 : Int32) (M : zM), q6 l0 l1 l2 l3 l4 l5 l6 l7 M → ∀ {Q : Option Value → zM → Prop}, (∀ r M1, zRI (k6 l0 l1 l2 l3 l4 l5 l6 l7 M) r M1 → Q r M1) → zWP 179 6 [some (.ref l0), some (.int l1), some (.int l2), some (.int l3), some (.int l4), some (.int l5), some (.int l6), some (.int l7), none] [] M Q) (l0 : Nat) (l1 : Int32) (l2 : Int32) (l3 : Int32) (l4 : Int32) (l5 : Int32) (l6 : Int32) (l7 : Int32) (M : zM) (hp : d179_6 n q6 l0 l1 l2 l3 l4 l5 l6 l7 M) {Q : Option Value → zM → Prop} (hQ : ∀ r M1, zRI (c179_6 n k6 l0 l1 l2 l3 l4 l5 l6 l7 M) r M1 → Q r M1) : zWP 179 6 [some (.ref l0), some (.int l1), some (.int l2), some (.int l3), some (.int l4), some (.int l5), some (.int l6), some (.int l7), none] [] M Q := by
  unfold c179_6 at hQ
  unfold d179_6 at hp
  refine wp_go 3 (pc' := 10) (L' := [some (.ref l0), some (.int l1), some (.int l2), some (.int l3), some (.int l4), some (.int l5), some (.int l6), some (.int l7), none]) (st' := [.ref l0, .int (2 : Int32), .int l7]) (M' := M) rfl ?_
  obtain ⟨hc, hp⟩ := hp
  refine wq_getI (j := 32) rfl hc ?_
  refine wp_go 1 (pc' := 14) (L' := [some (.ref l0), some (.int l1), some (.int l2), some (.int l3), some (.int l4), some (.int l5), some (.int l6), some (.int l7), none]) (st' := [.int ((2 : Int32) * (zI M l0 32)), .int l7]) (M' := M) rfl ?_
  refine wp_ic_ge (t := 189) rfl rfl (fun hc => ?_) (fun hc => ?_)
  · rw [if_pos hc] at hQ
    replace hp := hp.1 hc
    refine wp_go 1 (pc' := 191) (L' := [some (.ref l0), some (.int l1), some (.int l2), some (.int l3), some (.int l4), some (.int l5), some (.int l6), some (.int l7), none]) (st' := [.int l6]) (M' := M) rfl ?_
    exact wp_retz rfl rfl hp (hQ _ _ ⟨rfl, rfl⟩)
  · rw [if_neg hc] at hQ
    replace hp := hp.2 hc
    refine wp_go 2 (pc' := 20) (L' := [some (.ref l0), some (.int l1), some (.int l2), some (.int l3), some (.int l4), some (.int l5), some (.int l6), some (.int l7), none]) (st' := [.ref l0, .int l7]) (M' := M) rfl ?_
    obtain ⟨hc, hp⟩ := hp
    refine wq_getI (j := 32) rfl hc ?_
    refine wp_ic_ge (t := 45) rfl rfl (fun hc => ?_) (fun hc => ?_)
    · rw [if_pos hc] at hQ
      replace hp := hp.1 hc
      refine wp_go 5 (pc' := 53) (L' := [some (.ref l0), some (.int l1), some (.int l2), some (.int l3), some (.int l4), some (.int l5), some (.int l6), some (.int l7), none]) (st' := [.int l7, .int l4, .int ((20 : Int32) * l3)]) (M' := M) rfl ?_
      refine wp_go 1 (pc' := 54) (L' := [some (.ref l0), some (.int l1), some (.int l2), some (.int l3), some (.int l4), some (.int l5), some (.int l6), some (.int l7), none]) (st' := [.ref l0, .int l7, .int l4, .int ((20 : Int32) * l3)]) (M' := M) rfl ?_
      obtain ⟨hc, hp⟩ := hp
      refine wq_getI (j := 32) rfl hc ?_
      refine wp_go 3 (pc' := 60) (L' := [some (.ref l0), some (.int l1), some (.int l2), some (.int l3), some (.int l4), some (.int l5), some (.int l6), some (.int l7), none]) (st' := [.ref l0, .int (l4 - (l7 - (zI M l0 32))), .int ((20 : Int32) * l3)]) (M' := M) rfl ?_
      obtain ⟨hc, hp⟩ := hp
      refine wq_getQ (j := 2) rfl hc ?_
      refine wp_go 1 (pc' := 64) (L' := [some (.ref l0), some (.int l1), some (.int l2), some (.int l3), some (.int l4), some (.int l5), some (.int l6), some (.int l7), none]) (st' := [.int l3, .ref (zQ M l0 2), .int (l4 - (l7 - (zI M l0 32))), .int ((20 : Int32) * l3)]) (M' := M) rfl ?_
      obtain ⟨hc, hp⟩ := hp
      refine wq_iald rfl hc ?_
      refine wp_go 2 (pc' := 67) (L' := [some (.ref l0), some (.int l1), some (.int l2), some (.int l3), some (.int l4), some (.int l5), some (.int l6), some (.int l7), none]) (st' := [.ref l0, .int ((l4 - (l7 - (zI M l0 32))) + (zI M (zQ M l0 2) l3.toNatClampNeg)), .int ((20 : Int32) * l3)]) (M' := M) rfl ?_
      obtain ⟨hc, hp⟩ := hp
      refine wq_getQ (j := 2) rfl hc ?_
      refine wp_go 1 (pc' := 71) (L' := [some (.ref l0), some (.int l1), some (.int l2), some (.int l3), some (.int l4), some (.int l5), some (.int l6), some (.int l7), none]) (st' := [.int l3, .ref (zQ M l0 2), .int ((l4 - (l7 - (zI M l0 32))) + (zI M (zQ M l0 2) l3.toNatClampNeg)), .int ((20 : Int32) * l3)]) (M' := M) rfl ?_
      obtain ⟨hc, hp⟩ := hp
      refine wq_iald rfl hc ?_
      obtain ⟨hc, hp⟩ := hp
      refine wq_irem rfl hc ?_
      refine wp_go 1 (pc' := 74) (L' := [some (.ref l0), some (.int l1), some (.int l2), some (.int l3), some (.int l4), some (.int l5), some (.int l6), some (.int l7), none]) (st' := [.int (((20 : Int32) * l3) + (((l4 - (l7 - (zI M l0 32))) + (zI M (zQ M l0 2) l3.toNatClampNeg)) - ((l4 - (l7 - (zI M l0 32))) + (zI M (zQ M l0 2) l3.toNatClampNeg)) / (zI M (zQ M l0 2) l3.toNatClampNeg) * (zI M (zQ M l0 2) l3.toNatClampNeg)))]) (M' := M) rfl ?_
      exact s179_74 n k6 q6 h6 l0 l1 l2 l3 l4 l5 l6 l7 (((20 : Int32) * l3) + (((l4 - (l7 - (zI M l0 32))) + (zI M (zQ M l0 2) l3.toNatClampNeg)) - ((l4 - (l7 - (zI M l0 32))) + (zI M (zQ M l0 2) l3.toNatClampNeg)) / (zI M (zQ M l0 2) l3.toNatClampNeg) * (zI M (zQ M l0 2) l3.toNatClampNeg))) M hp hQ
    · rw [if_neg hc] at hQ
      replace hp := hp.2 hc
      refine wp_go 5 (pc' := 33) (L' := [some (.ref l0), some (.int l1), some (.int l2), some (.int l3), some (.int l4), some (.int l5), some (.int l6), some (.int l7), none]) (st' := [.int l7, .int l2, .int ((20 : Int32) * l1)]) (M' := M) rfl ?_
      refine wp_go 2 (pc' := 35) (L' := [some (.ref l0), some (.int l1), some (.int l2), some (.int l3), some (.int l4), some (.int l5), some (.int l6), some (.int l7), none]) (st' := [.ref l0, .int (l2 + l7), .int ((20 : Int32) * l1)]) (M' := M) rfl ?_
      obtain ⟨hc, hp⟩ := hp
      refine wq_getQ (j := 2) rfl hc ?_
      refine wp_go 1 (pc' := 39) (L' := [some (.ref l0), some (.int l1), some (.int l2), some (.int l3), some (.int l4), some (.int l5), some (.int l6), some (.int l7), none]) (st' := [.int l1, .ref (zQ M l0 2), .int (l2 + l7), .int ((20 : Int32) * l1)]) (M' := M) rfl ?_
      obtain ⟨hc, hp⟩ := hp
      refine wq_iald rfl hc ?_
      obtain ⟨hc, hp⟩ := hp
      refine wq_irem rfl hc ?_
      refine wp_go 2 (pc' := 74) (L' := [some (.ref l0), some (.int l1), some (.int l2), some (.int l3), some (.int l4), some (.int l5), some (.int l6), some (.int l7), none]) (st' := [.int (((20 : Int32) * l1) + ((l2 + l7) - (l2 + l7) / (zI M (zQ M l0 2) l1.toNatClampNeg) * (zI M (zQ M l0 2) l1.toNatClampNeg)))]) (M' := M) rfl ?_
      exact s179_74 n k6 q6 h6 l0 l1 l2 l3 l4 l5 l6 l7 (((20 : Int32) * l1) + ((l2 + l7) - (l2 + l7) / (zI M (zQ M l0 2) l1.toNatClampNeg) * (zI M (zQ M l0 2) l1.toNatClampNeg))) M hp hQ
def b179_6 (n : Nat)  : Nat → Nat → Int32 → Int32 → Int32 → Int32 → Int32 → Int32 → Int32 → zM → Int32 × zM
  | 0, _, _, _, _, _, _, _, _, M => (0, M)
  | k + 1, l0, l1, l2, l3, l4, l5, l6, l7, M => c179_6 n  (b179_6 n  k) l0 l1 l2 l3 l4 l5 l6 l7 M
def p179_6 (n : Nat)  : Nat → Nat → Int32 → Int32 → Int32 → Int32 → Int32 → Int32 → Int32 → zM → Prop
  | 0, _, _, _, _, _, _, _, _, _ => False
  | k + 1, l0, l1, l2, l3, l4, l5, l6, l7, M => d179_6 n  (p179_6 n  k) l0 l1 l2 l3 l4 l5 l6 l7 M
theorem s179_6 (n : Nat)    : ∀ (k : Nat) (l0 : Nat) (l1 : Int32) (l2 : Int32) (l3 : Int32) (l4 : Int32) (l5 : Int32) (l6 : Int32) (l7 : Int32) (M : zM), p179_6 n  k l0 l1 l2 l3 l4 l5 l6 l7 M → ∀ {Q : Option Value → zM → Prop}, (∀ r M1, zRI (b179_6 n  k l0 l1 l2 l3 l4 l5 l6 l7 M) r M1 → Q r M1) → zWP 179 6 [some (.ref l0), some (.int l1), some (.int l2), some (.int l3), some (.int l4), some (.int l5), some (.int l6), some (.int l7), none] [] M Q
  | 0, _, _, _, _, _, _, _, _, _, h, _, _ => h.elim
  | k + 1, l0, l1, l2, l3, l4, l5, l6, l7, M, h, _, hQ => t179_6 n  (b179_6 n  k)  (p179_6 n  k)  (s179_6 n    k) l0 l1 l2 l3 l4 l5 l6 l7 M h hQ
def b179_0 (n : Nat)  (l0 : Nat) (l1 : Int32) (l2 : Int32) (l3 : Int32) (l4 : Int32) (l5 : Int32) (M : zM) : Int32 × zM := b179_6 n  n l0 l1 l2 l3 l4 l5 (1 : Int32) (0 : Int32) M
def p179_0 (n : Nat)  (l0 : Nat) (l1 : Int32) (l2 : Int32) (l3 : Int32) (l4 : Int32) (l5 : Int32) (M : zM) : Prop := p179_6 n  n l0 l1 l2 l3 l4 l5 (1 : Int32) (0 : Int32) M
theorem s179_0 (n : Nat)    (l0 : Nat) (l1 : Int32) (l2 : Int32) (l3 : Int32) (l4 : Int32) (l5 : Int32) (M : zM) (hp : p179_0 n  l0 l1 l2 l3 l4 l5 M) {Q : Option Value → zM → Prop} (hQ : ∀ r M1, zRI (b179_0 n  l0 l1 l2 l3 l4 l5 M) r M1 → Q r M1) : zWP 179 0 [some (.ref l0), some (.int l1), some (.int l2), some (.int l3), some (.int l4), some (.int l5), none, none, none] [] M Q := by
  unfold b179_0 at hQ
  unfold p179_0 at hp
  refine wp_go 4 (pc' := 6) (L' := [some (.ref l0), some (.int l1), some (.int l2), some (.int l3), some (.int l4), some (.int l5), some (.int (1 : Int32)), some (.int (0 : Int32)), none]) (st' := []) (M' := M) rfl ?_
  exact s179_6 n    n l0 l1 l2 l3 l4 l5 (1 : Int32) (0 : Int32) M hp hQ
/-! X12_addAlone -/
def b181_244 (n : Nat)   (M : zM) : zM := M
def p181_244 (n : Nat)   (M : zM) : Prop := True
theorem s181_244 (n : Nat)     (M : zM) (hp : p181_244 n   M) {Q : Option Value → zM → Prop} (hQ : ∀ r M1, zRV (b181_244 n   M) r M1 → Q r M1) : zWP 181 244 [none, none, none, none, none, none, none, none] [] M Q := by
  unfold b181_244 at hQ
  unfold p181_244 at hp
  exact wp_ret (r := none) rfl rfl (hQ _ _ ⟨rfl, rfl⟩)
def b181_234 (n : Nat)  (l0 : Nat) (M : zM) : zM := b181_244 n  (zWI M l0 57 ((zI M l0 57) + (1 : Int32)))
def p181_234 (n : Nat)  (l0 : Nat) (M : zM) : Prop := (zHasI 10 326 l0 M 57) ∧ ((zPutI 181 326 l0 M 57 ((zI M l0 57) + (1 : Int32))) ∧ (p181_244 n  (zWI M l0 57 ((zI M l0 57) + (1 : Int32)))))
theorem s181_234 (n : Nat)    (l0 : Nat) (M : zM) (hp : p181_234 n  l0 M) {Q : Option Value → zM → Prop} (hQ : ∀ r M1, zRV (b181_234 n  l0 M) r M1 → Q r M1) : zWP 181 234 [some (.ref l0), none, none, none, none, none, none, none] [] M Q := by
  unfold b181_234 at hQ
  unfold p181_234 at hp
  refine wp_go 2 (pc' := 236) (L' := [some (.ref l0), none, none, none, none, none, none, none]) (st' := [.ref l0, .ref l0]) (M' := M) rfl ?_
  obtain ⟨hc, hp⟩ := hp
  refine wq_getI (j := 57) rfl hc ?_
  refine wp_go 2 (pc' := 241) (L' := [some (.ref l0), none, none, none, none, none, none, none]) (st' := [.int ((zI M l0 57) + (1 : Int32)), .ref l0]) (M' := M) rfl ?_
  obtain ⟨hc, hp⟩ := hp
  refine wq_putI (j := 57) rfl hc ?_
  refine wp_le [none, none, none, none, none, none, none, none] (zLe_of (by simp [zLeB])) ?_
  exact s181_244 n    (zWI M l0 57 ((zI M l0 57) + (1 : Int32))) hp hQ
def b181_217 (n : Nat)  (l0 : Nat) (l6 : Int32) (M : zM) : zM := b181_234 n  l0 (zWI M (zQ M l0 56) (((8 : Int32) * l6) + (7 : Int32)).toNatClampNeg (zI M l0 34))
def p181_217 (n : Nat)  (l0 : Nat) (l6 : Int32) (M : zM) : Prop := (zHasQ 10 135 l0 M 56) ∧ ((zHasI 10 234 l0 M 34) ∧ ((zOkT 1 (zQ M l0 56) (((8 : Int32) * l6) + (7 : Int32)) M) ∧ (p181_234 n  l0 (zWI M (zQ M l0 56) (((8 : Int32) * l6) + (7 : Int32)).toNatClampNeg (zI M l0 34)))))
theorem s181_217 (n : Nat)    (l0 : Nat) (l6 : Int32) (M : zM) (hp : p181_217 n  l0 l6 M) {Q : Option Value → zM → Prop} (hQ : ∀ r M1, zRV (b181_217 n  l0 l6 M) r M1 → Q r M1) : zWP 181 217 [some (.ref l0), none, none, none, none, none, some (.int l6), none] [] M Q := by
  unfold b181_217 at hQ
  unfold p181_217 at hp
  refine wp_go 1 (pc' := 218) (L' := [some (.ref l0), none, none, none, none, none, some (.int l6), none]) (st' := [.ref l0]) (M' := M) rfl ?_
  obtain ⟨hc, hp⟩ := hp
  refine wq_getQ (j := 56) rfl hc ?_
  refine wp_go 5 (pc' := 229) (L' := [some (.ref l0), none, none, none, none, none, some (.int l6), none]) (st' := [.int (((8 : Int32) * l6) + (7 : Int32)), .ref (zQ M l0 56)]) (M' := M) rfl ?_
  refine wp_go 1 (pc' := 230) (L' := [some (.ref l0), none, none, none, none, none, some (.int l6), none]) (st' := [.ref l0, .int (((8 : Int32) * l6) + (7 : Int32)), .ref (zQ M l0 56)]) (M' := M) rfl ?_
  obtain ⟨hc, hp⟩ := hp
  refine wq_getI (j := 34) rfl hc ?_
  obtain ⟨hc, hp⟩ := hp
  refine wq_iast rfl hc ?_
  refine wp_le [some (.ref l0), none, none, none, none, none, none, none] (zLe_of (by simp [zLeB])) ?_
  exact s181_234 n    l0 (zWI M (zQ M l0 56) (((8 : Int32) * l6) + (7 : Int32)).toNatClampNeg (zI M l0 34)) hp hQ
def b181_200 (n : Nat)  (l0 : Nat) (l6 : Int32) (M : zM) : zM := b181_217 n  l0 l6 (zWI M (zQ M l0 56) (((8 : Int32) * l6) + (6 : Int32)).toNatClampNeg (zI M l0 33))
def p181_200 (n : Nat)  (l0 : Nat) (l6 : Int32) (M : zM) : Prop := (zHasQ 10 135 l0 M 56) ∧ ((zHasI 10 231 l0 M 33) ∧ ((zOkT 1 (zQ M l0 56) (((8 : Int32) * l6) + (6 : Int32)) M) ∧ (p181_217 n  l0 l6 (zWI M (zQ M l0 56) (((8 : Int32) * l6) + (6 : Int32)).toNatClampNeg (zI M l0 33)))))
theorem s181_200 (n : Nat)    (l0 : Nat) (l6 : Int32) (M : zM) (hp : p181_200 n  l0 l6 M) {Q : Option Value → zM → Prop} (hQ : ∀ r M1, zRV (b181_200 n  l0 l6 M) r M1 → Q r M1) : zWP 181 200 [some (.ref l0), none, none, none, none, none, some (.int l6), none] [] M Q := by
  unfold b181_200 at hQ
  unfold p181_200 at hp
  refine wp_go 1 (pc' := 201) (L' := [some (.ref l0), none, none, none, none, none, some (.int l6), none]) (st' := [.ref l0]) (M' := M) rfl ?_
  obtain ⟨hc, hp⟩ := hp
  refine wq_getQ (j := 56) rfl hc ?_
  refine wp_go 5 (pc' := 212) (L' := [some (.ref l0), none, none, none, none, none, some (.int l6), none]) (st' := [.int (((8 : Int32) * l6) + (6 : Int32)), .ref (zQ M l0 56)]) (M' := M) rfl ?_
  refine wp_go 1 (pc' := 213) (L' := [some (.ref l0), none, none, none, none, none, some (.int l6), none]) (st' := [.ref l0, .int (((8 : Int32) * l6) + (6 : Int32)), .ref (zQ M l0 56)]) (M' := M) rfl ?_
  obtain ⟨hc, hp⟩ := hp
  refine wq_getI (j := 33) rfl hc ?_
  obtain ⟨hc, hp⟩ := hp
  refine wq_iast rfl hc ?_
  exact s181_217 n    l0 l6 (zWI M (zQ M l0 56) (((8 : Int32) * l6) + (6 : Int32)).toNatClampNeg (zI M l0 33)) hp hQ
def b181_184 (n : Nat)  (l0 : Nat) (l6 : Int32) (M : zM) : zM := b181_200 n  l0 l6 (zWI M (zQ M l0 56) (((8 : Int32) * l6) + (5 : Int32)).toNatClampNeg (zI M l0 32))
def p181_184 (n : Nat)  (l0 : Nat) (l6 : Int32) (M : zM) : Prop := (zHasQ 10 135 l0 M 56) ∧ ((zHasI 10 228 l0 M 32) ∧ ((zOkT 1 (zQ M l0 56) (((8 : Int32) * l6) + (5 : Int32)) M) ∧ (p181_200 n  l0 l6 (zWI M (zQ M l0 56) (((8 : Int32) * l6) + (5 : Int32)).toNatClampNeg (zI M l0 32)))))
theorem s181_184 (n : Nat)    (l0 : Nat) (l6 : Int32) (M : zM) (hp : p181_184 n  l0 l6 M) {Q : Option Value → zM → Prop} (hQ : ∀ r M1, zRV (b181_184 n  l0 l6 M) r M1 → Q r M1) : zWP 181 184 [some (.ref l0), none, none, none, none, none, some (.int l6), none] [] M Q := by
  unfold b181_184 at hQ
  unfold p181_184 at hp
  refine wp_go 1 (pc' := 185) (L' := [some (.ref l0), none, none, none, none, none, some (.int l6), none]) (st' := [.ref l0]) (M' := M) rfl ?_
  obtain ⟨hc, hp⟩ := hp
  refine wq_getQ (j := 56) rfl hc ?_
  refine wp_go 5 (pc' := 195) (L' := [some (.ref l0), none, none, none, none, none, some (.int l6), none]) (st' := [.int (((8 : Int32) * l6) + (5 : Int32)), .ref (zQ M l0 56)]) (M' := M) rfl ?_
  refine wp_go 1 (pc' := 196) (L' := [some (.ref l0), none, none, none, none, none, some (.int l6), none]) (st' := [.ref l0, .int (((8 : Int32) * l6) + (5 : Int32)), .ref (zQ M l0 56)]) (M' := M) rfl ?_
  obtain ⟨hc, hp⟩ := hp
  refine wq_getI (j := 32) rfl hc ?_
  obtain ⟨hc, hp⟩ := hp
  refine wq_iast rfl hc ?_
  exact s181_200 n    l0 l6 (zWI M (zQ M l0 56) (((8 : Int32) * l6) + (5 : Int32)).toNatClampNeg (zI M l0 32)) hp hQ
def b181_170 (n : Nat)  (l0 : Nat) (l5 : Int32) (l6 : Int32) (M : zM) : zM := b181_184 n  l0 l6 (zWI M (zQ M l0 56) (((8 : Int32) * l6) + (4 : Int32)).toNatClampNeg l5)
def p181_170 (n : Nat)  (l0 : Nat) (l5 : Int32) (l6 : Int32) (M : zM) : Prop := (zHasQ 10 135 l0 M 56) ∧ ((zOkT 1 (zQ M l0 56) (((8 : Int32) * l6) + (4 : Int32)) M) ∧ (p181_184 n  l0 l6 (zWI M (zQ M l0 56) (((8 : Int32) * l6) + (4 : Int32)).toNatClampNeg l5)))
theorem s181_170 (n : Nat)    (l0 : Nat) (l5 : Int32) (l6 : Int32) (M : zM) (hp : p181_170 n  l0 l5 l6 M) {Q : Option Value → zM → Prop} (hQ : ∀ r M1, zRV (b181_170 n  l0 l5 l6 M) r M1 → Q r M1) : zWP 181 170 [some (.ref l0), none, none, none, none, some (.int l5), some (.int l6), none] [] M Q := by
  unfold b181_170 at hQ
  unfold p181_170 at hp
  refine wp_go 1 (pc' := 171) (L' := [some (.ref l0), none, none, none, none, some (.int l5), some (.int l6), none]) (st' := [.ref l0]) (M' := M) rfl ?_
  obtain ⟨hc, hp⟩ := hp
  refine wq_getQ (j := 56) rfl hc ?_
  refine wp_go 5 (pc' := 181) (L' := [some (.ref l0), none, none, none, none, some (.int l5), some (.int l6), none]) (st' := [.int (((8 : Int32) * l6) + (4 : Int32)), .ref (zQ M l0 56)]) (M' := M) rfl ?_
  refine wp_go 1 (pc' := 183) (L' := [some (.ref l0), none, none, none, none, some (.int l5), some (.int l6), none]) (st' := [.int l5, .int (((8 : Int32) * l6) + (4 : Int32)), .ref (zQ M l0 56)]) (M' := M) rfl ?_
  obtain ⟨hc, hp⟩ := hp
  refine wq_iast rfl hc ?_
  refine wp_le [some (.ref l0), none, none, none, none, none, some (.int l6), none] (zLe_of (by simp [zLeB])) ?_
  exact s181_184 n    l0 l6 (zWI M (zQ M l0 56) (((8 : Int32) * l6) + (4 : Int32)).toNatClampNeg l5) hp hQ
def b181_156 (n : Nat)  (l0 : Nat) (l4 : Int32) (l5 : Int32) (l6 : Int32) (M : zM) : zM := b181_170 n  l0 l5 l6 (zWI M (zQ M l0 56) (((8 : Int32) * l6) + (3 : Int32)).toNatClampNeg l4)
def p181_156 (n : Nat)  (l0 : Nat) (l4 : Int32) (l5 : Int32) (l6 : Int32) (M : zM) : Prop := (zHasQ 10 135 l0 M 56) ∧ ((zOkT 1 (zQ M l0 56) (((8 : Int32) * l6) + (3 : Int32)) M) ∧ (p181_170 n  l0 l5 l6 (zWI M (zQ M l0 56) (((8 : Int32) * l6) + (3 : Int32)).toNatClampNeg l4)))
theorem s181_156 (n : Nat)    (l0 : Nat) (l4 : Int32) (l5 : Int32) (l6 : Int32) (M : zM) (hp : p181_156 n  l0 l4 l5 l6 M) {Q : Option Value → zM → Prop} (hQ : ∀ r M1, zRV (b181_156 n  l0 l4 l5 l6 M) r M1 → Q r M1) : zWP 181 156 [some (.ref l0), none, none, none, some (.int l4), some (.int l5), some (.int l6), none] [] M Q := by
  unfold b181_156 at hQ
  unfold p181_156 at hp
  refine wp_go 1 (pc' := 157) (L' := [some (.ref l0), none, none, none, some (.int l4), some (.int l5), some (.int l6), none]) (st' := [.ref l0]) (M' := M) rfl ?_
  obtain ⟨hc, hp⟩ := hp
  refine wq_getQ (j := 56) rfl hc ?_
  refine wp_go 5 (pc' := 167) (L' := [some (.ref l0), none, none, none, some (.int l4), some (.int l5), some (.int l6), none]) (st' := [.int (((8 : Int32) * l6) + (3 : Int32)), .ref (zQ M l0 56)]) (M' := M) rfl ?_
  refine wp_go 1 (pc' := 169) (L' := [some (.ref l0), none, none, none, some (.int l4), some (.int l5), some (.int l6), none]) (st' := [.int l4, .int (((8 : Int32) * l6) + (3 : Int32)), .ref (zQ M l0 56)]) (M' := M) rfl ?_
  obtain ⟨hc, hp⟩ := hp
  refine wq_iast rfl hc ?_
  refine wp_le [some (.ref l0), none, none, none, none, some (.int l5), some (.int l6), none] (zLe_of (by simp [zLeB])) ?_
  exact s181_170 n    l0 l5 l6 (zWI M (zQ M l0 56) (((8 : Int32) * l6) + (3 : Int32)).toNatClampNeg l4) hp hQ
def b181_143 (n : Nat)  (l0 : Nat) (l3 : Int32) (l4 : Int32) (l5 : Int32) (l6 : Int32) (M : zM) : zM := b181_156 n  l0 l4 l5 l6 (zWI M (zQ M l0 56) (((8 : Int32) * l6) + (2 : Int32)).toNatClampNeg l3)
def p181_143 (n : Nat)  (l0 : Nat) (l3 : Int32) (l4 : Int32) (l5 : Int32) (l6 : Int32) (M : zM) : Prop := (zHasQ 10 135 l0 M 56) ∧ ((zOkT 1 (zQ M l0 56) (((8 : Int32) * l6) + (2 : Int32)) M) ∧ (p181_156 n  l0 l4 l5 l6 (zWI M (zQ M l0 56) (((8 : Int32) * l6) + (2 : Int32)).toNatClampNeg l3)))
theorem s181_143 (n : Nat)    (l0 : Nat) (l3 : Int32) (l4 : Int32) (l5 : Int32) (l6 : Int32) (M : zM) (hp : p181_143 n  l0 l3 l4 l5 l6 M) {Q : Option Value → zM → Prop} (hQ : ∀ r M1, zRV (b181_143 n  l0 l3 l4 l5 l6 M) r M1 → Q r M1) : zWP 181 143 [some (.ref l0), none, none, some (.int l3), some (.int l4), some (.int l5), some (.int l6), none] [] M Q := by
  unfold b181_143 at hQ
  unfold p181_143 at hp
  refine wp_go 1 (pc' := 144) (L' := [some (.ref l0), none, none, some (.int l3), some (.int l4), some (.int l5), some (.int l6), none]) (st' := [.ref l0]) (M' := M) rfl ?_
  obtain ⟨hc, hp⟩ := hp
  refine wq_getQ (j := 56) rfl hc ?_
  refine wp_go 5 (pc' := 154) (L' := [some (.ref l0), none, none, some (.int l3), some (.int l4), some (.int l5), some (.int l6), none]) (st' := [.int (((8 : Int32) * l6) + (2 : Int32)), .ref (zQ M l0 56)]) (M' := M) rfl ?_
  refine wp_go 1 (pc' := 155) (L' := [some (.ref l0), none, none, some (.int l3), some (.int l4), some (.int l5), some (.int l6), none]) (st' := [.int l3, .int (((8 : Int32) * l6) + (2 : Int32)), .ref (zQ M l0 56)]) (M' := M) rfl ?_
  obtain ⟨hc, hp⟩ := hp
  refine wq_iast rfl hc ?_
  refine wp_le [some (.ref l0), none, none, none, some (.int l4), some (.int l5), some (.int l6), none] (zLe_of (by simp [zLeB])) ?_
  exact s181_156 n    l0 l4 l5 l6 (zWI M (zQ M l0 56) (((8 : Int32) * l6) + (2 : Int32)).toNatClampNeg l3) hp hQ
def b181_130 (n : Nat)  (l0 : Nat) (l2 : Int32) (l3 : Int32) (l4 : Int32) (l5 : Int32) (l6 : Int32) (M : zM) : zM := b181_143 n  l0 l3 l4 l5 l6 (zWI M (zQ M l0 56) (((8 : Int32) * l6) + (1 : Int32)).toNatClampNeg l2)
def p181_130 (n : Nat)  (l0 : Nat) (l2 : Int32) (l3 : Int32) (l4 : Int32) (l5 : Int32) (l6 : Int32) (M : zM) : Prop := (zHasQ 10 135 l0 M 56) ∧ ((zOkT 1 (zQ M l0 56) (((8 : Int32) * l6) + (1 : Int32)) M) ∧ (p181_143 n  l0 l3 l4 l5 l6 (zWI M (zQ M l0 56) (((8 : Int32) * l6) + (1 : Int32)).toNatClampNeg l2)))
theorem s181_130 (n : Nat)    (l0 : Nat) (l2 : Int32) (l3 : Int32) (l4 : Int32) (l5 : Int32) (l6 : Int32) (M : zM) (hp : p181_130 n  l0 l2 l3 l4 l5 l6 M) {Q : Option Value → zM → Prop} (hQ : ∀ r M1, zRV (b181_130 n  l0 l2 l3 l4 l5 l6 M) r M1 → Q r M1) : zWP 181 130 [some (.ref l0), none, some (.int l2), some (.int l3), some (.int l4), some (.int l5), some (.int l6), none] [] M Q := by
  unfold b181_130 at hQ
  unfold p181_130 at hp
  refine wp_go 1 (pc' := 131) (L' := [some (.ref l0), none, some (.int l2), some (.int l3), some (.int l4), some (.int l5), some (.int l6), none]) (st' := [.ref l0]) (M' := M) rfl ?_
  obtain ⟨hc, hp⟩ := hp
  refine wq_getQ (j := 56) rfl hc ?_
  refine wp_go 5 (pc' := 141) (L' := [some (.ref l0), none, some (.int l2), some (.int l3), some (.int l4), some (.int l5), some (.int l6), none]) (st' := [.int (((8 : Int32) * l6) + (1 : Int32)), .ref (zQ M l0 56)]) (M' := M) rfl ?_
  refine wp_go 1 (pc' := 142) (L' := [some (.ref l0), none, some (.int l2), some (.int l3), some (.int l4), some (.int l5), some (.int l6), none]) (st' := [.int l2, .int (((8 : Int32) * l6) + (1 : Int32)), .ref (zQ M l0 56)]) (M' := M) rfl ?_
  obtain ⟨hc, hp⟩ := hp
  refine wq_iast rfl hc ?_
  refine wp_le [some (.ref l0), none, none, some (.int l3), some (.int l4), some (.int l5), some (.int l6), none] (zLe_of (by simp [zLeB])) ?_
  exact s181_143 n    l0 l3 l4 l5 l6 (zWI M (zQ M l0 56) (((8 : Int32) * l6) + (1 : Int32)).toNatClampNeg l2) hp hQ
def b181_119 (n : Nat)  (l0 : Nat) (l1 : Int32) (l2 : Int32) (l3 : Int32) (l4 : Int32) (l5 : Int32) (l6 : Int32) (M : zM) : zM := b181_130 n  l0 l2 l3 l4 l5 l6 (zWI M (zQ M l0 56) ((8 : Int32) * l6).toNatClampNeg l1)
def p181_119 (n : Nat)  (l0 : Nat) (l1 : Int32) (l2 : Int32) (l3 : Int32) (l4 : Int32) (l5 : Int32) (l6 : Int32) (M : zM) : Prop := (zHasQ 10 135 l0 M 56) ∧ ((zOkT 1 (zQ M l0 56) ((8 : Int32) * l6) M) ∧ (p181_130 n  l0 l2 l3 l4 l5 l6 (zWI M (zQ M l0 56) ((8 : Int32) * l6).toNatClampNeg l1)))
theorem s181_119 (n : Nat)    (l0 : Nat) (l1 : Int32) (l2 : Int32) (l3 : Int32) (l4 : Int32) (l5 : Int32) (l6 : Int32) (M : zM) (hp : p181_119 n  l0 l1 l2 l3 l4 l5 l6 M) {Q : Option Value → zM → Prop} (hQ : ∀ r M1, zRV (b181_119 n  l0 l1 l2 l3 l4 l5 l6 M) r M1 → Q r M1) : zWP 181 119 [some (.ref l0), some (.int l1), some (.int l2), some (.int l3), some (.int l4), some (.int l5), some (.int l6), none] [] M Q := by
  unfold b181_119 at hQ
  unfold p181_119 at hp
  refine wp_go 1 (pc' := 120) (L' := [some (.ref l0), some (.int l1), some (.int l2), some (.int l3), some (.int l4), some (.int l5), some (.int l6), none]) (st' := [.ref l0]) (M' := M) rfl ?_
  obtain ⟨hc, hp⟩ := hp
  refine wq_getQ (j := 56) rfl hc ?_
  refine wp_go 4 (pc' := 129) (L' := [some (.ref l0), some (.int l1), some (.int l2), some (.int l3), some (.int l4), some (.int l5), some (.int l6), none]) (st' := [.int l1, .int ((8 : Int32) * l6), .ref (zQ M l0 56)]) (M' := M) rfl ?_
  obtain ⟨hc, hp⟩ := hp
  refine wq_iast rfl hc ?_
  refine wp_le [some (.ref l0), none, some (.int l2), some (.int l3), some (.int l4), some (.int l5), some (.int l6), none] (zLe_of (by simp [zLeB])) ?_
  exact s181_130 n    l0 l2 l3 l4 l5 l6 (zWI M (zQ M l0 56) ((8 : Int32) * l6).toNatClampNeg l1) hp hQ
def b181_107 (n : Nat) (k6 : Nat → Int32 → Int32 → Int32 → Int32 → Int32 → Int32 → zM → zM) (k71 : Nat → Int32 → Int32 → Int32 → Int32 → Int32 → Int32 → Int32 → zM → zM) (l0 : Nat) (l1 : Int32) (l2 : Int32) (l3 : Int32) (l4 : Int32) (l5 : Int32) (l6 : Int32) (l7 : Int32) (M : zM) : zM := k71 l0 l1 l2 l3 l4 l5 l6 (l7 + Int32.ofInt 1) M
def p181_107 (n : Nat) (q6 : Nat → Int32 → Int32 → Int32 → Int32 → Int32 → Int32 → zM → Prop) (q71 : Nat → Int32 → Int32 → Int32 → Int32 → Int32 → Int32 → Int32 → zM → Prop) (l0 : Nat) (l1 : Int32) (l2 : Int32) (l3 : Int32) (l4 : Int32) (l5 : Int32) (l6 : Int32) (l7 : Int32) (M : zM) : Prop := q71 l0 l1 l2 l3 l4 l5 l6 (l7 + Int32.ofInt 1) M
theorem s181_107 (n : Nat) (k6 : Nat → Int32 → Int32 → Int32 → Int32 → Int32 → Int32 → zM → zM) (k71 : Nat → Int32 → Int32 → Int32 → Int32 → Int32 → Int32 → Int32 → zM → zM) (q6 : Nat → Int32 → Int32 → Int32 → Int32 → Int32 → Int32 → zM → Prop) (q71 : Nat → Int32 → Int32 → Int32 → Int32 → Int32 → Int32 → Int32 → zM → Prop) (h6 : ∀ (l0 : Nat) (l1 : Int32) (l2 : Int32) (l3 : Int32) (l4 : Int32) (l5 : Int32) (l6 : Int32) (M : zM), q6 l0 l1 l2 l3 l4 l5 l6 M → ∀ {Q : Option Value → zM → Prop}, (∀ r M1, zRV (k6 l0 l1 l2 l3 l4 l5 l6 M) r M1 → Q r M1) → zWP 181 6 [some (.ref l0), some (.int l1), some (.int l2), some (.int l3), some (.int l4), some (.int l5), some (.int l6), none] [] M Q) (h71 : ∀ (l0 : Nat) (l1 : Int32) (l2 : Int32) (l3 : Int32) (l4 : Int32) (l5 : Int32) (l6 : Int32) (l7 : Int32) (M : zM), q71 l0 l1 l2 l3 l4 l5 l6 l7 M → ∀ {Q : Option Value → zM → Prop}, (∀ r M1, zRV (k71 l0 l1 l2 l3 l4 l5 l6 l7 M) r M1 → Q r M1) → zWP 181 71 [some (.ref l0), some (.int l1), some (.int l2), some (.int l3), some (.int l4), some (.int l5), some (.int l6), some (.int l7)] [] M Q) (l0 : Nat) (l1 : Int32) (l2 : Int32) (l3 : Int32) (l4 : Int32) (l5 : Int32) (l6 : Int32) (l7 : Int32) (M : zM) (hp : p181_107 n q6 q71 l0 l1 l2 l3 l4 l5 l6 l7 M) {Q : Option Value → zM → Prop} (hQ : ∀ r M1, zRV (b181_107 n k6 k71 l0 l1 l2 l3 l4 l5 l6 l7 M) r M1 → Q r M1) : zWP 181 107 [some (.ref l0), some (.int l1), some (.int l2), some (.int l3), some (.int l4), some (.int l5), some (.int l6), some (.int l7)] [] M Q := by
  unfold b181_107 at hQ
  unfold p181_107 at hp
  refine wp_go 2 (pc' := 71) (L' := [some (.ref l0), some (.int l1), some (.int l2), some (.int l3), some (.int l4), some (.int l5), some (.int l6), some (.int (l7 + Int32.ofInt 1))]) (st' := []) (M' := M) rfl ?_
  exact h71 l0 l1 l2 l3 l4 l5 l6 (l7 + Int32.ofInt 1) M hp hQ
def c181_71 (n : Nat) (k6 : Nat → Int32 → Int32 → Int32 → Int32 → Int32 → Int32 → zM → zM) (k71 : Nat → Int32 → Int32 → Int32 → Int32 → Int32 → Int32 → Int32 → zM → zM) (l0 : Nat) (l1 : Int32) (l2 : Int32) (l3 : Int32) (l4 : Int32) (l5 : Int32) (l6 : Int32) (l7 : Int32) (M : zM) : zM := (if (8 : Int32) ≤ l7 then k6 l0 l1 l2 l3 l4 l5 (l6 + Int32.ofInt (-1)) M else b181_107 n k6 k71 l0 l1 l2 l3 l4 l5 l6 l7 (zWI M (zQ M l0 56) (((8 : Int32) * l6) + l7).toNatClampNeg (zI M (zQ M l0 56) ((((8 : Int32) * l6) - (8 : Int32)) + l7).toNatClampNeg)))
def d181_71 (n : Nat) (q6 : Nat → Int32 → Int32 → Int32 → Int32 → Int32 → Int32 → zM → Prop) (q71 : Nat → Int32 → Int32 → Int32 → Int32 → Int32 → Int32 → Int32 → zM → Prop) (l0 : Nat) (l1 : Int32) (l2 : Int32) (l3 : Int32) (l4 : Int32) (l5 : Int32) (l6 : Int32) (l7 : Int32) (M : zM) : Prop := (((8 : Int32) ≤ l7 → q6 l0 l1 l2 l3 l4 l5 (l6 + Int32.ofInt (-1)) M) ∧ (¬ (8 : Int32) ≤ l7 → (zHasQ 10 135 l0 M 56) ∧ ((zHasQ 10 135 l0 M 56) ∧ ((zOkI (zQ M l0 56) ((((8 : Int32) * l6) - (8 : Int32)) + l7) M) ∧ ((zOkT 1 (zQ M l0 56) (((8 : Int32) * l6) + l7) M) ∧ (p181_107 n q6 q71 l0 l1 l2 l3 l4 l5 l6 l7 (zWI M (zQ M l0 56) (((8 : Int32) * l6) + l7).toNatClampNeg (zI M (zQ M l0 56) ((((8 : Int32) * l6) - (8 : Int32)) + l7).toNatClampNeg))))))))
theorem t181_71 (n : Nat) (k6 : Nat → Int32 → Int32 → Int32 → Int32 → Int32 → Int32 → zM → zM) (k71 : Nat → Int32 → Int32 → Int32 → Int32 → Int32 → Int32 → Int32 → zM → zM) (q6 : Nat → Int32 → Int32 → Int32 → Int32 → Int32 → Int32 → zM → Prop) (q71 : Nat → Int32 → Int32 → Int32 → Int32 → Int32 → Int32 → Int32 → zM → Prop) (h6 : ∀ (l0 : Nat) (l1 : Int32) (l2 : Int32) (l3 : Int32) (l4 : Int32) (l5 : Int32) (l6 : Int32) (M : zM), q6 l0 l1 l2 l3 l4 l5 l6 M → ∀ {Q : Option Value → zM → Prop}, (∀ r M1, zRV (k6 l0 l1 l2 l3 l4 l5 l6 M) r M1 → Q r M1) → zWP 181 6 [some (.ref l0), some (.int l1), some (.int l2), some (.int l3), some (.int l4), some (.int l5), some (.int l6), none] [] M Q) (h71 : ∀ (l0 : Nat) (l1 : Int32) (l2 : Int32) (l3 : Int32) (l4 : Int32) (l5 : Int32) (l6 : Int32) (l7 : Int32) (M : zM), q71 l0 l1 l2 l3 l4 l5 l6 l7 M → ∀ {Q : Option Value → zM → Prop}, (∀ r M1, zRV (k71 l0 l1 l2 l3 l4 l5 l6 l7 M) r M1 → Q r M1) → zWP 181 71 [some (.ref l0), some (.int l1), some (.int l2), some (.int l3), some (.int l4), some (.int l5), some (.int l6), some (.int l7)] [] M Q) (l0 : Nat) (l1 : Int32) (l2 : Int32) (l3 : Int32) (l4 : Int32) (l5 : Int32) (l6 : Int32) (l7 : Int32) (M : zM) (hp : d181_71 n q6 q71 l0 l1 l2 l3 l4 l5 l6 l7 M) {Q : Option Value → zM → Prop} (hQ : ∀ r M1, zRV (c181_71 n k6 k71 l0 l1 l2 l3 l4 l5 l6 l7 M) r M1 → Q r M1) : zWP 181 71 [some (.ref l0), some (.int l1), some (.int l2), some (.int l3), some (.int l4), some (.int l5), some (.int l6), some (.int l7)] [] M Q := by
  unfold c181_71 at hQ
  unfold d181_71 at hp
  refine wp_go 2 (pc' := 75) (L' := [some (.ref l0), some (.int l1), some (.int l2), some (.int l3), some (.int l4), some (.int l5), some (.int l6), some (.int l7)]) (st' := [.int (8 : Int32), .int l7]) (M' := M) rfl ?_
  refine wp_ic_ge (t := 113) rfl rfl (fun hc => ?_) (fun hc => ?_)
  · rw [if_pos hc] at hQ
    replace hp := hp.1 hc
    refine wp_go 2 (pc' := 6) (L' := [some (.ref l0), some (.int l1), some (.int l2), some (.int l3), some (.int l4), some (.int l5), some (.int (l6 + Int32.ofInt (-1))), some (.int l7)]) (st' := []) (M' := M) rfl ?_
    refine wp_le [some (.ref l0), some (.int l1), some (.int l2), some (.int l3), some (.int l4), some (.int l5), some (.int (l6 + Int32.ofInt (-1))), none] (zLe_of (by simp [zLeB])) ?_
    exact h6 l0 l1 l2 l3 l4 l5 (l6 + Int32.ofInt (-1)) M hp hQ
  · rw [if_neg hc] at hQ
    replace hp := hp.2 hc
    refine wp_go 1 (pc' := 79) (L' := [some (.ref l0), some (.int l1), some (.int l2), some (.int l3), some (.int l4), some (.int l5), some (.int l6), some (.int l7)]) (st' := [.ref l0]) (M' := M) rfl ?_
    obtain ⟨hc, hp⟩ := hp
    refine wq_getQ (j := 56) rfl hc ?_
    refine wp_go 5 (pc' := 90) (L' := [some (.ref l0), some (.int l1), some (.int l2), some (.int l3), some (.int l4), some (.int l5), some (.int l6), some (.int l7)]) (st' := [.int (((8 : Int32) * l6) + l7), .ref (zQ M l0 56)]) (M' := M) rfl ?_
    refine wp_go 1 (pc' := 91) (L' := [some (.ref l0), some (.int l1), some (.int l2), some (.int l3), some (.int l4), some (.int l5), some (.int l6), some (.int l7)]) (st' := [.ref l0, .int (((8 : Int32) * l6) + l7), .ref (zQ M l0 56)]) (M' := M) rfl ?_
    obtain ⟨hc, hp⟩ := hp
    refine wq_getQ (j := 56) rfl hc ?_
    refine wp_go 5 (pc' := 102) (L' := [some (.ref l0), some (.int l1), some (.int l2), some (.int l3), some (.int l4), some (.int l5), some (.int l6), some (.int l7)]) (st' := [.int (((8 : Int32) * l6) - (8 : Int32)), .ref (zQ M l0 56), .int (((8 : Int32) * l6) + l7), .ref (zQ M l0 56)]) (M' := M) rfl ?_
    refine wp_go 2 (pc' := 105) (L' := [some (.ref l0), some (.int l1), some (.int l2), some (.int l3), some (.int l4), some (.int l5), some (.int l6), some (.int l7)]) (st' := [.int ((((8 : Int32) * l6) - (8 : Int32)) + l7), .ref (zQ M l0 56), .int (((8 : Int32) * l6) + l7), .ref (zQ M l0 56)]) (M' := M) rfl ?_
    obtain ⟨hc, hp⟩ := hp
    refine wq_iald rfl hc ?_
    obtain ⟨hc, hp⟩ := hp
    refine wq_iast rfl hc ?_
    exact s181_107 n k6 k71 q6 q71 h6 h71 l0 l1 l2 l3 l4 l5 l6 l7 (zWI M (zQ M l0 56) (((8 : Int32) * l6) + l7).toNatClampNeg (zI M (zQ M l0 56) ((((8 : Int32) * l6) - (8 : Int32)) + l7).toNatClampNeg)) hp hQ
def b181_71 (n : Nat) (k6 : Nat → Int32 → Int32 → Int32 → Int32 → Int32 → Int32 → zM → zM) : Nat → Nat → Int32 → Int32 → Int32 → Int32 → Int32 → Int32 → Int32 → zM → zM
  | 0, _, _, _, _, _, _, _, _, M => M
  | k + 1, l0, l1, l2, l3, l4, l5, l6, l7, M => c181_71 n k6 (b181_71 n k6 k) l0 l1 l2 l3 l4 l5 l6 l7 M
def p181_71 (n : Nat) (q6 : Nat → Int32 → Int32 → Int32 → Int32 → Int32 → Int32 → zM → Prop) : Nat → Nat → Int32 → Int32 → Int32 → Int32 → Int32 → Int32 → Int32 → zM → Prop
  | 0, _, _, _, _, _, _, _, _, _ => False
  | k + 1, l0, l1, l2, l3, l4, l5, l6, l7, M => d181_71 n q6 (p181_71 n q6 k) l0 l1 l2 l3 l4 l5 l6 l7 M
theorem s181_71 (n : Nat) (k6 : Nat → Int32 → Int32 → Int32 → Int32 → Int32 → Int32 → zM → zM) (q6 : Nat → Int32 → Int32 → Int32 → Int32 → Int32 → Int32 → zM → Prop) (h6 : ∀ (l0 : Nat) (l1 : Int32) (l2 : Int32) (l3 : Int32) (l4 : Int32) (l5 : Int32) (l6 : Int32) (M : zM), q6 l0 l1 l2 l3 l4 l5 l6 M → ∀ {Q : Option Value → zM → Prop}, (∀ r M1, zRV (k6 l0 l1 l2 l3 l4 l5 l6 M) r M1 → Q r M1) → zWP 181 6 [some (.ref l0), some (.int l1), some (.int l2), some (.int l3), some (.int l4), some (.int l5), some (.int l6), none] [] M Q) : ∀ (k : Nat) (l0 : Nat) (l1 : Int32) (l2 : Int32) (l3 : Int32) (l4 : Int32) (l5 : Int32) (l6 : Int32) (l7 : Int32) (M : zM), p181_71 n q6 k l0 l1 l2 l3 l4 l5 l6 l7 M → ∀ {Q : Option Value → zM → Prop}, (∀ r M1, zRV (b181_71 n k6 k l0 l1 l2 l3 l4 l5 l6 l7 M) r M1 → Q r M1) → zWP 181 71 [some (.ref l0), some (.int l1), some (.int l2), some (.int l3), some (.int l4), some (.int l5), some (.int l6), some (.int l7)] [] M Q
  | 0, _, _, _, _, _, _, _, _, _, h, _, _ => h.elim
  | k + 1, l0, l1, l2, l3, l4, l5, l6, l7, M, h, _, hQ => t181_71 n k6 (b181_71 n k6 k) q6 (p181_71 n q6 k) h6 (s181_71 n k6 q6 h6 k) l0 l1 l2 l3 l4 l5 l6 l7 M h hQ
def b181_68 (n : Nat) (k6 : Nat → Int32 → Int32 → Int32 → Int32 → Int32 → Int32 → zM → zM) (l0 : Nat) (l1 : Int32) (l2 : Int32) (l3 : Int32) (l4 : Int32) (l5 : Int32) (l6 : Int32) (M : zM) : zM := b181_71 n k6 n l0 l1 l2 l3 l4 l5 l6 (0 : Int32) M
def p181_68 (n : Nat) (q6 : Nat → Int32 → Int32 → Int32 → Int32 → Int32 → Int32 → zM → Prop) (l0 : Nat) (l1 : Int32) (l2 : Int32) (l3 : Int32) (l4 : Int32) (l5 : Int32) (l6 : Int32) (M : zM) : Prop := p181_71 n q6 n l0 l1 l2 l3 l4 l5 l6 (0 : Int32) M
theorem s181_68 (n : Nat) (k6 : Nat → Int32 → Int32 → Int32 → Int32 → Int32 → Int32 → zM → zM) (q6 : Nat → Int32 → Int32 → Int32 → Int32 → Int32 → Int32 → zM → Prop) (h6 : ∀ (l0 : Nat) (l1 : Int32) (l2 : Int32) (l3 : Int32) (l4 : Int32) (l5 : Int32) (l6 : Int32) (M : zM), q6 l0 l1 l2 l3 l4 l5 l6 M → ∀ {Q : Option Value → zM → Prop}, (∀ r M1, zRV (k6 l0 l1 l2 l3 l4 l5 l6 M) r M1 → Q r M1) → zWP 181 6 [some (.ref l0), some (.int l1), some (.int l2), some (.int l3), some (.int l4), some (.int l5), some (.int l6), none] [] M Q) (l0 : Nat) (l1 : Int32) (l2 : Int32) (l3 : Int32) (l4 : Int32) (l5 : Int32) (l6 : Int32) (M : zM) (hp : p181_68 n q6 l0 l1 l2 l3 l4 l5 l6 M) {Q : Option Value → zM → Prop} (hQ : ∀ r M1, zRV (b181_68 n k6 l0 l1 l2 l3 l4 l5 l6 M) r M1 → Q r M1) : zWP 181 68 [some (.ref l0), some (.int l1), some (.int l2), some (.int l3), some (.int l4), some (.int l5), some (.int l6), none] [] M Q := by
  unfold b181_68 at hQ
  unfold p181_68 at hp
  refine wp_go 2 (pc' := 71) (L' := [some (.ref l0), some (.int l1), some (.int l2), some (.int l3), some (.int l4), some (.int l5), some (.int l6), some (.int (0 : Int32))]) (st' := []) (M' := M) rfl ?_
  exact s181_71 n k6 q6 h6 n l0 l1 l2 l3 l4 l5 l6 (0 : Int32) M hp hQ
def c181_6 (n : Nat) (k6 : Nat → Int32 → Int32 → Int32 → Int32 → Int32 → Int32 → zM → zM) (l0 : Nat) (l1 : Int32) (l2 : Int32) (l3 : Int32) (l4 : Int32) (l5 : Int32) (l6 : Int32) (M : zM) : zM := (if l6 ≤ 0 then b181_119 n  l0 l1 l2 l3 l4 l5 l6 M else (if (zI M (zQ M l0 56) (((8 : Int32) * l6) - (2 : Int32)).toNatClampNeg) < (zI M l0 33) then b181_68 n k6 l0 l1 l2 l3 l4 l5 l6 M else (if (zI M l0 33) = (zI M (zQ M l0 56) (((8 : Int32) * l6) - (2 : Int32)).toNatClampNeg) then (if (zI M (zQ M l0 56) (((8 : Int32) * l6) - (1 : Int32)).toNatClampNeg) ≤ (zI M l0 34) then b181_119 n  l0 l1 l2 l3 l4 l5 l6 M else b181_68 n k6 l0 l1 l2 l3 l4 l5 l6 M) else b181_119 n  l0 l1 l2 l3 l4 l5 l6 M)))
def d181_6 (n : Nat) (q6 : Nat → Int32 → Int32 → Int32 → Int32 → Int32 → Int32 → zM → Prop) (l0 : Nat) (l1 : Int32) (l2 : Int32) (l3 : Int32) (l4 : Int32) (l5 : Int32) (l6 : Int32) (M : zM) : Prop := ((l6 ≤ 0 → p181_119 n  l0 l1 l2 l3 l4 l5 l6 M) ∧ (¬ l6 ≤ 0 → (zHasI 10 231 l0 M 33) ∧ ((zHasQ 10 135 l0 M 56) ∧ ((zOkI (zQ M l0 56) (((8 : Int32) * l6) - (2 : Int32)) M) ∧ ((((zI M (zQ M l0 56) (((8 : Int32) * l6) - (2 : Int32)).toNatClampNeg) < (zI M l0 33) → p181_68 n q6 l0 l1 l2 l3 l4 l5 l6 M) ∧ (¬ (zI M (zQ M l0 56) (((8 : Int32) * l6) - (2 : Int32)).toNatClampNeg) < (zI M l0 33) → (zHasI 10 231 l0 M 33) ∧ ((zHasQ 10 135 l0 M 56) ∧ ((zOkI (zQ M l0 56) (((8 : Int32) * l6) - (2 : Int32)) M) ∧ ((((zI M l0 33) = (zI M (zQ M l0 56) (((8 : Int32) * l6) - (2 : Int32)).toNatClampNeg) → (zHasI 10 234 l0 M 34) ∧ ((zHasQ 10 135 l0 M 56) ∧ ((zOkI (zQ M l0 56) (((8 : Int32) * l6) - (1 : Int32)) M) ∧ ((((zI M (zQ M l0 56) (((8 : Int32) * l6) - (1 : Int32)).toNatClampNeg) ≤ (zI M l0 34) → p181_119 n  l0 l1 l2 l3 l4 l5 l6 M) ∧ (¬ (zI M (zQ M l0 56) (((8 : Int32) * l6) - (1 : Int32)).toNatClampNeg) ≤ (zI M l0 34) → p181_68 n q6 l0 l1 l2 l3 l4 l5 l6 M)))))) ∧ (¬ (zI M l0 33) = (zI M (zQ M l0 56) (((8 : Int32) * l6) - (2 : Int32)).toNatClampNeg) → p181_119 n  l0 l1 l2 l3 l4 l5 l6 M))))))))))))
theorem t181_6 (n : Nat) (k6 : Nat → Int32 → Int32 → Int32 → Int32 → Int32 → Int32 → zM → zM) (q6 : Nat → Int32 → Int32 → Int32 → Int32 → Int32 → Int32 → zM → Prop) (h6 : ∀ (l0 : Nat) (l1 : Int32) (l2 : Int32) (l3 : Int32) (l4 : Int32) (l5 : Int32) (l6 : Int32) (M : zM), q6 l0 l1 l2 l3 l4 l5 l6 M → ∀ {Q : Option Value → zM → Prop}, (∀ r M1, zRV (k6 l0 l1 l2 l3 l4 l5 l6 M) r M1 → Q r M1) → zWP 181 6 [some (.ref l0), some (.int l1), some (.int l2), some (.int l3), some (.int l4), some (.int l5), some (.int l6), none] [] M Q) (l0 : Nat) (l1 : Int32) (l2 : Int32) (l3 : Int32) (l4 : Int32) (l5 : Int32) (l6 : Int32) (M : zM) (hp : d181_6 n q6 l0 l1 l2 l3 l4 l5 l6 M) {Q : Option Value → zM → Prop} (hQ : ∀ r M1, zRV (c181_6 n k6 l0 l1 l2 l3 l4 l5 l6 M) r M1 → Q r M1) : zWP 181 6 [some (.ref l0), some (.int l1), some (.int l2), some (.int l3), some (.int l4), some (.int l5), some (.int l6), none] [] M Q := by
  unfold c181_6 at hQ
  unfold d181_6 at hp
  refine wp_go 1 (pc' := 8) (L' := [some (.ref l0), some (.int l1), some (.int l2), some (.int l3), some (.int l4), some (.int l5), some (.int l6), none]) (st' := [.int l6]) (M' := M) rfl ?_
  refine wp_if_le (t := 119) rfl rfl (fun hc => ?_) (fun hc => ?_)
  · rw [if_pos hc] at hQ
    replace hp := hp.1 hc
    exact s181_119 n    l0 l1 l2 l3 l4 l5 l6 M hp hQ
  · rw [if_neg hc] at hQ
    replace hp := hp.2 hc
    refine wp_go 1 (pc' := 12) (L' := [some (.ref l0), some (.int l1), some (.int l2), some (.int l3), some (.int l4), some (.int l5), some (.int l6), none]) (st' := [.ref l0]) (M' := M) rfl ?_
    obtain ⟨hc, hp⟩ := hp
    refine wq_getI (j := 33) rfl hc ?_
    refine wp_go 1 (pc' := 16) (L' := [some (.ref l0), some (.int l1), some (.int l2), some (.int l3), some (.int l4), some (.int l5), some (.int l6), none]) (st' := [.ref l0, .int (zI M l0 33)]) (M' := M) rfl ?_
    obtain ⟨hc, hp⟩ := hp
    refine wq_getQ (j := 56) rfl hc ?_
    refine wp_go 5 (pc' := 26) (L' := [some (.ref l0), some (.int l1), some (.int l2), some (.int l3), some (.int l4), some (.int l5), some (.int l6), none]) (st' := [.int (((8 : Int32) * l6) - (2 : Int32)), .ref (zQ M l0 56), .int (zI M l0 33)]) (M' := M) rfl ?_
    obtain ⟨hc, hp⟩ := hp
    refine wq_iald rfl hc ?_
    refine wp_ic_gt (t := 68) rfl rfl (fun hc => ?_) (fun hc => ?_)
    · rw [if_pos hc] at hQ
      replace hp := hp.1 hc
      exact s181_68 n k6 q6 h6 l0 l1 l2 l3 l4 l5 l6 M hp hQ
    · rw [if_neg hc] at hQ
      replace hp := hp.2 hc
      refine wp_go 1 (pc' := 31) (L' := [some (.ref l0), some (.int l1), some (.int l2), some (.int l3), some (.int l4), some (.int l5), some (.int l6), none]) (st' := [.ref l0]) (M' := M) rfl ?_
      obtain ⟨hc, hp⟩ := hp
      refine wq_getI (j := 33) rfl hc ?_
      refine wp_go 1 (pc' := 35) (L' := [some (.ref l0), some (.int l1), some (.int l2), some (.int l3), some (.int l4), some (.int l5), some (.int l6), none]) (st' := [.ref l0, .int (zI M l0 33)]) (M' := M) rfl ?_
      obtain ⟨hc, hp⟩ := hp
      refine wq_getQ (j := 56) rfl hc ?_
      refine wp_go 5 (pc' := 45) (L' := [some (.ref l0), some (.int l1), some (.int l2), some (.int l3), some (.int l4), some (.int l5), some (.int l6), none]) (st' := [.int (((8 : Int32) * l6) - (2 : Int32)), .ref (zQ M l0 56), .int (zI M l0 33)]) (M' := M) rfl ?_
      obtain ⟨hc, hp⟩ := hp
      refine wq_iald rfl hc ?_
      refine wp_ic_ne (t := 119) rfl rfl (fun hc => ?_) (fun hc => ?_)
      · rw [if_neg hc] at hQ
        replace hp := hp.2 hc
        exact s181_119 n    l0 l1 l2 l3 l4 l5 l6 M hp hQ
      · rw [if_pos hc] at hQ
        replace hp := hp.1 hc
        refine wp_go 1 (pc' := 50) (L' := [some (.ref l0), some (.int l1), some (.int l2), some (.int l3), some (.int l4), some (.int l5), some (.int l6), none]) (st' := [.ref l0]) (M' := M) rfl ?_
        obtain ⟨hc, hp⟩ := hp
        refine wq_getI (j := 34) rfl hc ?_
        refine wp_go 1 (pc' := 54) (L' := [some (.ref l0), some (.int l1), some (.int l2), some (.int l3), some (.int l4), some (.int l5), some (.int l6), none]) (st' := [.ref l0, .int (zI M l0 34)]) (M' := M) rfl ?_
        obtain ⟨hc, hp⟩ := hp
        refine wq_getQ (j := 56) rfl hc ?_
        refine wp_go 5 (pc' := 64) (L' := [some (.ref l0), some (.int l1), some (.int l2), some (.int l3), some (.int l4), some (.int l5), some (.int l6), none]) (st' := [.int (((8 : Int32) * l6) - (1 : Int32)), .ref (zQ M l0 56), .int (zI M l0 34)]) (M' := M) rfl ?_
        obtain ⟨hc, hp⟩ := hp
        refine wq_iald rfl hc ?_
        refine wp_ic_ge (t := 119) rfl rfl (fun hc => ?_) (fun hc => ?_)
        · rw [if_pos hc] at hQ
          replace hp := hp.1 hc
          exact s181_119 n    l0 l1 l2 l3 l4 l5 l6 M hp hQ
        · rw [if_neg hc] at hQ
          replace hp := hp.2 hc
          exact s181_68 n k6 q6 h6 l0 l1 l2 l3 l4 l5 l6 M hp hQ
def b181_6 (n : Nat)  : Nat → Nat → Int32 → Int32 → Int32 → Int32 → Int32 → Int32 → zM → zM
  | 0, _, _, _, _, _, _, _, M => M
  | k + 1, l0, l1, l2, l3, l4, l5, l6, M => c181_6 n  (b181_6 n  k) l0 l1 l2 l3 l4 l5 l6 M
def p181_6 (n : Nat)  : Nat → Nat → Int32 → Int32 → Int32 → Int32 → Int32 → Int32 → zM → Prop
  | 0, _, _, _, _, _, _, _, _ => False
  | k + 1, l0, l1, l2, l3, l4, l5, l6, M => d181_6 n  (p181_6 n  k) l0 l1 l2 l3 l4 l5 l6 M
theorem s181_6 (n : Nat)    : ∀ (k : Nat) (l0 : Nat) (l1 : Int32) (l2 : Int32) (l3 : Int32) (l4 : Int32) (l5 : Int32) (l6 : Int32) (M : zM), p181_6 n  k l0 l1 l2 l3 l4 l5 l6 M → ∀ {Q : Option Value → zM → Prop}, (∀ r M1, zRV (b181_6 n  k l0 l1 l2 l3 l4 l5 l6 M) r M1 → Q r M1) → zWP 181 6 [some (.ref l0), some (.int l1), some (.int l2), some (.int l3), some (.int l4), some (.int l5), some (.int l6), none] [] M Q
  | 0, _, _, _, _, _, _, _, _, h, _, _ => h.elim
  | k + 1, l0, l1, l2, l3, l4, l5, l6, M, h, _, hQ => t181_6 n  (b181_6 n  k)  (p181_6 n  k)  (s181_6 n    k) l0 l1 l2 l3 l4 l5 l6 M h hQ
def b181_0 (n : Nat)  (l0 : Nat) (l1 : Int32) (l2 : Int32) (l3 : Int32) (l4 : Int32) (l5 : Int32) (M : zM) : zM := b181_6 n  n l0 l1 l2 l3 l4 l5 (zI M l0 57) M
def p181_0 (n : Nat)  (l0 : Nat) (l1 : Int32) (l2 : Int32) (l3 : Int32) (l4 : Int32) (l5 : Int32) (M : zM) : Prop := (zHasI 10 326 l0 M 57) ∧ (p181_6 n  n l0 l1 l2 l3 l4 l5 (zI M l0 57) M)
theorem s181_0 (n : Nat)    (l0 : Nat) (l1 : Int32) (l2 : Int32) (l3 : Int32) (l4 : Int32) (l5 : Int32) (M : zM) (hp : p181_0 n  l0 l1 l2 l3 l4 l5 M) {Q : Option Value → zM → Prop} (hQ : ∀ r M1, zRV (b181_0 n  l0 l1 l2 l3 l4 l5 M) r M1 → Q r M1) : zWP 181 0 [some (.ref l0), some (.int l1), some (.int l2), some (.int l3), some (.int l4), some (.int l5), none, none] [] M Q := by
  unfold b181_0 at hQ
  unfold p181_0 at hp
  refine wp_go 1 (pc' := 1) (L' := [some (.ref l0), some (.int l1), some (.int l2), some (.int l3), some (.int l4), some (.int l5), none, none]) (st' := [.ref l0]) (M' := M) rfl ?_
  obtain ⟨hc, hp⟩ := hp
  refine wq_getI (j := 57) rfl hc ?_
  refine wp_go 1 (pc' := 6) (L' := [some (.ref l0), some (.int l1), some (.int l2), some (.int l3), some (.int l4), some (.int l5), some (.int (zI M l0 57)), none]) (st' := []) (M' := M) rfl ?_
  exact s181_6 n    n l0 l1 l2 l3 l4 l5 (zI M l0 57) M hp hQ
