/-! X12_lay -/
def b158_179 (n : Nat) (k36 : Nat → Int32 → zM → zM) (k54 : Nat → Int32 → Int32 → Int32 → zM → zM) (l0 : Nat) (l2 : Int32) (l3 : Int32) (l4 : Int32) (M : zM) : zM := k54 l0 l2 l3 (l4 + Int32.ofInt 1) M
def p158_179 (n : Nat) (q36 : Nat → Int32 → zM → Prop) (q54 : Nat → Int32 → Int32 → Int32 → zM → Prop) (l0 : Nat) (l2 : Int32) (l3 : Int32) (l4 : Int32) (M : zM) : Prop := q54 l0 l2 l3 (l4 + Int32.ofInt 1) M
theorem s158_179 (n : Nat) (k36 : Nat → Int32 → zM → zM) (k54 : Nat → Int32 → Int32 → Int32 → zM → zM) (q36 : Nat → Int32 → zM → Prop) (q54 : Nat → Int32 → Int32 → Int32 → zM → Prop) (h36 : ∀ (l0 : Nat) (l2 : Int32) (M : zM), q36 l0 l2 M → ∀ {Q : Option Value → zM → Prop}, (∀ r M1, zRV (k36 l0 l2 M) r M1 → Q r M1) → zWP 158 36 [some (.ref l0), none, some (.int l2), none, none, none] [] M Q) (h54 : ∀ (l0 : Nat) (l2 : Int32) (l3 : Int32) (l4 : Int32) (M : zM), q54 l0 l2 l3 l4 M → ∀ {Q : Option Value → zM → Prop}, (∀ r M1, zRV (k54 l0 l2 l3 l4 M) r M1 → Q r M1) → zWP 158 54 [some (.ref l0), none, some (.int l2), some (.int l3), some (.int l4), none] [] M Q) (l0 : Nat) (l2 : Int32) (l3 : Int32) (l4 : Int32) (M : zM) (hp : p158_179 n q36 q54 l0 l2 l3 l4 M) {Q : Option Value → zM → Prop} (hQ : ∀ r M1, zRV (b158_179 n k36 k54 l0 l2 l3 l4 M) r M1 → Q r M1) : zWP 158 179 [some (.ref l0), none, some (.int l2), some (.int l3), some (.int l4), none] [] M Q := by
  unfold b158_179 at hQ
  unfold p158_179 at hp
  refine wp_go 2 (pc' := 54) (L' := [some (.ref l0), none, some (.int l2), some (.int l3), some (.int (l4 + Int32.ofInt 1)), none]) (st' := []) (M' := M) rfl ?_
  exact h54 l0 l2 l3 (l4 + Int32.ofInt 1) M hp hQ
def b158_161 (n : Nat) (k36 : Nat → Int32 → zM → zM) (k54 : Nat → Int32 → Int32 → Int32 → zM → zM) (l0 : Nat) (l2 : Int32) (l3 : Int32) (l4 : Int32) (l5 : Int32) (M : zM) : zM := b158_179 n k36 k54 l0 l2 l3 l4 (b157_0 n l0 l5 (zI M l0 45) (zI M l0 46) (zI M l0 47) M)
def p158_161 (n : Nat) (q36 : Nat → Int32 → zM → Prop) (q54 : Nat → Int32 → Int32 → Int32 → zM → Prop) (l0 : Nat) (l2 : Int32) (l3 : Int32) (l4 : Int32) (l5 : Int32) (M : zM) : Prop := (zHasI 10 250 l0 M 45) ∧ ((zHasI 10 253 l0 M 46) ∧ ((zHasI 10 256 l0 M 47) ∧ ((zHasC 158 259 l0 M 157 4) ∧ ((p157_0 n l0 l5 (zI M l0 45) (zI M l0 46) (zI M l0 47) M) ∧ (p158_179 n q36 q54 l0 l2 l3 l4 (b157_0 n l0 l5 (zI M l0 45) (zI M l0 46) (zI M l0 47) M))))))
theorem s158_161 (n : Nat) (k36 : Nat → Int32 → zM → zM) (k54 : Nat → Int32 → Int32 → Int32 → zM → zM) (q36 : Nat → Int32 → zM → Prop) (q54 : Nat → Int32 → Int32 → Int32 → zM → Prop) (h36 : ∀ (l0 : Nat) (l2 : Int32) (M : zM), q36 l0 l2 M → ∀ {Q : Option Value → zM → Prop}, (∀ r M1, zRV (k36 l0 l2 M) r M1 → Q r M1) → zWP 158 36 [some (.ref l0), none, some (.int l2), none, none, none] [] M Q) (h54 : ∀ (l0 : Nat) (l2 : Int32) (l3 : Int32) (l4 : Int32) (M : zM), q54 l0 l2 l3 l4 M → ∀ {Q : Option Value → zM → Prop}, (∀ r M1, zRV (k54 l0 l2 l3 l4 M) r M1 → Q r M1) → zWP 158 54 [some (.ref l0), none, some (.int l2), some (.int l3), some (.int l4), none] [] M Q) (l0 : Nat) (l2 : Int32) (l3 : Int32) (l4 : Int32) (l5 : Int32) (M : zM) (hp : p158_161 n q36 q54 l0 l2 l3 l4 l5 M) {Q : Option Value → zM → Prop} (hQ : ∀ r M1, zRV (b158_161 n k36 k54 l0 l2 l3 l4 l5 M) r M1 → Q r M1) : zWP 158 161 [some (.ref l0), none, some (.int l2), some (.int l3), some (.int l4), some (.int l5)] [] M Q := by
  unfold b158_161 at hQ
  unfold p158_161 at hp
  refine wp_go 3 (pc' := 165) (L' := [some (.ref l0), none, some (.int l2), some (.int l3), some (.int l4), some (.int l5)]) (st' := [.ref l0, .int l5, .ref l0]) (M' := M) rfl ?_
  obtain ⟨hc, hp⟩ := hp
  refine wq_getI (j := 45) rfl hc ?_
  refine wp_go 1 (pc' := 169) (L' := [some (.ref l0), none, some (.int l2), some (.int l3), some (.int l4), some (.int l5)]) (st' := [.ref l0, .int (zI M l0 45), .int l5, .ref l0]) (M' := M) rfl ?_
  obtain ⟨hc, hp⟩ := hp
  refine wq_getI (j := 46) rfl hc ?_
  refine wp_go 1 (pc' := 173) (L' := [some (.ref l0), none, some (.int l2), some (.int l3), some (.int l4), some (.int l5)]) (st' := [.ref l0, .int (zI M l0 46), .int (zI M l0 45), .int l5, .ref l0]) (M' := M) rfl ?_
  obtain ⟨hc, hp⟩ := hp
  refine wq_getI (j := 47) rfl hc ?_
  obtain ⟨hv, hp⟩ := hp
  obtain ⟨hc, hp⟩ := hp
  refine wp_callv (M1 := (b157_0 n l0 l5 (zI M l0 45) (zI M l0 46) (zI M l0 47) M)) rfl rfl rfl (zInv_v (np := 4) rfl rfl hv rfl) (s157_0 n l0 l5 (zI M l0 45) (zI M l0 46) (zI M l0 47) M hc (fun r M1 h => h)) ?_
  refine wp_le [some (.ref l0), none, some (.int l2), some (.int l3), some (.int l4), none] (zLe_of (by simp [zLeB])) ?_
  exact s158_179 n k36 k54 q36 q54 h36 h54 l0 l2 l3 l4 (b157_0 n l0 l5 (zI M l0 45) (zI M l0 46) (zI M l0 47) M) hp hQ
def b158_158 (n : Nat) (k36 : Nat → Int32 → zM → zM) (k54 : Nat → Int32 → Int32 → Int32 → zM → zM) (l0 : Nat) (l2 : Int32) (l3 : Int32) (l4 : Int32) (l5 : Int32) (s0 : Nat) (s1 : Int32) (s2 : Int32) (M : zM) : zM := b158_161 n k36 k54 l0 l2 l3 l4 l5 (b156_0 n s0 s1 s2 M)
def p158_158 (n : Nat) (q36 : Nat → Int32 → zM → Prop) (q54 : Nat → Int32 → Int32 → Int32 → zM → Prop) (l0 : Nat) (l2 : Int32) (l3 : Int32) (l4 : Int32) (l5 : Int32) (s0 : Nat) (s1 : Int32) (s2 : Int32) (M : zM) : Prop := (zHasC 158 263 s0 M 156 2) ∧ ((p156_0 n s0 s1 s2 M) ∧ (p158_161 n q36 q54 l0 l2 l3 l4 l5 (b156_0 n s0 s1 s2 M)))
theorem s158_158 (n : Nat) (k36 : Nat → Int32 → zM → zM) (k54 : Nat → Int32 → Int32 → Int32 → zM → zM) (q36 : Nat → Int32 → zM → Prop) (q54 : Nat → Int32 → Int32 → Int32 → zM → Prop) (h36 : ∀ (l0 : Nat) (l2 : Int32) (M : zM), q36 l0 l2 M → ∀ {Q : Option Value → zM → Prop}, (∀ r M1, zRV (k36 l0 l2 M) r M1 → Q r M1) → zWP 158 36 [some (.ref l0), none, some (.int l2), none, none, none] [] M Q) (h54 : ∀ (l0 : Nat) (l2 : Int32) (l3 : Int32) (l4 : Int32) (M : zM), q54 l0 l2 l3 l4 M → ∀ {Q : Option Value → zM → Prop}, (∀ r M1, zRV (k54 l0 l2 l3 l4 M) r M1 → Q r M1) → zWP 158 54 [some (.ref l0), none, some (.int l2), some (.int l3), some (.int l4), none] [] M Q) (l0 : Nat) (l2 : Int32) (l3 : Int32) (l4 : Int32) (l5 : Int32) (s0 : Nat) (s1 : Int32) (s2 : Int32) (M : zM) (hp : p158_158 n q36 q54 l0 l2 l3 l4 l5 s0 s1 s2 M) {Q : Option Value → zM → Prop} (hQ : ∀ r M1, zRV (b158_158 n k36 k54 l0 l2 l3 l4 l5 s0 s1 s2 M) r M1 → Q r M1) : zWP 158 158 [some (.ref l0), none, some (.int l2), some (.int l3), some (.int l4), some (.int l5)] [.int s2, .int s1, .ref s0] M Q := by
  unfold b158_158 at hQ
  unfold p158_158 at hp
  obtain ⟨hv, hp⟩ := hp
  obtain ⟨hc, hp⟩ := hp
  refine wp_callv (M1 := (b156_0 n s0 s1 s2 M)) rfl rfl rfl (zInv_v (np := 2) rfl rfl hv rfl) (s156_0 n s0 s1 s2 M hc (fun r M1 h => h)) ?_
  exact s158_161 n k36 k54 q36 q54 h36 h54 l0 l2 l3 l4 l5 (b156_0 n s0 s1 s2 M) hp hQ
def b158_124 (n : Nat) (k36 : Nat → Int32 → zM → zM) (k54 : Nat → Int32 → Int32 → Int32 → zM → zM) (l0 : Nat) (l2 : Int32) (l3 : Int32) (l4 : Int32) (s0 : Int32) (M : zM) : zM := (if (zI M (zQ M l0 41) s0.toNatClampNeg) = 0 then (if (zI M (zQ M l0 18) l4.toNatClampNeg) = l3 then b158_158 n k36 k54 l0 l2 l3 l4 s0 l0 l4 (1 : Int32) M else b158_158 n k36 k54 l0 l2 l3 l4 s0 l0 l4 (0 : Int32) M) else b158_179 n k36 k54 l0 l2 l3 l4 M)
def p158_124 (n : Nat) (q36 : Nat → Int32 → zM → Prop) (q54 : Nat → Int32 → Int32 → Int32 → zM → Prop) (l0 : Nat) (l2 : Int32) (l3 : Int32) (l4 : Int32) (s0 : Int32) (M : zM) : Prop := (zHasQ 10 99 l0 M 41) ∧ ((zOkT 2 (zQ M l0 41) s0 M) ∧ ((((zI M (zQ M l0 41) s0.toNatClampNeg) = 0 → (zHasQ 10 57 l0 M 18) ∧ ((zOkI (zQ M l0 18) l4 M) ∧ ((((zI M (zQ M l0 18) l4.toNatClampNeg) = l3 → p158_158 n q36 q54 l0 l2 l3 l4 s0 l0 l4 (1 : Int32) M) ∧ (¬ (zI M (zQ M l0 18) l4.toNatClampNeg) = l3 → p158_158 n q36 q54 l0 l2 l3 l4 s0 l0 l4 (0 : Int32) M))))) ∧ (¬ (zI M (zQ M l0 41) s0.toNatClampNeg) = 0 → p158_179 n q36 q54 l0 l2 l3 l4 M))))
theorem s158_124 (n : Nat) (k36 : Nat → Int32 → zM → zM) (k54 : Nat → Int32 → Int32 → Int32 → zM → zM) (q36 : Nat → Int32 → zM → Prop) (q54 : Nat → Int32 → Int32 → Int32 → zM → Prop) (h36 : ∀ (l0 : Nat) (l2 : Int32) (M : zM), q36 l0 l2 M → ∀ {Q : Option Value → zM → Prop}, (∀ r M1, zRV (k36 l0 l2 M) r M1 → Q r M1) → zWP 158 36 [some (.ref l0), none, some (.int l2), none, none, none] [] M Q) (h54 : ∀ (l0 : Nat) (l2 : Int32) (l3 : Int32) (l4 : Int32) (M : zM), q54 l0 l2 l3 l4 M → ∀ {Q : Option Value → zM → Prop}, (∀ r M1, zRV (k54 l0 l2 l3 l4 M) r M1 → Q r M1) → zWP 158 54 [some (.ref l0), none, some (.int l2), some (.int l3), some (.int l4), none] [] M Q) (l0 : Nat) (l2 : Int32) (l3 : Int32) (l4 : Int32) (s0 : Int32) (M : zM) (hp : p158_124 n q36 q54 l0 l2 l3 l4 s0 M) {Q : Option Value → zM → Prop} (hQ : ∀ r M1, zRV (b158_124 n k36 k54 l0 l2 l3 l4 s0 M) r M1 → Q r M1) : zWP 158 124 [some (.ref l0), none, some (.int l2), some (.int l3), some (.int l4), none] [.int s0] M Q := by
  unfold b158_124 at hQ
  unfold p158_124 at hp
  refine wp_go 2 (pc' := 127) (L' := [some (.ref l0), none, some (.int l2), some (.int l3), some (.int l4), some (.int s0)]) (st' := [.ref l0]) (M' := M) rfl ?_
  obtain ⟨hc, hp⟩ := hp
  refine wq_getQ (j := 41) rfl hc ?_
  refine wp_go 1 (pc' := 132) (L' := [some (.ref l0), none, some (.int l2), some (.int l3), some (.int l4), some (.int s0)]) (st' := [.int s0, .ref (zQ M l0 41)]) (M' := M) rfl ?_
  obtain ⟨hc, hp⟩ := hp
  refine wq_zald rfl hc ?_
  refine wp_if_eq (t := 139) rfl rfl (fun hc => ?_) (fun hc => ?_)
  · rw [if_pos hc] at hQ
    replace hp := hp.1 hc
    refine wp_go 3 (pc' := 143) (L' := [some (.ref l0), none, some (.int l2), some (.int l3), some (.int l4), some (.int s0)]) (st' := [.ref l0, .int l4, .ref l0]) (M' := M) rfl ?_
    obtain ⟨hc, hp⟩ := hp
    refine wq_getQ (j := 18) rfl hc ?_
    refine wp_go 1 (pc' := 148) (L' := [some (.ref l0), none, some (.int l2), some (.int l3), some (.int l4), some (.int s0)]) (st' := [.int l4, .ref (zQ M l0 18), .int l4, .ref l0]) (M' := M) rfl ?_
    obtain ⟨hc, hp⟩ := hp
    refine wq_iald rfl hc ?_
    refine wp_go 1 (pc' := 150) (L' := [some (.ref l0), none, some (.int l2), some (.int l3), some (.int l4), some (.int s0)]) (st' := [.int l3, .int (zI M (zQ M l0 18) l4.toNatClampNeg), .int l4, .ref l0]) (M' := M) rfl ?_
    refine wp_ic_ne (t := 157) rfl rfl (fun hc => ?_) (fun hc => ?_)
    · rw [if_neg hc] at hQ
      replace hp := hp.2 hc
      refine wp_go 1 (pc' := 158) (L' := [some (.ref l0), none, some (.int l2), some (.int l3), some (.int l4), some (.int s0)]) (st' := [.int (0 : Int32), .int l4, .ref l0]) (M' := M) rfl ?_
      exact s158_158 n k36 k54 q36 q54 h36 h54 l0 l2 l3 l4 s0 l0 l4 (0 : Int32) M hp hQ
    · rw [if_pos hc] at hQ
      replace hp := hp.1 hc
      refine wp_go 2 (pc' := 158) (L' := [some (.ref l0), none, some (.int l2), some (.int l3), some (.int l4), some (.int s0)]) (st' := [.int (1 : Int32), .int l4, .ref l0]) (M' := M) rfl ?_
      exact s158_158 n k36 k54 q36 q54 h36 h54 l0 l2 l3 l4 s0 l0 l4 (1 : Int32) M hp hQ
  · rw [if_neg hc] at hQ
    replace hp := hp.2 hc
    refine wp_go 1 (pc' := 179) (L' := [some (.ref l0), none, some (.int l2), some (.int l3), some (.int l4), some (.int s0)]) (st' := []) (M' := M) rfl ?_
    refine wp_le [some (.ref l0), none, some (.int l2), some (.int l3), some (.int l4), none] (zLe_of (by simp [zLeB])) ?_
    exact s158_179 n k36 k54 q36 q54 h36 h54 l0 l2 l3 l4 M hp hQ
def b158_96 (n : Nat) (k36 : Nat → Int32 → zM → zM) (k54 : Nat → Int32 → Int32 → Int32 → zM → zM) (l0 : Nat) (l2 : Int32) (l3 : Int32) (l4 : Int32) (M : zM) : zM := (if (zI M (zQ M l0 18) l4.toNatClampNeg) = l3 then b158_124 n k36 k54 l0 l2 l3 l4 (zI M (zQ M l0 20) l4.toNatClampNeg) M else b158_124 n k36 k54 l0 l2 l3 l4 (zI M (zQ M l0 18) l4.toNatClampNeg) M)
def p158_96 (n : Nat) (q36 : Nat → Int32 → zM → Prop) (q54 : Nat → Int32 → Int32 → Int32 → zM → Prop) (l0 : Nat) (l2 : Int32) (l3 : Int32) (l4 : Int32) (M : zM) : Prop := (zHasQ 10 57 l0 M 18) ∧ ((zOkI (zQ M l0 18) l4 M) ∧ ((((zI M (zQ M l0 18) l4.toNatClampNeg) = l3 → (zHasQ 10 63 l0 M 20) ∧ ((zOkI (zQ M l0 20) l4 M) ∧ (p158_124 n q36 q54 l0 l2 l3 l4 (zI M (zQ M l0 20) l4.toNatClampNeg) M))) ∧ (¬ (zI M (zQ M l0 18) l4.toNatClampNeg) = l3 → (zHasQ 10 57 l0 M 18) ∧ ((zOkI (zQ M l0 18) l4 M) ∧ (p158_124 n q36 q54 l0 l2 l3 l4 (zI M (zQ M l0 18) l4.toNatClampNeg) M))))))
theorem s158_96 (n : Nat) (k36 : Nat → Int32 → zM → zM) (k54 : Nat → Int32 → Int32 → Int32 → zM → zM) (q36 : Nat → Int32 → zM → Prop) (q54 : Nat → Int32 → Int32 → Int32 → zM → Prop) (h36 : ∀ (l0 : Nat) (l2 : Int32) (M : zM), q36 l0 l2 M → ∀ {Q : Option Value → zM → Prop}, (∀ r M1, zRV (k36 l0 l2 M) r M1 → Q r M1) → zWP 158 36 [some (.ref l0), none, some (.int l2), none, none, none] [] M Q) (h54 : ∀ (l0 : Nat) (l2 : Int32) (l3 : Int32) (l4 : Int32) (M : zM), q54 l0 l2 l3 l4 M → ∀ {Q : Option Value → zM → Prop}, (∀ r M1, zRV (k54 l0 l2 l3 l4 M) r M1 → Q r M1) → zWP 158 54 [some (.ref l0), none, some (.int l2), some (.int l3), some (.int l4), none] [] M Q) (l0 : Nat) (l2 : Int32) (l3 : Int32) (l4 : Int32) (M : zM) (hp : p158_96 n q36 q54 l0 l2 l3 l4 M) {Q : Option Value → zM → Prop} (hQ : ∀ r M1, zRV (b158_96 n k36 k54 l0 l2 l3 l4 M) r M1 → Q r M1) : zWP 158 96 [some (.ref l0), none, some (.int l2), some (.int l3), some (.int l4), none] [] M Q := by
  unfold b158_96 at hQ
  unfold p158_96 at hp
  refine wp_go 1 (pc' := 97) (L' := [some (.ref l0), none, some (.int l2), some (.int l3), some (.int l4), none]) (st' := [.ref l0]) (M' := M) rfl ?_
  obtain ⟨hc, hp⟩ := hp
  refine wq_getQ (j := 18) rfl hc ?_
  refine wp_go 1 (pc' := 102) (L' := [some (.ref l0), none, some (.int l2), some (.int l3), some (.int l4), none]) (st' := [.int l4, .ref (zQ M l0 18)]) (M' := M) rfl ?_
  obtain ⟨hc, hp⟩ := hp
  refine wq_iald rfl hc ?_
  refine wp_go 1 (pc' := 104) (L' := [some (.ref l0), none, some (.int l2), some (.int l3), some (.int l4), none]) (st' := [.int l3, .int (zI M (zQ M l0 18) l4.toNatClampNeg)]) (M' := M) rfl ?_
  refine wp_ic_ne (t := 117) rfl rfl (fun hc => ?_) (fun hc => ?_)
  · rw [if_neg hc] at hQ
    replace hp := hp.2 hc
    refine wp_go 1 (pc' := 118) (L' := [some (.ref l0), none, some (.int l2), some (.int l3), some (.int l4), none]) (st' := [.ref l0]) (M' := M) rfl ?_
    obtain ⟨hc, hp⟩ := hp
    refine wq_getQ (j := 18) rfl hc ?_
    refine wp_go 1 (pc' := 123) (L' := [some (.ref l0), none, some (.int l2), some (.int l3), some (.int l4), none]) (st' := [.int l4, .ref (zQ M l0 18)]) (M' := M) rfl ?_
    obtain ⟨hc, hp⟩ := hp
    refine wq_iald rfl hc ?_
    exact s158_124 n k36 k54 q36 q54 h36 h54 l0 l2 l3 l4 (zI M (zQ M l0 18) l4.toNatClampNeg) M hp hQ
  · rw [if_pos hc] at hQ
    replace hp := hp.1 hc
    refine wp_go 1 (pc' := 108) (L' := [some (.ref l0), none, some (.int l2), some (.int l3), some (.int l4), none]) (st' := [.ref l0]) (M' := M) rfl ?_
    obtain ⟨hc, hp⟩ := hp
    refine wq_getQ (j := 20) rfl hc ?_
    refine wp_go 1 (pc' := 113) (L' := [some (.ref l0), none, some (.int l2), some (.int l3), some (.int l4), none]) (st' := [.int l4, .ref (zQ M l0 20)]) (M' := M) rfl ?_
    obtain ⟨hc, hp⟩ := hp
    refine wq_iald rfl hc ?_
    refine wp_go 1 (pc' := 124) (L' := [some (.ref l0), none, some (.int l2), some (.int l3), some (.int l4), none]) (st' := [.int (zI M (zQ M l0 20) l4.toNatClampNeg)]) (M' := M) rfl ?_
    exact s158_124 n k36 k54 q36 q54 h36 h54 l0 l2 l3 l4 (zI M (zQ M l0 20) l4.toNatClampNeg) M hp hQ
def c158_54 (n : Nat) (k36 : Nat → Int32 → zM → zM) (k54 : Nat → Int32 → Int32 → Int32 → zM → zM) (l0 : Nat) (l2 : Int32) (l3 : Int32) (l4 : Int32) (M : zM) : zM := (if (41 : Int32) ≤ l4 then k36 l0 (l2 + Int32.ofInt 1) M else (if (zI M (zQ M l0 17) l4.toNatClampNeg) = 0 then b158_179 n k36 k54 l0 l2 l3 l4 M else (if (zI M (zQ M l0 18) l4.toNatClampNeg) = l3 then b158_96 n k36 k54 l0 l2 l3 l4 M else (if (zI M (zQ M l0 20) l4.toNatClampNeg) = l3 then b158_96 n k36 k54 l0 l2 l3 l4 M else b158_179 n k36 k54 l0 l2 l3 l4 M))))
def d158_54 (n : Nat) (q36 : Nat → Int32 → zM → Prop) (q54 : Nat → Int32 → Int32 → Int32 → zM → Prop) (l0 : Nat) (l2 : Int32) (l3 : Int32) (l4 : Int32) (M : zM) : Prop := (((41 : Int32) ≤ l4 → q36 l0 (l2 + Int32.ofInt 1) M) ∧ (¬ (41 : Int32) ≤ l4 → (zHasQ 10 54 l0 M 17) ∧ ((zOkT 2 (zQ M l0 17) l4 M) ∧ ((((zI M (zQ M l0 17) l4.toNatClampNeg) = 0 → p158_179 n q36 q54 l0 l2 l3 l4 M) ∧ (¬ (zI M (zQ M l0 17) l4.toNatClampNeg) = 0 → (zHasQ 10 57 l0 M 18) ∧ ((zOkI (zQ M l0 18) l4 M) ∧ ((((zI M (zQ M l0 18) l4.toNatClampNeg) = l3 → p158_96 n q36 q54 l0 l2 l3 l4 M) ∧ (¬ (zI M (zQ M l0 18) l4.toNatClampNeg) = l3 → (zHasQ 10 63 l0 M 20) ∧ ((zOkI (zQ M l0 20) l4 M) ∧ ((((zI M (zQ M l0 20) l4.toNatClampNeg) = l3 → p158_96 n q36 q54 l0 l2 l3 l4 M) ∧ (¬ (zI M (zQ M l0 20) l4.toNatClampNeg) = l3 → p158_179 n q36 q54 l0 l2 l3 l4 M))))))))))))))
theorem t158_54 (n : Nat) (k36 : Nat → Int32 → zM → zM) (k54 : Nat → Int32 → Int32 → Int32 → zM → zM) (q36 : Nat → Int32 → zM → Prop) (q54 : Nat → Int32 → Int32 → Int32 → zM → Prop) (h36 : ∀ (l0 : Nat) (l2 : Int32) (M : zM), q36 l0 l2 M → ∀ {Q : Option Value → zM → Prop}, (∀ r M1, zRV (k36 l0 l2 M) r M1 → Q r M1) → zWP 158 36 [some (.ref l0), none, some (.int l2), none, none, none] [] M Q) (h54 : ∀ (l0 : Nat) (l2 : Int32) (l3 : Int32) (l4 : Int32) (M : zM), q54 l0 l2 l3 l4 M → ∀ {Q : Option Value → zM → Prop}, (∀ r M1, zRV (k54 l0 l2 l3 l4 M) r M1 → Q r M1) → zWP 158 54 [some (.ref l0), none, some (.int l2), some (.int l3), some (.int l4), none] [] M Q) (l0 : Nat) (l2 : Int32) (l3 : Int32) (l4 : Int32) (M : zM) (hp : d158_54 n q36 q54 l0 l2 l3 l4 M) {Q : Option Value → zM → Prop} (hQ : ∀ r M1, zRV (c158_54 n k36 k54 l0 l2 l3 l4 M) r M1 → Q r M1) : zWP 158 54 [some (.ref l0), none, some (.int l2), some (.int l3), some (.int l4), none] [] M Q := by
  unfold c158_54 at hQ
  unfold d158_54 at hp
  refine wp_go 2 (pc' := 58) (L' := [some (.ref l0), none, some (.int l2), some (.int l3), some (.int l4), none]) (st' := [.int (41 : Int32), .int l4]) (M' := M) rfl ?_
  refine wp_ic_ge (t := 185) rfl rfl (fun hc => ?_) (fun hc => ?_)
  · rw [if_pos hc] at hQ
    replace hp := hp.1 hc
    refine wp_go 2 (pc' := 36) (L' := [some (.ref l0), none, some (.int (l2 + Int32.ofInt 1)), some (.int l3), some (.int l4), none]) (st' := []) (M' := M) rfl ?_
    refine wp_le [some (.ref l0), none, some (.int (l2 + Int32.ofInt 1)), none, none, none] (zLe_of (by simp [zLeB])) ?_
    exact h36 l0 (l2 + Int32.ofInt 1) M hp hQ
  · rw [if_neg hc] at hQ
    replace hp := hp.2 hc
    refine wp_go 1 (pc' := 62) (L' := [some (.ref l0), none, some (.int l2), some (.int l3), some (.int l4), none]) (st' := [.ref l0]) (M' := M) rfl ?_
    obtain ⟨hc, hp⟩ := hp
    refine wq_getQ (j := 17) rfl hc ?_
    refine wp_go 1 (pc' := 67) (L' := [some (.ref l0), none, some (.int l2), some (.int l3), some (.int l4), none]) (st' := [.int l4, .ref (zQ M l0 17)]) (M' := M) rfl ?_
    obtain ⟨hc, hp⟩ := hp
    refine wq_zald rfl hc ?_
    refine wp_if_eq (t := 179) rfl rfl (fun hc => ?_) (fun hc => ?_)
    · rw [if_pos hc] at hQ
      replace hp := hp.1 hc
      exact s158_179 n k36 k54 q36 q54 h36 h54 l0 l2 l3 l4 M hp hQ
    · rw [if_neg hc] at hQ
      replace hp := hp.2 hc
      refine wp_go 1 (pc' := 72) (L' := [some (.ref l0), none, some (.int l2), some (.int l3), some (.int l4), none]) (st' := [.ref l0]) (M' := M) rfl ?_
      obtain ⟨hc, hp⟩ := hp
      refine wq_getQ (j := 18) rfl hc ?_
      refine wp_go 1 (pc' := 77) (L' := [some (.ref l0), none, some (.int l2), some (.int l3), some (.int l4), none]) (st' := [.int l4, .ref (zQ M l0 18)]) (M' := M) rfl ?_
      obtain ⟨hc, hp⟩ := hp
      refine wq_iald rfl hc ?_
      refine wp_go 1 (pc' := 79) (L' := [some (.ref l0), none, some (.int l2), some (.int l3), some (.int l4), none]) (st' := [.int l3, .int (zI M (zQ M l0 18) l4.toNatClampNeg)]) (M' := M) rfl ?_
      refine wp_ic_eq (t := 96) rfl rfl (fun hc => ?_) (fun hc => ?_)
      · rw [if_pos hc] at hQ
        replace hp := hp.1 hc
        exact s158_96 n k36 k54 q36 q54 h36 h54 l0 l2 l3 l4 M hp hQ
      · rw [if_neg hc] at hQ
        replace hp := hp.2 hc
        refine wp_go 1 (pc' := 83) (L' := [some (.ref l0), none, some (.int l2), some (.int l3), some (.int l4), none]) (st' := [.ref l0]) (M' := M) rfl ?_
        obtain ⟨hc, hp⟩ := hp
        refine wq_getQ (j := 20) rfl hc ?_
        refine wp_go 1 (pc' := 88) (L' := [some (.ref l0), none, some (.int l2), some (.int l3), some (.int l4), none]) (st' := [.int l4, .ref (zQ M l0 20)]) (M' := M) rfl ?_
        obtain ⟨hc, hp⟩ := hp
        refine wq_iald rfl hc ?_
        refine wp_go 1 (pc' := 90) (L' := [some (.ref l0), none, some (.int l2), some (.int l3), some (.int l4), none]) (st' := [.int l3, .int (zI M (zQ M l0 20) l4.toNatClampNeg)]) (M' := M) rfl ?_
        refine wp_ic_eq (t := 96) rfl rfl (fun hc => ?_) (fun hc => ?_)
        · rw [if_pos hc] at hQ
          replace hp := hp.1 hc
          exact s158_96 n k36 k54 q36 q54 h36 h54 l0 l2 l3 l4 M hp hQ
        · rw [if_neg hc] at hQ
          replace hp := hp.2 hc
          refine wp_go 1 (pc' := 179) (L' := [some (.ref l0), none, some (.int l2), some (.int l3), some (.int l4), none]) (st' := []) (M' := M) rfl ?_
          exact s158_179 n k36 k54 q36 q54 h36 h54 l0 l2 l3 l4 M hp hQ
def b158_54 (n : Nat) (k36 : Nat → Int32 → zM → zM) : Nat → Nat → Int32 → Int32 → Int32 → zM → zM
  | 0, _, _, _, _, M => M
  | k + 1, l0, l2, l3, l4, M => c158_54 n k36 (b158_54 n k36 k) l0 l2 l3 l4 M
def p158_54 (n : Nat) (q36 : Nat → Int32 → zM → Prop) : Nat → Nat → Int32 → Int32 → Int32 → zM → Prop
  | 0, _, _, _, _, _ => False
  | k + 1, l0, l2, l3, l4, M => d158_54 n q36 (p158_54 n q36 k) l0 l2 l3 l4 M
theorem s158_54 (n : Nat) (k36 : Nat → Int32 → zM → zM) (q36 : Nat → Int32 → zM → Prop) (h36 : ∀ (l0 : Nat) (l2 : Int32) (M : zM), q36 l0 l2 M → ∀ {Q : Option Value → zM → Prop}, (∀ r M1, zRV (k36 l0 l2 M) r M1 → Q r M1) → zWP 158 36 [some (.ref l0), none, some (.int l2), none, none, none] [] M Q) : ∀ (k : Nat) (l0 : Nat) (l2 : Int32) (l3 : Int32) (l4 : Int32) (M : zM), p158_54 n q36 k l0 l2 l3 l4 M → ∀ {Q : Option Value → zM → Prop}, (∀ r M1, zRV (b158_54 n k36 k l0 l2 l3 l4 M) r M1 → Q r M1) → zWP 158 54 [some (.ref l0), none, some (.int l2), some (.int l3), some (.int l4), none] [] M Q
  | 0, _, _, _, _, _, h, _, _ => h.elim
  | k + 1, l0, l2, l3, l4, M, h, _, hQ => t158_54 n k36 (b158_54 n k36 k) q36 (p158_54 n q36 k) h36 (s158_54 n k36 q36 h36 k) l0 l2 l3 l4 M h hQ
def c158_36 (n : Nat) (k36 : Nat → Int32 → zM → zM) (l0 : Nat) (l2 : Int32) (M : zM) : zM := (if (zI M l0 40) ≤ l2 then M else b158_54 n k36 n l0 l2 (zI M (zQ M l0 39) l2.toNatClampNeg) (0 : Int32) M)
def d158_36 (n : Nat) (q36 : Nat → Int32 → zM → Prop) (l0 : Nat) (l2 : Int32) (M : zM) : Prop := (zHasI 10 183 l0 M 40) ∧ ((((zI M l0 40) ≤ l2 → True) ∧ (¬ (zI M l0 40) ≤ l2 → (zHasQ 10 96 l0 M 39) ∧ ((zOkI (zQ M l0 39) l2 M) ∧ (p158_54 n q36 n l0 l2 (zI M (zQ M l0 39) l2.toNatClampNeg) (0 : Int32) M)))))
theorem t158_36 (n : Nat) (k36 : Nat → Int32 → zM → zM) (q36 : Nat → Int32 → zM → Prop) (h36 : ∀ (l0 : Nat) (l2 : Int32) (M : zM), q36 l0 l2 M → ∀ {Q : Option Value → zM → Prop}, (∀ r M1, zRV (k36 l0 l2 M) r M1 → Q r M1) → zWP 158 36 [some (.ref l0), none, some (.int l2), none, none, none] [] M Q) (l0 : Nat) (l2 : Int32) (M : zM) (hp : d158_36 n q36 l0 l2 M) {Q : Option Value → zM → Prop} (hQ : ∀ r M1, zRV (c158_36 n k36 l0 l2 M) r M1 → Q r M1) : zWP 158 36 [some (.ref l0), none, some (.int l2), none, none, none] [] M Q := by
  unfold c158_36 at hQ
  unfold d158_36 at hp
  refine wp_go 2 (pc' := 38) (L' := [some (.ref l0), none, some (.int l2), none, none, none]) (st' := [.ref l0, .int l2]) (M' := M) rfl ?_
  obtain ⟨hc, hp⟩ := hp
  refine wq_getI (j := 40) rfl hc ?_
  refine wp_ic_ge (t := 191) rfl rfl (fun hc => ?_) (fun hc => ?_)
  · rw [if_pos hc] at hQ
    replace hp := hp.1 hc
    exact wp_ret (r := none) rfl rfl (hQ _ _ ⟨rfl, rfl⟩)
  · rw [if_neg hc] at hQ
    replace hp := hp.2 hc
    refine wp_go 1 (pc' := 45) (L' := [some (.ref l0), none, some (.int l2), none, none, none]) (st' := [.ref l0]) (M' := M) rfl ?_
    obtain ⟨hc, hp⟩ := hp
    refine wq_getQ (j := 39) rfl hc ?_
    refine wp_go 1 (pc' := 49) (L' := [some (.ref l0), none, some (.int l2), none, none, none]) (st' := [.int l2, .ref (zQ M l0 39)]) (M' := M) rfl ?_
    obtain ⟨hc, hp⟩ := hp
    refine wq_iald rfl hc ?_
    refine wp_go 3 (pc' := 54) (L' := [some (.ref l0), none, some (.int l2), some (.int (zI M (zQ M l0 39) l2.toNatClampNeg)), some (.int (0 : Int32)), none]) (st' := []) (M' := M) rfl ?_
    exact s158_54 n k36 q36 h36 n l0 l2 (zI M (zQ M l0 39) l2.toNatClampNeg) (0 : Int32) M hp hQ
def b158_36 (n : Nat)  : Nat → Nat → Int32 → zM → zM
  | 0, _, _, M => M
  | k + 1, l0, l2, M => c158_36 n  (b158_36 n  k) l0 l2 M
def p158_36 (n : Nat)  : Nat → Nat → Int32 → zM → Prop
  | 0, _, _, _ => False
  | k + 1, l0, l2, M => d158_36 n  (p158_36 n  k) l0 l2 M
theorem s158_36 (n : Nat)    : ∀ (k : Nat) (l0 : Nat) (l2 : Int32) (M : zM), p158_36 n  k l0 l2 M → ∀ {Q : Option Value → zM → Prop}, (∀ r M1, zRV (b158_36 n  k l0 l2 M) r M1 → Q r M1) → zWP 158 36 [some (.ref l0), none, some (.int l2), none, none, none] [] M Q
  | 0, _, _, _, h, _, _ => h.elim
  | k + 1, l0, l2, M, h, _, hQ => t158_36 n  (b158_36 n  k)  (p158_36 n  k)  (s158_36 n    k) l0 l2 M h hQ
def b158_34 (n : Nat)  (l0 : Nat) (M : zM) : zM := b158_36 n  n l0 (0 : Int32) M
def p158_34 (n : Nat)  (l0 : Nat) (M : zM) : Prop := p158_36 n  n l0 (0 : Int32) M
theorem s158_34 (n : Nat)    (l0 : Nat) (M : zM) (hp : p158_34 n  l0 M) {Q : Option Value → zM → Prop} (hQ : ∀ r M1, zRV (b158_34 n  l0 M) r M1 → Q r M1) : zWP 158 34 [some (.ref l0), none, none, none, none, none] [] M Q := by
  unfold b158_34 at hQ
  unfold p158_34 at hp
  refine wp_go 2 (pc' := 36) (L' := [some (.ref l0), none, some (.int (0 : Int32)), none, none, none]) (st' := []) (M' := M) rfl ?_
  exact s158_36 n    n l0 (0 : Int32) M hp hQ
def b158_20 (n : Nat) (k7 : Nat → Int32 → Int32 → zM → zM) (l0 : Nat) (l1 : Int32) (l2 : Int32) (M : zM) : zM := k7 l0 l1 (l2 + Int32.ofInt 1) M
def p158_20 (n : Nat) (q7 : Nat → Int32 → Int32 → zM → Prop) (l0 : Nat) (l1 : Int32) (l2 : Int32) (M : zM) : Prop := q7 l0 l1 (l2 + Int32.ofInt 1) M
theorem s158_20 (n : Nat) (k7 : Nat → Int32 → Int32 → zM → zM) (q7 : Nat → Int32 → Int32 → zM → Prop) (h7 : ∀ (l0 : Nat) (l1 : Int32) (l2 : Int32) (M : zM), q7 l0 l1 l2 M → ∀ {Q : Option Value → zM → Prop}, (∀ r M1, zRV (k7 l0 l1 l2 M) r M1 → Q r M1) → zWP 158 7 [some (.ref l0), some (.int l1), some (.int l2), none, none, none] [] M Q) (l0 : Nat) (l1 : Int32) (l2 : Int32) (M : zM) (hp : p158_20 n q7 l0 l1 l2 M) {Q : Option Value → zM → Prop} (hQ : ∀ r M1, zRV (b158_20 n k7 l0 l1 l2 M) r M1 → Q r M1) : zWP 158 20 [some (.ref l0), some (.int l1), some (.int l2), none, none, none] [] M Q := by
  unfold b158_20 at hQ
  unfold p158_20 at hp
  refine wp_go 2 (pc' := 7) (L' := [some (.ref l0), some (.int l1), some (.int (l2 + Int32.ofInt 1)), none, none, none]) (st' := []) (M' := M) rfl ?_
  exact h7 l0 l1 (l2 + Int32.ofInt 1) M hp hQ
def c158_7 (n : Nat) (k7 : Nat → Int32 → Int32 → zM → zM) (l0 : Nat) (l1 : Int32) (l2 : Int32) (M : zM) : zM := (if (12 : Int32) ≤ l2 then b158_34 n  l0 (b157_0 n l0 l1 (0 : Int32) (0 : Int32) (0 : Int32) M) else b158_20 n k7 l0 l1 l2 (zWI M (zQ M l0 41) l2.toNatClampNeg (0 : Int32)))
def d158_7 (n : Nat) (q7 : Nat → Int32 → Int32 → zM → Prop) (l0 : Nat) (l1 : Int32) (l2 : Int32) (M : zM) : Prop := (((12 : Int32) ≤ l2 → (zHasC 158 259 l0 M 157 4) ∧ ((p157_0 n l0 l1 (0 : Int32) (0 : Int32) (0 : Int32) M) ∧ (p158_34 n  l0 (b157_0 n l0 l1 (0 : Int32) (0 : Int32) (0 : Int32) M)))) ∧ (¬ (12 : Int32) ≤ l2 → (zHasQ 10 99 l0 M 41) ∧ ((zOkT 2 (zQ M l0 41) l2 M ∧ zNar .boolean (0 : Int32) = true) ∧ (p158_20 n q7 l0 l1 l2 (zWI M (zQ M l0 41) l2.toNatClampNeg (0 : Int32))))))
theorem t158_7 (n : Nat) (k7 : Nat → Int32 → Int32 → zM → zM) (q7 : Nat → Int32 → Int32 → zM → Prop) (h7 : ∀ (l0 : Nat) (l1 : Int32) (l2 : Int32) (M : zM), q7 l0 l1 l2 M → ∀ {Q : Option Value → zM → Prop}, (∀ r M1, zRV (k7 l0 l1 l2 M) r M1 → Q r M1) → zWP 158 7 [some (.ref l0), some (.int l1), some (.int l2), none, none, none] [] M Q) (l0 : Nat) (l1 : Int32) (l2 : Int32) (M : zM) (hp : d158_7 n q7 l0 l1 l2 M) {Q : Option Value → zM → Prop} (hQ : ∀ r M1, zRV (c158_7 n k7 l0 l1 l2 M) r M1 → Q r M1) : zWP 158 7 [some (.ref l0), some (.int l1), some (.int l2), none, none, none] [] M Q := by
  unfold c158_7 at hQ
  unfold d158_7 at hp
  refine wp_go 2 (pc' := 10) (L' := [some (.ref l0), some (.int l1), some (.int l2), none, none, none]) (st' := [.int (12 : Int32), .int l2]) (M' := M) rfl ?_
  refine wp_ic_ge (t := 26) rfl rfl (fun hc => ?_) (fun hc => ?_)
  · rw [if_pos hc] at hQ
    replace hp := hp.1 hc
    refine wp_go 5 (pc' := 31) (L' := [some (.ref l0), some (.int l1), some (.int l2), none, none, none]) (st' := [.int (0 : Int32), .int (0 : Int32), .int (0 : Int32), .int l1, .ref l0]) (M' := M) rfl ?_
    obtain ⟨hv, hp⟩ := hp
    obtain ⟨hc, hp⟩ := hp
    refine wp_callv (M1 := (b157_0 n l0 l1 (0 : Int32) (0 : Int32) (0 : Int32) M)) rfl rfl rfl (zInv_v (np := 4) rfl rfl hv rfl) (s157_0 n l0 l1 (0 : Int32) (0 : Int32) (0 : Int32) M hc (fun r M1 h => h)) ?_
    refine wp_le [some (.ref l0), none, none, none, none, none] (zLe_of (by simp [zLeB])) ?_
    exact s158_34 n    l0 (b157_0 n l0 l1 (0 : Int32) (0 : Int32) (0 : Int32) M) hp hQ
  · rw [if_neg hc] at hQ
    replace hp := hp.2 hc
    refine wp_go 1 (pc' := 14) (L' := [some (.ref l0), some (.int l1), some (.int l2), none, none, none]) (st' := [.ref l0]) (M' := M) rfl ?_
    obtain ⟨hc, hp⟩ := hp
    refine wq_getQ (j := 41) rfl hc ?_
    refine wp_go 2 (pc' := 19) (L' := [some (.ref l0), some (.int l1), some (.int l2), none, none, none]) (st' := [.int (0 : Int32), .int l2, .ref (zQ M l0 41)]) (M' := M) rfl ?_
    obtain ⟨hc, hp⟩ := hp
    refine wq_zast rfl hc ?_
    exact s158_20 n k7 q7 h7 l0 l1 l2 (zWI M (zQ M l0 41) l2.toNatClampNeg (0 : Int32)) hp hQ
def b158_7 (n : Nat)  : Nat → Nat → Int32 → Int32 → zM → zM
  | 0, _, _, _, M => M
  | k + 1, l0, l1, l2, M => c158_7 n  (b158_7 n  k) l0 l1 l2 M
def p158_7 (n : Nat)  : Nat → Nat → Int32 → Int32 → zM → Prop
  | 0, _, _, _, _ => False
  | k + 1, l0, l1, l2, M => d158_7 n  (p158_7 n  k) l0 l1 l2 M
theorem s158_7 (n : Nat)    : ∀ (k : Nat) (l0 : Nat) (l1 : Int32) (l2 : Int32) (M : zM), p158_7 n  k l0 l1 l2 M → ∀ {Q : Option Value → zM → Prop}, (∀ r M1, zRV (b158_7 n  k l0 l1 l2 M) r M1 → Q r M1) → zWP 158 7 [some (.ref l0), some (.int l1), some (.int l2), none, none, none] [] M Q
  | 0, _, _, _, _, h, _, _ => h.elim
  | k + 1, l0, l1, l2, M, h, _, hQ => t158_7 n  (b158_7 n  k)  (p158_7 n  k)  (s158_7 n    k) l0 l1 l2 M h hQ
def b158_5 (n : Nat)  (l0 : Nat) (l1 : Int32) (M : zM) : zM := b158_7 n  n l0 l1 (0 : Int32) M
def p158_5 (n : Nat)  (l0 : Nat) (l1 : Int32) (M : zM) : Prop := p158_7 n  n l0 l1 (0 : Int32) M
theorem s158_5 (n : Nat)    (l0 : Nat) (l1 : Int32) (M : zM) (hp : p158_5 n  l0 l1 M) {Q : Option Value → zM → Prop} (hQ : ∀ r M1, zRV (b158_5 n  l0 l1 M) r M1 → Q r M1) : zWP 158 5 [some (.ref l0), some (.int l1), none, none, none, none] [] M Q := by
  unfold b158_5 at hQ
  unfold p158_5 at hp
  refine wp_go 2 (pc' := 7) (L' := [some (.ref l0), some (.int l1), some (.int (0 : Int32)), none, none, none]) (st' := []) (M' := M) rfl ?_
  exact s158_7 n    n l0 l1 (0 : Int32) M hp hQ
def b158_0 (n : Nat)  (l0 : Nat) (l1 : Int32) (M : zM) : zM := b158_5 n  l0 l1 (zWI M l0 40 (0 : Int32))
def p158_0 (n : Nat)  (l0 : Nat) (l1 : Int32) (M : zM) : Prop := (zPutI 158 183 l0 M 40 (0 : Int32)) ∧ (p158_5 n  l0 l1 (zWI M l0 40 (0 : Int32)))
theorem s158_0 (n : Nat)    (l0 : Nat) (l1 : Int32) (M : zM) (hp : p158_0 n  l0 l1 M) {Q : Option Value → zM → Prop} (hQ : ∀ r M1, zRV (b158_0 n  l0 l1 M) r M1 → Q r M1) : zWP 158 0 [some (.ref l0), some (.int l1), none, none, none, none] [] M Q := by
  unfold b158_0 at hQ
  unfold p158_0 at hp
  refine wp_go 2 (pc' := 2) (L' := [some (.ref l0), some (.int l1), none, none, none, none]) (st' := [.int (0 : Int32), .ref l0]) (M' := M) rfl ?_
  obtain ⟨hc, hp⟩ := hp
  refine wq_putI (j := 40) rfl hc ?_
  exact s158_5 n    l0 l1 (zWI M l0 40 (0 : Int32)) hp hQ
/-! X12_inGroup -/
def b135_9 (n : Nat)  (l0 : Nat) (M : zM) : Int32 × zM := ((zI M l0 40), M)
def p135_9 (n : Nat)  (l0 : Nat) (M : zM) : Prop := (zHasI 10 183 l0 M 40) ∧ (True)
theorem s135_9 (n : Nat)    (l0 : Nat) (M : zM) (hp : p135_9 n  l0 M) {Q : Option Value → zM → Prop} (hQ : ∀ r M1, zRI (b135_9 n  l0 M) r M1 → Q r M1) : zWP 135 9 [some (.ref l0), none] [] M Q := by
  unfold b135_9 at hQ
  unfold p135_9 at hp
  refine wp_go 1 (pc' := 10) (L' := [some (.ref l0), none]) (st' := [.ref l0]) (M' := M) rfl ?_
  obtain ⟨hc, hp⟩ := hp
  refine wq_getI (j := 40) rfl hc ?_
  exact wp_ret (r := some (.int (zI M l0 40))) rfl rfl (hQ _ _ ⟨rfl, rfl⟩)
def b135_6 (n : Nat)  (l0 : Nat) (s0 : Nat) (s1 : Int32) (M : zM) : Int32 × zM := b135_9 n  l0 (b158_0 n s0 s1 M)
def p135_6 (n : Nat)  (l0 : Nat) (s0 : Nat) (s1 : Int32) (M : zM) : Prop := (zHasC 135 179 s0 M 158 1) ∧ ((p158_0 n s0 s1 M) ∧ (p135_9 n  l0 (b158_0 n s0 s1 M)))
theorem s135_6 (n : Nat)    (l0 : Nat) (s0 : Nat) (s1 : Int32) (M : zM) (hp : p135_6 n  l0 s0 s1 M) {Q : Option Value → zM → Prop} (hQ : ∀ r M1, zRI (b135_6 n  l0 s0 s1 M) r M1 → Q r M1) : zWP 135 6 [some (.ref l0), none] [.int s1, .ref s0] M Q := by
  unfold b135_6 at hQ
  unfold p135_6 at hp
  obtain ⟨hv, hp⟩ := hp
  obtain ⟨hc, hp⟩ := hp
  refine wp_callv (M1 := (b158_0 n s0 s1 M)) rfl rfl rfl (zInv_v (np := 1) rfl rfl hv rfl) (s158_0 n s0 s1 M hc (fun r M1 h => h)) ?_
  exact s135_9 n    l0 (b158_0 n s0 s1 M) hp hQ
def b135_0 (n : Nat)  (l0 : Nat) (l1 : Int32) (M : zM) : Int32 × zM := b135_6 n  l0 l0 (b155_0 n l0 l1 M).1 (b155_0 n l0 l1 M).2
def p135_0 (n : Nat)  (l0 : Nat) (l1 : Int32) (M : zM) : Prop := (zHasC 135 176 l0 M 155 1) ∧ ((p155_0 n l0 l1 M) ∧ (p135_6 n  l0 l0 (b155_0 n l0 l1 M).1 (b155_0 n l0 l1 M).2))
theorem s135_0 (n : Nat)    (l0 : Nat) (l1 : Int32) (M : zM) (hp : p135_0 n  l0 l1 M) {Q : Option Value → zM → Prop} (hQ : ∀ r M1, zRI (b135_0 n  l0 l1 M) r M1 → Q r M1) : zWP 135 0 [some (.ref l0), some (.int l1)] [] M Q := by
  unfold b135_0 at hQ
  unfold p135_0 at hp
  refine wp_go 3 (pc' := 3) (L' := [some (.ref l0), some (.int l1)]) (st' := [.int l1, .ref l0, .ref l0]) (M' := M) rfl ?_
  obtain ⟨hv, hp⟩ := hp
  obtain ⟨hc, hp⟩ := hp
  refine wp_calli (v := (b155_0 n l0 l1 M).1) (M1 := (b155_0 n l0 l1 M).2) rfl rfl rfl (zInv_v (np := 1) rfl rfl hv rfl) (s155_0 n l0 l1 M hc (fun r M1 h => h)) ?_
  refine wp_le [some (.ref l0), none] (zLe_of (by simp [zLeB])) ?_
  exact s135_6 n    l0 l0 (b155_0 n l0 l1 M).1 (b155_0 n l0 l1 M).2 hp hQ
/-! X12_thick -/
def b136_157 (n : Nat)   (M : zM) : Int32 × zM := ((1 : Int32), M)
def p136_157 (n : Nat)   (M : zM) : Prop := True
theorem s136_157 (n : Nat)     (M : zM) (hp : p136_157 n   M) {Q : Option Value → zM → Prop} (hQ : ∀ r M1, zRI (b136_157 n   M) r M1 → Q r M1) : zWP 136 157 [none, none, none, none, none, none, none] [] M Q := by
  unfold b136_157 at hQ
  unfold p136_157 at hp
  refine wp_go 1 (pc' := 158) (L' := [none, none, none, none, none, none, none]) (st' := [.int (1 : Int32)]) (M' := M) rfl ?_
  exact wp_ret (r := some (.int (1 : Int32))) rfl rfl (hQ _ _ ⟨rfl, rfl⟩)
def b136_143 (n : Nat)  (l0 : Nat) (l1 : Int32) (l5 : Int32) (s0 : Int32) (M : zM) : Int32 × zM := (if s0 ≤ (1 : Int32) then b136_157 n  (zWI M (zQ M l0 4) l1.toNatClampNeg l5) else ((0 : Int32), M))
def p136_143 (n : Nat)  (l0 : Nat) (l1 : Int32) (l5 : Int32) (s0 : Int32) (M : zM) : Prop := ((s0 ≤ (1 : Int32) → (zHasQ 10 20 l0 M 4) ∧ ((zOkT 1 (zQ M l0 4) l1 M) ∧ (p136_157 n  (zWI M (zQ M l0 4) l1.toNatClampNeg l5)))) ∧ (¬ s0 ≤ (1 : Int32) → True))
theorem s136_143 (n : Nat)    (l0 : Nat) (l1 : Int32) (l5 : Int32) (s0 : Int32) (M : zM) (hp : p136_143 n  l0 l1 l5 s0 M) {Q : Option Value → zM → Prop} (hQ : ∀ r M1, zRI (b136_143 n  l0 l1 l5 s0 M) r M1 → Q r M1) : zWP 136 143 [some (.ref l0), some (.int l1), none, none, none, some (.int l5), none] [.int s0] M Q := by
  unfold b136_143 at hQ
  unfold p136_143 at hp
  refine wp_go 1 (pc' := 144) (L' := [some (.ref l0), some (.int l1), none, none, none, some (.int l5), none]) (st' := [.int (1 : Int32), .int s0]) (M' := M) rfl ?_
  refine wp_ic_le (t := 149) rfl rfl (fun hc => ?_) (fun hc => ?_)
  · rw [if_pos hc] at hQ
    replace hp := hp.1 hc
    refine wp_go 1 (pc' := 150) (L' := [some (.ref l0), some (.int l1), none, none, none, some (.int l5), none]) (st' := [.ref l0]) (M' := M) rfl ?_
    obtain ⟨hc, hp⟩ := hp
    refine wq_getQ (j := 4) rfl hc ?_
    refine wp_go 2 (pc' := 156) (L' := [some (.ref l0), some (.int l1), none, none, none, some (.int l5), none]) (st' := [.int l5, .int l1, .ref (zQ M l0 4)]) (M' := M) rfl ?_
    obtain ⟨hc, hp⟩ := hp
    refine wq_iast rfl hc ?_
    refine wp_le [none, none, none, none, none, none, none] (zLe_of (by simp [zLeB])) ?_
    exact s136_157 n    (zWI M (zQ M l0 4) l1.toNatClampNeg l5) hp hQ
  · rw [if_neg hc] at hQ
    replace hp := hp.2 hc
    refine wp_go 1 (pc' := 148) (L' := [some (.ref l0), some (.int l1), none, none, none, some (.int l5), none]) (st' := [.int (0 : Int32)]) (M' := M) rfl ?_
    exact wp_ret (r := some (.int (0 : Int32))) rfl rfl (hQ _ _ ⟨rfl, rfl⟩)
def b136_138 (n : Nat)  (l0 : Nat) (l1 : Int32) (l5 : Int32) (M : zM) : Int32 × zM := b136_143 n  l0 l1 l5 (b135_0 n l0 l1 M).1 (b135_0 n l0 l1 M).2
def p136_138 (n : Nat)  (l0 : Nat) (l1 : Int32) (l5 : Int32) (M : zM) : Prop := (zHasC 136 192 l0 M 135 1) ∧ ((p135_0 n l0 l1 M) ∧ (p136_143 n  l0 l1 l5 (b135_0 n l0 l1 M).1 (b135_0 n l0 l1 M).2))
theorem s136_138 (n : Nat)    (l0 : Nat) (l1 : Int32) (l5 : Int32) (M : zM) (hp : p136_138 n  l0 l1 l5 M) {Q : Option Value → zM → Prop} (hQ : ∀ r M1, zRI (b136_138 n  l0 l1 l5 M) r M1 → Q r M1) : zWP 136 138 [some (.ref l0), some (.int l1), none, none, none, some (.int l5), none] [] M Q := by
  unfold b136_138 at hQ
  unfold p136_138 at hp
  refine wp_go 2 (pc' := 140) (L' := [some (.ref l0), some (.int l1), none, none, none, some (.int l5), none]) (st' := [.int l1, .ref l0]) (M' := M) rfl ?_
  obtain ⟨hv, hp⟩ := hp
  obtain ⟨hc, hp⟩ := hp
  refine wp_calli (v := (b135_0 n l0 l1 M).1) (M1 := (b135_0 n l0 l1 M).2) rfl rfl rfl (zInv_v (np := 1) rfl rfl hv rfl) (s135_0 n l0 l1 M hc (fun r M1 h => h)) ?_
  exact s136_143 n    l0 l1 l5 (b135_0 n l0 l1 M).1 (b135_0 n l0 l1 M).2 hp hQ
def b136_136 (n : Nat)  (l0 : Nat) (l1 : Int32) (s0 : Int32) (M : zM) : Int32 × zM := b136_138 n  l0 l1 s0 M
def p136_136 (n : Nat)  (l0 : Nat) (l1 : Int32) (s0 : Int32) (M : zM) : Prop := p136_138 n  l0 l1 s0 M
theorem s136_136 (n : Nat)    (l0 : Nat) (l1 : Int32) (s0 : Int32) (M : zM) (hp : p136_136 n  l0 l1 s0 M) {Q : Option Value → zM → Prop} (hQ : ∀ r M1, zRI (b136_136 n  l0 l1 s0 M) r M1 → Q r M1) : zWP 136 136 [some (.ref l0), some (.int l1), none, none, none, none, none] [.int s0] M Q := by
  unfold b136_136 at hQ
  unfold p136_136 at hp
  refine wp_go 1 (pc' := 138) (L' := [some (.ref l0), some (.int l1), none, none, none, some (.int s0), none]) (st' := []) (M' := M) rfl ?_
  exact s136_138 n    l0 l1 s0 M hp hQ
def b136_114 (n : Nat)  (l0 : Nat) (l1 : Int32) (l4 : Int32) (l6 : Int32) (M : zM) : Int32 × zM := (if l6 ≤ (40 : Int32) then b136_136 n  l0 l1 (((10 : Int64) * l4.toInt64) >>> (l6.toInt64 &&& 63)).toInt32 M else b136_136 n  l0 l1 (0 : Int32) M)
def p136_114 (n : Nat)  (l0 : Nat) (l1 : Int32) (l4 : Int32) (l6 : Int32) (M : zM) : Prop := ((l6 ≤ (40 : Int32) → p136_136 n  l0 l1 (((10 : Int64) * l4.toInt64) >>> (l6.toInt64 &&& 63)).toInt32 M) ∧ (¬ l6 ≤ (40 : Int32) → p136_136 n  l0 l1 (0 : Int32) M))
theorem s136_114 (n : Nat)    (l0 : Nat) (l1 : Int32) (l4 : Int32) (l6 : Int32) (M : zM) (hp : p136_114 n  l0 l1 l4 l6 M) {Q : Option Value → zM → Prop} (hQ : ∀ r M1, zRI (b136_114 n  l0 l1 l4 l6 M) r M1 → Q r M1) : zWP 136 114 [some (.ref l0), some (.int l1), none, none, some (.int l4), none, some (.int l6)] [] M Q := by
  unfold b136_114 at hQ
  unfold p136_114 at hp
  refine wp_go 2 (pc' := 118) (L' := [some (.ref l0), some (.int l1), none, none, some (.int l4), none, some (.int l6)]) (st' := [.int (40 : Int32), .int l6]) (M' := M) rfl ?_
  refine wp_ic_le (t := 125) rfl rfl (fun hc => ?_) (fun hc => ?_)
  · rw [if_pos hc] at hQ
    replace hp := hp.1 hc
    refine wp_go 5 (pc' := 134) (L' := [some (.ref l0), some (.int l1), none, none, some (.int l4), none, some (.int l6)]) (st' := [.int l6, .long ((10 : Int64) * l4.toInt64)]) (M' := M) rfl ?_
    refine wp_go 2 (pc' := 136) (L' := [some (.ref l0), some (.int l1), none, none, some (.int l4), none, some (.int l6)]) (st' := [.int (((10 : Int64) * l4.toInt64) >>> (l6.toInt64 &&& 63)).toInt32]) (M' := M) rfl ?_
    refine wp_le [some (.ref l0), some (.int l1), none, none, none, none, none] (zLe_of (by simp [zLeB])) ?_
    exact s136_136 n    l0 l1 (((10 : Int64) * l4.toInt64) >>> (l6.toInt64 &&& 63)).toInt32 M hp hQ
  · rw [if_neg hc] at hQ
    replace hp := hp.2 hc
    refine wp_go 2 (pc' := 136) (L' := [some (.ref l0), some (.int l1), none, none, some (.int l4), none, some (.int l6)]) (st' := [.int (0 : Int32)]) (M' := M) rfl ?_
    refine wp_le [some (.ref l0), some (.int l1), none, none, none, none, none] (zLe_of (by simp [zLeB])) ?_
    exact s136_136 n    l0 l1 (0 : Int32) M hp hQ
def b136_92 (n : Nat)  (l0 : Nat) (l1 : Int32) (l4 : Int32) (l6 : Int32) (M : zM) : Int32 × zM := (if (40 : Int32) ≤ l6 then b136_114 n  l0 l1 l4 l6 M else (if (lg_cmp l4.toInt64 ((1000 : Int64) <<< (l6.toInt64 &&& 63))) ≤ 0 then b136_114 n  l0 l1 l4 l6 M else ((0 : Int32), M)))
def p136_92 (n : Nat)  (l0 : Nat) (l1 : Int32) (l4 : Int32) (l6 : Int32) (M : zM) : Prop := (((40 : Int32) ≤ l6 → p136_114 n  l0 l1 l4 l6 M) ∧ (¬ (40 : Int32) ≤ l6 → (((lg_cmp l4.toInt64 ((1000 : Int64) <<< (l6.toInt64 &&& 63))) ≤ 0 → p136_114 n  l0 l1 l4 l6 M) ∧ (¬ (lg_cmp l4.toInt64 ((1000 : Int64) <<< (l6.toInt64 &&& 63))) ≤ 0 → True))))
theorem s136_92 (n : Nat)    (l0 : Nat) (l1 : Int32) (l4 : Int32) (l6 : Int32) (M : zM) (hp : p136_92 n  l0 l1 l4 l6 M) {Q : Option Value → zM → Prop} (hQ : ∀ r M1, zRI (b136_92 n  l0 l1 l4 l6 M) r M1 → Q r M1) : zWP 136 92 [some (.ref l0), some (.int l1), none, none, some (.int l4), none, some (.int l6)] [] M Q := by
  unfold b136_92 at hQ
  unfold p136_92 at hp
  refine wp_go 2 (pc' := 96) (L' := [some (.ref l0), some (.int l1), none, none, some (.int l4), none, some (.int l6)]) (st' := [.int (40 : Int32), .int l6]) (M' := M) rfl ?_
  refine wp_ic_ge (t := 114) rfl rfl (fun hc => ?_) (fun hc => ?_)
  · rw [if_pos hc] at hQ
    replace hp := hp.1 hc
    exact s136_114 n    l0 l1 l4 l6 M hp hQ
  · rw [if_neg hc] at hQ
    replace hp := hp.2 hc
    refine wp_go 5 (pc' := 108) (L' := [some (.ref l0), some (.int l1), none, none, some (.int l4), none, some (.int l6)]) (st' := [.long ((1000 : Int64) <<< (l6.toInt64 &&& 63)), .long l4.toInt64]) (M' := M) rfl ?_
    refine wp_go 1 (pc' := 109) (L' := [some (.ref l0), some (.int l1), none, none, some (.int l4), none, some (.int l6)]) (st' := [.int (lg_cmp l4.toInt64 ((1000 : Int64) <<< (l6.toInt64 &&& 63)))]) (M' := M) rfl ?_
    refine wp_if_le (t := 114) rfl rfl (fun hc => ?_) (fun hc => ?_)
    · rw [if_pos hc] at hQ
      replace hp := hp.1 hc
      exact s136_114 n    l0 l1 l4 l6 M hp hQ
    · rw [if_neg hc] at hQ
      replace hp := hp.2 hc
      refine wp_go 1 (pc' := 113) (L' := [some (.ref l0), some (.int l1), none, none, some (.int l4), none, some (.int l6)]) (st' := [.int (0 : Int32)]) (M' := M) rfl ?_
      exact wp_ret (r := some (.int (0 : Int32))) rfl rfl (hQ _ _ ⟨rfl, rfl⟩)
def b136_90 (n : Nat)   (M : zM) : Int32 × zM := ((0 : Int32), M)
def p136_90 (n : Nat)   (M : zM) : Prop := True
theorem s136_90 (n : Nat)     (M : zM) (hp : p136_90 n   M) {Q : Option Value → zM → Prop} (hQ : ∀ r M1, zRI (b136_90 n   M) r M1 → Q r M1) : zWP 136 90 [none, none, none, none, none, none, none] [] M Q := by
  unfold b136_90 at hQ
  unfold p136_90 at hp
  refine wp_go 1 (pc' := 91) (L' := [none, none, none, none, none, none, none]) (st' := [.int (0 : Int32)]) (M' := M) rfl ?_
  exact wp_ret (r := some (.int (0 : Int32))) rfl rfl (hQ _ _ ⟨rfl, rfl⟩)
def b136_73 (n : Nat)  (l0 : Nat) (l1 : Int32) (l2 : Int32) (l4 : Int32) (s0 : Int32) (s1 : Int32) (M : zM) : Int32 × zM := (if l4 = 0 then b136_92 n  l0 l1 l4 (s0 - s1) M else (if l2 < 0 then b136_90 n  M else (if 0 < (s0 - s1) then b136_92 n  l0 l1 l4 (s0 - s1) M else b136_90 n  M)))
def p136_73 (n : Nat)  (l0 : Nat) (l1 : Int32) (l2 : Int32) (l4 : Int32) (s0 : Int32) (s1 : Int32) (M : zM) : Prop := ((l4 = 0 → p136_92 n  l0 l1 l4 (s0 - s1) M) ∧ (¬ l4 = 0 → ((l2 < 0 → p136_90 n  M) ∧ (¬ l2 < 0 → ((0 < (s0 - s1) → p136_92 n  l0 l1 l4 (s0 - s1) M) ∧ (¬ 0 < (s0 - s1) → p136_90 n  M))))))
theorem s136_73 (n : Nat)    (l0 : Nat) (l1 : Int32) (l2 : Int32) (l4 : Int32) (s0 : Int32) (s1 : Int32) (M : zM) (hp : p136_73 n  l0 l1 l2 l4 s0 s1 M) {Q : Option Value → zM → Prop} (hQ : ∀ r M1, zRI (b136_73 n  l0 l1 l2 l4 s0 s1 M) r M1 → Q r M1) : zWP 136 73 [some (.ref l0), some (.int l1), some (.int l2), none, some (.int l4), none, none] [.int s1, .int s0] M Q := by
  unfold b136_73 at hQ
  unfold p136_73 at hp
  refine wp_go 3 (pc' := 78) (L' := [some (.ref l0), some (.int l1), some (.int l2), none, some (.int l4), none, some (.int (s0 - s1))]) (st' := [.int l4]) (M' := M) rfl ?_
  refine wp_if_eq (t := 92) rfl rfl (fun hc => ?_) (fun hc => ?_)
  · rw [if_pos hc] at hQ
    replace hp := hp.1 hc
    refine wp_le [some (.ref l0), some (.int l1), none, none, some (.int l4), none, some (.int (s0 - s1))] (zLe_of (by simp [zLeB])) ?_
    exact s136_92 n    l0 l1 l4 (s0 - s1) M hp hQ
  · rw [if_neg hc] at hQ
    replace hp := hp.2 hc
    refine wp_go 1 (pc' := 82) (L' := [some (.ref l0), some (.int l1), some (.int l2), none, some (.int l4), none, some (.int (s0 - s1))]) (st' := [.int l2]) (M' := M) rfl ?_
    refine wp_if_lt (t := 90) rfl rfl (fun hc => ?_) (fun hc => ?_)
    · rw [if_pos hc] at hQ
      replace hp := hp.1 hc
      refine wp_le [none, none, none, none, none, none, none] (zLe_of (by simp [zLeB])) ?_
      exact s136_90 n    M hp hQ
    · rw [if_neg hc] at hQ
      replace hp := hp.2 hc
      refine wp_go 1 (pc' := 87) (L' := [some (.ref l0), some (.int l1), some (.int l2), none, some (.int l4), none, some (.int (s0 - s1))]) (st' := [.int (s0 - s1)]) (M' := M) rfl ?_
      refine wp_if_gt (t := 92) rfl rfl (fun hc => ?_) (fun hc => ?_)
      · rw [if_pos hc] at hQ
        replace hp := hp.1 hc
        refine wp_le [some (.ref l0), some (.int l1), none, none, some (.int l4), none, some (.int (s0 - s1))] (zLe_of (by simp [zLeB])) ?_
        exact s136_92 n    l0 l1 l4 (s0 - s1) M hp hQ
      · rw [if_neg hc] at hQ
        replace hp := hp.2 hc
        refine wp_le [none, none, none, none, none, none, none] (zLe_of (by simp [zLeB])) ?_
        exact s136_90 n    M hp hQ
def b136_61 (n : Nat)  (l0 : Nat) (l1 : Int32) (l2 : Int32) (l3 : Int32) (l4 : Int32) (M : zM) : Int32 × zM := (if l3 = 0 then b136_73 n  l0 l1 l2 l4 (150 : Int32) (1 : Int32) M else b136_73 n  l0 l1 l2 l4 (150 : Int32) l3 M)
def p136_61 (n : Nat)  (l0 : Nat) (l1 : Int32) (l2 : Int32) (l3 : Int32) (l4 : Int32) (M : zM) : Prop := ((l3 = 0 → p136_73 n  l0 l1 l2 l4 (150 : Int32) (1 : Int32) M) ∧ (¬ l3 = 0 → p136_73 n  l0 l1 l2 l4 (150 : Int32) l3 M))
theorem s136_61 (n : Nat)    (l0 : Nat) (l1 : Int32) (l2 : Int32) (l3 : Int32) (l4 : Int32) (M : zM) (hp : p136_61 n  l0 l1 l2 l3 l4 M) {Q : Option Value → zM → Prop} (hQ : ∀ r M1, zRI (b136_61 n  l0 l1 l2 l3 l4 M) r M1 → Q r M1) : zWP 136 61 [some (.ref l0), some (.int l1), some (.int l2), some (.int l3), some (.int l4), none, none] [] M Q := by
  unfold b136_61 at hQ
  unfold p136_61 at hp
  refine wp_go 2 (pc' := 65) (L' := [some (.ref l0), some (.int l1), some (.int l2), some (.int l3), some (.int l4), none, none]) (st' := [.int l3, .int (150 : Int32)]) (M' := M) rfl ?_
  refine wp_if_ne (t := 72) rfl rfl (fun hc => ?_) (fun hc => ?_)
  · rw [if_neg hc] at hQ
    replace hp := hp.2 hc
    refine wp_go 1 (pc' := 73) (L' := [some (.ref l0), some (.int l1), some (.int l2), some (.int l3), some (.int l4), none, none]) (st' := [.int l3, .int (150 : Int32)]) (M' := M) rfl ?_
    refine wp_le [some (.ref l0), some (.int l1), some (.int l2), none, some (.int l4), none, none] (zLe_of (by simp [zLeB])) ?_
    exact s136_73 n    l0 l1 l2 l4 (150 : Int32) l3 M hp hQ
  · rw [if_pos hc] at hQ
    replace hp := hp.1 hc
    refine wp_go 2 (pc' := 73) (L' := [some (.ref l0), some (.int l1), some (.int l2), some (.int l3), some (.int l4), none, none]) (st' := [.int (1 : Int32), .int (150 : Int32)]) (M' := M) rfl ?_
    refine wp_le [some (.ref l0), some (.int l1), some (.int l2), none, some (.int l4), none, none] (zLe_of (by simp [zLeB])) ?_
    exact s136_73 n    l0 l1 l2 l4 (150 : Int32) (1 : Int32) M hp hQ
def b136_10 (n : Nat)  (l0 : Nat) (l1 : Int32) (l2 : Int32) (s0 : Int32) (M : zM) : Int32 × zM := (if s0 = 0 then ((0 : Int32), M) else (if ((l2 >>> ((23 : Int32) &&& 31)) &&& (255 : Int32)) = (255 : Int32) then (if (l2 &&& (8388607 : Int32)) = 0 then ((0 : Int32), M) else b136_138 n  l0 l1 ((-1) : Int32) M) else (if ((l2 >>> ((23 : Int32) &&& 31)) &&& (255 : Int32)) ≤ 0 then b136_61 n  l0 l1 l2 ((l2 >>> ((23 : Int32) &&& 31)) &&& (255 : Int32)) (l2 &&& (8388607 : Int32)) M else b136_61 n  l0 l1 l2 ((l2 >>> ((23 : Int32) &&& 31)) &&& (255 : Int32)) ((l2 &&& (8388607 : Int32)) + (8388608 : Int32)) M)))
def p136_10 (n : Nat)  (l0 : Nat) (l1 : Int32) (l2 : Int32) (s0 : Int32) (M : zM) : Prop := ((s0 = 0 → True) ∧ (¬ s0 = 0 → ((((l2 >>> ((23 : Int32) &&& 31)) &&& (255 : Int32)) = (255 : Int32) → (((l2 &&& (8388607 : Int32)) = 0 → True) ∧ (¬ (l2 &&& (8388607 : Int32)) = 0 → p136_138 n  l0 l1 ((-1) : Int32) M))) ∧ (¬ ((l2 >>> ((23 : Int32) &&& 31)) &&& (255 : Int32)) = (255 : Int32) → ((((l2 >>> ((23 : Int32) &&& 31)) &&& (255 : Int32)) ≤ 0 → p136_61 n  l0 l1 l2 ((l2 >>> ((23 : Int32) &&& 31)) &&& (255 : Int32)) (l2 &&& (8388607 : Int32)) M) ∧ (¬ ((l2 >>> ((23 : Int32) &&& 31)) &&& (255 : Int32)) ≤ 0 → p136_61 n  l0 l1 l2 ((l2 >>> ((23 : Int32) &&& 31)) &&& (255 : Int32)) ((l2 &&& (8388607 : Int32)) + (8388608 : Int32)) M))))))
theorem s136_10 (n : Nat)    (l0 : Nat) (l1 : Int32) (l2 : Int32) (s0 : Int32) (M : zM) (hp : p136_10 n  l0 l1 l2 s0 M) {Q : Option Value → zM → Prop} (hQ : ∀ r M1, zRI (b136_10 n  l0 l1 l2 s0 M) r M1 → Q r M1) : zWP 136 10 [some (.ref l0), some (.int l1), some (.int l2), none, none, none, none] [.int s0] M Q := by
  unfold b136_10 at hQ
  unfold p136_10 at hp
  refine wp_if_ne (t := 15) rfl rfl (fun hc => ?_) (fun hc => ?_)
  · rw [if_neg hc] at hQ
    replace hp := hp.2 hc
    refine wp_go 5 (pc' := 23) (L' := [some (.ref l0), some (.int l1), some (.int l2), none, none, none, none]) (st' := [.int ((l2 >>> ((23 : Int32) &&& 31)) &&& (255 : Int32))]) (M' := M) rfl ?_
    refine wp_go 5 (pc' := 30) (L' := [some (.ref l0), some (.int l1), some (.int l2), some (.int ((l2 >>> ((23 : Int32) &&& 31)) &&& (255 : Int32))), some (.int (l2 &&& (8388607 : Int32))), none, none]) (st' := []) (M' := M) rfl ?_
    refine wp_go 2 (pc' := 34) (L' := [some (.ref l0), some (.int l1), some (.int l2), some (.int ((l2 >>> ((23 : Int32) &&& 31)) &&& (255 : Int32))), some (.int (l2 &&& (8388607 : Int32))), none, none]) (st' := [.int (255 : Int32), .int ((l2 >>> ((23 : Int32) &&& 31)) &&& (255 : Int32))]) (M' := M) rfl ?_
    refine wp_ic_ne (t := 50) rfl rfl (fun hc => ?_) (fun hc => ?_)
    · rw [if_neg hc] at hQ
      replace hp := hp.2 hc
      refine wp_go 1 (pc' := 51) (L' := [some (.ref l0), some (.int l1), some (.int l2), some (.int ((l2 >>> ((23 : Int32) &&& 31)) &&& (255 : Int32))), some (.int (l2 &&& (8388607 : Int32))), none, none]) (st' := [.int ((l2 >>> ((23 : Int32) &&& 31)) &&& (255 : Int32))]) (M' := M) rfl ?_
      refine wp_if_le (t := 61) rfl rfl (fun hc => ?_) (fun hc => ?_)
      · rw [if_pos hc] at hQ
        replace hp := hp.1 hc
        exact s136_61 n    l0 l1 l2 ((l2 >>> ((23 : Int32) &&& 31)) &&& (255 : Int32)) (l2 &&& (8388607 : Int32)) M hp hQ
      · rw [if_neg hc] at hQ
        replace hp := hp.2 hc
        refine wp_go 4 (pc' := 61) (L' := [some (.ref l0), some (.int l1), some (.int l2), some (.int ((l2 >>> ((23 : Int32) &&& 31)) &&& (255 : Int32))), some (.int ((l2 &&& (8388607 : Int32)) + (8388608 : Int32))), none, none]) (st' := []) (M' := M) rfl ?_
        exact s136_61 n    l0 l1 l2 ((l2 >>> ((23 : Int32) &&& 31)) &&& (255 : Int32)) ((l2 &&& (8388607 : Int32)) + (8388608 : Int32)) M hp hQ
    · rw [if_pos hc] at hQ
      replace hp := hp.1 hc
      refine wp_go 1 (pc' := 39) (L' := [some (.ref l0), some (.int l1), some (.int l2), some (.int ((l2 >>> ((23 : Int32) &&& 31)) &&& (255 : Int32))), some (.int (l2 &&& (8388607 : Int32))), none, none]) (st' := [.int (l2 &&& (8388607 : Int32))]) (M' := M) rfl ?_
      refine wp_if_ne (t := 44) rfl rfl (fun hc => ?_) (fun hc => ?_)
      · rw [if_neg hc] at hQ
        replace hp := hp.2 hc
        refine wp_go 3 (pc' := 138) (L' := [some (.ref l0), some (.int l1), some (.int l2), some (.int ((l2 >>> ((23 : Int32) &&& 31)) &&& (255 : Int32))), some (.int (l2 &&& (8388607 : Int32))), some (.int ((-1) : Int32)), none]) (st' := []) (M' := M) rfl ?_
        refine wp_le [some (.ref l0), some (.int l1), none, none, none, some (.int ((-1) : Int32)), none] (zLe_of (by simp [zLeB])) ?_
        exact s136_138 n    l0 l1 ((-1) : Int32) M hp hQ
      · rw [if_pos hc] at hQ
        replace hp := hp.1 hc
        refine wp_go 1 (pc' := 43) (L' := [some (.ref l0), some (.int l1), some (.int l2), some (.int ((l2 >>> ((23 : Int32) &&& 31)) &&& (255 : Int32))), some (.int (l2 &&& (8388607 : Int32))), none, none]) (st' := [.int (0 : Int32)]) (M' := M) rfl ?_
        exact wp_ret (r := some (.int (0 : Int32))) rfl rfl (hQ _ _ ⟨rfl, rfl⟩)
  · rw [if_pos hc] at hQ
    replace hp := hp.1 hc
    refine wp_go 1 (pc' := 14) (L' := [some (.ref l0), some (.int l1), some (.int l2), none, none, none, none]) (st' := [.int (0 : Int32)]) (M' := M) rfl ?_
    exact wp_ret (r := some (.int (0 : Int32))) rfl rfl (hQ _ _ ⟨rfl, rfl⟩)
def b136_5 (n : Nat)  (l0 : Nat) (l1 : Int32) (l2 : Int32) (M : zM) : Int32 × zM := b136_10 n  l0 l1 l2 (b126_0 n l0 l1 M).1 (b126_0 n l0 l1 M).2
def p136_5 (n : Nat)  (l0 : Nat) (l1 : Int32) (l2 : Int32) (M : zM) : Prop := (zHasC 136 151 l0 M 126 1) ∧ ((p126_0 n l0 l1 M) ∧ (p136_10 n  l0 l1 l2 (b126_0 n l0 l1 M).1 (b126_0 n l0 l1 M).2))
theorem s136_5 (n : Nat)    (l0 : Nat) (l1 : Int32) (l2 : Int32) (M : zM) (hp : p136_5 n  l0 l1 l2 M) {Q : Option Value → zM → Prop} (hQ : ∀ r M1, zRI (b136_5 n  l0 l1 l2 M) r M1 → Q r M1) : zWP 136 5 [some (.ref l0), some (.int l1), some (.int l2), none, none, none, none] [] M Q := by
  unfold b136_5 at hQ
  unfold p136_5 at hp
  refine wp_go 2 (pc' := 7) (L' := [some (.ref l0), some (.int l1), some (.int l2), none, none, none, none]) (st' := [.int l1, .ref l0]) (M' := M) rfl ?_
  obtain ⟨hv, hp⟩ := hp
  obtain ⟨hc, hp⟩ := hp
  refine wp_calli (v := (b126_0 n l0 l1 M).1) (M1 := (b126_0 n l0 l1 M).2) rfl rfl rfl (zInv_v (np := 1) rfl rfl hv rfl) (s126_0 n l0 l1 M hc (fun r M1 h => h)) ?_
  exact s136_10 n    l0 l1 l2 (b126_0 n l0 l1 M).1 (b126_0 n l0 l1 M).2 hp hQ
def b136_0 (n : Nat)  (l0 : Nat) (l1 : Int32) (l2 : Int32) (M : zM) : Int32 × zM := b136_5 n  l0 l1 l2 (zWI M l0 26 (0 : Int32))
def p136_0 (n : Nat)  (l0 : Nat) (l1 : Int32) (l2 : Int32) (M : zM) : Prop := (zPutI 136 138 l0 M 26 (0 : Int32)) ∧ (p136_5 n  l0 l1 l2 (zWI M l0 26 (0 : Int32)))
theorem s136_0 (n : Nat)    (l0 : Nat) (l1 : Int32) (l2 : Int32) (M : zM) (hp : p136_0 n  l0 l1 l2 M) {Q : Option Value → zM → Prop} (hQ : ∀ r M1, zRI (b136_0 n  l0 l1 l2 M) r M1 → Q r M1) : zWP 136 0 [some (.ref l0), some (.int l1), some (.int l2), none, none, none, none] [] M Q := by
  unfold b136_0 at hQ
  unfold p136_0 at hp
  refine wp_go 2 (pc' := 2) (L' := [some (.ref l0), some (.int l1), some (.int l2), none, none, none, none]) (st' := [.int (0 : Int32), .ref l0]) (M' := M) rfl ?_
  obtain ⟨hc, hp⟩ := hp
  refine wq_putI (j := 26) rfl hc ?_
  exact s136_5 n    l0 l1 l2 (zWI M l0 26 (0 : Int32)) hp hQ
/-! X12_circle -/
def b137_44 (n : Nat)   (M : zM) : Int32 × zM := ((0 : Int32), M)
def p137_44 (n : Nat)   (M : zM) : Prop := True
theorem s137_44 (n : Nat)     (M : zM) (hp : p137_44 n   M) {Q : Option Value → zM → Prop} (hQ : ∀ r M1, zRI (b137_44 n   M) r M1 → Q r M1) : zWP 137 44 [none, none, none] [] M Q := by
  unfold b137_44 at hQ
  unfold p137_44 at hp
  refine wp_go 1 (pc' := 45) (L' := [none, none, none]) (st' := [.int (0 : Int32)]) (M' := M) rfl ?_
  exact wp_ret (r := some (.int (0 : Int32))) rfl rfl (hQ _ _ ⟨rfl, rfl⟩)
def b137_53 (n : Nat)   (M : zM) : Int32 × zM := ((1 : Int32), M)
def p137_53 (n : Nat)   (M : zM) : Prop := True
theorem s137_53 (n : Nat)     (M : zM) (hp : p137_53 n   M) {Q : Option Value → zM → Prop} (hQ : ∀ r M1, zRI (b137_53 n   M) r M1 → Q r M1) : zWP 137 53 [none, none, none] [] M Q := by
  unfold b137_53 at hQ
  unfold p137_53 at hp
  refine wp_go 1 (pc' := 54) (L' := [none, none, none]) (st' := [.int (1 : Int32)]) (M' := M) rfl ?_
  exact wp_ret (r := some (.int (1 : Int32))) rfl rfl (hQ _ _ ⟨rfl, rfl⟩)
def b137_40 (n : Nat)  (l0 : Nat) (l1 : Int32) (l2 : Int32) (s0 : Int32) (M : zM) : Int32 × zM := (if s0 ≤ (1 : Int32) then b137_53 n  (zWI M (zQ M l0 5) l1.toNatClampNeg l2) else b137_44 n  M)
def p137_40 (n : Nat)  (l0 : Nat) (l1 : Int32) (l2 : Int32) (s0 : Int32) (M : zM) : Prop := ((s0 ≤ (1 : Int32) → (zHasQ 10 23 l0 M 5) ∧ ((zOkT 1 (zQ M l0 5) l1 M) ∧ (p137_53 n  (zWI M (zQ M l0 5) l1.toNatClampNeg l2)))) ∧ (¬ s0 ≤ (1 : Int32) → p137_44 n  M))
theorem s137_40 (n : Nat)    (l0 : Nat) (l1 : Int32) (l2 : Int32) (s0 : Int32) (M : zM) (hp : p137_40 n  l0 l1 l2 s0 M) {Q : Option Value → zM → Prop} (hQ : ∀ r M1, zRI (b137_40 n  l0 l1 l2 s0 M) r M1 → Q r M1) : zWP 137 40 [some (.ref l0), some (.int l1), some (.int l2)] [.int s0] M Q := by
  unfold b137_40 at hQ
  unfold p137_40 at hp
  refine wp_go 1 (pc' := 41) (L' := [some (.ref l0), some (.int l1), some (.int l2)]) (st' := [.int (1 : Int32), .int s0]) (M' := M) rfl ?_
  refine wp_ic_le (t := 46) rfl rfl (fun hc => ?_) (fun hc => ?_)
  · rw [if_pos hc] at hQ
    replace hp := hp.1 hc
    refine wp_go 1 (pc' := 47) (L' := [some (.ref l0), some (.int l1), some (.int l2)]) (st' := [.ref l0]) (M' := M) rfl ?_
    obtain ⟨hc, hp⟩ := hp
    refine wq_getQ (j := 5) rfl hc ?_
    refine wp_go 2 (pc' := 52) (L' := [some (.ref l0), some (.int l1), some (.int l2)]) (st' := [.int l2, .int l1, .ref (zQ M l0 5)]) (M' := M) rfl ?_
    obtain ⟨hc, hp⟩ := hp
    refine wq_iast rfl hc ?_
    refine wp_le [none, none, none] (zLe_of (by simp [zLeB])) ?_
    exact s137_53 n    (zWI M (zQ M l0 5) l1.toNatClampNeg l2) hp hQ
  · rw [if_neg hc] at hQ
    replace hp := hp.2 hc
    refine wp_le [none, none, none] (zLe_of (by simp [zLeB])) ?_
    exact s137_44 n    M hp hQ
def b137_10 (n : Nat)  (l0 : Nat) (l1 : Int32) (l2 : Int32) (s0 : Int32) (M : zM) : Int32 × zM := (if s0 = 0 then b137_44 n  M else (if l2 < (1 : Int32) then b137_44 n  M else (if (200 : Int32) < l2 then b137_44 n  M else (if (zI M (zQ M l0 1) l1.toNatClampNeg) = (1 : Int32) then b137_40 n  l0 l1 l2 (b135_0 n l0 l1 M).1 (b135_0 n l0 l1 M).2 else b137_44 n  M))))
def p137_10 (n : Nat)  (l0 : Nat) (l1 : Int32) (l2 : Int32) (s0 : Int32) (M : zM) : Prop := ((s0 = 0 → p137_44 n  M) ∧ (¬ s0 = 0 → ((l2 < (1 : Int32) → p137_44 n  M) ∧ (¬ l2 < (1 : Int32) → (((200 : Int32) < l2 → p137_44 n  M) ∧ (¬ (200 : Int32) < l2 → (zHasQ 10 7 l0 M 1) ∧ ((zOkI (zQ M l0 1) l1 M) ∧ ((((zI M (zQ M l0 1) l1.toNatClampNeg) = (1 : Int32) → (zHasC 137 192 l0 M 135 1) ∧ ((p135_0 n l0 l1 M) ∧ (p137_40 n  l0 l1 l2 (b135_0 n l0 l1 M).1 (b135_0 n l0 l1 M).2))) ∧ (¬ (zI M (zQ M l0 1) l1.toNatClampNeg) = (1 : Int32) → p137_44 n  M))))))))))
theorem s137_10 (n : Nat)    (l0 : Nat) (l1 : Int32) (l2 : Int32) (s0 : Int32) (M : zM) (hp : p137_10 n  l0 l1 l2 s0 M) {Q : Option Value → zM → Prop} (hQ : ∀ r M1, zRI (b137_10 n  l0 l1 l2 s0 M) r M1 → Q r M1) : zWP 137 10 [some (.ref l0), some (.int l1), some (.int l2)] [.int s0] M Q := by
  unfold b137_10 at hQ
  unfold p137_10 at hp
  refine wp_if_eq (t := 44) rfl rfl (fun hc => ?_) (fun hc => ?_)
  · rw [if_pos hc] at hQ
    replace hp := hp.1 hc
    refine wp_le [none, none, none] (zLe_of (by simp [zLeB])) ?_
    exact s137_44 n    M hp hQ
  · rw [if_neg hc] at hQ
    replace hp := hp.2 hc
    refine wp_go 2 (pc' := 15) (L' := [some (.ref l0), some (.int l1), some (.int l2)]) (st' := [.int (1 : Int32), .int l2]) (M' := M) rfl ?_
    refine wp_ic_lt (t := 44) rfl rfl (fun hc => ?_) (fun hc => ?_)
    · rw [if_pos hc] at hQ
      replace hp := hp.1 hc
      refine wp_le [none, none, none] (zLe_of (by simp [zLeB])) ?_
      exact s137_44 n    M hp hQ
    · rw [if_neg hc] at hQ
      replace hp := hp.2 hc
      refine wp_go 2 (pc' := 22) (L' := [some (.ref l0), some (.int l1), some (.int l2)]) (st' := [.int (200 : Int32), .int l2]) (M' := M) rfl ?_
      refine wp_ic_gt (t := 44) rfl rfl (fun hc => ?_) (fun hc => ?_)
      · rw [if_pos hc] at hQ
        replace hp := hp.1 hc
        refine wp_le [none, none, none] (zLe_of (by simp [zLeB])) ?_
        exact s137_44 n    M hp hQ
      · rw [if_neg hc] at hQ
        replace hp := hp.2 hc
        refine wp_go 1 (pc' := 26) (L' := [some (.ref l0), some (.int l1), some (.int l2)]) (st' := [.ref l0]) (M' := M) rfl ?_
        obtain ⟨hc, hp⟩ := hp
        refine wq_getQ (j := 1) rfl hc ?_
        refine wp_go 1 (pc' := 30) (L' := [some (.ref l0), some (.int l1), some (.int l2)]) (st' := [.int l1, .ref (zQ M l0 1)]) (M' := M) rfl ?_
        obtain ⟨hc, hp⟩ := hp
        refine wq_iald rfl hc ?_
        refine wp_go 1 (pc' := 32) (L' := [some (.ref l0), some (.int l1), some (.int l2)]) (st' := [.int (1 : Int32), .int (zI M (zQ M l0 1) l1.toNatClampNeg)]) (M' := M) rfl ?_
        refine wp_ic_ne (t := 44) rfl rfl (fun hc => ?_) (fun hc => ?_)
        · rw [if_neg hc] at hQ
          replace hp := hp.2 hc
          refine wp_le [none, none, none] (zLe_of (by simp [zLeB])) ?_
          exact s137_44 n    M hp hQ
        · rw [if_pos hc] at hQ
          replace hp := hp.1 hc
          refine wp_go 2 (pc' := 37) (L' := [some (.ref l0), some (.int l1), some (.int l2)]) (st' := [.int l1, .ref l0]) (M' := M) rfl ?_
          obtain ⟨hv, hp⟩ := hp
          obtain ⟨hc, hp⟩ := hp
          refine wp_calli (v := (b135_0 n l0 l1 M).1) (M1 := (b135_0 n l0 l1 M).2) rfl rfl rfl (zInv_v (np := 1) rfl rfl hv rfl) (s135_0 n l0 l1 M hc (fun r M1 h => h)) ?_
          exact s137_40 n    l0 l1 l2 (b135_0 n l0 l1 M).1 (b135_0 n l0 l1 M).2 hp hQ
def b137_5 (n : Nat)  (l0 : Nat) (l1 : Int32) (l2 : Int32) (M : zM) : Int32 × zM := b137_10 n  l0 l1 l2 (b126_0 n l0 l1 M).1 (b126_0 n l0 l1 M).2
def p137_5 (n : Nat)  (l0 : Nat) (l1 : Int32) (l2 : Int32) (M : zM) : Prop := (zHasC 137 151 l0 M 126 1) ∧ ((p126_0 n l0 l1 M) ∧ (p137_10 n  l0 l1 l2 (b126_0 n l0 l1 M).1 (b126_0 n l0 l1 M).2))
theorem s137_5 (n : Nat)    (l0 : Nat) (l1 : Int32) (l2 : Int32) (M : zM) (hp : p137_5 n  l0 l1 l2 M) {Q : Option Value → zM → Prop} (hQ : ∀ r M1, zRI (b137_5 n  l0 l1 l2 M) r M1 → Q r M1) : zWP 137 5 [some (.ref l0), some (.int l1), some (.int l2)] [] M Q := by
  unfold b137_5 at hQ
  unfold p137_5 at hp
  refine wp_go 2 (pc' := 7) (L' := [some (.ref l0), some (.int l1), some (.int l2)]) (st' := [.int l1, .ref l0]) (M' := M) rfl ?_
  obtain ⟨hv, hp⟩ := hp
  obtain ⟨hc, hp⟩ := hp
  refine wp_calli (v := (b126_0 n l0 l1 M).1) (M1 := (b126_0 n l0 l1 M).2) rfl rfl rfl (zInv_v (np := 1) rfl rfl hv rfl) (s126_0 n l0 l1 M hc (fun r M1 h => h)) ?_
  exact s137_10 n    l0 l1 l2 (b126_0 n l0 l1 M).1 (b126_0 n l0 l1 M).2 hp hQ
def b137_0 (n : Nat)  (l0 : Nat) (l1 : Int32) (l2 : Int32) (M : zM) : Int32 × zM := b137_5 n  l0 l1 l2 (zWI M l0 26 (0 : Int32))
def p137_0 (n : Nat)  (l0 : Nat) (l1 : Int32) (l2 : Int32) (M : zM) : Prop := (zPutI 137 138 l0 M 26 (0 : Int32)) ∧ (p137_5 n  l0 l1 l2 (zWI M l0 26 (0 : Int32)))
theorem s137_0 (n : Nat)    (l0 : Nat) (l1 : Int32) (l2 : Int32) (M : zM) (hp : p137_0 n  l0 l1 l2 M) {Q : Option Value → zM → Prop} (hQ : ∀ r M1, zRI (b137_0 n  l0 l1 l2 M) r M1 → Q r M1) : zWP 137 0 [some (.ref l0), some (.int l1), some (.int l2)] [] M Q := by
  unfold b137_0 at hQ
  unfold p137_0 at hp
  refine wp_go 2 (pc' := 2) (L' := [some (.ref l0), some (.int l1), some (.int l2)]) (st' := [.int (0 : Int32), .ref l0]) (M' := M) rfl ?_
  obtain ⟨hc, hp⟩ := hp
  refine wq_putI (j := 26) rfl hc ?_
  exact s137_5 n    l0 l1 l2 (zWI M l0 26 (0 : Int32)) hp hQ
/-! X12_tell -/
def b138_70 (n : Nat)   (M : zM) : Int32 × zM := ((0 : Int32), M)
def p138_70 (n : Nat)   (M : zM) : Prop := True
theorem s138_70 (n : Nat)     (M : zM) (hp : p138_70 n   M) {Q : Option Value → zM → Prop} (hQ : ∀ r M1, zRI (b138_70 n   M) r M1 → Q r M1) : zWP 138 70 [none, none, none, none, none] [] M Q := by
  unfold b138_70 at hQ
  unfold p138_70 at hp
  refine wp_go 1 (pc' := 71) (L' := [none, none, none, none, none]) (st' := [.int (0 : Int32)]) (M' := M) rfl ?_
  exact wp_ret (r := some (.int (0 : Int32))) rfl rfl (hQ _ _ ⟨rfl, rfl⟩)
def b138_111 (n : Nat)   (M : zM) : Int32 × zM := ((1 : Int32), M)
def p138_111 (n : Nat)   (M : zM) : Prop := True
theorem s138_111 (n : Nat)     (M : zM) (hp : p138_111 n   M) {Q : Option Value → zM → Prop} (hQ : ∀ r M1, zRI (b138_111 n   M) r M1 → Q r M1) : zWP 138 111 [none, none, none, none, none] [] M Q := by
  unfold b138_111 at hQ
  unfold p138_111 at hp
  refine wp_go 1 (pc' := 112) (L' := [none, none, none, none, none]) (st' := [.int (1 : Int32)]) (M' := M) rfl ?_
  exact wp_ret (r := some (.int (1 : Int32))) rfl rfl (hQ _ _ ⟨rfl, rfl⟩)
def b138_101 (n : Nat)  (l0 : Nat) (l1 : Int32) (l2 : Int32) (M : zM) : Int32 × zM := (if l1 = (3 : Int32) then b138_111 n  (zWI M l0 14 l2) else b138_111 n  M)
def p138_101 (n : Nat)  (l0 : Nat) (l1 : Int32) (l2 : Int32) (M : zM) : Prop := ((l1 = (3 : Int32) → (zPutI 138 51 l0 M 14 l2) ∧ (p138_111 n  (zWI M l0 14 l2))) ∧ (¬ l1 = (3 : Int32) → p138_111 n  M))
theorem s138_101 (n : Nat)    (l0 : Nat) (l1 : Int32) (l2 : Int32) (M : zM) (hp : p138_101 n  l0 l1 l2 M) {Q : Option Value → zM → Prop} (hQ : ∀ r M1, zRI (b138_101 n  l0 l1 l2 M) r M1 → Q r M1) : zWP 138 101 [some (.ref l0), some (.int l1), some (.int l2), none, none] [] M Q := by
  unfold b138_101 at hQ
  unfold p138_101 at hp
  refine wp_go 2 (pc' := 103) (L' := [some (.ref l0), some (.int l1), some (.int l2), none, none]) (st' := [.int (3 : Int32), .int l1]) (M' := M) rfl ?_
  refine wp_ic_ne (t := 111) rfl rfl (fun hc => ?_) (fun hc => ?_)
  · rw [if_neg hc] at hQ
    replace hp := hp.2 hc
    refine wp_le [none, none, none, none, none] (zLe_of (by simp [zLeB])) ?_
    exact s138_111 n    M hp hQ
  · rw [if_pos hc] at hQ
    replace hp := hp.1 hc
    refine wp_go 2 (pc' := 108) (L' := [some (.ref l0), some (.int l1), some (.int l2), none, none]) (st' := [.int l2, .ref l0]) (M' := M) rfl ?_
    obtain ⟨hc, hp⟩ := hp
    refine wq_putI (j := 14) rfl hc ?_
    refine wp_le [none, none, none, none, none] (zLe_of (by simp [zLeB])) ?_
    exact s138_111 n    (zWI M l0 14 l2) hp hQ
def b138_91 (n : Nat)  (l0 : Nat) (l1 : Int32) (l2 : Int32) (M : zM) : Int32 × zM := (if l1 = (2 : Int32) then b138_101 n  l0 l1 l2 (zWI M l0 13 l2) else b138_101 n  l0 l1 l2 M)
def p138_91 (n : Nat)  (l0 : Nat) (l1 : Int32) (l2 : Int32) (M : zM) : Prop := ((l1 = (2 : Int32) → (zPutI 138 48 l0 M 13 l2) ∧ (p138_101 n  l0 l1 l2 (zWI M l0 13 l2))) ∧ (¬ l1 = (2 : Int32) → p138_101 n  l0 l1 l2 M))
theorem s138_91 (n : Nat)    (l0 : Nat) (l1 : Int32) (l2 : Int32) (M : zM) (hp : p138_91 n  l0 l1 l2 M) {Q : Option Value → zM → Prop} (hQ : ∀ r M1, zRI (b138_91 n  l0 l1 l2 M) r M1 → Q r M1) : zWP 138 91 [some (.ref l0), some (.int l1), some (.int l2), none, none] [] M Q := by
  unfold b138_91 at hQ
  unfold p138_91 at hp
  refine wp_go 2 (pc' := 93) (L' := [some (.ref l0), some (.int l1), some (.int l2), none, none]) (st' := [.int (2 : Int32), .int l1]) (M' := M) rfl ?_
  refine wp_ic_ne (t := 101) rfl rfl (fun hc => ?_) (fun hc => ?_)
  · rw [if_neg hc] at hQ
    replace hp := hp.2 hc
    exact s138_101 n    l0 l1 l2 M hp hQ
  · rw [if_pos hc] at hQ
    replace hp := hp.1 hc
    refine wp_go 2 (pc' := 98) (L' := [some (.ref l0), some (.int l1), some (.int l2), none, none]) (st' := [.int l2, .ref l0]) (M' := M) rfl ?_
    obtain ⟨hc, hp⟩ := hp
    refine wq_putI (j := 13) rfl hc ?_
    exact s138_101 n    l0 l1 l2 (zWI M l0 13 l2) hp hQ
def b138_81 (n : Nat)  (l0 : Nat) (l1 : Int32) (l2 : Int32) (M : zM) : Int32 × zM := (if l1 = (1 : Int32) then b138_91 n  l0 l1 l2 (zWI M l0 12 l2) else b138_91 n  l0 l1 l2 M)
def p138_81 (n : Nat)  (l0 : Nat) (l1 : Int32) (l2 : Int32) (M : zM) : Prop := ((l1 = (1 : Int32) → (zPutI 138 45 l0 M 12 l2) ∧ (p138_91 n  l0 l1 l2 (zWI M l0 12 l2))) ∧ (¬ l1 = (1 : Int32) → p138_91 n  l0 l1 l2 M))
theorem s138_81 (n : Nat)    (l0 : Nat) (l1 : Int32) (l2 : Int32) (M : zM) (hp : p138_81 n  l0 l1 l2 M) {Q : Option Value → zM → Prop} (hQ : ∀ r M1, zRI (b138_81 n  l0 l1 l2 M) r M1 → Q r M1) : zWP 138 81 [some (.ref l0), some (.int l1), some (.int l2), none, none] [] M Q := by
  unfold b138_81 at hQ
  unfold p138_81 at hp
  refine wp_go 2 (pc' := 83) (L' := [some (.ref l0), some (.int l1), some (.int l2), none, none]) (st' := [.int (1 : Int32), .int l1]) (M' := M) rfl ?_
  refine wp_ic_ne (t := 91) rfl rfl (fun hc => ?_) (fun hc => ?_)
  · rw [if_neg hc] at hQ
    replace hp := hp.2 hc
    exact s138_91 n    l0 l1 l2 M hp hQ
  · rw [if_pos hc] at hQ
    replace hp := hp.1 hc
    refine wp_go 2 (pc' := 88) (L' := [some (.ref l0), some (.int l1), some (.int l2), none, none]) (st' := [.int l2, .ref l0]) (M' := M) rfl ?_
    obtain ⟨hc, hp⟩ := hp
    refine wq_putI (j := 12) rfl hc ?_
    exact s138_91 n    l0 l1 l2 (zWI M l0 12 l2) hp hQ
def b138_48 (n : Nat)  (l0 : Nat) (l1 : Int32) (l2 : Int32) (l3 : Int32) (s0 : Int32) (M : zM) : Int32 × zM := (if l1 < 0 then b138_70 n  M else (if (3 : Int32) < l1 then b138_70 n  M else (if l2 < l3 then b138_70 n  M else (if l2 ≤ s0 then (if l1 = 0 then b138_81 n  l0 l1 l2 (zWI M l0 11 l2) else b138_81 n  l0 l1 l2 M) else b138_70 n  M))))
def p138_48 (n : Nat)  (l0 : Nat) (l1 : Int32) (l2 : Int32) (l3 : Int32) (s0 : Int32) (M : zM) : Prop := ((l1 < 0 → p138_70 n  M) ∧ (¬ l1 < 0 → (((3 : Int32) < l1 → p138_70 n  M) ∧ (¬ (3 : Int32) < l1 → ((l2 < l3 → p138_70 n  M) ∧ (¬ l2 < l3 → ((l2 ≤ s0 → ((l1 = 0 → (zPutI 138 41 l0 M 11 l2) ∧ (p138_81 n  l0 l1 l2 (zWI M l0 11 l2))) ∧ (¬ l1 = 0 → p138_81 n  l0 l1 l2 M))) ∧ (¬ l2 ≤ s0 → p138_70 n  M))))))))
theorem s138_48 (n : Nat)    (l0 : Nat) (l1 : Int32) (l2 : Int32) (l3 : Int32) (s0 : Int32) (M : zM) (hp : p138_48 n  l0 l1 l2 l3 s0 M) {Q : Option Value → zM → Prop} (hQ : ∀ r M1, zRI (b138_48 n  l0 l1 l2 l3 s0 M) r M1 → Q r M1) : zWP 138 48 [some (.ref l0), some (.int l1), some (.int l2), some (.int l3), none] [.int s0] M Q := by
  unfold b138_48 at hQ
  unfold p138_48 at hp
  refine wp_go 2 (pc' := 51) (L' := [some (.ref l0), some (.int l1), some (.int l2), some (.int l3), some (.int s0)]) (st' := [.int l1]) (M' := M) rfl ?_
  refine wp_if_lt (t := 70) rfl rfl (fun hc => ?_) (fun hc => ?_)
  · rw [if_pos hc] at hQ
    replace hp := hp.1 hc
    refine wp_le [none, none, none, none, none] (zLe_of (by simp [zLeB])) ?_
    exact s138_70 n    M hp hQ
  · rw [if_neg hc] at hQ
    replace hp := hp.2 hc
    refine wp_go 2 (pc' := 56) (L' := [some (.ref l0), some (.int l1), some (.int l2), some (.int l3), some (.int s0)]) (st' := [.int (3 : Int32), .int l1]) (M' := M) rfl ?_
    refine wp_ic_gt (t := 70) rfl rfl (fun hc => ?_) (fun hc => ?_)
    · rw [if_pos hc] at hQ
      replace hp := hp.1 hc
      refine wp_le [none, none, none, none, none] (zLe_of (by simp [zLeB])) ?_
      exact s138_70 n    M hp hQ
    · rw [if_neg hc] at hQ
      replace hp := hp.2 hc
      refine wp_go 2 (pc' := 61) (L' := [some (.ref l0), some (.int l1), some (.int l2), some (.int l3), some (.int s0)]) (st' := [.int l3, .int l2]) (M' := M) rfl ?_
      refine wp_ic_lt (t := 70) rfl rfl (fun hc => ?_) (fun hc => ?_)
      · rw [if_pos hc] at hQ
        replace hp := hp.1 hc
        refine wp_le [none, none, none, none, none] (zLe_of (by simp [zLeB])) ?_
        exact s138_70 n    M hp hQ
      · rw [if_neg hc] at hQ
        replace hp := hp.2 hc
        refine wp_go 2 (pc' := 67) (L' := [some (.ref l0), some (.int l1), some (.int l2), some (.int l3), some (.int s0)]) (st' := [.int s0, .int l2]) (M' := M) rfl ?_
        refine wp_ic_le (t := 72) rfl rfl (fun hc => ?_) (fun hc => ?_)
        · rw [if_pos hc] at hQ
          replace hp := hp.1 hc
          refine wp_go 1 (pc' := 73) (L' := [some (.ref l0), some (.int l1), some (.int l2), some (.int l3), some (.int s0)]) (st' := [.int l1]) (M' := M) rfl ?_
          refine wp_if_ne (t := 81) rfl rfl (fun hc => ?_) (fun hc => ?_)
          · rw [if_neg hc] at hQ
            replace hp := hp.2 hc
            refine wp_le [some (.ref l0), some (.int l1), some (.int l2), none, none] (zLe_of (by simp [zLeB])) ?_
            exact s138_81 n    l0 l1 l2 M hp hQ
          · rw [if_pos hc] at hQ
            replace hp := hp.1 hc
            refine wp_go 2 (pc' := 78) (L' := [some (.ref l0), some (.int l1), some (.int l2), some (.int l3), some (.int s0)]) (st' := [.int l2, .ref l0]) (M' := M) rfl ?_
            obtain ⟨hc, hp⟩ := hp
            refine wq_putI (j := 11) rfl hc ?_
            refine wp_le [some (.ref l0), some (.int l1), some (.int l2), none, none] (zLe_of (by simp [zLeB])) ?_
            exact s138_81 n    l0 l1 l2 (zWI M l0 11 l2) hp hQ
        · rw [if_neg hc] at hQ
          replace hp := hp.2 hc
          refine wp_le [none, none, none, none, none] (zLe_of (by simp [zLeB])) ?_
          exact s138_70 n    M hp hQ
def b138_14 (n : Nat)  (l0 : Nat) (l1 : Int32) (l2 : Int32) (s0 : Int32) (M : zM) : Int32 × zM := (if l1 = 0 then b138_48 n  l0 l1 l2 s0 (100 : Int32) M else (if l1 = (1 : Int32) then b138_48 n  l0 l1 l2 s0 (10000 : Int32) M else (if l1 = (2 : Int32) then b138_48 n  l0 l1 l2 s0 (100000 : Int32) M else b138_48 n  l0 l1 l2 s0 (1000 : Int32) M)))
def p138_14 (n : Nat)  (l0 : Nat) (l1 : Int32) (l2 : Int32) (s0 : Int32) (M : zM) : Prop := ((l1 = 0 → p138_48 n  l0 l1 l2 s0 (100 : Int32) M) ∧ (¬ l1 = 0 → ((l1 = (1 : Int32) → p138_48 n  l0 l1 l2 s0 (10000 : Int32) M) ∧ (¬ l1 = (1 : Int32) → ((l1 = (2 : Int32) → p138_48 n  l0 l1 l2 s0 (100000 : Int32) M) ∧ (¬ l1 = (2 : Int32) → p138_48 n  l0 l1 l2 s0 (1000 : Int32) M))))))
theorem s138_14 (n : Nat)    (l0 : Nat) (l1 : Int32) (l2 : Int32) (s0 : Int32) (M : zM) (hp : p138_14 n  l0 l1 l2 s0 M) {Q : Option Value → zM → Prop} (hQ : ∀ r M1, zRI (b138_14 n  l0 l1 l2 s0 M) r M1 → Q r M1) : zWP 138 14 [some (.ref l0), some (.int l1), some (.int l2), none, none] [.int s0] M Q := by
  unfold b138_14 at hQ
  unfold p138_14 at hp
  refine wp_go 2 (pc' := 16) (L' := [some (.ref l0), some (.int l1), some (.int l2), some (.int s0), none]) (st' := [.int l1]) (M' := M) rfl ?_
  refine wp_if_ne (t := 24) rfl rfl (fun hc => ?_) (fun hc => ?_)
  · rw [if_neg hc] at hQ
    replace hp := hp.2 hc
    refine wp_go 2 (pc' := 26) (L' := [some (.ref l0), some (.int l1), some (.int l2), some (.int s0), none]) (st' := [.int (1 : Int32), .int l1]) (M' := M) rfl ?_
    refine wp_ic_ne (t := 35) rfl rfl (fun hc => ?_) (fun hc => ?_)
    · rw [if_neg hc] at hQ
      replace hp := hp.2 hc
      refine wp_go 2 (pc' := 37) (L' := [some (.ref l0), some (.int l1), some (.int l2), some (.int s0), none]) (st' := [.int (2 : Int32), .int l1]) (M' := M) rfl ?_
      refine wp_ic_ne (t := 45) rfl rfl (fun hc => ?_) (fun hc => ?_)
      · rw [if_neg hc] at hQ
        replace hp := hp.2 hc
        refine wp_go 1 (pc' := 48) (L' := [some (.ref l0), some (.int l1), some (.int l2), some (.int s0), none]) (st' := [.int (1000 : Int32)]) (M' := M) rfl ?_
        exact s138_48 n    l0 l1 l2 s0 (1000 : Int32) M hp hQ
      · rw [if_pos hc] at hQ
        replace hp := hp.1 hc
        refine wp_go 2 (pc' := 48) (L' := [some (.ref l0), some (.int l1), some (.int l2), some (.int s0), none]) (st' := [.int (100000 : Int32)]) (M' := M) rfl ?_
        exact s138_48 n    l0 l1 l2 s0 (100000 : Int32) M hp hQ
    · rw [if_pos hc] at hQ
      replace hp := hp.1 hc
      refine wp_go 2 (pc' := 48) (L' := [some (.ref l0), some (.int l1), some (.int l2), some (.int s0), none]) (st' := [.int (10000 : Int32)]) (M' := M) rfl ?_
      exact s138_48 n    l0 l1 l2 s0 (10000 : Int32) M hp hQ
  · rw [if_pos hc] at hQ
    replace hp := hp.1 hc
    refine wp_go 2 (pc' := 48) (L' := [some (.ref l0), some (.int l1), some (.int l2), some (.int s0), none]) (st' := [.int (100 : Int32)]) (M' := M) rfl ?_
    exact s138_48 n    l0 l1 l2 s0 (100 : Int32) M hp hQ
def b138_5 (n : Nat)  (l0 : Nat) (l1 : Int32) (l2 : Int32) (M : zM) : Int32 × zM := (if l1 = 0 then b138_14 n  l0 l1 l2 (1 : Int32) M else b138_14 n  l0 l1 l2 (0 : Int32) M)
def p138_5 (n : Nat)  (l0 : Nat) (l1 : Int32) (l2 : Int32) (M : zM) : Prop := ((l1 = 0 → p138_14 n  l0 l1 l2 (1 : Int32) M) ∧ (¬ l1 = 0 → p138_14 n  l0 l1 l2 (0 : Int32) M))
theorem s138_5 (n : Nat)    (l0 : Nat) (l1 : Int32) (l2 : Int32) (M : zM) (hp : p138_5 n  l0 l1 l2 M) {Q : Option Value → zM → Prop} (hQ : ∀ r M1, zRI (b138_5 n  l0 l1 l2 M) r M1 → Q r M1) : zWP 138 5 [some (.ref l0), some (.int l1), some (.int l2), none, none] [] M Q := by
  unfold b138_5 at hQ
  unfold p138_5 at hp
  refine wp_go 1 (pc' := 6) (L' := [some (.ref l0), some (.int l1), some (.int l2), none, none]) (st' := [.int l1]) (M' := M) rfl ?_
  refine wp_if_ne (t := 13) rfl rfl (fun hc => ?_) (fun hc => ?_)
  · rw [if_neg hc] at hQ
    replace hp := hp.2 hc
    refine wp_go 1 (pc' := 14) (L' := [some (.ref l0), some (.int l1), some (.int l2), none, none]) (st' := [.int (0 : Int32)]) (M' := M) rfl ?_
    exact s138_14 n    l0 l1 l2 (0 : Int32) M hp hQ
  · rw [if_pos hc] at hQ
    replace hp := hp.1 hc
    refine wp_go 2 (pc' := 14) (L' := [some (.ref l0), some (.int l1), some (.int l2), none, none]) (st' := [.int (1 : Int32)]) (M' := M) rfl ?_
    exact s138_14 n    l0 l1 l2 (1 : Int32) M hp hQ
def b138_0 (n : Nat)  (l0 : Nat) (l1 : Int32) (l2 : Int32) (M : zM) : Int32 × zM := b138_5 n  l0 l1 l2 (zWI M l0 26 (0 : Int32))
def p138_0 (n : Nat)  (l0 : Nat) (l1 : Int32) (l2 : Int32) (M : zM) : Prop := (zPutI 138 138 l0 M 26 (0 : Int32)) ∧ (p138_5 n  l0 l1 l2 (zWI M l0 26 (0 : Int32)))
theorem s138_0 (n : Nat)    (l0 : Nat) (l1 : Int32) (l2 : Int32) (M : zM) (hp : p138_0 n  l0 l1 l2 M) {Q : Option Value → zM → Prop} (hQ : ∀ r M1, zRI (b138_0 n  l0 l1 l2 M) r M1 → Q r M1) : zWP 138 0 [some (.ref l0), some (.int l1), some (.int l2), none, none] [] M Q := by
  unfold b138_0 at hQ
  unfold p138_0 at hp
  refine wp_go 2 (pc' := 2) (L' := [some (.ref l0), some (.int l1), some (.int l2), none, none]) (st' := [.int (0 : Int32), .ref l0]) (M' := M) rfl ?_
  obtain ⟨hc, hp⟩ := hp
  refine wq_putI (j := 26) rfl hc ?_
  exact s138_5 n    l0 l1 l2 (zWI M l0 26 (0 : Int32)) hp hQ
/-! X12_look -/
def b139_104 (n : Nat)  (s0 : Int32) (M : zM) : Int32 × zM := (s0, M)
def p139_104 (n : Nat)  (s0 : Int32) (M : zM) : Prop := True
theorem s139_104 (n : Nat)    (s0 : Int32) (M : zM) (hp : p139_104 n  s0 M) {Q : Option Value → zM → Prop} (hQ : ∀ r M1, zRI (b139_104 n  s0 M) r M1 → Q r M1) : zWP 139 104 [none, none, none, none, none] [.int s0] M Q := by
  unfold b139_104 at hQ
  unfold p139_104 at hp
  exact wp_ret (r := some (.int s0)) rfl rfl (hQ _ _ ⟨rfl, rfl⟩)
def b139_124 (n : Nat)  (s0 : Int32) (M : zM) : Int32 × zM := (s0, M)
def p139_124 (n : Nat)  (s0 : Int32) (M : zM) : Prop := True
theorem s139_124 (n : Nat)    (s0 : Int32) (M : zM) (hp : p139_124 n  s0 M) {Q : Option Value → zM → Prop} (hQ : ∀ r M1, zRI (b139_124 n  s0 M) r M1 → Q r M1) : zWP 139 124 [none, none, none, none, none] [.int s0] M Q := by
  unfold b139_124 at hQ
  unfold p139_124 at hp
  exact wp_ret (r := some (.int s0)) rfl rfl (hQ _ _ ⟨rfl, rfl⟩)
def b139_170 (n : Nat)  (s0 : Int32) (M : zM) : Int32 × zM := (s0, M)
def p139_170 (n : Nat)  (s0 : Int32) (M : zM) : Prop := True
theorem s139_170 (n : Nat)    (s0 : Int32) (M : zM) (hp : p139_170 n  s0 M) {Q : Option Value → zM → Prop} (hQ : ∀ r M1, zRI (b139_170 n  s0 M) r M1 → Q r M1) : zWP 139 170 [none, none, none, none, none] [.int s0] M Q := by
  unfold b139_170 at hQ
  unfold p139_170 at hp
  exact wp_ret (r := some (.int s0)) rfl rfl (hQ _ _ ⟨rfl, rfl⟩)
def b139_134 (n : Nat)  (l0 : Nat) (l1 : Int32) (l2 : Int32) (M : zM) : Int32 × zM := (if l2 = (6 : Int32) then b139_170 n  (zI M (zQ M l0 42) l1.toNatClampNeg) M else (if l2 = (7 : Int32) then b139_170 n  (zI M (zQ M l0 43) l1.toNatClampNeg) M else b139_170 n  (zI M (zQ M l0 44) l1.toNatClampNeg) M))
def p139_134 (n : Nat)  (l0 : Nat) (l1 : Int32) (l2 : Int32) (M : zM) : Prop := ((l2 = (6 : Int32) → (zHasQ 10 102 l0 M 42) ∧ ((zOkI (zQ M l0 42) l1 M) ∧ (p139_170 n  (zI M (zQ M l0 42) l1.toNatClampNeg) M))) ∧ (¬ l2 = (6 : Int32) → ((l2 = (7 : Int32) → (zHasQ 10 105 l0 M 43) ∧ ((zOkI (zQ M l0 43) l1 M) ∧ (p139_170 n  (zI M (zQ M l0 43) l1.toNatClampNeg) M))) ∧ (¬ l2 = (7 : Int32) → (zHasQ 10 108 l0 M 44) ∧ ((zOkI (zQ M l0 44) l1 M) ∧ (p139_170 n  (zI M (zQ M l0 44) l1.toNatClampNeg) M))))))
theorem s139_134 (n : Nat)    (l0 : Nat) (l1 : Int32) (l2 : Int32) (M : zM) (hp : p139_134 n  l0 l1 l2 M) {Q : Option Value → zM → Prop} (hQ : ∀ r M1, zRI (b139_134 n  l0 l1 l2 M) r M1 → Q r M1) : zWP 139 134 [some (.ref l0), some (.int l1), some (.int l2), none, none] [] M Q := by
  unfold b139_134 at hQ
  unfold p139_134 at hp
  refine wp_go 2 (pc' := 137) (L' := [some (.ref l0), some (.int l1), some (.int l2), none, none]) (st' := [.int (6 : Int32), .int l2]) (M' := M) rfl ?_
  refine wp_ic_ne (t := 149) rfl rfl (fun hc => ?_) (fun hc => ?_)
  · rw [if_neg hc] at hQ
    replace hp := hp.2 hc
    refine wp_go 2 (pc' := 152) (L' := [some (.ref l0), some (.int l1), some (.int l2), none, none]) (st' := [.int (7 : Int32), .int l2]) (M' := M) rfl ?_
    refine wp_ic_ne (t := 164) rfl rfl (fun hc => ?_) (fun hc => ?_)
    · rw [if_neg hc] at hQ
      replace hp := hp.2 hc
      refine wp_go 1 (pc' := 165) (L' := [some (.ref l0), some (.int l1), some (.int l2), none, none]) (st' := [.ref l0]) (M' := M) rfl ?_
      obtain ⟨hc, hp⟩ := hp
      refine wq_getQ (j := 44) rfl hc ?_
      refine wp_go 1 (pc' := 169) (L' := [some (.ref l0), some (.int l1), some (.int l2), none, none]) (st' := [.int l1, .ref (zQ M l0 44)]) (M' := M) rfl ?_
      obtain ⟨hc, hp⟩ := hp
      refine wq_iald rfl hc ?_
      refine wp_le [none, none, none, none, none] (zLe_of (by simp [zLeB])) ?_
      exact s139_170 n    (zI M (zQ M l0 44) l1.toNatClampNeg) M hp hQ
    · rw [if_pos hc] at hQ
      replace hp := hp.1 hc
      refine wp_go 1 (pc' := 156) (L' := [some (.ref l0), some (.int l1), some (.int l2), none, none]) (st' := [.ref l0]) (M' := M) rfl ?_
      obtain ⟨hc, hp⟩ := hp
      refine wq_getQ (j := 43) rfl hc ?_
      refine wp_go 1 (pc' := 160) (L' := [some (.ref l0), some (.int l1), some (.int l2), none, none]) (st' := [.int l1, .ref (zQ M l0 43)]) (M' := M) rfl ?_
      obtain ⟨hc, hp⟩ := hp
      refine wq_iald rfl hc ?_
      refine wp_go 1 (pc' := 170) (L' := [some (.ref l0), some (.int l1), some (.int l2), none, none]) (st' := [.int (zI M (zQ M l0 43) l1.toNatClampNeg)]) (M' := M) rfl ?_
      refine wp_le [none, none, none, none, none] (zLe_of (by simp [zLeB])) ?_
      exact s139_170 n    (zI M (zQ M l0 43) l1.toNatClampNeg) M hp hQ
  · rw [if_pos hc] at hQ
    replace hp := hp.1 hc
    refine wp_go 1 (pc' := 141) (L' := [some (.ref l0), some (.int l1), some (.int l2), none, none]) (st' := [.ref l0]) (M' := M) rfl ?_
    obtain ⟨hc, hp⟩ := hp
    refine wq_getQ (j := 42) rfl hc ?_
    refine wp_go 1 (pc' := 145) (L' := [some (.ref l0), some (.int l1), some (.int l2), none, none]) (st' := [.int l1, .ref (zQ M l0 42)]) (M' := M) rfl ?_
    obtain ⟨hc, hp⟩ := hp
    refine wq_iald rfl hc ?_
    refine wp_go 1 (pc' := 170) (L' := [some (.ref l0), some (.int l1), some (.int l2), none, none]) (st' := [.int (zI M (zQ M l0 42) l1.toNatClampNeg)]) (M' := M) rfl ?_
    refine wp_le [none, none, none, none, none] (zLe_of (by simp [zLeB])) ?_
    exact s139_170 n    (zI M (zQ M l0 42) l1.toNatClampNeg) M hp hQ
def b139_131 (n : Nat)  (l0 : Nat) (l1 : Int32) (l2 : Int32) (s0 : Nat) (s1 : Int32) (M : zM) : Int32 × zM := b139_134 n  l0 l1 l2 (b158_0 n s0 s1 M)
def p139_131 (n : Nat)  (l0 : Nat) (l1 : Int32) (l2 : Int32) (s0 : Nat) (s1 : Int32) (M : zM) : Prop := (zHasC 139 179 s0 M 158 1) ∧ ((p158_0 n s0 s1 M) ∧ (p139_134 n  l0 l1 l2 (b158_0 n s0 s1 M)))
theorem s139_131 (n : Nat)    (l0 : Nat) (l1 : Int32) (l2 : Int32) (s0 : Nat) (s1 : Int32) (M : zM) (hp : p139_131 n  l0 l1 l2 s0 s1 M) {Q : Option Value → zM → Prop} (hQ : ∀ r M1, zRI (b139_131 n  l0 l1 l2 s0 s1 M) r M1 → Q r M1) : zWP 139 131 [some (.ref l0), some (.int l1), some (.int l2), none, none] [.int s1, .ref s0] M Q := by
  unfold b139_131 at hQ
  unfold p139_131 at hp
  obtain ⟨hv, hp⟩ := hp
  obtain ⟨hc, hp⟩ := hp
  refine wp_callv (M1 := (b158_0 n s0 s1 M)) rfl rfl rfl (zInv_v (np := 1) rfl rfl hv rfl) (s158_0 n s0 s1 M hc (fun r M1 h => h)) ?_
  exact s139_134 n    l0 l1 l2 (b158_0 n s0 s1 M) hp hQ
def b139_125 (n : Nat)  (l0 : Nat) (l1 : Int32) (l2 : Int32) (M : zM) : Int32 × zM := b139_131 n  l0 l1 l2 l0 (b155_0 n l0 l1 M).1 (b155_0 n l0 l1 M).2
def p139_125 (n : Nat)  (l0 : Nat) (l1 : Int32) (l2 : Int32) (M : zM) : Prop := (zHasC 139 176 l0 M 155 1) ∧ ((p155_0 n l0 l1 M) ∧ (p139_131 n  l0 l1 l2 l0 (b155_0 n l0 l1 M).1 (b155_0 n l0 l1 M).2))
theorem s139_125 (n : Nat)    (l0 : Nat) (l1 : Int32) (l2 : Int32) (M : zM) (hp : p139_125 n  l0 l1 l2 M) {Q : Option Value → zM → Prop} (hQ : ∀ r M1, zRI (b139_125 n  l0 l1 l2 M) r M1 → Q r M1) : zWP 139 125 [some (.ref l0), some (.int l1), some (.int l2), none, none] [] M Q := by
  unfold b139_125 at hQ
  unfold p139_125 at hp
  refine wp_go 3 (pc' := 128) (L' := [some (.ref l0), some (.int l1), some (.int l2), none, none]) (st' := [.int l1, .ref l0, .ref l0]) (M' := M) rfl ?_
  obtain ⟨hv, hp⟩ := hp
  obtain ⟨hc, hp⟩ := hp
  refine wp_calli (v := (b155_0 n l0 l1 M).1) (M1 := (b155_0 n l0 l1 M).2) rfl rfl rfl (zInv_v (np := 1) rfl rfl hv rfl) (s155_0 n l0 l1 M hc (fun r M1 h => h)) ?_
  exact s139_131 n    l0 l1 l2 l0 (b155_0 n l0 l1 M).1 (b155_0 n l0 l1 M).2 hp hQ
def b139_208 (n : Nat) (k176 : Nat → Int32 → Int32 → Int32 → zM → Int32 × zM) (l0 : Nat) (l1 : Int32) (l4 : Int32) (s0 : Int32) (s1 : Int32) (M : zM) : Int32 × zM := k176 l0 l1 (s0 + s1) (l4 + Int32.ofInt 1) M
def p139_208 (n : Nat) (q176 : Nat → Int32 → Int32 → Int32 → zM → Prop) (l0 : Nat) (l1 : Int32) (l4 : Int32) (s0 : Int32) (s1 : Int32) (M : zM) : Prop := q176 l0 l1 (s0 + s1) (l4 + Int32.ofInt 1) M
theorem s139_208 (n : Nat) (k176 : Nat → Int32 → Int32 → Int32 → zM → Int32 × zM) (q176 : Nat → Int32 → Int32 → Int32 → zM → Prop) (h176 : ∀ (l0 : Nat) (l1 : Int32) (l3 : Int32) (l4 : Int32) (M : zM), q176 l0 l1 l3 l4 M → ∀ {Q : Option Value → zM → Prop}, (∀ r M1, zRI (k176 l0 l1 l3 l4 M) r M1 → Q r M1) → zWP 139 176 [some (.ref l0), some (.int l1), none, some (.int l3), some (.int l4)] [] M Q) (l0 : Nat) (l1 : Int32) (l4 : Int32) (s0 : Int32) (s1 : Int32) (M : zM) (hp : p139_208 n q176 l0 l1 l4 s0 s1 M) {Q : Option Value → zM → Prop} (hQ : ∀ r M1, zRI (b139_208 n k176 l0 l1 l4 s0 s1 M) r M1 → Q r M1) : zWP 139 208 [some (.ref l0), some (.int l1), none, none, some (.int l4)] [.int s1, .int s0] M Q := by
  unfold b139_208 at hQ
  unfold p139_208 at hp
  refine wp_go 4 (pc' := 176) (L' := [some (.ref l0), some (.int l1), none, some (.int (s0 + s1)), some (.int (l4 + Int32.ofInt 1))]) (st' := []) (M' := M) rfl ?_
  exact h176 l0 l1 (s0 + s1) (l4 + Int32.ofInt 1) M hp hQ
def c139_176 (n : Nat) (k176 : Nat → Int32 → Int32 → Int32 → zM → Int32 × zM) (l0 : Nat) (l1 : Int32) (l3 : Int32) (l4 : Int32) (M : zM) : Int32 × zM := (if (zI M (zQ M l0 2) l1.toNatClampNeg) ≤ l4 then (l3, M) else (if (zI M (zQ M l0 10) (((20 : Int32) * l1) + l4).toNatClampNeg) < 0 then b139_208 n k176 l0 l1 l4 l3 (0 : Int32) M else b139_208 n k176 l0 l1 l4 l3 (1 : Int32) M))
def d139_176 (n : Nat) (q176 : Nat → Int32 → Int32 → Int32 → zM → Prop) (l0 : Nat) (l1 : Int32) (l3 : Int32) (l4 : Int32) (M : zM) : Prop := (zHasQ 10 13 l0 M 2) ∧ ((zOkI (zQ M l0 2) l1 M) ∧ ((((zI M (zQ M l0 2) l1.toNatClampNeg) ≤ l4 → True) ∧ (¬ (zI M (zQ M l0 2) l1.toNatClampNeg) ≤ l4 → (zHasQ 10 38 l0 M 10) ∧ ((zOkI (zQ M l0 10) (((20 : Int32) * l1) + l4) M) ∧ ((((zI M (zQ M l0 10) (((20 : Int32) * l1) + l4).toNatClampNeg) < 0 → p139_208 n q176 l0 l1 l4 l3 (0 : Int32) M) ∧ (¬ (zI M (zQ M l0 10) (((20 : Int32) * l1) + l4).toNatClampNeg) < 0 → p139_208 n q176 l0 l1 l4 l3 (1 : Int32) M))))))))
theorem t139_176 (n : Nat) (k176 : Nat → Int32 → Int32 → Int32 → zM → Int32 × zM) (q176 : Nat → Int32 → Int32 → Int32 → zM → Prop) (h176 : ∀ (l0 : Nat) (l1 : Int32) (l3 : Int32) (l4 : Int32) (M : zM), q176 l0 l1 l3 l4 M → ∀ {Q : Option Value → zM → Prop}, (∀ r M1, zRI (k176 l0 l1 l3 l4 M) r M1 → Q r M1) → zWP 139 176 [some (.ref l0), some (.int l1), none, some (.int l3), some (.int l4)] [] M Q) (l0 : Nat) (l1 : Int32) (l3 : Int32) (l4 : Int32) (M : zM) (hp : d139_176 n q176 l0 l1 l3 l4 M) {Q : Option Value → zM → Prop} (hQ : ∀ r M1, zRI (c139_176 n k176 l0 l1 l3 l4 M) r M1 → Q r M1) : zWP 139 176 [some (.ref l0), some (.int l1), none, some (.int l3), some (.int l4)] [] M Q := by
  unfold c139_176 at hQ
  unfold d139_176 at hp
  refine wp_go 2 (pc' := 179) (L' := [some (.ref l0), some (.int l1), none, some (.int l3), some (.int l4)]) (st' := [.ref l0, .int l4]) (M' := M) rfl ?_
  obtain ⟨hc, hp⟩ := hp
  refine wq_getQ (j := 2) rfl hc ?_
  refine wp_go 1 (pc' := 183) (L' := [some (.ref l0), some (.int l1), none, some (.int l3), some (.int l4)]) (st' := [.int l1, .ref (zQ M l0 2), .int l4]) (M' := M) rfl ?_
  obtain ⟨hc, hp⟩ := hp
  refine wq_iald rfl hc ?_
  refine wp_ic_ge (t := 216) rfl rfl (fun hc => ?_) (fun hc => ?_)
  · rw [if_pos hc] at hQ
    replace hp := hp.1 hc
    refine wp_go 1 (pc' := 217) (L' := [some (.ref l0), some (.int l1), none, some (.int l3), some (.int l4)]) (st' := [.int l3]) (M' := M) rfl ?_
    exact wp_ret (r := some (.int l3)) rfl rfl (hQ _ _ ⟨rfl, rfl⟩)
  · rw [if_neg hc] at hQ
    replace hp := hp.2 hc
    refine wp_go 2 (pc' := 189) (L' := [some (.ref l0), some (.int l1), none, some (.int l3), some (.int l4)]) (st' := [.ref l0, .int l3]) (M' := M) rfl ?_
    obtain ⟨hc, hp⟩ := hp
    refine wq_getQ (j := 10) rfl hc ?_
    refine wp_go 5 (pc' := 199) (L' := [some (.ref l0), some (.int l1), none, some (.int l3), some (.int l4)]) (st' := [.int (((20 : Int32) * l1) + l4), .ref (zQ M l0 10), .int l3]) (M' := M) rfl ?_
    obtain ⟨hc, hp⟩ := hp
    refine wq_iald rfl hc ?_
    refine wp_if_lt (t := 207) rfl rfl (fun hc => ?_) (fun hc => ?_)
    · rw [if_pos hc] at hQ
      replace hp := hp.1 hc
      refine wp_go 1 (pc' := 208) (L' := [some (.ref l0), some (.int l1), none, some (.int l3), some (.int l4)]) (st' := [.int (0 : Int32), .int l3]) (M' := M) rfl ?_
      refine wp_le [some (.ref l0), some (.int l1), none, none, some (.int l4)] (zLe_of (by simp [zLeB])) ?_
      exact s139_208 n k176 q176 h176 l0 l1 l4 l3 (0 : Int32) M hp hQ
    · rw [if_neg hc] at hQ
      replace hp := hp.2 hc
      refine wp_go 2 (pc' := 208) (L' := [some (.ref l0), some (.int l1), none, some (.int l3), some (.int l4)]) (st' := [.int (1 : Int32), .int l3]) (M' := M) rfl ?_
      refine wp_le [some (.ref l0), some (.int l1), none, none, some (.int l4)] (zLe_of (by simp [zLeB])) ?_
      exact s139_208 n k176 q176 h176 l0 l1 l4 l3 (1 : Int32) M hp hQ
def b139_176 (n : Nat)  : Nat → Nat → Int32 → Int32 → Int32 → zM → Int32 × zM
  | 0, _, _, _, _, M => (0, M)
  | k + 1, l0, l1, l3, l4, M => c139_176 n  (b139_176 n  k) l0 l1 l3 l4 M
def p139_176 (n : Nat)  : Nat → Nat → Int32 → Int32 → Int32 → zM → Prop
  | 0, _, _, _, _, _ => False
  | k + 1, l0, l1, l3, l4, M => d139_176 n  (p139_176 n  k) l0 l1 l3 l4 M
theorem s139_176 (n : Nat)    : ∀ (k : Nat) (l0 : Nat) (l1 : Int32) (l3 : Int32) (l4 : Int32) (M : zM), p139_176 n  k l0 l1 l3 l4 M → ∀ {Q : Option Value → zM → Prop}, (∀ r M1, zRI (b139_176 n  k l0 l1 l3 l4 M) r M1 → Q r M1) → zWP 139 176 [some (.ref l0), some (.int l1), none, some (.int l3), some (.int l4)] [] M Q
  | 0, _, _, _, _, _, h, _, _ => h.elim
  | k + 1, l0, l1, l3, l4, M, h, _, hQ => t139_176 n  (b139_176 n  k)  (p139_176 n  k)  (s139_176 n    k) l0 l1 l3 l4 M h hQ
def b139_223 (n : Nat)  (s0 : Int32) (M : zM) : Int32 × zM := (s0, M)
def p139_223 (n : Nat)  (s0 : Int32) (M : zM) : Prop := True
theorem s139_223 (n : Nat)    (s0 : Int32) (M : zM) (hp : p139_223 n  s0 M) {Q : Option Value → zM → Prop} (hQ : ∀ r M1, zRI (b139_223 n  s0 M) r M1 → Q r M1) : zWP 139 223 [none, none, none, none, none] [.int s0] M Q := by
  unfold b139_223 at hQ
  unfold p139_223 at hp
  exact wp_ret (r := some (.int s0)) rfl rfl (hQ _ _ ⟨rfl, rfl⟩)
def b139_18 (n : Nat)  (s0 : Int32) (M : zM) : Int32 × zM := (s0, M)
def p139_18 (n : Nat)  (s0 : Int32) (M : zM) : Prop := True
theorem s139_18 (n : Nat)    (s0 : Int32) (M : zM) (hp : p139_18 n  s0 M) {Q : Option Value → zM → Prop} (hQ : ∀ r M1, zRI (b139_18 n  s0 M) r M1 → Q r M1) : zWP 139 18 [none, none, none, none, none] [.int s0] M Q := by
  unfold b139_18 at hQ
  unfold p139_18 at hp
  exact wp_ret (r := some (.int s0)) rfl rfl (hQ _ _ ⟨rfl, rfl⟩)
def b139_10 (n : Nat)  (l0 : Nat) (l1 : Int32) (l2 : Int32) (s0 : Int32) (M : zM) : Int32 × zM := (if s0 = 0 then b139_18 n  (b119_0 n l0 (1 : Int32) M).1 (b119_0 n l0 (1 : Int32) M).2 else (if l2 = 0 then ((zI M (zQ M l0 1) l1.toNatClampNeg), M) else if l2 = 1 then ((zI M (zQ M l0 2) l1.toNatClampNeg), M) else if l2 = 2 then (if (zI M (zQ M l0 3) l1.toNatClampNeg) = 0 then b139_104 n  (0 : Int32) M else b139_104 n  (1 : Int32) M) else if l2 = 3 then ((zI M (zQ M l0 4) l1.toNatClampNeg), M) else if l2 = 4 then ((zI M (zQ M l0 5) l1.toNatClampNeg), M) else if l2 = 5 then b139_124 n  (b155_0 n l0 l1 M).1 (b155_0 n l0 l1 M).2 else if l2 = 6 then b139_125 n  l0 l1 l2 M else if l2 = 7 then b139_125 n  l0 l1 l2 M else if l2 = 8 then b139_125 n  l0 l1 l2 M else if l2 = 9 then b139_176 n  n l0 l1 (0 : Int32) (0 : Int32) M else b139_223 n  (b119_0 n l0 (2 : Int32) M).1 (b119_0 n l0 (2 : Int32) M).2))
def p139_10 (n : Nat)  (l0 : Nat) (l1 : Int32) (l2 : Int32) (s0 : Int32) (M : zM) : Prop := ((s0 = 0 → (zHasC 139 196 l0 M 119 1) ∧ ((p119_0 n l0 (1 : Int32) M) ∧ (p139_18 n  (b119_0 n l0 (1 : Int32) M).1 (b119_0 n l0 (1 : Int32) M).2))) ∧ (¬ s0 = 0 → ((l2 = 0 → (zHasQ 10 7 l0 M 1) ∧ ((zOkI (zQ M l0 1) l1 M) ∧ (True))) ∧ (¬ l2 = 0 → (l2 = 1 → (zHasQ 10 13 l0 M 2) ∧ ((zOkI (zQ M l0 2) l1 M) ∧ (True))) ∧ (¬ l2 = 1 → (l2 = 2 → (zHasQ 10 16 l0 M 3) ∧ ((zOkT 2 (zQ M l0 3) l1 M) ∧ ((((zI M (zQ M l0 3) l1.toNatClampNeg) = 0 → p139_104 n  (0 : Int32) M) ∧ (¬ (zI M (zQ M l0 3) l1.toNatClampNeg) = 0 → p139_104 n  (1 : Int32) M))))) ∧ (¬ l2 = 2 → (l2 = 3 → (zHasQ 10 20 l0 M 4) ∧ ((zOkI (zQ M l0 4) l1 M) ∧ (True))) ∧ (¬ l2 = 3 → (l2 = 4 → (zHasQ 10 23 l0 M 5) ∧ ((zOkI (zQ M l0 5) l1 M) ∧ (True))) ∧ (¬ l2 = 4 → (l2 = 5 → (zHasC 139 176 l0 M 155 1) ∧ ((p155_0 n l0 l1 M) ∧ (p139_124 n  (b155_0 n l0 l1 M).1 (b155_0 n l0 l1 M).2))) ∧ (¬ l2 = 5 → (l2 = 6 → p139_125 n  l0 l1 l2 M) ∧ (¬ l2 = 6 → (l2 = 7 → p139_125 n  l0 l1 l2 M) ∧ (¬ l2 = 7 → (l2 = 8 → p139_125 n  l0 l1 l2 M) ∧ (¬ l2 = 8 → (l2 = 9 → p139_176 n  n l0 l1 (0 : Int32) (0 : Int32) M) ∧ (¬ l2 = 9 → (zHasC 139 196 l0 M 119 1) ∧ ((p119_0 n l0 (2 : Int32) M) ∧ (p139_223 n  (b119_0 n l0 (2 : Int32) M).1 (b119_0 n l0 (2 : Int32) M).2)))))))))))))))
theorem s139_10 (n : Nat)    (l0 : Nat) (l1 : Int32) (l2 : Int32) (s0 : Int32) (M : zM) (hp : p139_10 n  l0 l1 l2 s0 M) {Q : Option Value → zM → Prop} (hQ : ∀ r M1, zRI (b139_10 n  l0 l1 l2 s0 M) r M1 → Q r M1) : zWP 139 10 [some (.ref l0), some (.int l1), some (.int l2), none, none] [.int s0] M Q := by
  unfold b139_10 at hQ
  unfold p139_10 at hp
  refine wp_if_ne (t := 19) rfl rfl (fun hc => ?_) (fun hc => ?_)
  · rw [if_neg hc] at hQ
    replace hp := hp.2 hc
    refine wp_go 1 (pc' := 20) (L' := [some (.ref l0), some (.int l1), some (.int l2), none, none]) (st' := [.int l2]) (M' := M) rfl ?_
    by_cases hc0 : l2 = 0
    · rw [if_pos hc0] at hQ
      replace hp := hp.1 hc0
      refine wp_tabI rfl hc0 (t := 76) rfl ?_
      refine wp_go 1 (pc' := 77) (L' := [some (.ref l0), some (.int l1), some (.int l2), none, none]) (st' := [.ref l0]) (M' := M) rfl ?_
      obtain ⟨hc, hp⟩ := hp
      refine wq_getQ (j := 1) rfl hc ?_
      refine wp_go 1 (pc' := 81) (L' := [some (.ref l0), some (.int l1), some (.int l2), none, none]) (st' := [.int l1, .ref (zQ M l0 1)]) (M' := M) rfl ?_
      obtain ⟨hc, hp⟩ := hp
      refine wq_iald rfl hc ?_
      exact wp_ret (r := some (.int (zI M (zQ M l0 1) l1.toNatClampNeg))) rfl rfl (hQ _ _ ⟨rfl, rfl⟩)
    rw [if_neg hc0] at hQ
    replace hp := hp.2 hc0
    by_cases hc1 : l2 = 1
    · rw [if_pos hc1] at hQ
      replace hp := hp.1 hc1
      refine wp_tabI rfl hc1 (t := 83) rfl ?_
      refine wp_go 1 (pc' := 84) (L' := [some (.ref l0), some (.int l1), some (.int l2), none, none]) (st' := [.ref l0]) (M' := M) rfl ?_
      obtain ⟨hc, hp⟩ := hp
      refine wq_getQ (j := 2) rfl hc ?_
      refine wp_go 1 (pc' := 88) (L' := [some (.ref l0), some (.int l1), some (.int l2), none, none]) (st' := [.int l1, .ref (zQ M l0 2)]) (M' := M) rfl ?_
      obtain ⟨hc, hp⟩ := hp
      refine wq_iald rfl hc ?_
      exact wp_ret (r := some (.int (zI M (zQ M l0 2) l1.toNatClampNeg))) rfl rfl (hQ _ _ ⟨rfl, rfl⟩)
    rw [if_neg hc1] at hQ
    replace hp := hp.2 hc1
    by_cases hc2 : l2 = 2
    · rw [if_pos hc2] at hQ
      replace hp := hp.1 hc2
      refine wp_tabI rfl hc2 (t := 90) rfl ?_
      refine wp_go 1 (pc' := 91) (L' := [some (.ref l0), some (.int l1), some (.int l2), none, none]) (st' := [.ref l0]) (M' := M) rfl ?_
      obtain ⟨hc, hp⟩ := hp
      refine wq_getQ (j := 3) rfl hc ?_
      refine wp_go 1 (pc' := 95) (L' := [some (.ref l0), some (.int l1), some (.int l2), none, none]) (st' := [.int l1, .ref (zQ M l0 3)]) (M' := M) rfl ?_
      obtain ⟨hc, hp⟩ := hp
      refine wq_zald rfl hc ?_
      refine wp_if_eq (t := 103) rfl rfl (fun hc => ?_) (fun hc => ?_)
      · rw [if_pos hc] at hQ
        replace hp := hp.1 hc
        refine wp_go 1 (pc' := 104) (L' := [some (.ref l0), some (.int l1), some (.int l2), none, none]) (st' := [.int (0 : Int32)]) (M' := M) rfl ?_
        refine wp_le [none, none, none, none, none] (zLe_of (by simp [zLeB])) ?_
        exact s139_104 n    (0 : Int32) M hp hQ
      · rw [if_neg hc] at hQ
        replace hp := hp.2 hc
        refine wp_go 2 (pc' := 104) (L' := [some (.ref l0), some (.int l1), some (.int l2), none, none]) (st' := [.int (1 : Int32)]) (M' := M) rfl ?_
        refine wp_le [none, none, none, none, none] (zLe_of (by simp [zLeB])) ?_
        exact s139_104 n    (1 : Int32) M hp hQ
    rw [if_neg hc2] at hQ
    replace hp := hp.2 hc2
    by_cases hc3 : l2 = 3
    · rw [if_pos hc3] at hQ
      replace hp := hp.1 hc3
      refine wp_tabI rfl hc3 (t := 105) rfl ?_
      refine wp_go 1 (pc' := 106) (L' := [some (.ref l0), some (.int l1), some (.int l2), none, none]) (st' := [.ref l0]) (M' := M) rfl ?_
      obtain ⟨hc, hp⟩ := hp
      refine wq_getQ (j := 4) rfl hc ?_
      refine wp_go 1 (pc' := 110) (L' := [some (.ref l0), some (.int l1), some (.int l2), none, none]) (st' := [.int l1, .ref (zQ M l0 4)]) (M' := M) rfl ?_
      obtain ⟨hc, hp⟩ := hp
      refine wq_iald rfl hc ?_
      exact wp_ret (r := some (.int (zI M (zQ M l0 4) l1.toNatClampNeg))) rfl rfl (hQ _ _ ⟨rfl, rfl⟩)
    rw [if_neg hc3] at hQ
    replace hp := hp.2 hc3
    by_cases hc4 : l2 = 4
    · rw [if_pos hc4] at hQ
      replace hp := hp.1 hc4
      refine wp_tabI rfl hc4 (t := 112) rfl ?_
      refine wp_go 1 (pc' := 113) (L' := [some (.ref l0), some (.int l1), some (.int l2), none, none]) (st' := [.ref l0]) (M' := M) rfl ?_
      obtain ⟨hc, hp⟩ := hp
      refine wq_getQ (j := 5) rfl hc ?_
      refine wp_go 1 (pc' := 117) (L' := [some (.ref l0), some (.int l1), some (.int l2), none, none]) (st' := [.int l1, .ref (zQ M l0 5)]) (M' := M) rfl ?_
      obtain ⟨hc, hp⟩ := hp
      refine wq_iald rfl hc ?_
      exact wp_ret (r := some (.int (zI M (zQ M l0 5) l1.toNatClampNeg))) rfl rfl (hQ _ _ ⟨rfl, rfl⟩)
    rw [if_neg hc4] at hQ
    replace hp := hp.2 hc4
    by_cases hc5 : l2 = 5
    · rw [if_pos hc5] at hQ
      replace hp := hp.1 hc5
      refine wp_tabI rfl hc5 (t := 119) rfl ?_
      refine wp_go 2 (pc' := 121) (L' := [some (.ref l0), some (.int l1), some (.int l2), none, none]) (st' := [.int l1, .ref l0]) (M' := M) rfl ?_
      obtain ⟨hv, hp⟩ := hp
      obtain ⟨hc, hp⟩ := hp
      refine wp_calli (v := (b155_0 n l0 l1 M).1) (M1 := (b155_0 n l0 l1 M).2) rfl rfl rfl (zInv_v (np := 1) rfl rfl hv rfl) (s155_0 n l0 l1 M hc (fun r M1 h => h)) ?_
      refine wp_le [none, none, none, none, none] (zLe_of (by simp [zLeB])) ?_
      exact s139_124 n    (b155_0 n l0 l1 M).1 (b155_0 n l0 l1 M).2 hp hQ
    rw [if_neg hc5] at hQ
    replace hp := hp.2 hc5
    by_cases hc6 : l2 = 6
    · rw [if_pos hc6] at hQ
      replace hp := hp.1 hc6
      refine wp_tabI rfl hc6 (t := 125) rfl ?_
      exact s139_125 n    l0 l1 l2 M hp hQ
    rw [if_neg hc6] at hQ
    replace hp := hp.2 hc6
    by_cases hc7 : l2 = 7
    · rw [if_pos hc7] at hQ
      replace hp := hp.1 hc7
      refine wp_tabI rfl hc7 (t := 125) rfl ?_
      exact s139_125 n    l0 l1 l2 M hp hQ
    rw [if_neg hc7] at hQ
    replace hp := hp.2 hc7
    by_cases hc8 : l2 = 8
    · rw [if_pos hc8] at hQ
      replace hp := hp.1 hc8
      refine wp_tabI rfl hc8 (t := 125) rfl ?_
      exact s139_125 n    l0 l1 l2 M hp hQ
    rw [if_neg hc8] at hQ
    replace hp := hp.2 hc8
    by_cases hc9 : l2 = 9
    · rw [if_pos hc9] at hQ
      replace hp := hp.1 hc9
      refine wp_tabI rfl hc9 (t := 171) rfl ?_
      refine wp_go 4 (pc' := 176) (L' := [some (.ref l0), some (.int l1), some (.int l2), some (.int (0 : Int32)), some (.int (0 : Int32))]) (st' := []) (M' := M) rfl ?_
      refine wp_le [some (.ref l0), some (.int l1), none, some (.int (0 : Int32)), some (.int (0 : Int32))] (zLe_of (by simp [zLeB])) ?_
      exact s139_176 n    n l0 l1 (0 : Int32) (0 : Int32) M hp hQ
    rw [if_neg hc9] at hQ
    replace hp := hp.2 hc9
    refine wp_tabO (t := 218) rfl (by have e0 : ¬ (l2).toInt = 0 := fun h => hc0 (Int32.toInt_inj.mp h); have e1 : ¬ (l2).toInt = 1 := fun h => hc1 (Int32.toInt_inj.mp h); have e2 : ¬ (l2).toInt = 2 := fun h => hc2 (Int32.toInt_inj.mp h); have e3 : ¬ (l2).toInt = 3 := fun h => hc3 (Int32.toInt_inj.mp h); have e4 : ¬ (l2).toInt = 4 := fun h => hc4 (Int32.toInt_inj.mp h); have e5 : ¬ (l2).toInt = 5 := fun h => hc5 (Int32.toInt_inj.mp h); have e6 : ¬ (l2).toInt = 6 := fun h => hc6 (Int32.toInt_inj.mp h); have e7 : ¬ (l2).toInt = 7 := fun h => hc7 (Int32.toInt_inj.mp h); have e8 : ¬ (l2).toInt = 8 := fun h => hc8 (Int32.toInt_inj.mp h); have e9 : ¬ (l2).toInt = 9 := fun h => hc9 (Int32.toInt_inj.mp h); omega) rfl ?_
    refine wp_go 2 (pc' := 220) (L' := [some (.ref l0), some (.int l1), some (.int l2), none, none]) (st' := [.int (2 : Int32), .ref l0]) (M' := M) rfl ?_
    obtain ⟨hv, hp⟩ := hp
    obtain ⟨hc, hp⟩ := hp
    refine wp_calli (v := (b119_0 n l0 (2 : Int32) M).1) (M1 := (b119_0 n l0 (2 : Int32) M).2) rfl rfl rfl (zInv_v (np := 1) rfl rfl hv rfl) (s119_0 n l0 (2 : Int32) M hc (fun r M1 h => h)) ?_
    refine wp_le [none, none, none, none, none] (zLe_of (by simp [zLeB])) ?_
    exact s139_223 n    (b119_0 n l0 (2 : Int32) M).1 (b119_0 n l0 (2 : Int32) M).2 hp hQ
  · rw [if_pos hc] at hQ
    replace hp := hp.1 hc
    refine wp_go 2 (pc' := 15) (L' := [some (.ref l0), some (.int l1), some (.int l2), none, none]) (st' := [.int (1 : Int32), .ref l0]) (M' := M) rfl ?_
    obtain ⟨hv, hp⟩ := hp
    obtain ⟨hc, hp⟩ := hp
    refine wp_calli (v := (b119_0 n l0 (1 : Int32) M).1) (M1 := (b119_0 n l0 (1 : Int32) M).2) rfl rfl rfl (zInv_v (np := 1) rfl rfl hv rfl) (s119_0 n l0 (1 : Int32) M hc (fun r M1 h => h)) ?_
    refine wp_le [none, none, none, none, none] (zLe_of (by simp [zLeB])) ?_
    exact s139_18 n    (b119_0 n l0 (1 : Int32) M).1 (b119_0 n l0 (1 : Int32) M).2 hp hQ
def b139_5 (n : Nat)  (l0 : Nat) (l1 : Int32) (l2 : Int32) (M : zM) : Int32 × zM := b139_10 n  l0 l1 l2 (b126_0 n l0 l1 M).1 (b126_0 n l0 l1 M).2
def p139_5 (n : Nat)  (l0 : Nat) (l1 : Int32) (l2 : Int32) (M : zM) : Prop := (zHasC 139 151 l0 M 126 1) ∧ ((p126_0 n l0 l1 M) ∧ (p139_10 n  l0 l1 l2 (b126_0 n l0 l1 M).1 (b126_0 n l0 l1 M).2))
theorem s139_5 (n : Nat)    (l0 : Nat) (l1 : Int32) (l2 : Int32) (M : zM) (hp : p139_5 n  l0 l1 l2 M) {Q : Option Value → zM → Prop} (hQ : ∀ r M1, zRI (b139_5 n  l0 l1 l2 M) r M1 → Q r M1) : zWP 139 5 [some (.ref l0), some (.int l1), some (.int l2), none, none] [] M Q := by
  unfold b139_5 at hQ
  unfold p139_5 at hp
  refine wp_go 2 (pc' := 7) (L' := [some (.ref l0), some (.int l1), some (.int l2), none, none]) (st' := [.int l1, .ref l0]) (M' := M) rfl ?_
  obtain ⟨hv, hp⟩ := hp
  obtain ⟨hc, hp⟩ := hp
  refine wp_calli (v := (b126_0 n l0 l1 M).1) (M1 := (b126_0 n l0 l1 M).2) rfl rfl rfl (zInv_v (np := 1) rfl rfl hv rfl) (s126_0 n l0 l1 M hc (fun r M1 h => h)) ?_
  exact s139_10 n    l0 l1 l2 (b126_0 n l0 l1 M).1 (b126_0 n l0 l1 M).2 hp hQ
def b139_0 (n : Nat)  (l0 : Nat) (l1 : Int32) (l2 : Int32) (M : zM) : Int32 × zM := b139_5 n  l0 l1 l2 (zWI M l0 26 (0 : Int32))
def p139_0 (n : Nat)  (l0 : Nat) (l1 : Int32) (l2 : Int32) (M : zM) : Prop := (zPutI 139 138 l0 M 26 (0 : Int32)) ∧ (p139_5 n  l0 l1 l2 (zWI M l0 26 (0 : Int32)))
theorem s139_0 (n : Nat)    (l0 : Nat) (l1 : Int32) (l2 : Int32) (M : zM) (hp : p139_0 n  l0 l1 l2 M) {Q : Option Value → zM → Prop} (hQ : ∀ r M1, zRI (b139_0 n  l0 l1 l2 M) r M1 → Q r M1) : zWP 139 0 [some (.ref l0), some (.int l1), some (.int l2), none, none] [] M Q := by
  unfold b139_0 at hQ
  unfold p139_0 at hp
  refine wp_go 2 (pc' := 2) (L' := [some (.ref l0), some (.int l1), some (.int l2), none, none]) (st' := [.int (0 : Int32), .ref l0]) (M' := M) rfl ?_
  obtain ⟨hc, hp⟩ := hp
  refine wq_putI (j := 26) rfl hc ?_
  exact s139_5 n    l0 l1 l2 (zWI M l0 26 (0 : Int32)) hp hQ
