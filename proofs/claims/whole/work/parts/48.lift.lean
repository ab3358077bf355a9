/-! X11_areaOf -/
def b115_55 (n : Nat) (k5 : Nat → Int32 → Int64 → Int32 → zM → Int64 × zM) (l0 : Nat) (l1 : Int32) (l2 : Int64) (l4 : Int32) (M : zM) : Int64 × zM := k5 l0 l1 l2 (l4 + Int32.ofInt 1) M
def p115_55 (n : Nat) (q5 : Nat → Int32 → Int64 → Int32 → zM → Prop) (l0 : Nat) (l1 : Int32) (l2 : Int64) (l4 : Int32) (M : zM) : Prop := q5 l0 l1 l2 (l4 + Int32.ofInt 1) M
theorem s115_55 (n : Nat) (k5 : Nat → Int32 → Int64 → Int32 → zM → Int64 × zM) (q5 : Nat → Int32 → Int64 → Int32 → zM → Prop) (h5 : ∀ (l0 : Nat) (l1 : Int32) (l2 : Int64) (l4 : Int32) (M : zM), q5 l0 l1 l2 l4 M → ∀ {Q : Option Value → zM → Prop}, (∀ r M1, zRJ (k5 l0 l1 l2 l4 M) r M1 → Q r M1) → zWP 115 5 [some (.ref l0), some (.int l1), some (.long l2), none, some (.int l4)] [] M Q) (l0 : Nat) (l1 : Int32) (l2 : Int64) (l4 : Int32) (M : zM) (hp : p115_55 n q5 l0 l1 l2 l4 M) {Q : Option Value → zM → Prop} (hQ : ∀ r M1, zRJ (b115_55 n k5 l0 l1 l2 l4 M) r M1 → Q r M1) : zWP 115 55 [some (.ref l0), some (.int l1), some (.long l2), none, some (.int l4)] [] M Q := by
  unfold b115_55 at hQ
  unfold p115_55 at hp
  refine wp_go 2 (pc' := 5) (L' := [some (.ref l0), some (.int l1), some (.long l2), none, some (.int (l4 + Int32.ofInt 1))]) (st' := []) (M' := M) rfl ?_
  exact h5 l0 l1 l2 (l4 + Int32.ofInt 1) M hp hQ
def b115_53 (n : Nat) (k5 : Nat → Int32 → Int64 → Int32 → zM → Int64 × zM) (l0 : Nat) (l1 : Int32) (l4 : Int32) (s0 : Int64) (s1 : Int64) (M : zM) : Int64 × zM := b115_55 n k5 l0 l1 (s0 + s1) l4 M
def p115_53 (n : Nat) (q5 : Nat → Int32 → Int64 → Int32 → zM → Prop) (l0 : Nat) (l1 : Int32) (l4 : Int32) (s0 : Int64) (s1 : Int64) (M : zM) : Prop := p115_55 n q5 l0 l1 (s0 + s1) l4 M
theorem s115_53 (n : Nat) (k5 : Nat → Int32 → Int64 → Int32 → zM → Int64 × zM) (q5 : Nat → Int32 → Int64 → Int32 → zM → Prop) (h5 : ∀ (l0 : Nat) (l1 : Int32) (l2 : Int64) (l4 : Int32) (M : zM), q5 l0 l1 l2 l4 M → ∀ {Q : Option Value → zM → Prop}, (∀ r M1, zRJ (k5 l0 l1 l2 l4 M) r M1 → Q r M1) → zWP 115 5 [some (.ref l0), some (.int l1), some (.long l2), none, some (.int l4)] [] M Q) (l0 : Nat) (l1 : Int32) (l4 : Int32) (s0 : Int64) (s1 : Int64) (M : zM) (hp : p115_53 n q5 l0 l1 l4 s0 s1 M) {Q : Option Value → zM → Prop} (hQ : ∀ r M1, zRJ (b115_53 n k5 l0 l1 l4 s0 s1 M) r M1 → Q r M1) : zWP 115 53 [some (.ref l0), some (.int l1), none, none, some (.int l4)] [.long s1, .long s0] M Q := by
  unfold b115_53 at hQ
  unfold p115_53 at hp
  refine wp_go 2 (pc' := 55) (L' := [some (.ref l0), some (.int l1), some (.long (s0 + s1)), none, some (.int l4)]) (st' := []) (M' := M) rfl ?_
  exact s115_55 n k5 q5 h5 l0 l1 (s0 + s1) l4 M hp hQ
def c115_5 (n : Nat) (k5 : Nat → Int32 → Int64 → Int32 → zM → Int64 × zM) (l0 : Nat) (l1 : Int32) (l2 : Int64) (l4 : Int32) (M : zM) : Int64 × zM := (if (zI M l0 12) ≤ l4 then (l2, M) else (if (zI M (zQ M (zQ M l0 4) 0) l4.toNatClampNeg) = l1 then (if (zI M (zQ M (zQ M l0 0) l4.toNatClampNeg) 8) = 0 then b115_55 n k5 l0 l1 l2 l4 M else b115_53 n k5 l0 l1 l4 l2 (b52_0 n (zQ M (zQ M l0 0) l4.toNatClampNeg) (0 : Int32) M).1 (b52_0 n (zQ M (zQ M l0 0) l4.toNatClampNeg) (0 : Int32) M).2) else b115_55 n k5 l0 l1 l2 l4 M))
def d115_5 (n : Nat) (q5 : Nat → Int32 → Int64 → Int32 → zM → Prop) (l0 : Nat) (l1 : Int32) (l2 : Int64) (l4 : Int32) (M : zM) : Prop := (zHasI 9 78 l0 M 12) ∧ ((((zI M l0 12) ≤ l4 → True) ∧ (¬ (zI M l0 12) ≤ l4 → (zHasQ 9 35 l0 M 4) ∧ ((zHasQ 9 192 (zQ M l0 4) M 0) ∧ ((zOkI (zQ M (zQ M l0 4) 0) l4 M) ∧ ((((zI M (zQ M (zQ M l0 4) 0) l4.toNatClampNeg) = l1 → (zHasQ 9 11 l0 M 0) ∧ ((zOkR (zQ M l0 0) l4 M) ∧ ((zHasI 9 124 (zQ M (zQ M l0 0) l4.toNatClampNeg) M 8) ∧ ((((zI M (zQ M (zQ M l0 0) l4.toNatClampNeg) 8) = 0 → p115_55 n q5 l0 l1 l2 l4 M) ∧ (¬ (zI M (zQ M (zQ M l0 0) l4.toNatClampNeg) 8) = 0 → (zHasQ 9 11 l0 M 0) ∧ ((zOkR (zQ M l0 0) l4 M) ∧ ((zHasC 115 233 (zQ M (zQ M l0 0) l4.toNatClampNeg) M 52 1) ∧ ((p52_0 n (zQ M (zQ M l0 0) l4.toNatClampNeg) (0 : Int32) M) ∧ (p115_53 n q5 l0 l1 l4 l2 (b52_0 n (zQ M (zQ M l0 0) l4.toNatClampNeg) (0 : Int32) M).1 (b52_0 n (zQ M (zQ M l0 0) l4.toNatClampNeg) (0 : Int32) M).2)))))))))) ∧ (¬ (zI M (zQ M (zQ M l0 4) 0) l4.toNatClampNeg) = l1 → p115_55 n q5 l0 l1 l2 l4 M))))))))
theorem t115_5 (n : Nat) (k5 : Nat → Int32 → Int64 → Int32 → zM → Int64 × zM) (q5 : Nat → Int32 → Int64 → Int32 → zM → Prop) (h5 : ∀ (l0 : Nat) (l1 : Int32) (l2 : Int64) (l4 : Int32) (M : zM), q5 l0 l1 l2 l4 M → ∀ {Q : Option Value → zM → Prop}, (∀ r M1, zRJ (k5 l0 l1 l2 l4 M) r M1 → Q r M1) → zWP 115 5 [some (.ref l0), some (.int l1), some (.long l2), none, some (.int l4)] [] M Q) (l0 : Nat) (l1 : Int32) (l2 : Int64) (l4 : Int32) (M : zM) (hp : d115_5 n q5 l0 l1 l2 l4 M) {Q : Option Value → zM → Prop} (hQ : ∀ r M1, zRJ (c115_5 n k5 l0 l1 l2 l4 M) r M1 → Q r M1) : zWP 115 5 [some (.ref l0), some (.int l1), some (.long l2), none, some (.int l4)] [] M Q := by
  unfold c115_5 at hQ
  unfold d115_5 at hp
  refine wp_go 2 (pc' := 8) (L' := [some (.ref l0), some (.int l1), some (.long l2), none, some (.int l4)]) (st' := [.ref l0, .int l4]) (M' := M) rfl ?_
  obtain ⟨hc, hp⟩ := hp
  refine wq_getI (j := 12) rfl hc ?_
  refine wp_ic_ge (t := 61) rfl rfl (fun hc => ?_) (fun hc => ?_)
  · rw [if_pos hc] at hQ
    replace hp := hp.1 hc
    refine wp_go 1 (pc' := 62) (L' := [some (.ref l0), some (.int l1), some (.long l2), none, some (.int l4)]) (st' := [.long l2]) (M' := M) rfl ?_
    exact wp_ret (r := some (.long l2)) rfl rfl (hQ _ _ ⟨rfl, rfl⟩)
  · rw [if_neg hc] at hQ
    replace hp := hp.2 hc
    refine wp_go 1 (pc' := 15) (L' := [some (.ref l0), some (.int l1), some (.long l2), none, some (.int l4)]) (st' := [.ref l0]) (M' := M) rfl ?_
    obtain ⟨hc, hp⟩ := hp
    refine wq_getQ (j := 4) rfl hc ?_
    obtain ⟨hc, hp⟩ := hp
    refine wq_getQ (j := 0) rfl hc ?_
    refine wp_go 1 (pc' := 23) (L' := [some (.ref l0), some (.int l1), some (.long l2), none, some (.int l4)]) (st' := [.int l4, .ref (zQ M (zQ M l0 4) 0)]) (M' := M) rfl ?_
    obtain ⟨hc, hp⟩ := hp
    refine wq_iald rfl hc ?_
    refine wp_go 1 (pc' := 25) (L' := [some (.ref l0), some (.int l1), some (.long l2), none, some (.int l4)]) (st' := [.int l1, .int (zI M (zQ M (zQ M l0 4) 0) l4.toNatClampNeg)]) (M' := M) rfl ?_
    refine wp_ic_ne (t := 55) rfl rfl (fun hc => ?_) (fun hc => ?_)
    · rw [if_neg hc] at hQ
      replace hp := hp.2 hc
      exact s115_55 n k5 q5 h5 l0 l1 l2 l4 M hp hQ
    · rw [if_pos hc] at hQ
      replace hp := hp.1 hc
      refine wp_go 1 (pc' := 29) (L' := [some (.ref l0), some (.int l1), some (.long l2), none, some (.int l4)]) (st' := [.ref l0]) (M' := M) rfl ?_
      obtain ⟨hc, hp⟩ := hp
      refine wq_getQ (j := 0) rfl hc ?_
      refine wp_go 1 (pc' := 34) (L' := [some (.ref l0), some (.int l1), some (.long l2), none, some (.int l4)]) (st' := [.int l4, .ref (zQ M l0 0)]) (M' := M) rfl ?_
      obtain ⟨hc, hp⟩ := hp
      refine wq_aald rfl hc ?_
      obtain ⟨hc, hp⟩ := hp
      refine wq_getI (j := 8) rfl hc ?_
      refine wp_if_eq (t := 55) rfl rfl (fun hc => ?_) (fun hc => ?_)
      · rw [if_pos hc] at hQ
        replace hp := hp.1 hc
        exact s115_55 n k5 q5 h5 l0 l1 l2 l4 M hp hQ
      · rw [if_neg hc] at hQ
        replace hp := hp.2 hc
        refine wp_go 2 (pc' := 43) (L' := [some (.ref l0), some (.int l1), some (.long l2), none, some (.int l4)]) (st' := [.ref l0, .long l2]) (M' := M) rfl ?_
        obtain ⟨hc, hp⟩ := hp
        refine wq_getQ (j := 0) rfl hc ?_
        refine wp_go 1 (pc' := 48) (L' := [some (.ref l0), some (.int l1), some (.long l2), none, some (.int l4)]) (st' := [.int l4, .ref (zQ M l0 0), .long l2]) (M' := M) rfl ?_
        obtain ⟨hc, hp⟩ := hp
        refine wq_aald rfl hc ?_
        refine wp_go 1 (pc' := 50) (L' := [some (.ref l0), some (.int l1), some (.long l2), none, some (.int l4)]) (st' := [.int (0 : Int32), .ref (zQ M (zQ M l0 0) l4.toNatClampNeg), .long l2]) (M' := M) rfl ?_
        obtain ⟨hv, hp⟩ := hp
        obtain ⟨hc, hp⟩ := hp
        refine wp_calll (v := (b52_0 n (zQ M (zQ M l0 0) l4.toNatClampNeg) (0 : Int32) M).1) (M1 := (b52_0 n (zQ M (zQ M l0 0) l4.toNatClampNeg) (0 : Int32) M).2) rfl rfl rfl (zInv_v (np := 1) rfl rfl hv rfl) (s52_0 n (zQ M (zQ M l0 0) l4.toNatClampNeg) (0 : Int32) M hc (fun r M1 h => h)) ?_
        refine wp_le [some (.ref l0), some (.int l1), none, none, some (.int l4)] (zLe_of (by simp [zLeB])) ?_
        exact s115_53 n k5 q5 h5 l0 l1 l4 l2 (b52_0 n (zQ M (zQ M l0 0) l4.toNatClampNeg) (0 : Int32) M).1 (b52_0 n (zQ M (zQ M l0 0) l4.toNatClampNeg) (0 : Int32) M).2 hp hQ
def b115_5 (n : Nat)  : Nat → Nat → Int32 → Int64 → Int32 → zM → Int64 × zM
  | 0, _, _, _, _, M => (0, M)
  | k + 1, l0, l1, l2, l4, M => c115_5 n  (b115_5 n  k) l0 l1 l2 l4 M
def p115_5 (n : Nat)  : Nat → Nat → Int32 → Int64 → Int32 → zM → Prop
  | 0, _, _, _, _, _ => False
  | k + 1, l0, l1, l2, l4, M => d115_5 n  (p115_5 n  k) l0 l1 l2 l4 M
theorem s115_5 (n : Nat)    : ∀ (k : Nat) (l0 : Nat) (l1 : Int32) (l2 : Int64) (l4 : Int32) (M : zM), p115_5 n  k l0 l1 l2 l4 M → ∀ {Q : Option Value → zM → Prop}, (∀ r M1, zRJ (b115_5 n  k l0 l1 l2 l4 M) r M1 → Q r M1) → zWP 115 5 [some (.ref l0), some (.int l1), some (.long l2), none, some (.int l4)] [] M Q
  | 0, _, _, _, _, _, h, _, _ => h.elim
  | k + 1, l0, l1, l2, l4, M, h, _, hQ => t115_5 n  (b115_5 n  k)  (p115_5 n  k)  (s115_5 n    k) l0 l1 l2 l4 M h hQ
def b115_0 (n : Nat)  (l0 : Nat) (l1 : Int32) (M : zM) : Int64 × zM := b115_5 n  n l0 l1 (0 : Int64) (0 : Int32) M
def p115_0 (n : Nat)  (l0 : Nat) (l1 : Int32) (M : zM) : Prop := p115_5 n  n l0 l1 (0 : Int64) (0 : Int32) M
theorem s115_0 (n : Nat)    (l0 : Nat) (l1 : Int32) (M : zM) (hp : p115_0 n  l0 l1 M) {Q : Option Value → zM → Prop} (hQ : ∀ r M1, zRJ (b115_0 n  l0 l1 M) r M1 → Q r M1) : zWP 115 0 [some (.ref l0), some (.int l1), none, none, none] [] M Q := by
  unfold b115_0 at hQ
  unfold p115_0 at hp
  refine wp_go 4 (pc' := 5) (L' := [some (.ref l0), some (.int l1), some (.long (0 : Int64)), none, some (.int (0 : Int32))]) (st' := []) (M' := M) rfl ?_
  exact s115_5 n    n l0 l1 (0 : Int64) (0 : Int32) M hp hQ
/-! J9_max_f86c9 -/
def b193_11 (n : Nat)  (s0 : Int64) (M : zM) : Int64 × zM := (s0, M)
def p193_11 (n : Nat)  (s0 : Int64) (M : zM) : Prop := True
theorem s193_11 (n : Nat)    (s0 : Int64) (M : zM) (hp : p193_11 n  s0 M) {Q : Option Value → zM → Prop} (hQ : ∀ r M1, zRJ (b193_11 n  s0 M) r M1 → Q r M1) : zWP 193 11 [none, none, none, none] [.long s0] M Q := by
  unfold b193_11 at hQ
  unfold p193_11 at hp
  exact wp_ret (r := some (.long s0)) rfl rfl (hQ _ _ ⟨rfl, rfl⟩)
def b193_0 (n : Nat)  (l0 : Int64) (l2 : Int64) (M : zM) : Int64 × zM := (if (lg_cmp l0 l2) < 0 then b193_11 n  l2 M else b193_11 n  l0 M)
def p193_0 (n : Nat)  (l0 : Int64) (l2 : Int64) (M : zM) : Prop := (((lg_cmp l0 l2) < 0 → p193_11 n  l2 M) ∧ (¬ (lg_cmp l0 l2) < 0 → p193_11 n  l0 M))
theorem s193_0 (n : Nat)    (l0 : Int64) (l2 : Int64) (M : zM) (hp : p193_0 n  l0 l2 M) {Q : Option Value → zM → Prop} (hQ : ∀ r M1, zRJ (b193_0 n  l0 l2 M) r M1 → Q r M1) : zWP 193 0 [some (.long l0), none, some (.long l2), none] [] M Q := by
  unfold b193_0 at hQ
  unfold p193_0 at hp
  refine wp_go 3 (pc' := 3) (L' := [some (.long l0), none, some (.long l2), none]) (st' := [.int (lg_cmp l0 l2)]) (M' := M) rfl ?_
  refine wp_if_lt (t := 10) rfl rfl (fun hc => ?_) (fun hc => ?_)
  · rw [if_pos hc] at hQ
    replace hp := hp.1 hc
    refine wp_go 1 (pc' := 11) (L' := [some (.long l0), none, some (.long l2), none]) (st' := [.long l2]) (M' := M) rfl ?_
    refine wp_le [none, none, none, none] (zLe_of (by simp [zLeB])) ?_
    exact s193_11 n    l2 M hp hQ
  · rw [if_neg hc] at hQ
    replace hp := hp.2 hc
    refine wp_go 2 (pc' := 11) (L' := [some (.long l0), none, some (.long l2), none]) (st' := [.long l0]) (M' := M) rfl ?_
    refine wp_le [none, none, none, none] (zLe_of (by simp [zLeB])) ?_
    exact s193_11 n    l0 M hp hQ
/-! X11_missingOf -/
def b116_65 (n : Nat) (k2 : Nat → Int32 → Int32 → zM → Int64 × zM) (l0 : Nat) (l1 : Int32) (l2 : Int32) (M : zM) : Int64 × zM := k2 l0 l1 (l2 + Int32.ofInt 1) M
def p116_65 (n : Nat) (q2 : Nat → Int32 → Int32 → zM → Prop) (l0 : Nat) (l1 : Int32) (l2 : Int32) (M : zM) : Prop := q2 l0 l1 (l2 + Int32.ofInt 1) M
theorem s116_65 (n : Nat) (k2 : Nat → Int32 → Int32 → zM → Int64 × zM) (q2 : Nat → Int32 → Int32 → zM → Prop) (h2 : ∀ (l0 : Nat) (l1 : Int32) (l2 : Int32) (M : zM), q2 l0 l1 l2 M → ∀ {Q : Option Value → zM → Prop}, (∀ r M1, zRJ (k2 l0 l1 l2 M) r M1 → Q r M1) → zWP 116 2 [some (.ref l0), some (.int l1), some (.int l2), none, none] [] M Q) (l0 : Nat) (l1 : Int32) (l2 : Int32) (M : zM) (hp : p116_65 n q2 l0 l1 l2 M) {Q : Option Value → zM → Prop} (hQ : ∀ r M1, zRJ (b116_65 n k2 l0 l1 l2 M) r M1 → Q r M1) : zWP 116 65 [some (.ref l0), some (.int l1), some (.int l2), none, none] [] M Q := by
  unfold b116_65 at hQ
  unfold p116_65 at hp
  refine wp_go 2 (pc' := 2) (L' := [some (.ref l0), some (.int l1), some (.int (l2 + Int32.ofInt 1)), none, none]) (st' := []) (M' := M) rfl ?_
  exact h2 l0 l1 (l2 + Int32.ofInt 1) M hp hQ
def b116_64 (n : Nat)  (s0 : Int64) (M : zM) : Int64 × zM := (s0, M)
def p116_64 (n : Nat)  (s0 : Int64) (M : zM) : Prop := True
theorem s116_64 (n : Nat)    (s0 : Int64) (M : zM) (hp : p116_64 n  s0 M) {Q : Option Value → zM → Prop} (hQ : ∀ r M1, zRJ (b116_64 n  s0 M) r M1 → Q r M1) : zWP 116 64 [none, none, none, none, none] [.long s0] M Q := by
  unfold b116_64 at hQ
  unfold p116_64 at hp
  exact wp_ret (r := some (.long s0)) rfl rfl (hQ _ _ ⟨rfl, rfl⟩)
def b116_60 (n : Nat)  (s0 : Int64) (s1 : Int64) (s2 : Int64) (M : zM) : Int64 × zM := b116_64 n  (b193_0 n s0 (s1 - s2) M).1 (b193_0 n s0 (s1 - s2) M).2
def p116_60 (n : Nat)  (s0 : Int64) (s1 : Int64) (s2 : Int64) (M : zM) : Prop := (p193_0 n s0 (s1 - s2) M) ∧ (p116_64 n  (b193_0 n s0 (s1 - s2) M).1 (b193_0 n s0 (s1 - s2) M).2)
theorem s116_60 (n : Nat)    (s0 : Int64) (s1 : Int64) (s2 : Int64) (M : zM) (hp : p116_60 n  s0 s1 s2 M) {Q : Option Value → zM → Prop} (hQ : ∀ r M1, zRJ (b116_60 n  s0 s1 s2 M) r M1 → Q r M1) : zWP 116 60 [none, none, none, none, none] [.long s2, .long s1, .long s0] M Q := by
  unfold b116_60 at hQ
  unfold p116_60 at hp
  refine wp_go 1 (pc' := 61) (L' := [none, none, none, none, none]) (st' := [.long (s1 - s2), .long s0]) (M' := M) rfl ?_
  obtain ⟨hc, hp⟩ := hp
  refine wp_calll (v := (b193_0 n s0 (s1 - s2) M).1) (M1 := (b193_0 n s0 (s1 - s2) M).2) rfl rfl rfl rfl (s193_0 n s0 (s1 - s2) M hc (fun r M1 h => h)) ?_
  exact s116_64 n    (b193_0 n s0 (s1 - s2) M).1 (b193_0 n s0 (s1 - s2) M).2 hp hQ
def c116_2 (n : Nat) (k2 : Nat → Int32 → Int32 → zM → Int64 × zM) (l0 : Nat) (l1 : Int32) (l2 : Int32) (M : zM) : Int64 × zM := (if (zI M l0 12) ≤ l2 then (((-1) : Int64), M) else (if (zI M (zQ M (zQ M l0 4) 0) l2.toNatClampNeg) = l1 then (if (zI M (zQ M (zQ M l0 0) l2.toNatClampNeg) 10) = ((-1) : Int32) then b116_65 n k2 l0 l1 l2 M else b116_60 n  (0 : Int64) (((6283185 : Int64) * (zI M (zQ M (zQ M l0 0) l2.toNatClampNeg) 10).toInt64) * (zI M (zQ M (zQ M l0 0) l2.toNatClampNeg) 10).toInt64) (b115_0 n l0 l1 M).1 (b115_0 n l0 l1 M).2) else b116_65 n k2 l0 l1 l2 M))
def d116_2 (n : Nat) (q2 : Nat → Int32 → Int32 → zM → Prop) (l0 : Nat) (l1 : Int32) (l2 : Int32) (M : zM) : Prop := (zHasI 9 78 l0 M 12) ∧ ((((zI M l0 12) ≤ l2 → True) ∧ (¬ (zI M l0 12) ≤ l2 → (zHasQ 9 35 l0 M 4) ∧ ((zHasQ 9 192 (zQ M l0 4) M 0) ∧ ((zOkI (zQ M (zQ M l0 4) 0) l2 M) ∧ ((((zI M (zQ M (zQ M l0 4) 0) l2.toNatClampNeg) = l1 → (zHasQ 9 11 l0 M 0) ∧ ((zOkR (zQ M l0 0) l2 M) ∧ ((zHasI 9 178 (zQ M (zQ M l0 0) l2.toNatClampNeg) M 10) ∧ ((((zI M (zQ M (zQ M l0 0) l2.toNatClampNeg) 10) = ((-1) : Int32) → p116_65 n q2 l0 l1 l2 M) ∧ (¬ (zI M (zQ M (zQ M l0 0) l2.toNatClampNeg) 10) = ((-1) : Int32) → (zHasQ 9 11 l0 M 0) ∧ ((zOkR (zQ M l0 0) l2 M) ∧ ((zHasI 9 178 (zQ M (zQ M l0 0) l2.toNatClampNeg) M 10) ∧ ((zHasC 116 366 l0 M 115 1) ∧ ((p115_0 n l0 l1 M) ∧ (p116_60 n  (0 : Int64) (((6283185 : Int64) * (zI M (zQ M (zQ M l0 0) l2.toNatClampNeg) 10).toInt64) * (zI M (zQ M (zQ M l0 0) l2.toNatClampNeg) 10).toInt64) (b115_0 n l0 l1 M).1 (b115_0 n l0 l1 M).2))))))))))) ∧ (¬ (zI M (zQ M (zQ M l0 4) 0) l2.toNatClampNeg) = l1 → p116_65 n q2 l0 l1 l2 M))))))))
theorem t116_2 (n : Nat) (k2 : Nat → Int32 → Int32 → zM → Int64 × zM) (q2 : Nat → Int32 → Int32 → zM → Prop) (h2 : ∀ (l0 : Nat) (l1 : Int32) (l2 : Int32) (M : zM), q2 l0 l1 l2 M → ∀ {Q : Option Value → zM → Prop}, (∀ r M1, zRJ (k2 l0 l1 l2 M) r M1 → Q r M1) → zWP 116 2 [some (.ref l0), some (.int l1), some (.int l2), none, none] [] M Q) (l0 : Nat) (l1 : Int32) (l2 : Int32) (M : zM) (hp : d116_2 n q2 l0 l1 l2 M) {Q : Option Value → zM → Prop} (hQ : ∀ r M1, zRJ (c116_2 n k2 l0 l1 l2 M) r M1 → Q r M1) : zWP 116 2 [some (.ref l0), some (.int l1), some (.int l2), none, none] [] M Q := by
  unfold c116_2 at hQ
  unfold d116_2 at hp
  refine wp_go 2 (pc' := 4) (L' := [some (.ref l0), some (.int l1), some (.int l2), none, none]) (st' := [.ref l0, .int l2]) (M' := M) rfl ?_
  obtain ⟨hc, hp⟩ := hp
  refine wq_getI (j := 12) rfl hc ?_
  refine wp_ic_ge (t := 71) rfl rfl (fun hc => ?_) (fun hc => ?_)
  · rw [if_pos hc] at hQ
    replace hp := hp.1 hc
    refine wp_go 1 (pc' := 74) (L' := [some (.ref l0), some (.int l1), some (.int l2), none, none]) (st' := [.long ((-1) : Int64)]) (M' := M) rfl ?_
    exact wp_ret (r := some (.long ((-1) : Int64))) rfl rfl (hQ _ _ ⟨rfl, rfl⟩)
  · rw [if_neg hc] at hQ
    replace hp := hp.2 hc
    refine wp_go 1 (pc' := 11) (L' := [some (.ref l0), some (.int l1), some (.int l2), none, none]) (st' := [.ref l0]) (M' := M) rfl ?_
    obtain ⟨hc, hp⟩ := hp
    refine wq_getQ (j := 4) rfl hc ?_
    obtain ⟨hc, hp⟩ := hp
    refine wq_getQ (j := 0) rfl hc ?_
    refine wp_go 1 (pc' := 18) (L' := [some (.ref l0), some (.int l1), some (.int l2), none, none]) (st' := [.int l2, .ref (zQ M (zQ M l0 4) 0)]) (M' := M) rfl ?_
    obtain ⟨hc, hp⟩ := hp
    refine wq_iald rfl hc ?_
    refine wp_go 1 (pc' := 20) (L' := [some (.ref l0), some (.int l1), some (.int l2), none, none]) (st' := [.int l1, .int (zI M (zQ M (zQ M l0 4) 0) l2.toNatClampNeg)]) (M' := M) rfl ?_
    refine wp_ic_ne (t := 65) rfl rfl (fun hc => ?_) (fun hc => ?_)
    · rw [if_neg hc] at hQ
      replace hp := hp.2 hc
      exact s116_65 n k2 q2 h2 l0 l1 l2 M hp hQ
    · rw [if_pos hc] at hQ
      replace hp := hp.1 hc
      refine wp_go 1 (pc' := 24) (L' := [some (.ref l0), some (.int l1), some (.int l2), none, none]) (st' := [.ref l0]) (M' := M) rfl ?_
      obtain ⟨hc, hp⟩ := hp
      refine wq_getQ (j := 0) rfl hc ?_
      refine wp_go 1 (pc' := 28) (L' := [some (.ref l0), some (.int l1), some (.int l2), none, none]) (st' := [.int l2, .ref (zQ M l0 0)]) (M' := M) rfl ?_
      obtain ⟨hc, hp⟩ := hp
      refine wq_aald rfl hc ?_
      obtain ⟨hc, hp⟩ := hp
      refine wq_getI (j := 10) rfl hc ?_
      refine wp_go 1 (pc' := 33) (L' := [some (.ref l0), some (.int l1), some (.int l2), none, none]) (st' := [.int ((-1) : Int32), .int (zI M (zQ M (zQ M l0 0) l2.toNatClampNeg) 10)]) (M' := M) rfl ?_
      refine wp_ic_eq (t := 65) rfl rfl (fun hc => ?_) (fun hc => ?_)
      · rw [if_pos hc] at hQ
        replace hp := hp.1 hc
        exact s116_65 n k2 q2 h2 l0 l1 l2 M hp hQ
      · rw [if_neg hc] at hQ
        replace hp := hp.2 hc
        refine wp_go 1 (pc' := 37) (L' := [some (.ref l0), some (.int l1), some (.int l2), none, none]) (st' := [.ref l0]) (M' := M) rfl ?_
        obtain ⟨hc, hp⟩ := hp
        refine wq_getQ (j := 0) rfl hc ?_
        refine wp_go 1 (pc' := 41) (L' := [some (.ref l0), some (.int l1), some (.int l2), none, none]) (st' := [.int l2, .ref (zQ M l0 0)]) (M' := M) rfl ?_
        obtain ⟨hc, hp⟩ := hp
        refine wq_aald rfl hc ?_
        obtain ⟨hc, hp⟩ := hp
        refine wq_getI (j := 10) rfl hc ?_
        refine wp_go 5 (pc' := 52) (L' := [some (.ref l0), some (.int l1), some (.int l2), some (.long (zI M (zQ M (zQ M l0 0) l2.toNatClampNeg) 10).toInt64), none]) (st' := [.long (zI M (zQ M (zQ M l0 0) l2.toNatClampNeg) 10).toInt64, .long (6283185 : Int64), .long (0 : Int64)]) (M' := M) rfl ?_
        refine wp_go 5 (pc' := 57) (L' := [some (.ref l0), some (.int l1), some (.int l2), some (.long (zI M (zQ M (zQ M l0 0) l2.toNatClampNeg) 10).toInt64), none]) (st' := [.int l1, .ref l0, .long (((6283185 : Int64) * (zI M (zQ M (zQ M l0 0) l2.toNatClampNeg) 10).toInt64) * (zI M (zQ M (zQ M l0 0) l2.toNatClampNeg) 10).toInt64), .long (0 : Int64)]) (M' := M) rfl ?_
        obtain ⟨hv, hp⟩ := hp
        obtain ⟨hc, hp⟩ := hp
        refine wp_calll (v := (b115_0 n l0 l1 M).1) (M1 := (b115_0 n l0 l1 M).2) rfl rfl rfl (zInv_v (np := 1) rfl rfl hv rfl) (s115_0 n l0 l1 M hc (fun r M1 h => h)) ?_
        refine wp_le [none, none, none, none, none] (zLe_of (by simp [zLeB])) ?_
        exact s116_60 n    (0 : Int64) (((6283185 : Int64) * (zI M (zQ M (zQ M l0 0) l2.toNatClampNeg) 10).toInt64) * (zI M (zQ M (zQ M l0 0) l2.toNatClampNeg) 10).toInt64) (b115_0 n l0 l1 M).1 (b115_0 n l0 l1 M).2 hp hQ
def b116_2 (n : Nat)  : Nat → Nat → Int32 → Int32 → zM → Int64 × zM
  | 0, _, _, _, M => (0, M)
  | k + 1, l0, l1, l2, M => c116_2 n  (b116_2 n  k) l0 l1 l2 M
def p116_2 (n : Nat)  : Nat → Nat → Int32 → Int32 → zM → Prop
  | 0, _, _, _, _ => False
  | k + 1, l0, l1, l2, M => d116_2 n  (p116_2 n  k) l0 l1 l2 M
theorem s116_2 (n : Nat)    : ∀ (k : Nat) (l0 : Nat) (l1 : Int32) (l2 : Int32) (M : zM), p116_2 n  k l0 l1 l2 M → ∀ {Q : Option Value → zM → Prop}, (∀ r M1, zRJ (b116_2 n  k l0 l1 l2 M) r M1 → Q r M1) → zWP 116 2 [some (.ref l0), some (.int l1), some (.int l2), none, none] [] M Q
  | 0, _, _, _, _, h, _, _ => h.elim
  | k + 1, l0, l1, l2, M, h, _, hQ => t116_2 n  (b116_2 n  k)  (p116_2 n  k)  (s116_2 n    k) l0 l1 l2 M h hQ
def b116_0 (n : Nat)  (l0 : Nat) (l1 : Int32) (M : zM) : Int64 × zM := b116_2 n  n l0 l1 (0 : Int32) M
def p116_0 (n : Nat)  (l0 : Nat) (l1 : Int32) (M : zM) : Prop := p116_2 n  n l0 l1 (0 : Int32) M
theorem s116_0 (n : Nat)    (l0 : Nat) (l1 : Int32) (M : zM) (hp : p116_0 n  l0 l1 M) {Q : Option Value → zM → Prop} (hQ : ∀ r M1, zRJ (b116_0 n  l0 l1 M) r M1 → Q r M1) : zWP 116 0 [some (.ref l0), some (.int l1), none, none, none] [] M Q := by
  unfold b116_0 at hQ
  unfold p116_0 at hp
  refine wp_go 2 (pc' := 2) (L' := [some (.ref l0), some (.int l1), some (.int (0 : Int32)), none, none]) (st' := []) (M' := M) rfl ?_
  exact s116_2 n    n l0 l1 (0 : Int32) M hp hQ
/-! X11_group -/
def b87_57 (n : Nat)  (s0 : Int32) (M : zM) : Int64 × zM := (s0.toInt64, M)
def p87_57 (n : Nat)  (s0 : Int32) (M : zM) : Prop := True
theorem s87_57 (n : Nat)    (s0 : Int32) (M : zM) (hp : p87_57 n  s0 M) {Q : Option Value → zM → Prop} (hQ : ∀ r M1, zRJ (b87_57 n  s0 M) r M1 → Q r M1) : zWP 87 57 [none, none, none, none] [.int s0] M Q := by
  unfold b87_57 at hQ
  unfold p87_57 at hp
  refine wp_go 1 (pc' := 58) (L' := [none, none, none, none]) (st' := [.long s0.toInt64]) (M' := M) rfl ?_
  exact wp_ret (r := some (.long s0.toInt64)) rfl rfl (hQ _ _ ⟨rfl, rfl⟩)
def b87_64 (n : Nat)  (s0 : Int32) (M : zM) : Int64 × zM := (s0.toInt64, M)
def p87_64 (n : Nat)  (s0 : Int32) (M : zM) : Prop := True
theorem s87_64 (n : Nat)    (s0 : Int32) (M : zM) (hp : p87_64 n  s0 M) {Q : Option Value → zM → Prop} (hQ : ∀ r M1, zRJ (b87_64 n  s0 M) r M1 → Q r M1) : zWP 87 64 [none, none, none, none] [.int s0] M Q := by
  unfold b87_64 at hQ
  unfold p87_64 at hp
  refine wp_go 1 (pc' := 65) (L' := [none, none, none, none]) (st' := [.long s0.toInt64]) (M' := M) rfl ?_
  exact wp_ret (r := some (.long s0.toInt64)) rfl rfl (hQ _ _ ⟨rfl, rfl⟩)
def b87_71 (n : Nat)  (s0 : Int64) (M : zM) : Int64 × zM := (s0, M)
def p87_71 (n : Nat)  (s0 : Int64) (M : zM) : Prop := True
theorem s87_71 (n : Nat)    (s0 : Int64) (M : zM) (hp : p87_71 n  s0 M) {Q : Option Value → zM → Prop} (hQ : ∀ r M1, zRJ (b87_71 n  s0 M) r M1 → Q r M1) : zWP 87 71 [none, none, none, none] [.long s0] M Q := by
  unfold b87_71 at hQ
  unfold p87_71 at hp
  exact wp_ret (r := some (.long s0)) rfl rfl (hQ _ _ ⟨rfl, rfl⟩)
def b87_77 (n : Nat)  (s0 : Int64) (M : zM) : Int64 × zM := (s0, M)
def p87_77 (n : Nat)  (s0 : Int64) (M : zM) : Prop := True
theorem s87_77 (n : Nat)    (s0 : Int64) (M : zM) (hp : p87_77 n  s0 M) {Q : Option Value → zM → Prop} (hQ : ∀ r M1, zRJ (b87_77 n  s0 M) r M1 → Q r M1) : zWP 87 77 [none, none, none, none] [.long s0] M Q := by
  unfold b87_77 at hQ
  unfold p87_77 at hp
  exact wp_ret (r := some (.long s0)) rfl rfl (hQ _ _ ⟨rfl, rfl⟩)
def b87_5 (n : Nat)  (l0 : Nat) (l1 : Int32) (l2 : Int32) (s0 : Int32) (M : zM) : Int64 × zM := (if s0 = 0 then (((-1) : Int64), M) else (if l2 = 0 then b87_57 n  (b113_0 n l0 (zI M (zQ M (zQ M l0 4) 0) l1.toNatClampNeg) M).1 (b113_0 n l0 (zI M (zQ M (zQ M l0 4) 0) l1.toNatClampNeg) M).2 else if l2 = 1 then b87_64 n  (b114_0 n l0 (zI M (zQ M (zQ M l0 4) 0) l1.toNatClampNeg) M).1 (b114_0 n l0 (zI M (zQ M (zQ M l0 4) 0) l1.toNatClampNeg) M).2 else if l2 = 2 then b87_71 n  (b115_0 n l0 (zI M (zQ M (zQ M l0 4) 0) l1.toNatClampNeg) M).1 (b115_0 n l0 (zI M (zQ M (zQ M l0 4) 0) l1.toNatClampNeg) M).2 else if l2 = 3 then b87_77 n  (b116_0 n l0 (zI M (zQ M (zQ M l0 4) 0) l1.toNatClampNeg) M).1 (b116_0 n l0 (zI M (zQ M (zQ M l0 4) 0) l1.toNatClampNeg) M).2 else (((-1) : Int64), M)))
def p87_5 (n : Nat)  (l0 : Nat) (l1 : Int32) (l2 : Int32) (s0 : Int32) (M : zM) : Prop := ((s0 = 0 → True) ∧ (¬ s0 = 0 → (zHasQ 9 35 l0 M 4) ∧ ((zHasQ 9 192 (zQ M l0 4) M 0) ∧ ((zOkI (zQ M (zQ M l0 4) 0) l1 M) ∧ (((l2 = 0 → (zHasC 87 360 l0 M 113 1) ∧ ((p113_0 n l0 (zI M (zQ M (zQ M l0 4) 0) l1.toNatClampNeg) M) ∧ (p87_57 n  (b113_0 n l0 (zI M (zQ M (zQ M l0 4) 0) l1.toNatClampNeg) M).1 (b113_0 n l0 (zI M (zQ M (zQ M l0 4) 0) l1.toNatClampNeg) M).2))) ∧ (¬ l2 = 0 → (l2 = 1 → (zHasC 87 363 l0 M 114 1) ∧ ((p114_0 n l0 (zI M (zQ M (zQ M l0 4) 0) l1.toNatClampNeg) M) ∧ (p87_64 n  (b114_0 n l0 (zI M (zQ M (zQ M l0 4) 0) l1.toNatClampNeg) M).1 (b114_0 n l0 (zI M (zQ M (zQ M l0 4) 0) l1.toNatClampNeg) M).2))) ∧ (¬ l2 = 1 → (l2 = 2 → (zHasC 87 366 l0 M 115 1) ∧ ((p115_0 n l0 (zI M (zQ M (zQ M l0 4) 0) l1.toNatClampNeg) M) ∧ (p87_71 n  (b115_0 n l0 (zI M (zQ M (zQ M l0 4) 0) l1.toNatClampNeg) M).1 (b115_0 n l0 (zI M (zQ M (zQ M l0 4) 0) l1.toNatClampNeg) M).2))) ∧ (¬ l2 = 2 → (l2 = 3 → (zHasC 87 369 l0 M 116 1) ∧ ((p116_0 n l0 (zI M (zQ M (zQ M l0 4) 0) l1.toNatClampNeg) M) ∧ (p87_77 n  (b116_0 n l0 (zI M (zQ M (zQ M l0 4) 0) l1.toNatClampNeg) M).1 (b116_0 n l0 (zI M (zQ M (zQ M l0 4) 0) l1.toNatClampNeg) M).2))) ∧ (¬ l2 = 3 → True))))))))))
theorem s87_5 (n : Nat)    (l0 : Nat) (l1 : Int32) (l2 : Int32) (s0 : Int32) (M : zM) (hp : p87_5 n  l0 l1 l2 s0 M) {Q : Option Value → zM → Prop} (hQ : ∀ r M1, zRJ (b87_5 n  l0 l1 l2 s0 M) r M1 → Q r M1) : zWP 87 5 [some (.ref l0), some (.int l1), some (.int l2), none] [.int s0] M Q := by
  unfold b87_5 at hQ
  unfold p87_5 at hp
  refine wp_if_ne (t := 12) rfl rfl (fun hc => ?_) (fun hc => ?_)
  · rw [if_neg hc] at hQ
    replace hp := hp.2 hc
    refine wp_go 1 (pc' := 13) (L' := [some (.ref l0), some (.int l1), some (.int l2), none]) (st' := [.ref l0]) (M' := M) rfl ?_
    obtain ⟨hc, hp⟩ := hp
    refine wq_getQ (j := 4) rfl hc ?_
    obtain ⟨hc, hp⟩ := hp
    refine wq_getQ (j := 0) rfl hc ?_
    refine wp_go 1 (pc' := 20) (L' := [some (.ref l0), some (.int l1), some (.int l2), none]) (st' := [.int l1, .ref (zQ M (zQ M l0 4) 0)]) (M' := M) rfl ?_
    obtain ⟨hc, hp⟩ := hp
    refine wq_iald rfl hc ?_
    refine wp_go 2 (pc' := 23) (L' := [some (.ref l0), some (.int l1), some (.int l2), some (.int (zI M (zQ M (zQ M l0 4) 0) l1.toNatClampNeg))]) (st' := [.int l2]) (M' := M) rfl ?_
    by_cases hc0 : l2 = 0
    · rw [if_pos hc0] at hQ
      replace hp := hp.1 hc0
      refine wp_tabI rfl hc0 (t := 52) rfl ?_
      refine wp_go 2 (pc' := 54) (L' := [some (.ref l0), some (.int l1), some (.int l2), some (.int (zI M (zQ M (zQ M l0 4) 0) l1.toNatClampNeg))]) (st' := [.int (zI M (zQ M (zQ M l0 4) 0) l1.toNatClampNeg), .ref l0]) (M' := M) rfl ?_
      obtain ⟨hv, hp⟩ := hp
      obtain ⟨hc, hp⟩ := hp
      refine wp_calli (v := (b113_0 n l0 (zI M (zQ M (zQ M l0 4) 0) l1.toNatClampNeg) M).1) (M1 := (b113_0 n l0 (zI M (zQ M (zQ M l0 4) 0) l1.toNatClampNeg) M).2) rfl rfl rfl (zInv_v (np := 1) rfl rfl hv rfl) (s113_0 n l0 (zI M (zQ M (zQ M l0 4) 0) l1.toNatClampNeg) M hc (fun r M1 h => h)) ?_
      refine wp_le [none, none, none, none] (zLe_of (by simp [zLeB])) ?_
      exact s87_57 n    (b113_0 n l0 (zI M (zQ M (zQ M l0 4) 0) l1.toNatClampNeg) M).1 (b113_0 n l0 (zI M (zQ M (zQ M l0 4) 0) l1.toNatClampNeg) M).2 hp hQ
    rw [if_neg hc0] at hQ
    replace hp := hp.2 hc0
    by_cases hc1 : l2 = 1
    · rw [if_pos hc1] at hQ
      replace hp := hp.1 hc1
      refine wp_tabI rfl hc1 (t := 59) rfl ?_
      refine wp_go 2 (pc' := 61) (L' := [some (.ref l0), some (.int l1), some (.int l2), some (.int (zI M (zQ M (zQ M l0 4) 0) l1.toNatClampNeg))]) (st' := [.int (zI M (zQ M (zQ M l0 4) 0) l1.toNatClampNeg), .ref l0]) (M' := M) rfl ?_
      obtain ⟨hv, hp⟩ := hp
      obtain ⟨hc, hp⟩ := hp
      refine wp_calli (v := (b114_0 n l0 (zI M (zQ M (zQ M l0 4) 0) l1.toNatClampNeg) M).1) (M1 := (b114_0 n l0 (zI M (zQ M (zQ M l0 4) 0) l1.toNatClampNeg) M).2) rfl rfl rfl (zInv_v (np := 1) rfl rfl hv rfl) (s114_0 n l0 (zI M (zQ M (zQ M l0 4) 0) l1.toNatClampNeg) M hc (fun r M1 h => h)) ?_
      refine wp_le [none, none, none, none] (zLe_of (by simp [zLeB])) ?_
      exact s87_64 n    (b114_0 n l0 (zI M (zQ M (zQ M l0 4) 0) l1.toNatClampNeg) M).1 (b114_0 n l0 (zI M (zQ M (zQ M l0 4) 0) l1.toNatClampNeg) M).2 hp hQ
    rw [if_neg hc1] at hQ
    replace hp := hp.2 hc1
    by_cases hc2 : l2 = 2
    · rw [if_pos hc2] at hQ
      replace hp := hp.1 hc2
      refine wp_tabI rfl hc2 (t := 66) rfl ?_
      refine wp_go 2 (pc' := 68) (L' := [some (.ref l0), some (.int l1), some (.int l2), some (.int (zI M (zQ M (zQ M l0 4) 0) l1.toNatClampNeg))]) (st' := [.int (zI M (zQ M (zQ M l0 4) 0) l1.toNatClampNeg), .ref l0]) (M' := M) rfl ?_
      obtain ⟨hv, hp⟩ := hp
      obtain ⟨hc, hp⟩ := hp
      refine wp_calll (v := (b115_0 n l0 (zI M (zQ M (zQ M l0 4) 0) l1.toNatClampNeg) M).1) (M1 := (b115_0 n l0 (zI M (zQ M (zQ M l0 4) 0) l1.toNatClampNeg) M).2) rfl rfl rfl (zInv_v (np := 1) rfl rfl hv rfl) (s115_0 n l0 (zI M (zQ M (zQ M l0 4) 0) l1.toNatClampNeg) M hc (fun r M1 h => h)) ?_
      refine wp_le [none, none, none, none] (zLe_of (by simp [zLeB])) ?_
      exact s87_71 n    (b115_0 n l0 (zI M (zQ M (zQ M l0 4) 0) l1.toNatClampNeg) M).1 (b115_0 n l0 (zI M (zQ M (zQ M l0 4) 0) l1.toNatClampNeg) M).2 hp hQ
    rw [if_neg hc2] at hQ
    replace hp := hp.2 hc2
    by_cases hc3 : l2 = 3
    · rw [if_pos hc3] at hQ
      replace hp := hp.1 hc3
      refine wp_tabI rfl hc3 (t := 72) rfl ?_
      refine wp_go 2 (pc' := 74) (L' := [some (.ref l0), some (.int l1), some (.int l2), some (.int (zI M (zQ M (zQ M l0 4) 0) l1.toNatClampNeg))]) (st' := [.int (zI M (zQ M (zQ M l0 4) 0) l1.toNatClampNeg), .ref l0]) (M' := M) rfl ?_
      obtain ⟨hv, hp⟩ := hp
      obtain ⟨hc, hp⟩ := hp
      refine wp_calll (v := (b116_0 n l0 (zI M (zQ M (zQ M l0 4) 0) l1.toNatClampNeg) M).1) (M1 := (b116_0 n l0 (zI M (zQ M (zQ M l0 4) 0) l1.toNatClampNeg) M).2) rfl rfl rfl (zInv_v (np := 1) rfl rfl hv rfl) (s116_0 n l0 (zI M (zQ M (zQ M l0 4) 0) l1.toNatClampNeg) M hc (fun r M1 h => h)) ?_
      refine wp_le [none, none, none, none] (zLe_of (by simp [zLeB])) ?_
      exact s87_77 n    (b116_0 n l0 (zI M (zQ M (zQ M l0 4) 0) l1.toNatClampNeg) M).1 (b116_0 n l0 (zI M (zQ M (zQ M l0 4) 0) l1.toNatClampNeg) M).2 hp hQ
    rw [if_neg hc3] at hQ
    replace hp := hp.2 hc3
    refine wp_tabO (t := 78) rfl (by have e0 : ¬ (l2).toInt = 0 := fun h => hc0 (Int32.toInt_inj.mp h); have e1 : ¬ (l2).toInt = 1 := fun h => hc1 (Int32.toInt_inj.mp h); have e2 : ¬ (l2).toInt = 2 := fun h => hc2 (Int32.toInt_inj.mp h); have e3 : ¬ (l2).toInt = 3 := fun h => hc3 (Int32.toInt_inj.mp h); omega) rfl ?_
    refine wp_go 1 (pc' := 81) (L' := [some (.ref l0), some (.int l1), some (.int l2), some (.int (zI M (zQ M (zQ M l0 4) 0) l1.toNatClampNeg))]) (st' := [.long ((-1) : Int64)]) (M' := M) rfl ?_
    exact wp_ret (r := some (.long ((-1) : Int64))) rfl rfl (hQ _ _ ⟨rfl, rfl⟩)
  · rw [if_pos hc] at hQ
    replace hp := hp.1 hc
    refine wp_go 1 (pc' := 11) (L' := [some (.ref l0), some (.int l1), some (.int l2), none]) (st' := [.long ((-1) : Int64)]) (M' := M) rfl ?_
    exact wp_ret (r := some (.long ((-1) : Int64))) rfl rfl (hQ _ _ ⟨rfl, rfl⟩)
def b87_0 (n : Nat)  (l0 : Nat) (l1 : Int32) (l2 : Int32) (M : zM) : Int64 × zM := b87_5 n  l0 l1 l2 (b89_0 n l0 l1 M).1 (b89_0 n l0 l1 M).2
def p87_0 (n : Nat)  (l0 : Nat) (l1 : Int32) (l2 : Int32) (M : zM) : Prop := (zHasC 87 117 l0 M 89 1) ∧ ((p89_0 n l0 l1 M) ∧ (p87_5 n  l0 l1 l2 (b89_0 n l0 l1 M).1 (b89_0 n l0 l1 M).2))
theorem s87_0 (n : Nat)    (l0 : Nat) (l1 : Int32) (l2 : Int32) (M : zM) (hp : p87_0 n  l0 l1 l2 M) {Q : Option Value → zM → Prop} (hQ : ∀ r M1, zRJ (b87_0 n  l0 l1 l2 M) r M1 → Q r M1) : zWP 87 0 [some (.ref l0), some (.int l1), some (.int l2), none] [] M Q := by
  unfold b87_0 at hQ
  unfold p87_0 at hp
  refine wp_go 2 (pc' := 2) (L' := [some (.ref l0), some (.int l1), some (.int l2), none]) (st' := [.int l1, .ref l0]) (M' := M) rfl ?_
  obtain ⟨hv, hp⟩ := hp
  obtain ⟨hc, hp⟩ := hp
  refine wp_calli (v := (b89_0 n l0 l1 M).1) (M1 := (b89_0 n l0 l1 M).2) rfl rfl rfl (zInv_v (np := 1) rfl rfl hv rfl) (s89_0 n l0 l1 M hc (fun r M1 h => h)) ?_
  exact s87_5 n    l0 l1 l2 (b89_0 n l0 l1 M).1 (b89_0 n l0 l1 M).2 hp hQ
/-! X11_undo -/
def b88_15 (n : Nat)   (M : zM) : Int32 × zM := (((-1) : Int32), M)
def p88_15 (n : Nat)   (M : zM) : Prop := True
theorem s88_15 (n : Nat)     (M : zM) (hp : p88_15 n   M) {Q : Option Value → zM → Prop} (hQ : ∀ r M1, zRI (b88_15 n   M) r M1 → Q r M1) : zWP 88 15 [none, none, none] [] M Q := by
  unfold b88_15 at hQ
  unfold p88_15 at hp
  refine wp_go 1 (pc' := 16) (L' := [none, none, none]) (st' := [.int ((-1) : Int32)]) (M' := M) rfl ?_
  exact wp_ret (r := some (.int ((-1) : Int32))) rfl rfl (hQ _ _ ⟨rfl, rfl⟩)
def b88_67 (n : Nat)  (l0 : Nat) (M : zM) : Int32 × zM := ((zI M (zQ M l0 3) 1), M)
def p88_67 (n : Nat)  (l0 : Nat) (M : zM) : Prop := (zHasQ 9 28 l0 M 3) ∧ ((zHasI 9 372 (zQ M l0 3) M 1) ∧ (True))
theorem s88_67 (n : Nat)    (l0 : Nat) (M : zM) (hp : p88_67 n  l0 M) {Q : Option Value → zM → Prop} (hQ : ∀ r M1, zRI (b88_67 n  l0 M) r M1 → Q r M1) : zWP 88 67 [some (.ref l0), none, none] [] M Q := by
  unfold b88_67 at hQ
  unfold p88_67 at hp
  refine wp_go 1 (pc' := 68) (L' := [some (.ref l0), none, none]) (st' := [.ref l0]) (M' := M) rfl ?_
  obtain ⟨hc, hp⟩ := hp
  refine wq_getQ (j := 3) rfl hc ?_
  obtain ⟨hc, hp⟩ := hp
  refine wq_getI (j := 1) rfl hc ?_
  exact wp_ret (r := some (.int (zI M (zQ M l0 3) 1))) rfl rfl (hQ _ _ ⟨rfl, rfl⟩)
def b88_42 (n : Nat) (k19 : Nat → Int32 → Int32 → zM → Int32 × zM) (l0 : Nat) (l1 : Int32) (l2 : Int32) (M : zM) : Int32 × zM := k19 l0 l1 (l2 + Int32.ofInt 1) M
def p88_42 (n : Nat) (q19 : Nat → Int32 → Int32 → zM → Prop) (l0 : Nat) (l1 : Int32) (l2 : Int32) (M : zM) : Prop := q19 l0 l1 (l2 + Int32.ofInt 1) M
theorem s88_42 (n : Nat) (k19 : Nat → Int32 → Int32 → zM → Int32 × zM) (q19 : Nat → Int32 → Int32 → zM → Prop) (h19 : ∀ (l0 : Nat) (l1 : Int32) (l2 : Int32) (M : zM), q19 l0 l1 l2 M → ∀ {Q : Option Value → zM → Prop}, (∀ r M1, zRI (k19 l0 l1 l2 M) r M1 → Q r M1) → zWP 88 19 [some (.ref l0), some (.int l1), some (.int l2)] [] M Q) (l0 : Nat) (l1 : Int32) (l2 : Int32) (M : zM) (hp : p88_42 n q19 l0 l1 l2 M) {Q : Option Value → zM → Prop} (hQ : ∀ r M1, zRI (b88_42 n k19 l0 l1 l2 M) r M1 → Q r M1) : zWP 88 42 [some (.ref l0), some (.int l1), some (.int l2)] [] M Q := by
  unfold b88_42 at hQ
  unfold p88_42 at hp
  refine wp_go 2 (pc' := 19) (L' := [some (.ref l0), some (.int l1), some (.int (l2 + Int32.ofInt 1))]) (st' := []) (M' := M) rfl ?_
  exact h19 l0 l1 (l2 + Int32.ofInt 1) M hp hQ
def b88_35 (n : Nat) (k19 : Nat → Int32 → Int32 → zM → Int32 × zM) (l0 : Nat) (l1 : Int32) (l2 : Int32) (s0 : Nat) (s1 : Int32) (M : zM) : Int32 × zM := b88_42 n k19 l0 l1 l2 (b18_0 n s0 s1 (zQ M l0 0) M)
def p88_35 (n : Nat) (q19 : Nat → Int32 → Int32 → zM → Prop) (l0 : Nat) (l1 : Int32) (l2 : Int32) (s0 : Nat) (s1 : Int32) (M : zM) : Prop := (zHasQ 9 11 l0 M 0) ∧ ((zHasC 88 321 s0 M 18 2) ∧ ((p18_0 n s0 s1 (zQ M l0 0) M) ∧ (p88_42 n q19 l0 l1 l2 (b18_0 n s0 s1 (zQ M l0 0) M))))
theorem s88_35 (n : Nat) (k19 : Nat → Int32 → Int32 → zM → Int32 × zM) (q19 : Nat → Int32 → Int32 → zM → Prop) (h19 : ∀ (l0 : Nat) (l1 : Int32) (l2 : Int32) (M : zM), q19 l0 l1 l2 M → ∀ {Q : Option Value → zM → Prop}, (∀ r M1, zRI (k19 l0 l1 l2 M) r M1 → Q r M1) → zWP 88 19 [some (.ref l0), some (.int l1), some (.int l2)] [] M Q) (l0 : Nat) (l1 : Int32) (l2 : Int32) (s0 : Nat) (s1 : Int32) (M : zM) (hp : p88_35 n q19 l0 l1 l2 s0 s1 M) {Q : Option Value → zM → Prop} (hQ : ∀ r M1, zRI (b88_35 n k19 l0 l1 l2 s0 s1 M) r M1 → Q r M1) : zWP 88 35 [some (.ref l0), some (.int l1), some (.int l2)] [.int s1, .ref s0] M Q := by
  unfold b88_35 at hQ
  unfold p88_35 at hp
  refine wp_go 1 (pc' := 36) (L' := [some (.ref l0), some (.int l1), some (.int l2)]) (st' := [.ref l0, .int s1, .ref s0]) (M' := M) rfl ?_
  obtain ⟨hc, hp⟩ := hp
  refine wq_getQ (j := 0) rfl hc ?_
  obtain ⟨hv, hp⟩ := hp
  obtain ⟨hc, hp⟩ := hp
  refine wp_callv (M1 := (b18_0 n s0 s1 (zQ M l0 0) M)) rfl rfl rfl (zInv_v (np := 2) rfl rfl hv rfl) (s18_0 n s0 s1 (zQ M l0 0) M hc (fun r M1 h => h)) ?_
  exact s88_42 n k19 q19 h19 l0 l1 l2 (b18_0 n s0 s1 (zQ M l0 0) M) hp hQ
def c88_19 (n : Nat) (k19 : Nat → Int32 → Int32 → zM → Int32 × zM) (l0 : Nat) (l1 : Int32) (l2 : Int32) (M : zM) : Int32 × zM := (if l1 ≤ l2 then b88_67 n  l0 (b22_0 n (zQ M l0 4) (zQ M l0 0) (zI M l0 12) (zQ M l0 3) M) else b88_35 n k19 l0 l1 l2 (zQ M l0 3) (b16_0 n (zQ M l0 3) M).1 (b16_0 n (zQ M l0 3) M).2)
def d88_19 (n : Nat) (q19 : Nat → Int32 → Int32 → zM → Prop) (l0 : Nat) (l1 : Int32) (l2 : Int32) (M : zM) : Prop := ((l1 ≤ l2 → (zHasQ 9 35 l0 M 4) ∧ ((zHasQ 9 11 l0 M 0) ∧ ((zHasI 9 78 l0 M 12) ∧ ((zHasQ 9 28 l0 M 3) ∧ ((zHasC 88 113 (zQ M l0 4) M 22 3) ∧ ((p22_0 n (zQ M l0 4) (zQ M l0 0) (zI M l0 12) (zQ M l0 3) M) ∧ (p88_67 n  l0 (b22_0 n (zQ M l0 4) (zQ M l0 0) (zI M l0 12) (zQ M l0 3) M)))))))) ∧ (¬ l1 ≤ l2 → (zHasQ 9 28 l0 M 3) ∧ ((zHasQ 9 28 l0 M 3) ∧ ((zHasC 88 375 (zQ M l0 3) M 16 0) ∧ ((p16_0 n (zQ M l0 3) M) ∧ (p88_35 n q19 l0 l1 l2 (zQ M l0 3) (b16_0 n (zQ M l0 3) M).1 (b16_0 n (zQ M l0 3) M).2))))))
theorem t88_19 (n : Nat) (k19 : Nat → Int32 → Int32 → zM → Int32 × zM) (q19 : Nat → Int32 → Int32 → zM → Prop) (h19 : ∀ (l0 : Nat) (l1 : Int32) (l2 : Int32) (M : zM), q19 l0 l1 l2 M → ∀ {Q : Option Value → zM → Prop}, (∀ r M1, zRI (k19 l0 l1 l2 M) r M1 → Q r M1) → zWP 88 19 [some (.ref l0), some (.int l1), some (.int l2)] [] M Q) (l0 : Nat) (l1 : Int32) (l2 : Int32) (M : zM) (hp : d88_19 n q19 l0 l1 l2 M) {Q : Option Value → zM → Prop} (hQ : ∀ r M1, zRI (c88_19 n k19 l0 l1 l2 M) r M1 → Q r M1) : zWP 88 19 [some (.ref l0), some (.int l1), some (.int l2)] [] M Q := by
  unfold c88_19 at hQ
  unfold d88_19 at hp
  refine wp_go 2 (pc' := 21) (L' := [some (.ref l0), some (.int l1), some (.int l2)]) (st' := [.int l1, .int l2]) (M' := M) rfl ?_
  refine wp_ic_ge (t := 48) rfl rfl (fun hc => ?_) (fun hc => ?_)
  · rw [if_pos hc] at hQ
    replace hp := hp.1 hc
    refine wp_go 1 (pc' := 49) (L' := [some (.ref l0), some (.int l1), some (.int l2)]) (st' := [.ref l0]) (M' := M) rfl ?_
    obtain ⟨hc, hp⟩ := hp
    refine wq_getQ (j := 4) rfl hc ?_
    refine wp_go 1 (pc' := 53) (L' := [some (.ref l0), some (.int l1), some (.int l2)]) (st' := [.ref l0, .ref (zQ M l0 4)]) (M' := M) rfl ?_
    obtain ⟨hc, hp⟩ := hp
    refine wq_getQ (j := 0) rfl hc ?_
    refine wp_go 1 (pc' := 57) (L' := [some (.ref l0), some (.int l1), some (.int l2)]) (st' := [.ref l0, .ref (zQ M l0 0), .ref (zQ M l0 4)]) (M' := M) rfl ?_
    obtain ⟨hc, hp⟩ := hp
    refine wq_getI (j := 12) rfl hc ?_
    refine wp_go 1 (pc' := 61) (L' := [some (.ref l0), some (.int l1), some (.int l2)]) (st' := [.ref l0, .int (zI M l0 12), .ref (zQ M l0 0), .ref (zQ M l0 4)]) (M' := M) rfl ?_
    obtain ⟨hc, hp⟩ := hp
    refine wq_getQ (j := 3) rfl hc ?_
    obtain ⟨hv, hp⟩ := hp
    obtain ⟨hc, hp⟩ := hp
    refine wp_callv (M1 := (b22_0 n (zQ M l0 4) (zQ M l0 0) (zI M l0 12) (zQ M l0 3) M)) rfl rfl rfl (zInv_v (np := 3) rfl rfl hv rfl) (s22_0 n (zQ M l0 4) (zQ M l0 0) (zI M l0 12) (zQ M l0 3) M hc (fun r M1 h => h)) ?_
    refine wp_le [some (.ref l0), none, none] (zLe_of (by simp [zLeB])) ?_
    exact s88_67 n    l0 (b22_0 n (zQ M l0 4) (zQ M l0 0) (zI M l0 12) (zQ M l0 3) M) hp hQ
  · rw [if_neg hc] at hQ
    replace hp := hp.2 hc
    refine wp_go 1 (pc' := 25) (L' := [some (.ref l0), some (.int l1), some (.int l2)]) (st' := [.ref l0]) (M' := M) rfl ?_
    obtain ⟨hc, hp⟩ := hp
    refine wq_getQ (j := 3) rfl hc ?_
    refine wp_go 1 (pc' := 29) (L' := [some (.ref l0), some (.int l1), some (.int l2)]) (st' := [.ref l0, .ref (zQ M l0 3)]) (M' := M) rfl ?_
    obtain ⟨hc, hp⟩ := hp
    refine wq_getQ (j := 3) rfl hc ?_
    obtain ⟨hv, hp⟩ := hp
    obtain ⟨hc, hp⟩ := hp
    refine wp_calli (v := (b16_0 n (zQ M l0 3) M).1) (M1 := (b16_0 n (zQ M l0 3) M).2) rfl rfl rfl (zInv_v (np := 0) rfl rfl hv rfl) (s16_0 n (zQ M l0 3) M hc (fun r M1 h => h)) ?_
    exact s88_35 n k19 q19 h19 l0 l1 l2 (zQ M l0 3) (b16_0 n (zQ M l0 3) M).1 (b16_0 n (zQ M l0 3) M).2 hp hQ
def b88_19 (n : Nat)  : Nat → Nat → Int32 → Int32 → zM → Int32 × zM
  | 0, _, _, _, M => (0, M)
  | k + 1, l0, l1, l2, M => c88_19 n  (b88_19 n  k) l0 l1 l2 M
def p88_19 (n : Nat)  : Nat → Nat → Int32 → Int32 → zM → Prop
  | 0, _, _, _, _ => False
  | k + 1, l0, l1, l2, M => d88_19 n  (p88_19 n  k) l0 l1 l2 M
theorem s88_19 (n : Nat)    : ∀ (k : Nat) (l0 : Nat) (l1 : Int32) (l2 : Int32) (M : zM), p88_19 n  k l0 l1 l2 M → ∀ {Q : Option Value → zM → Prop}, (∀ r M1, zRI (b88_19 n  k l0 l1 l2 M) r M1 → Q r M1) → zWP 88 19 [some (.ref l0), some (.int l1), some (.int l2)] [] M Q
  | 0, _, _, _, _, h, _, _ => h.elim
  | k + 1, l0, l1, l2, M, h, _, hQ => t88_19 n  (b88_19 n  k)  (p88_19 n  k)  (s88_19 n    k) l0 l1 l2 M h hQ
def b88_0 (n : Nat)  (l0 : Nat) (l1 : Int32) (M : zM) : Int32 × zM := (if l1 < 0 then b88_15 n  M else (if l1 ≤ (zI M (zQ M l0 3) 1) then b88_19 n  n l0 l1 (0 : Int32) M else b88_15 n  M))
def p88_0 (n : Nat)  (l0 : Nat) (l1 : Int32) (M : zM) : Prop := ((l1 < 0 → p88_15 n  M) ∧ (¬ l1 < 0 → (zHasQ 9 28 l0 M 3) ∧ ((zHasI 9 372 (zQ M l0 3) M 1) ∧ (((l1 ≤ (zI M (zQ M l0 3) 1) → p88_19 n  n l0 l1 (0 : Int32) M) ∧ (¬ l1 ≤ (zI M (zQ M l0 3) 1) → p88_15 n  M))))))
theorem s88_0 (n : Nat)    (l0 : Nat) (l1 : Int32) (M : zM) (hp : p88_0 n  l0 l1 M) {Q : Option Value → zM → Prop} (hQ : ∀ r M1, zRI (b88_0 n  l0 l1 M) r M1 → Q r M1) : zWP 88 0 [some (.ref l0), some (.int l1), none] [] M Q := by
  unfold b88_0 at hQ
  unfold p88_0 at hp
  refine wp_go 1 (pc' := 1) (L' := [some (.ref l0), some (.int l1), none]) (st' := [.int l1]) (M' := M) rfl ?_
  refine wp_if_lt (t := 15) rfl rfl (fun hc => ?_) (fun hc => ?_)
  · rw [if_pos hc] at hQ
    replace hp := hp.1 hc
    refine wp_le [none, none, none] (zLe_of (by simp [zLeB])) ?_
    exact s88_15 n    M hp hQ
  · rw [if_neg hc] at hQ
    replace hp := hp.2 hc
    refine wp_go 2 (pc' := 6) (L' := [some (.ref l0), some (.int l1), none]) (st' := [.ref l0, .int l1]) (M' := M) rfl ?_
    obtain ⟨hc, hp⟩ := hp
    refine wq_getQ (j := 3) rfl hc ?_
    obtain ⟨hc, hp⟩ := hp
    refine wq_getI (j := 1) rfl hc ?_
    refine wp_ic_le (t := 17) rfl rfl (fun hc => ?_) (fun hc => ?_)
    · rw [if_pos hc] at hQ
      replace hp := hp.1 hc
      refine wp_go 2 (pc' := 19) (L' := [some (.ref l0), some (.int l1), some (.int (0 : Int32))]) (st' := []) (M' := M) rfl ?_
      exact s88_19 n    n l0 l1 (0 : Int32) M hp hQ
    · rw [if_neg hc] at hQ
      replace hp := hp.2 hc
      refine wp_le [none, none, none] (zLe_of (by simp [zLeB])) ?_
      exact s88_15 n    M hp hQ
/-! X12_thrown -/
def b118_0 (n : Nat)  (l0 : Nat) (M : zM) : Int32 × zM := ((zI M l0 26), M)
def p118_0 (n : Nat)  (l0 : Nat) (M : zM) : Prop := (zHasI 10 138 l0 M 26) ∧ (True)
theorem s118_0 (n : Nat)    (l0 : Nat) (M : zM) (hp : p118_0 n  l0 M) {Q : Option Value → zM → Prop} (hQ : ∀ r M1, zRI (b118_0 n  l0 M) r M1 → Q r M1) : zWP 118 0 [some (.ref l0)] [] M Q := by
  unfold b118_0 at hQ
  unfold p118_0 at hp
  refine wp_go 1 (pc' := 1) (L' := [some (.ref l0)]) (st' := [.ref l0]) (M' := M) rfl ?_
  obtain ⟨hc, hp⟩ := hp
  refine wq_getI (j := 26) rfl hc ?_
  exact wp_ret (r := some (.int (zI M l0 26))) rfl rfl (hQ _ _ ⟨rfl, rfl⟩)
/-! X12_fails -/
def b119_5 (n : Nat)   (M : zM) : Int32 × zM := ((0 : Int32), M)
def p119_5 (n : Nat)   (M : zM) : Prop := True
theorem s119_5 (n : Nat)     (M : zM) (hp : p119_5 n   M) {Q : Option Value → zM → Prop} (hQ : ∀ r M1, zRI (b119_5 n   M) r M1 → Q r M1) : zWP 119 5 [none, none] [] M Q := by
  unfold b119_5 at hQ
  unfold p119_5 at hp
  refine wp_go 1 (pc' := 6) (L' := [none, none]) (st' := [.int (0 : Int32)]) (M' := M) rfl ?_
  exact wp_ret (r := some (.int (0 : Int32))) rfl rfl (hQ _ _ ⟨rfl, rfl⟩)
def b119_0 (n : Nat)  (l0 : Nat) (l1 : Int32) (M : zM) : Int32 × zM := b119_5 n  (zWI M l0 26 l1)
def p119_0 (n : Nat)  (l0 : Nat) (l1 : Int32) (M : zM) : Prop := (zPutI 119 138 l0 M 26 l1) ∧ (p119_5 n  (zWI M l0 26 l1))
theorem s119_0 (n : Nat)    (l0 : Nat) (l1 : Int32) (M : zM) (hp : p119_0 n  l0 l1 M) {Q : Option Value → zM → Prop} (hQ : ∀ r M1, zRI (b119_0 n  l0 l1 M) r M1 → Q r M1) : zWP 119 0 [some (.ref l0), some (.int l1)] [] M Q := by
  unfold b119_0 at hQ
  unfold p119_0 at hp
  refine wp_go 2 (pc' := 2) (L' := [some (.ref l0), some (.int l1)]) (st' := [.int l1, .ref l0]) (M' := M) rfl ?_
  obtain ⟨hc, hp⟩ := hp
  refine wq_putI (j := 26) rfl hc ?_
  refine wp_le [none, none] (zLe_of (by simp [zLeB])) ?_
  exact s119_5 n    (zWI M l0 26 l1) hp hQ
/-! X12_x -/
def b120_22 (n : Nat)  (l1 : Int32) (s0 : Int32) (M : zM) : Int32 × zM := (if (l1 - l1 / (12 : Int32) * (12 : Int32)) = 0 then ((s0 * (1000 : Int32)), M) else if (l1 - l1 / (12 : Int32) * (12 : Int32)) = 1 then ((s0 * (966 : Int32)), M) else if (l1 - l1 / (12 : Int32) * (12 : Int32)) = 2 then ((s0 * (866 : Int32)), M) else if (l1 - l1 / (12 : Int32) * (12 : Int32)) = 3 then ((s0 * (707 : Int32)), M) else if (l1 - l1 / (12 : Int32) * (12 : Int32)) = 4 then ((s0 * (500 : Int32)), M) else if (l1 - l1 / (12 : Int32) * (12 : Int32)) = 5 then ((s0 * (259 : Int32)), M) else if (l1 - l1 / (12 : Int32) * (12 : Int32)) = 6 then ((0 : Int32), M) else if (l1 - l1 / (12 : Int32) * (12 : Int32)) = 7 then ((s0 * ((-259) : Int32)), M) else if (l1 - l1 / (12 : Int32) * (12 : Int32)) = 8 then ((s0 * ((-500) : Int32)), M) else if (l1 - l1 / (12 : Int32) * (12 : Int32)) = 9 then ((s0 * ((-707) : Int32)), M) else if (l1 - l1 / (12 : Int32) * (12 : Int32)) = 10 then ((s0 * ((-866) : Int32)), M) else ((s0 * ((-966) : Int32)), M))
def p120_22 (n : Nat)  (l1 : Int32) (s0 : Int32) (M : zM) : Prop := (((l1 - l1 / (12 : Int32) * (12 : Int32)) = 0 → True) ∧ (¬ (l1 - l1 / (12 : Int32) * (12 : Int32)) = 0 → ((l1 - l1 / (12 : Int32) * (12 : Int32)) = 1 → True) ∧ (¬ (l1 - l1 / (12 : Int32) * (12 : Int32)) = 1 → ((l1 - l1 / (12 : Int32) * (12 : Int32)) = 2 → True) ∧ (¬ (l1 - l1 / (12 : Int32) * (12 : Int32)) = 2 → ((l1 - l1 / (12 : Int32) * (12 : Int32)) = 3 → True) ∧ (¬ (l1 - l1 / (12 : Int32) * (12 : Int32)) = 3 → ((l1 - l1 / (12 : Int32) * (12 : Int32)) = 4 → True) ∧ (¬ (l1 - l1 / (12 : Int32) * (12 : Int32)) = 4 → ((l1 - l1 / (12 : Int32) * (12 : Int32)) = 5 → True) ∧ (¬ (l1 - l1 / (12 : Int32) * (12 : Int32)) = 5 → ((l1 - l1 / (12 : Int32) * (12 : Int32)) = 6 → True) ∧ (¬ (l1 - l1 / (12 : Int32) * (12 : Int32)) = 6 → ((l1 - l1 / (12 : Int32) * (12 : Int32)) = 7 → True) ∧ (¬ (l1 - l1 / (12 : Int32) * (12 : Int32)) = 7 → ((l1 - l1 / (12 : Int32) * (12 : Int32)) = 8 → True) ∧ (¬ (l1 - l1 / (12 : Int32) * (12 : Int32)) = 8 → ((l1 - l1 / (12 : Int32) * (12 : Int32)) = 9 → True) ∧ (¬ (l1 - l1 / (12 : Int32) * (12 : Int32)) = 9 → ((l1 - l1 / (12 : Int32) * (12 : Int32)) = 10 → True) ∧ (¬ (l1 - l1 / (12 : Int32) * (12 : Int32)) = 10 → True))))))))))))
theorem s120_22 (n : Nat)    (l1 : Int32) (s0 : Int32) (M : zM) (hp : p120_22 n  l1 s0 M) {Q : Option Value → zM → Prop} (hQ : ∀ r M1, zRI (b120_22 n  l1 s0 M) r M1 → Q r M1) : zWP 120 22 [none, some (.int l1), none] [.int s0] M Q := by
  unfold b120_22 at hQ
  unfold p120_22 at hp
  refine wp_go 3 (pc' := 26) (L' := [none, some (.int l1), some (.int s0)]) (st' := [.int (12 : Int32), .int l1]) (M' := M) rfl ?_
  refine wq_irem rfl (by decide) ?_
  by_cases hc0 : (l1 - l1 / (12 : Int32) * (12 : Int32)) = 0
  · rw [if_pos hc0] at hQ
    replace hp := hp.1 hc0
    refine wp_tabI rfl hc0 (t := 84) rfl ?_
    refine wp_go 3 (pc' := 89) (L' := [none, some (.int l1), some (.int s0)]) (st' := [.int (s0 * (1000 : Int32))]) (M' := M) rfl ?_
    exact wp_ret (r := some (.int (s0 * (1000 : Int32)))) rfl rfl (hQ _ _ ⟨rfl, rfl⟩)
  rw [if_neg hc0] at hQ
  replace hp := hp.2 hc0
  by_cases hc1 : (l1 - l1 / (12 : Int32) * (12 : Int32)) = 1
  · rw [if_pos hc1] at hQ
    replace hp := hp.1 hc1
    refine wp_tabI rfl hc1 (t := 90) rfl ?_
    refine wp_go 3 (pc' := 95) (L' := [none, some (.int l1), some (.int s0)]) (st' := [.int (s0 * (966 : Int32))]) (M' := M) rfl ?_
    exact wp_ret (r := some (.int (s0 * (966 : Int32)))) rfl rfl (hQ _ _ ⟨rfl, rfl⟩)
  rw [if_neg hc1] at hQ
  replace hp := hp.2 hc1
  by_cases hc2 : (l1 - l1 / (12 : Int32) * (12 : Int32)) = 2
  · rw [if_pos hc2] at hQ
    replace hp := hp.1 hc2
    refine wp_tabI rfl hc2 (t := 96) rfl ?_
    refine wp_go 3 (pc' := 101) (L' := [none, some (.int l1), some (.int s0)]) (st' := [.int (s0 * (866 : Int32))]) (M' := M) rfl ?_
    exact wp_ret (r := some (.int (s0 * (866 : Int32)))) rfl rfl (hQ _ _ ⟨rfl, rfl⟩)
  rw [if_neg hc2] at hQ
  replace hp := hp.2 hc2
  by_cases hc3 : (l1 - l1 / (12 : Int32) * (12 : Int32)) = 3
  · rw [if_pos hc3] at hQ
    replace hp := hp.1 hc3
    refine wp_tabI rfl hc3 (t := 102) rfl ?_
    refine wp_go 3 (pc' := 107) (L' := [none, some (.int l1), some (.int s0)]) (st' := [.int (s0 * (707 : Int32))]) (M' := M) rfl ?_
    exact wp_ret (r := some (.int (s0 * (707 : Int32)))) rfl rfl (hQ _ _ ⟨rfl, rfl⟩)
  rw [if_neg hc3] at hQ
  replace hp := hp.2 hc3
  by_cases hc4 : (l1 - l1 / (12 : Int32) * (12 : Int32)) = 4
  · rw [if_pos hc4] at hQ
    replace hp := hp.1 hc4
    refine wp_tabI rfl hc4 (t := 108) rfl ?_
    refine wp_go 3 (pc' := 113) (L' := [none, some (.int l1), some (.int s0)]) (st' := [.int (s0 * (500 : Int32))]) (M' := M) rfl ?_
    exact wp_ret (r := some (.int (s0 * (500 : Int32)))) rfl rfl (hQ _ _ ⟨rfl, rfl⟩)
  rw [if_neg hc4] at hQ
  replace hp := hp.2 hc4
  by_cases hc5 : (l1 - l1 / (12 : Int32) * (12 : Int32)) = 5
  · rw [if_pos hc5] at hQ
    replace hp := hp.1 hc5
    refine wp_tabI rfl hc5 (t := 114) rfl ?_
    refine wp_go 3 (pc' := 119) (L' := [none, some (.int l1), some (.int s0)]) (st' := [.int (s0 * (259 : Int32))]) (M' := M) rfl ?_
    exact wp_ret (r := some (.int (s0 * (259 : Int32)))) rfl rfl (hQ _ _ ⟨rfl, rfl⟩)
  rw [if_neg hc5] at hQ
  replace hp := hp.2 hc5
  by_cases hc6 : (l1 - l1 / (12 : Int32) * (12 : Int32)) = 6
  · rw [if_pos hc6] at hQ
    replace hp := hp.1 hc6
    refine wp_tabI rfl hc6 (t := 120) rfl ?_
    refine wp_go 1 (pc' := 121) (L' := [none, some (.int l1), some (.int s0)]) (st' := [.int (0 : Int32)]) (M' := M) rfl ?_
    exact wp_ret (r := some (.int (0 : Int32))) rfl rfl (hQ _ _ ⟨rfl, rfl⟩)
  rw [if_neg hc6] at hQ
  replace hp := hp.2 hc6
  by_cases hc7 : (l1 - l1 / (12 : Int32) * (12 : Int32)) = 7
  · rw [if_pos hc7] at hQ
    replace hp := hp.1 hc7
    refine wp_tabI rfl hc7 (t := 122) rfl ?_
    refine wp_go 3 (pc' := 127) (L' := [none, some (.int l1), some (.int s0)]) (st' := [.int (s0 * ((-259) : Int32))]) (M' := M) rfl ?_
    exact wp_ret (r := some (.int (s0 * ((-259) : Int32)))) rfl rfl (hQ _ _ ⟨rfl, rfl⟩)
  rw [if_neg hc7] at hQ
  replace hp := hp.2 hc7
  by_cases hc8 : (l1 - l1 / (12 : Int32) * (12 : Int32)) = 8
  · rw [if_pos hc8] at hQ
    replace hp := hp.1 hc8
    refine wp_tabI rfl hc8 (t := 128) rfl ?_
    refine wp_go 3 (pc' := 133) (L' := [none, some (.int l1), some (.int s0)]) (st' := [.int (s0 * ((-500) : Int32))]) (M' := M) rfl ?_
    exact wp_ret (r := some (.int (s0 * ((-500) : Int32)))) rfl rfl (hQ _ _ ⟨rfl, rfl⟩)
  rw [if_neg hc8] at hQ
  replace hp := hp.2 hc8
  by_cases hc9 : (l1 - l1 / (12 : Int32) * (12 : Int32)) = 9
  · rw [if_pos hc9] at hQ
    replace hp := hp.1 hc9
    refine wp_tabI rfl hc9 (t := 134) rfl ?_
    refine wp_go 3 (pc' := 139) (L' := [none, some (.int l1), some (.int s0)]) (st' := [.int (s0 * ((-707) : Int32))]) (M' := M) rfl ?_
    exact wp_ret (r := some (.int (s0 * ((-707) : Int32)))) rfl rfl (hQ _ _ ⟨rfl, rfl⟩)
  rw [if_neg hc9] at hQ
  replace hp := hp.2 hc9
  by_cases hc10 : (l1 - l1 / (12 : Int32) * (12 : Int32)) = 10
  · rw [if_pos hc10] at hQ
    replace hp := hp.1 hc10
    refine wp_tabI rfl hc10 (t := 140) rfl ?_
    refine wp_go 3 (pc' := 145) (L' := [none, some (.int l1), some (.int s0)]) (st' := [.int (s0 * ((-866) : Int32))]) (M' := M) rfl ?_
    exact wp_ret (r := some (.int (s0 * ((-866) : Int32)))) rfl rfl (hQ _ _ ⟨rfl, rfl⟩)
  rw [if_neg hc10] at hQ
  replace hp := hp.2 hc10
  refine wp_tabO (t := 146) rfl (by have e0 : ¬ ((l1 - l1 / (12 : Int32) * (12 : Int32))).toInt = 0 := fun h => hc0 (Int32.toInt_inj.mp h); have e1 : ¬ ((l1 - l1 / (12 : Int32) * (12 : Int32))).toInt = 1 := fun h => hc1 (Int32.toInt_inj.mp h); have e2 : ¬ ((l1 - l1 / (12 : Int32) * (12 : Int32))).toInt = 2 := fun h => hc2 (Int32.toInt_inj.mp h); have e3 : ¬ ((l1 - l1 / (12 : Int32) * (12 : Int32))).toInt = 3 := fun h => hc3 (Int32.toInt_inj.mp h); have e4 : ¬ ((l1 - l1 / (12 : Int32) * (12 : Int32))).toInt = 4 := fun h => hc4 (Int32.toInt_inj.mp h); have e5 : ¬ ((l1 - l1 / (12 : Int32) * (12 : Int32))).toInt = 5 := fun h => hc5 (Int32.toInt_inj.mp h); have e6 : ¬ ((l1 - l1 / (12 : Int32) * (12 : Int32))).toInt = 6 := fun h => hc6 (Int32.toInt_inj.mp h); have e7 : ¬ ((l1 - l1 / (12 : Int32) * (12 : Int32))).toInt = 7 := fun h => hc7 (Int32.toInt_inj.mp h); have e8 : ¬ ((l1 - l1 / (12 : Int32) * (12 : Int32))).toInt = 8 := fun h => hc8 (Int32.toInt_inj.mp h); have e9 : ¬ ((l1 - l1 / (12 : Int32) * (12 : Int32))).toInt = 9 := fun h => hc9 (Int32.toInt_inj.mp h); have e10 : ¬ ((l1 - l1 / (12 : Int32) * (12 : Int32))).toInt = 10 := fun h => hc10 (Int32.toInt_inj.mp h); omega) rfl ?_
  refine wp_go 3 (pc' := 151) (L' := [none, some (.int l1), some (.int s0)]) (st' := [.int (s0 * ((-966) : Int32))]) (M' := M) rfl ?_
  exact wp_ret (r := some (.int (s0 * ((-966) : Int32)))) rfl rfl (hQ _ _ ⟨rfl, rfl⟩)
def b120_0 (n : Nat)  (l0 : Int32) (M : zM) : Int32 × zM := (if (12 : Int32) ≤ (((l0 - l0 / (24 : Int32) * (24 : Int32)) + (24 : Int32)) - ((l0 - l0 / (24 : Int32) * (24 : Int32)) + (24 : Int32)) / (24 : Int32) * (24 : Int32)) then b120_22 n  (((l0 - l0 / (24 : Int32) * (24 : Int32)) + (24 : Int32)) - ((l0 - l0 / (24 : Int32) * (24 : Int32)) + (24 : Int32)) / (24 : Int32) * (24 : Int32)) ((-1) : Int32) M else b120_22 n  (((l0 - l0 / (24 : Int32) * (24 : Int32)) + (24 : Int32)) - ((l0 - l0 / (24 : Int32) * (24 : Int32)) + (24 : Int32)) / (24 : Int32) * (24 : Int32)) (1 : Int32) M)
def p120_0 (n : Nat)  (l0 : Int32) (M : zM) : Prop := (((12 : Int32) ≤ (((l0 - l0 / (24 : Int32) * (24 : Int32)) + (24 : Int32)) - ((l0 - l0 / (24 : Int32) * (24 : Int32)) + (24 : Int32)) / (24 : Int32) * (24 : Int32)) → p120_22 n  (((l0 - l0 / (24 : Int32) * (24 : Int32)) + (24 : Int32)) - ((l0 - l0 / (24 : Int32) * (24 : Int32)) + (24 : Int32)) / (24 : Int32) * (24 : Int32)) ((-1) : Int32) M) ∧ (¬ (12 : Int32) ≤ (((l0 - l0 / (24 : Int32) * (24 : Int32)) + (24 : Int32)) - ((l0 - l0 / (24 : Int32) * (24 : Int32)) + (24 : Int32)) / (24 : Int32) * (24 : Int32)) → p120_22 n  (((l0 - l0 / (24 : Int32) * (24 : Int32)) + (24 : Int32)) - ((l0 - l0 / (24 : Int32) * (24 : Int32)) + (24 : Int32)) / (24 : Int32) * (24 : Int32)) (1 : Int32) M))
theorem s120_0 (n : Nat)    (l0 : Int32) (M : zM) (hp : p120_0 n  l0 M) {Q : Option Value → zM → Prop} (hQ : ∀ r M1, zRI (b120_0 n  l0 M) r M1 → Q r M1) : zWP 120 0 [some (.int l0), none, none] [] M Q := by
  unfold b120_0 at hQ
  unfold p120_0 at hp
  refine wp_go 2 (pc' := 3) (L' := [some (.int l0), none, none]) (st' := [.int (24 : Int32), .int l0]) (M' := M) rfl ?_
  refine wq_irem rfl (by decide) ?_
  refine wp_go 3 (pc' := 9) (L' := [some (.int l0), none, none]) (st' := [.int (24 : Int32), .int ((l0 - l0 / (24 : Int32) * (24 : Int32)) + (24 : Int32))]) (M' := M) rfl ?_
  refine wq_irem rfl (by decide) ?_
  refine wp_go 3 (pc' := 14) (L' := [some (.int l0), some (.int (((l0 - l0 / (24 : Int32) * (24 : Int32)) + (24 : Int32)) - ((l0 - l0 / (24 : Int32) * (24 : Int32)) + (24 : Int32)) / (24 : Int32) * (24 : Int32))), none]) (st' := [.int (12 : Int32), .int (((l0 - l0 / (24 : Int32) * (24 : Int32)) + (24 : Int32)) - ((l0 - l0 / (24 : Int32) * (24 : Int32)) + (24 : Int32)) / (24 : Int32) * (24 : Int32))]) (M' := M) rfl ?_
  refine wp_ic_ge (t := 21) rfl rfl (fun hc => ?_) (fun hc => ?_)
  · rw [if_pos hc] at hQ
    replace hp := hp.1 hc
    refine wp_go 1 (pc' := 22) (L' := [some (.int l0), some (.int (((l0 - l0 / (24 : Int32) * (24 : Int32)) + (24 : Int32)) - ((l0 - l0 / (24 : Int32) * (24 : Int32)) + (24 : Int32)) / (24 : Int32) * (24 : Int32))), none]) (st' := [.int ((-1) : Int32)]) (M' := M) rfl ?_
    refine wp_le [none, some (.int (((l0 - l0 / (24 : Int32) * (24 : Int32)) + (24 : Int32)) - ((l0 - l0 / (24 : Int32) * (24 : Int32)) + (24 : Int32)) / (24 : Int32) * (24 : Int32))), none] (zLe_of (by simp [zLeB])) ?_
    exact s120_22 n    (((l0 - l0 / (24 : Int32) * (24 : Int32)) + (24 : Int32)) - ((l0 - l0 / (24 : Int32) * (24 : Int32)) + (24 : Int32)) / (24 : Int32) * (24 : Int32)) ((-1) : Int32) M hp hQ
  · rw [if_neg hc] at hQ
    replace hp := hp.2 hc
    refine wp_go 2 (pc' := 22) (L' := [some (.int l0), some (.int (((l0 - l0 / (24 : Int32) * (24 : Int32)) + (24 : Int32)) - ((l0 - l0 / (24 : Int32) * (24 : Int32)) + (24 : Int32)) / (24 : Int32) * (24 : Int32))), none]) (st' := [.int (1 : Int32)]) (M' := M) rfl ?_
    refine wp_le [none, some (.int (((l0 - l0 / (24 : Int32) * (24 : Int32)) + (24 : Int32)) - ((l0 - l0 / (24 : Int32) * (24 : Int32)) + (24 : Int32)) / (24 : Int32) * (24 : Int32))), none] (zLe_of (by simp [zLeB])) ?_
    exact s120_22 n    (((l0 - l0 / (24 : Int32) * (24 : Int32)) + (24 : Int32)) - ((l0 - l0 / (24 : Int32) * (24 : Int32)) + (24 : Int32)) / (24 : Int32) * (24 : Int32)) (1 : Int32) M hp hQ
/-! X12_y -/
def b121_7 (n : Nat)  (s0 : Int32) (M : zM) : Int32 × zM := (s0, M)
def p121_7 (n : Nat)  (s0 : Int32) (M : zM) : Prop := True
theorem s121_7 (n : Nat)    (s0 : Int32) (M : zM) (hp : p121_7 n  s0 M) {Q : Option Value → zM → Prop} (hQ : ∀ r M1, zRI (b121_7 n  s0 M) r M1 → Q r M1) : zWP 121 7 [none] [.int s0] M Q := by
  unfold b121_7 at hQ
  unfold p121_7 at hp
  exact wp_ret (r := some (.int s0)) rfl rfl (hQ _ _ ⟨rfl, rfl⟩)
def b121_0 (n : Nat)  (l0 : Int32) (M : zM) : Int32 × zM := b121_7 n  (b120_0 n (l0 + (18 : Int32)) M).1 (b120_0 n (l0 + (18 : Int32)) M).2
def p121_0 (n : Nat)  (l0 : Int32) (M : zM) : Prop := (p120_0 n (l0 + (18 : Int32)) M) ∧ (p121_7 n  (b120_0 n (l0 + (18 : Int32)) M).1 (b120_0 n (l0 + (18 : Int32)) M).2)
theorem s121_0 (n : Nat)    (l0 : Int32) (M : zM) (hp : p121_0 n  l0 M) {Q : Option Value → zM → Prop} (hQ : ∀ r M1, zRI (b121_0 n  l0 M) r M1 → Q r M1) : zWP 121 0 [some (.int l0)] [] M Q := by
  unfold b121_0 at hQ
  unfold p121_0 at hp
  refine wp_go 3 (pc' := 4) (L' := [some (.int l0)]) (st' := [.int (l0 + (18 : Int32))]) (M' := M) rfl ?_
  obtain ⟨hc, hp⟩ := hp
  refine wp_calli (v := (b120_0 n (l0 + (18 : Int32)) M).1) (M1 := (b120_0 n (l0 + (18 : Int32)) M).2) rfl rfl rfl rfl (s120_0 n (l0 + (18 : Int32)) M hc (fun r M1 h => h)) ?_
  refine wp_le [none] (zLe_of (by simp [zLeB])) ?_
  exact s121_7 n    (b120_0 n (l0 + (18 : Int32)) M).1 (b120_0 n (l0 + (18 : Int32)) M).2 hp hQ
/-! X12_placeX -/
def b122_43 (n : Nat) (k6 : Nat → Int32 → Int32 → Int32 → Int32 → Int32 → zM → Int32 × zM) (l0 : Nat) (l1 : Int32) (l2 : Int32) (l3 : Int32) (l5 : Int32) (s0 : Int32) (s1 : Int32) (s2 : Int32) (M : zM) : Int32 × zM := k6 l0 l1 l2 l3 (s0 + (s1 * s2)) (l5 + Int32.ofInt 1) M
def p122_43 (n : Nat) (q6 : Nat → Int32 → Int32 → Int32 → Int32 → Int32 → zM → Prop) (l0 : Nat) (l1 : Int32) (l2 : Int32) (l3 : Int32) (l5 : Int32) (s0 : Int32) (s1 : Int32) (s2 : Int32) (M : zM) : Prop := q6 l0 l1 l2 l3 (s0 + (s1 * s2)) (l5 + Int32.ofInt 1) M
theorem s122_43 (n : Nat) (k6 : Nat → Int32 → Int32 → Int32 → Int32 → Int32 → zM → Int32 × zM) (q6 : Nat → Int32 → Int32 → Int32 → Int32 → Int32 → zM → Prop) (h6 : ∀ (l0 : Nat) (l1 : Int32) (l2 : Int32) (l3 : Int32) (l4 : Int32) (l5 : Int32) (M : zM), q6 l0 l1 l2 l3 l4 l5 M → ∀ {Q : Option Value → zM → Prop}, (∀ r M1, zRI (k6 l0 l1 l2 l3 l4 l5 M) r M1 → Q r M1) → zWP 122 6 [some (.ref l0), some (.int l1), some (.int l2), some (.int l3), some (.int l4), some (.int l5)] [] M Q) (l0 : Nat) (l1 : Int32) (l2 : Int32) (l3 : Int32) (l5 : Int32) (s0 : Int32) (s1 : Int32) (s2 : Int32) (M : zM) (hp : p122_43 n q6 l0 l1 l2 l3 l5 s0 s1 s2 M) {Q : Option Value → zM → Prop} (hQ : ∀ r M1, zRI (b122_43 n k6 l0 l1 l2 l3 l5 s0 s1 s2 M) r M1 → Q r M1) : zWP 122 43 [some (.ref l0), some (.int l1), some (.int l2), some (.int l3), none, some (.int l5)] [.int s2, .int s1, .int s0] M Q := by
  unfold b122_43 at hQ
  unfold p122_43 at hp
  refine wp_go 5 (pc' := 6) (L' := [some (.ref l0), some (.int l1), some (.int l2), some (.int l3), some (.int (s0 + (s1 * s2))), some (.int (l5 + Int32.ofInt 1))]) (st' := []) (M' := M) rfl ?_
  exact h6 l0 l1 l2 l3 (s0 + (s1 * s2)) (l5 + Int32.ofInt 1) M hp hQ
def c122_6 (n : Nat) (k6 : Nat → Int32 → Int32 → Int32 → Int32 → Int32 → zM → Int32 × zM) (l0 : Nat) (l1 : Int32) (l2 : Int32) (l3 : Int32) (l4 : Int32) (l5 : Int32) (M : zM) : Int32 × zM := (if l2 ≤ l5 then (l4, M) else b122_43 n k6 l0 l1 l2 l3 l5 l4 (zI M (zQ M l0 7) (((20 : Int32) * l1) + l5).toNatClampNeg) (b120_0 n ((zI M (zQ M l0 6) (((20 : Int32) * l1) + l5).toNatClampNeg) + l3) M).1 (b120_0 n ((zI M (zQ M l0 6) (((20 : Int32) * l1) + l5).toNatClampNeg) + l3) M).2)
def d122_6 (n : Nat) (q6 : Nat → Int32 → Int32 → Int32 → Int32 → Int32 → zM → Prop) (l0 : Nat) (l1 : Int32) (l2 : Int32) (l3 : Int32) (l4 : Int32) (l5 : Int32) (M : zM) : Prop := ((l2 ≤ l5 → True) ∧ (¬ l2 ≤ l5 → (zHasQ 10 29 l0 M 7) ∧ ((zOkI (zQ M l0 7) (((20 : Int32) * l1) + l5) M) ∧ ((zHasQ 10 26 l0 M 6) ∧ ((zOkI (zQ M l0 6) (((20 : Int32) * l1) + l5) M) ∧ ((p120_0 n ((zI M (zQ M l0 6) (((20 : Int32) * l1) + l5).toNatClampNeg) + l3) M) ∧ (p122_43 n q6 l0 l1 l2 l3 l5 l4 (zI M (zQ M l0 7) (((20 : Int32) * l1) + l5).toNatClampNeg) (b120_0 n ((zI M (zQ M l0 6) (((20 : Int32) * l1) + l5).toNatClampNeg) + l3) M).1 (b120_0 n ((zI M (zQ M l0 6) (((20 : Int32) * l1) + l5).toNatClampNeg) + l3) M).2)))))))
theorem t122_6 (n : Nat) (k6 : Nat → Int32 → Int32 → Int32 → Int32 → Int32 → zM → Int32 × zM) (q6 : Nat → Int32 → Int32 → Int32 → Int32 → Int32 → zM → Prop) (h6 : ∀ (l0 : Nat) (l1 : Int32) (l2 : Int32) (l3 : Int32) (l4 : Int32) (l5 : Int32) (M : zM), q6 l0 l1 l2 l3 l4 l5 M → ∀ {Q : Option Value → zM → Prop}, (∀ r M1, zRI (k6 l0 l1 l2 l3 l4 l5 M) r M1 → Q r M1) → zWP 122 6 [some (.ref l0), some (.int l1), some (.int l2), some (.int l3), some (.int l4), some (.int l5)] [] M Q) (l0 : Nat) (l1 : Int32) (l2 : Int32) (l3 : Int32) (l4 : Int32) (l5 : Int32) (M : zM) (hp : d122_6 n q6 l0 l1 l2 l3 l4 l5 M) {Q : Option Value → zM → Prop} (hQ : ∀ r M1, zRI (c122_6 n k6 l0 l1 l2 l3 l4 l5 M) r M1 → Q r M1) : zWP 122 6 [some (.ref l0), some (.int l1), some (.int l2), some (.int l3), some (.int l4), some (.int l5)] [] M Q := by
  unfold c122_6 at hQ
  unfold d122_6 at hp
  refine wp_go 2 (pc' := 9) (L' := [some (.ref l0), some (.int l1), some (.int l2), some (.int l3), some (.int l4), some (.int l5)]) (st' := [.int l2, .int l5]) (M' := M) rfl ?_
  refine wp_ic_ge (t := 53) rfl rfl (fun hc => ?_) (fun hc => ?_)
  · rw [if_pos hc] at hQ
    replace hp := hp.1 hc
    refine wp_go 1 (pc' := 55) (L' := [some (.ref l0), some (.int l1), some (.int l2), some (.int l3), some (.int l4), some (.int l5)]) (st' := [.int l4]) (M' := M) rfl ?_
    exact wp_ret (r := some (.int l4)) rfl rfl (hQ _ _ ⟨rfl, rfl⟩)
  · rw [if_neg hc] at hQ
    replace hp := hp.2 hc
    refine wp_go 2 (pc' := 15) (L' := [some (.ref l0), some (.int l1), some (.int l2), some (.int l3), some (.int l4), some (.int l5)]) (st' := [.ref l0, .int l4]) (M' := M) rfl ?_
    obtain ⟨hc, hp⟩ := hp
    refine wq_getQ (j := 7) rfl hc ?_
    refine wp_go 5 (pc' := 25) (L' := [some (.ref l0), some (.int l1), some (.int l2), some (.int l3), some (.int l4), some (.int l5)]) (st' := [.int (((20 : Int32) * l1) + l5), .ref (zQ M l0 7), .int l4]) (M' := M) rfl ?_
    obtain ⟨hc, hp⟩ := hp
    refine wq_iald rfl hc ?_
    refine wp_go 1 (pc' := 27) (L' := [some (.ref l0), some (.int l1), some (.int l2), some (.int l3), some (.int l4), some (.int l5)]) (st' := [.ref l0, .int (zI M (zQ M l0 7) (((20 : Int32) * l1) + l5).toNatClampNeg), .int l4]) (M' := M) rfl ?_
    obtain ⟨hc, hp⟩ := hp
    refine wq_getQ (j := 6) rfl hc ?_
    refine wp_go 5 (pc' := 37) (L' := [some (.ref l0), some (.int l1), some (.int l2), some (.int l3), some (.int l4), some (.int l5)]) (st' := [.int (((20 : Int32) * l1) + l5), .ref (zQ M l0 6), .int (zI M (zQ M l0 7) (((20 : Int32) * l1) + l5).toNatClampNeg), .int l4]) (M' := M) rfl ?_
    obtain ⟨hc, hp⟩ := hp
    refine wq_iald rfl hc ?_
    refine wp_go 2 (pc' := 40) (L' := [some (.ref l0), some (.int l1), some (.int l2), some (.int l3), some (.int l4), some (.int l5)]) (st' := [.int ((zI M (zQ M l0 6) (((20 : Int32) * l1) + l5).toNatClampNeg) + l3), .int (zI M (zQ M l0 7) (((20 : Int32) * l1) + l5).toNatClampNeg), .int l4]) (M' := M) rfl ?_
    obtain ⟨hc, hp⟩ := hp
    refine wp_calli (v := (b120_0 n ((zI M (zQ M l0 6) (((20 : Int32) * l1) + l5).toNatClampNeg) + l3) M).1) (M1 := (b120_0 n ((zI M (zQ M l0 6) (((20 : Int32) * l1) + l5).toNatClampNeg) + l3) M).2) rfl rfl rfl rfl (s120_0 n ((zI M (zQ M l0 6) (((20 : Int32) * l1) + l5).toNatClampNeg) + l3) M hc (fun r M1 h => h)) ?_
    refine wp_le [some (.ref l0), some (.int l1), some (.int l2), some (.int l3), none, some (.int l5)] (zLe_of (by simp [zLeB])) ?_
    exact s122_43 n k6 q6 h6 l0 l1 l2 l3 l5 l4 (zI M (zQ M l0 7) (((20 : Int32) * l1) + l5).toNatClampNeg) (b120_0 n ((zI M (zQ M l0 6) (((20 : Int32) * l1) + l5).toNatClampNeg) + l3) M).1 (b120_0 n ((zI M (zQ M l0 6) (((20 : Int32) * l1) + l5).toNatClampNeg) + l3) M).2 hp hQ
def b122_6 (n : Nat)  : Nat → Nat → Int32 → Int32 → Int32 → Int32 → Int32 → zM → Int32 × zM
  | 0, _, _, _, _, _, _, M => (0, M)
  | k + 1, l0, l1, l2, l3, l4, l5, M => c122_6 n  (b122_6 n  k) l0 l1 l2 l3 l4 l5 M
def p122_6 (n : Nat)  : Nat → Nat → Int32 → Int32 → Int32 → Int32 → Int32 → zM → Prop
  | 0, _, _, _, _, _, _, _ => False
  | k + 1, l0, l1, l2, l3, l4, l5, M => d122_6 n  (p122_6 n  k) l0 l1 l2 l3 l4 l5 M
theorem s122_6 (n : Nat)    : ∀ (k : Nat) (l0 : Nat) (l1 : Int32) (l2 : Int32) (l3 : Int32) (l4 : Int32) (l5 : Int32) (M : zM), p122_6 n  k l0 l1 l2 l3 l4 l5 M → ∀ {Q : Option Value → zM → Prop}, (∀ r M1, zRI (b122_6 n  k l0 l1 l2 l3 l4 l5 M) r M1 → Q r M1) → zWP 122 6 [some (.ref l0), some (.int l1), some (.int l2), some (.int l3), some (.int l4), some (.int l5)] [] M Q
  | 0, _, _, _, _, _, _, _, h, _, _ => h.elim
  | k + 1, l0, l1, l2, l3, l4, l5, M, h, _, hQ => t122_6 n  (b122_6 n  k)  (p122_6 n  k)  (s122_6 n    k) l0 l1 l2 l3 l4 l5 M h hQ
def b122_0 (n : Nat)  (l0 : Nat) (l1 : Int32) (l2 : Int32) (l3 : Int32) (M : zM) : Int32 × zM := b122_6 n  n l0 l1 l2 l3 (0 : Int32) (0 : Int32) M
def p122_0 (n : Nat)  (l0 : Nat) (l1 : Int32) (l2 : Int32) (l3 : Int32) (M : zM) : Prop := p122_6 n  n l0 l1 l2 l3 (0 : Int32) (0 : Int32) M
theorem s122_0 (n : Nat)    (l0 : Nat) (l1 : Int32) (l2 : Int32) (l3 : Int32) (M : zM) (hp : p122_0 n  l0 l1 l2 l3 M) {Q : Option Value → zM → Prop} (hQ : ∀ r M1, zRI (b122_0 n  l0 l1 l2 l3 M) r M1 → Q r M1) : zWP 122 0 [some (.ref l0), some (.int l1), some (.int l2), some (.int l3), none, none] [] M Q := by
  unfold b122_0 at hQ
  unfold p122_0 at hp
  refine wp_go 4 (pc' := 6) (L' := [some (.ref l0), some (.int l1), some (.int l2), some (.int l3), some (.int (0 : Int32)), some (.int (0 : Int32))]) (st' := []) (M' := M) rfl ?_
  exact s122_6 n    n l0 l1 l2 l3 (0 : Int32) (0 : Int32) M hp hQ
/-! X12_placeY -/
def b123_43 (n : Nat) (k6 : Nat → Int32 → Int32 → Int32 → Int32 → Int32 → zM → Int32 × zM) (l0 : Nat) (l1 : Int32) (l2 : Int32) (l3 : Int32) (l5 : Int32) (s0 : Int32) (s1 : Int32) (s2 : Int32) (M : zM) : Int32 × zM := k6 l0 l1 l2 l3 (s0 + (s1 * s2)) (l5 + Int32.ofInt 1) M
def p123_43 (n : Nat) (q6 : Nat → Int32 → Int32 → Int32 → Int32 → Int32 → zM → Prop) (l0 : Nat) (l1 : Int32) (l2 : Int32) (l3 : Int32) (l5 : Int32) (s0 : Int32) (s1 : Int32) (s2 : Int32) (M : zM) : Prop := q6 l0 l1 l2 l3 (s0 + (s1 * s2)) (l5 + Int32.ofInt 1) M
theorem s123_43 (n : Nat) (k6 : Nat → Int32 → Int32 → Int32 → Int32 → Int32 → zM → Int32 × zM) (q6 : Nat → Int32 → Int32 → Int32 → Int32 → Int32 → zM → Prop) (h6 : ∀ (l0 : Nat) (l1 : Int32) (l2 : Int32) (l3 : Int32) (l4 : Int32) (l5 : Int32) (M : zM), q6 l0 l1 l2 l3 l4 l5 M → ∀ {Q : Option Value → zM → Prop}, (∀ r M1, zRI (k6 l0 l1 l2 l3 l4 l5 M) r M1 → Q r M1) → zWP 123 6 [some (.ref l0), some (.int l1), some (.int l2), some (.int l3), some (.int l4), some (.int l5)] [] M Q) (l0 : Nat) (l1 : Int32) (l2 : Int32) (l3 : Int32) (l5 : Int32) (s0 : Int32) (s1 : Int32) (s2 : Int32) (M : zM) (hp : p123_43 n q6 l0 l1 l2 l3 l5 s0 s1 s2 M) {Q : Option Value → zM → Prop} (hQ : ∀ r M1, zRI (b123_43 n k6 l0 l1 l2 l3 l5 s0 s1 s2 M) r M1 → Q r M1) : zWP 123 43 [some (.ref l0), some (.int l1), some (.int l2), some (.int l3), none, some (.int l5)] [.int s2, .int s1, .int s0] M Q := by
  unfold b123_43 at hQ
  unfold p123_43 at hp
  refine wp_go 5 (pc' := 6) (L' := [some (.ref l0), some (.int l1), some (.int l2), some (.int l3), some (.int (s0 + (s1 * s2))), some (.int (l5 + Int32.ofInt 1))]) (st' := []) (M' := M) rfl ?_
  exact h6 l0 l1 l2 l3 (s0 + (s1 * s2)) (l5 + Int32.ofInt 1) M hp hQ
def c123_6 (n : Nat) (k6 : Nat → Int32 → Int32 → Int32 → Int32 → Int32 → zM → Int32 × zM) (l0 : Nat) (l1 : Int32) (l2 : Int32) (l3 : Int32) (l4 : Int32) (l5 : Int32) (M : zM) : Int32 × zM := (if l2 ≤ l5 then (l4, M) else b123_43 n k6 l0 l1 l2 l3 l5 l4 (zI M (zQ M l0 7) (((20 : Int32) * l1) + l5).toNatClampNeg) (b121_0 n ((zI M (zQ M l0 6) (((20 : Int32) * l1) + l5).toNatClampNeg) + l3) M).1 (b121_0 n ((zI M (zQ M l0 6) (((20 : Int32) * l1) + l5).toNatClampNeg) + l3) M).2)
def d123_6 (n : Nat) (q6 : Nat → Int32 → Int32 → Int32 → Int32 → Int32 → zM → Prop) (l0 : Nat) (l1 : Int32) (l2 : Int32) (l3 : Int32) (l4 : Int32) (l5 : Int32) (M : zM) : Prop := ((l2 ≤ l5 → True) ∧ (¬ l2 ≤ l5 → (zHasQ 10 29 l0 M 7) ∧ ((zOkI (zQ M l0 7) (((20 : Int32) * l1) + l5) M) ∧ ((zHasQ 10 26 l0 M 6) ∧ ((zOkI (zQ M l0 6) (((20 : Int32) * l1) + l5) M) ∧ ((p121_0 n ((zI M (zQ M l0 6) (((20 : Int32) * l1) + l5).toNatClampNeg) + l3) M) ∧ (p123_43 n q6 l0 l1 l2 l3 l5 l4 (zI M (zQ M l0 7) (((20 : Int32) * l1) + l5).toNatClampNeg) (b121_0 n ((zI M (zQ M l0 6) (((20 : Int32) * l1) + l5).toNatClampNeg) + l3) M).1 (b121_0 n ((zI M (zQ M l0 6) (((20 : Int32) * l1) + l5).toNatClampNeg) + l3) M).2)))))))
theorem t123_6 (n : Nat) (k6 : Nat → Int32 → Int32 → Int32 → Int32 → Int32 → zM → Int32 × zM) (q6 : Nat → Int32 → Int32 → Int32 → Int32 → Int32 → zM → Prop) (h6 : ∀ (l0 : Nat) (l1 : Int32) (l2 : Int32) (l3 : Int32) (l4 : Int32) (l5 : Int32) (M : zM), q6 l0 l1 l2 l3 l4 l5 M → ∀ {Q : Option Value → zM → Prop}, (∀ r M1, zRI (k6 l0 l1 l2 l3 l4 l5 M) r M1 → Q r M1) → zWP 123 6 [some (.ref l0), some (.int l1), some (.int l2), some (.int l3), some (.int l4), some (.int l5)] [] M Q) (l0 : Nat) (l1 : Int32) (l2 : Int32) (l3 : Int32) (l4 : Int32) (l5 : Int32) (M : zM) (hp : d123_6 n q6 l0 l1 l2 l3 l4 l5 M) {Q : Option Value → zM → Prop} (hQ : ∀ r M1, zRI (c123_6 n k6 l0 l1 l2 l3 l4 l5 M) r M1 → Q r M1) : zWP 123 6 [some (.ref l0), some (.int l1), some (.int l2), some (.int l3), some (.int l4), some (.int l5)] [] M Q := by
  unfold c123_6 at hQ
  unfold d123_6 at hp
  refine wp_go 2 (pc' := 9) (L' := [some (.ref l0), some (.int l1), some (.int l2), some (.int l3), some (.int l4), some (.int l5)]) (st' := [.int l2, .int l5]) (M' := M) rfl ?_
  refine wp_ic_ge (t := 53) rfl rfl (fun hc => ?_) (fun hc => ?_)
  · rw [if_pos hc] at hQ
    replace hp := hp.1 hc
    refine wp_go 1 (pc' := 55) (L' := [some (.ref l0), some (.int l1), some (.int l2), some (.int l3), some (.int l4), some (.int l5)]) (st' := [.int l4]) (M' := M) rfl ?_
    exact wp_ret (r := some (.int l4)) rfl rfl (hQ _ _ ⟨rfl, rfl⟩)
  · rw [if_neg hc] at hQ
    replace hp := hp.2 hc
    refine wp_go 2 (pc' := 15) (L' := [some (.ref l0), some (.int l1), some (.int l2), some (.int l3), some (.int l4), some (.int l5)]) (st' := [.ref l0, .int l4]) (M' := M) rfl ?_
    obtain ⟨hc, hp⟩ := hp
    refine wq_getQ (j := 7) rfl hc ?_
    refine wp_go 5 (pc' := 25) (L' := [some (.ref l0), some (.int l1), some (.int l2), some (.int l3), some (.int l4), some (.int l5)]) (st' := [.int (((20 : Int32) * l1) + l5), .ref (zQ M l0 7), .int l4]) (M' := M) rfl ?_
    obtain ⟨hc, hp⟩ := hp
    refine wq_iald rfl hc ?_
    refine wp_go 1 (pc' := 27) (L' := [some (.ref l0), some (.int l1), some (.int l2), some (.int l3), some (.int l4), some (.int l5)]) (st' := [.ref l0, .int (zI M (zQ M l0 7) (((20 : Int32) * l1) + l5).toNatClampNeg), .int l4]) (M' := M) rfl ?_
    obtain ⟨hc, hp⟩ := hp
    refine wq_getQ (j := 6) rfl hc ?_
    refine wp_go 5 (pc' := 37) (L' := [some (.ref l0), some (.int l1), some (.int l2), some (.int l3), some (.int l4), some (.int l5)]) (st' := [.int (((20 : Int32) * l1) + l5), .ref (zQ M l0 6), .int (zI M (zQ M l0 7) (((20 : Int32) * l1) + l5).toNatClampNeg), .int l4]) (M' := M) rfl ?_
    obtain ⟨hc, hp⟩ := hp
    refine wq_iald rfl hc ?_
    refine wp_go 2 (pc' := 40) (L' := [some (.ref l0), some (.int l1), some (.int l2), some (.int l3), some (.int l4), some (.int l5)]) (st' := [.int ((zI M (zQ M l0 6) (((20 : Int32) * l1) + l5).toNatClampNeg) + l3), .int (zI M (zQ M l0 7) (((20 : Int32) * l1) + l5).toNatClampNeg), .int l4]) (M' := M) rfl ?_
    obtain ⟨hc, hp⟩ := hp
    refine wp_calli (v := (b121_0 n ((zI M (zQ M l0 6) (((20 : Int32) * l1) + l5).toNatClampNeg) + l3) M).1) (M1 := (b121_0 n ((zI M (zQ M l0 6) (((20 : Int32) * l1) + l5).toNatClampNeg) + l3) M).2) rfl rfl rfl rfl (s121_0 n ((zI M (zQ M l0 6) (((20 : Int32) * l1) + l5).toNatClampNeg) + l3) M hc (fun r M1 h => h)) ?_
    refine wp_le [some (.ref l0), some (.int l1), some (.int l2), some (.int l3), none, some (.int l5)] (zLe_of (by simp [zLeB])) ?_
    exact s123_43 n k6 q6 h6 l0 l1 l2 l3 l5 l4 (zI M (zQ M l0 7) (((20 : Int32) * l1) + l5).toNatClampNeg) (b121_0 n ((zI M (zQ M l0 6) (((20 : Int32) * l1) + l5).toNatClampNeg) + l3) M).1 (b121_0 n ((zI M (zQ M l0 6) (((20 : Int32) * l1) + l5).toNatClampNeg) + l3) M).2 hp hQ
def b123_6 (n : Nat)  : Nat → Nat → Int32 → Int32 → Int32 → Int32 → Int32 → zM → Int32 × zM
  | 0, _, _, _, _, _, _, M => (0, M)
  | k + 1, l0, l1, l2, l3, l4, l5, M => c123_6 n  (b123_6 n  k) l0 l1 l2 l3 l4 l5 M
def p123_6 (n : Nat)  : Nat → Nat → Int32 → Int32 → Int32 → Int32 → Int32 → zM → Prop
  | 0, _, _, _, _, _, _, _ => False
  | k + 1, l0, l1, l2, l3, l4, l5, M => d123_6 n  (p123_6 n  k) l0 l1 l2 l3 l4 l5 M
theorem s123_6 (n : Nat)    : ∀ (k : Nat) (l0 : Nat) (l1 : Int32) (l2 : Int32) (l3 : Int32) (l4 : Int32) (l5 : Int32) (M : zM), p123_6 n  k l0 l1 l2 l3 l4 l5 M → ∀ {Q : Option Value → zM → Prop}, (∀ r M1, zRI (b123_6 n  k l0 l1 l2 l3 l4 l5 M) r M1 → Q r M1) → zWP 123 6 [some (.ref l0), some (.int l1), some (.int l2), some (.int l3), some (.int l4), some (.int l5)] [] M Q
  | 0, _, _, _, _, _, _, _, h, _, _ => h.elim
  | k + 1, l0, l1, l2, l3, l4, l5, M, h, _, hQ => t123_6 n  (b123_6 n  k)  (p123_6 n  k)  (s123_6 n    k) l0 l1 l2 l3 l4 l5 M h hQ
def b123_0 (n : Nat)  (l0 : Nat) (l1 : Int32) (l2 : Int32) (l3 : Int32) (M : zM) : Int32 × zM := b123_6 n  n l0 l1 l2 l3 (0 : Int32) (0 : Int32) M
def p123_0 (n : Nat)  (l0 : Nat) (l1 : Int32) (l2 : Int32) (l3 : Int32) (M : zM) : Prop := p123_6 n  n l0 l1 l2 l3 (0 : Int32) (0 : Int32) M
theorem s123_0 (n : Nat)    (l0 : Nat) (l1 : Int32) (l2 : Int32) (l3 : Int32) (M : zM) (hp : p123_0 n  l0 l1 l2 l3 M) {Q : Option Value → zM → Prop} (hQ : ∀ r M1, zRI (b123_0 n  l0 l1 l2 l3 M) r M1 → Q r M1) : zWP 123 0 [some (.ref l0), some (.int l1), some (.int l2), some (.int l3), none, none] [] M Q := by
  unfold b123_0 at hQ
  unfold p123_0 at hp
  refine wp_go 4 (pc' := 6) (L' := [some (.ref l0), some (.int l1), some (.int l2), some (.int l3), some (.int (0 : Int32)), some (.int (0 : Int32))]) (st' := []) (M' := M) rfl ?_
  exact s123_6 n    n l0 l1 l2 l3 (0 : Int32) (0 : Int32) M hp hQ
/-! X12_size -/
def b124_10 (n : Nat)  (s0 : Int32) (M : zM) : Int32 × zM := (s0, M)
def p124_10 (n : Nat)  (s0 : Int32) (M : zM) : Prop := True
theorem s124_10 (n : Nat)    (s0 : Int32) (M : zM) (hp : p124_10 n  s0 M) {Q : Option Value → zM → Prop} (hQ : ∀ r M1, zRI (b124_10 n  s0 M) r M1 → Q r M1) : zWP 124 10 [none] [.int s0] M Q := by
  unfold b124_10 at hQ
  unfold p124_10 at hp
  exact wp_ret (r := some (.int s0)) rfl rfl (hQ _ _ ⟨rfl, rfl⟩)
def b124_0 (n : Nat)  (l0 : Int32) (M : zM) : Int32 × zM := (if 0 ≤ l0 then b124_10 n  l0 M else b124_10 n  (-l0) M)
def p124_0 (n : Nat)  (l0 : Int32) (M : zM) : Prop := ((0 ≤ l0 → p124_10 n  l0 M) ∧ (¬ 0 ≤ l0 → p124_10 n  (-l0) M))
theorem s124_0 (n : Nat)    (l0 : Int32) (M : zM) (hp : p124_0 n  l0 M) {Q : Option Value → zM → Prop} (hQ : ∀ r M1, zRI (b124_0 n  l0 M) r M1 → Q r M1) : zWP 124 0 [some (.int l0)] [] M Q := by
  unfold b124_0 at hQ
  unfold p124_0 at hp
  refine wp_go 1 (pc' := 1) (L' := [some (.int l0)]) (st' := [.int l0]) (M' := M) rfl ?_
  refine wp_if_ge (t := 9) rfl rfl (fun hc => ?_) (fun hc => ?_)
  · rw [if_pos hc] at hQ
    replace hp := hp.1 hc
    refine wp_go 1 (pc' := 10) (L' := [some (.int l0)]) (st' := [.int l0]) (M' := M) rfl ?_
    refine wp_le [none] (zLe_of (by simp [zLeB])) ?_
    exact s124_10 n    l0 M hp hQ
  · rw [if_neg hc] at hQ
    replace hp := hp.2 hc
    refine wp_go 3 (pc' := 10) (L' := [some (.int l0)]) (st' := [.int (-l0)]) (M' := M) rfl ?_
    refine wp_le [none] (zLe_of (by simp [zLeB])) ?_
    exact s124_10 n    (-l0) M hp hQ
/-! X12_greater -/
def b125_10 (n : Nat)  (s0 : Int32) (M : zM) : Int32 × zM := (s0, M)
def p125_10 (n : Nat)  (s0 : Int32) (M : zM) : Prop := True
theorem s125_10 (n : Nat)    (s0 : Int32) (M : zM) (hp : p125_10 n  s0 M) {Q : Option Value → zM → Prop} (hQ : ∀ r M1, zRI (b125_10 n  s0 M) r M1 → Q r M1) : zWP 125 10 [none, none] [.int s0] M Q := by
  unfold b125_10 at hQ
  unfold p125_10 at hp
  exact wp_ret (r := some (.int s0)) rfl rfl (hQ _ _ ⟨rfl, rfl⟩)
def b125_0 (n : Nat)  (l0 : Int32) (l1 : Int32) (M : zM) : Int32 × zM := (if l0 ≤ l1 then b125_10 n  l1 M else b125_10 n  l0 M)
def p125_0 (n : Nat)  (l0 : Int32) (l1 : Int32) (M : zM) : Prop := ((l0 ≤ l1 → p125_10 n  l1 M) ∧ (¬ l0 ≤ l1 → p125_10 n  l0 M))
theorem s125_0 (n : Nat)    (l0 : Int32) (l1 : Int32) (M : zM) (hp : p125_0 n  l0 l1 M) {Q : Option Value → zM → Prop} (hQ : ∀ r M1, zRI (b125_0 n  l0 l1 M) r M1 → Q r M1) : zWP 125 0 [some (.int l0), some (.int l1)] [] M Q := by
  unfold b125_0 at hQ
  unfold p125_0 at hp
  refine wp_go 2 (pc' := 2) (L' := [some (.int l0), some (.int l1)]) (st' := [.int l1, .int l0]) (M' := M) rfl ?_
  refine wp_ic_le (t := 9) rfl rfl (fun hc => ?_) (fun hc => ?_)
  · rw [if_pos hc] at hQ
    replace hp := hp.1 hc
    refine wp_go 1 (pc' := 10) (L' := [some (.int l0), some (.int l1)]) (st' := [.int l1]) (M' := M) rfl ?_
    refine wp_le [none, none] (zLe_of (by simp [zLeB])) ?_
    exact s125_10 n    l1 M hp hQ
  · rw [if_neg hc] at hQ
    replace hp := hp.2 hc
    refine wp_go 2 (pc' := 10) (L' := [some (.int l0), some (.int l1)]) (st' := [.int l0]) (M' := M) rfl ?_
    refine wp_le [none, none] (zLe_of (by simp [zLeB])) ?_
    exact s125_10 n    l0 M hp hQ
/-! X12_isSherd -/
def b126_17 (n : Nat)  (s0 : Int32) (M : zM) : Int32 × zM := (s0, M)
def p126_17 (n : Nat)  (s0 : Int32) (M : zM) : Prop := zNar .boolean s0 = true
theorem s126_17 (n : Nat)    (s0 : Int32) (M : zM) (hp : p126_17 n  s0 M) {Q : Option Value → zM → Prop} (hQ : ∀ r M1, zRI (b126_17 n  s0 M) r M1 → Q r M1) : zWP 126 17 [none, none] [.int s0] M Q := by
  unfold b126_17 at hQ
  unfold p126_17 at hp
  exact wp_retz rfl rfl hp (hQ _ _ ⟨rfl, rfl⟩)
def b126_16 (n : Nat)   (M : zM) : Int32 × zM := b126_17 n  (0 : Int32) M
def p126_16 (n : Nat)   (M : zM) : Prop := p126_17 n  (0 : Int32) M
theorem s126_16 (n : Nat)     (M : zM) (hp : p126_16 n   M) {Q : Option Value → zM → Prop} (hQ : ∀ r M1, zRI (b126_16 n   M) r M1 → Q r M1) : zWP 126 16 [none, none] [] M Q := by
  unfold b126_16 at hQ
  unfold p126_16 at hp
  refine wp_go 1 (pc' := 17) (L' := [none, none]) (st' := [.int (0 : Int32)]) (M' := M) rfl ?_
  exact s126_17 n    (0 : Int32) M hp hQ
def b126_0 (n : Nat)  (l0 : Nat) (l1 : Int32) (M : zM) : Int32 × zM := (if l1 < 0 then b126_16 n  M else (if (zI M l0 0) ≤ l1 then b126_16 n  M else b126_17 n  (1 : Int32) M))
def p126_0 (n : Nat)  (l0 : Nat) (l1 : Int32) (M : zM) : Prop := ((l1 < 0 → p126_16 n  M) ∧ (¬ l1 < 0 → (zHasI 10 148 l0 M 0) ∧ ((((zI M l0 0) ≤ l1 → p126_16 n  M) ∧ (¬ (zI M l0 0) ≤ l1 → p126_17 n  (1 : Int32) M)))))
theorem s126_0 (n : Nat)    (l0 : Nat) (l1 : Int32) (M : zM) (hp : p126_0 n  l0 l1 M) {Q : Option Value → zM → Prop} (hQ : ∀ r M1, zRI (b126_0 n  l0 l1 M) r M1 → Q r M1) : zWP 126 0 [some (.ref l0), some (.int l1)] [] M Q := by
  unfold b126_0 at hQ
  unfold p126_0 at hp
  refine wp_go 1 (pc' := 1) (L' := [some (.ref l0), some (.int l1)]) (st' := [.int l1]) (M' := M) rfl ?_
  refine wp_if_lt (t := 16) rfl rfl (fun hc => ?_) (fun hc => ?_)
  · rw [if_pos hc] at hQ
    replace hp := hp.1 hc
    refine wp_le [none, none] (zLe_of (by simp [zLeB])) ?_
    exact s126_16 n    M hp hQ
  · rw [if_neg hc] at hQ
    replace hp := hp.2 hc
    refine wp_go 2 (pc' := 6) (L' := [some (.ref l0), some (.int l1)]) (st' := [.ref l0, .int l1]) (M' := M) rfl ?_
    obtain ⟨hc, hp⟩ := hp
    refine wq_getI (j := 0) rfl hc ?_
    refine wp_ic_ge (t := 16) rfl rfl (fun hc => ?_) (fun hc => ?_)
    · rw [if_pos hc] at hQ
      replace hp := hp.1 hc
      refine wp_le [none, none] (zLe_of (by simp [zLeB])) ?_
      exact s126_16 n    M hp hQ
    · rw [if_neg hc] at hQ
      replace hp := hp.2 hc
      refine wp_go 2 (pc' := 17) (L' := [some (.ref l0), some (.int l1)]) (st' := [.int (1 : Int32)]) (M' := M) rfl ?_
      refine wp_le [none, none] (zLe_of (by simp [zLeB])) ?_
      exact s126_17 n    (1 : Int32) M hp hQ
/-! X12_sherd -/
def b127_23 (n : Nat)   (M : zM) : Int32 × zM := (((-1) : Int32), M)
def p127_23 (n : Nat)   (M : zM) : Prop := True
theorem s127_23 (n : Nat)     (M : zM) (hp : p127_23 n   M) {Q : Option Value → zM → Prop} (hQ : ∀ r M1, zRI (b127_23 n   M) r M1 → Q r M1) : zWP 127 23 [none, none] [] M Q := by
  unfold b127_23 at hQ
  unfold p127_23 at hp
  refine wp_go 1 (pc' := 24) (L' := [none, none]) (st' := [.int ((-1) : Int32)]) (M' := M) rfl ?_
  exact wp_ret (r := some (.int ((-1) : Int32))) rfl rfl (hQ _ _ ⟨rfl, rfl⟩)
def b127_85 (n : Nat)  (l0 : Nat) (M : zM) : Int32 × zM := (((zI M l0 0) - (1 : Int32)), M)
def p127_85 (n : Nat)  (l0 : Nat) (M : zM) : Prop := (zHasI 10 148 l0 M 0) ∧ (True)
theorem s127_85 (n : Nat)    (l0 : Nat) (M : zM) (hp : p127_85 n  l0 M) {Q : Option Value → zM → Prop} (hQ : ∀ r M1, zRI (b127_85 n  l0 M) r M1 → Q r M1) : zWP 127 85 [some (.ref l0), none] [] M Q := by
  unfold b127_85 at hQ
  unfold p127_85 at hp
  refine wp_go 1 (pc' := 86) (L' := [some (.ref l0), none]) (st' := [.ref l0]) (M' := M) rfl ?_
  obtain ⟨hc, hp⟩ := hp
  refine wq_getI (j := 0) rfl hc ?_
  refine wp_go 2 (pc' := 91) (L' := [some (.ref l0), none]) (st' := [.int ((zI M l0 0) - (1 : Int32))]) (M' := M) rfl ?_
  exact wp_ret (r := some (.int ((zI M l0 0) - (1 : Int32)))) rfl rfl (hQ _ _ ⟨rfl, rfl⟩)
def b127_75 (n : Nat)  (l0 : Nat) (M : zM) : Int32 × zM := b127_85 n  l0 (zWI M l0 0 ((zI M l0 0) + (1 : Int32)))
def p127_75 (n : Nat)  (l0 : Nat) (M : zM) : Prop := (zHasI 10 148 l0 M 0) ∧ ((zPutI 127 148 l0 M 0 ((zI M l0 0) + (1 : Int32))) ∧ (p127_85 n  l0 (zWI M l0 0 ((zI M l0 0) + (1 : Int32)))))
theorem s127_75 (n : Nat)    (l0 : Nat) (M : zM) (hp : p127_75 n  l0 M) {Q : Option Value → zM → Prop} (hQ : ∀ r M1, zRI (b127_75 n  l0 M) r M1 → Q r M1) : zWP 127 75 [some (.ref l0), none] [] M Q := by
  unfold b127_75 at hQ
  unfold p127_75 at hp
  refine wp_go 2 (pc' := 77) (L' := [some (.ref l0), none]) (st' := [.ref l0, .ref l0]) (M' := M) rfl ?_
  obtain ⟨hc, hp⟩ := hp
  refine wq_getI (j := 0) rfl hc ?_
  refine wp_go 2 (pc' := 82) (L' := [some (.ref l0), none]) (st' := [.int ((zI M l0 0) + (1 : Int32)), .ref l0]) (M' := M) rfl ?_
  obtain ⟨hc, hp⟩ := hp
  refine wq_putI (j := 0) rfl hc ?_
  exact s127_85 n    l0 (zWI M l0 0 ((zI M l0 0) + (1 : Int32))) hp hQ
def b127_65 (n : Nat)  (l0 : Nat) (M : zM) : Int32 × zM := b127_75 n  l0 (zWI M (zQ M l0 5) (zI M l0 0).toNatClampNeg ((-1) : Int32))
def p127_65 (n : Nat)  (l0 : Nat) (M : zM) : Prop := (zHasQ 10 23 l0 M 5) ∧ ((zHasI 10 148 l0 M 0) ∧ ((zOkT 1 (zQ M l0 5) (zI M l0 0) M) ∧ (p127_75 n  l0 (zWI M (zQ M l0 5) (zI M l0 0).toNatClampNeg ((-1) : Int32)))))
theorem s127_65 (n : Nat)    (l0 : Nat) (M : zM) (hp : p127_65 n  l0 M) {Q : Option Value → zM → Prop} (hQ : ∀ r M1, zRI (b127_65 n  l0 M) r M1 → Q r M1) : zWP 127 65 [some (.ref l0), none] [] M Q := by
  unfold b127_65 at hQ
  unfold p127_65 at hp
  refine wp_go 1 (pc' := 66) (L' := [some (.ref l0), none]) (st' := [.ref l0]) (M' := M) rfl ?_
  obtain ⟨hc, hp⟩ := hp
  refine wq_getQ (j := 5) rfl hc ?_
  refine wp_go 1 (pc' := 70) (L' := [some (.ref l0), none]) (st' := [.ref l0, .ref (zQ M l0 5)]) (M' := M) rfl ?_
  obtain ⟨hc, hp⟩ := hp
  refine wq_getI (j := 0) rfl hc ?_
  refine wp_go 1 (pc' := 74) (L' := [some (.ref l0), none]) (st' := [.int ((-1) : Int32), .int (zI M l0 0), .ref (zQ M l0 5)]) (M' := M) rfl ?_
  obtain ⟨hc, hp⟩ := hp
  refine wq_iast rfl hc ?_
  exact s127_75 n    l0 (zWI M (zQ M l0 5) (zI M l0 0).toNatClampNeg ((-1) : Int32)) hp hQ
def b127_55 (n : Nat)  (l0 : Nat) (M : zM) : Int32 × zM := b127_65 n  l0 (zWI M (zQ M l0 4) (zI M l0 0).toNatClampNeg ((-1) : Int32))
def p127_55 (n : Nat)  (l0 : Nat) (M : zM) : Prop := (zHasQ 10 20 l0 M 4) ∧ ((zHasI 10 148 l0 M 0) ∧ ((zOkT 1 (zQ M l0 4) (zI M l0 0) M) ∧ (p127_65 n  l0 (zWI M (zQ M l0 4) (zI M l0 0).toNatClampNeg ((-1) : Int32)))))
theorem s127_55 (n : Nat)    (l0 : Nat) (M : zM) (hp : p127_55 n  l0 M) {Q : Option Value → zM → Prop} (hQ : ∀ r M1, zRI (b127_55 n  l0 M) r M1 → Q r M1) : zWP 127 55 [some (.ref l0), none] [] M Q := by
  unfold b127_55 at hQ
  unfold p127_55 at hp
  refine wp_go 1 (pc' := 56) (L' := [some (.ref l0), none]) (st' := [.ref l0]) (M' := M) rfl ?_
  obtain ⟨hc, hp⟩ := hp
  refine wq_getQ (j := 4) rfl hc ?_
  refine wp_go 1 (pc' := 60) (L' := [some (.ref l0), none]) (st' := [.ref l0, .ref (zQ M l0 4)]) (M' := M) rfl ?_
  obtain ⟨hc, hp⟩ := hp
  refine wq_getI (j := 0) rfl hc ?_
  refine wp_go 1 (pc' := 64) (L' := [some (.ref l0), none]) (st' := [.int ((-1) : Int32), .int (zI M l0 0), .ref (zQ M l0 4)]) (M' := M) rfl ?_
  obtain ⟨hc, hp⟩ := hp
  refine wq_iast rfl hc ?_
  exact s127_65 n    l0 (zWI M (zQ M l0 4) (zI M l0 0).toNatClampNeg ((-1) : Int32)) hp hQ
def b127_45 (n : Nat)  (l0 : Nat) (M : zM) : Int32 × zM := b127_55 n  l0 (zWI M (zQ M l0 3) (zI M l0 0).toNatClampNeg (0 : Int32))
def p127_45 (n : Nat)  (l0 : Nat) (M : zM) : Prop := (zHasQ 10 16 l0 M 3) ∧ ((zHasI 10 148 l0 M 0) ∧ ((zOkT 2 (zQ M l0 3) (zI M l0 0) M ∧ zNar .boolean (0 : Int32) = true) ∧ (p127_55 n  l0 (zWI M (zQ M l0 3) (zI M l0 0).toNatClampNeg (0 : Int32)))))
theorem s127_45 (n : Nat)    (l0 : Nat) (M : zM) (hp : p127_45 n  l0 M) {Q : Option Value → zM → Prop} (hQ : ∀ r M1, zRI (b127_45 n  l0 M) r M1 → Q r M1) : zWP 127 45 [some (.ref l0), none] [] M Q := by
  unfold b127_45 at hQ
  unfold p127_45 at hp
  refine wp_go 1 (pc' := 46) (L' := [some (.ref l0), none]) (st' := [.ref l0]) (M' := M) rfl ?_
  obtain ⟨hc, hp⟩ := hp
  refine wq_getQ (j := 3) rfl hc ?_
  refine wp_go 1 (pc' := 50) (L' := [some (.ref l0), none]) (st' := [.ref l0, .ref (zQ M l0 3)]) (M' := M) rfl ?_
  obtain ⟨hc, hp⟩ := hp
  refine wq_getI (j := 0) rfl hc ?_
  refine wp_go 1 (pc' := 54) (L' := [some (.ref l0), none]) (st' := [.int (0 : Int32), .int (zI M l0 0), .ref (zQ M l0 3)]) (M' := M) rfl ?_
  obtain ⟨hc, hp⟩ := hp
  refine wq_zast rfl hc ?_
  exact s127_55 n    l0 (zWI M (zQ M l0 3) (zI M l0 0).toNatClampNeg (0 : Int32)) hp hQ
def b127_35 (n : Nat)  (l0 : Nat) (M : zM) : Int32 × zM := b127_45 n  l0 (zWI M (zQ M l0 2) (zI M l0 0).toNatClampNeg (0 : Int32))
def p127_35 (n : Nat)  (l0 : Nat) (M : zM) : Prop := (zHasQ 10 13 l0 M 2) ∧ ((zHasI 10 148 l0 M 0) ∧ ((zOkT 1 (zQ M l0 2) (zI M l0 0) M) ∧ (p127_45 n  l0 (zWI M (zQ M l0 2) (zI M l0 0).toNatClampNeg (0 : Int32)))))
theorem s127_35 (n : Nat)    (l0 : Nat) (M : zM) (hp : p127_35 n  l0 M) {Q : Option Value → zM → Prop} (hQ : ∀ r M1, zRI (b127_35 n  l0 M) r M1 → Q r M1) : zWP 127 35 [some (.ref l0), none] [] M Q := by
  unfold b127_35 at hQ
  unfold p127_35 at hp
  refine wp_go 1 (pc' := 36) (L' := [some (.ref l0), none]) (st' := [.ref l0]) (M' := M) rfl ?_
  obtain ⟨hc, hp⟩ := hp
  refine wq_getQ (j := 2) rfl hc ?_
  refine wp_go 1 (pc' := 40) (L' := [some (.ref l0), none]) (st' := [.ref l0, .ref (zQ M l0 2)]) (M' := M) rfl ?_
  obtain ⟨hc, hp⟩ := hp
  refine wq_getI (j := 0) rfl hc ?_
  refine wp_go 1 (pc' := 44) (L' := [some (.ref l0), none]) (st' := [.int (0 : Int32), .int (zI M l0 0), .ref (zQ M l0 2)]) (M' := M) rfl ?_
  obtain ⟨hc, hp⟩ := hp
  refine wq_iast rfl hc ?_
  exact s127_45 n    l0 (zWI M (zQ M l0 2) (zI M l0 0).toNatClampNeg (0 : Int32)) hp hQ
def b127_5 (n : Nat)  (l0 : Nat) (l1 : Int32) (M : zM) : Int32 × zM := (if l1 < 0 then b127_23 n  M else (if (5 : Int32) < l1 then b127_23 n  M else (if (zI M l0 0) = (12 : Int32) then b127_23 n  M else b127_35 n  l0 (zWI M (zQ M l0 1) (zI M l0 0).toNatClampNeg l1))))
def p127_5 (n : Nat)  (l0 : Nat) (l1 : Int32) (M : zM) : Prop := ((l1 < 0 → p127_23 n  M) ∧ (¬ l1 < 0 → (((5 : Int32) < l1 → p127_23 n  M) ∧ (¬ (5 : Int32) < l1 → (zHasI 10 148 l0 M 0) ∧ ((((zI M l0 0) = (12 : Int32) → p127_23 n  M) ∧ (¬ (zI M l0 0) = (12 : Int32) → (zHasQ 10 7 l0 M 1) ∧ ((zHasI 10 148 l0 M 0) ∧ ((zOkT 1 (zQ M l0 1) (zI M l0 0) M) ∧ (p127_35 n  l0 (zWI M (zQ M l0 1) (zI M l0 0).toNatClampNeg l1)))))))))))
theorem s127_5 (n : Nat)    (l0 : Nat) (l1 : Int32) (M : zM) (hp : p127_5 n  l0 l1 M) {Q : Option Value → zM → Prop} (hQ : ∀ r M1, zRI (b127_5 n  l0 l1 M) r M1 → Q r M1) : zWP 127 5 [some (.ref l0), some (.int l1)] [] M Q := by
  unfold b127_5 at hQ
  unfold p127_5 at hp
  refine wp_go 1 (pc' := 6) (L' := [some (.ref l0), some (.int l1)]) (st' := [.int l1]) (M' := M) rfl ?_
  refine wp_if_lt (t := 23) rfl rfl (fun hc => ?_) (fun hc => ?_)
  · rw [if_pos hc] at hQ
    replace hp := hp.1 hc
    refine wp_le [none, none] (zLe_of (by simp [zLeB])) ?_
    exact s127_23 n    M hp hQ
  · rw [if_neg hc] at hQ
    replace hp := hp.2 hc
    refine wp_go 2 (pc' := 11) (L' := [some (.ref l0), some (.int l1)]) (st' := [.int (5 : Int32), .int l1]) (M' := M) rfl ?_
    refine wp_ic_gt (t := 23) rfl rfl (fun hc => ?_) (fun hc => ?_)
    · rw [if_pos hc] at hQ
      replace hp := hp.1 hc
      refine wp_le [none, none] (zLe_of (by simp [zLeB])) ?_
      exact s127_23 n    M hp hQ
    · rw [if_neg hc] at hQ
      replace hp := hp.2 hc
      refine wp_go 1 (pc' := 15) (L' := [some (.ref l0), some (.int l1)]) (st' := [.ref l0]) (M' := M) rfl ?_
      obtain ⟨hc, hp⟩ := hp
      refine wq_getI (j := 0) rfl hc ?_
      refine wp_go 1 (pc' := 20) (L' := [some (.ref l0), some (.int l1)]) (st' := [.int (12 : Int32), .int (zI M l0 0)]) (M' := M) rfl ?_
      refine wp_ic_ne (t := 25) rfl rfl (fun hc => ?_) (fun hc => ?_)
      · rw [if_neg hc] at hQ
        replace hp := hp.2 hc
        refine wp_go 1 (pc' := 26) (L' := [some (.ref l0), some (.int l1)]) (st' := [.ref l0]) (M' := M) rfl ?_
        obtain ⟨hc, hp⟩ := hp
        refine wq_getQ (j := 1) rfl hc ?_
        refine wp_go 1 (pc' := 30) (L' := [some (.ref l0), some (.int l1)]) (st' := [.ref l0, .ref (zQ M l0 1)]) (M' := M) rfl ?_
        obtain ⟨hc, hp⟩ := hp
        refine wq_getI (j := 0) rfl hc ?_
        refine wp_go 1 (pc' := 34) (L' := [some (.ref l0), some (.int l1)]) (st' := [.int l1, .int (zI M l0 0), .ref (zQ M l0 1)]) (M' := M) rfl ?_
        obtain ⟨hc, hp⟩ := hp
        refine wq_iast rfl hc ?_
        refine wp_le [some (.ref l0), none] (zLe_of (by simp [zLeB])) ?_
        exact s127_35 n    l0 (zWI M (zQ M l0 1) (zI M l0 0).toNatClampNeg l1) hp hQ
      · rw [if_pos hc] at hQ
        replace hp := hp.1 hc
        refine wp_le [none, none] (zLe_of (by simp [zLeB])) ?_
        exact s127_23 n    M hp hQ
def b127_0 (n : Nat)  (l0 : Nat) (l1 : Int32) (M : zM) : Int32 × zM := b127_5 n  l0 l1 (zWI M l0 26 (0 : Int32))
def p127_0 (n : Nat)  (l0 : Nat) (l1 : Int32) (M : zM) : Prop := (zPutI 127 138 l0 M 26 (0 : Int32)) ∧ (p127_5 n  l0 l1 (zWI M l0 26 (0 : Int32)))
theorem s127_0 (n : Nat)    (l0 : Nat) (l1 : Int32) (M : zM) (hp : p127_0 n  l0 l1 M) {Q : Option Value → zM → Prop} (hQ : ∀ r M1, zRI (b127_0 n  l0 l1 M) r M1 → Q r M1) : zWP 127 0 [some (.ref l0), some (.int l1)] [] M Q := by
  unfold b127_0 at hQ
  unfold p127_0 at hp
  refine wp_go 2 (pc' := 2) (L' := [some (.ref l0), some (.int l1)]) (st' := [.int (0 : Int32), .ref l0]) (M' := M) rfl ?_
  obtain ⟨hc, hp⟩ := hp
  refine wq_putI (j := 26) rfl hc ?_
  exact s127_5 n    l0 l1 (zWI M l0 26 (0 : Int32)) hp hQ
/-! X12_step -/
def b128_54 (n : Nat)   (M : zM) : Int32 × zM := (((-1) : Int32), M)
def p128_54 (n : Nat)   (M : zM) : Prop := True
theorem s128_54 (n : Nat)     (M : zM) (hp : p128_54 n   M) {Q : Option Value → zM → Prop} (hQ : ∀ r M1, zRI (b128_54 n   M) r M1 → Q r M1) : zWP 128 54 [none, none, none, none, none] [] M Q := by
  unfold b128_54 at hQ
  unfold p128_54 at hp
  refine wp_go 1 (pc' := 55) (L' := [none, none, none, none, none]) (st' := [.int ((-1) : Int32)]) (M' := M) rfl ?_
  exact wp_ret (r := some (.int ((-1) : Int32))) rfl rfl (hQ _ _ ⟨rfl, rfl⟩)
def b128_119 (n : Nat)  (l0 : Nat) (l1 : Int32) (M : zM) : Int32 × zM := ((zI M (zQ M l0 2) l1.toNatClampNeg), M)
def p128_119 (n : Nat)  (l0 : Nat) (l1 : Int32) (M : zM) : Prop := (zHasQ 10 13 l0 M 2) ∧ ((zOkI (zQ M l0 2) l1 M) ∧ (True))
theorem s128_119 (n : Nat)    (l0 : Nat) (l1 : Int32) (M : zM) (hp : p128_119 n  l0 l1 M) {Q : Option Value → zM → Prop} (hQ : ∀ r M1, zRI (b128_119 n  l0 l1 M) r M1 → Q r M1) : zWP 128 119 [some (.ref l0), some (.int l1), none, none, none] [] M Q := by
  unfold b128_119 at hQ
  unfold p128_119 at hp
  refine wp_go 1 (pc' := 120) (L' := [some (.ref l0), some (.int l1), none, none, none]) (st' := [.ref l0]) (M' := M) rfl ?_
  obtain ⟨hc, hp⟩ := hp
  refine wq_getQ (j := 2) rfl hc ?_
  refine wp_go 1 (pc' := 124) (L' := [some (.ref l0), some (.int l1), none, none, none]) (st' := [.int l1, .ref (zQ M l0 2)]) (M' := M) rfl ?_
  obtain ⟨hc, hp⟩ := hp
  refine wq_iald rfl hc ?_
  exact wp_ret (r := some (.int (zI M (zQ M l0 2) l1.toNatClampNeg))) rfl rfl (hQ _ _ ⟨rfl, rfl⟩)
def b128_109 (n : Nat)  (l0 : Nat) (l1 : Int32) (M : zM) : Int32 × zM := b128_119 n  l0 l1 (zWI M (zQ M l0 2) l1.toNatClampNeg ((zI M (zQ M l0 2) l1.toNatClampNeg) + (1 : Int32)))
def p128_109 (n : Nat)  (l0 : Nat) (l1 : Int32) (M : zM) : Prop := (zHasQ 10 13 l0 M 2) ∧ ((zOkI (zQ M l0 2) l1 M) ∧ ((zOkT 1 (zQ M l0 2) l1 M) ∧ (p128_119 n  l0 l1 (zWI M (zQ M l0 2) l1.toNatClampNeg ((zI M (zQ M l0 2) l1.toNatClampNeg) + (1 : Int32))))))
theorem s128_109 (n : Nat)    (l0 : Nat) (l1 : Int32) (M : zM) (hp : p128_109 n  l0 l1 M) {Q : Option Value → zM → Prop} (hQ : ∀ r M1, zRI (b128_109 n  l0 l1 M) r M1 → Q r M1) : zWP 128 109 [some (.ref l0), some (.int l1), none, none, none] [] M Q := by
  unfold b128_109 at hQ
  unfold p128_109 at hp
  refine wp_go 1 (pc' := 110) (L' := [some (.ref l0), some (.int l1), none, none, none]) (st' := [.ref l0]) (M' := M) rfl ?_
  obtain ⟨hc, hp⟩ := hp
  refine wq_getQ (j := 2) rfl hc ?_
  refine wp_go 2 (pc' := 115) (L' := [some (.ref l0), some (.int l1), none, none, none]) (st' := [.int l1, .ref (zQ M l0 2), .int l1, .ref (zQ M l0 2)]) (M' := M) rfl ?_
  obtain ⟨hc, hp⟩ := hp
  refine wq_iald rfl hc ?_
  refine wp_go 2 (pc' := 118) (L' := [some (.ref l0), some (.int l1), none, none, none]) (st' := [.int ((zI M (zQ M l0 2) l1.toNatClampNeg) + (1 : Int32)), .int l1, .ref (zQ M l0 2)]) (M' := M) rfl ?_
  obtain ⟨hc, hp⟩ := hp
  refine wq_iast rfl hc ?_
  exact s128_119 n    l0 l1 (zWI M (zQ M l0 2) l1.toNatClampNeg ((zI M (zQ M l0 2) l1.toNatClampNeg) + (1 : Int32))) hp hQ
def b128_101 (n : Nat)  (l0 : Nat) (l1 : Int32) (l4 : Int32) (M : zM) : Int32 × zM := b128_109 n  l0 l1 (zWI M (zQ M l0 10) l4.toNatClampNeg ((-1) : Int32))
def p128_101 (n : Nat)  (l0 : Nat) (l1 : Int32) (l4 : Int32) (M : zM) : Prop := (zHasQ 10 38 l0 M 10) ∧ ((zOkT 1 (zQ M l0 10) l4 M) ∧ (p128_109 n  l0 l1 (zWI M (zQ M l0 10) l4.toNatClampNeg ((-1) : Int32))))
theorem s128_101 (n : Nat)    (l0 : Nat) (l1 : Int32) (l4 : Int32) (M : zM) (hp : p128_101 n  l0 l1 l4 M) {Q : Option Value → zM → Prop} (hQ : ∀ r M1, zRI (b128_101 n  l0 l1 l4 M) r M1 → Q r M1) : zWP 128 101 [some (.ref l0), some (.int l1), none, none, some (.int l4)] [] M Q := by
  unfold b128_101 at hQ
  unfold p128_101 at hp
  refine wp_go 1 (pc' := 102) (L' := [some (.ref l0), some (.int l1), none, none, some (.int l4)]) (st' := [.ref l0]) (M' := M) rfl ?_
  obtain ⟨hc, hp⟩ := hp
  refine wq_getQ (j := 10) rfl hc ?_
  refine wp_go 2 (pc' := 108) (L' := [some (.ref l0), some (.int l1), none, none, some (.int l4)]) (st' := [.int ((-1) : Int32), .int l4, .ref (zQ M l0 10)]) (M' := M) rfl ?_
  obtain ⟨hc, hp⟩ := hp
  refine wq_iast rfl hc ?_
  refine wp_le [some (.ref l0), some (.int l1), none, none, none] (zLe_of (by simp [zLeB])) ?_
  exact s128_109 n    l0 l1 (zWI M (zQ M l0 10) l4.toNatClampNeg ((-1) : Int32)) hp hQ
def b128_93 (n : Nat)  (l0 : Nat) (l1 : Int32) (l4 : Int32) (M : zM) : Int32 × zM := b128_101 n  l0 l1 l4 (zWI M (zQ M l0 9) l4.toNatClampNeg (0 : Int32))
def p128_93 (n : Nat)  (l0 : Nat) (l1 : Int32) (l4 : Int32) (M : zM) : Prop := (zHasQ 10 35 l0 M 9) ∧ ((zOkT 1 (zQ M l0 9) l4 M) ∧ (p128_101 n  l0 l1 l4 (zWI M (zQ M l0 9) l4.toNatClampNeg (0 : Int32))))
theorem s128_93 (n : Nat)    (l0 : Nat) (l1 : Int32) (l4 : Int32) (M : zM) (hp : p128_93 n  l0 l1 l4 M) {Q : Option Value → zM → Prop} (hQ : ∀ r M1, zRI (b128_93 n  l0 l1 l4 M) r M1 → Q r M1) : zWP 128 93 [some (.ref l0), some (.int l1), none, none, some (.int l4)] [] M Q := by
  unfold b128_93 at hQ
  unfold p128_93 at hp
  refine wp_go 1 (pc' := 94) (L' := [some (.ref l0), some (.int l1), none, none, some (.int l4)]) (st' := [.ref l0]) (M' := M) rfl ?_
  obtain ⟨hc, hp⟩ := hp
  refine wq_getQ (j := 9) rfl hc ?_
  refine wp_go 2 (pc' := 100) (L' := [some (.ref l0), some (.int l1), none, none, some (.int l4)]) (st' := [.int (0 : Int32), .int l4, .ref (zQ M l0 9)]) (M' := M) rfl ?_
  obtain ⟨hc, hp⟩ := hp
  refine wq_iast rfl hc ?_
  exact s128_101 n    l0 l1 l4 (zWI M (zQ M l0 9) l4.toNatClampNeg (0 : Int32)) hp hQ
def b128_85 (n : Nat)  (l0 : Nat) (l1 : Int32) (l4 : Int32) (M : zM) : Int32 × zM := b128_93 n  l0 l1 l4 (zWI M (zQ M l0 8) l4.toNatClampNeg (0 : Int32))
def p128_85 (n : Nat)  (l0 : Nat) (l1 : Int32) (l4 : Int32) (M : zM) : Prop := (zHasQ 10 32 l0 M 8) ∧ ((zOkT 2 (zQ M l0 8) l4 M ∧ zNar .boolean (0 : Int32) = true) ∧ (p128_93 n  l0 l1 l4 (zWI M (zQ M l0 8) l4.toNatClampNeg (0 : Int32))))
theorem s128_85 (n : Nat)    (l0 : Nat) (l1 : Int32) (l4 : Int32) (M : zM) (hp : p128_85 n  l0 l1 l4 M) {Q : Option Value → zM → Prop} (hQ : ∀ r M1, zRI (b128_85 n  l0 l1 l4 M) r M1 → Q r M1) : zWP 128 85 [some (.ref l0), some (.int l1), none, none, some (.int l4)] [] M Q := by
  unfold b128_85 at hQ
  unfold p128_85 at hp
  refine wp_go 1 (pc' := 86) (L' := [some (.ref l0), some (.int l1), none, none, some (.int l4)]) (st' := [.ref l0]) (M' := M) rfl ?_
  obtain ⟨hc, hp⟩ := hp
  refine wq_getQ (j := 8) rfl hc ?_
  refine wp_go 2 (pc' := 92) (L' := [some (.ref l0), some (.int l1), none, none, some (.int l4)]) (st' := [.int (0 : Int32), .int l4, .ref (zQ M l0 8)]) (M' := M) rfl ?_
  obtain ⟨hc, hp⟩ := hp
  refine wq_zast rfl hc ?_
  exact s128_93 n    l0 l1 l4 (zWI M (zQ M l0 8) l4.toNatClampNeg (0 : Int32)) hp hQ
def b128_77 (n : Nat)  (l0 : Nat) (l1 : Int32) (l3 : Int32) (l4 : Int32) (M : zM) : Int32 × zM := b128_85 n  l0 l1 l4 (zWI M (zQ M l0 7) l4.toNatClampNeg l3)
def p128_77 (n : Nat)  (l0 : Nat) (l1 : Int32) (l3 : Int32) (l4 : Int32) (M : zM) : Prop := (zHasQ 10 29 l0 M 7) ∧ ((zOkT 1 (zQ M l0 7) l4 M) ∧ (p128_85 n  l0 l1 l4 (zWI M (zQ M l0 7) l4.toNatClampNeg l3)))
theorem s128_77 (n : Nat)    (l0 : Nat) (l1 : Int32) (l3 : Int32) (l4 : Int32) (M : zM) (hp : p128_77 n  l0 l1 l3 l4 M) {Q : Option Value → zM → Prop} (hQ : ∀ r M1, zRI (b128_77 n  l0 l1 l3 l4 M) r M1 → Q r M1) : zWP 128 77 [some (.ref l0), some (.int l1), none, some (.int l3), some (.int l4)] [] M Q := by
  unfold b128_77 at hQ
  unfold p128_77 at hp
  refine wp_go 1 (pc' := 78) (L' := [some (.ref l0), some (.int l1), none, some (.int l3), some (.int l4)]) (st' := [.ref l0]) (M' := M) rfl ?_
  obtain ⟨hc, hp⟩ := hp
  refine wq_getQ (j := 7) rfl hc ?_
  refine wp_go 2 (pc' := 84) (L' := [some (.ref l0), some (.int l1), none, some (.int l3), some (.int l4)]) (st' := [.int l3, .int l4, .ref (zQ M l0 7)]) (M' := M) rfl ?_
  obtain ⟨hc, hp⟩ := hp
  refine wq_iast rfl hc ?_
  refine wp_le [some (.ref l0), some (.int l1), none, none, some (.int l4)] (zLe_of (by simp [zLeB])) ?_
  exact s128_85 n    l0 l1 l4 (zWI M (zQ M l0 7) l4.toNatClampNeg l3) hp hQ
def b128_10 (n : Nat)  (l0 : Nat) (l1 : Int32) (l2 : Int32) (l3 : Int32) (s0 : Int32) (M : zM) : Int32 × zM := (if s0 = 0 then b128_54 n  M else (if l2 < 0 then b128_54 n  M else (if (23 : Int32) < l2 then b128_54 n  M else (if l3 < (1 : Int32) then b128_54 n  M else (if (12 : Int32) < l3 then b128_54 n  M else (if (zI M (zQ M l0 3) l1.toNatClampNeg) = 0 then (if (zI M (zQ M l0 2) l1.toNatClampNeg) = (20 : Int32) then b128_54 n  M else b128_77 n  l0 l1 l3 (((20 : Int32) * l1) + (zI M (zQ M l0 2) l1.toNatClampNeg)) (zWI M (zQ M l0 6) (((20 : Int32) * l1) + (zI M (zQ M l0 2) l1.toNatClampNeg)).toNatClampNeg l2)) else b128_54 n  M))))))
def p128_10 (n : Nat)  (l0 : Nat) (l1 : Int32) (l2 : Int32) (l3 : Int32) (s0 : Int32) (M : zM) : Prop := ((s0 = 0 → p128_54 n  M) ∧ (¬ s0 = 0 → ((l2 < 0 → p128_54 n  M) ∧ (¬ l2 < 0 → (((23 : Int32) < l2 → p128_54 n  M) ∧ (¬ (23 : Int32) < l2 → ((l3 < (1 : Int32) → p128_54 n  M) ∧ (¬ l3 < (1 : Int32) → (((12 : Int32) < l3 → p128_54 n  M) ∧ (¬ (12 : Int32) < l3 → (zHasQ 10 16 l0 M 3) ∧ ((zOkT 2 (zQ M l0 3) l1 M) ∧ ((((zI M (zQ M l0 3) l1.toNatClampNeg) = 0 → (zHasQ 10 13 l0 M 2) ∧ ((zOkI (zQ M l0 2) l1 M) ∧ ((((zI M (zQ M l0 2) l1.toNatClampNeg) = (20 : Int32) → p128_54 n  M) ∧ (¬ (zI M (zQ M l0 2) l1.toNatClampNeg) = (20 : Int32) → (zHasQ 10 13 l0 M 2) ∧ ((zOkI (zQ M l0 2) l1 M) ∧ ((zHasQ 10 26 l0 M 6) ∧ ((zOkT 1 (zQ M l0 6) (((20 : Int32) * l1) + (zI M (zQ M l0 2) l1.toNatClampNeg)) M) ∧ (p128_77 n  l0 l1 l3 (((20 : Int32) * l1) + (zI M (zQ M l0 2) l1.toNatClampNeg)) (zWI M (zQ M l0 6) (((20 : Int32) * l1) + (zI M (zQ M l0 2) l1.toNatClampNeg)).toNatClampNeg l2)))))))))) ∧ (¬ (zI M (zQ M l0 3) l1.toNatClampNeg) = 0 → p128_54 n  M))))))))))))))
theorem s128_10 (n : Nat)    (l0 : Nat) (l1 : Int32) (l2 : Int32) (l3 : Int32) (s0 : Int32) (M : zM) (hp : p128_10 n  l0 l1 l2 l3 s0 M) {Q : Option Value → zM → Prop} (hQ : ∀ r M1, zRI (b128_10 n  l0 l1 l2 l3 s0 M) r M1 → Q r M1) : zWP 128 10 [some (.ref l0), some (.int l1), some (.int l2), some (.int l3), none] [.int s0] M Q := by
  unfold b128_10 at hQ
  unfold p128_10 at hp
  refine wp_if_eq (t := 54) rfl rfl (fun hc => ?_) (fun hc => ?_)
  · rw [if_pos hc] at hQ
    replace hp := hp.1 hc
    refine wp_le [none, none, none, none, none] (zLe_of (by simp [zLeB])) ?_
    exact s128_54 n    M hp hQ
  · rw [if_neg hc] at hQ
    replace hp := hp.2 hc
    refine wp_go 1 (pc' := 14) (L' := [some (.ref l0), some (.int l1), some (.int l2), some (.int l3), none]) (st' := [.int l2]) (M' := M) rfl ?_
    refine wp_if_lt (t := 54) rfl rfl (fun hc => ?_) (fun hc => ?_)
    · rw [if_pos hc] at hQ
      replace hp := hp.1 hc
      refine wp_le [none, none, none, none, none] (zLe_of (by simp [zLeB])) ?_
      exact s128_54 n    M hp hQ
    · rw [if_neg hc] at hQ
      replace hp := hp.2 hc
      refine wp_go 2 (pc' := 20) (L' := [some (.ref l0), some (.int l1), some (.int l2), some (.int l3), none]) (st' := [.int (23 : Int32), .int l2]) (M' := M) rfl ?_
      refine wp_ic_gt (t := 54) rfl rfl (fun hc => ?_) (fun hc => ?_)
      · rw [if_pos hc] at hQ
        replace hp := hp.1 hc
        refine wp_le [none, none, none, none, none] (zLe_of (by simp [zLeB])) ?_
        exact s128_54 n    M hp hQ
      · rw [if_neg hc] at hQ
        replace hp := hp.2 hc
        refine wp_go 2 (pc' := 25) (L' := [some (.ref l0), some (.int l1), some (.int l2), some (.int l3), none]) (st' := [.int (1 : Int32), .int l3]) (M' := M) rfl ?_
        refine wp_ic_lt (t := 54) rfl rfl (fun hc => ?_) (fun hc => ?_)
        · rw [if_pos hc] at hQ
          replace hp := hp.1 hc
          refine wp_le [none, none, none, none, none] (zLe_of (by simp [zLeB])) ?_
          exact s128_54 n    M hp hQ
        · rw [if_neg hc] at hQ
          replace hp := hp.2 hc
          refine wp_go 2 (pc' := 31) (L' := [some (.ref l0), some (.int l1), some (.int l2), some (.int l3), none]) (st' := [.int (12 : Int32), .int l3]) (M' := M) rfl ?_
          refine wp_ic_gt (t := 54) rfl rfl (fun hc => ?_) (fun hc => ?_)
          · rw [if_pos hc] at hQ
            replace hp := hp.1 hc
            refine wp_le [none, none, none, none, none] (zLe_of (by simp [zLeB])) ?_
            exact s128_54 n    M hp hQ
          · rw [if_neg hc] at hQ
            replace hp := hp.2 hc
            refine wp_go 1 (pc' := 35) (L' := [some (.ref l0), some (.int l1), some (.int l2), some (.int l3), none]) (st' := [.ref l0]) (M' := M) rfl ?_
            obtain ⟨hc, hp⟩ := hp
            refine wq_getQ (j := 3) rfl hc ?_
            refine wp_go 1 (pc' := 39) (L' := [some (.ref l0), some (.int l1), some (.int l2), some (.int l3), none]) (st' := [.int l1, .ref (zQ M l0 3)]) (M' := M) rfl ?_
            obtain ⟨hc, hp⟩ := hp
            refine wq_zald rfl hc ?_
            refine wp_if_ne (t := 54) rfl rfl (fun hc => ?_) (fun hc => ?_)
            · rw [if_neg hc] at hQ
              replace hp := hp.2 hc
              refine wp_le [none, none, none, none, none] (zLe_of (by simp [zLeB])) ?_
              exact s128_54 n    M hp hQ
            · rw [if_pos hc] at hQ
              replace hp := hp.1 hc
              refine wp_go 1 (pc' := 44) (L' := [some (.ref l0), some (.int l1), some (.int l2), some (.int l3), none]) (st' := [.ref l0]) (M' := M) rfl ?_
              obtain ⟨hc, hp⟩ := hp
              refine wq_getQ (j := 2) rfl hc ?_
              refine wp_go 1 (pc' := 48) (L' := [some (.ref l0), some (.int l1), some (.int l2), some (.int l3), none]) (st' := [.int l1, .ref (zQ M l0 2)]) (M' := M) rfl ?_
              obtain ⟨hc, hp⟩ := hp
              refine wq_iald rfl hc ?_
              refine wp_go 1 (pc' := 51) (L' := [some (.ref l0), some (.int l1), some (.int l2), some (.int l3), none]) (st' := [.int (20 : Int32), .int (zI M (zQ M l0 2) l1.toNatClampNeg)]) (M' := M) rfl ?_
              refine wp_ic_ne (t := 56) rfl rfl (fun hc => ?_) (fun hc => ?_)
              · rw [if_neg hc] at hQ
                replace hp := hp.2 hc
                refine wp_go 4 (pc' := 61) (L' := [some (.ref l0), some (.int l1), some (.int l2), some (.int l3), none]) (st' := [.ref l0, .int ((20 : Int32) * l1)]) (M' := M) rfl ?_
                obtain ⟨hc, hp⟩ := hp
                refine wq_getQ (j := 2) rfl hc ?_
                refine wp_go 1 (pc' := 65) (L' := [some (.ref l0), some (.int l1), some (.int l2), some (.int l3), none]) (st' := [.int l1, .ref (zQ M l0 2), .int ((20 : Int32) * l1)]) (M' := M) rfl ?_
                obtain ⟨hc, hp⟩ := hp
                refine wq_iald rfl hc ?_
                refine wp_go 3 (pc' := 70) (L' := [some (.ref l0), some (.int l1), some (.int l2), some (.int l3), some (.int (((20 : Int32) * l1) + (zI M (zQ M l0 2) l1.toNatClampNeg)))]) (st' := [.ref l0]) (M' := M) rfl ?_
                obtain ⟨hc, hp⟩ := hp
                refine wq_getQ (j := 6) rfl hc ?_
                refine wp_go 2 (pc' := 76) (L' := [some (.ref l0), some (.int l1), some (.int l2), some (.int l3), some (.int (((20 : Int32) * l1) + (zI M (zQ M l0 2) l1.toNatClampNeg)))]) (st' := [.int l2, .int (((20 : Int32) * l1) + (zI M (zQ M l0 2) l1.toNatClampNeg)), .ref (zQ M l0 6)]) (M' := M) rfl ?_
                obtain ⟨hc, hp⟩ := hp
                refine wq_iast rfl hc ?_
                refine wp_le [some (.ref l0), some (.int l1), none, some (.int l3), some (.int (((20 : Int32) * l1) + (zI M (zQ M l0 2) l1.toNatClampNeg)))] (zLe_of (by simp [zLeB])) ?_
                exact s128_77 n    l0 l1 l3 (((20 : Int32) * l1) + (zI M (zQ M l0 2) l1.toNatClampNeg)) (zWI M (zQ M l0 6) (((20 : Int32) * l1) + (zI M (zQ M l0 2) l1.toNatClampNeg)).toNatClampNeg l2) hp hQ
              · rw [if_pos hc] at hQ
                replace hp := hp.1 hc
                refine wp_le [none, none, none, none, none] (zLe_of (by simp [zLeB])) ?_
                exact s128_54 n    M hp hQ
def b128_5 (n : Nat)  (l0 : Nat) (l1 : Int32) (l2 : Int32) (l3 : Int32) (M : zM) : Int32 × zM := b128_10 n  l0 l1 l2 l3 (b126_0 n l0 l1 M).1 (b126_0 n l0 l1 M).2
def p128_5 (n : Nat)  (l0 : Nat) (l1 : Int32) (l2 : Int32) (l3 : Int32) (M : zM) : Prop := (zHasC 128 151 l0 M 126 1) ∧ ((p126_0 n l0 l1 M) ∧ (p128_10 n  l0 l1 l2 l3 (b126_0 n l0 l1 M).1 (b126_0 n l0 l1 M).2))
theorem s128_5 (n : Nat)    (l0 : Nat) (l1 : Int32) (l2 : Int32) (l3 : Int32) (M : zM) (hp : p128_5 n  l0 l1 l2 l3 M) {Q : Option Value → zM → Prop} (hQ : ∀ r M1, zRI (b128_5 n  l0 l1 l2 l3 M) r M1 → Q r M1) : zWP 128 5 [some (.ref l0), some (.int l1), some (.int l2), some (.int l3), none] [] M Q := by
  unfold b128_5 at hQ
  unfold p128_5 at hp
  refine wp_go 2 (pc' := 7) (L' := [some (.ref l0), some (.int l1), some (.int l2), some (.int l3), none]) (st' := [.int l1, .ref l0]) (M' := M) rfl ?_
  obtain ⟨hv, hp⟩ := hp
  obtain ⟨hc, hp⟩ := hp
  refine wp_calli (v := (b126_0 n l0 l1 M).1) (M1 := (b126_0 n l0 l1 M).2) rfl rfl rfl (zInv_v (np := 1) rfl rfl hv rfl) (s126_0 n l0 l1 M hc (fun r M1 h => h)) ?_
  exact s128_10 n    l0 l1 l2 l3 (b126_0 n l0 l1 M).1 (b126_0 n l0 l1 M).2 hp hQ
def b128_0 (n : Nat)  (l0 : Nat) (l1 : Int32) (l2 : Int32) (l3 : Int32) (M : zM) : Int32 × zM := b128_5 n  l0 l1 l2 l3 (zWI M l0 26 (0 : Int32))
def p128_0 (n : Nat)  (l0 : Nat) (l1 : Int32) (l2 : Int32) (l3 : Int32) (M : zM) : Prop := (zPutI 128 138 l0 M 26 (0 : Int32)) ∧ (p128_5 n  l0 l1 l2 l3 (zWI M l0 26 (0 : Int32)))
theorem s128_0 (n : Nat)    (l0 : Nat) (l1 : Int32) (l2 : Int32) (l3 : Int32) (M : zM) (hp : p128_0 n  l0 l1 l2 l3 M) {Q : Option Value → zM → Prop} (hQ : ∀ r M1, zRI (b128_0 n  l0 l1 l2 l3 M) r M1 → Q r M1) : zWP 128 0 [some (.ref l0), some (.int l1), some (.int l2), some (.int l3), none] [] M Q := by
  unfold b128_0 at hQ
  unfold p128_0 at hp
  refine wp_go 2 (pc' := 2) (L' := [some (.ref l0), some (.int l1), some (.int l2), some (.int l3), none]) (st' := [.int (0 : Int32), .ref l0]) (M' := M) rfl ?_
  obtain ⟨hc, hp⟩ := hp
  refine wq_putI (j := 26) rfl hc ?_
  exact s128_5 n    l0 l1 l2 l3 (zWI M l0 26 (0 : Int32)) hp hQ
