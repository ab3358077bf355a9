def zRI (X : Int32 × zM) (r : Option Value) (M1 : zM) : Prop := r = some (.int X.1) ∧ M1 = X.2
def zRJ (X : Int64 × zM) (r : Option Value) (M1 : zM) : Prop := r = some (.long X.1) ∧ M1 = X.2
def zRV (X : zM) (r : Option Value) (M1 : zM) : Prop := r = none ∧ M1 = X
theorem wp_retz {y pc : Nat} {L : List (Option Value)} {M : zM} {Q : Option Value → zM → Prop} {v : Int32} (hi : zIns y pc = some (.ireturn, 1)) (hr : zR y = some .boolean) (hn : zNar .boolean v = true) (hq : Q (some (.int v)) M) : zWP y pc L [.int v] M Q :=
  wp_ret hi (by simp only [zRet, hr, hn, if_true]) hq
theorem wp_tabI {y pc len t : Nat} {L : List (Option Value)} {st : List Value} {M : zM} {Q : Option Value → zM → Prop} {d lo hi9 : Int} {offs : Array Int} {x c : Int32} (hi : zIns y pc = some (.tableswitch d lo hi9 offs, len)) (hx : x = c) (ht : zTab d lo hi9 offs pc [.int c] = some (t, [])) (h : zWP y t L st M Q) : zWP y pc L (.int x :: st) M Q := by
  subst hx
  refine wp_step hi rfl rfl rfl rfl ?_ h
  simp only [zStep]
  unfold zTab at ht ⊢
  simp only at ht ⊢
  split at ht
  · rename_i h1
    rw [if_pos h1]
    obtain ⟨q, hq, he⟩ := Option.map_eq_some_iff.mp ht
    rw [hq]
    cases he
    rfl
  · rename_i h1
    rw [if_neg h1]
    split at ht
    · rename_i off ho
      obtain ⟨q, hq, he⟩ := Option.map_eq_some_iff.mp ht
      simp only [hq]
      cases he
      rfl
    · cases ht
theorem wp_tabO {y pc len t : Nat} {L : List (Option Value)} {st : List Value} {M : zM} {Q : Option Value → zM → Prop} {d lo hi9 : Int} {offs : Array Int} {x : Int32} (hi : zIns y pc = some (.tableswitch d lo hi9 offs, len)) (hx : x.toInt < lo ∨ hi9 < x.toInt) (ht : zJmp pc d = some t) (h : zWP y t L st M Q) : zWP y pc L (.int x :: st) M Q := by
  refine wp_step hi rfl rfl rfl rfl ?_ h
  simp only [zStep, zTab]
  rw [if_pos hx, ht]
  rfl

/-! J7_fill_53178 -/
def b195_14 (n : Nat) (k5 : Nat → Int32 → Int32 → Int32 → zM → zM) (l0 : Nat) (l1 : Int32) (l2 : Int32) (l3 : Int32) (M : zM) : zM := k5 l0 l1 (l2 + Int32.ofInt 1) l3 M
def p195_14 (n : Nat) (q5 : Nat → Int32 → Int32 → Int32 → zM → Prop) (l0 : Nat) (l1 : Int32) (l2 : Int32) (l3 : Int32) (M : zM) : Prop := q5 l0 l1 (l2 + Int32.ofInt 1) l3 M
theorem s195_14 (n : Nat) (k5 : Nat → Int32 → Int32 → Int32 → zM → zM) (q5 : Nat → Int32 → Int32 → Int32 → zM → Prop) (h5 : ∀ (l0 : Nat) (l1 : Int32) (l2 : Int32) (l3 : Int32) (M : zM), q5 l0 l1 l2 l3 M → ∀ {Q : Option Value → zM → Prop}, (∀ r M1, zRV (k5 l0 l1 l2 l3 M) r M1 → Q r M1) → zWP 195 5 [some (.ref l0), some (.int l1), some (.int l2), some (.int l3)] [] M Q) (l0 : Nat) (l1 : Int32) (l2 : Int32) (l3 : Int32) (M : zM) (hp : p195_14 n q5 l0 l1 l2 l3 M) {Q : Option Value → zM → Prop} (hQ : ∀ r M1, zRV (b195_14 n k5 l0 l1 l2 l3 M) r M1 → Q r M1) : zWP 195 14 [some (.ref l0), some (.int l1), some (.int l2), some (.int l3)] [] M Q := by
  unfold b195_14 at hQ
  unfold p195_14 at hp
  refine wp_go 2 (pc' := 5) (L' := [some (.ref l0), some (.int l1), some (.int (l2 + Int32.ofInt 1)), some (.int l3)]) (st' := []) (M' := M) rfl ?_
  exact h5 l0 l1 (l2 + Int32.ofInt 1) l3 M hp hQ
def c195_5 (n : Nat) (k5 : Nat → Int32 → Int32 → Int32 → zM → zM) (l0 : Nat) (l1 : Int32) (l2 : Int32) (l3 : Int32) (M : zM) : zM := (if l3 ≤ l2 then M else b195_14 n k5 l0 l1 l2 l3 (zWI M l0 l2.toNatClampNeg l1))
def d195_5 (n : Nat) (q5 : Nat → Int32 → Int32 → Int32 → zM → Prop) (l0 : Nat) (l1 : Int32) (l2 : Int32) (l3 : Int32) (M : zM) : Prop := ((l3 ≤ l2 → True) ∧ (¬ l3 ≤ l2 → (zOkT 1 l0 l2 M) ∧ (p195_14 n q5 l0 l1 l2 l3 (zWI M l0 l2.toNatClampNeg l1))))
theorem t195_5 (n : Nat) (k5 : Nat → Int32 → Int32 → Int32 → zM → zM) (q5 : Nat → Int32 → Int32 → Int32 → zM → Prop) (h5 : ∀ (l0 : Nat) (l1 : Int32) (l2 : Int32) (l3 : Int32) (M : zM), q5 l0 l1 l2 l3 M → ∀ {Q : Option Value → zM → Prop}, (∀ r M1, zRV (k5 l0 l1 l2 l3 M) r M1 → Q r M1) → zWP 195 5 [some (.ref l0), some (.int l1), some (.int l2), some (.int l3)] [] M Q) (l0 : Nat) (l1 : Int32) (l2 : Int32) (l3 : Int32) (M : zM) (hp : d195_5 n q5 l0 l1 l2 l3 M) {Q : Option Value → zM → Prop} (hQ : ∀ r M1, zRV (c195_5 n k5 l0 l1 l2 l3 M) r M1 → Q r M1) : zWP 195 5 [some (.ref l0), some (.int l1), some (.int l2), some (.int l3)] [] M Q := by
  unfold c195_5 at hQ
  unfold d195_5 at hp
  refine wp_go 2 (pc' := 7) (L' := [some (.ref l0), some (.int l1), some (.int l2), some (.int l3)]) (st' := [.int l3, .int l2]) (M' := M) rfl ?_
  refine wp_ic_ge (t := 20) rfl rfl (fun hc => ?_) (fun hc => ?_)
  · rw [if_pos hc] at hQ
    replace hp := hp.1 hc
    exact wp_ret (r := none) rfl rfl (hQ _ _ ⟨rfl, rfl⟩)
  · rw [if_neg hc] at hQ
    replace hp := hp.2 hc
    refine wp_go 3 (pc' := 13) (L' := [some (.ref l0), some (.int l1), some (.int l2), some (.int l3)]) (st' := [.int l1, .int l2, .ref l0]) (M' := M) rfl ?_
    obtain ⟨hc, hp⟩ := hp
    refine wq_iast rfl hc ?_
    exact s195_14 n k5 q5 h5 l0 l1 l2 l3 (zWI M l0 l2.toNatClampNeg l1) hp hQ
def b195_5 (n : Nat)  : Nat → Nat → Int32 → Int32 → Int32 → zM → zM
  | 0, _, _, _, _, M => M
  | k + 1, l0, l1, l2, l3, M => c195_5 n  (b195_5 n  k) l0 l1 l2 l3 M
def p195_5 (n : Nat)  : Nat → Nat → Int32 → Int32 → Int32 → zM → Prop
  | 0, _, _, _, _, _ => False
  | k + 1, l0, l1, l2, l3, M => d195_5 n  (p195_5 n  k) l0 l1 l2 l3 M
theorem s195_5 (n : Nat)    : ∀ (k : Nat) (l0 : Nat) (l1 : Int32) (l2 : Int32) (l3 : Int32) (M : zM), p195_5 n  k l0 l1 l2 l3 M → ∀ {Q : Option Value → zM → Prop}, (∀ r M1, zRV (b195_5 n  k l0 l1 l2 l3 M) r M1 → Q r M1) → zWP 195 5 [some (.ref l0), some (.int l1), some (.int l2), some (.int l3)] [] M Q
  | 0, _, _, _, _, _, h, _, _ => h.elim
  | k + 1, l0, l1, l2, l3, M, h, _, hQ => t195_5 n  (b195_5 n  k)  (p195_5 n  k)  (s195_5 n    k) l0 l1 l2 l3 M h hQ
def b195_0 (n : Nat)  (l0 : Nat) (l1 : Int32) (M : zM) : zM := b195_5 n  n l0 l1 (0 : Int32) (Int32.ofNat (zS M l0).2) M
def p195_0 (n : Nat)  (l0 : Nat) (l1 : Int32) (M : zM) : Prop := (zOkN l0 M) ∧ (p195_5 n  n l0 l1 (0 : Int32) (Int32.ofNat (zS M l0).2) M)
theorem s195_0 (n : Nat)    (l0 : Nat) (l1 : Int32) (M : zM) (hp : p195_0 n  l0 l1 M) {Q : Option Value → zM → Prop} (hQ : ∀ r M1, zRV (b195_0 n  l0 l1 M) r M1 → Q r M1) : zWP 195 0 [some (.ref l0), some (.int l1), none, none] [] M Q := by
  unfold b195_0 at hQ
  unfold p195_0 at hp
  refine wp_go 3 (pc' := 3) (L' := [some (.ref l0), some (.int l1), some (.int (0 : Int32)), none]) (st' := [.ref l0]) (M' := M) rfl ?_
  obtain ⟨hc, hp⟩ := hp
  refine wq_alen rfl hc ?_
  refine wp_go 1 (pc' := 5) (L' := [some (.ref l0), some (.int l1), some (.int (0 : Int32)), some (.int (Int32.ofNat (zS M l0).2))]) (st' := []) (M' := M) rfl ?_
  exact s195_5 n    n l0 l1 (0 : Int32) (Int32.ofNat (zS M l0).2) M hp hQ
/-! X0_clear -/
def b1_24 (n : Nat)   (M : zM) : zM := M
def p1_24 (n : Nat)   (M : zM) : Prop := True
theorem s1_24 (n : Nat)     (M : zM) (hp : p1_24 n   M) {Q : Option Value → zM → Prop} (hQ : ∀ r M1, zRV (b1_24 n   M) r M1 → Q r M1) : zWP 1 24 [none] [] M Q := by
  unfold b1_24 at hQ
  unfold p1_24 at hp
  exact wp_ret (r := none) rfl rfl (hQ _ _ ⟨rfl, rfl⟩)
def b1_16 (n : Nat)  (l0 : Nat) (M : zM) : zM := b1_24 n  (b195_0 n (zQ M l0 2) ((-1) : Int32) M)
def p1_16 (n : Nat)  (l0 : Nat) (M : zM) : Prop := (zHasQ 0 18 l0 M 2) ∧ ((p195_0 n (zQ M l0 2) ((-1) : Int32) M) ∧ (p1_24 n  (b195_0 n (zQ M l0 2) ((-1) : Int32) M)))
theorem s1_16 (n : Nat)    (l0 : Nat) (M : zM) (hp : p1_16 n  l0 M) {Q : Option Value → zM → Prop} (hQ : ∀ r M1, zRV (b1_16 n  l0 M) r M1 → Q r M1) : zWP 1 16 [some (.ref l0)] [] M Q := by
  unfold b1_16 at hQ
  unfold p1_16 at hp
  refine wp_go 1 (pc' := 17) (L' := [some (.ref l0)]) (st' := [.ref l0]) (M' := M) rfl ?_
  obtain ⟨hc, hp⟩ := hp
  refine wq_getQ (j := 2) rfl hc ?_
  refine wp_go 1 (pc' := 21) (L' := [some (.ref l0)]) (st' := [.int ((-1) : Int32), .ref (zQ M l0 2)]) (M' := M) rfl ?_
  obtain ⟨hc, hp⟩ := hp
  refine wp_callv (M1 := (b195_0 n (zQ M l0 2) ((-1) : Int32) M)) rfl rfl rfl rfl (s195_0 n (zQ M l0 2) ((-1) : Int32) M hc (fun r M1 h => h)) ?_
  refine wp_le [none] (zLe_of (by simp [zLeB])) ?_
  exact s1_24 n    (b195_0 n (zQ M l0 2) ((-1) : Int32) M) hp hQ
def b1_8 (n : Nat)  (l0 : Nat) (M : zM) : zM := b1_16 n  l0 (b195_0 n (zQ M l0 1) (0 : Int32) M)
def p1_8 (n : Nat)  (l0 : Nat) (M : zM) : Prop := (zHasQ 0 15 l0 M 1) ∧ ((p195_0 n (zQ M l0 1) (0 : Int32) M) ∧ (p1_16 n  l0 (b195_0 n (zQ M l0 1) (0 : Int32) M)))
theorem s1_8 (n : Nat)    (l0 : Nat) (M : zM) (hp : p1_8 n  l0 M) {Q : Option Value → zM → Prop} (hQ : ∀ r M1, zRV (b1_8 n  l0 M) r M1 → Q r M1) : zWP 1 8 [some (.ref l0)] [] M Q := by
  unfold b1_8 at hQ
  unfold p1_8 at hp
  refine wp_go 1 (pc' := 9) (L' := [some (.ref l0)]) (st' := [.ref l0]) (M' := M) rfl ?_
  obtain ⟨hc, hp⟩ := hp
  refine wq_getQ (j := 1) rfl hc ?_
  refine wp_go 1 (pc' := 13) (L' := [some (.ref l0)]) (st' := [.int (0 : Int32), .ref (zQ M l0 1)]) (M' := M) rfl ?_
  obtain ⟨hc, hp⟩ := hp
  refine wp_callv (M1 := (b195_0 n (zQ M l0 1) (0 : Int32) M)) rfl rfl rfl rfl (s195_0 n (zQ M l0 1) (0 : Int32) M hc (fun r M1 h => h)) ?_
  exact s1_16 n    l0 (b195_0 n (zQ M l0 1) (0 : Int32) M) hp hQ
def b1_0 (n : Nat)  (l0 : Nat) (M : zM) : zM := b1_8 n  l0 (b195_0 n (zQ M l0 0) (0 : Int32) M)
def p1_0 (n : Nat)  (l0 : Nat) (M : zM) : Prop := (zHasQ 0 9 l0 M 0) ∧ ((p195_0 n (zQ M l0 0) (0 : Int32) M) ∧ (p1_8 n  l0 (b195_0 n (zQ M l0 0) (0 : Int32) M)))
theorem s1_0 (n : Nat)    (l0 : Nat) (M : zM) (hp : p1_0 n  l0 M) {Q : Option Value → zM → Prop} (hQ : ∀ r M1, zRV (b1_0 n  l0 M) r M1 → Q r M1) : zWP 1 0 [some (.ref l0)] [] M Q := by
  unfold b1_0 at hQ
  unfold p1_0 at hp
  refine wp_go 1 (pc' := 1) (L' := [some (.ref l0)]) (st' := [.ref l0]) (M' := M) rfl ?_
  obtain ⟨hc, hp⟩ := hp
  refine wq_getQ (j := 0) rfl hc ?_
  refine wp_go 1 (pc' := 5) (L' := [some (.ref l0)]) (st' := [.int (0 : Int32), .ref (zQ M l0 0)]) (M' := M) rfl ?_
  obtain ⟨hc, hp⟩ := hp
  refine wp_callv (M1 := (b195_0 n (zQ M l0 0) (0 : Int32) M)) rfl rfl rfl rfl (s195_0 n (zQ M l0 0) (0 : Int32) M hc (fun r M1 h => h)) ?_
  exact s1_8 n    l0 (b195_0 n (zQ M l0 0) (0 : Int32) M) hp hQ
/-! X0_slotOf -/
def b11_0 (n : Nat)  (l0 : Int32) (l1 : Int32) (M : zM) : Int32 × zM := (((l0 * (20 : Int32)) + l1), M)
def p11_0 (n : Nat)  (l0 : Int32) (l1 : Int32) (M : zM) : Prop := True
theorem s11_0 (n : Nat)    (l0 : Int32) (l1 : Int32) (M : zM) (hp : p11_0 n  l0 l1 M) {Q : Option Value → zM → Prop} (hQ : ∀ r M1, zRI (b11_0 n  l0 l1 M) r M1 → Q r M1) : zWP 11 0 [some (.int l0), some (.int l1)] [] M Q := by
  unfold b11_0 at hQ
  unfold p11_0 at hp
  refine wp_go 5 (pc' := 6) (L' := [some (.int l0), some (.int l1)]) (st' := [.int ((l0 * (20 : Int32)) + l1)]) (M' := M) rfl ?_
  exact wp_ret (r := some (.int ((l0 * (20 : Int32)) + l1))) rfl rfl (hQ _ _ ⟨rfl, rfl⟩)
/-! X0_codeOf -/
def b3_11 (n : Nat)  (l0 : Nat) (s0 : Int32) (M : zM) : Int32 × zM := (((s0 * (24 : Int32)) + (zI M l0 4)), M)
def p3_11 (n : Nat)  (l0 : Nat) (s0 : Int32) (M : zM) : Prop := (zHasI 0 64 l0 M 4) ∧ (True)
theorem s3_11 (n : Nat)    (l0 : Nat) (s0 : Int32) (M : zM) (hp : p3_11 n  l0 s0 M) {Q : Option Value → zM → Prop} (hQ : ∀ r M1, zRI (b3_11 n  l0 s0 M) r M1 → Q r M1) : zWP 3 11 [some (.ref l0)] [.int s0] M Q := by
  unfold b3_11 at hQ
  unfold p3_11 at hp
  refine wp_go 3 (pc' := 15) (L' := [some (.ref l0)]) (st' := [.ref l0, .int (s0 * (24 : Int32))]) (M' := M) rfl ?_
  obtain ⟨hc, hp⟩ := hp
  refine wq_getI (j := 4) rfl hc ?_
  refine wp_go 1 (pc' := 19) (L' := [some (.ref l0)]) (st' := [.int ((s0 * (24 : Int32)) + (zI M l0 4))]) (M' := M) rfl ?_
  exact wp_ret (r := some (.int ((s0 * (24 : Int32)) + (zI M l0 4)))) rfl rfl (hQ _ _ ⟨rfl, rfl⟩)
def b3_0 (n : Nat)  (l0 : Nat) (M : zM) : Int32 × zM := b3_11 n  l0 (b11_0 n (zI M l0 2) (zI M l0 3) M).1 (b11_0 n (zI M l0 2) (zI M l0 3) M).2
def p3_0 (n : Nat)  (l0 : Nat) (M : zM) : Prop := (zHasI 0 55 l0 M 2) ∧ ((zHasI 0 61 l0 M 3) ∧ ((p11_0 n (zI M l0 2) (zI M l0 3) M) ∧ (p3_11 n  l0 (b11_0 n (zI M l0 2) (zI M l0 3) M).1 (b11_0 n (zI M l0 2) (zI M l0 3) M).2)))
theorem s3_0 (n : Nat)    (l0 : Nat) (M : zM) (hp : p3_0 n  l0 M) {Q : Option Value → zM → Prop} (hQ : ∀ r M1, zRI (b3_0 n  l0 M) r M1 → Q r M1) : zWP 3 0 [some (.ref l0)] [] M Q := by
  unfold b3_0 at hQ
  unfold p3_0 at hp
  refine wp_go 1 (pc' := 1) (L' := [some (.ref l0)]) (st' := [.ref l0]) (M' := M) rfl ?_
  obtain ⟨hc, hp⟩ := hp
  refine wq_getI (j := 2) rfl hc ?_
  refine wp_go 1 (pc' := 5) (L' := [some (.ref l0)]) (st' := [.ref l0, .int (zI M l0 2)]) (M' := M) rfl ?_
  obtain ⟨hc, hp⟩ := hp
  refine wq_getI (j := 3) rfl hc ?_
  obtain ⟨hc, hp⟩ := hp
  refine wp_calli (v := (b11_0 n (zI M l0 2) (zI M l0 3) M).1) (M1 := (b11_0 n (zI M l0 2) (zI M l0 3) M).2) rfl rfl rfl rfl (s11_0 n (zI M l0 2) (zI M l0 3) M hc (fun r M1 h => h)) ?_
  exact s3_11 n    l0 (b11_0 n (zI M l0 2) (zI M l0 3) M).1 (b11_0 n (zI M l0 2) (zI M l0 3) M).2 hp hQ
/-! X0_claim -/
def b4_54 (n : Nat)   (M : zM) : zM := M
def p4_54 (n : Nat)   (M : zM) : Prop := True
theorem s4_54 (n : Nat)     (M : zM) (hp : p4_54 n   M) {Q : Option Value → zM → Prop} (hQ : ∀ r M1, zRV (b4_54 n   M) r M1 → Q r M1) : zWP 4 54 [none, none, none, none] [] M Q := by
  unfold b4_54 at hQ
  unfold p4_54 at hp
  exact wp_ret (r := none) rfl rfl (hQ _ _ ⟨rfl, rfl⟩)
def b4_31 (n : Nat)   (M : zM) : zM := b4_54 n  M
def p4_31 (n : Nat)   (M : zM) : Prop := p4_54 n  M
theorem s4_31 (n : Nat)     (M : zM) (hp : p4_31 n   M) {Q : Option Value → zM → Prop} (hQ : ∀ r M1, zRV (b4_31 n   M) r M1 → Q r M1) : zWP 4 31 [none, none, none, none] [] M Q := by
  unfold b4_31 at hQ
  unfold p4_31 at hp
  refine wp_go 1 (pc' := 54) (L' := [none, none, none, none]) (st' := []) (M' := M) rfl ?_
  exact s4_54 n    M hp hQ
def b4_24 (n : Nat)  (l0 : Nat) (l1 : Int32) (l3 : Int32) (M : zM) : zM := b4_31 n  (zWI M (zQ M l0 2) l1.toNatClampNeg l3)
def p4_24 (n : Nat)  (l0 : Nat) (l1 : Int32) (l3 : Int32) (M : zM) : Prop := (zHasQ 0 18 l0 M 2) ∧ ((zOkT 1 (zQ M l0 2) l1 M) ∧ (p4_31 n  (zWI M (zQ M l0 2) l1.toNatClampNeg l3)))
theorem s4_24 (n : Nat)    (l0 : Nat) (l1 : Int32) (l3 : Int32) (M : zM) (hp : p4_24 n  l0 l1 l3 M) {Q : Option Value → zM → Prop} (hQ : ∀ r M1, zRV (b4_24 n  l0 l1 l3 M) r M1 → Q r M1) : zWP 4 24 [some (.ref l0), some (.int l1), none, some (.int l3)] [] M Q := by
  unfold b4_24 at hQ
  unfold p4_24 at hp
  refine wp_go 1 (pc' := 25) (L' := [some (.ref l0), some (.int l1), none, some (.int l3)]) (st' := [.ref l0]) (M' := M) rfl ?_
  obtain ⟨hc, hp⟩ := hp
  refine wq_getQ (j := 2) rfl hc ?_
  refine wp_go 2 (pc' := 30) (L' := [some (.ref l0), some (.int l1), none, some (.int l3)]) (st' := [.int l3, .int l1, .ref (zQ M l0 2)]) (M' := M) rfl ?_
  obtain ⟨hc, hp⟩ := hp
  refine wq_iast rfl hc ?_
  refine wp_le [none, none, none, none] (zLe_of (by simp [zLeB])) ?_
  exact s4_31 n    (zWI M (zQ M l0 2) l1.toNatClampNeg l3) hp hQ
def b4_17 (n : Nat)  (l0 : Nat) (l1 : Int32) (l3 : Int32) (M : zM) : zM := b4_24 n  l0 l1 l3 (zWI M (zQ M l0 1) l1.toNatClampNeg (1 : Int32))
def p4_17 (n : Nat)  (l0 : Nat) (l1 : Int32) (l3 : Int32) (M : zM) : Prop := (zHasQ 0 15 l0 M 1) ∧ ((zOkT 1 (zQ M l0 1) l1 M) ∧ (p4_24 n  l0 l1 l3 (zWI M (zQ M l0 1) l1.toNatClampNeg (1 : Int32))))
theorem s4_17 (n : Nat)    (l0 : Nat) (l1 : Int32) (l3 : Int32) (M : zM) (hp : p4_17 n  l0 l1 l3 M) {Q : Option Value → zM → Prop} (hQ : ∀ r M1, zRV (b4_17 n  l0 l1 l3 M) r M1 → Q r M1) : zWP 4 17 [some (.ref l0), some (.int l1), none, some (.int l3)] [] M Q := by
  unfold b4_17 at hQ
  unfold p4_17 at hp
  refine wp_go 1 (pc' := 18) (L' := [some (.ref l0), some (.int l1), none, some (.int l3)]) (st' := [.ref l0]) (M' := M) rfl ?_
  obtain ⟨hc, hp⟩ := hp
  refine wq_getQ (j := 1) rfl hc ?_
  refine wp_go 2 (pc' := 23) (L' := [some (.ref l0), some (.int l1), none, some (.int l3)]) (st' := [.int (1 : Int32), .int l1, .ref (zQ M l0 1)]) (M' := M) rfl ?_
  obtain ⟨hc, hp⟩ := hp
  refine wq_iast rfl hc ?_
  exact s4_24 n    l0 l1 l3 (zWI M (zQ M l0 1) l1.toNatClampNeg (1 : Int32)) hp hQ
def b4_0 (n : Nat)  (l0 : Nat) (l1 : Int32) (l2 : Int32) (l3 : Int32) (M : zM) : zM := (if l2 ≤ (zI M (zQ M l0 0) l1.toNatClampNeg) then (if l2 = (zI M (zQ M l0 0) l1.toNatClampNeg) then b4_54 n  (zWI M (zQ M l0 1) l1.toNatClampNeg ((zI M (zQ M l0 1) l1.toNatClampNeg) + (1 : Int32))) else b4_54 n  M) else b4_17 n  l0 l1 l3 (zWI M (zQ M l0 0) l1.toNatClampNeg l2))
def p4_0 (n : Nat)  (l0 : Nat) (l1 : Int32) (l2 : Int32) (l3 : Int32) (M : zM) : Prop := (zHasQ 0 9 l0 M 0) ∧ ((zOkI (zQ M l0 0) l1 M) ∧ (((l2 ≤ (zI M (zQ M l0 0) l1.toNatClampNeg) → (zHasQ 0 9 l0 M 0) ∧ ((zOkI (zQ M l0 0) l1 M) ∧ (((l2 = (zI M (zQ M l0 0) l1.toNatClampNeg) → (zHasQ 0 15 l0 M 1) ∧ ((zOkI (zQ M l0 1) l1 M) ∧ ((zOkT 1 (zQ M l0 1) l1 M) ∧ (p4_54 n  (zWI M (zQ M l0 1) l1.toNatClampNeg ((zI M (zQ M l0 1) l1.toNatClampNeg) + (1 : Int32))))))) ∧ (¬ l2 = (zI M (zQ M l0 0) l1.toNatClampNeg) → p4_54 n  M))))) ∧ (¬ l2 ≤ (zI M (zQ M l0 0) l1.toNatClampNeg) → (zHasQ 0 9 l0 M 0) ∧ ((zOkT 1 (zQ M l0 0) l1 M) ∧ (p4_17 n  l0 l1 l3 (zWI M (zQ M l0 0) l1.toNatClampNeg l2)))))))
theorem s4_0 (n : Nat)    (l0 : Nat) (l1 : Int32) (l2 : Int32) (l3 : Int32) (M : zM) (hp : p4_0 n  l0 l1 l2 l3 M) {Q : Option Value → zM → Prop} (hQ : ∀ r M1, zRV (b4_0 n  l0 l1 l2 l3 M) r M1 → Q r M1) : zWP 4 0 [some (.ref l0), some (.int l1), some (.int l2), some (.int l3)] [] M Q := by
  unfold b4_0 at hQ
  unfold p4_0 at hp
  refine wp_go 2 (pc' := 2) (L' := [some (.ref l0), some (.int l1), some (.int l2), some (.int l3)]) (st' := [.ref l0, .int l2]) (M' := M) rfl ?_
  obtain ⟨hc, hp⟩ := hp
  refine wq_getQ (j := 0) rfl hc ?_
  refine wp_go 1 (pc' := 6) (L' := [some (.ref l0), some (.int l1), some (.int l2), some (.int l3)]) (st' := [.int l1, .ref (zQ M l0 0), .int l2]) (M' := M) rfl ?_
  obtain ⟨hc, hp⟩ := hp
  refine wq_iald rfl hc ?_
  refine wp_ic_le (t := 34) rfl rfl (fun hc => ?_) (fun hc => ?_)
  · rw [if_pos hc] at hQ
    replace hp := hp.1 hc
    refine wp_go 2 (pc' := 36) (L' := [some (.ref l0), some (.int l1), some (.int l2), some (.int l3)]) (st' := [.ref l0, .int l2]) (M' := M) rfl ?_
    obtain ⟨hc, hp⟩ := hp
    refine wq_getQ (j := 0) rfl hc ?_
    refine wp_go 1 (pc' := 40) (L' := [some (.ref l0), some (.int l1), some (.int l2), some (.int l3)]) (st' := [.int l1, .ref (zQ M l0 0), .int l2]) (M' := M) rfl ?_
    obtain ⟨hc, hp⟩ := hp
    refine wq_iald rfl hc ?_
    refine wp_ic_ne (t := 54) rfl rfl (fun hc => ?_) (fun hc => ?_)
    · rw [if_neg hc] at hQ
      replace hp := hp.2 hc
      refine wp_le [none, none, none, none] (zLe_of (by simp [zLeB])) ?_
      exact s4_54 n    M hp hQ
    · rw [if_pos hc] at hQ
      replace hp := hp.1 hc
      refine wp_go 1 (pc' := 45) (L' := [some (.ref l0), some (.int l1), some (.int l2), some (.int l3)]) (st' := [.ref l0]) (M' := M) rfl ?_
      obtain ⟨hc, hp⟩ := hp
      refine wq_getQ (j := 1) rfl hc ?_
      refine wp_go 2 (pc' := 50) (L' := [some (.ref l0), some (.int l1), some (.int l2), some (.int l3)]) (st' := [.int l1, .ref (zQ M l0 1), .int l1, .ref (zQ M l0 1)]) (M' := M) rfl ?_
      obtain ⟨hc, hp⟩ := hp
      refine wq_iald rfl hc ?_
      refine wp_go 2 (pc' := 53) (L' := [some (.ref l0), some (.int l1), some (.int l2), some (.int l3)]) (st' := [.int ((zI M (zQ M l0 1) l1.toNatClampNeg) + (1 : Int32)), .int l1, .ref (zQ M l0 1)]) (M' := M) rfl ?_
      obtain ⟨hc, hp⟩ := hp
      refine wq_iast rfl hc ?_
      refine wp_le [none, none, none, none] (zLe_of (by simp [zLeB])) ?_
      exact s4_54 n    (zWI M (zQ M l0 1) l1.toNatClampNeg ((zI M (zQ M l0 1) l1.toNatClampNeg) + (1 : Int32))) hp hQ
  · rw [if_neg hc] at hQ
    replace hp := hp.2 hc
    refine wp_go 1 (pc' := 11) (L' := [some (.ref l0), some (.int l1), some (.int l2), some (.int l3)]) (st' := [.ref l0]) (M' := M) rfl ?_
    obtain ⟨hc, hp⟩ := hp
    refine wq_getQ (j := 0) rfl hc ?_
    refine wp_go 2 (pc' := 16) (L' := [some (.ref l0), some (.int l1), some (.int l2), some (.int l3)]) (st' := [.int l2, .int l1, .ref (zQ M l0 0)]) (M' := M) rfl ?_
    obtain ⟨hc, hp⟩ := hp
    refine wq_iast rfl hc ?_
    refine wp_le [some (.ref l0), some (.int l1), none, some (.int l3)] (zLe_of (by simp [zLeB])) ?_
    exact s4_17 n    l0 l1 l3 (zWI M (zQ M l0 0) l1.toNatClampNeg l2) hp hQ
/-! X6_stepOfA -/
def b39_25 (n : Nat)  (s0 : Int32) (M : zM) : Int32 × zM := (s0, M)
def p39_25 (n : Nat)  (s0 : Int32) (M : zM) : Prop := True
theorem s39_25 (n : Nat)    (s0 : Int32) (M : zM) (hp : p39_25 n  s0 M) {Q : Option Value → zM → Prop} (hQ : ∀ r M1, zRI (b39_25 n  s0 M) r M1 → Q r M1) : zWP 39 25 [none, none, none] [.int s0] M Q := by
  unfold b39_25 at hQ
  unfold p39_25 at hp
  exact wp_ret (r := some (.int s0)) rfl rfl (hQ _ _ ⟨rfl, rfl⟩)
def b39_0 (n : Nat)  (l0 : Nat) (l1 : Int32) (M : zM) : Int32 × zM := (if (zI M l0 6) ≤ ((zI M l0 1) + l1) then b39_25 n  (((zI M l0 1) + l1) - (zI M l0 6)) M else b39_25 n  ((zI M l0 1) + l1) M)
def p39_0 (n : Nat)  (l0 : Nat) (l1 : Int32) (M : zM) : Prop := (zHasI 5 15 l0 M 1) ∧ ((zHasI 5 30 l0 M 6) ∧ ((((zI M l0 6) ≤ ((zI M l0 1) + l1) → (zHasI 5 30 l0 M 6) ∧ (p39_25 n  (((zI M l0 1) + l1) - (zI M l0 6)) M)) ∧ (¬ (zI M l0 6) ≤ ((zI M l0 1) + l1) → p39_25 n  ((zI M l0 1) + l1) M))))
theorem s39_0 (n : Nat)    (l0 : Nat) (l1 : Int32) (M : zM) (hp : p39_0 n  l0 l1 M) {Q : Option Value → zM → Prop} (hQ : ∀ r M1, zRI (b39_0 n  l0 l1 M) r M1 → Q r M1) : zWP 39 0 [some (.ref l0), some (.int l1), none] [] M Q := by
  unfold b39_0 at hQ
  unfold p39_0 at hp
  refine wp_go 1 (pc' := 1) (L' := [some (.ref l0), some (.int l1), none]) (st' := [.ref l0]) (M' := M) rfl ?_
  obtain ⟨hc, hp⟩ := hp
  refine wq_getI (j := 1) rfl hc ?_
  refine wp_go 5 (pc' := 9) (L' := [some (.ref l0), some (.int l1), some (.int ((zI M l0 1) + l1))]) (st' := [.ref l0, .int ((zI M l0 1) + l1)]) (M' := M) rfl ?_
  obtain ⟨hc, hp⟩ := hp
  refine wq_getI (j := 6) rfl hc ?_
  refine wp_ic_ge (t := 19) rfl rfl (fun hc => ?_) (fun hc => ?_)
  · rw [if_pos hc] at hQ
    replace hp := hp.1 hc
    refine wp_go 2 (pc' := 21) (L' := [some (.ref l0), some (.int l1), some (.int ((zI M l0 1) + l1))]) (st' := [.ref l0, .int ((zI M l0 1) + l1)]) (M' := M) rfl ?_
    obtain ⟨hc, hp⟩ := hp
    refine wq_getI (j := 6) rfl hc ?_
    refine wp_go 1 (pc' := 25) (L' := [some (.ref l0), some (.int l1), some (.int ((zI M l0 1) + l1))]) (st' := [.int (((zI M l0 1) + l1) - (zI M l0 6))]) (M' := M) rfl ?_
    refine wp_le [none, none, none] (zLe_of (by simp [zLeB])) ?_
    exact s39_25 n    (((zI M l0 1) + l1) - (zI M l0 6)) M hp hQ
  · rw [if_neg hc] at hQ
    replace hp := hp.2 hc
    refine wp_go 2 (pc' := 25) (L' := [some (.ref l0), some (.int l1), some (.int ((zI M l0 1) + l1))]) (st' := [.int ((zI M l0 1) + l1)]) (M' := M) rfl ?_
    refine wp_le [none, none, none] (zLe_of (by simp [zLeB])) ?_
    exact s39_25 n    ((zI M l0 1) + l1) M hp hQ
/-! X6_stepOfB -/
def b40_21 (n : Nat)  (s0 : Int32) (M : zM) : Int32 × zM := (s0, M)
def p40_21 (n : Nat)  (s0 : Int32) (M : zM) : Prop := True
theorem s40_21 (n : Nat)    (s0 : Int32) (M : zM) (hp : p40_21 n  s0 M) {Q : Option Value → zM → Prop} (hQ : ∀ r M1, zRI (b40_21 n  s0 M) r M1 → Q r M1) : zWP 40 21 [none, none, none] [.int s0] M Q := by
  unfold b40_21 at hQ
  unfold p40_21 at hp
  exact wp_ret (r := some (.int s0)) rfl rfl (hQ _ _ ⟨rfl, rfl⟩)
def b40_0 (n : Nat)  (l0 : Nat) (l1 : Int32) (M : zM) : Int32 × zM := (if ((zI M l0 3) - l1) < 0 then b40_21 n  (((zI M l0 3) - l1) + (zI M l0 7)) M else b40_21 n  ((zI M l0 3) - l1) M)
def p40_0 (n : Nat)  (l0 : Nat) (l1 : Int32) (M : zM) : Prop := (zHasI 5 21 l0 M 3) ∧ (((((zI M l0 3) - l1) < 0 → (zHasI 5 33 l0 M 7) ∧ (p40_21 n  (((zI M l0 3) - l1) + (zI M l0 7)) M)) ∧ (¬ ((zI M l0 3) - l1) < 0 → p40_21 n  ((zI M l0 3) - l1) M)))
theorem s40_0 (n : Nat)    (l0 : Nat) (l1 : Int32) (M : zM) (hp : p40_0 n  l0 l1 M) {Q : Option Value → zM → Prop} (hQ : ∀ r M1, zRI (b40_0 n  l0 l1 M) r M1 → Q r M1) : zWP 40 0 [some (.ref l0), some (.int l1), none] [] M Q := by
  unfold b40_0 at hQ
  unfold p40_0 at hp
  refine wp_go 1 (pc' := 1) (L' := [some (.ref l0), some (.int l1), none]) (st' := [.ref l0]) (M' := M) rfl ?_
  obtain ⟨hc, hp⟩ := hp
  refine wq_getI (j := 3) rfl hc ?_
  refine wp_go 4 (pc' := 8) (L' := [some (.ref l0), some (.int l1), some (.int ((zI M l0 3) - l1))]) (st' := [.int ((zI M l0 3) - l1)]) (M' := M) rfl ?_
  refine wp_if_lt (t := 15) rfl rfl (fun hc => ?_) (fun hc => ?_)
  · rw [if_pos hc] at hQ
    replace hp := hp.1 hc
    refine wp_go 2 (pc' := 17) (L' := [some (.ref l0), some (.int l1), some (.int ((zI M l0 3) - l1))]) (st' := [.ref l0, .int ((zI M l0 3) - l1)]) (M' := M) rfl ?_
    obtain ⟨hc, hp⟩ := hp
    refine wq_getI (j := 7) rfl hc ?_
    refine wp_go 1 (pc' := 21) (L' := [some (.ref l0), some (.int l1), some (.int ((zI M l0 3) - l1))]) (st' := [.int (((zI M l0 3) - l1) + (zI M l0 7))]) (M' := M) rfl ?_
    refine wp_le [none, none, none] (zLe_of (by simp [zLeB])) ?_
    exact s40_21 n    (((zI M l0 3) - l1) + (zI M l0 7)) M hp hQ
  · rw [if_neg hc] at hQ
    replace hp := hp.2 hc
    refine wp_go 2 (pc' := 21) (L' := [some (.ref l0), some (.int l1), some (.int ((zI M l0 3) - l1))]) (st' := [.int ((zI M l0 3) - l1)]) (M' := M) rfl ?_
    refine wp_le [none, none, none] (zLe_of (by simp [zLeB])) ?_
    exact s40_21 n    ((zI M l0 3) - l1) M hp hQ
/-! X0_take -/
def b2_63 (n : Nat) (k2 : Nat → Nat → Int32 → zM → zM) (l0 : Nat) (l1 : Nat) (l2 : Int32) (M : zM) : zM := k2 l0 l1 (l2 + Int32.ofInt 1) M
def p2_63 (n : Nat) (q2 : Nat → Nat → Int32 → zM → Prop) (l0 : Nat) (l1 : Nat) (l2 : Int32) (M : zM) : Prop := q2 l0 l1 (l2 + Int32.ofInt 1) M
theorem s2_63 (n : Nat) (k2 : Nat → Nat → Int32 → zM → zM) (q2 : Nat → Nat → Int32 → zM → Prop) (h2 : ∀ (l0 : Nat) (l1 : Nat) (l2 : Int32) (M : zM), q2 l0 l1 l2 M → ∀ {Q : Option Value → zM → Prop}, (∀ r M1, zRV (k2 l0 l1 l2 M) r M1 → Q r M1) → zWP 2 2 [some (.ref l0), some (.ref l1), some (.int l2)] [] M Q) (l0 : Nat) (l1 : Nat) (l2 : Int32) (M : zM) (hp : p2_63 n q2 l0 l1 l2 M) {Q : Option Value → zM → Prop} (hQ : ∀ r M1, zRV (b2_63 n k2 l0 l1 l2 M) r M1 → Q r M1) : zWP 2 63 [some (.ref l0), some (.ref l1), some (.int l2)] [] M Q := by
  unfold b2_63 at hQ
  unfold p2_63 at hp
  refine wp_go 2 (pc' := 2) (L' := [some (.ref l0), some (.ref l1), some (.int (l2 + Int32.ofInt 1))]) (st' := []) (M' := M) rfl ?_
  exact h2 l0 l1 (l2 + Int32.ofInt 1) M hp hQ
def b2_55 (n : Nat) (k2 : Nat → Nat → Int32 → zM → zM) (l0 : Nat) (l1 : Nat) (l2 : Int32) (s0 : Nat) (s1 : Int32) (M : zM) : zM := b2_63 n k2 l0 l1 l2 (b4_0 n s0 s1 (zI M l1 8) ((-1) : Int32) M)
def p2_55 (n : Nat) (q2 : Nat → Nat → Int32 → zM → Prop) (l0 : Nat) (l1 : Nat) (l2 : Int32) (s0 : Nat) (s1 : Int32) (M : zM) : Prop := (zHasI 0 44 l1 M 8) ∧ ((zHasC 2 51 s0 M 4 3) ∧ ((p4_0 n s0 s1 (zI M l1 8) ((-1) : Int32) M) ∧ (p2_63 n q2 l0 l1 l2 (b4_0 n s0 s1 (zI M l1 8) ((-1) : Int32) M))))
theorem s2_55 (n : Nat) (k2 : Nat → Nat → Int32 → zM → zM) (q2 : Nat → Nat → Int32 → zM → Prop) (h2 : ∀ (l0 : Nat) (l1 : Nat) (l2 : Int32) (M : zM), q2 l0 l1 l2 M → ∀ {Q : Option Value → zM → Prop}, (∀ r M1, zRV (k2 l0 l1 l2 M) r M1 → Q r M1) → zWP 2 2 [some (.ref l0), some (.ref l1), some (.int l2)] [] M Q) (l0 : Nat) (l1 : Nat) (l2 : Int32) (s0 : Nat) (s1 : Int32) (M : zM) (hp : p2_55 n q2 l0 l1 l2 s0 s1 M) {Q : Option Value → zM → Prop} (hQ : ∀ r M1, zRV (b2_55 n k2 l0 l1 l2 s0 s1 M) r M1 → Q r M1) : zWP 2 55 [some (.ref l0), some (.ref l1), some (.int l2)] [.int s1, .ref s0] M Q := by
  unfold b2_55 at hQ
  unfold p2_55 at hp
  refine wp_go 1 (pc' := 56) (L' := [some (.ref l0), some (.ref l1), some (.int l2)]) (st' := [.ref l1, .int s1, .ref s0]) (M' := M) rfl ?_
  obtain ⟨hc, hp⟩ := hp
  refine wq_getI (j := 8) rfl hc ?_
  refine wp_go 1 (pc' := 60) (L' := [some (.ref l0), some (.ref l1), some (.int l2)]) (st' := [.int ((-1) : Int32), .int (zI M l1 8), .int s1, .ref s0]) (M' := M) rfl ?_
  obtain ⟨hv, hp⟩ := hp
  obtain ⟨hc, hp⟩ := hp
  refine wp_callv (M1 := (b4_0 n s0 s1 (zI M l1 8) ((-1) : Int32) M)) rfl rfl rfl (zInv_v (np := 3) rfl rfl hv rfl) (s4_0 n s0 s1 (zI M l1 8) ((-1) : Int32) M hc (fun r M1 h => h)) ?_
  exact s2_63 n k2 q2 h2 l0 l1 l2 (b4_0 n s0 s1 (zI M l1 8) ((-1) : Int32) M) hp hQ
def b2_52 (n : Nat) (k2 : Nat → Nat → Int32 → zM → zM) (l0 : Nat) (l1 : Nat) (l2 : Int32) (s0 : Nat) (s1 : Int32) (s2 : Int32) (M : zM) : zM := b2_55 n k2 l0 l1 l2 s0 (b11_0 n s1 s2 M).1 (b11_0 n s1 s2 M).2
def p2_52 (n : Nat) (q2 : Nat → Nat → Int32 → zM → Prop) (l0 : Nat) (l1 : Nat) (l2 : Int32) (s0 : Nat) (s1 : Int32) (s2 : Int32) (M : zM) : Prop := (p11_0 n s1 s2 M) ∧ (p2_55 n q2 l0 l1 l2 s0 (b11_0 n s1 s2 M).1 (b11_0 n s1 s2 M).2)
theorem s2_52 (n : Nat) (k2 : Nat → Nat → Int32 → zM → zM) (q2 : Nat → Nat → Int32 → zM → Prop) (h2 : ∀ (l0 : Nat) (l1 : Nat) (l2 : Int32) (M : zM), q2 l0 l1 l2 M → ∀ {Q : Option Value → zM → Prop}, (∀ r M1, zRV (k2 l0 l1 l2 M) r M1 → Q r M1) → zWP 2 2 [some (.ref l0), some (.ref l1), some (.int l2)] [] M Q) (l0 : Nat) (l1 : Nat) (l2 : Int32) (s0 : Nat) (s1 : Int32) (s2 : Int32) (M : zM) (hp : p2_52 n q2 l0 l1 l2 s0 s1 s2 M) {Q : Option Value → zM → Prop} (hQ : ∀ r M1, zRV (b2_52 n k2 l0 l1 l2 s0 s1 s2 M) r M1 → Q r M1) : zWP 2 52 [some (.ref l0), some (.ref l1), some (.int l2)] [.int s2, .int s1, .ref s0] M Q := by
  unfold b2_52 at hQ
  unfold p2_52 at hp
  obtain ⟨hc, hp⟩ := hp
  refine wp_calli (v := (b11_0 n s1 s2 M).1) (M1 := (b11_0 n s1 s2 M).2) rfl rfl rfl rfl (s11_0 n s1 s2 M hc (fun r M1 h => h)) ?_
  exact s2_55 n k2 q2 h2 l0 l1 l2 s0 (b11_0 n s1 s2 M).1 (b11_0 n s1 s2 M).2 hp hQ
def b2_42 (n : Nat) (k2 : Nat → Nat → Int32 → zM → zM) (l0 : Nat) (l1 : Nat) (l2 : Int32) (M : zM) : zM := b2_52 n k2 l0 l1 l2 l0 (zI M l1 2) (b40_0 n l1 l2 M).1 (b40_0 n l1 l2 M).2
def p2_42 (n : Nat) (q2 : Nat → Nat → Int32 → zM → Prop) (l0 : Nat) (l1 : Nat) (l2 : Int32) (M : zM) : Prop := (zHasI 0 55 l1 M 2) ∧ ((zHasC 2 58 l1 M 40 1) ∧ ((p40_0 n l1 l2 M) ∧ (p2_52 n q2 l0 l1 l2 l0 (zI M l1 2) (b40_0 n l1 l2 M).1 (b40_0 n l1 l2 M).2)))
theorem s2_42 (n : Nat) (k2 : Nat → Nat → Int32 → zM → zM) (q2 : Nat → Nat → Int32 → zM → Prop) (h2 : ∀ (l0 : Nat) (l1 : Nat) (l2 : Int32) (M : zM), q2 l0 l1 l2 M → ∀ {Q : Option Value → zM → Prop}, (∀ r M1, zRV (k2 l0 l1 l2 M) r M1 → Q r M1) → zWP 2 2 [some (.ref l0), some (.ref l1), some (.int l2)] [] M Q) (l0 : Nat) (l1 : Nat) (l2 : Int32) (M : zM) (hp : p2_42 n q2 l0 l1 l2 M) {Q : Option Value → zM → Prop} (hQ : ∀ r M1, zRV (b2_42 n k2 l0 l1 l2 M) r M1 → Q r M1) : zWP 2 42 [some (.ref l0), some (.ref l1), some (.int l2)] [] M Q := by
  unfold b2_42 at hQ
  unfold p2_42 at hp
  refine wp_go 2 (pc' := 44) (L' := [some (.ref l0), some (.ref l1), some (.int l2)]) (st' := [.ref l1, .ref l0]) (M' := M) rfl ?_
  obtain ⟨hc, hp⟩ := hp
  refine wq_getI (j := 2) rfl hc ?_
  refine wp_go 2 (pc' := 49) (L' := [some (.ref l0), some (.ref l1), some (.int l2)]) (st' := [.int l2, .ref l1, .int (zI M l1 2), .ref l0]) (M' := M) rfl ?_
  obtain ⟨hv, hp⟩ := hp
  obtain ⟨hc, hp⟩ := hp
  refine wp_calli (v := (b40_0 n l1 l2 M).1) (M1 := (b40_0 n l1 l2 M).2) rfl rfl rfl (zInv_v (np := 1) rfl rfl hv rfl) (s40_0 n l1 l2 M hc (fun r M1 h => h)) ?_
  exact s2_52 n k2 q2 h2 l0 l1 l2 l0 (zI M l1 2) (b40_0 n l1 l2 M).1 (b40_0 n l1 l2 M).2 hp hQ
def b2_39 (n : Nat) (k2 : Nat → Nat → Int32 → zM → zM) (l0 : Nat) (l1 : Nat) (l2 : Int32) (s0 : Nat) (s1 : Int32) (s2 : Int32) (s3 : Int32) (M : zM) : zM := b2_42 n k2 l0 l1 l2 (b4_0 n s0 s1 s2 s3 M)
def p2_39 (n : Nat) (q2 : Nat → Nat → Int32 → zM → Prop) (l0 : Nat) (l1 : Nat) (l2 : Int32) (s0 : Nat) (s1 : Int32) (s2 : Int32) (s3 : Int32) (M : zM) : Prop := (zHasC 2 51 s0 M 4 3) ∧ ((p4_0 n s0 s1 s2 s3 M) ∧ (p2_42 n q2 l0 l1 l2 (b4_0 n s0 s1 s2 s3 M)))
theorem s2_39 (n : Nat) (k2 : Nat → Nat → Int32 → zM → zM) (q2 : Nat → Nat → Int32 → zM → Prop) (h2 : ∀ (l0 : Nat) (l1 : Nat) (l2 : Int32) (M : zM), q2 l0 l1 l2 M → ∀ {Q : Option Value → zM → Prop}, (∀ r M1, zRV (k2 l0 l1 l2 M) r M1 → Q r M1) → zWP 2 2 [some (.ref l0), some (.ref l1), some (.int l2)] [] M Q) (l0 : Nat) (l1 : Nat) (l2 : Int32) (s0 : Nat) (s1 : Int32) (s2 : Int32) (s3 : Int32) (M : zM) (hp : p2_39 n q2 l0 l1 l2 s0 s1 s2 s3 M) {Q : Option Value → zM → Prop} (hQ : ∀ r M1, zRV (b2_39 n k2 l0 l1 l2 s0 s1 s2 s3 M) r M1 → Q r M1) : zWP 2 39 [some (.ref l0), some (.ref l1), some (.int l2)] [.int s3, .int s2, .int s1, .ref s0] M Q := by
  unfold b2_39 at hQ
  unfold p2_39 at hp
  obtain ⟨hv, hp⟩ := hp
  obtain ⟨hc, hp⟩ := hp
  refine wp_callv (M1 := (b4_0 n s0 s1 s2 s3 M)) rfl rfl rfl (zInv_v (np := 3) rfl rfl hv rfl) (s4_0 n s0 s1 s2 s3 M hc (fun r M1 h => h)) ?_
  exact s2_42 n k2 q2 h2 l0 l1 l2 (b4_0 n s0 s1 s2 s3 M) hp hQ
def b2_35 (n : Nat) (k2 : Nat → Nat → Int32 → zM → zM) (l0 : Nat) (l1 : Nat) (l2 : Int32) (s0 : Nat) (s1 : Int32) (s2 : Int32) (s3 : Int32) (M : zM) : zM := b2_39 n k2 l0 l1 l2 s0 s1 s2 s3 M
def p2_35 (n : Nat) (q2 : Nat → Nat → Int32 → zM → Prop) (l0 : Nat) (l1 : Nat) (l2 : Int32) (s0 : Nat) (s1 : Int32) (s2 : Int32) (s3 : Int32) (M : zM) : Prop := p2_39 n q2 l0 l1 l2 s0 s1 s2 s3 M
theorem s2_35 (n : Nat) (k2 : Nat → Nat → Int32 → zM → zM) (q2 : Nat → Nat → Int32 → zM → Prop) (h2 : ∀ (l0 : Nat) (l1 : Nat) (l2 : Int32) (M : zM), q2 l0 l1 l2 M → ∀ {Q : Option Value → zM → Prop}, (∀ r M1, zRV (k2 l0 l1 l2 M) r M1 → Q r M1) → zWP 2 2 [some (.ref l0), some (.ref l1), some (.int l2)] [] M Q) (l0 : Nat) (l1 : Nat) (l2 : Int32) (s0 : Nat) (s1 : Int32) (s2 : Int32) (s3 : Int32) (M : zM) (hp : p2_35 n q2 l0 l1 l2 s0 s1 s2 s3 M) {Q : Option Value → zM → Prop} (hQ : ∀ r M1, zRV (b2_35 n k2 l0 l1 l2 s0 s1 s2 s3 M) r M1 → Q r M1) : zWP 2 35 [some (.ref l0), some (.ref l1), some (.int l2)] [.int s3, .int s2, .int s1, .ref s0] M Q := by
  unfold b2_35 at hQ
  unfold p2_35 at hp
  refine wp_go 1 (pc' := 39) (L' := [some (.ref l0), some (.ref l1), some (.int l2)]) (st' := [.int s3, .int s2, .int s1, .ref s0]) (M' := M) rfl ?_
  exact s2_39 n k2 q2 h2 l0 l1 l2 s0 s1 s2 s3 M hp hQ
def b2_23 (n : Nat) (k2 : Nat → Nat → Int32 → zM → zM) (l0 : Nat) (l1 : Nat) (l2 : Int32) (s0 : Nat) (s1 : Int32) (M : zM) : zM := (if l2 = 0 then b2_35 n k2 l0 l1 l2 s0 s1 (zI M l1 8) (b3_0 n l1 M).1 (b3_0 n l1 M).2 else b2_39 n k2 l0 l1 l2 s0 s1 (zI M l1 8) ((-1) : Int32) M)
def p2_23 (n : Nat) (q2 : Nat → Nat → Int32 → zM → Prop) (l0 : Nat) (l1 : Nat) (l2 : Int32) (s0 : Nat) (s1 : Int32) (M : zM) : Prop := (zHasI 0 44 l1 M 8) ∧ (((l2 = 0 → (p3_0 n l1 M) ∧ (p2_35 n q2 l0 l1 l2 s0 s1 (zI M l1 8) (b3_0 n l1 M).1 (b3_0 n l1 M).2)) ∧ (¬ l2 = 0 → p2_39 n q2 l0 l1 l2 s0 s1 (zI M l1 8) ((-1) : Int32) M)))
theorem s2_23 (n : Nat) (k2 : Nat → Nat → Int32 → zM → zM) (q2 : Nat → Nat → Int32 → zM → Prop) (h2 : ∀ (l0 : Nat) (l1 : Nat) (l2 : Int32) (M : zM), q2 l0 l1 l2 M → ∀ {Q : Option Value → zM → Prop}, (∀ r M1, zRV (k2 l0 l1 l2 M) r M1 → Q r M1) → zWP 2 2 [some (.ref l0), some (.ref l1), some (.int l2)] [] M Q) (l0 : Nat) (l1 : Nat) (l2 : Int32) (s0 : Nat) (s1 : Int32) (M : zM) (hp : p2_23 n q2 l0 l1 l2 s0 s1 M) {Q : Option Value → zM → Prop} (hQ : ∀ r M1, zRV (b2_23 n k2 l0 l1 l2 s0 s1 M) r M1 → Q r M1) : zWP 2 23 [some (.ref l0), some (.ref l1), some (.int l2)] [.int s1, .ref s0] M Q := by
  unfold b2_23 at hQ
  unfold p2_23 at hp
  refine wp_go 1 (pc' := 24) (L' := [some (.ref l0), some (.ref l1), some (.int l2)]) (st' := [.ref l1, .int s1, .ref s0]) (M' := M) rfl ?_
  obtain ⟨hc, hp⟩ := hp
  refine wq_getI (j := 8) rfl hc ?_
  refine wp_go 1 (pc' := 28) (L' := [some (.ref l0), some (.ref l1), some (.int l2)]) (st' := [.int l2, .int (zI M l1 8), .int s1, .ref s0]) (M' := M) rfl ?_
  refine wp_if_ne (t := 38) rfl rfl (fun hc => ?_) (fun hc => ?_)
  · rw [if_neg hc] at hQ
    replace hp := hp.2 hc
    refine wp_go 1 (pc' := 39) (L' := [some (.ref l0), some (.ref l1), some (.int l2)]) (st' := [.int ((-1) : Int32), .int (zI M l1 8), .int s1, .ref s0]) (M' := M) rfl ?_
    exact s2_39 n k2 q2 h2 l0 l1 l2 s0 s1 (zI M l1 8) ((-1) : Int32) M hp hQ
  · rw [if_pos hc] at hQ
    replace hp := hp.1 hc
    refine wp_go 1 (pc' := 32) (L' := [some (.ref l0), some (.ref l1), some (.int l2)]) (st' := [.ref l1, .int (zI M l1 8), .int s1, .ref s0]) (M' := M) rfl ?_
    obtain ⟨hc, hp⟩ := hp
    refine wp_calli (v := (b3_0 n l1 M).1) (M1 := (b3_0 n l1 M).2) rfl rfl rfl rfl (s3_0 n l1 M hc (fun r M1 h => h)) ?_
    exact s2_35 n k2 q2 h2 l0 l1 l2 s0 s1 (zI M l1 8) (b3_0 n l1 M).1 (b3_0 n l1 M).2 hp hQ
def b2_20 (n : Nat) (k2 : Nat → Nat → Int32 → zM → zM) (l0 : Nat) (l1 : Nat) (l2 : Int32) (s0 : Nat) (s1 : Int32) (s2 : Int32) (M : zM) : zM := b2_23 n k2 l0 l1 l2 s0 (b11_0 n s1 s2 M).1 (b11_0 n s1 s2 M).2
def p2_20 (n : Nat) (q2 : Nat → Nat → Int32 → zM → Prop) (l0 : Nat) (l1 : Nat) (l2 : Int32) (s0 : Nat) (s1 : Int32) (s2 : Int32) (M : zM) : Prop := (p11_0 n s1 s2 M) ∧ (p2_23 n q2 l0 l1 l2 s0 (b11_0 n s1 s2 M).1 (b11_0 n s1 s2 M).2)
theorem s2_20 (n : Nat) (k2 : Nat → Nat → Int32 → zM → zM) (q2 : Nat → Nat → Int32 → zM → Prop) (h2 : ∀ (l0 : Nat) (l1 : Nat) (l2 : Int32) (M : zM), q2 l0 l1 l2 M → ∀ {Q : Option Value → zM → Prop}, (∀ r M1, zRV (k2 l0 l1 l2 M) r M1 → Q r M1) → zWP 2 2 [some (.ref l0), some (.ref l1), some (.int l2)] [] M Q) (l0 : Nat) (l1 : Nat) (l2 : Int32) (s0 : Nat) (s1 : Int32) (s2 : Int32) (M : zM) (hp : p2_20 n q2 l0 l1 l2 s0 s1 s2 M) {Q : Option Value → zM → Prop} (hQ : ∀ r M1, zRV (b2_20 n k2 l0 l1 l2 s0 s1 s2 M) r M1 → Q r M1) : zWP 2 20 [some (.ref l0), some (.ref l1), some (.int l2)] [.int s2, .int s1, .ref s0] M Q := by
  unfold b2_20 at hQ
  unfold p2_20 at hp
  obtain ⟨hc, hp⟩ := hp
  refine wp_calli (v := (b11_0 n s1 s2 M).1) (M1 := (b11_0 n s1 s2 M).2) rfl rfl rfl rfl (s11_0 n s1 s2 M hc (fun r M1 h => h)) ?_
  exact s2_23 n k2 q2 h2 l0 l1 l2 s0 (b11_0 n s1 s2 M).1 (b11_0 n s1 s2 M).2 hp hQ
def c2_2 (n : Nat) (k2 : Nat → Nat → Int32 → zM → zM) (l0 : Nat) (l1 : Nat) (l2 : Int32) (M : zM) : zM := (if (zI M l1 5) ≤ l2 then M else b2_20 n k2 l0 l1 l2 l0 (zI M l1 0) (b39_0 n l1 l2 M).1 (b39_0 n l1 l2 M).2)
def d2_2 (n : Nat) (q2 : Nat → Nat → Int32 → zM → Prop) (l0 : Nat) (l1 : Nat) (l2 : Int32) (M : zM) : Prop := (zHasI 0 27 l1 M 5) ∧ ((((zI M l1 5) ≤ l2 → True) ∧ (¬ (zI M l1 5) ≤ l2 → (zHasI 0 33 l1 M 0) ∧ ((zHasC 2 36 l1 M 39 1) ∧ ((p39_0 n l1 l2 M) ∧ (p2_20 n q2 l0 l1 l2 l0 (zI M l1 0) (b39_0 n l1 l2 M).1 (b39_0 n l1 l2 M).2))))))
theorem t2_2 (n : Nat) (k2 : Nat → Nat → Int32 → zM → zM) (q2 : Nat → Nat → Int32 → zM → Prop) (h2 : ∀ (l0 : Nat) (l1 : Nat) (l2 : Int32) (M : zM), q2 l0 l1 l2 M → ∀ {Q : Option Value → zM → Prop}, (∀ r M1, zRV (k2 l0 l1 l2 M) r M1 → Q r M1) → zWP 2 2 [some (.ref l0), some (.ref l1), some (.int l2)] [] M Q) (l0 : Nat) (l1 : Nat) (l2 : Int32) (M : zM) (hp : d2_2 n q2 l0 l1 l2 M) {Q : Option Value → zM → Prop} (hQ : ∀ r M1, zRV (c2_2 n k2 l0 l1 l2 M) r M1 → Q r M1) : zWP 2 2 [some (.ref l0), some (.ref l1), some (.int l2)] [] M Q := by
  unfold c2_2 at hQ
  unfold d2_2 at hp
  refine wp_go 2 (pc' := 4) (L' := [some (.ref l0), some (.ref l1), some (.int l2)]) (st' := [.ref l1, .int l2]) (M' := M) rfl ?_
  obtain ⟨hc, hp⟩ := hp
  refine wq_getI (j := 5) rfl hc ?_
  refine wp_ic_ge (t := 69) rfl rfl (fun hc => ?_) (fun hc => ?_)
  · rw [if_pos hc] at hQ
    replace hp := hp.1 hc
    exact wp_ret (r := none) rfl rfl (hQ _ _ ⟨rfl, rfl⟩)
  · rw [if_neg hc] at hQ
    replace hp := hp.2 hc
    refine wp_go 2 (pc' := 12) (L' := [some (.ref l0), some (.ref l1), some (.int l2)]) (st' := [.ref l1, .ref l0]) (M' := M) rfl ?_
    obtain ⟨hc, hp⟩ := hp
    refine wq_getI (j := 0) rfl hc ?_
    refine wp_go 2 (pc' := 17) (L' := [some (.ref l0), some (.ref l1), some (.int l2)]) (st' := [.int l2, .ref l1, .int (zI M l1 0), .ref l0]) (M' := M) rfl ?_
    obtain ⟨hv, hp⟩ := hp
    obtain ⟨hc, hp⟩ := hp
    refine wp_calli (v := (b39_0 n l1 l2 M).1) (M1 := (b39_0 n l1 l2 M).2) rfl rfl rfl (zInv_v (np := 1) rfl rfl hv rfl) (s39_0 n l1 l2 M hc (fun r M1 h => h)) ?_
    exact s2_20 n k2 q2 h2 l0 l1 l2 l0 (zI M l1 0) (b39_0 n l1 l2 M).1 (b39_0 n l1 l2 M).2 hp hQ
def b2_2 (n : Nat)  : Nat → Nat → Nat → Int32 → zM → zM
  | 0, _, _, _, M => M
  | k + 1, l0, l1, l2, M => c2_2 n  (b2_2 n  k) l0 l1 l2 M
def p2_2 (n : Nat)  : Nat → Nat → Nat → Int32 → zM → Prop
  | 0, _, _, _, _ => False
  | k + 1, l0, l1, l2, M => d2_2 n  (p2_2 n  k) l0 l1 l2 M
theorem s2_2 (n : Nat)    : ∀ (k : Nat) (l0 : Nat) (l1 : Nat) (l2 : Int32) (M : zM), p2_2 n  k l0 l1 l2 M → ∀ {Q : Option Value → zM → Prop}, (∀ r M1, zRV (b2_2 n  k l0 l1 l2 M) r M1 → Q r M1) → zWP 2 2 [some (.ref l0), some (.ref l1), some (.int l2)] [] M Q
  | 0, _, _, _, _, h, _, _ => h.elim
  | k + 1, l0, l1, l2, M, h, _, hQ => t2_2 n  (b2_2 n  k)  (p2_2 n  k)  (s2_2 n    k) l0 l1 l2 M h hQ
def b2_0 (n : Nat)  (l0 : Nat) (l1 : Nat) (M : zM) : zM := b2_2 n  n l0 l1 (0 : Int32) M
def p2_0 (n : Nat)  (l0 : Nat) (l1 : Nat) (M : zM) : Prop := p2_2 n  n l0 l1 (0 : Int32) M
theorem s2_0 (n : Nat)    (l0 : Nat) (l1 : Nat) (M : zM) (hp : p2_0 n  l0 l1 M) {Q : Option Value → zM → Prop} (hQ : ∀ r M1, zRV (b2_0 n  l0 l1 M) r M1 → Q r M1) : zWP 2 0 [some (.ref l0), some (.ref l1), none] [] M Q := by
  unfold b2_0 at hQ
  unfold p2_0 at hp
  refine wp_go 2 (pc' := 2) (L' := [some (.ref l0), some (.ref l1), some (.int (0 : Int32))]) (st' := []) (M' := M) rfl ?_
  exact s2_2 n    n l0 l1 (0 : Int32) M hp hQ
/-! X0_isBegunBySole -/
def b5_31 (n : Nat)  (s0 : Int32) (M : zM) : Int32 × zM := (s0, M)
def p5_31 (n : Nat)  (s0 : Int32) (M : zM) : Prop := zNar .boolean s0 = true
theorem s5_31 (n : Nat)    (s0 : Int32) (M : zM) (hp : p5_31 n  s0 M) {Q : Option Value → zM → Prop} (hQ : ∀ r M1, zRI (b5_31 n  s0 M) r M1 → Q r M1) : zWP 5 31 [none, none, none, none] [.int s0] M Q := by
  unfold b5_31 at hQ
  unfold p5_31 at hp
  exact wp_retz rfl rfl hp (hQ _ _ ⟨rfl, rfl⟩)
def b5_30 (n : Nat)   (M : zM) : Int32 × zM := b5_31 n  (0 : Int32) M
def p5_30 (n : Nat)   (M : zM) : Prop := p5_31 n  (0 : Int32) M
theorem s5_30 (n : Nat)     (M : zM) (hp : p5_30 n   M) {Q : Option Value → zM → Prop} (hQ : ∀ r M1, zRI (b5_30 n   M) r M1 → Q r M1) : zWP 5 30 [none, none, none, none] [] M Q := by
  unfold b5_30 at hQ
  unfold p5_30 at hp
  refine wp_go 1 (pc' := 31) (L' := [none, none, none, none]) (st' := [.int (0 : Int32)]) (M' := M) rfl ?_
  exact s5_31 n    (0 : Int32) M hp hQ
def b5_5 (n : Nat)  (l0 : Nat) (s0 : Int32) (M : zM) : Int32 × zM := (if (zI M (zQ M l0 1) s0.toNatClampNeg) = (1 : Int32) then (if (zI M (zQ M l0 2) s0.toNatClampNeg) = ((-1) : Int32) then b5_30 n  M else b5_31 n  (1 : Int32) M) else b5_30 n  M)
def p5_5 (n : Nat)  (l0 : Nat) (s0 : Int32) (M : zM) : Prop := (zHasQ 0 15 l0 M 1) ∧ ((zOkI (zQ M l0 1) s0 M) ∧ ((((zI M (zQ M l0 1) s0.toNatClampNeg) = (1 : Int32) → (zHasQ 0 18 l0 M 2) ∧ ((zOkI (zQ M l0 2) s0 M) ∧ ((((zI M (zQ M l0 2) s0.toNatClampNeg) = ((-1) : Int32) → p5_30 n  M) ∧ (¬ (zI M (zQ M l0 2) s0.toNatClampNeg) = ((-1) : Int32) → p5_31 n  (1 : Int32) M))))) ∧ (¬ (zI M (zQ M l0 1) s0.toNatClampNeg) = (1 : Int32) → p5_30 n  M))))
theorem s5_5 (n : Nat)    (l0 : Nat) (s0 : Int32) (M : zM) (hp : p5_5 n  l0 s0 M) {Q : Option Value → zM → Prop} (hQ : ∀ r M1, zRI (b5_5 n  l0 s0 M) r M1 → Q r M1) : zWP 5 5 [some (.ref l0), none, none, none] [.int s0] M Q := by
  unfold b5_5 at hQ
  unfold p5_5 at hp
  refine wp_go 2 (pc' := 7) (L' := [some (.ref l0), none, none, some (.int s0)]) (st' := [.ref l0]) (M' := M) rfl ?_
  obtain ⟨hc, hp⟩ := hp
  refine wq_getQ (j := 1) rfl hc ?_
  refine wp_go 1 (pc' := 11) (L' := [some (.ref l0), none, none, some (.int s0)]) (st' := [.int s0, .ref (zQ M l0 1)]) (M' := M) rfl ?_
  obtain ⟨hc, hp⟩ := hp
  refine wq_iald rfl hc ?_
  refine wp_go 1 (pc' := 13) (L' := [some (.ref l0), none, none, some (.int s0)]) (st' := [.int (1 : Int32), .int (zI M (zQ M l0 1) s0.toNatClampNeg)]) (M' := M) rfl ?_
  refine wp_ic_ne (t := 30) rfl rfl (fun hc => ?_) (fun hc => ?_)
  · rw [if_neg hc] at hQ
    replace hp := hp.2 hc
    refine wp_le [none, none, none, none] (zLe_of (by simp [zLeB])) ?_
    exact s5_30 n    M hp hQ
  · rw [if_pos hc] at hQ
    replace hp := hp.1 hc
    refine wp_go 1 (pc' := 17) (L' := [some (.ref l0), none, none, some (.int s0)]) (st' := [.ref l0]) (M' := M) rfl ?_
    obtain ⟨hc, hp⟩ := hp
    refine wq_getQ (j := 2) rfl hc ?_
    refine wp_go 1 (pc' := 21) (L' := [some (.ref l0), none, none, some (.int s0)]) (st' := [.int s0, .ref (zQ M l0 2)]) (M' := M) rfl ?_
    obtain ⟨hc, hp⟩ := hp
    refine wq_iald rfl hc ?_
    refine wp_go 1 (pc' := 23) (L' := [some (.ref l0), none, none, some (.int s0)]) (st' := [.int ((-1) : Int32), .int (zI M (zQ M l0 2) s0.toNatClampNeg)]) (M' := M) rfl ?_
    refine wp_ic_eq (t := 30) rfl rfl (fun hc => ?_) (fun hc => ?_)
    · rw [if_pos hc] at hQ
      replace hp := hp.1 hc
      refine wp_le [none, none, none, none] (zLe_of (by simp [zLeB])) ?_
      exact s5_30 n    M hp hQ
    · rw [if_neg hc] at hQ
      replace hp := hp.2 hc
      refine wp_go 2 (pc' := 31) (L' := [some (.ref l0), none, none, some (.int s0)]) (st' := [.int (1 : Int32)]) (M' := M) rfl ?_
      refine wp_le [none, none, none, none] (zLe_of (by simp [zLeB])) ?_
      exact s5_31 n    (1 : Int32) M hp hQ
def b5_0 (n : Nat)  (l0 : Nat) (l1 : Int32) (l2 : Int32) (M : zM) : Int32 × zM := b5_5 n  l0 (b11_0 n l1 l2 M).1 (b11_0 n l1 l2 M).2
def p5_0 (n : Nat)  (l0 : Nat) (l1 : Int32) (l2 : Int32) (M : zM) : Prop := (p11_0 n l1 l2 M) ∧ (p5_5 n  l0 (b11_0 n l1 l2 M).1 (b11_0 n l1 l2 M).2)
theorem s5_0 (n : Nat)    (l0 : Nat) (l1 : Int32) (l2 : Int32) (M : zM) (hp : p5_0 n  l0 l1 l2 M) {Q : Option Value → zM → Prop} (hQ : ∀ r M1, zRI (b5_0 n  l0 l1 l2 M) r M1 → Q r M1) : zWP 5 0 [some (.ref l0), some (.int l1), some (.int l2), none] [] M Q := by
  unfold b5_0 at hQ
  unfold p5_0 at hp
  refine wp_go 2 (pc' := 2) (L' := [some (.ref l0), some (.int l1), some (.int l2), none]) (st' := [.int l2, .int l1]) (M' := M) rfl ?_
  obtain ⟨hc, hp⟩ := hp
  refine wp_calli (v := (b11_0 n l1 l2 M).1) (M1 := (b11_0 n l1 l2 M).2) rfl rfl rfl rfl (s11_0 n l1 l2 M hc (fun r M1 h => h)) ?_
  refine wp_le [some (.ref l0), none, none, none] (zLe_of (by simp [zLeB])) ?_
  exact s5_5 n    l0 (b11_0 n l1 l2 M).1 (b11_0 n l1 l2 M).2 hp hQ
/-! X0_otherOf -/
def b6_9 (n : Nat)  (s0 : Nat) (s1 : Int32) (M : zM) : Int32 × zM := ((((zI M s0 s1.toNatClampNeg) / (24 : Int32)) / (20 : Int32)), M)
def p6_9 (n : Nat)  (s0 : Nat) (s1 : Int32) (M : zM) : Prop := (zOkI s0 s1 M) ∧ (True)
theorem s6_9 (n : Nat)    (s0 : Nat) (s1 : Int32) (M : zM) (hp : p6_9 n  s0 s1 M) {Q : Option Value → zM → Prop} (hQ : ∀ r M1, zRI (b6_9 n  s0 s1 M) r M1 → Q r M1) : zWP 6 9 [none, none, none] [.int s1, .ref s0] M Q := by
  unfold b6_9 at hQ
  unfold p6_9 at hp
  obtain ⟨hc, hp⟩ := hp
  refine wq_iald rfl hc ?_
  refine wp_go 1 (pc' := 12) (L' := [none, none, none]) (st' := [.int (24 : Int32), .int (zI M s0 s1.toNatClampNeg)]) (M' := M) rfl ?_
  refine wq_idiv rfl (by decide) ?_
  refine wp_go 1 (pc' := 15) (L' := [none, none, none]) (st' := [.int (20 : Int32), .int ((zI M s0 s1.toNatClampNeg) / (24 : Int32))]) (M' := M) rfl ?_
  refine wq_idiv rfl (by decide) ?_
  exact wp_ret (r := some (.int (((zI M s0 s1.toNatClampNeg) / (24 : Int32)) / (20 : Int32)))) rfl rfl (hQ _ _ ⟨rfl, rfl⟩)
def b6_0 (n : Nat)  (l0 : Nat) (l1 : Int32) (l2 : Int32) (M : zM) : Int32 × zM := b6_9 n  (zQ M l0 2) (b11_0 n l1 l2 M).1 (b11_0 n l1 l2 M).2
def p6_0 (n : Nat)  (l0 : Nat) (l1 : Int32) (l2 : Int32) (M : zM) : Prop := (zHasQ 0 18 l0 M 2) ∧ ((p11_0 n l1 l2 M) ∧ (p6_9 n  (zQ M l0 2) (b11_0 n l1 l2 M).1 (b11_0 n l1 l2 M).2))
theorem s6_0 (n : Nat)    (l0 : Nat) (l1 : Int32) (l2 : Int32) (M : zM) (hp : p6_0 n  l0 l1 l2 M) {Q : Option Value → zM → Prop} (hQ : ∀ r M1, zRI (b6_0 n  l0 l1 l2 M) r M1 → Q r M1) : zWP 6 0 [some (.ref l0), some (.int l1), some (.int l2)] [] M Q := by
  unfold b6_0 at hQ
  unfold p6_0 at hp
  refine wp_go 1 (pc' := 1) (L' := [some (.ref l0), some (.int l1), some (.int l2)]) (st' := [.ref l0]) (M' := M) rfl ?_
  obtain ⟨hc, hp⟩ := hp
  refine wq_getQ (j := 2) rfl hc ?_
  refine wp_go 2 (pc' := 6) (L' := [some (.ref l0), some (.int l1), some (.int l2)]) (st' := [.int l2, .int l1, .ref (zQ M l0 2)]) (M' := M) rfl ?_
  obtain ⟨hc, hp⟩ := hp
  refine wp_calli (v := (b11_0 n l1 l2 M).1) (M1 := (b11_0 n l1 l2 M).2) rfl rfl rfl rfl (s11_0 n l1 l2 M hc (fun r M1 h => h)) ?_
  refine wp_le [none, none, none] (zLe_of (by simp [zLeB])) ?_
  exact s6_9 n    (zQ M l0 2) (b11_0 n l1 l2 M).1 (b11_0 n l1 l2 M).2 hp hQ
/-! X0_stepOfOther -/
def b7_9 (n : Nat)  (s0 : Nat) (s1 : Int32) (M : zM) : Int32 × zM := ((((zI M s0 s1.toNatClampNeg) / (24 : Int32)) - ((zI M s0 s1.toNatClampNeg) / (24 : Int32)) / (20 : Int32) * (20 : Int32)), M)
def p7_9 (n : Nat)  (s0 : Nat) (s1 : Int32) (M : zM) : Prop := (zOkI s0 s1 M) ∧ (True)
theorem s7_9 (n : Nat)    (s0 : Nat) (s1 : Int32) (M : zM) (hp : p7_9 n  s0 s1 M) {Q : Option Value → zM → Prop} (hQ : ∀ r M1, zRI (b7_9 n  s0 s1 M) r M1 → Q r M1) : zWP 7 9 [none, none, none] [.int s1, .ref s0] M Q := by
  unfold b7_9 at hQ
  unfold p7_9 at hp
  obtain ⟨hc, hp⟩ := hp
  refine wq_iald rfl hc ?_
  refine wp_go 1 (pc' := 12) (L' := [none, none, none]) (st' := [.int (24 : Int32), .int (zI M s0 s1.toNatClampNeg)]) (M' := M) rfl ?_
  refine wq_idiv rfl (by decide) ?_
  refine wp_go 1 (pc' := 15) (L' := [none, none, none]) (st' := [.int (20 : Int32), .int ((zI M s0 s1.toNatClampNeg) / (24 : Int32))]) (M' := M) rfl ?_
  refine wq_irem rfl (by decide) ?_
  exact wp_ret (r := some (.int (((zI M s0 s1.toNatClampNeg) / (24 : Int32)) - ((zI M s0 s1.toNatClampNeg) / (24 : Int32)) / (20 : Int32) * (20 : Int32)))) rfl rfl (hQ _ _ ⟨rfl, rfl⟩)
def b7_0 (n : Nat)  (l0 : Nat) (l1 : Int32) (l2 : Int32) (M : zM) : Int32 × zM := b7_9 n  (zQ M l0 2) (b11_0 n l1 l2 M).1 (b11_0 n l1 l2 M).2
def p7_0 (n : Nat)  (l0 : Nat) (l1 : Int32) (l2 : Int32) (M : zM) : Prop := (zHasQ 0 18 l0 M 2) ∧ ((p11_0 n l1 l2 M) ∧ (p7_9 n  (zQ M l0 2) (b11_0 n l1 l2 M).1 (b11_0 n l1 l2 M).2))
theorem s7_0 (n : Nat)    (l0 : Nat) (l1 : Int32) (l2 : Int32) (M : zM) (hp : p7_0 n  l0 l1 l2 M) {Q : Option Value → zM → Prop} (hQ : ∀ r M1, zRI (b7_0 n  l0 l1 l2 M) r M1 → Q r M1) : zWP 7 0 [some (.ref l0), some (.int l1), some (.int l2)] [] M Q := by
  unfold b7_0 at hQ
  unfold p7_0 at hp
  refine wp_go 1 (pc' := 1) (L' := [some (.ref l0), some (.int l1), some (.int l2)]) (st' := [.ref l0]) (M' := M) rfl ?_
  obtain ⟨hc, hp⟩ := hp
  refine wq_getQ (j := 2) rfl hc ?_
  refine wp_go 2 (pc' := 6) (L' := [some (.ref l0), some (.int l1), some (.int l2)]) (st' := [.int l2, .int l1, .ref (zQ M l0 2)]) (M' := M) rfl ?_
  obtain ⟨hc, hp⟩ := hp
  refine wp_calli (v := (b11_0 n l1 l2 M).1) (M1 := (b11_0 n l1 l2 M).2) rfl rfl rfl rfl (s11_0 n l1 l2 M hc (fun r M1 h => h)) ?_
  refine wp_le [none, none, none] (zLe_of (by simp [zLeB])) ?_
  exact s7_9 n    (zQ M l0 2) (b11_0 n l1 l2 M).1 (b11_0 n l1 l2 M).2 hp hQ
/-! X0_turnOf -/
def b8_9 (n : Nat)  (s0 : Nat) (s1 : Int32) (M : zM) : Int32 × zM := (((zI M s0 s1.toNatClampNeg) - (zI M s0 s1.toNatClampNeg) / (24 : Int32) * (24 : Int32)), M)
def p8_9 (n : Nat)  (s0 : Nat) (s1 : Int32) (M : zM) : Prop := (zOkI s0 s1 M) ∧ (True)
theorem s8_9 (n : Nat)    (s0 : Nat) (s1 : Int32) (M : zM) (hp : p8_9 n  s0 s1 M) {Q : Option Value → zM → Prop} (hQ : ∀ r M1, zRI (b8_9 n  s0 s1 M) r M1 → Q r M1) : zWP 8 9 [none, none, none] [.int s1, .ref s0] M Q := by
  unfold b8_9 at hQ
  unfold p8_9 at hp
  obtain ⟨hc, hp⟩ := hp
  refine wq_iald rfl hc ?_
  refine wp_go 1 (pc' := 12) (L' := [none, none, none]) (st' := [.int (24 : Int32), .int (zI M s0 s1.toNatClampNeg)]) (M' := M) rfl ?_
  refine wq_irem rfl (by decide) ?_
  exact wp_ret (r := some (.int ((zI M s0 s1.toNatClampNeg) - (zI M s0 s1.toNatClampNeg) / (24 : Int32) * (24 : Int32)))) rfl rfl (hQ _ _ ⟨rfl, rfl⟩)
def b8_0 (n : Nat)  (l0 : Nat) (l1 : Int32) (l2 : Int32) (M : zM) : Int32 × zM := b8_9 n  (zQ M l0 2) (b11_0 n l1 l2 M).1 (b11_0 n l1 l2 M).2
def p8_0 (n : Nat)  (l0 : Nat) (l1 : Int32) (l2 : Int32) (M : zM) : Prop := (zHasQ 0 18 l0 M 2) ∧ ((p11_0 n l1 l2 M) ∧ (p8_9 n  (zQ M l0 2) (b11_0 n l1 l2 M).1 (b11_0 n l1 l2 M).2))
theorem s8_0 (n : Nat)    (l0 : Nat) (l1 : Int32) (l2 : Int32) (M : zM) (hp : p8_0 n  l0 l1 l2 M) {Q : Option Value → zM → Prop} (hQ : ∀ r M1, zRI (b8_0 n  l0 l1 l2 M) r M1 → Q r M1) : zWP 8 0 [some (.ref l0), some (.int l1), some (.int l2)] [] M Q := by
  unfold b8_0 at hQ
  unfold p8_0 at hp
  refine wp_go 1 (pc' := 1) (L' := [some (.ref l0), some (.int l1), some (.int l2)]) (st' := [.ref l0]) (M' := M) rfl ?_
  obtain ⟨hc, hp⟩ := hp
  refine wq_getQ (j := 2) rfl hc ?_
  refine wp_go 2 (pc' := 6) (L' := [some (.ref l0), some (.int l1), some (.int l2)]) (st' := [.int l2, .int l1, .ref (zQ M l0 2)]) (M' := M) rfl ?_
  obtain ⟨hc, hp⟩ := hp
  refine wp_calli (v := (b11_0 n l1 l2 M).1) (M1 := (b11_0 n l1 l2 M).2) rfl rfl rfl rfl (s11_0 n l1 l2 M hc (fun r M1 h => h)) ?_
  refine wp_le [none, none, none] (zLe_of (by simp [zLeB])) ?_
  exact s8_9 n    (zQ M l0 2) (b11_0 n l1 l2 M).1 (b11_0 n l1 l2 M).2 hp hQ
/-! X0_isSole -/
def b10_25 (n : Nat)  (s0 : Int32) (M : zM) : Int32 × zM := (s0, M)
def p10_25 (n : Nat)  (s0 : Int32) (M : zM) : Prop := zNar .boolean s0 = true
theorem s10_25 (n : Nat)    (s0 : Int32) (M : zM) (hp : p10_25 n  s0 M) {Q : Option Value → zM → Prop} (hQ : ∀ r M1, zRI (b10_25 n  s0 M) r M1 → Q r M1) : zWP 10 25 [none, none, none] [.int s0] M Q := by
  unfold b10_25 at hQ
  unfold p10_25 at hp
  exact wp_retz rfl rfl hp (hQ _ _ ⟨rfl, rfl⟩)
def b10_24 (n : Nat)   (M : zM) : Int32 × zM := b10_25 n  (0 : Int32) M
def p10_24 (n : Nat)   (M : zM) : Prop := p10_25 n  (0 : Int32) M
theorem s10_24 (n : Nat)     (M : zM) (hp : p10_24 n   M) {Q : Option Value → zM → Prop} (hQ : ∀ r M1, zRI (b10_24 n   M) r M1 → Q r M1) : zWP 10 24 [none, none, none] [] M Q := by
  unfold b10_24 at hQ
  unfold p10_24 at hp
  refine wp_go 1 (pc' := 25) (L' := [none, none, none]) (st' := [.int (0 : Int32)]) (M' := M) rfl ?_
  exact s10_25 n    (0 : Int32) M hp hQ
def b10_0 (n : Nat)  (l0 : Nat) (l1 : Int32) (l2 : Int32) (M : zM) : Int32 × zM := (if (zI M (zQ M l0 0) l1.toNatClampNeg) = l2 then (if (zI M (zQ M l0 1) l1.toNatClampNeg) = (1 : Int32) then b10_25 n  (1 : Int32) M else b10_24 n  M) else b10_24 n  M)
def p10_0 (n : Nat)  (l0 : Nat) (l1 : Int32) (l2 : Int32) (M : zM) : Prop := (zHasQ 0 9 l0 M 0) ∧ ((zOkI (zQ M l0 0) l1 M) ∧ ((((zI M (zQ M l0 0) l1.toNatClampNeg) = l2 → (zHasQ 0 15 l0 M 1) ∧ ((zOkI (zQ M l0 1) l1 M) ∧ ((((zI M (zQ M l0 1) l1.toNatClampNeg) = (1 : Int32) → p10_25 n  (1 : Int32) M) ∧ (¬ (zI M (zQ M l0 1) l1.toNatClampNeg) = (1 : Int32) → p10_24 n  M))))) ∧ (¬ (zI M (zQ M l0 0) l1.toNatClampNeg) = l2 → p10_24 n  M))))
theorem s10_0 (n : Nat)    (l0 : Nat) (l1 : Int32) (l2 : Int32) (M : zM) (hp : p10_0 n  l0 l1 l2 M) {Q : Option Value → zM → Prop} (hQ : ∀ r M1, zRI (b10_0 n  l0 l1 l2 M) r M1 → Q r M1) : zWP 10 0 [some (.ref l0), some (.int l1), some (.int l2)] [] M Q := by
  unfold b10_0 at hQ
  unfold p10_0 at hp
  refine wp_go 1 (pc' := 1) (L' := [some (.ref l0), some (.int l1), some (.int l2)]) (st' := [.ref l0]) (M' := M) rfl ?_
  obtain ⟨hc, hp⟩ := hp
  refine wq_getQ (j := 0) rfl hc ?_
  refine wp_go 1 (pc' := 5) (L' := [some (.ref l0), some (.int l1), some (.int l2)]) (st' := [.int l1, .ref (zQ M l0 0)]) (M' := M) rfl ?_
  obtain ⟨hc, hp⟩ := hp
  refine wq_iald rfl hc ?_
  refine wp_go 1 (pc' := 7) (L' := [some (.ref l0), some (.int l1), some (.int l2)]) (st' := [.int l2, .int (zI M (zQ M l0 0) l1.toNatClampNeg)]) (M' := M) rfl ?_
  refine wp_ic_ne (t := 24) rfl rfl (fun hc => ?_) (fun hc => ?_)
  · rw [if_neg hc] at hQ
    replace hp := hp.2 hc
    refine wp_le [none, none, none] (zLe_of (by simp [zLeB])) ?_
    exact s10_24 n    M hp hQ
  · rw [if_pos hc] at hQ
    replace hp := hp.1 hc
    refine wp_go 1 (pc' := 11) (L' := [some (.ref l0), some (.int l1), some (.int l2)]) (st' := [.ref l0]) (M' := M) rfl ?_
    obtain ⟨hc, hp⟩ := hp
    refine wq_getQ (j := 1) rfl hc ?_
    refine wp_go 1 (pc' := 15) (L' := [some (.ref l0), some (.int l1), some (.int l2)]) (st' := [.int l1, .ref (zQ M l0 1)]) (M' := M) rfl ?_
    obtain ⟨hc, hp⟩ := hp
    refine wq_iald rfl hc ?_
    refine wp_go 1 (pc' := 17) (L' := [some (.ref l0), some (.int l1), some (.int l2)]) (st' := [.int (1 : Int32), .int (zI M (zQ M l0 1) l1.toNatClampNeg)]) (M' := M) rfl ?_
    refine wp_ic_ne (t := 24) rfl rfl (fun hc => ?_) (fun hc => ?_)
    · rw [if_neg hc] at hQ
      replace hp := hp.2 hc
      refine wp_le [none, none, none] (zLe_of (by simp [zLeB])) ?_
      exact s10_24 n    M hp hQ
    · rw [if_pos hc] at hQ
      replace hp := hp.1 hc
      refine wp_go 2 (pc' := 25) (L' := [some (.ref l0), some (.int l1), some (.int l2)]) (st' := [.int (1 : Int32)]) (M' := M) rfl ?_
      refine wp_le [none, none, none] (zLe_of (by simp [zLeB])) ?_
      exact s10_25 n    (1 : Int32) M hp hQ
/-! X0_areAllOf -/
def b9_56 (n : Nat)   (M : zM) : Int32 × zM := ((0 : Int32), M)
def p9_56 (n : Nat)   (M : zM) : Prop := True
theorem s9_56 (n : Nat)     (M : zM) (hp : p9_56 n   M) {Q : Option Value → zM → Prop} (hQ : ∀ r M1, zRI (b9_56 n   M) r M1 → Q r M1) : zWP 9 56 [none, none, none] [] M Q := by
  unfold b9_56 at hQ
  unfold p9_56 at hp
  refine wp_go 1 (pc' := 57) (L' := [none, none, none]) (st' := [.int (0 : Int32)]) (M' := M) rfl ?_
  exact wp_ret (r := some (.int (0 : Int32))) rfl rfl (hQ _ _ ⟨rfl, rfl⟩)
def b9_53 (n : Nat) (k2 : Nat → Nat → Int32 → zM → Int32 × zM) (l0 : Nat) (l1 : Nat) (l2 : Int32) (s0 : Int32) (M : zM) : Int32 × zM := (if s0 = 0 then b9_56 n  M else k2 l0 l1 (l2 + Int32.ofInt 1) M)
def p9_53 (n : Nat) (q2 : Nat → Nat → Int32 → zM → Prop) (l0 : Nat) (l1 : Nat) (l2 : Int32) (s0 : Int32) (M : zM) : Prop := ((s0 = 0 → p9_56 n  M) ∧ (¬ s0 = 0 → q2 l0 l1 (l2 + Int32.ofInt 1) M))
theorem s9_53 (n : Nat) (k2 : Nat → Nat → Int32 → zM → Int32 × zM) (q2 : Nat → Nat → Int32 → zM → Prop) (h2 : ∀ (l0 : Nat) (l1 : Nat) (l2 : Int32) (M : zM), q2 l0 l1 l2 M → ∀ {Q : Option Value → zM → Prop}, (∀ r M1, zRI (k2 l0 l1 l2 M) r M1 → Q r M1) → zWP 9 2 [some (.ref l0), some (.ref l1), some (.int l2)] [] M Q) (l0 : Nat) (l1 : Nat) (l2 : Int32) (s0 : Int32) (M : zM) (hp : p9_53 n q2 l0 l1 l2 s0 M) {Q : Option Value → zM → Prop} (hQ : ∀ r M1, zRI (b9_53 n k2 l0 l1 l2 s0 M) r M1 → Q r M1) : zWP 9 53 [some (.ref l0), some (.ref l1), some (.int l2)] [.int s0] M Q := by
  unfold b9_53 at hQ
  unfold p9_53 at hp
  refine wp_if_ne (t := 58) rfl rfl (fun hc => ?_) (fun hc => ?_)
  · rw [if_neg hc] at hQ
    replace hp := hp.2 hc
    refine wp_go 2 (pc' := 2) (L' := [some (.ref l0), some (.ref l1), some (.int (l2 + Int32.ofInt 1))]) (st' := []) (M' := M) rfl ?_
    exact h2 l0 l1 (l2 + Int32.ofInt 1) M hp hQ
  · rw [if_pos hc] at hQ
    replace hp := hp.1 hc
    refine wp_le [none, none, none] (zLe_of (by simp [zLeB])) ?_
    exact s9_56 n    M hp hQ
def b9_46 (n : Nat) (k2 : Nat → Nat → Int32 → zM → Int32 × zM) (l0 : Nat) (l1 : Nat) (l2 : Int32) (s0 : Nat) (s1 : Int32) (M : zM) : Int32 × zM := b9_53 n k2 l0 l1 l2 (b10_0 n s0 s1 (zI M l1 8) M).1 (b10_0 n s0 s1 (zI M l1 8) M).2
def p9_46 (n : Nat) (q2 : Nat → Nat → Int32 → zM → Prop) (l0 : Nat) (l1 : Nat) (l2 : Int32) (s0 : Nat) (s1 : Int32) (M : zM) : Prop := (zHasI 0 44 l1 M 8) ∧ ((zHasC 9 67 s0 M 10 2) ∧ ((p10_0 n s0 s1 (zI M l1 8) M) ∧ (p9_53 n q2 l0 l1 l2 (b10_0 n s0 s1 (zI M l1 8) M).1 (b10_0 n s0 s1 (zI M l1 8) M).2)))
theorem s9_46 (n : Nat) (k2 : Nat → Nat → Int32 → zM → Int32 × zM) (q2 : Nat → Nat → Int32 → zM → Prop) (h2 : ∀ (l0 : Nat) (l1 : Nat) (l2 : Int32) (M : zM), q2 l0 l1 l2 M → ∀ {Q : Option Value → zM → Prop}, (∀ r M1, zRI (k2 l0 l1 l2 M) r M1 → Q r M1) → zWP 9 2 [some (.ref l0), some (.ref l1), some (.int l2)] [] M Q) (l0 : Nat) (l1 : Nat) (l2 : Int32) (s0 : Nat) (s1 : Int32) (M : zM) (hp : p9_46 n q2 l0 l1 l2 s0 s1 M) {Q : Option Value → zM → Prop} (hQ : ∀ r M1, zRI (b9_46 n k2 l0 l1 l2 s0 s1 M) r M1 → Q r M1) : zWP 9 46 [some (.ref l0), some (.ref l1), some (.int l2)] [.int s1, .ref s0] M Q := by
  unfold b9_46 at hQ
  unfold p9_46 at hp
  refine wp_go 1 (pc' := 47) (L' := [some (.ref l0), some (.ref l1), some (.int l2)]) (st' := [.ref l1, .int s1, .ref s0]) (M' := M) rfl ?_
  obtain ⟨hc, hp⟩ := hp
  refine wq_getI (j := 8) rfl hc ?_
  obtain ⟨hv, hp⟩ := hp
  obtain ⟨hc, hp⟩ := hp
  refine wp_calli (v := (b10_0 n s0 s1 (zI M l1 8) M).1) (M1 := (b10_0 n s0 s1 (zI M l1 8) M).2) rfl rfl rfl (zInv_v (np := 2) rfl rfl hv rfl) (s10_0 n s0 s1 (zI M l1 8) M hc (fun r M1 h => h)) ?_
  exact s9_53 n k2 q2 h2 l0 l1 l2 (b10_0 n s0 s1 (zI M l1 8) M).1 (b10_0 n s0 s1 (zI M l1 8) M).2 hp hQ
def b9_43 (n : Nat) (k2 : Nat → Nat → Int32 → zM → Int32 × zM) (l0 : Nat) (l1 : Nat) (l2 : Int32) (s0 : Nat) (s1 : Int32) (s2 : Int32) (M : zM) : Int32 × zM := b9_46 n k2 l0 l1 l2 s0 (b11_0 n s1 s2 M).1 (b11_0 n s1 s2 M).2
def p9_43 (n : Nat) (q2 : Nat → Nat → Int32 → zM → Prop) (l0 : Nat) (l1 : Nat) (l2 : Int32) (s0 : Nat) (s1 : Int32) (s2 : Int32) (M : zM) : Prop := (p11_0 n s1 s2 M) ∧ (p9_46 n q2 l0 l1 l2 s0 (b11_0 n s1 s2 M).1 (b11_0 n s1 s2 M).2)
theorem s9_43 (n : Nat) (k2 : Nat → Nat → Int32 → zM → Int32 × zM) (q2 : Nat → Nat → Int32 → zM → Prop) (h2 : ∀ (l0 : Nat) (l1 : Nat) (l2 : Int32) (M : zM), q2 l0 l1 l2 M → ∀ {Q : Option Value → zM → Prop}, (∀ r M1, zRI (k2 l0 l1 l2 M) r M1 → Q r M1) → zWP 9 2 [some (.ref l0), some (.ref l1), some (.int l2)] [] M Q) (l0 : Nat) (l1 : Nat) (l2 : Int32) (s0 : Nat) (s1 : Int32) (s2 : Int32) (M : zM) (hp : p9_43 n q2 l0 l1 l2 s0 s1 s2 M) {Q : Option Value → zM → Prop} (hQ : ∀ r M1, zRI (b9_43 n k2 l0 l1 l2 s0 s1 s2 M) r M1 → Q r M1) : zWP 9 43 [some (.ref l0), some (.ref l1), some (.int l2)] [.int s2, .int s1, .ref s0] M Q := by
  unfold b9_43 at hQ
  unfold p9_43 at hp
  obtain ⟨hc, hp⟩ := hp
  refine wp_calli (v := (b11_0 n s1 s2 M).1) (M1 := (b11_0 n s1 s2 M).2) rfl rfl rfl rfl (s11_0 n s1 s2 M hc (fun r M1 h => h)) ?_
  exact s9_46 n k2 q2 h2 l0 l1 l2 s0 (b11_0 n s1 s2 M).1 (b11_0 n s1 s2 M).2 hp hQ
def b9_30 (n : Nat) (k2 : Nat → Nat → Int32 → zM → Int32 × zM) (l0 : Nat) (l1 : Nat) (l2 : Int32) (s0 : Int32) (M : zM) : Int32 × zM := (if s0 = 0 then b9_56 n  M else b9_43 n k2 l0 l1 l2 l0 (zI M l1 2) (b40_0 n l1 l2 M).1 (b40_0 n l1 l2 M).2)
def p9_30 (n : Nat) (q2 : Nat → Nat → Int32 → zM → Prop) (l0 : Nat) (l1 : Nat) (l2 : Int32) (s0 : Int32) (M : zM) : Prop := ((s0 = 0 → p9_56 n  M) ∧ (¬ s0 = 0 → (zHasI 0 55 l1 M 2) ∧ ((zHasC 9 58 l1 M 40 1) ∧ ((p40_0 n l1 l2 M) ∧ (p9_43 n q2 l0 l1 l2 l0 (zI M l1 2) (b40_0 n l1 l2 M).1 (b40_0 n l1 l2 M).2)))))
theorem s9_30 (n : Nat) (k2 : Nat → Nat → Int32 → zM → Int32 × zM) (q2 : Nat → Nat → Int32 → zM → Prop) (h2 : ∀ (l0 : Nat) (l1 : Nat) (l2 : Int32) (M : zM), q2 l0 l1 l2 M → ∀ {Q : Option Value → zM → Prop}, (∀ r M1, zRI (k2 l0 l1 l2 M) r M1 → Q r M1) → zWP 9 2 [some (.ref l0), some (.ref l1), some (.int l2)] [] M Q) (l0 : Nat) (l1 : Nat) (l2 : Int32) (s0 : Int32) (M : zM) (hp : p9_30 n q2 l0 l1 l2 s0 M) {Q : Option Value → zM → Prop} (hQ : ∀ r M1, zRI (b9_30 n k2 l0 l1 l2 s0 M) r M1 → Q r M1) : zWP 9 30 [some (.ref l0), some (.ref l1), some (.int l2)] [.int s0] M Q := by
  unfold b9_30 at hQ
  unfold p9_30 at hp
  refine wp_if_eq (t := 56) rfl rfl (fun hc => ?_) (fun hc => ?_)
  · rw [if_pos hc] at hQ
    replace hp := hp.1 hc
    refine wp_le [none, none, none] (zLe_of (by simp [zLeB])) ?_
    exact s9_56 n    M hp hQ
  · rw [if_neg hc] at hQ
    replace hp := hp.2 hc
    refine wp_go 2 (pc' := 35) (L' := [some (.ref l0), some (.ref l1), some (.int l2)]) (st' := [.ref l1, .ref l0]) (M' := M) rfl ?_
    obtain ⟨hc, hp⟩ := hp
    refine wq_getI (j := 2) rfl hc ?_
    refine wp_go 2 (pc' := 40) (L' := [some (.ref l0), some (.ref l1), some (.int l2)]) (st' := [.int l2, .ref l1, .int (zI M l1 2), .ref l0]) (M' := M) rfl ?_
    obtain ⟨hv, hp⟩ := hp
    obtain ⟨hc, hp⟩ := hp
    refine wp_calli (v := (b40_0 n l1 l2 M).1) (M1 := (b40_0 n l1 l2 M).2) rfl rfl rfl (zInv_v (np := 1) rfl rfl hv rfl) (s40_0 n l1 l2 M hc (fun r M1 h => h)) ?_
    exact s9_43 n k2 q2 h2 l0 l1 l2 l0 (zI M l1 2) (b40_0 n l1 l2 M).1 (b40_0 n l1 l2 M).2 hp hQ
def b9_23 (n : Nat) (k2 : Nat → Nat → Int32 → zM → Int32 × zM) (l0 : Nat) (l1 : Nat) (l2 : Int32) (s0 : Nat) (s1 : Int32) (M : zM) : Int32 × zM := b9_30 n k2 l0 l1 l2 (b10_0 n s0 s1 (zI M l1 8) M).1 (b10_0 n s0 s1 (zI M l1 8) M).2
def p9_23 (n : Nat) (q2 : Nat → Nat → Int32 → zM → Prop) (l0 : Nat) (l1 : Nat) (l2 : Int32) (s0 : Nat) (s1 : Int32) (M : zM) : Prop := (zHasI 0 44 l1 M 8) ∧ ((zHasC 9 67 s0 M 10 2) ∧ ((p10_0 n s0 s1 (zI M l1 8) M) ∧ (p9_30 n q2 l0 l1 l2 (b10_0 n s0 s1 (zI M l1 8) M).1 (b10_0 n s0 s1 (zI M l1 8) M).2)))
theorem s9_23 (n : Nat) (k2 : Nat → Nat → Int32 → zM → Int32 × zM) (q2 : Nat → Nat → Int32 → zM → Prop) (h2 : ∀ (l0 : Nat) (l1 : Nat) (l2 : Int32) (M : zM), q2 l0 l1 l2 M → ∀ {Q : Option Value → zM → Prop}, (∀ r M1, zRI (k2 l0 l1 l2 M) r M1 → Q r M1) → zWP 9 2 [some (.ref l0), some (.ref l1), some (.int l2)] [] M Q) (l0 : Nat) (l1 : Nat) (l2 : Int32) (s0 : Nat) (s1 : Int32) (M : zM) (hp : p9_23 n q2 l0 l1 l2 s0 s1 M) {Q : Option Value → zM → Prop} (hQ : ∀ r M1, zRI (b9_23 n k2 l0 l1 l2 s0 s1 M) r M1 → Q r M1) : zWP 9 23 [some (.ref l0), some (.ref l1), some (.int l2)] [.int s1, .ref s0] M Q := by
  unfold b9_23 at hQ
  unfold p9_23 at hp
  refine wp_go 1 (pc' := 24) (L' := [some (.ref l0), some (.ref l1), some (.int l2)]) (st' := [.ref l1, .int s1, .ref s0]) (M' := M) rfl ?_
  obtain ⟨hc, hp⟩ := hp
  refine wq_getI (j := 8) rfl hc ?_
  obtain ⟨hv, hp⟩ := hp
  obtain ⟨hc, hp⟩ := hp
  refine wp_calli (v := (b10_0 n s0 s1 (zI M l1 8) M).1) (M1 := (b10_0 n s0 s1 (zI M l1 8) M).2) rfl rfl rfl (zInv_v (np := 2) rfl rfl hv rfl) (s10_0 n s0 s1 (zI M l1 8) M hc (fun r M1 h => h)) ?_
  exact s9_30 n k2 q2 h2 l0 l1 l2 (b10_0 n s0 s1 (zI M l1 8) M).1 (b10_0 n s0 s1 (zI M l1 8) M).2 hp hQ
def b9_20 (n : Nat) (k2 : Nat → Nat → Int32 → zM → Int32 × zM) (l0 : Nat) (l1 : Nat) (l2 : Int32) (s0 : Nat) (s1 : Int32) (s2 : Int32) (M : zM) : Int32 × zM := b9_23 n k2 l0 l1 l2 s0 (b11_0 n s1 s2 M).1 (b11_0 n s1 s2 M).2
def p9_20 (n : Nat) (q2 : Nat → Nat → Int32 → zM → Prop) (l0 : Nat) (l1 : Nat) (l2 : Int32) (s0 : Nat) (s1 : Int32) (s2 : Int32) (M : zM) : Prop := (p11_0 n s1 s2 M) ∧ (p9_23 n q2 l0 l1 l2 s0 (b11_0 n s1 s2 M).1 (b11_0 n s1 s2 M).2)
theorem s9_20 (n : Nat) (k2 : Nat → Nat → Int32 → zM → Int32 × zM) (q2 : Nat → Nat → Int32 → zM → Prop) (h2 : ∀ (l0 : Nat) (l1 : Nat) (l2 : Int32) (M : zM), q2 l0 l1 l2 M → ∀ {Q : Option Value → zM → Prop}, (∀ r M1, zRI (k2 l0 l1 l2 M) r M1 → Q r M1) → zWP 9 2 [some (.ref l0), some (.ref l1), some (.int l2)] [] M Q) (l0 : Nat) (l1 : Nat) (l2 : Int32) (s0 : Nat) (s1 : Int32) (s2 : Int32) (M : zM) (hp : p9_20 n q2 l0 l1 l2 s0 s1 s2 M) {Q : Option Value → zM → Prop} (hQ : ∀ r M1, zRI (b9_20 n k2 l0 l1 l2 s0 s1 s2 M) r M1 → Q r M1) : zWP 9 20 [some (.ref l0), some (.ref l1), some (.int l2)] [.int s2, .int s1, .ref s0] M Q := by
  unfold b9_20 at hQ
  unfold p9_20 at hp
  obtain ⟨hc, hp⟩ := hp
  refine wp_calli (v := (b11_0 n s1 s2 M).1) (M1 := (b11_0 n s1 s2 M).2) rfl rfl rfl rfl (s11_0 n s1 s2 M hc (fun r M1 h => h)) ?_
  exact s9_23 n k2 q2 h2 l0 l1 l2 s0 (b11_0 n s1 s2 M).1 (b11_0 n s1 s2 M).2 hp hQ
def c9_2 (n : Nat) (k2 : Nat → Nat → Int32 → zM → Int32 × zM) (l0 : Nat) (l1 : Nat) (l2 : Int32) (M : zM) : Int32 × zM := (if (zI M l1 5) ≤ l2 then ((1 : Int32), M) else b9_20 n k2 l0 l1 l2 l0 (zI M l1 0) (b39_0 n l1 l2 M).1 (b39_0 n l1 l2 M).2)
def d9_2 (n : Nat) (q2 : Nat → Nat → Int32 → zM → Prop) (l0 : Nat) (l1 : Nat) (l2 : Int32) (M : zM) : Prop := (zHasI 0 27 l1 M 5) ∧ ((((zI M l1 5) ≤ l2 → True) ∧ (¬ (zI M l1 5) ≤ l2 → (zHasI 0 33 l1 M 0) ∧ ((zHasC 9 36 l1 M 39 1) ∧ ((p39_0 n l1 l2 M) ∧ (p9_20 n q2 l0 l1 l2 l0 (zI M l1 0) (b39_0 n l1 l2 M).1 (b39_0 n l1 l2 M).2))))))
theorem t9_2 (n : Nat) (k2 : Nat → Nat → Int32 → zM → Int32 × zM) (q2 : Nat → Nat → Int32 → zM → Prop) (h2 : ∀ (l0 : Nat) (l1 : Nat) (l2 : Int32) (M : zM), q2 l0 l1 l2 M → ∀ {Q : Option Value → zM → Prop}, (∀ r M1, zRI (k2 l0 l1 l2 M) r M1 → Q r M1) → zWP 9 2 [some (.ref l0), some (.ref l1), some (.int l2)] [] M Q) (l0 : Nat) (l1 : Nat) (l2 : Int32) (M : zM) (hp : d9_2 n q2 l0 l1 l2 M) {Q : Option Value → zM → Prop} (hQ : ∀ r M1, zRI (c9_2 n k2 l0 l1 l2 M) r M1 → Q r M1) : zWP 9 2 [some (.ref l0), some (.ref l1), some (.int l2)] [] M Q := by
  unfold c9_2 at hQ
  unfold d9_2 at hp
  refine wp_go 2 (pc' := 4) (L' := [some (.ref l0), some (.ref l1), some (.int l2)]) (st' := [.ref l1, .int l2]) (M' := M) rfl ?_
  obtain ⟨hc, hp⟩ := hp
  refine wq_getI (j := 5) rfl hc ?_
  refine wp_ic_ge (t := 64) rfl rfl (fun hc => ?_) (fun hc => ?_)
  · rw [if_pos hc] at hQ
    replace hp := hp.1 hc
    refine wp_go 1 (pc' := 65) (L' := [some (.ref l0), some (.ref l1), some (.int l2)]) (st' := [.int (1 : Int32)]) (M' := M) rfl ?_
    exact wp_ret (r := some (.int (1 : Int32))) rfl rfl (hQ _ _ ⟨rfl, rfl⟩)
  · rw [if_neg hc] at hQ
    replace hp := hp.2 hc
    refine wp_go 2 (pc' := 12) (L' := [some (.ref l0), some (.ref l1), some (.int l2)]) (st' := [.ref l1, .ref l0]) (M' := M) rfl ?_
    obtain ⟨hc, hp⟩ := hp
    refine wq_getI (j := 0) rfl hc ?_
    refine wp_go 2 (pc' := 17) (L' := [some (.ref l0), some (.ref l1), some (.int l2)]) (st' := [.int l2, .ref l1, .int (zI M l1 0), .ref l0]) (M' := M) rfl ?_
    obtain ⟨hv, hp⟩ := hp
    obtain ⟨hc, hp⟩ := hp
    refine wp_calli (v := (b39_0 n l1 l2 M).1) (M1 := (b39_0 n l1 l2 M).2) rfl rfl rfl (zInv_v (np := 1) rfl rfl hv rfl) (s39_0 n l1 l2 M hc (fun r M1 h => h)) ?_
    exact s9_20 n k2 q2 h2 l0 l1 l2 l0 (zI M l1 0) (b39_0 n l1 l2 M).1 (b39_0 n l1 l2 M).2 hp hQ
def b9_2 (n : Nat)  : Nat → Nat → Nat → Int32 → zM → Int32 × zM
  | 0, _, _, _, M => (0, M)
  | k + 1, l0, l1, l2, M => c9_2 n  (b9_2 n  k) l0 l1 l2 M
def p9_2 (n : Nat)  : Nat → Nat → Nat → Int32 → zM → Prop
  | 0, _, _, _, _ => False
  | k + 1, l0, l1, l2, M => d9_2 n  (p9_2 n  k) l0 l1 l2 M
theorem s9_2 (n : Nat)    : ∀ (k : Nat) (l0 : Nat) (l1 : Nat) (l2 : Int32) (M : zM), p9_2 n  k l0 l1 l2 M → ∀ {Q : Option Value → zM → Prop}, (∀ r M1, zRI (b9_2 n  k l0 l1 l2 M) r M1 → Q r M1) → zWP 9 2 [some (.ref l0), some (.ref l1), some (.int l2)] [] M Q
  | 0, _, _, _, _, h, _, _ => h.elim
  | k + 1, l0, l1, l2, M, h, _, hQ => t9_2 n  (b9_2 n  k)  (p9_2 n  k)  (s9_2 n    k) l0 l1 l2 M h hQ
def b9_0 (n : Nat)  (l0 : Nat) (l1 : Nat) (M : zM) : Int32 × zM := b9_2 n  n l0 l1 (0 : Int32) M
def p9_0 (n : Nat)  (l0 : Nat) (l1 : Nat) (M : zM) : Prop := p9_2 n  n l0 l1 (0 : Int32) M
theorem s9_0 (n : Nat)    (l0 : Nat) (l1 : Nat) (M : zM) (hp : p9_0 n  l0 l1 M) {Q : Option Value → zM → Prop} (hQ : ∀ r M1, zRI (b9_0 n  l0 l1 M) r M1 → Q r M1) : zWP 9 0 [some (.ref l0), some (.ref l1), none] [] M Q := by
  unfold b9_0 at hQ
  unfold p9_0 at hp
  refine wp_go 2 (pc' := 2) (L' := [some (.ref l0), some (.ref l1), some (.int (0 : Int32))]) (st' := []) (M' := M) rfl ?_
  exact s9_2 n    n l0 l1 (0 : Int32) M hp hQ
/-! X2_has -/
def b14_27 (n : Nat)  (s0 : Int32) (M : zM) : Int32 × zM := (s0, M)
def p14_27 (n : Nat)  (s0 : Int32) (M : zM) : Prop := zNar .boolean s0 = true
theorem s14_27 (n : Nat)    (s0 : Int32) (M : zM) (hp : p14_27 n  s0 M) {Q : Option Value → zM → Prop} (hQ : ∀ r M1, zRI (b14_27 n  s0 M) r M1 → Q r M1) : zWP 14 27 [none, none] [.int s0] M Q := by
  unfold b14_27 at hQ
  unfold p14_27 at hp
  exact wp_retz rfl rfl hp (hQ _ _ ⟨rfl, rfl⟩)
def b14_26 (n : Nat)   (M : zM) : Int32 × zM := b14_27 n  (0 : Int32) M
def p14_26 (n : Nat)   (M : zM) : Prop := p14_27 n  (0 : Int32) M
theorem s14_26 (n : Nat)     (M : zM) (hp : p14_26 n   M) {Q : Option Value → zM → Prop} (hQ : ∀ r M1, zRI (b14_26 n   M) r M1 → Q r M1) : zWP 14 26 [none, none] [] M Q := by
  unfold b14_26 at hQ
  unfold p14_26 at hp
  refine wp_go 1 (pc' := 27) (L' := [none, none]) (st' := [.int (0 : Int32)]) (M' := M) rfl ?_
  exact s14_27 n    (0 : Int32) M hp hQ
def b14_0 (n : Nat)  (l0 : Nat) (l1 : Int32) (M : zM) : Int32 × zM := (if l1 < 0 then b14_26 n  M else (if (40 : Int32) ≤ l1 then b14_26 n  M else (if (zI M (zQ M (zQ M l0 0) l1.toNatClampNeg) 9) = 0 then b14_26 n  M else b14_27 n  (1 : Int32) M)))
def p14_0 (n : Nat)  (l0 : Nat) (l1 : Int32) (M : zM) : Prop := ((l1 < 0 → p14_26 n  M) ∧ (¬ l1 < 0 → (((40 : Int32) ≤ l1 → p14_26 n  M) ∧ (¬ (40 : Int32) ≤ l1 → (zHasQ 2 11 l0 M 0) ∧ ((zOkR (zQ M l0 0) l1 M) ∧ ((zHasI 2 25 (zQ M (zQ M l0 0) l1.toNatClampNeg) M 9) ∧ ((((zI M (zQ M (zQ M l0 0) l1.toNatClampNeg) 9) = 0 → p14_26 n  M) ∧ (¬ (zI M (zQ M (zQ M l0 0) l1.toNatClampNeg) 9) = 0 → p14_27 n  (1 : Int32) M)))))))))
theorem s14_0 (n : Nat)    (l0 : Nat) (l1 : Int32) (M : zM) (hp : p14_0 n  l0 l1 M) {Q : Option Value → zM → Prop} (hQ : ∀ r M1, zRI (b14_0 n  l0 l1 M) r M1 → Q r M1) : zWP 14 0 [some (.ref l0), some (.int l1)] [] M Q := by
  unfold b14_0 at hQ
  unfold p14_0 at hp
  refine wp_go 1 (pc' := 1) (L' := [some (.ref l0), some (.int l1)]) (st' := [.int l1]) (M' := M) rfl ?_
  refine wp_if_lt (t := 26) rfl rfl (fun hc => ?_) (fun hc => ?_)
  · rw [if_pos hc] at hQ
    replace hp := hp.1 hc
    refine wp_le [none, none] (zLe_of (by simp [zLeB])) ?_
    exact s14_26 n    M hp hQ
  · rw [if_neg hc] at hQ
    replace hp := hp.2 hc
    refine wp_go 2 (pc' := 7) (L' := [some (.ref l0), some (.int l1)]) (st' := [.int (40 : Int32), .int l1]) (M' := M) rfl ?_
    refine wp_ic_ge (t := 26) rfl rfl (fun hc => ?_) (fun hc => ?_)
    · rw [if_pos hc] at hQ
      replace hp := hp.1 hc
      refine wp_le [none, none] (zLe_of (by simp [zLeB])) ?_
      exact s14_26 n    M hp hQ
    · rw [if_neg hc] at hQ
      replace hp := hp.2 hc
      refine wp_go 1 (pc' := 11) (L' := [some (.ref l0), some (.int l1)]) (st' := [.ref l0]) (M' := M) rfl ?_
      obtain ⟨hc, hp⟩ := hp
      refine wq_getQ (j := 0) rfl hc ?_
      refine wp_go 1 (pc' := 15) (L' := [some (.ref l0), some (.int l1)]) (st' := [.int l1, .ref (zQ M l0 0)]) (M' := M) rfl ?_
      obtain ⟨hc, hp⟩ := hp
      refine wq_aald rfl hc ?_
      obtain ⟨hc, hp⟩ := hp
      refine wq_getI (j := 9) rfl hc ?_
      refine wp_if_eq (t := 26) rfl rfl (fun hc => ?_) (fun hc => ?_)
      · rw [if_pos hc] at hQ
        replace hp := hp.1 hc
        refine wp_le [none, none] (zLe_of (by simp [zLeB])) ?_
        exact s14_26 n    M hp hQ
      · rw [if_neg hc] at hQ
        replace hp := hp.2 hc
        refine wp_go 2 (pc' := 27) (L' := [some (.ref l0), some (.int l1)]) (st' := [.int (1 : Int32)]) (M' := M) rfl ?_
        refine wp_le [none, none] (zLe_of (by simp [zLeB])) ?_
        exact s14_27 n    (1 : Int32) M hp hQ
/-! X2_firstFree -/
def b15_13 (n : Nat) (k2 : Nat → Int32 → zM → Int32 × zM) (l0 : Nat) (l1 : Int32) (s0 : Int32) (M : zM) : Int32 × zM := (if s0 = 0 then (l1, M) else k2 l0 (l1 + Int32.ofInt 1) M)
def p15_13 (n : Nat) (q2 : Nat → Int32 → zM → Prop) (l0 : Nat) (l1 : Int32) (s0 : Int32) (M : zM) : Prop := ((s0 = 0 → True) ∧ (¬ s0 = 0 → q2 l0 (l1 + Int32.ofInt 1) M))
theorem s15_13 (n : Nat) (k2 : Nat → Int32 → zM → Int32 × zM) (q2 : Nat → Int32 → zM → Prop) (h2 : ∀ (l0 : Nat) (l1 : Int32) (M : zM), q2 l0 l1 M → ∀ {Q : Option Value → zM → Prop}, (∀ r M1, zRI (k2 l0 l1 M) r M1 → Q r M1) → zWP 15 2 [some (.ref l0), some (.int l1)] [] M Q) (l0 : Nat) (l1 : Int32) (s0 : Int32) (M : zM) (hp : p15_13 n q2 l0 l1 s0 M) {Q : Option Value → zM → Prop} (hQ : ∀ r M1, zRI (b15_13 n k2 l0 l1 s0 M) r M1 → Q r M1) : zWP 15 13 [some (.ref l0), some (.int l1)] [.int s0] M Q := by
  unfold b15_13 at hQ
  unfold p15_13 at hp
  refine wp_if_ne (t := 18) rfl rfl (fun hc => ?_) (fun hc => ?_)
  · rw [if_neg hc] at hQ
    replace hp := hp.2 hc
    refine wp_go 2 (pc' := 2) (L' := [some (.ref l0), some (.int (l1 + Int32.ofInt 1))]) (st' := []) (M' := M) rfl ?_
    exact h2 l0 (l1 + Int32.ofInt 1) M hp hQ
  · rw [if_pos hc] at hQ
    replace hp := hp.1 hc
    refine wp_go 1 (pc' := 17) (L' := [some (.ref l0), some (.int l1)]) (st' := [.int l1]) (M' := M) rfl ?_
    exact wp_ret (r := some (.int l1)) rfl rfl (hQ _ _ ⟨rfl, rfl⟩)
def c15_2 (n : Nat) (k2 : Nat → Int32 → zM → Int32 × zM) (l0 : Nat) (l1 : Int32) (M : zM) : Int32 × zM := (if (40 : Int32) ≤ l1 then (((-1) : Int32), M) else b15_13 n k2 l0 l1 (b14_0 n l0 l1 M).1 (b14_0 n l0 l1 M).2)
def d15_2 (n : Nat) (q2 : Nat → Int32 → zM → Prop) (l0 : Nat) (l1 : Int32) (M : zM) : Prop := (((40 : Int32) ≤ l1 → True) ∧ (¬ (40 : Int32) ≤ l1 → (zHasC 15 28 l0 M 14 1) ∧ ((p14_0 n l0 l1 M) ∧ (p15_13 n q2 l0 l1 (b14_0 n l0 l1 M).1 (b14_0 n l0 l1 M).2))))
theorem t15_2 (n : Nat) (k2 : Nat → Int32 → zM → Int32 × zM) (q2 : Nat → Int32 → zM → Prop) (h2 : ∀ (l0 : Nat) (l1 : Int32) (M : zM), q2 l0 l1 M → ∀ {Q : Option Value → zM → Prop}, (∀ r M1, zRI (k2 l0 l1 M) r M1 → Q r M1) → zWP 15 2 [some (.ref l0), some (.int l1)] [] M Q) (l0 : Nat) (l1 : Int32) (M : zM) (hp : d15_2 n q2 l0 l1 M) {Q : Option Value → zM → Prop} (hQ : ∀ r M1, zRI (c15_2 n k2 l0 l1 M) r M1 → Q r M1) : zWP 15 2 [some (.ref l0), some (.int l1)] [] M Q := by
  unfold c15_2 at hQ
  unfold d15_2 at hp
  refine wp_go 2 (pc' := 5) (L' := [some (.ref l0), some (.int l1)]) (st' := [.int (40 : Int32), .int l1]) (M' := M) rfl ?_
  refine wp_ic_ge (t := 24) rfl rfl (fun hc => ?_) (fun hc => ?_)
  · rw [if_pos hc] at hQ
    replace hp := hp.1 hc
    refine wp_go 1 (pc' := 25) (L' := [some (.ref l0), some (.int l1)]) (st' := [.int ((-1) : Int32)]) (M' := M) rfl ?_
    exact wp_ret (r := some (.int ((-1) : Int32))) rfl rfl (hQ _ _ ⟨rfl, rfl⟩)
  · rw [if_neg hc] at hQ
    replace hp := hp.2 hc
    refine wp_go 2 (pc' := 10) (L' := [some (.ref l0), some (.int l1)]) (st' := [.int l1, .ref l0]) (M' := M) rfl ?_
    obtain ⟨hv, hp⟩ := hp
    obtain ⟨hc, hp⟩ := hp
    refine wp_calli (v := (b14_0 n l0 l1 M).1) (M1 := (b14_0 n l0 l1 M).2) rfl rfl rfl (zInv_v (np := 1) rfl rfl hv rfl) (s14_0 n l0 l1 M hc (fun r M1 h => h)) ?_
    exact s15_13 n k2 q2 h2 l0 l1 (b14_0 n l0 l1 M).1 (b14_0 n l0 l1 M).2 hp hQ
def b15_2 (n : Nat)  : Nat → Nat → Int32 → zM → Int32 × zM
  | 0, _, _, M => (0, M)
  | k + 1, l0, l1, M => c15_2 n  (b15_2 n  k) l0 l1 M
def p15_2 (n : Nat)  : Nat → Nat → Int32 → zM → Prop
  | 0, _, _, _ => False
  | k + 1, l0, l1, M => d15_2 n  (p15_2 n  k) l0 l1 M
theorem s15_2 (n : Nat)    : ∀ (k : Nat) (l0 : Nat) (l1 : Int32) (M : zM), p15_2 n  k l0 l1 M → ∀ {Q : Option Value → zM → Prop}, (∀ r M1, zRI (b15_2 n  k l0 l1 M) r M1 → Q r M1) → zWP 15 2 [some (.ref l0), some (.int l1)] [] M Q
  | 0, _, _, _, h, _, _ => h.elim
  | k + 1, l0, l1, M, h, _, hQ => t15_2 n  (b15_2 n  k)  (p15_2 n  k)  (s15_2 n    k) l0 l1 M h hQ
def b15_0 (n : Nat)  (l0 : Nat) (M : zM) : Int32 × zM := b15_2 n  n l0 (0 : Int32) M
def p15_0 (n : Nat)  (l0 : Nat) (M : zM) : Prop := p15_2 n  n l0 (0 : Int32) M
theorem s15_0 (n : Nat)    (l0 : Nat) (M : zM) (hp : p15_0 n  l0 M) {Q : Option Value → zM → Prop} (hQ : ∀ r M1, zRI (b15_0 n  l0 M) r M1 → Q r M1) : zWP 15 0 [some (.ref l0), none] [] M Q := by
  unfold b15_0 at hQ
  unfold p15_0 at hp
  refine wp_go 2 (pc' := 2) (L' := [some (.ref l0), some (.int (0 : Int32))]) (st' := []) (M' := M) rfl ?_
  exact s15_2 n    n l0 (0 : Int32) M hp hQ
/-! X2_latest -/
def b16_46 (n : Nat) (k4 : Nat → Int32 → Int32 → zM → Int32 × zM) (l0 : Nat) (l1 : Int32) (l2 : Int32) (M : zM) : Int32 × zM := k4 l0 l1 (l2 + Int32.ofInt 1) M
def p16_46 (n : Nat) (q4 : Nat → Int32 → Int32 → zM → Prop) (l0 : Nat) (l1 : Int32) (l2 : Int32) (M : zM) : Prop := q4 l0 l1 (l2 + Int32.ofInt 1) M
theorem s16_46 (n : Nat) (k4 : Nat → Int32 → Int32 → zM → Int32 × zM) (q4 : Nat → Int32 → Int32 → zM → Prop) (h4 : ∀ (l0 : Nat) (l1 : Int32) (l2 : Int32) (M : zM), q4 l0 l1 l2 M → ∀ {Q : Option Value → zM → Prop}, (∀ r M1, zRI (k4 l0 l1 l2 M) r M1 → Q r M1) → zWP 16 4 [some (.ref l0), some (.int l1), some (.int l2)] [] M Q) (l0 : Nat) (l1 : Int32) (l2 : Int32) (M : zM) (hp : p16_46 n q4 l0 l1 l2 M) {Q : Option Value → zM → Prop} (hQ : ∀ r M1, zRI (b16_46 n k4 l0 l1 l2 M) r M1 → Q r M1) : zWP 16 46 [some (.ref l0), some (.int l1), some (.int l2)] [] M Q := by
  unfold b16_46 at hQ
  unfold p16_46 at hp
  refine wp_go 2 (pc' := 4) (L' := [some (.ref l0), some (.int l1), some (.int (l2 + Int32.ofInt 1))]) (st' := []) (M' := M) rfl ?_
  exact h4 l0 l1 (l2 + Int32.ofInt 1) M hp hQ
def b16_44 (n : Nat) (k4 : Nat → Int32 → Int32 → zM → Int32 × zM) (l0 : Nat) (l2 : Int32) (M : zM) : Int32 × zM := b16_46 n k4 l0 l2 l2 M
def p16_44 (n : Nat) (q4 : Nat → Int32 → Int32 → zM → Prop) (l0 : Nat) (l2 : Int32) (M : zM) : Prop := p16_46 n q4 l0 l2 l2 M
theorem s16_44 (n : Nat) (k4 : Nat → Int32 → Int32 → zM → Int32 × zM) (q4 : Nat → Int32 → Int32 → zM → Prop) (h4 : ∀ (l0 : Nat) (l1 : Int32) (l2 : Int32) (M : zM), q4 l0 l1 l2 M → ∀ {Q : Option Value → zM → Prop}, (∀ r M1, zRI (k4 l0 l1 l2 M) r M1 → Q r M1) → zWP 16 4 [some (.ref l0), some (.int l1), some (.int l2)] [] M Q) (l0 : Nat) (l2 : Int32) (M : zM) (hp : p16_44 n q4 l0 l2 M) {Q : Option Value → zM → Prop} (hQ : ∀ r M1, zRI (b16_44 n k4 l0 l2 M) r M1 → Q r M1) : zWP 16 44 [some (.ref l0), none, some (.int l2)] [] M Q := by
  unfold b16_44 at hQ
  unfold p16_44 at hp
  refine wp_go 2 (pc' := 46) (L' := [some (.ref l0), some (.int l2), some (.int l2)]) (st' := []) (M' := M) rfl ?_
  exact s16_46 n k4 q4 h4 l0 l2 l2 M hp hQ
def b16_15 (n : Nat) (k4 : Nat → Int32 → Int32 → zM → Int32 × zM) (l0 : Nat) (l1 : Int32) (l2 : Int32) (s0 : Int32) (M : zM) : Int32 × zM := (if s0 = 0 then b16_46 n k4 l0 l1 l2 M else (if l1 = ((-1) : Int32) then b16_44 n k4 l0 l2 M else (if (zI M (zQ M (zQ M l0 0) l2.toNatClampNeg) 9) ≤ (zI M (zQ M (zQ M l0 0) l1.toNatClampNeg) 9) then b16_46 n k4 l0 l1 l2 M else b16_44 n k4 l0 l2 M)))
def p16_15 (n : Nat) (q4 : Nat → Int32 → Int32 → zM → Prop) (l0 : Nat) (l1 : Int32) (l2 : Int32) (s0 : Int32) (M : zM) : Prop := ((s0 = 0 → p16_46 n q4 l0 l1 l2 M) ∧ (¬ s0 = 0 → ((l1 = ((-1) : Int32) → p16_44 n q4 l0 l2 M) ∧ (¬ l1 = ((-1) : Int32) → (zHasQ 2 11 l0 M 0) ∧ ((zOkR (zQ M l0 0) l2 M) ∧ ((zHasI 2 25 (zQ M (zQ M l0 0) l2.toNatClampNeg) M 9) ∧ ((zHasQ 2 11 l0 M 0) ∧ ((zOkR (zQ M l0 0) l1 M) ∧ ((zHasI 2 25 (zQ M (zQ M l0 0) l1.toNatClampNeg) M 9) ∧ ((((zI M (zQ M (zQ M l0 0) l2.toNatClampNeg) 9) ≤ (zI M (zQ M (zQ M l0 0) l1.toNatClampNeg) 9) → p16_46 n q4 l0 l1 l2 M) ∧ (¬ (zI M (zQ M (zQ M l0 0) l2.toNatClampNeg) 9) ≤ (zI M (zQ M (zQ M l0 0) l1.toNatClampNeg) 9) → p16_44 n q4 l0 l2 M))))))))))))
theorem s16_15 (n : Nat) (k4 : Nat → Int32 → Int32 → zM → Int32 × zM) (q4 : Nat → Int32 → Int32 → zM → Prop) (h4 : ∀ (l0 : Nat) (l1 : Int32) (l2 : Int32) (M : zM), q4 l0 l1 l2 M → ∀ {Q : Option Value → zM → Prop}, (∀ r M1, zRI (k4 l0 l1 l2 M) r M1 → Q r M1) → zWP 16 4 [some (.ref l0), some (.int l1), some (.int l2)] [] M Q) (l0 : Nat) (l1 : Int32) (l2 : Int32) (s0 : Int32) (M : zM) (hp : p16_15 n q4 l0 l1 l2 s0 M) {Q : Option Value → zM → Prop} (hQ : ∀ r M1, zRI (b16_15 n k4 l0 l1 l2 s0 M) r M1 → Q r M1) : zWP 16 15 [some (.ref l0), some (.int l1), some (.int l2)] [.int s0] M Q := by
  unfold b16_15 at hQ
  unfold p16_15 at hp
  refine wp_if_eq (t := 46) rfl rfl (fun hc => ?_) (fun hc => ?_)
  · rw [if_pos hc] at hQ
    replace hp := hp.1 hc
    exact s16_46 n k4 q4 h4 l0 l1 l2 M hp hQ
  · rw [if_neg hc] at hQ
    replace hp := hp.2 hc
    refine wp_go 2 (pc' := 20) (L' := [some (.ref l0), some (.int l1), some (.int l2)]) (st' := [.int ((-1) : Int32), .int l1]) (M' := M) rfl ?_
    refine wp_ic_eq (t := 44) rfl rfl (fun hc => ?_) (fun hc => ?_)
    · rw [if_pos hc] at hQ
      replace hp := hp.1 hc
      refine wp_le [some (.ref l0), none, some (.int l2)] (zLe_of (by simp [zLeB])) ?_
      exact s16_44 n k4 q4 h4 l0 l2 M hp hQ
    · rw [if_neg hc] at hQ
      replace hp := hp.2 hc
      refine wp_go 1 (pc' := 24) (L' := [some (.ref l0), some (.int l1), some (.int l2)]) (st' := [.ref l0]) (M' := M) rfl ?_
      obtain ⟨hc, hp⟩ := hp
      refine wq_getQ (j := 0) rfl hc ?_
      refine wp_go 1 (pc' := 28) (L' := [some (.ref l0), some (.int l1), some (.int l2)]) (st' := [.int l2, .ref (zQ M l0 0)]) (M' := M) rfl ?_
      obtain ⟨hc, hp⟩ := hp
      refine wq_aald rfl hc ?_
      obtain ⟨hc, hp⟩ := hp
      refine wq_getI (j := 9) rfl hc ?_
      refine wp_go 1 (pc' := 33) (L' := [some (.ref l0), some (.int l1), some (.int l2)]) (st' := [.ref l0, .int (zI M (zQ M (zQ M l0 0) l2.toNatClampNeg) 9)]) (M' := M) rfl ?_
      obtain ⟨hc, hp⟩ := hp
      refine wq_getQ (j := 0) rfl hc ?_
      refine wp_go 1 (pc' := 37) (L' := [some (.ref l0), some (.int l1), some (.int l2)]) (st' := [.int l1, .ref (zQ M l0 0), .int (zI M (zQ M (zQ M l0 0) l2.toNatClampNeg) 9)]) (M' := M) rfl ?_
      obtain ⟨hc, hp⟩ := hp
      refine wq_aald rfl hc ?_
      obtain ⟨hc, hp⟩ := hp
      refine wq_getI (j := 9) rfl hc ?_
      refine wp_ic_le (t := 46) rfl rfl (fun hc => ?_) (fun hc => ?_)
      · rw [if_pos hc] at hQ
        replace hp := hp.1 hc
        exact s16_46 n k4 q4 h4 l0 l1 l2 M hp hQ
      · rw [if_neg hc] at hQ
        replace hp := hp.2 hc
        refine wp_le [some (.ref l0), none, some (.int l2)] (zLe_of (by simp [zLeB])) ?_
        exact s16_44 n k4 q4 h4 l0 l2 M hp hQ
def c16_4 (n : Nat) (k4 : Nat → Int32 → Int32 → zM → Int32 × zM) (l0 : Nat) (l1 : Int32) (l2 : Int32) (M : zM) : Int32 × zM := (if (40 : Int32) ≤ l2 then (l1, M) else b16_15 n k4 l0 l1 l2 (b14_0 n l0 l2 M).1 (b14_0 n l0 l2 M).2)
def d16_4 (n : Nat) (q4 : Nat → Int32 → Int32 → zM → Prop) (l0 : Nat) (l1 : Int32) (l2 : Int32) (M : zM) : Prop := (((40 : Int32) ≤ l2 → True) ∧ (¬ (40 : Int32) ≤ l2 → (zHasC 16 28 l0 M 14 1) ∧ ((p14_0 n l0 l2 M) ∧ (p16_15 n q4 l0 l1 l2 (b14_0 n l0 l2 M).1 (b14_0 n l0 l2 M).2))))
theorem t16_4 (n : Nat) (k4 : Nat → Int32 → Int32 → zM → Int32 × zM) (q4 : Nat → Int32 → Int32 → zM → Prop) (h4 : ∀ (l0 : Nat) (l1 : Int32) (l2 : Int32) (M : zM), q4 l0 l1 l2 M → ∀ {Q : Option Value → zM → Prop}, (∀ r M1, zRI (k4 l0 l1 l2 M) r M1 → Q r M1) → zWP 16 4 [some (.ref l0), some (.int l1), some (.int l2)] [] M Q) (l0 : Nat) (l1 : Int32) (l2 : Int32) (M : zM) (hp : d16_4 n q4 l0 l1 l2 M) {Q : Option Value → zM → Prop} (hQ : ∀ r M1, zRI (c16_4 n k4 l0 l1 l2 M) r M1 → Q r M1) : zWP 16 4 [some (.ref l0), some (.int l1), some (.int l2)] [] M Q := by
  unfold c16_4 at hQ
  unfold d16_4 at hp
  refine wp_go 2 (pc' := 7) (L' := [some (.ref l0), some (.int l1), some (.int l2)]) (st' := [.int (40 : Int32), .int l2]) (M' := M) rfl ?_
  refine wp_ic_ge (t := 52) rfl rfl (fun hc => ?_) (fun hc => ?_)
  · rw [if_pos hc] at hQ
    replace hp := hp.1 hc
    refine wp_go 1 (pc' := 53) (L' := [some (.ref l0), some (.int l1), some (.int l2)]) (st' := [.int l1]) (M' := M) rfl ?_
    exact wp_ret (r := some (.int l1)) rfl rfl (hQ _ _ ⟨rfl, rfl⟩)
  · rw [if_neg hc] at hQ
    replace hp := hp.2 hc
    refine wp_go 2 (pc' := 12) (L' := [some (.ref l0), some (.int l1), some (.int l2)]) (st' := [.int l2, .ref l0]) (M' := M) rfl ?_
    obtain ⟨hv, hp⟩ := hp
    obtain ⟨hc, hp⟩ := hp
    refine wp_calli (v := (b14_0 n l0 l2 M).1) (M1 := (b14_0 n l0 l2 M).2) rfl rfl rfl (zInv_v (np := 1) rfl rfl hv rfl) (s14_0 n l0 l2 M hc (fun r M1 h => h)) ?_
    exact s16_15 n k4 q4 h4 l0 l1 l2 (b14_0 n l0 l2 M).1 (b14_0 n l0 l2 M).2 hp hQ
def b16_4 (n : Nat)  : Nat → Nat → Int32 → Int32 → zM → Int32 × zM
  | 0, _, _, _, M => (0, M)
  | k + 1, l0, l1, l2, M => c16_4 n  (b16_4 n  k) l0 l1 l2 M
def p16_4 (n : Nat)  : Nat → Nat → Int32 → Int32 → zM → Prop
  | 0, _, _, _, _ => False
  | k + 1, l0, l1, l2, M => d16_4 n  (p16_4 n  k) l0 l1 l2 M
theorem s16_4 (n : Nat)    : ∀ (k : Nat) (l0 : Nat) (l1 : Int32) (l2 : Int32) (M : zM), p16_4 n  k l0 l1 l2 M → ∀ {Q : Option Value → zM → Prop}, (∀ r M1, zRI (b16_4 n  k l0 l1 l2 M) r M1 → Q r M1) → zWP 16 4 [some (.ref l0), some (.int l1), some (.int l2)] [] M Q
  | 0, _, _, _, _, h, _, _ => h.elim
  | k + 1, l0, l1, l2, M, h, _, hQ => t16_4 n  (b16_4 n  k)  (p16_4 n  k)  (s16_4 n    k) l0 l1 l2 M h hQ
def b16_0 (n : Nat)  (l0 : Nat) (M : zM) : Int32 × zM := b16_4 n  n l0 ((-1) : Int32) (0 : Int32) M
def p16_0 (n : Nat)  (l0 : Nat) (M : zM) : Prop := p16_4 n  n l0 ((-1) : Int32) (0 : Int32) M
theorem s16_0 (n : Nat)    (l0 : Nat) (M : zM) (hp : p16_0 n  l0 M) {Q : Option Value → zM → Prop} (hQ : ∀ r M1, zRI (b16_0 n  l0 M) r M1 → Q r M1) : zWP 16 0 [some (.ref l0), none, none] [] M Q := by
  unfold b16_0 at hQ
  unfold p16_0 at hp
  refine wp_go 4 (pc' := 4) (L' := [some (.ref l0), some (.int ((-1) : Int32)), some (.int (0 : Int32))]) (st' := []) (M' := M) rfl ?_
  exact s16_4 n    n l0 ((-1) : Int32) (0 : Int32) M hp hQ
/-! X2_setSteps -/
def b19_42 (n : Nat) (k2 : Nat → Int32 → Nat → Int32 → zM → zM) (l0 : Nat) (l1 : Int32) (l2 : Nat) (l3 : Int32) (M : zM) : zM := k2 l0 l1 l2 (l3 + Int32.ofInt 1) M
def p19_42 (n : Nat) (q2 : Nat → Int32 → Nat → Int32 → zM → Prop) (l0 : Nat) (l1 : Int32) (l2 : Nat) (l3 : Int32) (M : zM) : Prop := q2 l0 l1 l2 (l3 + Int32.ofInt 1) M
theorem s19_42 (n : Nat) (k2 : Nat → Int32 → Nat → Int32 → zM → zM) (q2 : Nat → Int32 → Nat → Int32 → zM → Prop) (h2 : ∀ (l0 : Nat) (l1 : Int32) (l2 : Nat) (l3 : Int32) (M : zM), q2 l0 l1 l2 l3 M → ∀ {Q : Option Value → zM → Prop}, (∀ r M1, zRV (k2 l0 l1 l2 l3 M) r M1 → Q r M1) → zWP 19 2 [some (.ref l0), some (.int l1), some (.ref l2), some (.int l3)] [] M Q) (l0 : Nat) (l1 : Int32) (l2 : Nat) (l3 : Int32) (M : zM) (hp : p19_42 n q2 l0 l1 l2 l3 M) {Q : Option Value → zM → Prop} (hQ : ∀ r M1, zRV (b19_42 n k2 l0 l1 l2 l3 M) r M1 → Q r M1) : zWP 19 42 [some (.ref l0), some (.int l1), some (.ref l2), some (.int l3)] [] M Q := by
  unfold b19_42 at hQ
  unfold p19_42 at hp
  refine wp_go 2 (pc' := 2) (L' := [some (.ref l0), some (.int l1), some (.ref l2), some (.int (l3 + Int32.ofInt 1))]) (st' := []) (M' := M) rfl ?_
  exact h2 l0 l1 l2 (l3 + Int32.ofInt 1) M hp hQ
def b19_40 (n : Nat) (k2 : Nat → Int32 → Nat → Int32 → zM → zM) (l0 : Nat) (l1 : Int32) (l2 : Nat) (l3 : Int32) (s0 : Nat) (s1 : Int32) (M : zM) : zM := b19_42 n k2 l0 l1 l2 l3 (zWI M s0 s1.toNatClampNeg l1)
def p19_40 (n : Nat) (q2 : Nat → Int32 → Nat → Int32 → zM → Prop) (l0 : Nat) (l1 : Int32) (l2 : Nat) (l3 : Int32) (s0 : Nat) (s1 : Int32) (M : zM) : Prop := (zOkT 1 s0 s1 M) ∧ (p19_42 n q2 l0 l1 l2 l3 (zWI M s0 s1.toNatClampNeg l1))
theorem s19_40 (n : Nat) (k2 : Nat → Int32 → Nat → Int32 → zM → zM) (q2 : Nat → Int32 → Nat → Int32 → zM → Prop) (h2 : ∀ (l0 : Nat) (l1 : Int32) (l2 : Nat) (l3 : Int32) (M : zM), q2 l0 l1 l2 l3 M → ∀ {Q : Option Value → zM → Prop}, (∀ r M1, zRV (k2 l0 l1 l2 l3 M) r M1 → Q r M1) → zWP 19 2 [some (.ref l0), some (.int l1), some (.ref l2), some (.int l3)] [] M Q) (l0 : Nat) (l1 : Int32) (l2 : Nat) (l3 : Int32) (s0 : Nat) (s1 : Int32) (M : zM) (hp : p19_40 n q2 l0 l1 l2 l3 s0 s1 M) {Q : Option Value → zM → Prop} (hQ : ∀ r M1, zRV (b19_40 n k2 l0 l1 l2 l3 s0 s1 M) r M1 → Q r M1) : zWP 19 40 [some (.ref l0), some (.int l1), some (.ref l2), some (.int l3)] [.int s1, .ref s0] M Q := by
  unfold b19_40 at hQ
  unfold p19_40 at hp
  refine wp_go 1 (pc' := 41) (L' := [some (.ref l0), some (.int l1), some (.ref l2), some (.int l3)]) (st' := [.int l1, .int s1, .ref s0]) (M' := M) rfl ?_
  obtain ⟨hc, hp⟩ := hp
  refine wq_iast rfl hc ?_
  exact s19_42 n k2 q2 h2 l0 l1 l2 l3 (zWI M s0 s1.toNatClampNeg l1) hp hQ
def b19_26 (n : Nat) (k2 : Nat → Int32 → Nat → Int32 → zM → zM) (l0 : Nat) (l1 : Int32) (l2 : Nat) (l3 : Int32) (M : zM) : zM := b19_40 n k2 l0 l1 l2 l3 (zQ M (zQ M l2 (zI M l0 2).toNatClampNeg) 4) (b40_0 n l0 l3 M).1 (b40_0 n l0 l3 M).2
def p19_26 (n : Nat) (q2 : Nat → Int32 → Nat → Int32 → zM → Prop) (l0 : Nat) (l1 : Int32) (l2 : Nat) (l3 : Int32) (M : zM) : Prop := (zHasI 2 62 l0 M 2) ∧ ((zOkR l2 (zI M l0 2) M) ∧ ((zHasQ 2 52 (zQ M l2 (zI M l0 2).toNatClampNeg) M 4) ∧ ((zHasC 19 65 l0 M 40 1) ∧ ((p40_0 n l0 l3 M) ∧ (p19_40 n q2 l0 l1 l2 l3 (zQ M (zQ M l2 (zI M l0 2).toNatClampNeg) 4) (b40_0 n l0 l3 M).1 (b40_0 n l0 l3 M).2)))))
theorem s19_26 (n : Nat) (k2 : Nat → Int32 → Nat → Int32 → zM → zM) (q2 : Nat → Int32 → Nat → Int32 → zM → Prop) (h2 : ∀ (l0 : Nat) (l1 : Int32) (l2 : Nat) (l3 : Int32) (M : zM), q2 l0 l1 l2 l3 M → ∀ {Q : Option Value → zM → Prop}, (∀ r M1, zRV (k2 l0 l1 l2 l3 M) r M1 → Q r M1) → zWP 19 2 [some (.ref l0), some (.int l1), some (.ref l2), some (.int l3)] [] M Q) (l0 : Nat) (l1 : Int32) (l2 : Nat) (l3 : Int32) (M : zM) (hp : p19_26 n q2 l0 l1 l2 l3 M) {Q : Option Value → zM → Prop} (hQ : ∀ r M1, zRV (b19_26 n k2 l0 l1 l2 l3 M) r M1 → Q r M1) : zWP 19 26 [some (.ref l0), some (.int l1), some (.ref l2), some (.int l3)] [] M Q := by
  unfold b19_26 at hQ
  unfold p19_26 at hp
  refine wp_go 2 (pc' := 28) (L' := [some (.ref l0), some (.int l1), some (.ref l2), some (.int l3)]) (st' := [.ref l0, .ref l2]) (M' := M) rfl ?_
  obtain ⟨hc, hp⟩ := hp
  refine wq_getI (j := 2) rfl hc ?_
  obtain ⟨hc, hp⟩ := hp
  refine wq_aald rfl hc ?_
  obtain ⟨hc, hp⟩ := hp
  refine wq_getQ (j := 4) rfl hc ?_
  refine wp_go 2 (pc' := 37) (L' := [some (.ref l0), some (.int l1), some (.ref l2), some (.int l3)]) (st' := [.int l3, .ref l0, .ref (zQ M (zQ M l2 (zI M l0 2).toNatClampNeg) 4)]) (M' := M) rfl ?_
  obtain ⟨hv, hp⟩ := hp
  obtain ⟨hc, hp⟩ := hp
  refine wp_calli (v := (b40_0 n l0 l3 M).1) (M1 := (b40_0 n l0 l3 M).2) rfl rfl rfl (zInv_v (np := 1) rfl rfl hv rfl) (s40_0 n l0 l3 M hc (fun r M1 h => h)) ?_
  exact s19_40 n k2 q2 h2 l0 l1 l2 l3 (zQ M (zQ M l2 (zI M l0 2).toNatClampNeg) 4) (b40_0 n l0 l3 M).1 (b40_0 n l0 l3 M).2 hp hQ
def b19_24 (n : Nat) (k2 : Nat → Int32 → Nat → Int32 → zM → zM) (l0 : Nat) (l1 : Int32) (l2 : Nat) (l3 : Int32) (s0 : Nat) (s1 : Int32) (M : zM) : zM := b19_26 n k2 l0 l1 l2 l3 (zWI M s0 s1.toNatClampNeg l1)
def p19_24 (n : Nat) (q2 : Nat → Int32 → Nat → Int32 → zM → Prop) (l0 : Nat) (l1 : Int32) (l2 : Nat) (l3 : Int32) (s0 : Nat) (s1 : Int32) (M : zM) : Prop := (zOkT 1 s0 s1 M) ∧ (p19_26 n q2 l0 l1 l2 l3 (zWI M s0 s1.toNatClampNeg l1))
theorem s19_24 (n : Nat) (k2 : Nat → Int32 → Nat → Int32 → zM → zM) (q2 : Nat → Int32 → Nat → Int32 → zM → Prop) (h2 : ∀ (l0 : Nat) (l1 : Int32) (l2 : Nat) (l3 : Int32) (M : zM), q2 l0 l1 l2 l3 M → ∀ {Q : Option Value → zM → Prop}, (∀ r M1, zRV (k2 l0 l1 l2 l3 M) r M1 → Q r M1) → zWP 19 2 [some (.ref l0), some (.int l1), some (.ref l2), some (.int l3)] [] M Q) (l0 : Nat) (l1 : Int32) (l2 : Nat) (l3 : Int32) (s0 : Nat) (s1 : Int32) (M : zM) (hp : p19_24 n q2 l0 l1 l2 l3 s0 s1 M) {Q : Option Value → zM → Prop} (hQ : ∀ r M1, zRV (b19_24 n k2 l0 l1 l2 l3 s0 s1 M) r M1 → Q r M1) : zWP 19 24 [some (.ref l0), some (.int l1), some (.ref l2), some (.int l3)] [.int s1, .ref s0] M Q := by
  unfold b19_24 at hQ
  unfold p19_24 at hp
  refine wp_go 1 (pc' := 25) (L' := [some (.ref l0), some (.int l1), some (.ref l2), some (.int l3)]) (st' := [.int l1, .int s1, .ref s0]) (M' := M) rfl ?_
  obtain ⟨hc, hp⟩ := hp
  refine wq_iast rfl hc ?_
  exact s19_26 n k2 q2 h2 l0 l1 l2 l3 (zWI M s0 s1.toNatClampNeg l1) hp hQ
def c19_2 (n : Nat) (k2 : Nat → Int32 → Nat → Int32 → zM → zM) (l0 : Nat) (l1 : Int32) (l2 : Nat) (l3 : Int32) (M : zM) : zM := (if (zI M l0 5) ≤ l3 then M else b19_24 n k2 l0 l1 l2 l3 (zQ M (zQ M l2 (zI M l0 0).toNatClampNeg) 4) (b39_0 n l0 l3 M).1 (b39_0 n l0 l3 M).2)
def d19_2 (n : Nat) (q2 : Nat → Int32 → Nat → Int32 → zM → Prop) (l0 : Nat) (l1 : Int32) (l2 : Nat) (l3 : Int32) (M : zM) : Prop := (zHasI 2 44 l0 M 5) ∧ ((((zI M l0 5) ≤ l3 → True) ∧ (¬ (zI M l0 5) ≤ l3 → (zHasI 2 49 l0 M 0) ∧ ((zOkR l2 (zI M l0 0) M) ∧ ((zHasQ 2 52 (zQ M l2 (zI M l0 0).toNatClampNeg) M 4) ∧ ((zHasC 19 58 l0 M 39 1) ∧ ((p39_0 n l0 l3 M) ∧ (p19_24 n q2 l0 l1 l2 l3 (zQ M (zQ M l2 (zI M l0 0).toNatClampNeg) 4) (b39_0 n l0 l3 M).1 (b39_0 n l0 l3 M).2))))))))
theorem t19_2 (n : Nat) (k2 : Nat → Int32 → Nat → Int32 → zM → zM) (q2 : Nat → Int32 → Nat → Int32 → zM → Prop) (h2 : ∀ (l0 : Nat) (l1 : Int32) (l2 : Nat) (l3 : Int32) (M : zM), q2 l0 l1 l2 l3 M → ∀ {Q : Option Value → zM → Prop}, (∀ r M1, zRV (k2 l0 l1 l2 l3 M) r M1 → Q r M1) → zWP 19 2 [some (.ref l0), some (.int l1), some (.ref l2), some (.int l3)] [] M Q) (l0 : Nat) (l1 : Int32) (l2 : Nat) (l3 : Int32) (M : zM) (hp : d19_2 n q2 l0 l1 l2 l3 M) {Q : Option Value → zM → Prop} (hQ : ∀ r M1, zRV (c19_2 n k2 l0 l1 l2 l3 M) r M1 → Q r M1) : zWP 19 2 [some (.ref l0), some (.int l1), some (.ref l2), some (.int l3)] [] M Q := by
  unfold c19_2 at hQ
  unfold d19_2 at hp
  refine wp_go 2 (pc' := 4) (L' := [some (.ref l0), some (.int l1), some (.ref l2), some (.int l3)]) (st' := [.ref l0, .int l3]) (M' := M) rfl ?_
  obtain ⟨hc, hp⟩ := hp
  refine wq_getI (j := 5) rfl hc ?_
  refine wp_ic_ge (t := 48) rfl rfl (fun hc => ?_) (fun hc => ?_)
  · rw [if_pos hc] at hQ
    replace hp := hp.1 hc
    exact wp_ret (r := none) rfl rfl (hQ _ _ ⟨rfl, rfl⟩)
  · rw [if_neg hc] at hQ
    replace hp := hp.2 hc
    refine wp_go 2 (pc' := 12) (L' := [some (.ref l0), some (.int l1), some (.ref l2), some (.int l3)]) (st' := [.ref l0, .ref l2]) (M' := M) rfl ?_
    obtain ⟨hc, hp⟩ := hp
    refine wq_getI (j := 0) rfl hc ?_
    obtain ⟨hc, hp⟩ := hp
    refine wq_aald rfl hc ?_
    obtain ⟨hc, hp⟩ := hp
    refine wq_getQ (j := 4) rfl hc ?_
    refine wp_go 2 (pc' := 21) (L' := [some (.ref l0), some (.int l1), some (.ref l2), some (.int l3)]) (st' := [.int l3, .ref l0, .ref (zQ M (zQ M l2 (zI M l0 0).toNatClampNeg) 4)]) (M' := M) rfl ?_
    obtain ⟨hv, hp⟩ := hp
    obtain ⟨hc, hp⟩ := hp
    refine wp_calli (v := (b39_0 n l0 l3 M).1) (M1 := (b39_0 n l0 l3 M).2) rfl rfl rfl (zInv_v (np := 1) rfl rfl hv rfl) (s39_0 n l0 l3 M hc (fun r M1 h => h)) ?_
    exact s19_24 n k2 q2 h2 l0 l1 l2 l3 (zQ M (zQ M l2 (zI M l0 0).toNatClampNeg) 4) (b39_0 n l0 l3 M).1 (b39_0 n l0 l3 M).2 hp hQ
def b19_2 (n : Nat)  : Nat → Nat → Int32 → Nat → Int32 → zM → zM
  | 0, _, _, _, _, M => M
  | k + 1, l0, l1, l2, l3, M => c19_2 n  (b19_2 n  k) l0 l1 l2 l3 M
def p19_2 (n : Nat)  : Nat → Nat → Int32 → Nat → Int32 → zM → Prop
  | 0, _, _, _, _, _ => False
  | k + 1, l0, l1, l2, l3, M => d19_2 n  (p19_2 n  k) l0 l1 l2 l3 M
theorem s19_2 (n : Nat)    : ∀ (k : Nat) (l0 : Nat) (l1 : Int32) (l2 : Nat) (l3 : Int32) (M : zM), p19_2 n  k l0 l1 l2 l3 M → ∀ {Q : Option Value → zM → Prop}, (∀ r M1, zRV (b19_2 n  k l0 l1 l2 l3 M) r M1 → Q r M1) → zWP 19 2 [some (.ref l0), some (.int l1), some (.ref l2), some (.int l3)] [] M Q
  | 0, _, _, _, _, _, h, _, _ => h.elim
  | k + 1, l0, l1, l2, l3, M, h, _, hQ => t19_2 n  (b19_2 n  k)  (p19_2 n  k)  (s19_2 n    k) l0 l1 l2 l3 M h hQ
def b19_0 (n : Nat)  (l0 : Nat) (l1 : Int32) (l2 : Nat) (M : zM) : zM := b19_2 n  n l0 l1 l2 (0 : Int32) M
def p19_0 (n : Nat)  (l0 : Nat) (l1 : Int32) (l2 : Nat) (M : zM) : Prop := p19_2 n  n l0 l1 l2 (0 : Int32) M
theorem s19_0 (n : Nat)    (l0 : Nat) (l1 : Int32) (l2 : Nat) (M : zM) (hp : p19_0 n  l0 l1 l2 M) {Q : Option Value → zM → Prop} (hQ : ∀ r M1, zRV (b19_0 n  l0 l1 l2 M) r M1 → Q r M1) : zWP 19 0 [some (.ref l0), some (.int l1), some (.ref l2), none] [] M Q := by
  unfold b19_0 at hQ
  unfold p19_0 at hp
  refine wp_go 2 (pc' := 2) (L' := [some (.ref l0), some (.int l1), some (.ref l2), some (.int (0 : Int32))]) (st' := []) (M' := M) rfl ?_
  exact s19_2 n    n l0 l1 l2 (0 : Int32) M hp hQ
/-! X6_copyPairs -/
def b38_64 (n : Nat)   (M : zM) : zM := M
def p38_64 (n : Nat)   (M : zM) : Prop := True
theorem s38_64 (n : Nat)     (M : zM) (hp : p38_64 n   M) {Q : Option Value → zM → Prop} (hQ : ∀ r M1, zRV (b38_64 n   M) r M1 → Q r M1) : zWP 38 64 [none, none] [] M Q := by
  unfold b38_64 at hQ
  unfold p38_64 at hp
  exact wp_ret (r := none) rfl rfl (hQ _ _ ⟨rfl, rfl⟩)
def b38_56 (n : Nat)  (l0 : Nat) (l1 : Nat) (M : zM) : zM := b38_64 n  (zWI M l0 7 (zI M l1 7))
def p38_56 (n : Nat)  (l0 : Nat) (l1 : Nat) (M : zM) : Prop := (zHasI 5 33 l1 M 7) ∧ ((zPutI 38 33 l0 M 7 (zI M l1 7)) ∧ (p38_64 n  (zWI M l0 7 (zI M l1 7))))
theorem s38_56 (n : Nat)    (l0 : Nat) (l1 : Nat) (M : zM) (hp : p38_56 n  l0 l1 M) {Q : Option Value → zM → Prop} (hQ : ∀ r M1, zRV (b38_56 n  l0 l1 M) r M1 → Q r M1) : zWP 38 56 [some (.ref l0), some (.ref l1)] [] M Q := by
  unfold b38_56 at hQ
  unfold p38_56 at hp
  refine wp_go 2 (pc' := 58) (L' := [some (.ref l0), some (.ref l1)]) (st' := [.ref l1, .ref l0]) (M' := M) rfl ?_
  obtain ⟨hc, hp⟩ := hp
  refine wq_getI (j := 7) rfl hc ?_
  obtain ⟨hc, hp⟩ := hp
  refine wq_putI (j := 7) rfl hc ?_
  refine wp_le [none, none] (zLe_of (by simp [zLeB])) ?_
  exact s38_64 n    (zWI M l0 7 (zI M l1 7)) hp hQ
def b38_48 (n : Nat)  (l0 : Nat) (l1 : Nat) (M : zM) : zM := b38_56 n  l0 l1 (zWI M l0 6 (zI M l1 6))
def p38_48 (n : Nat)  (l0 : Nat) (l1 : Nat) (M : zM) : Prop := (zHasI 5 30 l1 M 6) ∧ ((zPutI 38 30 l0 M 6 (zI M l1 6)) ∧ (p38_56 n  l0 l1 (zWI M l0 6 (zI M l1 6))))
theorem s38_48 (n : Nat)    (l0 : Nat) (l1 : Nat) (M : zM) (hp : p38_48 n  l0 l1 M) {Q : Option Value → zM → Prop} (hQ : ∀ r M1, zRV (b38_48 n  l0 l1 M) r M1 → Q r M1) : zWP 38 48 [some (.ref l0), some (.ref l1)] [] M Q := by
  unfold b38_48 at hQ
  unfold p38_48 at hp
  refine wp_go 2 (pc' := 50) (L' := [some (.ref l0), some (.ref l1)]) (st' := [.ref l1, .ref l0]) (M' := M) rfl ?_
  obtain ⟨hc, hp⟩ := hp
  refine wq_getI (j := 6) rfl hc ?_
  obtain ⟨hc, hp⟩ := hp
  refine wq_putI (j := 6) rfl hc ?_
  exact s38_56 n    l0 l1 (zWI M l0 6 (zI M l1 6)) hp hQ
def b38_40 (n : Nat)  (l0 : Nat) (l1 : Nat) (M : zM) : zM := b38_48 n  l0 l1 (zWI M l0 5 (zI M l1 5))
def p38_40 (n : Nat)  (l0 : Nat) (l1 : Nat) (M : zM) : Prop := (zHasI 5 27 l1 M 5) ∧ ((zPutI 38 27 l0 M 5 (zI M l1 5)) ∧ (p38_48 n  l0 l1 (zWI M l0 5 (zI M l1 5))))
theorem s38_40 (n : Nat)    (l0 : Nat) (l1 : Nat) (M : zM) (hp : p38_40 n  l0 l1 M) {Q : Option Value → zM → Prop} (hQ : ∀ r M1, zRV (b38_40 n  l0 l1 M) r M1 → Q r M1) : zWP 38 40 [some (.ref l0), some (.ref l1)] [] M Q := by
  unfold b38_40 at hQ
  unfold p38_40 at hp
  refine wp_go 2 (pc' := 42) (L' := [some (.ref l0), some (.ref l1)]) (st' := [.ref l1, .ref l0]) (M' := M) rfl ?_
  obtain ⟨hc, hp⟩ := hp
  refine wq_getI (j := 5) rfl hc ?_
  obtain ⟨hc, hp⟩ := hp
  refine wq_putI (j := 5) rfl hc ?_
  exact s38_48 n    l0 l1 (zWI M l0 5 (zI M l1 5)) hp hQ
def b38_32 (n : Nat)  (l0 : Nat) (l1 : Nat) (M : zM) : zM := b38_40 n  l0 l1 (zWI M l0 4 (zI M l1 4))
def p38_32 (n : Nat)  (l0 : Nat) (l1 : Nat) (M : zM) : Prop := (zHasI 5 24 l1 M 4) ∧ ((zPutI 38 24 l0 M 4 (zI M l1 4)) ∧ (p38_40 n  l0 l1 (zWI M l0 4 (zI M l1 4))))
theorem s38_32 (n : Nat)    (l0 : Nat) (l1 : Nat) (M : zM) (hp : p38_32 n  l0 l1 M) {Q : Option Value → zM → Prop} (hQ : ∀ r M1, zRV (b38_32 n  l0 l1 M) r M1 → Q r M1) : zWP 38 32 [some (.ref l0), some (.ref l1)] [] M Q := by
  unfold b38_32 at hQ
  unfold p38_32 at hp
  refine wp_go 2 (pc' := 34) (L' := [some (.ref l0), some (.ref l1)]) (st' := [.ref l1, .ref l0]) (M' := M) rfl ?_
  obtain ⟨hc, hp⟩ := hp
  refine wq_getI (j := 4) rfl hc ?_
  obtain ⟨hc, hp⟩ := hp
  refine wq_putI (j := 4) rfl hc ?_
  exact s38_40 n    l0 l1 (zWI M l0 4 (zI M l1 4)) hp hQ
def b38_24 (n : Nat)  (l0 : Nat) (l1 : Nat) (M : zM) : zM := b38_32 n  l0 l1 (zWI M l0 3 (zI M l1 3))
def p38_24 (n : Nat)  (l0 : Nat) (l1 : Nat) (M : zM) : Prop := (zHasI 5 21 l1 M 3) ∧ ((zPutI 38 21 l0 M 3 (zI M l1 3)) ∧ (p38_32 n  l0 l1 (zWI M l0 3 (zI M l1 3))))
theorem s38_24 (n : Nat)    (l0 : Nat) (l1 : Nat) (M : zM) (hp : p38_24 n  l0 l1 M) {Q : Option Value → zM → Prop} (hQ : ∀ r M1, zRV (b38_24 n  l0 l1 M) r M1 → Q r M1) : zWP 38 24 [some (.ref l0), some (.ref l1)] [] M Q := by
  unfold b38_24 at hQ
  unfold p38_24 at hp
  refine wp_go 2 (pc' := 26) (L' := [some (.ref l0), some (.ref l1)]) (st' := [.ref l1, .ref l0]) (M' := M) rfl ?_
  obtain ⟨hc, hp⟩ := hp
  refine wq_getI (j := 3) rfl hc ?_
  obtain ⟨hc, hp⟩ := hp
  refine wq_putI (j := 3) rfl hc ?_
  exact s38_32 n    l0 l1 (zWI M l0 3 (zI M l1 3)) hp hQ
def b38_16 (n : Nat)  (l0 : Nat) (l1 : Nat) (M : zM) : zM := b38_24 n  l0 l1 (zWI M l0 2 (zI M l1 2))
def p38_16 (n : Nat)  (l0 : Nat) (l1 : Nat) (M : zM) : Prop := (zHasI 5 18 l1 M 2) ∧ ((zPutI 38 18 l0 M 2 (zI M l1 2)) ∧ (p38_24 n  l0 l1 (zWI M l0 2 (zI M l1 2))))
theorem s38_16 (n : Nat)    (l0 : Nat) (l1 : Nat) (M : zM) (hp : p38_16 n  l0 l1 M) {Q : Option Value → zM → Prop} (hQ : ∀ r M1, zRV (b38_16 n  l0 l1 M) r M1 → Q r M1) : zWP 38 16 [some (.ref l0), some (.ref l1)] [] M Q := by
  unfold b38_16 at hQ
  unfold p38_16 at hp
  refine wp_go 2 (pc' := 18) (L' := [some (.ref l0), some (.ref l1)]) (st' := [.ref l1, .ref l0]) (M' := M) rfl ?_
  obtain ⟨hc, hp⟩ := hp
  refine wq_getI (j := 2) rfl hc ?_
  obtain ⟨hc, hp⟩ := hp
  refine wq_putI (j := 2) rfl hc ?_
  exact s38_24 n    l0 l1 (zWI M l0 2 (zI M l1 2)) hp hQ
def b38_8 (n : Nat)  (l0 : Nat) (l1 : Nat) (M : zM) : zM := b38_16 n  l0 l1 (zWI M l0 1 (zI M l1 1))
def p38_8 (n : Nat)  (l0 : Nat) (l1 : Nat) (M : zM) : Prop := (zHasI 5 15 l1 M 1) ∧ ((zPutI 38 15 l0 M 1 (zI M l1 1)) ∧ (p38_16 n  l0 l1 (zWI M l0 1 (zI M l1 1))))
theorem s38_8 (n : Nat)    (l0 : Nat) (l1 : Nat) (M : zM) (hp : p38_8 n  l0 l1 M) {Q : Option Value → zM → Prop} (hQ : ∀ r M1, zRV (b38_8 n  l0 l1 M) r M1 → Q r M1) : zWP 38 8 [some (.ref l0), some (.ref l1)] [] M Q := by
  unfold b38_8 at hQ
  unfold p38_8 at hp
  refine wp_go 2 (pc' := 10) (L' := [some (.ref l0), some (.ref l1)]) (st' := [.ref l1, .ref l0]) (M' := M) rfl ?_
  obtain ⟨hc, hp⟩ := hp
  refine wq_getI (j := 1) rfl hc ?_
  obtain ⟨hc, hp⟩ := hp
  refine wq_putI (j := 1) rfl hc ?_
  exact s38_16 n    l0 l1 (zWI M l0 1 (zI M l1 1)) hp hQ
def b38_0 (n : Nat)  (l0 : Nat) (l1 : Nat) (M : zM) : zM := b38_8 n  l0 l1 (zWI M l0 0 (zI M l1 0))
def p38_0 (n : Nat)  (l0 : Nat) (l1 : Nat) (M : zM) : Prop := (zHasI 5 9 l1 M 0) ∧ ((zPutI 38 9 l0 M 0 (zI M l1 0)) ∧ (p38_8 n  l0 l1 (zWI M l0 0 (zI M l1 0))))
theorem s38_0 (n : Nat)    (l0 : Nat) (l1 : Nat) (M : zM) (hp : p38_0 n  l0 l1 M) {Q : Option Value → zM → Prop} (hQ : ∀ r M1, zRV (b38_0 n  l0 l1 M) r M1 → Q r M1) : zWP 38 0 [some (.ref l0), some (.ref l1)] [] M Q := by
  unfold b38_0 at hQ
  unfold p38_0 at hp
  refine wp_go 2 (pc' := 2) (L' := [some (.ref l0), some (.ref l1)]) (st' := [.ref l1, .ref l0]) (M' := M) rfl ?_
  obtain ⟨hc, hp⟩ := hp
  refine wq_getI (j := 0) rfl hc ?_
  obtain ⟨hc, hp⟩ := hp
  refine wq_putI (j := 0) rfl hc ?_
  exact s38_8 n    l0 l1 (zWI M l0 0 (zI M l1 0)) hp hQ
