/-! J9_abs_0f7a4 -/
def b190_10 (n : Nat)  (s0 : Int32) (M : zM) : Int32 × zM := (s0, M)
def p190_10 (n : Nat)  (s0 : Int32) (M : zM) : Prop := True
theorem s190_10 (n : Nat)    (s0 : Int32) (M : zM) (hp : p190_10 n  s0 M) {Q : Option Value → zM → Prop} (hQ : ∀ r M1, zRI (b190_10 n  s0 M) r M1 → Q r M1) : zWP 190 10 [none] [.int s0] M Q := by
  unfold b190_10 at hQ
  unfold p190_10 at hp
  exact wp_ret (r := some (.int s0)) rfl rfl (hQ _ _ ⟨rfl, rfl⟩)
def b190_0 (n : Nat)  (l0 : Int32) (M : zM) : Int32 × zM := (if 0 ≤ l0 then b190_10 n  l0 M else b190_10 n  (-l0) M)
def p190_0 (n : Nat)  (l0 : Int32) (M : zM) : Prop := ((0 ≤ l0 → p190_10 n  l0 M) ∧ (¬ 0 ≤ l0 → p190_10 n  (-l0) M))
theorem s190_0 (n : Nat)    (l0 : Int32) (M : zM) (hp : p190_0 n  l0 M) {Q : Option Value → zM → Prop} (hQ : ∀ r M1, zRI (b190_0 n  l0 M) r M1 → Q r M1) : zWP 190 0 [some (.int l0)] [] M Q := by
  unfold b190_0 at hQ
  unfold p190_0 at hp
  refine wp_go 1 (pc' := 1) (L' := [some (.int l0)]) (st' := [.int l0]) (M' := M) rfl ?_
  refine wp_if_ge (t := 9) rfl rfl (fun hc => ?_) (fun hc => ?_)
  · rw [if_pos hc] at hQ
    replace hp := hp.1 hc
    refine wp_go 1 (pc' := 10) (L' := [some (.int l0)]) (st' := [.int l0]) (M' := M) rfl ?_
    refine wp_le [none] (zLe_of (by simp [zLeB])) ?_
    exact s190_10 n    l0 M hp hQ
  · rw [if_neg hc] at hQ
    replace hp := hp.2 hc
    refine wp_go 3 (pc' := 10) (L' := [some (.int l0)]) (st' := [.int (-l0)]) (M' := M) rfl ?_
    refine wp_le [none] (zLe_of (by simp [zLeB])) ?_
    exact s190_10 n    (-l0) M hp hQ
/-! J9_max_7cf53 -/
def b192_10 (n : Nat)  (s0 : Int32) (M : zM) : Int32 × zM := (s0, M)
def p192_10 (n : Nat)  (s0 : Int32) (M : zM) : Prop := True
theorem s192_10 (n : Nat)    (s0 : Int32) (M : zM) (hp : p192_10 n  s0 M) {Q : Option Value → zM → Prop} (hQ : ∀ r M1, zRI (b192_10 n  s0 M) r M1 → Q r M1) : zWP 192 10 [none, none] [.int s0] M Q := by
  unfold b192_10 at hQ
  unfold p192_10 at hp
  exact wp_ret (r := some (.int s0)) rfl rfl (hQ _ _ ⟨rfl, rfl⟩)
def b192_0 (n : Nat)  (l0 : Int32) (l1 : Int32) (M : zM) : Int32 × zM := (if l0 < l1 then b192_10 n  l1 M else b192_10 n  l0 M)
def p192_0 (n : Nat)  (l0 : Int32) (l1 : Int32) (M : zM) : Prop := ((l0 < l1 → p192_10 n  l1 M) ∧ (¬ l0 < l1 → p192_10 n  l0 M))
theorem s192_0 (n : Nat)    (l0 : Int32) (l1 : Int32) (M : zM) (hp : p192_0 n  l0 l1 M) {Q : Option Value → zM → Prop} (hQ : ∀ r M1, zRI (b192_0 n  l0 l1 M) r M1 → Q r M1) : zWP 192 0 [some (.int l0), some (.int l1)] [] M Q := by
  unfold b192_0 at hQ
  unfold p192_0 at hp
  refine wp_go 2 (pc' := 2) (L' := [some (.int l0), some (.int l1)]) (st' := [.int l1, .int l0]) (M' := M) rfl ?_
  refine wp_ic_lt (t := 9) rfl rfl (fun hc => ?_) (fun hc => ?_)
  · rw [if_pos hc] at hQ
    replace hp := hp.1 hc
    refine wp_go 1 (pc' := 10) (L' := [some (.int l0), some (.int l1)]) (st' := [.int l1]) (M' := M) rfl ?_
    refine wp_le [none, none] (zLe_of (by simp [zLeB])) ?_
    exact s192_10 n    l1 M hp hQ
  · rw [if_neg hc] at hQ
    replace hp := hp.2 hc
    refine wp_go 2 (pc' := 10) (L' := [some (.int l0), some (.int l1)]) (st' := [.int l0]) (M' := M) rfl ?_
    refine wp_le [none, none] (zLe_of (by simp [zLeB])) ?_
    exact s192_10 n    l0 M hp hQ
/-! X11_greater -/
def b96_11 (n : Nat)  (s0 : Int32) (M : zM) : Int32 × zM := (s0, M)
def p96_11 (n : Nat)  (s0 : Int32) (M : zM) : Prop := True
theorem s96_11 (n : Nat)    (s0 : Int32) (M : zM) (hp : p96_11 n  s0 M) {Q : Option Value → zM → Prop} (hQ : ∀ r M1, zRI (b96_11 n  s0 M) r M1 → Q r M1) : zWP 96 11 [none, none] [.int s0] M Q := by
  unfold b96_11 at hQ
  unfold p96_11 at hp
  exact wp_ret (r := some (.int s0)) rfl rfl (hQ _ _ ⟨rfl, rfl⟩)
def b96_8 (n : Nat)  (s0 : Int32) (s1 : Int32) (M : zM) : Int32 × zM := b96_11 n  (b192_0 n s0 s1 M).1 (b192_0 n s0 s1 M).2
def p96_8 (n : Nat)  (s0 : Int32) (s1 : Int32) (M : zM) : Prop := (p192_0 n s0 s1 M) ∧ (p96_11 n  (b192_0 n s0 s1 M).1 (b192_0 n s0 s1 M).2)
theorem s96_8 (n : Nat)    (s0 : Int32) (s1 : Int32) (M : zM) (hp : p96_8 n  s0 s1 M) {Q : Option Value → zM → Prop} (hQ : ∀ r M1, zRI (b96_8 n  s0 s1 M) r M1 → Q r M1) : zWP 96 8 [none, none] [.int s1, .int s0] M Q := by
  unfold b96_8 at hQ
  unfold p96_8 at hp
  obtain ⟨hc, hp⟩ := hp
  refine wp_calli (v := (b192_0 n s0 s1 M).1) (M1 := (b192_0 n s0 s1 M).2) rfl rfl rfl rfl (s192_0 n s0 s1 M hc (fun r M1 h => h)) ?_
  exact s96_11 n    (b192_0 n s0 s1 M).1 (b192_0 n s0 s1 M).2 hp hQ
def b96_4 (n : Nat)  (l1 : Int32) (s0 : Int32) (M : zM) : Int32 × zM := b96_8 n  s0 (b190_0 n l1 M).1 (b190_0 n l1 M).2
def p96_4 (n : Nat)  (l1 : Int32) (s0 : Int32) (M : zM) : Prop := (p190_0 n l1 M) ∧ (p96_8 n  s0 (b190_0 n l1 M).1 (b190_0 n l1 M).2)
theorem s96_4 (n : Nat)    (l1 : Int32) (s0 : Int32) (M : zM) (hp : p96_4 n  l1 s0 M) {Q : Option Value → zM → Prop} (hQ : ∀ r M1, zRI (b96_4 n  l1 s0 M) r M1 → Q r M1) : zWP 96 4 [none, some (.int l1)] [.int s0] M Q := by
  unfold b96_4 at hQ
  unfold p96_4 at hp
  refine wp_go 1 (pc' := 5) (L' := [none, some (.int l1)]) (st' := [.int l1, .int s0]) (M' := M) rfl ?_
  obtain ⟨hc, hp⟩ := hp
  refine wp_calli (v := (b190_0 n l1 M).1) (M1 := (b190_0 n l1 M).2) rfl rfl rfl rfl (s190_0 n l1 M hc (fun r M1 h => h)) ?_
  refine wp_le [none, none] (zLe_of (by simp [zLeB])) ?_
  exact s96_8 n    s0 (b190_0 n l1 M).1 (b190_0 n l1 M).2 hp hQ
def b96_0 (n : Nat)  (l0 : Int32) (l1 : Int32) (M : zM) : Int32 × zM := b96_4 n  l1 (b190_0 n l0 M).1 (b190_0 n l0 M).2
def p96_0 (n : Nat)  (l0 : Int32) (l1 : Int32) (M : zM) : Prop := (p190_0 n l0 M) ∧ (p96_4 n  l1 (b190_0 n l0 M).1 (b190_0 n l0 M).2)
theorem s96_0 (n : Nat)    (l0 : Int32) (l1 : Int32) (M : zM) (hp : p96_0 n  l0 l1 M) {Q : Option Value → zM → Prop} (hQ : ∀ r M1, zRI (b96_0 n  l0 l1 M) r M1 → Q r M1) : zWP 96 0 [some (.int l0), some (.int l1)] [] M Q := by
  unfold b96_0 at hQ
  unfold p96_0 at hp
  refine wp_go 1 (pc' := 1) (L' := [some (.int l0), some (.int l1)]) (st' := [.int l0]) (M' := M) rfl ?_
  obtain ⟨hc, hp⟩ := hp
  refine wp_calli (v := (b190_0 n l0 M).1) (M1 := (b190_0 n l0 M).2) rfl rfl rfl rfl (s190_0 n l0 M hc (fun r M1 h => h)) ?_
  refine wp_le [none, some (.int l1)] (zLe_of (by simp [zLeB])) ?_
  exact s96_4 n    l1 (b190_0 n l0 M).1 (b190_0 n l0 M).2 hp hQ
/-! X4_missOf -/
def b27_93 (n : Nat)  (s0 : Int32) (M : zM) : Int32 × zM := (s0, M)
def p27_93 (n : Nat)  (s0 : Int32) (M : zM) : Prop := True
theorem s27_93 (n : Nat)    (s0 : Int32) (M : zM) (hp : p27_93 n  s0 M) {Q : Option Value → zM → Prop} (hQ : ∀ r M1, zRI (b27_93 n  s0 M) r M1 → Q r M1) : zWP 27 93 [none, none, none, none, none] [.int s0] M Q := by
  unfold b27_93 at hQ
  unfold p27_93 at hp
  exact wp_ret (r := some (.int s0)) rfl rfl (hQ _ _ ⟨rfl, rfl⟩)
def b27_74 (n : Nat)  (l0 : Nat) (l1 : Nat) (l3 : Int32) (s0 : Int32) (s1 : Int32) (M : zM) : Int32 × zM := b27_93 n  (b96_0 n l3 ((s0 + s1) - (zI M (zQ M l0 3) (zI M l1 2).toNatClampNeg)) M).1 (b96_0 n l3 ((s0 + s1) - (zI M (zQ M l0 3) (zI M l1 2).toNatClampNeg)) M).2
def p27_74 (n : Nat)  (l0 : Nat) (l1 : Nat) (l3 : Int32) (s0 : Int32) (s1 : Int32) (M : zM) : Prop := (zHasQ 3 21 l0 M 3) ∧ ((zHasI 3 93 l1 M 2) ∧ ((zOkI (zQ M l0 3) (zI M l1 2) M) ∧ ((p96_0 n l3 ((s0 + s1) - (zI M (zQ M l0 3) (zI M l1 2).toNatClampNeg)) M) ∧ (p27_93 n  (b96_0 n l3 ((s0 + s1) - (zI M (zQ M l0 3) (zI M l1 2).toNatClampNeg)) M).1 (b96_0 n l3 ((s0 + s1) - (zI M (zQ M l0 3) (zI M l1 2).toNatClampNeg)) M).2))))
theorem s27_74 (n : Nat)    (l0 : Nat) (l1 : Nat) (l3 : Int32) (s0 : Int32) (s1 : Int32) (M : zM) (hp : p27_74 n  l0 l1 l3 s0 s1 M) {Q : Option Value → zM → Prop} (hQ : ∀ r M1, zRI (b27_74 n  l0 l1 l3 s0 s1 M) r M1 → Q r M1) : zWP 27 74 [some (.ref l0), some (.ref l1), none, some (.int l3), none] [.int s1, .int s0] M Q := by
  unfold b27_74 at hQ
  unfold p27_74 at hp
  refine wp_go 2 (pc' := 76) (L' := [some (.ref l0), some (.ref l1), none, some (.int l3), none]) (st' := [.ref l0, .int (s0 + s1)]) (M' := M) rfl ?_
  obtain ⟨hc, hp⟩ := hp
  refine wq_getQ (j := 3) rfl hc ?_
  refine wp_go 1 (pc' := 80) (L' := [some (.ref l0), some (.ref l1), none, some (.int l3), none]) (st' := [.ref l1, .ref (zQ M l0 3), .int (s0 + s1)]) (M' := M) rfl ?_
  obtain ⟨hc, hp⟩ := hp
  refine wq_getI (j := 2) rfl hc ?_
  obtain ⟨hc, hp⟩ := hp
  refine wq_iald rfl hc ?_
  refine wp_go 4 (pc' := 90) (L' := [some (.ref l0), some (.ref l1), none, some (.int l3), some (.int ((s0 + s1) - (zI M (zQ M l0 3) (zI M l1 2).toNatClampNeg)))]) (st' := [.int ((s0 + s1) - (zI M (zQ M l0 3) (zI M l1 2).toNatClampNeg)), .int l3]) (M' := M) rfl ?_
  obtain ⟨hc, hp⟩ := hp
  refine wp_calli (v := (b96_0 n l3 ((s0 + s1) - (zI M (zQ M l0 3) (zI M l1 2).toNatClampNeg)) M).1) (M1 := (b96_0 n l3 ((s0 + s1) - (zI M (zQ M l0 3) (zI M l1 2).toNatClampNeg)) M).2) rfl rfl rfl rfl (s96_0 n l3 ((s0 + s1) - (zI M (zQ M l0 3) (zI M l1 2).toNatClampNeg)) M hc (fun r M1 h => h)) ?_
  refine wp_le [none, none, none, none, none] (zLe_of (by simp [zLeB])) ?_
  exact s27_93 n    (b96_0 n l3 ((s0 + s1) - (zI M (zQ M l0 3) (zI M l1 2).toNatClampNeg)) M).1 (b96_0 n l3 ((s0 + s1) - (zI M (zQ M l0 3) (zI M l1 2).toNatClampNeg)) M).2 hp hQ
def b27_47 (n : Nat)  (l0 : Nat) (l1 : Nat) (l2 : Nat) (s0 : Int32) (s1 : Int32) (M : zM) : Int32 × zM := b27_74 n  l0 l1 ((s0 + s1) - (zI M (zQ M l0 2) (zI M l1 2).toNatClampNeg)) (zI M (zQ M l0 3) (zI M l1 0).toNatClampNeg) (b26_0 n l0 l1 l2 M).1 (b26_0 n l0 l1 l2 M).2
def p27_47 (n : Nat)  (l0 : Nat) (l1 : Nat) (l2 : Nat) (s0 : Int32) (s1 : Int32) (M : zM) : Prop := (zHasQ 3 18 l0 M 2) ∧ ((zHasI 3 93 l1 M 2) ∧ ((zOkI (zQ M l0 2) (zI M l1 2) M) ∧ ((zHasQ 3 21 l0 M 3) ∧ ((zHasI 3 82 l1 M 0) ∧ ((zOkI (zQ M l0 3) (zI M l1 0) M) ∧ ((zHasC 27 73 l0 M 26 2) ∧ ((p26_0 n l0 l1 l2 M) ∧ (p27_74 n  l0 l1 ((s0 + s1) - (zI M (zQ M l0 2) (zI M l1 2).toNatClampNeg)) (zI M (zQ M l0 3) (zI M l1 0).toNatClampNeg) (b26_0 n l0 l1 l2 M).1 (b26_0 n l0 l1 l2 M).2))))))))
theorem s27_47 (n : Nat)    (l0 : Nat) (l1 : Nat) (l2 : Nat) (s0 : Int32) (s1 : Int32) (M : zM) (hp : p27_47 n  l0 l1 l2 s0 s1 M) {Q : Option Value → zM → Prop} (hQ : ∀ r M1, zRI (b27_47 n  l0 l1 l2 s0 s1 M) r M1 → Q r M1) : zWP 27 47 [some (.ref l0), some (.ref l1), some (.ref l2), none, none] [.int s1, .int s0] M Q := by
  unfold b27_47 at hQ
  unfold p27_47 at hp
  refine wp_go 2 (pc' := 49) (L' := [some (.ref l0), some (.ref l1), some (.ref l2), none, none]) (st' := [.ref l0, .int (s0 + s1)]) (M' := M) rfl ?_
  obtain ⟨hc, hp⟩ := hp
  refine wq_getQ (j := 2) rfl hc ?_
  refine wp_go 1 (pc' := 53) (L' := [some (.ref l0), some (.ref l1), some (.ref l2), none, none]) (st' := [.ref l1, .ref (zQ M l0 2), .int (s0 + s1)]) (M' := M) rfl ?_
  obtain ⟨hc, hp⟩ := hp
  refine wq_getI (j := 2) rfl hc ?_
  obtain ⟨hc, hp⟩ := hp
  refine wq_iald rfl hc ?_
  refine wp_go 3 (pc' := 60) (L' := [some (.ref l0), some (.ref l1), some (.ref l2), some (.int ((s0 + s1) - (zI M (zQ M l0 2) (zI M l1 2).toNatClampNeg))), none]) (st' := [.ref l0]) (M' := M) rfl ?_
  obtain ⟨hc, hp⟩ := hp
  refine wq_getQ (j := 3) rfl hc ?_
  refine wp_go 1 (pc' := 64) (L' := [some (.ref l0), some (.ref l1), some (.ref l2), some (.int ((s0 + s1) - (zI M (zQ M l0 2) (zI M l1 2).toNatClampNeg))), none]) (st' := [.ref l1, .ref (zQ M l0 3)]) (M' := M) rfl ?_
  obtain ⟨hc, hp⟩ := hp
  refine wq_getI (j := 0) rfl hc ?_
  obtain ⟨hc, hp⟩ := hp
  refine wq_iald rfl hc ?_
  refine wp_go 3 (pc' := 71) (L' := [some (.ref l0), some (.ref l1), some (.ref l2), some (.int ((s0 + s1) - (zI M (zQ M l0 2) (zI M l1 2).toNatClampNeg))), none]) (st' := [.ref l2, .ref l1, .ref l0, .int (zI M (zQ M l0 3) (zI M l1 0).toNatClampNeg)]) (M' := M) rfl ?_
  obtain ⟨hv, hp⟩ := hp
  obtain ⟨hc, hp⟩ := hp
  refine wp_calli (v := (b26_0 n l0 l1 l2 M).1) (M1 := (b26_0 n l0 l1 l2 M).2) rfl rfl rfl (zInv_v (np := 2) rfl rfl hv rfl) (s26_0 n l0 l1 l2 M hc (fun r M1 h => h)) ?_
  refine wp_le [some (.ref l0), some (.ref l1), none, some (.int ((s0 + s1) - (zI M (zQ M l0 2) (zI M l1 2).toNatClampNeg))), none] (zLe_of (by simp [zLeB])) ?_
  exact s27_74 n    l0 l1 ((s0 + s1) - (zI M (zQ M l0 2) (zI M l1 2).toNatClampNeg)) (zI M (zQ M l0 3) (zI M l1 0).toNatClampNeg) (b26_0 n l0 l1 l2 M).1 (b26_0 n l0 l1 l2 M).2 hp hQ
def b27_0 (n : Nat)  (l0 : Nat) (l1 : Nat) (l2 : Nat) (M : zM) : Int32 × zM := (if (((zI M (zQ M l0 1) (zI M l1 0).toNatClampNeg) + (zI M l1 4)) - ((zI M (zQ M l0 1) (zI M l1 0).toNatClampNeg) + (zI M l1 4)) / (24 : Int32) * (24 : Int32)) = (zI M (zQ M l0 1) (zI M l1 2).toNatClampNeg) then b27_47 n  l0 l1 l2 (zI M (zQ M l0 2) (zI M l1 0).toNatClampNeg) (b25_0 n l0 l1 l2 M).1 (b25_0 n l0 l1 l2 M).2 else ((1000000000 : Int32), M))
def p27_0 (n : Nat)  (l0 : Nat) (l1 : Nat) (l2 : Nat) (M : zM) : Prop := (zHasQ 3 15 l0 M 1) ∧ ((zHasI 3 82 l1 M 0) ∧ ((zOkI (zQ M l0 1) (zI M l1 0) M) ∧ ((zHasI 3 100 l1 M 4) ∧ ((zHasQ 3 15 l0 M 1) ∧ ((zHasI 3 93 l1 M 2) ∧ ((zOkI (zQ M l0 1) (zI M l1 2) M) ∧ ((((((zI M (zQ M l0 1) (zI M l1 0).toNatClampNeg) + (zI M l1 4)) - ((zI M (zQ M l0 1) (zI M l1 0).toNatClampNeg) + (zI M l1 4)) / (24 : Int32) * (24 : Int32)) = (zI M (zQ M l0 1) (zI M l1 2).toNatClampNeg) → (zHasQ 3 18 l0 M 2) ∧ ((zHasI 3 82 l1 M 0) ∧ ((zOkI (zQ M l0 2) (zI M l1 0) M) ∧ ((zHasC 27 69 l0 M 25 2) ∧ ((p25_0 n l0 l1 l2 M) ∧ (p27_47 n  l0 l1 l2 (zI M (zQ M l0 2) (zI M l1 0).toNatClampNeg) (b25_0 n l0 l1 l2 M).1 (b25_0 n l0 l1 l2 M).2)))))) ∧ (¬ (((zI M (zQ M l0 1) (zI M l1 0).toNatClampNeg) + (zI M l1 4)) - ((zI M (zQ M l0 1) (zI M l1 0).toNatClampNeg) + (zI M l1 4)) / (24 : Int32) * (24 : Int32)) = (zI M (zQ M l0 1) (zI M l1 2).toNatClampNeg) → True)))))))))
theorem s27_0 (n : Nat)    (l0 : Nat) (l1 : Nat) (l2 : Nat) (M : zM) (hp : p27_0 n  l0 l1 l2 M) {Q : Option Value → zM → Prop} (hQ : ∀ r M1, zRI (b27_0 n  l0 l1 l2 M) r M1 → Q r M1) : zWP 27 0 [some (.ref l0), some (.ref l1), some (.ref l2), none, none] [] M Q := by
  unfold b27_0 at hQ
  unfold p27_0 at hp
  refine wp_go 1 (pc' := 1) (L' := [some (.ref l0), some (.ref l1), some (.ref l2), none, none]) (st' := [.ref l0]) (M' := M) rfl ?_
  obtain ⟨hc, hp⟩ := hp
  refine wq_getQ (j := 1) rfl hc ?_
  refine wp_go 1 (pc' := 5) (L' := [some (.ref l0), some (.ref l1), some (.ref l2), none, none]) (st' := [.ref l1, .ref (zQ M l0 1)]) (M' := M) rfl ?_
  obtain ⟨hc, hp⟩ := hp
  refine wq_getI (j := 0) rfl hc ?_
  obtain ⟨hc, hp⟩ := hp
  refine wq_iald rfl hc ?_
  refine wp_go 1 (pc' := 10) (L' := [some (.ref l0), some (.ref l1), some (.ref l2), none, none]) (st' := [.ref l1, .int (zI M (zQ M l0 1) (zI M l1 0).toNatClampNeg)]) (M' := M) rfl ?_
  obtain ⟨hc, hp⟩ := hp
  refine wq_getI (j := 4) rfl hc ?_
  refine wp_go 2 (pc' := 16) (L' := [some (.ref l0), some (.ref l1), some (.ref l2), none, none]) (st' := [.int (24 : Int32), .int ((zI M (zQ M l0 1) (zI M l1 0).toNatClampNeg) + (zI M l1 4))]) (M' := M) rfl ?_
  refine wq_irem rfl (by decide) ?_
  refine wp_go 1 (pc' := 18) (L' := [some (.ref l0), some (.ref l1), some (.ref l2), none, none]) (st' := [.ref l0, .int (((zI M (zQ M l0 1) (zI M l1 0).toNatClampNeg) + (zI M l1 4)) - ((zI M (zQ M l0 1) (zI M l1 0).toNatClampNeg) + (zI M l1 4)) / (24 : Int32) * (24 : Int32))]) (M' := M) rfl ?_
  obtain ⟨hc, hp⟩ := hp
  refine wq_getQ (j := 1) rfl hc ?_
  refine wp_go 1 (pc' := 22) (L' := [some (.ref l0), some (.ref l1), some (.ref l2), none, none]) (st' := [.ref l1, .ref (zQ M l0 1), .int (((zI M (zQ M l0 1) (zI M l1 0).toNatClampNeg) + (zI M l1 4)) - ((zI M (zQ M l0 1) (zI M l1 0).toNatClampNeg) + (zI M l1 4)) / (24 : Int32) * (24 : Int32))]) (M' := M) rfl ?_
  obtain ⟨hc, hp⟩ := hp
  refine wq_getI (j := 2) rfl hc ?_
  obtain ⟨hc, hp⟩ := hp
  refine wq_iald rfl hc ?_
  refine wp_ic_eq (t := 32) rfl rfl (fun hc => ?_) (fun hc => ?_)
  · rw [if_pos hc] at hQ
    replace hp := hp.1 hc
    refine wp_go 1 (pc' := 33) (L' := [some (.ref l0), some (.ref l1), some (.ref l2), none, none]) (st' := [.ref l0]) (M' := M) rfl ?_
    obtain ⟨hc, hp⟩ := hp
    refine wq_getQ (j := 2) rfl hc ?_
    refine wp_go 1 (pc' := 37) (L' := [some (.ref l0), some (.ref l1), some (.ref l2), none, none]) (st' := [.ref l1, .ref (zQ M l0 2)]) (M' := M) rfl ?_
    obtain ⟨hc, hp⟩ := hp
    refine wq_getI (j := 0) rfl hc ?_
    obtain ⟨hc, hp⟩ := hp
    refine wq_iald rfl hc ?_
    refine wp_go 3 (pc' := 44) (L' := [some (.ref l0), some (.ref l1), some (.ref l2), none, none]) (st' := [.ref l2, .ref l1, .ref l0, .int (zI M (zQ M l0 2) (zI M l1 0).toNatClampNeg)]) (M' := M) rfl ?_
    obtain ⟨hv, hp⟩ := hp
    obtain ⟨hc, hp⟩ := hp
    refine wp_calli (v := (b25_0 n l0 l1 l2 M).1) (M1 := (b25_0 n l0 l1 l2 M).2) rfl rfl rfl (zInv_v (np := 2) rfl rfl hv rfl) (s25_0 n l0 l1 l2 M hc (fun r M1 h => h)) ?_
    exact s27_47 n    l0 l1 l2 (zI M (zQ M l0 2) (zI M l1 0).toNatClampNeg) (b25_0 n l0 l1 l2 M).1 (b25_0 n l0 l1 l2 M).2 hp hQ
  · rw [if_neg hc] at hQ
    replace hp := hp.2 hc
    refine wp_go 1 (pc' := 31) (L' := [some (.ref l0), some (.ref l1), some (.ref l2), none, none]) (st' := [.int (1000000000 : Int32)]) (M' := M) rfl ?_
    exact wp_ret (r := some (.int (1000000000 : Int32))) rfl rfl (hQ _ _ ⟨rfl, rfl⟩)
/-! J9_min_7cf53 -/
def b194_10 (n : Nat)  (s0 : Int32) (M : zM) : Int32 × zM := (s0, M)
def p194_10 (n : Nat)  (s0 : Int32) (M : zM) : Prop := True
theorem s194_10 (n : Nat)    (s0 : Int32) (M : zM) (hp : p194_10 n  s0 M) {Q : Option Value → zM → Prop} (hQ : ∀ r M1, zRI (b194_10 n  s0 M) r M1 → Q r M1) : zWP 194 10 [none, none] [.int s0] M Q := by
  unfold b194_10 at hQ
  unfold p194_10 at hp
  exact wp_ret (r := some (.int s0)) rfl rfl (hQ _ _ ⟨rfl, rfl⟩)
def b194_0 (n : Nat)  (l0 : Int32) (l1 : Int32) (M : zM) : Int32 × zM := (if l1 < l0 then b194_10 n  l1 M else b194_10 n  l0 M)
def p194_0 (n : Nat)  (l0 : Int32) (l1 : Int32) (M : zM) : Prop := ((l1 < l0 → p194_10 n  l1 M) ∧ (¬ l1 < l0 → p194_10 n  l0 M))
theorem s194_0 (n : Nat)    (l0 : Int32) (l1 : Int32) (M : zM) (hp : p194_0 n  l0 l1 M) {Q : Option Value → zM → Prop} (hQ : ∀ r M1, zRI (b194_0 n  l0 l1 M) r M1 → Q r M1) : zWP 194 0 [some (.int l0), some (.int l1)] [] M Q := by
  unfold b194_0 at hQ
  unfold p194_0 at hp
  refine wp_go 2 (pc' := 2) (L' := [some (.int l0), some (.int l1)]) (st' := [.int l1, .int l0]) (M' := M) rfl ?_
  refine wp_ic_gt (t := 9) rfl rfl (fun hc => ?_) (fun hc => ?_)
  · rw [if_pos hc] at hQ
    replace hp := hp.1 hc
    refine wp_go 1 (pc' := 10) (L' := [some (.int l0), some (.int l1)]) (st' := [.int l1]) (M' := M) rfl ?_
    refine wp_le [none, none] (zLe_of (by simp [zLeB])) ?_
    exact s194_10 n    l1 M hp hQ
  · rw [if_neg hc] at hQ
    replace hp := hp.2 hc
    refine wp_go 2 (pc' := 10) (L' := [some (.int l0), some (.int l1)]) (st' := [.int l0]) (M' := M) rfl ?_
    refine wp_le [none, none] (zLe_of (by simp [zLeB])) ?_
    exact s194_10 n    l0 M hp hQ
/-! X5_draw -/
def b29_192 (n : Nat) (k45 : Nat → Nat → Int32 → Int32 → zM → zM) (l0 : Nat) (l1 : Nat) (l2 : Int32) (l5 : Int32) (M : zM) : zM := k45 l0 l1 l2 (l5 + Int32.ofInt 1) M
def p29_192 (n : Nat) (q45 : Nat → Nat → Int32 → Int32 → zM → Prop) (l0 : Nat) (l1 : Nat) (l2 : Int32) (l5 : Int32) (M : zM) : Prop := q45 l0 l1 l2 (l5 + Int32.ofInt 1) M
theorem s29_192 (n : Nat) (k45 : Nat → Nat → Int32 → Int32 → zM → zM) (q45 : Nat → Nat → Int32 → Int32 → zM → Prop) (h45 : ∀ (l0 : Nat) (l1 : Nat) (l2 : Int32) (l5 : Int32) (M : zM), q45 l0 l1 l2 l5 M → ∀ {Q : Option Value → zM → Prop}, (∀ r M1, zRV (k45 l0 l1 l2 l5 M) r M1 → Q r M1) → zWP 29 45 [some (.ref l0), some (.ref l1), some (.int l2), none, none, some (.int l5)] [] M Q) (l0 : Nat) (l1 : Nat) (l2 : Int32) (l5 : Int32) (M : zM) (hp : p29_192 n q45 l0 l1 l2 l5 M) {Q : Option Value → zM → Prop} (hQ : ∀ r M1, zRV (b29_192 n k45 l0 l1 l2 l5 M) r M1 → Q r M1) : zWP 29 192 [some (.ref l0), some (.ref l1), some (.int l2), none, none, some (.int l5)] [] M Q := by
  unfold b29_192 at hQ
  unfold p29_192 at hp
  refine wp_go 2 (pc' := 45) (L' := [some (.ref l0), some (.ref l1), some (.int l2), none, none, some (.int (l5 + Int32.ofInt 1))]) (st' := []) (M' := M) rfl ?_
  exact h45 l0 l1 l2 (l5 + Int32.ofInt 1) M hp hQ
def b29_182 (n : Nat) (k45 : Nat → Nat → Int32 → Int32 → zM → zM) (l0 : Nat) (l1 : Nat) (l2 : Int32) (l5 : Int32) (M : zM) : zM := b29_192 n k45 l0 l1 l2 l5 (zWI M l0 3 ((zI M l0 3) + (1 : Int32)))
def p29_182 (n : Nat) (q45 : Nat → Nat → Int32 → Int32 → zM → Prop) (l0 : Nat) (l1 : Nat) (l2 : Int32) (l5 : Int32) (M : zM) : Prop := (zHasI 4 21 l0 M 3) ∧ ((zPutI 29 21 l0 M 3 ((zI M l0 3) + (1 : Int32))) ∧ (p29_192 n q45 l0 l1 l2 l5 (zWI M l0 3 ((zI M l0 3) + (1 : Int32)))))
theorem s29_182 (n : Nat) (k45 : Nat → Nat → Int32 → Int32 → zM → zM) (q45 : Nat → Nat → Int32 → Int32 → zM → Prop) (h45 : ∀ (l0 : Nat) (l1 : Nat) (l2 : Int32) (l5 : Int32) (M : zM), q45 l0 l1 l2 l5 M → ∀ {Q : Option Value → zM → Prop}, (∀ r M1, zRV (k45 l0 l1 l2 l5 M) r M1 → Q r M1) → zWP 29 45 [some (.ref l0), some (.ref l1), some (.int l2), none, none, some (.int l5)] [] M Q) (l0 : Nat) (l1 : Nat) (l2 : Int32) (l5 : Int32) (M : zM) (hp : p29_182 n q45 l0 l1 l2 l5 M) {Q : Option Value → zM → Prop} (hQ : ∀ r M1, zRV (b29_182 n k45 l0 l1 l2 l5 M) r M1 → Q r M1) : zWP 29 182 [some (.ref l0), some (.ref l1), some (.int l2), none, none, some (.int l5)] [] M Q := by
  unfold b29_182 at hQ
  unfold p29_182 at hp
  refine wp_go 2 (pc' := 184) (L' := [some (.ref l0), some (.ref l1), some (.int l2), none, none, some (.int l5)]) (st' := [.ref l0, .ref l0]) (M' := M) rfl ?_
  obtain ⟨hc, hp⟩ := hp
  refine wq_getI (j := 3) rfl hc ?_
  refine wp_go 2 (pc' := 189) (L' := [some (.ref l0), some (.ref l1), some (.int l2), none, none, some (.int l5)]) (st' := [.int ((zI M l0 3) + (1 : Int32)), .ref l0]) (M' := M) rfl ?_
  obtain ⟨hc, hp⟩ := hp
  refine wq_putI (j := 3) rfl hc ?_
  exact s29_192 n k45 q45 h45 l0 l1 l2 l5 (zWI M l0 3 ((zI M l0 3) + (1 : Int32))) hp hQ
def b29_179 (n : Nat) (k45 : Nat → Nat → Int32 → Int32 → zM → zM) (l0 : Nat) (l1 : Nat) (l2 : Int32) (l5 : Int32) (s0 : Nat) (s1 : Int32) (M : zM) : zM := b29_182 n k45 l0 l1 l2 l5 (zWI M s0 8 s1)
def p29_179 (n : Nat) (q45 : Nat → Nat → Int32 → Int32 → zM → Prop) (l0 : Nat) (l1 : Nat) (l2 : Int32) (l5 : Int32) (s0 : Nat) (s1 : Int32) (M : zM) : Prop := (zPutI 29 37 s0 M 8 s1) ∧ (p29_182 n q45 l0 l1 l2 l5 (zWI M s0 8 s1))
theorem s29_179 (n : Nat) (k45 : Nat → Nat → Int32 → Int32 → zM → zM) (q45 : Nat → Nat → Int32 → Int32 → zM → Prop) (h45 : ∀ (l0 : Nat) (l1 : Nat) (l2 : Int32) (l5 : Int32) (M : zM), q45 l0 l1 l2 l5 M → ∀ {Q : Option Value → zM → Prop}, (∀ r M1, zRV (k45 l0 l1 l2 l5 M) r M1 → Q r M1) → zWP 29 45 [some (.ref l0), some (.ref l1), some (.int l2), none, none, some (.int l5)] [] M Q) (l0 : Nat) (l1 : Nat) (l2 : Int32) (l5 : Int32) (s0 : Nat) (s1 : Int32) (M : zM) (hp : p29_179 n q45 l0 l1 l2 l5 s0 s1 M) {Q : Option Value → zM → Prop} (hQ : ∀ r M1, zRV (b29_179 n k45 l0 l1 l2 l5 s0 s1 M) r M1 → Q r M1) : zWP 29 179 [some (.ref l0), some (.ref l1), some (.int l2), none, none, some (.int l5)] [.int s1, .ref s0] M Q := by
  unfold b29_179 at hQ
  unfold p29_179 at hp
  obtain ⟨hc, hp⟩ := hp
  refine wq_putI (j := 8) rfl hc ?_
  exact s29_182 n k45 q45 h45 l0 l1 l2 l5 (zWI M s0 8 s1) hp hQ
def b29_162 (n : Nat) (k45 : Nat → Nat → Int32 → Int32 → zM → zM) (l0 : Nat) (l1 : Nat) (l2 : Int32) (l5 : Int32) (M : zM) : zM := b29_179 n k45 l0 l1 l2 l5 l0 (b192_0 n (zI M l0 8) (zI M (zQ M l0 1) (l5 + (1 : Int32)).toNatClampNeg) M).1 (b192_0 n (zI M l0 8) (zI M (zQ M l0 1) (l5 + (1 : Int32)).toNatClampNeg) M).2
def p29_162 (n : Nat) (q45 : Nat → Nat → Int32 → Int32 → zM → Prop) (l0 : Nat) (l1 : Nat) (l2 : Int32) (l5 : Int32) (M : zM) : Prop := (zHasI 4 37 l0 M 8) ∧ ((zHasQ 4 15 l0 M 1) ∧ ((zOkI (zQ M l0 1) (l5 + (1 : Int32)) M) ∧ ((p192_0 n (zI M l0 8) (zI M (zQ M l0 1) (l5 + (1 : Int32)).toNatClampNeg) M) ∧ (p29_179 n q45 l0 l1 l2 l5 l0 (b192_0 n (zI M l0 8) (zI M (zQ M l0 1) (l5 + (1 : Int32)).toNatClampNeg) M).1 (b192_0 n (zI M l0 8) (zI M (zQ M l0 1) (l5 + (1 : Int32)).toNatClampNeg) M).2))))
theorem s29_162 (n : Nat) (k45 : Nat → Nat → Int32 → Int32 → zM → zM) (q45 : Nat → Nat → Int32 → Int32 → zM → Prop) (h45 : ∀ (l0 : Nat) (l1 : Nat) (l2 : Int32) (l5 : Int32) (M : zM), q45 l0 l1 l2 l5 M → ∀ {Q : Option Value → zM → Prop}, (∀ r M1, zRV (k45 l0 l1 l2 l5 M) r M1 → Q r M1) → zWP 29 45 [some (.ref l0), some (.ref l1), some (.int l2), none, none, some (.int l5)] [] M Q) (l0 : Nat) (l1 : Nat) (l2 : Int32) (l5 : Int32) (M : zM) (hp : p29_162 n q45 l0 l1 l2 l5 M) {Q : Option Value → zM → Prop} (hQ : ∀ r M1, zRV (b29_162 n k45 l0 l1 l2 l5 M) r M1 → Q r M1) : zWP 29 162 [some (.ref l0), some (.ref l1), some (.int l2), none, none, some (.int l5)] [] M Q := by
  unfold b29_162 at hQ
  unfold p29_162 at hp
  refine wp_go 2 (pc' := 164) (L' := [some (.ref l0), some (.ref l1), some (.int l2), none, none, some (.int l5)]) (st' := [.ref l0, .ref l0]) (M' := M) rfl ?_
  obtain ⟨hc, hp⟩ := hp
  refine wq_getI (j := 8) rfl hc ?_
  refine wp_go 1 (pc' := 168) (L' := [some (.ref l0), some (.ref l1), some (.int l2), none, none, some (.int l5)]) (st' := [.ref l0, .int (zI M l0 8), .ref l0]) (M' := M) rfl ?_
  obtain ⟨hc, hp⟩ := hp
  refine wq_getQ (j := 1) rfl hc ?_
  refine wp_go 3 (pc' := 175) (L' := [some (.ref l0), some (.ref l1), some (.int l2), none, none, some (.int l5)]) (st' := [.int (l5 + (1 : Int32)), .ref (zQ M l0 1), .int (zI M l0 8), .ref l0]) (M' := M) rfl ?_
  obtain ⟨hc, hp⟩ := hp
  refine wq_iald rfl hc ?_
  obtain ⟨hc, hp⟩ := hp
  refine wp_calli (v := (b192_0 n (zI M l0 8) (zI M (zQ M l0 1) (l5 + (1 : Int32)).toNatClampNeg) M).1) (M1 := (b192_0 n (zI M l0 8) (zI M (zQ M l0 1) (l5 + (1 : Int32)).toNatClampNeg) M).2) rfl rfl rfl rfl (s192_0 n (zI M l0 8) (zI M (zQ M l0 1) (l5 + (1 : Int32)).toNatClampNeg) M hc (fun r M1 h => h)) ?_
  exact s29_179 n k45 q45 h45 l0 l1 l2 l5 l0 (b192_0 n (zI M l0 8) (zI M (zQ M l0 1) (l5 + (1 : Int32)).toNatClampNeg) M).1 (b192_0 n (zI M l0 8) (zI M (zQ M l0 1) (l5 + (1 : Int32)).toNatClampNeg) M).2 hp hQ
def b29_159 (n : Nat) (k45 : Nat → Nat → Int32 → Int32 → zM → zM) (l0 : Nat) (l1 : Nat) (l2 : Int32) (l5 : Int32) (s0 : Nat) (s1 : Int32) (M : zM) : zM := b29_162 n k45 l0 l1 l2 l5 (zWI M s0 7 s1)
def p29_159 (n : Nat) (q45 : Nat → Nat → Int32 → Int32 → zM → Prop) (l0 : Nat) (l1 : Nat) (l2 : Int32) (l5 : Int32) (s0 : Nat) (s1 : Int32) (M : zM) : Prop := (zPutI 29 34 s0 M 7 s1) ∧ (p29_162 n q45 l0 l1 l2 l5 (zWI M s0 7 s1))
theorem s29_159 (n : Nat) (k45 : Nat → Nat → Int32 → Int32 → zM → zM) (q45 : Nat → Nat → Int32 → Int32 → zM → Prop) (h45 : ∀ (l0 : Nat) (l1 : Nat) (l2 : Int32) (l5 : Int32) (M : zM), q45 l0 l1 l2 l5 M → ∀ {Q : Option Value → zM → Prop}, (∀ r M1, zRV (k45 l0 l1 l2 l5 M) r M1 → Q r M1) → zWP 29 45 [some (.ref l0), some (.ref l1), some (.int l2), none, none, some (.int l5)] [] M Q) (l0 : Nat) (l1 : Nat) (l2 : Int32) (l5 : Int32) (s0 : Nat) (s1 : Int32) (M : zM) (hp : p29_159 n q45 l0 l1 l2 l5 s0 s1 M) {Q : Option Value → zM → Prop} (hQ : ∀ r M1, zRV (b29_159 n k45 l0 l1 l2 l5 s0 s1 M) r M1 → Q r M1) : zWP 29 159 [some (.ref l0), some (.ref l1), some (.int l2), none, none, some (.int l5)] [.int s1, .ref s0] M Q := by
  unfold b29_159 at hQ
  unfold p29_159 at hp
  obtain ⟨hc, hp⟩ := hp
  refine wq_putI (j := 7) rfl hc ?_
  exact s29_162 n k45 q45 h45 l0 l1 l2 l5 (zWI M s0 7 s1) hp hQ
def b29_142 (n : Nat) (k45 : Nat → Nat → Int32 → Int32 → zM → zM) (l0 : Nat) (l1 : Nat) (l2 : Int32) (l5 : Int32) (M : zM) : zM := b29_159 n k45 l0 l1 l2 l5 l0 (b194_0 n (zI M l0 7) (zI M (zQ M l0 1) (l5 + (1 : Int32)).toNatClampNeg) M).1 (b194_0 n (zI M l0 7) (zI M (zQ M l0 1) (l5 + (1 : Int32)).toNatClampNeg) M).2
def p29_142 (n : Nat) (q45 : Nat → Nat → Int32 → Int32 → zM → Prop) (l0 : Nat) (l1 : Nat) (l2 : Int32) (l5 : Int32) (M : zM) : Prop := (zHasI 4 34 l0 M 7) ∧ ((zHasQ 4 15 l0 M 1) ∧ ((zOkI (zQ M l0 1) (l5 + (1 : Int32)) M) ∧ ((p194_0 n (zI M l0 7) (zI M (zQ M l0 1) (l5 + (1 : Int32)).toNatClampNeg) M) ∧ (p29_159 n q45 l0 l1 l2 l5 l0 (b194_0 n (zI M l0 7) (zI M (zQ M l0 1) (l5 + (1 : Int32)).toNatClampNeg) M).1 (b194_0 n (zI M l0 7) (zI M (zQ M l0 1) (l5 + (1 : Int32)).toNatClampNeg) M).2))))
theorem s29_142 (n : Nat) (k45 : Nat → Nat → Int32 → Int32 → zM → zM) (q45 : Nat → Nat → Int32 → Int32 → zM → Prop) (h45 : ∀ (l0 : Nat) (l1 : Nat) (l2 : Int32) (l5 : Int32) (M : zM), q45 l0 l1 l2 l5 M → ∀ {Q : Option Value → zM → Prop}, (∀ r M1, zRV (k45 l0 l1 l2 l5 M) r M1 → Q r M1) → zWP 29 45 [some (.ref l0), some (.ref l1), some (.int l2), none, none, some (.int l5)] [] M Q) (l0 : Nat) (l1 : Nat) (l2 : Int32) (l5 : Int32) (M : zM) (hp : p29_142 n q45 l0 l1 l2 l5 M) {Q : Option Value → zM → Prop} (hQ : ∀ r M1, zRV (b29_142 n k45 l0 l1 l2 l5 M) r M1 → Q r M1) : zWP 29 142 [some (.ref l0), some (.ref l1), some (.int l2), none, none, some (.int l5)] [] M Q := by
  unfold b29_142 at hQ
  unfold p29_142 at hp
  refine wp_go 2 (pc' := 144) (L' := [some (.ref l0), some (.ref l1), some (.int l2), none, none, some (.int l5)]) (st' := [.ref l0, .ref l0]) (M' := M) rfl ?_
  obtain ⟨hc, hp⟩ := hp
  refine wq_getI (j := 7) rfl hc ?_
  refine wp_go 1 (pc' := 148) (L' := [some (.ref l0), some (.ref l1), some (.int l2), none, none, some (.int l5)]) (st' := [.ref l0, .int (zI M l0 7), .ref l0]) (M' := M) rfl ?_
  obtain ⟨hc, hp⟩ := hp
  refine wq_getQ (j := 1) rfl hc ?_
  refine wp_go 3 (pc' := 155) (L' := [some (.ref l0), some (.ref l1), some (.int l2), none, none, some (.int l5)]) (st' := [.int (l5 + (1 : Int32)), .ref (zQ M l0 1), .int (zI M l0 7), .ref l0]) (M' := M) rfl ?_
  obtain ⟨hc, hp⟩ := hp
  refine wq_iald rfl hc ?_
  obtain ⟨hc, hp⟩ := hp
  refine wp_calli (v := (b194_0 n (zI M l0 7) (zI M (zQ M l0 1) (l5 + (1 : Int32)).toNatClampNeg) M).1) (M1 := (b194_0 n (zI M l0 7) (zI M (zQ M l0 1) (l5 + (1 : Int32)).toNatClampNeg) M).2) rfl rfl rfl rfl (s194_0 n (zI M l0 7) (zI M (zQ M l0 1) (l5 + (1 : Int32)).toNatClampNeg) M hc (fun r M1 h => h)) ?_
  exact s29_159 n k45 q45 h45 l0 l1 l2 l5 l0 (b194_0 n (zI M l0 7) (zI M (zQ M l0 1) (l5 + (1 : Int32)).toNatClampNeg) M).1 (b194_0 n (zI M l0 7) (zI M (zQ M l0 1) (l5 + (1 : Int32)).toNatClampNeg) M).2 hp hQ
def b29_139 (n : Nat) (k45 : Nat → Nat → Int32 → Int32 → zM → zM) (l0 : Nat) (l1 : Nat) (l2 : Int32) (l5 : Int32) (s0 : Nat) (s1 : Int32) (M : zM) : zM := b29_142 n k45 l0 l1 l2 l5 (zWI M s0 6 s1)
def p29_139 (n : Nat) (q45 : Nat → Nat → Int32 → Int32 → zM → Prop) (l0 : Nat) (l1 : Nat) (l2 : Int32) (l5 : Int32) (s0 : Nat) (s1 : Int32) (M : zM) : Prop := (zPutI 29 31 s0 M 6 s1) ∧ (p29_142 n q45 l0 l1 l2 l5 (zWI M s0 6 s1))
theorem s29_139 (n : Nat) (k45 : Nat → Nat → Int32 → Int32 → zM → zM) (q45 : Nat → Nat → Int32 → Int32 → zM → Prop) (h45 : ∀ (l0 : Nat) (l1 : Nat) (l2 : Int32) (l5 : Int32) (M : zM), q45 l0 l1 l2 l5 M → ∀ {Q : Option Value → zM → Prop}, (∀ r M1, zRV (k45 l0 l1 l2 l5 M) r M1 → Q r M1) → zWP 29 45 [some (.ref l0), some (.ref l1), some (.int l2), none, none, some (.int l5)] [] M Q) (l0 : Nat) (l1 : Nat) (l2 : Int32) (l5 : Int32) (s0 : Nat) (s1 : Int32) (M : zM) (hp : p29_139 n q45 l0 l1 l2 l5 s0 s1 M) {Q : Option Value → zM → Prop} (hQ : ∀ r M1, zRV (b29_139 n k45 l0 l1 l2 l5 s0 s1 M) r M1 → Q r M1) : zWP 29 139 [some (.ref l0), some (.ref l1), some (.int l2), none, none, some (.int l5)] [.int s1, .ref s0] M Q := by
  unfold b29_139 at hQ
  unfold p29_139 at hp
  obtain ⟨hc, hp⟩ := hp
  refine wq_putI (j := 6) rfl hc ?_
  exact s29_142 n k45 q45 h45 l0 l1 l2 l5 (zWI M s0 6 s1) hp hQ
def b29_122 (n : Nat) (k45 : Nat → Nat → Int32 → Int32 → zM → zM) (l0 : Nat) (l1 : Nat) (l2 : Int32) (l5 : Int32) (M : zM) : zM := b29_139 n k45 l0 l1 l2 l5 l0 (b192_0 n (zI M l0 6) (zI M (zQ M l0 0) (l5 + (1 : Int32)).toNatClampNeg) M).1 (b192_0 n (zI M l0 6) (zI M (zQ M l0 0) (l5 + (1 : Int32)).toNatClampNeg) M).2
def p29_122 (n : Nat) (q45 : Nat → Nat → Int32 → Int32 → zM → Prop) (l0 : Nat) (l1 : Nat) (l2 : Int32) (l5 : Int32) (M : zM) : Prop := (zHasI 4 31 l0 M 6) ∧ ((zHasQ 4 9 l0 M 0) ∧ ((zOkI (zQ M l0 0) (l5 + (1 : Int32)) M) ∧ ((p192_0 n (zI M l0 6) (zI M (zQ M l0 0) (l5 + (1 : Int32)).toNatClampNeg) M) ∧ (p29_139 n q45 l0 l1 l2 l5 l0 (b192_0 n (zI M l0 6) (zI M (zQ M l0 0) (l5 + (1 : Int32)).toNatClampNeg) M).1 (b192_0 n (zI M l0 6) (zI M (zQ M l0 0) (l5 + (1 : Int32)).toNatClampNeg) M).2))))
theorem s29_122 (n : Nat) (k45 : Nat → Nat → Int32 → Int32 → zM → zM) (q45 : Nat → Nat → Int32 → Int32 → zM → Prop) (h45 : ∀ (l0 : Nat) (l1 : Nat) (l2 : Int32) (l5 : Int32) (M : zM), q45 l0 l1 l2 l5 M → ∀ {Q : Option Value → zM → Prop}, (∀ r M1, zRV (k45 l0 l1 l2 l5 M) r M1 → Q r M1) → zWP 29 45 [some (.ref l0), some (.ref l1), some (.int l2), none, none, some (.int l5)] [] M Q) (l0 : Nat) (l1 : Nat) (l2 : Int32) (l5 : Int32) (M : zM) (hp : p29_122 n q45 l0 l1 l2 l5 M) {Q : Option Value → zM → Prop} (hQ : ∀ r M1, zRV (b29_122 n k45 l0 l1 l2 l5 M) r M1 → Q r M1) : zWP 29 122 [some (.ref l0), some (.ref l1), some (.int l2), none, none, some (.int l5)] [] M Q := by
  unfold b29_122 at hQ
  unfold p29_122 at hp
  refine wp_go 2 (pc' := 124) (L' := [some (.ref l0), some (.ref l1), some (.int l2), none, none, some (.int l5)]) (st' := [.ref l0, .ref l0]) (M' := M) rfl ?_
  obtain ⟨hc, hp⟩ := hp
  refine wq_getI (j := 6) rfl hc ?_
  refine wp_go 1 (pc' := 128) (L' := [some (.ref l0), some (.ref l1), some (.int l2), none, none, some (.int l5)]) (st' := [.ref l0, .int (zI M l0 6), .ref l0]) (M' := M) rfl ?_
  obtain ⟨hc, hp⟩ := hp
  refine wq_getQ (j := 0) rfl hc ?_
  refine wp_go 3 (pc' := 135) (L' := [some (.ref l0), some (.ref l1), some (.int l2), none, none, some (.int l5)]) (st' := [.int (l5 + (1 : Int32)), .ref (zQ M l0 0), .int (zI M l0 6), .ref l0]) (M' := M) rfl ?_
  obtain ⟨hc, hp⟩ := hp
  refine wq_iald rfl hc ?_
  obtain ⟨hc, hp⟩ := hp
  refine wp_calli (v := (b192_0 n (zI M l0 6) (zI M (zQ M l0 0) (l5 + (1 : Int32)).toNatClampNeg) M).1) (M1 := (b192_0 n (zI M l0 6) (zI M (zQ M l0 0) (l5 + (1 : Int32)).toNatClampNeg) M).2) rfl rfl rfl rfl (s192_0 n (zI M l0 6) (zI M (zQ M l0 0) (l5 + (1 : Int32)).toNatClampNeg) M hc (fun r M1 h => h)) ?_
  exact s29_139 n k45 q45 h45 l0 l1 l2 l5 l0 (b192_0 n (zI M l0 6) (zI M (zQ M l0 0) (l5 + (1 : Int32)).toNatClampNeg) M).1 (b192_0 n (zI M l0 6) (zI M (zQ M l0 0) (l5 + (1 : Int32)).toNatClampNeg) M).2 hp hQ
def b29_119 (n : Nat) (k45 : Nat → Nat → Int32 → Int32 → zM → zM) (l0 : Nat) (l1 : Nat) (l2 : Int32) (l5 : Int32) (s0 : Nat) (s1 : Int32) (M : zM) : zM := b29_122 n k45 l0 l1 l2 l5 (zWI M s0 5 s1)
def p29_119 (n : Nat) (q45 : Nat → Nat → Int32 → Int32 → zM → Prop) (l0 : Nat) (l1 : Nat) (l2 : Int32) (l5 : Int32) (s0 : Nat) (s1 : Int32) (M : zM) : Prop := (zPutI 29 28 s0 M 5 s1) ∧ (p29_122 n q45 l0 l1 l2 l5 (zWI M s0 5 s1))
theorem s29_119 (n : Nat) (k45 : Nat → Nat → Int32 → Int32 → zM → zM) (q45 : Nat → Nat → Int32 → Int32 → zM → Prop) (h45 : ∀ (l0 : Nat) (l1 : Nat) (l2 : Int32) (l5 : Int32) (M : zM), q45 l0 l1 l2 l5 M → ∀ {Q : Option Value → zM → Prop}, (∀ r M1, zRV (k45 l0 l1 l2 l5 M) r M1 → Q r M1) → zWP 29 45 [some (.ref l0), some (.ref l1), some (.int l2), none, none, some (.int l5)] [] M Q) (l0 : Nat) (l1 : Nat) (l2 : Int32) (l5 : Int32) (s0 : Nat) (s1 : Int32) (M : zM) (hp : p29_119 n q45 l0 l1 l2 l5 s0 s1 M) {Q : Option Value → zM → Prop} (hQ : ∀ r M1, zRV (b29_119 n k45 l0 l1 l2 l5 s0 s1 M) r M1 → Q r M1) : zWP 29 119 [some (.ref l0), some (.ref l1), some (.int l2), none, none, some (.int l5)] [.int s1, .ref s0] M Q := by
  unfold b29_119 at hQ
  unfold p29_119 at hp
  obtain ⟨hc, hp⟩ := hp
  refine wq_putI (j := 5) rfl hc ?_
  exact s29_122 n k45 q45 h45 l0 l1 l2 l5 (zWI M s0 5 s1) hp hQ
def b29_102 (n : Nat) (k45 : Nat → Nat → Int32 → Int32 → zM → zM) (l0 : Nat) (l1 : Nat) (l2 : Int32) (l5 : Int32) (M : zM) : zM := b29_119 n k45 l0 l1 l2 l5 l0 (b194_0 n (zI M l0 5) (zI M (zQ M l0 0) (l5 + (1 : Int32)).toNatClampNeg) M).1 (b194_0 n (zI M l0 5) (zI M (zQ M l0 0) (l5 + (1 : Int32)).toNatClampNeg) M).2
def p29_102 (n : Nat) (q45 : Nat → Nat → Int32 → Int32 → zM → Prop) (l0 : Nat) (l1 : Nat) (l2 : Int32) (l5 : Int32) (M : zM) : Prop := (zHasI 4 28 l0 M 5) ∧ ((zHasQ 4 9 l0 M 0) ∧ ((zOkI (zQ M l0 0) (l5 + (1 : Int32)) M) ∧ ((p194_0 n (zI M l0 5) (zI M (zQ M l0 0) (l5 + (1 : Int32)).toNatClampNeg) M) ∧ (p29_119 n q45 l0 l1 l2 l5 l0 (b194_0 n (zI M l0 5) (zI M (zQ M l0 0) (l5 + (1 : Int32)).toNatClampNeg) M).1 (b194_0 n (zI M l0 5) (zI M (zQ M l0 0) (l5 + (1 : Int32)).toNatClampNeg) M).2))))
theorem s29_102 (n : Nat) (k45 : Nat → Nat → Int32 → Int32 → zM → zM) (q45 : Nat → Nat → Int32 → Int32 → zM → Prop) (h45 : ∀ (l0 : Nat) (l1 : Nat) (l2 : Int32) (l5 : Int32) (M : zM), q45 l0 l1 l2 l5 M → ∀ {Q : Option Value → zM → Prop}, (∀ r M1, zRV (k45 l0 l1 l2 l5 M) r M1 → Q r M1) → zWP 29 45 [some (.ref l0), some (.ref l1), some (.int l2), none, none, some (.int l5)] [] M Q) (l0 : Nat) (l1 : Nat) (l2 : Int32) (l5 : Int32) (M : zM) (hp : p29_102 n q45 l0 l1 l2 l5 M) {Q : Option Value → zM → Prop} (hQ : ∀ r M1, zRV (b29_102 n k45 l0 l1 l2 l5 M) r M1 → Q r M1) : zWP 29 102 [some (.ref l0), some (.ref l1), some (.int l2), none, none, some (.int l5)] [] M Q := by
  unfold b29_102 at hQ
  unfold p29_102 at hp
  refine wp_go 2 (pc' := 104) (L' := [some (.ref l0), some (.ref l1), some (.int l2), none, none, some (.int l5)]) (st' := [.ref l0, .ref l0]) (M' := M) rfl ?_
  obtain ⟨hc, hp⟩ := hp
  refine wq_getI (j := 5) rfl hc ?_
  refine wp_go 1 (pc' := 108) (L' := [some (.ref l0), some (.ref l1), some (.int l2), none, none, some (.int l5)]) (st' := [.ref l0, .int (zI M l0 5), .ref l0]) (M' := M) rfl ?_
  obtain ⟨hc, hp⟩ := hp
  refine wq_getQ (j := 0) rfl hc ?_
  refine wp_go 3 (pc' := 115) (L' := [some (.ref l0), some (.ref l1), some (.int l2), none, none, some (.int l5)]) (st' := [.int (l5 + (1 : Int32)), .ref (zQ M l0 0), .int (zI M l0 5), .ref l0]) (M' := M) rfl ?_
  obtain ⟨hc, hp⟩ := hp
  refine wq_iald rfl hc ?_
  obtain ⟨hc, hp⟩ := hp
  refine wp_calli (v := (b194_0 n (zI M l0 5) (zI M (zQ M l0 0) (l5 + (1 : Int32)).toNatClampNeg) M).1) (M1 := (b194_0 n (zI M l0 5) (zI M (zQ M l0 0) (l5 + (1 : Int32)).toNatClampNeg) M).2) rfl rfl rfl rfl (s194_0 n (zI M l0 5) (zI M (zQ M l0 0) (l5 + (1 : Int32)).toNatClampNeg) M hc (fun r M1 h => h)) ?_
  exact s29_119 n k45 q45 h45 l0 l1 l2 l5 l0 (b194_0 n (zI M l0 5) (zI M (zQ M l0 0) (l5 + (1 : Int32)).toNatClampNeg) M).1 (b194_0 n (zI M l0 5) (zI M (zQ M l0 0) (l5 + (1 : Int32)).toNatClampNeg) M).2 hp hQ
def b29_100 (n : Nat) (k45 : Nat → Nat → Int32 → Int32 → zM → zM) (l0 : Nat) (l1 : Nat) (l2 : Int32) (l5 : Int32) (s0 : Nat) (s1 : Int32) (s2 : Int32) (s3 : Int32) (M : zM) : zM := b29_102 n k45 l0 l1 l2 l5 (zWI M s0 s1.toNatClampNeg (s2 + s3))
def p29_100 (n : Nat) (q45 : Nat → Nat → Int32 → Int32 → zM → Prop) (l0 : Nat) (l1 : Nat) (l2 : Int32) (l5 : Int32) (s0 : Nat) (s1 : Int32) (s2 : Int32) (s3 : Int32) (M : zM) : Prop := (zOkT 1 s0 s1 M) ∧ (p29_102 n q45 l0 l1 l2 l5 (zWI M s0 s1.toNatClampNeg (s2 + s3)))
theorem s29_100 (n : Nat) (k45 : Nat → Nat → Int32 → Int32 → zM → zM) (q45 : Nat → Nat → Int32 → Int32 → zM → Prop) (h45 : ∀ (l0 : Nat) (l1 : Nat) (l2 : Int32) (l5 : Int32) (M : zM), q45 l0 l1 l2 l5 M → ∀ {Q : Option Value → zM → Prop}, (∀ r M1, zRV (k45 l0 l1 l2 l5 M) r M1 → Q r M1) → zWP 29 45 [some (.ref l0), some (.ref l1), some (.int l2), none, none, some (.int l5)] [] M Q) (l0 : Nat) (l1 : Nat) (l2 : Int32) (l5 : Int32) (s0 : Nat) (s1 : Int32) (s2 : Int32) (s3 : Int32) (M : zM) (hp : p29_100 n q45 l0 l1 l2 l5 s0 s1 s2 s3 M) {Q : Option Value → zM → Prop} (hQ : ∀ r M1, zRV (b29_100 n k45 l0 l1 l2 l5 s0 s1 s2 s3 M) r M1 → Q r M1) : zWP 29 100 [some (.ref l0), some (.ref l1), some (.int l2), none, none, some (.int l5)] [.int s3, .int s2, .int s1, .ref s0] M Q := by
  unfold b29_100 at hQ
  unfold p29_100 at hp
  refine wp_go 1 (pc' := 101) (L' := [some (.ref l0), some (.ref l1), some (.int l2), none, none, some (.int l5)]) (st' := [.int (s2 + s3), .int s1, .ref s0]) (M' := M) rfl ?_
  obtain ⟨hc, hp⟩ := hp
  refine wq_iast rfl hc ?_
  exact s29_102 n k45 q45 h45 l0 l1 l2 l5 (zWI M s0 s1.toNatClampNeg (s2 + s3)) hp hQ
def b29_78 (n : Nat) (k45 : Nat → Nat → Int32 → Int32 → zM → zM) (l0 : Nat) (l1 : Nat) (l2 : Int32) (l5 : Int32) (M : zM) : zM := b29_100 n k45 l0 l1 l2 l5 (zQ M l0 1) (l5 + (1 : Int32)) (zI M (zQ M l0 1) l5.toNatClampNeg) (b49_0 n l1 l5 l2 M).1 (b49_0 n l1 l5 l2 M).2
def p29_78 (n : Nat) (q45 : Nat → Nat → Int32 → Int32 → zM → Prop) (l0 : Nat) (l1 : Nat) (l2 : Int32) (l5 : Int32) (M : zM) : Prop := (zHasQ 4 15 l0 M 1) ∧ ((zHasQ 4 15 l0 M 1) ∧ ((zOkI (zQ M l0 1) l5 M) ∧ ((zHasC 29 49 l1 M 49 2) ∧ ((p49_0 n l1 l5 l2 M) ∧ (p29_100 n q45 l0 l1 l2 l5 (zQ M l0 1) (l5 + (1 : Int32)) (zI M (zQ M l0 1) l5.toNatClampNeg) (b49_0 n l1 l5 l2 M).1 (b49_0 n l1 l5 l2 M).2)))))
theorem s29_78 (n : Nat) (k45 : Nat → Nat → Int32 → Int32 → zM → zM) (q45 : Nat → Nat → Int32 → Int32 → zM → Prop) (h45 : ∀ (l0 : Nat) (l1 : Nat) (l2 : Int32) (l5 : Int32) (M : zM), q45 l0 l1 l2 l5 M → ∀ {Q : Option Value → zM → Prop}, (∀ r M1, zRV (k45 l0 l1 l2 l5 M) r M1 → Q r M1) → zWP 29 45 [some (.ref l0), some (.ref l1), some (.int l2), none, none, some (.int l5)] [] M Q) (l0 : Nat) (l1 : Nat) (l2 : Int32) (l5 : Int32) (M : zM) (hp : p29_78 n q45 l0 l1 l2 l5 M) {Q : Option Value → zM → Prop} (hQ : ∀ r M1, zRV (b29_78 n k45 l0 l1 l2 l5 M) r M1 → Q r M1) : zWP 29 78 [some (.ref l0), some (.ref l1), some (.int l2), none, none, some (.int l5)] [] M Q := by
  unfold b29_78 at hQ
  unfold p29_78 at hp
  refine wp_go 1 (pc' := 79) (L' := [some (.ref l0), some (.ref l1), some (.int l2), none, none, some (.int l5)]) (st' := [.ref l0]) (M' := M) rfl ?_
  obtain ⟨hc, hp⟩ := hp
  refine wq_getQ (j := 1) rfl hc ?_
  refine wp_go 4 (pc' := 87) (L' := [some (.ref l0), some (.ref l1), some (.int l2), none, none, some (.int l5)]) (st' := [.ref l0, .int (l5 + (1 : Int32)), .ref (zQ M l0 1)]) (M' := M) rfl ?_
  obtain ⟨hc, hp⟩ := hp
  refine wq_getQ (j := 1) rfl hc ?_
  refine wp_go 1 (pc' := 92) (L' := [some (.ref l0), some (.ref l1), some (.int l2), none, none, some (.int l5)]) (st' := [.int l5, .ref (zQ M l0 1), .int (l5 + (1 : Int32)), .ref (zQ M l0 1)]) (M' := M) rfl ?_
  obtain ⟨hc, hp⟩ := hp
  refine wq_iald rfl hc ?_
  refine wp_go 3 (pc' := 97) (L' := [some (.ref l0), some (.ref l1), some (.int l2), none, none, some (.int l5)]) (st' := [.int l2, .int l5, .ref l1, .int (zI M (zQ M l0 1) l5.toNatClampNeg), .int (l5 + (1 : Int32)), .ref (zQ M l0 1)]) (M' := M) rfl ?_
  obtain ⟨hv, hp⟩ := hp
  obtain ⟨hc, hp⟩ := hp
  refine wp_calli (v := (b49_0 n l1 l5 l2 M).1) (M1 := (b49_0 n l1 l5 l2 M).2) rfl rfl rfl (zInv_v (np := 2) rfl rfl hv rfl) (s49_0 n l1 l5 l2 M hc (fun r M1 h => h)) ?_
  exact s29_100 n k45 q45 h45 l0 l1 l2 l5 (zQ M l0 1) (l5 + (1 : Int32)) (zI M (zQ M l0 1) l5.toNatClampNeg) (b49_0 n l1 l5 l2 M).1 (b49_0 n l1 l5 l2 M).2 hp hQ
def b29_76 (n : Nat) (k45 : Nat → Nat → Int32 → Int32 → zM → zM) (l0 : Nat) (l1 : Nat) (l2 : Int32) (l5 : Int32) (s0 : Nat) (s1 : Int32) (s2 : Int32) (s3 : Int32) (M : zM) : zM := b29_78 n k45 l0 l1 l2 l5 (zWI M s0 s1.toNatClampNeg (s2 + s3))
def p29_76 (n : Nat) (q45 : Nat → Nat → Int32 → Int32 → zM → Prop) (l0 : Nat) (l1 : Nat) (l2 : Int32) (l5 : Int32) (s0 : Nat) (s1 : Int32) (s2 : Int32) (s3 : Int32) (M : zM) : Prop := (zOkT 1 s0 s1 M) ∧ (p29_78 n q45 l0 l1 l2 l5 (zWI M s0 s1.toNatClampNeg (s2 + s3)))
theorem s29_76 (n : Nat) (k45 : Nat → Nat → Int32 → Int32 → zM → zM) (q45 : Nat → Nat → Int32 → Int32 → zM → Prop) (h45 : ∀ (l0 : Nat) (l1 : Nat) (l2 : Int32) (l5 : Int32) (M : zM), q45 l0 l1 l2 l5 M → ∀ {Q : Option Value → zM → Prop}, (∀ r M1, zRV (k45 l0 l1 l2 l5 M) r M1 → Q r M1) → zWP 29 45 [some (.ref l0), some (.ref l1), some (.int l2), none, none, some (.int l5)] [] M Q) (l0 : Nat) (l1 : Nat) (l2 : Int32) (l5 : Int32) (s0 : Nat) (s1 : Int32) (s2 : Int32) (s3 : Int32) (M : zM) (hp : p29_76 n q45 l0 l1 l2 l5 s0 s1 s2 s3 M) {Q : Option Value → zM → Prop} (hQ : ∀ r M1, zRV (b29_76 n k45 l0 l1 l2 l5 s0 s1 s2 s3 M) r M1 → Q r M1) : zWP 29 76 [some (.ref l0), some (.ref l1), some (.int l2), none, none, some (.int l5)] [.int s3, .int s2, .int s1, .ref s0] M Q := by
  unfold b29_76 at hQ
  unfold p29_76 at hp
  refine wp_go 1 (pc' := 77) (L' := [some (.ref l0), some (.ref l1), some (.int l2), none, none, some (.int l5)]) (st' := [.int (s2 + s3), .int s1, .ref s0]) (M' := M) rfl ?_
  obtain ⟨hc, hp⟩ := hp
  refine wq_iast rfl hc ?_
  exact s29_78 n k45 q45 h45 l0 l1 l2 l5 (zWI M s0 s1.toNatClampNeg (s2 + s3)) hp hQ
def c29_45 (n : Nat) (k45 : Nat → Nat → Int32 → Int32 → zM → zM) (l0 : Nat) (l1 : Nat) (l2 : Int32) (l5 : Int32) (M : zM) : zM := (if (zI M l1 7) ≤ l5 then M else b29_76 n k45 l0 l1 l2 l5 (zQ M l0 0) (l5 + (1 : Int32)) (zI M (zQ M l0 0) l5.toNatClampNeg) (b48_0 n l1 l5 l2 M).1 (b48_0 n l1 l5 l2 M).2)
def d29_45 (n : Nat) (q45 : Nat → Nat → Int32 → Int32 → zM → Prop) (l0 : Nat) (l1 : Nat) (l2 : Int32) (l5 : Int32) (M : zM) : Prop := (zHasI 4 40 l1 M 7) ∧ ((((zI M l1 7) ≤ l5 → True) ∧ (¬ (zI M l1 7) ≤ l5 → (zHasQ 4 9 l0 M 0) ∧ ((zHasQ 4 9 l0 M 0) ∧ ((zOkI (zQ M l0 0) l5 M) ∧ ((zHasC 29 45 l1 M 48 2) ∧ ((p48_0 n l1 l5 l2 M) ∧ (p29_76 n q45 l0 l1 l2 l5 (zQ M l0 0) (l5 + (1 : Int32)) (zI M (zQ M l0 0) l5.toNatClampNeg) (b48_0 n l1 l5 l2 M).1 (b48_0 n l1 l5 l2 M).2))))))))
theorem t29_45 (n : Nat) (k45 : Nat → Nat → Int32 → Int32 → zM → zM) (q45 : Nat → Nat → Int32 → Int32 → zM → Prop) (h45 : ∀ (l0 : Nat) (l1 : Nat) (l2 : Int32) (l5 : Int32) (M : zM), q45 l0 l1 l2 l5 M → ∀ {Q : Option Value → zM → Prop}, (∀ r M1, zRV (k45 l0 l1 l2 l5 M) r M1 → Q r M1) → zWP 29 45 [some (.ref l0), some (.ref l1), some (.int l2), none, none, some (.int l5)] [] M Q) (l0 : Nat) (l1 : Nat) (l2 : Int32) (l5 : Int32) (M : zM) (hp : d29_45 n q45 l0 l1 l2 l5 M) {Q : Option Value → zM → Prop} (hQ : ∀ r M1, zRV (c29_45 n k45 l0 l1 l2 l5 M) r M1 → Q r M1) : zWP 29 45 [some (.ref l0), some (.ref l1), some (.int l2), none, none, some (.int l5)] [] M Q := by
  unfold c29_45 at hQ
  unfold d29_45 at hp
  refine wp_go 2 (pc' := 48) (L' := [some (.ref l0), some (.ref l1), some (.int l2), none, none, some (.int l5)]) (st' := [.ref l1, .int l5]) (M' := M) rfl ?_
  obtain ⟨hc, hp⟩ := hp
  refine wq_getI (j := 7) rfl hc ?_
  refine wp_ic_ge (t := 198) rfl rfl (fun hc => ?_) (fun hc => ?_)
  · rw [if_pos hc] at hQ
    replace hp := hp.1 hc
    exact wp_ret (r := none) rfl rfl (hQ _ _ ⟨rfl, rfl⟩)
  · rw [if_neg hc] at hQ
    replace hp := hp.2 hc
    refine wp_go 1 (pc' := 55) (L' := [some (.ref l0), some (.ref l1), some (.int l2), none, none, some (.int l5)]) (st' := [.ref l0]) (M' := M) rfl ?_
    obtain ⟨hc, hp⟩ := hp
    refine wq_getQ (j := 0) rfl hc ?_
    refine wp_go 4 (pc' := 63) (L' := [some (.ref l0), some (.ref l1), some (.int l2), none, none, some (.int l5)]) (st' := [.ref l0, .int (l5 + (1 : Int32)), .ref (zQ M l0 0)]) (M' := M) rfl ?_
    obtain ⟨hc, hp⟩ := hp
    refine wq_getQ (j := 0) rfl hc ?_
    refine wp_go 1 (pc' := 68) (L' := [some (.ref l0), some (.ref l1), some (.int l2), none, none, some (.int l5)]) (st' := [.int l5, .ref (zQ M l0 0), .int (l5 + (1 : Int32)), .ref (zQ M l0 0)]) (M' := M) rfl ?_
    obtain ⟨hc, hp⟩ := hp
    refine wq_iald rfl hc ?_
    refine wp_go 3 (pc' := 73) (L' := [some (.ref l0), some (.ref l1), some (.int l2), none, none, some (.int l5)]) (st' := [.int l2, .int l5, .ref l1, .int (zI M (zQ M l0 0) l5.toNatClampNeg), .int (l5 + (1 : Int32)), .ref (zQ M l0 0)]) (M' := M) rfl ?_
    obtain ⟨hv, hp⟩ := hp
    obtain ⟨hc, hp⟩ := hp
    refine wp_calli (v := (b48_0 n l1 l5 l2 M).1) (M1 := (b48_0 n l1 l5 l2 M).2) rfl rfl rfl (zInv_v (np := 2) rfl rfl hv rfl) (s48_0 n l1 l5 l2 M hc (fun r M1 h => h)) ?_
    exact s29_76 n k45 q45 h45 l0 l1 l2 l5 (zQ M l0 0) (l5 + (1 : Int32)) (zI M (zQ M l0 0) l5.toNatClampNeg) (b48_0 n l1 l5 l2 M).1 (b48_0 n l1 l5 l2 M).2 hp hQ
def b29_45 (n : Nat)  : Nat → Nat → Nat → Int32 → Int32 → zM → zM
  | 0, _, _, _, _, M => M
  | k + 1, l0, l1, l2, l5, M => c29_45 n  (b29_45 n  k) l0 l1 l2 l5 M
def p29_45 (n : Nat)  : Nat → Nat → Nat → Int32 → Int32 → zM → Prop
  | 0, _, _, _, _, _ => False
  | k + 1, l0, l1, l2, l5, M => d29_45 n  (p29_45 n  k) l0 l1 l2 l5 M
theorem s29_45 (n : Nat)    : ∀ (k : Nat) (l0 : Nat) (l1 : Nat) (l2 : Int32) (l5 : Int32) (M : zM), p29_45 n  k l0 l1 l2 l5 M → ∀ {Q : Option Value → zM → Prop}, (∀ r M1, zRV (b29_45 n  k l0 l1 l2 l5 M) r M1 → Q r M1) → zWP 29 45 [some (.ref l0), some (.ref l1), some (.int l2), none, none, some (.int l5)] [] M Q
  | 0, _, _, _, _, _, h, _, _ => h.elim
  | k + 1, l0, l1, l2, l5, M, h, _, hQ => t29_45 n  (b29_45 n  k)  (p29_45 n  k)  (s29_45 n    k) l0 l1 l2 l5 M h hQ
def b29_42 (n : Nat)  (l0 : Nat) (l1 : Nat) (l2 : Int32) (M : zM) : zM := b29_45 n  n l0 l1 l2 (0 : Int32) M
def p29_42 (n : Nat)  (l0 : Nat) (l1 : Nat) (l2 : Int32) (M : zM) : Prop := p29_45 n  n l0 l1 l2 (0 : Int32) M
theorem s29_42 (n : Nat)    (l0 : Nat) (l1 : Nat) (l2 : Int32) (M : zM) (hp : p29_42 n  l0 l1 l2 M) {Q : Option Value → zM → Prop} (hQ : ∀ r M1, zRV (b29_42 n  l0 l1 l2 M) r M1 → Q r M1) : zWP 29 42 [some (.ref l0), some (.ref l1), some (.int l2), none, none, none] [] M Q := by
  unfold b29_42 at hQ
  unfold p29_42 at hp
  refine wp_go 2 (pc' := 45) (L' := [some (.ref l0), some (.ref l1), some (.int l2), none, none, some (.int (0 : Int32))]) (st' := []) (M' := M) rfl ?_
  exact s29_45 n    n l0 l1 l2 (0 : Int32) M hp hQ
def b29_37 (n : Nat)  (l0 : Nat) (l1 : Nat) (l2 : Int32) (M : zM) : zM := b29_42 n  l0 l1 l2 (zWI M l0 3 (1 : Int32))
def p29_37 (n : Nat)  (l0 : Nat) (l1 : Nat) (l2 : Int32) (M : zM) : Prop := (zPutI 29 21 l0 M 3 (1 : Int32)) ∧ (p29_42 n  l0 l1 l2 (zWI M l0 3 (1 : Int32)))
theorem s29_37 (n : Nat)    (l0 : Nat) (l1 : Nat) (l2 : Int32) (M : zM) (hp : p29_37 n  l0 l1 l2 M) {Q : Option Value → zM → Prop} (hQ : ∀ r M1, zRV (b29_37 n  l0 l1 l2 M) r M1 → Q r M1) : zWP 29 37 [some (.ref l0), some (.ref l1), some (.int l2), none, none, none] [] M Q := by
  unfold b29_37 at hQ
  unfold p29_37 at hp
  refine wp_go 2 (pc' := 39) (L' := [some (.ref l0), some (.ref l1), some (.int l2), none, none, none]) (st' := [.int (1 : Int32), .ref l0]) (M' := M) rfl ?_
  obtain ⟨hc, hp⟩ := hp
  refine wq_putI (j := 3) rfl hc ?_
  exact s29_42 n    l0 l1 l2 (zWI M l0 3 (1 : Int32)) hp hQ
def b29_31 (n : Nat)  (l0 : Nat) (l1 : Nat) (l2 : Int32) (l4 : Int32) (M : zM) : zM := b29_37 n  l0 l1 l2 (zWI M l0 8 l4)
def p29_31 (n : Nat)  (l0 : Nat) (l1 : Nat) (l2 : Int32) (l4 : Int32) (M : zM) : Prop := (zPutI 29 37 l0 M 8 l4) ∧ (p29_37 n  l0 l1 l2 (zWI M l0 8 l4))
theorem s29_31 (n : Nat)    (l0 : Nat) (l1 : Nat) (l2 : Int32) (l4 : Int32) (M : zM) (hp : p29_31 n  l0 l1 l2 l4 M) {Q : Option Value → zM → Prop} (hQ : ∀ r M1, zRV (b29_31 n  l0 l1 l2 l4 M) r M1 → Q r M1) : zWP 29 31 [some (.ref l0), some (.ref l1), some (.int l2), none, some (.int l4), none] [] M Q := by
  unfold b29_31 at hQ
  unfold p29_31 at hp
  refine wp_go 2 (pc' := 34) (L' := [some (.ref l0), some (.ref l1), some (.int l2), none, some (.int l4), none]) (st' := [.int l4, .ref l0]) (M' := M) rfl ?_
  obtain ⟨hc, hp⟩ := hp
  refine wq_putI (j := 8) rfl hc ?_
  refine wp_le [some (.ref l0), some (.ref l1), some (.int l2), none, none, none] (zLe_of (by simp [zLeB])) ?_
  exact s29_37 n    l0 l1 l2 (zWI M l0 8 l4) hp hQ
def b29_25 (n : Nat)  (l0 : Nat) (l1 : Nat) (l2 : Int32) (l4 : Int32) (M : zM) : zM := b29_31 n  l0 l1 l2 l4 (zWI M l0 7 l4)
def p29_25 (n : Nat)  (l0 : Nat) (l1 : Nat) (l2 : Int32) (l4 : Int32) (M : zM) : Prop := (zPutI 29 34 l0 M 7 l4) ∧ (p29_31 n  l0 l1 l2 l4 (zWI M l0 7 l4))
theorem s29_25 (n : Nat)    (l0 : Nat) (l1 : Nat) (l2 : Int32) (l4 : Int32) (M : zM) (hp : p29_25 n  l0 l1 l2 l4 M) {Q : Option Value → zM → Prop} (hQ : ∀ r M1, zRV (b29_25 n  l0 l1 l2 l4 M) r M1 → Q r M1) : zWP 29 25 [some (.ref l0), some (.ref l1), some (.int l2), none, some (.int l4), none] [] M Q := by
  unfold b29_25 at hQ
  unfold p29_25 at hp
  refine wp_go 2 (pc' := 28) (L' := [some (.ref l0), some (.ref l1), some (.int l2), none, some (.int l4), none]) (st' := [.int l4, .ref l0]) (M' := M) rfl ?_
  obtain ⟨hc, hp⟩ := hp
  refine wq_putI (j := 7) rfl hc ?_
  exact s29_31 n    l0 l1 l2 l4 (zWI M l0 7 l4) hp hQ
def b29_20 (n : Nat)  (l0 : Nat) (l1 : Nat) (l2 : Int32) (l3 : Int32) (l4 : Int32) (M : zM) : zM := b29_25 n  l0 l1 l2 l4 (zWI M l0 6 l3)
def p29_20 (n : Nat)  (l0 : Nat) (l1 : Nat) (l2 : Int32) (l3 : Int32) (l4 : Int32) (M : zM) : Prop := (zPutI 29 31 l0 M 6 l3) ∧ (p29_25 n  l0 l1 l2 l4 (zWI M l0 6 l3))
theorem s29_20 (n : Nat)    (l0 : Nat) (l1 : Nat) (l2 : Int32) (l3 : Int32) (l4 : Int32) (M : zM) (hp : p29_20 n  l0 l1 l2 l3 l4 M) {Q : Option Value → zM → Prop} (hQ : ∀ r M1, zRV (b29_20 n  l0 l1 l2 l3 l4 M) r M1 → Q r M1) : zWP 29 20 [some (.ref l0), some (.ref l1), some (.int l2), some (.int l3), some (.int l4), none] [] M Q := by
  unfold b29_20 at hQ
  unfold p29_20 at hp
  refine wp_go 2 (pc' := 22) (L' := [some (.ref l0), some (.ref l1), some (.int l2), some (.int l3), some (.int l4), none]) (st' := [.int l3, .ref l0]) (M' := M) rfl ?_
  obtain ⟨hc, hp⟩ := hp
  refine wq_putI (j := 6) rfl hc ?_
  refine wp_le [some (.ref l0), some (.ref l1), some (.int l2), none, some (.int l4), none] (zLe_of (by simp [zLeB])) ?_
  exact s29_25 n    l0 l1 l2 l4 (zWI M l0 6 l3) hp hQ
def b29_15 (n : Nat)  (l0 : Nat) (l1 : Nat) (l2 : Int32) (l3 : Int32) (l4 : Int32) (M : zM) : zM := b29_20 n  l0 l1 l2 l3 l4 (zWI M l0 5 l3)
def p29_15 (n : Nat)  (l0 : Nat) (l1 : Nat) (l2 : Int32) (l3 : Int32) (l4 : Int32) (M : zM) : Prop := (zPutI 29 28 l0 M 5 l3) ∧ (p29_20 n  l0 l1 l2 l3 l4 (zWI M l0 5 l3))
theorem s29_15 (n : Nat)    (l0 : Nat) (l1 : Nat) (l2 : Int32) (l3 : Int32) (l4 : Int32) (M : zM) (hp : p29_15 n  l0 l1 l2 l3 l4 M) {Q : Option Value → zM → Prop} (hQ : ∀ r M1, zRV (b29_15 n  l0 l1 l2 l3 l4 M) r M1 → Q r M1) : zWP 29 15 [some (.ref l0), some (.ref l1), some (.int l2), some (.int l3), some (.int l4), none] [] M Q := by
  unfold b29_15 at hQ
  unfold p29_15 at hp
  refine wp_go 2 (pc' := 17) (L' := [some (.ref l0), some (.ref l1), some (.int l2), some (.int l3), some (.int l4), none]) (st' := [.int l3, .ref l0]) (M' := M) rfl ?_
  obtain ⟨hc, hp⟩ := hp
  refine wq_putI (j := 5) rfl hc ?_
  exact s29_20 n    l0 l1 l2 l3 l4 (zWI M l0 5 l3) hp hQ
def b29_7 (n : Nat)  (l0 : Nat) (l1 : Nat) (l2 : Int32) (l3 : Int32) (l4 : Int32) (M : zM) : zM := b29_15 n  l0 l1 l2 l3 l4 (zWI M (zQ M l0 1) (0 : Int32).toNatClampNeg l4)
def p29_7 (n : Nat)  (l0 : Nat) (l1 : Nat) (l2 : Int32) (l3 : Int32) (l4 : Int32) (M : zM) : Prop := (zHasQ 4 15 l0 M 1) ∧ ((zOkT 1 (zQ M l0 1) (0 : Int32) M) ∧ (p29_15 n  l0 l1 l2 l3 l4 (zWI M (zQ M l0 1) (0 : Int32).toNatClampNeg l4)))
theorem s29_7 (n : Nat)    (l0 : Nat) (l1 : Nat) (l2 : Int32) (l3 : Int32) (l4 : Int32) (M : zM) (hp : p29_7 n  l0 l1 l2 l3 l4 M) {Q : Option Value → zM → Prop} (hQ : ∀ r M1, zRV (b29_7 n  l0 l1 l2 l3 l4 M) r M1 → Q r M1) : zWP 29 7 [some (.ref l0), some (.ref l1), some (.int l2), some (.int l3), some (.int l4), none] [] M Q := by
  unfold b29_7 at hQ
  unfold p29_7 at hp
  refine wp_go 1 (pc' := 8) (L' := [some (.ref l0), some (.ref l1), some (.int l2), some (.int l3), some (.int l4), none]) (st' := [.ref l0]) (M' := M) rfl ?_
  obtain ⟨hc, hp⟩ := hp
  refine wq_getQ (j := 1) rfl hc ?_
  refine wp_go 2 (pc' := 14) (L' := [some (.ref l0), some (.ref l1), some (.int l2), some (.int l3), some (.int l4), none]) (st' := [.int l4, .int (0 : Int32), .ref (zQ M l0 1)]) (M' := M) rfl ?_
  obtain ⟨hc, hp⟩ := hp
  refine wq_iast rfl hc ?_
  exact s29_15 n    l0 l1 l2 l3 l4 (zWI M (zQ M l0 1) (0 : Int32).toNatClampNeg l4) hp hQ
def b29_0 (n : Nat)  (l0 : Nat) (l1 : Nat) (l2 : Int32) (l3 : Int32) (l4 : Int32) (M : zM) : zM := b29_7 n  l0 l1 l2 l3 l4 (zWI M (zQ M l0 0) (0 : Int32).toNatClampNeg l3)
def p29_0 (n : Nat)  (l0 : Nat) (l1 : Nat) (l2 : Int32) (l3 : Int32) (l4 : Int32) (M : zM) : Prop := (zHasQ 4 9 l0 M 0) ∧ ((zOkT 1 (zQ M l0 0) (0 : Int32) M) ∧ (p29_7 n  l0 l1 l2 l3 l4 (zWI M (zQ M l0 0) (0 : Int32).toNatClampNeg l3)))
theorem s29_0 (n : Nat)    (l0 : Nat) (l1 : Nat) (l2 : Int32) (l3 : Int32) (l4 : Int32) (M : zM) (hp : p29_0 n  l0 l1 l2 l3 l4 M) {Q : Option Value → zM → Prop} (hQ : ∀ r M1, zRV (b29_0 n  l0 l1 l2 l3 l4 M) r M1 → Q r M1) : zWP 29 0 [some (.ref l0), some (.ref l1), some (.int l2), some (.int l3), some (.int l4), none] [] M Q := by
  unfold b29_0 at hQ
  unfold p29_0 at hp
  refine wp_go 1 (pc' := 1) (L' := [some (.ref l0), some (.ref l1), some (.int l2), some (.int l3), some (.int l4), none]) (st' := [.ref l0]) (M' := M) rfl ?_
  obtain ⟨hc, hp⟩ := hp
  refine wq_getQ (j := 0) rfl hc ?_
  refine wp_go 2 (pc' := 6) (L' := [some (.ref l0), some (.ref l1), some (.int l2), some (.int l3), some (.int l4), none]) (st' := [.int l3, .int (0 : Int32), .ref (zQ M l0 0)]) (M' := M) rfl ?_
  obtain ⟨hc, hp⟩ := hp
  refine wq_iast rfl hc ?_
  exact s29_7 n    l0 l1 l2 l3 l4 (zWI M (zQ M l0 0) (0 : Int32).toNatClampNeg l3) hp hQ
/-! X5_pointsOfRowSharedWith -/
def b31_78 (n : Nat) (k4 : Nat → Nat → Int32 → Int32 → zM → Int32 × zM) (k17 : Nat → Nat → Int32 → Int32 → Int32 → zM → Int32 × zM) (l0 : Nat) (l1 : Nat) (l3 : Int32) (l4 : Int32) (s0 : Int32) (s1 : Int32) (M : zM) : Int32 × zM := k17 l0 l1 (s0 + s1) l3 (l4 + Int32.ofInt 2) M
def p31_78 (n : Nat) (q4 : Nat → Nat → Int32 → Int32 → zM → Prop) (q17 : Nat → Nat → Int32 → Int32 → Int32 → zM → Prop) (l0 : Nat) (l1 : Nat) (l3 : Int32) (l4 : Int32) (s0 : Int32) (s1 : Int32) (M : zM) : Prop := q17 l0 l1 (s0 + s1) l3 (l4 + Int32.ofInt 2) M
theorem s31_78 (n : Nat) (k4 : Nat → Nat → Int32 → Int32 → zM → Int32 × zM) (k17 : Nat → Nat → Int32 → Int32 → Int32 → zM → Int32 × zM) (q4 : Nat → Nat → Int32 → Int32 → zM → Prop) (q17 : Nat → Nat → Int32 → Int32 → Int32 → zM → Prop) (h4 : ∀ (l0 : Nat) (l1 : Nat) (l2 : Int32) (l3 : Int32) (M : zM), q4 l0 l1 l2 l3 M → ∀ {Q : Option Value → zM → Prop}, (∀ r M1, zRI (k4 l0 l1 l2 l3 M) r M1 → Q r M1) → zWP 31 4 [some (.ref l0), some (.ref l1), some (.int l2), some (.int l3), none, none, none] [] M Q) (h17 : ∀ (l0 : Nat) (l1 : Nat) (l2 : Int32) (l3 : Int32) (l4 : Int32) (M : zM), q17 l0 l1 l2 l3 l4 M → ∀ {Q : Option Value → zM → Prop}, (∀ r M1, zRI (k17 l0 l1 l2 l3 l4 M) r M1 → Q r M1) → zWP 31 17 [some (.ref l0), some (.ref l1), some (.int l2), some (.int l3), some (.int l4), none, none] [] M Q) (l0 : Nat) (l1 : Nat) (l3 : Int32) (l4 : Int32) (s0 : Int32) (s1 : Int32) (M : zM) (hp : p31_78 n q4 q17 l0 l1 l3 l4 s0 s1 M) {Q : Option Value → zM → Prop} (hQ : ∀ r M1, zRI (b31_78 n k4 k17 l0 l1 l3 l4 s0 s1 M) r M1 → Q r M1) : zWP 31 78 [some (.ref l0), some (.ref l1), none, some (.int l3), some (.int l4), none, none] [.int s1, .int s0] M Q := by
  unfold b31_78 at hQ
  unfold p31_78 at hp
  refine wp_go 4 (pc' := 17) (L' := [some (.ref l0), some (.ref l1), some (.int (s0 + s1)), some (.int l3), some (.int (l4 + Int32.ofInt 2)), none, none]) (st' := []) (M' := M) rfl ?_
  exact h17 l0 l1 (s0 + s1) l3 (l4 + Int32.ofInt 2) M hp hQ
def b31_66 (n : Nat) (k4 : Nat → Nat → Int32 → Int32 → zM → Int32 × zM) (k17 : Nat → Nat → Int32 → Int32 → Int32 → zM → Int32 × zM) (l0 : Nat) (l1 : Nat) (l2 : Int32) (l3 : Int32) (l4 : Int32) (l5 : Int32) (s0 : Int32) (M : zM) : Int32 × zM := b31_78 n k4 k17 l0 l1 l3 l4 l2 (b192_0 n (0 : Int32) (s0 - l5) M).1 (b192_0 n (0 : Int32) (s0 - l5) M).2
def p31_66 (n : Nat) (q4 : Nat → Nat → Int32 → Int32 → zM → Prop) (q17 : Nat → Nat → Int32 → Int32 → Int32 → zM → Prop) (l0 : Nat) (l1 : Nat) (l2 : Int32) (l3 : Int32) (l4 : Int32) (l5 : Int32) (s0 : Int32) (M : zM) : Prop := (p192_0 n (0 : Int32) (s0 - l5) M) ∧ (p31_78 n q4 q17 l0 l1 l3 l4 l2 (b192_0 n (0 : Int32) (s0 - l5) M).1 (b192_0 n (0 : Int32) (s0 - l5) M).2)
theorem s31_66 (n : Nat) (k4 : Nat → Nat → Int32 → Int32 → zM → Int32 × zM) (k17 : Nat → Nat → Int32 → Int32 → Int32 → zM → Int32 × zM) (q4 : Nat → Nat → Int32 → Int32 → zM → Prop) (q17 : Nat → Nat → Int32 → Int32 → Int32 → zM → Prop) (h4 : ∀ (l0 : Nat) (l1 : Nat) (l2 : Int32) (l3 : Int32) (M : zM), q4 l0 l1 l2 l3 M → ∀ {Q : Option Value → zM → Prop}, (∀ r M1, zRI (k4 l0 l1 l2 l3 M) r M1 → Q r M1) → zWP 31 4 [some (.ref l0), some (.ref l1), some (.int l2), some (.int l3), none, none, none] [] M Q) (h17 : ∀ (l0 : Nat) (l1 : Nat) (l2 : Int32) (l3 : Int32) (l4 : Int32) (M : zM), q17 l0 l1 l2 l3 l4 M → ∀ {Q : Option Value → zM → Prop}, (∀ r M1, zRI (k17 l0 l1 l2 l3 l4 M) r M1 → Q r M1) → zWP 31 17 [some (.ref l0), some (.ref l1), some (.int l2), some (.int l3), some (.int l4), none, none] [] M Q) (l0 : Nat) (l1 : Nat) (l2 : Int32) (l3 : Int32) (l4 : Int32) (l5 : Int32) (s0 : Int32) (M : zM) (hp : p31_66 n q4 q17 l0 l1 l2 l3 l4 l5 s0 M) {Q : Option Value → zM → Prop} (hQ : ∀ r M1, zRI (b31_66 n k4 k17 l0 l1 l2 l3 l4 l5 s0 M) r M1 → Q r M1) : zWP 31 66 [some (.ref l0), some (.ref l1), some (.int l2), some (.int l3), some (.int l4), some (.int l5), none] [.int s0] M Q := by
  unfold b31_66 at hQ
  unfold p31_66 at hp
  refine wp_go 5 (pc' := 74) (L' := [some (.ref l0), some (.ref l1), some (.int l2), some (.int l3), some (.int l4), some (.int l5), some (.int s0)]) (st' := [.int l5, .int s0, .int (0 : Int32), .int l2]) (M' := M) rfl ?_
  refine wp_go 1 (pc' := 75) (L' := [some (.ref l0), some (.ref l1), some (.int l2), some (.int l3), some (.int l4), some (.int l5), some (.int s0)]) (st' := [.int (s0 - l5), .int (0 : Int32), .int l2]) (M' := M) rfl ?_
  obtain ⟨hc, hp⟩ := hp
  refine wp_calli (v := (b192_0 n (0 : Int32) (s0 - l5) M).1) (M1 := (b192_0 n (0 : Int32) (s0 - l5) M).2) rfl rfl rfl rfl (s192_0 n (0 : Int32) (s0 - l5) M hc (fun r M1 h => h)) ?_
  refine wp_le [some (.ref l0), some (.ref l1), none, some (.int l3), some (.int l4), none, none] (zLe_of (by simp [zLeB])) ?_
  exact s31_78 n k4 k17 q4 q17 h4 h17 l0 l1 l3 l4 l2 (b192_0 n (0 : Int32) (s0 - l5) M).1 (b192_0 n (0 : Int32) (s0 - l5) M).2 hp hQ
def b31_44 (n : Nat) (k4 : Nat → Nat → Int32 → Int32 → zM → Int32 × zM) (k17 : Nat → Nat → Int32 → Int32 → Int32 → zM → Int32 × zM) (l0 : Nat) (l1 : Nat) (l2 : Int32) (l3 : Int32) (l4 : Int32) (s0 : Int32) (M : zM) : Int32 × zM := b31_66 n k4 k17 l0 l1 l2 l3 l4 s0 (b194_0 n (zI M (zQ M l0 2) (l3 + (1 : Int32)).toNatClampNeg) (zI M (zQ M l1 2) (l4 + (1 : Int32)).toNatClampNeg) M).1 (b194_0 n (zI M (zQ M l0 2) (l3 + (1 : Int32)).toNatClampNeg) (zI M (zQ M l1 2) (l4 + (1 : Int32)).toNatClampNeg) M).2
def p31_44 (n : Nat) (q4 : Nat → Nat → Int32 → Int32 → zM → Prop) (q17 : Nat → Nat → Int32 → Int32 → Int32 → zM → Prop) (l0 : Nat) (l1 : Nat) (l2 : Int32) (l3 : Int32) (l4 : Int32) (s0 : Int32) (M : zM) : Prop := (zHasQ 4 18 l0 M 2) ∧ ((zOkI (zQ M l0 2) (l3 + (1 : Int32)) M) ∧ ((zHasQ 4 18 l1 M 2) ∧ ((zOkI (zQ M l1 2) (l4 + (1 : Int32)) M) ∧ ((p194_0 n (zI M (zQ M l0 2) (l3 + (1 : Int32)).toNatClampNeg) (zI M (zQ M l1 2) (l4 + (1 : Int32)).toNatClampNeg) M) ∧ (p31_66 n q4 q17 l0 l1 l2 l3 l4 s0 (b194_0 n (zI M (zQ M l0 2) (l3 + (1 : Int32)).toNatClampNeg) (zI M (zQ M l1 2) (l4 + (1 : Int32)).toNatClampNeg) M).1 (b194_0 n (zI M (zQ M l0 2) (l3 + (1 : Int32)).toNatClampNeg) (zI M (zQ M l1 2) (l4 + (1 : Int32)).toNatClampNeg) M).2)))))
theorem s31_44 (n : Nat) (k4 : Nat → Nat → Int32 → Int32 → zM → Int32 × zM) (k17 : Nat → Nat → Int32 → Int32 → Int32 → zM → Int32 × zM) (q4 : Nat → Nat → Int32 → Int32 → zM → Prop) (q17 : Nat → Nat → Int32 → Int32 → Int32 → zM → Prop) (h4 : ∀ (l0 : Nat) (l1 : Nat) (l2 : Int32) (l3 : Int32) (M : zM), q4 l0 l1 l2 l3 M → ∀ {Q : Option Value → zM → Prop}, (∀ r M1, zRI (k4 l0 l1 l2 l3 M) r M1 → Q r M1) → zWP 31 4 [some (.ref l0), some (.ref l1), some (.int l2), some (.int l3), none, none, none] [] M Q) (h17 : ∀ (l0 : Nat) (l1 : Nat) (l2 : Int32) (l3 : Int32) (l4 : Int32) (M : zM), q17 l0 l1 l2 l3 l4 M → ∀ {Q : Option Value → zM → Prop}, (∀ r M1, zRI (k17 l0 l1 l2 l3 l4 M) r M1 → Q r M1) → zWP 31 17 [some (.ref l0), some (.ref l1), some (.int l2), some (.int l3), some (.int l4), none, none] [] M Q) (l0 : Nat) (l1 : Nat) (l2 : Int32) (l3 : Int32) (l4 : Int32) (s0 : Int32) (M : zM) (hp : p31_44 n q4 q17 l0 l1 l2 l3 l4 s0 M) {Q : Option Value → zM → Prop} (hQ : ∀ r M1, zRI (b31_44 n k4 k17 l0 l1 l2 l3 l4 s0 M) r M1 → Q r M1) : zWP 31 44 [some (.ref l0), some (.ref l1), some (.int l2), some (.int l3), some (.int l4), none, none] [.int s0] M Q := by
  unfold b31_44 at hQ
  unfold p31_44 at hp
  refine wp_go 2 (pc' := 47) (L' := [some (.ref l0), some (.ref l1), some (.int l2), some (.int l3), some (.int l4), some (.int s0), none]) (st' := [.ref l0]) (M' := M) rfl ?_
  obtain ⟨hc, hp⟩ := hp
  refine wq_getQ (j := 2) rfl hc ?_
  refine wp_go 3 (pc' := 53) (L' := [some (.ref l0), some (.ref l1), some (.int l2), some (.int l3), some (.int l4), some (.int s0), none]) (st' := [.int (l3 + (1 : Int32)), .ref (zQ M l0 2)]) (M' := M) rfl ?_
  obtain ⟨hc, hp⟩ := hp
  refine wq_iald rfl hc ?_
  refine wp_go 1 (pc' := 55) (L' := [some (.ref l0), some (.ref l1), some (.int l2), some (.int l3), some (.int l4), some (.int s0), none]) (st' := [.ref l1, .int (zI M (zQ M l0 2) (l3 + (1 : Int32)).toNatClampNeg)]) (M' := M) rfl ?_
  obtain ⟨hc, hp⟩ := hp
  refine wq_getQ (j := 2) rfl hc ?_
  refine wp_go 3 (pc' := 62) (L' := [some (.ref l0), some (.ref l1), some (.int l2), some (.int l3), some (.int l4), some (.int s0), none]) (st' := [.int (l4 + (1 : Int32)), .ref (zQ M l1 2), .int (zI M (zQ M l0 2) (l3 + (1 : Int32)).toNatClampNeg)]) (M' := M) rfl ?_
  obtain ⟨hc, hp⟩ := hp
  refine wq_iald rfl hc ?_
  obtain ⟨hc, hp⟩ := hp
  refine wp_calli (v := (b194_0 n (zI M (zQ M l0 2) (l3 + (1 : Int32)).toNatClampNeg) (zI M (zQ M l1 2) (l4 + (1 : Int32)).toNatClampNeg) M).1) (M1 := (b194_0 n (zI M (zQ M l0 2) (l3 + (1 : Int32)).toNatClampNeg) (zI M (zQ M l1 2) (l4 + (1 : Int32)).toNatClampNeg) M).2) rfl rfl rfl rfl (s194_0 n (zI M (zQ M l0 2) (l3 + (1 : Int32)).toNatClampNeg) (zI M (zQ M l1 2) (l4 + (1 : Int32)).toNatClampNeg) M hc (fun r M1 h => h)) ?_
  exact s31_66 n k4 k17 q4 q17 h4 h17 l0 l1 l2 l3 l4 s0 (b194_0 n (zI M (zQ M l0 2) (l3 + (1 : Int32)).toNatClampNeg) (zI M (zQ M l1 2) (l4 + (1 : Int32)).toNatClampNeg) M).1 (b194_0 n (zI M (zQ M l0 2) (l3 + (1 : Int32)).toNatClampNeg) (zI M (zQ M l1 2) (l4 + (1 : Int32)).toNatClampNeg) M).2 hp hQ
def c31_17 (n : Nat) (k4 : Nat → Nat → Int32 → Int32 → zM → Int32 × zM) (k17 : Nat → Nat → Int32 → Int32 → Int32 → zM → Int32 × zM) (l0 : Nat) (l1 : Nat) (l2 : Int32) (l3 : Int32) (l4 : Int32) (M : zM) : Int32 × zM := (if (zI M l1 4) ≤ (l4 + (1 : Int32)) then k4 l0 l1 l2 (l3 + Int32.ofInt 2) M else b31_44 n k4 k17 l0 l1 l2 l3 l4 (b192_0 n (zI M (zQ M l0 2) l3.toNatClampNeg) (zI M (zQ M l1 2) l4.toNatClampNeg) M).1 (b192_0 n (zI M (zQ M l0 2) l3.toNatClampNeg) (zI M (zQ M l1 2) l4.toNatClampNeg) M).2)
def d31_17 (n : Nat) (q4 : Nat → Nat → Int32 → Int32 → zM → Prop) (q17 : Nat → Nat → Int32 → Int32 → Int32 → zM → Prop) (l0 : Nat) (l1 : Nat) (l2 : Int32) (l3 : Int32) (l4 : Int32) (M : zM) : Prop := (zHasI 4 25 l1 M 4) ∧ ((((zI M l1 4) ≤ (l4 + (1 : Int32)) → q4 l0 l1 l2 (l3 + Int32.ofInt 2) M) ∧ (¬ (zI M l1 4) ≤ (l4 + (1 : Int32)) → (zHasQ 4 18 l0 M 2) ∧ ((zOkI (zQ M l0 2) l3 M) ∧ ((zHasQ 4 18 l1 M 2) ∧ ((zOkI (zQ M l1 2) l4 M) ∧ ((p192_0 n (zI M (zQ M l0 2) l3.toNatClampNeg) (zI M (zQ M l1 2) l4.toNatClampNeg) M) ∧ (p31_44 n q4 q17 l0 l1 l2 l3 l4 (b192_0 n (zI M (zQ M l0 2) l3.toNatClampNeg) (zI M (zQ M l1 2) l4.toNatClampNeg) M).1 (b192_0 n (zI M (zQ M l0 2) l3.toNatClampNeg) (zI M (zQ M l1 2) l4.toNatClampNeg) M).2))))))))
theorem t31_17 (n : Nat) (k4 : Nat → Nat → Int32 → Int32 → zM → Int32 × zM) (k17 : Nat → Nat → Int32 → Int32 → Int32 → zM → Int32 × zM) (q4 : Nat → Nat → Int32 → Int32 → zM → Prop) (q17 : Nat → Nat → Int32 → Int32 → Int32 → zM → Prop) (h4 : ∀ (l0 : Nat) (l1 : Nat) (l2 : Int32) (l3 : Int32) (M : zM), q4 l0 l1 l2 l3 M → ∀ {Q : Option Value → zM → Prop}, (∀ r M1, zRI (k4 l0 l1 l2 l3 M) r M1 → Q r M1) → zWP 31 4 [some (.ref l0), some (.ref l1), some (.int l2), some (.int l3), none, none, none] [] M Q) (h17 : ∀ (l0 : Nat) (l1 : Nat) (l2 : Int32) (l3 : Int32) (l4 : Int32) (M : zM), q17 l0 l1 l2 l3 l4 M → ∀ {Q : Option Value → zM → Prop}, (∀ r M1, zRI (k17 l0 l1 l2 l3 l4 M) r M1 → Q r M1) → zWP 31 17 [some (.ref l0), some (.ref l1), some (.int l2), some (.int l3), some (.int l4), none, none] [] M Q) (l0 : Nat) (l1 : Nat) (l2 : Int32) (l3 : Int32) (l4 : Int32) (M : zM) (hp : d31_17 n q4 q17 l0 l1 l2 l3 l4 M) {Q : Option Value → zM → Prop} (hQ : ∀ r M1, zRI (c31_17 n k4 k17 l0 l1 l2 l3 l4 M) r M1 → Q r M1) : zWP 31 17 [some (.ref l0), some (.ref l1), some (.int l2), some (.int l3), some (.int l4), none, none] [] M Q := by
  unfold c31_17 at hQ
  unfold d31_17 at hp
  refine wp_go 4 (pc' := 22) (L' := [some (.ref l0), some (.ref l1), some (.int l2), some (.int l3), some (.int l4), none, none]) (st' := [.ref l1, .int (l4 + (1 : Int32))]) (M' := M) rfl ?_
  obtain ⟨hc, hp⟩ := hp
  refine wq_getI (j := 4) rfl hc ?_
  refine wp_ic_ge (t := 86) rfl rfl (fun hc => ?_) (fun hc => ?_)
  · rw [if_pos hc] at hQ
    replace hp := hp.1 hc
    refine wp_go 2 (pc' := 4) (L' := [some (.ref l0), some (.ref l1), some (.int l2), some (.int (l3 + Int32.ofInt 2)), some (.int l4), none, none]) (st' := []) (M' := M) rfl ?_
    refine wp_le [some (.ref l0), some (.ref l1), some (.int l2), some (.int (l3 + Int32.ofInt 2)), none, none, none] (zLe_of (by simp [zLeB])) ?_
    exact h4 l0 l1 l2 (l3 + Int32.ofInt 2) M hp hQ
  · rw [if_neg hc] at hQ
    replace hp := hp.2 hc
    refine wp_go 1 (pc' := 29) (L' := [some (.ref l0), some (.ref l1), some (.int l2), some (.int l3), some (.int l4), none, none]) (st' := [.ref l0]) (M' := M) rfl ?_
    obtain ⟨hc, hp⟩ := hp
    refine wq_getQ (j := 2) rfl hc ?_
    refine wp_go 1 (pc' := 33) (L' := [some (.ref l0), some (.ref l1), some (.int l2), some (.int l3), some (.int l4), none, none]) (st' := [.int l3, .ref (zQ M l0 2)]) (M' := M) rfl ?_
    obtain ⟨hc, hp⟩ := hp
    refine wq_iald rfl hc ?_
    refine wp_go 1 (pc' := 35) (L' := [some (.ref l0), some (.ref l1), some (.int l2), some (.int l3), some (.int l4), none, none]) (st' := [.ref l1, .int (zI M (zQ M l0 2) l3.toNatClampNeg)]) (M' := M) rfl ?_
    obtain ⟨hc, hp⟩ := hp
    refine wq_getQ (j := 2) rfl hc ?_
    refine wp_go 1 (pc' := 40) (L' := [some (.ref l0), some (.ref l1), some (.int l2), some (.int l3), some (.int l4), none, none]) (st' := [.int l4, .ref (zQ M l1 2), .int (zI M (zQ M l0 2) l3.toNatClampNeg)]) (M' := M) rfl ?_
    obtain ⟨hc, hp⟩ := hp
    refine wq_iald rfl hc ?_
    obtain ⟨hc, hp⟩ := hp
    refine wp_calli (v := (b192_0 n (zI M (zQ M l0 2) l3.toNatClampNeg) (zI M (zQ M l1 2) l4.toNatClampNeg) M).1) (M1 := (b192_0 n (zI M (zQ M l0 2) l3.toNatClampNeg) (zI M (zQ M l1 2) l4.toNatClampNeg) M).2) rfl rfl rfl rfl (s192_0 n (zI M (zQ M l0 2) l3.toNatClampNeg) (zI M (zQ M l1 2) l4.toNatClampNeg) M hc (fun r M1 h => h)) ?_
    exact s31_44 n k4 k17 q4 q17 h4 h17 l0 l1 l2 l3 l4 (b192_0 n (zI M (zQ M l0 2) l3.toNatClampNeg) (zI M (zQ M l1 2) l4.toNatClampNeg) M).1 (b192_0 n (zI M (zQ M l0 2) l3.toNatClampNeg) (zI M (zQ M l1 2) l4.toNatClampNeg) M).2 hp hQ
def b31_17 (n : Nat) (k4 : Nat → Nat → Int32 → Int32 → zM → Int32 × zM) : Nat → Nat → Nat → Int32 → Int32 → Int32 → zM → Int32 × zM
  | 0, _, _, _, _, _, M => (0, M)
  | k + 1, l0, l1, l2, l3, l4, M => c31_17 n k4 (b31_17 n k4 k) l0 l1 l2 l3 l4 M
def p31_17 (n : Nat) (q4 : Nat → Nat → Int32 → Int32 → zM → Prop) : Nat → Nat → Nat → Int32 → Int32 → Int32 → zM → Prop
  | 0, _, _, _, _, _, _ => False
  | k + 1, l0, l1, l2, l3, l4, M => d31_17 n q4 (p31_17 n q4 k) l0 l1 l2 l3 l4 M
theorem s31_17 (n : Nat) (k4 : Nat → Nat → Int32 → Int32 → zM → Int32 × zM) (q4 : Nat → Nat → Int32 → Int32 → zM → Prop) (h4 : ∀ (l0 : Nat) (l1 : Nat) (l2 : Int32) (l3 : Int32) (M : zM), q4 l0 l1 l2 l3 M → ∀ {Q : Option Value → zM → Prop}, (∀ r M1, zRI (k4 l0 l1 l2 l3 M) r M1 → Q r M1) → zWP 31 4 [some (.ref l0), some (.ref l1), some (.int l2), some (.int l3), none, none, none] [] M Q) : ∀ (k : Nat) (l0 : Nat) (l1 : Nat) (l2 : Int32) (l3 : Int32) (l4 : Int32) (M : zM), p31_17 n q4 k l0 l1 l2 l3 l4 M → ∀ {Q : Option Value → zM → Prop}, (∀ r M1, zRI (b31_17 n k4 k l0 l1 l2 l3 l4 M) r M1 → Q r M1) → zWP 31 17 [some (.ref l0), some (.ref l1), some (.int l2), some (.int l3), some (.int l4), none, none] [] M Q
  | 0, _, _, _, _, _, _, h, _, _ => h.elim
  | k + 1, l0, l1, l2, l3, l4, M, h, _, hQ => t31_17 n k4 (b31_17 n k4 k) q4 (p31_17 n q4 k) h4 (s31_17 n k4 q4 h4 k) l0 l1 l2 l3 l4 M h hQ
def c31_4 (n : Nat) (k4 : Nat → Nat → Int32 → Int32 → zM → Int32 × zM) (l0 : Nat) (l1 : Nat) (l2 : Int32) (l3 : Int32) (M : zM) : Int32 × zM := (if (zI M l0 4) ≤ (l3 + (1 : Int32)) then (l2, M) else b31_17 n k4 n l0 l1 l2 l3 (0 : Int32) M)
def d31_4 (n : Nat) (q4 : Nat → Nat → Int32 → Int32 → zM → Prop) (l0 : Nat) (l1 : Nat) (l2 : Int32) (l3 : Int32) (M : zM) : Prop := (zHasI 4 25 l0 M 4) ∧ ((((zI M l0 4) ≤ (l3 + (1 : Int32)) → True) ∧ (¬ (zI M l0 4) ≤ (l3 + (1 : Int32)) → p31_17 n q4 n l0 l1 l2 l3 (0 : Int32) M)))
theorem t31_4 (n : Nat) (k4 : Nat → Nat → Int32 → Int32 → zM → Int32 × zM) (q4 : Nat → Nat → Int32 → Int32 → zM → Prop) (h4 : ∀ (l0 : Nat) (l1 : Nat) (l2 : Int32) (l3 : Int32) (M : zM), q4 l0 l1 l2 l3 M → ∀ {Q : Option Value → zM → Prop}, (∀ r M1, zRI (k4 l0 l1 l2 l3 M) r M1 → Q r M1) → zWP 31 4 [some (.ref l0), some (.ref l1), some (.int l2), some (.int l3), none, none, none] [] M Q) (l0 : Nat) (l1 : Nat) (l2 : Int32) (l3 : Int32) (M : zM) (hp : d31_4 n q4 l0 l1 l2 l3 M) {Q : Option Value → zM → Prop} (hQ : ∀ r M1, zRI (c31_4 n k4 l0 l1 l2 l3 M) r M1 → Q r M1) : zWP 31 4 [some (.ref l0), some (.ref l1), some (.int l2), some (.int l3), none, none, none] [] M Q := by
  unfold c31_4 at hQ
  unfold d31_4 at hp
  refine wp_go 4 (pc' := 8) (L' := [some (.ref l0), some (.ref l1), some (.int l2), some (.int l3), none, none, none]) (st' := [.ref l0, .int (l3 + (1 : Int32))]) (M' := M) rfl ?_
  obtain ⟨hc, hp⟩ := hp
  refine wq_getI (j := 4) rfl hc ?_
  refine wp_ic_ge (t := 92) rfl rfl (fun hc => ?_) (fun hc => ?_)
  · rw [if_pos hc] at hQ
    replace hp := hp.1 hc
    refine wp_go 1 (pc' := 93) (L' := [some (.ref l0), some (.ref l1), some (.int l2), some (.int l3), none, none, none]) (st' := [.int l2]) (M' := M) rfl ?_
    exact wp_ret (r := some (.int l2)) rfl rfl (hQ _ _ ⟨rfl, rfl⟩)
  · rw [if_neg hc] at hQ
    replace hp := hp.2 hc
    refine wp_go 2 (pc' := 17) (L' := [some (.ref l0), some (.ref l1), some (.int l2), some (.int l3), some (.int (0 : Int32)), none, none]) (st' := []) (M' := M) rfl ?_
    exact s31_17 n k4 q4 h4 n l0 l1 l2 l3 (0 : Int32) M hp hQ
def b31_4 (n : Nat)  : Nat → Nat → Nat → Int32 → Int32 → zM → Int32 × zM
  | 0, _, _, _, _, M => (0, M)
  | k + 1, l0, l1, l2, l3, M => c31_4 n  (b31_4 n  k) l0 l1 l2 l3 M
def p31_4 (n : Nat)  : Nat → Nat → Nat → Int32 → Int32 → zM → Prop
  | 0, _, _, _, _, _ => False
  | k + 1, l0, l1, l2, l3, M => d31_4 n  (p31_4 n  k) l0 l1 l2 l3 M
theorem s31_4 (n : Nat)    : ∀ (k : Nat) (l0 : Nat) (l1 : Nat) (l2 : Int32) (l3 : Int32) (M : zM), p31_4 n  k l0 l1 l2 l3 M → ∀ {Q : Option Value → zM → Prop}, (∀ r M1, zRI (b31_4 n  k l0 l1 l2 l3 M) r M1 → Q r M1) → zWP 31 4 [some (.ref l0), some (.ref l1), some (.int l2), some (.int l3), none, none, none] [] M Q
  | 0, _, _, _, _, _, h, _, _ => h.elim
  | k + 1, l0, l1, l2, l3, M, h, _, hQ => t31_4 n  (b31_4 n  k)  (p31_4 n  k)  (s31_4 n    k) l0 l1 l2 l3 M h hQ
def b31_0 (n : Nat)  (l0 : Nat) (l1 : Nat) (M : zM) : Int32 × zM := b31_4 n  n l0 l1 (0 : Int32) (0 : Int32) M
def p31_0 (n : Nat)  (l0 : Nat) (l1 : Nat) (M : zM) : Prop := p31_4 n  n l0 l1 (0 : Int32) (0 : Int32) M
theorem s31_0 (n : Nat)    (l0 : Nat) (l1 : Nat) (M : zM) (hp : p31_0 n  l0 l1 M) {Q : Option Value → zM → Prop} (hQ : ∀ r M1, zRI (b31_0 n  l0 l1 M) r M1 → Q r M1) : zWP 31 0 [some (.ref l0), some (.ref l1), none, none, none, none, none] [] M Q := by
  unfold b31_0 at hQ
  unfold p31_0 at hp
  refine wp_go 4 (pc' := 4) (L' := [some (.ref l0), some (.ref l1), some (.int (0 : Int32)), some (.int (0 : Int32)), none, none, none]) (st' := []) (M' := M) rfl ?_
  exact s31_4 n    n l0 l1 (0 : Int32) (0 : Int32) M hp hQ
/-! J9_floorDiv_f86c9 -/
def b188_27 (n : Nat)  (l4 : Int64) (M : zM) : Int64 × zM := (l4, M)
def p188_27 (n : Nat)  (l4 : Int64) (M : zM) : Prop := True
theorem s188_27 (n : Nat)    (l4 : Int64) (M : zM) (hp : p188_27 n  l4 M) {Q : Option Value → zM → Prop} (hQ : ∀ r M1, zRJ (b188_27 n  l4 M) r M1 → Q r M1) : zWP 188 27 [none, none, none, none, some (.long l4), none] [] M Q := by
  unfold b188_27 at hQ
  unfold p188_27 at hp
  refine wp_go 1 (pc' := 29) (L' := [none, none, none, none, some (.long l4), none]) (st' := [.long l4]) (M' := M) rfl ?_
  exact wp_ret (r := some (.long l4)) rfl rfl (hQ _ _ ⟨rfl, rfl⟩)
def b188_0 (n : Nat)  (l0 : Int64) (l2 : Int64) (M : zM) : Int64 × zM := (if 0 ≤ (lg_cmp (l0 ^^^ l2) (0 : Int64)) then b188_27 n  (l0 / l2) M else (if (lg_cmp ((l0 / l2) * l2) l0) = 0 then b188_27 n  (l0 / l2) M else (((l0 / l2) - (1 : Int64)), M)))
def p188_0 (n : Nat)  (l0 : Int64) (l2 : Int64) (M : zM) : Prop := (¬ l2 = 0) ∧ (((0 ≤ (lg_cmp (l0 ^^^ l2) (0 : Int64)) → p188_27 n  (l0 / l2) M) ∧ (¬ 0 ≤ (lg_cmp (l0 ^^^ l2) (0 : Int64)) → (((lg_cmp ((l0 / l2) * l2) l0) = 0 → p188_27 n  (l0 / l2) M) ∧ (¬ (lg_cmp ((l0 / l2) * l2) l0) = 0 → True)))))
theorem s188_0 (n : Nat)    (l0 : Int64) (l2 : Int64) (M : zM) (hp : p188_0 n  l0 l2 M) {Q : Option Value → zM → Prop} (hQ : ∀ r M1, zRJ (b188_0 n  l0 l2 M) r M1 → Q r M1) : zWP 188 0 [some (.long l0), none, some (.long l2), none, none, none] [] M Q := by
  unfold b188_0 at hQ
  unfold p188_0 at hp
  refine wp_go 2 (pc' := 2) (L' := [some (.long l0), none, some (.long l2), none, none, none]) (st' := [.long l2, .long l0]) (M' := M) rfl ?_
  obtain ⟨hc, hp⟩ := hp
  refine wq_ldiv rfl hc ?_
  refine wp_go 5 (pc' := 9) (L' := [some (.long l0), none, some (.long l2), none, some (.long (l0 / l2)), none]) (st' := [.long (0 : Int64), .long (l0 ^^^ l2)]) (M' := M) rfl ?_
  refine wp_go 1 (pc' := 10) (L' := [some (.long l0), none, some (.long l2), none, some (.long (l0 / l2)), none]) (st' := [.int (lg_cmp (l0 ^^^ l2) (0 : Int64))]) (M' := M) rfl ?_
  refine wp_if_ge (t := 27) rfl rfl (fun hc => ?_) (fun hc => ?_)
  · rw [if_pos hc] at hQ
    replace hp := hp.1 hc
    refine wp_le [none, none, none, none, some (.long (l0 / l2)), none] (zLe_of (by simp [zLeB])) ?_
    exact s188_27 n    (l0 / l2) M hp hQ
  · rw [if_neg hc] at hQ
    replace hp := hp.2 hc
    refine wp_go 5 (pc' := 19) (L' := [some (.long l0), none, some (.long l2), none, some (.long (l0 / l2)), none]) (st' := [.int (lg_cmp ((l0 / l2) * l2) l0)]) (M' := M) rfl ?_
    refine wp_if_eq (t := 27) rfl rfl (fun hc => ?_) (fun hc => ?_)
    · rw [if_pos hc] at hQ
      replace hp := hp.1 hc
      refine wp_le [none, none, none, none, some (.long (l0 / l2)), none] (zLe_of (by simp [zLeB])) ?_
      exact s188_27 n    (l0 / l2) M hp hQ
    · rw [if_neg hc] at hQ
      replace hp := hp.2 hc
      refine wp_go 3 (pc' := 26) (L' := [some (.long l0), none, some (.long l2), none, some (.long (l0 / l2)), none]) (st' := [.long ((l0 / l2) - (1 : Int64))]) (M' := M) rfl ?_
      exact wp_ret (r := some (.long ((l0 / l2) - (1 : Int64)))) rfl rfl (hQ _ _ ⟨rfl, rfl⟩)
/-! X5_cutOf -/
def b33_80 (n : Nat)  (s0 : Int64) (M : zM) : Int32 × zM := ((-s0).toInt32, M)
def p33_80 (n : Nat)  (s0 : Int64) (M : zM) : Prop := True
theorem s33_80 (n : Nat)    (s0 : Int64) (M : zM) (hp : p33_80 n  s0 M) {Q : Option Value → zM → Prop} (hQ : ∀ r M1, zRI (b33_80 n  s0 M) r M1 → Q r M1) : zWP 33 80 [none, none, none, none, none, none, none, none] [.long s0] M Q := by
  unfold b33_80 at hQ
  unfold p33_80 at hp
  refine wp_go 2 (pc' := 82) (L' := [none, none, none, none, none, none, none, none]) (st' := [.int (-s0).toInt32]) (M' := M) rfl ?_
  exact wp_ret (r := some (.int (-s0).toInt32)) rfl rfl (hQ _ _ ⟨rfl, rfl⟩)
def b33_0 (n : Nat)  (l0 : Nat) (l1 : Int32) (l2 : Int32) (l3 : Int32) (M : zM) : Int32 × zM := (if 0 < (lg_cmp ((zI M (zQ M l0 1) l2.toNatClampNeg).toInt64 - (zI M (zQ M l0 1) l1.toNatClampNeg).toInt64) (0 : Int64)) then b33_80 n  (b188_0 n (-((((zI M (zQ M l0 0) l1.toNatClampNeg) - (500 : Int32)).toInt64 * ((zI M (zQ M l0 1) l2.toNatClampNeg).toInt64 - (zI M (zQ M l0 1) l1.toNatClampNeg).toInt64)) + ((l3.toInt64 - (zI M (zQ M l0 1) l1.toNatClampNeg).toInt64) * ((zI M (zQ M l0 0) l2.toNatClampNeg) - (zI M (zQ M l0 0) l1.toNatClampNeg)).toInt64))) (((zI M (zQ M l0 1) l2.toNatClampNeg).toInt64 - (zI M (zQ M l0 1) l1.toNatClampNeg).toInt64) * (1000 : Int64)) M).1 (b188_0 n (-((((zI M (zQ M l0 0) l1.toNatClampNeg) - (500 : Int32)).toInt64 * ((zI M (zQ M l0 1) l2.toNatClampNeg).toInt64 - (zI M (zQ M l0 1) l1.toNatClampNeg).toInt64)) + ((l3.toInt64 - (zI M (zQ M l0 1) l1.toNatClampNeg).toInt64) * ((zI M (zQ M l0 0) l2.toNatClampNeg) - (zI M (zQ M l0 0) l1.toNatClampNeg)).toInt64))) (((zI M (zQ M l0 1) l2.toNatClampNeg).toInt64 - (zI M (zQ M l0 1) l1.toNatClampNeg).toInt64) * (1000 : Int64)) M).2 else ((0 : Int32), M))
def p33_0 (n : Nat)  (l0 : Nat) (l1 : Int32) (l2 : Int32) (l3 : Int32) (M : zM) : Prop := (zHasQ 4 15 l0 M 1) ∧ ((zOkI (zQ M l0 1) l2 M) ∧ ((zHasQ 4 15 l0 M 1) ∧ ((zOkI (zQ M l0 1) l1 M) ∧ (((0 < (lg_cmp ((zI M (zQ M l0 1) l2.toNatClampNeg).toInt64 - (zI M (zQ M l0 1) l1.toNatClampNeg).toInt64) (0 : Int64)) → (zHasQ 4 9 l0 M 0) ∧ ((zOkI (zQ M l0 0) l1 M) ∧ ((zHasQ 4 15 l0 M 1) ∧ ((zOkI (zQ M l0 1) l1 M) ∧ ((zHasQ 4 9 l0 M 0) ∧ ((zOkI (zQ M l0 0) l2 M) ∧ ((zHasQ 4 9 l0 M 0) ∧ ((zOkI (zQ M l0 0) l1 M) ∧ ((p188_0 n (-((((zI M (zQ M l0 0) l1.toNatClampNeg) - (500 : Int32)).toInt64 * ((zI M (zQ M l0 1) l2.toNatClampNeg).toInt64 - (zI M (zQ M l0 1) l1.toNatClampNeg).toInt64)) + ((l3.toInt64 - (zI M (zQ M l0 1) l1.toNatClampNeg).toInt64) * ((zI M (zQ M l0 0) l2.toNatClampNeg) - (zI M (zQ M l0 0) l1.toNatClampNeg)).toInt64))) (((zI M (zQ M l0 1) l2.toNatClampNeg).toInt64 - (zI M (zQ M l0 1) l1.toNatClampNeg).toInt64) * (1000 : Int64)) M) ∧ (p33_80 n  (b188_0 n (-((((zI M (zQ M l0 0) l1.toNatClampNeg) - (500 : Int32)).toInt64 * ((zI M (zQ M l0 1) l2.toNatClampNeg).toInt64 - (zI M (zQ M l0 1) l1.toNatClampNeg).toInt64)) + ((l3.toInt64 - (zI M (zQ M l0 1) l1.toNatClampNeg).toInt64) * ((zI M (zQ M l0 0) l2.toNatClampNeg) - (zI M (zQ M l0 0) l1.toNatClampNeg)).toInt64))) (((zI M (zQ M l0 1) l2.toNatClampNeg).toInt64 - (zI M (zQ M l0 1) l1.toNatClampNeg).toInt64) * (1000 : Int64)) M).1 (b188_0 n (-((((zI M (zQ M l0 0) l1.toNatClampNeg) - (500 : Int32)).toInt64 * ((zI M (zQ M l0 1) l2.toNatClampNeg).toInt64 - (zI M (zQ M l0 1) l1.toNatClampNeg).toInt64)) + ((l3.toInt64 - (zI M (zQ M l0 1) l1.toNatClampNeg).toInt64) * ((zI M (zQ M l0 0) l2.toNatClampNeg) - (zI M (zQ M l0 0) l1.toNatClampNeg)).toInt64))) (((zI M (zQ M l0 1) l2.toNatClampNeg).toInt64 - (zI M (zQ M l0 1) l1.toNatClampNeg).toInt64) * (1000 : Int64)) M).2)))))))))) ∧ (¬ 0 < (lg_cmp ((zI M (zQ M l0 1) l2.toNatClampNeg).toInt64 - (zI M (zQ M l0 1) l1.toNatClampNeg).toInt64) (0 : Int64)) → True))))))
theorem s33_0 (n : Nat)    (l0 : Nat) (l1 : Int32) (l2 : Int32) (l3 : Int32) (M : zM) (hp : p33_0 n  l0 l1 l2 l3 M) {Q : Option Value → zM → Prop} (hQ : ∀ r M1, zRI (b33_0 n  l0 l1 l2 l3 M) r M1 → Q r M1) : zWP 33 0 [some (.ref l0), some (.int l1), some (.int l2), some (.int l3), none, none, none, none] [] M Q := by
  unfold b33_0 at hQ
  unfold p33_0 at hp
  refine wp_go 1 (pc' := 1) (L' := [some (.ref l0), some (.int l1), some (.int l2), some (.int l3), none, none, none, none]) (st' := [.ref l0]) (M' := M) rfl ?_
  obtain ⟨hc, hp⟩ := hp
  refine wq_getQ (j := 1) rfl hc ?_
  refine wp_go 1 (pc' := 5) (L' := [some (.ref l0), some (.int l1), some (.int l2), some (.int l3), none, none, none, none]) (st' := [.int l2, .ref (zQ M l0 1)]) (M' := M) rfl ?_
  obtain ⟨hc, hp⟩ := hp
  refine wq_iald rfl hc ?_
  refine wp_go 2 (pc' := 8) (L' := [some (.ref l0), some (.int l1), some (.int l2), some (.int l3), none, none, none, none]) (st' := [.ref l0, .long (zI M (zQ M l0 1) l2.toNatClampNeg).toInt64]) (M' := M) rfl ?_
  obtain ⟨hc, hp⟩ := hp
  refine wq_getQ (j := 1) rfl hc ?_
  refine wp_go 1 (pc' := 12) (L' := [some (.ref l0), some (.int l1), some (.int l2), some (.int l3), none, none, none, none]) (st' := [.int l1, .ref (zQ M l0 1), .long (zI M (zQ M l0 1) l2.toNatClampNeg).toInt64]) (M' := M) rfl ?_
  obtain ⟨hc, hp⟩ := hp
  refine wq_iald rfl hc ?_
  refine wp_go 5 (pc' := 20) (L' := [some (.ref l0), some (.int l1), some (.int l2), some (.int l3), some (.long ((zI M (zQ M l0 1) l2.toNatClampNeg).toInt64 - (zI M (zQ M l0 1) l1.toNatClampNeg).toInt64)), none, none, none]) (st' := [.long (0 : Int64), .long ((zI M (zQ M l0 1) l2.toNatClampNeg).toInt64 - (zI M (zQ M l0 1) l1.toNatClampNeg).toInt64)]) (M' := M) rfl ?_
  refine wp_go 1 (pc' := 21) (L' := [some (.ref l0), some (.int l1), some (.int l2), some (.int l3), some (.long ((zI M (zQ M l0 1) l2.toNatClampNeg).toInt64 - (zI M (zQ M l0 1) l1.toNatClampNeg).toInt64)), none, none, none]) (st' := [.int (lg_cmp ((zI M (zQ M l0 1) l2.toNatClampNeg).toInt64 - (zI M (zQ M l0 1) l1.toNatClampNeg).toInt64) (0 : Int64))]) (M' := M) rfl ?_
  refine wp_if_gt (t := 26) rfl rfl (fun hc => ?_) (fun hc => ?_)
  · rw [if_pos hc] at hQ
    replace hp := hp.1 hc
    refine wp_go 1 (pc' := 27) (L' := [some (.ref l0), some (.int l1), some (.int l2), some (.int l3), some (.long ((zI M (zQ M l0 1) l2.toNatClampNeg).toInt64 - (zI M (zQ M l0 1) l1.toNatClampNeg).toInt64)), none, none, none]) (st' := [.ref l0]) (M' := M) rfl ?_
    obtain ⟨hc, hp⟩ := hp
    refine wq_getQ (j := 0) rfl hc ?_
    refine wp_go 1 (pc' := 31) (L' := [some (.ref l0), some (.int l1), some (.int l2), some (.int l3), some (.long ((zI M (zQ M l0 1) l2.toNatClampNeg).toInt64 - (zI M (zQ M l0 1) l1.toNatClampNeg).toInt64)), none, none, none]) (st' := [.int l1, .ref (zQ M l0 0)]) (M' := M) rfl ?_
    obtain ⟨hc, hp⟩ := hp
    refine wq_iald rfl hc ?_
    refine wp_go 5 (pc' := 40) (L' := [some (.ref l0), some (.int l1), some (.int l2), some (.int l3), some (.long ((zI M (zQ M l0 1) l2.toNatClampNeg).toInt64 - (zI M (zQ M l0 1) l1.toNatClampNeg).toInt64)), none, none, none]) (st' := [.long (((zI M (zQ M l0 0) l1.toNatClampNeg) - (500 : Int32)).toInt64 * ((zI M (zQ M l0 1) l2.toNatClampNeg).toInt64 - (zI M (zQ M l0 1) l1.toNatClampNeg).toInt64))]) (M' := M) rfl ?_
    refine wp_go 3 (pc' := 43) (L' := [some (.ref l0), some (.int l1), some (.int l2), some (.int l3), some (.long ((zI M (zQ M l0 1) l2.toNatClampNeg).toInt64 - (zI M (zQ M l0 1) l1.toNatClampNeg).toInt64)), none, none, none]) (st' := [.ref l0, .long l3.toInt64, .long (((zI M (zQ M l0 0) l1.toNatClampNeg) - (500 : Int32)).toInt64 * ((zI M (zQ M l0 1) l2.toNatClampNeg).toInt64 - (zI M (zQ M l0 1) l1.toNatClampNeg).toInt64))]) (M' := M) rfl ?_
    obtain ⟨hc, hp⟩ := hp
    refine wq_getQ (j := 1) rfl hc ?_
    refine wp_go 1 (pc' := 47) (L' := [some (.ref l0), some (.int l1), some (.int l2), some (.int l3), some (.long ((zI M (zQ M l0 1) l2.toNatClampNeg).toInt64 - (zI M (zQ M l0 1) l1.toNatClampNeg).toInt64)), none, none, none]) (st' := [.int l1, .ref (zQ M l0 1), .long l3.toInt64, .long (((zI M (zQ M l0 0) l1.toNatClampNeg) - (500 : Int32)).toInt64 * ((zI M (zQ M l0 1) l2.toNatClampNeg).toInt64 - (zI M (zQ M l0 1) l1.toNatClampNeg).toInt64))]) (M' := M) rfl ?_
    obtain ⟨hc, hp⟩ := hp
    refine wq_iald rfl hc ?_
    refine wp_go 3 (pc' := 51) (L' := [some (.ref l0), some (.int l1), some (.int l2), some (.int l3), some (.long ((zI M (zQ M l0 1) l2.toNatClampNeg).toInt64 - (zI M (zQ M l0 1) l1.toNatClampNeg).toInt64)), none, none, none]) (st' := [.ref l0, .long (l3.toInt64 - (zI M (zQ M l0 1) l1.toNatClampNeg).toInt64), .long (((zI M (zQ M l0 0) l1.toNatClampNeg) - (500 : Int32)).toInt64 * ((zI M (zQ M l0 1) l2.toNatClampNeg).toInt64 - (zI M (zQ M l0 1) l1.toNatClampNeg).toInt64))]) (M' := M) rfl ?_
    obtain ⟨hc, hp⟩ := hp
    refine wq_getQ (j := 0) rfl hc ?_
    refine wp_go 1 (pc' := 55) (L' := [some (.ref l0), some (.int l1), some (.int l2), some (.int l3), some (.long ((zI M (zQ M l0 1) l2.toNatClampNeg).toInt64 - (zI M (zQ M l0 1) l1.toNatClampNeg).toInt64)), none, none, none]) (st' := [.int l2, .ref (zQ M l0 0), .long (l3.toInt64 - (zI M (zQ M l0 1) l1.toNatClampNeg).toInt64), .long (((zI M (zQ M l0 0) l1.toNatClampNeg) - (500 : Int32)).toInt64 * ((zI M (zQ M l0 1) l2.toNatClampNeg).toInt64 - (zI M (zQ M l0 1) l1.toNatClampNeg).toInt64))]) (M' := M) rfl ?_
    obtain ⟨hc, hp⟩ := hp
    refine wq_iald rfl hc ?_
    refine wp_go 1 (pc' := 57) (L' := [some (.ref l0), some (.int l1), some (.int l2), some (.int l3), some (.long ((zI M (zQ M l0 1) l2.toNatClampNeg).toInt64 - (zI M (zQ M l0 1) l1.toNatClampNeg).toInt64)), none, none, none]) (st' := [.ref l0, .int (zI M (zQ M l0 0) l2.toNatClampNeg), .long (l3.toInt64 - (zI M (zQ M l0 1) l1.toNatClampNeg).toInt64), .long (((zI M (zQ M l0 0) l1.toNatClampNeg) - (500 : Int32)).toInt64 * ((zI M (zQ M l0 1) l2.toNatClampNeg).toInt64 - (zI M (zQ M l0 1) l1.toNatClampNeg).toInt64))]) (M' := M) rfl ?_
    obtain ⟨hc, hp⟩ := hp
    refine wq_getQ (j := 0) rfl hc ?_
    refine wp_go 1 (pc' := 61) (L' := [some (.ref l0), some (.int l1), some (.int l2), some (.int l3), some (.long ((zI M (zQ M l0 1) l2.toNatClampNeg).toInt64 - (zI M (zQ M l0 1) l1.toNatClampNeg).toInt64)), none, none, none]) (st' := [.int l1, .ref (zQ M l0 0), .int (zI M (zQ M l0 0) l2.toNatClampNeg), .long (l3.toInt64 - (zI M (zQ M l0 1) l1.toNatClampNeg).toInt64), .long (((zI M (zQ M l0 0) l1.toNatClampNeg) - (500 : Int32)).toInt64 * ((zI M (zQ M l0 1) l2.toNatClampNeg).toInt64 - (zI M (zQ M l0 1) l1.toNatClampNeg).toInt64))]) (M' := M) rfl ?_
    obtain ⟨hc, hp⟩ := hp
    refine wq_iald rfl hc ?_
    refine wp_go 5 (pc' := 68) (L' := [some (.ref l0), some (.int l1), some (.int l2), some (.int l3), some (.long ((zI M (zQ M l0 1) l2.toNatClampNeg).toInt64 - (zI M (zQ M l0 1) l1.toNatClampNeg).toInt64)), none, some (.long ((((zI M (zQ M l0 0) l1.toNatClampNeg) - (500 : Int32)).toInt64 * ((zI M (zQ M l0 1) l2.toNatClampNeg).toInt64 - (zI M (zQ M l0 1) l1.toNatClampNeg).toInt64)) + ((l3.toInt64 - (zI M (zQ M l0 1) l1.toNatClampNeg).toInt64) * ((zI M (zQ M l0 0) l2.toNatClampNeg) - (zI M (zQ M l0 0) l1.toNatClampNeg)).toInt64))), none]) (st' := []) (M' := M) rfl ?_
    refine wp_go 5 (pc' := 77) (L' := [some (.ref l0), some (.int l1), some (.int l2), some (.int l3), some (.long ((zI M (zQ M l0 1) l2.toNatClampNeg).toInt64 - (zI M (zQ M l0 1) l1.toNatClampNeg).toInt64)), none, some (.long ((((zI M (zQ M l0 0) l1.toNatClampNeg) - (500 : Int32)).toInt64 * ((zI M (zQ M l0 1) l2.toNatClampNeg).toInt64 - (zI M (zQ M l0 1) l1.toNatClampNeg).toInt64)) + ((l3.toInt64 - (zI M (zQ M l0 1) l1.toNatClampNeg).toInt64) * ((zI M (zQ M l0 0) l2.toNatClampNeg) - (zI M (zQ M l0 0) l1.toNatClampNeg)).toInt64))), none]) (st' := [.long (((zI M (zQ M l0 1) l2.toNatClampNeg).toInt64 - (zI M (zQ M l0 1) l1.toNatClampNeg).toInt64) * (1000 : Int64)), .long (-((((zI M (zQ M l0 0) l1.toNatClampNeg) - (500 : Int32)).toInt64 * ((zI M (zQ M l0 1) l2.toNatClampNeg).toInt64 - (zI M (zQ M l0 1) l1.toNatClampNeg).toInt64)) + ((l3.toInt64 - (zI M (zQ M l0 1) l1.toNatClampNeg).toInt64) * ((zI M (zQ M l0 0) l2.toNatClampNeg) - (zI M (zQ M l0 0) l1.toNatClampNeg)).toInt64)))]) (M' := M) rfl ?_
    obtain ⟨hc, hp⟩ := hp
    refine wp_calll (v := (b188_0 n (-((((zI M (zQ M l0 0) l1.toNatClampNeg) - (500 : Int32)).toInt64 * ((zI M (zQ M l0 1) l2.toNatClampNeg).toInt64 - (zI M (zQ M l0 1) l1.toNatClampNeg).toInt64)) + ((l3.toInt64 - (zI M (zQ M l0 1) l1.toNatClampNeg).toInt64) * ((zI M (zQ M l0 0) l2.toNatClampNeg) - (zI M (zQ M l0 0) l1.toNatClampNeg)).toInt64))) (((zI M (zQ M l0 1) l2.toNatClampNeg).toInt64 - (zI M (zQ M l0 1) l1.toNatClampNeg).toInt64) * (1000 : Int64)) M).1) (M1 := (b188_0 n (-((((zI M (zQ M l0 0) l1.toNatClampNeg) - (500 : Int32)).toInt64 * ((zI M (zQ M l0 1) l2.toNatClampNeg).toInt64 - (zI M (zQ M l0 1) l1.toNatClampNeg).toInt64)) + ((l3.toInt64 - (zI M (zQ M l0 1) l1.toNatClampNeg).toInt64) * ((zI M (zQ M l0 0) l2.toNatClampNeg) - (zI M (zQ M l0 0) l1.toNatClampNeg)).toInt64))) (((zI M (zQ M l0 1) l2.toNatClampNeg).toInt64 - (zI M (zQ M l0 1) l1.toNatClampNeg).toInt64) * (1000 : Int64)) M).2) rfl rfl rfl rfl (s188_0 n (-((((zI M (zQ M l0 0) l1.toNatClampNeg) - (500 : Int32)).toInt64 * ((zI M (zQ M l0 1) l2.toNatClampNeg).toInt64 - (zI M (zQ M l0 1) l1.toNatClampNeg).toInt64)) + ((l3.toInt64 - (zI M (zQ M l0 1) l1.toNatClampNeg).toInt64) * ((zI M (zQ M l0 0) l2.toNatClampNeg) - (zI M (zQ M l0 0) l1.toNatClampNeg)).toInt64))) (((zI M (zQ M l0 1) l2.toNatClampNeg).toInt64 - (zI M (zQ M l0 1) l1.toNatClampNeg).toInt64) * (1000 : Int64)) M hc (fun r M1 h => h)) ?_
    refine wp_le [none, none, none, none, none, none, none, none] (zLe_of (by simp [zLeB])) ?_
    exact s33_80 n    (b188_0 n (-((((zI M (zQ M l0 0) l1.toNatClampNeg) - (500 : Int32)).toInt64 * ((zI M (zQ M l0 1) l2.toNatClampNeg).toInt64 - (zI M (zQ M l0 1) l1.toNatClampNeg).toInt64)) + ((l3.toInt64 - (zI M (zQ M l0 1) l1.toNatClampNeg).toInt64) * ((zI M (zQ M l0 0) l2.toNatClampNeg) - (zI M (zQ M l0 0) l1.toNatClampNeg)).toInt64))) (((zI M (zQ M l0 1) l2.toNatClampNeg).toInt64 - (zI M (zQ M l0 1) l1.toNatClampNeg).toInt64) * (1000 : Int64)) M).1 (b188_0 n (-((((zI M (zQ M l0 0) l1.toNatClampNeg) - (500 : Int32)).toInt64 * ((zI M (zQ M l0 1) l2.toNatClampNeg).toInt64 - (zI M (zQ M l0 1) l1.toNatClampNeg).toInt64)) + ((l3.toInt64 - (zI M (zQ M l0 1) l1.toNatClampNeg).toInt64) * ((zI M (zQ M l0 0) l2.toNatClampNeg) - (zI M (zQ M l0 0) l1.toNatClampNeg)).toInt64))) (((zI M (zQ M l0 1) l2.toNatClampNeg).toInt64 - (zI M (zQ M l0 1) l1.toNatClampNeg).toInt64) * (1000 : Int64)) M).2 hp hQ
  · rw [if_neg hc] at hQ
    replace hp := hp.2 hc
    refine wp_go 1 (pc' := 25) (L' := [some (.ref l0), some (.int l1), some (.int l2), some (.int l3), some (.long ((zI M (zQ M l0 1) l2.toNatClampNeg).toInt64 - (zI M (zQ M l0 1) l1.toNatClampNeg).toInt64)), none, none, none]) (st' := [.int (0 : Int32)]) (M' := M) rfl ?_
    exact wp_ret (r := some (.int (0 : Int32))) rfl rfl (hQ _ _ ⟨rfl, rfl⟩)
/-! X5_keepCut -/
def b34_71 (n : Nat)   (M : zM) : zM := M
def p34_71 (n : Nat)   (M : zM) : Prop := True
theorem s34_71 (n : Nat)     (M : zM) (hp : p34_71 n   M) {Q : Option Value → zM → Prop} (hQ : ∀ r M1, zRV (b34_71 n   M) r M1 → Q r M1) : zWP 34 71 [none, none, none] [] M Q := by
  unfold b34_71 at hQ
  unfold p34_71 at hp
  exact wp_ret (r := none) rfl rfl (hQ _ _ ⟨rfl, rfl⟩)
def b34_61 (n : Nat)  (l0 : Nat) (M : zM) : zM := b34_71 n  (zWI M l0 4 ((zI M l0 4) + (1 : Int32)))
def p34_61 (n : Nat)  (l0 : Nat) (M : zM) : Prop := (zHasI 4 25 l0 M 4) ∧ ((zPutI 34 25 l0 M 4 ((zI M l0 4) + (1 : Int32))) ∧ (p34_71 n  (zWI M l0 4 ((zI M l0 4) + (1 : Int32)))))
theorem s34_61 (n : Nat)    (l0 : Nat) (M : zM) (hp : p34_61 n  l0 M) {Q : Option Value → zM → Prop} (hQ : ∀ r M1, zRV (b34_61 n  l0 M) r M1 → Q r M1) : zWP 34 61 [some (.ref l0), none, none] [] M Q := by
  unfold b34_61 at hQ
  unfold p34_61 at hp
  refine wp_go 2 (pc' := 63) (L' := [some (.ref l0), none, none]) (st' := [.ref l0, .ref l0]) (M' := M) rfl ?_
  obtain ⟨hc, hp⟩ := hp
  refine wq_getI (j := 4) rfl hc ?_
  refine wp_go 2 (pc' := 68) (L' := [some (.ref l0), none, none]) (st' := [.int ((zI M l0 4) + (1 : Int32)), .ref l0]) (M' := M) rfl ?_
  obtain ⟨hc, hp⟩ := hp
  refine wq_putI (j := 4) rfl hc ?_
  refine wp_le [none, none, none] (zLe_of (by simp [zLeB])) ?_
  exact s34_71 n    (zWI M l0 4 ((zI M l0 4) + (1 : Int32))) hp hQ
def b34_54 (n : Nat)  (l0 : Nat) (l1 : Int32) (l2 : Int32) (M : zM) : zM := b34_61 n  l0 (zWI M (zQ M l0 2) l2.toNatClampNeg l1)
def p34_54 (n : Nat)  (l0 : Nat) (l1 : Int32) (l2 : Int32) (M : zM) : Prop := (zHasQ 4 18 l0 M 2) ∧ ((zOkT 1 (zQ M l0 2) l2 M) ∧ (p34_61 n  l0 (zWI M (zQ M l0 2) l2.toNatClampNeg l1)))
theorem s34_54 (n : Nat)    (l0 : Nat) (l1 : Int32) (l2 : Int32) (M : zM) (hp : p34_54 n  l0 l1 l2 M) {Q : Option Value → zM → Prop} (hQ : ∀ r M1, zRV (b34_54 n  l0 l1 l2 M) r M1 → Q r M1) : zWP 34 54 [some (.ref l0), some (.int l1), some (.int l2)] [] M Q := by
  unfold b34_54 at hQ
  unfold p34_54 at hp
  refine wp_go 1 (pc' := 55) (L' := [some (.ref l0), some (.int l1), some (.int l2)]) (st' := [.ref l0]) (M' := M) rfl ?_
  obtain ⟨hc, hp⟩ := hp
  refine wq_getQ (j := 2) rfl hc ?_
  refine wp_go 2 (pc' := 60) (L' := [some (.ref l0), some (.int l1), some (.int l2)]) (st' := [.int l1, .int l2, .ref (zQ M l0 2)]) (M' := M) rfl ?_
  obtain ⟨hc, hp⟩ := hp
  refine wq_iast rfl hc ?_
  refine wp_le [some (.ref l0), none, none] (zLe_of (by simp [zLeB])) ?_
  exact s34_61 n    l0 (zWI M (zQ M l0 2) l2.toNatClampNeg l1) hp hQ
def b34_48 (n : Nat) (k18 : Nat → Int32 → Int32 → zM → zM) (l0 : Nat) (l1 : Int32) (l2 : Int32) (M : zM) : zM := k18 l0 l1 (l2 + Int32.ofInt (-1)) M
def p34_48 (n : Nat) (q18 : Nat → Int32 → Int32 → zM → Prop) (l0 : Nat) (l1 : Int32) (l2 : Int32) (M : zM) : Prop := q18 l0 l1 (l2 + Int32.ofInt (-1)) M
theorem s34_48 (n : Nat) (k18 : Nat → Int32 → Int32 → zM → zM) (q18 : Nat → Int32 → Int32 → zM → Prop) (h18 : ∀ (l0 : Nat) (l1 : Int32) (l2 : Int32) (M : zM), q18 l0 l1 l2 M → ∀ {Q : Option Value → zM → Prop}, (∀ r M1, zRV (k18 l0 l1 l2 M) r M1 → Q r M1) → zWP 34 18 [some (.ref l0), some (.int l1), some (.int l2)] [] M Q) (l0 : Nat) (l1 : Int32) (l2 : Int32) (M : zM) (hp : p34_48 n q18 l0 l1 l2 M) {Q : Option Value → zM → Prop} (hQ : ∀ r M1, zRV (b34_48 n k18 l0 l1 l2 M) r M1 → Q r M1) : zWP 34 48 [some (.ref l0), some (.int l1), some (.int l2)] [] M Q := by
  unfold b34_48 at hQ
  unfold p34_48 at hp
  refine wp_go 2 (pc' := 18) (L' := [some (.ref l0), some (.int l1), some (.int (l2 + Int32.ofInt (-1)))]) (st' := []) (M' := M) rfl ?_
  exact h18 l0 l1 (l2 + Int32.ofInt (-1)) M hp hQ
def c34_18 (n : Nat) (k18 : Nat → Int32 → Int32 → zM → zM) (l0 : Nat) (l1 : Int32) (l2 : Int32) (M : zM) : zM := (if l2 ≤ 0 then b34_54 n  l0 l1 l2 M else (if (zI M (zQ M l0 2) (l2 - (1 : Int32)).toNatClampNeg) ≤ l1 then b34_54 n  l0 l1 l2 M else b34_48 n k18 l0 l1 l2 (zWI M (zQ M l0 2) l2.toNatClampNeg (zI M (zQ M l0 2) (l2 - (1 : Int32)).toNatClampNeg))))
def d34_18 (n : Nat) (q18 : Nat → Int32 → Int32 → zM → Prop) (l0 : Nat) (l1 : Int32) (l2 : Int32) (M : zM) : Prop := ((l2 ≤ 0 → p34_54 n  l0 l1 l2 M) ∧ (¬ l2 ≤ 0 → (zHasQ 4 18 l0 M 2) ∧ ((zOkI (zQ M l0 2) (l2 - (1 : Int32)) M) ∧ ((((zI M (zQ M l0 2) (l2 - (1 : Int32)).toNatClampNeg) ≤ l1 → p34_54 n  l0 l1 l2 M) ∧ (¬ (zI M (zQ M l0 2) (l2 - (1 : Int32)).toNatClampNeg) ≤ l1 → (zHasQ 4 18 l0 M 2) ∧ ((zHasQ 4 18 l0 M 2) ∧ ((zOkI (zQ M l0 2) (l2 - (1 : Int32)) M) ∧ ((zOkT 1 (zQ M l0 2) l2 M) ∧ (p34_48 n q18 l0 l1 l2 (zWI M (zQ M l0 2) l2.toNatClampNeg (zI M (zQ M l0 2) (l2 - (1 : Int32)).toNatClampNeg))))))))))))
theorem t34_18 (n : Nat) (k18 : Nat → Int32 → Int32 → zM → zM) (q18 : Nat → Int32 → Int32 → zM → Prop) (h18 : ∀ (l0 : Nat) (l1 : Int32) (l2 : Int32) (M : zM), q18 l0 l1 l2 M → ∀ {Q : Option Value → zM → Prop}, (∀ r M1, zRV (k18 l0 l1 l2 M) r M1 → Q r M1) → zWP 34 18 [some (.ref l0), some (.int l1), some (.int l2)] [] M Q) (l0 : Nat) (l1 : Int32) (l2 : Int32) (M : zM) (hp : d34_18 n q18 l0 l1 l2 M) {Q : Option Value → zM → Prop} (hQ : ∀ r M1, zRV (c34_18 n k18 l0 l1 l2 M) r M1 → Q r M1) : zWP 34 18 [some (.ref l0), some (.int l1), some (.int l2)] [] M Q := by
  unfold c34_18 at hQ
  unfold d34_18 at hp
  refine wp_go 1 (pc' := 19) (L' := [some (.ref l0), some (.int l1), some (.int l2)]) (st' := [.int l2]) (M' := M) rfl ?_
  refine wp_if_le (t := 54) rfl rfl (fun hc => ?_) (fun hc => ?_)
  · rw [if_pos hc] at hQ
    replace hp := hp.1 hc
    exact s34_54 n    l0 l1 l2 M hp hQ
  · rw [if_neg hc] at hQ
    replace hp := hp.2 hc
    refine wp_go 1 (pc' := 23) (L' := [some (.ref l0), some (.int l1), some (.int l2)]) (st' := [.ref l0]) (M' := M) rfl ?_
    obtain ⟨hc, hp⟩ := hp
    refine wq_getQ (j := 2) rfl hc ?_
    refine wp_go 3 (pc' := 29) (L' := [some (.ref l0), some (.int l1), some (.int l2)]) (st' := [.int (l2 - (1 : Int32)), .ref (zQ M l0 2)]) (M' := M) rfl ?_
    obtain ⟨hc, hp⟩ := hp
    refine wq_iald rfl hc ?_
    refine wp_go 1 (pc' := 31) (L' := [some (.ref l0), some (.int l1), some (.int l2)]) (st' := [.int l1, .int (zI M (zQ M l0 2) (l2 - (1 : Int32)).toNatClampNeg)]) (M' := M) rfl ?_
    refine wp_ic_le (t := 54) rfl rfl (fun hc => ?_) (fun hc => ?_)
    · rw [if_pos hc] at hQ
      replace hp := hp.1 hc
      exact s34_54 n    l0 l1 l2 M hp hQ
    · rw [if_neg hc] at hQ
      replace hp := hp.2 hc
      refine wp_go 1 (pc' := 35) (L' := [some (.ref l0), some (.int l1), some (.int l2)]) (st' := [.ref l0]) (M' := M) rfl ?_
      obtain ⟨hc, hp⟩ := hp
      refine wq_getQ (j := 2) rfl hc ?_
      refine wp_go 2 (pc' := 40) (L' := [some (.ref l0), some (.int l1), some (.int l2)]) (st' := [.ref l0, .int l2, .ref (zQ M l0 2)]) (M' := M) rfl ?_
      obtain ⟨hc, hp⟩ := hp
      refine wq_getQ (j := 2) rfl hc ?_
      refine wp_go 3 (pc' := 46) (L' := [some (.ref l0), some (.int l1), some (.int l2)]) (st' := [.int (l2 - (1 : Int32)), .ref (zQ M l0 2), .int l2, .ref (zQ M l0 2)]) (M' := M) rfl ?_
      obtain ⟨hc, hp⟩ := hp
      refine wq_iald rfl hc ?_
      obtain ⟨hc, hp⟩ := hp
      refine wq_iast rfl hc ?_
      exact s34_48 n k18 q18 h18 l0 l1 l2 (zWI M (zQ M l0 2) l2.toNatClampNeg (zI M (zQ M l0 2) (l2 - (1 : Int32)).toNatClampNeg)) hp hQ
def b34_18 (n : Nat)  : Nat → Nat → Int32 → Int32 → zM → zM
  | 0, _, _, _, M => M
  | k + 1, l0, l1, l2, M => c34_18 n  (b34_18 n  k) l0 l1 l2 M
def p34_18 (n : Nat)  : Nat → Nat → Int32 → Int32 → zM → Prop
  | 0, _, _, _, _ => False
  | k + 1, l0, l1, l2, M => d34_18 n  (p34_18 n  k) l0 l1 l2 M
theorem s34_18 (n : Nat)    : ∀ (k : Nat) (l0 : Nat) (l1 : Int32) (l2 : Int32) (M : zM), p34_18 n  k l0 l1 l2 M → ∀ {Q : Option Value → zM → Prop}, (∀ r M1, zRV (b34_18 n  k l0 l1 l2 M) r M1 → Q r M1) → zWP 34 18 [some (.ref l0), some (.int l1), some (.int l2)] [] M Q
  | 0, _, _, _, _, h, _, _ => h.elim
  | k + 1, l0, l1, l2, M, h, _, hQ => t34_18 n  (b34_18 n  k)  (p34_18 n  k)  (s34_18 n    k) l0 l1 l2 M h hQ
def b34_0 (n : Nat)  (l0 : Nat) (l1 : Int32) (M : zM) : zM := (if (zI M l0 4) < (Int32.ofNat (zS M (zQ M l0 2)).2) then b34_18 n  n l0 l1 (zI M l0 4) M else M)
def p34_0 (n : Nat)  (l0 : Nat) (l1 : Int32) (M : zM) : Prop := (zHasI 4 25 l0 M 4) ∧ ((zHasQ 4 18 l0 M 2) ∧ ((zOkN (zQ M l0 2) M) ∧ ((((zI M l0 4) < (Int32.ofNat (zS M (zQ M l0 2)).2) → (zHasI 4 25 l0 M 4) ∧ (p34_18 n  n l0 l1 (zI M l0 4) M)) ∧ (¬ (zI M l0 4) < (Int32.ofNat (zS M (zQ M l0 2)).2) → True)))))
theorem s34_0 (n : Nat)    (l0 : Nat) (l1 : Int32) (M : zM) (hp : p34_0 n  l0 l1 M) {Q : Option Value → zM → Prop} (hQ : ∀ r M1, zRV (b34_0 n  l0 l1 M) r M1 → Q r M1) : zWP 34 0 [some (.ref l0), some (.int l1), none] [] M Q := by
  unfold b34_0 at hQ
  unfold p34_0 at hp
  refine wp_go 1 (pc' := 1) (L' := [some (.ref l0), some (.int l1), none]) (st' := [.ref l0]) (M' := M) rfl ?_
  obtain ⟨hc, hp⟩ := hp
  refine wq_getI (j := 4) rfl hc ?_
  refine wp_go 1 (pc' := 5) (L' := [some (.ref l0), some (.int l1), none]) (st' := [.ref l0, .int (zI M l0 4)]) (M' := M) rfl ?_
  obtain ⟨hc, hp⟩ := hp
  refine wq_getQ (j := 2) rfl hc ?_
  obtain ⟨hc, hp⟩ := hp
  refine wq_alen rfl hc ?_
  refine wp_ic_lt (t := 13) rfl rfl (fun hc => ?_) (fun hc => ?_)
  · rw [if_pos hc] at hQ
    replace hp := hp.1 hc
    refine wp_go 1 (pc' := 14) (L' := [some (.ref l0), some (.int l1), none]) (st' := [.ref l0]) (M' := M) rfl ?_
    obtain ⟨hc, hp⟩ := hp
    refine wq_getI (j := 4) rfl hc ?_
    refine wp_go 1 (pc' := 18) (L' := [some (.ref l0), some (.int l1), some (.int (zI M l0 4))]) (st' := []) (M' := M) rfl ?_
    exact s34_18 n    n l0 l1 (zI M l0 4) M hp hQ
  · rw [if_neg hc] at hQ
    replace hp := hp.2 hc
    exact wp_ret (r := none) rfl rfl (hQ _ _ ⟨rfl, rfl⟩)
/-! X5_cutAt -/
def b32_98 (n : Nat) (k7 : Nat → Int32 → Int32 → zM → zM) (l0 : Nat) (l1 : Int32) (l2 : Int32) (M : zM) : zM := k7 l0 l1 (l2 + Int32.ofInt 1) M
def p32_98 (n : Nat) (q7 : Nat → Int32 → Int32 → zM → Prop) (l0 : Nat) (l1 : Int32) (l2 : Int32) (M : zM) : Prop := q7 l0 l1 (l2 + Int32.ofInt 1) M
theorem s32_98 (n : Nat) (k7 : Nat → Int32 → Int32 → zM → zM) (q7 : Nat → Int32 → Int32 → zM → Prop) (h7 : ∀ (l0 : Nat) (l1 : Int32) (l2 : Int32) (M : zM), q7 l0 l1 l2 M → ∀ {Q : Option Value → zM → Prop}, (∀ r M1, zRV (k7 l0 l1 l2 M) r M1 → Q r M1) → zWP 32 7 [some (.ref l0), some (.int l1), some (.int l2), none] [] M Q) (l0 : Nat) (l1 : Int32) (l2 : Int32) (M : zM) (hp : p32_98 n q7 l0 l1 l2 M) {Q : Option Value → zM → Prop} (hQ : ∀ r M1, zRV (b32_98 n k7 l0 l1 l2 M) r M1 → Q r M1) : zWP 32 98 [some (.ref l0), some (.int l1), some (.int l2), none] [] M Q := by
  unfold b32_98 at hQ
  unfold p32_98 at hp
  refine wp_go 2 (pc' := 7) (L' := [some (.ref l0), some (.int l1), some (.int (l2 + Int32.ofInt 1)), none]) (st' := []) (M' := M) rfl ?_
  exact h7 l0 l1 (l2 + Int32.ofInt 1) M hp hQ
def b32_95 (n : Nat) (k7 : Nat → Int32 → Int32 → zM → zM) (l0 : Nat) (l1 : Int32) (l2 : Int32) (s0 : Nat) (s1 : Int32) (M : zM) : zM := b32_98 n k7 l0 l1 l2 (b34_0 n s0 s1 M)
def p32_95 (n : Nat) (q7 : Nat → Int32 → Int32 → zM → Prop) (l0 : Nat) (l1 : Int32) (l2 : Int32) (s0 : Nat) (s1 : Int32) (M : zM) : Prop := (zHasC 32 75 s0 M 34 1) ∧ ((p34_0 n s0 s1 M) ∧ (p32_98 n q7 l0 l1 l2 (b34_0 n s0 s1 M)))
theorem s32_95 (n : Nat) (k7 : Nat → Int32 → Int32 → zM → zM) (q7 : Nat → Int32 → Int32 → zM → Prop) (h7 : ∀ (l0 : Nat) (l1 : Int32) (l2 : Int32) (M : zM), q7 l0 l1 l2 M → ∀ {Q : Option Value → zM → Prop}, (∀ r M1, zRV (k7 l0 l1 l2 M) r M1 → Q r M1) → zWP 32 7 [some (.ref l0), some (.int l1), some (.int l2), none] [] M Q) (l0 : Nat) (l1 : Int32) (l2 : Int32) (s0 : Nat) (s1 : Int32) (M : zM) (hp : p32_95 n q7 l0 l1 l2 s0 s1 M) {Q : Option Value → zM → Prop} (hQ : ∀ r M1, zRV (b32_95 n k7 l0 l1 l2 s0 s1 M) r M1 → Q r M1) : zWP 32 95 [some (.ref l0), some (.int l1), some (.int l2), none] [.int s1, .ref s0] M Q := by
  unfold b32_95 at hQ
  unfold p32_95 at hp
  obtain ⟨hv, hp⟩ := hp
  obtain ⟨hc, hp⟩ := hp
  refine wp_callv (M1 := (b34_0 n s0 s1 M)) rfl rfl rfl (zInv_v (np := 1) rfl rfl hv rfl) (s34_0 n s0 s1 M hc (fun r M1 h => h)) ?_
  exact s32_98 n k7 q7 h7 l0 l1 l2 (b34_0 n s0 s1 M) hp hQ
def b32_67 (n : Nat) (k7 : Nat → Int32 → Int32 → zM → zM) (l0 : Nat) (l1 : Int32) (l2 : Int32) (l3 : Int32) (M : zM) : zM := (if l1 < (zI M (zQ M l0 1) l3.toNatClampNeg) then b32_98 n k7 l0 l1 l2 M else (if (zI M (zQ M l0 1) l2.toNatClampNeg) ≤ l1 then b32_98 n k7 l0 l1 l2 M else b32_95 n k7 l0 l1 l2 l0 (b33_0 n l0 l3 l2 l1 M).1 (b33_0 n l0 l3 l2 l1 M).2))
def p32_67 (n : Nat) (q7 : Nat → Int32 → Int32 → zM → Prop) (l0 : Nat) (l1 : Int32) (l2 : Int32) (l3 : Int32) (M : zM) : Prop := (zHasQ 4 15 l0 M 1) ∧ ((zOkI (zQ M l0 1) l3 M) ∧ (((l1 < (zI M (zQ M l0 1) l3.toNatClampNeg) → p32_98 n q7 l0 l1 l2 M) ∧ (¬ l1 < (zI M (zQ M l0 1) l3.toNatClampNeg) → (zHasQ 4 15 l0 M 1) ∧ ((zOkI (zQ M l0 1) l2 M) ∧ ((((zI M (zQ M l0 1) l2.toNatClampNeg) ≤ l1 → p32_98 n q7 l0 l1 l2 M) ∧ (¬ (zI M (zQ M l0 1) l2.toNatClampNeg) ≤ l1 → (zHasC 32 71 l0 M 33 3) ∧ ((p33_0 n l0 l3 l2 l1 M) ∧ (p32_95 n q7 l0 l1 l2 l0 (b33_0 n l0 l3 l2 l1 M).1 (b33_0 n l0 l3 l2 l1 M).2))))))))))
theorem s32_67 (n : Nat) (k7 : Nat → Int32 → Int32 → zM → zM) (q7 : Nat → Int32 → Int32 → zM → Prop) (h7 : ∀ (l0 : Nat) (l1 : Int32) (l2 : Int32) (M : zM), q7 l0 l1 l2 M → ∀ {Q : Option Value → zM → Prop}, (∀ r M1, zRV (k7 l0 l1 l2 M) r M1 → Q r M1) → zWP 32 7 [some (.ref l0), some (.int l1), some (.int l2), none] [] M Q) (l0 : Nat) (l1 : Int32) (l2 : Int32) (l3 : Int32) (M : zM) (hp : p32_67 n q7 l0 l1 l2 l3 M) {Q : Option Value → zM → Prop} (hQ : ∀ r M1, zRV (b32_67 n k7 l0 l1 l2 l3 M) r M1 → Q r M1) : zWP 32 67 [some (.ref l0), some (.int l1), some (.int l2), some (.int l3)] [] M Q := by
  unfold b32_67 at hQ
  unfold p32_67 at hp
  refine wp_go 1 (pc' := 68) (L' := [some (.ref l0), some (.int l1), some (.int l2), some (.int l3)]) (st' := [.ref l0]) (M' := M) rfl ?_
  obtain ⟨hc, hp⟩ := hp
  refine wq_getQ (j := 1) rfl hc ?_
  refine wp_go 1 (pc' := 72) (L' := [some (.ref l0), some (.int l1), some (.int l2), some (.int l3)]) (st' := [.int l3, .ref (zQ M l0 1)]) (M' := M) rfl ?_
  obtain ⟨hc, hp⟩ := hp
  refine wq_iald rfl hc ?_
  refine wp_go 1 (pc' := 74) (L' := [some (.ref l0), some (.int l1), some (.int l2), some (.int l3)]) (st' := [.int l1, .int (zI M (zQ M l0 1) l3.toNatClampNeg)]) (M' := M) rfl ?_
  refine wp_ic_gt (t := 98) rfl rfl (fun hc => ?_) (fun hc => ?_)
  · rw [if_pos hc] at hQ
    replace hp := hp.1 hc
    refine wp_le [some (.ref l0), some (.int l1), some (.int l2), none] (zLe_of (by simp [zLeB])) ?_
    exact s32_98 n k7 q7 h7 l0 l1 l2 M hp hQ
  · rw [if_neg hc] at hQ
    replace hp := hp.2 hc
    refine wp_go 2 (pc' := 79) (L' := [some (.ref l0), some (.int l1), some (.int l2), some (.int l3)]) (st' := [.ref l0, .int l1]) (M' := M) rfl ?_
    obtain ⟨hc, hp⟩ := hp
    refine wq_getQ (j := 1) rfl hc ?_
    refine wp_go 1 (pc' := 83) (L' := [some (.ref l0), some (.int l1), some (.int l2), some (.int l3)]) (st' := [.int l2, .ref (zQ M l0 1), .int l1]) (M' := M) rfl ?_
    obtain ⟨hc, hp⟩ := hp
    refine wq_iald rfl hc ?_
    refine wp_ic_ge (t := 98) rfl rfl (fun hc => ?_) (fun hc => ?_)
    · rw [if_pos hc] at hQ
      replace hp := hp.1 hc
      refine wp_le [some (.ref l0), some (.int l1), some (.int l2), none] (zLe_of (by simp [zLeB])) ?_
      exact s32_98 n k7 q7 h7 l0 l1 l2 M hp hQ
    · rw [if_neg hc] at hQ
      replace hp := hp.2 hc
      refine wp_go 5 (pc' := 92) (L' := [some (.ref l0), some (.int l1), some (.int l2), some (.int l3)]) (st' := [.int l1, .int l2, .int l3, .ref l0, .ref l0]) (M' := M) rfl ?_
      obtain ⟨hv, hp⟩ := hp
      obtain ⟨hc, hp⟩ := hp
      refine wp_calli (v := (b33_0 n l0 l3 l2 l1 M).1) (M1 := (b33_0 n l0 l3 l2 l1 M).2) rfl rfl rfl (zInv_v (np := 3) rfl rfl hv rfl) (s33_0 n l0 l3 l2 l1 M hc (fun r M1 h => h)) ?_
      refine wp_le [some (.ref l0), some (.int l1), some (.int l2), none] (zLe_of (by simp [zLeB])) ?_
      exact s32_95 n k7 q7 h7 l0 l1 l2 l0 (b33_0 n l0 l3 l2 l1 M).1 (b33_0 n l0 l3 l2 l1 M).2 hp hQ
def b32_64 (n : Nat) (k7 : Nat → Int32 → Int32 → zM → zM) (l0 : Nat) (l1 : Int32) (l2 : Int32) (M : zM) : zM := b32_98 n k7 l0 l1 l2 M
def p32_64 (n : Nat) (q7 : Nat → Int32 → Int32 → zM → Prop) (l0 : Nat) (l1 : Int32) (l2 : Int32) (M : zM) : Prop := p32_98 n q7 l0 l1 l2 M
theorem s32_64 (n : Nat) (k7 : Nat → Int32 → Int32 → zM → zM) (q7 : Nat → Int32 → Int32 → zM → Prop) (h7 : ∀ (l0 : Nat) (l1 : Int32) (l2 : Int32) (M : zM), q7 l0 l1 l2 M → ∀ {Q : Option Value → zM → Prop}, (∀ r M1, zRV (k7 l0 l1 l2 M) r M1 → Q r M1) → zWP 32 7 [some (.ref l0), some (.int l1), some (.int l2), none] [] M Q) (l0 : Nat) (l1 : Int32) (l2 : Int32) (M : zM) (hp : p32_64 n q7 l0 l1 l2 M) {Q : Option Value → zM → Prop} (hQ : ∀ r M1, zRV (b32_64 n k7 l0 l1 l2 M) r M1 → Q r M1) : zWP 32 64 [some (.ref l0), some (.int l1), some (.int l2), none] [] M Q := by
  unfold b32_64 at hQ
  unfold p32_64 at hp
  refine wp_go 1 (pc' := 98) (L' := [some (.ref l0), some (.int l1), some (.int l2), none]) (st' := []) (M' := M) rfl ?_
  exact s32_98 n k7 q7 h7 l0 l1 l2 M hp hQ
def b32_61 (n : Nat) (k7 : Nat → Int32 → Int32 → zM → zM) (l0 : Nat) (l1 : Int32) (l2 : Int32) (s0 : Nat) (s1 : Int32) (M : zM) : zM := b32_64 n k7 l0 l1 l2 (b34_0 n s0 s1 M)
def p32_61 (n : Nat) (q7 : Nat → Int32 → Int32 → zM → Prop) (l0 : Nat) (l1 : Int32) (l2 : Int32) (s0 : Nat) (s1 : Int32) (M : zM) : Prop := (zHasC 32 75 s0 M 34 1) ∧ ((p34_0 n s0 s1 M) ∧ (p32_64 n q7 l0 l1 l2 (b34_0 n s0 s1 M)))
theorem s32_61 (n : Nat) (k7 : Nat → Int32 → Int32 → zM → zM) (q7 : Nat → Int32 → Int32 → zM → Prop) (h7 : ∀ (l0 : Nat) (l1 : Int32) (l2 : Int32) (M : zM), q7 l0 l1 l2 M → ∀ {Q : Option Value → zM → Prop}, (∀ r M1, zRV (k7 l0 l1 l2 M) r M1 → Q r M1) → zWP 32 7 [some (.ref l0), some (.int l1), some (.int l2), none] [] M Q) (l0 : Nat) (l1 : Int32) (l2 : Int32) (s0 : Nat) (s1 : Int32) (M : zM) (hp : p32_61 n q7 l0 l1 l2 s0 s1 M) {Q : Option Value → zM → Prop} (hQ : ∀ r M1, zRV (b32_61 n k7 l0 l1 l2 s0 s1 M) r M1 → Q r M1) : zWP 32 61 [some (.ref l0), some (.int l1), some (.int l2), none] [.int s1, .ref s0] M Q := by
  unfold b32_61 at hQ
  unfold p32_61 at hp
  obtain ⟨hv, hp⟩ := hp
  obtain ⟨hc, hp⟩ := hp
  refine wp_callv (M1 := (b34_0 n s0 s1 M)) rfl rfl rfl (zInv_v (np := 1) rfl rfl hv rfl) (s34_0 n s0 s1 M hc (fun r M1 h => h)) ?_
  exact s32_64 n k7 q7 h7 l0 l1 l2 (b34_0 n s0 s1 M) hp hQ
def b32_32 (n : Nat) (k7 : Nat → Int32 → Int32 → zM → zM) (l0 : Nat) (l1 : Int32) (l2 : Int32) (s0 : Int32) (M : zM) : zM := (if l1 < (zI M (zQ M l0 1) l2.toNatClampNeg) then b32_67 n k7 l0 l1 l2 s0 M else (if (zI M (zQ M l0 1) s0.toNatClampNeg) ≤ l1 then b32_67 n k7 l0 l1 l2 s0 M else b32_61 n k7 l0 l1 l2 l0 (b33_0 n l0 l2 s0 l1 M).1 (b33_0 n l0 l2 s0 l1 M).2))
def p32_32 (n : Nat) (q7 : Nat → Int32 → Int32 → zM → Prop) (l0 : Nat) (l1 : Int32) (l2 : Int32) (s0 : Int32) (M : zM) : Prop := (zHasQ 4 15 l0 M 1) ∧ ((zOkI (zQ M l0 1) l2 M) ∧ (((l1 < (zI M (zQ M l0 1) l2.toNatClampNeg) → p32_67 n q7 l0 l1 l2 s0 M) ∧ (¬ l1 < (zI M (zQ M l0 1) l2.toNatClampNeg) → (zHasQ 4 15 l0 M 1) ∧ ((zOkI (zQ M l0 1) s0 M) ∧ ((((zI M (zQ M l0 1) s0.toNatClampNeg) ≤ l1 → p32_67 n q7 l0 l1 l2 s0 M) ∧ (¬ (zI M (zQ M l0 1) s0.toNatClampNeg) ≤ l1 → (zHasC 32 71 l0 M 33 3) ∧ ((p33_0 n l0 l2 s0 l1 M) ∧ (p32_61 n q7 l0 l1 l2 l0 (b33_0 n l0 l2 s0 l1 M).1 (b33_0 n l0 l2 s0 l1 M).2))))))))))
theorem s32_32 (n : Nat) (k7 : Nat → Int32 → Int32 → zM → zM) (q7 : Nat → Int32 → Int32 → zM → Prop) (h7 : ∀ (l0 : Nat) (l1 : Int32) (l2 : Int32) (M : zM), q7 l0 l1 l2 M → ∀ {Q : Option Value → zM → Prop}, (∀ r M1, zRV (k7 l0 l1 l2 M) r M1 → Q r M1) → zWP 32 7 [some (.ref l0), some (.int l1), some (.int l2), none] [] M Q) (l0 : Nat) (l1 : Int32) (l2 : Int32) (s0 : Int32) (M : zM) (hp : p32_32 n q7 l0 l1 l2 s0 M) {Q : Option Value → zM → Prop} (hQ : ∀ r M1, zRV (b32_32 n k7 l0 l1 l2 s0 M) r M1 → Q r M1) : zWP 32 32 [some (.ref l0), some (.int l1), some (.int l2), none] [.int s0] M Q := by
  unfold b32_32 at hQ
  unfold p32_32 at hp
  refine wp_go 2 (pc' := 34) (L' := [some (.ref l0), some (.int l1), some (.int l2), some (.int s0)]) (st' := [.ref l0]) (M' := M) rfl ?_
  obtain ⟨hc, hp⟩ := hp
  refine wq_getQ (j := 1) rfl hc ?_
  refine wp_go 1 (pc' := 38) (L' := [some (.ref l0), some (.int l1), some (.int l2), some (.int s0)]) (st' := [.int l2, .ref (zQ M l0 1)]) (M' := M) rfl ?_
  obtain ⟨hc, hp⟩ := hp
  refine wq_iald rfl hc ?_
  refine wp_go 1 (pc' := 40) (L' := [some (.ref l0), some (.int l1), some (.int l2), some (.int s0)]) (st' := [.int l1, .int (zI M (zQ M l0 1) l2.toNatClampNeg)]) (M' := M) rfl ?_
  refine wp_ic_gt (t := 67) rfl rfl (fun hc => ?_) (fun hc => ?_)
  · rw [if_pos hc] at hQ
    replace hp := hp.1 hc
    exact s32_67 n k7 q7 h7 l0 l1 l2 s0 M hp hQ
  · rw [if_neg hc] at hQ
    replace hp := hp.2 hc
    refine wp_go 2 (pc' := 45) (L' := [some (.ref l0), some (.int l1), some (.int l2), some (.int s0)]) (st' := [.ref l0, .int l1]) (M' := M) rfl ?_
    obtain ⟨hc, hp⟩ := hp
    refine wq_getQ (j := 1) rfl hc ?_
    refine wp_go 1 (pc' := 49) (L' := [some (.ref l0), some (.int l1), some (.int l2), some (.int s0)]) (st' := [.int s0, .ref (zQ M l0 1), .int l1]) (M' := M) rfl ?_
    obtain ⟨hc, hp⟩ := hp
    refine wq_iald rfl hc ?_
    refine wp_ic_ge (t := 67) rfl rfl (fun hc => ?_) (fun hc => ?_)
    · rw [if_pos hc] at hQ
      replace hp := hp.1 hc
      exact s32_67 n k7 q7 h7 l0 l1 l2 s0 M hp hQ
    · rw [if_neg hc] at hQ
      replace hp := hp.2 hc
      refine wp_go 5 (pc' := 58) (L' := [some (.ref l0), some (.int l1), some (.int l2), some (.int s0)]) (st' := [.int l1, .int s0, .int l2, .ref l0, .ref l0]) (M' := M) rfl ?_
      obtain ⟨hv, hp⟩ := hp
      obtain ⟨hc, hp⟩ := hp
      refine wp_calli (v := (b33_0 n l0 l2 s0 l1 M).1) (M1 := (b33_0 n l0 l2 s0 l1 M).2) rfl rfl rfl (zInv_v (np := 3) rfl rfl hv rfl) (s33_0 n l0 l2 s0 l1 M hc (fun r M1 h => h)) ?_
      refine wp_le [some (.ref l0), some (.int l1), some (.int l2), none] (zLe_of (by simp [zLeB])) ?_
      exact s32_61 n k7 q7 h7 l0 l1 l2 l0 (b33_0 n l0 l2 s0 l1 M).1 (b33_0 n l0 l2 s0 l1 M).2 hp hQ
def c32_7 (n : Nat) (k7 : Nat → Int32 → Int32 → zM → zM) (l0 : Nat) (l1 : Int32) (l2 : Int32) (M : zM) : zM := (if (zI M l0 3) ≤ l2 then M else (if (zI M l0 3) ≤ (l2 + (1 : Int32)) then b32_32 n k7 l0 l1 l2 (0 : Int32) M else b32_32 n k7 l0 l1 l2 (l2 + (1 : Int32)) M))
def d32_7 (n : Nat) (q7 : Nat → Int32 → Int32 → zM → Prop) (l0 : Nat) (l1 : Int32) (l2 : Int32) (M : zM) : Prop := (zHasI 4 21 l0 M 3) ∧ ((((zI M l0 3) ≤ l2 → True) ∧ (¬ (zI M l0 3) ≤ l2 → (zHasI 4 21 l0 M 3) ∧ ((((zI M l0 3) ≤ (l2 + (1 : Int32)) → p32_32 n q7 l0 l1 l2 (0 : Int32) M) ∧ (¬ (zI M l0 3) ≤ (l2 + (1 : Int32)) → p32_32 n q7 l0 l1 l2 (l2 + (1 : Int32)) M))))))
theorem t32_7 (n : Nat) (k7 : Nat → Int32 → Int32 → zM → zM) (q7 : Nat → Int32 → Int32 → zM → Prop) (h7 : ∀ (l0 : Nat) (l1 : Int32) (l2 : Int32) (M : zM), q7 l0 l1 l2 M → ∀ {Q : Option Value → zM → Prop}, (∀ r M1, zRV (k7 l0 l1 l2 M) r M1 → Q r M1) → zWP 32 7 [some (.ref l0), some (.int l1), some (.int l2), none] [] M Q) (l0 : Nat) (l1 : Int32) (l2 : Int32) (M : zM) (hp : d32_7 n q7 l0 l1 l2 M) {Q : Option Value → zM → Prop} (hQ : ∀ r M1, zRV (c32_7 n k7 l0 l1 l2 M) r M1 → Q r M1) : zWP 32 7 [some (.ref l0), some (.int l1), some (.int l2), none] [] M Q := by
  unfold c32_7 at hQ
  unfold d32_7 at hp
  refine wp_go 2 (pc' := 9) (L' := [some (.ref l0), some (.int l1), some (.int l2), none]) (st' := [.ref l0, .int l2]) (M' := M) rfl ?_
  obtain ⟨hc, hp⟩ := hp
  refine wq_getI (j := 3) rfl hc ?_
  refine wp_ic_ge (t := 104) rfl rfl (fun hc => ?_) (fun hc => ?_)
  · rw [if_pos hc] at hQ
    replace hp := hp.1 hc
    exact wp_ret (r := none) rfl rfl (hQ _ _ ⟨rfl, rfl⟩)
  · rw [if_neg hc] at hQ
    replace hp := hp.2 hc
    refine wp_go 4 (pc' := 19) (L' := [some (.ref l0), some (.int l1), some (.int l2), none]) (st' := [.ref l0, .int (l2 + (1 : Int32))]) (M' := M) rfl ?_
    obtain ⟨hc, hp⟩ := hp
    refine wq_getI (j := 3) rfl hc ?_
    refine wp_ic_ge (t := 31) rfl rfl (fun hc => ?_) (fun hc => ?_)
    · rw [if_pos hc] at hQ
      replace hp := hp.1 hc
      refine wp_go 1 (pc' := 32) (L' := [some (.ref l0), some (.int l1), some (.int l2), none]) (st' := [.int (0 : Int32)]) (M' := M) rfl ?_
      exact s32_32 n k7 q7 h7 l0 l1 l2 (0 : Int32) M hp hQ
    · rw [if_neg hc] at hQ
      replace hp := hp.2 hc
      refine wp_go 4 (pc' := 32) (L' := [some (.ref l0), some (.int l1), some (.int l2), none]) (st' := [.int (l2 + (1 : Int32))]) (M' := M) rfl ?_
      exact s32_32 n k7 q7 h7 l0 l1 l2 (l2 + (1 : Int32)) M hp hQ
def b32_7 (n : Nat)  : Nat → Nat → Int32 → Int32 → zM → zM
  | 0, _, _, _, M => M
  | k + 1, l0, l1, l2, M => c32_7 n  (b32_7 n  k) l0 l1 l2 M
def p32_7 (n : Nat)  : Nat → Nat → Int32 → Int32 → zM → Prop
  | 0, _, _, _, _ => False
  | k + 1, l0, l1, l2, M => d32_7 n  (p32_7 n  k) l0 l1 l2 M
theorem s32_7 (n : Nat)    : ∀ (k : Nat) (l0 : Nat) (l1 : Int32) (l2 : Int32) (M : zM), p32_7 n  k l0 l1 l2 M → ∀ {Q : Option Value → zM → Prop}, (∀ r M1, zRV (b32_7 n  k l0 l1 l2 M) r M1 → Q r M1) → zWP 32 7 [some (.ref l0), some (.int l1), some (.int l2), none] [] M Q
  | 0, _, _, _, _, h, _, _ => h.elim
  | k + 1, l0, l1, l2, M, h, _, hQ => t32_7 n  (b32_7 n  k)  (p32_7 n  k)  (s32_7 n    k) l0 l1 l2 M h hQ
def b32_5 (n : Nat)  (l0 : Nat) (l1 : Int32) (M : zM) : zM := b32_7 n  n l0 l1 (0 : Int32) M
def p32_5 (n : Nat)  (l0 : Nat) (l1 : Int32) (M : zM) : Prop := p32_7 n  n l0 l1 (0 : Int32) M
theorem s32_5 (n : Nat)    (l0 : Nat) (l1 : Int32) (M : zM) (hp : p32_5 n  l0 l1 M) {Q : Option Value → zM → Prop} (hQ : ∀ r M1, zRV (b32_5 n  l0 l1 M) r M1 → Q r M1) : zWP 32 5 [some (.ref l0), some (.int l1), none, none] [] M Q := by
  unfold b32_5 at hQ
  unfold p32_5 at hp
  refine wp_go 2 (pc' := 7) (L' := [some (.ref l0), some (.int l1), some (.int (0 : Int32)), none]) (st' := []) (M' := M) rfl ?_
  exact s32_7 n    n l0 l1 (0 : Int32) M hp hQ
def b32_0 (n : Nat)  (l0 : Nat) (l1 : Int32) (M : zM) : zM := b32_5 n  l0 l1 (zWI M l0 4 (0 : Int32))
def p32_0 (n : Nat)  (l0 : Nat) (l1 : Int32) (M : zM) : Prop := (zPutI 32 25 l0 M 4 (0 : Int32)) ∧ (p32_5 n  l0 l1 (zWI M l0 4 (0 : Int32)))
theorem s32_0 (n : Nat)    (l0 : Nat) (l1 : Int32) (M : zM) (hp : p32_0 n  l0 l1 M) {Q : Option Value → zM → Prop} (hQ : ∀ r M1, zRV (b32_0 n  l0 l1 M) r M1 → Q r M1) : zWP 32 0 [some (.ref l0), some (.int l1), none, none] [] M Q := by
  unfold b32_0 at hQ
  unfold p32_0 at hp
  refine wp_go 2 (pc' := 2) (L' := [some (.ref l0), some (.int l1), none, none]) (st' := [.int (0 : Int32), .ref l0]) (M' := M) rfl ?_
  obtain ⟨hc, hp⟩ := hp
  refine wq_putI (j := 4) rfl hc ?_
  exact s32_5 n    l0 l1 (zWI M l0 4 (0 : Int32)) hp hQ
/-! J9_floorDiv_7cf53 -/
def b187_21 (n : Nat)  (l2 : Int32) (M : zM) : Int32 × zM := (l2, M)
def p187_21 (n : Nat)  (l2 : Int32) (M : zM) : Prop := True
theorem s187_21 (n : Nat)    (l2 : Int32) (M : zM) (hp : p187_21 n  l2 M) {Q : Option Value → zM → Prop} (hQ : ∀ r M1, zRI (b187_21 n  l2 M) r M1 → Q r M1) : zWP 187 21 [none, none, some (.int l2)] [] M Q := by
  unfold b187_21 at hQ
  unfold p187_21 at hp
  refine wp_go 1 (pc' := 22) (L' := [none, none, some (.int l2)]) (st' := [.int l2]) (M' := M) rfl ?_
  exact wp_ret (r := some (.int l2)) rfl rfl (hQ _ _ ⟨rfl, rfl⟩)
def b187_0 (n : Nat)  (l0 : Int32) (l1 : Int32) (M : zM) : Int32 × zM := (if 0 ≤ (l0 ^^^ l1) then b187_21 n  (l0 / l1) M else (if ((l0 / l1) * l1) = l0 then b187_21 n  (l0 / l1) M else (((l0 / l1) - (1 : Int32)), M)))
def p187_0 (n : Nat)  (l0 : Int32) (l1 : Int32) (M : zM) : Prop := (¬ l1 = 0) ∧ (((0 ≤ (l0 ^^^ l1) → p187_21 n  (l0 / l1) M) ∧ (¬ 0 ≤ (l0 ^^^ l1) → ((((l0 / l1) * l1) = l0 → p187_21 n  (l0 / l1) M) ∧ (¬ ((l0 / l1) * l1) = l0 → True)))))
theorem s187_0 (n : Nat)    (l0 : Int32) (l1 : Int32) (M : zM) (hp : p187_0 n  l0 l1 M) {Q : Option Value → zM → Prop} (hQ : ∀ r M1, zRI (b187_0 n  l0 l1 M) r M1 → Q r M1) : zWP 187 0 [some (.int l0), some (.int l1), none] [] M Q := by
  unfold b187_0 at hQ
  unfold p187_0 at hp
  refine wp_go 2 (pc' := 2) (L' := [some (.int l0), some (.int l1), none]) (st' := [.int l1, .int l0]) (M' := M) rfl ?_
  obtain ⟨hc, hp⟩ := hp
  refine wq_idiv rfl hc ?_
  refine wp_go 4 (pc' := 7) (L' := [some (.int l0), some (.int l1), some (.int (l0 / l1))]) (st' := [.int (l0 ^^^ l1)]) (M' := M) rfl ?_
  refine wp_if_ge (t := 21) rfl rfl (fun hc => ?_) (fun hc => ?_)
  · rw [if_pos hc] at hQ
    replace hp := hp.1 hc
    refine wp_le [none, none, some (.int (l0 / l1))] (zLe_of (by simp [zLeB])) ?_
    exact s187_21 n    (l0 / l1) M hp hQ
  · rw [if_neg hc] at hQ
    replace hp := hp.2 hc
    refine wp_go 4 (pc' := 14) (L' := [some (.int l0), some (.int l1), some (.int (l0 / l1))]) (st' := [.int l0, .int ((l0 / l1) * l1)]) (M' := M) rfl ?_
    refine wp_ic_eq (t := 21) rfl rfl (fun hc => ?_) (fun hc => ?_)
    · rw [if_pos hc] at hQ
      replace hp := hp.1 hc
      refine wp_le [none, none, some (.int (l0 / l1))] (zLe_of (by simp [zLeB])) ?_
      exact s187_21 n    (l0 / l1) M hp hQ
    · rw [if_neg hc] at hQ
      replace hp := hp.2 hc
      refine wp_go 3 (pc' := 20) (L' := [some (.int l0), some (.int l1), some (.int (l0 / l1))]) (st' := [.int ((l0 / l1) - (1 : Int32))]) (M' := M) rfl ?_
      exact wp_ret (r := some (.int ((l0 / l1) - (1 : Int32)))) rfl rfl (hQ _ _ ⟨rfl, rfl⟩)
/-! X5_pointsSharedWith -/
def b30_22 (n : Nat)   (M : zM) : Int32 × zM := ((0 : Int32), M)
def p30_22 (n : Nat)   (M : zM) : Prop := True
theorem s30_22 (n : Nat)     (M : zM) (hp : p30_22 n   M) {Q : Option Value → zM → Prop} (hQ : ∀ r M1, zRI (b30_22 n   M) r M1 → Q r M1) : zWP 30 22 [none, none, none, none, none, none] [] M Q := by
  unfold b30_22 at hQ
  unfold p30_22 at hp
  refine wp_go 1 (pc' := 23) (L' := [none, none, none, none, none, none]) (st' := [.int (0 : Int32)]) (M' := M) rfl ?_
  exact wp_ret (r := some (.int (0 : Int32))) rfl rfl (hQ _ _ ⟨rfl, rfl⟩)
def b30_107 (n : Nat) (k66 : Nat → Nat → Int32 → Int32 → Int32 → zM → Int32 × zM) (l0 : Nat) (l1 : Nat) (l3 : Int32) (l5 : Int32) (s0 : Int32) (s1 : Int32) (M : zM) : Int32 × zM := k66 l0 l1 l3 (s0 + s1) (l5 + Int32.ofInt 1) M
def p30_107 (n : Nat) (q66 : Nat → Nat → Int32 → Int32 → Int32 → zM → Prop) (l0 : Nat) (l1 : Nat) (l3 : Int32) (l5 : Int32) (s0 : Int32) (s1 : Int32) (M : zM) : Prop := q66 l0 l1 l3 (s0 + s1) (l5 + Int32.ofInt 1) M
theorem s30_107 (n : Nat) (k66 : Nat → Nat → Int32 → Int32 → Int32 → zM → Int32 × zM) (q66 : Nat → Nat → Int32 → Int32 → Int32 → zM → Prop) (h66 : ∀ (l0 : Nat) (l1 : Nat) (l3 : Int32) (l4 : Int32) (l5 : Int32) (M : zM), q66 l0 l1 l3 l4 l5 M → ∀ {Q : Option Value → zM → Prop}, (∀ r M1, zRI (k66 l0 l1 l3 l4 l5 M) r M1 → Q r M1) → zWP 30 66 [some (.ref l0), some (.ref l1), none, some (.int l3), some (.int l4), some (.int l5)] [] M Q) (l0 : Nat) (l1 : Nat) (l3 : Int32) (l5 : Int32) (s0 : Int32) (s1 : Int32) (M : zM) (hp : p30_107 n q66 l0 l1 l3 l5 s0 s1 M) {Q : Option Value → zM → Prop} (hQ : ∀ r M1, zRI (b30_107 n k66 l0 l1 l3 l5 s0 s1 M) r M1 → Q r M1) : zWP 30 107 [some (.ref l0), some (.ref l1), none, some (.int l3), none, some (.int l5)] [.int s1, .int s0] M Q := by
  unfold b30_107 at hQ
  unfold p30_107 at hp
  refine wp_go 4 (pc' := 66) (L' := [some (.ref l0), some (.ref l1), none, some (.int l3), some (.int (s0 + s1)), some (.int (l5 + Int32.ofInt 1))]) (st' := []) (M' := M) rfl ?_
  exact h66 l0 l1 l3 (s0 + s1) (l5 + Int32.ofInt 1) M hp hQ
def b30_100 (n : Nat) (k66 : Nat → Nat → Int32 → Int32 → Int32 → zM → Int32 × zM) (l0 : Nat) (l1 : Nat) (l3 : Int32) (l4 : Int32) (l5 : Int32) (M : zM) : Int32 × zM := b30_107 n k66 l0 l1 l3 l5 l4 (b31_0 n l0 l1 M).1 (b31_0 n l0 l1 M).2
def p30_100 (n : Nat) (q66 : Nat → Nat → Int32 → Int32 → Int32 → zM → Prop) (l0 : Nat) (l1 : Nat) (l3 : Int32) (l4 : Int32) (l5 : Int32) (M : zM) : Prop := (zHasC 30 67 l0 M 31 1) ∧ ((p31_0 n l0 l1 M) ∧ (p30_107 n q66 l0 l1 l3 l5 l4 (b31_0 n l0 l1 M).1 (b31_0 n l0 l1 M).2))
theorem s30_100 (n : Nat) (k66 : Nat → Nat → Int32 → Int32 → Int32 → zM → Int32 × zM) (q66 : Nat → Nat → Int32 → Int32 → Int32 → zM → Prop) (h66 : ∀ (l0 : Nat) (l1 : Nat) (l3 : Int32) (l4 : Int32) (l5 : Int32) (M : zM), q66 l0 l1 l3 l4 l5 M → ∀ {Q : Option Value → zM → Prop}, (∀ r M1, zRI (k66 l0 l1 l3 l4 l5 M) r M1 → Q r M1) → zWP 30 66 [some (.ref l0), some (.ref l1), none, some (.int l3), some (.int l4), some (.int l5)] [] M Q) (l0 : Nat) (l1 : Nat) (l3 : Int32) (l4 : Int32) (l5 : Int32) (M : zM) (hp : p30_100 n q66 l0 l1 l3 l4 l5 M) {Q : Option Value → zM → Prop} (hQ : ∀ r M1, zRI (b30_100 n k66 l0 l1 l3 l4 l5 M) r M1 → Q r M1) : zWP 30 100 [some (.ref l0), some (.ref l1), none, some (.int l3), some (.int l4), some (.int l5)] [] M Q := by
  unfold b30_100 at hQ
  unfold p30_100 at hp
  refine wp_go 3 (pc' := 104) (L' := [some (.ref l0), some (.ref l1), none, some (.int l3), some (.int l4), some (.int l5)]) (st' := [.ref l1, .ref l0, .int l4]) (M' := M) rfl ?_
  obtain ⟨hv, hp⟩ := hp
  obtain ⟨hc, hp⟩ := hp
  refine wp_calli (v := (b31_0 n l0 l1 M).1) (M1 := (b31_0 n l0 l1 M).2) rfl rfl rfl (zInv_v (np := 1) rfl rfl hv rfl) (s31_0 n l0 l1 M hc (fun r M1 h => h)) ?_
  refine wp_le [some (.ref l0), some (.ref l1), none, some (.int l3), none, some (.int l5)] (zLe_of (by simp [zLeB])) ?_
  exact s30_107 n k66 q66 h66 l0 l1 l3 l5 l4 (b31_0 n l0 l1 M).1 (b31_0 n l0 l1 M).2 hp hQ
def b30_86 (n : Nat) (k66 : Nat → Nat → Int32 → Int32 → Int32 → zM → Int32 × zM) (l0 : Nat) (l1 : Nat) (l3 : Int32) (l4 : Int32) (l5 : Int32) (M : zM) : Int32 × zM := b30_100 n k66 l0 l1 l3 l4 l5 (b32_0 n l1 ((l5 * (1000 : Int32)) + (500 : Int32)) M)
def p30_86 (n : Nat) (q66 : Nat → Nat → Int32 → Int32 → Int32 → zM → Prop) (l0 : Nat) (l1 : Nat) (l3 : Int32) (l4 : Int32) (l5 : Int32) (M : zM) : Prop := (zHasC 30 63 l1 M 32 1) ∧ ((p32_0 n l1 ((l5 * (1000 : Int32)) + (500 : Int32)) M) ∧ (p30_100 n q66 l0 l1 l3 l4 l5 (b32_0 n l1 ((l5 * (1000 : Int32)) + (500 : Int32)) M)))
theorem s30_86 (n : Nat) (k66 : Nat → Nat → Int32 → Int32 → Int32 → zM → Int32 × zM) (q66 : Nat → Nat → Int32 → Int32 → Int32 → zM → Prop) (h66 : ∀ (l0 : Nat) (l1 : Nat) (l3 : Int32) (l4 : Int32) (l5 : Int32) (M : zM), q66 l0 l1 l3 l4 l5 M → ∀ {Q : Option Value → zM → Prop}, (∀ r M1, zRI (k66 l0 l1 l3 l4 l5 M) r M1 → Q r M1) → zWP 30 66 [some (.ref l0), some (.ref l1), none, some (.int l3), some (.int l4), some (.int l5)] [] M Q) (l0 : Nat) (l1 : Nat) (l3 : Int32) (l4 : Int32) (l5 : Int32) (M : zM) (hp : p30_86 n q66 l0 l1 l3 l4 l5 M) {Q : Option Value → zM → Prop} (hQ : ∀ r M1, zRI (b30_86 n k66 l0 l1 l3 l4 l5 M) r M1 → Q r M1) : zWP 30 86 [some (.ref l0), some (.ref l1), none, some (.int l3), some (.int l4), some (.int l5)] [] M Q := by
  unfold b30_86 at hQ
  unfold p30_86 at hp
  refine wp_go 5 (pc' := 96) (L' := [some (.ref l0), some (.ref l1), none, some (.int l3), some (.int l4), some (.int l5)]) (st' := [.int (500 : Int32), .int (l5 * (1000 : Int32)), .ref l1]) (M' := M) rfl ?_
  refine wp_go 1 (pc' := 97) (L' := [some (.ref l0), some (.ref l1), none, some (.int l3), some (.int l4), some (.int l5)]) (st' := [.int ((l5 * (1000 : Int32)) + (500 : Int32)), .ref l1]) (M' := M) rfl ?_
  obtain ⟨hv, hp⟩ := hp
  obtain ⟨hc, hp⟩ := hp
  refine wp_callv (M1 := (b32_0 n l1 ((l5 * (1000 : Int32)) + (500 : Int32)) M)) rfl rfl rfl (zInv_v (np := 1) rfl rfl hv rfl) (s32_0 n l1 ((l5 * (1000 : Int32)) + (500 : Int32)) M hc (fun r M1 h => h)) ?_
  exact s30_100 n k66 q66 h66 l0 l1 l3 l4 l5 (b32_0 n l1 ((l5 * (1000 : Int32)) + (500 : Int32)) M) hp hQ
def c30_66 (n : Nat) (k66 : Nat → Nat → Int32 → Int32 → Int32 → zM → Int32 × zM) (l0 : Nat) (l1 : Nat) (l3 : Int32) (l4 : Int32) (l5 : Int32) (M : zM) : Int32 × zM := (if l3 < l5 then (l4, M) else b30_86 n k66 l0 l1 l3 l4 l5 (b32_0 n l0 ((l5 * (1000 : Int32)) + (500 : Int32)) M))
def d30_66 (n : Nat) (q66 : Nat → Nat → Int32 → Int32 → Int32 → zM → Prop) (l0 : Nat) (l1 : Nat) (l3 : Int32) (l4 : Int32) (l5 : Int32) (M : zM) : Prop := ((l3 < l5 → True) ∧ (¬ l3 < l5 → (zHasC 30 63 l0 M 32 1) ∧ ((p32_0 n l0 ((l5 * (1000 : Int32)) + (500 : Int32)) M) ∧ (p30_86 n q66 l0 l1 l3 l4 l5 (b32_0 n l0 ((l5 * (1000 : Int32)) + (500 : Int32)) M)))))
theorem t30_66 (n : Nat) (k66 : Nat → Nat → Int32 → Int32 → Int32 → zM → Int32 × zM) (q66 : Nat → Nat → Int32 → Int32 → Int32 → zM → Prop) (h66 : ∀ (l0 : Nat) (l1 : Nat) (l3 : Int32) (l4 : Int32) (l5 : Int32) (M : zM), q66 l0 l1 l3 l4 l5 M → ∀ {Q : Option Value → zM → Prop}, (∀ r M1, zRI (k66 l0 l1 l3 l4 l5 M) r M1 → Q r M1) → zWP 30 66 [some (.ref l0), some (.ref l1), none, some (.int l3), some (.int l4), some (.int l5)] [] M Q) (l0 : Nat) (l1 : Nat) (l3 : Int32) (l4 : Int32) (l5 : Int32) (M : zM) (hp : d30_66 n q66 l0 l1 l3 l4 l5 M) {Q : Option Value → zM → Prop} (hQ : ∀ r M1, zRI (c30_66 n k66 l0 l1 l3 l4 l5 M) r M1 → Q r M1) : zWP 30 66 [some (.ref l0), some (.ref l1), none, some (.int l3), some (.int l4), some (.int l5)] [] M Q := by
  unfold c30_66 at hQ
  unfold d30_66 at hp
  refine wp_go 2 (pc' := 69) (L' := [some (.ref l0), some (.ref l1), none, some (.int l3), some (.int l4), some (.int l5)]) (st' := [.int l3, .int l5]) (M' := M) rfl ?_
  refine wp_ic_gt (t := 116) rfl rfl (fun hc => ?_) (fun hc => ?_)
  · rw [if_pos hc] at hQ
    replace hp := hp.1 hc
    refine wp_go 1 (pc' := 118) (L' := [some (.ref l0), some (.ref l1), none, some (.int l3), some (.int l4), some (.int l5)]) (st' := [.int l4]) (M' := M) rfl ?_
    exact wp_ret (r := some (.int l4)) rfl rfl (hQ _ _ ⟨rfl, rfl⟩)
  · rw [if_neg hc] at hQ
    replace hp := hp.2 hc
    refine wp_go 5 (pc' := 82) (L' := [some (.ref l0), some (.ref l1), none, some (.int l3), some (.int l4), some (.int l5)]) (st' := [.int (500 : Int32), .int (l5 * (1000 : Int32)), .ref l0]) (M' := M) rfl ?_
    refine wp_go 1 (pc' := 83) (L' := [some (.ref l0), some (.ref l1), none, some (.int l3), some (.int l4), some (.int l5)]) (st' := [.int ((l5 * (1000 : Int32)) + (500 : Int32)), .ref l0]) (M' := M) rfl ?_
    obtain ⟨hv, hp⟩ := hp
    obtain ⟨hc, hp⟩ := hp
    refine wp_callv (M1 := (b32_0 n l0 ((l5 * (1000 : Int32)) + (500 : Int32)) M)) rfl rfl rfl (zInv_v (np := 1) rfl rfl hv rfl) (s32_0 n l0 ((l5 * (1000 : Int32)) + (500 : Int32)) M hc (fun r M1 h => h)) ?_
    exact s30_86 n k66 q66 h66 l0 l1 l3 l4 l5 (b32_0 n l0 ((l5 * (1000 : Int32)) + (500 : Int32)) M) hp hQ
def b30_66 (n : Nat)  : Nat → Nat → Nat → Int32 → Int32 → Int32 → zM → Int32 × zM
  | 0, _, _, _, _, _, M => (0, M)
  | k + 1, l0, l1, l3, l4, l5, M => c30_66 n  (b30_66 n  k) l0 l1 l3 l4 l5 M
def p30_66 (n : Nat)  : Nat → Nat → Nat → Int32 → Int32 → Int32 → zM → Prop
  | 0, _, _, _, _, _, _ => False
  | k + 1, l0, l1, l3, l4, l5, M => d30_66 n  (p30_66 n  k) l0 l1 l3 l4 l5 M
theorem s30_66 (n : Nat)    : ∀ (k : Nat) (l0 : Nat) (l1 : Nat) (l3 : Int32) (l4 : Int32) (l5 : Int32) (M : zM), p30_66 n  k l0 l1 l3 l4 l5 M → ∀ {Q : Option Value → zM → Prop}, (∀ r M1, zRI (b30_66 n  k l0 l1 l3 l4 l5 M) r M1 → Q r M1) → zWP 30 66 [some (.ref l0), some (.ref l1), none, some (.int l3), some (.int l4), some (.int l5)] [] M Q
  | 0, _, _, _, _, _, _, h, _, _ => h.elim
  | k + 1, l0, l1, l3, l4, l5, M, h, _, hQ => t30_66 n  (b30_66 n  k)  (p30_66 n  k)  (s30_66 n    k) l0 l1 l3 l4 l5 M h hQ
def b30_59 (n : Nat)  (l0 : Nat) (l1 : Nat) (l2 : Int32) (s0 : Int32) (M : zM) : Int32 × zM := b30_66 n  n l0 l1 s0 (0 : Int32) l2 M
def p30_59 (n : Nat)  (l0 : Nat) (l1 : Nat) (l2 : Int32) (s0 : Int32) (M : zM) : Prop := p30_66 n  n l0 l1 s0 (0 : Int32) l2 M
theorem s30_59 (n : Nat)    (l0 : Nat) (l1 : Nat) (l2 : Int32) (s0 : Int32) (M : zM) (hp : p30_59 n  l0 l1 l2 s0 M) {Q : Option Value → zM → Prop} (hQ : ∀ r M1, zRI (b30_59 n  l0 l1 l2 s0 M) r M1 → Q r M1) : zWP 30 59 [some (.ref l0), some (.ref l1), some (.int l2), none, none, none] [.int s0] M Q := by
  unfold b30_59 at hQ
  unfold p30_59 at hp
  refine wp_go 5 (pc' := 66) (L' := [some (.ref l0), some (.ref l1), some (.int l2), some (.int s0), some (.int (0 : Int32)), some (.int l2)]) (st' := []) (M' := M) rfl ?_
  refine wp_le [some (.ref l0), some (.ref l1), none, some (.int s0), some (.int (0 : Int32)), some (.int l2)] (zLe_of (by simp [zLeB])) ?_
  exact s30_66 n    n l0 l1 s0 (0 : Int32) l2 M hp hQ
def b30_53 (n : Nat)  (l0 : Nat) (l1 : Nat) (l2 : Int32) (s0 : Int32) (M : zM) : Int32 × zM := b30_59 n  l0 l1 l2 (b187_0 n s0 (1000 : Int32) M).1 (b187_0 n s0 (1000 : Int32) M).2
def p30_53 (n : Nat)  (l0 : Nat) (l1 : Nat) (l2 : Int32) (s0 : Int32) (M : zM) : Prop := (p187_0 n s0 (1000 : Int32) M) ∧ (p30_59 n  l0 l1 l2 (b187_0 n s0 (1000 : Int32) M).1 (b187_0 n s0 (1000 : Int32) M).2)
theorem s30_53 (n : Nat)    (l0 : Nat) (l1 : Nat) (l2 : Int32) (s0 : Int32) (M : zM) (hp : p30_53 n  l0 l1 l2 s0 M) {Q : Option Value → zM → Prop} (hQ : ∀ r M1, zRI (b30_53 n  l0 l1 l2 s0 M) r M1 → Q r M1) : zWP 30 53 [some (.ref l0), some (.ref l1), some (.int l2), none, none, none] [.int s0] M Q := by
  unfold b30_53 at hQ
  unfold p30_53 at hp
  refine wp_go 1 (pc' := 56) (L' := [some (.ref l0), some (.ref l1), some (.int l2), none, none, none]) (st' := [.int (1000 : Int32), .int s0]) (M' := M) rfl ?_
  obtain ⟨hc, hp⟩ := hp
  refine wp_calli (v := (b187_0 n s0 (1000 : Int32) M).1) (M1 := (b187_0 n s0 (1000 : Int32) M).2) rfl rfl rfl rfl (s187_0 n s0 (1000 : Int32) M hc (fun r M1 h => h)) ?_
  exact s30_59 n    l0 l1 l2 (b187_0 n s0 (1000 : Int32) M).1 (b187_0 n s0 (1000 : Int32) M).2 hp hQ
def b30_41 (n : Nat)  (l0 : Nat) (l1 : Nat) (s0 : Int32) (M : zM) : Int32 × zM := b30_53 n  l0 l1 s0 (b194_0 n (zI M l0 8) (zI M l1 8) M).1 (b194_0 n (zI M l0 8) (zI M l1 8) M).2
def p30_41 (n : Nat)  (l0 : Nat) (l1 : Nat) (s0 : Int32) (M : zM) : Prop := (zHasI 4 37 l0 M 8) ∧ ((zHasI 4 37 l1 M 8) ∧ ((p194_0 n (zI M l0 8) (zI M l1 8) M) ∧ (p30_53 n  l0 l1 s0 (b194_0 n (zI M l0 8) (zI M l1 8) M).1 (b194_0 n (zI M l0 8) (zI M l1 8) M).2)))
theorem s30_41 (n : Nat)    (l0 : Nat) (l1 : Nat) (s0 : Int32) (M : zM) (hp : p30_41 n  l0 l1 s0 M) {Q : Option Value → zM → Prop} (hQ : ∀ r M1, zRI (b30_41 n  l0 l1 s0 M) r M1 → Q r M1) : zWP 30 41 [some (.ref l0), some (.ref l1), none, none, none, none] [.int s0] M Q := by
  unfold b30_41 at hQ
  unfold p30_41 at hp
  refine wp_go 2 (pc' := 43) (L' := [some (.ref l0), some (.ref l1), some (.int s0), none, none, none]) (st' := [.ref l0]) (M' := M) rfl ?_
  obtain ⟨hc, hp⟩ := hp
  refine wq_getI (j := 8) rfl hc ?_
  refine wp_go 1 (pc' := 47) (L' := [some (.ref l0), some (.ref l1), some (.int s0), none, none, none]) (st' := [.ref l1, .int (zI M l0 8)]) (M' := M) rfl ?_
  obtain ⟨hc, hp⟩ := hp
  refine wq_getI (j := 8) rfl hc ?_
  obtain ⟨hc, hp⟩ := hp
  refine wp_calli (v := (b194_0 n (zI M l0 8) (zI M l1 8) M).1) (M1 := (b194_0 n (zI M l0 8) (zI M l1 8) M).2) rfl rfl rfl rfl (s194_0 n (zI M l0 8) (zI M l1 8) M hc (fun r M1 h => h)) ?_
  exact s30_53 n    l0 l1 s0 (b194_0 n (zI M l0 8) (zI M l1 8) M).1 (b194_0 n (zI M l0 8) (zI M l1 8) M).2 hp hQ
def b30_35 (n : Nat)  (l0 : Nat) (l1 : Nat) (s0 : Int32) (M : zM) : Int32 × zM := b30_41 n  l0 l1 (b187_0 n s0 (1000 : Int32) M).1 (b187_0 n s0 (1000 : Int32) M).2
def p30_35 (n : Nat)  (l0 : Nat) (l1 : Nat) (s0 : Int32) (M : zM) : Prop := (p187_0 n s0 (1000 : Int32) M) ∧ (p30_41 n  l0 l1 (b187_0 n s0 (1000 : Int32) M).1 (b187_0 n s0 (1000 : Int32) M).2)
theorem s30_35 (n : Nat)    (l0 : Nat) (l1 : Nat) (s0 : Int32) (M : zM) (hp : p30_35 n  l0 l1 s0 M) {Q : Option Value → zM → Prop} (hQ : ∀ r M1, zRI (b30_35 n  l0 l1 s0 M) r M1 → Q r M1) : zWP 30 35 [some (.ref l0), some (.ref l1), none, none, none, none] [.int s0] M Q := by
  unfold b30_35 at hQ
  unfold p30_35 at hp
  refine wp_go 1 (pc' := 38) (L' := [some (.ref l0), some (.ref l1), none, none, none, none]) (st' := [.int (1000 : Int32), .int s0]) (M' := M) rfl ?_
  obtain ⟨hc, hp⟩ := hp
  refine wp_calli (v := (b187_0 n s0 (1000 : Int32) M).1) (M1 := (b187_0 n s0 (1000 : Int32) M).2) rfl rfl rfl rfl (s187_0 n s0 (1000 : Int32) M hc (fun r M1 h => h)) ?_
  exact s30_41 n    l0 l1 (b187_0 n s0 (1000 : Int32) M).1 (b187_0 n s0 (1000 : Int32) M).2 hp hQ
def b30_0 (n : Nat)  (l0 : Nat) (l1 : Nat) (M : zM) : Int32 × zM := (if (zI M l0 6) < (zI M l1 5) then b30_22 n  M else (if (zI M l0 5) ≤ (zI M l1 6) then b30_35 n  l0 l1 (b192_0 n (zI M l0 7) (zI M l1 7) M).1 (b192_0 n (zI M l0 7) (zI M l1 7) M).2 else b30_22 n  M))
def p30_0 (n : Nat)  (l0 : Nat) (l1 : Nat) (M : zM) : Prop := (zHasI 4 31 l0 M 6) ∧ ((zHasI 4 28 l1 M 5) ∧ ((((zI M l0 6) < (zI M l1 5) → p30_22 n  M) ∧ (¬ (zI M l0 6) < (zI M l1 5) → (zHasI 4 31 l1 M 6) ∧ ((zHasI 4 28 l0 M 5) ∧ ((((zI M l0 5) ≤ (zI M l1 6) → (zHasI 4 34 l0 M 7) ∧ ((zHasI 4 34 l1 M 7) ∧ ((p192_0 n (zI M l0 7) (zI M l1 7) M) ∧ (p30_35 n  l0 l1 (b192_0 n (zI M l0 7) (zI M l1 7) M).1 (b192_0 n (zI M l0 7) (zI M l1 7) M).2)))) ∧ (¬ (zI M l0 5) ≤ (zI M l1 6) → p30_22 n  M))))))))
theorem s30_0 (n : Nat)    (l0 : Nat) (l1 : Nat) (M : zM) (hp : p30_0 n  l0 l1 M) {Q : Option Value → zM → Prop} (hQ : ∀ r M1, zRI (b30_0 n  l0 l1 M) r M1 → Q r M1) : zWP 30 0 [some (.ref l0), some (.ref l1), none, none, none, none] [] M Q := by
  unfold b30_0 at hQ
  unfold p30_0 at hp
  refine wp_go 1 (pc' := 1) (L' := [some (.ref l0), some (.ref l1), none, none, none, none]) (st' := [.ref l0]) (M' := M) rfl ?_
  obtain ⟨hc, hp⟩ := hp
  refine wq_getI (j := 6) rfl hc ?_
  refine wp_go 1 (pc' := 5) (L' := [some (.ref l0), some (.ref l1), none, none, none, none]) (st' := [.ref l1, .int (zI M l0 6)]) (M' := M) rfl ?_
  obtain ⟨hc, hp⟩ := hp
  refine wq_getI (j := 5) rfl hc ?_
  refine wp_ic_lt (t := 22) rfl rfl (fun hc => ?_) (fun hc => ?_)
  · rw [if_pos hc] at hQ
    replace hp := hp.1 hc
    refine wp_le [none, none, none, none, none, none] (zLe_of (by simp [zLeB])) ?_
    exact s30_22 n    M hp hQ
  · rw [if_neg hc] at hQ
    replace hp := hp.2 hc
    refine wp_go 1 (pc' := 12) (L' := [some (.ref l0), some (.ref l1), none, none, none, none]) (st' := [.ref l1]) (M' := M) rfl ?_
    obtain ⟨hc, hp⟩ := hp
    refine wq_getI (j := 6) rfl hc ?_
    refine wp_go 1 (pc' := 16) (L' := [some (.ref l0), some (.ref l1), none, none, none, none]) (st' := [.ref l0, .int (zI M l1 6)]) (M' := M) rfl ?_
    obtain ⟨hc, hp⟩ := hp
    refine wq_getI (j := 5) rfl hc ?_
    refine wp_ic_ge (t := 24) rfl rfl (fun hc => ?_) (fun hc => ?_)
    · rw [if_pos hc] at hQ
      replace hp := hp.1 hc
      refine wp_go 1 (pc' := 25) (L' := [some (.ref l0), some (.ref l1), none, none, none, none]) (st' := [.ref l0]) (M' := M) rfl ?_
      obtain ⟨hc, hp⟩ := hp
      refine wq_getI (j := 7) rfl hc ?_
      refine wp_go 1 (pc' := 29) (L' := [some (.ref l0), some (.ref l1), none, none, none, none]) (st' := [.ref l1, .int (zI M l0 7)]) (M' := M) rfl ?_
      obtain ⟨hc, hp⟩ := hp
      refine wq_getI (j := 7) rfl hc ?_
      obtain ⟨hc, hp⟩ := hp
      refine wp_calli (v := (b192_0 n (zI M l0 7) (zI M l1 7) M).1) (M1 := (b192_0 n (zI M l0 7) (zI M l1 7) M).2) rfl rfl rfl rfl (s192_0 n (zI M l0 7) (zI M l1 7) M hc (fun r M1 h => h)) ?_
      exact s30_35 n    l0 l1 (b192_0 n (zI M l0 7) (zI M l1 7) M).1 (b192_0 n (zI M l0 7) (zI M l1 7) M).2 hp hQ
    · rw [if_neg hc] at hQ
      replace hp := hp.2 hc
      refine wp_le [none, none, none, none, none, none] (zLe_of (by simp [zLeB])) ?_
      exact s30_22 n    M hp hQ
