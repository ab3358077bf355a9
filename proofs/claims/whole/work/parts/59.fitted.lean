theorem wp_lks {y pc len t : Nat} {L : List (Option Value)} {st : List Value} {M : zM} {Q : Option Value → zM → Prop} {d : Int} {ps : Array (Int × Int)} {x : Int32} (hi : zIns y pc = some (.lookupswitch d ps, len)) (ht : zLks d ps pc [.int x] = some (t, [])) (h : zWP y t L st M Q) : zWP y pc L (.int x :: st) M Q := by
  refine wp_step hi rfl rfl rfl rfl ?_ h
  simp only [zStep]
  unfold zLks at ht ⊢
  simp only at ht ⊢
  split at ht
  · rename_i h1
    rw [if_pos h1]
    obtain ⟨q, hq, he⟩ := Option.map_eq_some_iff.mp ht
    rw [hq]
    cases he
    rfl
  · cases ht
theorem wp_lksO {pc t : Nat} {d : Int} {ps : Array (Int × Int)} {x : Int32} (h1 : (ps.toList.zip (ps.toList.drop 1)).all (fun (a, next) => a.1 < next.1) = true) (h2 : Op.lookupswitch.offset ps.toList d x.toInt = d) (h3 : zJmp pc d = some t) : zLks d ps pc [.int x] = some (t, []) := by
  unfold zLks
  simp only
  rw [if_pos h1, h2, h3]
  rfl

/-! X11_fitted -/
def b74_0 (n : Nat)  (l0 : Nat) (l1 : Int32) (M : zM) : Int32 × zM := (if l1 = 0 then ((zI M l0 17), M) else if l1 = 1 then ((zI M l0 18), M) else (((-1) : Int32), M))
def p74_0 (n : Nat)  (l0 : Nat) (l1 : Int32) (M : zM) : Prop := ((l1 = 0 → (zHasI 9 94 l0 M 17) ∧ (True)) ∧ (¬ l1 = 0 → (l1 = 1 → (zHasI 9 97 l0 M 18) ∧ (True)) ∧ (¬ l1 = 1 → True)))
theorem s74_0 (n : Nat)    (l0 : Nat) (l1 : Int32) (M : zM) (hp : p74_0 n  l0 l1 M) {Q : Option Value → zM → Prop} (hQ : ∀ r M1, zRI (b74_0 n  l0 l1 M) r M1 → Q r M1) : zWP 74 0 [some (.ref l0), some (.int l1)] [] M Q := by
  unfold b74_0 at hQ
  unfold p74_0 at hp
  refine wp_go 1 (pc' := 1) (L' := [some (.ref l0), some (.int l1)]) (st' := [.int l1]) (M' := M) rfl ?_
  by_cases hc0 : l1 = 0
  · rw [if_pos hc0] at hQ
    replace hp := hp.1 hc0
    refine wp_lks rfl (t := 28) (by subst hc0; rfl) ?_
    refine wp_go 1 (pc' := 29) (L' := [some (.ref l0), some (.int l1)]) (st' := [.ref l0]) (M' := M) rfl ?_
    obtain ⟨hc, hp⟩ := hp
    refine wq_getI (j := 17) rfl hc ?_
    exact wp_ret (r := some (.int (zI M l0 17))) rfl rfl (hQ _ _ ⟨rfl, rfl⟩)
  rw [if_neg hc0] at hQ
  replace hp := hp.2 hc0
  by_cases hc1 : l1 = 1
  · rw [if_pos hc1] at hQ
    replace hp := hp.1 hc1
    refine wp_lks rfl (t := 33) (by subst hc1; rfl) ?_
    refine wp_go 1 (pc' := 34) (L' := [some (.ref l0), some (.int l1)]) (st' := [.ref l0]) (M' := M) rfl ?_
    obtain ⟨hc, hp⟩ := hp
    refine wq_getI (j := 18) rfl hc ?_
    exact wp_ret (r := some (.int (zI M l0 18))) rfl rfl (hQ _ _ ⟨rfl, rfl⟩)
  rw [if_neg hc1] at hQ
  replace hp := hp.2 hc1
  refine wp_lks rfl (t := 38) (wp_lksO rfl (by have e0 : ¬ (l1).toInt = 0 := fun h => hc0 (Int32.toInt_inj.mp h); have e1 : ¬ (l1).toInt = 1 := fun h => hc1 (Int32.toInt_inj.mp h); simp [Op.lookupswitch.offset, e0, Ne.symm e0, e1, Ne.symm e1]) rfl) ?_
  refine wp_go 1 (pc' := 39) (L' := [some (.ref l0), some (.int l1)]) (st' := [.int ((-1) : Int32)]) (M' := M) rfl ?_
  exact wp_ret (r := some (.int ((-1) : Int32))) rfl rfl (hQ _ _ ⟨rfl, rfl⟩)
