/-! A run keeps the shapes of the cells that were there. -/
set_option maxHeartbeats 4000000 in
theorem zStep_shp {y : Nat} {i : Instr} {len pc pc' : Nat} {L L' : List (Option Value)} {st st' : List Value} {M M' : zM} (hs : zStep y i len pc L st M = some (pc', L', st', M')) : ∀ a, a < zN M → zS M' a = zS M a := by
  have r0 : ∀ a, a < zN M → zS M a = zS M a := fun _ _ => rfl
  cases i with
  | getfield k =>
    simp only [zStep] at hs
    split at hs
    · obtain ⟨q, hq, he⟩ := Option.map_eq_some_iff.mp hs
      cases he
      exact r0
    · cases hs
  | putfield k =>
    simp only [zStep] at hs
    obtain ⟨q, hq, he⟩ := Option.map_eq_some_iff.mp hs
    cases he
    unfold zPf at hq
    split at hq
    · split at hq
      · split at hq
        · split at hq
          · split at hq
            · cases hq; exact r0
            · cases hq
          · cases hq
        · cases hq
      · cases hq
    · split at hq
      · split at hq
        · split at hq
          · split at hq
            · cases hq; exact r0
            · cases hq
          · cases hq
        · cases hq
      · cases hq
    · cases hq
  | iastore =>
    simp only [zStep] at hs
    obtain ⟨q, hq, he⟩ := Option.map_eq_some_iff.mp hs
    cases he
    unfold zIst at hq
    split at hq
    · split at hq
      · split at hq
        · cases hq; exact r0
        · cases hq
      · cases hq
    · cases hq
  | bastore =>
    simp only [zStep] at hs
    obtain ⟨q, hq, he⟩ := Option.map_eq_some_iff.mp hs
    cases he
    unfold zZst at hq
    split at hq
    · split at hq
      · split at hq
        · cases hq; exact r0
        · cases hq
      · cases hq
    · cases hq
  | aastore =>
    simp only [zStep] at hs
    obtain ⟨q, hq, he⟩ := Option.map_eq_some_iff.mp hs
    cases he
    unfold zAst at hq
    split at hq
    · split at hq
      · split at hq
        · cases hq; exact r0
        · cases hq
      · cases hq
    · cases hq
  | newarray t =>
    simp only [zStep] at hs
    split at hs
    · obtain ⟨q, hq, he⟩ := Option.map_eq_some_iff.mp hs
      cases he
      unfold zNwa at hq
      split at hq
      · split at hq
        · cases hq; exact fun a ha => if_neg (Nat.ne_of_lt ha)
        · cases hq
      · cases hq
    · cases hs
  | anewarray t =>
    simp only [zStep] at hs
    split at hs
    · obtain ⟨q, hq, he⟩ := Option.map_eq_some_iff.mp hs
      cases he
      unfold zNwa at hq
      split at hq
      · split at hq
        · cases hq; exact fun a ha => if_neg (Nat.ne_of_lt ha)
        · cases hq
      · cases hq
    · cases hs
  | new k =>
    simp only [zStep] at hs
    obtain ⟨q, hq, he⟩ := Option.map_eq_some_iff.mp hs
    cases he
    unfold zNwo at hq
    split at hq
    · split at hq
      · cases hq; exact fun a ha => if_neg (Nat.ne_of_lt ha)
      · cases hq
    · cases hq
  | _ =>
    first
    | (simp only [zStep] at hs
       obtain ⟨q, hq, he⟩ := Option.map_eq_some_iff.mp hs
       cases he
       exact r0)
    | (simp only [zStep, Option.some.injEq, Prod.mk.injEq] at hs
       obtain ⟨-, -, -, rfl⟩ := hs
       exact r0)
    | (simp [zStep] at hs)
theorem zX_shape : ∀ (n : Nat) {y pc : Nat} {L : List (Option Value)} {st : List Value} {M M1 : zM} {r : Option Value}, zX n y pc L st M = some (r, M1) → ∀ a, a < zN M → zS M1 a = zS M a
  | 0, _, _, _, _, _, _, _, h => by cases h
  | n + 1, y, pc, L, st, M, M1, r, h => by
    have ih := @zX_shape n
    have mo := @zX_mono n
    simp only [zX] at h
    split at h
    · cases h
    · split at h
      · cases h; exact fun _ _ => rfl
      · split at h
        · cases h; exact fun _ _ => rfl
        · split at h
          · split at h
            · rename_i h1; exact fun a ha => (ih h a (Nat.lt_of_lt_of_le ha (mo h1).1)).trans (ih h1 a ha)
            · rename_i h1; exact fun a ha => (ih h a (Nat.lt_of_lt_of_le ha (mo h1).1)).trans (ih h1 a ha)
            · rename_i h1; exact fun a ha => (ih h a (Nat.lt_of_lt_of_le ha (mo h1).1)).trans (ih h1 a ha)
            · cases h
          · split at h
            · split at h
              · rename_i h1
                have h9 := ih h
                exact fun a ha => (h9 a (Nat.lt_of_lt_of_le ha (mo h1).1)).trans (ih h1 a ha)
              · rename_i h1; exact fun a ha => (ih h a (Nat.lt_of_lt_of_le ha (mo h1).1)).trans (ih h1 a ha)
              · cases h
            · split at h
              · cases h
              · rename_i h1
                exact fun a ha => (ih h a (Nat.lt_of_lt_of_le ha (zStep_mono h1).1)).trans (zStep_shp h1 a ha)
