/-! For the lifted methods: locals that are known less, and side conditions with their rows. -/
def zLe (L L' : List (Option Value)) : Prop := L.length = L'.length ∧ ∀ k v, zGet L k = some v → zGet L' k = some v
theorem zKill_keep {L : List (Option Value)} {k i : Nat} {v : Value} (h : zGet L i = some v) (hn : ¬ (i + 1 = k ∧ v.category = 2)) : zGet (zKill L k) i = some v := by
  cases k with
  | zero => exact h
  | succ k =>
    simp only [zKill]
    split
    · rename_i w hw
      split
      · rename_i hc
        rw [zGet_set]
        split
        · rename_i hk
          exfalso
          have e := hk.1
          subst e
          rw [hw] at h
          cases h
          exact hn ⟨rfl, hc⟩
        · exact h
      · exact h
    · exact h
theorem zLe.set1 {L L' : List (Option Value)} (h : zLe L L') (k : Nat) (w : Value) : zLe (zSet1 L k w) (zSet1 L' k w) := by
  refine ⟨by simp only [zSet1, List.length_set, zKill_len]; exact h.1, fun i v hv => ?_⟩
  unfold zSet1 at hv ⊢
  rw [zGet_set] at hv ⊢
  rw [zKill_len] at hv ⊢
  rw [← h.1]
  split at hv
  · rename_i hk; rw [if_pos hk]; exact hv
  · rename_i hk
    rw [if_neg hk]
    obtain ⟨a, b⟩ := zKill_get hv
    exact zKill_keep (h.2 _ _ a) b
theorem zLe.set2 {L L' : List (Option Value)} (h : zLe L L') (k : Nat) (w : Value) : zLe (zSet2 L k w) (zSet2 L' k w) := by
  refine ⟨by simp only [zSet2, List.length_set, zKill_len]; exact h.1, fun i v hv => ?_⟩
  unfold zSet2 at hv ⊢
  rw [zGet_set] at hv ⊢
  rw [List.length_set, zKill_len] at hv ⊢
  rw [← h.1]
  split at hv
  · cases hv
  · rename_i hk
    rw [if_neg hk]
    exact (h.set1 k w).2 i v hv
set_option maxHeartbeats 4000000 in
theorem zStep_le {y : Nat} {i : Instr} {len pc pc' : Nat} {L L' L1 : List (Option Value)} {st st' : List Value} {M M' : zM} (hL : zLe L L1) (hs : zStep y i len pc L st M = some (pc', L', st', M')) : ∃ L1', zStep y i len pc L1 st M = some (pc', L1', st', M') ∧ zLe L' L1' := by
  have ld : ∀ {k : Nat} {v : Value}, (zLdI L k = some v → zLdI L1 k = some v) ∧ (zLdL L k = some v → zLdL L1 k = some v) ∧ (zLdA L k = some v → zLdA L1 k = some v) := by
    intro k v
    refine ⟨fun h => ?_, fun h => ?_, fun h => ?_⟩
    · obtain ⟨x, rfl, hg⟩ := zLdI_inv h
      simp only [zLdI, hL.2 _ _ hg]
    · obtain ⟨x, rfl, hg⟩ := zLdL_inv h
      simp only [zLdL, hL.2 _ _ hg]
    · obtain ⟨x, rfl, hg⟩ := zLdA_inv h
      simp only [zLdA, hL.2 _ _ hg]
  cases i with
  | iload k => simp only [zStep] at hs ⊢; obtain ⟨q, hq, he⟩ := Option.map_eq_some_iff.mp hs; cases he; exact ⟨L1, by rw [ld.1 hq]; rfl, hL⟩
  | iload_n k => simp only [zStep] at hs ⊢; obtain ⟨q, hq, he⟩ := Option.map_eq_some_iff.mp hs; cases he; exact ⟨L1, by rw [ld.1 hq]; rfl, hL⟩
  | lload k => simp only [zStep] at hs ⊢; obtain ⟨q, hq, he⟩ := Option.map_eq_some_iff.mp hs; cases he; exact ⟨L1, by rw [ld.2.1 hq]; rfl, hL⟩
  | lload_n k => simp only [zStep] at hs ⊢; obtain ⟨q, hq, he⟩ := Option.map_eq_some_iff.mp hs; cases he; exact ⟨L1, by rw [ld.2.1 hq]; rfl, hL⟩
  | aload k => simp only [zStep] at hs ⊢; obtain ⟨q, hq, he⟩ := Option.map_eq_some_iff.mp hs; cases he; exact ⟨L1, by rw [ld.2.2 hq]; rfl, hL⟩
  | aload_n k => simp only [zStep] at hs ⊢; obtain ⟨q, hq, he⟩ := Option.map_eq_some_iff.mp hs; cases he; exact ⟨L1, by rw [ld.2.2 hq]; rfl, hL⟩
  | istore k => simp only [zStep] at hs ⊢; obtain ⟨⟨q1, q2⟩, hq, he⟩ := Option.map_eq_some_iff.mp hs; cases he; obtain ⟨x, rfl, hk, rfl⟩ := zStI_inv hq; exact ⟨zSet1 L1 k (.int x), by simp only [zStI]; rw [if_pos (by rw [← hL.1]; exact hk)]; rfl, hL.set1 _ _⟩
  | istore_n k => simp only [zStep] at hs ⊢; obtain ⟨⟨q1, q2⟩, hq, he⟩ := Option.map_eq_some_iff.mp hs; cases he; obtain ⟨x, rfl, hk, rfl⟩ := zStI_inv hq; exact ⟨zSet1 L1 k (.int x), by simp only [zStI]; rw [if_pos (by rw [← hL.1]; exact hk)]; rfl, hL.set1 _ _⟩
  | astore k => simp only [zStep] at hs ⊢; obtain ⟨⟨q1, q2⟩, hq, he⟩ := Option.map_eq_some_iff.mp hs; cases he; obtain ⟨x, rfl, hk, rfl⟩ := zStA_inv hq; exact ⟨zSet1 L1 k (.ref x), by simp only [zStA]; rw [if_pos (by rw [← hL.1]; exact hk)]; rfl, hL.set1 _ _⟩
  | astore_n k => simp only [zStep] at hs ⊢; obtain ⟨⟨q1, q2⟩, hq, he⟩ := Option.map_eq_some_iff.mp hs; cases he; obtain ⟨x, rfl, hk, rfl⟩ := zStA_inv hq; exact ⟨zSet1 L1 k (.ref x), by simp only [zStA]; rw [if_pos (by rw [← hL.1]; exact hk)]; rfl, hL.set1 _ _⟩
  | lstore k => simp only [zStep] at hs ⊢; obtain ⟨⟨q1, q2⟩, hq, he⟩ := Option.map_eq_some_iff.mp hs; cases he; obtain ⟨x, rfl, hk, rfl⟩ := zStL_inv hq; exact ⟨zSet2 L1 k (.long x), by simp only [zStL]; rw [if_pos (by rw [← hL.1]; exact hk)]; rfl, hL.set2 _ _⟩
  | lstore_n k => simp only [zStep] at hs ⊢; obtain ⟨⟨q1, q2⟩, hq, he⟩ := Option.map_eq_some_iff.mp hs; cases he; obtain ⟨x, rfl, hk, rfl⟩ := zStL_inv hq; exact ⟨zSet2 L1 k (.long x), by simp only [zStL]; rw [if_pos (by rw [← hL.1]; exact hk)]; rfl, hL.set2 _ _⟩
  | iinc k n => simp only [zStep] at hs ⊢; obtain ⟨q, hq, he⟩ := Option.map_eq_some_iff.mp hs; cases he; obtain ⟨x, hg, hk, rfl⟩ := zInc_inv hq; exact ⟨zSet1 L1 k (.int (x + Int32.ofInt n)), by simp only [zInc, hL.2 _ _ hg]; rw [if_pos (by rw [← hL.1]; exact hk)]; rfl, hL.set1 _ _⟩
  | getfield k =>
    simp only [zStep] at hs ⊢
    split at hs
    · obtain ⟨q, hq, he⟩ := Option.map_eq_some_iff.mp hs
      cases he
      exact ⟨L1, by rw [hq]; rfl, hL⟩
    · cases hs
  | newarray t =>
    simp only [zStep] at hs ⊢
    split at hs
    · obtain ⟨q, hq, he⟩ := Option.map_eq_some_iff.mp hs
      cases he
      exact ⟨L1, by rw [hq]; rfl, hL⟩
    · cases hs
  | anewarray t =>
    simp only [zStep] at hs ⊢
    split at hs
    · obtain ⟨q, hq, he⟩ := Option.map_eq_some_iff.mp hs
      cases he
      exact ⟨L1, by rw [hq]; rfl, hL⟩
    · cases hs
  | _ =>
    first
    | (simp only [zStep] at hs ⊢
       obtain ⟨q, hq, he⟩ := Option.map_eq_some_iff.mp hs
       cases he
       exact ⟨L1, by rw [hq]; rfl, hL⟩)
    | (simp only [zStep, Option.some.injEq, Prod.mk.injEq] at hs
       obtain ⟨rfl, rfl, rfl, rfl⟩ := hs
       exact ⟨L1, rfl, hL⟩)
    | (simp [zStep] at hs)
theorem zX_le : ∀ (n : Nat) {y pc : Nat} {L L1 : List (Option Value)} {st : List Value} {M : zM} {x : Option Value × zM}, zLe L L1 → zX n y pc L st M = some x → zX n y pc L1 st M = some x
  | 0, _, _, _, _, _, _, _, _, h => by cases h
  | n + 1, y, pc, L, L1, st, M, x, hL, h => by
    have ih := @zX_le n
    cases hins : zIns y pc with
    | none => rw [zX, hins] at h; cases h
    | some q =>
      obtain ⟨i, len⟩ := q
      rw [zX, hins] at h
      rw [zX, hins]
      simp only at h ⊢
      cases hr : zRet y i st with
      | some r => rw [hr] at h; exact h
      | none =>
        rw [hr] at h
        simp only at h ⊢
        cases hq : zThw y i with
        | some q => rw [hq] at h; exact h
        | none =>
          rw [hq] at h
          simp only at h ⊢
          cases hinv : zInv y i st M with
          | some q =>
            obtain ⟨z, as, rest⟩ := q
            rw [hinv] at h
            simp only at h ⊢
            cases h1 : zX n z 0 (zEnt z as) [] M with
            | none => rw [h1] at h; cases h
            | some w =>
              rw [h1] at h
              obtain ⟨r, M1⟩ := w
              cases r with
              | none => exact ih hL h
              | some v => cases v <;> first | exact ih hL h | cases h
          | none =>
            rw [hinv] at h
            simp only at h ⊢
            cases hsp : zSpc y i st M with
            | some q =>
              obtain ⟨z, as, o, rest⟩ := q
              rw [hsp] at h
              simp only at h ⊢
              cases h1 : zX n z 0 (zEnt z as) [] M with
              | none => rw [h1] at h; cases h
              | some w =>
                rw [h1] at h
                obtain ⟨r, M1⟩ := w
                cases r with
                | none => cases h
                | some v => cases v <;> first | exact ih hL h | cases h
            | none =>
              rw [hsp] at h
              simp only at h ⊢
              cases hst : zStep y i len pc L st M with
              | none => rw [hst] at h; cases h
              | some w =>
                obtain ⟨p1, L2, s1, M1⟩ := w
                rw [hst] at h
                obtain ⟨L3, e1, e2⟩ := zStep_le hL hst
                rw [e1]
                exact ih e2 h
/-- less is known of the locals -/
theorem wp_le {y pc : Nat} {L : List (Option Value)} (L0 : List (Option Value)) {st : List Value} {M : zM} {Q : Option Value → zM → Prop} (hL : zLe L0 L) (h : zWP y pc L0 st M Q) : zWP y pc L st M Q := by
  obtain ⟨n, r, M1, h1, h2⟩ := h
  exact ⟨n, r, M1, zX_le n hL h1, h2⟩
/-- by looking: place by place -/
def zLeB : List (Option Value) → List (Option Value) → Prop
  | [], [] => True
  | none :: a, _ :: b => zLeB a b
  | some v :: a, w :: b => w = some v ∧ zLeB a b
  | _, _ => False
theorem zLe_of : ∀ {L0 L : List (Option Value)}, zLeB L0 L → zLe L0 L
  | [], [], _ => ⟨rfl, fun k v h => h⟩
  | [], _ :: _, h => h.elim
  | none :: _, [], h => h.elim
  | some _ :: _, [], h => h.elim
  | none :: a, w :: b, h => by
    have ih := zLe_of (L0 := a) (L := b) h
    refine ⟨by simp [ih.1], fun k v hk => ?_⟩
    match k with
    | 0 => simp [zGet] at hk
    | k + 1 =>
      have : zGet a k = some v := by simpa [zGet] using hk
      have := ih.2 k v this
      simpa [zGet] using this
  | some u :: a, w :: b, h => by
    obtain ⟨rfl, h⟩ := h
    have ih := zLe_of (L0 := a) (L := b) h
    refine ⟨by simp [ih.1], fun k v hk => ?_⟩
    match k with
    | 0 => simpa [zGet] using hk
    | k + 1 =>
      have : zGet a k = some v := by simpa [zGet] using hk
      have := ih.2 k v this
      simpa [zGet] using this
