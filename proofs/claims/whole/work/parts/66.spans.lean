/-! Spans in their order, lists with room for so many, and the spans that are alone the longest. -/
/-- a i b j t n long miss -/
abbrev wSp : Type := Nat × Nat × Nat × Nat × Nat × Nat × Nat × Int32
def spA (x : wSp) : Nat := x.1
def spI (x : wSp) : Nat := x.2.1
def spB (x : wSp) : Nat := x.2.2.1
def spJ (x : wSp) : Nat := x.2.2.2.1
def spT (x : wSp) : Nat := x.2.2.2.2.1
def spN (x : wSp) : Nat := x.2.2.2.2.2.1
def spL (x : wSp) : Nat := x.2.2.2.2.2.2.1
def spM (x : wSp) : Int32 := x.2.2.2.2.2.2.2
def wCode (x : wSp) : Nat := (((spA x * 12 + spB x) * 20 + spI x) * 20 + spJ x) * 24 + spT x
def wKey (x : wSp) : Int := (-(spL x : Int) * 4294967296 + (spM x).toInt) * 16777216 + wCode x
def wSpOk (x : wSp) : Prop := spA x < 12 ∧ spB x < 12 ∧ spI x < 20 ∧ spJ x < 20 ∧ spT x < 24 ∧ 0 ≤ (spM x).toInt
abbrev wLs : Type := Nat × (Nat → wSp)
def wPos (f : Nat → wSp) (x : wSp) : Nat → Nat
  | 0 => 0
  | k + 1 => if wKey x < wKey (f k) then wPos f x k else k + 1
def wIns (cap : Nat) (x : wSp) (l : wLs) : wLs := (min (l.1 + 1) cap, fun k => if k < wPos l.2 x l.1 then l.2 k else if k = wPos l.2 x l.1 then x else l.2 (k - 1))
def wSrt (l : wLs) : Prop := ∀ j k, j < k → k < l.1 → wKey (l.2 j) < wKey (l.2 k)
def wMem (y : wSp) (l : wLs) : Prop := ∃ k, k < l.1 ∧ l.2 k = y
theorem wPos_le (f : Nat → wSp) (x : wSp) : ∀ m, wPos f x m ≤ m
  | 0 => Nat.le_refl _
  | k + 1 => by
    rw [wPos]
    have := wPos_le f x k
    split <;> omega
theorem wPos_hi (f : Nat → wSp) (x : wSp) : ∀ m k, wPos f x m ≤ k → k < m → wKey x < wKey (f k)
  | 0, k, _, h => absurd h (Nat.not_lt_zero k)
  | m + 1, k, h1, h2 => by
    rw [wPos] at h1
    split at h1
    · rename_i hc
      by_cases hk : k < m
      · exact wPos_hi f x m k h1 hk
      · have : k = m := by omega
        subst this; exact hc
    · omega
theorem wPos_lo (f : Nat → wSp) (x : wSp) : ∀ m, 0 < wPos f x m → ¬ wKey x < wKey (f (wPos f x m - 1))
  | 0, h => absurd h (Nat.not_lt_zero _)
  | m + 1, h => by
    rw [wPos] at h ⊢
    split
    · rename_i hc
      rw [if_pos hc] at h
      exact wPos_lo f x m h
    · rename_i hc
      exact hc
theorem wIns_srt {cap : Nat} {x : wSp} {l : wLs} (h : wSrt l) (hx : ∀ k, k < l.1 → wKey (l.2 k) ≠ wKey x) : wSrt (wIns cap x l) := by
  intro j k hjk hk
  have hk : k < min (l.1 + 1) cap := hk
  have hp := wPos_le l.2 x l.1
  have hi := wPos_hi l.2 x l.1
  have hlo : ∀ j, j < wPos l.2 x l.1 → wKey (l.2 j) < wKey x := by
    intro j hj
    have h1 := wPos_lo l.2 x l.1 (by omega)
    have h2 := hx (wPos l.2 x l.1 - 1) (by omega)
    by_cases e : j = wPos l.2 x l.1 - 1
    · rw [e]; omega
    · have := h j (wPos l.2 x l.1 - 1) (by omega) (by omega)
      omega
  show wKey (if j < wPos l.2 x l.1 then l.2 j else if j = wPos l.2 x l.1 then x else l.2 (j - 1)) < wKey (if k < wPos l.2 x l.1 then l.2 k else if k = wPos l.2 x l.1 then x else l.2 (k - 1))
  by_cases hj1 : j < wPos l.2 x l.1
  · rw [if_pos hj1]
    by_cases hk1 : k < wPos l.2 x l.1
    · rw [if_pos hk1]; exact h j k hjk (by omega)
    · rw [if_neg hk1]
      by_cases hk2 : k = wPos l.2 x l.1
      · rw [if_pos hk2]; exact hlo j hj1
      · rw [if_neg hk2]; exact h j (k - 1) (by omega) (by omega)
  · rw [if_neg hj1, if_neg (c := k < wPos l.2 x l.1) (by omega), if_neg (c := k = wPos l.2 x l.1) (by omega)]
    by_cases hj2 : j = wPos l.2 x l.1
    · rw [if_pos hj2]; exact hi (k - 1) (by omega) (by omega)
    · rw [if_neg hj2]; exact h (j - 1) (k - 1) (by omega) (by omega)
theorem wIns_mem {cap : Nat} {x y : wSp} {l : wLs} (hc : l.1 + 1 ≤ cap) : wMem y (wIns cap x l) ↔ y = x ∨ wMem y l := by
  have hp := wPos_le l.2 x l.1
  have e1 : (wIns cap x l).1 = l.1 + 1 := by show min (l.1 + 1) cap = _; omega
  have e2 : ∀ k, (wIns cap x l).2 k = if k < wPos l.2 x l.1 then l.2 k else if k = wPos l.2 x l.1 then x else l.2 (k - 1) := fun _ => rfl
  unfold wMem
  rw [e1]
  constructor
  · rintro ⟨k, hk, he⟩
    rw [e2] at he
    by_cases h1 : k < wPos l.2 x l.1
    · rw [if_pos h1] at he; exact Or.inr ⟨k, by omega, he⟩
    · rw [if_neg h1] at he
      by_cases h2 : k = wPos l.2 x l.1
      · rw [if_pos h2] at he; exact Or.inl he.symm
      · rw [if_neg h2] at he; exact Or.inr ⟨k - 1, by omega, he⟩
  · rintro (rfl | ⟨k, hk, he⟩)
    · exact ⟨wPos l.2 y l.1, by omega, by rw [e2, if_neg (Nat.lt_irrefl _), if_pos rfl]⟩
    · by_cases h1 : k < wPos l.2 x l.1
      · exact ⟨k, by omega, by rw [e2, if_pos h1]; exact he⟩
      · exact ⟨k + 1, by omega, by rw [e2, if_neg (by omega), if_neg (by omega)]; exact he⟩
theorem wSrt_inj {l : wLs} (h : wSrt l) {j k : Nat} (hj : j < l.1) (hk : k < l.1) (e : l.2 j = l.2 k) : j = k := by
  rcases Nat.lt_trichotomy j k with h1 | h1 | h1
  · have := h j k h1 hk; rw [e] at this; omega
  · exact h1
  · have := h k j h1 hj; rw [e] at this; omega
/-- two rows in order that have the same spans are the same -/
theorem wSrt_uniq {l m : wLs} (hl : wSrt l) (hm : wSrt m) (h : ∀ y, wMem y l ↔ wMem y m) : l.1 = m.1 ∧ ∀ k, k < l.1 → l.2 k = m.2 k := by
  have key : ∀ k, (k < l.1 → k < m.1 ∧ l.2 k = m.2 k) ∧ (k < m.1 → k < l.1 ∧ l.2 k = m.2 k) := by
    intro k
    induction k using Nat.strongRecOn with
    | ind k ih =>
      have one : ∀ {a b : wLs}, wSrt a → wSrt b → (∀ y, wMem y a ↔ wMem y b) → (∀ j, j < k → (j < a.1 → j < b.1 ∧ a.2 j = b.2 j) ∧ (j < b.1 → j < a.1 ∧ a.2 j = b.2 j)) → k < a.1 → ∃ j, k ≤ j ∧ j < b.1 ∧ b.2 j = a.2 k := by
        intro a b ha hb hab ih hk
        obtain ⟨j, hj, he⟩ := (hab (a.2 k)).mp ⟨k, hk, rfl⟩
        refine ⟨j, ?_, hj, he⟩
        apply Nat.le_of_not_lt
        intro hjk
        have h1 := (ih j hjk).2 hj
        rw [← h1.2] at he
        have := wSrt_inj ha h1.1 hk he
        omega
      have fin : ∀ {a b : wLs}, wSrt a → wSrt b → (∀ y, wMem y a ↔ wMem y b) → (∀ j, j < k → (j < a.1 → j < b.1 ∧ a.2 j = b.2 j) ∧ (j < b.1 → j < a.1 ∧ a.2 j = b.2 j)) → k < a.1 → k < b.1 ∧ a.2 k = b.2 k := by
        intro a b ha hb hab ih hk
        obtain ⟨j, h1, h2, h3⟩ := one ha hb hab ih hk
        have hkb : k < b.1 := by omega
        obtain ⟨i, h4, h5, h6⟩ := one hb ha (fun y => (hab y).symm) (fun j hj => ⟨fun x => ⟨((ih j hj).2 x).1, ((ih j hj).2 x).2.symm⟩, fun x => ⟨((ih j hj).1 x).1, ((ih j hj).1 x).2.symm⟩⟩) hkb
        refine ⟨hkb, ?_⟩
        by_cases ej : k = j
        · rw [← ej] at h3; exact h3.symm
        · exfalso
          have c1 := hb k j (by omega) h2
          rw [h3, ← h6] at c1
          by_cases ei : k = i
          · rw [← ei] at c1; omega
          · have c2 := ha k i (by omega) h5
            omega
      refine ⟨fin hl hm h ih, fun hk => ?_⟩
      have := fin hm hl (fun y => (h y).symm) (fun j hj => ⟨fun x => ⟨((ih j hj).2 x).1, ((ih j hj).2 x).2.symm⟩, fun x => ⟨((ih j hj).1 x).1, ((ih j hj).1 x).2.symm⟩⟩) hk
      exact ⟨this.1, this.2.symm⟩
  refine ⟨?_, fun k hk => ((key k).1 hk).2⟩
  apply Nat.le_antisymm
  · apply Nat.le_of_not_lt
    intro hlt
    exact absurd ((key m.1).1 hlt).1 (Nat.lt_irrefl _)
  · apply Nat.le_of_not_lt
    intro hlt
    exact absurd ((key l.1).2 hlt).1 (Nat.lt_irrefl _)
theorem wCode_inj {x y : wSp} (hx : wSpOk x) (hy : wSpOk y) (h : wCode x = wCode y) : spA x = spA y ∧ spI x = spI y ∧ spB x = spB y ∧ spJ x = spJ y ∧ spT x = spT y := by
  obtain ⟨a1, a2, a3, a4, a5, _⟩ := hx
  obtain ⟨b1, b2, b3, b4, b5, _⟩ := hy
  unfold wCode at h
  omega
theorem wCode_lt {x : wSp} (hx : wSpOk x) : wCode x < 16777216 := by
  obtain ⟨a1, a2, a3, a4, a5, _⟩ := hx
  unfold wCode
  omega
theorem int32_lt (x : Int32) : x.toInt < 2147483648 := by have := Int32.toInt_lt x; omega
/-- the reference's order where the other span came ahead -/
theorem wKey_ref {x y : wSp} (hx : wSpOk x) (hy : wSpOk y) (hc : wCode y < wCode x) : wKey x < wKey y ↔ (spL y < spL x ∨ (spL x = spL y ∧ spM x < spM y)) := by
  have h1 := wCode_lt hx
  have h2 := wCode_lt hy
  have h3 := hx.2.2.2.2.2
  have h4 := hy.2.2.2.2.2
  have h5 := int32_lt (spM x)
  have h6 := int32_lt (spM y)
  unfold wKey
  rw [Int32.lt_iff_toInt_lt]
  omega
/-- the class's order -/
theorem wKey_cls {x y : wSp} (hx : wSpOk x) (hy : wSpOk y) : wKey x < wKey y ↔ (if spL x ≠ spL y then spL y < spL x else if spM x ≠ spM y then spM x < spM y else if spA x ≠ spA y then spA x < spA y else if spB x ≠ spB y then spB x < spB y else if spI x ≠ spI y then spI x < spI y else if spJ x ≠ spJ y then spJ x < spJ y else spT x < spT y) := by
  have h1 := wCode_lt hx
  have h2 := wCode_lt hy
  have h3 := hx.2.2.2.2.2
  have h4 := hy.2.2.2.2.2
  have h5 := int32_lt (spM x)
  have h6 := int32_lt (spM y)
  obtain ⟨a1, a2, a3, a4, a5, _⟩ := hx
  obtain ⟨b1, b2, b3, b4, b5, _⟩ := hy
  have e : spM x = spM y ↔ (spM x).toInt = (spM y).toInt := Int32.toInt_inj.symm
  unfold wKey
  rw [Int32.lt_iff_toInt_lt]
  simp only [ne_eq, e]
  unfold wCode at *
  generalize (spM x).toInt = mx at *
  generalize (spM y).toInt = my at *
  repeat' split
  all_goals omega
