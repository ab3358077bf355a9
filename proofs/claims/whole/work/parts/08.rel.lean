/-! The model's memory against the machine's heap. base: where the cells that are made begin; sd: where the cells lie that were there before; cA: the arrays' classes; D: the classes and their slots; L, xs: the script. -/
def zAd (base : Nat) (sd : Nat → Nat) (a : Nat) : Nat := if a < 1000000 then base + a else sd (a - 1000000)
def zV (ad : Nat → Nat) (v : Value) : Value := match v with
  | .ref a => .ref (ad a)
  | v => v
def zFv (ad : Nat → Nat) (M : zM) (k c j : Nat) : Value := if zRf c j then va_rf ((zP M k j).map ad) else .int (zI M k j)
def zE (ad : Nat → Nat) (cA : Nat → ClassId) (M : zM) (k : Nat) : va_E := match (zS M k).1 with
  | 0 => .inr ((zS M k).2, (List.range (zNf (zS M k).2)).map (zFv ad M k (zS M k).2))
  | 1 => .inl (cA 0, (zS M k).2, .inl (zI M k))
  | 2 => .inl (cA 1, (zS M k).2, .inl (zI M k))
  | 3 => .inl (cA 2, (zS M k).2, .inr (.inl (zJ M k)))
  | t + 4 => .inl (cA (t + 3), (zS M k).2, .inr (.inr (.inr (.inr (fun j => (zP M k j).map ad)))))
def zWs (base : Nat) (ad : Nat → Nat) (cA : Nat → ClassId) (M : zM) : va_W := (List.range (zN M)).map fun k => (base + k, zE ad cA M k)
theorem zWs_get {base : Nat} {ad : Nat → Nat} {cA : Nat → ClassId} {M : zM} {k : Nat} (h : k < zN M) : (zWs base ad cA M)[k]? = some (base + k, zE ad cA M k) := by
  simp [zWs, h]
theorem zWs_len {base : Nat} {ad : Nat → Nat} {cA : Nat → ClassId} {M : zM} : (zWs base ad cA M).length = zN M := by simp [zWs]
theorem zWs_inv {base : Nat} {ad : Nat → Nat} {cA : Nat → ClassId} {M : zM} {k : Nat} {q : Nat × va_E} (h : (zWs base ad cA M)[k]? = some q) : k < zN M ∧ q = (base + k, zE ad cA M k) := by
  have hk : k < (zWs base ad cA M).length := (List.getElem?_eq_some_iff.mp h).1
  rw [zWs_len] at hk
  rw [zWs_get hk] at h
  exact ⟨hk, (Option.some.inj h).symm⟩
theorem zWs_D {base : Nat} {ad : Nat → Nat} {cA : Nat → ClassId} {M : zM} : va_D (fun q => base ≤ q) (zWs base ad cA M) := by
  refine ⟨fun i j p q hi hj e => ?_, fun k q hk => ?_⟩
  · obtain ⟨-, rfl⟩ := zWs_inv hi
    obtain ⟨-, rfl⟩ := zWs_inv hj
    simp only at e
    omega
  · obtain ⟨-, rfl⟩ := zWs_inv hk
    exact Nat.le_add_right _ _
theorem zWs_set {base : Nat} {ad : Nat → Nat} {cA : Nat → ClassId} {M M' : zM} {k : Nat} (hN : zN M' = zN M) (hE : ∀ j, j ≠ k → zE ad cA M' j = zE ad cA M j) {e : va_E} (he : zE ad cA M' k = e) : (zWs base ad cA M).set k (base + k, e) = zWs base ad cA M' := by
  subst he
  apply List.ext_getElem?
  intro j
  by_cases hj : j < zN M
  · rw [zWs_get (M := M') (by rw [hN]; exact hj), List.getElem?_set]
    by_cases e : k = j
    · subst e
      simp [zWs_len, hj]
    · rw [if_neg e, zWs_get hj, hE j (fun h => e h.symm)]
  · rw [List.getElem?_eq_none (by rw [List.length_set, zWs_len]; omega), List.getElem?_eq_none (by rw [zWs_len, hN]; omega)]
theorem zWs_push {base : Nat} {ad : Nat → Nat} {cA : Nat → ClassId} {M M' : zM} (hN : zN M' = zN M + 1) (hE : ∀ j, j < zN M → zE ad cA M' j = zE ad cA M j) {e : va_E} (he : zE ad cA M' (zN M) = e) : zWs base ad cA M ++ [(base + zN M, e)] = zWs base ad cA M' := by
  subst he
  apply List.ext_getElem?
  intro j
  rcases Nat.lt_trichotomy j (zN M) with h | h | h
  · rw [List.getElem?_append_left (by rw [zWs_len]; exact h), zWs_get h, zWs_get (by omega), hE j h]
  · subst h
    rw [List.getElem?_append_right (by rw [zWs_len]; exact Nat.le_refl _), zWs_get (by omega), zWs_len]
    simp
  · rw [List.getElem?_eq_none (by simp [zWs_len]; omega), List.getElem?_eq_none (by rw [zWs_len]; omega)]
theorem z2_ne {α : Type} {f : Nat → Nat → α} {a j b : Nat} {x : α} (h : b ≠ a) : z2 f a j x b = f b := by
  funext i
  simp [z2, h]
theorem z2_eq {α : Type} {f : Nat → Nat → α} {a j : Nat} {x : α} : z2 f a j x a = fun i => if i = j then x else f a i := by
  funext i
  simp [z2]
section ZE
variable {ad : Nat → Nat} {cA : Nat → ClassId} {M : zM} {a j k : Nat}
theorem zE_same {M' : zM} (hS : zS M' k = zS M k) (hI : zI M' k = zI M k) (hJ : zJ M' k = zJ M k) (hP : zP M' k = zP M k) : zE ad cA M' k = zE ad cA M k := by
  have hf : zFv ad M' k (zS M k).2 = zFv ad M k (zS M k).2 := by
    funext j
    simp only [zFv, hI, hP]
  unfold zE
  rw [hS, hI, hJ, hP, hf]
theorem zE_WI {x : Int32} (h : k ≠ a) : zE ad cA (zWI M a j x) k = zE ad cA M k := zE_same rfl (z2_ne h) rfl rfl
theorem zE_WJ {x : Int64} (h : k ≠ a) : zE ad cA (zWJ M a j x) k = zE ad cA M k := zE_same rfl rfl (z2_ne h) rfl
theorem zE_WQ {x : Option Nat} (h : k ≠ a) : zE ad cA (zWQ M a j x) k = zE ad cA M k := zE_same rfl rfl rfl (z2_ne h)
theorem zE_New {sh : Nat × Nat} {n : Nat} (h : k < zN M) : zE ad cA (zNew M sh n) k = zE ad cA M k := by
  have hk : k ≠ M.1 := Nat.ne_of_lt h
  refine zE_same ?_ ?_ ?_ ?_
  · show (if k = M.1 then sh else zS M k) = zS M k
    rw [if_neg hk]
  · funext i
    show (if k = M.1 then 0 else zI M k i) = zI M k i
    rw [if_neg hk]
  · funext i
    show (if k = M.1 then 0 else zJ M k i) = zJ M k i
    rw [if_neg hk]
  · funext i
    show (if k = M.1 then none else zP M k i) = zP M k i
    rw [if_neg hk]
end ZE
/-- what lies before: kinds, X, KINDS, the script -/
def zXt (j : Nat) : Int32 := ([1000, 966, 866, 707, 500, 259, 0, -259, -500, -707, -866, -966, -1000, -966, -866, -707, -500, -259, 0, 259, 500, 707, 866, 966] : List Int32).getD j 0
def zKc (k j : Nat) : Int32 := (([[0, 600, 0, 1, 1], [1, 600, 0, 1, 0], [2, 600, 0, 1, 1], [3, 600, 1, 1, 1], [4, 600, 1, 0, 1], [5, 1500, 0, 1, 1]] : List (List Int32)).getD k []).getD j 0
def zgS (L : Nat) (a : Nat) : Nat × Nat := if a < 1000006 then (0, 11) else if a = 1000006 then (1, 24) else if a = 1000007 then (8, 6) else if a = 1000008 then (1, L) else (0, 12)
def zgI (xs : Nat → Int32) (a j : Nat) : Int32 := if a < 1000006 then zKc (a - 1000000) j else if a = 1000006 then zXt j else if a = 1000008 then xs j else 0
def zgP (a j : Nat) : Option Nat := if a = 1000007 then (if j < 6 then some (1000000 + j) else none) else none
def zSta (L : Nat) (xs : Nat → Int32) (M : zM) : Prop := ∀ a, 1000000 ≤ a → zS M a = zgS L a ∧ zI M a = zgI xs a ∧ zP M a = zgP a
def zHp (base : Nat) (sd : Nat → Nat) (cA : Nat → ClassId) (D : va_G) (L : Nat) (xs : Nat → Int32) (M : zM) (H : Heap) : Prop :=
  va_P D zCl (zWs base (zAd base sd) cA M) H ∧ base + zN M ≤ H.size ∧ (zG M = 0 → H.size = base + zN M) ∧ zN M < 1000000 ∧ zSta L xs M
/-- the calls of nest mates' members -/
def zNst : List (Nat × Nat × Nat) := [(1, 1, 35), (2, 24, 12), (3, 102, 96), (7, 3, 35), (7, 60, 96), (8, 19, 54), (9, 34, 21), (9, 41, 0), (9, 60, 54), (9, 70, 35), (9, 104, 28)]
abbrev zTys (cA : Nat → ClassId) : List (ClassId × FieldType) := [(cA 0, .int), (cA 1, .boolean), (cA 2, .long), (cA 3, .object RX7), (cA 4, .object RX5), (cA 5, .object RX1), (cA 6, .object RX8)]
def zTake : MethodName := ⟨RX10, "take", "(LSherdTable$Span;)V"⟩
/-- the tables, and what lies before -/
def zK (base : Nat) (sd : Nat → Nat) (cA : Nat → ClassId) (D : va_G) (L : Nat) (xs : Nat → Int32) (U : State) (H : Heap) : Prop :=
  va_K D zCl (zTys cA) U ∧ (∀ t, 3 ≤ t → t < 7 → va_AO (zAc t) U) ∧ (∀ q ∈ zNst, va_Nw (.methodLinkNest (zOn q.1) q.2.1 (zY q.2.2) "SherdTable") U) ∧
  va_Nw (.fieldLinkNest "SherdTable$Sherd" 78 "SherdTable" "X" "[I" "SherdTable") U ∧ va_Fw RX0 zTake yX0_take U ∧ va_Fw RX9 zTake yX9_take U ∧
  (∀ k, k < 8 → va_Z (zSn k).1 (zSn k).2.1 (zSn k).2.2 (.ref (sd k)) (fun q => base ≤ q) U H) ∧
  (∀ k, k < 6 → va_O "SherdTable$Kind" (sd k) (fun q => base ≤ q) U H ∧ ∀ j, j < 5 → va_OF "SherdTable$Kind" (zKFL.getD j ("", "")).1 (zKFL.getD j ("", "")).2 (.int (zKc k j)) (sd k) (fun q => base ≤ q) U H) ∧
  va_T .int (sd 6) 24 (fun j => .int (zXt j)) (fun q => base ≤ q) U H ∧ va_T (.object "SherdTable$Kind") (sd 7) 6 (fun j => .ref (sd j)) (fun q => base ≤ q) U H ∧
  (va_X (sd 8) L xs U H ∧ sd 8 < base ∧ sd 8 < H.size ∧ L < 2 ^ 31) ∧ (∀ i j, i < 6 → j < 6 → sd i = sd j → i = j)
theorem zK.to {base : Nat} {sd : Nat → Nat} {cA : Nat → ClassId} {D : va_G} {L : Nat} {xs : Nat → Int32} {s U : State} {H H1 : Heap} (h : zK base sd cA D L xs s H) (hW : s.WarmedH U.vm) (hz : H.size ≤ H1.size) (hq : ∀ a : Nat, a < H.size → ¬ base ≤ a → H1[a]? = H[a]?) : zK base sd cA D L xs U H1 := by
  obtain ⟨h1, h2, h3, h4, h5, h6, h7, h8, h9, h10, ⟨h11, h12, h13, h14⟩, h15⟩ := h
  have hvm := hW.alike
  exact ⟨va_K.moved hvm h1, fun t a b => va_AO.moved hvm (h2 t a b), fun q hq => va_Nw.warmM hW (h3 q hq), va_Nw.warmF hW h4, va_Fw.moved (by decide) hvm h5, va_Fw.moved (by decide) hvm h6,
    fun k hk => ((h7 k hk).moved hvm).kept hq, fun k hk => ⟨((h8 k hk).1.moved hvm).kept hq, fun j hj => (((h8 k hk).2 j hj).moved hvm).kept hq⟩, (h9.moved hvm).kept hq, (h10.moved hvm).kept hq,
    ⟨(h11.moved hvm).kept (hq _ h13 (Nat.not_le.mpr h12)), h12, Nat.lt_of_lt_of_le h13 hz, h14⟩, h15⟩
theorem zK.blind {base : Nat} {sd : Nat → Nat} {cA : Nat → ClassId} {D : va_G} {L : Nat} {xs : Nat → Int32} {U : State} (g : JFrame) (mk : MethodId) (a : Array Value) (h : zK base sd cA D L xs U U.heap) : zK base sd cA D L xs (U.calling g mk a) (U.calling g mk a).heap := by
  obtain ⟨h1, h2, h3, h4, h5, h6, h7, h8, h9, h10, ⟨h11, h12⟩, h15⟩ := h
  have hvm : U.vm.Alike (U.calling g mk a).vm := Vm.Alike.refl U.vm
  exact ⟨va_K.moved hvm h1, fun t a b => va_AO.moved hvm (h2 t a b), fun q hq => va_Nw.same rfl rfl (h3 q hq), va_Nw.same rfl rfl h4, va_Fw.moved (by decide) hvm h5, va_Fw.moved (by decide) hvm h6,
    fun k hk => (h7 k hk).moved hvm, fun k hk => ⟨(h8 k hk).1.moved hvm, fun j hj => ((h8 k hk).2 j hj).moved hvm⟩, h9.moved hvm, h10.moved hvm, ⟨h11.moved hvm, h12⟩, h15⟩
/-- the locals -/
def zLs (ad : Nat → Nat) (ls : Array Slot) (n : Nat) (L : List (Option Value)) : Prop := ls.size = n ∧ L.length = n ∧ lv_wf ls ∧ ∀ i v, zGet L i = some v → ls[i]? = some (.val (zV ad v))
def zLv (ad : Nat → Nat) (L : List (Option Value)) : List (Nat × Value) := (List.range L.length).filterMap fun i => (zGet L i).map fun v => (i, zV ad v)
theorem zGet_lt {L : List (Option Value)} {i : Nat} {v : Value} (h : zGet L i = some v) : i < L.length := by
  by_cases hi : i < L.length
  · exact hi
  · simp [zGet, List.getD_eq_getElem?_getD, List.getElem?_eq_none (by omega : L.length ≤ i)] at h
theorem zLv_mem {ad : Nat → Nat} {L : List (Option Value)} {i : Nat} {v : Value} (h : zGet L i = some v) : (i, zV ad v) ∈ zLv ad L := by
  refine List.mem_filterMap.mpr ⟨i, List.mem_range.mpr (zGet_lt h), ?_⟩
  rw [h]; rfl
theorem zLv_inv {ad : Nat → Nat} {L : List (Option Value)} {q : Nat × Value} (h : q ∈ zLv ad L) : ∃ v, zGet L q.1 = some v ∧ q.2 = zV ad v := by
  obtain ⟨i, -, hi⟩ := List.mem_filterMap.mp h
  cases hg : zGet L i with
  | none => rw [hg] at hi; cases hi
  | some v =>
    rw [hg] at hi
    cases hi
    exact ⟨v, hg, rfl⟩
theorem zLs.has {ad : Nat → Nat} {ls : Array Slot} {n : Nat} {L : List (Option Value)} (h : zLs ad ls n L) : lv_has ls n (zLv ad L) := by
  refine ⟨h.1, h.2.2.1, fun q hq => ?_⟩
  obtain ⟨v, h1, h2⟩ := zLv_inv hq
  rw [h2]
  exact h.2.2.2 _ _ h1
theorem zV_cat (ad : Nat → Nat) (v : Value) : (zV ad v).category = v.category := by cases v <;> rfl
theorem zGet_set {L : List (Option Value)} {k i : Nat} {v : Option Value} : zGet (L.set k v) i = if k = i ∧ k < L.length then v else zGet L i := by
  unfold zGet
  rw [List.getD_eq_getElem?_getD, List.getD_eq_getElem?_getD, List.getElem?_set]
  by_cases h : k = i
  · subst h
    by_cases hk : k < L.length
    · simp [hk]
    · simp [hk]
  · simp [h]
theorem zKill_len {L : List (Option Value)} {k : Nat} : (zKill L k).length = L.length := by
  cases k with
  | zero => rfl
  | succ k =>
    simp only [zKill]
    split
    · split <;> simp
    · rfl
theorem zKill_get {L : List (Option Value)} {k i : Nat} {v : Value} (h : zGet (zKill L k) i = some v) : zGet L i = some v ∧ ¬ (i + 1 = k ∧ v.category = 2) := by
  cases k with
  | zero => exact ⟨h, fun q => by omega⟩
  | succ k =>
    simp only [zKill] at h
    split at h
    · rename_i w hw
      split at h
      · rename_i hc
        rw [zGet_set] at h
        split at h
        · cases h
        · rename_i hn
          refine ⟨h, fun q => ?_⟩
          have : k = i := by omega
          subst this
          exact hn ⟨rfl, zGet_lt hw⟩
      · rename_i hc
        refine ⟨h, fun q => ?_⟩
        have e : i = k := by omega
        rw [e] at h
        rw [h] at hw
        cases hw
        exact hc q.2
    · rename_i hw
      refine ⟨h, fun q => ?_⟩
      have e : i = k := by omega
      rw [e] at h
      rw [h] at hw
      cases hw
theorem zLs.set1 {ad : Nat → Nat} {ls ls' : Array Slot} {n k : Nat} {L : List (Option Value)} {w : Value} (h : zLs ad ls n L) (h' : lv_has ls' n ((k, zV ad w) :: (zLv ad L).filter (fun q => !(q.1 == k) && !(q.1 + 1 == k && q.2.category == 2)))) : zLs ad ls' n (zSet1 L k w) := by
  refine ⟨h'.1, by simp [zSet1, zKill_len, h.2.1], h'.2.1, fun i v hv => ?_⟩
  unfold zSet1 at hv
  rw [zGet_set] at hv
  split at hv
  · rename_i hk
    cases hv
    rw [← hk.1]
    exact h'.2.2 (k, zV ad w) List.mem_cons_self
  · rename_i hk
    obtain ⟨h1, h2⟩ := zKill_get hv
    refine h'.2.2 (i, zV ad v) (List.mem_cons_of_mem _ (List.mem_filter.mpr ⟨zLv_mem h1, ?_⟩))
    have hlt := zGet_lt h1
    have hik : ¬ i = k := fun e => hk ⟨e.symm, by rw [zKill_len]; omega⟩
    simp only [zV_cat, Bool.and_eq_true, Bool.not_eq_true', beq_eq_false_iff_ne, ne_eq, Bool.and_eq_false_iff]
    refine ⟨hik, ?_⟩
    by_cases e : i + 1 = k
    · exact Or.inr fun q => h2 ⟨e, q⟩
    · exact Or.inl e
theorem zLs.set2 {ad : Nat → Nat} {ls ls' : Array Slot} {n k : Nat} {L : List (Option Value)} {w : Value} (h : zLs ad ls n L) (h' : lv_has ls' n ((k, zV ad w) :: (zLv ad L).filter (fun q => !(q.1 == k) && (!(q.1 == k + 1) && !(q.1 + 1 == k && q.2.category == 2))))) : zLs ad ls' n (zSet2 L k w) := by
  refine ⟨h'.1, by simp [zSet2, zKill_len, h.2.1], h'.2.1, fun i v hv => ?_⟩
  unfold zSet2 at hv
  rw [zGet_set] at hv
  split at hv
  · cases hv
  rename_i hk2
  rw [zGet_set] at hv
  split at hv
  · rename_i hk
    cases hv
    rw [← hk.1]
    exact h'.2.2 (k, zV ad w) List.mem_cons_self
  · rename_i hk
    obtain ⟨h1, h2⟩ := zKill_get hv
    refine h'.2.2 (i, zV ad v) (List.mem_cons_of_mem _ (List.mem_filter.mpr ⟨zLv_mem h1, ?_⟩))
    have hlt := zGet_lt h1
    have hik : ¬ i = k := fun e => hk ⟨e.symm, by rw [zKill_len]; omega⟩
    have hik2 : ¬ i = k + 1 := fun e => hk2 ⟨e.symm, by rw [List.length_set, zKill_len]; omega⟩
    simp only [zV_cat, Bool.and_eq_true, Bool.not_eq_true', beq_eq_false_iff_ne, ne_eq, Bool.and_eq_false_iff]
    refine ⟨hik, hik2, ?_⟩
    by_cases e : i + 1 = k
    · exact Or.inr fun q => h2 ⟨e, q⟩
    · exact Or.inl e
