/-! What the calls mean: functions of the reference's own numbers, s : cell → index → int. -/
abbrev wG : Type := Nat → Nat → Int32
def wMny (s : wG) : Nat := (s 354 0).toNatClampNeg
def wKnd (s : wG) (a : Nat) : Nat := (s 355 a).toNatClampNeg
def wStp (s : wG) (a : Nat) : Nat := (s 356 a).toNatClampNeg
def wDr (s : wG) (k : Nat) : Nat := (s 360 k).toNatClampNeg
def wLn (s : wG) (k : Nat) : Nat := (s 361 k).toNatClampNeg
def wJA (s : wG) (k : Nat) : Nat := (s 366 k).toNatClampNeg
def wJI (s : wG) (k : Nat) : Nat := (s 367 k).toNatClampNeg
def wJB (s : wG) (k : Nat) : Nat := (s 368 k).toNatClampNeg
def wJJ (s : wG) (k : Nat) : Nat := (s 369 k).toNatClampNeg
def wJT (s : wG) (k : Nat) : Nat := (s 370 k).toNatClampNeg
def wJN (s : wG) (k : Nat) : Nat := (s 371 k).toNatClampNeg
def wXt (d : Nat) : Int32 := zXt (d % 24)
def wPX (s : wG) (a : Nat) : Nat → Nat → Int32
  | 0, _ => 0
  | k + 1, t => wPX s a k t + nI (wLn s (20 * a + k)) * wXt (wDr s (20 * a + k) + t)
def wPY (s : wG) (a : Nat) : Nat → Nat → Int32
  | 0, _ => 0
  | k + 1, t => wPY s a k t + nI (wLn s (20 * a + k)) * wXt (wDr s (20 * a + k) + t + 18)
def wUp {α : Type} (f : Nat → α) (a : Nat) (x : α) : Nat → α := fun b => if b = a then x else f b
/-- a group as it is laid: the sherds in order, turns, places -/
abbrev wLy : Type := List Nat × (Nat → Nat) × (Nat → Int32) × (Nat → Int32)
def wPut (y : wLy) (o t : Nat) (px py : Int32) : wLy := (y.1 ++ [o], wUp y.2.1 o t, wUp y.2.2.1 o px, wUp y.2.2.2 o py)
def wBy1 (s : wG) (k : Nat) (y : wLy) : wLy :=
  wPut y (wJB s k) ((y.2.1 (wJA s k) + wJT s k) % 24)
    (y.2.2.1 (wJA s k) + wPX s (wJA s k) (wJI s k) (y.2.1 (wJA s k)) - wPX s (wJB s k) (wJJ s k + 1) ((y.2.1 (wJA s k) + wJT s k) % 24))
    (y.2.2.2 (wJA s k) + wPY s (wJA s k) (wJI s k) (y.2.1 (wJA s k)) - wPY s (wJB s k) (wJJ s k + 1) ((y.2.1 (wJA s k) + wJT s k) % 24))
def wBy2 (s : wG) (k : Nat) (y : wLy) : wLy :=
  wPut y (wJA s k) ((y.2.1 (wJB s k) + (24 - wJT s k)) % 24)
    (y.2.2.1 (wJB s k) + wPX s (wJB s k) (wJJ s k + 1) (y.2.1 (wJB s k)) - wPX s (wJA s k) (wJI s k) ((y.2.1 (wJB s k) + (24 - wJT s k)) % 24))
    (y.2.2.2 (wJB s k) + wPY s (wJB s k) (wJJ s k + 1) (y.2.1 (wJB s k)) - wPY s (wJA s k) (wJI s k) ((y.2.1 (wJB s k) + (24 - wJT s k)) % 24))
def wNb (s : wG) (c k : Nat) (y : wLy) : wLy :=
  if s 365 k = 1 then
    (if wJA s k = c then (if wJB s k ∈ y.1 then y else wBy1 s k y)
     else if wJB s k = c then (if wJA s k ∈ y.1 then y else wBy2 s k y) else y)
  else y
def wNbs (s : wG) (c : Nat) : Nat → wLy → wLy
  | 0, y => y
  | k + 1, y => wNb s c k (wNbs s c k y)
def wLoop (s : wG) : Nat → Nat → wLy → wLy
  | 0, _, y => y
  | f + 1, i, y => if i < y.1.length then wLoop s f (i + 1) (wNbs s (y.1.getD i 0) 40 y) else y
def wLay (s : wG) (r : Nat) : wLy := wLoop s 12 0 ([r], fun _ => 0, fun _ => 0, fun _ => 0)
/-- the joins that there are have two sherds each -/
def wOkJ (s : wG) : Prop := ∀ k, k < 40 → s 365 k = 1 → wJA s k < wJB s k ∧ wJB s k < 12
def wShut (s : wG) (P : Nat → Prop) : Prop := ∀ k, k < 40 → s 365 k = 1 → (P (wJA s k) ↔ P (wJB s k))
def wConn (s : wG) (a b : Nat) : Prop := ∀ P : Nat → Prop, wShut s P → P a → P b
theorem wConn.refl (s : wG) (a : Nat) : wConn s a a := fun _ _ h => h
theorem wConn.trans {s : wG} {a b c : Nat} (h : wConn s a b) (h2 : wConn s b c) : wConn s a c := fun P hP ha => h2 P hP (h P hP ha)
theorem wConn.symm {s : wG} {a b : Nat} (h : wConn s a b) : wConn s b a := by
  refine h (fun x => wConn s x a) ?_ (wConn.refl s a)
  intro k hk hj
  exact ⟨fun h P hP hb => h P hP ((hP k hk hj).mpr hb), fun h P hP hb => h P hP ((hP k hk hj).mp hb)⟩
theorem wConn.shut (s : wG) (a : Nat) : wShut s (wConn s a) := by
  intro k hk hj
  exact ⟨fun h P hP hb => (hP k hk hj).mp (h P hP hb), fun h P hP hb => (hP k hk hj).mpr (h P hP hb)⟩
/-- what every step of the laying keeps -/
def wLyOk (s : wG) (r : Nat) (y : wLy) : Prop := y.1.Nodup ∧ (∀ x ∈ y.1, x < 12 ∧ wConn s r x) ∧ (∀ x ∈ y.1, y.2.1 x < 24)
theorem wNb_mono (s : wG) (c k : Nat) (y : wLy) : ∃ l, (wNb s c k y).1 = y.1 ++ l ∧ l.length ≤ 1 := by
  unfold wNb
  split
  · split
    · split
      · exact ⟨[], by simp⟩
      · exact ⟨[wJB s k], rfl, by simp⟩
    · split
      · split
        · exact ⟨[], by simp⟩
        · exact ⟨[wJA s k], rfl, by simp⟩
      · exact ⟨[], by simp⟩
  · exact ⟨[], by simp⟩
theorem wNbs_mono (s : wG) (c : Nat) : ∀ (k : Nat) (y : wLy), ∃ l, (wNbs s c k y).1 = y.1 ++ l
  | 0, y => ⟨[], by simp [wNbs]⟩
  | k + 1, y => by
    obtain ⟨l, h⟩ := wNbs_mono s c k y
    obtain ⟨l2, h2, _⟩ := wNb_mono s c k (wNbs s c k y)
    exact ⟨l ++ l2, by rw [wNbs, h2, h, List.append_assoc]⟩
theorem wPut_ok {s : wG} {r o t : Nat} {px py : Int32} {y : wLy} (h : wLyOk s r y) (ho : o < 12) (hc : wConn s r o) (hn : o ∉ y.1) (ht : t < 24) : wLyOk s r (wPut y o t px py) := by
  obtain ⟨h1, h2, h3⟩ := h
  refine ⟨?_, ?_, ?_⟩
  · show (y.1 ++ [o]).Nodup
    rw [List.nodup_append]
    refine ⟨h1, by simp, ?_⟩
    intro a ha b hb
    have : b = o := by simpa using hb
    subst this
    intro e; subst e; exact hn ha
  · intro x hx
    have hx : x ∈ y.1 ++ [o] := hx
    rw [List.mem_append] at hx
    rcases hx with hx | hx
    · exact h2 x hx
    · have : x = o := by simpa using hx
      subst this; exact ⟨ho, hc⟩
  · intro x hx
    show wUp y.2.1 o t x < 24
    unfold wUp
    split
    · exact ht
    · rename_i hxo
      have hx : x ∈ y.1 ++ [o] := hx
      rw [List.mem_append] at hx
      rcases hx with hx | hx
      · exact h3 x hx
      · exact absurd (by simpa using hx) hxo
theorem wNb_ok {s : wG} {r c k : Nat} {y : wLy} (hJ : wOkJ s) (hk : k < 40) (h : wLyOk s r y) (hc : c ∈ y.1) : wLyOk s r (wNb s c k y) := by
  unfold wNb
  split
  · rename_i hj
    have hJk := hJ k hk hj
    split
    · rename_i ha
      split
      · exact h
      · rename_i hb
        exact wPut_ok h hJk.2 (by have := (h.2.1 c hc).2; rw [← ha] at this; exact (wConn.shut s r k hk hj).mp this) hb (Nat.mod_lt _ (by omega))
    · split
      · rename_i ha
        split
        · exact h
        · rename_i hb
          exact wPut_ok h (by omega) (by have := (h.2.1 c hc).2; rw [← ha] at this; exact (wConn.shut s r k hk hj).mpr this) hb (Nat.mod_lt _ (by omega))
      · exact h
  · exact h
theorem wNbs_ok {s : wG} {r c : Nat} (hJ : wOkJ s) : ∀ (k : Nat) {y : wLy}, k ≤ 40 → wLyOk s r y → c ∈ y.1 → wLyOk s r (wNbs s c k y)
  | 0, y, _, h, _ => h
  | k + 1, y, hk, h, hc => by
    rw [wNbs]
    obtain ⟨l, hl⟩ := wNbs_mono s c k y
    exact wNb_ok hJ (by omega) (wNbs_ok hJ k (by omega) h hc) (by rw [hl]; exact List.mem_append_left _ hc)
/-- after a sherd's neighbours are laid, every join of its has both ends laid -/
theorem wNbs_done {s : wG} {c : Nat} : ∀ (k : Nat) {y : wLy}, c ∈ y.1 → ∀ j, j < k → s 365 j = 1 → (wJA s j = c → wJB s j ∈ (wNbs s c k y).1) ∧ (wJB s j = c → wJA s j ∈ (wNbs s c k y).1)
  | 0, y, _, j, hj, _ => absurd hj (Nat.not_lt_zero j)
  | k + 1, y, hc, j, hj, hs => by
    rw [wNbs]
    obtain ⟨l, hl, _⟩ := wNb_mono s c k (wNbs s c k y)
    obtain ⟨l0, hl0⟩ := wNbs_mono s c k y
    have hcm : c ∈ (wNbs s c k y).1 := by rw [hl0]; exact List.mem_append_left _ hc
    by_cases hjk : j < k
    · have := wNbs_done k hc j hjk hs
      rw [hl]
      exact ⟨fun h => List.mem_append_left _ (this.1 h), fun h => List.mem_append_left _ (this.2 h)⟩
    · have e : j = k := by omega
      subst e
      generalize wNbs s c j y = y1 at *
      unfold wNb
      rw [if_pos hs]
      constructor
      · intro h
        rw [if_pos h]
        split
        · rename_i h2; exact h2
        · show _ ∈ y1.1 ++ [_]
          exact List.mem_append_right _ (by simp)
      · intro h
        by_cases ha : wJA s j = c
        · rw [if_pos ha]
          have hm : wJA s j ∈ y1.1 := by rw [ha]; exact hcm
          split
          · exact hm
          · exact List.mem_append_left _ hm
        · rw [if_neg ha, if_pos h]
          split
          · rename_i h2; exact h2
          · show _ ∈ y1.1 ++ [_]
            exact List.mem_append_right _ (by simp)
theorem nodup_len : ∀ (n : Nat) (l : List Nat), l.Nodup → (∀ x ∈ l, x < n) → l.length ≤ n
  | 0, l, _, h => by
    cases l with
    | nil => simp
    | cons a t => exact absurd (h a (by simp)) (Nat.not_lt_zero a)
  | n + 1, l, hn, h => by
    by_cases hm : n ∈ l
    · have h1 := nodup_len n (l.erase n) (hn.erase n) (fun x hx => by
        have hx' := List.mem_of_mem_erase hx
        have := h x hx'
        have hne : x ≠ n := by intro e; subst e; exact (List.Nodup.not_mem_erase hn) hx
        omega)
      rw [List.length_erase_of_mem hm] at h1
      omega
    · have h1 := nodup_len n l hn (fun x hx => by
        have := h x hx
        have hne : x ≠ n := by intro e; subst e; exact hm hx
        omega)
      omega
theorem wLyOk.len {s : wG} {r : Nat} {y : wLy} (h : wLyOk s r y) : y.1.length ≤ 12 := nodup_len 12 y.1 h.1 (fun x hx => (h.2.1 x hx).1)
/-- all sherds ahead of i have their neighbours laid -/
def wDone (s : wG) (i : Nat) (y : wLy) : Prop := ∀ m, m < i → m < y.1.length → ∀ j, j < 40 → s 365 j = 1 → (wJA s j = y.1.getD m 0 → wJB s j ∈ y.1) ∧ (wJB s j = y.1.getD m 0 → wJA s j ∈ y.1)
theorem wLoop_fin {s : wG} {r : Nat} (hJ : wOkJ s) : ∀ (f i : Nat) (y : wLy), f + i = 12 → wLyOk s r y → wDone s i y → i ≤ y.1.length → wLyOk s r (wLoop s f i y) ∧ wDone s 12 (wLoop s f i y) ∧ ∃ l, (wLoop s f i y).1 = y.1 ++ l
  | 0, i, y, hf, h, hd, _ => ⟨h, by have : i = 12 := by omega
                                    subst this; exact hd, [], by simp [wLoop]⟩
  | f + 1, i, y, hf, h, hd, hi => by
    rw [wLoop]
    by_cases hl : i < y.1.length
    · rw [if_pos hl]
      have hc : y.1.getD i 0 ∈ y.1 := by
        rw [List.getD_eq_getElem?_getD, List.getElem?_eq_getElem hl]; exact List.getElem_mem hl
      obtain ⟨l, hm⟩ := wNbs_mono s (y.1.getD i 0) 40 y
      have hok := wNbs_ok (r := r) hJ 40 (Nat.le_refl _) h hc
      have hlen : y.1.length ≤ (wNbs s (y.1.getD i 0) 40 y).1.length := by rw [hm, List.length_append]; omega
      have hgd : ∀ m, m < y.1.length → (wNbs s (y.1.getD i 0) 40 y).1.getD m 0 = y.1.getD m 0 := by
        intro m hm2
        rw [hm, List.getD_eq_getElem?_getD, List.getElem?_append_left hm2, ← List.getD_eq_getElem?_getD]
      have hd2 : wDone s (i + 1) (wNbs s (y.1.getD i 0) 40 y) := by
        intro m hm1 hm2 j hj hs
        rw [hgd m (by omega)]
        by_cases hmi : m < i
        · have := hd m hmi (by omega) j hj hs
          rw [hm]
          exact ⟨fun h => List.mem_append_left _ (this.1 h), fun h => List.mem_append_left _ (this.2 h)⟩
        · have : m = i := by omega
          subst this
          exact wNbs_done 40 hc j hj hs
      obtain ⟨a, b, l2, hl2⟩ := wLoop_fin hJ f (i + 1) _ (by omega) hok hd2 (by omega)
      exact ⟨a, b, l ++ l2, by rw [hl2, hm, List.append_assoc]⟩
    · rw [if_neg hl]
      exact ⟨h, fun m hm1 hm2 => hd m (by omega) hm2, [], by simp⟩
theorem wLay_ok {s : wG} {r : Nat} (hJ : wOkJ s) (hr : r < 12) : wLyOk s r (wLay s r) ∧ wDone s 12 (wLay s r) ∧ ∃ l, (wLay s r).1 = r :: l := by
  have := wLoop_fin (r := r) hJ 12 0 ([r], fun _ => 0, fun _ => 0, fun _ => 0) rfl ⟨by simp, by
    intro x hx
    have : x = r := by simpa using hx
    subst this
    exact ⟨hr, wConn.refl s x⟩, fun x _ => by show 0 < 24; omega⟩ (fun m hm => absurd hm (Nat.not_lt_zero m)) (by simp)
  exact this
theorem wLay_shut {s : wG} {r : Nat} (hJ : wOkJ s) (hr : r < 12) : wShut s (fun x => x ∈ (wLay s r).1) := by
  obtain ⟨h1, h2, _⟩ := wLay_ok hJ hr
  intro k hk hs
  have idx : ∀ x ∈ (wLay s r).1, ∃ m, m < (wLay s r).1.length ∧ x = (wLay s r).1.getD m 0 := by
    intro x hx
    obtain ⟨m, hm, e⟩ := List.getElem_of_mem hx
    exact ⟨m, hm, by rw [List.getD_eq_getElem?_getD, List.getElem?_eq_getElem hm, ← e]; rfl⟩
  constructor
  · intro h
    obtain ⟨m, hm, e⟩ := idx _ h
    exact (h2 m (by have := h1.len; omega) hm k hk hs).1 e
  · intro h
    obtain ⟨m, hm, e⟩ := idx _ h
    exact (h2 m (by have := h1.len; omega) hm k hk hs).2 e
/-- a group's laying reaches just the sherds that joins tie to its root -/
theorem wLay_mem {s : wG} {r x : Nat} (hJ : wOkJ s) (hr : r < 12) : x ∈ (wLay s r).1 ↔ wConn s r x := by
  obtain ⟨h1, h2, l, hl⟩ := wLay_ok hJ hr
  constructor
  · intro h; exact (h1.2.1 x h).2
  · intro h; exact h _ (wLay_shut hJ hr) (by rw [hl]; simp)
theorem wConn_lt {s : wG} {a b : Nat} (hJ : wOkJ s) (ha : a < 12) (h : wConn s a b) : b < 12 := by
  have := (wLay_mem hJ ha).mpr h
  exact ((wLay_ok hJ ha).1.2.1 b this).1
/-- the least sherd of a group -/
def wGrp (s : wG) (a : Nat) : Nat := ((List.range 12).find? (fun r => decide (a ∈ (wLay s r).1))).getD 0
theorem wGrp_spec {s : wG} {a : Nat} (hJ : wOkJ s) (ha : a < 12) : wConn s (wGrp s a) a ∧ wGrp s a ≤ a ∧ ∀ b, b < 12 → wConn s b a → wGrp s a ≤ b := by
  unfold wGrp
  cases hf : (List.range 12).find? (fun r => decide (a ∈ (wLay s r).1)) with
  | none =>
    rw [List.find?_eq_none] at hf
    have := hf a (List.mem_range.mpr ha)
    exact absurd (decide_eq_true ((wLay_mem hJ ha).mpr (wConn.refl s a))) this
  | some r =>
    have h1 := List.find?_some hf
    have h2 := List.mem_of_find?_eq_some hf
    rw [List.mem_range] at h2
    have h3 : a ∈ (wLay s r).1 := of_decide_eq_true h1
    have h4 : ∀ b, b < 12 → wConn s b a → r ≤ b := by
      intro b hb hc
      rw [List.find?_range_eq_some] at hf
      apply Nat.le_of_not_lt
      intro hbr
      have := hf.2.2 b hbr
      simp only [Bool.not_eq_true', decide_eq_false_iff_not] at this
      exact this ((wLay_mem hJ hb).mpr hc)
    refine ⟨(wLay_mem hJ h2).mp h3, h4 a ha (wConn.refl s a), h4⟩
