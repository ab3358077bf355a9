/-! How far a group's sherds lie; the group that a new join makes. -/
section OF
variable {V : wV} {I : Nat → Nat → Int32} {s : wG} {n a b t k : Nat}
/-- no beginning is farther than its rank allows -/
def wLyB (y : wLy) : Prop := ∀ x, x ∈ y.1 → -(480000 * ((y.1.length : Int) - 1)) ≤ (y.2.2.1 x).toInt ∧ (y.2.2.1 x).toInt ≤ 480000 * ((y.1.length : Int) - 1) ∧ -(480000 * ((y.1.length : Int) - 1)) ≤ (y.2.2.2 x).toInt ∧ (y.2.2.2 x).toInt ≤ 480000 * ((y.1.length : Int) - 1)
theorem wPut_bd {y : wLy} {o tt : Nat} {px py : Int32} (h : wLyB y) (ho : o ∉ y.1) (h1 : -(480000 * (y.1.length : Int)) ≤ px.toInt ∧ px.toInt ≤ 480000 * (y.1.length : Int)) (h2 : -(480000 * (y.1.length : Int)) ≤ py.toInt ∧ py.toInt ≤ 480000 * (y.1.length : Int)) : wLyB (wPut y o tt px py) := by
  intro x hx
  have hl : (wPut y o tt px py).1.length = y.1.length + 1 := by show (y.1 ++ [o]).length = _; simp
  have hx : x ∈ y.1 ++ [o] := hx
  rw [hl]
  show _ ≤ (wUp y.2.2.1 o px x).toInt ∧ (wUp y.2.2.1 o px x).toInt ≤ _ ∧ _ ≤ (wUp y.2.2.2 o py x).toInt ∧ (wUp y.2.2.2 o py x).toInt ≤ _
  unfold wUp
  by_cases e : x = o
  · rw [if_pos e, if_pos e]; omega
  · rw [if_neg e, if_neg e]
    rw [List.mem_append] at hx
    rcases hx with hx | hx
    · have := h x hx; omega
    · exact absurd (by simpa using hx) e
theorem wNb_bd {c : Nat} {y : wLy} (hW : wW s) (hk : k < 40) (h : wLyB y) (hl : y.1.length ≤ 12) (hc : c ∈ y.1) : wLyB (wNb s c k y) := by
  unfold wNb
  split
  · rename_i hj
    have r0 := hW.jnr0 hk hj
    have r1 := hW.jnr1 hk hj
    have r2 := hW.jnr2 hk hj
    have r3 := hW.jnr3 hk hj
    have hm := hW.mny1
    have sa := hW.stp1 (a := wJA s k) (by omega)
    have sb := hW.stp1 (a := wJB s k) (by omega)
    split
    · rename_i ha
      split
      · exact h
      · rename_i hb
        have hy := h (wJA s k) (by rw [ha]; exact hc)
        have q1 := fun t => wPX_bd (t := t) hW (show wJA s k < 12 by omega) (wJI s k) (by omega)
        have q2 := fun t => wPX_bd (t := t) hW (show wJB s k < 12 by omega) (wJJ s k + 1) (by omega)
        have q3 := fun t => wPY_bd (t := t) hW (show wJA s k < 12 by omega) (wJI s k) (by omega)
        have q4 := fun t => wPY_bd (t := t) hW (show wJB s k < 12 by omega) (wJJ s k + 1) (by omega)
        have x1 := q1 (y.2.1 (wJA s k))
        have x2 := q2 ((y.2.1 (wJA s k) + wJT s k) % 24)
        have x3 := q3 (y.2.1 (wJA s k))
        have x4 := q4 ((y.2.1 (wJA s k) + wJT s k) % 24)
        have w1 : (y.2.2.1 (wJA s k) + wPX s (wJA s k) (wJI s k) (y.2.1 (wJA s k))).toInt = (y.2.2.1 (wJA s k)).toInt + (wPX s (wJA s k) (wJI s k) (y.2.1 (wJA s k))).toInt := i32_add (by omega)
        have w2 : (y.2.2.2 (wJA s k) + wPY s (wJA s k) (wJI s k) (y.2.1 (wJA s k))).toInt = (y.2.2.2 (wJA s k)).toInt + (wPY s (wJA s k) (wJI s k) (y.2.1 (wJA s k))).toInt := i32_add (by omega)
        exact wPut_bd h hb (by rw [i32_sub (by omega), w1]; omega) (by rw [i32_sub (by omega), w2]; omega)
    · split
      · rename_i ha
        split
        · exact h
        · rename_i hb
          have hy := h (wJB s k) (by rw [ha]; exact hc)
          have q1 := fun t => wPX_bd (t := t) hW (show wJA s k < 12 by omega) (wJI s k) (by omega)
          have q2 := fun t => wPX_bd (t := t) hW (show wJB s k < 12 by omega) (wJJ s k + 1) (by omega)
          have q3 := fun t => wPY_bd (t := t) hW (show wJA s k < 12 by omega) (wJI s k) (by omega)
          have q4 := fun t => wPY_bd (t := t) hW (show wJB s k < 12 by omega) (wJJ s k + 1) (by omega)
          have x2 := q2 (y.2.1 (wJB s k))
          have x1 := q1 ((y.2.1 (wJB s k) + (24 - wJT s k)) % 24)
          have x4 := q4 (y.2.1 (wJB s k))
          have x3 := q3 ((y.2.1 (wJB s k) + (24 - wJT s k)) % 24)
          have w1 : (y.2.2.1 (wJB s k) + wPX s (wJB s k) (wJJ s k + 1) (y.2.1 (wJB s k))).toInt = (y.2.2.1 (wJB s k)).toInt + (wPX s (wJB s k) (wJJ s k + 1) (y.2.1 (wJB s k))).toInt := i32_add (by omega)
          have w2 : (y.2.2.2 (wJB s k) + wPY s (wJB s k) (wJJ s k + 1) (y.2.1 (wJB s k))).toInt = (y.2.2.2 (wJB s k)).toInt + (wPY s (wJB s k) (wJJ s k + 1) (y.2.1 (wJB s k))).toInt := i32_add (by omega)
          exact wPut_bd h hb (by rw [i32_sub (by omega), w1]; omega) (by rw [i32_sub (by omega), w2]; omega)
      · exact h
  · exact h
theorem wNbs_bd {r c : Nat} (hW : wW s) : ∀ (k : Nat) {y : wLy}, k ≤ 40 → wLyOk s r y → wLyB y → c ∈ y.1 → wLyB (wNbs s c k y)
  | 0, y, _, _, h, _ => h
  | k + 1, y, hk, ho, h, hc => by
    rw [wNbs]
    obtain ⟨l, hl⟩ := wNbs_mono s c k y
    exact wNb_bd hW (by omega) (wNbs_bd hW k (by omega) ho h hc) (wNbs_ok hW.okJ k (by omega) ho hc).len (by rw [hl]; exact List.mem_append_left _ hc)
theorem wLoop_bd {r : Nat} (hW : wW s) : ∀ (f i : Nat) (y : wLy), wLyOk s r y → wLyB y → wLyB (wLoop s f i y)
  | 0, _, _, _, h => h
  | f + 1, i, y, ho, h => by
    rw [wLoop]
    by_cases hi : i < y.1.length
    · rw [if_pos hi]
      have hm : y.1.getD i 0 ∈ y.1 := by rw [getD_in _ hi]; exact List.getElem_mem hi
      exact wLoop_bd hW f (i + 1) _ (wNbs_ok hW.okJ 40 (Nat.le_refl _) ho hm) (wNbs_bd hW 40 (Nat.le_refl _) ho h hm)
    · rw [if_neg hi]; exact h
theorem wLay_bd {r x : Nat} (hW : wW s) (hr : r < 12) (hx : x ∈ (wLay s r).1) : -5280000 ≤ ((wLay s r).2.2.1 x).toInt ∧ ((wLay s r).2.2.1 x).toInt ≤ 5280000 ∧ -5280000 ≤ ((wLay s r).2.2.2 x).toInt ∧ ((wLay s r).2.2.2 x).toInt ≤ 5280000 := by
  have h0 : wLyOk s r ([r], fun _ => 0, fun _ => 0, fun _ => 0) := ⟨by simp, by
    intro x hx
    have : x = r := by simpa using hx
    subst this
    exact ⟨by omega, wConn.refl s x⟩, fun x _ => by show 0 < 24; omega⟩
  have hb : wLyB (wLay s r) := wLoop_bd hW 12 0 _ h0 (fun x _ => by show _ ≤ (0 : Int32).toInt ∧ (0 : Int32).toInt ≤ _ ∧ _ ≤ (0 : Int32).toInt ∧ (0 : Int32).toInt ≤ _; have : (0 : Int32).toInt = 0 := rfl; rw [this]; simp)
  have hl := (wLay_ok (r := r) hW.okJ hr).1.len
  have := hb x hx
  omega
/-- where a sherd of a laid group lies: its places -/
def wLX (s : wG) (y : wLy) (p : Nat) : Nat → Int32 := wOX s p (y.2.1 p) (y.2.2.1 p)
def wLY (s : wG) (y : wLy) (p : Nat) : Nat → Int32 := wOY s p (y.2.1 p) (y.2.2.2 p)
theorem wLX_bd {r x : Nat} (hW : wW s) (hr : r < 12) (hx : x ∈ (wLay s r).1) : gBd (wLX s (wLay s r) x) (wStp s x) ∧ gBd (wLY s (wLay s r) x) (wStp s x) := by
  have hb := wLay_bd hW hr hx
  have hx12 := ((wLay_ok (r := r) hW.okJ hr).1.2.1 x hx).1
  have st := hW.stp1 hx12
  refine ⟨fun k hk => ?_, fun k hk => ?_⟩
  · have q := wPX_bd (t := (wLay s r).2.1 x) hW hx12 k (by omega)
    show _ ≤ ((wLay s r).2.2.1 x + wPX s x k ((wLay s r).2.1 x)).toInt ∧ ((wLay s r).2.2.1 x + wPX s x k ((wLay s r).2.1 x)).toInt ≤ _
    rw [i32_add (by omega)]; omega
  · have q := wPY_bd (t := (wLay s r).2.1 x) hW hx12 k (by omega)
    show _ ≤ ((wLay s r).2.2.2 x + wPY s x k ((wLay s r).2.1 x)).toInt ∧ ((wLay s r).2.2.2 x + wPY s x k ((wLay s r).2.1 x)).toInt ≤ _
    rw [i32_add (by omega)]; omega
/-- the root of the group that a new join makes -/
theorem wGrp_add {x : wSp} {h : Int32} (hW : wW s) (hk : k < 40) (hk0 : s 365 k = 0) (hx : wXok s x) (hh : h = nI 0 ∨ h = nI 1) (hm : wMad s < 1000000) (hg : wGst s < 100000000) : wGrp (sAdd s k x h) (spA x) = min (wGrp s (spA x)) (wGrp s (spB x)) := by
  have hW2 := sAdd_w hW hk hk0 hx hh hm hg
  have hm12 := hW.mny1
  have hA : spA x < 12 := by have := hx.1; have := hx.2.1; omega
  have hB : spB x < 12 := by have := hx.2.1; omega
  obtain ⟨n1, _, n3, _⟩ := sA_new (k := k) (h := h) hx hW hm
  have e1 : sAdd s k x h 365 k = 1 := by rw [sA_k (by omega), if_pos rfl]; rfl
  have old : ∀ q, q < 40 → s 365 q = 1 → q ≠ k := fun q hq h1 e => by rw [e, hk0] at h1; exact absurd h1 (by decide)
  have up : ∀ u v, wConn s u v → wConn (sAdd s k x h) u v := by
    intro u v huv P hP
    refine huv P (fun q hq h1 => ?_)
    have hne := old q hq h1
    obtain ⟨o1, _, o3, _⟩ := sA_old (s := s) (x := x) (h := h) hne
    have := hP q hq (by rw [sA_off (by omega)]; exact h1)
    rw [o1, o3] at this
    exact this
  obtain ⟨a1, a2, a3⟩ := wGrp_spec hW.okJ hA
  obtain ⟨b1, b2, b3⟩ := wGrp_spec hW.okJ hB
  obtain ⟨c1, c2, c3⟩ := wGrp_spec hW2.okJ hA
  have hAB : wConn (sAdd s k x h) (spB x) (spA x) := by
    intro P hP hb
    have := hP k hk e1
    rw [n1, n3] at this
    exact this.mpr hb
  have u1 := c3 (wGrp s (spA x)) (by omega) (up _ _ a1)
  have u2 := c3 (wGrp s (spB x)) (by omega) ((up _ _ b1).trans hAB)
  have hP : wShut (sAdd s k x h) (fun v => wConn s v (spA x) ∨ wConn s v (spB x)) := by
    intro q hq h1
    by_cases e : q = k
    · subst e
      rw [n1, n3]
      exact ⟨fun _ => Or.inr (wConn.refl s _), fun _ => Or.inl (wConn.refl s _)⟩
    · obtain ⟨o1, _, o3, _⟩ := sA_old (s := s) (x := x) (h := h) e
      rw [sA_off (by omega)] at h1
      rw [o1, o3]
      have sh := fun c => (wConn.shut s c q hq h1)
      constructor
      · rintro (g | g)
        · exact Or.inl ((sh (spA x)).mp g.symm).symm
        · exact Or.inr ((sh (spB x)).mp g.symm).symm
      · rintro (g | g)
        · exact Or.inl ((sh (spA x)).mpr g.symm).symm
        · exact Or.inr ((sh (spB x)).mpr g.symm).symm
  have := c1.symm _ hP (Or.inl (wConn.refl s _))
  rcases this with g | g
  · have := a3 _ (by omega) g; omega
  · have := b3 _ (by omega) g; omega
end OF
