/-! The spans that are alone the longest at each of their steps. -/
def wCd (x : wSp) : Nat := (20 * spB x + spJ x) * 24 + spT x
abbrev wCs : Type := Nat → Nat × Nat × Int32
/-- a step's longest, how many are as long, and what began there: after one more span -/
def clS (s : wG) (x : wSp) (st : wCs) : wCs := fun k => if wOn s x (spN x) k = true then (if (st k).1 < spL x then (spL x, 1, if k = 20 * spA x + spI x then nI (wCd x) else wM1) else if (st k).1 = spL x then ((st k).1, (st k).2.1 + 1, (st k).2.2) else st k) else st k
def clA (s : wG) (L : List wSp) : wCs := L.foldl (fun st x => clS s x st) (fun _ => (0, 0, wM1))
theorem clA_snoc (s : wG) (L : List wSp) (x : wSp) : clA s (L ++ [x]) = clS s x (clA s L) := by
  unfold clA; rw [List.foldl_append]; rfl
/-- how many have the step k and are m long -/
def clN (s : wG) (k m : Nat) : List wSp → Nat
  | [] => 0
  | x :: t => (if wOn s x (spN x) k = true ∧ spL x = m then 1 else 0) + clN s k m t
section CL
variable {s : wG} {k m : Nat} {L : List wSp} {x y : wSp}
theorem clN_app : ∀ (L M : List wSp), clN s k m (L ++ M) = clN s k m L + clN s k m M
  | [], M => by simp [clN]
  | x :: t, M => by rw [List.cons_append, clN, clN, clN_app t M]; omega
theorem clN_zero : ∀ (L : List wSp), (∀ y ∈ L, wOn s y (spN y) k = true → spL y < m) → clN s k m L = 0
  | [], _ => rfl
  | x :: t, h => by
    rw [clN, clN_zero t (fun y hy => h y (List.mem_cons_of_mem _ hy)), if_neg (fun h2 => by have := h x (List.mem_cons_self ..) h2.1; omega)]
theorem clN_pos : ∀ (L : List wSp), x ∈ L → wOn s x (spN x) k = true → spL x = m → 1 ≤ clN s k m L
  | [], h, _, _ => nomatch h
  | z :: t, h, h1, h2 => by
    rw [clN]
    rcases List.mem_cons.mp h with e | e
    · subst e; rw [if_pos ⟨h1, h2⟩]; omega
    · have := clN_pos t e h1 h2; omega
theorem clN_two : ∀ (L : List wSp), x ∈ L → y ∈ L → x ≠ y → wOn s x (spN x) k = true → spL x = m → wOn s y (spN y) k = true → spL y = m → 2 ≤ clN s k m L
  | [], h, _, _, _, _, _, _ => nomatch h
  | z :: t, h, h', hne, h1, h2, h3, h4 => by
    rw [clN]
    rcases List.mem_cons.mp h with e | e
    · rcases List.mem_cons.mp h' with e' | e'
      · exact absurd (e.trans e'.symm) hne
      · have := clN_pos t e' h3 h4
        subst e; rw [if_pos ⟨h1, h2⟩]; omega
    · rcases List.mem_cons.mp h' with e' | e'
      · have := clN_pos t e h1 h2
        subst e'; rw [if_pos ⟨h3, h4⟩]; omega
      · have := clN_two t e e' hne h1 h2 h3 h4; omega
def clP (s : wG) (L : List wSp) (st : wCs) : Prop := ∀ k, (∀ x ∈ L, wOn s x (spN x) k = true → spL x ≤ (st k).1) ∧ (st k).2.1 = clN s k (st k).1 L ∧ (0 < (st k).1 → ∃ x, x ∈ L ∧ wOn s x (spN x) k = true ∧ spL x = (st k).1 ∧ (st k).2.2 = if k = 20 * spA x + spI x then nI (wCd x) else wM1)
theorem clP_step {st : wCs} (h : clP s L st) (hx : 1 ≤ spL x) : clP s (L ++ [x]) (clS s x st) := by
  intro k
  obtain ⟨h1, h2, h3⟩ := h k
  by_cases ho : wOn s x (spN x) k = true
  · by_cases c1 : (st k).1 < spL x
    · have e : clS s x st k = (spL x, 1, if k = 20 * spA x + spI x then nI (wCd x) else wM1) := by unfold clS; rw [if_pos ho, if_pos c1]
      rw [e]
      refine ⟨fun y hy hon => ?_, ?_, fun _ => ⟨x, by simp, ho, rfl, rfl⟩⟩
      · rcases List.mem_append.mp hy with hy | hy
        · have := h1 y hy hon; show spL y ≤ spL x; omega
        · have : y = x := by simpa using hy
          subst this; exact Nat.le_refl _
      · show 1 = clN s k (spL x) (L ++ [x])
        rw [clN_app, clN_zero L (fun y hy hon => by have := h1 y hy hon; omega)]
        show 1 = 0 + ((if wOn s x (spN x) k = true ∧ spL x = spL x then 1 else 0) + 0)
        rw [if_pos ⟨ho, rfl⟩]
    · by_cases c2 : (st k).1 = spL x
      · have e : clS s x st k = ((st k).1, (st k).2.1 + 1, (st k).2.2) := by unfold clS; rw [if_pos ho, if_neg c1, if_pos c2]
        rw [e]
        refine ⟨fun y hy hon => ?_, ?_, fun hp => ?_⟩
        · rcases List.mem_append.mp hy with hy | hy
          · exact h1 y hy hon
          · have : y = x := by simpa using hy
            subst this; show spL y ≤ (st k).1; omega
        · show (st k).2.1 + 1 = clN s k (st k).1 (L ++ [x])
          rw [clN_app, ← h2]
          show _ = _ + ((if wOn s x (spN x) k = true ∧ spL x = (st k).1 then 1 else 0) + 0)
          rw [if_pos ⟨ho, c2.symm⟩]
        · obtain ⟨y, y1, y2, y3, y4⟩ := h3 hp
          exact ⟨y, List.mem_append_left _ y1, y2, y3, y4⟩
      · have e : clS s x st k = st k := by unfold clS; rw [if_pos ho, if_neg c1, if_neg c2]
        rw [e]
        refine ⟨fun y hy hon => ?_, ?_, fun hp => ?_⟩
        · rcases List.mem_append.mp hy with hy | hy
          · exact h1 y hy hon
          · have : y = x := by simpa using hy
            subst this; omega
        · rw [clN_app, ← h2]
          show _ = _ + ((if wOn s x (spN x) k = true ∧ spL x = (st k).1 then 1 else 0) + 0)
          rw [if_neg (fun h => c2 h.2.symm)]; omega
        · obtain ⟨y, y1, y2, y3, y4⟩ := h3 hp
          exact ⟨y, List.mem_append_left _ y1, y2, y3, y4⟩
  · have e : clS s x st k = st k := by unfold clS; rw [if_neg ho]
    rw [e]
    refine ⟨fun y hy hon => ?_, ?_, fun hp => ?_⟩
    · rcases List.mem_append.mp hy with hy | hy
      · exact h1 y hy hon
      · have : y = x := by simpa using hy
        subst this; exact absurd hon ho
    · rw [clN_app, ← h2]
      show _ = _ + ((if wOn s x (spN x) k = true ∧ spL x = (st k).1 then 1 else 0) + 0)
      rw [if_neg (fun h => ho h.1)]; omega
    · obtain ⟨y, y1, y2, y3, y4⟩ := h3 hp
      exact ⟨y, List.mem_append_left _ y1, y2, y3, y4⟩
theorem clP_all : ∀ (M L : List wSp), clP s L (clA s L) → (∀ x ∈ M, 1 ≤ spL x) → clP s (L ++ M) (clA s (L ++ M))
  | [], L, h, _ => by rw [List.append_nil]; exact h
  | x :: t, L, h, hM => by
    have e : L ++ x :: t = (L ++ [x]) ++ t := by simp
    rw [e]
    exact clP_all t (L ++ [x]) (by rw [clA_snoc]; exact clP_step h (hM x (List.mem_cons_self ..))) (fun y hy => hM y (List.mem_cons_of_mem _ hy))
theorem clA_ok (hM : ∀ x ∈ L, 1 ≤ spL x) : clP s L (clA s L) := clP_all L [] (fun k => ⟨fun x hx => (nomatch hx), rfl, fun h => absurd h (by show ¬ 0 < 0; omega)⟩) hM
theorem clA_le : ∀ (L : List wSp), (∀ x ∈ L, 1 ≤ spL x ∧ spL x ≤ 240) → ∀ k, (clA s L k).1 ≤ 240 ∧ (clA s L k).2.1 ≤ L.length := by
  intro L hL k
  obtain ⟨h1, h2, h3⟩ := clA_ok (s := s) (fun x hx => (hL x hx).1) k
  refine ⟨?_, ?_⟩
  · by_cases hp : 0 < (clA s L k).1
    · obtain ⟨x, x1, x2, x3, _⟩ := h3 hp
      have := hL x x1; omega
    · omega
  · rw [h2]
    have : ∀ (L : List wSp) m, clN s k m L ≤ L.length := by
      intro L m
      induction L with
      | nil => exact Nat.le_refl _
      | cons x t ih => rw [clN, List.length_cons]; split <;> omega
    exact this L _
/-- alone the longest at each of its steps -/
def wSol (s : wG) (L : List wSp) (x : wSp) : Bool := (List.range 240).all (fun k => !wOn s x (spN x) k || (decide ((clA s L k).1 = spL x) && decide ((clA s L k).2.1 = 1)))
theorem wSol_iff : wSol s L x = true ↔ ∀ k, k < 240 → wOn s x (spN x) k = true → (clA s L k).1 = spL x ∧ (clA s L k).2.1 = 1 := by
  unfold wSol
  rw [List.all_eq_true]
  constructor
  · intro h k hk ho
    have := h k (List.mem_range.mpr hk)
    rw [ho] at this
    simpa using this
  · intro h k hk
    have hk := List.mem_range.mp hk
    cases ho : wOn s x (spN x) k with
    | false => rfl
    | true => have := h k hk ho; simp [this.1, this.2]
end CL
/-- all spans, in the order of their sherds, steps, turns -/
def wAb (s : wG) (a : Nat) : Nat → List wSp
  | 0 => []
  | b + 1 => wAb s a b ++ (if a < b ∧ s 357 a = 1 ∧ s 357 b = 1 then wSps s a b else [])
def wAa (s : wG) : Nat → List wSp
  | 0 => []
  | a + 1 => wAa s a ++ wAb s a (wMny s)
def wSpa (s : wG) : List wSp := wAa s (wMny s)
def wOkC (s : wG) (x : wSp) : Prop := spA x < spB x ∧ spB x < wMny s ∧ spI x < wStp s (spA x) ∧ spJ x < wStp s (spB x) ∧ spT x < 24 ∧ x = wMes s (spA x) (spI x) (spB x) (spJ x) (spT x) ∧ wIsSp s (spA x) (spI x) (spB x) (spJ x) (spT x) = true ∧ s 357 (spA x) = 1 ∧ s 357 (spB x) = 1
section CM
variable {s : wG} {k m a b : Nat} {L : List wSp} {x y : wSp}
theorem wSps_in (h : y ∈ wSps s a b) (hab : a < b) (hb : b < wMny s) (ca : s 357 a = 1) (cb : s 357 b = 1) : wOkC s y ∧ spA y = a ∧ spB y = b := by
  obtain ⟨i, j, t, h1, h2, h3, h4, rfl⟩ := wL1_mem h
  exact ⟨⟨hab, hb, h1, h2, h3, rfl, h4, ca, cb⟩, rfl, rfl⟩
theorem wAb_in : ∀ {b : Nat}, b ≤ wMny s → y ∈ wAb s a b → wOkC s y ∧ spA y = a ∧ spB y < b
  | 0, _, h => nomatch h
  | b + 1, hb, h => by
    rw [wAb] at h
    rcases List.mem_append.mp h with h | h
    · obtain ⟨h1, h2, h3⟩ := wAb_in (by omega) h
      exact ⟨h1, h2, by omega⟩
    · split at h
      · rename_i hc
        obtain ⟨h1, h2, h3⟩ := wSps_in h hc.1 (by omega) hc.2.1 hc.2.2
        exact ⟨h1, h2, by omega⟩
      · exact (nomatch h)
theorem wAa_in : ∀ {a : Nat}, y ∈ wAa s a → wOkC s y ∧ spA y < a
  | 0, h => nomatch h
  | a + 1, h => by
    rw [wAa] at h
    rcases List.mem_append.mp h with h | h
    · obtain ⟨h1, h2⟩ := wAa_in h
      exact ⟨h1, by omega⟩
    · obtain ⟨h1, h2, h3⟩ := wAb_in (Nat.le_refl _) h
      exact ⟨h1, by omega⟩
theorem wOkC.sp (hW : wW s) (h : wOkC s x) : wSpOk x ∧ spL x ≤ 240 ∧ 1 ≤ spL x ∧ wXok s x ∧ wOkSp s x := by
  obtain ⟨h1, h2, h3, h4, h5, h6, h7, h8, h9⟩ := h
  obtain ⟨m1, m2, m3⟩ := wMes_ok hW h1 h2 h3 h4 h5
  have hx := wMes_xok hW h1 h2 h3 h4 h5 h8 h9 h7
  have hl := (of_decide_eq_true h7).1
  have hl1 := hW.lst1
  rw [← h6] at m1 m2 hx hl
  exact ⟨m1, m2, by omega, hx, ⟨_, _, _, _, _, h1, h2, h3, h4, h5, h6, h7⟩⟩
theorem wOn_lt (hW : wW s) (hx : wXok s x) (h : wOn s x m k = true) : k < 240 := by
  obtain ⟨b1, b2, b3, b4⟩ := hx.bd hW
  obtain ⟨p, h1, h2⟩ := wOn_pair _ _ h
  obtain ⟨x1, x2, x3, x4, _⟩ := hx
  have mA : (spI x + p) % wStp s (spA x) < wStp s (spA x) := Nat.mod_lt _ (by omega)
  have mB : (spJ x + wStp s (spB x) - p) % wStp s (spB x) < wStp s (spB x) := Nat.mod_lt _ (by omega)
  omega
/-- its first steps -/
theorem wOn_first (hx : wXok s x) : wOn s x (spN x) (20 * spA x + spI x) = true ∧ wOn s x (spN x) (20 * spB x + spJ x) = true := by
  obtain ⟨x1, x2, x3, x4, x5, x6, x7, x8, _⟩ := hx
  have eA : (spI x + 0) % wStp s (spA x) = spI x := by rw [Nat.add_zero, Nat.mod_eq_of_lt x3]
  have eB : (spJ x + wStp s (spB x) - 0) % wStp s (spB x) = spJ x := by rw [Nat.sub_zero, Nat.add_mod_right, Nat.mod_eq_of_lt x4]
  have h1 : ∀ m, 1 ≤ m → wOn s x m (20 * spA x + spI x) = true ∧ wOn s x m (20 * spB x + spJ x) = true := by
    intro m
    induction m with
    | zero => intro h; omega
    | succ m ih =>
      intro _
      by_cases e : m = 0
      · subst e
        rw [wOn, wOn, wOn, wOn, eA, eB]; simp
      · obtain ⟨g1, g2⟩ := ih (by omega)
        rw [wOn, wOn, g1, g2]; simp
  exact h1 _ x6
theorem wSol_same (hW : wW s) (hL : ∀ z ∈ L, wOkC s z) (hx : x ∈ L) (hy : y ∈ L) (sx : wSol s L x = true) (hk : k < 240) (ox : wOn s x (spN x) k = true) (oy : wOn s y (spN y) k = true) (hl : spL y = spL x) : x = y := by
  obtain ⟨e1, e2⟩ := wSol_iff.mp sx k hk ox
  obtain ⟨h1, h2, h3⟩ := clA_ok (s := s) (L := L) (fun z hz => ((hL z hz).sp hW).2.2.1) k
  rw [e1, e2] at h2
  apply Classical.byContradiction
  intro hne
  have := clN_two (s := s) (k := k) (m := spL x) L hx hy hne ox rfl oy hl
  omega
/-- the first steps of a row of spans -/
def wFs : List wSp → List Nat
  | [] => []
  | x :: t => (20 * spA x + spI x) :: (20 * spB x + spJ x) :: wFs t
theorem wFs_len : ∀ (R : List wSp), (wFs R).length = 2 * R.length
  | [] => rfl
  | x :: t => by rw [wFs, List.length_cons, List.length_cons, wFs_len t, List.length_cons]; omega
theorem wFs_mem {z : Nat} : ∀ {R : List wSp}, z ∈ wFs R → ∃ x, x ∈ R ∧ (z = 20 * spA x + spI x ∨ z = 20 * spB x + spJ x)
  | [], h => nomatch h
  | x :: t, h => by
    rw [wFs] at h
    rcases List.mem_cons.mp h with h | h
    · exact ⟨x, List.mem_cons_self .., Or.inl h⟩
    · rcases List.mem_cons.mp h with h | h
      · exact ⟨x, List.mem_cons_self .., Or.inr h⟩
      · obtain ⟨y, h1, h2⟩ := wFs_mem h
        exact ⟨y, List.mem_cons_of_mem _ h1, h2⟩
theorem wFs_nodup (hW : wW s) (hL : ∀ z ∈ L, wOkC s z) : ∀ (R : List wSp), R.Nodup → (∀ z ∈ R, z ∈ L ∧ wSol s L z = true) → (wFs R).Nodup ∧ ∀ z ∈ wFs R, z < 240
  | [], _, _ => ⟨List.nodup_nil, fun z h => (nomatch h)⟩
  | x :: t, hn, hR => by
    obtain ⟨n1, n2⟩ := List.nodup_cons.mp hn
    obtain ⟨i1, i2⟩ := wFs_nodup hW hL t n2 (fun z hz => hR z (List.mem_cons_of_mem _ hz))
    obtain ⟨x1, x2⟩ := hR x (List.mem_cons_self ..)
    obtain ⟨o1, o2, o3, o4, o5⟩ := (hL x x1).sp hW
    obtain ⟨f1, f2⟩ := wOn_first o4
    have l1 := wOn_lt hW o4 f1
    have l2 := wOn_lt hW o4 f2
    obtain ⟨q1, q2, q3, q4⟩ := o4.bd hW
    have hA := o4.1
    have hI := o4.2.2.1
    have hJ := o4.2.2.2.1
    have dis : ∀ z, z ∈ wFs t → wOn s x (spN x) z = true → False := by
      intro z hz hon
      obtain ⟨y, y1, y2⟩ := wFs_mem hz
      obtain ⟨y3, y4⟩ := hR y (List.mem_cons_of_mem _ y1)
      obtain ⟨_, _, _, y5, _⟩ := (hL y y3).sp hW
      obtain ⟨g1, g2⟩ := wOn_first y5
      have hz240 := i2 z hz
      have hy : wOn s y (spN y) z = true := by
        rcases y2 with e | e
        · rw [e]; exact g1
        · rw [e]; exact g2
      obtain ⟨e1, _⟩ := wSol_iff.mp x2 z hz240 hon
      obtain ⟨e2, _⟩ := wSol_iff.mp y4 z hz240 hy
      have := wSol_same hW hL x1 y3 x2 hz240 hon hy (by omega)
      rw [this] at n1
      exact n1 y1
    refine ⟨?_, ?_⟩
    · rw [wFs, List.nodup_cons, List.nodup_cons]
      refine ⟨fun h => ?_, fun h => dis _ h f2, i1⟩
      rcases List.mem_cons.mp h with h | h
      · omega
      · exact dis _ h f1
    · intro z hz
      rw [wFs] at hz
      rcases List.mem_cons.mp hz with h | h
      · omega
      · rcases List.mem_cons.mp h with h | h
        · omega
        · exact i2 z h
/-- no more than 120 are alone the longest -/
theorem wSol_120 (hW : wW s) (hL : ∀ z ∈ L, wOkC s z) (R : List wSp) (hn : R.Nodup) (hR : ∀ z ∈ R, z ∈ L ∧ wSol s L z = true) : R.length ≤ 120 := by
  obtain ⟨h1, h2⟩ := wFs_nodup hW hL R hn hR
  have := nodup_len 240 _ h1 h2
  rw [wFs_len] at this
  omega
end CM
