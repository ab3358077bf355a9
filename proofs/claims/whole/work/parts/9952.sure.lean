/-! The row of the sure spans: as the class gathers it, as the reference does. -/
def wFdl (cap : Nat) (L : List wSp) : wLs := L.foldl (fun l x => wIns cap x l) (0, fun _ => (0, 0, 0, 0, 0, 0, 0, 0))
theorem wFdl_snoc (cap : Nat) (L : List wSp) (x : wSp) : wFdl cap (L ++ [x]) = wIns cap x (wFdl cap L) := by
  unfold wFdl; rw [List.foldl_append]; rfl
section CN
variable {s : wG} {L : List wSp} {x y : wSp}
theorem wKey_code (hx : wSpOk x) (hy : wSpOk y) (h : wKey x = wKey y) : wCode x = wCode y := by
  have h1 := wCode_lt hx
  have h2 := wCode_lt hy
  unfold wKey at h
  omega
theorem wL3_pw {a i b j : Nat} (hW : wW s) (hab : a < b) (hb : b < wMny s) (hi : i < wStp s a) (hj : j < wStp s b) : ∀ t, t ≤ 24 → (wL3 s a i b j t).Pairwise (fun x y => wCode x < wCode y)
  | 0, _ => List.Pairwise.nil
  | t + 1, ht => by
    rw [wL3, List.pairwise_append]
    refine ⟨wL3_pw hW hab hb hi hj t (by omega), ?_, ?_⟩
    · split
      · exact List.pairwise_singleton _ _
      · exact List.Pairwise.nil
    · intro x hx y hy
      split at hy
      · have e : y = wMes s a i b j t := by simpa using hy
        obtain ⟨t', h1, _, rfl⟩ := wL3_mem hx
        subst e
        rw [(wMes_ok hW hab hb hi hj (show t' < 24 by omega)).2.2, (wMes_ok hW hab hb hi hj (show t < 24 by omega)).2.2]; omega
      · exact (nomatch hy)
theorem wL2_pw {a i b : Nat} (hW : wW s) (hab : a < b) (hb : b < wMny s) (hi : i < wStp s a) : ∀ j, j ≤ wStp s b → (wL2 s a i b j).Pairwise (fun x y => wCode x < wCode y)
  | 0, _ => List.Pairwise.nil
  | j + 1, hj => by
    rw [wL2, List.pairwise_append]
    refine ⟨wL2_pw hW hab hb hi j (by omega), wL3_pw hW hab hb hi (by omega) 24 (Nat.le_refl _), ?_⟩
    intro x hx y hy
    obtain ⟨j', t', h1, h2, _, rfl⟩ := wL2_mem hx
    obtain ⟨t2, h3, _, rfl⟩ := wL3_mem hy
    rw [(wMes_ok hW hab hb hi (show j' < wStp s b by omega) h2).2.2, (wMes_ok hW hab hb hi (show j < wStp s b by omega) h3).2.2]; omega
theorem wL1_pw {a b : Nat} (hW : wW s) (hab : a < b) (hb : b < wMny s) : ∀ i, i ≤ wStp s a → (wL1 s a b i).Pairwise (fun x y => wCode x < wCode y)
  | 0, _ => List.Pairwise.nil
  | i + 1, hi => by
    have hm := hW.mny1
    have s2 := hW.stp1 (a := b) (by omega)
    rw [wL1, List.pairwise_append]
    refine ⟨wL1_pw hW hab hb i (by omega), wL2_pw hW hab hb (by omega) _ (Nat.le_refl _), ?_⟩
    intro x hx y hy
    obtain ⟨i', j', t', h1, h2, h3, _, rfl⟩ := wL1_mem hx
    obtain ⟨j2, t2, h4, h5, _, rfl⟩ := wL2_mem hy
    rw [(wMes_ok hW hab hb (show i' < wStp s a by omega) h2 h3).2.2, (wMes_ok hW hab hb (show i < wStp s a by omega) h4 h5).2.2]; omega
theorem wAb_pw {a : Nat} (hW : wW s) : ∀ b, b ≤ wMny s → (wAb s a b).Pairwise (fun x y => wCode x < wCode y)
  | 0, _ => List.Pairwise.nil
  | b + 1, hb => by
    rw [wAb, List.pairwise_append]
    refine ⟨wAb_pw hW b (by omega), ?_, ?_⟩
    · split
      · rename_i hc; exact wL1_pw hW hc.1 (by omega) _ (Nat.le_refl _)
      · exact List.Pairwise.nil
    · intro x hx y hy
      split at hy
      · rename_i hc
        obtain ⟨k1, k2, k3⟩ := wAb_in (by omega) hx
        obtain ⟨m1, m2, m3⟩ := wSps_in hy hc.1 (by omega) hc.2.1 hc.2.2
        obtain ⟨o1, o2, o3, o4, o5, _⟩ := (k1.sp hW).1
        obtain ⟨p1, p2, p3, p4, p5, _⟩ := (m1.sp hW).1
        unfold wCode
        rw [k2, m2, m3]; omega
      · exact (nomatch hy)
theorem wAa_pw (hW : wW s) : ∀ a, (wAa s a).Pairwise (fun x y => wCode x < wCode y)
  | 0 => List.Pairwise.nil
  | a + 1 => by
    rw [wAa, List.pairwise_append]
    refine ⟨wAa_pw hW a, wAb_pw hW _ (Nat.le_refl _), ?_⟩
    intro x hx y hy
    obtain ⟨k1, k2⟩ := wAa_in hx
    obtain ⟨m1, m2, m3⟩ := wAb_in (Nat.le_refl _) hy
    obtain ⟨o1, o2, o3, o4, o5, _⟩ := (k1.sp hW).1
    obtain ⟨p1, p2, p3, p4, p5, _⟩ := (m1.sp hW).1
    unfold wCode
    rw [m2]; omega
theorem wFdl_ok {cap : Nat} : ∀ (L : List wSp) (l : wLs), wSrt l → l.1 + L.length ≤ cap → L.Pairwise (fun x y => wKey x ≠ wKey y) → (∀ k, k < l.1 → ∀ x ∈ L, wKey (l.2 k) ≠ wKey x) → wSrt (L.foldl (fun l x => wIns cap x l) l) ∧ (L.foldl (fun l x => wIns cap x l) l).1 = l.1 + L.length ∧ ∀ y, wMem y (L.foldl (fun l x => wIns cap x l) l) ↔ wMem y l ∨ y ∈ L
  | [], l, h, _, _, _ => ⟨h, rfl, fun y => by simp⟩
  | x :: t, l, h, hc, hp, hk => by
    rw [List.length_cons] at hc
    obtain ⟨p1, p2⟩ := List.pairwise_cons.mp hp
    have hl1 : (wIns cap x l).1 = l.1 + 1 := by show min (l.1 + 1) cap = _; omega
    have hm := fun y => wIns_mem (y := y) (x := x) (l := l) (cap := cap) (by omega)
    obtain ⟨i1, i2, i3⟩ := wFdl_ok (cap := cap) t (wIns cap x l) (wIns_srt h (fun k hk' => hk k hk' x (List.mem_cons_self ..))) (by omega) p2 (fun k hk' z hz => by
      have hmem : wMem ((wIns cap x l).2 k) (wIns cap x l) := ⟨k, hk', rfl⟩
      rcases (hm _).mp hmem with e | ⟨q, q1, q2⟩
      · rw [e]; exact p1 z hz
      · rw [← q2]; exact hk q q1 z (List.mem_cons_of_mem _ hz))
    refine ⟨i1, ?_, fun y => ?_⟩
    · show (t.foldl (fun l x => wIns cap x l) (wIns cap x l)).1 = _
      rw [i2, hl1, List.length_cons]; omega
    · show wMem y (t.foldl (fun l x => wIns cap x l) (wIns cap x l)) ↔ _
      rw [i3 y, hm y, List.mem_cons]
      constructor
      · rintro ((h | h) | h)
        · exact Or.inr (Or.inl h)
        · exact Or.inl h
        · exact Or.inr (Or.inr h)
      · rintro (h | h | h)
        · exact Or.inl (Or.inr h)
        · exact Or.inl (Or.inl h)
        · exact Or.inr h
theorem wFdl_all {cap : Nat} (hc : L.length ≤ cap) (hp : L.Pairwise (fun x y => wKey x ≠ wKey y)) : wSrt (wFdl cap L) ∧ (wFdl cap L).1 = L.length ∧ ∀ y, wMem y (wFdl cap L) ↔ y ∈ L := by
  obtain ⟨h1, h2, h3⟩ := wFdl_ok (cap := cap) L (0, fun _ => (0, 0, 0, 0, 0, 0, 0, 0)) (fun j k _ hk => absurd hk (Nat.not_lt_zero k)) (by show 0 + L.length ≤ cap; omega) hp (fun k hk => absurd hk (Nat.not_lt_zero k))
  refine ⟨h1, by unfold wFdl; rw [h2]; show 0 + L.length = _; omega, fun y => ?_⟩
  unfold wFdl
  rw [h3 y]
  constructor
  · rintro (⟨k, hk, _⟩ | h)
    · exact absurd hk (Nat.not_lt_zero k)
    · exact h
  · exact fun h => Or.inr h
/-- the span that begins at a step and is alone the longest there -/
def wGt (s : wG) (L : List wSp) (a i : Nat) : Option wSp := if (clA s L (20 * a + i)).2.1 = 1 ∧ ¬ (clA s L (20 * a + i)).2.2 = wM1 then some (wMes s a i ((clA s L (20 * a + i)).2.2.toNatClampNeg / 24 / 20) ((clA s L (20 * a + i)).2.2.toNatClampNeg / 24 % 20) ((clA s L (20 * a + i)).2.2.toNatClampNeg % 24)) else none
def wG1 (s : wG) (L : List wSp) (a i : Nat) : List wSp := match wGt s L a i with
  | some x => if wSol s L x = true then [x] else []
  | none => []
def wG2 (s : wG) (L : List wSp) (a : Nat) : Nat → List wSp
  | 0 => []
  | i + 1 => wG2 s L a i ++ wG1 s L a i
def wG3 (s : wG) (L : List wSp) : Nat → List wSp
  | 0 => []
  | a + 1 => wG3 s L a ++ wG2 s L a (wStp s a)
theorem wCd_dec (ok : wSpOk x) : wCd x < 100000 ∧ wCd x / 24 / 20 = spB x ∧ wCd x / 24 % 20 = spJ x ∧ wCd x % 24 = spT x := by
  obtain ⟨o1, o2, o3, o4, o5, o6⟩ := ok
  unfold wCd
  omega
theorem wGt_some {a i : Nat} (hW : wW s) (hL : ∀ z ∈ L, wOkC s z) (hi : i < 20) (h : wGt s L a i = some x) : x ∈ L ∧ spA x = a ∧ spI x = i ∧ (clA s L (20 * a + i)).2.2 = nI (wCd x) := by
  unfold wGt at h
  split at h
  · rename_i hc
    obtain ⟨c1, c2⟩ := hc
    obtain ⟨h1, h2, h3⟩ := clA_ok (s := s) (L := L) (fun z hz => ((hL z hz).sp hW).2.2.1) (20 * a + i)
    have hm : 0 < (clA s L (20 * a + i)).1 := by
      apply Classical.byContradiction
      intro hn
      have := clN_zero (s := s) (k := 20 * a + i) (m := (clA s L (20 * a + i)).1) L (fun y hy ho => by have g1 := h1 y hy ho; have g2 := ((hL y hy).sp hW).2.2.1; omega)
      omega
    obtain ⟨y, y1, y2, y3, y4⟩ := h3 hm
    have hk : 20 * a + i = 20 * spA y + spI y := by
      apply Classical.byContradiction
      intro hn
      rw [if_neg hn] at y4
      exact c2 y4
    have ok := ((hL y y1).sp hW).1
    obtain ⟨d0, d1, d2, d3⟩ := wCd_dec ok
    obtain ⟨o1, o2, o3, o4, o5, o6⟩ := ok
    have ea : spA y = a := by omega
    have ei : spI y = i := by omega
    rw [if_pos hk] at y4
    rw [y4, tcl (by omega), d1, d2, d3] at h
    have hy := (hL y y1).2.2.2.2.2.1
    rw [ea, ei] at hy
    rw [← hy] at h
    have e : y = x := Option.some.inj h
    subst e
    exact ⟨y1, ea, ei, y4⟩
  · exact (nomatch h)
theorem wGt_sole (hW : wW s) (hL : ∀ z ∈ L, wOkC s z) (hy : y ∈ L) (sy : wSol s L y = true) : wGt s L (spA y) (spI y) = some y := by
  obtain ⟨o1, o2, o3, o4, o5⟩ := (hL y hy).sp hW
  obtain ⟨f1, f2⟩ := wOn_first o4
  have hk := wOn_lt hW o4 f1
  obtain ⟨e1, e2⟩ := wSol_iff.mp sy _ hk f1
  obtain ⟨h1, h2, h3⟩ := clA_ok (s := s) (L := L) (fun z hz => ((hL z hz).sp hW).2.2.1) (20 * spA y + spI y)
  obtain ⟨z, z1, z2', z3, z4⟩ := h3 (by omega)
  have e : y = z := wSol_same hW hL hy z1 sy hk f1 z2' (by omega)
  subst e
  rw [if_pos rfl] at z4
  obtain ⟨d0, d1, d2, d3⟩ := wCd_dec o1
  unfold wGt
  rw [if_pos ⟨e2, by rw [z4, kI_ne_m1 (by omega)]; exact fun h => h⟩, z4, tcl (by omega), d1, d2, d3, ← (hL y hy).2.2.2.2.2.1]
theorem wG1_mem {a i : Nat} : y ∈ wG1 s L a i ↔ wGt s L a i = some y ∧ wSol s L y = true := by
  unfold wG1
  cases hg : wGt s L a i with
  | none => exact ⟨fun h => (nomatch h), fun h => (nomatch h.1)⟩
  | some x =>
    show y ∈ (if wSol s L x = true then [x] else []) ↔ _
    by_cases hs : wSol s L x = true
    · rw [if_pos hs]
      constructor
      · intro h
        have : y = x := by simpa using h
        subst this; exact ⟨rfl, hs⟩
      · intro h
        have : x = y := Option.some.inj h.1
        subst this; simp
    · rw [if_neg hs]
      constructor
      · intro h; exact (nomatch h)
      · intro h
        have : x = y := Option.some.inj h.1
        subst this; exact absurd h.2 hs
theorem wG2_mem {a : Nat} : ∀ {i : Nat}, y ∈ wG2 s L a i ↔ ∃ i', i' < i ∧ wGt s L a i' = some y ∧ wSol s L y = true
  | 0 => ⟨fun h => (nomatch h), fun ⟨i', h, _⟩ => absurd h (Nat.not_lt_zero i')⟩
  | i + 1 => by
    rw [wG2, List.mem_append, wG2_mem, wG1_mem]
    constructor
    · rintro (⟨i', h1, h2⟩ | h)
      · exact ⟨i', by omega, h2⟩
      · exact ⟨i, by omega, h⟩
    · rintro ⟨i', h1, h2⟩
      by_cases e : i' = i
      · subst e; exact Or.inr h2
      · exact Or.inl ⟨i', by omega, h2⟩
theorem wG3_mem : ∀ {a : Nat}, y ∈ wG3 s L a ↔ ∃ a' i', a' < a ∧ i' < wStp s a' ∧ wGt s L a' i' = some y ∧ wSol s L y = true
  | 0 => ⟨fun h => (nomatch h), fun ⟨a', _, h, _⟩ => absurd h (Nat.not_lt_zero a')⟩
  | a + 1 => by
    rw [wG3, List.mem_append, wG3_mem, wG2_mem]
    constructor
    · rintro (⟨a', i', h1, h2⟩ | ⟨i', h1, h2⟩)
      · exact ⟨a', i', by omega, h2⟩
      · exact ⟨a, i', by omega, h1, h2⟩
    · rintro ⟨a', i', h1, h2, h3⟩
      by_cases e : a' = a
      · subst e; exact Or.inr ⟨i', h2, h3⟩
      · exact Or.inl ⟨a', i', by omega, h2, h3⟩
theorem wG3_iff (hW : wW s) (hL : ∀ z ∈ L, wOkC s z) : y ∈ wG3 s L (wMny s) ↔ y ∈ L ∧ wSol s L y = true := by
  have hm := hW.mny1
  rw [wG3_mem]
  constructor
  · rintro ⟨a, i, h1, h2, h3, h4⟩
    have := hW.stp1 (a := a) (by omega)
    exact ⟨(wGt_some hW hL (by omega) h3).1, h4⟩
  · rintro ⟨h1, h2⟩
    have hc := hL y h1
    exact ⟨spA y, spI y, by have := hc.1; have := hc.2.1; omega, hc.2.2.1, wGt_sole hW hL h1 h2, h2⟩
theorem wG1_pw {a i : Nat} : (wG1 s L a i).Pairwise (fun x y => 20 * spA x + spI x < 20 * spA y + spI y) := by
  unfold wG1
  split
  · split
    · exact List.pairwise_singleton _ _
    · exact List.Pairwise.nil
  · exact List.Pairwise.nil
theorem wG2_pw {a : Nat} (hW : wW s) (hL : ∀ z ∈ L, wOkC s z) : ∀ i, i ≤ 20 → (wG2 s L a i).Pairwise (fun x y => 20 * spA x + spI x < 20 * spA y + spI y)
  | 0, _ => List.Pairwise.nil
  | i + 1, hi => by
    rw [wG2, List.pairwise_append]
    refine ⟨wG2_pw hW hL i (by omega), wG1_pw, ?_⟩
    intro x hx y hy
    obtain ⟨i', h1, h2, _⟩ := wG2_mem.mp hx
    obtain ⟨h3, _⟩ := wG1_mem.mp hy
    obtain ⟨_, e1, e2, _⟩ := wGt_some hW hL (by omega) h2
    obtain ⟨_, e3, e4, _⟩ := wGt_some hW hL (by omega) h3
    omega
theorem wG3_pw (hW : wW s) (hL : ∀ z ∈ L, wOkC s z) : ∀ a, a ≤ 12 → (wG3 s L a).Pairwise (fun x y => 20 * spA x + spI x < 20 * spA y + spI y)
  | 0, _ => List.Pairwise.nil
  | a + 1, ha => by
    have st := hW.stp1 (a := a) (by omega)
    rw [wG3, List.pairwise_append]
    refine ⟨wG3_pw hW hL a (by omega), wG2_pw hW hL _ st, ?_⟩
    intro x hx y hy
    obtain ⟨a', i', h1, h2, h3, _⟩ := wG3_mem.mp hx
    obtain ⟨i2, h4, h5, _⟩ := wG2_mem.mp hy
    have st' := hW.stp1 (a := a') (by omega)
    obtain ⟨_, e1, e2, _⟩ := wGt_some hW hL (by omega) h3
    obtain ⟨_, e3, e4, _⟩ := wGt_some hW hL (by omega) h5
    omega
theorem wSpa_ok : ∀ z ∈ wSpa s, wOkC s z := fun z hz => (wAa_in hz).1
/-- the sure spans in their order -/
def wSur (s : wG) : wLs := wFdl 120 (wG3 s (wSpa s) (wMny s))
theorem wSur_ok (hW : wW s) : (wSur s).1 ≤ 120 ∧ (wG3 s (wSpa s) (wMny s)).length ≤ 120 ∧ (∀ k, k < (wSur s).1 → (wSur s).2 k ∈ wSpa s) ∧ (wFdl 241 ((wSpa s).filter (wSol s (wSpa s)))).1 = (wSur s).1 ∧ ((wSpa s).filter (wSol s (wSpa s))).length ≤ 120 ∧ ∀ k, k < (wSur s).1 → (wFdl 241 ((wSpa s).filter (wSol s (wSpa s)))).2 k = (wSur s).2 k := by
  have hm := hW.mny1
  have hL := wSpa_ok (s := s)
  have iff := fun y => wG3_iff (y := y) hW hL
  have pc := wG3_pw hW hL (wMny s) hm
  have nc : (wG3 s (wSpa s) (wMny s)).Nodup := pc.imp (fun {x y} h e => by rw [e] at h; omega)
  have lc := wSol_120 hW hL _ nc (fun z hz => (iff z).mp hz)
  have kc : (wG3 s (wSpa s) (wMny s)).Pairwise (fun x y => wKey x ≠ wKey y) := by
    refine List.Pairwise.imp_of_mem ?_ pc
    intro x y hx hy h e
    have ox := ((hL x ((iff x).mp hx).1).sp hW).1
    have oy := ((hL y ((iff y).mp hy).1).sp hW).1
    obtain ⟨e1, e2, _⟩ := wCode_inj ox oy (wKey_code ox oy e)
    omega
  have pr : ((wSpa s).filter (wSol s (wSpa s))).Pairwise (fun x y => wCode x < wCode y) := List.Pairwise.filter _ (wAa_pw hW _)
  have nr : ((wSpa s).filter (wSol s (wSpa s))).Nodup := pr.imp (fun {x y} h e => by rw [e] at h; omega)
  have lr := wSol_120 hW hL _ nr (fun z hz => List.mem_filter.mp hz)
  have kr : ((wSpa s).filter (wSol s (wSpa s))).Pairwise (fun x y => wKey x ≠ wKey y) := by
    refine List.Pairwise.imp_of_mem ?_ pr
    intro x y hx hy h e
    have ox := ((hL x (List.mem_filter.mp hx).1).sp hW).1
    have oy := ((hL y (List.mem_filter.mp hy).1).sp hW).1
    have := wKey_code ox oy e
    omega
  obtain ⟨c1, c2, c3⟩ := wFdl_all (cap := 120) lc kc
  obtain ⟨r1, r2, r3⟩ := wFdl_all (cap := 241) (by omega) kr
  obtain ⟨u1, u2⟩ := wSrt_uniq r1 c1 (fun y => by rw [r3 y, c3 y, iff y, List.mem_filter])
  refine ⟨by unfold wSur; omega, lc, fun k hk => ?_, u1, lr, fun k hk => u2 k (by rw [u1]; exact hk)⟩
  exact ((iff _).mp ((c3 _).mp ⟨k, hk, rfl⟩)).1
end CN
