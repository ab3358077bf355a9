theorem zB2_inv {f : Int32 → Int32 → Int32} {st r : List Value} (h : zB2 f st = some r) : ∃ x y t, st = .int y :: .int x :: t ∧ r = .int (f x y) :: t := by
  unfold zB2 at h
  split at h
  · cases h; exact ⟨_, _, _, rfl, rfl⟩
  · cases h
theorem zD2_inv {f : Int32 → Int32 → Int32} {st r : List Value} (h : zD2 f st = some r) : ∃ x y t, st = .int y :: .int x :: t ∧ ¬ y = 0 ∧ r = .int (f x y) :: t := by
  unfold zD2 at h
  split at h
  · split at h
    · cases h
    · rename_i hn; cases h; exact ⟨_, _, _, rfl, hn, rfl⟩
  · cases h
theorem zB1_inv {f : Int32 → Value} {st r : List Value} (h : zB1 f st = some r) : ∃ x t, st = .int x :: t ∧ r = f x :: t := by
  unfold zB1 at h
  split at h
  · cases h; exact ⟨_, _, rfl, rfl⟩
  · cases h
theorem zE2_inv {f : Int64 → Int64 → Value} {st r : List Value} (h : zE2 f st = some r) : ∃ x y t, st = .long y :: .long x :: t ∧ r = f x y :: t := by
  unfold zE2 at h
  split at h
  · cases h; exact ⟨_, _, _, rfl, rfl⟩
  · cases h
theorem zE2d_inv {f : Int64 → Int64 → Int64} {st r : List Value} (h : zE2d f st = some r) : ∃ x y t, st = .long y :: .long x :: t ∧ ¬ y = 0 ∧ r = .long (f x y) :: t := by
  unfold zE2d at h
  split at h
  · split at h
    · cases h
    · rename_i hn; cases h; exact ⟨_, _, _, rfl, hn, rfl⟩
  · cases h
theorem zE1_inv {f : Int64 → Value} {st r : List Value} (h : zE1 f st = some r) : ∃ x t, st = .long x :: t ∧ r = f x :: t := by
  unfold zE1 at h
  split at h
  · cases h; exact ⟨_, _, rfl, rfl⟩
  · cases h
theorem zEs_inv {f : Int64 → Int32 → Int64} {st r : List Value} (h : zEs f st = some r) : ∃ x y t, st = .int y :: .long x :: t ∧ r = .long (f x y) :: t := by
  unfold zEs at h
  split at h
  · cases h; exact ⟨_, _, _, rfl, rfl⟩
  · cases h
theorem zDup_inv {st r : List Value} (h : zDup st = some r) : ∃ v t, st = v :: t ∧ v.category = 1 ∧ r = v :: v :: t := by
  unfold zDup at h
  split at h
  · split at h
    · rename_i hn; cases h; exact ⟨_, _, rfl, hn, rfl⟩
    · cases h
  · cases h
theorem zDup2_inv {st r : List Value} (h : zDup2 st = some r) : ∃ v w t, st = v :: w :: t ∧ v.category = 1 ∧ w.category = 1 ∧ r = v :: w :: v :: w :: t := by
  unfold zDup2 at h
  split at h
  · split at h
    · rename_i hn; cases h; exact ⟨_, _, _, rfl, hn.1, hn.2, rfl⟩
    · cases h
  · cases h
theorem zPop_inv {st r : List Value} (h : zPop st = some r) : ∃ v, st = v :: r ∧ v.category = 1 := by
  unfold zPop at h
  split at h
  · split at h
    · rename_i hn; cases h; exact ⟨_, rfl, hn⟩
    · cases h
  · cases h
theorem zLdI_inv {L : List (Option Value)} {k : Nat} {v : Value} (h : zLdI L k = some v) : ∃ x, v = .int x ∧ zGet L k = some (.int x) := by
  unfold zLdI at h
  split at h
  · rename_i x hx; cases h; exact ⟨_, rfl, hx⟩
  · cases h
theorem zLdL_inv {L : List (Option Value)} {k : Nat} {v : Value} (h : zLdL L k = some v) : ∃ x, v = .long x ∧ zGet L k = some (.long x) := by
  unfold zLdL at h
  split at h
  · rename_i x hx; cases h; exact ⟨_, rfl, hx⟩
  · cases h
theorem zLdA_inv {L : List (Option Value)} {k : Nat} {v : Value} (h : zLdA L k = some v) : ∃ x, v = .ref x ∧ zGet L k = some (.ref x) := by
  unfold zLdA at h
  split at h
  · rename_i x hx; cases h; exact ⟨_, rfl, hx⟩
  · cases h
theorem zStI_inv {L : List (Option Value)} {k : Nat} {st : List Value} {q : List (Option Value) × List Value} (h : zStI L k st = some q) : ∃ x, st = .int x :: q.2 ∧ k < L.length ∧ q.1 = zSet1 L k (.int x) := by
  unfold zStI at h
  split at h
  · split at h
    · rename_i hn; cases h; exact ⟨_, rfl, hn, rfl⟩
    · cases h
  · cases h
theorem zStA_inv {L : List (Option Value)} {k : Nat} {st : List Value} {q : List (Option Value) × List Value} (h : zStA L k st = some q) : ∃ x, st = .ref x :: q.2 ∧ k < L.length ∧ q.1 = zSet1 L k (.ref x) := by
  unfold zStA at h
  split at h
  · split at h
    · rename_i hn; cases h; exact ⟨_, rfl, hn, rfl⟩
    · cases h
  · cases h
theorem zStL_inv {L : List (Option Value)} {k : Nat} {st : List Value} {q : List (Option Value) × List Value} (h : zStL L k st = some q) : ∃ x, st = .long x :: q.2 ∧ k + 1 < L.length ∧ q.1 = zSet2 L k (.long x) := by
  unfold zStL at h
  split at h
  · split at h
    · rename_i hn; cases h; exact ⟨_, rfl, hn, rfl⟩
    · cases h
  · cases h
theorem zInc_inv {L L' : List (Option Value)} {k : Nat} {n : Int} (h : zInc L k n = some L') : ∃ x, zGet L k = some (.int x) ∧ k < L.length ∧ L' = zSet1 L k (.int (x + Int32.ofInt n)) := by
  unfold zInc at h
  split at h
  · rename_i x hx
    split at h
    · rename_i hn; cases h; exact ⟨_, hx, hn, rfl⟩
    · cases h
  · cases h
theorem zJmp_inv {pc t : Nat} {off : Int} (h : zJmp pc off = some t) : (pc : Int) + off = (t : Int) := by
  unfold zJmp at h
  split at h
  · rename_i hn; cases h; omega
  · cases h
theorem zOTs_lt {o : Nat} {e : Nat × Nat} (h : e ∈ zOTs.getD o []) : o < 15 := by
  by_cases ho : o < 15
  · exact ho
  · have : zOTs.getD o [] = [] := by
      rw [List.getD_eq_getElem?_getD, List.getElem?_eq_none (by show zOTs.length ≤ o; exact Nat.not_lt.mp ho)]; rfl
    rw [this] at h
    exact absurd h List.not_mem_nil
theorem zLTs_lt {o : Nat} {e : Nat × Int32 × Nat} (h : e ∈ zLTs.getD o []) : o < 15 := by
  by_cases ho : o < 15
  · exact ho
  · have : zLTs.getD o [] = [] := by
      rw [List.getD_eq_getElem?_getD, List.getElem?_eq_none (by show zLTs.length ≤ o; exact Nat.not_lt.mp ho)]; rfl
    rw [this] at h
    exact absurd h List.not_mem_nil
theorem zLLTs_lt {o : Nat} {e : Nat × Int64 × Nat} (h : e ∈ zLLTs.getD o []) : o < 15 := by
  by_cases ho : o < 15
  · exact ho
  · have : zLLTs.getD o [] = [] := by
      rw [List.getD_eq_getElem?_getD, List.getElem?_eq_none (by show zLLTs.length ≤ o; exact Nat.not_lt.mp ho)]; rfl
    rw [this] at h
    exact absurd h List.not_mem_nil
theorem zLdc_mem {o k : Nat} {q : Nat × Int32 × Nat} (h : zLdc o k = some q) : Cond.constant (zOn o) k q.2.1 ∈ zW := by
  unfold zLdc at h
  have hm := List.mem_of_find?_eq_some h
  have hp := List.find?_some h
  simp only [beq_iff_eq] at hp
  have hok := List.all_eq_true.mp (zAll15 zLdc_ok (zLTs_lt hm)) q hm
  rw [hp] at hok
  exact zAt_mem hok
theorem zLdl_mem {o k : Nat} {q : Nat × Int64 × Nat} (h : zLdl o k = some q) : Cond.constantLong (zOn o) k q.2.1 ∈ zW := by
  unfold zLdl at h
  have hm := List.mem_of_find?_eq_some h
  have hp := List.find?_some h
  simp only [beq_iff_eq] at hp
  have hok := List.all_eq_true.mp (zAll15 zLdl_ok (zLLTs_lt hm)) q hm
  rw [hp] at hok
  exact zAt_mem hok
theorem zObj_mem {o k : Nat} {q : Nat × Nat} (h : zObj o k = some q) : Cond.methodLink (zOn o) k objectInit ∈ zW := by
  unfold zObj at h
  have hm := List.mem_of_find?_eq_some h
  have hp := List.find?_some h
  simp only [beq_iff_eq] at hp
  have hok := List.all_eq_true.mp (zAll15 zObj_ok (zOTs_lt hm)) q hm
  rw [hp] at hok
  exact zAt_mem hok
section ZSTEP
variable {base : Nat} {sd : Nat → Nat} {cA : Nat → ClassId} {D : va_G} {L0 : Nat} {xs : Nat → Int32}
variable {p : Program} {l : Launch} {e : Env} {R : Room} {s : State} {m : MethodId} {args : Array Value} {below : List Frame} {meth : Method} {c : Code} {H : Heap} {locs : List Loc} {cells slots : Nat} {Q : State → Prop} {y pc : Nat} {ls : Array Slot} {rest : List Value} {M M' : zM}
theorem zSum (st : List Value) (ad : Nat → Nat) : ((st.map (zV ad)).map fun v => v.category).sum = (st.map Value.category).sum := by
  rw [List.map_map]
  congr 1
  apply List.map_congr_left
  intro v _
  exact zV_cat ad v
set_option maxHeartbeats 4000000 in
theorem zStep_sound {i : Instr} {len pc' : Nat} {L L' : List (Option Value)} {st st' : List Value} (cx : zCx base sd cA D L0 xs p s m args meth c y) (hH : zHp base sd cA D L0 xs M H) (hS : va_S (fun q => base ≤ q) s.heap H locs) (hbs : base ≤ s.heap.size) (hRf : zFr y ≤ R.frames) (hRl : zLo y ≤ R.locals)
    (hd : decode (zB y) pc = .ok (i, len)) (hol : zOkl i len = true) (hL : zLs (zAd base sd) ls (zL y) L) (hs : zStep y i len pc L st M = some (pc', L', st', M')) (hcells : cells + (zN M' - zN M) ≤ R.cells) (hslots : slots + (zZ M' - zZ M) ≤ R.slots)
    (kk : ∀ (H1 : Heap) (locs1 : List Loc) (ls1 : Array Slot) (c1 z1 : Nat), c1 = cells + (zN M' - zN M) → z1 = slots + (zZ M' - zZ M) → zHp base sd cA D L0 xs M' H1 → va_S (fun q => base ≤ q) s.heap H1 locs1 → zLs (zAd base sd) ls1 (zL y) L' → W p l e R s m args below meth c H1 locs1 c1 z1 Q (F0 m pc' ls1 (st'.map (zV (zAd base sd))))) :
    W p l e R s m args below meth c H locs cells slots Q (F0 m pc ls (st.map (zV (zAd base sd)))) := by
  have hx := cx.1
  have hb := cx.2.1
  have hown := cx.2.2.2.1
  have hts := cx.2.2.2.2.1
  have e0 : ∀ n k : Nat, n = n + (k - k) := fun n k => by omega
  have gl : ∀ {k : Nat} {v : Value}, zGet L k = some v → ls[k]? = some (.val (zV (zAd base sd) v)) := fun h => hL.2.2.2 _ _ h
  cases i with
  | iconst n =>
    simp only [zStep, Option.some.injEq, Prod.mk.injEq] at hs
    obtain ⟨rfl, rfl, rfl, rfl⟩ := hs
    obtain rfl : 1 = len := by simp only [zOkl, zLen, Bool.or_eq_true, beq_iff_eq] at hol; omega
    exact lv_iconst hx hb hd rfl (kk H locs ls cells slots (e0 _ _) (e0 _ _) hH hS hL)
  | bipush n =>
    simp only [zStep, Option.some.injEq, Prod.mk.injEq] at hs
    obtain ⟨rfl, rfl, rfl, rfl⟩ := hs
    obtain rfl : 2 = len := by simp only [zOkl, zLen, Bool.or_eq_true, beq_iff_eq] at hol; omega
    exact lv_bipush hx hb hd rfl (kk H locs ls cells slots (e0 _ _) (e0 _ _) hH hS hL)
  | sipush n =>
    simp only [zStep, Option.some.injEq, Prod.mk.injEq] at hs
    obtain ⟨rfl, rfl, rfl, rfl⟩ := hs
    obtain rfl : 3 = len := by simp only [zOkl, zLen, Bool.or_eq_true, beq_iff_eq] at hol; omega
    exact lv_sipush hx hb hd rfl (kk H locs ls cells slots (e0 _ _) (e0 _ _) hH hS hL)
  | lconst n =>
    simp only [zStep, Option.some.injEq, Prod.mk.injEq] at hs
    obtain ⟨rfl, rfl, rfl, rfl⟩ := hs
    obtain rfl : 1 = len := by simp only [zOkl, zLen, Bool.or_eq_true, beq_iff_eq] at hol; omega
    exact lv_lconst hx hb hd rfl (kk H locs ls cells slots (e0 _ _) (e0 _ _) hH hS hL)
  | ldc k =>
    simp only [zStep] at hs
    obtain ⟨q, hq, he⟩ := Option.map_eq_some_iff.mp hs
    cases he
    obtain rfl : 2 = len := by simp only [zOkl, zLen, Bool.or_eq_true, beq_iff_eq] at hol; omega
    exact lv_ldc hx hb hown (hts _ (zLdc_mem hq)) hd (kk H locs ls cells slots (e0 _ _) (e0 _ _) hH hS hL)
  | ldc_w k =>
    simp only [zStep] at hs
    obtain ⟨q, hq, he⟩ := Option.map_eq_some_iff.mp hs
    cases he
    obtain rfl : 3 = len := by simp only [zOkl, zLen, Bool.or_eq_true, beq_iff_eq] at hol; omega
    exact lv_ldcw hx hb hown (hts _ (zLdc_mem hq)) hd (kk H locs ls cells slots (e0 _ _) (e0 _ _) hH hS hL)
  | ldc2_w k =>
    simp only [zStep] at hs
    obtain ⟨q, hq, he⟩ := Option.map_eq_some_iff.mp hs
    cases he
    obtain rfl : 3 = len := by simp only [zOkl, zLen, Bool.or_eq_true, beq_iff_eq] at hol; omega
    exact lv_ldc2 hx hb hown (hts _ (zLdl_mem hq)) hd (kk H locs ls cells slots (e0 _ _) (e0 _ _) hH hS hL)
  | iload k =>
    simp only [zStep] at hs
    obtain ⟨q, hq, he⟩ := Option.map_eq_some_iff.mp hs
    cases he
    obtain ⟨x, rfl, hg⟩ := zLdI_inv hq
    obtain rfl : 2 = len := by simp only [zOkl, zLen, Bool.or_eq_true, beq_iff_eq] at hol; omega
    exact lv_iload hx hb hd (gl hg) (kk H locs ls cells slots (e0 _ _) (e0 _ _) hH hS hL)
  | iload_n k =>
    simp only [zStep] at hs
    obtain ⟨q, hq, he⟩ := Option.map_eq_some_iff.mp hs
    cases he
    obtain ⟨x, rfl, hg⟩ := zLdI_inv hq
    obtain rfl : 1 = len := by simp only [zOkl, zLen, Bool.or_eq_true, beq_iff_eq] at hol; omega
    exact lv_iload_n hx hb hd rfl (gl hg) (kk H locs ls cells slots (e0 _ _) (e0 _ _) hH hS hL)
  | lload k =>
    simp only [zStep] at hs
    obtain ⟨q, hq, he⟩ := Option.map_eq_some_iff.mp hs
    cases he
    obtain ⟨x, rfl, hg⟩ := zLdL_inv hq
    obtain rfl : 2 = len := by simp only [zOkl, zLen, Bool.or_eq_true, beq_iff_eq] at hol; omega
    exact lv_lload hx hb hd (gl hg) (kk H locs ls cells slots (e0 _ _) (e0 _ _) hH hS hL)
  | lload_n k =>
    simp only [zStep] at hs
    obtain ⟨q, hq, he⟩ := Option.map_eq_some_iff.mp hs
    cases he
    obtain ⟨x, rfl, hg⟩ := zLdL_inv hq
    obtain rfl : 1 = len := by simp only [zOkl, zLen, Bool.or_eq_true, beq_iff_eq] at hol; omega
    exact lv_lload_n hx hb hd rfl (gl hg) (kk H locs ls cells slots (e0 _ _) (e0 _ _) hH hS hL)
  | aload k =>
    simp only [zStep] at hs
    obtain ⟨q, hq, he⟩ := Option.map_eq_some_iff.mp hs
    cases he
    obtain ⟨x, rfl, hg⟩ := zLdA_inv hq
    obtain rfl : 2 = len := by simp only [zOkl, zLen, Bool.or_eq_true, beq_iff_eq] at hol; omega
    exact lv_aload hx hb hd (gl hg) (kk H locs ls cells slots (e0 _ _) (e0 _ _) hH hS hL)
  | aload_n k =>
    simp only [zStep] at hs
    obtain ⟨q, hq, he⟩ := Option.map_eq_some_iff.mp hs
    cases he
    obtain ⟨x, rfl, hg⟩ := zLdA_inv hq
    obtain rfl : 1 = len := by simp only [zOkl, zLen, Bool.or_eq_true, beq_iff_eq] at hol; omega
    exact lv_aload_n hx hb hd rfl (gl hg) (kk H locs ls cells slots (e0 _ _) (e0 _ _) hH hS hL)
  | istore k =>
    simp only [zStep] at hs
    obtain ⟨q, hq, he⟩ := Option.map_eq_some_iff.mp hs
    obtain ⟨q1, q2⟩ := q
    cases he
    obtain ⟨x, rfl, hk, rfl⟩ := zStI_inv hq
    rw [hL.2.1] at hk
    obtain rfl : 2 = len := by simp only [zOkl, zLen, Bool.or_eq_true, beq_iff_eq] at hol; omega
    exact lv_istore hx hb hd hL.has hk rfl (fun ls' h' => kk H locs ls' cells slots (e0 _ _) (e0 _ _) hH hS (hL.set1 (w := .int x) h'))
  | istore_n k =>
    simp only [zStep] at hs
    obtain ⟨q, hq, he⟩ := Option.map_eq_some_iff.mp hs
    obtain ⟨q1, q2⟩ := q
    cases he
    obtain ⟨x, rfl, hk, rfl⟩ := zStI_inv hq
    rw [hL.2.1] at hk
    obtain rfl : 1 = len := by simp only [zOkl, zLen, Bool.or_eq_true, beq_iff_eq] at hol; omega
    exact lv_istore_n hx hb hd rfl hL.has hk rfl (fun ls' h' => kk H locs ls' cells slots (e0 _ _) (e0 _ _) hH hS (hL.set1 (w := .int x) h'))
  | astore k =>
    simp only [zStep] at hs
    obtain ⟨q, hq, he⟩ := Option.map_eq_some_iff.mp hs
    obtain ⟨q1, q2⟩ := q
    cases he
    obtain ⟨x, rfl, hk, rfl⟩ := zStA_inv hq
    rw [hL.2.1] at hk
    obtain rfl : 2 = len := by simp only [zOkl, zLen, Bool.or_eq_true, beq_iff_eq] at hol; omega
    exact lv_astore hx hb hd hL.has hk rfl (fun ls' h' => kk H locs ls' cells slots (e0 _ _) (e0 _ _) hH hS (hL.set1 (w := .ref x) h'))
  | astore_n k =>
    simp only [zStep] at hs
    obtain ⟨q, hq, he⟩ := Option.map_eq_some_iff.mp hs
    obtain ⟨q1, q2⟩ := q
    cases he
    obtain ⟨x, rfl, hk, rfl⟩ := zStA_inv hq
    rw [hL.2.1] at hk
    obtain rfl : 1 = len := by simp only [zOkl, zLen, Bool.or_eq_true, beq_iff_eq] at hol; omega
    exact lv_astore_n hx hb hd rfl hL.has hk rfl (fun ls' h' => kk H locs ls' cells slots (e0 _ _) (e0 _ _) hH hS (hL.set1 (w := .ref x) h'))
  | lstore k =>
    simp only [zStep] at hs
    obtain ⟨q, hq, he⟩ := Option.map_eq_some_iff.mp hs
    obtain ⟨q1, q2⟩ := q
    cases he
    obtain ⟨x, rfl, hk, rfl⟩ := zStL_inv hq
    rw [hL.2.1] at hk
    obtain rfl : 2 = len := by simp only [zOkl, zLen, Bool.or_eq_true, beq_iff_eq] at hol; omega
    exact lv_lstore hx hb hd hL.has hk rfl (fun ls' h' => kk H locs ls' cells slots (e0 _ _) (e0 _ _) hH hS (hL.set2 (w := .long x) h'))
  | lstore_n k =>
    simp only [zStep] at hs
    obtain ⟨q, hq, he⟩ := Option.map_eq_some_iff.mp hs
    obtain ⟨q1, q2⟩ := q
    cases he
    obtain ⟨x, rfl, hk, rfl⟩ := zStL_inv hq
    rw [hL.2.1] at hk
    obtain rfl : 1 = len := by simp only [zOkl, zLen, Bool.or_eq_true, beq_iff_eq] at hol; omega
    exact lv_lstore_n hx hb hd rfl hL.has hk rfl (fun ls' h' => kk H locs ls' cells slots (e0 _ _) (e0 _ _) hH hS (hL.set2 (w := .long x) h'))
  | iinc k n =>
    simp only [zStep] at hs
    obtain ⟨q, hq, he⟩ := Option.map_eq_some_iff.mp hs
    cases he
    obtain ⟨x, hg, hk, rfl⟩ := zInc_inv hq
    rw [hL.2.1] at hk
    obtain ⟨k9, hk9⟩ := List.getElem?_of_mem (zLv_mem (ad := zAd base sd) hg)
    have h36 : len = 3 ∨ len = 6 := by simpa only [zOkl, Bool.or_eq_true, beq_iff_eq] using hol
    rcases h36 with rfl | rfl
    · exact lv_iinc hx hb hd hL.has hk9 rfl hk rfl (fun ls' h' => kk H locs ls' cells slots (e0 _ _) (e0 _ _) hH hS (hL.set1 (w := .int (x + Int32.ofInt n)) h'))
    · exact lv_iincW hx hb hd hL.has hk9 rfl hk rfl (fun ls' h' => kk H locs ls' cells slots (e0 _ _) (e0 _ _) hH hS (hL.set1 (w := .int (x + Int32.ofInt n)) h'))
  | iadd =>
    simp only [zStep] at hs
    obtain ⟨q, hq, he⟩ := Option.map_eq_some_iff.mp hs
    cases he
    obtain ⟨x, w, t, rfl, rfl⟩ := zB2_inv hq
    obtain rfl : 1 = len := by simp only [zOkl, zLen, Bool.or_eq_true, beq_iff_eq] at hol; omega
    exact lv_iadd hx hb hd (kk H locs ls cells slots (e0 _ _) (e0 _ _) hH hS hL)
  | isub =>
    simp only [zStep] at hs
    obtain ⟨q, hq, he⟩ := Option.map_eq_some_iff.mp hs
    cases he
    obtain ⟨x, w, t, rfl, rfl⟩ := zB2_inv hq
    obtain rfl : 1 = len := by simp only [zOkl, zLen, Bool.or_eq_true, beq_iff_eq] at hol; omega
    exact lv_isub hx hb hd (kk H locs ls cells slots (e0 _ _) (e0 _ _) hH hS hL)
  | imul =>
    simp only [zStep] at hs
    obtain ⟨q, hq, he⟩ := Option.map_eq_some_iff.mp hs
    cases he
    obtain ⟨x, w, t, rfl, rfl⟩ := zB2_inv hq
    obtain rfl : 1 = len := by simp only [zOkl, zLen, Bool.or_eq_true, beq_iff_eq] at hol; omega
    exact lv_imul hx hb hd (kk H locs ls cells slots (e0 _ _) (e0 _ _) hH hS hL)
  | iand =>
    simp only [zStep] at hs
    obtain ⟨q, hq, he⟩ := Option.map_eq_some_iff.mp hs
    cases he
    obtain ⟨x, w, t, rfl, rfl⟩ := zB2_inv hq
    obtain rfl : 1 = len := by simp only [zOkl, zLen, Bool.or_eq_true, beq_iff_eq] at hol; omega
    exact lv_iand hx hb hd (kk H locs ls cells slots (e0 _ _) (e0 _ _) hH hS hL)
  | ior =>
    simp only [zStep] at hs
    obtain ⟨q, hq, he⟩ := Option.map_eq_some_iff.mp hs
    cases he
    obtain ⟨x, w, t, rfl, rfl⟩ := zB2_inv hq
    obtain rfl : 1 = len := by simp only [zOkl, zLen, Bool.or_eq_true, beq_iff_eq] at hol; omega
    exact lv_ior hx hb hd (kk H locs ls cells slots (e0 _ _) (e0 _ _) hH hS hL)
  | ixor =>
    simp only [zStep] at hs
    obtain ⟨q, hq, he⟩ := Option.map_eq_some_iff.mp hs
    cases he
    obtain ⟨x, w, t, rfl, rfl⟩ := zB2_inv hq
    obtain rfl : 1 = len := by simp only [zOkl, zLen, Bool.or_eq_true, beq_iff_eq] at hol; omega
    exact lv_ixor hx hb hd (kk H locs ls cells slots (e0 _ _) (e0 _ _) hH hS hL)
  | ishr =>
    simp only [zStep] at hs
    obtain ⟨q, hq, he⟩ := Option.map_eq_some_iff.mp hs
    cases he
    obtain ⟨x, w, t, rfl, rfl⟩ := zB2_inv hq
    obtain rfl : 1 = len := by simp only [zOkl, zLen, Bool.or_eq_true, beq_iff_eq] at hol; omega
    exact lv_ishr hx hb hd (kk H locs ls cells slots (e0 _ _) (e0 _ _) hH hS hL)
  | idiv =>
    simp only [zStep] at hs
    obtain ⟨q, hq, he⟩ := Option.map_eq_some_iff.mp hs
    cases he
    obtain ⟨x, w, t, rfl, hne, rfl⟩ := zD2_inv hq
    obtain rfl : 1 = len := by simp only [zOkl, zLen, Bool.or_eq_true, beq_iff_eq] at hol; omega
    exact lv_idiv hx hb hd hne (kk H locs ls cells slots (e0 _ _) (e0 _ _) hH hS hL)
  | irem =>
    simp only [zStep] at hs
    obtain ⟨q, hq, he⟩ := Option.map_eq_some_iff.mp hs
    cases he
    obtain ⟨x, w, t, rfl, hne, rfl⟩ := zD2_inv hq
    obtain rfl : 1 = len := by simp only [zOkl, zLen, Bool.or_eq_true, beq_iff_eq] at hol; omega
    exact lv_irem hx hb hd hne (kk H locs ls cells slots (e0 _ _) (e0 _ _) hH hS hL)
  | ineg =>
    simp only [zStep] at hs
    obtain ⟨q, hq, he⟩ := Option.map_eq_some_iff.mp hs
    cases he
    obtain ⟨x, t, rfl, rfl⟩ := zB1_inv hq
    obtain rfl : 1 = len := by simp only [zOkl, zLen, Bool.or_eq_true, beq_iff_eq] at hol; omega
    exact lv_ineg hx hb hd (kk H locs ls cells slots (e0 _ _) (e0 _ _) hH hS hL)
  | i2l =>
    simp only [zStep] at hs
    obtain ⟨q, hq, he⟩ := Option.map_eq_some_iff.mp hs
    cases he
    obtain ⟨x, t, rfl, rfl⟩ := zB1_inv hq
    obtain rfl : 1 = len := by simp only [zOkl, zLen, Bool.or_eq_true, beq_iff_eq] at hol; omega
    exact lv_i2l hx hb hd rfl (kk H locs ls cells slots (e0 _ _) (e0 _ _) hH hS hL)
  | ladd =>
    simp only [zStep] at hs
    obtain ⟨q, hq, he⟩ := Option.map_eq_some_iff.mp hs
    cases he
    obtain ⟨x, w, t, rfl, rfl⟩ := zE2_inv hq
    obtain rfl : 1 = len := by simp only [zOkl, zLen, Bool.or_eq_true, beq_iff_eq] at hol; omega
    exact lv_ladd hx hb hd (kk H locs ls cells slots (e0 _ _) (e0 _ _) hH hS hL)
  | lsub =>
    simp only [zStep] at hs
    obtain ⟨q, hq, he⟩ := Option.map_eq_some_iff.mp hs
    cases he
    obtain ⟨x, w, t, rfl, rfl⟩ := zE2_inv hq
    obtain rfl : 1 = len := by simp only [zOkl, zLen, Bool.or_eq_true, beq_iff_eq] at hol; omega
    exact lv_lsub hx hb hd (kk H locs ls cells slots (e0 _ _) (e0 _ _) hH hS hL)
  | lmul =>
    simp only [zStep] at hs
    obtain ⟨q, hq, he⟩ := Option.map_eq_some_iff.mp hs
    cases he
    obtain ⟨x, w, t, rfl, rfl⟩ := zE2_inv hq
    obtain rfl : 1 = len := by simp only [zOkl, zLen, Bool.or_eq_true, beq_iff_eq] at hol; omega
    exact lv_lmul hx hb hd (kk H locs ls cells slots (e0 _ _) (e0 _ _) hH hS hL)
  | lxor =>
    simp only [zStep] at hs
    obtain ⟨q, hq, he⟩ := Option.map_eq_some_iff.mp hs
    cases he
    obtain ⟨x, w, t, rfl, rfl⟩ := zE2_inv hq
    obtain rfl : 1 = len := by simp only [zOkl, zLen, Bool.or_eq_true, beq_iff_eq] at hol; omega
    exact lv_lxor hx hb hd (kk H locs ls cells slots (e0 _ _) (e0 _ _) hH hS hL)
  | lcmp =>
    simp only [zStep] at hs
    obtain ⟨q, hq, he⟩ := Option.map_eq_some_iff.mp hs
    cases he
    obtain ⟨x, w, t, rfl, rfl⟩ := zE2_inv hq
    obtain rfl : 1 = len := by simp only [zOkl, zLen, Bool.or_eq_true, beq_iff_eq] at hol; omega
    exact W.lcmp hx hb hd (kk H locs ls cells slots (e0 _ _) (e0 _ _) hH hS hL)
  | ldiv =>
    simp only [zStep] at hs
    obtain ⟨q, hq, he⟩ := Option.map_eq_some_iff.mp hs
    cases he
    obtain ⟨x, w, t, rfl, hne, rfl⟩ := zE2d_inv hq
    obtain rfl : 1 = len := by simp only [zOkl, zLen, Bool.or_eq_true, beq_iff_eq] at hol; omega
    exact lv_ldiv hx hb hd hne (kk H locs ls cells slots (e0 _ _) (e0 _ _) hH hS hL)
  | lneg =>
    simp only [zStep] at hs
    obtain ⟨q, hq, he⟩ := Option.map_eq_some_iff.mp hs
    cases he
    obtain ⟨x, t, rfl, rfl⟩ := zE1_inv hq
    obtain rfl : 1 = len := by simp only [zOkl, zLen, Bool.or_eq_true, beq_iff_eq] at hol; omega
    exact lv_lneg hx hb hd (kk H locs ls cells slots (e0 _ _) (e0 _ _) hH hS hL)
  | l2i =>
    simp only [zStep] at hs
    obtain ⟨q, hq, he⟩ := Option.map_eq_some_iff.mp hs
    cases he
    obtain ⟨x, t, rfl, rfl⟩ := zE1_inv hq
    obtain rfl : 1 = len := by simp only [zOkl, zLen, Bool.or_eq_true, beq_iff_eq] at hol; omega
    exact lv_l2i hx hb hd rfl (kk H locs ls cells slots (e0 _ _) (e0 _ _) hH hS hL)
  | lshl =>
    simp only [zStep] at hs
    obtain ⟨q, hq, he⟩ := Option.map_eq_some_iff.mp hs
    cases he
    obtain ⟨x, w, t, rfl, rfl⟩ := zEs_inv hq
    obtain rfl : 1 = len := by simp only [zOkl, zLen, Bool.or_eq_true, beq_iff_eq] at hol; omega
    exact lv_lshl hx hb hd rfl (kk H locs ls cells slots (e0 _ _) (e0 _ _) hH hS hL)
  | lshr =>
    simp only [zStep] at hs
    obtain ⟨q, hq, he⟩ := Option.map_eq_some_iff.mp hs
    cases he
    obtain ⟨x, w, t, rfl, rfl⟩ := zEs_inv hq
    obtain rfl : 1 = len := by simp only [zOkl, zLen, Bool.or_eq_true, beq_iff_eq] at hol; omega
    exact lv_lshr hx hb hd rfl (kk H locs ls cells slots (e0 _ _) (e0 _ _) hH hS hL)
  | dup =>
    simp only [zStep] at hs
    obtain ⟨q, hq, he⟩ := Option.map_eq_some_iff.mp hs
    cases he
    obtain ⟨v, t, rfl, hv, rfl⟩ := zDup_inv hq
    obtain rfl : 1 = len := by simp only [zOkl, zLen, Bool.or_eq_true, beq_iff_eq] at hol; omega
    exact lv_dup hx hb hd (by rw [zV_cat]; exact hv) (kk H locs ls cells slots (e0 _ _) (e0 _ _) hH hS hL)
  | dup2 =>
    simp only [zStep] at hs
    obtain ⟨q, hq, he⟩ := Option.map_eq_some_iff.mp hs
    cases he
    obtain ⟨v, w, t, rfl, hv, hw, rfl⟩ := zDup2_inv hq
    obtain rfl : 1 = len := by simp only [zOkl, zLen, Bool.or_eq_true, beq_iff_eq] at hol; omega
    exact lv_dup2_11 hx hb hd (by rw [zV_cat]; exact hv) (by rw [zV_cat]; exact hw) (kk H locs ls cells slots (e0 _ _) (e0 _ _) hH hS hL)
  | pop =>
    simp only [zStep] at hs
    obtain ⟨q, hq, he⟩ := Option.map_eq_some_iff.mp hs
    cases he
    obtain ⟨v, rfl, hv⟩ := zPop_inv hq
    obtain rfl : 1 = len := by simp only [zOkl, zLen, Bool.or_eq_true, beq_iff_eq] at hol; omega
    exact lv_pop hx hb hd (by rw [zV_cat]; exact hv) (kk H locs ls cells slots (e0 _ _) (e0 _ _) hH hS hL)
  | goto off =>
    simp only [zStep] at hs
    obtain ⟨q, hq, he⟩ := Option.map_eq_some_iff.mp hs
    cases he
    obtain rfl : 3 = len := by simp only [zOkl, zLen, Bool.or_eq_true, beq_iff_eq] at hol; omega
    exact lv_goto hx hb hd (zJmp_inv hq) (kk H locs ls cells slots (e0 _ _) (e0 _ _) hH hS hL)
  | ifCond cd off =>
    simp only [zStep] at hs
    obtain ⟨q, hq, he⟩ := Option.map_eq_some_iff.mp hs
    cases he
    obtain rfl : 3 = len := by simp only [zOkl, zLen, Bool.or_eq_true, beq_iff_eq] at hol; omega
    unfold zIf at hq
    split at hq
    · rename_i x r
      obtain ⟨t, ht, hq⟩ := Option.map_eq_some_iff.mp hq
      have ht := zJmp_inv ht
      cases cd
      · refine lv_if_eq hx hb hd ht (fun hc => ?_) (fun hc => ?_)
        · rw [if_pos (by simp only [zCo]; exact decide_eq_true hc)] at hq
          cases hq
          exact kk H locs ls cells slots (e0 _ _) (e0 _ _) hH hS hL
        · rw [if_neg (by simp only [zCo, decide_eq_true_eq]; exact hc)] at hq
          cases hq
          exact kk H locs ls cells slots (e0 _ _) (e0 _ _) hH hS hL
      · refine lv_if_ne hx hb hd ht (fun hc => ?_) (fun hc => ?_)
        · rw [if_pos (by simp only [zCo]; exact decide_eq_true hc)] at hq
          cases hq
          exact kk H locs ls cells slots (e0 _ _) (e0 _ _) hH hS hL
        · rw [if_neg (by simp only [zCo, decide_eq_true_eq]; exact fun z => z hc)] at hq
          cases hq
          exact kk H locs ls cells slots (e0 _ _) (e0 _ _) hH hS hL
      · refine lv_if_lt hx hb hd ht (fun hc => ?_) (fun hc => ?_)
        · rw [if_pos (by simp only [zCo]; exact decide_eq_true hc)] at hq
          cases hq
          exact kk H locs ls cells slots (e0 _ _) (e0 _ _) hH hS hL
        · rw [if_neg (by simp only [zCo, decide_eq_true_eq]; exact hc)] at hq
          cases hq
          exact kk H locs ls cells slots (e0 _ _) (e0 _ _) hH hS hL
      · refine lv_if_ge hx hb hd ht (fun hc => ?_) (fun hc => ?_)
        · rw [if_pos (by simp only [zCo]; exact decide_eq_true hc)] at hq
          cases hq
          exact kk H locs ls cells slots (e0 _ _) (e0 _ _) hH hS hL
        · rw [if_neg (by simp only [zCo, decide_eq_true_eq]; exact hc)] at hq
          cases hq
          exact kk H locs ls cells slots (e0 _ _) (e0 _ _) hH hS hL
      · refine lv_if_gt hx hb hd ht (fun hc => ?_) (fun hc => ?_)
        · rw [if_pos (by simp only [zCo]; exact decide_eq_true hc)] at hq
          cases hq
          exact kk H locs ls cells slots (e0 _ _) (e0 _ _) hH hS hL
        · rw [if_neg (by simp only [zCo, decide_eq_true_eq]; exact hc)] at hq
          cases hq
          exact kk H locs ls cells slots (e0 _ _) (e0 _ _) hH hS hL
      · refine lv_if_le hx hb hd ht (fun hc => ?_) (fun hc => ?_)
        · rw [if_pos (by simp only [zCo]; exact decide_eq_true hc)] at hq
          cases hq
          exact kk H locs ls cells slots (e0 _ _) (e0 _ _) hH hS hL
        · rw [if_neg (by simp only [zCo, decide_eq_true_eq]; exact hc)] at hq
          cases hq
          exact kk H locs ls cells slots (e0 _ _) (e0 _ _) hH hS hL
    · cases hq
  | if_icmp cd off =>
    simp only [zStep] at hs
    obtain ⟨q, hq, he⟩ := Option.map_eq_some_iff.mp hs
    cases he
    obtain rfl : 3 = len := by simp only [zOkl, zLen, Bool.or_eq_true, beq_iff_eq] at hol; omega
    unfold zIc at hq
    split at hq
    · rename_i x2 x r
      obtain ⟨t, ht, hq⟩ := Option.map_eq_some_iff.mp hq
      have ht := zJmp_inv ht
      cases cd
      · refine lv_icmp_eq hx hb hd ht (fun hc => ?_) (fun hc => ?_)
        · rw [if_pos (by simp only [zCo]; exact decide_eq_true hc)] at hq
          cases hq
          exact kk H locs ls cells slots (e0 _ _) (e0 _ _) hH hS hL
        · rw [if_neg (by simp only [zCo, decide_eq_true_eq]; exact hc)] at hq
          cases hq
          exact kk H locs ls cells slots (e0 _ _) (e0 _ _) hH hS hL
      · refine lv_icmp_ne hx hb hd ht (fun hc => ?_) (fun hc => ?_)
        · rw [if_pos (by simp only [zCo]; exact decide_eq_true hc)] at hq
          cases hq
          exact kk H locs ls cells slots (e0 _ _) (e0 _ _) hH hS hL
        · rw [if_neg (by simp only [zCo, decide_eq_true_eq]; exact fun z => z hc)] at hq
          cases hq
          exact kk H locs ls cells slots (e0 _ _) (e0 _ _) hH hS hL
      · refine lv_icmp_lt hx hb hd ht (fun hc => ?_) (fun hc => ?_)
        · rw [if_pos (by simp only [zCo]; exact decide_eq_true hc)] at hq
          cases hq
          exact kk H locs ls cells slots (e0 _ _) (e0 _ _) hH hS hL
        · rw [if_neg (by simp only [zCo, decide_eq_true_eq]; exact hc)] at hq
          cases hq
          exact kk H locs ls cells slots (e0 _ _) (e0 _ _) hH hS hL
      · refine lv_icmp_ge hx hb hd ht (fun hc => ?_) (fun hc => ?_)
        · rw [if_pos (by simp only [zCo]; exact decide_eq_true hc)] at hq
          cases hq
          exact kk H locs ls cells slots (e0 _ _) (e0 _ _) hH hS hL
        · rw [if_neg (by simp only [zCo, decide_eq_true_eq]; exact hc)] at hq
          cases hq
          exact kk H locs ls cells slots (e0 _ _) (e0 _ _) hH hS hL
      · refine lv_icmp_gt hx hb hd ht (fun hc => ?_) (fun hc => ?_)
        · rw [if_pos (by simp only [zCo]; exact decide_eq_true hc)] at hq
          cases hq
          exact kk H locs ls cells slots (e0 _ _) (e0 _ _) hH hS hL
        · rw [if_neg (by simp only [zCo, decide_eq_true_eq]; exact hc)] at hq
          cases hq
          exact kk H locs ls cells slots (e0 _ _) (e0 _ _) hH hS hL
      · refine lv_icmp_le hx hb hd ht (fun hc => ?_) (fun hc => ?_)
        · rw [if_pos (by simp only [zCo]; exact decide_eq_true hc)] at hq
          cases hq
          exact kk H locs ls cells slots (e0 _ _) (e0 _ _) hH hS hL
        · rw [if_neg (by simp only [zCo, decide_eq_true_eq]; exact hc)] at hq
          cases hq
          exact kk H locs ls cells slots (e0 _ _) (e0 _ _) hH hS hL
    · cases hq
  | if_acmp cd off =>
    simp only [zStep] at hs
    obtain ⟨q, hq, he⟩ := Option.map_eq_some_iff.mp hs
    cases he
    obtain rfl : 3 = len := by simp only [zOkl, zLen, Bool.or_eq_true, beq_iff_eq] at hol; omega
    unfold zIa at hq
    split at hq
    · rename_i b9 a9 r
      split at hq
      · rename_i hab
        obtain ⟨t, ht, hq⟩ := Option.map_eq_some_iff.mp hq
        have ht := zJmp_inv ht
        obtain ⟨ha1, ha2, hb1, hb2⟩ := hab
        obtain ⟨i9, hi9⟩ : ∃ i9, a9 = 1000000 + i9 := ⟨a9 - 1000000, (Nat.add_sub_of_le ha1).symm⟩
        obtain ⟨j9, hj9⟩ : ∃ j9, b9 = 1000000 + j9 := ⟨b9 - 1000000, (Nat.add_sub_of_le hb1).symm⟩
        subst hi9; subst hj9
        have hi6 : i9 < 6 := Nat.lt_of_add_lt_add_left (n := 1000000) ha2
        have hj6 : j9 < 6 := Nat.lt_of_add_lt_add_left (n := 1000000) hb2
        have hinj : some (sd i9) = some (sd j9) ↔ (1000000 + i9 = 1000000 + j9) := by
          constructor
          · intro h
            have := cx.2.2.2.2.2.2.2.2.2.2.2.2.2.2.2.2.2 i9 j9 hi6 hj6 (Option.some.inj h)
            rw [this]
          · intro h
            have : i9 = j9 := Nat.add_left_cancel h
            rw [this]
        have hstk : (Value.ref (1000000 + j9) :: Value.ref (1000000 + i9) :: r).map (zV (zAd base sd)) = va_rf (some (sd j9)) :: va_rf (some (sd i9)) :: r.map (zV (zAd base sd)) := by
          simp only [List.map_cons, zV, zAd_ge, va_rf]
        rw [hstk]
        cases cd
        · refine lv_acmp_eq hx hb hd ht (fun hc => ?_) (fun hc => ?_)
          · rw [hinj] at hc
            simp only [hc, decide_true, if_true] at hq
            cases hq
            exact kk H locs ls cells slots (e0 _ _) (e0 _ _) hH hS hL
          · rw [hinj] at hc
            simp only [hc, decide_false, Bool.false_eq_true, if_false] at hq
            cases hq
            exact kk H locs ls cells slots (e0 _ _) (e0 _ _) hH hS hL
        · refine lv_acmp_ne hx hb hd ht (fun hc => ?_) (fun hc => ?_)
          · rw [hinj] at hc
            simp only [hc, not_false_eq_true, decide_true, if_true] at hq
            cases hq
            exact kk H locs ls cells slots (e0 _ _) (e0 _ _) hH hS hL
          · rw [hinj] at hc
            simp only [hc, not_true_eq_false, decide_false, Bool.false_eq_true, if_false] at hq
            cases hq
            exact kk H locs ls cells slots (e0 _ _) (e0 _ _) hH hS hL
      · cases hq
    · cases hq
  | tableswitch d lo hi offs =>
    simp only [zStep] at hs
    obtain ⟨q, hq, he⟩ := Option.map_eq_some_iff.mp hs
    cases he
    unfold zTab at hq
    split at hq
    · rename_i x r
      split at hq
      · rename_i ho
        obtain ⟨t, ht, hq⟩ := Option.map_eq_some_iff.mp hq
        cases hq
        exact lv_tableOut hx hb hd ho (zJmp_inv ht) (kk H locs ls cells slots (e0 _ _) (e0 _ _) hH hS hL)
      · rename_i ho
        split at hq
        · rename_i off hoff
          obtain ⟨t, ht, hq⟩ := Option.map_eq_some_iff.mp hq
          cases hq
          exact lv_tableIn hx hb hd (fun h => ho (Or.inl h)) (fun h => ho (Or.inr h)) hoff (zJmp_inv ht) (kk H locs ls cells slots (e0 _ _) (e0 _ _) hH hS hL)
        · cases hq
    · cases hq
  | lookupswitch d ps =>
    simp only [zStep] at hs
    obtain ⟨q, hq, he⟩ := Option.map_eq_some_iff.mp hs
    cases he
    unfold zLks at hq
    split at hq
    · rename_i x r
      split at hq
      · rename_i ho
        obtain ⟨t, ht, hq⟩ := Option.map_eq_some_iff.mp hq
        cases hq
        exact lv_lookup hx hb hd ho rfl (zJmp_inv ht) (kk H locs ls cells slots (e0 _ _) (e0 _ _) hH hS hL)
      · cases hq
    · cases hq
  | getfield k =>
    obtain rfl : 3 = len := by simp only [zOkl, zLen, Bool.or_eq_true, beq_iff_eq] at hol; omega
    simp only [zStep] at hs
    split at hs
    · rename_i a r
      obtain ⟨v, hv, he⟩ := Option.map_eq_some_iff.mp hs
      cases he
      unfold zGf at hv
      split at hv
      · rename_i cc hsh
        split at hv
        · rename_i hc11
          split at hv
          · rename_i ha6
            obtain ⟨q, hq, hv⟩ := Option.map_eq_some_iff.mp hv
            cases hv
            have hg := (hH.2.2.2.2 a ha6).1
            rw [hsh, hc11] at hg
            have ha6' : a < 1000006 := by
              by_cases h : a < 1000006
              · exact h
              · exfalso
                unfold zgS at hg
                rw [if_neg h] at hg
                split at hg
                · cases hg
                · split at hg
                  · cases hg
                  · split at hg <;> cases hg
            obtain ⟨i9, rfl⟩ : ∃ i9, a = 1000000 + i9 := ⟨a - 1000000, (Nat.add_sub_of_le ha6).symm⟩
            have hi6 : i9 < 6 := Nat.lt_of_add_lt_add_left (n := 1000000) ha6'
            have hstk : (Value.ref (1000000 + i9) :: r).map (zV (zAd base sd)) = .ref (sd i9) :: r.map (zV (zAd base sd)) := by
              simp only [List.map_cons, zV, zAd_ge]
            rw [hstk]
            exact zr_kget cx hH hS hi6 hq hd (kk H locs ls cells slots (e0 _ _) (e0 _ _) hH hS hL)
          · cases hv
        · split at hv
          · rename_i ha
            have ha9 : a < 1000000 := Nat.lt_trans ha hH.2.2.2.1
            have hstk : (Value.ref a :: r).map (zV (zAd base sd)) = .ref (base + a) :: r.map (zV (zAd base sd)) := by
              simp only [List.map_cons, zV, zAd_lt ha9]
            rw [hstk]
            split at hv
            · rename_i j hf
              cases hv
              refine zr_get cx hH hsh ha hf hd ?_
              have hr := (zFld_spec hf).2.2.1
              have ev : zFv (zAd base sd) M a cc j = .int (zI M a j) := by unfold zFv; rw [hr]; rfl
              rw [ev]
              exact kk H locs ls cells slots (e0 _ _) (e0 _ _) hH hS hL
            · rename_i j hf
              obtain ⟨b, hb9, hv⟩ := Option.map_eq_some_iff.mp hv
              cases hv
              refine zr_get cx hH hsh ha hf hd ?_
              have hr := (zFld_spec hf).2.2.1
              have ev : zFv (zAd base sd) M a cc j = .ref (zAd base sd b) := by unfold zFv; rw [hr, hb9]; rfl
              rw [ev]
              exact kk H locs ls cells slots (e0 _ _) (e0 _ _) hH hS hL
            · cases hv
          · cases hv
      · cases hv
    · cases hs
  | putfield k =>
    obtain rfl : 3 = len := by simp only [zOkl, zLen, Bool.or_eq_true, beq_iff_eq] at hol; omega
    simp only [zStep] at hs
    obtain ⟨q, hq, he⟩ := Option.map_eq_some_iff.mp hs
    cases he
    unfold zPf at hq
    split at hq
    · rename_i x a r
      split at hq
      · rename_i cc hsh
        split at hq
        · rename_i ha
          have ha9 : a < 1000000 := Nat.lt_trans ha hH.2.2.2.1
          split at hq
          · rename_i j hf
            split at hq
            · rename_i hn
              cases hq
              simp only [Bool.and_eq_true] at hn
              obtain ⟨h1, h2, h3, -⟩ := zFld_spec hf
              have ht := zRfTy h1 h2
              rw [h3] at ht
              obtain ⟨n1, n2⟩ := zNarI ht hn.1
              have hstk : (Value.int x :: Value.ref a :: r).map (zV (zAd base sd)) = .int x :: .ref (base + a) :: r.map (zV (zAd base sd)) := by
                simp only [List.map_cons, zV, zAd_lt ha9]
              rw [hstk]
              exact zr_put (M' := zWI M a j x) cx hH hS hsh ha hf hn.2 n1 n2 ⟨rfl, rfl, fun b hb => zE_WI hb, zE_putI hsh h3 h2, zSta_WI hH.2.2.2.2 ha9⟩ hd (fun H1 locs1 g1 g2 => kk H1 locs1 ls cells slots (e0 _ _) (e0 _ _) g1 g2 hL)
            · cases hq
          · cases hq
        · cases hq
      · cases hq
    · rename_i b a r
      split at hq
      · rename_i cc hsh
        split at hq
        · rename_i ha
          have ha9 : a < 1000000 := Nat.lt_trans ha hH.2.2.2.1
          split at hq
          · rename_i j hf
            split at hq
            · rename_i hn
              cases hq
              obtain ⟨h1, h2, h3, -⟩ := zFld_spec hf
              have ht := zRfTy h1 h2
              rw [h3] at ht
              obtain ⟨n1, n2⟩ := zNarQ (a := zAd base sd b) ht
              have hstk : (Value.ref b :: Value.ref a :: r).map (zV (zAd base sd)) = .ref (zAd base sd b) :: .ref (base + a) :: r.map (zV (zAd base sd)) := by
                simp only [List.map_cons, zV, zAd_lt ha9]
              rw [hstk]
              exact zr_put (M' := zWQ M a j (some b)) cx hH hS hsh ha hf hn n1 n2 ⟨rfl, rfl, fun b hb => zE_WQ hb, zE_putQ hsh h3 h2, zSta_WQ hH.2.2.2.2 ha9⟩ hd (fun H1 locs1 g1 g2 => kk H1 locs1 ls cells slots (e0 _ _) (e0 _ _) g1 g2 hL)
            · cases hq
          · cases hq
        · cases hq
      · cases hq
    · cases hq
  | getstatic k =>
    obtain rfl : 3 = len := by simp only [zOkl, zLen, Bool.or_eq_true, beq_iff_eq] at hol; omega
    simp only [zStep] at hs
    obtain ⟨q, hq, he⟩ := Option.map_eq_some_iff.mp hs
    cases he
    refine zr_gets cx hS hq hd (fun h8 => ?_)
    have := kk H locs ls cells slots (e0 _ _) (e0 _ _) hH hS hL
    simp only [List.map_cons, zV, zAd_ge] at this
    exact this
  | iaload =>
    obtain rfl : 1 = len := by simp only [zOkl, zLen, Bool.or_eq_true, beq_iff_eq] at hol; omega
    simp only [zStep] at hs
    obtain ⟨q, hq, he⟩ := Option.map_eq_some_iff.mp hs
    cases he
    unfold zIld at hq
    split at hq
    · rename_i j a r
      split at hq
      · rename_i n hsh
        split at hq
        · rename_i hc
          cases hq
          simp only [Bool.and_eq_true, Bool.or_eq_true, decide_eq_true_eq] at hc
          obtain ⟨hin, hc⟩ := hc
          rcases hc with (ha | ha) | ha
          · have ha9 : a < 1000000 := Nat.lt_trans ha hH.2.2.2.1
            have hstk : (Value.int j :: Value.ref a :: r).map (zV (zAd base sd)) = .int j :: .ref (base + a) :: r.map (zV (zAd base sd)) := by
              simp only [List.map_cons, zV, zAd_lt ha9]
            rw [hstk]
            exact zr_iald cx hH hsh ha hin hd (kk H locs ls cells slots (e0 _ _) (e0 _ _) hH hS hL)
          · subst ha
            have hg := (hH.2.2.2.2 1000006 (by omega)).1
            rw [hsh] at hg
            have hn : n = 24 := by
              have : (1, n) = (1, 24) := hg
              exact (Prod.mk.inj this).2
            subst hn
            exact zr_xald cx hH hS hin hd (kk H locs ls cells slots (e0 _ _) (e0 _ _) hH hS hL)
          · subst ha
            have hg := (hH.2.2.2.2 1000008 (by omega)).1
            rw [hsh] at hg
            have hn : n = L0 := by
              have : (1, n) = (1, L0) := hg
              exact (Prod.mk.inj this).2
            subst hn
            exact zr_sald cx hH hS hin hd (kk H locs ls cells slots (e0 _ _) (e0 _ _) hH hS hL)
        · cases hq
      · cases hq
    · cases hq
  | baload =>
    obtain rfl : 1 = len := by simp only [zOkl, zLen, Bool.or_eq_true, beq_iff_eq] at hol; omega
    simp only [zStep] at hs
    obtain ⟨q, hq, he⟩ := Option.map_eq_some_iff.mp hs
    cases he
    unfold zZld at hq
    split at hq
    · rename_i j a r
      split at hq
      · rename_i n hsh
        split at hq
        · rename_i hc
          cases hq
          simp only [Bool.and_eq_true, decide_eq_true_eq] at hc
          have ha9 : a < 1000000 := Nat.lt_trans hc.2 hH.2.2.2.1
          have hstk : (Value.int j :: Value.ref a :: r).map (zV (zAd base sd)) = .int j :: .ref (base + a) :: r.map (zV (zAd base sd)) := by
            simp only [List.map_cons, zV, zAd_lt ha9]
          rw [hstk]
          exact zr_zald cx hH hsh hc.2 hc.1 hd (kk H locs ls cells slots (e0 _ _) (e0 _ _) hH hS hL)
        · cases hq
      · cases hq
    · cases hq
  | laload =>
    obtain rfl : 1 = len := by simp only [zOkl, zLen, Bool.or_eq_true, beq_iff_eq] at hol; omega
    simp only [zStep] at hs
    obtain ⟨q, hq, he⟩ := Option.map_eq_some_iff.mp hs
    cases he
    unfold zLld at hq
    split at hq
    · rename_i j a r
      split at hq
      · rename_i n hsh
        split at hq
        · rename_i hc
          cases hq
          simp only [Bool.and_eq_true, decide_eq_true_eq] at hc
          have ha9 : a < 1000000 := Nat.lt_trans hc.2 hH.2.2.2.1
          have hstk : (Value.int j :: Value.ref a :: r).map (zV (zAd base sd)) = .int j :: .ref (base + a) :: r.map (zV (zAd base sd)) := by
            simp only [List.map_cons, zV, zAd_lt ha9]
          rw [hstk]
          exact zr_lald cx hH hsh hc.2 hc.1 hd (kk H locs ls cells slots (e0 _ _) (e0 _ _) hH hS hL)
        · cases hq
      · cases hq
    · cases hq
  | aaload =>
    obtain rfl : 1 = len := by simp only [zOkl, zLen, Bool.or_eq_true, beq_iff_eq] at hol; omega
    simp only [zStep] at hs
    obtain ⟨q, hq, he⟩ := Option.map_eq_some_iff.mp hs
    cases he
    unfold zAld at hq
    split at hq
    · rename_i j a r
      generalize hsh : zS M a = sh at hq
      obtain ⟨t, n⟩ := sh
      simp only at hq
      split at hq
      · rename_i hc
        obtain ⟨v, hv, hq⟩ := Option.map_eq_some_iff.mp hq
        cases hq
        simp only [Bool.and_eq_true, Bool.or_eq_true, decide_eq_true_eq] at hc
        obtain ⟨hin, hc⟩ := hc
        rcases hc with ⟨⟨ha, h4⟩, h8⟩ | ⟨ha, h8⟩
        · have ha9 : a < 1000000 := Nat.lt_trans ha hH.2.2.2.1
          have hstk : (Value.int j :: Value.ref a :: r).map (zV (zAd base sd)) = .int j :: .ref (base + a) :: r.map (zV (zAd base sd)) := by
            simp only [List.map_cons, zV, zAd_lt ha9]
          rw [hstk]
          obtain ⟨t', rfl⟩ : ∃ t', t = t' + 4 := ⟨t - 4, by omega⟩
          exact zr_aald cx hH hsh (by omega) ha hin hv hd (kk H locs ls cells slots (e0 _ _) (e0 _ _) hH hS hL)
        · subst ha
          have hg := hH.2.2.2.2 1000007 (by omega)
          rw [hsh] at hg
          have hn : n = 6 := by
            have : (t, n) = (8, 6) := hg.1
            exact (Prod.mk.inj this).2
          subst hn
          have hlt : j.toNatClampNeg < 6 := Nat.not_le.mp fun q => zin_in hin (Or.inr q)
          have hv' : v = 1000000 + j.toNatClampNeg := by
            rw [hg.2.2] at hv
            have : zgP 1000007 j.toNatClampNeg = some (1000000 + j.toNatClampNeg) := by
              unfold zgP
              rw [if_pos rfl, if_pos hlt]
            rw [this] at hv
            exact (Option.some.inj hv).symm
          subst hv'
          have hk := kk H locs ls cells slots (e0 _ _) (e0 _ _) hH hS hL
          simp only [List.map_cons, zV, zAd_ge] at hk
          exact zr_kald cx hS hin hd hk
      · cases hq
    · cases hq
  | arraylength =>
    obtain rfl : 1 = len := by simp only [zOkl, zLen, Bool.or_eq_true, beq_iff_eq] at hol; omega
    simp only [zStep] at hs
    obtain ⟨q, hq, he⟩ := Option.map_eq_some_iff.mp hs
    cases he
    unfold zAln at hq
    split at hq
    · rename_i a r
      generalize hsh : zS M a = sh at hq
      obtain ⟨t, n⟩ := sh
      simp only at hq
      split at hq
      · rename_i hc
        cases hq
        simp only [Bool.and_eq_true, Bool.or_eq_true, decide_eq_true_eq] at hc
        obtain ⟨h1, hc⟩ := hc
        rcases hc with (⟨ha, h8⟩ | ha) | ha
        · have ha9 : a < 1000000 := Nat.lt_trans ha hH.2.2.2.1
          have hstk : (Value.ref a :: r).map (zV (zAd base sd)) = .ref (base + a) :: r.map (zV (zAd base sd)) := by
            simp only [List.map_cons, zV, zAd_lt ha9]
          rw [hstk]
          obtain ⟨t', rfl⟩ : ∃ t', t = t' + 1 := ⟨t - 1, by omega⟩
          exact zr_alen cx hH hsh (by omega) ha hd (kk H locs ls cells slots (e0 _ _) (e0 _ _) hH hS hL)
        · subst ha
          have hg := (hH.2.2.2.2 1000007 (by omega)).1
          rw [hsh] at hg
          have hn : n = 6 := by
            have : (t, n) = (8, 6) := hg
            exact (Prod.mk.inj this).2
          subst hn
          exact zr_klen cx hS hd (kk H locs ls cells slots (e0 _ _) (e0 _ _) hH hS hL)
        · subst ha
          have hg := (hH.2.2.2.2 1000008 (by omega)).1
          rw [hsh] at hg
          have hn : n = L0 := by
            have : (t, n) = (1, L0) := hg
            exact (Prod.mk.inj this).2
          subst hn
          exact zr_slen cx hS hd (kk H locs ls cells slots (e0 _ _) (e0 _ _) hH hS hL)
      · cases hq
    · cases hq
  | iastore =>
    obtain rfl : 1 = len := by simp only [zOkl, zLen, Bool.or_eq_true, beq_iff_eq] at hol; omega
    simp only [zStep] at hs
    obtain ⟨q, hq, he⟩ := Option.map_eq_some_iff.mp hs
    cases he
    unfold zIst at hq
    split at hq
    · rename_i x j a r
      split at hq
      · rename_i n hsh
        split at hq
        · rename_i hc
          cases hq
          simp only [Bool.and_eq_true, decide_eq_true_eq] at hc
          have ha9 : a < 1000000 := Nat.lt_trans hc.2 hH.2.2.2.1
          have hstk : (Value.int x :: Value.int j :: Value.ref a :: r).map (zV (zAd base sd)) = .int x :: .int j :: .ref (base + a) :: r.map (zV (zAd base sd)) := by
            simp only [List.map_cons, zV, zAd_lt ha9]
          rw [hstk]
          exact zr_iast cx hH hS hsh hc.2 hc.1 hd (fun H1 locs1 g1 g2 => kk H1 locs1 ls cells slots (e0 _ _) (e0 _ _) g1 g2 hL)
        · cases hq
      · cases hq
    · cases hq
  | bastore =>
    obtain rfl : 1 = len := by simp only [zOkl, zLen, Bool.or_eq_true, beq_iff_eq] at hol; omega
    simp only [zStep] at hs
    obtain ⟨q, hq, he⟩ := Option.map_eq_some_iff.mp hs
    cases he
    unfold zZst at hq
    split at hq
    · rename_i x j a r
      split at hq
      · rename_i n hsh
        split at hq
        · rename_i hc
          cases hq
          simp only [Bool.and_eq_true, decide_eq_true_eq] at hc
          have ha9 : a < 1000000 := Nat.lt_trans hc.1.2 hH.2.2.2.1
          have hstk : (Value.int x :: Value.int j :: Value.ref a :: r).map (zV (zAd base sd)) = .int x :: .int j :: .ref (base + a) :: r.map (zV (zAd base sd)) := by
            simp only [List.map_cons, zV, zAd_lt ha9]
          rw [hstk]
          exact zr_zast cx hH hS hsh hc.1.2 hc.1.1 hc.2 hd (fun H1 locs1 g1 g2 => kk H1 locs1 ls cells slots (e0 _ _) (e0 _ _) g1 g2 hL)
        · cases hq
      · cases hq
    · cases hq
  | aastore =>
    obtain rfl : 1 = len := by simp only [zOkl, zLen, Bool.or_eq_true, beq_iff_eq] at hol; omega
    simp only [zStep] at hs
    obtain ⟨q, hq, he⟩ := Option.map_eq_some_iff.mp hs
    cases he
    unfold zAst at hq
    split at hq
    · rename_i v j a r
      split at hq
      · rename_i t n cc hsh hshv
        split at hq
        · rename_i hc
          cases hq
          simp only [Bool.and_eq_true, decide_eq_true_eq] at hc
          obtain ⟨⟨⟨⟨⟨⟨h1, h2⟩, h3⟩, h4⟩, h5⟩, h6⟩, h7⟩ := hc
          have ha9 : a < 1000000 := Nat.lt_trans h2 hH.2.2.2.1
          have hv9 : v < 1000000 := Nat.lt_trans h3 hH.2.2.2.1
          have hstk : (Value.ref v :: Value.int j :: Value.ref a :: r).map (zV (zAd base sd)) = .ref (base + v) :: .int j :: .ref (base + a) :: r.map (zV (zAd base sd)) := by
            simp only [List.map_cons, zV, zAd_lt ha9, zAd_lt hv9]
          rw [hstk]
          obtain ⟨t', rfl⟩ : ∃ t', t = t' + 4 := ⟨t - 4, by omega⟩
          exact zr_aast cx hH hS hsh (by omega) h2 hshv h6 h3 h7 h1 hd (fun H1 locs1 g1 g2 => kk H1 locs1 ls cells slots (e0 _ _) (e0 _ _) g1 g2 hL)
        · cases hq
      · cases hq
    · cases hq
  | newarray t =>
    obtain rfl : 2 = len := by simp only [zOkl, zLen, Bool.or_eq_true, beq_iff_eq] at hol; omega
    simp only [zStep] at hs
    split at hs
    · rename_i k hk
      obtain ⟨q, hq, he⟩ := Option.map_eq_some_iff.mp hs
      cases he
      unfold zNwa at hq
      split at hq
      · rename_i n r
        split at hq
        · rename_i hc
          cases hq
          simp only [Bool.and_eq_true, decide_eq_true_eq] at hc
          obtain ⟨⟨⟨h1, h2⟩, h3⟩, h4⟩ := hc
          have hN1 : zN (zNew M (k + 1, n.toNatClampNeg) n.toNatClampNeg) = zN M + 1 := rfl
          have hZ1 : zZ (zNew M (k + 1, n.toNatClampNeg) n.toNatClampNeg) = zZ M + n.toNatClampNeg := rfl
          rw [hN1] at hcells
          rw [hZ1] at hslots
          refine zr_newp cx hH hS hbs hk h1 h2 h4 h3 (by omega) (by omega) hd (fun H1 g1 g2 => ?_)
          have := kk H1 locs ls (cells + 1) (slots + n.toNatClampNeg) (by rw [hN1]; omega) (by rw [hZ1]; omega) g1 g2 hL
          simp only [List.map_cons, zV, zAd_lt hH.2.2.2.1] at this
          exact this
        · cases hq
      · cases hq
    · cases hs
  | anewarray k =>
    obtain rfl : 3 = len := by simp only [zOkl, zLen, Bool.or_eq_true, beq_iff_eq] at hol; omega
    simp only [zStep] at hs
    split at hs
    · rename_i k9 hk
      obtain ⟨q, hq, he⟩ := Option.map_eq_some_iff.mp hs
      cases he
      unfold zNwa at hq
      split at hq
      · rename_i n r
        split at hq
        · rename_i hc
          cases hq
          simp only [Bool.and_eq_true, decide_eq_true_eq] at hc
          obtain ⟨⟨⟨h1, h2⟩, h3⟩, h4⟩ := hc
          have hN1 : zN (zNew M (k9.2.1 + 1, n.toNatClampNeg) n.toNatClampNeg) = zN M + 1 := rfl
          have hZ1 : zZ (zNew M (k9.2.1 + 1, n.toNatClampNeg) n.toNatClampNeg) = zZ M + n.toNatClampNeg := rfl
          rw [hN1] at hcells
          rw [hZ1] at hslots
          refine zr_newq cx hH hS hbs hk h1 h2 h4 h3 (by omega) (by omega) hd (fun H1 g1 g2 => ?_)
          have := kk H1 locs ls (cells + 1) (slots + n.toNatClampNeg) (by rw [hN1]; omega) (by rw [hZ1]; omega) g1 g2 hL
          simp only [List.map_cons, zV, zAd_lt hH.2.2.2.1] at this
          exact this
        · cases hq
      · cases hq
    · cases hs
  | new k =>
    obtain rfl : 3 = len := by simp only [zOkl, zLen, Bool.or_eq_true, beq_iff_eq] at hol; omega
    simp only [zStep] at hs
    obtain ⟨q, hq, he⟩ := Option.map_eq_some_iff.mp hs
    cases he
    unfold zNwo at hq
    split at hq
    · rename_i k9 hk
      split at hq
      · rename_i hc
        cases hq
        simp only [Bool.and_eq_true, decide_eq_true_eq] at hc
        have hN1 : zN (zNew M (0, k9.2.1) (zNf k9.2.1)) = zN M + 1 := rfl
        have hZ1 : zZ (zNew M (0, k9.2.1) (zNf k9.2.1)) = zZ M + zNf k9.2.1 := rfl
        rw [hN1] at hcells
        rw [hZ1] at hslots
        refine zr_new cx hH hS hbs hk hc.2 hc.1 (by omega) (by omega) hd (fun H1 g1 g2 => ?_)
        have := kk H1 locs ls (cells + 1) (slots + zNf k9.2.1) (by rw [hN1]; omega) (by rw [hZ1]; omega) g1 g2 hL
        simp only [List.map_cons, zV, zAd_lt hH.2.2.2.1] at this
        exact this
      · cases hq
    · cases hq
  | invokespecial k =>
    obtain rfl : 3 = len := by simp only [zOkl, zLen, Bool.or_eq_true, beq_iff_eq] at hol; omega
    simp only [zStep] at hs
    obtain ⟨q, hq, he⟩ := Option.map_eq_some_iff.mp hs
    cases he
    unfold zOin at hq
    split at hq
    · rename_i k9 a r hk
      split at hq
      · rename_i hc
        have hq := Option.some.inj hq
        subst hq
        have hsum : ((r.map (zV (zAd base sd))).map fun v => v.category).sum ≤ 8 := by rw [zSum]; exact hc.1
        have hroom := lv_room (m := m) (pc := pc) (ls := ls) (rest := (Value.ref a :: r).map (zV (zAd base sd))) hsum
        exact W.objInit hx hb hown (hts _ (zObj_mem hk)) (hts _ (zAt_mem zObj_i)) (hts _ (zAt_mem zObj_c)) rfl (by show ls.size = c.maxLocals; rw [hL.1, cx.2.2.1]) rfl hd (by omega) (by omega) (kk H locs ls cells slots (e0 _ _) (e0 _ _) hH hS hL)
      · cases hq
    · cases hq
  | _ => exact absurd hs (by simp [zStep])
end ZSTEP
