/-! What the Statement gives of the start. -/
def zAtT? (p : Nat) (w : Cond) : Bool := decide ((zTb (p / 1000))[p % 1000]? = some w)
theorem zAtT_mem {p : Nat} {w : Cond} (h : zAtT? p w = true) : w ∈ lw_tbl := zTb_in (List.mem_of_getElem? (of_decide_eq_true h))
def zFl : List Cond := flatC (Jvm.Cond.and given_1 narrow_1)
def zKn : List String := ["SHERD", "RIM", "BASE", "PAINTED", "HANDLE", "WORN"]
def zKF : List (String × String × String × List Int32) := [("SherdTable$Kind", "number", "I", [0, 1, 2, 3, 4, 5]), ("SherdTable$Kind", "slack", "I", [600, 600, 600, 600, 600, 1500]), ("SherdTable$Kind", "shows", "Z", [0, 0, 0, 1, 1, 0]), ("SherdTable$Kind", "plainBreaks", "Z", [1, 1, 1, 1, 0, 1]), ("SherdTable$Kind", "markedBreaks", "Z", [1, 0, 1, 1, 1, 1])]
abbrev zKt (i : Nat) : Term := .static "SherdTable$Kind" (zKn.getD i "") "LSherdTable$Kind;"
set_option maxRecDepth 100000 in
theorem zs_ex : ((List.range 6).all fun i => decide (Cond.exactly (zKt i) "SherdTable$Kind" ∈ zFl)) = true := by decide +kernel
set_option maxRecDepth 100000 in
theorem zs_f : (zKF.all fun q => (List.range 6).all fun i => decide (Cond.eq (.field (zKt i) q.1 q.2.1 q.2.2.1) (.int (q.2.2.2.getD i 0)) ∈ zFl)) = true := by decide +kernel
set_option maxRecDepth 100000 in
theorem zs_d : ((List.range 6).all fun i => (List.range 6).all fun j => i == j || decide (Cond.not (.eq (zKt i) (zKt j)) ∈ zFl) || decide (Cond.not (.eq (zKt j) (zKt i)) ∈ zFl)) = true := by decide +kernel
abbrev zXT : Term := .static "SherdTable" "X" "[I"
abbrev zKT : Term := .static "SherdTable" "KINDS" "[LSherdTable$Kind;"
set_option maxRecDepth 100000 in
theorem zs_x : ((List.range 24).all fun j => decide (Cond.eq (.elem zXT (.int (Int32.ofNat j))) (.int (zXt j)) ∈ zFl)) = true := by decide +kernel
set_option maxRecDepth 100000 in
theorem zs_k : ((List.range 6).all fun j => decide (Cond.eq (.elem zKT (.int (Int32.ofNat j))) (zKt j) ∈ zFl)) = true := by decide +kernel
set_option maxRecDepth 100000 in
theorem zs_o : ([Cond.arrayOf zXT .int, .eq (.length zXT) (.int 24), .arrayOf zKT (.object "SherdTable$Kind"), .eq (.length zKT) (.int 6)].all fun w => decide (w ∈ zFl)) = true := by decide +kernel
def zLsP : List Nat := [2019, 3059, 3224, 7076, 7077, 7078]
theorem zs_l : ((List.range 6).all fun i => zAtT? (zLsP.getD i 0) (.laysStatic "SherdTable$Kind" (zKn.getD i "") "LSherdTable$Kind;")) = true := by decide +kernel
theorem zs_lx : zAtT? 2207 (.laysStatic "SherdTable" "X" "[I") = true := by decide +kernel
theorem zs_lk : zAtT? 2173 (.laysStatic "SherdTable" "KINDS" "[LSherdTable$Kind;") = true := by decide +kernel
theorem zs_iK : zAtT? 1011 (.initialized "SherdTable$Kind") = true := by decide +kernel
theorem zs_iS : zAtT? 1001 (.initialized "SherdTable") = true := by decide +kernel
def zInP : List Nat := [1184, 1041, 1034, 1151, 2074, 2002, 2013, 1207, 1200, 1022, 5058]
theorem zs_in : ((List.range 11).all fun c => zAtT? (zInP.getD c 0) (.instantiable (zCn c) (zNf c))) = true := by decide +kernel
def zAoP : List Nat := [0, 0, 0, 1030, 1032, 1040, 1206]
theorem zs_ao : ((List.range 7).all fun t => decide (t < 3) || zAtT? (zAoP.getD t 0) (.arrayOver (.object (zAc t)))) = true := by decide +kernel
def zNsP : List Nat := [1045, 1042, 4019, 1211, 3129, 1208, 1152, 1185, 2000, 2003, 2075]
theorem zs_ns : ((zNst.zip zNsP).all fun q => zAtT? q.2 (.methodLinkNest (zOn q.1.1) q.1.2.1 (zY q.1.2.2) "SherdTable")) = true := by decide +kernel
theorem zs_fn : zAtT? 2206 (.fieldLinkNest "SherdTable$Sherd" 78 "SherdTable" "X" "[I" "SherdTable") = true := by decide +kernel
theorem zs_w1 : zAtT? 3171 (.declares zTake) = true := by decide +kernel
theorem zs_w2 : zAtT? 3170 (.interfaceMethod zTake.cls zTake.cls zTake.name zTake.desc) = true := by decide +kernel
theorem zs_w3_0 : zAtT? 3176 (.publicMethod yX0_take) = true := by decide +kernel
theorem zs_w4_0 : zAtT? 3174 (.unhidden RX0 zTake.name zTake.desc) = true := by decide +kernel
theorem zs_w5_0 : zAtT? 3172 (.castable RX0 zTake.cls) = true := by decide +kernel
theorem zs_w3_9 : zAtT? 3194 (.publicMethod yX9_take) = true := by decide +kernel
theorem zs_w4_9 : zAtT? 3192 (.unhidden RX9 zTake.name zTake.desc) = true := by decide +kernel
theorem zs_w5_9 : zAtT? 3190 (.castable RX9 zTake.cls) = true := by decide +kernel
theorem zAllR {P : Nat → Bool} {n : Nat} (h : (List.range n).all P = true) {o : Nat} (ho : o < n) : P o = true := List.all_eq_true.mp h o (List.mem_range.mpr ho)
theorem va_eqR2 {args : Array Value} {s : State} {t u : Term} {v : Value} (h : (Cond.eq t u).before args s = true) (hu : u.eval args s none [] s = some v) (hv : ∃ a, v = .ref a) : t.eval args s none [] s = some v := by
  obtain ⟨a, rfl⟩ := hv
  cases ht : t.eval args s none [] s with
  | none => simp [Cond.before, Cond.holds, Cond.value, ht] at h
  | some w =>
    simp only [Cond.before, Cond.holds, Cond.value, ht, hu] at h
    cases w <;> simp_all
/-- the classes, the arrays' classes and what lies before, at the law's entry -/
theorem zK_start {s : State} {b L : Nat} {xs : Nat → Int32} (hts : ∀ w ∈ lw_tbl, w.before #[Value.ref b] s = true) (hX : va_X b L xs s s.heap) (hbl : b < s.heap.size) (hL : L ≤ 3072) (hgv : (Jvm.Cond.and given_1 narrow_1).before #[Value.ref b] s = true) :
    ∃ (sd : Nat → Nat) (cA : Nat → ClassId) (D : va_G), zK s.heap.size sd cA D L xs s s.heap ∧ sd 8 = b := by
  have hs : ∀ w ∈ zFl, w.before #[Value.ref b] s = true := flat_of_before _ hgv
  have hA : ∀ a : Nat, a < s.heap.size → ¬ (fun q : Nat => s.heap.size ≤ q) a := fun a h => Nat.not_le.mpr h
  obtain ⟨ad, hEn, hev⟩ := va_Enof2 (args := #[Value.ref b]) (s := s) (E := "SherdTable$Kind") (d := "LSherdTable$Kind;") (nm := zKn) (F := zKF) (A := fun q => s.heap.size ≤ q)
    (fun i hi => hts _ (zAtT_mem (zAllR zs_l hi))) (hts _ (zAtT_mem zs_iK)) (fun i hi => hs _ (of_decide_eq_true (zAllR zs_ex hi)))
    (fun q hq i hi => hs _ (of_decide_eq_true (zAllR (List.all_eq_true.mp zs_f q hq) hi)))
    (fun i j hi hj hij => by
      have h := zAllR (zAllR zs_d hi) hj
      simp only [Bool.or_eq_true, beq_iff_eq, decide_eq_true_eq] at h
      rcases h with (h | h) | h
      · exact absurd h hij
      · exact Or.inl (hs _ h)
      · exact Or.inr (hs _ h)) hA
  have ho : ∀ w ∈ [Cond.arrayOf zXT .int, .eq (.length zXT) (.int 24), .arrayOf zKT (.object "SherdTable$Kind"), .eq (.length zKT) (.int 6)], w.before #[Value.ref b] s = true := fun w hw => hs _ (of_decide_eq_true (List.all_eq_true.mp zs_o w hw))
  obtain ⟨tX, hXe, hXT⟩ := va_Tof (tm := zXT) (ty := .int) (N := 24) (f := fun j => .int (zXt j)) (A := fun q => s.heap.size ≤ q) (by decide) (ho _ (by simp)) (va_eqt (ho _ (by simp))) (fun j hj => va_eqt (hs _ (of_decide_eq_true (zAllR zs_x hj)))) hA
  obtain ⟨tK, hKe, hKT⟩ := va_Tof (tm := zKT) (ty := .object "SherdTable$Kind") (N := 6) (f := fun j => .ref (ad j)) (A := fun q => s.heap.size ≤ q) (by decide) (ho _ (by simp)) (va_eqt (ho _ (by simp))) (fun j hj => va_eqR2 (hs _ (of_decide_eq_true (zAllR zs_k hj))) (hev j hj) ⟨_, rfl⟩) hA
  have hZX := va_Zof (hts _ (zAtT_mem zs_lx)) (hts _ (zAtT_mem zs_iS)) hXe hA
  have hZK := va_Zof (hts _ (zAtT_mem zs_lk)) (hts _ (zAtT_mem zs_iS)) hKe hA
  have htW : ∀ w ∈ zW, w.before #[Value.ref b] s = true := fun w hw => hts w (List.mem_filter.mp hw).1
  have hcl : ∀ c : Nat, ∃ q : ClassId × (Nat → Nat), c < 11 → u_Kn s (zCn c) (zTc c) (zNf c) q.1 q.2 := by
    intro c
    by_cases hc : c < 11
    · obtain ⟨cC, iS, h⟩ := u_known htW (zLays hc) (hts _ (zAtT_mem (zAllR zs_in hc)))
      exact ⟨(cC, iS), fun _ => h⟩
    · exact ⟨(default, default), fun h => absurd h hc⟩
  obtain ⟨d, hd⟩ := Classical.axiomOfChoice hcl
  have har : ∀ t : Nat, ∃ cA : ClassId, t < 7 → ArrOfT s cA (zArw t) ∧ va_RA s cA (zArw t) := by
    have prim : ∀ {ty : FieldType}, (Cond.arrayClass ty).before #[Value.ref b] s = true → ∃ cA : ClassId, ArrOfT s cA ty ∧ s.vm.findClass ("[" ++ ty.toString) = some cA := by
      intro ty h
      obtain ⟨cA, kA, comp, h1, h2, h3⟩ := Cond.arrayClass_spec h
      exact ⟨cA, fun n z => ⟨fun k h => (by cases h), kA, h2, comp, h3⟩, h1⟩
    intro t
    match t with
    | 0 =>
      obtain ⟨cA, h1, h2⟩ := prim (htW _ (zAt_mem zArw_int))
      exact ⟨cA, fun _ => ⟨h1, h2⟩⟩
    | 1 =>
      obtain ⟨cA, h1, h2⟩ := prim (htW _ (zAt_mem zArw_boolean))
      exact ⟨cA, fun _ => ⟨h1, h2⟩⟩
    | 2 =>
      obtain ⟨cA, h1, h2⟩ := prim (htW _ (zAt_mem zArw_long))
      exact ⟨cA, fun _ => ⟨h1, h2⟩⟩
    | t + 3 =>
      by_cases ht : t + 3 < 7
      · have h := zAllR zs_ao ht
        simp only [Bool.or_eq_true, decide_eq_true_eq] at h
        have h := h.elim (fun z => absurd z (by omega)) id
        obtain ⟨comp, cA, kA, h1, -, h3, h4, h5⟩ := Cond.arrayOver_spec (hts _ (zAtT_mem h))
        exact ⟨cA, fun _ => ⟨fun n z => ⟨fun k h => (by cases h), kA, h3, comp, h4⟩, kA, comp, h3, h4, h1, h5⟩⟩
      · exact ⟨default, fun h => absurd h ht⟩
  obtain ⟨cA, hcA⟩ := Classical.axiomOfChoice har
  refine ⟨fun k => if k < 6 then ad k else if k = 6 then tX else if k = 7 then tK else b, cA, (fun c => (d c).1, fun c => (d c).2), ?_, rfl⟩
  refine ⟨⟨fun c q hq => ?_, fun k q hq => ?_⟩, fun t h3 h7 => ?_, fun q hq => ?_, va_Nw.of rfl (hts _ (zAtT_mem zs_fn)), va_Fw.of (hts _ (zAtT_mem zs_w1)) (hts _ (zAtT_mem zs_w2)) (hts _ (zAtT_mem zs_w3_0)) (hts _ (zAtT_mem zs_w4_0)) (hts _ (zAtT_mem zs_w5_0)), va_Fw.of (hts _ (zAtT_mem zs_w1)) (hts _ (zAtT_mem zs_w2)) (hts _ (zAtT_mem zs_w3_9)) (hts _ (zAtT_mem zs_w4_9)) (hts _ (zAtT_mem zs_w5_9)), fun k hk => ?_, fun k hk => ?_, hXT, ?_, ⟨hX, hbl, hbl, by omega⟩, fun i j hi hj e => ?_⟩
  · have hc : c < 11 := (List.getElem?_eq_some_iff.mp hq).1
    rw [zCl_at hc] at hq
    cases hq
    exact hd c hc
  · have hk : k < 7 := (List.getElem?_eq_some_iff.mp hq).1
    have h := hcA k hk
    match k, hk, hq, h with
    | 0, _, hq, h => cases hq; exact h
    | 1, _, hq, h => cases hq; exact h
    | 2, _, hq, h => cases hq; exact h
    | 3, _, hq, h => cases hq; exact h
    | 4, _, hq, h => cases hq; exact h
    | 5, _, hq, h => cases hq; exact h
    | 6, _, hq, h => cases hq; exact h
  · have h := zAllR zs_ao h7
    simp only [Bool.or_eq_true, decide_eq_true_eq] at h
    exact va_AO.of (hts _ (zAtT_mem (h.elim (fun z => absurd z (by omega)) id)))
  · have hz : ∃ p9, (q, p9) ∈ zNst.zip zNsP := by
      obtain ⟨i, hi, rfl⟩ := List.getElem_of_mem hq
      have hl : i < zNsP.length := hi
      refine ⟨zNsP[i], List.mem_iff_getElem.mpr ⟨i, by rw [List.length_zip]; exact Nat.lt_min.mpr ⟨hi, hl⟩, ?_⟩⟩
      rw [List.getElem_zip]
    obtain ⟨p9, hp9⟩ := hz
    exact va_Nw.of rfl (hts _ (zAtT_mem (List.all_eq_true.mp zs_ns _ hp9)))
  · match k, hk with
    | 0, _ => exact (hEn.1 0 (by decide)).1
    | 1, _ => exact (hEn.1 1 (by decide)).1
    | 2, _ => exact (hEn.1 2 (by decide)).1
    | 3, _ => exact (hEn.1 3 (by decide)).1
    | 4, _ => exact (hEn.1 4 (by decide)).1
    | 5, _ => exact (hEn.1 5 (by decide)).1
    | 6, _ => exact hZX
    | 7, _ => exact hZK
  · simp only [hk, if_true]
    refine ⟨(hEn.1 k hk).2.1, fun j hj => ?_⟩
    have h := (hEn.1 k hk).2.2
    match j, hj with
    | 0, _ => match k, hk, h with
      | 0, _, h => exact h ("SherdTable$Kind", "number", "I", [0, 1, 2, 3, 4, 5]) (by simp [zKF])
      | 1, _, h => exact h ("SherdTable$Kind", "number", "I", [0, 1, 2, 3, 4, 5]) (by simp [zKF])
      | 2, _, h => exact h ("SherdTable$Kind", "number", "I", [0, 1, 2, 3, 4, 5]) (by simp [zKF])
      | 3, _, h => exact h ("SherdTable$Kind", "number", "I", [0, 1, 2, 3, 4, 5]) (by simp [zKF])
      | 4, _, h => exact h ("SherdTable$Kind", "number", "I", [0, 1, 2, 3, 4, 5]) (by simp [zKF])
      | 5, _, h => exact h ("SherdTable$Kind", "number", "I", [0, 1, 2, 3, 4, 5]) (by simp [zKF])
    | 1, _ => match k, hk, h with
      | 0, _, h => exact h ("SherdTable$Kind", "slack", "I", [600, 600, 600, 600, 600, 1500]) (by simp [zKF])
      | 1, _, h => exact h ("SherdTable$Kind", "slack", "I", [600, 600, 600, 600, 600, 1500]) (by simp [zKF])
      | 2, _, h => exact h ("SherdTable$Kind", "slack", "I", [600, 600, 600, 600, 600, 1500]) (by simp [zKF])
      | 3, _, h => exact h ("SherdTable$Kind", "slack", "I", [600, 600, 600, 600, 600, 1500]) (by simp [zKF])
      | 4, _, h => exact h ("SherdTable$Kind", "slack", "I", [600, 600, 600, 600, 600, 1500]) (by simp [zKF])
      | 5, _, h => exact h ("SherdTable$Kind", "slack", "I", [600, 600, 600, 600, 600, 1500]) (by simp [zKF])
    | 2, _ => match k, hk, h with
      | 0, _, h => exact h ("SherdTable$Kind", "shows", "Z", [0, 0, 0, 1, 1, 0]) (by simp [zKF])
      | 1, _, h => exact h ("SherdTable$Kind", "shows", "Z", [0, 0, 0, 1, 1, 0]) (by simp [zKF])
      | 2, _, h => exact h ("SherdTable$Kind", "shows", "Z", [0, 0, 0, 1, 1, 0]) (by simp [zKF])
      | 3, _, h => exact h ("SherdTable$Kind", "shows", "Z", [0, 0, 0, 1, 1, 0]) (by simp [zKF])
      | 4, _, h => exact h ("SherdTable$Kind", "shows", "Z", [0, 0, 0, 1, 1, 0]) (by simp [zKF])
      | 5, _, h => exact h ("SherdTable$Kind", "shows", "Z", [0, 0, 0, 1, 1, 0]) (by simp [zKF])
    | 3, _ => match k, hk, h with
      | 0, _, h => exact h ("SherdTable$Kind", "plainBreaks", "Z", [1, 1, 1, 1, 0, 1]) (by simp [zKF])
      | 1, _, h => exact h ("SherdTable$Kind", "plainBreaks", "Z", [1, 1, 1, 1, 0, 1]) (by simp [zKF])
      | 2, _, h => exact h ("SherdTable$Kind", "plainBreaks", "Z", [1, 1, 1, 1, 0, 1]) (by simp [zKF])
      | 3, _, h => exact h ("SherdTable$Kind", "plainBreaks", "Z", [1, 1, 1, 1, 0, 1]) (by simp [zKF])
      | 4, _, h => exact h ("SherdTable$Kind", "plainBreaks", "Z", [1, 1, 1, 1, 0, 1]) (by simp [zKF])
      | 5, _, h => exact h ("SherdTable$Kind", "plainBreaks", "Z", [1, 1, 1, 1, 0, 1]) (by simp [zKF])
    | 4, _ => match k, hk, h with
      | 0, _, h => exact h ("SherdTable$Kind", "markedBreaks", "Z", [1, 0, 1, 1, 1, 1]) (by simp [zKF])
      | 1, _, h => exact h ("SherdTable$Kind", "markedBreaks", "Z", [1, 0, 1, 1, 1, 1]) (by simp [zKF])
      | 2, _, h => exact h ("SherdTable$Kind", "markedBreaks", "Z", [1, 0, 1, 1, 1, 1]) (by simp [zKF])
      | 3, _, h => exact h ("SherdTable$Kind", "markedBreaks", "Z", [1, 0, 1, 1, 1, 1]) (by simp [zKF])
      | 4, _, h => exact h ("SherdTable$Kind", "markedBreaks", "Z", [1, 0, 1, 1, 1, 1]) (by simp [zKF])
      | 5, _, h => exact h ("SherdTable$Kind", "markedBreaks", "Z", [1, 0, 1, 1, 1, 1]) (by simp [zKF])
  · have e : (fun j => Value.ref ((fun k => if k < 6 then ad k else if k = 6 then tX else if k = 7 then tK else b) j)) = fun j => Value.ref (if j < 6 then ad j else if j = 6 then tX else if j = 7 then tK else b) := rfl
    obtain ⟨cell, h1, h2, h3, h4, h5, h6, h7⟩ := hKT
    refine ⟨cell, h1, h2, h3, h4, h5, fun j hj => ?_, h7⟩
    rw [h6 j hj]
    simp only [hj, if_true]
  · simp only [hi, hj, if_true] at e
    exact hEn.2 i j hi hj e
