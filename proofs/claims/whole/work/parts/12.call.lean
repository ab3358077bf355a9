/-! Calls -/
theorem zGoodW {w : Cond} (h : w ∈ zW) : w ∈ zW ∧ ((w.onTables && w.keeps) = true ∨ ∃ ty, w = .arrayClass ty) := ⟨h, good_of_word (List.mem_filter.mp h).2⟩
def zWd (z : Nat) : List Cond := .code (zY z) (zB z) (zL z) (zR z) :: zW
theorem zGoodWd {z : Nat} (h : zOrd z = true) : GoodIn zW (zWd z) := by
  intro w hw
  rcases List.mem_cons.mp hw with rfl | hw
  · exact zGoodW (zMem h)
  · exact zGoodW hw
theorem zGoodApp {z : Nat} (h : zOrd z = true) {a : List Cond} (ha : ∀ w ∈ a, w ∈ zW) : GoodIn zW (a ++ zWd z) := by
  intro w hw
  rcases List.mem_append.mp hw with hw | hw
  · exact zGoodW (ha w hw)
  · exact zGoodWd h w hw
def zRm (z mc ms : Nat) : Room := { frames := zFr z, cells := mc, slots := ms, locals := zLo z }
theorem zCTs_lt {o : Nat} {e : Nat × Nat × Nat × Nat × Nat × String × List Nat} (h : e ∈ zCTs.getD o []) : zCok o e = true := List.all_eq_true.mp (zC_ok o) e h
/-- what a row of the calls' table says -/
theorem zCal_spec {o k rc : Nat} {e : Nat × Nat × Nat × Nat × Nat × String × List Nat} (h : zCal o k rc = some e) : e.1 = k ∧ e.2.1 = rc ∧ zCok o e = true := by
  unfold zCal at h
  have hm := List.mem_of_find?_eq_some h
  have hp := List.find?_some h
  simp only [Bool.and_eq_true, beq_iff_eq] at hp
  exact ⟨hp.1, hp.2, zCTs_lt hm⟩
/-- the nest mates' calls and the interface's, out of the table -/
def zNstB (o : Nat) (e : Nat × Nat × Nat × Nat × Nat × String × List Nat) : Bool := if e.2.2.1 = 3 ∨ e.2.2.1 = 5 then zNst.contains (o, e.1, e.2.2.2.1) else true
def zIfcB (e : Nat × Nat × Nat × Nat × Nat × String × List Nat) : Bool := if e.2.2.1 = 6 then decide (zXn e = zTake) && ((e.2.1 == 0 && e.2.2.2.1 == 2) || (e.2.1 == 8 && e.2.2.2.1 == 60)) else true
set_option maxRecDepth 100000 in
theorem zNstB_ok : ((List.range 15).all fun o => (zCTs.getD o []).all (zNstB o)) = true := by decide +kernel
set_option maxRecDepth 100000 in
theorem zIfcB_ok : ((List.range 15).all fun o => (zCTs.getD o []).all zIfcB) = true := by decide +kernel
theorem zCTs_o {o : Nat} {e : Nat × Nat × Nat × Nat × Nat × String × List Nat} (h : e ∈ zCTs.getD o []) : o < 15 := by
  by_cases ho : o < 15
  · exact ho
  · have : zCTs.getD o [] = [] := by
      rw [List.getD_eq_getElem?_getD, List.getElem?_eq_none (by show zCTs.length ≤ o; exact Nat.not_lt.mp ho)]; rfl
    rw [this] at h
    exact absurd h List.not_mem_nil
theorem zNst_in {o k rc : Nat} {e : Nat × Nat × Nat × Nat × Nat × String × List Nat} (h : zCal o k rc = some e) (h35 : e.2.2.1 = 3 ∨ e.2.2.1 = 5) : (o, e.1, e.2.2.2.1) ∈ zNst := by
  unfold zCal at h
  have hm := List.mem_of_find?_eq_some h
  have hok := List.all_eq_true.mp (zAll15 zNstB_ok (zCTs_o hm)) e hm
  unfold zNstB at hok
  rw [if_pos h35] at hok
  exact List.contains_iff_mem.mp hok
theorem zIfc_in {o k rc : Nat} {e : Nat × Nat × Nat × Nat × Nat × String × List Nat} (h : zCal o k rc = some e) : e.2.2.1 = 6 → zXn e = zTake ∧ ((e.2.1 = 0 ∧ e.2.2.2.1 = 2) ∨ (e.2.1 = 8 ∧ e.2.2.2.1 = 60)) := by
  intro h6
  unfold zCal at h
  have hm := List.mem_of_find?_eq_some h
  have hok := List.all_eq_true.mp (zAll15 zIfcB_ok (zCTs_o hm)) e hm
  unfold zIfcB at hok
  rw [if_pos h6] at hok
  simp only [Bool.and_eq_true, Bool.or_eq_true, decide_eq_true_eq, beq_iff_eq] at hok
  exact hok
theorem zYat {y : Nat} (h : y < 199) : (zY y).cls = zOn (zO y) ∧ plainFor (zY y) = true ∧ (zY y).cls ≠ "java/lang/invoke/MethodHandle" ∧ (zY y).cls ≠ "java/lang/invoke/VarHandle" := by
  have h1 := List.all_eq_true.mp zY_ok y (List.mem_range.mpr h)
  simp only [zYok, Bool.and_eq_true, decide_eq_true_eq] at h1
  exact ⟨h1.1.1.1, h1.1.1.2, h1.1.2, h1.2⟩
theorem zOrd_lt {y : Nat} (h : zOrd y = true) : y < 199 := by
  simp only [zOrd, Bool.and_eq_true, decide_eq_true_eq] at h
  exact h.1
section ZCALL
variable {base : Nat} {sd : Nat → Nat} {cA : Nat → ClassId} {D : va_G} {L0 : Nat} {xs : Nat → Int32}
variable {p : Program} {l : Launch} {e : Env} {R : Room} {s : State} {m : MethodId} {args : Array Value} {below : List Frame} {meth : Method} {c : Code} {H : Heap} {locs : List Loc} {cells slots : Nat} {Q : State → Prop} {y pc : Nat} {ls : Array Slot} {rest : List Value} {M M1 : zM}
def zPc (base : Nat) (sd : Nat → Nat) (cA : Nat → ClassId) (D : va_G) (L0 : Nat) (xs : Nat → Int32) (as : List Value) (M : zM) : Array Value → State → Prop := fun v U => v = (as.map (zV (zAd base sd))).toArray ∧ zK base sd cA D L0 xs U U.heap ∧ zHp base sd cA D L0 xs M U.heap
def zQc (base : Nat) (sd : Nat → Nat) (cA : Nat → ClassId) (D : va_G) (L0 : Nat) (xs : Nat → Int32) (r : Option Value) (M1 : zM) : Array Value → State → Outcome → State → Prop := fun _ st o t => o = .returned (r.map (zV (zAd base sd))) ∧ zHp base sd cA D L0 xs M1 t.heap ∧ va_F (fun q => base ≤ q) st t
theorem zPc_blind {as : List Value} : FrameBlind (zPc base sd cA D L0 xs as M) := fun a U g mk h => ⟨h.1, h.2.1.blind g mk a, h.2.2⟩
theorem zPc_at (hK : zK base sd cA D L0 xs s s.heap) (hH : zHp base sd cA D L0 xs M H) (hS : va_S (fun q => base ≤ q) s.heap H locs) {as : List Value} : ∀ U : State, U.heap = H → s.WarmedH U.vm → zPc base sd cA D L0 xs as M (as.map (zV (zAd base sd))).toArray U := by
  intro U hU hW
  refine ⟨rfl, ?_, by rw [hU]; exact hH⟩
  have := hK.to (U := U) (H1 := H) hW hS.1 hS.2.1
  rw [hU]
  exact this
theorem zRun_go {r : Option Value} {mc ms : Nat} {st0 rest : List Value} {a : Array Value} (hr : va_Run p l e R s m args below meth c H locs cells slots mc ms (F0 m pc ls st0) (rest.map (zV (zAd base sd))) (zQc base sd cA D L0 xs r M1 a) (fun q => base ≤ q)) (hS : va_S (fun q => base ≤ q) s.heap H locs)
    (kk : ∀ (H1 : Heap) (locs1 : List Loc), zHp base sd cA D L0 xs M1 H1 → va_S (fun q => base ≤ q) s.heap H1 locs1 → W p l e R s m args below meth c H1 locs1 (cells + mc) (slots + ms) Q (F0 m (pc + 3) ls ((r.toList ++ rest).map (zV (zAd base sd))))) : W p l e R s m args below meth c H locs cells slots Q (F0 m pc ls st0) := by
  intro T hT X
  obtain ⟨v, st₀, t, T', L, h0, X', hL, e1, e2, ⟨hv, hHp, hz, hk⟩, st⟩ := hr T hT X
  have hv := Outcome.returned.inj hv
  subst hv
  rw [h0] at hz hk
  have hS1 : va_S (fun q => base ≤ q) s.heap T'.heap (locs ++ L) := ⟨Nat.le_trans hS.1 (by rw [e1]; exact hz), fun q h1 h2 => by rw [e1, hk q (Nat.lt_of_lt_of_le h1 hS.1) h2]; exact hS.2.1 q h1 h2, fun q hq => by
      rcases List.mem_append.mp hq with h | h
      · exact hS.2.2 q h
      · exact hL q h⟩
  obtain ⟨t2, a1, b1⟩ := kk T'.heap (locs ++ L) (by rw [e1]; exact hHp) hS1 T' rfl X'
  refine ⟨t2, st t2 ?_, b1⟩
  have e9 : (r.toList ++ rest).map (zV (zAd base sd)) = (r.map (zV (zAd base sd))).toList ++ rest.map (zV (zAd base sd)) := by cases r <;> simp
  rw [e9] at a1
  exact a1
theorem zRun_go5 {r : Option Value} {mc ms : Nat} {st0 rest : List Value} {a : Array Value} (hr : va_Run5 p l e R s m args below meth c H locs cells slots mc ms (F0 m pc ls st0) (rest.map (zV (zAd base sd))) (zQc base sd cA D L0 xs r M1 a) (fun q => base ≤ q)) (hS : va_S (fun q => base ≤ q) s.heap H locs)
    (kk : ∀ (H1 : Heap) (locs1 : List Loc), zHp base sd cA D L0 xs M1 H1 → va_S (fun q => base ≤ q) s.heap H1 locs1 → W p l e R s m args below meth c H1 locs1 (cells + mc) (slots + ms) Q (F0 m (pc + 5) ls ((r.toList ++ rest).map (zV (zAd base sd))))) : W p l e R s m args below meth c H locs cells slots Q (F0 m pc ls st0) := by
  intro T hT X
  obtain ⟨v, st₀, t, T', L, h0, X', hL, e1, e2, ⟨hv, hHp, hz, hk⟩, st⟩ := hr T hT X
  have hv := Outcome.returned.inj hv
  subst hv
  rw [h0] at hz hk
  have hS1 : va_S (fun q => base ≤ q) s.heap T'.heap (locs ++ L) := ⟨Nat.le_trans hS.1 (by rw [e1]; exact hz), fun q h1 h2 => by rw [e1, hk q (Nat.lt_of_lt_of_le h1 hS.1) h2]; exact hS.2.1 q h1 h2, fun q hq => by
      rcases List.mem_append.mp hq with h | h
      · exact hS.2.2 q h
      · exact hL q h⟩
  obtain ⟨t2, a1, b1⟩ := kk T'.heap (locs ++ L) (by rw [e1]; exact hHp) hS1 T' rfl X'
  refine ⟨t2, st t2 ?_, b1⟩
  have e9 : (r.toList ++ rest).map (zV (zAd base sd)) = (r.map (zV (zAd base sd))).toList ++ rest.map (zV (zAd base sd)) := by cases r <;> simp
  rw [e9] at a1
  exact a1
theorem zTake_stack {st : List Value} {np : Nat} (ad : Nat → Nat) : st.map (zV ad) = ((st.take np).reverse.map (zV ad)).reverse ++ (st.drop np).map (zV ad) := by
  rw [← List.map_reverse, List.reverse_reverse, ← List.map_append, List.take_append_drop]
set_option maxHeartbeats 4000000 in
theorem zCall_sound {i : Instr} {len z mc ms : Nat} {L : List (Option Value)} {st as rest : List Value} {r : Option Value} (cx : zCx base sd cA D L0 xs p s m args meth c y) (hH : zHp base sd cA D L0 xs M H) (hS : va_S (fun q => base ≤ q) s.heap H locs) (hRf : zFr y ≤ R.frames) (hRl : zLo y ≤ R.locals)
    (hd : decode (zB y) pc = .ok (i, len)) (hol : zOkl i len = true) (hL : zLs (zAd base sd) ls (zL y) L) (hi : zInv y i st M = some (z, as, rest)) (hcells : cells + mc ≤ R.cells) (hslots : slots + ms ≤ R.slots)
    (hM : Met l (zY z) (zWd z) (zRm z mc ms) (zPc base sd cA D L0 xs as M) (zQc base sd cA D L0 xs r M1) mc ms (fun q => base ≤ q))
    (kk : ∀ (H1 : Heap) (locs1 : List Loc), zHp base sd cA D L0 xs M1 H1 → va_S (fun q => base ≤ q) s.heap H1 locs1 → W p l e R s m args below meth c H1 locs1 (cells + mc) (slots + ms) Q (F0 m (pc + zIl i) ls ((r.toList ++ rest).map (zV (zAd base sd))))) :
    W p l e R s m args below meth c H locs cells slots Q (F0 m pc ls (st.map (zV (zAd base sd)))) := by
  obtain ⟨hx, hb, hml, hown, hts, hmn, hK⟩ := id cx
  have S : CallFix p m c (zB y) (zL y) s args zW (zOn (zO y)) := ⟨hx, hb, hml, hown, hts⟩
  have hpre := zPc_at (as := as) hK hH hS
  have vir : ∀ (k : Nat) (f : Bool), zVir y k f st M = some (z, as, rest) → ∃ (np b cc : Nat) (q : Nat × Nat × Nat × Nat × Nat × String × List Nat), st.drop np = .ref b :: rest ∧ as = .ref b :: (st.take np).reverse ∧ zS M b = (0, cc) ∧ zCal (zO y) k cc = some q ∧ q.2.2.2.2.1 = np ∧ q.2.2.2.1 = z ∧ (if f then q.2.2.1 = 6 else (q.2.2.1 = 0 ∨ q.2.2.1 = 1)) ∧ ((b < zN M ∧ cc < 11) ∨ (1000000 ≤ b ∧ b < 1000006 ∧ cc = 11)) ∧ zRoom y z as rest = true := by
    intro k f h
    unfold zVir at h
    split at h
    · rename_i np hnp
      split at h
      · rename_i b r9 hdr
        split at h
        · rename_i cc hsh
          split at h
          · rename_i q hq
            cases f
            · simp only [Bool.false_eq_true, if_false] at h
              split at h
              · rename_i hc
                simp only [Option.some.injEq, Prod.mk.injEq] at h
                obtain ⟨rfl, rfl, rfl⟩ := h
                simp only [Bool.and_eq_true, Bool.or_eq_true, decide_eq_true_eq] at hc
                obtain ⟨⟨⟨h1, h2⟩, h3⟩, h4⟩ := hc
                exact ⟨np, b, cc, q, hdr, rfl, hsh, hq, h1, rfl, by simpa only [Bool.false_eq_true, if_false] using h2, h3.imp id (fun h => ⟨h.1.1, h.1.2, h.2⟩), h4⟩
              · cases h
            · simp only [if_true] at h
              split at h
              · rename_i hc
                simp only [Option.some.injEq, Prod.mk.injEq] at h
                obtain ⟨rfl, rfl, rfl⟩ := h
                simp only [Bool.and_eq_true, Bool.or_eq_true, decide_eq_true_eq] at hc
                obtain ⟨⟨⟨h1, h2⟩, h3⟩, h4⟩ := hc
                exact ⟨np, b, cc, q, hdr, rfl, hsh, hq, h1, rfl, by simpa only [if_true] using h2, h3.imp id (fun h => ⟨h.1.1, h.1.2, h.2⟩), h4⟩
              · cases h
          · cases h
        · cases h
      · cases h
    · cases h
  have room : zRoom y z as rest = true → (zFr z + 1 ≤ R.frames ∧ 8 + (zL z + 11) + zLo z ≤ R.locals) ∧ 2 * (F0 m pc ls (st.map (zV (zAd base sd)))).monitorRoom + ((rest.map (zV (zAd base sd))).map fun v => v.category).sum ≤ 8 := by
    intro h
    simp only [zRoom, Bool.and_eq_true, decide_eq_true_eq] at h
    exact ⟨⟨Nat.le_trans h.1.1.1 hRf, Nat.le_trans h.1.1.2 hRl⟩, lv_room (by rw [zSum]; exact h.1.2)⟩
  have hsz : (F0 m pc ls (st.map (zV (zAd base sd)))).locals.size = zL y := hL.1
  cases i with
  | invokestatic k =>
    obtain rfl : 3 = len := by simp only [zOkl, zLen, Bool.or_eq_true, beq_iff_eq] at hol; omega
    simp only [zInv] at hi
    split at hi
    · rename_i q hq
      split at hi
      · rename_i hc
        simp only [Option.some.injEq, Prod.mk.injEq] at hi
        obtain ⟨rfl, rfl, rfl⟩ := hi
        simp only [Bool.and_eq_true, Bool.or_eq_true, decide_eq_true_eq] at hc
        obtain ⟨⟨h23, hnp⟩, hroom⟩ := hc
        obtain ⟨hR, hW⟩ := room hroom
        obtain ⟨e1, e2, hok⟩ := zCal_spec hq
        obtain ⟨q1, q2, q3, z9, np, x9, ps⟩ := q
        simp only at e1 e2 h23 hnp hR hW hM hroom hpre kk ⊢
        subst e1; subst e2
        simp only [zCok, Bool.and_eq_true, decide_eq_true_eq] at hok
        obtain ⟨⟨⟨⟨hw, hpd⟩, hord⟩, -⟩, -⟩ := hok
        have hyz := zYat (zOrd_lt hord)
        have hmem := zAll2_mem _ _ hw
        have hn : ((st.take np).reverse.map (zV (zAd base sd))).length = np := by rw [List.length_map, List.length_reverse, List.length_take]; exact Nat.min_eq_left hnp
        rcases h23 with rfl | rfl
        · have cw := va_cwS (R := R) (s := s) (args := args) (own := zOn (zO y)) (index := q1) (y := zY z9) (bytes := zB z9) (maxL := zL z9) (mc := mc) (ms := ms) (ret := zR z9) (Ts := zW) (ws := zWd z9) (rm := zRm z9 mc ms) np hts (zGoodApp hord hmem) rfl rfl rfl ⟨hyz.2.2.1, hyz.2.2.2, hpd⟩ hR
          exact zRun_go (va_runS (As := (st.take np).reverse.map (zV (zAd base sd))) S hM cw ⟨zPc_blind, hpre⟩ rfl hn hsz (zTake_stack _) hW hd ⟨hcells, hslots⟩) hS kk
        · have cw := va_cnB (R := R) (s := s) (args := args) (own := zOn (zO y)) (host := "SherdTable") (index := q1) (y := zY z9) (bytes := zB z9) (maxL := zL z9) (mc := mc) (ms := ms) (ret := zR z9) (Ts := zW) (ws := zWd z9) (rm := zRm z9 mc ms) np hts (zGoodWd hord) rfl rfl rfl (hK.2.2.1 (zO y, q1, z9) (zNst_in hq (Or.inl rfl))) (hts _ (hmem _ (by simp [zCw]))) ⟨hyz.2.2.1, hyz.2.2.2, hpd⟩ hR
          exact zRun_go (va_runSN (As := (st.take np).reverse.map (zV (zAd base sd))) S hM ⟨cw, hts _ (hmem _ (by simp [zCw])), trivial⟩ ⟨zPc_blind, hpre⟩ rfl hn hsz (zTake_stack _) hW hd ⟨hcells, hslots⟩) hS kk
      · cases hi
    · cases hi
  | invokespecial k =>
    obtain rfl : 3 = len := by simp only [zOkl, zLen, Bool.or_eq_true, beq_iff_eq] at hol; omega
    simp only [zInv] at hi
    split at hi
    · rename_i q hq
      split at hi
      · rename_i b r9 hdr
        split at hi
        · rename_i hc
          simp only [Option.some.injEq, Prod.mk.injEq] at hi
          obtain ⟨rfl, rfl, rfl⟩ := hi
          simp only [Bool.and_eq_true, Bool.or_eq_true, decide_eq_true_eq] at hc
          obtain ⟨h45, hroom⟩ := hc
          obtain ⟨hR, hW⟩ := room hroom
          obtain ⟨e1, e2, hok⟩ := zCal_spec hq
          obtain ⟨q1, q2, q3, z9, np, x9, ps⟩ := q
          simp only at e1 e2 h45 hR hW hM hroom hpre kk hdr ⊢
          subst e1; subst e2
          simp only [zCok, Bool.and_eq_true, decide_eq_true_eq] at hok
          obtain ⟨⟨⟨⟨hw, hpd⟩, hord⟩, -⟩, hk45⟩ := hok
          have hyz := zYat (zOrd_lt hord)
          have hmem := zAll2_mem _ _ hw
          have hnp : np ≤ st.length := by
            by_cases h : np ≤ st.length
            · exact h
            · rw [List.drop_eq_nil_of_le (by omega)] at hdr; cases hdr
          have hn : ((st.take np).reverse.map (zV (zAd base sd))).length = np := by rw [List.length_map, List.length_reverse, List.length_take]; exact Nat.min_eq_left hnp
          have hstk : st.map (zV (zAd base sd)) = ((st.take np).reverse.map (zV (zAd base sd))).reverse ++ .ref (zAd base sd b) :: r9.map (zV (zAd base sd)) := by
            have := zTake_stack (st := st) (np := np) (zAd base sd)
            rw [hdr] at this
            exact this
          rcases h45 with rfl | rfl
          · simp only [Bool.and_eq_true, decide_eq_true_eq] at hk45
            have hwd : zWd z9 = Cond.code (zY z9) (zB z9) (zL z9) none :: zW := by unfold zWd; rw [hk45.2]
            have cw := cwI (R := R) (s := s) (args := args) (own := zOn (zO y)) (index := q1) (y := zY z9) (bytes := zB z9) (maxL := zL z9) (mc := mc) (ms := ms) (Ts := zW) (ws := zWd z9) (rm := zRm z9 mc ms) np hts (zGoodWd hord) hwd rfl rfl (hts _ (hmem _ (by simp [zCw]))) (hts _ (hmem _ (by simp [zCw]))) (hts _ (hmem _ (by simp [zCw]))) hk45.1 ⟨hyz.2.2.1, hyz.2.2.2, hpd⟩ hR
            exact zRun_go (va_runI (As := (st.take np).reverse.map (zV (zAd base sd))) S hM cw ⟨zPc_blind, hpre⟩ rfl hn hsz hstk hW hd ⟨hcells, hslots⟩) hS kk
          · simp only [Bool.and_eq_true, decide_eq_true_eq] at hk45
            have hwd : zWd z9 = Cond.code (zY z9) (zB z9) (zL z9) none :: zW := by unfold zWd; rw [hk45.2]
            have cw := va_cnB (R := R) (s := s) (args := args) (own := zOn (zO y)) (host := "SherdTable") (index := q1) (y := zY z9) (bytes := zB z9) (maxL := zL z9) (mc := mc) (ms := ms) (ret := none) (Ts := zW) (ws := zWd z9) (rm := zRm z9 mc ms) np hts (zGoodWd hord) hwd rfl rfl (hK.2.2.1 (zO y, q1, z9) (zNst_in hq (Or.inr rfl))) (hts _ (hmem _ (by simp [zCw]))) ⟨hyz.2.2.1, hyz.2.2.2, hpd⟩ hR
            exact zRun_go (va_runIN (As := (st.take np).reverse.map (zV (zAd base sd))) S hM ⟨cw, hk45.1, hts _ (hmem _ (by simp [zCw]))⟩ ⟨zPc_blind, hpre⟩ rfl hn hsz hstk hW hd ⟨hcells, hslots⟩) hS kk
        · cases hi
      · cases hi
    · cases hi
  | invokevirtual k =>
    obtain rfl : 3 = len := by simp only [zOkl, zLen, Bool.or_eq_true, beq_iff_eq] at hol; omega
    obtain ⟨np, b, cc, q, hdr, rfl, hsh, hq, hqn, hqz, hk, hrc, hroom⟩ := vir k false hi
    obtain ⟨hR, hW⟩ := room hroom
    obtain ⟨e1, e2, hok⟩ := zCal_spec hq
    obtain ⟨q1, q2, q3, z9, np9, x9, ps⟩ := q
    simp only [Bool.false_eq_true, if_false] at e1 e2 hqn hqz hk
    subst e1; subst e2; subst hqn; subst hqz
    have hnp : np9 ≤ st.length := by
      by_cases h : np9 ≤ st.length
      · exact h
      · rw [List.drop_eq_nil_of_le (by omega)] at hdr; cases hdr
    have hn : ((st.take np9).reverse.map (zV (zAd base sd))).length = np9 := by rw [List.length_map, List.length_reverse, List.length_take]; exact Nat.min_eq_left hnp
    have hstk : st.map (zV (zAd base sd)) = ((st.take np9).reverse.map (zV (zAd base sd))).reverse ++ .ref (zAd base sd b) :: rest.map (zV (zAd base sd)) := by
      have := zTake_stack (st := st) (np := np9) (zAd base sd)
      rw [hdr] at this
      exact this
    have hrecv : ∃ cellB : Cell, H[zAd base sd b]? = some cellB ∧ cellB.vm.isStatics = false ∧ s.vm.findClass (zCn q2) = some cellB.cls := by
      rcases hrc with ⟨h1, h2⟩ | ⟨h1, h2, h3⟩
      · rw [zAd_lt (Nat.lt_trans h1 hH.2.2.2.1)]
        exact va_recv hK.1 hH.1 (zCl_at h2) (by rw [zWs_get h1, zE_obj hsh])
      · subst h3
        obtain ⟨i9, rfl⟩ : ∃ i9, b = 1000000 + i9 := ⟨b - 1000000, (Nat.add_sub_of_le h1).symm⟩
        rw [zAd_ge]
        exact va_Orecv (hK.2.2.2.2.2.2.2.1 i9 (Nat.lt_of_add_lt_add_left (n := 1000000) h2)).1 hS
    simp only [zCok, Bool.and_eq_true, decide_eq_true_eq] at hok
    obtain ⟨⟨⟨⟨hw, hpd⟩, hord⟩, -⟩, hkk⟩ := hok
    have hyz := zYat (zOrd_lt hord)
    have hmem := zAll2_mem _ _ hw
    rcases hk with rfl | rfl
    · simp only [Bool.and_eq_true, decide_eq_true_eq] at hkk
      have cw := cwV (R := R) (s := s) (args := args) (own := zOn (zO y)) (C := zCn q2) (index := q1) (y := zY z9) (bytes := zB z9) (maxL := zL z9) (mc := mc) (ms := ms) (ret := zR z9) (Ts := zW) (ws := zWd z9) (rm := zRm z9 mc ms) np9 hts (zGoodApp hord hmem) rfl rfl rfl ⟨hkk.1, hyz.2.2.1, hyz.2.2.2, hpd⟩ hR
      exact zRun_go (va_runV (As := (st.take np9).reverse.map (zV (zAd base sd))) S hM cw ⟨zPc_blind, hrecv, hpre⟩ rfl hn hsz hstk hW hd ⟨hcells, hslots⟩) hS kk
    · have cw := va_cwU (R := R) (s := s) (args := args) (own := zOn (zO y)) (C := zCn q2) (owner := (zY z9).cls) (index := q1) (x := ⟨x9, (zY z9).name, (zY z9).desc⟩) (y := zY z9) (bytes := zB z9) (maxL := zL z9) (mc := mc) (ms := ms) (ret := zR z9) (Ts := zW) (ws := zWd z9) (rm := zRm z9 mc ms) np9 hts (zGoodApp hord hmem) rfl rfl rfl rfl ⟨hyz.2.2.1, hyz.2.2.2, hpd⟩ hR
      exact zRun_go (va_runU (As := (st.take np9).reverse.map (zV (zAd base sd))) S hM cw ⟨zPc_blind, hrecv, hpre⟩ rfl hn hsz hstk hW hd ⟨hcells, hslots⟩) hS kk
  | invokeinterface k n9 =>
    obtain rfl : 5 = len := by simp only [zOkl, zLen, Bool.or_eq_true, beq_iff_eq] at hol; omega
    obtain ⟨np, b, cc, q, hdr, rfl, hsh, hq, hqn, hqz, hk, hrc, hroom⟩ := vir k true hi
    obtain ⟨hR, hW⟩ := room hroom
    obtain ⟨e1, e2, hok⟩ := zCal_spec hq
    have hif := zIfc_in hq
    obtain ⟨q1, q2, q3, z9, np9, x9, ps⟩ := q
    simp only [if_true] at e1 e2 hqn hqz hk hif
    subst e1; subst e2; subst hqn; subst hqz; subst hk
    have hif := hif rfl
    simp only [zCok, Bool.and_eq_true, decide_eq_true_eq] at hok
    obtain ⟨⟨⟨⟨hw, hpd⟩, hord⟩, -⟩, ⟨h11, hx1⟩, hx2⟩ := hok
    have hnp : np9 ≤ st.length := by
      by_cases h : np9 ≤ st.length
      · exact h
      · rw [List.drop_eq_nil_of_le (by omega)] at hdr; cases hdr
    have hn : ((st.take np9).reverse.map (zV (zAd base sd))).length = np9 := by rw [List.length_map, List.length_reverse, List.length_take]; exact Nat.min_eq_left hnp
    have hstk : st.map (zV (zAd base sd)) = ((st.take np9).reverse.map (zV (zAd base sd))).reverse ++ .ref (zAd base sd b) :: rest.map (zV (zAd base sd)) := by
      have := zTake_stack (st := st) (np := np9) (zAd base sd)
      rw [hdr] at this
      exact this
    have hb9 : b < zN M := hrc.elim (fun h => h.1) (fun h => absurd h11 (by omega))
    have hrecv : ∃ cellB : Cell, H[zAd base sd b]? = some cellB ∧ cellB.vm.isStatics = false ∧ s.vm.findClass (zCn q2) = some cellB.cls := by
      rw [zAd_lt (Nat.lt_trans hb9 hH.2.2.2.1)]
      exact va_recv hK.1 hH.1 (zCl_at h11) (by rw [zWs_get hb9, zE_obj hsh])
    have hyz := zYat (zOrd_lt hord)
    have hmem := zAll2_mem _ _ hw
    have hFw : va_Fw (zCn q2) zTake (zY z9) s := by
      rcases hif.2 with ⟨rfl, rfl⟩ | ⟨rfl, rfl⟩
      · exact hK.2.2.2.2.1
      · exact hK.2.2.2.2.2.1
    have hxz : (⟨x9, (zY z9).name, (zY z9).desc⟩ : MethodName) = zTake := hif.1
    have cw := va_cwF (R := R) (s := s) (args := args) (own := zOn (zO y)) (C := zCn q2) (index := q1) (x := zTake) (y := zY z9) (bytes := zB z9) (maxL := zL z9) (mc := mc) (ms := ms) (ret := zR z9) (Ts := zW) (ws := zWd z9) (rm := zRm z9 mc ms) np9 hts (by rw [← hxz]; exact zGoodApp hord hmem) rfl rfl rfl hFw (by rw [← hxz]; exact ⟨hx1, hx2, hpd⟩) hR
    exact zRun_go5 (va_runF (As := (st.take np9).reverse.map (zV (zAd base sd))) (hK.1.1 q2 _ (zCl_at h11)).2 S hM cw ⟨zPc_blind, hrecv, hpre⟩ rfl hn hsz hstk hW hd ⟨hcells, hslots⟩) hS kk
  | _ => exact absurd hi (by simp [zInv])
end ZCALL
