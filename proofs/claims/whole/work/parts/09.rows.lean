/-! What the tables' checks give. -/
theorem zAll15 {P : Nat → Bool} (h : (List.range 15).all P = true) {o : Nat} (ho : o < 15) : P o = true := List.all_eq_true.mp h o (List.mem_range.mpr ho)
theorem zAll11 {P : Nat → Bool} (h : (List.range 11).all P = true) {o : Nat} (ho : o < 11) : P o = true := List.all_eq_true.mp h o (List.mem_range.mpr ho)
theorem zCl_at {c : Nat} (h : c < 11) : zCl[c]? = some (zCn c, zTc c, zNf c) := by
  have h1 : c < zCl.length := h
  have e : zCl.getD c ("", TX3, 0) = zCl[c] := by rw [List.getD_eq_getElem?_getD, List.getElem?_eq_getElem h1]; rfl
  have h11 : ¬ c = 11 := by omega
  unfold zCn zTc zNf
  rw [if_neg h11, e, List.getElem?_eq_getElem h1]
theorem zCn_lt {c : Nat} (h : c < 11) : (zCl.getD c ("", TX3, 0)).1 = zCn c := by
  unfold zCn
  rw [if_neg (by omega)]
theorem zLays {c : Nat} (h : c < 11) : ∀ w ∈ u_ws (zCn c) (zTc c) (zNf c), w ∈ zW := by
  intro w hw
  obtain ⟨j, hj, rfl⟩ := List.mem_map.mp hw
  have h1 := List.all_eq_true.mp (zAll11 zLy_ok h) j hj
  rw [zCn_lt h] at h1
  exact zAt_mem h1
theorem zTyAt {c j : Nat} (h : c < 11) (hj : j < zNf c) : parseFieldDescriptor (zTc c j).2.2.1 = some (zTy c j) := of_decide_eq_true (List.all_eq_true.mp (zAll11 zTy_ok h) j (List.mem_range.mpr hj))
theorem zNmAt {c : Nat} (h : c < 11) : ∀ a, a < zNf c → ∀ b, b < zNf c → a ≠ b → (zTc c a).2.1 ≠ (zTc c b).2.1 := by
  intro a ha b hb hne
  have h1 := List.all_eq_true.mp (List.all_eq_true.mp (zAll11 zNm_ok h) b (List.mem_range.mpr hb)) a (List.mem_range.mpr ha)
  simp only [Bool.or_eq_true, beq_iff_eq, decide_eq_true_eq] at h1
  rcases h1 with h1 | h1
  · exact absurd h1 hne
  · exact h1
theorem zFTs_lt {o : Nat} {e : Nat × Nat × Nat × Bool × String × Nat × Nat} (h : e ∈ zFTs.getD o []) : o < 15 := by
  by_cases ho : o < 15
  · exact ho
  · have : zFTs.getD o [] = [] := by
      rw [List.getD_eq_getElem?_getD, List.getElem?_eq_none (by show zFTs.length ≤ o; exact Nat.not_lt.mp ho)]; rfl
    rw [this] at h
    exact absurd h List.not_mem_nil
theorem zFld_spec {o k c j : Nat} {r : Bool} (h : zFld o k c = some (j, r)) : c < 11 ∧ j < zNf c ∧ zRf c j = r ∧ ∃ ref, Cond.fieldLink (zOn o) k ref (zTc c j).2.1 (zTc c j).2.2.1 ∈ zW ∧ (ref = (zTc c j).1 ∨ Cond.sameField ref (zTc c j).1 (zTc c j).2.1 (zTc c j).2.2.1 ∈ zW) := by
  unfold zFld zFind at h
  cases hf : (zFTs.getD o []).find? (fun e => e.1 == k && e.2.1 == c) with
  | none => rw [hf] at h; cases h
  | some e =>
    rw [hf] at h
    have hm := List.mem_of_find?_eq_some hf
    have hp := List.find?_some hf
    simp only [Bool.and_eq_true, beq_iff_eq] at hp
    have hok := List.all_eq_true.mp (zAll15 zF_ok (zFTs_lt hm)) e hm
    obtain ⟨e1, e2, e3, e4, e5, e6, e7⟩ := e
    simp only [Option.map_some, Option.some.injEq, Prod.mk.injEq] at h
    obtain ⟨rfl, rfl⟩ := h
    obtain ⟨rfl, rfl⟩ := hp
    simp only [zFok, Bool.and_eq_true, decide_eq_true_eq, beq_iff_eq, Bool.or_eq_true] at hok
    obtain ⟨⟨⟨⟨h1, h2⟩, h3⟩, h4⟩, h5⟩ := hok
    exact ⟨h1, h2, h3, e5, zAt_mem h4, h5.imp id zAt_mem⟩
theorem zRfTy {c j : Nat} (h : c < 11) (hj : j < zNf c) : zTyOk (zTy c j) (zRf c j) = true := List.all_eq_true.mp (zAll11 zRf_ok h) j (List.mem_range.mpr hj)
theorem zNarI {t : FieldType} {x : Int32} (h : zTyOk t false = true) (hn : zNar t x = true) : narrow t (.int x) = .int x ∧ fits t (.int x) = true := by
  cases t with
  | int => exact ⟨rfl, rfl⟩
  | boolean =>
    simp only [zNar, Bool.or_eq_true, decide_eq_true_eq] at hn
    rcases hn with rfl | rfl <;> exact ⟨by decide, by decide⟩
  | _ => simp [zTyOk] at h
theorem zNarQ {t : FieldType} {a : Nat} (h : zTyOk t true = true) : narrow t (.ref a) = .ref a ∧ fits t (.ref a) = true := by
  cases t <;> simp [zTyOk] at h <;> exact ⟨rfl, rfl⟩
section ZR
variable {base : Nat} {sd : Nat → Nat} {cA : Nat → ClassId} {D : va_G} {L0 : Nat} {xs : Nat → Int32}
variable {p : Program} {l : Launch} {e : Env} {R : Room} {s : State} {m : MethodId} {args : Array Value} {below : List Frame} {meth : Method} {c : Code} {H : Heap} {locs : List Loc} {cells slots : Nat} {Q : State → Prop} {y pc : Nat} {ls : Array Slot} {rest : List Value} {M M' : zM}
/-- inside a method: the machine, its code, its words -/
def zCx (base : Nat) (sd : Nat → Nat) (cA : Nat → ClassId) (D : va_G) (L0 : Nat) (xs : Nat → Int32) (p : Program) (s : State) (m : MethodId) (args : Array Value) (meth : Method) (c : Code) (y : Nat) : Prop :=
  p.tables.exec = Jvm.exec ∧ c.code = zB y ∧ c.maxLocals = zL y ∧ s.vm.findClass (zOn (zO y)) = some m.cls ∧ (∀ w ∈ zW, w.before args s = true) ∧ ((zY y).name = "<init>" → meth.name = "<init>") ∧ zK base sd cA D L0 xs s s.heap
theorem zE_obj {ad : Nat → Nat} {a cc : Nat} (hs : zS M a = (0, cc)) : zE ad cA M a = .inr (cc, (List.range (zNf cc)).map (zFv ad M a cc)) := by
  unfold zE
  rw [hs]
theorem zE_int {ad : Nat → Nat} {a n : Nat} (hs : zS M a = (1, n)) : zE ad cA M a = .inl (cA 0, n, .inl (zI M a)) := by
  unfold zE
  rw [hs]
theorem zE_bool {ad : Nat → Nat} {a n : Nat} (hs : zS M a = (2, n)) : zE ad cA M a = .inl (cA 1, n, .inl (zI M a)) := by
  unfold zE
  rw [hs]
theorem zE_long {ad : Nat → Nat} {a n : Nat} (hs : zS M a = (3, n)) : zE ad cA M a = .inl (cA 2, n, .inr (.inl (zJ M a))) := by
  unfold zE
  rw [hs]
theorem zE_ref {ad : Nat → Nat} {a t n : Nat} (hs : zS M a = (t + 4, n)) : zE ad cA M a = .inl (cA (t + 3), n, .inr (.inr (.inr (.inr (fun j => (zP M a j).map ad))))) := by
  unfold zE
  rw [hs]
theorem zAd_lt {a : Nat} (h : a < 1000000) : zAd base sd a = base + a := by unfold zAd; rw [if_pos h]
theorem zAd_ge (k : Nat) : zAd base sd (1000000 + k) = sd k := by unfold zAd; rw [if_neg (by omega), Nat.add_sub_cancel_left]
theorem zr_get (cx : zCx base sd cA D L0 xs p s m args meth c y) (hH : zHp base sd cA D L0 xs M H) {k a cc j : Nat} {r : Bool} (hs : zS M a = (0, cc)) (ha : a < zN M) (hf : zFld (zO y) k cc = some (j, r)) (hd : decode (zB y) pc = .ok (.getfield k, 3))
    (kk : W p l e R s m args below meth c H locs cells slots Q (F0 m (pc + 3) ls (zFv (zAd base sd) M a cc j :: rest))) : W p l e R s m args below meth c H locs cells slots Q (F0 m pc ls (.ref (base + a) :: rest)) := by
  obtain ⟨hx, hb, -, hown, hts, -, hK⟩ := cx
  obtain ⟨h1, h2, -, ref, h4, h5⟩ := zFld_spec hf
  refine va_get (C := zCn cc) (T := zTc cc) (N := zNf cc) (ref := ref) hx hb hts (zLays h1) hown hK.1 hH.1 a (by rw [zWs_get ha, zE_obj hs]) (zCl_at h1) j h2 (hts _ h4) ?_ (v := zFv (zAd base sd) M a cc j) ?_ hd kk
  · rcases h5 with rfl | h5
    · exact fun _ h => h
    · exact u_same (hts _ h5)
  · simp [h2]
theorem zr_put (cx : zCx base sd cA D L0 xs p s m args meth c y) (hH : zHp base sd cA D L0 xs M H) (hS0 : va_S (fun q => base ≤ q) s.heap H locs) {k a cc j : Nat} {r : Bool} {v : Value} (hs : zS M a = (0, cc)) (ha : a < zN M) (hf : zFld (zO y) k cc = some (j, r)) (hfin : zFin y cc j = true) (hn : narrow (zTy cc j) v = v) (hfit : fits (zTy cc j) v = true)
    (hM : zN M' = zN M ∧ zG M' = zG M ∧ (∀ b, b ≠ a → zE (zAd base sd) cA M' b = zE (zAd base sd) cA M b) ∧ zE (zAd base sd) cA M' a = .inr (cc, ((List.range (zNf cc)).map (zFv (zAd base sd) M a cc)).set j v) ∧ zSta L0 xs M') (hdg : decode (zB y) pc = .ok (.putfield k, 3))
    (kk : ∀ (H1 : Heap) (locs1 : List Loc), zHp base sd cA D L0 xs M' H1 → va_S (fun q => base ≤ q) s.heap H1 locs1 → W p l e R s m args below meth c H1 locs1 cells slots Q (F0 m (pc + 3) ls rest)) : W p l e R s m args below meth c H locs cells slots Q (F0 m pc ls (v :: .ref (base + a) :: rest)) := by
  obtain ⟨hx, hb, -, hown, hts, hmn, hK⟩ := cx
  obtain ⟨h1, h2, -, ref, hlk, h5⟩ := zFld_spec hf
  obtain ⟨hN, hG, hE, hEa, hSt⟩ := hM
  have hc := zCl_at h1
  have hin := zLays h1
  have hK := hK.1
  have hD := zWs_D (base := base) (ad := zAd base sd) (cA := cA) (M := M)
  have he : (zWs base (zAd base sd) cA M)[a]? = some (base + a, .inr (cc, (List.range (zNf cc)).map (zFv (zAd base sd) M a cc))) := by rw [zWs_get ha, zE_obj hs]
  have hsame : ∀ x, s.fieldFound? (zTc cc j).1 (zTc cc j).2.1 (zTc cc j).2.2.1 = some x → s.fieldFound? ref (zTc cc j).2.1 (zTc cc j).2.2.1 = some x := by
    rcases h5 with rfl | h5
    · exact fun _ h => h
    · exact u_same (hts _ h5)
  have hap := va_apart (own := zOn (zO y)) hts hin (zTy cc) (fun k hk => zTyAt h1 hk) (zNmAt h1) hK hc
  obtain ⟨r, hr1, cell, q1, q2, q3, q4⟩ := hH.1 a _ he
  have hr : r = (zCn cc, zTc cc, zNf cc) := Option.some.inj (hr1.symm.trans hc)
  subst hr
  obtain ⟨hS, hfc, kC, hkC, hkind⟩ := hK.1 cc _ hc
  obtain ⟨cf, kf, fi, f, hi, hsl⟩ := hS j h2
  have hlay := hts _ (hin _ (u_in_lay h2))
  have hst := (u_facts hfc hkC (u_lays hts hin h2) hi).1
  have hl : j < ((List.range (zNf cc)).map (zFv (zAd base sd) M a cc)).length := by simp [h2]
  have fin : ∀ H' : Heap, H'[base + a]? = some (cell.setSlot (D.2 cc j) v) → H'.size = H.size → (∀ q, q ≠ base + a → H'[q]? = H[q]?) → zHp base sd cA D L0 xs M' H' ∧ va_S (fun q => base ≤ q) s.heap H' (locs ++ [⟨base + a, D.2 cc j⟩]) := by
    intro H' e1 e2 e3
    have hP' := hH.1.set hD he (e := .inr (cc, ((List.range (zNf cc)).map (zFv (zAd base sd) M a cc)).set j v)) (H1 := H') ⟨_, hc, t_OB.to (V := updV (vp_V ((List.range (zNf cc)).map (zFv (zAd base sd) M a cc))) j v) ⟨_, e1, q2, q3, t_set q4 hap h2 v⟩ (fun i _ => vp_updV_set hl v i)⟩ e3
    rw [zWs_set hN hE hEa] at hP'
    exact ⟨⟨hP', by rw [e2, hN]; exact hH.2.1, by rw [hG, e2, hN]; exact hH.2.2.1, by rw [hN]; exact hH.2.2.2.1, hSt⟩, hS0.put e2 e3 (Nat.le_add_right _ _)⟩
  unfold u_lay at hlay
  by_cases hfi : (zTc cc j).2.2.2 = true
  · rw [if_pos hfi] at hlay
    simp only [zFin, hfi, Bool.not_true, Bool.false_or, Bool.and_eq_true, decide_eq_true_eq] at hfin
    have hcf : m.cls = cf := by
      obtain ⟨_, _, c', _, _, _, -, -, hf', -, -, -, hown2, -⟩ := Cond.laysFinal_spec hlay
      have e1 : c' = cf := by have := hi.symm.trans hf'; simp at this; exact this.1.symm
      rw [hfin.2] at hown2
      rw [← e1]; exact Option.some.inj (hown.symm.trans hown2)
    have h6 := u_fits hfc hkC hkind (Or.inr hlay) hi (zTyAt h1 h2) hn hfit
    refine W.putFinK hx hb hown (hts _ hlk) (hsame _ hi) hst hcf (hmn hfin.1) (by rw [q2]; exact h6) q1 q3 (by rw [hsl]; exact k2_hasslot (q4 j h2)) rfl rfl hdg fun H' e1 e2 e3 => ?_
    rw [hsl] at e1 ⊢
    obtain ⟨g1, g2⟩ := fin H' e1 e2 e3
    exact kk H' _ g1 g2
  · rw [if_neg hfi] at hlay
    have h6 := u_store hfc hkC hkind hlay hi (zTyAt h1 h2) hn hfit
    refine W.putK hx hb (f := f) ⟨hown, hts _ hlk, ⟨_, _, _, hsame _ hi⟩, hst⟩ (by rw [q2]; exact h6) q1 q3 (by rw [hsl]; exact k2_hasslot (q4 j h2)) rfl rfl hdg fun H' e1 e2 e3 => ?_
    rw [hsl] at e1 ⊢
    obtain ⟨g1, g2⟩ := fin H' e1 e2 e3
    exact kk H' _ g1 g2
theorem zSta_WI {a j : Nat} {x : Int32} (h : zSta L0 xs M) (ha : a < 1000000) : zSta L0 xs (zWI M a j x) := fun b hb => ⟨(h b hb).1, (z2_ne (by omega)).trans (h b hb).2.1, (h b hb).2.2⟩
theorem zSta_WJ {a j : Nat} {x : Int64} (h : zSta L0 xs M) : zSta L0 xs (zWJ M a j x) := h
theorem zSta_WQ {a j : Nat} {x : Option Nat} (h : zSta L0 xs M) (ha : a < 1000000) : zSta L0 xs (zWQ M a j x) := fun b hb => ⟨(h b hb).1, (h b hb).2.1, (z2_ne (by omega)).trans (h b hb).2.2⟩
theorem zSta_New {sh : Nat × Nat} {n : Nat} (h : zSta L0 xs M) (hn : zN M < 1000000) : zSta L0 xs (zNew M sh n) := by
  intro b hb
  have hk : b ≠ M.1 := by unfold zN at hn; omega
  refine ⟨?_, ?_, ?_⟩
  · show (if b = M.1 then sh else zS M b) = _
    rw [if_neg hk]; exact (h b hb).1
  · rw [← (h b hb).2.1]
    funext i
    show (if b = M.1 then 0 else zI M b i) = _
    rw [if_neg hk]
  · rw [← (h b hb).2.2]
    funext i
    show (if b = M.1 then none else zP M b i) = _
    rw [if_neg hk]
theorem zE_putI {ad : Nat → Nat} {a cc j : Nat} {x : Int32} (hs : zS M a = (0, cc)) (hr : zRf cc j = false) (hj : j < zNf cc) : zE ad cA (zWI M a j x) a = .inr (cc, ((List.range (zNf cc)).map (zFv ad M a cc)).set j (.int x)) := by
  rw [zE_obj (M := zWI M a j x) (cc := cc) hs]
  congr 2
  apply List.ext_getElem?
  intro i
  rw [List.getElem?_set]
  by_cases hi : i < zNf cc
  · by_cases e : j = i
    · subst e
      simp [hi, zFv, hr, zWI, zI, z2]
    · rw [if_neg e]
      have e' : ¬ i = j := fun q => e q.symm
      simp [hi, zFv, zWI, zI, zP, z2, e']
  · simp [hi]
    intro h; omega
theorem zE_putQ {ad : Nat → Nat} {a cc j v : Nat} (hs : zS M a = (0, cc)) (hr : zRf cc j = true) (hj : j < zNf cc) : zE ad cA (zWQ M a j (some v)) a = .inr (cc, ((List.range (zNf cc)).map (zFv ad M a cc)).set j (.ref (ad v))) := by
  rw [zE_obj (M := zWQ M a j (some v)) (cc := cc) hs]
  congr 2
  apply List.ext_getElem?
  intro i
  rw [List.getElem?_set]
  by_cases hi : i < zNf cc
  · by_cases e : j = i
    · subst e
      simp [hi, zFv, hr, zWQ, zP, z2, va_rf]
    · rw [if_neg e]
      have e' : ¬ i = j := fun q => e q.symm
      simp [hi, zFv, zWQ, zI, zP, z2, e']
  · simp [hi]
    intro h; omega
/-- what a store into an array leaves -/
theorem zr_ast {a : Nat} {e0 e1 : va_E} (hH : zHp base sd cA D L0 xs M H) (hS : va_S (fun q => base ≤ q) s.heap H locs) (ha : a < zN M) (he0 : zE (zAd base sd) cA M a = e0) {k : Nat}
    (hM : zN M' = zN M ∧ zG M' = zG M ∧ (∀ b, b ≠ a → zE (zAd base sd) cA M' b = zE (zAd base sd) cA M b) ∧ zE (zAd base sd) cA M' a = e1 ∧ zSta L0 xs M') {H1 : Heap} (hat : va_at D zCl (base + a, e1) H1) (z : H1.size = H.size) (oq : ∀ q, q ≠ base + a → H1[q]? = H[q]?) :
    zHp base sd cA D L0 xs M' H1 ∧ va_S (fun q => base ≤ q) s.heap H1 (locs ++ [⟨base + a, k⟩]) := by
  obtain ⟨hN, hG, hE, hEa, hSt⟩ := hM
  have hP' := hH.1.set zWs_D (by rw [zWs_get ha, he0]) (e := e1) hat oq
  rw [zWs_set hN hE hEa] at hP'
  exact ⟨⟨hP', by rw [z, hN]; exact hH.2.1, by rw [hG, z, hN]; exact hH.2.2.1, by rw [hN]; exact hH.2.2.2.1, hSt⟩, hS.put z oq (Nat.le_add_right _ _)⟩
theorem zin_in {j : Int32} {n : Nat} (h : zin j n = true) : vp_in j n := by
  intro q
  simp only [zin, Bool.not_eq_true', Bool.or_eq_false_iff, decide_eq_false_iff_not] at h
  exact q.elim h.1 h.2
theorem zr_iast (cx : zCx base sd cA D L0 xs p s m args meth c y) (hH : zHp base sd cA D L0 xs M H) (hS : va_S (fun q => base ≤ q) s.heap H locs) {a n : Nat} {i x : Int32} (hs : zS M a = (1, n)) (ha : a < zN M) (hin : zin i n = true) (hdg : decode (zB y) pc = .ok (.iastore, 1))
    (kk : ∀ (H1 : Heap) (locs1 : List Loc), zHp base sd cA D L0 xs (zWI M a i.toNatClampNeg x) H1 → va_S (fun q => base ≤ q) s.heap H1 locs1 → W p l e R s m args below meth c H1 locs1 cells slots Q (F0 m (pc + 1) ls rest)) : W p l e R s m args below meth c H locs cells slots Q (F0 m pc ls (.int x :: .int i :: .ref (base + a) :: rest)) := by
  obtain ⟨hx, hb, -, hown, hts, -, hK⟩ := cx
  have ha9 : a < 1000000 := Nat.lt_trans ha hH.2.2.2.1
  have hE0 := zE_int (cA := cA) (ad := zAd base sd) hs
  have hat0 : va_at D zCl (base + a, .inl (cA 0, n, .inl (zI M a))) H := hH.1 a _ (by rw [zWs_get ha, hE0])
  refine W.iast hx hb hat0 ((hK.1.2 0 _ rfl).1 n (fun j => .int (zI M a j))) (fun q => by cases q) (by show ¬ (i < 0 ∨ (arrV _ _ _).slots.size ≤ _); rw [arrV_size]; exact zin_in hin) rfl rfl hdg fun H1 e z oq => ?_
  have hat1 : va_at D zCl (base + a, .inl (cA 0, n, .inl (upd (zI M a) i.toNatClampNeg x))) H1 := by
    show H1[base + a]? = some (vp_cell _ _)
    rw [e, vp_cell_i, vp_cell_i, arrV_store]
    congr 2
    funext q
    by_cases hq : q = i.toNatClampNeg
    · subst hq
      simp [updV, upd]
    · simp [updV, upd, hq]
  obtain ⟨g1, g2⟩ := zr_ast (k := i.toNatClampNeg) (M' := zWI M a i.toNatClampNeg x) hH hS ha hE0 ⟨rfl, rfl, fun b hb => zE_WI hb, by
    rw [zE_int (M := zWI M a i.toNatClampNeg x) (n := n) hs]
    refine congrArg (fun f => (.inl (cA 0, n, .inl f) : va_E)) ?_
    funext q
    simp [zWI, zI, z2, upd], zSta_WI hH.2.2.2.2 ha9⟩ hat1 z oq
  exact kk H1 _ g1 g2
theorem zNarB {x : Int32} (h : zNar .boolean x = true) : narrow .boolean (.int x) = .int x := by
  simp only [zNar, Bool.or_eq_true, decide_eq_true_eq] at h
  rcases h with rfl | rfl <;> decide
theorem zr_zast (cx : zCx base sd cA D L0 xs p s m args meth c y) (hH : zHp base sd cA D L0 xs M H) (hS : va_S (fun q => base ≤ q) s.heap H locs) {a n : Nat} {i x : Int32} (hs : zS M a = (2, n)) (ha : a < zN M) (hin : zin i n = true) (hnar : zNar .boolean x = true) (hdg : decode (zB y) pc = .ok (.bastore, 1))
    (kk : ∀ (H1 : Heap) (locs1 : List Loc), zHp base sd cA D L0 xs (zWI M a i.toNatClampNeg x) H1 → va_S (fun q => base ≤ q) s.heap H1 locs1 → W p l e R s m args below meth c H1 locs1 cells slots Q (F0 m (pc + 1) ls rest)) : W p l e R s m args below meth c H locs cells slots Q (F0 m pc ls (.int x :: .int i :: .ref (base + a) :: rest)) := by
  obtain ⟨hx, hb, -, hown, hts, -, hK⟩ := cx
  have ha9 : a < 1000000 := Nat.lt_trans ha hH.2.2.2.1
  have hE0 := zE_bool (cA := cA) (ad := zAd base sd) hs
  have hat0 : va_at D zCl (base + a, .inl (cA 1, n, .inl (zI M a))) H := hH.1 a _ (by rw [zWs_get ha, hE0])
  refine W.zast hx hb hat0 ((hK.1.2 1 _ rfl).1 n (fun j => .int (zI M a j))) (fun q => by cases q) (by show ¬ (i < 0 ∨ (arrV _ _ _).slots.size ≤ _); rw [arrV_size]; exact zin_in hin) rfl rfl hdg fun H1 e z oq => ?_
  have hat1 : va_at D zCl (base + a, .inl (cA 1, n, .inl (upd (zI M a) i.toNatClampNeg x))) H1 := by
    show H1[base + a]? = some (vp_cell _ _)
    rw [e, zNarB hnar, vp_cell_i, vp_cell_i, arrV_store]
    congr 2
    funext q
    by_cases hq : q = i.toNatClampNeg
    · subst hq
      simp [updV, upd]
    · simp [updV, upd, hq]
  obtain ⟨g1, g2⟩ := zr_ast (k := i.toNatClampNeg) (M' := zWI M a i.toNatClampNeg x) hH hS ha hE0 ⟨rfl, rfl, fun b hb => zE_WI hb, by
    rw [zE_bool (M := zWI M a i.toNatClampNeg x) (n := n) hs]
    refine congrArg (fun f => (.inl (cA 1, n, .inl f) : va_E)) ?_
    funext q
    simp [zWI, zI, z2, upd], zSta_WI hH.2.2.2.2 ha9⟩ hat1 z oq
  exact kk H1 _ g1 g2
theorem zTysAt {t : Nat} (h : 3 ≤ t) (h7 : t < 7) : (zTys cA)[t]? = some (cA t, .object (zAc t)) := by
  match t, h, h7 with
  | 3, _, _ => rfl
  | 4, _, _ => rfl
  | 5, _, _ => rfl
  | 6, _, _ => rfl
theorem zr_aast (cx : zCx base sd cA D L0 xs p s m args meth c y) (hH : zHp base sd cA D L0 xs M H) (hS : va_S (fun q => base ≤ q) s.heap H locs) {a n t v cc : Nat} {i : Int32} (hs : zS M a = (t + 4, n)) (ht : t < 4) (ha : a < zN M) (hv : zS M v = (0, cc)) (hcc : cc < 11) (hva : v < zN M) (hcn : zCn cc = zAc (t + 3)) (hin : zin i n = true) (hdg : decode (zB y) pc = .ok (.aastore, 1))
    (kk : ∀ (H1 : Heap) (locs1 : List Loc), zHp base sd cA D L0 xs (zWQ M a i.toNatClampNeg (some v)) H1 → va_S (fun q => base ≤ q) s.heap H1 locs1 → W p l e R s m args below meth c H1 locs1 cells slots Q (F0 m (pc + 1) ls rest)) : W p l e R s m args below meth c H locs cells slots Q (F0 m pc ls (.ref (base + v) :: .int i :: .ref (base + a) :: rest)) := by
  obtain ⟨hx, hb, -, hown, hts, -, hK⟩ := cx
  have hK := hK.1
  have ha9 : a < 1000000 := Nat.lt_trans ha hH.2.2.2.1
  have hv9 : v < 1000000 := Nat.lt_trans hva hH.2.2.2.1
  have hvin := zin_in hin
  have hlt : i.toNatClampNeg < n := Nat.not_le.mp fun q => hvin (Or.inr q)
  have h0 : ¬ i < 0 := fun q => hvin (Or.inl q)
  have hE0 := zE_ref (cA := cA) (ad := zAd base sd) hs
  have hat0 : va_at D zCl (base + a, .inl (cA (t + 3), n, .inr (.inr (.inr (.inr (fun j => (zP M a j).map (zAd base sd))))))) H := hH.1 a _ (by rw [zWs_get ha, hE0])
  obtain ⟨r', hr', cellV, g1, g2, g3, -⟩ := hH.1 v _ (by rw [zWs_get hva, zE_obj hv])
  have hcls := (hK.1 cc _ (zCl_at hcc)).2
  have htt := hK.2 (t + 3) _ (zTysAt (by omega) (by omega))
  obtain ⟨kA, comp, k1, k2, k3, -⟩ := htt.2
  have hcomp : comp = D.1 cc := by
    rw [← hcn] at k3
    exact Option.some.inj (k3.symm.trans hcls.1)
  subst hcomp
  obtain ⟨kC, hkC, -⟩ := hcls.2
  refine W.aast hx hb hat0 (fun q h => by cases h) (fun h => by cases h) k1 k2 rfl hkC ⟨h0, by show _ < (arrV _ _ _).slots.size; rw [arrV_size]; exact hlt⟩ g1 (fun q h => by rw [g3] at h; cases h) (by rw [g2]; exact hkC) (by rw [g2]; exact va_assign hcls) rfl rfl hdg fun H1 e z oq => ?_
  have hat1 : va_at D zCl (base + a, .inl (cA (t + 3), n, .inr (.inr (.inr (.inr (va_up (fun j => (zP M a j).map (zAd base sd)) i.toNatClampNeg (some (base + v)))))))) H1 := by
    show H1[base + a]? = some (vp_cell _ _)
    rw [e, vp_cell_q, vp_cell_q, arrV_store]
    congr 2
    funext q
    by_cases hq : q = i.toNatClampNeg
    · subst hq
      simp [updV, va_up, va_rf]
    · simp [updV, va_up, hq]
  obtain ⟨f1, f2⟩ := zr_ast (k := i.toNatClampNeg) (M' := zWQ M a i.toNatClampNeg (some v)) hH hS ha hE0 ⟨rfl, rfl, fun b hb => zE_WQ hb, by
    rw [zE_ref (M := zWQ M a i.toNatClampNeg (some v)) (t := t) (n := n) hs]
    refine congrArg (fun f => (.inl (cA (t + 3), n, .inr (.inr (.inr (.inr f)))) : va_E)) ?_
    funext q
    by_cases hq : q = i.toNatClampNeg
    · subst hq
      simp [zWQ, zP, z2, va_up, zAd_lt hv9]
    · simp [zWQ, zP, z2, va_up, hq], zSta_WQ hH.2.2.2.2 ha9⟩ hat1 z oq
  exact kk H1 _ f1 f2
end ZR
