/-! The model's runs are the machine's. -/
def zc (M : zM) : Nat := zN M + zG M
set_option maxHeartbeats 4000000 in
theorem zStep_mono {y : Nat} {i : Instr} {len pc pc' : Nat} {L L' : List (Option Value)} {st st' : List Value} {M M' : zM} (hs : zStep y i len pc L st M = some (pc', L', st', M')) : zN M ≤ zN M' ∧ zZ M ≤ zZ M' ∧ zG M' = zG M := by
  have r0 : zN M ≤ zN M ∧ zZ M ≤ zZ M ∧ zG M = zG M := ⟨Nat.le_refl _, Nat.le_refl _, rfl⟩
  cases i with
  | getfield k =>
    simp only [zStep] at hs
    split at hs
    · obtain ⟨q, hq, he⟩ := Option.map_eq_some_iff.mp hs
      cases he
      exact r0
    · cases hs
  | putfield k =>
    simp only [zStep] at hs
    obtain ⟨q, hq, he⟩ := Option.map_eq_some_iff.mp hs
    cases he
    unfold zPf at hq
    split at hq
    · split at hq
      · split at hq
        · split at hq
          · split at hq
            · cases hq; exact r0
            · cases hq
          · cases hq
        · cases hq
      · cases hq
    · split at hq
      · split at hq
        · split at hq
          · split at hq
            · cases hq; exact r0
            · cases hq
          · cases hq
        · cases hq
      · cases hq
    · cases hq
  | iastore =>
    simp only [zStep] at hs
    obtain ⟨q, hq, he⟩ := Option.map_eq_some_iff.mp hs
    cases he
    unfold zIst at hq
    split at hq
    · split at hq
      · split at hq
        · cases hq; exact r0
        · cases hq
      · cases hq
    · cases hq
  | bastore =>
    simp only [zStep] at hs
    obtain ⟨q, hq, he⟩ := Option.map_eq_some_iff.mp hs
    cases he
    unfold zZst at hq
    split at hq
    · split at hq
      · split at hq
        · cases hq; exact r0
        · cases hq
      · cases hq
    · cases hq
  | aastore =>
    simp only [zStep] at hs
    obtain ⟨q, hq, he⟩ := Option.map_eq_some_iff.mp hs
    cases he
    unfold zAst at hq
    split at hq
    · split at hq
      · split at hq
        · cases hq; exact r0
        · cases hq
      · cases hq
    · cases hq
  | newarray t =>
    simp only [zStep] at hs
    split at hs
    · obtain ⟨q, hq, he⟩ := Option.map_eq_some_iff.mp hs
      cases he
      unfold zNwa at hq
      split at hq
      · split at hq
        · cases hq; exact ⟨Nat.le_succ _, Nat.le_add_right _ _, rfl⟩
        · cases hq
      · cases hq
    · cases hs
  | anewarray t =>
    simp only [zStep] at hs
    split at hs
    · obtain ⟨q, hq, he⟩ := Option.map_eq_some_iff.mp hs
      cases he
      unfold zNwa at hq
      split at hq
      · split at hq
        · cases hq; exact ⟨Nat.le_succ _, Nat.le_add_right _ _, rfl⟩
        · cases hq
      · cases hq
    · cases hs
  | new k =>
    simp only [zStep] at hs
    obtain ⟨q, hq, he⟩ := Option.map_eq_some_iff.mp hs
    cases he
    unfold zNwo at hq
    split at hq
    · split at hq
      · cases hq; exact ⟨Nat.le_succ _, Nat.le_add_right _ _, rfl⟩
      · cases hq
    · cases hq
  | _ =>
    first
    | (simp only [zStep] at hs
       obtain ⟨q, hq, he⟩ := Option.map_eq_some_iff.mp hs
       cases he
       exact r0)
    | (simp only [zStep, Option.some.injEq, Prod.mk.injEq] at hs
       obtain ⟨-, -, -, rfl⟩ := hs
       exact r0)
    | (simp [zStep] at hs)
theorem zX_mono : ∀ (n : Nat) {y pc : Nat} {L : List (Option Value)} {st : List Value} {M M1 : zM} {r : Option Value}, zX n y pc L st M = some (r, M1) → zN M ≤ zN M1 ∧ zZ M ≤ zZ M1 ∧ zG M ≤ zG M1
  | 0, _, _, _, _, _, _, _, h => by cases h
  | n + 1, y, pc, L, st, M, M1, r, h => by
    have ih := @zX_mono n
    have two : ∀ {A B C : zM}, (zN A ≤ zN B ∧ zZ A ≤ zZ B ∧ zG A ≤ zG B) → (zN B ≤ zN C ∧ zZ B ≤ zZ C ∧ zG B ≤ zG C) → zN A ≤ zN C ∧ zZ A ≤ zZ C ∧ zG A ≤ zG C := fun a b => ⟨Nat.le_trans a.1 b.1, Nat.le_trans a.2.1 b.2.1, Nat.le_trans a.2.2 b.2.2⟩
    simp only [zX] at h
    split at h
    · cases h
    · split at h
      · cases h; exact ⟨Nat.le_refl _, Nat.le_refl _, Nat.le_refl _⟩
      · split at h
        · cases h; exact ⟨Nat.le_refl _, Nat.le_add_right _ _, Nat.le_succ _⟩
        · split at h
          · split at h
            · rename_i h1; exact two (ih h1) (ih h)
            · rename_i h1; exact two (ih h1) (ih h)
            · rename_i h1; exact two (ih h1) (ih h)
            · cases h
          · split at h
            · split at h
              · rename_i h1
                have := ih h
                exact two (ih h1) this
              · rename_i h1; exact two (ih h1) (ih h)
              · cases h
            · split at h
              · cases h
              · rename_i h1
                obtain ⟨a, b, c⟩ := zStep_mono h1
                exact two ⟨a, b, Nat.le_of_eq c.symm⟩ (ih h)
/-- the locals with which a method begins -/
theorem zEa_args (ad : Nat → Nat) : ∀ (as : List Value) (k i : Nat) (v : Value), zGet (zEa as) i = some v → (k + i, zV ad v) ∈ lv_args k (as.map (zV ad))
  | [], _, i, v, h => by simp [zEa, zGet] at h
  | w :: as, k, i, v, h => by
    have e : zEa (w :: as) = (if w.category = 2 then [some w, none] else [some w]) ++ zEa as := by simp [zEa]
    rw [e] at h
    simp only [List.map_cons, lv_args, zV_cat]
    by_cases hc : w.category = 2
    · rw [if_pos hc] at h ⊢
      match i, h with
      | 0, h =>
        have : w = v := by simpa [zGet] using h
        subst this
        exact List.mem_cons_self
      | 1, h => simp [zGet] at h
      | i + 2, h =>
        have h' : zGet (zEa as) i = some v := by simpa [zGet] using h
        have := zEa_args ad as (k + 2) i v h'
        rw [show k + (i + 2) = k + 2 + i by omega]
        exact List.mem_cons_of_mem _ this
    · rw [if_neg hc] at h ⊢
      match i, h with
      | 0, h =>
        have : w = v := by simpa [zGet] using h
        subst this
        exact List.mem_cons_self
      | i + 1, h =>
        have h' : zGet (zEa as) i = some v := by simpa [zGet] using h
        have := zEa_args ad as (k + 1) i v h'
        rw [show k + (i + 1) = k + 1 + i by omega]
        exact List.mem_cons_of_mem _ this
theorem zEa_len (ad : Nat → Nat) : ∀ as : List Value, (lg_sl (as.map (zV ad))).length = (zEa as).length
  | [] => rfl
  | w :: as => by
    have ih := zEa_len ad as
    have e1 : zEa (w :: as) = (if w.category = 2 then [some w, none] else [some w]) ++ zEa as := by simp [zEa]
    have e2 : lg_sl ((w :: as).map (zV ad)) = (if w.category = 2 then [.val (zV ad w), .second] else [.val (zV ad w)]) ++ lg_sl (as.map (zV ad)) := by simp [lg_sl, zV_cat]
    rw [e1, e2, List.length_append, List.length_append, ih]
    split <;> rfl
theorem zEnt_ls {ad : Nat → Nat} {z : Nat} {as : List Value} (hlen : (zEa as).length ≤ zL z) : zLs ad ((lg_sl (as.map (zV ad)) ++ List.replicate (zL z - (lg_sl (as.map (zV ad))).length) Slot.unset).toArray) (zL z) (zEnt z as) := by
  have h := lv_entry (as.map (zV ad)) (n := zL z) (by rw [zEa_len]; exact hlen)
  refine ⟨h.1, by simp [zEnt]; omega, h.2.1, fun i v hv => ?_⟩
  refine h.2.2 (i, zV ad v) ?_
  have hv' : zGet (zEa as) i = some v := by
    unfold zEnt zGet at hv
    unfold zGet
    rw [List.getD_eq_getElem?_getD] at hv ⊢
    by_cases hi : i < (zEa as).length
    · rw [List.getElem?_append_left hi] at hv
      exact hv
    · exfalso
      rw [List.getElem?_append_right (by omega)] at hv
      rw [List.getElem?_replicate] at hv
      split at hv <;> simp at hv
  have := zEa_args ad as 0 i v hv'
  rw [Nat.zero_add] at this
  exact this
/-- the runs of n steps at most are the machine's -/
def zSnd (base : Nat) (sd : Nat → Nat) (cA : Nat → ClassId) (D : va_G) (L0 : Nat) (xs : Nat → Int32) (l : Launch) (n : Nat) : Prop :=
  ∀ {y pc : Nat} {L : List (Option Value)} {st : List Value} {M M1 : zM} {r : Option Value}, zX n y pc L st M = some (r, M1) → y < 199 →
  ∀ {p : Program} {e : Env} {R : Room} {s : State} {m : MethodId} {args : Array Value} {below : List Frame} {meth : Method} {c : Code} {H : Heap} {locs : List Loc} {ls : Array Slot} {cells slots : Nat} {Q : State → Prop},
  zCx base sd cA D L0 xs p s m args meth c y → zHp base sd cA D L0 xs M H → va_S (fun q => base ≤ q) s.heap H locs → base ≤ s.heap.size → zFr y ≤ R.frames → zLo y ≤ R.locals → zLs (zAd base sd) ls (zL y) L →
  cells + (zc M1 - zc M) ≤ R.cells → slots + (zZ M1 - zZ M) ≤ R.slots →
  (∀ (i : Instr) (st1 : List Value) (pc1 : Nat) (ls1 : Array Slot) (H1 : Heap) (locs1 : List Loc) (c1 z1 : Nat), zRet y i st1 = some r → decode (zB y) pc1 = .ok (i, 1) → zHp base sd cA D L0 xs M1 H1 → va_S (fun q => base ≤ q) s.heap H1 locs1 → c1 = cells + (zc M1 - zc M) → z1 = slots + (zZ M1 - zZ M) → W p l e R s m args below meth c H1 locs1 c1 z1 Q (F0 m pc1 ls1 (st1.map (zV (zAd base sd))))) →
  (∀ (i : Instr) (q : Nat) (st1 : List Value) (pc1 : Nat) (ls1 : Array Slot) (H1 : Heap) (locs1 : List Loc) (M2 : zM) (c1 z1 : Nat), zThw y i = some q → r = some (.retAddr q) → M1 = zThr M2 → decode (zB y) pc1 = .ok (i, 3) → ls1.size = zL y → zHp base sd cA D L0 xs M2 H1 → va_S (fun q => base ≤ q) s.heap H1 locs1 → c1 + 1 ≤ cells + (zc M1 - zc M) → z1 + 16 ≤ slots + (zZ M1 - zZ M) → W p l e R s m args below meth c H1 locs1 c1 z1 Q (F0 m pc1 ls1 (st1.map (zV (zAd base sd))))) →
  W p l e R s m args below meth c H locs cells slots Q (F0 m pc ls (st.map (zV (zAd base sd))))
/-- what the law's own look and edge give back -/
def zSpR (r1 : Option Value) (M1 : zM) (out : Nat) (w : Value) (M2 : zM) : Prop := (∃ v, r1 = some (.int v) ∧ w = .int 0 ∧ M2 = zWJ M1 out 0 v.toInt64) ∨ ∃ q, r1 = some (.retAddr q) ∧ w = .int (nI q) ∧ M2 = M1
def zSpOK (base : Nat) (sd : Nat → Nat) (cA : Nat → ClassId) (D : va_G) (L0 : Nat) (xs : Nat → Int32) (l : Launch) (n : Nat) : Prop :=
  ∀ {y pc z out len : Nat} {i : Instr} {L : List (Option Value)} {st as rest : List Value} {M M1 M2 : zM} {r1 : Option Value} {w : Value}, zSpc y i st M = some (z, as, out, rest) → zX n z 0 (zEnt z as) [] M = some (r1, M1) → zSpR r1 M1 out w M2 →
  ∀ {p : Program} {e : Env} {R : Room} {s : State} {m : MethodId} {args : Array Value} {below : List Frame} {meth : Method} {c : Code} {H : Heap} {locs : List Loc} {ls : Array Slot} {cells slots : Nat} {Q : State → Prop},
  zCx base sd cA D L0 xs p s m args meth c y → zHp base sd cA D L0 xs M H → va_S (fun q => base ≤ q) s.heap H locs → base ≤ s.heap.size → zFr y ≤ R.frames → zLo y ≤ R.locals → zLs (zAd base sd) ls (zL y) L → decode (zB y) pc = .ok (i, len) → zOkl i len = true →
  cells + (zc M1 - zc M) ≤ R.cells → slots + (zZ M1 - zZ M) ≤ R.slots →
  (∀ (H1 : Heap) (locs1 : List Loc) (c1 z1 : Nat), zHp base sd cA D L0 xs M2 H1 → va_S (fun q => base ≤ q) s.heap H1 locs1 → c1 = cells + (zc M1 - zc M) → z1 = slots + (zZ M1 - zZ M) → W p l e R s m args below meth c H1 locs1 c1 z1 Q (F0 m (pc + 3) ls ((w :: rest).map (zV (zAd base sd))))) →
  W p l e R s m args below meth c H locs cells slots Q (F0 m pc ls (st.map (zV (zAd base sd))))
section ZSOUND
variable {base : Nat} {sd : Nat → Nat} {cA : Nat → ClassId} {D : va_G} {L0 : Nat} {xs : Nat → Int32} {l : Launch}
theorem zMetOf {n z : Nat} {as : List Value} {M M1 : zM} {r : Option Value} (IH : zSnd base sd cA D L0 xs l n) (h : zX n z 0 (zEnt z as) [] M = some (r, M1)) (hord : zOrd z = true) (hlen : (zEa as).length ≤ zL z) (hr : ∀ q, r ≠ some (.retAddr q)) :
    Met l (zY z) (zWd z) (zRm z (zc M1 - zc M) (zZ M1 - zZ M)) (zPc base sd cA D L0 xs as M) (zQc base sd cA D L0 xs r M1) (zc M1 - zc M) (zZ M1 - zZ M) (fun q => base ≤ q) := by
  have hyz := zYat (zOrd_lt hord)
  refine va_MetF (cc := zB z) (maxL := zL z) (ret := zR z) hyz.2.1 rfl ?_
  intro p e s m args below meth c s₁ B hml hv
  obtain ⟨rfl, hK, hH⟩ := hv
  have hts := atoms_spec (ws := zWd z) B.pre
  have hown : s.vm.findClass (zY z).cls = some m.cls := findClass_of_methodNamed B.named
  have hlocks := B.notSynchronized
  have hret := B.returns
  have cx : zCx base sd cA D L0 xs p s m (as.map (zV (zAd base sd))).toArray meth c z := ⟨B.exec, B.bytes, hml, by rw [← hyz.1]; exact hown, fun w hw => hts w (List.mem_cons_of_mem _ hw), fun h9 => ((name_of_methodNamed B.named B.method).1).trans h9, hK⟩
  rw [lg_entry_eq]
  refine IH h (zOrd_lt hord) cx hH va_S.rf (Nat.le_trans (Nat.le_add_right _ _) hH.2.1) (Nat.le_refl _) (Nat.le_refl _) (zEnt_ls hlen) (by rw [Nat.zero_add]; exact Nat.le_refl _) (by rw [Nat.zero_add]; exact Nat.le_refl _) ?_ ?_
  · intro i st1 pc1 ls1 H1 locs1 c1 z1 hrt hd hH1 hS1 hc1 hz1
    rw [Nat.zero_add] at hc1 hz1
    subst hc1; subst hz1
    unfold zRet at hrt
    split at hrt
    · split at hrt
      · rename_i v
        split at hrt
        · rename_i hR9
          cases hrt
          exact W.iret B.exec B.bytes (hret.trans hR9) (fun t ht hW => ⟨rfl, by rw [ht]; exact hH1, hS1.F ht⟩) hS1.2.2 hd
        · rename_i hR9
          split at hrt
          · rename_i hn
            cases hrt
            exact W.zret B.exec B.bytes (hret.trans hR9) (zNarB hn) (fun t ht hW => ⟨rfl, by rw [ht]; exact hH1, hS1.F ht⟩) hS1.2.2 hd
          · cases hrt
        · cases hrt
      · cases hrt
    · split at hrt
      · rename_i v
        split at hrt
        · rename_i hR9
          cases hrt
          exact W.lret B.exec B.bytes (hret.trans hR9) (fun t ht hW => ⟨rfl, by rw [ht]; exact hH1, hS1.F ht⟩) hS1.2.2 hd
        · cases hrt
      · cases hrt
    · split at hrt
      · split at hrt
        · rename_i hR9
          cases hrt
          exact W.vret B.exec B.bytes (hret.trans hR9) (fun t ht hW => ⟨rfl, by rw [ht]; exact hH1, hS1.F ht⟩) hS1.2.2 hd
        · cases hrt
      · cases hrt
    · cases hrt
  · intro i q st1 pc1 ls1 H1 locs1 M2 c1 z1 _ hrq
    exact absurd hrq (hr q)
theorem zIns_spec {y pc : Nat} {i : Instr} {len : Nat} (hy : y < 199) (h : zIns y pc = some (i, len)) : decode (zB y) pc = .ok (i, len) ∧ zOkl i len = true := by
  unfold zIns at h
  split at h
  · rename_i q hq
    split at h
    · rename_i hok
      have h := Option.some.inj h
      obtain ⟨q1, q2, q3⟩ := q
      cases h
      have hm := List.mem_of_find?_eq_some hq
      have hp := List.find?_some hq
      simp only [beq_iff_eq] at hp
      have := zDec hy hm
      simp only at this
      rw [hp] at this
      exact ⟨this, hok⟩
    · cases h
  · cases h
theorem zInv_ord {y z : Nat} {i : Instr} {st as rest : List Value} {M : zM} (h : zInv y i st M = some (z, as, rest)) : zOrd z = true ∧ (zEa as).length ≤ zL z := by
  have key : ∀ {o k rc : Nat} {q : Nat × Nat × Nat × Nat × Nat × String × List Nat}, zCal o k rc = some q → zOrd q.2.2.2.1 = true := by
    intro o k rc q hq
    obtain ⟨-, -, hok⟩ := zCal_spec hq
    simp only [zCok, Bool.and_eq_true] at hok
    exact hok.1.1.2
  have rm : ∀ {y z : Nat} {as rest : List Value}, zRoom y z as rest = true → (zEa as).length ≤ zL z := by
    intro y z as rest h
    simp only [zRoom, Bool.and_eq_true, decide_eq_true_eq] at h
    exact h.2
  have vir : ∀ {k : Nat} {f : Bool}, zVir y k f st M = some (z, as, rest) → zOrd z = true ∧ (zEa as).length ≤ zL z := by
    intro k f h
    unfold zVir at h
    split at h
    · split at h
      · split at h
        · split at h
          · rename_i q hq
            cases f
            · simp only [Bool.false_eq_true, if_false] at h
              split at h
              · rename_i hc
                simp only [Option.some.injEq, Prod.mk.injEq] at h
                obtain ⟨rfl, rfl, rfl⟩ := h
                simp only [Bool.and_eq_true] at hc
                exact ⟨key hq, rm hc.2⟩
              · cases h
            · simp only [if_true] at h
              split at h
              · rename_i hc
                simp only [Option.some.injEq, Prod.mk.injEq] at h
                obtain ⟨rfl, rfl, rfl⟩ := h
                simp only [Bool.and_eq_true] at hc
                exact ⟨key hq, rm hc.2⟩
              · cases h
          · cases h
        · cases h
      · cases h
    · cases h
  unfold zInv at h
  split at h
  · split at h
    · rename_i q hq
      split at h
      · rename_i hc
        simp only [Option.some.injEq, Prod.mk.injEq] at h
        obtain ⟨rfl, rfl, rfl⟩ := h
        simp only [Bool.and_eq_true] at hc
        exact ⟨key hq, rm hc.2⟩
      · cases h
    · cases h
  · split at h
    · rename_i q hq
      split at h
      · split at h
        · rename_i hc
          simp only [Option.some.injEq, Prod.mk.injEq] at h
          obtain ⟨rfl, rfl, rfl⟩ := h
          simp only [Bool.and_eq_true] at hc
          exact ⟨key hq, rm hc.2⟩
        · cases h
      · cases h
    · cases h
  · exact vir h
  · exact vir h
  · cases h
set_option maxHeartbeats 4000000 in
/-- open in the law's own look and edge alone -/
theorem zX_sound_open (hSp : ∀ n, zSnd base sd cA D L0 xs l n → zSpOK base sd cA D L0 xs l n) : ∀ n, zSnd base sd cA D L0 xs l n := by
  intro n
  induction n with
  | zero =>
    unfold zSnd
    intro y pc L st M M1 r h
    cases h
  | succ n IH =>
    unfold zSnd
    intro y pc L st M M1 r h hy p e R s m args below meth c H locs ls cells slots Q cx hH hS hbs hRf hRl hL hcells hslots hq ht
    simp only [zX] at h
    split at h
    · cases h
    · rename_i i len hins
      obtain ⟨hd, hol⟩ := zIns_spec hy hins
      split at h
      · rename_i r9 hrt
        cases h
        have h1 : 1 = len := by
          unfold zRet at hrt
          split at hrt
          · simp only [zOkl, zLen, Bool.or_eq_true, beq_iff_eq] at hol; omega
          · simp only [zOkl, zLen, Bool.or_eq_true, beq_iff_eq] at hol; omega
          · simp only [zOkl, zLen, Bool.or_eq_true, beq_iff_eq] at hol; omega
          · cases hrt
        subst h1
        exact hq i st pc ls H locs cells slots hrt hd hH hS (by omega) (by omega)
      · split at h
        · rename_i q hth
          have h9 := Option.some.inj h
          have h1 : r = some (.retAddr q) := (Prod.mk.inj h9).1.symm
          have h2 : M1 = zThr M := (Prod.mk.inj h9).2.symm
          have h3 : 3 = len := by
            unfold zThw at hth
            split at hth
            · simp only [zOkl, zLen, Bool.or_eq_true, beq_iff_eq] at hol; omega
            · cases hth
          subst h3
          have e1 : zc M1 = zc M + 1 := by rw [h2]; rfl
          have e2 : zZ M1 = zZ M + 16 := by rw [h2]; rfl
          exact ht i q st pc ls H locs M cells slots hth h1 h2 hd hL.1 hH hS (by omega) (by omega)
        · split at h
          · rename_i z as rest hinv
            obtain ⟨hord, hlen⟩ := zInv_ord hinv
            have go : ∀ {r1 : Option Value} {M2 : zM}, zX n z 0 (zEnt z as) [] M = some (r1, M2) → (∀ q, r1 ≠ some (.retAddr q)) → zX n y (pc + zIl i) L (r1.toList ++ rest) M2 = some (r, M1) → W p l e R s m args below meth c H locs cells slots Q (F0 m pc ls (st.map (zV (zAd base sd)))) := by
              intro r1 M2 h1 hn1 h2
              have m1 := zX_mono n h1
              have m2 := zX_mono n h2
              have hM := zMetOf IH h1 hord hlen hn1
              have a1 : zc M ≤ zc M2 := by unfold zc; omega
              have a2 : zc M2 ≤ zc M1 := by unfold zc; omega
              refine zCall_sound cx hH hS hRf hRl hd hol hL hinv (by omega) (by omega) hM (fun H1 locs1 g1 g2 => ?_)
              refine IH h2 hy cx g1 g2 hbs hRf hRl hL (by omega) (by omega) ?_ ?_
              · intro i st1 pc1 ls1 H2 locs2 c1 z1 b1 b2 b3 b4 b5 b6
                exact hq i st1 pc1 ls1 H2 locs2 c1 z1 b1 b2 b3 b4 (by omega) (by omega)
              · intro i q st1 pc1 ls1 H2 locs2 M3 c1 z1 b1 b2 b3 b4 b5 b6 b7 b8 b9
                exact ht i q st1 pc1 ls1 H2 locs2 M3 c1 z1 b1 b2 b3 b4 b5 b6 b7 (by omega) (by omega)
            split at h
            · rename_i M2 h1
              exact go h1 (fun q => by simp) h
            · rename_i v M2 h1
              exact go h1 (fun q => by simp) h
            · rename_i v M2 h1
              exact go h1 (fun q => by simp) h
            · cases h
          · split at h
            · rename_i z as out rest hspc
              split at h
              · rename_i v M2 h1
                have m1 := zX_mono n h1
                have m2' := zX_mono n h
                have m2 : zN M2 ≤ zN M1 ∧ zZ M2 ≤ zZ M1 ∧ zG M2 ≤ zG M1 := m2'
                have a1 : zc M ≤ zc M2 := by unfold zc; omega
                have a2 : zc M2 ≤ zc M1 := by unfold zc; omega
                have e1 : zc (zWJ M2 out 0 v.toInt64) = zc M2 := rfl
                have e2 : zZ (zWJ M2 out 0 v.toInt64) = zZ M2 := rfl
                refine hSp n IH hspc h1 (Or.inl ⟨v, rfl, rfl, rfl⟩) cx hH hS hbs hRf hRl hL hd hol (by omega) (by omega) (fun H1 locs1 c1 z1 g1 g2 k1 k2 => ?_)
                refine IH h hy cx g1 g2 hbs hRf hRl hL (by omega) (by omega) ?_ ?_
                · intro i st1 pc1 ls1 H2 locs2 c2 z2 b1 b2 b3 b4 b5 b6
                  exact hq i st1 pc1 ls1 H2 locs2 c2 z2 b1 b2 b3 b4 (by omega) (by omega)
                · intro i q st1 pc1 ls1 H2 locs2 M3 c2 z2 b1 b2 b3 b4 b5 b6 b7 b8 b9
                  exact ht i q st1 pc1 ls1 H2 locs2 M3 c2 z2 b1 b2 b3 b4 b5 b6 b7 (by omega) (by omega)
              · rename_i q0 M2 h1
                have m1 := zX_mono n h1
                have m2 := zX_mono n h
                have a1 : zc M ≤ zc M2 := by unfold zc; omega
                have a2 : zc M2 ≤ zc M1 := by unfold zc; omega
                refine hSp n IH hspc h1 (Or.inr ⟨q0, rfl, rfl, rfl⟩) cx hH hS hbs hRf hRl hL hd hol (by omega) (by omega) (fun H1 locs1 c1 z1 g1 g2 k1 k2 => ?_)
                refine IH h hy cx g1 g2 hbs hRf hRl hL (by omega) (by omega) ?_ ?_
                · intro i st1 pc1 ls1 H2 locs2 c2 z2 b1 b2 b3 b4 b5 b6
                  exact hq i st1 pc1 ls1 H2 locs2 c2 z2 b1 b2 b3 b4 (by omega) (by omega)
                · intro i q st1 pc1 ls1 H2 locs2 M3 c2 z2 b1 b2 b3 b4 b5 b6 b7 b8 b9
                  exact ht i q st1 pc1 ls1 H2 locs2 M3 c2 z2 b1 b2 b3 b4 b5 b6 b7 (by omega) (by omega)
              · cases h
            · split at h
              · cases h
              · rename_i pc' L' st' M' hst
                obtain ⟨s1, s2, s3⟩ := zStep_mono hst
                have m2 := zX_mono n h
                have a1 : zc M' = zc M + (zN M' - zN M) := by unfold zc; omega
                have a2 : zc M' ≤ zc M1 := by unfold zc; omega
                refine zStep_sound cx hH hS hbs hRf hRl hd hol hL hst (by omega) (by omega) (fun H1 locs1 ls1 c1 z1 k1 k2 g1 g2 g3 => ?_)
                refine IH h hy cx g1 g2 hbs hRf hRl g3 (by omega) (by omega) ?_ ?_
                · intro i st1 pc1 ls1 H2 locs2 c2 z2 b1 b2 b3 b4 b5 b6
                  exact hq i st1 pc1 ls1 H2 locs2 c2 z2 b1 b2 b3 b4 (by omega) (by omega)
                · intro i q st1 pc1 ls1 H2 locs2 M3 c2 z2 b1 b2 b3 b4 b5 b6 b7 b8 b9
                  exact ht i q st1 pc1 ls1 H2 locs2 M3 c2 z2 b1 b2 b3 b4 b5 b6 b7 (by omega) (by omega)
end ZSOUND
