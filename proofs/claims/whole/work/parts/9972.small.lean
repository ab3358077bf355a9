/-! look and edge throw over a small stack. -/
def zdL (y : Nat) : List (Nat × Nat) := if y = 70 then [(0, 0), (1, 1), (2, 2), (5, 9), (8, 8), (18, 8), (19, 9), (22, 9), (23, 10), (24, 9), (25, 8), (26, 9), (80, 8), (81, 9), (84, 9), (87, 9), (88, 8), (89, 9), (92, 9), (93, 8), (94, 9), (97, 9), (100, 8), (101, 9), (104, 8), (105, 9), (106, 8), (107, 9), (110, 9), (111, 8), (112, 9), (115, 9), (116, 8), (117, 9), (120, 9), (123, 9), (124, 10), (125, 9), (126, 8), (127, 9), (130, 9), (133, 9), (134, 10), (135, 9), (136, 8), (137, 9), (140, 9), (143, 9), (144, 10), (145, 9), (146, 8), (147, 9), (150, 9), (153, 9), (154, 10), (155, 9), (156, 8), (157, 9), (160, 9), (161, 8)] else [(0, 0), (1, 1), (2, 2), (3, 3), (6, 9), (9, 8), (19, 8), (20, 9), (23, 9), (24, 10), (25, 9), (27, 8), (28, 9), (64, 8), (66, 9), (69, 9), (70, 10), (71, 9), (72, 8), (74, 9), (77, 9), (78, 10), (79, 9), (80, 8), (82, 9), (85, 9), (86, 10), (87, 9), (90, 8), (91, 9), (94, 8), (95, 9), (96, 8), (98, 9), (101, 9), (102, 10), (103, 9), (104, 8), (106, 9), (109, 9), (110, 10), (111, 9), (112, 8)]
def zdp (y pc : Nat) : Option Nat := ((zdL y).find? (fun e => e.1 == pc)).map (fun e => e.2)
def zdI (i : Instr) : Option (Nat × Nat) := match i with
  | .aload_n _ => some (1, 0)
  | .aload _ => some (1, 0)
  | .iload_n _ => some (1, 0)
  | .iconst _ => some (1, 0)
  | .getfield _ => some (0, 0)
  | .aaload => some (0, 1)
  | .iaload => some (0, 1)
  | .baload => some (0, 1)
  | .astore_n _ => some (0, 1)
  | .astore _ => some (0, 1)
  | .ifCond _ _ => some (0, 1)
  | .tableswitch _ _ _ _ => some (0, 1)
  | .goto _ => some (0, 0)
  | _ => none
def zdJ (pc : Nat) (off : Int) : Nat := ((pc : Int) + off).toNat
def zdS (i : Instr) (pc : Nat) : List Nat := match i with
  | .aload _ => [pc + 2]
  | .astore _ => [pc + 2]
  | .getfield _ => [pc + 3]
  | .ifCond _ off => [pc + 3, zdJ pc off]
  | .tableswitch d _ _ offs => zdJ pc d :: offs.toList.map (zdJ pc)
  | .goto off => [zdJ pc off]
  | _ => [pc + 1]
def zdT (y t n : Nat) : Bool := match zdp y t with
  | some d => decide (n ≤ d)
  | none => false
def zdRow (y : Nat) (e : Nat × Instr × Nat) : Bool := match zdp y e.1 with
  | none => true
  | some d => decide (d ≤ 12) && (match zdI e.2.1 with
    | some (a, b) => (zdS e.2.1 e.1).all (fun t => zdT y t (d + a - b))
    | none => (match e.2.1 with
      | .invokevirtual _ => zdT y (e.1 + 3) 9
      | .ireturn => true
      | .new k => decide (k = 182 ∨ k = 208)
      | _ => false))
theorem zd_ok70 : (zCd 70).all (zdRow 70) = true := by decide +kernel
theorem zd_ok71 : (zCd 71).all (zdRow 71) = true := by decide +kernel
theorem zJmp_J {pc t : Nat} {off : Int} (h : zJmp pc off = some t) : t = zdJ pc off := by
  unfold zJmp at h
  split at h
  · cases h; rfl
  · cases h
section ZD
variable {y len pc pc' a b : Nat} {i : Instr} {L L' : List (Option Value)} {st st' : List Value} {M M' : zM}
theorem zd_step (h : zStep y i len pc L st M = some (pc', L', st', M')) (hd : zdI i = some (a, b)) : pc' ∈ zdS i pc ∧ st'.length + b ≤ st.length + a := by
  unfold zdI at hd
  split at hd <;> cases hd <;> simp only [zStep, Option.map_eq_some_iff, Prod.mk.injEq] at h
  · obtain ⟨v, hv, rfl, rfl, rfl, rfl⟩ := h; exact ⟨List.mem_singleton.mpr rfl, by simp⟩
  · obtain ⟨v, hv, rfl, rfl, rfl, rfl⟩ := h; exact ⟨List.mem_singleton.mpr rfl, by simp⟩
  · obtain ⟨v, hv, rfl, rfl, rfl, rfl⟩ := h; exact ⟨List.mem_singleton.mpr rfl, by simp⟩
  · simp only [Option.some.injEq, Prod.mk.injEq] at h
    obtain ⟨rfl, rfl, rfl, rfl⟩ := h; exact ⟨List.mem_singleton.mpr rfl, by simp⟩
  · split at h
    · simp only [Option.map_eq_some_iff, Prod.mk.injEq] at h
      obtain ⟨v, hv, rfl, rfl, rfl, rfl⟩ := h; exact ⟨List.mem_singleton.mpr rfl, by simp⟩
    · cases h
  · obtain ⟨v, hv, rfl, rfl, rfl, rfl⟩ := h
    refine ⟨List.mem_singleton.mpr rfl, ?_⟩
    unfold zAld at hv
    split at hv
    · split at hv
      split at hv
      · simp only [Option.map_eq_some_iff] at hv
        obtain ⟨u, -, rfl⟩ := hv; simp
      · cases hv
    · cases hv
  · obtain ⟨v, hv, rfl, rfl, rfl, rfl⟩ := h
    refine ⟨List.mem_singleton.mpr rfl, ?_⟩
    unfold zIld at hv
    split at hv
    · split at hv
      · split at hv
        · cases hv; simp
        · cases hv
      · cases hv
    · cases hv
  · obtain ⟨v, hv, rfl, rfl, rfl, rfl⟩ := h
    refine ⟨List.mem_singleton.mpr rfl, ?_⟩
    unfold zZld at hv
    split at hv
    · split at hv
      · split at hv
        · cases hv; simp
        · cases hv
      · cases hv
    · cases hv
  · obtain ⟨v, hv, rfl, rfl, rfl, rfl⟩ := h
    refine ⟨List.mem_singleton.mpr rfl, ?_⟩
    unfold zStA at hv
    split at hv
    · split at hv
      · cases hv; simp
      · cases hv
    · cases hv
  · obtain ⟨v, hv, rfl, rfl, rfl, rfl⟩ := h
    refine ⟨List.mem_singleton.mpr rfl, ?_⟩
    unfold zStA at hv
    split at hv
    · split at hv
      · cases hv; simp
      · cases hv
    · cases hv
  · obtain ⟨v, hv, rfl, rfl, rfl, rfl⟩ := h
    unfold zIf at hv
    split at hv
    · simp only [Option.map_eq_some_iff] at hv
      obtain ⟨t, ht, rfl⟩ := hv
      split
      · exact ⟨List.mem_cons_of_mem _ (List.mem_singleton.mpr (zJmp_J ht)), by simp⟩
      · exact ⟨List.mem_cons_self, by simp⟩
    · cases hv
  · obtain ⟨v, hv, rfl, rfl, rfl, rfl⟩ := h
    unfold zTab at hv
    split at hv
    · split at hv
      · simp only [Option.map_eq_some_iff] at hv
        obtain ⟨t, ht, rfl⟩ := hv
        exact ⟨by rw [zJmp_J ht]; exact List.mem_cons_self, by simp⟩
      · split at hv
        · rename_i off ho
          simp only [Option.map_eq_some_iff] at hv
          obtain ⟨t, ht, rfl⟩ := hv
          refine ⟨List.mem_cons_of_mem _ (List.mem_map.mpr ⟨off, ?_, (zJmp_J ht).symm⟩), by simp⟩
          exact Array.mem_toList_iff.mpr (Array.mem_of_getElem? ho)
        · cases hv
    · cases hv
  · obtain ⟨t, ht, rfl, rfl, rfl, rfl⟩ := h; exact ⟨List.mem_singleton.mpr (zJmp_J ht), by simp⟩
theorem zdT_s {t n : Nat} (h : zdT y t n = true) : ∃ d, zdp y t = some d ∧ n ≤ d := by
  unfold zdT at h
  split at h
  · rename_i d hd; exact ⟨d, hd, of_decide_eq_true h⟩
  · cases h
theorem zd_row (hy : y = 70 ∨ y = 71) (h : zIns y pc = some (i, len)) : zdRow y (pc, i, len) = true := by
  have hm : (pc, i, len) ∈ zCd y := by
    unfold zIns at h
    split at h
    · rename_i q hq
      split at h
      · have h := Option.some.inj h
        obtain ⟨q1, q2, q3⟩ := q
        cases h
        have hp := List.find?_some hq
        simp only [beq_iff_eq] at hp
        rw [← hp]; exact List.mem_of_find?_eq_some hq
      · cases h
    · cases h
  rcases hy with rfl | rfl
  · exact List.all_eq_true.mp zd_ok70 _ hm
  · exact List.all_eq_true.mp zd_ok71 _ hm
theorem cat_len : ∀ (l : List Value), l.length ≤ (l.map Value.category).sum
  | [] => Nat.le_refl _
  | v :: l => by
    have := cat_len l
    have hv : 1 ≤ v.category := by cases v <;> simp [Value.category]
    simp only [List.length_cons, List.map_cons, List.sum_cons]; omega
theorem cat_two : ∀ (l : List Value), (l.map Value.category).sum ≤ 2 * l.length
  | [] => Nat.le_refl _
  | v :: l => by
    have := cat_two l
    have hv : v.category ≤ 2 := by cases v <;> simp [Value.category]
    simp only [List.length_cons, List.map_cons, List.sum_cons]; omega
/-- a row of the table: what the step does to the bound -/
theorem zd_next (hy : y = 70 ∨ y = 71) (h : zIns y pc = some (i, len)) {d : Nat} (hd : zdp y pc = some d) (hl : st.length ≤ d) : d ≤ 12 ∧
    ((∃ a b, zdI i = some (a, b) ∧ ∀ t n, t ∈ zdS i pc → n + b ≤ st.length + a → ∃ d', zdp y t = some d' ∧ n ≤ d') ∨ (zdI i = none ∧ ((∃ k, i = .invokevirtual k ∧ ∃ d', zdp y (pc + 3) = some d' ∧ 9 ≤ d') ∨ i = .ireturn ∨ ∃ k, i = .new k ∧ (k = 182 ∨ k = 208)))) := by
  have hr := zd_row hy h
  unfold zdRow at hr
  simp only [hd, Bool.and_eq_true, decide_eq_true_eq] at hr
  obtain ⟨h1, h2⟩ := hr
  refine ⟨h1, ?_⟩
  split at h2
  · rename_i a b he
    refine Or.inl ⟨a, b, he, fun t n ht hn => ?_⟩
    obtain ⟨d', e1, e2⟩ := zdT_s (List.all_eq_true.mp h2 t ht)
    exact ⟨d', e1, by omega⟩
  · rename_i he
    refine Or.inr ⟨he, ?_⟩
    split at h2
    · obtain ⟨d', e1, e2⟩ := zdT_s h2
      exact Or.inl ⟨_, rfl, d', e1, e2⟩
    · exact Or.inr (Or.inl rfl)
    · exact Or.inr (Or.inr ⟨_, rfl, of_decide_eq_true h2⟩)
    · cases h2
end ZD
/-- the runs of look and edge, of n steps at most, are the machine's; they throw over a small stack -/
def zSnt (base : Nat) (sd : Nat → Nat) (cA : Nat → ClassId) (D : va_G) (L0 : Nat) (xs : Nat → Int32) (l : Launch) (n : Nat) : Prop :=
  ∀ {y pc d : Nat} {L : List (Option Value)} {st : List Value} {M M1 : zM} {r : Option Value}, zX n y pc L st M = some (r, M1) → (y = 70 ∨ y = 71) → zdp y pc = some d → st.length ≤ d →
  ∀ {p : Program} {e : Env} {R : Room} {s : State} {m : MethodId} {args : Array Value} {below : List Frame} {meth : Method} {c : Code} {H : Heap} {locs : List Loc} {ls : Array Slot} {cells slots : Nat} {Q : State → Prop},
  zCx base sd cA D L0 xs p s m args meth c y → zHp base sd cA D L0 xs M H → va_S (fun q => base ≤ q) s.heap H locs → base ≤ s.heap.size → zFr y ≤ R.frames → zLo y ≤ R.locals → zLs (zAd base sd) ls (zL y) L →
  cells + (zc M1 - zc M) ≤ R.cells → slots + (zZ M1 - zZ M) ≤ R.slots →
  (∀ (i : Instr) (st1 : List Value) (pc1 : Nat) (ls1 : Array Slot) (H1 : Heap) (locs1 : List Loc) (c1 z1 : Nat), zRet y i st1 = some r → decode (zB y) pc1 = .ok (i, 1) → zHp base sd cA D L0 xs M1 H1 → va_S (fun q => base ≤ q) s.heap H1 locs1 → c1 = cells + (zc M1 - zc M) → z1 = slots + (zZ M1 - zZ M) → W p l e R s m args below meth c H1 locs1 c1 z1 Q (F0 m pc1 ls1 (st1.map (zV (zAd base sd))))) →
  (∀ (i : Instr) (q : Nat) (st1 : List Value) (pc1 : Nat) (ls1 : Array Slot) (H1 : Heap) (locs1 : List Loc) (M2 : zM) (c1 z1 : Nat), zThw y i = some q → r = some (.retAddr q) → M1 = zThr M2 → decode (zB y) pc1 = .ok (i, 3) → zIns y pc1 = some (i, 3) → st1.length ≤ 12 → ls1.size = zL y → zHp base sd cA D L0 xs M2 H1 → va_S (fun q => base ≤ q) s.heap H1 locs1 → c1 + 1 ≤ cells + (zc M1 - zc M) → z1 + 16 ≤ slots + (zZ M1 - zZ M) → W p l e R s m args below meth c H1 locs1 c1 z1 Q (F0 m pc1 ls1 (st1.map (zV (zAd base sd))))) →
  W p l e R s m args below meth c H locs cells slots Q (F0 m pc ls (st.map (zV (zAd base sd))))
section ZT
variable {E : State → Prop} {base : Nat} {sd : Nat → Nat} {cA : Nat → ClassId} {D : va_G} {L0 : Nat} {xs : Nat → Int32} {l : Launch}
theorem zSne_le {n k : Nat} (h : zSne E base sd cA D L0 xs l (n + k)) : zSne E base sd cA D L0 xs l n := by
  unfold zSne
  intro y pc L st M M1 r h1
  exact h (zX_up h1)
theorem zInv_rest {y z : Nat} {k : Nat} {st as rest : List Value} {M : zM} (h : zInv y (.invokevirtual k) st M = some (z, as, rest)) : rest.length ≤ 8 := by
  have h : zVir y k false st M = some (z, as, rest) := h
  unfold zVir at h
  split at h
  · split at h
    · split at h
      · split at h
        · simp only [Bool.false_eq_true, if_false] at h
          split at h
          · rename_i hc
            simp only [Option.some.injEq, Prod.mk.injEq] at h
            obtain ⟨rfl, rfl, rfl⟩ := h
            simp only [Bool.and_eq_true] at hc
            have h9 := hc.2
            simp only [zRoom, Bool.and_eq_true, decide_eq_true_eq] at h9
            exact Nat.le_trans (cat_len _) h9.1.2
          · cases h
        · cases h
      · cases h
    · cases h
  · cases h
theorem zInv_vir {y : Nat} {i : Instr} {st : List Value} {M : zM} (h : (∃ a b, zdI i = some (a, b)) ∨ i = .ireturn ∨ ∃ k, i = .new k) : zInv y i st M = none := by
  rcases h with ⟨a, b, h⟩ | rfl | ⟨k, rfl⟩
  · unfold zdI at h
    split at h <;> first | rfl | cases h
  · rfl
  · rfl
set_option maxHeartbeats 4000000 in
theorem zX_soundT {n : Nat} (IE : zSne E base sd cA D L0 xs l n) : ∀ k, k ≤ n → zSnt base sd cA D L0 xs l k := by
  intro k
  induction k with
  | zero =>
    intro _
    unfold zSnt
    intro y pc d L st M M1 r h
    cases h
  | succ k IH =>
    intro hk
    have IH : zSnt base sd cA D L0 xs l k := @IH (by omega)
    have IK : zSne E base sd cA D L0 xs l k := by
      obtain ⟨j, rfl⟩ := Nat.exists_eq_add_of_le (show k ≤ n by omega)
      exact zSne_le IE
    unfold zSnt
    intro y pc d L st M M1 r h hy7 hdp hst p e R s m args below meth c H locs ls cells slots Q cx hH hS hbs hRf hRl hL hcells hslots hq ht
    have hy : y < 199 := by omega
    simp only [zX] at h
    split at h
    · cases h
    · rename_i i len hins
      obtain ⟨hd, hol⟩ := zIns_spec hy hins
      obtain ⟨hd12, hrow⟩ := zd_next (st := st) hy7 hins hdp hst
      split at h
      · rename_i r9 hrt
        cases h
        have h1 : 1 = len := by
          unfold zRet at hrt
          split at hrt
          · simp only [zOkl, zLen, Bool.or_eq_true, beq_iff_eq] at hol; omega
          · simp only [zOkl, zLen, Bool.or_eq_true, beq_iff_eq] at hol; omega
          · simp only [zOkl, zLen, Bool.or_eq_true, beq_iff_eq] at hol; omega
          · cases hrt
        subst h1
        exact hq i st pc ls H locs cells slots hrt hd hH hS (by omega) (by omega)
      · split at h
        · rename_i q hth
          have h9 := Option.some.inj h
          have h1 : r = some (.retAddr q) := (Prod.mk.inj h9).1.symm
          have h2 : M1 = zThr M := (Prod.mk.inj h9).2.symm
          have h3 : 3 = len := by
            unfold zThw at hth
            split at hth
            · simp only [zOkl, zLen, Bool.or_eq_true, beq_iff_eq] at hol; omega
            · cases hth
          subst h3
          have e1 : zc M1 = zc M + 1 := by rw [h2]; rfl
          have e2 : zZ M1 = zZ M + 16 := by rw [h2]; rfl
          exact ht i q st pc ls H locs M cells slots hth h1 h2 hd hins (by omega) hL.1 hH hS (by omega) (by omega)
        · split at h
          · rename_i z as rest hinv
            obtain ⟨hord, hlen⟩ := zInv_ord hinv
            have hvi : ∃ kk, i = .invokevirtual kk ∧ ∃ d', zdp y (pc + 3) = some d' ∧ 9 ≤ d' := by
              rcases hrow with ⟨a, b, h1, -⟩ | ⟨-, h1 | h1 | ⟨kk, h1, -⟩⟩
              · rw [zInv_vir (Or.inl ⟨a, b, h1⟩)] at hinv; cases hinv
              · exact h1
              · rw [zInv_vir (Or.inr (Or.inl h1))] at hinv; cases hinv
              · rw [zInv_vir (Or.inr (Or.inr ⟨kk, h1⟩))] at hinv; cases hinv
            obtain ⟨kk, rfl, d', hd3, hd9⟩ := hvi
            have hrest := zInv_rest hinv
            have go : ∀ {r1 : Option Value} {M2 : zM}, zX k z 0 (zEnt z as) [] M = some (r1, M2) → (∀ q, r1 ≠ some (.retAddr q)) → zX k y (pc + zIl (.invokevirtual kk)) L (r1.toList ++ rest) M2 = some (r, M1) → W p l e R s m args below meth c H locs cells slots Q (F0 m pc ls (st.map (zV (zAd base sd)))) := by
              intro r1 M2 h1 hn1 h2
              have m1 := zX_mono k h1
              have m2 := zX_mono k h2
              have hM := zMetE IK h1 hord hlen hn1
              have a1 : zc M ≤ zc M2 := by unfold zc; omega
              have a2 : zc M2 ≤ zc M1 := by unfold zc; omega
              have hln : (r1.toList ++ rest).length ≤ d' := by
                rw [List.length_append]
                have : r1.toList.length ≤ 1 := by cases r1 <;> simp
                omega
              refine zCall_sound cx hH hS hRf hRl hd hol hL hinv (by omega) (by omega) hM (fun H1 locs1 g1 g2 => ?_)
              refine IH h2 hy7 hd3 hln cx g1 g2 hbs hRf hRl hL (by omega) (by omega) ?_ ?_
              · intro i st1 pc1 ls1 H2 locs2 c1 z1 b1 b2 b3 b4 b5 b6
                exact hq i st1 pc1 ls1 H2 locs2 c1 z1 b1 b2 b3 b4 (by omega) (by omega)
              · intro i q st1 pc1 ls1 H2 locs2 M3 c1 z1 b1 b2 b3 b4 x1 x2 b5 b6 b7 b8 b9
                exact ht i q st1 pc1 ls1 H2 locs2 M3 c1 z1 b1 b2 b3 b4 x1 x2 b5 b6 b7 (by omega) (by omega)
            split at h
            · rename_i M2 h1
              exact go h1 (fun q => by simp) h
            · rename_i v M2 h1
              exact go h1 (fun q => by simp) h
            · rename_i v M2 h1
              exact go h1 (fun q => by simp) h
            · cases h
          · split at h
            · rename_i hspc
              have := zSpc_y hspc
              omega
            · rename_i hthn hinvn _
              split at h
              · cases h
              · rename_i pc' L' st' M' hst2
                have hdd : ∃ a b, zdI i = some (a, b) ∧ ∀ t n, t ∈ zdS i pc → n + b ≤ st.length + a → ∃ d', zdp y t = some d' ∧ n ≤ d' := by
                  rcases hrow with h1 | ⟨-, ⟨kk, h1, -⟩ | h1 | ⟨kk, h1, h2⟩⟩
                  · exact h1
                  · rw [h1] at hst2; simp [zStep] at hst2
                  · rw [h1] at hst2; simp [zStep] at hst2
                  · exfalso
                    have hth0 : zThw y i = none := by assumption
                    rw [h1] at hth0
                    unfold zThw at hth0
                    simp only [if_pos hy7] at hth0
                    rcases h2 with rfl | rfl
                    · simp at hth0
                    · simp at hth0
                obtain ⟨a, b, hab, hnx⟩ := hdd
                obtain ⟨hmem, hle⟩ := zd_step hst2 hab
                obtain ⟨d', hd3, hd9⟩ := hnx pc' st'.length hmem hle
                obtain ⟨s1, s2, s3⟩ := zStep_mono hst2
                have m2 := zX_mono k h
                have a1 : zc M' = zc M + (zN M' - zN M) := by unfold zc; omega
                have a2 : zc M' ≤ zc M1 := by unfold zc; omega
                refine zStep_sound cx hH hS hbs hRf hRl hd hol hL hst2 (by omega) (by omega) (fun H1 locs1 ls1 c1 z1 k1 k2 g1 g2 g3 => ?_)
                refine IH h hy7 hd3 hd9 cx g1 g2 hbs hRf hRl g3 (by omega) (by omega) ?_ ?_
                · intro i st1 pc1 ls1 H2 locs2 c2 z2 b1 b2 b3 b4 b5 b6
                  exact hq i st1 pc1 ls1 H2 locs2 c2 z2 b1 b2 b3 b4 (by omega) (by omega)
                · intro i q st1 pc1 ls1 H2 locs2 M3 c2 z2 b1 b2 b3 b4 x1 x2 b5 b6 b7 b8 b9
                  exact ht i q st1 pc1 ls1 H2 locs2 M3 c2 z2 b1 b2 b3 b4 x1 x2 b5 b6 b7 (by omega) (by omega)
end ZT
