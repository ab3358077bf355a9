/-! Runs of the model, goal first. -/
theorem zX_more : ∀ (n : Nat) {y pc : Nat} {L : List (Option Value)} {st : List Value} {M : zM} {x : Option Value × zM}, zX n y pc L st M = some x → zX (n + 1) y pc L st M = some x
  | 0, _, _, _, _, _, _, h => by cases h
  | n + 1, y, pc, L, st, M, x, h => by
    have ih := @zX_more n
    cases hins : zIns y pc with
    | none => rw [zX, hins] at h; cases h
    | some q =>
      obtain ⟨i, len⟩ := q
      rw [zX, hins] at h
      rw [zX, hins]
      simp only at h ⊢
      cases hr : zRet y i st with
      | some r => rw [hr] at h; exact h
      | none =>
        rw [hr] at h
        simp only at h ⊢
        cases hq : zThw y i with
        | some q => rw [hq] at h; exact h
        | none =>
          rw [hq] at h
          simp only at h ⊢
          cases hinv : zInv y i st M with
          | some q =>
            obtain ⟨z, as, rest⟩ := q
            rw [hinv] at h
            simp only at h ⊢
            cases h1 : zX n z 0 (zEnt z as) [] M with
            | none => rw [h1] at h; cases h
            | some w =>
              rw [h1] at h
              rw [ih h1]
              obtain ⟨r, M1⟩ := w
              cases r with
              | none => exact ih h
              | some v => cases v <;> first | exact ih h | cases h
          | none =>
            rw [hinv] at h
            simp only at h ⊢
            cases hsp : zSpc y i st M with
            | some q =>
              obtain ⟨z, as, o, rest⟩ := q
              rw [hsp] at h
              simp only at h ⊢
              cases h1 : zX n z 0 (zEnt z as) [] M with
              | none => rw [h1] at h; cases h
              | some w =>
                rw [h1] at h
                rw [ih h1]
                obtain ⟨r, M1⟩ := w
                cases r with
                | none => cases h
                | some v => cases v <;> first | exact ih h | cases h
            | none =>
              rw [hsp] at h
              simp only at h ⊢
              cases hst : zStep y i len pc L st M with
              | none => rw [hst] at h; cases h
              | some w =>
                obtain ⟨p1, L1, s1, M1⟩ := w
                rw [hst] at h
                exact ih h
theorem zX_up {n k : Nat} {y pc : Nat} {L : List (Option Value)} {st : List Value} {M : zM} {x : Option Value × zM} (h : zX n y pc L st M = some x) : zX (n + k) y pc L st M = some x := by
  induction k with
  | zero => exact h
  | succ k ih => exact zX_more (n + k) ih
/-- from here method y comes to an end with Q -/
def zWP (y pc : Nat) (L : List (Option Value)) (st : List Value) (M : zM) (Q : Option Value → zM → Prop) : Prop := ∃ (n : Nat) (r : Option Value) (M1 : zM), zX n y pc L st M = some (r, M1) ∧ Q r M1
/-- a call of y with these arguments ends with Q -/
def zCll (y : Nat) (as : List Value) (M : zM) (Q : Option Value → zM → Prop) : Prop := zWP y 0 (zEnt y as) [] M Q
theorem zWP.imp {y pc : Nat} {L : List (Option Value)} {st : List Value} {M : zM} {Q Q' : Option Value → zM → Prop} (h : zWP y pc L st M Q) (hq : ∀ r M1, Q r M1 → Q' r M1) : zWP y pc L st M Q' := by
  obtain ⟨n, r, M1, h1, h2⟩ := h
  exact ⟨n, r, M1, h1, hq r M1 h2⟩
section ZWP
variable {y pc len : Nat} {i : Instr} {L : List (Option Value)} {st : List Value} {M : zM} {Q : Option Value → zM → Prop}
theorem wp_step {pc' : Nat} {L' : List (Option Value)} {st' : List Value} {M' : zM} (hi : zIns y pc = some (i, len)) (h1 : zRet y i st = none) (h2 : zThw y i = none) (h3 : zInv y i st M = none) (h4 : zSpc y i st M = none) (h5 : zStep y i len pc L st M = some (pc', L', st', M')) (h : zWP y pc' L' st' M' Q) : zWP y pc L st M Q := by
  obtain ⟨n, r, M1, hn, hq⟩ := h
  refine ⟨n + 1, r, M1, ?_, hq⟩
  rw [zX, hi]
  simp only [h1, h2, h3, h4, h5]
  exact hn
theorem wp_ret {r : Option Value} (hi : zIns y pc = some (i, len)) (h1 : zRet y i st = some r) (hq : Q r M) : zWP y pc L st M Q := by
  refine ⟨1, r, M, ?_, hq⟩
  rw [zX, hi]
  simp only [h1]
theorem wp_thw {q : Nat} (hi : zIns y pc = some (i, len)) (h1 : zRet y i st = none) (h2 : zThw y i = some q) (hq : Q (some (.retAddr q)) (zThr M)) : zWP y pc L st M Q := by
  refine ⟨1, _, _, ?_, hq⟩
  rw [zX, hi]
  simp only [h1, h2]
theorem wp_call {z : Nat} {as rest : List Value} {Q1 : Option Value → zM → Prop} (hi : zIns y pc = some (i, len)) (h1 : zRet y i st = none) (h2 : zThw y i = none) (h3 : zInv y i st M = some (z, as, rest)) (hc : zCll z as M Q1)
    (hk : ∀ r M1, Q1 r M1 → (r = none ∨ (∃ v, r = some (.int v)) ∨ ∃ v, r = some (.long v)) ∧ zWP y (pc + zIl i) L (r.toList ++ rest) M1 Q) : zWP y pc L st M Q := by
  obtain ⟨n1, r1, M1, hn1, hq1⟩ := hc
  obtain ⟨hr, n2, r2, M2, hn2, hq2⟩ := hk r1 M1 hq1
  refine ⟨(n1 + n2) + 1, r2, M2, ?_, hq2⟩
  rw [zX, hi]
  simp only [h1, h2, h3]
  have e1 : zX (n1 + n2) z 0 (zEnt z as) [] M = some (r1, M1) := zX_up hn1
  have e2 : zX (n1 + n2) y (pc + zIl i) L (r1.toList ++ rest) M1 = some (r2, M2) := by rw [Nat.add_comm]; exact zX_up hn2
  rw [e1]
  rcases hr with rfl | ⟨v, rfl⟩ | ⟨v, rfl⟩
  · exact e2
  · exact e2
  · exact e2
/-- an int's call: the answer is named -/
theorem wp_calli {z : Nat} {as rest : List Value} {v : Int32} {M1 : zM} (hi : zIns y pc = some (i, len)) (h1 : zRet y i st = none) (h2 : zThw y i = none) (h3 : zInv y i st M = some (z, as, rest)) (hc : zCll z as M (fun r M2 => r = some (.int v) ∧ M2 = M1))
    (hk : zWP y (pc + zIl i) L (.int v :: rest) M1 Q) : zWP y pc L st M Q := wp_call hi h1 h2 h3 hc (fun r M2 h => by obtain ⟨rfl, rfl⟩ := h; exact ⟨Or.inr (Or.inl ⟨_, rfl⟩), hk⟩)
theorem wp_calll {z : Nat} {as rest : List Value} {v : Int64} {M1 : zM} (hi : zIns y pc = some (i, len)) (h1 : zRet y i st = none) (h2 : zThw y i = none) (h3 : zInv y i st M = some (z, as, rest)) (hc : zCll z as M (fun r M2 => r = some (.long v) ∧ M2 = M1))
    (hk : zWP y (pc + zIl i) L (.long v :: rest) M1 Q) : zWP y pc L st M Q := wp_call hi h1 h2 h3 hc (fun r M2 h => by obtain ⟨rfl, rfl⟩ := h; exact ⟨Or.inr (Or.inr ⟨_, rfl⟩), hk⟩)
theorem wp_callv {z : Nat} {as rest : List Value} {M1 : zM} (hi : zIns y pc = some (i, len)) (h1 : zRet y i st = none) (h2 : zThw y i = none) (h3 : zInv y i st M = some (z, as, rest)) (hc : zCll z as M (fun r M2 => r = none ∧ M2 = M1))
    (hk : zWP y (pc + zIl i) L rest M1 Q) : zWP y pc L st M Q := wp_call hi h1 h2 h3 hc (fun r M2 h => by obtain ⟨rfl, rfl⟩ := h; exact ⟨Or.inl rfl, hk⟩)
theorem wp_if_eq {x : Int32} {off : Int} {t : Nat} (hi : zIns y pc = some (.ifCond .eq off, 3)) (ht : zJmp pc off = some t) (k1 : x = 0 → zWP y t L st M Q) (k2 : ¬ x = 0 → zWP y (pc + 3) L st M Q) : zWP y pc L (.int x :: st) M Q := by
  by_cases hc : x = 0
  · exact wp_step hi rfl rfl rfl rfl (by have e9 : zCo .eq x 0 = true := decide_eq_true hc; simp only [zStep, zIf, ht, Option.map_some, e9, if_true]) (k1 hc)
  · exact wp_step hi rfl rfl rfl rfl (by have e9 : zCo .eq x 0 = false := decide_eq_false hc; simp only [zStep, zIf, ht, Option.map_some, e9, Bool.false_eq_true, if_false]) (k2 (hc))
theorem wp_ic_eq {x w : Int32} {off : Int} {t : Nat} (hi : zIns y pc = some (.if_icmp .eq off, 3)) (ht : zJmp pc off = some t) (k1 : x = w → zWP y t L st M Q) (k2 : ¬ x = w → zWP y (pc + 3) L st M Q) : zWP y pc L (.int w :: .int x :: st) M Q := by
  by_cases hc : x = w
  · exact wp_step hi rfl rfl rfl rfl (by have e9 : zCo .eq x w = true := decide_eq_true hc; simp only [zStep, zIc, ht, Option.map_some, e9, if_true]) (k1 hc)
  · exact wp_step hi rfl rfl rfl rfl (by have e9 : zCo .eq x w = false := decide_eq_false hc; simp only [zStep, zIc, ht, Option.map_some, e9, Bool.false_eq_true, if_false]) (k2 (hc))
theorem wp_if_ne {x : Int32} {off : Int} {t : Nat} (hi : zIns y pc = some (.ifCond .ne off, 3)) (ht : zJmp pc off = some t) (k1 : ¬ x = 0 → zWP y t L st M Q) (k2 : x = 0 → zWP y (pc + 3) L st M Q) : zWP y pc L (.int x :: st) M Q := by
  by_cases hc : ¬ x = 0
  · exact wp_step hi rfl rfl rfl rfl (by have e9 : zCo .ne x 0 = true := decide_eq_true hc; simp only [zStep, zIf, ht, Option.map_some, e9, if_true]) (k1 hc)
  · exact wp_step hi rfl rfl rfl rfl (by have e9 : zCo .ne x 0 = false := decide_eq_false hc; simp only [zStep, zIf, ht, Option.map_some, e9, Bool.false_eq_true, if_false]) (k2 (Classical.not_not.mp hc))
theorem wp_ic_ne {x w : Int32} {off : Int} {t : Nat} (hi : zIns y pc = some (.if_icmp .ne off, 3)) (ht : zJmp pc off = some t) (k1 : ¬ x = w → zWP y t L st M Q) (k2 : x = w → zWP y (pc + 3) L st M Q) : zWP y pc L (.int w :: .int x :: st) M Q := by
  by_cases hc : ¬ x = w
  · exact wp_step hi rfl rfl rfl rfl (by have e9 : zCo .ne x w = true := decide_eq_true hc; simp only [zStep, zIc, ht, Option.map_some, e9, if_true]) (k1 hc)
  · exact wp_step hi rfl rfl rfl rfl (by have e9 : zCo .ne x w = false := decide_eq_false hc; simp only [zStep, zIc, ht, Option.map_some, e9, Bool.false_eq_true, if_false]) (k2 (Classical.not_not.mp hc))
theorem wp_if_lt {x : Int32} {off : Int} {t : Nat} (hi : zIns y pc = some (.ifCond .lt off, 3)) (ht : zJmp pc off = some t) (k1 : x < 0 → zWP y t L st M Q) (k2 : ¬ x < 0 → zWP y (pc + 3) L st M Q) : zWP y pc L (.int x :: st) M Q := by
  by_cases hc : x < 0
  · exact wp_step hi rfl rfl rfl rfl (by have e9 : zCo .lt x 0 = true := decide_eq_true hc; simp only [zStep, zIf, ht, Option.map_some, e9, if_true]) (k1 hc)
  · exact wp_step hi rfl rfl rfl rfl (by have e9 : zCo .lt x 0 = false := decide_eq_false hc; simp only [zStep, zIf, ht, Option.map_some, e9, Bool.false_eq_true, if_false]) (k2 (hc))
theorem wp_ic_lt {x w : Int32} {off : Int} {t : Nat} (hi : zIns y pc = some (.if_icmp .lt off, 3)) (ht : zJmp pc off = some t) (k1 : x < w → zWP y t L st M Q) (k2 : ¬ x < w → zWP y (pc + 3) L st M Q) : zWP y pc L (.int w :: .int x :: st) M Q := by
  by_cases hc : x < w
  · exact wp_step hi rfl rfl rfl rfl (by have e9 : zCo .lt x w = true := decide_eq_true hc; simp only [zStep, zIc, ht, Option.map_some, e9, if_true]) (k1 hc)
  · exact wp_step hi rfl rfl rfl rfl (by have e9 : zCo .lt x w = false := decide_eq_false hc; simp only [zStep, zIc, ht, Option.map_some, e9, Bool.false_eq_true, if_false]) (k2 (hc))
theorem wp_if_ge {x : Int32} {off : Int} {t : Nat} (hi : zIns y pc = some (.ifCond .ge off, 3)) (ht : zJmp pc off = some t) (k1 : 0 ≤ x → zWP y t L st M Q) (k2 : ¬ 0 ≤ x → zWP y (pc + 3) L st M Q) : zWP y pc L (.int x :: st) M Q := by
  by_cases hc : 0 ≤ x
  · exact wp_step hi rfl rfl rfl rfl (by have e9 : zCo .ge x 0 = true := decide_eq_true hc; simp only [zStep, zIf, ht, Option.map_some, e9, if_true]) (k1 hc)
  · exact wp_step hi rfl rfl rfl rfl (by have e9 : zCo .ge x 0 = false := decide_eq_false hc; simp only [zStep, zIf, ht, Option.map_some, e9, Bool.false_eq_true, if_false]) (k2 (hc))
theorem wp_ic_ge {x w : Int32} {off : Int} {t : Nat} (hi : zIns y pc = some (.if_icmp .ge off, 3)) (ht : zJmp pc off = some t) (k1 : w ≤ x → zWP y t L st M Q) (k2 : ¬ w ≤ x → zWP y (pc + 3) L st M Q) : zWP y pc L (.int w :: .int x :: st) M Q := by
  by_cases hc : w ≤ x
  · exact wp_step hi rfl rfl rfl rfl (by have e9 : zCo .ge x w = true := decide_eq_true hc; simp only [zStep, zIc, ht, Option.map_some, e9, if_true]) (k1 hc)
  · exact wp_step hi rfl rfl rfl rfl (by have e9 : zCo .ge x w = false := decide_eq_false hc; simp only [zStep, zIc, ht, Option.map_some, e9, Bool.false_eq_true, if_false]) (k2 (hc))
theorem wp_if_gt {x : Int32} {off : Int} {t : Nat} (hi : zIns y pc = some (.ifCond .gt off, 3)) (ht : zJmp pc off = some t) (k1 : 0 < x → zWP y t L st M Q) (k2 : ¬ 0 < x → zWP y (pc + 3) L st M Q) : zWP y pc L (.int x :: st) M Q := by
  by_cases hc : 0 < x
  · exact wp_step hi rfl rfl rfl rfl (by have e9 : zCo .gt x 0 = true := decide_eq_true hc; simp only [zStep, zIf, ht, Option.map_some, e9, if_true]) (k1 hc)
  · exact wp_step hi rfl rfl rfl rfl (by have e9 : zCo .gt x 0 = false := decide_eq_false hc; simp only [zStep, zIf, ht, Option.map_some, e9, Bool.false_eq_true, if_false]) (k2 (hc))
theorem wp_ic_gt {x w : Int32} {off : Int} {t : Nat} (hi : zIns y pc = some (.if_icmp .gt off, 3)) (ht : zJmp pc off = some t) (k1 : w < x → zWP y t L st M Q) (k2 : ¬ w < x → zWP y (pc + 3) L st M Q) : zWP y pc L (.int w :: .int x :: st) M Q := by
  by_cases hc : w < x
  · exact wp_step hi rfl rfl rfl rfl (by have e9 : zCo .gt x w = true := decide_eq_true hc; simp only [zStep, zIc, ht, Option.map_some, e9, if_true]) (k1 hc)
  · exact wp_step hi rfl rfl rfl rfl (by have e9 : zCo .gt x w = false := decide_eq_false hc; simp only [zStep, zIc, ht, Option.map_some, e9, Bool.false_eq_true, if_false]) (k2 (hc))
theorem wp_if_le {x : Int32} {off : Int} {t : Nat} (hi : zIns y pc = some (.ifCond .le off, 3)) (ht : zJmp pc off = some t) (k1 : x ≤ 0 → zWP y t L st M Q) (k2 : ¬ x ≤ 0 → zWP y (pc + 3) L st M Q) : zWP y pc L (.int x :: st) M Q := by
  by_cases hc : x ≤ 0
  · exact wp_step hi rfl rfl rfl rfl (by have e9 : zCo .le x 0 = true := decide_eq_true hc; simp only [zStep, zIf, ht, Option.map_some, e9, if_true]) (k1 hc)
  · exact wp_step hi rfl rfl rfl rfl (by have e9 : zCo .le x 0 = false := decide_eq_false hc; simp only [zStep, zIf, ht, Option.map_some, e9, Bool.false_eq_true, if_false]) (k2 (hc))
theorem wp_ic_le {x w : Int32} {off : Int} {t : Nat} (hi : zIns y pc = some (.if_icmp .le off, 3)) (ht : zJmp pc off = some t) (k1 : x ≤ w → zWP y t L st M Q) (k2 : ¬ x ≤ w → zWP y (pc + 3) L st M Q) : zWP y pc L (.int w :: .int x :: st) M Q := by
  by_cases hc : x ≤ w
  · exact wp_step hi rfl rfl rfl rfl (by have e9 : zCo .le x w = true := decide_eq_true hc; simp only [zStep, zIc, ht, Option.map_some, e9, if_true]) (k1 hc)
  · exact wp_step hi rfl rfl rfl rfl (by have e9 : zCo .le x w = false := decide_eq_false hc; simp only [zStep, zIc, ht, Option.map_some, e9, Bool.false_eq_true, if_false]) (k2 (hc))
/-- straight stretches: k steps that are no calls and no ends -/
def zPl (i : Instr) : Bool := match i with
  | .ireturn => false
  | .lreturn => false
  | .return_ => false
  | .new _ => false
  | .invokestatic _ => false
  | .invokespecial _ => false
  | .invokevirtual _ => false
  | .invokeinterface _ _ => false
  | _ => true
def zGo : Nat → Nat → Nat → List (Option Value) → List Value → zM → Option (Nat × List (Option Value) × List Value × zM)
  | 0, _, pc, L, st, M => some (pc, L, st, M)
  | k + 1, y, pc, L, st, M => match zIns y pc with
    | some (i, len) => if zPl i then match zStep y i len pc L st M with
        | some (pc', L', st', M') => zGo k y pc' L' st' M'
        | none => none
      else none
    | none => none
theorem zPl_none {st : List Value} (h : zPl i = true) : zRet y i st = none ∧ zThw y i = none ∧ zInv y i st M = none ∧ zSpc y i st M = none := by
  cases i <;> first | (simp [zPl] at h; done) | exact ⟨rfl, rfl, rfl, rfl⟩
theorem wp_go : ∀ (k : Nat) {y pc : Nat} {L : List (Option Value)} {st : List Value} {M : zM} {Q : Option Value → zM → Prop} {pc' : Nat} {L' : List (Option Value)} {st' : List Value} {M' : zM}, zGo k y pc L st M = some (pc', L', st', M') → zWP y pc' L' st' M' Q → zWP y pc L st M Q
  | 0, _, _, _, _, _, _, _, _, _, _, h, hk => by cases h; exact hk
  | k + 1, y, pc, L, st, M, Q, pc', L', st', M', h, hk => by
    unfold zGo at h
    split at h
    · rename_i i len hins
      split at h
      · rename_i hp
        split at h
        · rename_i p1 L1 s1 M1 hst
          obtain ⟨a, b, c, d⟩ := zPl_none (y := y) (M := M) (st := st) hp
          exact wp_step hins a b c d hst (wp_go k h hk)
        · cases h
      · cases h
    · cases h
end ZWP
