/-! Rows for what makes cells, constructors, the interface's call, throws and the law's own look and edge. -/
def zOkM (M : zM) : Prop := zG M = 0 ∧ zN M < 999999
section ZS2
variable {y pc len : Nat} {i : Instr} {L : List (Option Value)} {st : List Value} {M : zM} {Q : Option Value → zM → Prop}
theorem wq_obj {k a : Nat} {q : Nat × Nat} (hi : zIns y pc = some (.invokespecial k, 3)) (ho : zObj (zO y) k = some q) (h0 : zInv y (.invokespecial k) (.ref a :: st) M = none) (hs : (st.map Value.category).sum ≤ 8 ∧ 1 ≤ zFr y ∧ 20 ≤ zLo y) (h : zWP y (pc + 3) L st M Q) : zWP y pc L (.ref a :: st) M Q :=
  wp_step hi rfl rfl h0 rfl (by simp only [zStep, zOin, ho, hs, and_self, if_true, Option.map_some]) h
theorem wq_new {k c p1 p2 p3 : Nat} (hi : zIns y pc = some (.new k, 3)) (hy : zThw y (.new k) = none) (hf : zNwi (zO y) k = some (k, c, p1, p2, p3)) (hc : zOkM M) (h : zWP y (pc + 3) L (.ref (zN M) :: st) (zNew M (0, c) (zNf c)) Q) : zWP y pc L st M Q :=
  wp_step hi rfl hy rfl rfl (by simp only [zStep, zNwo, hf, hc.1, hc.2, decide_true, Bool.and_self, if_true, Option.map_some]) h
def zOkW (x : Int32) (M : zM) : Prop := ¬ x < 0 ∧ x.toNatClampNeg ≤ 100000 ∧ zOkM M
theorem wq_newp {t : ArrayType} {k : Nat} {x : Int32} (hi : zIns y pc = some (.newarray t, 2)) (hf : zAtp t = some k) (hc : zOkW x M) (h : zWP y (pc + 2) L (.ref (zN M) :: st) (zNew M (k + 1, x.toNatClampNeg) x.toNatClampNeg) Q) : zWP y pc L (.int x :: st) M Q := by
  obtain ⟨h1, h2, h3, h4⟩ := hc
  exact wp_step hi rfl rfl rfl rfl (by simp only [zStep, hf, zNwa, h1, h2, h3, h4, not_false_eq_true, decide_true, Bool.and_self, if_true, Option.map_some]) h
theorem wq_newq {k t p1 : Nat} {x : Int32} (hi : zIns y pc = some (.anewarray k, 3)) (hf : zAni (zO y) k = some (k, t, p1)) (hc : zOkW x M) (h : zWP y (pc + 3) L (.ref (zN M) :: st) (zNew M (t + 1, x.toNatClampNeg) x.toNatClampNeg) Q) : zWP y pc L (.int x :: st) M Q := by
  obtain ⟨h1, h2, h3, h4⟩ := hc
  exact wp_step hi rfl rfl rfl rfl (by simp only [zStep, hf, zNwa, h1, h2, h3, h4, not_false_eq_true, decide_true, Bool.and_self, if_true, Option.map_some]) h
/-- the interface's call, by the receiver's class -/
def zHasF (y k b : Nat) (M : zM) (c z np : Nat) : Prop := zS M b = (0, c) ∧ b < zN M ∧ c < 11 ∧ ∃ e, zCal (zO y) k c = some e ∧ e.2.2.2.2.1 = np ∧ e.2.2.2.1 = z ∧ e.2.2.1 = 6
theorem zInv_f {k b c z np n9 : Nat} {rest : List Value} (hn : zNp (zO y) k = some np) (hd : st.drop np = .ref b :: rest) (hc : zHasF y k b M c z np) (hr : zRoom y z (.ref b :: (st.take np).reverse) rest = true) : zInv y (.invokeinterface k n9) st M = some (z, .ref b :: (st.take np).reverse, rest) := by
  obtain ⟨h1, h2, h3, e, h4, h5, h6, h7⟩ := hc
  subst h6
  have hb : (decide (e.2.2.2.2.1 = np) && decide (e.2.2.1 = 6) && ((decide (b < zN M) && decide (c < 11)) || (decide (1000000 ≤ b) && decide (b < 1000006) && decide (c = 11))) && zRoom y e.2.2.2.1 (.ref b :: (st.take np).reverse) rest) = true := by
    simp only [Bool.and_eq_true, Bool.or_eq_true, decide_eq_true_eq]
    exact ⟨⟨⟨h5, h7⟩, Or.inl ⟨h2, h3⟩⟩, hr⟩
  simp only [zInv, zVir, hn, hd, h1, h4, if_true]
  rw [if_pos hb]
/-- the law's own look and edge: n tells what was thrown (0: nothing) -/
theorem wp_spc {k z o : Nat} {as rest : List Value} {v : Int32} {q : Nat} {M1 : zM} (hi : zIns y pc = some (.invokestatic k, 3)) (h3 : zInv y (.invokestatic k) st M = none) (h4 : zSpc y (.invokestatic k) st M = some (z, as, o, rest))
    (hc : zCll z as M (fun r M2 => ((q = 0 ∧ r = some (.int v)) ∨ (¬ q = 0 ∧ r = some (.retAddr q))) ∧ M2 = M1)) (h : zWP y (pc + 3) L (.int (nI q) :: rest) (if q = 0 then zWJ M1 o 0 v.toInt64 else M1) Q) : zWP y pc L st M Q := by
  obtain ⟨n1, r1, M2, hn1, hq1, rfl⟩ := hc
  obtain ⟨n2, r2, M3, hn2, hq2⟩ := h
  refine ⟨(n1 + n2) + 1, r2, M3, ?_, hq2⟩
  rw [zX, hi]
  have e0 : zRet y (.invokestatic k) st = none := rfl
  have e9 : zThw y (.invokestatic k) = none := rfl
  simp only [e0, e9, h3, h4]
  have e1 : zX (n1 + n2) z 0 (zEnt z as) [] M = some (r1, M2) := zX_up hn1
  rw [e1]
  rcases hq1 with ⟨rfl, rfl⟩ | ⟨hq, rfl⟩
  · rw [if_pos rfl] at hn2
    have e2 := zX_up (k := n1) hn2
    rw [Nat.add_comm] at e2
    exact e2
  · rw [if_neg hq] at hn2
    have e2 := zX_up (k := n1) hn2
    rw [Nat.add_comm] at e2
    exact e2
/-- an answer, or what was thrown -/
def zRX (X : Int32 × Nat × zM) (r : Option Value) (M1 : zM) : Prop := ((X.2.1 = 0 ∧ r = some (.int X.1)) ∨ (¬ X.2.1 = 0 ∧ r = some (.retAddr X.2.1))) ∧ M1 = X.2.2
end ZS2
