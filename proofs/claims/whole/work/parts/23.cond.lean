/-! Side conditions of single instructions, and the rows that take them. -/
def zHasI (o k a : Nat) (M : zM) (j : Nat) : Prop := a < zN M ∧ ∃ c, zS M a = (0, c) ∧ zFld o k c = some (j, false)
def zHasQ (o k a : Nat) (M : zM) (j : Nat) : Prop := a < zN M ∧ (∃ c, zS M a = (0, c) ∧ zFld o k c = some (j, true)) ∧ ¬ zP M a j = none
def zQ (M : zM) (a j : Nat) : Nat := (zP M a j).getD 0
def zHasK (a : Nat) (M : zM) : Prop := zS M a = (0, 11) ∧ 1000000 ≤ a
def zPutI (y k a : Nat) (M : zM) (j : Nat) (x : Int32) : Prop := a < zN M ∧ ∃ c, zS M a = (0, c) ∧ zFld (zO y) k c = some (j, false) ∧ zNar (zTy c j) x = true ∧ zFin y c j = true
def zPutQ (y k a : Nat) (M : zM) (j : Nat) : Prop := a < zN M ∧ ∃ c, zS M a = (0, c) ∧ zFld (zO y) k c = some (j, true) ∧ zFin y c j = true
def zOkI (a : Nat) (x : Int32) (M : zM) : Prop := (∃ n, zS M a = (1, n) ∧ zin x n = true) ∧ (a < zN M ∨ a = 1000006 ∨ a = 1000008)
def zOkT (t a : Nat) (x : Int32) (M : zM) : Prop := (∃ n, zS M a = (t, n) ∧ zin x n = true) ∧ a < zN M
def zOkR (a : Nat) (x : Int32) (M : zM) : Prop := (∃ t n, zS M a = (t, n) ∧ zin x n = true ∧ ((a < zN M ∧ 4 ≤ t ∧ t < 8) ∨ (a = 1000007 ∧ t = 8))) ∧ ¬ zP M a x.toNatClampNeg = none
def zOkN (a : Nat) (M : zM) : Prop := 1 ≤ (zS M a).1 ∧ ((a < zN M ∧ (zS M a).1 < 8) ∨ a = 1000007 ∨ a = 1000008)
def zOkS (a v : Nat) (x : Int32) (M : zM) : Prop := ∃ t n c, zS M a = (t, n) ∧ zS M v = (0, c) ∧ zin x n = true ∧ a < zN M ∧ v < zN M ∧ 4 ≤ t ∧ t < 8 ∧ c < 11 ∧ zCn c = zAc (t - 1)
def zHasC (y k b : Nat) (M : zM) (z np : Nat) : Prop := ∃ c e, zS M b = (0, c) ∧ zCal (zO y) k c = some e ∧ e.2.2.2.2.1 = np ∧ e.2.2.2.1 = z ∧ (e.2.2.1 = 0 ∨ e.2.2.1 = 1) ∧ ((b < zN M ∧ c < 11) ∨ (1000000 ≤ b ∧ b < 1000006 ∧ c = 11))
section ZCD
variable {y pc len : Nat} {i : Instr} {L : List (Option Value)} {st : List Value} {M : zM} {Q : Option Value → zM → Prop}
theorem zQ_some {a j : Nat} (h : ¬ zP M a j = none) : zP M a j = some (zQ M a j) := by
  unfold zQ
  cases hp : zP M a j with
  | none => exact absurd hp h
  | some b => rfl
theorem wq_getI {k a j : Nat} (hi : zIns y pc = some (.getfield k, 3)) (hc : zHasI (zO y) k a M j) (h : zWP y (pc + 3) L (.int (zI M a j) :: st) M Q) : zWP y pc L (.ref a :: st) M Q := by
  obtain ⟨ha, c, h1, h2⟩ := hc
  exact wp_getI hi h1 h2 ha h
theorem wq_getQ {k a j : Nat} (hi : zIns y pc = some (.getfield k, 3)) (hc : zHasQ (zO y) k a M j) (h : zWP y (pc + 3) L (.ref (zQ M a j) :: st) M Q) : zWP y pc L (.ref a :: st) M Q := by
  obtain ⟨ha, ⟨c, h1, h2⟩, h3⟩ := hc
  exact wp_getQ hi h1 h2 ha (zQ_some h3) h
theorem wq_getK {k a j p9 : Nat} (hi : zIns y pc = some (.getfield k, 3)) (hf : zKfd (zO y) k = some (k, j, p9)) (hc : zHasK a M) (h : zWP y (pc + 3) L (.int (zI M a j) :: st) M Q) : zWP y pc L (.ref a :: st) M Q := wp_getK hi hc.1 hf hc.2 h
theorem wq_putI {k a j : Nat} {x : Int32} (hi : zIns y pc = some (.putfield k, 3)) (hc : zPutI y k a M j x) (h : zWP y (pc + 3) L st (zWI M a j x) Q) : zWP y pc L (.int x :: .ref a :: st) M Q := by
  obtain ⟨ha, c, h1, h2, h3, h4⟩ := hc
  exact wp_putI hi h1 h2 ha h3 h4 h
theorem wq_putQ {k a j b : Nat} (hi : zIns y pc = some (.putfield k, 3)) (hc : zPutQ y k a M j) (h : zWP y (pc + 3) L st (zWQ M a j (some b)) Q) : zWP y pc L (.ref b :: .ref a :: st) M Q := by
  obtain ⟨ha, c, h1, h2, h3⟩ := hc
  exact wp_putQ hi h1 h2 ha h3 h
theorem wq_iald {a : Nat} {x : Int32} (hi : zIns y pc = some (.iaload, 1)) (hc : zOkI a x M) (h : zWP y (pc + 1) L (.int (zI M a x.toNatClampNeg) :: st) M Q) : zWP y pc L (.int x :: .ref a :: st) M Q := by
  obtain ⟨⟨n, h1, h2⟩, ha | rfl | rfl⟩ := hc
  · exact wp_iald hi h1 ha h2 h
  · exact wp_xald hi h1 h2 h
  · exact wp_sald hi h1 h2 h
theorem wq_zald {a : Nat} {x : Int32} (hi : zIns y pc = some (.baload, 1)) (hc : zOkT 2 a x M) (h : zWP y (pc + 1) L (.int (zI M a x.toNatClampNeg) :: st) M Q) : zWP y pc L (.int x :: .ref a :: st) M Q := by
  obtain ⟨⟨n, h1, h2⟩, ha⟩ := hc
  exact wp_zald hi h1 ha h2 h
theorem wq_lald {a : Nat} {x : Int32} (hi : zIns y pc = some (.laload, 1)) (hc : zOkT 3 a x M) (h : zWP y (pc + 1) L (.long (zJ M a x.toNatClampNeg) :: st) M Q) : zWP y pc L (.int x :: .ref a :: st) M Q := by
  obtain ⟨⟨n, h1, h2⟩, ha⟩ := hc
  exact wp_lald hi h1 ha h2 h
theorem wq_aald {a : Nat} {x : Int32} (hi : zIns y pc = some (.aaload, 1)) (hc : zOkR a x M) (h : zWP y (pc + 1) L (.ref (zQ M a x.toNatClampNeg) :: st) M Q) : zWP y pc L (.int x :: .ref a :: st) M Q := by
  obtain ⟨⟨t, n, h1, h2, h3⟩, h4⟩ := hc
  have hb := zQ_some h4
  rcases h3 with ⟨ha, h5, h6⟩ | ⟨rfl, rfl⟩
  · exact wp_step hi rfl rfl rfl rfl (by simp only [zStep, zAld, h1, h2, ha, h5, h6, hb, decide_true, Bool.true_or, Bool.and_self, if_true, Option.map_some]) h
  · exact wp_step hi rfl rfl rfl rfl (by simp only [zStep, zAld, h1, h2, hb, decide_true, Bool.or_true, Bool.and_self, if_true, Option.map_some]) h
theorem wq_alen {a : Nat} (hi : zIns y pc = some (.arraylength, 1)) (hc : zOkN a M) (h : zWP y (pc + 1) L (.int (Int32.ofNat (zS M a).2) :: st) M Q) : zWP y pc L (.ref a :: st) M Q := by
  obtain ⟨h1, h2⟩ := hc
  refine wp_step hi rfl rfl rfl rfl ?_ h
  simp only [zStep, zAln]
  have hb : (decide (1 ≤ (zS M a).1) && ((decide (a < zN M) && decide ((zS M a).1 < 8)) || decide (a = 1000007) || decide (a = 1000008))) = true := by
    simp only [Bool.and_eq_true, Bool.or_eq_true, decide_eq_true_eq]
    refine ⟨h1, ?_⟩
    rcases h2 with h | h | h
    · exact Or.inl (Or.inl h)
    · exact Or.inl (Or.inr h)
    · exact Or.inr h
  rw [if_pos hb]
  rfl
theorem wq_iast {a : Nat} {x w : Int32} (hi : zIns y pc = some (.iastore, 1)) (hc : zOkT 1 a x M) (h : zWP y (pc + 1) L st (zWI M a x.toNatClampNeg w) Q) : zWP y pc L (.int w :: .int x :: .ref a :: st) M Q := by
  obtain ⟨⟨n, h1, h2⟩, ha⟩ := hc
  exact wp_iast hi h1 ha h2 h
theorem wq_zast {a : Nat} {x w : Int32} (hi : zIns y pc = some (.bastore, 1)) (hc : zOkT 2 a x M ∧ zNar .boolean w = true) (h : zWP y (pc + 1) L st (zWI M a x.toNatClampNeg w) Q) : zWP y pc L (.int w :: .int x :: .ref a :: st) M Q := by
  obtain ⟨⟨⟨n, h1, h2⟩, ha⟩, hn⟩ := hc
  exact wp_zast hi h1 ha h2 hn h
theorem wq_aast {a v : Nat} {x : Int32} (hi : zIns y pc = some (.aastore, 1)) (hc : zOkS a v x M) (h : zWP y (pc + 1) L st (zWQ M a x.toNatClampNeg (some v)) Q) : zWP y pc L (.ref v :: .int x :: .ref a :: st) M Q := by
  obtain ⟨t, n, c, h1, h2, h3, h4, h5, h6, h7, h8, h9⟩ := hc
  exact wp_step hi rfl rfl rfl rfl (by simp only [zStep, zAst, h1, h2, h3, h4, h5, h6, h7, h8, h9, decide_true, Bool.and_self, if_true, Option.map_some]) h
theorem wq_gets {k j p9 : Nat} (hi : zIns y pc = some (.getstatic k, 3)) (hf : zSti (zO y) k = some (k, j, p9)) (h : zWP y (pc + 3) L (.ref (1000000 + j) :: st) M Q) : zWP y pc L st M Q :=
  wp_step hi rfl rfl rfl rfl (by simp only [zStep, hf, Option.map_some]) h
theorem wq_acmp_ne {a b t : Nat} {off : Int} (hi : zIns y pc = some (.if_acmp .ne off, 3)) (hc : 1000000 ≤ a ∧ a < 1000006 ∧ 1000000 ≤ b ∧ b < 1000006) (ht : zJmp pc off = some t) (k1 : ¬ a = b → zWP y t L st M Q) (k2 : a = b → zWP y (pc + 3) L st M Q) : zWP y pc L (.ref b :: .ref a :: st) M Q := by
  by_cases h : a = b
  · refine wp_step hi rfl rfl rfl rfl ?_ (k2 h)
    simp only [zStep, zIa]
    rw [if_pos hc, ht]
    have e9 : decide (¬ a = b) = false := decide_eq_false (fun z => z h)
    simp only [Option.map_some, e9, Bool.false_eq_true, if_false]
  · refine wp_step hi rfl rfl rfl rfl ?_ (k1 h)
    simp only [zStep, zIa]
    rw [if_pos hc, ht]
    have e9 : decide (¬ a = b) = true := decide_eq_true h
    simp only [Option.map_some, e9, if_true]
theorem wq_idiv {x w : Int32} (hi : zIns y pc = some (.idiv, 1)) (hc : ¬ w = 0) (h : zWP y (pc + 1) L (.int (x / w) :: st) M Q) : zWP y pc L (.int w :: .int x :: st) M Q :=
  wp_step hi rfl rfl rfl rfl (by simp only [zStep, zD2, hc, if_false, Option.map_some]) h
theorem wq_irem {x w : Int32} (hi : zIns y pc = some (.irem, 1)) (hc : ¬ w = 0) (h : zWP y (pc + 1) L (.int (x - x / w * w) :: st) M Q) : zWP y pc L (.int w :: .int x :: st) M Q :=
  wp_step hi rfl rfl rfl rfl (by simp only [zStep, zD2, hc, if_false, Option.map_some]) h
theorem wq_ldiv {x w : Int64} (hi : zIns y pc = some (.ldiv, 1)) (hc : ¬ w = 0) (h : zWP y (pc + 1) L (.long (x / w) :: st) M Q) : zWP y pc L (.long w :: .long x :: st) M Q :=
  wp_step hi rfl rfl rfl rfl (by simp only [zStep, zE2d, hc, if_false, Option.map_some]) h
theorem zInv_v {k b z np : Nat} {rest : List Value} (hn : zNp (zO y) k = some np) (hd : st.drop np = .ref b :: rest) (hc : zHasC y k b M z np) (hr : zRoom y z (.ref b :: (st.take np).reverse) rest = true) : zInv y (.invokevirtual k) st M = some (z, .ref b :: (st.take np).reverse, rest) := by
  obtain ⟨c, e, h1, h2, h3, h4, h5, h6⟩ := hc
  subst h4
  have hb : (decide (e.2.2.2.2.1 = np) && (decide (e.2.2.1 = 0) || decide (e.2.2.1 = 1)) && ((decide (b < zN M) && decide (c < 11)) || (decide (1000000 ≤ b) && decide (b < 1000006) && decide (c = 11))) && zRoom y e.2.2.2.1 (.ref b :: (st.take np).reverse) rest) = true := by
    simp only [Bool.and_eq_true, Bool.or_eq_true, decide_eq_true_eq]
    exact ⟨⟨⟨h3, h5⟩, h6.imp id (fun h => ⟨⟨h.1, h.2.1⟩, h.2.2⟩)⟩, hr⟩
  simp only [zInv, zVir, hn, hd, h1, h2, Bool.false_eq_true, if_false]
  rw [if_pos hb]
end ZCD
