section ZMR
variable {y pc len : Nat} {i : Instr} {L : List (Option Value)} {st : List Value} {M : zM} {Q : Option Value → zM → Prop}
theorem wp_getI {k a cc j : Nat} (hi : zIns y pc = some (.getfield k, 3)) (hs : zS M a = (0, cc)) (hf : zFld (zO y) k cc = some (j, false)) (ha : a < zN M) (h : zWP y (pc + 3) L (.int (zI M a j) :: st) M Q) : zWP y pc L (.ref a :: st) M Q := by
  have hc : ¬ cc = 11 := by have := (zFld_spec hf).1; omega
  exact wp_step hi rfl rfl rfl rfl (by simp only [zStep, zGf, hs, hf, hc, ha, if_true, if_false, Option.map_some]) h
theorem wp_getQ {k a cc j b : Nat} (hi : zIns y pc = some (.getfield k, 3)) (hs : zS M a = (0, cc)) (hf : zFld (zO y) k cc = some (j, true)) (ha : a < zN M) (hb : zP M a j = some b) (h : zWP y (pc + 3) L (.ref b :: st) M Q) : zWP y pc L (.ref a :: st) M Q := by
  have hc : ¬ cc = 11 := by have := (zFld_spec hf).1; omega
  exact wp_step hi rfl rfl rfl rfl (by simp only [zStep, zGf, hs, hf, hc, ha, hb, if_true, if_false, Option.map_some]) h
theorem wp_getK {k a j p9 : Nat} (hi : zIns y pc = some (.getfield k, 3)) (hs : zS M a = (0, 11)) (hf : zKfd (zO y) k = some (k, j, p9)) (ha : 1000000 ≤ a) (h : zWP y (pc + 3) L (.int (zI M a j) :: st) M Q) : zWP y pc L (.ref a :: st) M Q :=
  wp_step hi rfl rfl rfl rfl (by simp only [zStep, zGf, hs, hf, ha, if_true, Option.map_some]) h
theorem wp_putI {k a cc j : Nat} {x : Int32} (hi : zIns y pc = some (.putfield k, 3)) (hs : zS M a = (0, cc)) (hf : zFld (zO y) k cc = some (j, false)) (ha : a < zN M) (hn : zNar (zTy cc j) x = true) (hfi : zFin y cc j = true) (h : zWP y (pc + 3) L st (zWI M a j x) Q) : zWP y pc L (.int x :: .ref a :: st) M Q :=
  wp_step hi rfl rfl rfl rfl (by simp only [zStep, zPf, hs, hf, ha, hn, hfi, Bool.and_self, if_true, Option.map_some]) h
theorem wp_putQ {k a cc j b : Nat} (hi : zIns y pc = some (.putfield k, 3)) (hs : zS M a = (0, cc)) (hf : zFld (zO y) k cc = some (j, true)) (ha : a < zN M) (hfi : zFin y cc j = true) (h : zWP y (pc + 3) L st (zWQ M a j (some b)) Q) : zWP y pc L (.ref b :: .ref a :: st) M Q :=
  wp_step hi rfl rfl rfl rfl (by simp only [zStep, zPf, hs, hf, ha, hfi, if_true, Option.map_some]) h
theorem zin_nI {k n : Nat} (h : k < n) (hn : n < 2 ^ 31) : zin (nI k) n = true := by
  have h1 := nI_in h hn
  simp only [zin, Bool.not_eq_true', Bool.or_eq_false_iff, decide_eq_false_iff_not]
  exact ⟨fun q => h1 (Or.inl q), fun q => h1 (Or.inr q)⟩
theorem wp_iald {a n : Nat} {x : Int32} (hi : zIns y pc = some (.iaload, 1)) (hs : zS M a = (1, n)) (ha : a < zN M) (hx : zin x n = true) (h : zWP y (pc + 1) L (.int (zI M a x.toNatClampNeg) :: st) M Q) : zWP y pc L (.int x :: .ref a :: st) M Q :=
  wp_step hi rfl rfl rfl rfl (by simp only [zStep, zIld, hs, hx, ha, decide_true, Bool.true_or, Bool.and_self, if_true, Option.map_some]) h
theorem wp_xald {n : Nat} {x : Int32} (hi : zIns y pc = some (.iaload, 1)) (hs : zS M 1000006 = (1, n)) (hx : zin x n = true) (h : zWP y (pc + 1) L (.int (zI M 1000006 x.toNatClampNeg) :: st) M Q) : zWP y pc L (.int x :: .ref 1000006 :: st) M Q :=
  wp_step hi rfl rfl rfl rfl (by simp only [zStep, zIld, hs, hx, decide_true, Bool.or_true, Bool.true_or, Bool.and_self, if_true, Option.map_some]) h
theorem wp_sald {n : Nat} {x : Int32} (hi : zIns y pc = some (.iaload, 1)) (hs : zS M 1000008 = (1, n)) (hx : zin x n = true) (h : zWP y (pc + 1) L (.int (zI M 1000008 x.toNatClampNeg) :: st) M Q) : zWP y pc L (.int x :: .ref 1000008 :: st) M Q :=
  wp_step hi rfl rfl rfl rfl (by simp only [zStep, zIld, hs, hx, decide_true, Bool.or_true, Bool.and_self, if_true, Option.map_some]) h
theorem wp_zald {a n : Nat} {x : Int32} (hi : zIns y pc = some (.baload, 1)) (hs : zS M a = (2, n)) (ha : a < zN M) (hx : zin x n = true) (h : zWP y (pc + 1) L (.int (zI M a x.toNatClampNeg) :: st) M Q) : zWP y pc L (.int x :: .ref a :: st) M Q :=
  wp_step hi rfl rfl rfl rfl (by simp only [zStep, zZld, hs, hx, ha, decide_true, Bool.and_self, if_true, Option.map_some]) h
theorem wp_lald {a n : Nat} {x : Int32} (hi : zIns y pc = some (.laload, 1)) (hs : zS M a = (3, n)) (ha : a < zN M) (hx : zin x n = true) (h : zWP y (pc + 1) L (.long (zJ M a x.toNatClampNeg) :: st) M Q) : zWP y pc L (.int x :: .ref a :: st) M Q :=
  wp_step hi rfl rfl rfl rfl (by simp only [zStep, zLld, hs, hx, ha, decide_true, Bool.and_self, if_true, Option.map_some]) h
theorem wp_aald {a t n b : Nat} {x : Int32} (hi : zIns y pc = some (.aaload, 1)) (hs : zS M a = (t + 4, n)) (ht : t < 4) (ha : a < zN M) (hx : zin x n = true) (hb : zP M a x.toNatClampNeg = some b) (h : zWP y (pc + 1) L (.ref b :: st) M Q) : zWP y pc L (.int x :: .ref a :: st) M Q := by
  have h4 : 4 ≤ t + 4 := by omega
  have h8 : t + 4 < 8 := by omega
  exact wp_step hi rfl rfl rfl rfl (by simp only [zStep, zAld, hs, hx, ha, h4, h8, hb, decide_true, Bool.true_or, Bool.and_self, if_true, Option.map_some]) h
theorem wp_iast {a n : Nat} {x w : Int32} (hi : zIns y pc = some (.iastore, 1)) (hs : zS M a = (1, n)) (ha : a < zN M) (hx : zin x n = true) (h : zWP y (pc + 1) L st (zWI M a x.toNatClampNeg w) Q) : zWP y pc L (.int w :: .int x :: .ref a :: st) M Q :=
  wp_step hi rfl rfl rfl rfl (by simp only [zStep, zIst, hs, hx, ha, decide_true, Bool.and_self, if_true, Option.map_some]) h
theorem wp_zast {a n : Nat} {x w : Int32} (hi : zIns y pc = some (.bastore, 1)) (hs : zS M a = (2, n)) (ha : a < zN M) (hx : zin x n = true) (hn : zNar .boolean w = true) (h : zWP y (pc + 1) L st (zWI M a x.toNatClampNeg w) Q) : zWP y pc L (.int w :: .int x :: .ref a :: st) M Q :=
  wp_step hi rfl rfl rfl rfl (by simp only [zStep, zZst, hs, hx, ha, hn, decide_true, Bool.and_self, if_true, Option.map_some]) h
end ZMR
/-! a first try of the smallest methods -/
theorem sp_size (v : Int32) (M : zM) : zCll 124 [.int v] M (fun r M1 => r = some (.int (if v < 0 then -v else v)) ∧ M1 = M) := by
  show zWP 124 0 [some (.int v)] [] M _
  refine wp_go 1 (pc' := 1) (L' := [some (.int v)]) (st' := [.int v]) (M' := M) rfl ?_
  refine wp_if_ge (t := 9) rfl rfl (fun h => ?_) (fun h => ?_)
  · refine wp_go 1 (pc' := 10) (L' := [some (.int v)]) (st' := [.int v]) (M' := M) rfl ?_
    refine wp_ret (r := some (.int v)) rfl rfl ⟨?_, rfl⟩
    rw [if_neg (Int32.not_lt.mpr h)]
  · refine wp_go 3 (pc' := 10) (L' := [some (.int v)]) (st' := [.int (-v)]) (M' := M) rfl ?_
    refine wp_ret (r := some (.int (-v))) rfl rfl ⟨?_, rfl⟩
    rw [if_pos (Int32.not_le.mp h)]
theorem sp_greater (v w : Int32) (M : zM) : zCll 125 [.int v, .int w] M (fun r M1 => r = some (.int (if w < v then v else w)) ∧ M1 = M) := by
  show zWP 125 0 [some (.int v), some (.int w)] [] M _
  refine wp_go 2 (pc' := 2) (L' := [some (.int v), some (.int w)]) (st' := [.int w, .int v]) (M' := M) rfl ?_
  refine wp_ic_le (t := 9) rfl rfl (fun h => ?_) (fun h => ?_)
  · refine wp_go 1 (pc' := 10) (L' := [some (.int v), some (.int w)]) (st' := [.int w]) (M' := M) rfl ?_
    refine wp_ret (r := some (.int w)) rfl rfl ⟨?_, rfl⟩
    rw [if_neg (Int32.not_lt.mpr h)]
  · refine wp_go 2 (pc' := 10) (L' := [some (.int v), some (.int w)]) (st' := [.int v]) (M' := M) rfl ?_
    refine wp_ret (r := some (.int v)) rfl rfl ⟨?_, rfl⟩
    rw [if_pos (Int32.not_le.mp h)]
