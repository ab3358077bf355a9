/-! Longs, quotients, rows of cuts. -/
theorem tdiv_bd {a b K : Int} (h : -K ≤ a ∧ a ≤ K) : -K ≤ Int.tdiv a b ∧ Int.tdiv a b ≤ K := by
  have h1 := Int.natAbs_tdiv_le_natAbs a b
  generalize Int.tdiv a b = q at *
  omega
theorem tdm_bd {a b K : Int} (h : -K ≤ a ∧ a ≤ K) : -K ≤ Int.tdiv a b * b ∧ Int.tdiv a b * b ≤ K := by
  have h1 : (Int.tdiv a b * b).natAbs ≤ a.natAbs := by
    rw [Int.natAbs_mul, Int.natAbs_tdiv]
    exact Nat.div_mul_le_self _ _
  generalize Int.tdiv a b * b = q at *
  omega
theorem mul_bd {a b : Int} {A B : Nat} (ha : a.natAbs ≤ A) (hb : b.natAbs ≤ B) : (a * b).natAbs ≤ A * B := by
  rw [Int.natAbs_mul]; exact Nat.mul_le_mul ha hb
theorem i64_add {x y : Int64} (h : -9223372036854775808 ≤ x.toInt + y.toInt ∧ x.toInt + y.toInt < 9223372036854775808) : (x + y).toInt = x.toInt + y.toInt := by
  rw [Int64.toInt_add]; exact Int.bmod_eq_of_le (by omega) (by omega)
theorem i64_sub {x y : Int64} (h : -9223372036854775808 ≤ x.toInt - y.toInt ∧ x.toInt - y.toInt < 9223372036854775808) : (x - y).toInt = x.toInt - y.toInt := by
  rw [Int64.toInt_sub]; exact Int.bmod_eq_of_le (by omega) (by omega)
theorem i64_mul {x y : Int64} (h : -9223372036854775808 ≤ x.toInt * y.toInt ∧ x.toInt * y.toInt < 9223372036854775808) : (x * y).toInt = x.toInt * y.toInt := by
  rw [Int64.toInt_mul]; exact Int.bmod_eq_of_le (by omega) (by omega)
theorem i64_neg {x : Int64} (h : -9223372036854775808 < x.toInt) : (-x).toInt = -x.toInt := by
  have h1 := Int64.toInt_lt x
  rw [Int64.toInt_neg]; exact Int.bmod_eq_of_le (by omega) (by omega)
theorem lg_gt {x y : Int64} : nI 0 < lg_cmp x y ↔ y.toInt < x.toInt := by
  unfold lg_cmp
  by_cases h : x > y
  · rw [if_pos h]; rw [gt_iff_lt, Int64.lt_iff_toInt_lt] at h; exact ⟨fun _ => h, fun _ => by decide⟩
  · rw [if_neg h]; rw [gt_iff_lt, Int64.lt_iff_toInt_lt] at h
    split
    · exact ⟨fun h9 => absurd h9 (by decide), fun h9 => absurd h9 h⟩
    · exact ⟨fun h9 => absurd h9 (by decide), fun h9 => absurd h9 h⟩
theorem lg_ge {x y : Int64} : nI 0 ≤ lg_cmp x y ↔ y.toInt ≤ x.toInt := by
  unfold lg_cmp
  by_cases h : x > y
  · rw [if_pos h]; rw [gt_iff_lt, Int64.lt_iff_toInt_lt] at h; exact ⟨fun _ => by omega, fun _ => by decide⟩
  · rw [if_neg h]; rw [gt_iff_lt, Int64.lt_iff_toInt_lt] at h
    split
    · rename_i e; exact ⟨fun _ => by rw [e]; exact Int.le_refl _, fun _ => by decide⟩
    · rename_i e; exact ⟨fun h9 => absurd h9 (by decide), fun h9 => absurd (i64_ext (by omega)) e⟩
theorem lg_eq {x y : Int64} : lg_cmp x y = nI 0 ↔ x.toInt = y.toInt := by
  unfold lg_cmp
  by_cases h : x > y
  · rw [if_pos h]; rw [gt_iff_lt, Int64.lt_iff_toInt_lt] at h; exact ⟨fun h9 => absurd h9 (by decide), fun h9 => absurd h9 (by omega)⟩
  · rw [if_neg h]
    split
    · rename_i e; exact ⟨fun _ => by rw [e], fun _ => rfl⟩
    · rename_i e; exact ⟨fun h9 => absurd h9 (by decide), fun h9 => absurd (i64_ext h9) e⟩
theorem wMax_i {x y : Int32} : (wMax x y).toInt = max x.toInt y.toInt := by
  unfold wMax
  by_cases h : x < y
  · rw [if_pos h]; rw [Int32.lt_iff_toInt_lt] at h; omega
  · rw [if_neg h]; rw [Int32.lt_iff_toInt_lt] at h; omega
theorem wMin_i {x y : Int32} : (wMin x y).toInt = min x.toInt y.toInt := by
  unfold wMin
  by_cases h : y < x
  · rw [if_pos h]; rw [Int32.lt_iff_toInt_lt] at h; omega
  · rw [if_neg h]; rw [Int32.lt_iff_toInt_lt] at h; omega
section OA
variable {n : Nat} {M : zM}
theorem B188 {x y : Int64} (hy : 0 < y.toInt) (hx : -9000000000000000000 ≤ x.toInt ∧ x.toInt ≤ 9000000000000000000) : p188_0 n x y M ∧ ∃ z, b188_0 n x y M = (z, M) ∧ z.toInt = Int.fdiv x.toInt y.toInt := by
  have hb := tdiv_bd (b := y.toInt) hx
  have hm := tdm_bd (b := y.toInt) hx
  have e1 : (x / y).toInt = Int.tdiv x.toInt y.toInt := by
    rw [Int64.toInt_div]; exact Int.bmod_eq_of_le (by omega) (by omega)
  have e2 : (x / y * y).toInt = Int.tdiv x.toInt y.toInt * y.toInt := by
    rw [i64_mul (by rw [e1]; omega), e1]
  have z0 : (0 : Int64).toInt = 0 := rfl
  have z1 : (1 : Int64).toInt = 1 := rfl
  have hne : ¬ y = 0 := fun h => by rw [h, z0] at hy; omega
  refine ⟨?_, ?_⟩
  · simp only [b188_27, p188_27, b188_0, p188_0, hne, not_false_eq_true, implies_true, and_self]
  · simp only [b188_27, p188_27, b188_0, p188_0]
    by_cases c1 : 0 ≤ lg_cmp (x ^^^ y) 0
    · rw [if_pos c1]
      refine ⟨_, rfl, ?_⟩
      have c1 : nI 0 ≤ lg_cmp (x ^^^ y) 0 := c1
      rw [lg_ge, z0, i64_xor_neg] at c1
      rw [e1, fdiv_tdiv hy, if_pos (Or.inl (by omega))]
    · rw [if_neg c1]
      have c1 : ¬ nI 0 ≤ lg_cmp (x ^^^ y) 0 := c1
      rw [lg_ge, z0, i64_xor_neg] at c1
      by_cases c2 : lg_cmp (x / y * y) x = 0
      · rw [if_pos c2]
        refine ⟨_, rfl, ?_⟩
        have c2 : lg_cmp (x / y * y) x = nI 0 := c2
        rw [lg_eq, e2] at c2
        rw [e1, fdiv_tdiv hy, if_pos (Or.inr c2)]
      · rw [if_neg c2]
        refine ⟨_, rfl, ?_⟩
        have c2 : ¬ lg_cmp (x / y * y) x = nI 0 := c2
        rw [lg_eq, e2] at c2
        rw [i64_sub (by rw [e1, z1]; omega), e1, z1, fdiv_tdiv hy, if_neg (by rintro (h | h); omega; exact c2 h)]
theorem B187 {x : Int32} : p187_0 n x (nI 1000) M ∧ ∃ z, b187_0 n x (nI 1000) M = (z, M) ∧ z.toInt = Int.fdiv x.toInt 1000 := by
  have hx1 := Int32.le_toInt x
  have hx2 := Int32.toInt_lt x
  have ek : (nI 1000).toInt = 1000 := rfl
  have hq := Int.tdiv_eq_ediv (a := x.toInt) (b := 1000)
  have hb : -2147484 ≤ Int.tdiv x.toInt 1000 ∧ Int.tdiv x.toInt 1000 ≤ 2147484 := by
    rw [hq]; split
    · omega
    · have : Int.sign 1000 = 1 := rfl
      rw [this]; omega
  have hm := tdm_bd (a := x.toInt) (b := 1000) (K := 2147483648) (by omega)
  have e1 : (x / nI 1000).toInt = Int.tdiv x.toInt 1000 := by
    rw [Int32.toInt_div, ek]; exact Int.bmod_eq_of_le (by omega) (by omega)
  have hne : ¬ nI 1000 = 0 := by decide
  refine ⟨?_, ?_⟩
  · simp only [b187_21, p187_21, b187_0, p187_0, hne, not_false_eq_true, implies_true, and_self]
  · simp only [b187_21, p187_21, b187_0, p187_0]
    by_cases c1 : 0 ≤ (x ^^^ nI 1000)
    · rw [if_pos c1]
      refine ⟨_, rfl, ?_⟩
      rw [i32_xor_neg, ek] at c1
      rw [e1, fdiv_tdiv (by omega), if_pos (Or.inl (by omega))]
    · rw [if_neg c1]
      rw [i32_xor_neg, ek] at c1
      have e2 : (x / nI 1000 * nI 1000).toInt = Int.tdiv x.toInt 1000 * 1000 := by
        rw [i32_mul (by rw [e1, ek]; omega), e1, ek]
      by_cases c2 : x / nI 1000 * nI 1000 = x
      · rw [if_pos c2]
        refine ⟨_, rfl, ?_⟩
        rw [c2] at e2
        rw [e1, fdiv_tdiv (by omega), if_pos (Or.inr e2.symm)]
      · rw [if_neg c2]
        refine ⟨_, rfl, ?_⟩
        have o1 : (1 : Int32).toInt = 1 := rfl
        rw [i32_sub (by rw [e1, o1]; omega), e1, o1, fdiv_tdiv (by omega), if_neg (by rintro (h | h); omega; exact c2 (i32_ext (by rw [e2, h])))]
/-- the reference's way to cut down -/
theorem B162 {x : Int32} (h : -100000000 ≤ x.toInt ∧ x.toInt ≤ 100000000) : p162_0 n x M ∧ ∃ z, b162_0 n x M = (z, M) ∧ z.toInt = Int.fdiv x.toInt 1000 := by
  have ek : (nI 1000).toInt = 1000 := rfl
  have e9 : (nI 999).toInt = 999 := rfl
  have e0 : (nI 0).toInt = 0 := rfl
  have hne : ¬ nI 1000 = nI 0 := by decide
  have hf := Int.fdiv_eq_ediv_of_nonneg x.toInt (b := 1000) (by omega)
  refine ⟨?_, ?_⟩
  · simp only [b162_22, p162_22, b162_0, p162_0, lit_nI, hne, not_false_eq_true, implies_true, and_self]
  · simp only [b162_22, p162_22, b162_0, p162_0]
    by_cases c : x < 0
    · rw [if_pos c]
      refine ⟨_, rfl, ?_⟩
      have c : x < nI 0 := c
      rw [Int32.lt_iff_toInt_lt, e0] at c
      have es : (nI 999 - x).toInt = 999 - x.toInt := by rw [i32_sub (by omega), e9]
      have ed : ((nI 999 - x) / nI 1000).toInt = (999 - x.toInt) / 1000 := by
        rw [Int32.toInt_div, es, ek, Int.tdiv_eq_ediv_of_nonneg (by omega)]; exact Int.bmod_eq_of_le (by omega) (by omega)
      show (-((nI 999 - x) / nI 1000)).toInt = _
      rw [i32_neg (by omega), ed, hf]; omega
    · rw [if_neg c]
      refine ⟨_, rfl, ?_⟩
      have c : ¬ x < nI 0 := c
      rw [Int32.lt_iff_toInt_lt, e0] at c
      show (x / nI 1000).toInt = _
      rw [Int32.toInt_div, ek, Int.tdiv_eq_ediv_of_nonneg (by omega), hf]; exact Int.bmod_eq_of_le (by omega) (by omega)
end OA
theorem getD_in {α : Type} {l : List α} {k : Nat} (d : α) (h : k < l.length) : l.getD k d = l[k] := by
  rw [List.getD_eq_getElem?_getD, List.getElem?_eq_getElem h]; rfl
/-- what an insertion leaves at each place -/
theorem gIns_get {c : Int} : ∀ (l : List Int) (m : Nat), m ≤ l.length → (∀ k, k < m → l.getD k 0 ≤ c) → (m < l.length → c < l.getD m 0) → ∀ k, (gIns c l).getD k 0 = if k < m then l.getD k 0 else if k = m then c else l.getD (k - 1) 0
  | [], m, h, _, _, k => by
    have : m = 0 := Nat.le_zero.mp h
    subst this
    cases k with
    | zero => rfl
    | succ k => rw [if_neg (by omega), if_neg (by omega)]; rfl
  | x :: t, 0, _, _, h2, k => by
    have h3 : c < x := h2 (by simp)
    rw [gIns, if_pos h3, if_neg (by omega)]
    cases k with
    | zero => rfl
    | succ k => rw [if_neg (by omega)]; rfl
  | x :: t, m + 1, h, h1, h2, k => by
    have h0 : x ≤ c := h1 0 (by omega)
    rw [gIns, if_neg (by omega)]
    cases k with
    | zero => rw [if_pos (by omega)]; rfl
    | succ k =>
      have ih := gIns_get t m (Nat.le_of_succ_le_succ h) (fun k hk => h1 (k + 1) (by omega)) (fun hm => h2 (Nat.succ_lt_succ hm)) k
      show (gIns c t).getD k 0 = _
      rw [ih]
      by_cases c1 : k < m
      · rw [if_pos c1, if_pos (show k + 1 < m + 1 by omega)]; rfl
      · rw [if_neg c1, if_neg (show ¬ k + 1 < m + 1 by omega)]
        by_cases c2 : k = m
        · rw [if_pos c2, if_pos (show k + 1 = m + 1 by omega)]
        · rw [if_neg c2, if_neg (show ¬ k + 1 = m + 1 by omega)]
          obtain ⟨k, rfl⟩ : ∃ q, k = q + 1 := ⟨k - 1, by omega⟩
          rfl
theorem gSorted_get : ∀ (l : List Int), gSorted l → ∀ j k, j ≤ k → k < l.length → l.getD j 0 ≤ l.getD k 0
  | [], _, _, k, _, h => absurd h (Nat.not_lt_zero k)
  | x :: t, h, 0, 0, _, _ => Int.le_refl _
  | x :: t, h, 0, k + 1, _, hk => by
    have hk2 : k < t.length := Nat.lt_of_succ_lt_succ hk
    have : t.getD k 0 ∈ t := by rw [getD_in _ hk2]; exact List.getElem_mem hk2
    exact h.1 _ this
  | x :: t, h, j + 1, 0, hj, _ => absurd hj (by omega)
  | x :: t, h, j + 1, k + 1, hj, hk => gSorted_get t h.2 j k (by omega) (Nat.lt_of_succ_lt_succ hk)
theorem gPr_drop {l : List Int} {m : Nat} (h : m + 1 < l.length) : gPr (l.drop m) = (l.getD m 0, l.getD (m + 1) 0) :: gPr (l.drop (m + 2)) := by
  rw [List.drop_eq_getElem_cons (show m < l.length by omega), List.drop_eq_getElem_cons h, gPr, getD_in _ (show m < l.length by omega), getD_in _ h]
theorem gPr_stop {l : List Int} {m : Nat} (h : l.length ≤ m + 1) : gPr (l.drop m) = [] := by
  have hl : (l.drop m).length ≤ 1 := by rw [List.length_drop]; omega
  cases hd : l.drop m with
  | nil => rfl
  | cons a t =>
    cases t with
    | nil => rfl
    | cons b u => rw [hd] at hl; simp at hl
