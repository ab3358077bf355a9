/-! Small ints as naturals, reads over writes. -/
theorem kI_toInt {a : Nat} (h : a < 2147483648) : (nI a).toInt = a := Int32.toInt_ofNat_of_lt (by omega)
theorem lit_nI (k : Nat) : (@OfNat.ofNat Int32 k Int32.instOfNat) = nI k := rfl
theorem ofI_nI (k : Nat) : Int32.ofInt (Int.ofNat k) = nI k := rfl
theorem ofI_1 : Int32.ofInt 1 = nI 1 := rfl
theorem ofI_2 : Int32.ofInt 2 = nI 2 := rfl
theorem ofI_6 : Int32.ofInt 6 = nI 6 := rfl
def wM1 : Int32 := -1
theorem wM1_lit : (-1 : Int32) = wM1 := rfl
theorem wM1_i : wM1.toInt = -1 := rfl
theorem ofI_m1 : Int32.ofInt (-1) = wM1 := rfl
theorem kI_add (a b : Nat) : nI a + nI b = nI (a + b) := (Int32.ofNat_add a b).symm
theorem kI_mul (a b : Nat) : nI a * nI b = nI (a * b) := (Int32.ofNat_mul a b).symm
theorem kI_sub {a b : Nat} (h : b ≤ a) : nI a - nI b = nI (a - b) := by
  have e : nI a = nI (a - b) + nI b := by rw [kI_add]; congr 1; omega
  rw [e]; grind
theorem kI_m1 {a : Nat} (h : 1 ≤ a) : nI a + wM1 = nI (a - 1) := by
  have e : nI a = nI (a - 1) + nI 1 := by rw [kI_add]; congr 1; omega
  rw [e]; show _ + (1 : Int32) + -1 = _; grind
theorem kI_le {a b : Nat} (ha : a < 2147483648) (hb : b < 2147483648) : nI a ≤ nI b ↔ a ≤ b := by
  rw [Int32.le_iff_toInt_le, kI_toInt ha, kI_toInt hb]; omega
theorem kI_lt {a b : Nat} (ha : a < 2147483648) (hb : b < 2147483648) : nI a < nI b ↔ a < b := by
  rw [Int32.lt_iff_toInt_lt, kI_toInt ha, kI_toInt hb]; omega
theorem kI_eq {a b : Nat} (ha : a < 2147483648) (hb : b < 2147483648) : nI a = nI b ↔ a = b := by
  rw [← Int32.toInt_inj, kI_toInt ha, kI_toInt hb]; omega
theorem kI_ne_m1 {a : Nat} (ha : a < 2147483648) : nI a = wM1 ↔ False := by
  rw [← Int32.toInt_inj, kI_toInt ha, wM1_i]; exact ⟨fun h => by omega, fun h => h.elim⟩
theorem kI_m1_ne {a : Nat} (ha : a < 2147483648) : wM1 = nI a ↔ False := by
  rw [← Int32.toInt_inj, kI_toInt ha, wM1_i]; exact ⟨fun h => by omega, fun h => h.elim⟩
theorem kI_div {a b : Nat} (ha : a < 2147483648) (hb : b < 2147483648) : nI a / nI b = nI (a / b) := by
  rw [← Int32.toInt_inj, Int32.toInt_div, kI_toInt ha, kI_toInt hb, kI_toInt (Nat.lt_of_le_of_lt (Nat.div_le_self _ _) ha)]
  show (Int.tdiv (Int.ofNat a) (Int.ofNat b)).bmod (2^32) = _
  have e : (Int.tdiv (Int.ofNat a) (Int.ofNat b)) = ((a / b : Nat) : Int) := rfl
  have h9 := Nat.div_le_self a b
  rw [e]
  generalize a / b = q at h9 ⊢
  rw [Int.bmod_eq_of_le (by omega) (by omega)]
theorem kI_rem {a b : Nat} (ha : a < 2147483648) (hb : b < 2147483648) : nI a - nI a / nI b * nI b = nI (a % b) := by
  rw [kI_div ha hb, kI_mul, kI_sub (by rw [Nat.mul_comm]; exact Nat.mul_div_le a b)]
  congr 1
  have := Nat.div_add_mod a b
  rw [Nat.mul_comm] at this
  omega

theorem z2_hit {α : Type} {f : Nat → Nat → α} {a j b i : Nat} {x : α} (h : b = a ∧ i = j) : z2 f a j x b i = x := by
  unfold z2; rw [if_pos h.1, if_pos h.2]
theorem z2_off {α : Type} {f : Nat → Nat → α} {a j b i : Nat} {x : α} (h : ¬ (b = a ∧ i = j)) : z2 f a j x b i = f b i := by
  unfold z2; split
  · rename_i h1
    rw [if_neg (fun h2 => h ⟨h1, h2⟩)]
  · rfl
theorem z2_at {α : Type} (f : Nat → Nat → α) (a j : Nat) (x : α) (b i : Nat) : z2 f a j x b i = if b = a ∧ i = j then x else f b i := by
  by_cases h : b = a ∧ i = j
  · rw [if_pos h, z2_hit h]
  · rw [if_neg h, z2_off h]
theorem zNar_b {x : Int32} : zNar .boolean x = true ↔ (x = 0 ∨ x = 1) := by simp only [zNar, Bool.or_eq_true, decide_eq_true_eq]

theorem i32_ext {x y : Int32} (h : x.toInt = y.toInt) : x = y := Int32.toInt_inj.mp h
theorem i32_add {x y : Int32} (h : -2147483648 ≤ x.toInt + y.toInt ∧ x.toInt + y.toInt < 2147483648) : (x + y).toInt = x.toInt + y.toInt := by
  rw [Int32.toInt_add, Int.bmod_eq_of_le (by omega) (by omega)]
theorem i32_sub {x y : Int32} (h : -2147483648 ≤ x.toInt - y.toInt ∧ x.toInt - y.toInt < 2147483648) : (x - y).toInt = x.toInt - y.toInt := by
  rw [Int32.toInt_sub, Int.bmod_eq_of_le (by omega) (by omega)]
theorem i32_neg {x : Int32} (h : -2147483648 < x.toInt) : (-x).toInt = -x.toInt := by
  have h1 := Int32.toInt_lt x
  rw [Int32.toInt_neg, Int.bmod_eq_of_le (by omega) (by omega)]
theorem i32_mul {x y : Int32} (h : -2147483648 ≤ x.toInt * y.toInt ∧ x.toInt * y.toInt < 2147483648) : (x * y).toInt = x.toInt * y.toInt := by
  rw [Int32.toInt_mul, Int.bmod_eq_of_le (by omega) (by omega)]
/-- the size of a number, as both sides have it -/
def wAbs (x : Int32) : Int32 := if x < 0 then -x else x
def wMax (x y : Int32) : Int32 := if x < y then y else x
def wMin (x y : Int32) : Int32 := if y < x then y else x
theorem wAbs_neg (x : Int32) : wAbs (-x) = wAbs x := by
  unfold wAbs
  have h0 : (0 : Int32).toInt = 0 := rfl
  by_cases hm : x.toInt = -2147483648
  · have e : x = Int32.ofInt (-2147483648) := i32_ext hm
    subst e; decide
  · have h1 := Int32.le_toInt x
    have h2 := i32_neg (x := x) (by omega)
    by_cases h : x < 0
    · rw [if_pos h, if_neg]
      rw [Int32.lt_iff_toInt_lt, h0] at *
      omega
    · rw [if_neg h]
      by_cases hz : x = 0
      · subst hz; decide
      · rw [if_pos, Int32.neg_neg]
        rw [Int32.lt_iff_toInt_lt, h0] at *
        have : x.toInt ≠ 0 := fun e => hz (i32_ext e)
        omega
theorem dLeT {a b : Nat} (h : a ≤ b) : (a ≤ b) = True := eq_true h
theorem dLeF {a b : Nat} (h : b < a) : (a ≤ b) = False := eq_false (by omega)
theorem dLtT {a b : Nat} (h : a < b) : (a < b) = True := eq_true h
theorem dLtF {a b : Nat} (h : b ≤ a) : (a < b) = False := eq_false (by omega)
theorem dEqT {a b : Nat} (h : a = b) : (a = b) = True := eq_true h
theorem dEqF {a b : Nat} (h : ¬ a = b) : (a = b) = False := eq_false h
theorem kI_sub_lt0 {a b : Nat} (h : a < b) (hb : b < 2147483648) : (nI a - nI b < nI 0) = True := by
  apply eq_true
  rw [Int32.lt_iff_toInt_lt, i32_sub (by rw [kI_toInt (by omega), kI_toInt (by omega)]; omega), kI_toInt (by omega), kI_toInt (by omega), kI_toInt (by omega)]
  omega
theorem kI_sub_add {a b c : Nat} (h : b ≤ a + c) : nI a - nI b + nI c = nI (a + c - b) := by
  have e : nI a - nI b + nI c = nI a + nI c - nI b := by grind
  rw [e, kI_add, kI_sub h]
theorem wM1_lt0 : (wM1 < nI 0) = True := eq_true (by decide)
theorem wM1_ge0 : (nI 0 ≤ wM1) = False := eq_false (by decide)
