/-! How far places can lie; longs. -/
theorem wXt_bd (d : Nat) : -1000 ≤ (wXt d).toInt ∧ (wXt d).toInt ≤ 1000 := by
  have h : ∀ e, e < 24 → -1000 ≤ (zXt e).toInt ∧ (zXt e).toInt ≤ 1000 := by decide +kernel
  exact h _ (Nat.mod_lt _ (by omega))
theorem wG_bd {l d : Nat} (hl : l ≤ 12) : -12000 ≤ (nI l * wXt d).toInt ∧ (nI l * wXt d).toInt ≤ 12000 := by
  have hx := wXt_bd d
  have e : (nI l).toInt = l := kI_toInt (by omega)
  have hp : -12000 ≤ (nI l).toInt * (wXt d).toInt ∧ (nI l).toInt * (wXt d).toInt ≤ 12000 := by
    rw [e]
    generalize (wXt d).toInt = u at *
    have hc : l = 0 ∨ l = 1 ∨ l = 2 ∨ l = 3 ∨ l = 4 ∨ l = 5 ∨ l = 6 ∨ l = 7 ∨ l = 8 ∨ l = 9 ∨ l = 10 ∨ l = 11 ∨ l = 12 := by omega
    rcases hc with rfl | rfl | rfl | rfl | rfl | rfl | rfl | rfl | rfl | rfl | rfl | rfl | rfl <;> constructor <;> omega
  rw [i32_mul (by omega)]
  exact hp
section PB
variable {s : wG} {a t : Nat}
theorem wPX_bd (hW : wW s) (ha : a < 12) : ∀ (k : Nat), k ≤ 20 → -(12000 * (k : Int)) ≤ (wPX s a k t).toInt ∧ (wPX s a k t).toInt ≤ 12000 * (k : Int) ∧ (k + 1 ≤ 20 → (wPX s a (k + 1) t).toInt = (wPX s a k t).toInt + (nI (wLn s (20 * a + k)) * wXt (wDr s (20 * a + k) + t)).toInt)
  | 0, _ => by
    have z : (wPX s a 0 t).toInt = 0 := rfl
    refine ⟨by omega, by omega, fun _ => ?_⟩
    have g := wG_bd (l := wLn s (20 * a + 0)) (d := wDr s (20 * a + 0) + t) (hW.len1 (by omega))
    show (wPX s a 0 t + nI (wLn s (20 * a + 0)) * wXt (wDr s (20 * a + 0) + t)).toInt = _
    rw [i32_add (by omega)]
  | k + 1, hk => by
    obtain ⟨h1, h2, h3⟩ := wPX_bd hW ha k (by omega)
    have g := wG_bd (l := wLn s (20 * a + k)) (d := wDr s (20 * a + k) + t) (hW.len1 (by omega))
    have e := h3 hk
    refine ⟨by omega, by omega, fun hk2 => ?_⟩
    have g2 := wG_bd (l := wLn s (20 * a + (k + 1))) (d := wDr s (20 * a + (k + 1)) + t) (hW.len1 (by omega))
    rw [wPX, i32_add (by omega)]
theorem wPY_bd (hW : wW s) (ha : a < 12) : ∀ (k : Nat), k ≤ 20 → -(12000 * (k : Int)) ≤ (wPY s a k t).toInt ∧ (wPY s a k t).toInt ≤ 12000 * (k : Int) ∧ (k + 1 ≤ 20 → (wPY s a (k + 1) t).toInt = (wPY s a k t).toInt + (nI (wLn s (20 * a + k)) * wXt (wDr s (20 * a + k) + t + 18)).toInt)
  | 0, _ => by
    have z : (wPY s a 0 t).toInt = 0 := rfl
    refine ⟨by omega, by omega, fun _ => ?_⟩
    have g := wG_bd (l := wLn s (20 * a + 0)) (d := wDr s (20 * a + 0) + t + 18) (hW.len1 (by omega))
    show (wPY s a 0 t + nI (wLn s (20 * a + 0)) * wXt (wDr s (20 * a + 0) + t + 18)).toInt = _
    rw [i32_add (by omega)]
  | k + 1, hk => by
    obtain ⟨h1, h2, h3⟩ := wPY_bd hW ha k (by omega)
    have g := wG_bd (l := wLn s (20 * a + k)) (d := wDr s (20 * a + k) + t + 18) (hW.len1 (by omega))
    have e := h3 hk
    refine ⟨by omega, by omega, fun hk2 => ?_⟩
    have g2 := wG_bd (l := wLn s (20 * a + (k + 1))) (d := wDr s (20 * a + (k + 1)) + t + 18) (hW.len1 (by omega))
    rw [wPY, i32_add (by omega)]
theorem i64_ext {x y : Int64} (h : x.toInt = y.toInt) : x = y := Int64.toInt_inj.mp h
theorem i64_add32 {x y : Int32} (h : -2147483648 ≤ x.toInt + y.toInt ∧ x.toInt + y.toInt < 2147483648) : (x + y).toInt64 = x.toInt64 + y.toInt64 := by
  apply i64_ext
  rw [Int32.toInt_toInt64, i32_add h, Int64.toInt_add, Int32.toInt_toInt64, Int32.toInt_toInt64, Int.bmod_eq_of_le (by omega) (by omega)]
theorem wPX_64 (hW : wW s) (ha : a < 12) {k : Nat} (hk : k + 1 ≤ 20) : (wPX s a (k + 1) t).toInt64 = (wPX s a k t).toInt64 + (nI (wLn s (20 * a + k)) * wXt (wDr s (20 * a + k) + t)).toInt64 := by
  have h := wPX_bd (t := t) hW ha k (by omega)
  have g := wG_bd (l := wLn s (20 * a + k)) (d := wDr s (20 * a + k) + t) (hW.len1 (by omega))
  rw [wPX, i64_add32 (by omega)]
theorem wPY_64 (hW : wW s) (ha : a < 12) {k : Nat} (hk : k + 1 ≤ 20) : (wPY s a (k + 1) t).toInt64 = (wPY s a k t).toInt64 + (nI (wLn s (20 * a + k)) * wXt (wDr s (20 * a + k) + t + 18)).toInt64 := by
  have h := wPY_bd (t := t) hW ha k (by omega)
  have g := wG_bd (l := wLn s (20 * a + k)) (d := wDr s (20 * a + k) + t + 18) (hW.len1 (by omega))
  rw [wPY, i64_add32 (by omega)]
/-- twice the area, signed, of the first k ways -/
def wAr (s : wG) (a t : Nat) : Nat → Int64
  | 0 => 0
  | k + 1 => wAr s a t k + ((wPX s a k t).toInt64 * (wPY s a (k + 1) t).toInt64 - (wPX s a (k + 1) t).toInt64 * (wPY s a k t).toInt64)
end PB
