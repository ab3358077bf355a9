/-! Memory of the fixed shape that the constructors leave: cells below 388; V holds what the class never writes but for kinds and the lists' orders. -/
abbrev wV : Type := (Nat × Nat) × (Nat × (Nat → Int32)) × (Nat → Nat → Int64) × (Nat → Nat) × (Nat → Nat) × (Nat → Nat)
def vL (V : wV) : Nat := V.2.1.1
def vX (V : wV) : Nat → Int32 := V.2.1.2
def vJ (V : wV) : Nat → Nat → Int64 := V.2.2.1
def vK (V : wV) : Nat → Nat := V.2.2.2.1
def vF (V : wV) : Nat → Nat := V.2.2.2.2.1
def vU (V : wV) : Nat → Nat := V.2.2.2.2.2
def wT (a : Nat) : Nat × Nat := if a = 0 then (0, 9) else if a = 1 then (4, 12) else if a = 2 then (5, 12) else if a = 3 then (1, 12) else if a = 4 then (0, 2) else if a = 5 then (6, 40) else if a = 46 then (0, 3) else if a = 52 then (0, 0) else if a = 53 then (1, 240) else if a = 54 then (1, 240) else if a = 55 then (1, 240) else if a = 56 then (0, 8) else if a = 57 then (7, 50) else if a = 108 then (0, 8) else if a = 109 then (7, 120) else if a = 232 then (0, 5) else if a = 233 then (1, 3) else if a = 354 then (0, 10) else if a = 47 then (1, 12) else if a = 48 then (1, 12) else if a = 49 then (1, 12) else if a = 50 then (1, 12) else if a = 51 then (1, 12) else if a = 355 then (1, 12) else if a = 356 then (1, 12) else if a = 357 then (2, 12) else if a = 358 then (1, 12) else if a = 359 then (1, 12) else if a = 360 then (1, 240) else if a = 361 then (1, 240) else if a = 362 then (2, 240) else if a = 363 then (1, 240) else if a = 364 then (1, 240) else if a = 365 then (2, 41) else if a = 366 then (1, 41) else if a = 367 then (1, 41) else if a = 368 then (1, 41) else if a = 369 then (1, 41) else if a = 370 then (1, 41) else if a = 371 then (1, 41) else if a = 372 then (2, 41) else if a = 373 then (1, 41) else if a = 374 then (1, 306) else if a = 375 then (1, 12) else if a = 376 then (2, 12) else if a = 377 then (1, 12) else if a = 378 then (2, 12) else if a = 379 then (1, 12) else if a = 380 then (1, 12) else if a = 381 then (1, 12) else if a = 382 then (1, 24) else if a = 383 then (1, 24) else if a = 384 then (1, 240) else if a = 385 then (1, 240) else if a = 386 then (1, 1928) else if a = 387 then (3, 1) else (0, 12)
def wS (L a : Nat) : Nat × Nat := if a < 388 then (if 234 ≤ a ∧ a < 354 then (if (a - 234) % 10 = 0 then (0, 6) else if (a - 234) % 10 = 5 then (2, 20) else if (a - 234) % 10 < 5 then (1, 20) else if (a - 234) % 10 = 6 then (0, 4) else (1, 21)) else if 6 ≤ a ∧ a < 46 then (0, 1) else if 58 ≤ a ∧ a < 232 ∧ a ≠ 108 ∧ a ≠ 109 then (0, 7) else wT a) else zgS L a
def wR0 (j : Nat) : Option Nat := if j = 0 then some 1 else if j = 1 then some 2 else if j = 2 then some 3 else if j = 3 then some 4 else if j = 4 then some 46 else if j = 5 then some 52 else if j = 6 then some 56 else if j = 7 then some 108 else if j = 8 then some 230 else if j = 9 then some 231 else if j = 10 then some 232 else if j = 11 then some 233 else none
def wR1 (j : Nat) : Option Nat := if j = 1 then some 355 else if j = 2 then some 356 else if j = 3 then some 357 else if j = 4 then some 358 else if j = 5 then some 359 else if j = 6 then some 360 else if j = 7 then some 361 else if j = 8 then some 362 else if j = 9 then some 363 else if j = 10 then some 364 else if j = 17 then some 365 else if j = 18 then some 366 else if j = 19 then some 367 else if j = 20 then some 368 else if j = 21 then some 369 else if j = 22 then some 370 else if j = 23 then some 371 else if j = 24 then some 372 else if j = 25 then some 373 else if j = 35 then some 374 else if j = 37 then some 375 else if j = 38 then some 376 else if j = 39 then some 377 else if j = 41 then some 378 else if j = 42 then some 379 else if j = 43 then some 380 else if j = 44 then some 381 else if j = 48 then some 382 else if j = 49 then some 383 else if j = 54 then some 384 else if j = 55 then some 385 else if j = 56 then some 386 else none
def wR (K F U : Nat → Nat) (a j : Nat) : Option Nat := if a < 388 then (if 234 ≤ a ∧ a < 354 then (if (a - 234) % 10 = 0 then (if 1 ≤ j ∧ j < 6 then some (a + j) else if j = 6 then some (1000000 + K ((a - 234) / 10)) else none) else if (a - 234) % 10 = 6 then (if j < 3 then some (a + 1 + j) else none) else none) else if a = 0 then wR0 j else if a = 1 then (if j < 12 then some (234 + 10 * j) else none) else if a = 2 then (if j < 12 then some (240 + 10 * j) else none) else if a = 4 then (if j = 0 then some 5 else none) else if a = 5 then (if j < 40 then some (6 + j) else none) else if a = 46 then (if j < 5 then some (47 + j) else none) else if a = 52 then (if j < 3 then some (53 + j) else none) else if a = 56 then (if j = 0 then some 57 else none) else if a = 57 then (if j < 50 then some (F j) else none) else if a = 108 then (if j = 0 then some 109 else none) else if a = 109 then (if j < 120 then some (U j) else none) else if a = 354 then wR1 j else none) else zgP a j
def wI (xs : Nat → Int32) (I : Nat → Nat → Int32) (a j : Nat) : Int32 := if a < 388 then I a j else zgI xs a j
def wm (V : wV) (I : Nat → Nat → Int32) : zM := (388, V.1, wS (vL V), wI (vX V) I, vJ V, wR (vK V) (vF V) (vU V))
theorem some_ne {x : Nat} {o : Option Nat} (h : o = some x) : ¬ o = none := by rw [h]; exact fun h => nomatch h
section WM
variable {V : wV} {I : Nat → Nat → Int32} {a j : Nat}
theorem wm_N : zN (wm V I) = 388 := rfl
theorem wm_S : zS (wm V I) a = wS (vL V) a := rfl
theorem wm_P : zP (wm V I) a j = wR (vK V) (vF V) (vU V) a j := rfl
theorem wm_I (h : a < 388) : zI (wm V I) a j = I a j := by show wI (vX V) I a j = _; unfold wI; rw [if_pos h]
theorem wm_X : zI (wm V I) 1000006 j = zXt j := rfl
theorem wm_K {k : Nat} (h : k < 6) : zI (wm V I) (1000000 + k) j = zKc k j := by show wI (vX V) I (1000000 + k) j = _; unfold wI zgI; rw [if_neg (by omega), if_pos (by omega), show 1000000 + k - 1000000 = k by omega]
theorem wm_xs : zI (wm V I) 1000008 j = vX V j := rfl
theorem wm_WI {x : Int32} (h : a < 388) : zWI (wm V I) a j x = wm V (z2 I a j x) := by
  have e : z2 (wI (vX V) I) a j x = wI (vX V) (z2 I a j x) := by
    funext b i; unfold z2 wI; by_cases hb : b < 388
    · simp only [if_pos hb]
    · rw [if_neg hb, if_neg hb, if_neg (by omega)]
  show (388, V.1, wS (vL V), z2 (wI (vX V) I) a j x, vJ V, wR (vK V) (vF V) (vU V)) = wm V (z2 I a j x)
  rw [e]; rfl
theorem wS_0 {L : Nat} (h : a = 52) : wS L a = (0, 0) := by subst h; rfl
theorem wS_1 {L : Nat} (h : 6 ≤ a ∧ a < 46) : wS L a = (0, 1) := by unfold wS; rw [if_pos (by omega), if_neg (by omega), if_pos (by omega)]
theorem wS_2 {L : Nat} (h : a = 4) : wS L a = (0, 2) := by subst h; rfl
theorem wS_3 {L : Nat} (h : a = 46) : wS L a = (0, 3) := by subst h; rfl
theorem wS_4 {L : Nat} (h : 240 ≤ a ∧ a < 354 ∧ (a - 234) % 10 = 6) : wS L a = (0, 4) := by unfold wS; rw [if_pos (by omega), if_pos (by omega), if_neg (by omega), if_neg (by omega), if_neg (by omega), if_pos (by omega)]
theorem wS_5 {L : Nat} (h : a = 232) : wS L a = (0, 5) := by subst h; rfl
theorem wS_6 {L : Nat} (h : 234 ≤ a ∧ a < 354 ∧ (a - 234) % 10 = 0) : wS L a = (0, 6) := by unfold wS; rw [if_pos (by omega), if_pos (by omega), if_pos (by omega)]
theorem wS_7 {L : Nat} (h : 58 ≤ a ∧ a < 232 ∧ a ≠ 108 ∧ a ≠ 109) : wS L a = (0, 7) := by unfold wS; rw [if_pos (by omega), if_neg (by omega), if_neg (by omega), if_pos h]
theorem wS_8 {L : Nat} (h : a = 56 ∨ a = 108) : wS L a = (0, 8) := by rcases h with rfl | rfl <;> rfl
theorem wS_9 {L : Nat} (h : a = 0) : wS L a = (0, 9) := by subst h; rfl
theorem wS_10 {L : Nat} (h : a = 354) : wS L a = (0, 10) := by subst h; rfl
theorem wS_11 {L : Nat} (h : 1000000 ≤ a ∧ a < 1000006) : wS L a = (0, 11) := by unfold wS zgS; rw [if_neg (by omega), if_pos (by omega)]
theorem wR_9_0 {K F U : Nat → Nat} (h : a = 0) : ¬ wR K F U a 0 = none := by subst h; exact some_ne (x := 1) rfl
theorem wR_9_1 {K F U : Nat → Nat} (h : a = 0) : ¬ wR K F U a 1 = none := by subst h; exact some_ne (x := 2) rfl
theorem wR_9_2 {K F U : Nat → Nat} (h : a = 0) : ¬ wR K F U a 2 = none := by subst h; exact some_ne (x := 3) rfl
theorem wR_9_3 {K F U : Nat → Nat} (h : a = 0) : ¬ wR K F U a 3 = none := by subst h; exact some_ne (x := 4) rfl
theorem wR_9_4 {K F U : Nat → Nat} (h : a = 0) : ¬ wR K F U a 4 = none := by subst h; exact some_ne (x := 46) rfl
theorem wR_9_5 {K F U : Nat → Nat} (h : a = 0) : ¬ wR K F U a 5 = none := by subst h; exact some_ne (x := 52) rfl
theorem wR_9_6 {K F U : Nat → Nat} (h : a = 0) : ¬ wR K F U a 6 = none := by subst h; exact some_ne (x := 56) rfl
theorem wR_9_7 {K F U : Nat → Nat} (h : a = 0) : ¬ wR K F U a 7 = none := by subst h; exact some_ne (x := 108) rfl
theorem wR_9_8 {K F U : Nat → Nat} (h : a = 0) : ¬ wR K F U a 8 = none := by subst h; exact some_ne (x := 230) rfl
theorem wR_9_9 {K F U : Nat → Nat} (h : a = 0) : ¬ wR K F U a 9 = none := by subst h; exact some_ne (x := 231) rfl
theorem wR_9_10 {K F U : Nat → Nat} (h : a = 0) : ¬ wR K F U a 10 = none := by subst h; exact some_ne (x := 232) rfl
theorem wR_9_11 {K F U : Nat → Nat} (h : a = 0) : ¬ wR K F U a 11 = none := by subst h; exact some_ne (x := 233) rfl
theorem wR_10_1 {K F U : Nat → Nat} (h : a = 354) : ¬ wR K F U a 1 = none := by subst h; exact some_ne (x := 355) rfl
theorem wR_10_2 {K F U : Nat → Nat} (h : a = 354) : ¬ wR K F U a 2 = none := by subst h; exact some_ne (x := 356) rfl
theorem wR_10_3 {K F U : Nat → Nat} (h : a = 354) : ¬ wR K F U a 3 = none := by subst h; exact some_ne (x := 357) rfl
theorem wR_10_4 {K F U : Nat → Nat} (h : a = 354) : ¬ wR K F U a 4 = none := by subst h; exact some_ne (x := 358) rfl
theorem wR_10_5 {K F U : Nat → Nat} (h : a = 354) : ¬ wR K F U a 5 = none := by subst h; exact some_ne (x := 359) rfl
theorem wR_10_6 {K F U : Nat → Nat} (h : a = 354) : ¬ wR K F U a 6 = none := by subst h; exact some_ne (x := 360) rfl
theorem wR_10_7 {K F U : Nat → Nat} (h : a = 354) : ¬ wR K F U a 7 = none := by subst h; exact some_ne (x := 361) rfl
theorem wR_10_8 {K F U : Nat → Nat} (h : a = 354) : ¬ wR K F U a 8 = none := by subst h; exact some_ne (x := 362) rfl
theorem wR_10_9 {K F U : Nat → Nat} (h : a = 354) : ¬ wR K F U a 9 = none := by subst h; exact some_ne (x := 363) rfl
theorem wR_10_10 {K F U : Nat → Nat} (h : a = 354) : ¬ wR K F U a 10 = none := by subst h; exact some_ne (x := 364) rfl
theorem wR_10_17 {K F U : Nat → Nat} (h : a = 354) : ¬ wR K F U a 17 = none := by subst h; exact some_ne (x := 365) rfl
theorem wR_10_18 {K F U : Nat → Nat} (h : a = 354) : ¬ wR K F U a 18 = none := by subst h; exact some_ne (x := 366) rfl
theorem wR_10_19 {K F U : Nat → Nat} (h : a = 354) : ¬ wR K F U a 19 = none := by subst h; exact some_ne (x := 367) rfl
theorem wR_10_20 {K F U : Nat → Nat} (h : a = 354) : ¬ wR K F U a 20 = none := by subst h; exact some_ne (x := 368) rfl
theorem wR_10_21 {K F U : Nat → Nat} (h : a = 354) : ¬ wR K F U a 21 = none := by subst h; exact some_ne (x := 369) rfl
theorem wR_10_22 {K F U : Nat → Nat} (h : a = 354) : ¬ wR K F U a 22 = none := by subst h; exact some_ne (x := 370) rfl
theorem wR_10_23 {K F U : Nat → Nat} (h : a = 354) : ¬ wR K F U a 23 = none := by subst h; exact some_ne (x := 371) rfl
theorem wR_10_24 {K F U : Nat → Nat} (h : a = 354) : ¬ wR K F U a 24 = none := by subst h; exact some_ne (x := 372) rfl
theorem wR_10_25 {K F U : Nat → Nat} (h : a = 354) : ¬ wR K F U a 25 = none := by subst h; exact some_ne (x := 373) rfl
theorem wR_10_35 {K F U : Nat → Nat} (h : a = 354) : ¬ wR K F U a 35 = none := by subst h; exact some_ne (x := 374) rfl
theorem wR_10_37 {K F U : Nat → Nat} (h : a = 354) : ¬ wR K F U a 37 = none := by subst h; exact some_ne (x := 375) rfl
theorem wR_10_38 {K F U : Nat → Nat} (h : a = 354) : ¬ wR K F U a 38 = none := by subst h; exact some_ne (x := 376) rfl
theorem wR_10_39 {K F U : Nat → Nat} (h : a = 354) : ¬ wR K F U a 39 = none := by subst h; exact some_ne (x := 377) rfl
theorem wR_10_41 {K F U : Nat → Nat} (h : a = 354) : ¬ wR K F U a 41 = none := by subst h; exact some_ne (x := 378) rfl
theorem wR_10_42 {K F U : Nat → Nat} (h : a = 354) : ¬ wR K F U a 42 = none := by subst h; exact some_ne (x := 379) rfl
theorem wR_10_43 {K F U : Nat → Nat} (h : a = 354) : ¬ wR K F U a 43 = none := by subst h; exact some_ne (x := 380) rfl
theorem wR_10_44 {K F U : Nat → Nat} (h : a = 354) : ¬ wR K F U a 44 = none := by subst h; exact some_ne (x := 381) rfl
theorem wR_10_48 {K F U : Nat → Nat} (h : a = 354) : ¬ wR K F U a 48 = none := by subst h; exact some_ne (x := 382) rfl
theorem wR_10_49 {K F U : Nat → Nat} (h : a = 354) : ¬ wR K F U a 49 = none := by subst h; exact some_ne (x := 383) rfl
theorem wR_10_54 {K F U : Nat → Nat} (h : a = 354) : ¬ wR K F U a 54 = none := by subst h; exact some_ne (x := 384) rfl
theorem wR_10_55 {K F U : Nat → Nat} (h : a = 354) : ¬ wR K F U a 55 = none := by subst h; exact some_ne (x := 385) rfl
theorem wR_10_56 {K F U : Nat → Nat} (h : a = 354) : ¬ wR K F U a 56 = none := by subst h; exact some_ne (x := 386) rfl
theorem wR_2_0 {K F U : Nat → Nat} (h : a = 4) : ¬ wR K F U a 0 = none := by subst h; exact some_ne (x := 5) rfl
theorem wR_3_0 {K F U : Nat → Nat} (h : a = 46) : ¬ wR K F U a 0 = none := by subst h; exact some_ne (x := 47) rfl
theorem wR_3_1 {K F U : Nat → Nat} (h : a = 46) : ¬ wR K F U a 1 = none := by subst h; exact some_ne (x := 48) rfl
theorem wR_3_2 {K F U : Nat → Nat} (h : a = 46) : ¬ wR K F U a 2 = none := by subst h; exact some_ne (x := 49) rfl
theorem wR_3_3 {K F U : Nat → Nat} (h : a = 46) : ¬ wR K F U a 3 = none := by subst h; exact some_ne (x := 50) rfl
theorem wR_3_4 {K F U : Nat → Nat} (h : a = 46) : ¬ wR K F U a 4 = none := by subst h; exact some_ne (x := 51) rfl
theorem wR_0_0 {K F U : Nat → Nat} (h : a = 52) : ¬ wR K F U a 0 = none := by subst h; exact some_ne (x := 53) rfl
theorem wR_0_1 {K F U : Nat → Nat} (h : a = 52) : ¬ wR K F U a 1 = none := by subst h; exact some_ne (x := 54) rfl
theorem wR_0_2 {K F U : Nat → Nat} (h : a = 52) : ¬ wR K F U a 2 = none := by subst h; exact some_ne (x := 55) rfl
theorem wR_8_0 {K F U : Nat → Nat} (h : a = 56 ∨ a = 108) : ¬ wR K F U a 0 = none := by rcases h with rfl | rfl; exact some_ne (x := 57) rfl; exact some_ne (x := 109) rfl
theorem wS6_1 {K F U : Nat → Nat} (h : 234 ≤ a ∧ a < 354 ∧ (a - 234) % 10 = 0) : wR K F U a 1 = some (a + 1) := by unfold wR; rw [if_pos (by omega), if_pos (by omega), if_pos (by omega)]; rfl
theorem wR_6_1 {K F U : Nat → Nat} (h : 234 ≤ a ∧ a < 354 ∧ (a - 234) % 10 = 0) : ¬ wR K F U a 1 = none := by rw [wS6_1 h]; exact some_ne rfl
theorem wS6_2 {K F U : Nat → Nat} (h : 234 ≤ a ∧ a < 354 ∧ (a - 234) % 10 = 0) : wR K F U a 2 = some (a + 2) := by unfold wR; rw [if_pos (by omega), if_pos (by omega), if_pos (by omega)]; rfl
theorem wR_6_2 {K F U : Nat → Nat} (h : 234 ≤ a ∧ a < 354 ∧ (a - 234) % 10 = 0) : ¬ wR K F U a 2 = none := by rw [wS6_2 h]; exact some_ne rfl
theorem wS6_3 {K F U : Nat → Nat} (h : 234 ≤ a ∧ a < 354 ∧ (a - 234) % 10 = 0) : wR K F U a 3 = some (a + 3) := by unfold wR; rw [if_pos (by omega), if_pos (by omega), if_pos (by omega)]; rfl
theorem wR_6_3 {K F U : Nat → Nat} (h : 234 ≤ a ∧ a < 354 ∧ (a - 234) % 10 = 0) : ¬ wR K F U a 3 = none := by rw [wS6_3 h]; exact some_ne rfl
theorem wS6_4 {K F U : Nat → Nat} (h : 234 ≤ a ∧ a < 354 ∧ (a - 234) % 10 = 0) : wR K F U a 4 = some (a + 4) := by unfold wR; rw [if_pos (by omega), if_pos (by omega), if_pos (by omega)]; rfl
theorem wR_6_4 {K F U : Nat → Nat} (h : 234 ≤ a ∧ a < 354 ∧ (a - 234) % 10 = 0) : ¬ wR K F U a 4 = none := by rw [wS6_4 h]; exact some_ne rfl
theorem wS6_5 {K F U : Nat → Nat} (h : 234 ≤ a ∧ a < 354 ∧ (a - 234) % 10 = 0) : wR K F U a 5 = some (a + 5) := by unfold wR; rw [if_pos (by omega), if_pos (by omega), if_pos (by omega)]; rfl
theorem wR_6_5 {K F U : Nat → Nat} (h : 234 ≤ a ∧ a < 354 ∧ (a - 234) % 10 = 0) : ¬ wR K F U a 5 = none := by rw [wS6_5 h]; exact some_ne rfl
theorem wS6_6 {K F U : Nat → Nat} (h : 234 ≤ a ∧ a < 354 ∧ (a - 234) % 10 = 0) : wR K F U a 6 = some (1000000 + K ((a - 234) / 10)) := by unfold wR; rw [if_pos (by omega), if_pos (by omega), if_pos (by omega)]; rfl
theorem wR_6_6 {K F U : Nat → Nat} (h : 234 ≤ a ∧ a < 354 ∧ (a - 234) % 10 = 0) : ¬ wR K F U a 6 = none := by rw [wS6_6 h]; exact some_ne rfl
theorem wS4_0 {K F U : Nat → Nat} (h : 240 ≤ a ∧ a < 354 ∧ (a - 234) % 10 = 6) : wR K F U a 0 = some (a + 1) := by unfold wR; rw [if_pos (by omega), if_pos (by omega), if_neg (by omega), if_pos (by omega)]; rfl
theorem wR_4_0 {K F U : Nat → Nat} (h : 240 ≤ a ∧ a < 354 ∧ (a - 234) % 10 = 6) : ¬ wR K F U a 0 = none := by rw [wS4_0 h]; exact some_ne rfl
theorem wS4_1 {K F U : Nat → Nat} (h : 240 ≤ a ∧ a < 354 ∧ (a - 234) % 10 = 6) : wR K F U a 1 = some (a + 2) := by unfold wR; rw [if_pos (by omega), if_pos (by omega), if_neg (by omega), if_pos (by omega)]; rfl
theorem wR_4_1 {K F U : Nat → Nat} (h : 240 ≤ a ∧ a < 354 ∧ (a - 234) % 10 = 6) : ¬ wR K F U a 1 = none := by rw [wS4_1 h]; exact some_ne rfl
theorem wS4_2 {K F U : Nat → Nat} (h : 240 ≤ a ∧ a < 354 ∧ (a - 234) % 10 = 6) : wR K F U a 2 = some (a + 3) := by unfold wR; rw [if_pos (by omega), if_pos (by omega), if_neg (by omega), if_pos (by omega)]; rfl
theorem wR_4_2 {K F U : Nat → Nat} (h : 240 ≤ a ∧ a < 354 ∧ (a - 234) % 10 = 6) : ¬ wR K F U a 2 = none := by rw [wS4_2 h]; exact some_ne rfl
theorem q0_0 : zQ (wm V I) 0 0 = 1 := rfl
theorem q0_1 : zQ (wm V I) 0 1 = 2 := rfl
theorem q0_2 : zQ (wm V I) 0 2 = 3 := rfl
theorem q0_3 : zQ (wm V I) 0 3 = 4 := rfl
theorem q0_4 : zQ (wm V I) 0 4 = 46 := rfl
theorem q0_5 : zQ (wm V I) 0 5 = 52 := rfl
theorem q0_6 : zQ (wm V I) 0 6 = 56 := rfl
theorem q0_7 : zQ (wm V I) 0 7 = 108 := rfl
theorem q0_8 : zQ (wm V I) 0 8 = 230 := rfl
theorem q0_9 : zQ (wm V I) 0 9 = 231 := rfl
theorem q0_10 : zQ (wm V I) 0 10 = 232 := rfl
theorem q0_11 : zQ (wm V I) 0 11 = 233 := rfl
theorem q354_1 : zQ (wm V I) 354 1 = 355 := rfl
theorem q354_2 : zQ (wm V I) 354 2 = 356 := rfl
theorem q354_3 : zQ (wm V I) 354 3 = 357 := rfl
theorem q354_4 : zQ (wm V I) 354 4 = 358 := rfl
theorem q354_5 : zQ (wm V I) 354 5 = 359 := rfl
theorem q354_6 : zQ (wm V I) 354 6 = 360 := rfl
theorem q354_7 : zQ (wm V I) 354 7 = 361 := rfl
theorem q354_8 : zQ (wm V I) 354 8 = 362 := rfl
theorem q354_9 : zQ (wm V I) 354 9 = 363 := rfl
theorem q354_10 : zQ (wm V I) 354 10 = 364 := rfl
theorem q354_17 : zQ (wm V I) 354 17 = 365 := rfl
theorem q354_18 : zQ (wm V I) 354 18 = 366 := rfl
theorem q354_19 : zQ (wm V I) 354 19 = 367 := rfl
theorem q354_20 : zQ (wm V I) 354 20 = 368 := rfl
theorem q354_21 : zQ (wm V I) 354 21 = 369 := rfl
theorem q354_22 : zQ (wm V I) 354 22 = 370 := rfl
theorem q354_23 : zQ (wm V I) 354 23 = 371 := rfl
theorem q354_24 : zQ (wm V I) 354 24 = 372 := rfl
theorem q354_25 : zQ (wm V I) 354 25 = 373 := rfl
theorem q354_35 : zQ (wm V I) 354 35 = 374 := rfl
theorem q354_37 : zQ (wm V I) 354 37 = 375 := rfl
theorem q354_38 : zQ (wm V I) 354 38 = 376 := rfl
theorem q354_39 : zQ (wm V I) 354 39 = 377 := rfl
theorem q354_41 : zQ (wm V I) 354 41 = 378 := rfl
theorem q354_42 : zQ (wm V I) 354 42 = 379 := rfl
theorem q354_43 : zQ (wm V I) 354 43 = 380 := rfl
theorem q354_44 : zQ (wm V I) 354 44 = 381 := rfl
theorem q354_48 : zQ (wm V I) 354 48 = 382 := rfl
theorem q354_49 : zQ (wm V I) 354 49 = 383 := rfl
theorem q354_54 : zQ (wm V I) 354 54 = 384 := rfl
theorem q354_55 : zQ (wm V I) 354 55 = 385 := rfl
theorem q354_56 : zQ (wm V I) 354 56 = 386 := rfl
theorem q4_0 : zQ (wm V I) 4 0 = 5 := rfl
theorem q46_0 : zQ (wm V I) 46 0 = 47 := rfl
theorem q46_1 : zQ (wm V I) 46 1 = 48 := rfl
theorem q46_2 : zQ (wm V I) 46 2 = 49 := rfl
theorem q46_3 : zQ (wm V I) 46 3 = 50 := rfl
theorem q46_4 : zQ (wm V I) 46 4 = 51 := rfl
theorem q52_0 : zQ (wm V I) 52 0 = 53 := rfl
theorem q52_1 : zQ (wm V I) 52 1 = 54 := rfl
theorem q52_2 : zQ (wm V I) 52 2 = 55 := rfl
theorem q56_0 : zQ (wm V I) 56 0 = 57 := rfl
theorem q108_0 : zQ (wm V I) 108 0 = 109 := rfl
theorem q6_1 {s : Nat} (h : s < 12) : zQ (wm V I) (234 + 10 * s) 1 = 234 + 10 * s + 1 := by unfold zQ; rw [wm_P, wS6_1 (by omega)]; rfl
theorem q6_2 {s : Nat} (h : s < 12) : zQ (wm V I) (234 + 10 * s) 2 = 234 + 10 * s + 2 := by unfold zQ; rw [wm_P, wS6_2 (by omega)]; rfl
theorem q6_3 {s : Nat} (h : s < 12) : zQ (wm V I) (234 + 10 * s) 3 = 234 + 10 * s + 3 := by unfold zQ; rw [wm_P, wS6_3 (by omega)]; rfl
theorem q6_4 {s : Nat} (h : s < 12) : zQ (wm V I) (234 + 10 * s) 4 = 234 + 10 * s + 4 := by unfold zQ; rw [wm_P, wS6_4 (by omega)]; rfl
theorem q6_5 {s : Nat} (h : s < 12) : zQ (wm V I) (234 + 10 * s) 5 = 234 + 10 * s + 5 := by unfold zQ; rw [wm_P, wS6_5 (by omega)]; rfl
theorem q6_6 {s : Nat} (h : s < 12) : zQ (wm V I) (234 + 10 * s) 6 = 1000000 + vK V s := by unfold zQ; rw [wm_P, wS6_6 (by omega), show (234 + 10 * s - 234) / 10 = s by omega]; rfl
theorem q4x_0 {s : Nat} (h : s < 12) : zQ (wm V I) (240 + 10 * s) 0 = 240 + 10 * s + 1 := by unfold zQ; rw [wm_P, wS4_0 (by omega)]; rfl
theorem q4x_1 {s : Nat} (h : s < 12) : zQ (wm V I) (240 + 10 * s) 1 = 240 + 10 * s + 2 := by unfold zQ; rw [wm_P, wS4_1 (by omega)]; rfl
theorem q4x_2 {s : Nat} (h : s < 12) : zQ (wm V I) (240 + 10 * s) 2 = 240 + 10 * s + 3 := by unfold zQ; rw [wm_P, wS4_2 (by omega)]; rfl
theorem q1 (h : j < 12) : zQ (wm V I) 1 j = 234 + 10 * j := by show (if j < 12 then some (234 + 10 * j) else none).getD 0 = _; rw [if_pos h]; rfl
theorem q2 (h : j < 12) : zQ (wm V I) 2 j = 240 + 10 * j := by show (if j < 12 then some (240 + 10 * j) else none).getD 0 = _; rw [if_pos h]; rfl
theorem q5 (h : j < 40) : zQ (wm V I) 5 j = 6 + j := by show (if j < 40 then some (6 + j) else none).getD 0 = _; rw [if_pos h]; rfl
theorem q57 (h : j < 50) : zQ (wm V I) 57 j = vF V j := by show (if j < 50 then some (vF V j) else none).getD 0 = _; rw [if_pos h]; rfl
theorem q109 (h : j < 120) : zQ (wm V I) 109 j = vU V j := by show (if j < 120 then some (vU V j) else none).getD 0 = _; rw [if_pos h]; rfl
theorem q1000007 (h : j < 6) : zQ (wm V I) 1000007 j = 1000000 + j := by show (if j < 6 then some (1000000 + j) else none).getD 0 = _; rw [if_pos h]; rfl
theorem mkI {o k c : Nat} (hs : wS (vL V) a = (0, c)) (ha : a < 388) (hf : zFld o k c = some (j, false)) : zHasI o k a (wm V I) j := ⟨ha, c, hs, hf⟩
theorem mkQ {o k c : Nat} (hs : wS (vL V) a = (0, c)) (ha : a < 388) (hf : zFld o k c = some (j, true)) (hr : ¬ wR (vK V) (vF V) (vU V) a j = none) : zHasQ o k a (wm V I) j := ⟨ha, ⟨c, hs, hf⟩, hr⟩
theorem mkV {y k c : Nat} (hs : wS (vL V) a = (0, c)) (ha : a < 388) (hf : zFld (zO y) k c = some (j, true)) (hn : zFin y c j = true) : zPutQ y k a (wm V I) j := ⟨ha, c, hs, hf, hn⟩
theorem zNar_int {t : FieldType} {x : Int32} (h : (decide (t = .boolean)) = false) : zNar t x = true := by cases t <;> first | rfl | cases h
theorem mkW {y k c : Nat} {x : Int32} (hs : wS (vL V) a = (0, c)) (ha : a < 388) (hf : zFld (zO y) k c = some (j, false)) (ht : (decide (zTy c j = .boolean)) = false) (hn : zFin y c j = true) : zPutI y k a (wm V I) j x := ⟨ha, c, hs, hf, zNar_int ht, hn⟩
theorem mkWb {y k c : Nat} {x : Int32} (hs : wS (vL V) a = (0, c)) (ha : a < 388) (hf : zFld (zO y) k c = some (j, false)) (ht : (decide (zTy c j = .boolean)) = true) (hn : zFin y c j = true) : zPutI y k a (wm V I) j x ↔ (x = 0 ∨ x = 1) := by
  constructor
  · rintro ⟨_, c1, h1, h2, h3, _⟩
    have e : (0, c) = (0, c1) := hs.symm.trans h1
    cases e
    rw [of_decide_eq_true ht] at h3
    simpa only [zNar, Bool.or_eq_true, decide_eq_true_eq] using h3
  · intro h
    exact ⟨ha, c, hs, hf, by rw [of_decide_eq_true ht]; simpa only [zNar, Bool.or_eq_true, decide_eq_true_eq] using h, hn⟩
theorem mkC {y k c z np : Nat} (hs : wS (vL V) a = (0, c)) (ha : (a < 388 ∧ c < 11) ∨ (1000000 ≤ a ∧ a < 1000006 ∧ c = 11)) (he : ((zCal (zO y) k c).any fun e => decide (e.2.2.2.2.1 = np) && decide (e.2.2.2.1 = z) && (decide (e.2.2.1 = 0) || decide (e.2.2.1 = 1))) = true) : zHasC y k a (wm V I) z np := by
  cases hc : zCal (zO y) k c with
  | none => rw [hc] at he; cases he
  | some e =>
    rw [hc] at he
    simp only [Option.any_some, Bool.and_eq_true, Bool.or_eq_true, decide_eq_true_eq] at he
    exact ⟨c, e, hs, hc, he.1.1, he.1.2, he.2, ha⟩
theorem mkF {y k c z np : Nat} (hs : wS (vL V) a = (0, c)) (ha : a < 388) (hc : c < 11) (he : ((zCal (zO y) k c).any fun e => decide (e.2.2.2.2.1 = np) && decide (e.2.2.2.1 = z) && decide (e.2.2.1 = 6)) = true) : zHasF y k a (wm V I) c z np := by
  cases hc : zCal (zO y) k c with
  | none => rw [hc] at he; cases he
  | some e =>
    rw [hc] at he
    simp only [Option.any_some, Bool.and_eq_true, decide_eq_true_eq] at he
    exact ⟨hs, ha, by assumption, e, hc, he.1.1, he.1.2, he.2⟩
theorem wm_HK (h : 1000000 ≤ a ∧ a < 1000006) : zHasK a (wm V I) := ⟨wS_11 h, h.1⟩
theorem win_nI {i n : Nat} (h : i < n) (hn : n ≤ 2147483648) : zin (nI i) n = true := by
  unfold zin
  have e : (nI i).toNatClampNeg = i := Int32.toNatClampNeg_ofNat_of_lt (by omega)
  have e2 : ¬ nI i < 0 := by rw [Int32.lt_iff_toInt_lt]; have : (nI i).toInt = i := Int32.toInt_ofNat_of_lt (by omega); rw [this]; show ¬ (i : Int) < 0; omega
  rw [e, decide_eq_false e2, decide_eq_false (by omega)]; rfl
theorem oI_3 {i : Nat} (h : i < 12) : zOkI 3 (nI i) (wm V I) := ⟨⟨12, rfl, win_nI h (by omega)⟩, Or.inl (by show 3 < 388; omega)⟩
theorem oT_3 {i : Nat} (h : i < 12) : zOkT 1 3 (nI i) (wm V I) := ⟨⟨12, rfl, win_nI h (by omega)⟩, by show 3 < 388; omega⟩
theorem oI_47 {i : Nat} (h : i < 12) : zOkI 47 (nI i) (wm V I) := ⟨⟨12, rfl, win_nI h (by omega)⟩, Or.inl (by show 47 < 388; omega)⟩
theorem oT_47 {i : Nat} (h : i < 12) : zOkT 1 47 (nI i) (wm V I) := ⟨⟨12, rfl, win_nI h (by omega)⟩, by show 47 < 388; omega⟩
theorem oI_48 {i : Nat} (h : i < 12) : zOkI 48 (nI i) (wm V I) := ⟨⟨12, rfl, win_nI h (by omega)⟩, Or.inl (by show 48 < 388; omega)⟩
theorem oT_48 {i : Nat} (h : i < 12) : zOkT 1 48 (nI i) (wm V I) := ⟨⟨12, rfl, win_nI h (by omega)⟩, by show 48 < 388; omega⟩
theorem oI_49 {i : Nat} (h : i < 12) : zOkI 49 (nI i) (wm V I) := ⟨⟨12, rfl, win_nI h (by omega)⟩, Or.inl (by show 49 < 388; omega)⟩
theorem oT_49 {i : Nat} (h : i < 12) : zOkT 1 49 (nI i) (wm V I) := ⟨⟨12, rfl, win_nI h (by omega)⟩, by show 49 < 388; omega⟩
theorem oI_50 {i : Nat} (h : i < 12) : zOkI 50 (nI i) (wm V I) := ⟨⟨12, rfl, win_nI h (by omega)⟩, Or.inl (by show 50 < 388; omega)⟩
theorem oT_50 {i : Nat} (h : i < 12) : zOkT 1 50 (nI i) (wm V I) := ⟨⟨12, rfl, win_nI h (by omega)⟩, by show 50 < 388; omega⟩
theorem oI_51 {i : Nat} (h : i < 12) : zOkI 51 (nI i) (wm V I) := ⟨⟨12, rfl, win_nI h (by omega)⟩, Or.inl (by show 51 < 388; omega)⟩
theorem oT_51 {i : Nat} (h : i < 12) : zOkT 1 51 (nI i) (wm V I) := ⟨⟨12, rfl, win_nI h (by omega)⟩, by show 51 < 388; omega⟩
theorem oI_53 {i : Nat} (h : i < 240) : zOkI 53 (nI i) (wm V I) := ⟨⟨240, rfl, win_nI h (by omega)⟩, Or.inl (by show 53 < 388; omega)⟩
theorem oT_53 {i : Nat} (h : i < 240) : zOkT 1 53 (nI i) (wm V I) := ⟨⟨240, rfl, win_nI h (by omega)⟩, by show 53 < 388; omega⟩
theorem oI_54 {i : Nat} (h : i < 240) : zOkI 54 (nI i) (wm V I) := ⟨⟨240, rfl, win_nI h (by omega)⟩, Or.inl (by show 54 < 388; omega)⟩
theorem oT_54 {i : Nat} (h : i < 240) : zOkT 1 54 (nI i) (wm V I) := ⟨⟨240, rfl, win_nI h (by omega)⟩, by show 54 < 388; omega⟩
theorem oI_55 {i : Nat} (h : i < 240) : zOkI 55 (nI i) (wm V I) := ⟨⟨240, rfl, win_nI h (by omega)⟩, Or.inl (by show 55 < 388; omega)⟩
theorem oT_55 {i : Nat} (h : i < 240) : zOkT 1 55 (nI i) (wm V I) := ⟨⟨240, rfl, win_nI h (by omega)⟩, by show 55 < 388; omega⟩
theorem oI_233 {i : Nat} (h : i < 3) : zOkI 233 (nI i) (wm V I) := ⟨⟨3, rfl, win_nI h (by omega)⟩, Or.inl (by show 233 < 388; omega)⟩
theorem oT_233 {i : Nat} (h : i < 3) : zOkT 1 233 (nI i) (wm V I) := ⟨⟨3, rfl, win_nI h (by omega)⟩, by show 233 < 388; omega⟩
theorem oI_355 {i : Nat} (h : i < 12) : zOkI 355 (nI i) (wm V I) := ⟨⟨12, rfl, win_nI h (by omega)⟩, Or.inl (by show 355 < 388; omega)⟩
theorem oT_355 {i : Nat} (h : i < 12) : zOkT 1 355 (nI i) (wm V I) := ⟨⟨12, rfl, win_nI h (by omega)⟩, by show 355 < 388; omega⟩
theorem oI_356 {i : Nat} (h : i < 12) : zOkI 356 (nI i) (wm V I) := ⟨⟨12, rfl, win_nI h (by omega)⟩, Or.inl (by show 356 < 388; omega)⟩
theorem oT_356 {i : Nat} (h : i < 12) : zOkT 1 356 (nI i) (wm V I) := ⟨⟨12, rfl, win_nI h (by omega)⟩, by show 356 < 388; omega⟩
theorem oT_357 {i : Nat} (h : i < 12) : zOkT 2 357 (nI i) (wm V I) := ⟨⟨12, rfl, win_nI h (by omega)⟩, by show 357 < 388; omega⟩
theorem oI_358 {i : Nat} (h : i < 12) : zOkI 358 (nI i) (wm V I) := ⟨⟨12, rfl, win_nI h (by omega)⟩, Or.inl (by show 358 < 388; omega)⟩
theorem oT_358 {i : Nat} (h : i < 12) : zOkT 1 358 (nI i) (wm V I) := ⟨⟨12, rfl, win_nI h (by omega)⟩, by show 358 < 388; omega⟩
theorem oI_359 {i : Nat} (h : i < 12) : zOkI 359 (nI i) (wm V I) := ⟨⟨12, rfl, win_nI h (by omega)⟩, Or.inl (by show 359 < 388; omega)⟩
theorem oT_359 {i : Nat} (h : i < 12) : zOkT 1 359 (nI i) (wm V I) := ⟨⟨12, rfl, win_nI h (by omega)⟩, by show 359 < 388; omega⟩
theorem oI_360 {i : Nat} (h : i < 240) : zOkI 360 (nI i) (wm V I) := ⟨⟨240, rfl, win_nI h (by omega)⟩, Or.inl (by show 360 < 388; omega)⟩
theorem oT_360 {i : Nat} (h : i < 240) : zOkT 1 360 (nI i) (wm V I) := ⟨⟨240, rfl, win_nI h (by omega)⟩, by show 360 < 388; omega⟩
theorem oI_361 {i : Nat} (h : i < 240) : zOkI 361 (nI i) (wm V I) := ⟨⟨240, rfl, win_nI h (by omega)⟩, Or.inl (by show 361 < 388; omega)⟩
theorem oT_361 {i : Nat} (h : i < 240) : zOkT 1 361 (nI i) (wm V I) := ⟨⟨240, rfl, win_nI h (by omega)⟩, by show 361 < 388; omega⟩
theorem oT_362 {i : Nat} (h : i < 240) : zOkT 2 362 (nI i) (wm V I) := ⟨⟨240, rfl, win_nI h (by omega)⟩, by show 362 < 388; omega⟩
theorem oI_363 {i : Nat} (h : i < 240) : zOkI 363 (nI i) (wm V I) := ⟨⟨240, rfl, win_nI h (by omega)⟩, Or.inl (by show 363 < 388; omega)⟩
theorem oT_363 {i : Nat} (h : i < 240) : zOkT 1 363 (nI i) (wm V I) := ⟨⟨240, rfl, win_nI h (by omega)⟩, by show 363 < 388; omega⟩
theorem oI_364 {i : Nat} (h : i < 240) : zOkI 364 (nI i) (wm V I) := ⟨⟨240, rfl, win_nI h (by omega)⟩, Or.inl (by show 364 < 388; omega)⟩
theorem oT_364 {i : Nat} (h : i < 240) : zOkT 1 364 (nI i) (wm V I) := ⟨⟨240, rfl, win_nI h (by omega)⟩, by show 364 < 388; omega⟩
theorem oT_365 {i : Nat} (h : i < 41) : zOkT 2 365 (nI i) (wm V I) := ⟨⟨41, rfl, win_nI h (by omega)⟩, by show 365 < 388; omega⟩
theorem oI_366 {i : Nat} (h : i < 41) : zOkI 366 (nI i) (wm V I) := ⟨⟨41, rfl, win_nI h (by omega)⟩, Or.inl (by show 366 < 388; omega)⟩
theorem oT_366 {i : Nat} (h : i < 41) : zOkT 1 366 (nI i) (wm V I) := ⟨⟨41, rfl, win_nI h (by omega)⟩, by show 366 < 388; omega⟩
theorem oI_367 {i : Nat} (h : i < 41) : zOkI 367 (nI i) (wm V I) := ⟨⟨41, rfl, win_nI h (by omega)⟩, Or.inl (by show 367 < 388; omega)⟩
theorem oT_367 {i : Nat} (h : i < 41) : zOkT 1 367 (nI i) (wm V I) := ⟨⟨41, rfl, win_nI h (by omega)⟩, by show 367 < 388; omega⟩
theorem oI_368 {i : Nat} (h : i < 41) : zOkI 368 (nI i) (wm V I) := ⟨⟨41, rfl, win_nI h (by omega)⟩, Or.inl (by show 368 < 388; omega)⟩
theorem oT_368 {i : Nat} (h : i < 41) : zOkT 1 368 (nI i) (wm V I) := ⟨⟨41, rfl, win_nI h (by omega)⟩, by show 368 < 388; omega⟩
theorem oI_369 {i : Nat} (h : i < 41) : zOkI 369 (nI i) (wm V I) := ⟨⟨41, rfl, win_nI h (by omega)⟩, Or.inl (by show 369 < 388; omega)⟩
theorem oT_369 {i : Nat} (h : i < 41) : zOkT 1 369 (nI i) (wm V I) := ⟨⟨41, rfl, win_nI h (by omega)⟩, by show 369 < 388; omega⟩
theorem oI_370 {i : Nat} (h : i < 41) : zOkI 370 (nI i) (wm V I) := ⟨⟨41, rfl, win_nI h (by omega)⟩, Or.inl (by show 370 < 388; omega)⟩
theorem oT_370 {i : Nat} (h : i < 41) : zOkT 1 370 (nI i) (wm V I) := ⟨⟨41, rfl, win_nI h (by omega)⟩, by show 370 < 388; omega⟩
theorem oI_371 {i : Nat} (h : i < 41) : zOkI 371 (nI i) (wm V I) := ⟨⟨41, rfl, win_nI h (by omega)⟩, Or.inl (by show 371 < 388; omega)⟩
theorem oT_371 {i : Nat} (h : i < 41) : zOkT 1 371 (nI i) (wm V I) := ⟨⟨41, rfl, win_nI h (by omega)⟩, by show 371 < 388; omega⟩
theorem oT_372 {i : Nat} (h : i < 41) : zOkT 2 372 (nI i) (wm V I) := ⟨⟨41, rfl, win_nI h (by omega)⟩, by show 372 < 388; omega⟩
theorem oI_373 {i : Nat} (h : i < 41) : zOkI 373 (nI i) (wm V I) := ⟨⟨41, rfl, win_nI h (by omega)⟩, Or.inl (by show 373 < 388; omega)⟩
theorem oT_373 {i : Nat} (h : i < 41) : zOkT 1 373 (nI i) (wm V I) := ⟨⟨41, rfl, win_nI h (by omega)⟩, by show 373 < 388; omega⟩
theorem oI_374 {i : Nat} (h : i < 306) : zOkI 374 (nI i) (wm V I) := ⟨⟨306, rfl, win_nI h (by omega)⟩, Or.inl (by show 374 < 388; omega)⟩
theorem oT_374 {i : Nat} (h : i < 306) : zOkT 1 374 (nI i) (wm V I) := ⟨⟨306, rfl, win_nI h (by omega)⟩, by show 374 < 388; omega⟩
theorem oI_375 {i : Nat} (h : i < 12) : zOkI 375 (nI i) (wm V I) := ⟨⟨12, rfl, win_nI h (by omega)⟩, Or.inl (by show 375 < 388; omega)⟩
theorem oT_375 {i : Nat} (h : i < 12) : zOkT 1 375 (nI i) (wm V I) := ⟨⟨12, rfl, win_nI h (by omega)⟩, by show 375 < 388; omega⟩
theorem oT_376 {i : Nat} (h : i < 12) : zOkT 2 376 (nI i) (wm V I) := ⟨⟨12, rfl, win_nI h (by omega)⟩, by show 376 < 388; omega⟩
theorem oI_377 {i : Nat} (h : i < 12) : zOkI 377 (nI i) (wm V I) := ⟨⟨12, rfl, win_nI h (by omega)⟩, Or.inl (by show 377 < 388; omega)⟩
theorem oT_377 {i : Nat} (h : i < 12) : zOkT 1 377 (nI i) (wm V I) := ⟨⟨12, rfl, win_nI h (by omega)⟩, by show 377 < 388; omega⟩
theorem oT_378 {i : Nat} (h : i < 12) : zOkT 2 378 (nI i) (wm V I) := ⟨⟨12, rfl, win_nI h (by omega)⟩, by show 378 < 388; omega⟩
theorem oI_379 {i : Nat} (h : i < 12) : zOkI 379 (nI i) (wm V I) := ⟨⟨12, rfl, win_nI h (by omega)⟩, Or.inl (by show 379 < 388; omega)⟩
theorem oT_379 {i : Nat} (h : i < 12) : zOkT 1 379 (nI i) (wm V I) := ⟨⟨12, rfl, win_nI h (by omega)⟩, by show 379 < 388; omega⟩
theorem oI_380 {i : Nat} (h : i < 12) : zOkI 380 (nI i) (wm V I) := ⟨⟨12, rfl, win_nI h (by omega)⟩, Or.inl (by show 380 < 388; omega)⟩
theorem oT_380 {i : Nat} (h : i < 12) : zOkT 1 380 (nI i) (wm V I) := ⟨⟨12, rfl, win_nI h (by omega)⟩, by show 380 < 388; omega⟩
theorem oI_381 {i : Nat} (h : i < 12) : zOkI 381 (nI i) (wm V I) := ⟨⟨12, rfl, win_nI h (by omega)⟩, Or.inl (by show 381 < 388; omega)⟩
theorem oT_381 {i : Nat} (h : i < 12) : zOkT 1 381 (nI i) (wm V I) := ⟨⟨12, rfl, win_nI h (by omega)⟩, by show 381 < 388; omega⟩
theorem oI_382 {i : Nat} (h : i < 24) : zOkI 382 (nI i) (wm V I) := ⟨⟨24, rfl, win_nI h (by omega)⟩, Or.inl (by show 382 < 388; omega)⟩
theorem oT_382 {i : Nat} (h : i < 24) : zOkT 1 382 (nI i) (wm V I) := ⟨⟨24, rfl, win_nI h (by omega)⟩, by show 382 < 388; omega⟩
theorem oI_383 {i : Nat} (h : i < 24) : zOkI 383 (nI i) (wm V I) := ⟨⟨24, rfl, win_nI h (by omega)⟩, Or.inl (by show 383 < 388; omega)⟩
theorem oT_383 {i : Nat} (h : i < 24) : zOkT 1 383 (nI i) (wm V I) := ⟨⟨24, rfl, win_nI h (by omega)⟩, by show 383 < 388; omega⟩
theorem oI_384 {i : Nat} (h : i < 240) : zOkI 384 (nI i) (wm V I) := ⟨⟨240, rfl, win_nI h (by omega)⟩, Or.inl (by show 384 < 388; omega)⟩
theorem oT_384 {i : Nat} (h : i < 240) : zOkT 1 384 (nI i) (wm V I) := ⟨⟨240, rfl, win_nI h (by omega)⟩, by show 384 < 388; omega⟩
theorem oI_385 {i : Nat} (h : i < 240) : zOkI 385 (nI i) (wm V I) := ⟨⟨240, rfl, win_nI h (by omega)⟩, Or.inl (by show 385 < 388; omega)⟩
theorem oT_385 {i : Nat} (h : i < 240) : zOkT 1 385 (nI i) (wm V I) := ⟨⟨240, rfl, win_nI h (by omega)⟩, by show 385 < 388; omega⟩
theorem oI_386 {i : Nat} (h : i < 1928) : zOkI 386 (nI i) (wm V I) := ⟨⟨1928, rfl, win_nI h (by omega)⟩, Or.inl (by show 386 < 388; omega)⟩
theorem oT_386 {i : Nat} (h : i < 1928) : zOkT 1 386 (nI i) (wm V I) := ⟨⟨1928, rfl, win_nI h (by omega)⟩, by show 386 < 388; omega⟩
theorem oT_387 {i : Nat} (h : i < 1) : zOkT 3 387 (nI i) (wm V I) := ⟨⟨1, rfl, win_nI h (by omega)⟩, by show 387 < 388; omega⟩
theorem wS6a_1 {L s : Nat} (h : s < 12) : wS L (234 + 10 * s + 1) = (1, 20) := by unfold wS; rw [if_pos (by omega), if_pos (by omega), if_neg (by omega), if_neg (by omega), if_pos (by omega)]
theorem oI_S1 {i s : Nat} (h : s < 12) (h2 : i < 20) : zOkI (234 + 10 * s + 1) (nI i) (wm V I) := ⟨⟨20, wS6a_1 h, win_nI h2 (by omega)⟩, Or.inl (by show _ < 388; omega)⟩
theorem oT_S1 {i s : Nat} (h : s < 12) (h2 : i < 20) : zOkT 1 (234 + 10 * s + 1) (nI i) (wm V I) := ⟨⟨20, wS6a_1 h, win_nI h2 (by omega)⟩, by show _ < 388; omega⟩
theorem wS6a_2 {L s : Nat} (h : s < 12) : wS L (234 + 10 * s + 2) = (1, 20) := by unfold wS; rw [if_pos (by omega), if_pos (by omega), if_neg (by omega), if_neg (by omega), if_pos (by omega)]
theorem oI_S2 {i s : Nat} (h : s < 12) (h2 : i < 20) : zOkI (234 + 10 * s + 2) (nI i) (wm V I) := ⟨⟨20, wS6a_2 h, win_nI h2 (by omega)⟩, Or.inl (by show _ < 388; omega)⟩
theorem oT_S2 {i s : Nat} (h : s < 12) (h2 : i < 20) : zOkT 1 (234 + 10 * s + 2) (nI i) (wm V I) := ⟨⟨20, wS6a_2 h, win_nI h2 (by omega)⟩, by show _ < 388; omega⟩
theorem wS6a_3 {L s : Nat} (h : s < 12) : wS L (234 + 10 * s + 3) = (1, 20) := by unfold wS; rw [if_pos (by omega), if_pos (by omega), if_neg (by omega), if_neg (by omega), if_pos (by omega)]
theorem oI_S3 {i s : Nat} (h : s < 12) (h2 : i < 20) : zOkI (234 + 10 * s + 3) (nI i) (wm V I) := ⟨⟨20, wS6a_3 h, win_nI h2 (by omega)⟩, Or.inl (by show _ < 388; omega)⟩
theorem oT_S3 {i s : Nat} (h : s < 12) (h2 : i < 20) : zOkT 1 (234 + 10 * s + 3) (nI i) (wm V I) := ⟨⟨20, wS6a_3 h, win_nI h2 (by omega)⟩, by show _ < 388; omega⟩
theorem wS6a_4 {L s : Nat} (h : s < 12) : wS L (234 + 10 * s + 4) = (1, 20) := by unfold wS; rw [if_pos (by omega), if_pos (by omega), if_neg (by omega), if_neg (by omega), if_pos (by omega)]
theorem oI_S4 {i s : Nat} (h : s < 12) (h2 : i < 20) : zOkI (234 + 10 * s + 4) (nI i) (wm V I) := ⟨⟨20, wS6a_4 h, win_nI h2 (by omega)⟩, Or.inl (by show _ < 388; omega)⟩
theorem oT_S4 {i s : Nat} (h : s < 12) (h2 : i < 20) : zOkT 1 (234 + 10 * s + 4) (nI i) (wm V I) := ⟨⟨20, wS6a_4 h, win_nI h2 (by omega)⟩, by show _ < 388; omega⟩
theorem wS6a_5 {L s : Nat} (h : s < 12) : wS L (234 + 10 * s + 5) = (2, 20) := by unfold wS; rw [if_pos (by omega), if_pos (by omega), if_neg (by omega), if_pos (by omega)]
theorem oT_S5 {i s : Nat} (h : s < 12) (h2 : i < 20) : zOkT 2 (234 + 10 * s + 5) (nI i) (wm V I) := ⟨⟨20, wS6a_5 h, win_nI h2 (by omega)⟩, by show _ < 388; omega⟩
theorem wS4a_1 {L s : Nat} (h : s < 12) : wS L (240 + 10 * s + 1) = (1, 21) := by unfold wS; rw [if_pos (by omega), if_pos (by omega), if_neg (by omega), if_neg (by omega), if_neg (by omega), if_neg (by omega)]
theorem oI_O1 {i s : Nat} (h : s < 12) (h2 : i < 21) : zOkI (240 + 10 * s + 1) (nI i) (wm V I) := ⟨⟨21, wS4a_1 h, win_nI h2 (by omega)⟩, Or.inl (by show _ < 388; omega)⟩
theorem oT_O1 {i s : Nat} (h : s < 12) (h2 : i < 21) : zOkT 1 (240 + 10 * s + 1) (nI i) (wm V I) := ⟨⟨21, wS4a_1 h, win_nI h2 (by omega)⟩, by show _ < 388; omega⟩
theorem wS4a_2 {L s : Nat} (h : s < 12) : wS L (240 + 10 * s + 2) = (1, 21) := by unfold wS; rw [if_pos (by omega), if_pos (by omega), if_neg (by omega), if_neg (by omega), if_neg (by omega), if_neg (by omega)]
theorem oI_O2 {i s : Nat} (h : s < 12) (h2 : i < 21) : zOkI (240 + 10 * s + 2) (nI i) (wm V I) := ⟨⟨21, wS4a_2 h, win_nI h2 (by omega)⟩, Or.inl (by show _ < 388; omega)⟩
theorem oT_O2 {i s : Nat} (h : s < 12) (h2 : i < 21) : zOkT 1 (240 + 10 * s + 2) (nI i) (wm V I) := ⟨⟨21, wS4a_2 h, win_nI h2 (by omega)⟩, by show _ < 388; omega⟩
theorem wS4a_3 {L s : Nat} (h : s < 12) : wS L (240 + 10 * s + 3) = (1, 21) := by unfold wS; rw [if_pos (by omega), if_pos (by omega), if_neg (by omega), if_neg (by omega), if_neg (by omega), if_neg (by omega)]
theorem oI_O3 {i s : Nat} (h : s < 12) (h2 : i < 21) : zOkI (240 + 10 * s + 3) (nI i) (wm V I) := ⟨⟨21, wS4a_3 h, win_nI h2 (by omega)⟩, Or.inl (by show _ < 388; omega)⟩
theorem oT_O3 {i s : Nat} (h : s < 12) (h2 : i < 21) : zOkT 1 (240 + 10 * s + 3) (nI i) (wm V I) := ⟨⟨21, wS4a_3 h, win_nI h2 (by omega)⟩, by show _ < 388; omega⟩
theorem oI_X {i : Nat} (h : i < 24) : zOkI 1000006 (nI i) (wm V I) := ⟨⟨24, rfl, win_nI h (by omega)⟩, Or.inr (Or.inl rfl)⟩
theorem tcl {i : Nat} (h : i < 2147483648) : (nI i).toNatClampNeg = i := Int32.toNatClampNeg_ofNat_of_lt (by omega)
theorem oR_1 {i : Nat} (h : i < 12) : zOkR 1 (nI i) (wm V I) := ⟨⟨4, 12, rfl, win_nI h (by omega), Or.inl ⟨by show 1 < 388; omega, by omega, by omega⟩⟩, by rw [tcl (by omega)]; show ¬ (if i < 12 then some _ else none) = none; rw [if_pos h]; exact some_ne rfl⟩
theorem oR_2 {i : Nat} (h : i < 12) : zOkR 2 (nI i) (wm V I) := ⟨⟨5, 12, rfl, win_nI h (by omega), Or.inl ⟨by show 2 < 388; omega, by omega, by omega⟩⟩, by rw [tcl (by omega)]; show ¬ (if i < 12 then some _ else none) = none; rw [if_pos h]; exact some_ne rfl⟩
theorem oR_5 {i : Nat} (h : i < 40) : zOkR 5 (nI i) (wm V I) := ⟨⟨6, 40, rfl, win_nI h (by omega), Or.inl ⟨by show 5 < 388; omega, by omega, by omega⟩⟩, by rw [tcl (by omega)]; show ¬ (if i < 40 then some _ else none) = none; rw [if_pos h]; exact some_ne rfl⟩
theorem oR_57 {i : Nat} (h : i < 50) : zOkR 57 (nI i) (wm V I) := ⟨⟨7, 50, rfl, win_nI h (by omega), Or.inl ⟨by show 57 < 388; omega, by omega, by omega⟩⟩, by rw [tcl (by omega)]; show ¬ (if i < 50 then some _ else none) = none; rw [if_pos h]; exact some_ne rfl⟩
theorem oR_109 {i : Nat} (h : i < 120) : zOkR 109 (nI i) (wm V I) := ⟨⟨7, 120, rfl, win_nI h (by omega), Or.inl ⟨by show 109 < 388; omega, by omega, by omega⟩⟩, by rw [tcl (by omega)]; show ¬ (if i < 120 then some _ else none) = none; rw [if_pos h]; exact some_ne rfl⟩
theorem oR_K {i : Nat} (h : i < 6) : zOkR 1000007 (nI i) (wm V I) := ⟨⟨8, 6, rfl, win_nI h (by omega), Or.inr ⟨rfl, rfl⟩⟩, by rw [tcl (by omega)]; show ¬ (if i < 6 then some _ else none) = none; rw [if_pos h]; exact some_ne rfl⟩
theorem oN_57 : zOkN 57 (wm V I) := ⟨by show 1 ≤ 7; omega, Or.inl ⟨by show 57 < 388; omega, by show 7 < 8; omega⟩⟩
theorem oN_109 : zOkN 109 (wm V I) := ⟨by show 1 ≤ 7; omega, Or.inl ⟨by show 109 < 388; omega, by show 7 < 8; omega⟩⟩
theorem oN_53 : zOkN 53 (wm V I) := ⟨by show 1 ≤ 1; omega, Or.inl ⟨by show 53 < 388; omega, by show 1 < 8; omega⟩⟩
theorem oN_233 : zOkN 233 (wm V I) := ⟨by show 1 ≤ 1; omega, Or.inl ⟨by show 233 < 388; omega, by show 1 < 8; omega⟩⟩
theorem oN_47 : zOkN 47 (wm V I) := ⟨by show 1 ≤ 1; omega, Or.inl ⟨by show 47 < 388; omega, by show 1 < 8; omega⟩⟩
theorem oN_S4 {s : Nat} (h : s < 12) : zOkN (234 + 10 * s + 4) (wm V I) := ⟨by rw [wm_S, wS6a_4 h]; decide, Or.inl ⟨by show _ < 388; omega, by rw [wm_S, wS6a_4 h]; decide⟩⟩
theorem oN_O3 {s : Nat} (h : s < 12) : zOkN (240 + 10 * s + 3) (wm V I) := ⟨by rw [wm_S, wS4a_3 h]; decide, Or.inl ⟨by show _ < 388; omega, by rw [wm_S, wS4a_3 h]; decide⟩⟩
end WM
theorem aC_100_396_45_6 {V : wV} {I : Nat → Nat → Int32} {a : Nat} (h : 234 ≤ a ∧ a < 354 ∧ (a - 234) % 10 = 0) : zHasC 100 396 a (wm V I) 45 3 := mkC (wS_6 h) (by omega) (by decide +kernel)
theorem aC_100_400_101_9 {V : wV} {I : Nat → Nat → Int32} {a : Nat} (h : a = 0) : zHasC 100 400 a (wm V I) 101 5 := mkC (wS_9 h) (by omega) (by decide +kernel)
theorem aC_101_295_99_9 {V : wV} {I : Nat → Nat → Int32} {a : Nat} (h : a = 0) : zHasC 101 295 a (wm V I) 99 1 := mkC (wS_9 h) (by omega) (by decide +kernel)
theorem aC_101_386_55_7 {V : wV} {I : Nat → Nat → Int32} {a : Nat} (h : 58 ≤ a ∧ a < 232 ∧ a ≠ 108 ∧ a ≠ 109) : zHasC 101 386 a (wm V I) 55 5 := mkC (wS_7 h) (by omega) (by decide +kernel)
theorem aC_101_404_48_6 {V : wV} {I : Nat → Nat → Int32} {a : Nat} (h : 234 ≤ a ∧ a < 354 ∧ (a - 234) % 10 = 0) : zHasC 101 404 a (wm V I) 48 2 := mkC (wS_6 h) (by omega) (by decide +kernel)
theorem aC_101_407_49_6 {V : wV} {I : Nat → Nat → Int32} {a : Nat} (h : 234 ≤ a ∧ a < 354 ∧ (a - 234) % 10 = 0) : zHasC 101 407 a (wm V I) 49 2 := mkC (wS_6 h) (by omega) (by decide +kernel)
theorem aC_101_410_44_6 {V : wV} {I : Nat → Nat → Int32} {a : Nat} (h : 234 ≤ a ∧ a < 354 ∧ (a - 234) % 10 = 0) : zHasC 101 410 a (wm V I) 44 1 := mkC (wS_6 h) (by omega) (by decide +kernel)
theorem aC_103_423_104_9 {V : wV} {I : Nat → Nat → Int32} {a : Nat} (h : a = 0) : zHasC 103 423 a (wm V I) 104 2 := mkC (wS_9 h) (by omega) (by decide +kernel)
theorem aC_104_288_102_9 {V : wV} {I : Nat → Nat → Int32} {a : Nat} (h : a = 0) : zHasC 104 288 a (wm V I) 102 2 := mkC (wS_9 h) (by omega) (by decide +kernel)
theorem aC_105_428_39_1 {V : wV} {I : Nat → Nat → Int32} {a : Nat} (h : 6 ≤ a ∧ a < 46) : zHasC 105 428 a (wm V I) 39 1 := mkC (wS_1 h) (by omega) (by decide +kernel)
theorem aC_105_428_39_5 {V : wV} {I : Nat → Nat → Int32} {a : Nat} (h : a = 232) : zHasC 105 428 a (wm V I) 39 1 := mkC (wS_5 h) (by omega) (by decide +kernel)
theorem aC_105_428_39_7 {V : wV} {I : Nat → Nat → Int32} {a : Nat} (h : 58 ≤ a ∧ a < 232 ∧ a ≠ 108 ∧ a ≠ 109) : zHasC 105 428 a (wm V I) 39 1 := mkC (wS_7 h) (by omega) (by decide +kernel)
theorem aC_105_432_40_1 {V : wV} {I : Nat → Nat → Int32} {a : Nat} (h : 6 ≤ a ∧ a < 46) : zHasC 105 432 a (wm V I) 40 1 := mkC (wS_1 h) (by omega) (by decide +kernel)
theorem aC_105_432_40_5 {V : wV} {I : Nat → Nat → Int32} {a : Nat} (h : a = 232) : zHasC 105 432 a (wm V I) 40 1 := mkC (wS_5 h) (by omega) (by decide +kernel)
theorem aC_105_432_40_7 {V : wV} {I : Nat → Nat → Int32} {a : Nat} (h : 58 ≤ a ∧ a < 232 ∧ a ≠ 108 ∧ a ≠ 109) : zHasC 105 432 a (wm V I) 40 1 := mkC (wS_7 h) (by omega) (by decide +kernel)
theorem aC_106_113_22_3 {V : wV} {I : Nat → Nat → Int32} {a : Nat} (h : a = 46) : zHasC 106 113 a (wm V I) 22 3 := mkC (wS_3 h) (by omega) (by decide +kernel)
theorem aC_106_311_15_2 {V : wV} {I : Nat → Nat → Int32} {a : Nat} (h : a = 4) : zHasC 106 311 a (wm V I) 15 0 := mkC (wS_2 h) (by omega) (by decide +kernel)
theorem aC_106_314_17_2 {V : wV} {I : Nat → Nat → Int32} {a : Nat} (h : a = 4) : zHasC 106 314 a (wm V I) 17 4 := mkC (wS_2 h) (by omega) (by decide +kernel)
theorem aC_106_321_18_2 {V : wV} {I : Nat → Nat → Int32} {a : Nat} (h : a = 4) : zHasC 106 321 a (wm V I) 18 2 := mkC (wS_2 h) (by omega) (by decide +kernel)
theorem aC_106_347_27_3 {V : wV} {I : Nat → Nat → Int32} {a : Nat} (h : a = 46) : zHasC 106 347 a (wm V I) 27 2 := mkC (wS_3 h) (by omega) (by decide +kernel)
theorem aC_106_435_107_9 {V : wV} {I : Nat → Nat → Int32} {a : Nat} (h : a = 0) : zHasC 106 435 a (wm V I) 107 2 := mkC (wS_9 h) (by omega) (by decide +kernel)
theorem aC_106_438_108_9 {V : wV} {I : Nat → Nat → Int32} {a : Nat} (h : a = 0) : zHasC 106 438 a (wm V I) 108 1 := mkC (wS_9 h) (by omega) (by decide +kernel)
theorem aC_107_288_102_9 {V : wV} {I : Nat → Nat → Int32} {a : Nat} (h : a = 0) : zHasC 107 288 a (wm V I) 102 2 := mkC (wS_9 h) (by omega) (by decide +kernel)
theorem aC_108_441_109_9 {V : wV} {I : Nat → Nat → Int32} {a : Nat} (h : a = 0) : zHasC 108 441 a (wm V I) 109 1 := mkC (wS_9 h) (by omega) (by decide +kernel)
theorem aC_108_444_30_4 {V : wV} {I : Nat → Nat → Int32} {a : Nat} (h : 240 ≤ a ∧ a < 354 ∧ (a - 234) % 10 = 6) : zHasC 108 444 a (wm V I) 30 1 := mkC (wS_4 h) (by omega) (by decide +kernel)
theorem aC_109_448_29_4 {V : wV} {I : Nat → Nat → Int32} {a : Nat} (h : 240 ≤ a ∧ a < 354 ∧ (a - 234) % 10 = 6) : zHasC 109 448 a (wm V I) 29 4 := mkC (wS_4 h) (by omega) (by decide +kernel)
theorem aC_110_299_106_9 {V : wV} {I : Nat → Nat → Int32} {a : Nat} (h : a = 0) : zHasC 110 299 a (wm V I) 106 1 := mkC (wS_9 h) (by omega) (by decide +kernel)
theorem aC_111_268_100_9 {V : wV} {I : Nat → Nat → Int32} {a : Nat} (h : a = 0) : zHasC 111 268 a (wm V I) 100 3 := mkC (wS_9 h) (by omega) (by decide +kernel)
theorem aC_111_452_1_0 {V : wV} {I : Nat → Nat → Int32} {a : Nat} (h : a = 52) : zHasC 111 452 a (wm V I) 1 0 := mkC (wS_0 h) (by omega) (by decide +kernel)
theorem aC_112_257_59_8 {V : wV} {I : Nat → Nat → Int32} {a : Nat} (h : a = 56 ∨ a = 108) : zHasC 112 257 a (wm V I) 59 0 := mkC (wS_8 h) (by omega) (by decide +kernel)
theorem aC_112_386_55_7 {V : wV} {I : Nat → Nat → Int32} {a : Nat} (h : 58 ≤ a ∧ a < 232 ∧ a ≠ 108 ∧ a ≠ 109) : zHasC 112 386 a (wm V I) 55 5 := mkC (wS_7 h) (by omega) (by decide +kernel)
theorem aC_112_453_5_0 {V : wV} {I : Nat → Nat → Int32} {a : Nat} (h : a = 52) : zHasC 112 453 a (wm V I) 5 2 := mkC (wS_0 h) (by omega) (by decide +kernel)
theorem aC_112_456_6_0 {V : wV} {I : Nat → Nat → Int32} {a : Nat} (h : a = 52) : zHasC 112 456 a (wm V I) 6 2 := mkC (wS_0 h) (by omega) (by decide +kernel)
theorem aC_112_459_7_0 {V : wV} {I : Nat → Nat → Int32} {a : Nat} (h : a = 52) : zHasC 112 459 a (wm V I) 7 2 := mkC (wS_0 h) (by omega) (by decide +kernel)
theorem aC_112_462_8_0 {V : wV} {I : Nat → Nat → Int32} {a : Nat} (h : a = 52) : zHasC 112 462 a (wm V I) 8 2 := mkC (wS_0 h) (by omega) (by decide +kernel)
theorem aC_112_465_9_0 {V : wV} {I : Nat → Nat → Int32} {a : Nat} (h : a = 52) : zHasC 112 465 a (wm V I) 9 1 := mkC (wS_0 h) (by omega) (by decide +kernel)
theorem aC_112_468_60_8 {V : wV} {I : Nat → Nat → Int32} {a : Nat} (h : a = 56 ∨ a = 108) : zHasC 112 468 a (wm V I) 60 1 := mkC (wS_8 h) (by omega) (by decide +kernel)
theorem aC_114_318_14_2 {V : wV} {I : Nat → Nat → Int32} {a : Nat} (h : a = 4) : zHasC 114 318 a (wm V I) 14 1 := mkC (wS_2 h) (by omega) (by decide +kernel)
theorem aC_115_233_52_6 {V : wV} {I : Nat → Nat → Int32} {a : Nat} (h : 234 ≤ a ∧ a < 354 ∧ (a - 234) % 10 = 0) : zHasC 115 233 a (wm V I) 52 1 := mkC (wS_6 h) (by omega) (by decide +kernel)
theorem aC_116_366_115_9 {V : wV} {I : Nat → Nat → Int32} {a : Nat} (h : a = 0) : zHasC 116 366 a (wm V I) 115 1 := mkC (wS_9 h) (by omega) (by decide +kernel)
theorem aC_128_151_126_10 {V : wV} {I : Nat → Nat → Int32} {a : Nat} (h : a = 354) : zHasC 128 151 a (wm V I) 126 1 := mkC (wS_10 h) (by omega) (by decide +kernel)
theorem aC_129_151_126_10 {V : wV} {I : Nat → Nat → Int32} {a : Nat} (h : a = 354) : zHasC 129 151 a (wm V I) 126 1 := mkC (wS_10 h) (by omega) (by decide +kernel)
theorem aC_129_155_122_10 {V : wV} {I : Nat → Nat → Int32} {a : Nat} (h : a = 354) : zHasC 129 155 a (wm V I) 122 3 := mkC (wS_10 h) (by omega) (by decide +kernel)
theorem aC_129_162_123_10 {V : wV} {I : Nat → Nat → Int32} {a : Nat} (h : a = 354) : zHasC 129 162 a (wm V I) 123 3 := mkC (wS_10 h) (by omega) (by decide +kernel)
theorem aC_130_151_126_10 {V : wV} {I : Nat → Nat → Int32} {a : Nat} (h : a = 354) : zHasC 130 151 a (wm V I) 126 1 := mkC (wS_10 h) (by omega) (by decide +kernel)
theorem aC_131_169_130_10 {V : wV} {I : Nat → Nat → Int32} {a : Nat} (h : a = 354) : zHasC 131 169 a (wm V I) 130 2 := mkC (wS_10 h) (by omega) (by decide +kernel)
theorem aC_133_169_130_10 {V : wV} {I : Nat → Nat → Int32} {a : Nat} (h : a = 354) : zHasC 133 169 a (wm V I) 130 2 := mkC (wS_10 h) (by omega) (by decide +kernel)
theorem aC_133_173_132_10 {V : wV} {I : Nat → Nat → Int32} {a : Nat} (h : a = 354) : zHasC 133 173 a (wm V I) 132 1 := mkC (wS_10 h) (by omega) (by decide +kernel)
theorem aC_135_176_155_10 {V : wV} {I : Nat → Nat → Int32} {a : Nat} (h : a = 354) : zHasC 135 176 a (wm V I) 155 1 := mkC (wS_10 h) (by omega) (by decide +kernel)
theorem aC_135_179_158_10 {V : wV} {I : Nat → Nat → Int32} {a : Nat} (h : a = 354) : zHasC 135 179 a (wm V I) 158 1 := mkC (wS_10 h) (by omega) (by decide +kernel)
theorem aC_136_151_126_10 {V : wV} {I : Nat → Nat → Int32} {a : Nat} (h : a = 354) : zHasC 136 151 a (wm V I) 126 1 := mkC (wS_10 h) (by omega) (by decide +kernel)
theorem aC_136_192_135_10 {V : wV} {I : Nat → Nat → Int32} {a : Nat} (h : a = 354) : zHasC 136 192 a (wm V I) 135 1 := mkC (wS_10 h) (by omega) (by decide +kernel)
theorem aC_137_151_126_10 {V : wV} {I : Nat → Nat → Int32} {a : Nat} (h : a = 354) : zHasC 137 151 a (wm V I) 126 1 := mkC (wS_10 h) (by omega) (by decide +kernel)
theorem aC_137_192_135_10 {V : wV} {I : Nat → Nat → Int32} {a : Nat} (h : a = 354) : zHasC 137 192 a (wm V I) 135 1 := mkC (wS_10 h) (by omega) (by decide +kernel)
theorem aC_139_151_126_10 {V : wV} {I : Nat → Nat → Int32} {a : Nat} (h : a = 354) : zHasC 139 151 a (wm V I) 126 1 := mkC (wS_10 h) (by omega) (by decide +kernel)
theorem aC_139_176_155_10 {V : wV} {I : Nat → Nat → Int32} {a : Nat} (h : a = 354) : zHasC 139 176 a (wm V I) 155 1 := mkC (wS_10 h) (by omega) (by decide +kernel)
theorem aC_139_179_158_10 {V : wV} {I : Nat → Nat → Int32} {a : Nat} (h : a = 354) : zHasC 139 179 a (wm V I) 158 1 := mkC (wS_10 h) (by omega) (by decide +kernel)
theorem aC_139_196_119_10 {V : wV} {I : Nat → Nat → Int32} {a : Nat} (h : a = 354) : zHasC 139 196 a (wm V I) 119 1 := mkC (wS_10 h) (by omega) (by decide +kernel)
theorem aC_140_169_130_10 {V : wV} {I : Nat → Nat → Int32} {a : Nat} (h : a = 354) : zHasC 140 169 a (wm V I) 130 2 := mkC (wS_10 h) (by omega) (by decide +kernel)
theorem aC_140_173_132_10 {V : wV} {I : Nat → Nat → Int32} {a : Nat} (h : a = 354) : zHasC 140 173 a (wm V I) 132 1 := mkC (wS_10 h) (by omega) (by decide +kernel)
theorem aC_140_196_119_10 {V : wV} {I : Nat → Nat → Int32} {a : Nat} (h : a = 354) : zHasC 140 196 a (wm V I) 119 1 := mkC (wS_10 h) (by omega) (by decide +kernel)
theorem aC_140_199_134_10 {V : wV} {I : Nat → Nat → Int32} {a : Nat} (h : a = 354) : zHasC 140 199 a (wm V I) 134 2 := mkC (wS_10 h) (by omega) (by decide +kernel)
theorem aC_141_155_122_10 {V : wV} {I : Nat → Nat → Int32} {a : Nat} (h : a = 354) : zHasC 141 155 a (wm V I) 122 3 := mkC (wS_10 h) (by omega) (by decide +kernel)
theorem aC_141_162_123_10 {V : wV} {I : Nat → Nat → Int32} {a : Nat} (h : a = 354) : zHasC 141 162 a (wm V I) 123 3 := mkC (wS_10 h) (by omega) (by decide +kernel)
theorem aC_142_151_126_10 {V : wV} {I : Nat → Nat → Int32} {a : Nat} (h : a = 354) : zHasC 142 151 a (wm V I) 126 1 := mkC (wS_10 h) (by omega) (by decide +kernel)
theorem aC_142_204_141_10 {V : wV} {I : Nat → Nat → Int32} {a : Nat} (h : a = 354) : zHasC 142 204 a (wm V I) 141 2 := mkC (wS_10 h) (by omega) (by decide +kernel)
theorem aC_143_173_132_10 {V : wV} {I : Nat → Nat → Int32} {a : Nat} (h : a = 354) : zHasC 143 173 a (wm V I) 132 1 := mkC (wS_10 h) (by omega) (by decide +kernel)
theorem aC_143_199_134_10 {V : wV} {I : Nat → Nat → Int32} {a : Nat} (h : a = 354) : zHasC 143 199 a (wm V I) 134 2 := mkC (wS_10 h) (by omega) (by decide +kernel)
theorem aC_144_151_126_10 {V : wV} {I : Nat → Nat → Int32} {a : Nat} (h : a = 354) : zHasC 144 151 a (wm V I) 126 1 := mkC (wS_10 h) (by omega) (by decide +kernel)
theorem aC_145_217_144_10 {V : wV} {I : Nat → Nat → Int32} {a : Nat} (h : a = 354) : zHasC 145 217 a (wm V I) 144 2 := mkC (wS_10 h) (by omega) (by decide +kernel)
theorem aC_146_220_145_10 {V : wV} {I : Nat → Nat → Int32} {a : Nat} (h : a = 354) : zHasC 146 220 a (wm V I) 145 5 := mkC (wS_10 h) (by omega) (by decide +kernel)
theorem aC_146_224_143_10 {V : wV} {I : Nat → Nat → Int32} {a : Nat} (h : a = 354) : zHasC 146 224 a (wm V I) 143 5 := mkC (wS_10 h) (by omega) (by decide +kernel)
theorem aC_148_224_143_10 {V : wV} {I : Nat → Nat → Int32} {a : Nat} (h : a = 354) : zHasC 148 224 a (wm V I) 143 5 := mkC (wS_10 h) (by omega) (by decide +kernel)
theorem aC_15_28_14_2 {V : wV} {I : Nat → Nat → Int32} {a : Nat} (h : a = 4) : zHasC 15 28 a (wm V I) 14 1 := mkC (wS_2 h) (by omega) (by decide +kernel)
theorem aC_150_217_144_10 {V : wV} {I : Nat → Nat → Int32} {a : Nat} (h : a = 354) : zHasC 150 217 a (wm V I) 144 2 := mkC (wS_10 h) (by omega) (by decide +kernel)
theorem aC_150_240_148_10 {V : wV} {I : Nat → Nat → Int32} {a : Nat} (h : a = 354) : zHasC 150 240 a (wm V I) 148 5 := mkC (wS_10 h) (by omega) (by decide +kernel)
theorem aC_150_243_149_10 {V : wV} {I : Nat → Nat → Int32} {a : Nat} (h : a = 354) : zHasC 150 243 a (wm V I) 149 3 := mkC (wS_10 h) (by omega) (by decide +kernel)
theorem aC_153_151_126_10 {V : wV} {I : Nat → Nat → Int32} {a : Nat} (h : a = 354) : zHasC 153 151 a (wm V I) 126 1 := mkC (wS_10 h) (by omega) (by decide +kernel)
theorem aC_153_247_152_10 {V : wV} {I : Nat → Nat → Int32} {a : Nat} (h : a = 354) : zHasC 153 247 a (wm V I) 152 2 := mkC (wS_10 h) (by omega) (by decide +kernel)
theorem aC_154_151_126_10 {V : wV} {I : Nat → Nat → Int32} {a : Nat} (h : a = 354) : zHasC 154 151 a (wm V I) 126 1 := mkC (wS_10 h) (by omega) (by decide +kernel)
theorem aC_154_247_152_10 {V : wV} {I : Nat → Nat → Int32} {a : Nat} (h : a = 354) : zHasC 154 247 a (wm V I) 152 2 := mkC (wS_10 h) (by omega) (by decide +kernel)
theorem aC_156_155_122_10 {V : wV} {I : Nat → Nat → Int32} {a : Nat} (h : a = 354) : zHasC 156 155 a (wm V I) 122 3 := mkC (wS_10 h) (by omega) (by decide +kernel)
theorem aC_156_162_123_10 {V : wV} {I : Nat → Nat → Int32} {a : Nat} (h : a = 354) : zHasC 156 162 a (wm V I) 123 3 := mkC (wS_10 h) (by omega) (by decide +kernel)
theorem aC_158_259_157_10 {V : wV} {I : Nat → Nat → Int32} {a : Nat} (h : a = 354) : zHasC 158 259 a (wm V I) 157 4 := mkC (wS_10 h) (by omega) (by decide +kernel)
theorem aC_158_263_156_10 {V : wV} {I : Nat → Nat → Int32} {a : Nat} (h : a = 354) : zHasC 158 263 a (wm V I) 156 2 := mkC (wS_10 h) (by omega) (by decide +kernel)
theorem aC_159_263_156_10 {V : wV} {I : Nat → Nat → Int32} {a : Nat} (h : a = 354) : zHasC 159 263 a (wm V I) 156 2 := mkC (wS_10 h) (by omega) (by decide +kernel)
theorem aC_16_28_14_2 {V : wV} {I : Nat → Nat → Int32} {a : Nat} (h : a = 4) : zHasC 16 28 a (wm V I) 14 1 := mkC (wS_2 h) (by omega) (by decide +kernel)
theorem aC_163_271_160_10 {V : wV} {I : Nat → Nat → Int32} {a : Nat} (h : a = 354) : zHasC 163 271 a (wm V I) 160 3 := mkC (wS_10 h) (by omega) (by decide +kernel)
theorem aC_167_274_166_10 {V : wV} {I : Nat → Nat → Int32} {a : Nat} (h : a = 354) : zHasC 167 274 a (wm V I) 166 2 := mkC (wS_10 h) (by omega) (by decide +kernel)
theorem aC_168_176_155_10 {V : wV} {I : Nat → Nat → Int32} {a : Nat} (h : a = 354) : zHasC 168 176 a (wm V I) 155 1 := mkC (wS_10 h) (by omega) (by decide +kernel)
theorem aC_168_179_158_10 {V : wV} {I : Nat → Nat → Int32} {a : Nat} (h : a = 354) : zHasC 168 179 a (wm V I) 158 1 := mkC (wS_10 h) (by omega) (by decide +kernel)
theorem aC_168_247_152_10 {V : wV} {I : Nat → Nat → Int32} {a : Nat} (h : a = 354) : zHasC 168 247 a (wm V I) 152 2 := mkC (wS_10 h) (by omega) (by decide +kernel)
theorem aC_168_284_164_10 {V : wV} {I : Nat → Nat → Int32} {a : Nat} (h : a = 354) : zHasC 168 284 a (wm V I) 164 0 := mkC (wS_10 h) (by omega) (by decide +kernel)
theorem aC_168_288_165_10 {V : wV} {I : Nat → Nat → Int32} {a : Nat} (h : a = 354) : zHasC 168 288 a (wm V I) 165 8 := mkC (wS_10 h) (by omega) (by decide +kernel)
theorem aC_168_292_159_10 {V : wV} {I : Nat → Nat → Int32} {a : Nat} (h : a = 354) : zHasC 168 292 a (wm V I) 159 1 := mkC (wS_10 h) (by omega) (by decide +kernel)
theorem aC_168_295_161_10 {V : wV} {I : Nat → Nat → Int32} {a : Nat} (h : a = 354) : zHasC 168 295 a (wm V I) 161 1 := mkC (wS_10 h) (by omega) (by decide +kernel)
theorem aC_168_298_163_10 {V : wV} {I : Nat → Nat → Int32} {a : Nat} (h : a = 354) : zHasC 168 298 a (wm V I) 163 2 := mkC (wS_10 h) (by omega) (by decide +kernel)
theorem aC_168_301_167_10 {V : wV} {I : Nat → Nat → Int32} {a : Nat} (h : a = 354) : zHasC 168 301 a (wm V I) 167 1 := mkC (wS_10 h) (by omega) (by decide +kernel)
theorem aC_169_220_145_10 {V : wV} {I : Nat → Nat → Int32} {a : Nat} (h : a = 354) : zHasC 169 220 a (wm V I) 145 5 := mkC (wS_10 h) (by omega) (by decide +kernel)
theorem aC_169_240_148_10 {V : wV} {I : Nat → Nat → Int32} {a : Nat} (h : a = 354) : zHasC 169 240 a (wm V I) 148 5 := mkC (wS_10 h) (by omega) (by decide +kernel)
theorem aC_169_303_168_10 {V : wV} {I : Nat → Nat → Int32} {a : Nat} (h : a = 354) : zHasC 169 303 a (wm V I) 168 6 := mkC (wS_10 h) (by omega) (by decide +kernel)
theorem aC_17_32_38_1 {V : wV} {I : Nat → Nat → Int32} {a : Nat} (h : 6 ≤ a ∧ a < 46) : zHasC 17 32 a (wm V I) 38 1 := mkC (wS_1 h) (by omega) (by decide +kernel)
theorem aC_170_284_164_10 {V : wV} {I : Nat → Nat → Int32} {a : Nat} (h : a = 354) : zHasC 170 284 a (wm V I) 164 0 := mkC (wS_10 h) (by omega) (by decide +kernel)
theorem aC_170_288_165_10 {V : wV} {I : Nat → Nat → Int32} {a : Nat} (h : a = 354) : zHasC 170 288 a (wm V I) 165 8 := mkC (wS_10 h) (by omega) (by decide +kernel)
theorem aC_170_301_167_10 {V : wV} {I : Nat → Nat → Int32} {a : Nat} (h : a = 354) : zHasC 170 301 a (wm V I) 167 1 := mkC (wS_10 h) (by omega) (by decide +kernel)
theorem aC_171_220_145_10 {V : wV} {I : Nat → Nat → Int32} {a : Nat} (h : a = 354) : zHasC 171 220 a (wm V I) 145 5 := mkC (wS_10 h) (by omega) (by decide +kernel)
theorem aC_171_307_170_10 {V : wV} {I : Nat → Nat → Int32} {a : Nat} (h : a = 354) : zHasC 171 307 a (wm V I) 170 5 := mkC (wS_10 h) (by omega) (by decide +kernel)
theorem aC_172_176_155_10 {V : wV} {I : Nat → Nat → Int32} {a : Nat} (h : a = 354) : zHasC 172 176 a (wm V I) 155 1 := mkC (wS_10 h) (by omega) (by decide +kernel)
theorem aC_173_274_166_10 {V : wV} {I : Nat → Nat → Int32} {a : Nat} (h : a = 354) : zHasC 173 274 a (wm V I) 166 2 := mkC (wS_10 h) (by omega) (by decide +kernel)
theorem aC_175_311_174_10 {V : wV} {I : Nat → Nat → Int32} {a : Nat} (h : a = 354) : zHasC 175 311 a (wm V I) 174 1 := mkC (wS_10 h) (by omega) (by decide +kernel)
theorem aC_175_314_173_10 {V : wV} {I : Nat → Nat → Int32} {a : Nat} (h : a = 354) : zHasC 175 314 a (wm V I) 173 1 := mkC (wS_10 h) (by omega) (by decide +kernel)
theorem aC_175_317_172_10 {V : wV} {I : Nat → Nat → Int32} {a : Nat} (h : a = 354) : zHasC 175 317 a (wm V I) 172 0 := mkC (wS_10 h) (by omega) (by decide +kernel)
theorem aC_176_176_155_10 {V : wV} {I : Nat → Nat → Int32} {a : Nat} (h : a = 354) : zHasC 176 176 a (wm V I) 155 1 := mkC (wS_10 h) (by omega) (by decide +kernel)
theorem aC_176_179_158_10 {V : wV} {I : Nat → Nat → Int32} {a : Nat} (h : a = 354) : zHasC 176 179 a (wm V I) 158 1 := mkC (wS_10 h) (by omega) (by decide +kernel)
theorem aC_176_292_159_10 {V : wV} {I : Nat → Nat → Int32} {a : Nat} (h : a = 354) : zHasC 176 292 a (wm V I) 159 1 := mkC (wS_10 h) (by omega) (by decide +kernel)
theorem aC_176_311_174_10 {V : wV} {I : Nat → Nat → Int32} {a : Nat} (h : a = 354) : zHasC 176 311 a (wm V I) 174 1 := mkC (wS_10 h) (by omega) (by decide +kernel)
theorem aC_18_28_14_2 {V : wV} {I : Nat → Nat → Int32} {a : Nat} (h : a = 4) : zHasC 18 28 a (wm V I) 14 1 := mkC (wS_2 h) (by omega) (by decide +kernel)
theorem aC_180_217_144_10 {V : wV} {I : Nat → Nat → Int32} {a : Nat} (h : a = 354) : zHasC 180 217 a (wm V I) 144 2 := mkC (wS_10 h) (by omega) (by decide +kernel)
theorem aC_180_240_148_10 {V : wV} {I : Nat → Nat → Int32} {a : Nat} (h : a = 354) : zHasC 180 240 a (wm V I) 148 5 := mkC (wS_10 h) (by omega) (by decide +kernel)
theorem aC_180_320_179_10 {V : wV} {I : Nat → Nat → Int32} {a : Nat} (h : a = 354) : zHasC 180 320 a (wm V I) 179 5 := mkC (wS_10 h) (by omega) (by decide +kernel)
theorem aC_180_323_181_10 {V : wV} {I : Nat → Nat → Int32} {a : Nat} (h : a = 354) : zHasC 180 323 a (wm V I) 181 5 := mkC (wS_10 h) (by omega) (by decide +kernel)
theorem aC_182_303_168_10 {V : wV} {I : Nat → Nat → Int32} {a : Nat} (h : a = 354) : zHasC 182 303 a (wm V I) 168 6 := mkC (wS_10 h) (by omega) (by decide +kernel)
theorem aC_182_329_180_10 {V : wV} {I : Nat → Nat → Int32} {a : Nat} (h : a = 354) : zHasC 182 329 a (wm V I) 180 1 := mkC (wS_10 h) (by omega) (by decide +kernel)
theorem aC_183_332_182_10 {V : wV} {I : Nat → Nat → Int32} {a : Nat} (h : a = 354) : zHasC 183 332 a (wm V I) 182 0 := mkC (wS_10 h) (by omega) (by decide +kernel)
theorem aC_184_317_172_10 {V : wV} {I : Nat → Nat → Int32} {a : Nat} (h : a = 354) : zHasC 184 317 a (wm V I) 172 0 := mkC (wS_10 h) (by omega) (by decide +kernel)
theorem aC_185_151_126_10 {V : wV} {I : Nat → Nat → Int32} {a : Nat} (h : a = 354) : zHasC 185 151 a (wm V I) 126 1 := mkC (wS_10 h) (by omega) (by decide +kernel)
theorem aC_185_176_155_10 {V : wV} {I : Nat → Nat → Int32} {a : Nat} (h : a = 354) : zHasC 185 176 a (wm V I) 155 1 := mkC (wS_10 h) (by omega) (by decide +kernel)
theorem aC_185_179_158_10 {V : wV} {I : Nat → Nat → Int32} {a : Nat} (h : a = 354) : zHasC 185 179 a (wm V I) 158 1 := mkC (wS_10 h) (by omega) (by decide +kernel)
theorem aC_185_204_141_10 {V : wV} {I : Nat → Nat → Int32} {a : Nat} (h : a = 354) : zHasC 185 204 a (wm V I) 141 2 := mkC (wS_10 h) (by omega) (by decide +kernel)
theorem aC_186_314_173_10 {V : wV} {I : Nat → Nat → Int32} {a : Nat} (h : a = 354) : zHasC 186 314 a (wm V I) 173 1 := mkC (wS_10 h) (by omega) (by decide +kernel)
theorem aC_19_58_39_1 {V : wV} {I : Nat → Nat → Int32} {a : Nat} (h : 6 ≤ a ∧ a < 46) : zHasC 19 58 a (wm V I) 39 1 := mkC (wS_1 h) (by omega) (by decide +kernel)
theorem aC_19_58_39_5 {V : wV} {I : Nat → Nat → Int32} {a : Nat} (h : a = 232) : zHasC 19 58 a (wm V I) 39 1 := mkC (wS_5 h) (by omega) (by decide +kernel)
theorem aC_19_58_39_7 {V : wV} {I : Nat → Nat → Int32} {a : Nat} (h : 58 ≤ a ∧ a < 232 ∧ a ≠ 108 ∧ a ≠ 109) : zHasC 19 58 a (wm V I) 39 1 := mkC (wS_7 h) (by omega) (by decide +kernel)
theorem aC_19_65_40_1 {V : wV} {I : Nat → Nat → Int32} {a : Nat} (h : 6 ≤ a ∧ a < 46) : zHasC 19 65 a (wm V I) 40 1 := mkC (wS_1 h) (by omega) (by decide +kernel)
theorem aC_19_65_40_5 {V : wV} {I : Nat → Nat → Int32} {a : Nat} (h : a = 232) : zHasC 19 65 a (wm V I) 40 1 := mkC (wS_5 h) (by omega) (by decide +kernel)
theorem aC_19_65_40_7 {V : wV} {I : Nat → Nat → Int32} {a : Nat} (h : 58 ≤ a ∧ a < 232 ∧ a ≠ 108 ∧ a ≠ 109) : zHasC 19 65 a (wm V I) 40 1 := mkC (wS_7 h) (by omega) (by decide +kernel)
theorem aC_198_100_153_10 {V : wV} {I : Nat → Nat → Int32} {a : Nat} (h : a = 354) : zHasC 198 100 a (wm V I) 153 2 := mkC (wS_10 h) (by omega) (by decide +kernel)
theorem aC_198_101_78_9 {V : wV} {I : Nat → Nat → Int32} {a : Nat} (h : a = 0) : zHasC 198 101 a (wm V I) 78 1 := mkC (wS_9 h) (by omega) (by decide +kernel)
theorem aC_198_104_154_10 {V : wV} {I : Nat → Nat → Int32} {a : Nat} (h : a = 354) : zHasC 198 104 a (wm V I) 154 1 := mkC (wS_10 h) (by omega) (by decide +kernel)
theorem aC_198_105_79_9 {V : wV} {I : Nat → Nat → Int32} {a : Nat} (h : a = 0) : zHasC 198 105 a (wm V I) 79 5 := mkC (wS_9 h) (by omega) (by decide +kernel)
theorem aC_198_108_169_10 {V : wV} {I : Nat → Nat → Int32} {a : Nat} (h : a = 354) : zHasC 198 108 a (wm V I) 169 5 := mkC (wS_10 h) (by omega) (by decide +kernel)
theorem aC_198_109_80_9 {V : wV} {I : Nat → Nat → Int32} {a : Nat} (h : a = 0) : zHasC 198 109 a (wm V I) 80 5 := mkC (wS_9 h) (by omega) (by decide +kernel)
theorem aC_198_112_171_10 {V : wV} {I : Nat → Nat → Int32} {a : Nat} (h : a = 354) : zHasC 198 112 a (wm V I) 171 5 := mkC (wS_10 h) (by omega) (by decide +kernel)
theorem aC_198_113_81_9 {V : wV} {I : Nat → Nat → Int32} {a : Nat} (h : a = 0) : zHasC 198 113 a (wm V I) 81 1 := mkC (wS_9 h) (by omega) (by decide +kernel)
theorem aC_198_116_175_10 {V : wV} {I : Nat → Nat → Int32} {a : Nat} (h : a = 354) : zHasC 198 116 a (wm V I) 175 1 := mkC (wS_10 h) (by omega) (by decide +kernel)
theorem aC_198_117_82_9 {V : wV} {I : Nat → Nat → Int32} {a : Nat} (h : a = 0) : zHasC 198 117 a (wm V I) 82 2 := mkC (wS_9 h) (by omega) (by decide +kernel)
theorem aC_198_120_176_10 {V : wV} {I : Nat → Nat → Int32} {a : Nat} (h : a = 354) : zHasC 198 120 a (wm V I) 176 2 := mkC (wS_10 h) (by omega) (by decide +kernel)
theorem aC_198_121_83_9 {V : wV} {I : Nat → Nat → Int32} {a : Nat} (h : a = 0) : zHasC 198 121 a (wm V I) 83 0 := mkC (wS_9 h) (by omega) (by decide +kernel)
theorem aC_198_124_177_10 {V : wV} {I : Nat → Nat → Int32} {a : Nat} (h : a = 354) : zHasC 198 124 a (wm V I) 177 0 := mkC (wS_10 h) (by omega) (by decide +kernel)
theorem aC_198_125_84_9 {V : wV} {I : Nat → Nat → Int32} {a : Nat} (h : a = 0) : zHasC 198 125 a (wm V I) 84 1 := mkC (wS_9 h) (by omega) (by decide +kernel)
theorem aC_198_128_178_10 {V : wV} {I : Nat → Nat → Int32} {a : Nat} (h : a = 354) : zHasC 198 128 a (wm V I) 178 1 := mkC (wS_10 h) (by omega) (by decide +kernel)
theorem aC_198_129_85_9 {V : wV} {I : Nat → Nat → Int32} {a : Nat} (h : a = 0) : zHasC 198 129 a (wm V I) 85 0 := mkC (wS_9 h) (by omega) (by decide +kernel)
theorem aC_198_132_183_10 {V : wV} {I : Nat → Nat → Int32} {a : Nat} (h : a = 354) : zHasC 198 132 a (wm V I) 183 0 := mkC (wS_10 h) (by omega) (by decide +kernel)
theorem aC_198_133_86_9 {V : wV} {I : Nat → Nat → Int32} {a : Nat} (h : a = 0) : zHasC 198 133 a (wm V I) 86 0 := mkC (wS_9 h) (by omega) (by decide +kernel)
theorem aC_198_136_184_10 {V : wV} {I : Nat → Nat → Int32} {a : Nat} (h : a = 354) : zHasC 198 136 a (wm V I) 184 0 := mkC (wS_10 h) (by omega) (by decide +kernel)
theorem aC_198_137_87_9 {V : wV} {I : Nat → Nat → Int32} {a : Nat} (h : a = 0) : zHasC 198 137 a (wm V I) 87 2 := mkC (wS_9 h) (by omega) (by decide +kernel)
theorem aC_198_140_185_10 {V : wV} {I : Nat → Nat → Int32} {a : Nat} (h : a = 354) : zHasC 198 140 a (wm V I) 185 2 := mkC (wS_10 h) (by omega) (by decide +kernel)
theorem aC_198_141_88_9 {V : wV} {I : Nat → Nat → Int32} {a : Nat} (h : a = 0) : zHasC 198 141 a (wm V I) 88 1 := mkC (wS_9 h) (by omega) (by decide +kernel)
theorem aC_198_144_186_10 {V : wV} {I : Nat → Nat → Int32} {a : Nat} (h : a = 354) : zHasC 198 144 a (wm V I) 186 1 := mkC (wS_10 h) (by omega) (by decide +kernel)
theorem aC_198_25_62_9 {V : wV} {I : Nat → Nat → Int32} {a : Nat} (h : a = 0) : zHasC 198 25 a (wm V I) 62 1 := mkC (wS_9 h) (by omega) (by decide +kernel)
theorem aC_198_29_127_10 {V : wV} {I : Nat → Nat → Int32} {a : Nat} (h : a = 354) : zHasC 198 29 a (wm V I) 127 1 := mkC (wS_10 h) (by omega) (by decide +kernel)
theorem aC_198_30_63_9 {V : wV} {I : Nat → Nat → Int32} {a : Nat} (h : a = 0) : zHasC 198 30 a (wm V I) 63 3 := mkC (wS_9 h) (by omega) (by decide +kernel)
theorem aC_198_33_128_10 {V : wV} {I : Nat → Nat → Int32} {a : Nat} (h : a = 354) : zHasC 198 33 a (wm V I) 128 3 := mkC (wS_10 h) (by omega) (by decide +kernel)
theorem aC_198_34_64_9 {V : wV} {I : Nat → Nat → Int32} {a : Nat} (h : a = 0) : zHasC 198 34 a (wm V I) 64 1 := mkC (wS_9 h) (by omega) (by decide +kernel)
theorem aC_198_37_129_10 {V : wV} {I : Nat → Nat → Int32} {a : Nat} (h : a = 354) : zHasC 198 37 a (wm V I) 129 1 := mkC (wS_10 h) (by omega) (by decide +kernel)
theorem aC_198_38_65_9 {V : wV} {I : Nat → Nat → Int32} {a : Nat} (h : a = 0) : zHasC 198 38 a (wm V I) 65 3 := mkC (wS_9 h) (by omega) (by decide +kernel)
theorem aC_198_42_131_10 {V : wV} {I : Nat → Nat → Int32} {a : Nat} (h : a = 354) : zHasC 198 42 a (wm V I) 131 3 := mkC (wS_10 h) (by omega) (by decide +kernel)
theorem aC_198_43_66_9 {V : wV} {I : Nat → Nat → Int32} {a : Nat} (h : a = 0) : zHasC 198 43 a (wm V I) 66 3 := mkC (wS_9 h) (by omega) (by decide +kernel)
theorem aC_198_47_133_10 {V : wV} {I : Nat → Nat → Int32} {a : Nat} (h : a = 354) : zHasC 198 47 a (wm V I) 133 3 := mkC (wS_10 h) (by omega) (by decide +kernel)
theorem aC_198_48_67_9 {V : wV} {I : Nat → Nat → Int32} {a : Nat} (h : a = 0) : zHasC 198 48 a (wm V I) 67 2 := mkC (wS_9 h) (by omega) (by decide +kernel)
theorem aC_198_52_136_10 {V : wV} {I : Nat → Nat → Int32} {a : Nat} (h : a = 354) : zHasC 198 52 a (wm V I) 136 2 := mkC (wS_10 h) (by omega) (by decide +kernel)
theorem aC_198_53_68_9 {V : wV} {I : Nat → Nat → Int32} {a : Nat} (h : a = 0) : zHasC 198 53 a (wm V I) 68 2 := mkC (wS_9 h) (by omega) (by decide +kernel)
theorem aC_198_56_137_10 {V : wV} {I : Nat → Nat → Int32} {a : Nat} (h : a = 354) : zHasC 198 56 a (wm V I) 137 2 := mkC (wS_10 h) (by omega) (by decide +kernel)
theorem aC_198_57_69_9 {V : wV} {I : Nat → Nat → Int32} {a : Nat} (h : a = 0) : zHasC 198 57 a (wm V I) 69 2 := mkC (wS_9 h) (by omega) (by decide +kernel)
theorem aC_198_60_138_10 {V : wV} {I : Nat → Nat → Int32} {a : Nat} (h : a = 354) : zHasC 198 60 a (wm V I) 138 2 := mkC (wS_10 h) (by omega) (by decide +kernel)
theorem aC_198_66_139_10 {V : wV} {I : Nat → Nat → Int32} {a : Nat} (h : a = 354) : zHasC 198 66 a (wm V I) 139 2 := mkC (wS_10 h) (by omega) (by decide +kernel)
theorem aC_198_67_118_10 {V : wV} {I : Nat → Nat → Int32} {a : Nat} (h : a = 354) : zHasC 198 67 a (wm V I) 118 0 := mkC (wS_10 h) (by omega) (by decide +kernel)
theorem aC_198_74_140_10 {V : wV} {I : Nat → Nat → Int32} {a : Nat} (h : a = 354) : zHasC 198 74 a (wm V I) 140 3 := mkC (wS_10 h) (by omega) (by decide +kernel)
theorem aC_198_75_72_9 {V : wV} {I : Nat → Nat → Int32} {a : Nat} (h : a = 0) : zHasC 198 75 a (wm V I) 72 2 := mkC (wS_9 h) (by omega) (by decide +kernel)
theorem aC_198_79_142_10 {V : wV} {I : Nat → Nat → Int32} {a : Nat} (h : a = 354) : zHasC 198 79 a (wm V I) 142 2 := mkC (wS_10 h) (by omega) (by decide +kernel)
theorem aC_198_80_73_9 {V : wV} {I : Nat → Nat → Int32} {a : Nat} (h : a = 0) : zHasC 198 80 a (wm V I) 73 5 := mkC (wS_9 h) (by omega) (by decide +kernel)
theorem aC_198_84_146_10 {V : wV} {I : Nat → Nat → Int32} {a : Nat} (h : a = 354) : zHasC 198 84 a (wm V I) 146 5 := mkC (wS_10 h) (by omega) (by decide +kernel)
theorem aC_198_85_74_9 {V : wV} {I : Nat → Nat → Int32} {a : Nat} (h : a = 0) : zHasC 198 85 a (wm V I) 74 1 := mkC (wS_9 h) (by omega) (by decide +kernel)
theorem aC_198_88_147_10 {V : wV} {I : Nat → Nat → Int32} {a : Nat} (h : a = 354) : zHasC 198 88 a (wm V I) 147 1 := mkC (wS_10 h) (by omega) (by decide +kernel)
theorem aC_198_89_75_9 {V : wV} {I : Nat → Nat → Int32} {a : Nat} (h : a = 0) : zHasC 198 89 a (wm V I) 75 2 := mkC (wS_9 h) (by omega) (by decide +kernel)
theorem aC_198_92_150_10 {V : wV} {I : Nat → Nat → Int32} {a : Nat} (h : a = 354) : zHasC 198 92 a (wm V I) 150 2 := mkC (wS_10 h) (by omega) (by decide +kernel)
theorem aC_198_93_76_9 {V : wV} {I : Nat → Nat → Int32} {a : Nat} (h : a = 0) : zHasC 198 93 a (wm V I) 76 2 := mkC (wS_9 h) (by omega) (by decide +kernel)
theorem aC_198_96_151_10 {V : wV} {I : Nat → Nat → Int32} {a : Nat} (h : a = 354) : zHasC 198 96 a (wm V I) 151 2 := mkC (wS_10 h) (by omega) (by decide +kernel)
theorem aC_198_97_77_9 {V : wV} {I : Nat → Nat → Int32} {a : Nat} (h : a = 0) : zHasC 198 97 a (wm V I) 77 2 := mkC (wS_9 h) (by omega) (by decide +kernel)
theorem aC_2_36_39_7 {V : wV} {I : Nat → Nat → Int32} {a : Nat} (h : 58 ≤ a ∧ a < 232 ∧ a ≠ 108 ∧ a ≠ 109) : zHasC 2 36 a (wm V I) 39 1 := mkC (wS_7 h) (by omega) (by decide +kernel)
theorem aC_2_51_4_0 {V : wV} {I : Nat → Nat → Int32} {a : Nat} (h : a = 52) : zHasC 2 51 a (wm V I) 4 3 := mkC (wS_0 h) (by omega) (by decide +kernel)
theorem aC_2_58_40_7 {V : wV} {I : Nat → Nat → Int32} {a : Nat} (h : 58 ≤ a ∧ a < 232 ∧ a ≠ 108 ∧ a ≠ 109) : zHasC 2 58 a (wm V I) 40 1 := mkC (wS_7 h) (by omega) (by decide +kernel)
theorem aC_22_40_24_3 {V : wV} {I : Nat → Nat → Int32} {a : Nat} (h : a = 46) : zHasC 22 40 a (wm V I) 24 3 := mkC (wS_3 h) (by omega) (by decide +kernel)
theorem aC_22_44_23_3 {V : wV} {I : Nat → Nat → Int32} {a : Nat} (h : a = 46) : zHasC 22 44 a (wm V I) 23 3 := mkC (wS_3 h) (by omega) (by decide +kernel)
theorem aC_23_40_24_3 {V : wV} {I : Nat → Nat → Int32} {a : Nat} (h : a = 46) : zHasC 23 40 a (wm V I) 24 3 := mkC (wS_3 h) (by omega) (by decide +kernel)
theorem aC_23_54_14_2 {V : wV} {I : Nat → Nat → Int32} {a : Nat} (h : a = 4) : zHasC 23 54 a (wm V I) 14 1 := mkC (wS_2 h) (by omega) (by decide +kernel)
theorem aC_23_69_25_3 {V : wV} {I : Nat → Nat → Int32} {a : Nat} (h : a = 46) : zHasC 23 69 a (wm V I) 25 2 := mkC (wS_3 h) (by omega) (by decide +kernel)
theorem aC_23_73_26_3 {V : wV} {I : Nat → Nat → Int32} {a : Nat} (h : a = 46) : zHasC 23 73 a (wm V I) 26 2 := mkC (wS_3 h) (by omega) (by decide +kernel)
theorem aC_25_88_50_6 {V : wV} {I : Nat → Nat → Int32} {a : Nat} (h : 234 ≤ a ∧ a < 354 ∧ (a - 234) % 10 = 0) : zHasC 25 88 a (wm V I) 50 2 := mkC (wS_6 h) (by omega) (by decide +kernel)
theorem aC_26_97_51_6 {V : wV} {I : Nat → Nat → Int32} {a : Nat} (h : 234 ≤ a ∧ a < 354 ∧ (a - 234) % 10 = 0) : zHasC 26 97 a (wm V I) 51 2 := mkC (wS_6 h) (by omega) (by decide +kernel)
theorem aC_27_69_25_3 {V : wV} {I : Nat → Nat → Int32} {a : Nat} (h : a = 46) : zHasC 27 69 a (wm V I) 25 2 := mkC (wS_3 h) (by omega) (by decide +kernel)
theorem aC_27_73_26_3 {V : wV} {I : Nat → Nat → Int32} {a : Nat} (h : a = 46) : zHasC 27 73 a (wm V I) 26 2 := mkC (wS_3 h) (by omega) (by decide +kernel)
theorem aC_29_45_48_6 {V : wV} {I : Nat → Nat → Int32} {a : Nat} (h : 234 ≤ a ∧ a < 354 ∧ (a - 234) % 10 = 0) : zHasC 29 45 a (wm V I) 48 2 := mkC (wS_6 h) (by omega) (by decide +kernel)
theorem aC_29_49_49_6 {V : wV} {I : Nat → Nat → Int32} {a : Nat} (h : 234 ≤ a ∧ a < 354 ∧ (a - 234) % 10 = 0) : zHasC 29 49 a (wm V I) 49 2 := mkC (wS_6 h) (by omega) (by decide +kernel)
theorem aC_30_63_32_4 {V : wV} {I : Nat → Nat → Int32} {a : Nat} (h : 240 ≤ a ∧ a < 354 ∧ (a - 234) % 10 = 6) : zHasC 30 63 a (wm V I) 32 1 := mkC (wS_4 h) (by omega) (by decide +kernel)
theorem aC_30_67_31_4 {V : wV} {I : Nat → Nat → Int32} {a : Nat} (h : 240 ≤ a ∧ a < 354 ∧ (a - 234) % 10 = 6) : zHasC 30 67 a (wm V I) 31 1 := mkC (wS_4 h) (by omega) (by decide +kernel)
theorem aC_32_71_33_4 {V : wV} {I : Nat → Nat → Int32} {a : Nat} (h : 240 ≤ a ∧ a < 354 ∧ (a - 234) % 10 = 6) : zHasC 32 71 a (wm V I) 33 3 := mkC (wS_4 h) (by omega) (by decide +kernel)
theorem aC_32_75_34_4 {V : wV} {I : Nat → Nat → Int32} {a : Nat} (h : 240 ≤ a ∧ a < 354 ∧ (a - 234) % 10 = 6) : zHasC 32 75 a (wm V I) 34 1 := mkC (wS_4 h) (by omega) (by decide +kernel)
theorem aC_37_54_36_1 {V : wV} {I : Nat → Nat → Int32} {a : Nat} (h : 6 ≤ a ∧ a < 46) : zHasC 37 54 a (wm V I) 36 5 := mkC (wS_1 h) (by omega) (by decide +kernel)
theorem aC_37_54_36_5 {V : wV} {I : Nat → Nat → Int32} {a : Nat} (h : a = 232) : zHasC 37 54 a (wm V I) 36 5 := mkC (wS_5 h) (by omega) (by decide +kernel)
theorem aC_37_54_36_7 {V : wV} {I : Nat → Nat → Int32} {a : Nat} (h : 58 ≤ a ∧ a < 232 ∧ a ≠ 108 ∧ a ≠ 109) : zHasC 37 54 a (wm V I) 36 5 := mkC (wS_7 h) (by omega) (by decide +kernel)
theorem aC_50_81_48_6 {V : wV} {I : Nat → Nat → Int32} {a : Nat} (h : 234 ≤ a ∧ a < 354 ∧ (a - 234) % 10 = 0) : zHasC 50 81 a (wm V I) 48 2 := mkC (wS_6 h) (by omega) (by decide +kernel)
theorem aC_51_84_49_6 {V : wV} {I : Nat → Nat → Int32} {a : Nat} (h : 234 ≤ a ∧ a < 354 ∧ (a - 234) % 10 = 0) : zHasC 51 84 a (wm V I) 49 2 := mkC (wS_6 h) (by omega) (by decide +kernel)
theorem aC_52_81_48_6 {V : wV} {I : Nat → Nat → Int32} {a : Nat} (h : 234 ≤ a ∧ a < 354 ∧ (a - 234) % 10 = 0) : zHasC 52 81 a (wm V I) 48 2 := mkC (wS_6 h) (by omega) (by decide +kernel)
theorem aC_52_84_49_6 {V : wV} {I : Nat → Nat → Int32} {a : Nat} (h : 234 ≤ a ∧ a < 354 ∧ (a - 234) % 10 = 0) : zHasC 52 84 a (wm V I) 49 2 := mkC (wS_6 h) (by omega) (by decide +kernel)
theorem aC_55_18_36_7 {V : wV} {I : Nat → Nat → Int32} {a : Nat} (h : 58 ≤ a ∧ a < 232 ∧ a ≠ 108 ∧ a ≠ 109) : zHasC 55 18 a (wm V I) 36 5 := mkC (wS_7 h) (by omega) (by decide +kernel)
theorem aC_55_34_44_6 {V : wV} {I : Nat → Nat → Int32} {a : Nat} (h : 234 ≤ a ∧ a < 354 ∧ (a - 234) % 10 = 0) : zHasC 55 34 a (wm V I) 44 1 := mkC (wS_6 h) (by omega) (by decide +kernel)
theorem aC_55_43_39_7 {V : wV} {I : Nat → Nat → Int32} {a : Nat} (h : 58 ≤ a ∧ a < 232 ∧ a ≠ 108 ∧ a ≠ 109) : zHasC 55 43 a (wm V I) 39 1 := mkC (wS_7 h) (by omega) (by decide +kernel)
theorem aC_55_47_40_7 {V : wV} {I : Nat → Nat → Int32} {a : Nat} (h : 58 ≤ a ∧ a < 232 ∧ a ≠ 108 ∧ a ≠ 109) : zHasC 55 47 a (wm V I) 40 1 := mkC (wS_7 h) (by omega) (by decide +kernel)
theorem aC_55_50_45_6 {V : wV} {I : Nat → Nat → Int32} {a : Nat} (h : 234 ≤ a ∧ a < 354 ∧ (a - 234) % 10 = 0) : zHasC 55 50 a (wm V I) 45 3 := mkC (wS_6 h) (by omega) (by decide +kernel)
theorem aC_55_54_48_6 {V : wV} {I : Nat → Nat → Int32} {a : Nat} (h : 234 ≤ a ∧ a < 354 ∧ (a - 234) % 10 = 0) : zHasC 55 54 a (wm V I) 48 2 := mkC (wS_6 h) (by omega) (by decide +kernel)
theorem aC_55_57_49_6 {V : wV} {I : Nat → Nat → Int32} {a : Nat} (h : 234 ≤ a ∧ a < 354 ∧ (a - 234) % 10 = 0) : zHasC 55 57 a (wm V I) 49 2 := mkC (wS_6 h) (by omega) (by decide +kernel)
theorem aC_57_85_38_7 {V : wV} {I : Nat → Nat → Int32} {a : Nat} (h : 58 ≤ a ∧ a < 232 ∧ a ≠ 108 ∧ a ≠ 109) : zHasC 57 85 a (wm V I) 38 1 := mkC (wS_7 h) (by omega) (by decide +kernel)
theorem aC_60_20_56_7 {V : wV} {I : Nat → Nat → Int32} {a : Nat} (h : 58 ≤ a ∧ a < 232 ∧ a ≠ 108 ∧ a ≠ 109) : zHasC 60 20 a (wm V I) 56 1 := mkC (wS_7 h) (by omega) (by decide +kernel)
theorem aC_60_30_57_7 {V : wV} {I : Nat → Nat → Int32} {a : Nat} (h : 58 ≤ a ∧ a < 232 ∧ a ≠ 108 ∧ a ≠ 109) : zHasC 60 30 a (wm V I) 57 1 := mkC (wS_7 h) (by omega) (by decide +kernel)
theorem aC_62_113_22_3 {V : wV} {I : Nat → Nat → Int32} {a : Nat} (h : a = 46) : zHasC 62 113 a (wm V I) 22 3 := mkC (wS_3 h) (by omega) (by decide +kernel)
theorem aC_63_117_89_9 {V : wV} {I : Nat → Nat → Int32} {a : Nat} (h : a = 0) : zHasC 63 117 a (wm V I) 89 1 := mkC (wS_9 h) (by omega) (by decide +kernel)
theorem aC_63_131_42_6 {V : wV} {I : Nat → Nat → Int32} {a : Nat} (h : 234 ≤ a ∧ a < 354 ∧ (a - 234) % 10 = 0) : zHasC 63 131 a (wm V I) 42 2 := mkC (wS_6 h) (by omega) (by decide +kernel)
theorem aC_64_117_89_9 {V : wV} {I : Nat → Nat → Int32} {a : Nat} (h : a = 0) : zHasC 64 117 a (wm V I) 89 1 := mkC (wS_9 h) (by omega) (by decide +kernel)
theorem aC_64_135_50_6 {V : wV} {I : Nat → Nat → Int32} {a : Nat} (h : 234 ≤ a ∧ a < 354 ∧ (a - 234) % 10 = 0) : zHasC 64 135 a (wm V I) 50 2 := mkC (wS_6 h) (by omega) (by decide +kernel)
theorem aC_64_139_51_6 {V : wV} {I : Nat → Nat → Int32} {a : Nat} (h : 234 ≤ a ∧ a < 354 ∧ (a - 234) % 10 = 0) : zHasC 64 139 a (wm V I) 51 2 := mkC (wS_6 h) (by omega) (by decide +kernel)
theorem aC_65_145_92_9 {V : wV} {I : Nat → Nat → Int32} {a : Nat} (h : a = 0) : zHasC 65 145 a (wm V I) 92 2 := mkC (wS_9 h) (by omega) (by decide +kernel)
theorem aC_65_149_20_11 {V : wV} {I : Nat → Nat → Int32} {a : Nat} (h : 1000000 ≤ a ∧ a < 1000006) : zHasC 65 149 a (wm V I) 20 0 := mkC (wS_11 h) (by omega) (by decide +kernel)
theorem aC_65_155_43_6 {V : wV} {I : Nat → Nat → Int32} {a : Nat} (h : 234 ≤ a ∧ a < 354 ∧ (a - 234) % 10 = 0) : zHasC 65 155 a (wm V I) 43 2 := mkC (wS_6 h) (by omega) (by decide +kernel)
theorem aC_66_145_92_9 {V : wV} {I : Nat → Nat → Int32} {a : Nat} (h : a = 0) : zHasC 66 145 a (wm V I) 92 2 := mkC (wS_9 h) (by omega) (by decide +kernel)
theorem aC_67_117_89_9 {V : wV} {I : Nat → Nat → Int32} {a : Nat} (h : a = 0) : zHasC 67 117 a (wm V I) 89 1 := mkC (wS_9 h) (by omega) (by decide +kernel)
theorem aC_67_165_94_9 {V : wV} {I : Nat → Nat → Int32} {a : Nat} (h : a = 0) : zHasC 67 165 a (wm V I) 94 1 := mkC (wS_9 h) (by omega) (by decide +kernel)
theorem aC_68_117_89_9 {V : wV} {I : Nat → Nat → Int32} {a : Nat} (h : a = 0) : zHasC 68 117 a (wm V I) 89 1 := mkC (wS_9 h) (by omega) (by decide +kernel)
theorem aC_68_165_94_9 {V : wV} {I : Nat → Nat → Int32} {a : Nat} (h : a = 0) : zHasC 68 165 a (wm V I) 94 1 := mkC (wS_9 h) (by omega) (by decide +kernel)
theorem aC_70_117_89_9 {V : wV} {I : Nat → Nat → Int32} {a : Nat} (h : a = 0) : zHasC 70 117 a (wm V I) 89 1 := mkC (wS_9 h) (by omega) (by decide +kernel)
theorem aC_70_204_53_6 {V : wV} {I : Nat → Nat → Int32} {a : Nat} (h : 234 ≤ a ∧ a < 354 ∧ (a - 234) % 10 = 0) : zHasC 70 204 a (wm V I) 53 0 := mkC (wS_6 h) (by omega) (by decide +kernel)
theorem aC_71_213_90_9 {V : wV} {I : Nat → Nat → Int32} {a : Nat} (h : a = 0) : zHasC 71 213 a (wm V I) 90 2 := mkC (wS_9 h) (by omega) (by decide +kernel)
theorem aC_72_117_89_9 {V : wV} {I : Nat → Nat → Int32} {a : Nat} (h : a = 0) : zHasC 72 117 a (wm V I) 89 1 := mkC (wS_9 h) (by omega) (by decide +kernel)
theorem aC_72_233_52_6 {V : wV} {I : Nat → Nat → Int32} {a : Nat} (h : 234 ≤ a ∧ a < 354 ∧ (a - 234) % 10 = 0) : zHasC 72 233 a (wm V I) 52 1 := mkC (wS_6 h) (by omega) (by decide +kernel)
theorem aC_73_237_93_9 {V : wV} {I : Nat → Nat → Int32} {a : Nat} (h : a = 0) : zHasC 73 237 a (wm V I) 93 4 := mkC (wS_9 h) (by omega) (by decide +kernel)
theorem aC_73_241_98_9 {V : wV} {I : Nat → Nat → Int32} {a : Nat} (h : a = 0) : zHasC 73 241 a (wm V I) 98 5 := mkC (wS_9 h) (by omega) (by decide +kernel)
theorem aC_75_254_91_9 {V : wV} {I : Nat → Nat → Int32} {a : Nat} (h : a = 0) : zHasC 75 254 a (wm V I) 91 1 := mkC (wS_9 h) (by omega) (by decide +kernel)
theorem aC_75_257_59_8 {V : wV} {I : Nat → Nat → Int32} {a : Nat} (h : a = 56 ∨ a = 108) : zHasC 75 257 a (wm V I) 59 0 := mkC (wS_8 h) (by omega) (by decide +kernel)
theorem aC_75_268_100_9 {V : wV} {I : Nat → Nat → Int32} {a : Nat} (h : a = 0) : zHasC 75 268 a (wm V I) 100 3 := mkC (wS_9 h) (by omega) (by decide +kernel)
theorem aC_77_117_89_9 {V : wV} {I : Nat → Nat → Int32} {a : Nat} (h : a = 0) : zHasC 77 117 a (wm V I) 89 1 := mkC (wS_9 h) (by omega) (by decide +kernel)
theorem aC_77_288_102_9 {V : wV} {I : Nat → Nat → Int32} {a : Nat} (h : a = 0) : zHasC 77 288 a (wm V I) 102 2 := mkC (wS_9 h) (by omega) (by decide +kernel)
theorem aC_78_117_89_9 {V : wV} {I : Nat → Nat → Int32} {a : Nat} (h : a = 0) : zHasC 78 117 a (wm V I) 89 1 := mkC (wS_9 h) (by omega) (by decide +kernel)
theorem aC_78_292_103_9 {V : wV} {I : Nat → Nat → Int32} {a : Nat} (h : a = 0) : zHasC 78 292 a (wm V I) 103 1 := mkC (wS_9 h) (by omega) (by decide +kernel)
theorem aC_79_237_93_9 {V : wV} {I : Nat → Nat → Int32} {a : Nat} (h : a = 0) : zHasC 79 237 a (wm V I) 93 4 := mkC (wS_9 h) (by omega) (by decide +kernel)
theorem aC_79_241_98_9 {V : wV} {I : Nat → Nat → Int32} {a : Nat} (h : a = 0) : zHasC 79 241 a (wm V I) 98 5 := mkC (wS_9 h) (by omega) (by decide +kernel)
theorem aC_79_295_99_9 {V : wV} {I : Nat → Nat → Int32} {a : Nat} (h : a = 0) : zHasC 79 295 a (wm V I) 99 1 := mkC (wS_9 h) (by omega) (by decide +kernel)
theorem aC_79_299_106_9 {V : wV} {I : Nat → Nat → Int32} {a : Nat} (h : a = 0) : zHasC 79 299 a (wm V I) 106 1 := mkC (wS_9 h) (by omega) (by decide +kernel)
theorem aC_80_113_22_3 {V : wV} {I : Nat → Nat → Int32} {a : Nat} (h : a = 46) : zHasC 80 113 a (wm V I) 22 3 := mkC (wS_3 h) (by omega) (by decide +kernel)
theorem aC_80_237_93_9 {V : wV} {I : Nat → Nat → Int32} {a : Nat} (h : a = 0) : zHasC 80 237 a (wm V I) 93 4 := mkC (wS_9 h) (by omega) (by decide +kernel)
theorem aC_80_303_37_1 {V : wV} {I : Nat → Nat → Int32} {a : Nat} (h : 6 ≤ a ∧ a < 46) : zHasC 80 303 a (wm V I) 37 5 := mkC (wS_1 h) (by omega) (by decide +kernel)
theorem aC_80_303_37_5 {V : wV} {I : Nat → Nat → Int32} {a : Nat} (h : a = 232) : zHasC 80 303 a (wm V I) 37 5 := mkC (wS_5 h) (by omega) (by decide +kernel)
theorem aC_80_303_37_7 {V : wV} {I : Nat → Nat → Int32} {a : Nat} (h : 58 ≤ a ∧ a < 232 ∧ a ≠ 108 ∧ a ≠ 109) : zHasC 80 303 a (wm V I) 37 5 := mkC (wS_7 h) (by omega) (by decide +kernel)
theorem aC_80_307_105_9 {V : wV} {I : Nat → Nat → Int32} {a : Nat} (h : a = 0) : zHasC 80 307 a (wm V I) 105 1 := mkC (wS_9 h) (by omega) (by decide +kernel)
theorem aC_80_311_15_2 {V : wV} {I : Nat → Nat → Int32} {a : Nat} (h : a = 4) : zHasC 80 311 a (wm V I) 15 0 := mkC (wS_2 h) (by omega) (by decide +kernel)
theorem aC_80_314_17_2 {V : wV} {I : Nat → Nat → Int32} {a : Nat} (h : a = 4) : zHasC 80 314 a (wm V I) 17 4 := mkC (wS_2 h) (by omega) (by decide +kernel)
theorem aC_81_113_22_3 {V : wV} {I : Nat → Nat → Int32} {a : Nat} (h : a = 46) : zHasC 81 113 a (wm V I) 22 3 := mkC (wS_3 h) (by omega) (by decide +kernel)
theorem aC_81_318_14_2 {V : wV} {I : Nat → Nat → Int32} {a : Nat} (h : a = 4) : zHasC 81 318 a (wm V I) 14 1 := mkC (wS_2 h) (by omega) (by decide +kernel)
theorem aC_81_321_18_2 {V : wV} {I : Nat → Nat → Int32} {a : Nat} (h : a = 4) : zHasC 81 321 a (wm V I) 18 2 := mkC (wS_2 h) (by omega) (by decide +kernel)
theorem aC_82_318_14_2 {V : wV} {I : Nat → Nat → Int32} {a : Nat} (h : a = 4) : zHasC 82 318 a (wm V I) 14 1 := mkC (wS_2 h) (by omega) (by decide +kernel)
theorem aC_82_347_27_3 {V : wV} {I : Nat → Nat → Int32} {a : Nat} (h : a = 46) : zHasC 82 347 a (wm V I) 27 2 := mkC (wS_3 h) (by omega) (by decide +kernel)
theorem aC_85_311_15_2 {V : wV} {I : Nat → Nat → Int32} {a : Nat} (h : a = 4) : zHasC 85 311 a (wm V I) 15 0 := mkC (wS_2 h) (by omega) (by decide +kernel)
theorem aC_85_351_111_9 {V : wV} {I : Nat → Nat → Int32} {a : Nat} (h : a = 0) : zHasC 85 351 a (wm V I) 111 0 := mkC (wS_9 h) (by omega) (by decide +kernel)
theorem aC_85_354_112_9 {V : wV} {I : Nat → Nat → Int32} {a : Nat} (h : a = 0) : zHasC 85 354 a (wm V I) 112 0 := mkC (wS_9 h) (by omega) (by decide +kernel)
theorem aC_85_357_110_9 {V : wV} {I : Nat → Nat → Int32} {a : Nat} (h : a = 0) : zHasC 85 357 a (wm V I) 110 0 := mkC (wS_9 h) (by omega) (by decide +kernel)
theorem aC_87_117_89_9 {V : wV} {I : Nat → Nat → Int32} {a : Nat} (h : a = 0) : zHasC 87 117 a (wm V I) 89 1 := mkC (wS_9 h) (by omega) (by decide +kernel)
theorem aC_87_360_113_9 {V : wV} {I : Nat → Nat → Int32} {a : Nat} (h : a = 0) : zHasC 87 360 a (wm V I) 113 1 := mkC (wS_9 h) (by omega) (by decide +kernel)
theorem aC_87_363_114_9 {V : wV} {I : Nat → Nat → Int32} {a : Nat} (h : a = 0) : zHasC 87 363 a (wm V I) 114 1 := mkC (wS_9 h) (by omega) (by decide +kernel)
theorem aC_87_366_115_9 {V : wV} {I : Nat → Nat → Int32} {a : Nat} (h : a = 0) : zHasC 87 366 a (wm V I) 115 1 := mkC (wS_9 h) (by omega) (by decide +kernel)
theorem aC_87_369_116_9 {V : wV} {I : Nat → Nat → Int32} {a : Nat} (h : a = 0) : zHasC 87 369 a (wm V I) 116 1 := mkC (wS_9 h) (by omega) (by decide +kernel)
theorem aC_88_113_22_3 {V : wV} {I : Nat → Nat → Int32} {a : Nat} (h : a = 46) : zHasC 88 113 a (wm V I) 22 3 := mkC (wS_3 h) (by omega) (by decide +kernel)
theorem aC_88_321_18_2 {V : wV} {I : Nat → Nat → Int32} {a : Nat} (h : a = 4) : zHasC 88 321 a (wm V I) 18 2 := mkC (wS_2 h) (by omega) (by decide +kernel)
theorem aC_88_375_16_2 {V : wV} {I : Nat → Nat → Int32} {a : Nat} (h : a = 4) : zHasC 88 375 a (wm V I) 16 0 := mkC (wS_2 h) (by omega) (by decide +kernel)
theorem aC_9_36_39_7 {V : wV} {I : Nat → Nat → Int32} {a : Nat} (h : 58 ≤ a ∧ a < 232 ∧ a ≠ 108 ∧ a ≠ 109) : zHasC 9 36 a (wm V I) 39 1 := mkC (wS_7 h) (by omega) (by decide +kernel)
theorem aC_9_58_40_7 {V : wV} {I : Nat → Nat → Int32} {a : Nat} (h : 58 ≤ a ∧ a < 232 ∧ a ≠ 108 ∧ a ≠ 109) : zHasC 9 58 a (wm V I) 40 1 := mkC (wS_7 h) (by omega) (by decide +kernel)
theorem aC_9_67_10_0 {V : wV} {I : Nat → Nat → Int32} {a : Nat} (h : a = 52) : zHasC 9 67 a (wm V I) 10 2 := mkC (wS_0 h) (by omega) (by decide +kernel)
theorem aC_90_117_89_9 {V : wV} {I : Nat → Nat → Int32} {a : Nat} (h : a = 0) : zHasC 90 117 a (wm V I) 89 1 := mkC (wS_9 h) (by omega) (by decide +kernel)
theorem aC_91_117_89_9 {V : wV} {I : Nat → Nat → Int32} {a : Nat} (h : a = 0) : zHasC 91 117 a (wm V I) 89 1 := mkC (wS_9 h) (by omega) (by decide +kernel)
theorem aC_92_213_90_9 {V : wV} {I : Nat → Nat → Int32} {a : Nat} (h : a = 0) : zHasC 92 213 a (wm V I) 90 2 := mkC (wS_9 h) (by omega) (by decide +kernel)
theorem aC_93_213_90_9 {V : wV} {I : Nat → Nat → Int32} {a : Nat} (h : a = 0) : zHasC 93 213 a (wm V I) 90 2 := mkC (wS_9 h) (by omega) (by decide +kernel)
theorem aC_93_254_91_9 {V : wV} {I : Nat → Nat → Int32} {a : Nat} (h : a = 0) : zHasC 93 254 a (wm V I) 91 1 := mkC (wS_9 h) (by omega) (by decide +kernel)
theorem aC_94_360_113_9 {V : wV} {I : Nat → Nat → Int32} {a : Nat} (h : a = 0) : zHasC 94 360 a (wm V I) 113 1 := mkC (wS_9 h) (by omega) (by decide +kernel)
theorem aC_98_386_55_7 {V : wV} {I : Nat → Nat → Int32} {a : Nat} (h : 58 ≤ a ∧ a < 232 ∧ a ≠ 108 ∧ a ≠ 109) : zHasC 98 386 a (wm V I) 55 5 := mkC (wS_7 h) (by omega) (by decide +kernel)
theorem aC_99_386_55_7 {V : wV} {I : Nat → Nat → Int32} {a : Nat} (h : 58 ≤ a ∧ a < 232 ∧ a ≠ 108 ∧ a ≠ 109) : zHasC 99 386 a (wm V I) 55 5 := mkC (wS_7 h) (by omega) (by decide +kernel)
theorem aC_99_390_47_6 {V : wV} {I : Nat → Nat → Int32} {a : Nat} (h : 234 ≤ a ∧ a < 354 ∧ (a - 234) % 10 = 0) : zHasC 99 390 a (wm V I) 47 1 := mkC (wS_6 h) (by omega) (by decide +kernel)
theorem aC_99_393_46_6 {V : wV} {I : Nat → Nat → Int32} {a : Nat} (h : 234 ≤ a ∧ a < 354 ∧ (a - 234) % 10 = 0) : zHasC 99 393 a (wm V I) 46 1 := mkC (wS_6 h) (by omega) (by decide +kernel)
theorem aF_101_414_0 {V : wV} {I : Nat → Nat → Int32} {a : Nat} (h : a = 52) : zHasF 101 414 a (wm V I) 0 2 1 := mkF (wS_0 h) (by omega) (by omega) (by decide +kernel)
theorem aF_101_414_8 {V : wV} {I : Nat → Nat → Int32} {a : Nat} (h : a = 56 ∨ a = 108) : zHasF 101 414 a (wm V I) 8 60 1 := mkF (wS_8 h) (by omega) (by omega) (by decide +kernel)
theorem aI_0_27_5_7 {V : wV} {I : Nat → Nat → Int32} {a : Nat} (h : 58 ≤ a ∧ a < 232 ∧ a ≠ 108 ∧ a ≠ 109) : zHasI 0 27 a (wm V I) 5 := mkI (wS_7 h) (by omega) (by decide +kernel)
theorem aI_0_33_0_7 {V : wV} {I : Nat → Nat → Int32} {a : Nat} (h : 58 ≤ a ∧ a < 232 ∧ a ≠ 108 ∧ a ≠ 109) : zHasI 0 33 a (wm V I) 0 := mkI (wS_7 h) (by omega) (by decide +kernel)
theorem aI_0_44_8_7 {V : wV} {I : Nat → Nat → Int32} {a : Nat} (h : 58 ≤ a ∧ a < 232 ∧ a ≠ 108 ∧ a ≠ 109) : zHasI 0 44 a (wm V I) 8 := mkI (wS_7 h) (by omega) (by decide +kernel)
theorem aI_0_55_2_7 {V : wV} {I : Nat → Nat → Int32} {a : Nat} (h : 58 ≤ a ∧ a < 232 ∧ a ≠ 108 ∧ a ≠ 109) : zHasI 0 55 a (wm V I) 2 := mkI (wS_7 h) (by omega) (by decide +kernel)
theorem aI_0_61_3_7 {V : wV} {I : Nat → Nat → Int32} {a : Nat} (h : 58 ≤ a ∧ a < 232 ∧ a ≠ 108 ∧ a ≠ 109) : zHasI 0 61 a (wm V I) 3 := mkI (wS_7 h) (by omega) (by decide +kernel)
theorem aI_0_64_4_7 {V : wV} {I : Nat → Nat → Int32} {a : Nat} (h : 58 ≤ a ∧ a < 232 ∧ a ≠ 108 ∧ a ≠ 109) : zHasI 0 64 a (wm V I) 4 := mkI (wS_7 h) (by omega) (by decide +kernel)
theorem aI_10_117_50_10 {V : wV} {I : Nat → Nat → Int32} {a : Nat} (h : a = 354) : zHasI 10 117 a (wm V I) 50 := mkI (wS_10 h) (by omega) (by decide +kernel)
theorem aI_10_120_51_10 {V : wV} {I : Nat → Nat → Int32} {a : Nat} (h : a = 354) : zHasI 10 120 a (wm V I) 51 := mkI (wS_10 h) (by omega) (by decide +kernel)
theorem aI_10_123_52_10 {V : wV} {I : Nat → Nat → Int32} {a : Nat} (h : a = 354) : zHasI 10 123 a (wm V I) 52 := mkI (wS_10 h) (by omega) (by decide +kernel)
theorem aI_10_126_53_10 {V : wV} {I : Nat → Nat → Int32} {a : Nat} (h : a = 354) : zHasI 10 126 a (wm V I) 53 := mkI (wS_10 h) (by omega) (by decide +kernel)
theorem aI_10_138_26_10 {V : wV} {I : Nat → Nat → Int32} {a : Nat} (h : a = 354) : zHasI 10 138 a (wm V I) 26 := mkI (wS_10 h) (by omega) (by decide +kernel)
theorem aI_10_148_0_10 {V : wV} {I : Nat → Nat → Int32} {a : Nat} (h : a = 354) : zHasI 10 148 a (wm V I) 0 := mkI (wS_10 h) (by omega) (by decide +kernel)
theorem aI_10_183_40_10 {V : wV} {I : Nat → Nat → Int32} {a : Nat} (h : a = 354) : zHasI 10 183 a (wm V I) 40 := mkI (wS_10 h) (by omega) (by decide +kernel)
theorem aI_10_208_27_10 {V : wV} {I : Nat → Nat → Int32} {a : Nat} (h : a = 354) : zHasI 10 208 a (wm V I) 27 := mkI (wS_10 h) (by omega) (by decide +kernel)
theorem aI_10_211_29_10 {V : wV} {I : Nat → Nat → Int32} {a : Nat} (h : a = 354) : zHasI 10 211 a (wm V I) 29 := mkI (wS_10 h) (by omega) (by decide +kernel)
theorem aI_10_214_28_10 {V : wV} {I : Nat → Nat → Int32} {a : Nat} (h : a = 354) : zHasI 10 214 a (wm V I) 28 := mkI (wS_10 h) (by omega) (by decide +kernel)
theorem aI_10_228_32_10 {V : wV} {I : Nat → Nat → Int32} {a : Nat} (h : a = 354) : zHasI 10 228 a (wm V I) 32 := mkI (wS_10 h) (by omega) (by decide +kernel)
theorem aI_10_231_33_10 {V : wV} {I : Nat → Nat → Int32} {a : Nat} (h : a = 354) : zHasI 10 231 a (wm V I) 33 := mkI (wS_10 h) (by omega) (by decide +kernel)
theorem aI_10_234_34_10 {V : wV} {I : Nat → Nat → Int32} {a : Nat} (h : a = 354) : zHasI 10 234 a (wm V I) 34 := mkI (wS_10 h) (by omega) (by decide +kernel)
theorem aI_10_237_36_10 {V : wV} {I : Nat → Nat → Int32} {a : Nat} (h : a = 354) : zHasI 10 237 a (wm V I) 36 := mkI (wS_10 h) (by omega) (by decide +kernel)
theorem aI_10_250_45_10 {V : wV} {I : Nat → Nat → Int32} {a : Nat} (h : a = 354) : zHasI 10 250 a (wm V I) 45 := mkI (wS_10 h) (by omega) (by decide +kernel)
theorem aI_10_253_46_10 {V : wV} {I : Nat → Nat → Int32} {a : Nat} (h : a = 354) : zHasI 10 253 a (wm V I) 46 := mkI (wS_10 h) (by omega) (by decide +kernel)
theorem aI_10_256_47_10 {V : wV} {I : Nat → Nat → Int32} {a : Nat} (h : a = 354) : zHasI 10 256 a (wm V I) 47 := mkI (wS_10 h) (by omega) (by decide +kernel)
theorem aI_10_278_15_10 {V : wV} {I : Nat → Nat → Int32} {a : Nat} (h : a = 354) : zHasI 10 278 a (wm V I) 15 := mkI (wS_10 h) (by omega) (by decide +kernel)
theorem aI_10_281_16_10 {V : wV} {I : Nat → Nat → Int32} {a : Nat} (h : a = 354) : zHasI 10 281 a (wm V I) 16 := mkI (wS_10 h) (by omega) (by decide +kernel)
theorem aI_10_326_57_10 {V : wV} {I : Nat → Nat → Int32} {a : Nat} (h : a = 354) : zHasI 10 326 a (wm V I) 57 := mkI (wS_10 h) (by omega) (by decide +kernel)
theorem aI_10_41_11_10 {V : wV} {I : Nat → Nat → Int32} {a : Nat} (h : a = 354) : zHasI 10 41 a (wm V I) 11 := mkI (wS_10 h) (by omega) (by decide +kernel)
theorem aI_10_45_12_10 {V : wV} {I : Nat → Nat → Int32} {a : Nat} (h : a = 354) : zHasI 10 45 a (wm V I) 12 := mkI (wS_10 h) (by omega) (by decide +kernel)
theorem aI_10_48_13_10 {V : wV} {I : Nat → Nat → Int32} {a : Nat} (h : a = 354) : zHasI 10 48 a (wm V I) 13 := mkI (wS_10 h) (by omega) (by decide +kernel)
theorem aI_10_51_14_10 {V : wV} {I : Nat → Nat → Int32} {a : Nat} (h : a = 354) : zHasI 10 51 a (wm V I) 14 := mkI (wS_10 h) (by omega) (by decide +kernel)
theorem aI_10_81_30_10 {V : wV} {I : Nat → Nat → Int32} {a : Nat} (h : a = 354) : zHasI 10 81 a (wm V I) 30 := mkI (wS_10 h) (by omega) (by decide +kernel)
theorem aI_10_84_31_10 {V : wV} {I : Nat → Nat → Int32} {a : Nat} (h : a = 354) : zHasI 10 84 a (wm V I) 31 := mkI (wS_10 h) (by omega) (by decide +kernel)
theorem aI_2_17_1_2 {V : wV} {I : Nat → Nat → Int32} {a : Nat} (h : a = 4) : zHasI 2 17 a (wm V I) 1 := mkI (wS_2 h) (by omega) (by decide +kernel)
theorem aI_2_21_2_2 {V : wV} {I : Nat → Nat → Int32} {a : Nat} (h : a = 4) : zHasI 2 21 a (wm V I) 2 := mkI (wS_2 h) (by omega) (by decide +kernel)
theorem aI_2_25_9_1 {V : wV} {I : Nat → Nat → Int32} {a : Nat} (h : 6 ≤ a ∧ a < 46) : zHasI 2 25 a (wm V I) 9 := mkI (wS_1 h) (by omega) (by decide +kernel)
theorem aI_2_44_5_1 {V : wV} {I : Nat → Nat → Int32} {a : Nat} (h : 6 ≤ a ∧ a < 46) : zHasI 2 44 a (wm V I) 5 := mkI (wS_1 h) (by omega) (by decide +kernel)
theorem aI_2_44_5_5 {V : wV} {I : Nat → Nat → Int32} {a : Nat} (h : a = 232) : zHasI 2 44 a (wm V I) 5 := mkI (wS_5 h) (by omega) (by decide +kernel)
theorem aI_2_44_5_7 {V : wV} {I : Nat → Nat → Int32} {a : Nat} (h : 58 ≤ a ∧ a < 232 ∧ a ≠ 108 ∧ a ≠ 109) : zHasI 2 44 a (wm V I) 5 := mkI (wS_7 h) (by omega) (by decide +kernel)
theorem aI_2_49_0_1 {V : wV} {I : Nat → Nat → Int32} {a : Nat} (h : 6 ≤ a ∧ a < 46) : zHasI 2 49 a (wm V I) 0 := mkI (wS_1 h) (by omega) (by decide +kernel)
theorem aI_2_49_0_5 {V : wV} {I : Nat → Nat → Int32} {a : Nat} (h : a = 232) : zHasI 2 49 a (wm V I) 0 := mkI (wS_5 h) (by omega) (by decide +kernel)
theorem aI_2_49_0_7 {V : wV} {I : Nat → Nat → Int32} {a : Nat} (h : 58 ≤ a ∧ a < 232 ∧ a ≠ 108 ∧ a ≠ 109) : zHasI 2 49 a (wm V I) 0 := mkI (wS_7 h) (by omega) (by decide +kernel)
theorem aI_2_62_2_1 {V : wV} {I : Nat → Nat → Int32} {a : Nat} (h : 6 ≤ a ∧ a < 46) : zHasI 2 62 a (wm V I) 2 := mkI (wS_1 h) (by omega) (by decide +kernel)
theorem aI_2_62_2_5 {V : wV} {I : Nat → Nat → Int32} {a : Nat} (h : a = 232) : zHasI 2 62 a (wm V I) 2 := mkI (wS_5 h) (by omega) (by decide +kernel)
theorem aI_2_62_2_7 {V : wV} {I : Nat → Nat → Int32} {a : Nat} (h : 58 ≤ a ∧ a < 232 ∧ a ≠ 108 ∧ a ≠ 109) : zHasI 2 62 a (wm V I) 2 := mkI (wS_7 h) (by omega) (by decide +kernel)
theorem aI_3_100_4_1 {V : wV} {I : Nat → Nat → Int32} {a : Nat} (h : 6 ≤ a ∧ a < 46) : zHasI 3 100 a (wm V I) 4 := mkI (wS_1 h) (by omega) (by decide +kernel)
theorem aI_3_100_4_5 {V : wV} {I : Nat → Nat → Int32} {a : Nat} (h : a = 232) : zHasI 3 100 a (wm V I) 4 := mkI (wS_5 h) (by omega) (by decide +kernel)
theorem aI_3_100_4_7 {V : wV} {I : Nat → Nat → Int32} {a : Nat} (h : 58 ≤ a ∧ a < 232 ∧ a ≠ 108 ∧ a ≠ 109) : zHasI 3 100 a (wm V I) 4 := mkI (wS_7 h) (by omega) (by decide +kernel)
theorem aI_3_27_5_3 {V : wV} {I : Nat → Nat → Int32} {a : Nat} (h : a = 46) : zHasI 3 27 a (wm V I) 5 := mkI (wS_3 h) (by omega) (by decide +kernel)
theorem aI_3_31_6_3 {V : wV} {I : Nat → Nat → Int32} {a : Nat} (h : a = 46) : zHasI 3 31 a (wm V I) 6 := mkI (wS_3 h) (by omega) (by decide +kernel)
theorem aI_3_58_0_1 {V : wV} {I : Nat → Nat → Int32} {a : Nat} (h : 6 ≤ a ∧ a < 46) : zHasI 3 58 a (wm V I) 0 := mkI (wS_1 h) (by omega) (by decide +kernel)
theorem aI_3_63_2_1 {V : wV} {I : Nat → Nat → Int32} {a : Nat} (h : 6 ≤ a ∧ a < 46) : zHasI 3 63 a (wm V I) 2 := mkI (wS_1 h) (by omega) (by decide +kernel)
theorem aI_3_66_4_1 {V : wV} {I : Nat → Nat → Int32} {a : Nat} (h : 6 ≤ a ∧ a < 46) : zHasI 3 66 a (wm V I) 4 := mkI (wS_1 h) (by omega) (by decide +kernel)
theorem aI_3_82_0_1 {V : wV} {I : Nat → Nat → Int32} {a : Nat} (h : 6 ≤ a ∧ a < 46) : zHasI 3 82 a (wm V I) 0 := mkI (wS_1 h) (by omega) (by decide +kernel)
theorem aI_3_82_0_5 {V : wV} {I : Nat → Nat → Int32} {a : Nat} (h : a = 232) : zHasI 3 82 a (wm V I) 0 := mkI (wS_5 h) (by omega) (by decide +kernel)
theorem aI_3_82_0_7 {V : wV} {I : Nat → Nat → Int32} {a : Nat} (h : 58 ≤ a ∧ a < 232 ∧ a ≠ 108 ∧ a ≠ 109) : zHasI 3 82 a (wm V I) 0 := mkI (wS_7 h) (by omega) (by decide +kernel)
theorem aI_3_85_1_1 {V : wV} {I : Nat → Nat → Int32} {a : Nat} (h : 6 ≤ a ∧ a < 46) : zHasI 3 85 a (wm V I) 1 := mkI (wS_1 h) (by omega) (by decide +kernel)
theorem aI_3_85_1_5 {V : wV} {I : Nat → Nat → Int32} {a : Nat} (h : a = 232) : zHasI 3 85 a (wm V I) 1 := mkI (wS_5 h) (by omega) (by decide +kernel)
theorem aI_3_85_1_7 {V : wV} {I : Nat → Nat → Int32} {a : Nat} (h : 58 ≤ a ∧ a < 232 ∧ a ≠ 108 ∧ a ≠ 109) : zHasI 3 85 a (wm V I) 1 := mkI (wS_7 h) (by omega) (by decide +kernel)
theorem aI_3_93_2_1 {V : wV} {I : Nat → Nat → Int32} {a : Nat} (h : 6 ≤ a ∧ a < 46) : zHasI 3 93 a (wm V I) 2 := mkI (wS_1 h) (by omega) (by decide +kernel)
theorem aI_3_93_2_5 {V : wV} {I : Nat → Nat → Int32} {a : Nat} (h : a = 232) : zHasI 3 93 a (wm V I) 2 := mkI (wS_5 h) (by omega) (by decide +kernel)
theorem aI_3_93_2_7 {V : wV} {I : Nat → Nat → Int32} {a : Nat} (h : 58 ≤ a ∧ a < 232 ∧ a ≠ 108 ∧ a ≠ 109) : zHasI 3 93 a (wm V I) 2 := mkI (wS_7 h) (by omega) (by decide +kernel)
theorem aI_3_94_3_1 {V : wV} {I : Nat → Nat → Int32} {a : Nat} (h : 6 ≤ a ∧ a < 46) : zHasI 3 94 a (wm V I) 3 := mkI (wS_1 h) (by omega) (by decide +kernel)
theorem aI_3_94_3_5 {V : wV} {I : Nat → Nat → Int32} {a : Nat} (h : a = 232) : zHasI 3 94 a (wm V I) 3 := mkI (wS_5 h) (by omega) (by decide +kernel)
theorem aI_3_94_3_7 {V : wV} {I : Nat → Nat → Int32} {a : Nat} (h : 58 ≤ a ∧ a < 232 ∧ a ≠ 108 ∧ a ≠ 109) : zHasI 3 94 a (wm V I) 3 := mkI (wS_7 h) (by omega) (by decide +kernel)
theorem aI_4_21_3_4 {V : wV} {I : Nat → Nat → Int32} {a : Nat} (h : 240 ≤ a ∧ a < 354 ∧ (a - 234) % 10 = 6) : zHasI 4 21 a (wm V I) 3 := mkI (wS_4 h) (by omega) (by decide +kernel)
theorem aI_4_25_4_4 {V : wV} {I : Nat → Nat → Int32} {a : Nat} (h : 240 ≤ a ∧ a < 354 ∧ (a - 234) % 10 = 6) : zHasI 4 25 a (wm V I) 4 := mkI (wS_4 h) (by omega) (by decide +kernel)
theorem aI_4_28_5_4 {V : wV} {I : Nat → Nat → Int32} {a : Nat} (h : 240 ≤ a ∧ a < 354 ∧ (a - 234) % 10 = 6) : zHasI 4 28 a (wm V I) 5 := mkI (wS_4 h) (by omega) (by decide +kernel)
theorem aI_4_31_6_4 {V : wV} {I : Nat → Nat → Int32} {a : Nat} (h : 240 ≤ a ∧ a < 354 ∧ (a - 234) % 10 = 6) : zHasI 4 31 a (wm V I) 6 := mkI (wS_4 h) (by omega) (by decide +kernel)
theorem aI_4_34_7_4 {V : wV} {I : Nat → Nat → Int32} {a : Nat} (h : 240 ≤ a ∧ a < 354 ∧ (a - 234) % 10 = 6) : zHasI 4 34 a (wm V I) 7 := mkI (wS_4 h) (by omega) (by decide +kernel)
theorem aI_4_37_8_4 {V : wV} {I : Nat → Nat → Int32} {a : Nat} (h : 240 ≤ a ∧ a < 354 ∧ (a - 234) % 10 = 6) : zHasI 4 37 a (wm V I) 8 := mkI (wS_4 h) (by omega) (by decide +kernel)
theorem aI_4_40_7_6 {V : wV} {I : Nat → Nat → Int32} {a : Nat} (h : 234 ≤ a ∧ a < 354 ∧ (a - 234) % 10 = 0) : zHasI 4 40 a (wm V I) 7 := mkI (wS_6 h) (by omega) (by decide +kernel)
theorem aI_5_15_1_1 {V : wV} {I : Nat → Nat → Int32} {a : Nat} (h : 6 ≤ a ∧ a < 46) : zHasI 5 15 a (wm V I) 1 := mkI (wS_1 h) (by omega) (by decide +kernel)
theorem aI_5_15_1_5 {V : wV} {I : Nat → Nat → Int32} {a : Nat} (h : a = 232) : zHasI 5 15 a (wm V I) 1 := mkI (wS_5 h) (by omega) (by decide +kernel)
theorem aI_5_15_1_7 {V : wV} {I : Nat → Nat → Int32} {a : Nat} (h : 58 ≤ a ∧ a < 232 ∧ a ≠ 108 ∧ a ≠ 109) : zHasI 5 15 a (wm V I) 1 := mkI (wS_7 h) (by omega) (by decide +kernel)
theorem aI_5_18_2_1 {V : wV} {I : Nat → Nat → Int32} {a : Nat} (h : 6 ≤ a ∧ a < 46) : zHasI 5 18 a (wm V I) 2 := mkI (wS_1 h) (by omega) (by decide +kernel)
theorem aI_5_18_2_5 {V : wV} {I : Nat → Nat → Int32} {a : Nat} (h : a = 232) : zHasI 5 18 a (wm V I) 2 := mkI (wS_5 h) (by omega) (by decide +kernel)
theorem aI_5_18_2_7 {V : wV} {I : Nat → Nat → Int32} {a : Nat} (h : 58 ≤ a ∧ a < 232 ∧ a ≠ 108 ∧ a ≠ 109) : zHasI 5 18 a (wm V I) 2 := mkI (wS_7 h) (by omega) (by decide +kernel)
theorem aI_5_21_3_1 {V : wV} {I : Nat → Nat → Int32} {a : Nat} (h : 6 ≤ a ∧ a < 46) : zHasI 5 21 a (wm V I) 3 := mkI (wS_1 h) (by omega) (by decide +kernel)
theorem aI_5_21_3_5 {V : wV} {I : Nat → Nat → Int32} {a : Nat} (h : a = 232) : zHasI 5 21 a (wm V I) 3 := mkI (wS_5 h) (by omega) (by decide +kernel)
theorem aI_5_21_3_7 {V : wV} {I : Nat → Nat → Int32} {a : Nat} (h : 58 ≤ a ∧ a < 232 ∧ a ≠ 108 ∧ a ≠ 109) : zHasI 5 21 a (wm V I) 3 := mkI (wS_7 h) (by omega) (by decide +kernel)
theorem aI_5_24_4_1 {V : wV} {I : Nat → Nat → Int32} {a : Nat} (h : 6 ≤ a ∧ a < 46) : zHasI 5 24 a (wm V I) 4 := mkI (wS_1 h) (by omega) (by decide +kernel)
theorem aI_5_24_4_5 {V : wV} {I : Nat → Nat → Int32} {a : Nat} (h : a = 232) : zHasI 5 24 a (wm V I) 4 := mkI (wS_5 h) (by omega) (by decide +kernel)
theorem aI_5_24_4_7 {V : wV} {I : Nat → Nat → Int32} {a : Nat} (h : 58 ≤ a ∧ a < 232 ∧ a ≠ 108 ∧ a ≠ 109) : zHasI 5 24 a (wm V I) 4 := mkI (wS_7 h) (by omega) (by decide +kernel)
theorem aI_5_27_5_1 {V : wV} {I : Nat → Nat → Int32} {a : Nat} (h : 6 ≤ a ∧ a < 46) : zHasI 5 27 a (wm V I) 5 := mkI (wS_1 h) (by omega) (by decide +kernel)
theorem aI_5_27_5_5 {V : wV} {I : Nat → Nat → Int32} {a : Nat} (h : a = 232) : zHasI 5 27 a (wm V I) 5 := mkI (wS_5 h) (by omega) (by decide +kernel)
theorem aI_5_27_5_7 {V : wV} {I : Nat → Nat → Int32} {a : Nat} (h : 58 ≤ a ∧ a < 232 ∧ a ≠ 108 ∧ a ≠ 109) : zHasI 5 27 a (wm V I) 5 := mkI (wS_7 h) (by omega) (by decide +kernel)
theorem aI_5_30_6_1 {V : wV} {I : Nat → Nat → Int32} {a : Nat} (h : 6 ≤ a ∧ a < 46) : zHasI 5 30 a (wm V I) 6 := mkI (wS_1 h) (by omega) (by decide +kernel)
theorem aI_5_30_6_5 {V : wV} {I : Nat → Nat → Int32} {a : Nat} (h : a = 232) : zHasI 5 30 a (wm V I) 6 := mkI (wS_5 h) (by omega) (by decide +kernel)
theorem aI_5_30_6_7 {V : wV} {I : Nat → Nat → Int32} {a : Nat} (h : 58 ≤ a ∧ a < 232 ∧ a ≠ 108 ∧ a ≠ 109) : zHasI 5 30 a (wm V I) 6 := mkI (wS_7 h) (by omega) (by decide +kernel)
theorem aI_5_33_7_1 {V : wV} {I : Nat → Nat → Int32} {a : Nat} (h : 6 ≤ a ∧ a < 46) : zHasI 5 33 a (wm V I) 7 := mkI (wS_1 h) (by omega) (by decide +kernel)
theorem aI_5_33_7_5 {V : wV} {I : Nat → Nat → Int32} {a : Nat} (h : a = 232) : zHasI 5 33 a (wm V I) 7 := mkI (wS_5 h) (by omega) (by decide +kernel)
theorem aI_5_33_7_7 {V : wV} {I : Nat → Nat → Int32} {a : Nat} (h : 58 ≤ a ∧ a < 232 ∧ a ≠ 108 ∧ a ≠ 109) : zHasI 5 33 a (wm V I) 7 := mkI (wS_7 h) (by omega) (by decide +kernel)
theorem aI_5_36_0_6 {V : wV} {I : Nat → Nat → Int32} {a : Nat} (h : 234 ≤ a ∧ a < 354 ∧ (a - 234) % 10 = 0) : zHasI 5 36 a (wm V I) 0 := mkI (wS_6 h) (by omega) (by decide +kernel)
theorem aI_5_41_7_6 {V : wV} {I : Nat → Nat → Int32} {a : Nat} (h : 234 ≤ a ∧ a < 354 ∧ (a - 234) % 10 = 0) : zHasI 5 41 a (wm V I) 7 := mkI (wS_6 h) (by omega) (by decide +kernel)
theorem aI_5_9_0_1 {V : wV} {I : Nat → Nat → Int32} {a : Nat} (h : 6 ≤ a ∧ a < 46) : zHasI 5 9 a (wm V I) 0 := mkI (wS_1 h) (by omega) (by decide +kernel)
theorem aI_5_9_0_5 {V : wV} {I : Nat → Nat → Int32} {a : Nat} (h : a = 232) : zHasI 5 9 a (wm V I) 0 := mkI (wS_5 h) (by omega) (by decide +kernel)
theorem aI_5_9_0_7 {V : wV} {I : Nat → Nat → Int32} {a : Nat} (h : 58 ≤ a ∧ a < 232 ∧ a ≠ 108 ∧ a ≠ 109) : zHasI 5 9 a (wm V I) 0 := mkI (wS_7 h) (by omega) (by decide +kernel)
theorem aI_6_37_7_6 {V : wV} {I : Nat → Nat → Int32} {a : Nat} (h : 234 ≤ a ∧ a < 354 ∧ (a - 234) % 10 = 0) : zHasI 6 37 a (wm V I) 7 := mkI (wS_6 h) (by omega) (by decide +kernel)
theorem aI_7_15_9_7 {V : wV} {I : Nat → Nat → Int32} {a : Nat} (h : 58 ≤ a ∧ a < 232 ∧ a ≠ 108 ∧ a ≠ 109) : zHasI 7 15 a (wm V I) 9 := mkI (wS_7 h) (by omega) (by decide +kernel)
theorem aI_7_22_6_7 {V : wV} {I : Nat → Nat → Int32} {a : Nat} (h : 58 ≤ a ∧ a < 232 ∧ a ≠ 108 ∧ a ≠ 109) : zHasI 7 22 a (wm V I) 6 := mkI (wS_7 h) (by omega) (by decide +kernel)
theorem aI_7_25_7_7 {V : wV} {I : Nat → Nat → Int32} {a : Nat} (h : 58 ≤ a ∧ a < 232 ∧ a ≠ 108 ∧ a ≠ 109) : zHasI 7 25 a (wm V I) 7 := mkI (wS_7 h) (by omega) (by decide +kernel)
theorem aI_7_40_5_7 {V : wV} {I : Nat → Nat → Int32} {a : Nat} (h : 58 ≤ a ∧ a < 232 ∧ a ≠ 108 ∧ a ≠ 109) : zHasI 7 40 a (wm V I) 5 := mkI (wS_7 h) (by omega) (by decide +kernel)
theorem aI_7_70_0_7 {V : wV} {I : Nat → Nat → Int32} {a : Nat} (h : 58 ≤ a ∧ a < 232 ∧ a ≠ 108 ∧ a ≠ 109) : zHasI 7 70 a (wm V I) 0 := mkI (wS_7 h) (by omega) (by decide +kernel)
theorem aI_7_73_2_7 {V : wV} {I : Nat → Nat → Int32} {a : Nat} (h : 58 ≤ a ∧ a < 232 ∧ a ≠ 108 ∧ a ≠ 109) : zHasI 7 73 a (wm V I) 2 := mkI (wS_7 h) (by omega) (by decide +kernel)
theorem aI_7_76_1_7 {V : wV} {I : Nat → Nat → Int32} {a : Nat} (h : 58 ≤ a ∧ a < 232 ∧ a ≠ 108 ∧ a ≠ 109) : zHasI 7 76 a (wm V I) 1 := mkI (wS_7 h) (by omega) (by decide +kernel)
theorem aI_7_79_3_7 {V : wV} {I : Nat → Nat → Int32} {a : Nat} (h : 58 ≤ a ∧ a < 232 ∧ a ≠ 108 ∧ a ≠ 109) : zHasI 7 79 a (wm V I) 3 := mkI (wS_7 h) (by omega) (by decide +kernel)
theorem aI_7_82_4_7 {V : wV} {I : Nat → Nat → Int32} {a : Nat} (h : 58 ≤ a ∧ a < 232 ∧ a ≠ 108 ∧ a ≠ 109) : zHasI 7 82 a (wm V I) 4 := mkI (wS_7 h) (by omega) (by decide +kernel)
theorem aI_7_9_8_7 {V : wV} {I : Nat → Nat → Int32} {a : Nat} (h : 58 ≤ a ∧ a < 232 ∧ a ≠ 108 ∧ a ≠ 109) : zHasI 7 9 a (wm V I) 8 := mkI (wS_7 h) (by omega) (by decide +kernel)
theorem aI_8_7_1_8 {V : wV} {I : Nat → Nat → Int32} {a : Nat} (h : a = 56 ∨ a = 108) : zHasI 8 7 a (wm V I) 1 := mkI (wS_8 h) (by omega) (by decide +kernel)
theorem aI_9_100_19_9 {V : wV} {I : Nat → Nat → Int32} {a : Nat} (h : a = 0) : zHasI 9 100 a (wm V I) 19 := mkI (wS_9 h) (by omega) (by decide +kernel)
theorem aI_9_124_8_6 {V : wV} {I : Nat → Nat → Int32} {a : Nat} (h : 234 ≤ a ∧ a < 354 ∧ (a - 234) % 10 = 0) : zHasI 9 124 a (wm V I) 8 := mkI (wS_6 h) (by omega) (by decide +kernel)
theorem aI_9_128_7_6 {V : wV} {I : Nat → Nat → Int32} {a : Nat} (h : 234 ≤ a ∧ a < 354 ∧ (a - 234) % 10 = 0) : zHasI 9 128 a (wm V I) 7 := mkI (wS_6 h) (by omega) (by decide +kernel)
theorem aI_9_172_9_6 {V : wV} {I : Nat → Nat → Int32} {a : Nat} (h : 234 ≤ a ∧ a < 354 ∧ (a - 234) % 10 = 0) : zHasI 9 172 a (wm V I) 9 := mkI (wS_6 h) (by omega) (by decide +kernel)
theorem aI_9_178_10_6 {V : wV} {I : Nat → Nat → Int32} {a : Nat} (h : 234 ≤ a ∧ a < 354 ∧ (a - 234) % 10 = 0) : zHasI 9 178 a (wm V I) 10 := mkI (wS_6 h) (by omega) (by decide +kernel)
theorem aI_9_245_8_7 {V : wV} {I : Nat → Nat → Int32} {a : Nat} (h : 58 ≤ a ∧ a < 232 ∧ a ≠ 108 ∧ a ≠ 109) : zHasI 9 245 a (wm V I) 8 := mkI (wS_7 h) (by omega) (by decide +kernel)
theorem aI_9_248_9_7 {V : wV} {I : Nat → Nat → Int32} {a : Nat} (h : 58 ≤ a ∧ a < 232 ∧ a ≠ 108 ∧ a ≠ 109) : zHasI 9 248 a (wm V I) 9 := mkI (wS_7 h) (by omega) (by decide +kernel)
theorem aI_9_251_5_7 {V : wV} {I : Nat → Nat → Int32} {a : Nat} (h : 58 ≤ a ∧ a < 232 ∧ a ≠ 108 ∧ a ≠ 109) : zHasI 9 251 a (wm V I) 5 := mkI (wS_7 h) (by omega) (by decide +kernel)
theorem aI_9_272_1_8 {V : wV} {I : Nat → Nat → Int32} {a : Nat} (h : a = 56 ∨ a = 108) : zHasI 9 272 a (wm V I) 1 := mkI (wS_8 h) (by omega) (by decide +kernel)
theorem aI_9_279_1_7 {V : wV} {I : Nat → Nat → Int32} {a : Nat} (h : 58 ≤ a ∧ a < 232 ∧ a ≠ 108 ∧ a ≠ 109) : zHasI 9 279 a (wm V I) 1 := mkI (wS_7 h) (by omega) (by decide +kernel)
theorem aI_9_282_3_7 {V : wV} {I : Nat → Nat → Int32} {a : Nat} (h : 58 ≤ a ∧ a < 232 ∧ a ≠ 108 ∧ a ≠ 109) : zHasI 9 282 a (wm V I) 3 := mkI (wS_7 h) (by omega) (by decide +kernel)
theorem aI_9_285_4_7 {V : wV} {I : Nat → Nat → Int32} {a : Nat} (h : 58 ≤ a ∧ a < 232 ∧ a ≠ 108 ∧ a ≠ 109) : zHasI 9 285 a (wm V I) 4 := mkI (wS_7 h) (by omega) (by decide +kernel)
theorem aI_9_325_6_3 {V : wV} {I : Nat → Nat → Int32} {a : Nat} (h : a = 46) : zHasI 9 325 a (wm V I) 6 := mkI (wS_3 h) (by omega) (by decide +kernel)
theorem aI_9_332_0_1 {V : wV} {I : Nat → Nat → Int32} {a : Nat} (h : 6 ≤ a ∧ a < 46) : zHasI 9 332 a (wm V I) 0 := mkI (wS_1 h) (by omega) (by decide +kernel)
theorem aI_9_337_1_1 {V : wV} {I : Nat → Nat → Int32} {a : Nat} (h : 6 ≤ a ∧ a < 46) : zHasI 9 337 a (wm V I) 1 := mkI (wS_1 h) (by omega) (by decide +kernel)
theorem aI_9_338_2_1 {V : wV} {I : Nat → Nat → Int32} {a : Nat} (h : 6 ≤ a ∧ a < 46) : zHasI 9 338 a (wm V I) 2 := mkI (wS_1 h) (by omega) (by decide +kernel)
theorem aI_9_341_3_1 {V : wV} {I : Nat → Nat → Int32} {a : Nat} (h : 6 ≤ a ∧ a < 46) : zHasI 9 341 a (wm V I) 3 := mkI (wS_1 h) (by omega) (by decide +kernel)
theorem aI_9_342_4_1 {V : wV} {I : Nat → Nat → Int32} {a : Nat} (h : 6 ≤ a ∧ a < 46) : zHasI 9 342 a (wm V I) 4 := mkI (wS_1 h) (by omega) (by decide +kernel)
theorem aI_9_343_5_1 {V : wV} {I : Nat → Nat → Int32} {a : Nat} (h : 6 ≤ a ∧ a < 46) : zHasI 9 343 a (wm V I) 5 := mkI (wS_1 h) (by omega) (by decide +kernel)
theorem aI_9_344_8_1 {V : wV} {I : Nat → Nat → Int32} {a : Nat} (h : 6 ≤ a ∧ a < 46) : zHasI 9 344 a (wm V I) 8 := mkI (wS_1 h) (by omega) (by decide +kernel)
theorem aI_9_372_1_2 {V : wV} {I : Nat → Nat → Int32} {a : Nat} (h : a = 4) : zHasI 9 372 a (wm V I) 1 := mkI (wS_2 h) (by omega) (by decide +kernel)
theorem aI_9_388_0_7 {V : wV} {I : Nat → Nat → Int32} {a : Nat} (h : 58 ≤ a ∧ a < 232 ∧ a ≠ 108 ∧ a ≠ 109) : zHasI 9 388 a (wm V I) 0 := mkI (wS_7 h) (by omega) (by decide +kernel)
theorem aI_9_389_2_7 {V : wV} {I : Nat → Nat → Int32} {a : Nat} (h : 58 ≤ a ∧ a < 232 ∧ a ≠ 108 ∧ a ≠ 109) : zHasI 9 389 a (wm V I) 2 := mkI (wS_7 h) (by omega) (by decide +kernel)
theorem aI_9_426_5_1 {V : wV} {I : Nat → Nat → Int32} {a : Nat} (h : 6 ≤ a ∧ a < 46) : zHasI 9 426 a (wm V I) 5 := mkI (wS_1 h) (by omega) (by decide +kernel)
theorem aI_9_426_5_5 {V : wV} {I : Nat → Nat → Int32} {a : Nat} (h : a = 232) : zHasI 9 426 a (wm V I) 5 := mkI (wS_5 h) (by omega) (by decide +kernel)
theorem aI_9_426_5_7 {V : wV} {I : Nat → Nat → Int32} {a : Nat} (h : 58 ≤ a ∧ a < 232 ∧ a ≠ 108 ∧ a ≠ 109) : zHasI 9 426 a (wm V I) 5 := mkI (wS_7 h) (by omega) (by decide +kernel)
theorem aI_9_427_0_1 {V : wV} {I : Nat → Nat → Int32} {a : Nat} (h : 6 ≤ a ∧ a < 46) : zHasI 9 427 a (wm V I) 0 := mkI (wS_1 h) (by omega) (by decide +kernel)
theorem aI_9_427_0_5 {V : wV} {I : Nat → Nat → Int32} {a : Nat} (h : a = 232) : zHasI 9 427 a (wm V I) 0 := mkI (wS_5 h) (by omega) (by decide +kernel)
theorem aI_9_427_0_7 {V : wV} {I : Nat → Nat → Int32} {a : Nat} (h : 58 ≤ a ∧ a < 232 ∧ a ≠ 108 ∧ a ≠ 109) : zHasI 9 427 a (wm V I) 0 := mkI (wS_7 h) (by omega) (by decide +kernel)
theorem aI_9_431_2_1 {V : wV} {I : Nat → Nat → Int32} {a : Nat} (h : 6 ≤ a ∧ a < 46) : zHasI 9 431 a (wm V I) 2 := mkI (wS_1 h) (by omega) (by decide +kernel)
theorem aI_9_431_2_5 {V : wV} {I : Nat → Nat → Int32} {a : Nat} (h : a = 232) : zHasI 9 431 a (wm V I) 2 := mkI (wS_5 h) (by omega) (by decide +kernel)
theorem aI_9_431_2_7 {V : wV} {I : Nat → Nat → Int32} {a : Nat} (h : 58 ≤ a ∧ a < 232 ∧ a ≠ 108 ∧ a ≠ 109) : zHasI 9 431 a (wm V I) 2 := mkI (wS_7 h) (by omega) (by decide +kernel)
theorem aI_9_78_12_9 {V : wV} {I : Nat → Nat → Int32} {a : Nat} (h : a = 0) : zHasI 9 78 a (wm V I) 12 := mkI (wS_9 h) (by omega) (by decide +kernel)
theorem aI_9_82_13_9 {V : wV} {I : Nat → Nat → Int32} {a : Nat} (h : a = 0) : zHasI 9 82 a (wm V I) 13 := mkI (wS_9 h) (by omega) (by decide +kernel)
theorem aI_9_85_14_9 {V : wV} {I : Nat → Nat → Int32} {a : Nat} (h : a = 0) : zHasI 9 85 a (wm V I) 14 := mkI (wS_9 h) (by omega) (by decide +kernel)
theorem aI_9_88_15_9 {V : wV} {I : Nat → Nat → Int32} {a : Nat} (h : a = 0) : zHasI 9 88 a (wm V I) 15 := mkI (wS_9 h) (by omega) (by decide +kernel)
theorem aI_9_91_16_9 {V : wV} {I : Nat → Nat → Int32} {a : Nat} (h : a = 0) : zHasI 9 91 a (wm V I) 16 := mkI (wS_9 h) (by omega) (by decide +kernel)
theorem aI_9_94_17_9 {V : wV} {I : Nat → Nat → Int32} {a : Nat} (h : a = 0) : zHasI 9 94 a (wm V I) 17 := mkI (wS_9 h) (by omega) (by decide +kernel)
theorem aI_9_97_18_9 {V : wV} {I : Nat → Nat → Int32} {a : Nat} (h : a = 0) : zHasI 9 97 a (wm V I) 18 := mkI (wS_9 h) (by omega) (by decide +kernel)
theorem aQ_0_15_1_0 {V : wV} {I : Nat → Nat → Int32} {a : Nat} (h : a = 52) : zHasQ 0 15 a (wm V I) 1 := mkQ (wS_0 h) (by omega) (by decide +kernel) (wR_0_1 h)
theorem aQ_0_18_2_0 {V : wV} {I : Nat → Nat → Int32} {a : Nat} (h : a = 52) : zHasQ 0 18 a (wm V I) 2 := mkQ (wS_0 h) (by omega) (by decide +kernel) (wR_0_2 h)
theorem aQ_0_9_0_0 {V : wV} {I : Nat → Nat → Int32} {a : Nat} (h : a = 52) : zHasQ 0 9 a (wm V I) 0 := mkQ (wS_0 h) (by omega) (by decide +kernel) (wR_0_0 h)
theorem aQ_10_102_42_10 {V : wV} {I : Nat → Nat → Int32} {a : Nat} (h : a = 354) : zHasQ 10 102 a (wm V I) 42 := mkQ (wS_10 h) (by omega) (by decide +kernel) (wR_10_42 h)
theorem aQ_10_105_43_10 {V : wV} {I : Nat → Nat → Int32} {a : Nat} (h : a = 354) : zHasQ 10 105 a (wm V I) 43 := mkQ (wS_10 h) (by omega) (by decide +kernel) (wR_10_43 h)
theorem aQ_10_108_44_10 {V : wV} {I : Nat → Nat → Int32} {a : Nat} (h : a = 354) : zHasQ 10 108 a (wm V I) 44 := mkQ (wS_10 h) (by omega) (by decide +kernel) (wR_10_44 h)
theorem aQ_10_111_48_10 {V : wV} {I : Nat → Nat → Int32} {a : Nat} (h : a = 354) : zHasQ 10 111 a (wm V I) 48 := mkQ (wS_10 h) (by omega) (by decide +kernel) (wR_10_48 h)
theorem aQ_10_114_49_10 {V : wV} {I : Nat → Nat → Int32} {a : Nat} (h : a = 354) : zHasQ 10 114 a (wm V I) 49 := mkQ (wS_10 h) (by omega) (by decide +kernel) (wR_10_49 h)
theorem aQ_10_129_54_10 {V : wV} {I : Nat → Nat → Int32} {a : Nat} (h : a = 354) : zHasQ 10 129 a (wm V I) 54 := mkQ (wS_10 h) (by omega) (by decide +kernel) (wR_10_54 h)
theorem aQ_10_13_2_10 {V : wV} {I : Nat → Nat → Int32} {a : Nat} (h : a = 354) : zHasQ 10 13 a (wm V I) 2 := mkQ (wS_10 h) (by omega) (by decide +kernel) (wR_10_2 h)
theorem aQ_10_132_55_10 {V : wV} {I : Nat → Nat → Int32} {a : Nat} (h : a = 354) : zHasQ 10 132 a (wm V I) 55 := mkQ (wS_10 h) (by omega) (by decide +kernel) (wR_10_55 h)
theorem aQ_10_135_56_10 {V : wV} {I : Nat → Nat → Int32} {a : Nat} (h : a = 354) : zHasQ 10 135 a (wm V I) 56 := mkQ (wS_10 h) (by omega) (by decide +kernel) (wR_10_56 h)
theorem aQ_10_16_3_10 {V : wV} {I : Nat → Nat → Int32} {a : Nat} (h : a = 354) : zHasQ 10 16 a (wm V I) 3 := mkQ (wS_10 h) (by omega) (by decide +kernel) (wR_10_3 h)
theorem aQ_10_20_4_10 {V : wV} {I : Nat → Nat → Int32} {a : Nat} (h : a = 354) : zHasQ 10 20 a (wm V I) 4 := mkQ (wS_10 h) (by omega) (by decide +kernel) (wR_10_4 h)
theorem aQ_10_23_5_10 {V : wV} {I : Nat → Nat → Int32} {a : Nat} (h : a = 354) : zHasQ 10 23 a (wm V I) 5 := mkQ (wS_10 h) (by omega) (by decide +kernel) (wR_10_5 h)
theorem aQ_10_26_6_10 {V : wV} {I : Nat → Nat → Int32} {a : Nat} (h : a = 354) : zHasQ 10 26 a (wm V I) 6 := mkQ (wS_10 h) (by omega) (by decide +kernel) (wR_10_6 h)
theorem aQ_10_29_7_10 {V : wV} {I : Nat → Nat → Int32} {a : Nat} (h : a = 354) : zHasQ 10 29 a (wm V I) 7 := mkQ (wS_10 h) (by omega) (by decide +kernel) (wR_10_7 h)
theorem aQ_10_32_8_10 {V : wV} {I : Nat → Nat → Int32} {a : Nat} (h : a = 354) : zHasQ 10 32 a (wm V I) 8 := mkQ (wS_10 h) (by omega) (by decide +kernel) (wR_10_8 h)
theorem aQ_10_35_9_10 {V : wV} {I : Nat → Nat → Int32} {a : Nat} (h : a = 354) : zHasQ 10 35 a (wm V I) 9 := mkQ (wS_10 h) (by omega) (by decide +kernel) (wR_10_9 h)
theorem aQ_10_38_10_10 {V : wV} {I : Nat → Nat → Int32} {a : Nat} (h : a = 354) : zHasQ 10 38 a (wm V I) 10 := mkQ (wS_10 h) (by omega) (by decide +kernel) (wR_10_10 h)
theorem aQ_10_54_17_10 {V : wV} {I : Nat → Nat → Int32} {a : Nat} (h : a = 354) : zHasQ 10 54 a (wm V I) 17 := mkQ (wS_10 h) (by omega) (by decide +kernel) (wR_10_17 h)
theorem aQ_10_57_18_10 {V : wV} {I : Nat → Nat → Int32} {a : Nat} (h : a = 354) : zHasQ 10 57 a (wm V I) 18 := mkQ (wS_10 h) (by omega) (by decide +kernel) (wR_10_18 h)
theorem aQ_10_60_19_10 {V : wV} {I : Nat → Nat → Int32} {a : Nat} (h : a = 354) : zHasQ 10 60 a (wm V I) 19 := mkQ (wS_10 h) (by omega) (by decide +kernel) (wR_10_19 h)
theorem aQ_10_63_20_10 {V : wV} {I : Nat → Nat → Int32} {a : Nat} (h : a = 354) : zHasQ 10 63 a (wm V I) 20 := mkQ (wS_10 h) (by omega) (by decide +kernel) (wR_10_20 h)
theorem aQ_10_66_21_10 {V : wV} {I : Nat → Nat → Int32} {a : Nat} (h : a = 354) : zHasQ 10 66 a (wm V I) 21 := mkQ (wS_10 h) (by omega) (by decide +kernel) (wR_10_21 h)
theorem aQ_10_69_22_10 {V : wV} {I : Nat → Nat → Int32} {a : Nat} (h : a = 354) : zHasQ 10 69 a (wm V I) 22 := mkQ (wS_10 h) (by omega) (by decide +kernel) (wR_10_22 h)
theorem aQ_10_7_1_10 {V : wV} {I : Nat → Nat → Int32} {a : Nat} (h : a = 354) : zHasQ 10 7 a (wm V I) 1 := mkQ (wS_10 h) (by omega) (by decide +kernel) (wR_10_1 h)
theorem aQ_10_72_23_10 {V : wV} {I : Nat → Nat → Int32} {a : Nat} (h : a = 354) : zHasQ 10 72 a (wm V I) 23 := mkQ (wS_10 h) (by omega) (by decide +kernel) (wR_10_23 h)
theorem aQ_10_75_24_10 {V : wV} {I : Nat → Nat → Int32} {a : Nat} (h : a = 354) : zHasQ 10 75 a (wm V I) 24 := mkQ (wS_10 h) (by omega) (by decide +kernel) (wR_10_24 h)
theorem aQ_10_78_25_10 {V : wV} {I : Nat → Nat → Int32} {a : Nat} (h : a = 354) : zHasQ 10 78 a (wm V I) 25 := mkQ (wS_10 h) (by omega) (by decide +kernel) (wR_10_25 h)
theorem aQ_10_87_35_10 {V : wV} {I : Nat → Nat → Int32} {a : Nat} (h : a = 354) : zHasQ 10 87 a (wm V I) 35 := mkQ (wS_10 h) (by omega) (by decide +kernel) (wR_10_35 h)
theorem aQ_10_90_37_10 {V : wV} {I : Nat → Nat → Int32} {a : Nat} (h : a = 354) : zHasQ 10 90 a (wm V I) 37 := mkQ (wS_10 h) (by omega) (by decide +kernel) (wR_10_37 h)
theorem aQ_10_93_38_10 {V : wV} {I : Nat → Nat → Int32} {a : Nat} (h : a = 354) : zHasQ 10 93 a (wm V I) 38 := mkQ (wS_10 h) (by omega) (by decide +kernel) (wR_10_38 h)
theorem aQ_10_96_39_10 {V : wV} {I : Nat → Nat → Int32} {a : Nat} (h : a = 354) : zHasQ 10 96 a (wm V I) 39 := mkQ (wS_10 h) (by omega) (by decide +kernel) (wR_10_39 h)
theorem aQ_10_99_41_10 {V : wV} {I : Nat → Nat → Int32} {a : Nat} (h : a = 354) : zHasQ 10 99 a (wm V I) 41 := mkQ (wS_10 h) (by omega) (by decide +kernel) (wR_10_41 h)
theorem aQ_2_11_0_2 {V : wV} {I : Nat → Nat → Int32} {a : Nat} (h : a = 4) : zHasQ 2 11 a (wm V I) 0 := mkQ (wS_2 h) (by omega) (by decide +kernel) (wR_2_0 h)
theorem aQ_2_52_4_6 {V : wV} {I : Nat → Nat → Int32} {a : Nat} (h : 234 ≤ a ∧ a < 354 ∧ (a - 234) % 10 = 0) : zHasQ 2 52 a (wm V I) 4 := mkQ (wS_6 h) (by omega) (by decide +kernel) (wR_6_4 h)
theorem aQ_3_15_1_3 {V : wV} {I : Nat → Nat → Int32} {a : Nat} (h : a = 46) : zHasQ 3 15 a (wm V I) 1 := mkQ (wS_3 h) (by omega) (by decide +kernel) (wR_3_1 h)
theorem aQ_3_18_2_3 {V : wV} {I : Nat → Nat → Int32} {a : Nat} (h : a = 46) : zHasQ 3 18 a (wm V I) 2 := mkQ (wS_3 h) (by omega) (by decide +kernel) (wR_3_2 h)
theorem aQ_3_21_3_3 {V : wV} {I : Nat → Nat → Int32} {a : Nat} (h : a = 46) : zHasQ 3 21 a (wm V I) 3 := mkQ (wS_3 h) (by omega) (by decide +kernel) (wR_3_3 h)
theorem aQ_3_24_4_3 {V : wV} {I : Nat → Nat → Int32} {a : Nat} (h : a = 46) : zHasQ 3 24 a (wm V I) 4 := mkQ (wS_3 h) (by omega) (by decide +kernel) (wR_3_4 h)
theorem aQ_3_48_0_2 {V : wV} {I : Nat → Nat → Int32} {a : Nat} (h : a = 4) : zHasQ 3 48 a (wm V I) 0 := mkQ (wS_2 h) (by omega) (by decide +kernel) (wR_2_0 h)
theorem aQ_3_9_0_3 {V : wV} {I : Nat → Nat → Int32} {a : Nat} (h : a = 46) : zHasQ 3 9 a (wm V I) 0 := mkQ (wS_3 h) (by omega) (by decide +kernel) (wR_3_0 h)
theorem aQ_4_15_1_4 {V : wV} {I : Nat → Nat → Int32} {a : Nat} (h : 240 ≤ a ∧ a < 354 ∧ (a - 234) % 10 = 6) : zHasQ 4 15 a (wm V I) 1 := mkQ (wS_4 h) (by omega) (by decide +kernel) (wR_4_1 h)
theorem aQ_4_18_2_4 {V : wV} {I : Nat → Nat → Int32} {a : Nat} (h : 240 ≤ a ∧ a < 354 ∧ (a - 234) % 10 = 6) : zHasQ 4 18 a (wm V I) 2 := mkQ (wS_4 h) (by omega) (by decide +kernel) (wR_4_2 h)
theorem aQ_4_9_0_4 {V : wV} {I : Nat → Nat → Int32} {a : Nat} (h : 240 ≤ a ∧ a < 354 ∧ (a - 234) % 10 = 6) : zHasQ 4 9 a (wm V I) 0 := mkQ (wS_4 h) (by omega) (by decide +kernel) (wR_4_0 h)
theorem aQ_5_44_1_6 {V : wV} {I : Nat → Nat → Int32} {a : Nat} (h : 234 ≤ a ∧ a < 354 ∧ (a - 234) % 10 = 0) : zHasQ 5 44 a (wm V I) 1 := mkQ (wS_6 h) (by omega) (by decide +kernel) (wR_6_1 h)
theorem aQ_6_15_2_6 {V : wV} {I : Nat → Nat → Int32} {a : Nat} (h : 234 ≤ a ∧ a < 354 ∧ (a - 234) % 10 = 0) : zHasQ 6 15 a (wm V I) 2 := mkQ (wS_6 h) (by omega) (by decide +kernel) (wR_6_2 h)
theorem aQ_6_18_3_6 {V : wV} {I : Nat → Nat → Int32} {a : Nat} (h : 234 ≤ a ∧ a < 354 ∧ (a - 234) % 10 = 0) : zHasQ 6 18 a (wm V I) 3 := mkQ (wS_6 h) (by omega) (by decide +kernel) (wR_6_3 h)
theorem aQ_6_21_4_6 {V : wV} {I : Nat → Nat → Int32} {a : Nat} (h : 234 ≤ a ∧ a < 354 ∧ (a - 234) % 10 = 0) : zHasQ 6 21 a (wm V I) 4 := mkQ (wS_6 h) (by omega) (by decide +kernel) (wR_6_4 h)
theorem aQ_6_24_5_6 {V : wV} {I : Nat → Nat → Int32} {a : Nat} (h : 234 ≤ a ∧ a < 354 ∧ (a - 234) % 10 = 0) : zHasQ 6 24 a (wm V I) 5 := mkQ (wS_6 h) (by omega) (by decide +kernel) (wR_6_5 h)
theorem aQ_6_34_6_6 {V : wV} {I : Nat → Nat → Int32} {a : Nat} (h : 234 ≤ a ∧ a < 354 ∧ (a - 234) % 10 = 0) : zHasQ 6 34 a (wm V I) 6 := mkQ (wS_6 h) (by omega) (by decide +kernel) (wR_6_6 h)
theorem aQ_6_9_1_6 {V : wV} {I : Nat → Nat → Int32} {a : Nat} (h : 234 ≤ a ∧ a < 354 ∧ (a - 234) % 10 = 0) : zHasQ 6 9 a (wm V I) 1 := mkQ (wS_6 h) (by omega) (by decide +kernel) (wR_6_1 h)
theorem aQ_7_66_2_6 {V : wV} {I : Nat → Nat → Int32} {a : Nat} (h : 234 ≤ a ∧ a < 354 ∧ (a - 234) % 10 = 0) : zHasQ 7 66 a (wm V I) 2 := mkQ (wS_6 h) (by omega) (by decide +kernel) (wR_6_2 h)
theorem aQ_8_15_0_8 {V : wV} {I : Nat → Nat → Int32} {a : Nat} (h : a = 56 ∨ a = 108) : zHasQ 8 15 a (wm V I) 0 := mkQ (wS_8 h) (by omega) (by decide +kernel) (wR_8_0 h)
theorem aQ_9_109_6_6 {V : wV} {I : Nat → Nat → Int32} {a : Nat} (h : 234 ≤ a ∧ a < 354 ∧ (a - 234) % 10 = 0) : zHasQ 9 109 a (wm V I) 6 := mkQ (wS_6 h) (by omega) (by decide +kernel) (wR_6_6 h)
theorem aQ_9_11_0_9 {V : wV} {I : Nat → Nat → Int32} {a : Nat} (h : a = 0) : zHasQ 9 11 a (wm V I) 0 := mkQ (wS_9 h) (by omega) (by decide +kernel) (wR_9_0 h)
theorem aQ_9_162_3_6 {V : wV} {I : Nat → Nat → Int32} {a : Nat} (h : 234 ≤ a ∧ a < 354 ∧ (a - 234) % 10 = 0) : zHasQ 9 162 a (wm V I) 3 := mkQ (wS_6 h) (by omega) (by decide +kernel) (wR_6_3 h)
theorem aQ_9_17_1_9 {V : wV} {I : Nat → Nat → Int32} {a : Nat} (h : a = 0) : zHasQ 9 17 a (wm V I) 1 := mkQ (wS_9 h) (by omega) (by decide +kernel) (wR_9_1 h)
theorem aQ_9_192_0_3 {V : wV} {I : Nat → Nat → Int32} {a : Nat} (h : a = 46) : zHasQ 9 192 a (wm V I) 0 := mkQ (wS_3 h) (by omega) (by decide +kernel) (wR_3_0 h)
theorem aQ_9_195_1_3 {V : wV} {I : Nat → Nat → Int32} {a : Nat} (h : a = 46) : zHasQ 9 195 a (wm V I) 1 := mkQ (wS_3 h) (by omega) (by decide +kernel) (wR_3_1 h)
theorem aQ_9_198_2_3 {V : wV} {I : Nat → Nat → Int32} {a : Nat} (h : a = 46) : zHasQ 9 198 a (wm V I) 2 := mkQ (wS_3 h) (by omega) (by decide +kernel) (wR_3_2 h)
theorem aQ_9_201_3_3 {V : wV} {I : Nat → Nat → Int32} {a : Nat} (h : a = 46) : zHasQ 9 201 a (wm V I) 3 := mkQ (wS_3 h) (by omega) (by decide +kernel) (wR_3_3 h)
theorem aQ_9_21_2_9 {V : wV} {I : Nat → Nat → Int32} {a : Nat} (h : a = 0) : zHasQ 9 21 a (wm V I) 2 := mkQ (wS_9 h) (by omega) (by decide +kernel) (wR_9_2 h)
theorem aQ_9_218_1_6 {V : wV} {I : Nat → Nat → Int32} {a : Nat} (h : 234 ≤ a ∧ a < 354 ∧ (a - 234) % 10 = 0) : zHasQ 9 218 a (wm V I) 1 := mkQ (wS_6 h) (by omega) (by decide +kernel) (wR_6_1 h)
theorem aQ_9_221_2_6 {V : wV} {I : Nat → Nat → Int32} {a : Nat} (h : 234 ≤ a ∧ a < 354 ∧ (a - 234) % 10 = 0) : zHasQ 9 221 a (wm V I) 2 := mkQ (wS_6 h) (by omega) (by decide +kernel) (wR_6_2 h)
theorem aQ_9_224_5_6 {V : wV} {I : Nat → Nat → Int32} {a : Nat} (h : 234 ≤ a ∧ a < 354 ∧ (a - 234) % 10 = 0) : zHasQ 9 224 a (wm V I) 5 := mkQ (wS_6 h) (by omega) (by decide +kernel) (wR_6_5 h)
theorem aQ_9_228_4_6 {V : wV} {I : Nat → Nat → Int32} {a : Nat} (h : 234 ≤ a ∧ a < 354 ∧ (a - 234) % 10 = 0) : zHasQ 9 228 a (wm V I) 4 := mkQ (wS_6 h) (by omega) (by decide +kernel) (wR_6_4 h)
theorem aQ_9_275_0_8 {V : wV} {I : Nat → Nat → Int32} {a : Nat} (h : a = 56 ∨ a = 108) : zHasQ 9 275 a (wm V I) 0 := mkQ (wS_8 h) (by omega) (by decide +kernel) (wR_8_0 h)
theorem aQ_9_28_3_9 {V : wV} {I : Nat → Nat → Int32} {a : Nat} (h : a = 0) : zHasQ 9 28 a (wm V I) 3 := mkQ (wS_9 h) (by omega) (by decide +kernel) (wR_9_3 h)
theorem aQ_9_328_0_2 {V : wV} {I : Nat → Nat → Int32} {a : Nat} (h : a = 4) : zHasQ 9 328 a (wm V I) 0 := mkQ (wS_2 h) (by omega) (by decide +kernel) (wR_2_0 h)
theorem aQ_9_35_4_9 {V : wV} {I : Nat → Nat → Int32} {a : Nat} (h : a = 0) : zHasQ 9 35 a (wm V I) 4 := mkQ (wS_9 h) (by omega) (by decide +kernel) (wR_9_4 h)
theorem aQ_9_42_5_9 {V : wV} {I : Nat → Nat → Int32} {a : Nat} (h : a = 0) : zHasQ 9 42 a (wm V I) 5 := mkQ (wS_9 h) (by omega) (by decide +kernel) (wR_9_5 h)
theorem aQ_9_51_6_9 {V : wV} {I : Nat → Nat → Int32} {a : Nat} (h : a = 0) : zHasQ 9 51 a (wm V I) 6 := mkQ (wS_9 h) (by omega) (by decide +kernel) (wR_9_6 h)
theorem aQ_9_55_7_9 {V : wV} {I : Nat → Nat → Int32} {a : Nat} (h : a = 0) : zHasQ 9 55 a (wm V I) 7 := mkQ (wS_9 h) (by omega) (by decide +kernel) (wR_9_7 h)
theorem aQ_9_61_8_9 {V : wV} {I : Nat → Nat → Int32} {a : Nat} (h : a = 0) : zHasQ 9 61 a (wm V I) 8 := mkQ (wS_9 h) (by omega) (by decide +kernel) (wR_9_8 h)
theorem aQ_9_65_9_9 {V : wV} {I : Nat → Nat → Int32} {a : Nat} (h : a = 0) : zHasQ 9 65 a (wm V I) 9 := mkQ (wS_9 h) (by omega) (by decide +kernel) (wR_9_9 h)
theorem aQ_9_71_10_9 {V : wV} {I : Nat → Nat → Int32} {a : Nat} (h : a = 0) : zHasQ 9 71 a (wm V I) 10 := mkQ (wS_9 h) (by omega) (by decide +kernel) (wR_9_10 h)
theorem aQ_9_75_11_9 {V : wV} {I : Nat → Nat → Int32} {a : Nat} (h : a = 0) : zHasQ 9 75 a (wm V I) 11 := mkQ (wS_9 h) (by omega) (by decide +kernel) (wR_9_11 h)
theorem aW_106_100_19_9 {V : wV} {I : Nat → Nat → Int32} {a : Nat} {x : Int32} (h : a = 0) : zPutI 106 100 a (wm V I) 19 x := mkW (wS_9 h) (by omega) (by decide +kernel) (by decide +kernel) (by decide +kernel)
theorem aW_117_117_50_10 {V : wV} {I : Nat → Nat → Int32} {a : Nat} {x : Int32} (h : a = 354) : zPutI 117 117 a (wm V I) 50 x := mkW (wS_10 h) (by omega) (by decide +kernel) (by decide +kernel) (by decide +kernel)
theorem aW_117_120_51_10 {V : wV} {I : Nat → Nat → Int32} {a : Nat} {x : Int32} (h : a = 354) : zPutI 117 120 a (wm V I) 51 x := mkW (wS_10 h) (by omega) (by decide +kernel) (by decide +kernel) (by decide +kernel)
theorem aW_117_123_52_10 {V : wV} {I : Nat → Nat → Int32} {a : Nat} {x : Int32} (h : a = 354) : zPutI 117 123 a (wm V I) 52 x := mkW (wS_10 h) (by omega) (by decide +kernel) (by decide +kernel) (by decide +kernel)
theorem aW_117_126_53_10 {V : wV} {I : Nat → Nat → Int32} {a : Nat} {x : Int32} (h : a = 354) : zPutI 117 126 a (wm V I) 53 x := mkW (wS_10 h) (by omega) (by decide +kernel) (by decide +kernel) (by decide +kernel)
theorem aW_117_41_11_10 {V : wV} {I : Nat → Nat → Int32} {a : Nat} {x : Int32} (h : a = 354) : zPutI 117 41 a (wm V I) 11 x := mkW (wS_10 h) (by omega) (by decide +kernel) (by decide +kernel) (by decide +kernel)
theorem aW_117_45_12_10 {V : wV} {I : Nat → Nat → Int32} {a : Nat} {x : Int32} (h : a = 354) : zPutI 117 45 a (wm V I) 12 x := mkW (wS_10 h) (by omega) (by decide +kernel) (by decide +kernel) (by decide +kernel)
theorem aW_117_48_13_10 {V : wV} {I : Nat → Nat → Int32} {a : Nat} {x : Int32} (h : a = 354) : zPutI 117 48 a (wm V I) 13 x := mkW (wS_10 h) (by omega) (by decide +kernel) (by decide +kernel) (by decide +kernel)
theorem aW_117_51_14_10 {V : wV} {I : Nat → Nat → Int32} {a : Nat} {x : Int32} (h : a = 354) : zPutI 117 51 a (wm V I) 14 x := mkW (wS_10 h) (by omega) (by decide +kernel) (by decide +kernel) (by decide +kernel)
theorem aW_117_81_30_10 {V : wV} {I : Nat → Nat → Int32} {a : Nat} {x : Int32} (h : a = 354) : zPutI 117 81 a (wm V I) 30 x := mkW (wS_10 h) (by omega) (by decide +kernel) (by decide +kernel) (by decide +kernel)
theorem aW_117_84_31_10 {V : wV} {I : Nat → Nat → Int32} {a : Nat} {x : Int32} (h : a = 354) : zPutI 117 84 a (wm V I) 31 x := mkW (wS_10 h) (by omega) (by decide +kernel) (by decide +kernel) (by decide +kernel)
theorem aW_119_138_26_10 {V : wV} {I : Nat → Nat → Int32} {a : Nat} {x : Int32} (h : a = 354) : zPutI 119 138 a (wm V I) 26 x := mkW (wS_10 h) (by omega) (by decide +kernel) (by decide +kernel) (by decide +kernel)
theorem aW_12_13_9_1 {V : wV} {I : Nat → Nat → Int32} {a : Nat} {x : Int32} (h : 6 ≤ a ∧ a < 46) : zPutI 12 13 a (wm V I) 9 x := mkW (wS_1 h) (by omega) (by decide +kernel) (by decide +kernel) (by decide +kernel)
theorem aW_12_7_8_1 {V : wV} {I : Nat → Nat → Int32} {a : Nat} {x : Int32} (h : 6 ≤ a ∧ a < 46) : zPutI 12 7 a (wm V I) 8 x ↔ (x = 0 ∨ x = 1) := mkWb (wS_1 h) (by omega) (by decide +kernel) (by decide +kernel) (by decide +kernel)
theorem aW_127_138_26_10 {V : wV} {I : Nat → Nat → Int32} {a : Nat} {x : Int32} (h : a = 354) : zPutI 127 138 a (wm V I) 26 x := mkW (wS_10 h) (by omega) (by decide +kernel) (by decide +kernel) (by decide +kernel)
theorem aW_127_148_0_10 {V : wV} {I : Nat → Nat → Int32} {a : Nat} {x : Int32} (h : a = 354) : zPutI 127 148 a (wm V I) 0 x := mkW (wS_10 h) (by omega) (by decide +kernel) (by decide +kernel) (by decide +kernel)
theorem aW_128_138_26_10 {V : wV} {I : Nat → Nat → Int32} {a : Nat} {x : Int32} (h : a = 354) : zPutI 128 138 a (wm V I) 26 x := mkW (wS_10 h) (by omega) (by decide +kernel) (by decide +kernel) (by decide +kernel)
theorem aW_129_138_26_10 {V : wV} {I : Nat → Nat → Int32} {a : Nat} {x : Int32} (h : a = 354) : zPutI 129 138 a (wm V I) 26 x := mkW (wS_10 h) (by omega) (by decide +kernel) (by decide +kernel) (by decide +kernel)
theorem aW_13_17_1_2 {V : wV} {I : Nat → Nat → Int32} {a : Nat} {x : Int32} (h : a = 4) : zPutI 13 17 a (wm V I) 1 x := mkW (wS_2 h) (by omega) (by decide +kernel) (by decide +kernel) (by decide +kernel)
theorem aW_13_21_2_2 {V : wV} {I : Nat → Nat → Int32} {a : Nat} {x : Int32} (h : a = 4) : zPutI 13 21 a (wm V I) 2 x := mkW (wS_2 h) (by omega) (by decide +kernel) (by decide +kernel) (by decide +kernel)
theorem aW_131_138_26_10 {V : wV} {I : Nat → Nat → Int32} {a : Nat} {x : Int32} (h : a = 354) : zPutI 131 138 a (wm V I) 26 x := mkW (wS_10 h) (by omega) (by decide +kernel) (by decide +kernel) (by decide +kernel)
theorem aW_133_138_26_10 {V : wV} {I : Nat → Nat → Int32} {a : Nat} {x : Int32} (h : a = 354) : zPutI 133 138 a (wm V I) 26 x := mkW (wS_10 h) (by omega) (by decide +kernel) (by decide +kernel) (by decide +kernel)
theorem aW_136_138_26_10 {V : wV} {I : Nat → Nat → Int32} {a : Nat} {x : Int32} (h : a = 354) : zPutI 136 138 a (wm V I) 26 x := mkW (wS_10 h) (by omega) (by decide +kernel) (by decide +kernel) (by decide +kernel)
theorem aW_137_138_26_10 {V : wV} {I : Nat → Nat → Int32} {a : Nat} {x : Int32} (h : a = 354) : zPutI 137 138 a (wm V I) 26 x := mkW (wS_10 h) (by omega) (by decide +kernel) (by decide +kernel) (by decide +kernel)
theorem aW_138_138_26_10 {V : wV} {I : Nat → Nat → Int32} {a : Nat} {x : Int32} (h : a = 354) : zPutI 138 138 a (wm V I) 26 x := mkW (wS_10 h) (by omega) (by decide +kernel) (by decide +kernel) (by decide +kernel)
theorem aW_138_41_11_10 {V : wV} {I : Nat → Nat → Int32} {a : Nat} {x : Int32} (h : a = 354) : zPutI 138 41 a (wm V I) 11 x := mkW (wS_10 h) (by omega) (by decide +kernel) (by decide +kernel) (by decide +kernel)
theorem aW_138_45_12_10 {V : wV} {I : Nat → Nat → Int32} {a : Nat} {x : Int32} (h : a = 354) : zPutI 138 45 a (wm V I) 12 x := mkW (wS_10 h) (by omega) (by decide +kernel) (by decide +kernel) (by decide +kernel)
theorem aW_138_48_13_10 {V : wV} {I : Nat → Nat → Int32} {a : Nat} {x : Int32} (h : a = 354) : zPutI 138 48 a (wm V I) 13 x := mkW (wS_10 h) (by omega) (by decide +kernel) (by decide +kernel) (by decide +kernel)
theorem aW_138_51_14_10 {V : wV} {I : Nat → Nat → Int32} {a : Nat} {x : Int32} (h : a = 354) : zPutI 138 51 a (wm V I) 14 x := mkW (wS_10 h) (by omega) (by decide +kernel) (by decide +kernel) (by decide +kernel)
theorem aW_139_138_26_10 {V : wV} {I : Nat → Nat → Int32} {a : Nat} {x : Int32} (h : a = 354) : zPutI 139 138 a (wm V I) 26 x := mkW (wS_10 h) (by omega) (by decide +kernel) (by decide +kernel) (by decide +kernel)
theorem aW_140_138_26_10 {V : wV} {I : Nat → Nat → Int32} {a : Nat} {x : Int32} (h : a = 354) : zPutI 140 138 a (wm V I) 26 x := mkW (wS_10 h) (by omega) (by decide +kernel) (by decide +kernel) (by decide +kernel)
theorem aW_142_138_26_10 {V : wV} {I : Nat → Nat → Int32} {a : Nat} {x : Int32} (h : a = 354) : zPutI 142 138 a (wm V I) 26 x := mkW (wS_10 h) (by omega) (by decide +kernel) (by decide +kernel) (by decide +kernel)
theorem aW_143_208_27_10 {V : wV} {I : Nat → Nat → Int32} {a : Nat} {x : Int32} (h : a = 354) : zPutI 143 208 a (wm V I) 27 x := mkW (wS_10 h) (by omega) (by decide +kernel) (by decide +kernel) (by decide +kernel)
theorem aW_143_211_29_10 {V : wV} {I : Nat → Nat → Int32} {a : Nat} {x : Int32} (h : a = 354) : zPutI 143 211 a (wm V I) 29 x := mkW (wS_10 h) (by omega) (by decide +kernel) (by decide +kernel) (by decide +kernel)
theorem aW_143_214_28_10 {V : wV} {I : Nat → Nat → Int32} {a : Nat} {x : Int32} (h : a = 354) : zPutI 143 214 a (wm V I) 28 x := mkW (wS_10 h) (by omega) (by decide +kernel) (by decide +kernel) (by decide +kernel)
theorem aW_146_138_26_10 {V : wV} {I : Nat → Nat → Int32} {a : Nat} {x : Int32} (h : a = 354) : zPutI 146 138 a (wm V I) 26 x := mkW (wS_10 h) (by omega) (by decide +kernel) (by decide +kernel) (by decide +kernel)
theorem aW_146_81_30_10 {V : wV} {I : Nat → Nat → Int32} {a : Nat} {x : Int32} (h : a = 354) : zPutI 146 81 a (wm V I) 30 x := mkW (wS_10 h) (by omega) (by decide +kernel) (by decide +kernel) (by decide +kernel)
theorem aW_146_84_31_10 {V : wV} {I : Nat → Nat → Int32} {a : Nat} {x : Int32} (h : a = 354) : zPutI 146 84 a (wm V I) 31 x := mkW (wS_10 h) (by omega) (by decide +kernel) (by decide +kernel) (by decide +kernel)
theorem aW_147_138_26_10 {V : wV} {I : Nat → Nat → Int32} {a : Nat} {x : Int32} (h : a = 354) : zPutI 147 138 a (wm V I) 26 x := mkW (wS_10 h) (by omega) (by decide +kernel) (by decide +kernel) (by decide +kernel)
theorem aW_148_228_32_10 {V : wV} {I : Nat → Nat → Int32} {a : Nat} {x : Int32} (h : a = 354) : zPutI 148 228 a (wm V I) 32 x := mkW (wS_10 h) (by omega) (by decide +kernel) (by decide +kernel) (by decide +kernel)
theorem aW_148_231_33_10 {V : wV} {I : Nat → Nat → Int32} {a : Nat} {x : Int32} (h : a = 354) : zPutI 148 231 a (wm V I) 33 x := mkW (wS_10 h) (by omega) (by decide +kernel) (by decide +kernel) (by decide +kernel)
theorem aW_148_234_34_10 {V : wV} {I : Nat → Nat → Int32} {a : Nat} {x : Int32} (h : a = 354) : zPutI 148 234 a (wm V I) 34 x := mkW (wS_10 h) (by omega) (by decide +kernel) (by decide +kernel) (by decide +kernel)
theorem aW_150_138_26_10 {V : wV} {I : Nat → Nat → Int32} {a : Nat} {x : Int32} (h : a = 354) : zPutI 150 138 a (wm V I) 26 x := mkW (wS_10 h) (by omega) (by decide +kernel) (by decide +kernel) (by decide +kernel)
theorem aW_150_237_36_10 {V : wV} {I : Nat → Nat → Int32} {a : Nat} {x : Int32} (h : a = 354) : zPutI 150 237 a (wm V I) 36 x := mkW (wS_10 h) (by omega) (by decide +kernel) (by decide +kernel) (by decide +kernel)
theorem aW_151_138_26_10 {V : wV} {I : Nat → Nat → Int32} {a : Nat} {x : Int32} (h : a = 354) : zPutI 151 138 a (wm V I) 26 x := mkW (wS_10 h) (by omega) (by decide +kernel) (by decide +kernel) (by decide +kernel)
theorem aW_153_138_26_10 {V : wV} {I : Nat → Nat → Int32} {a : Nat} {x : Int32} (h : a = 354) : zPutI 153 138 a (wm V I) 26 x := mkW (wS_10 h) (by omega) (by decide +kernel) (by decide +kernel) (by decide +kernel)
theorem aW_154_138_26_10 {V : wV} {I : Nat → Nat → Int32} {a : Nat} {x : Int32} (h : a = 354) : zPutI 154 138 a (wm V I) 26 x := mkW (wS_10 h) (by omega) (by decide +kernel) (by decide +kernel) (by decide +kernel)
theorem aW_156_250_45_10 {V : wV} {I : Nat → Nat → Int32} {a : Nat} {x : Int32} (h : a = 354) : zPutI 156 250 a (wm V I) 45 x := mkW (wS_10 h) (by omega) (by decide +kernel) (by decide +kernel) (by decide +kernel)
theorem aW_156_253_46_10 {V : wV} {I : Nat → Nat → Int32} {a : Nat} {x : Int32} (h : a = 354) : zPutI 156 253 a (wm V I) 46 x := mkW (wS_10 h) (by omega) (by decide +kernel) (by decide +kernel) (by decide +kernel)
theorem aW_156_256_47_10 {V : wV} {I : Nat → Nat → Int32} {a : Nat} {x : Int32} (h : a = 354) : zPutI 156 256 a (wm V I) 47 x := mkW (wS_10 h) (by omega) (by decide +kernel) (by decide +kernel) (by decide +kernel)
theorem aW_157_183_40_10 {V : wV} {I : Nat → Nat → Int32} {a : Nat} {x : Int32} (h : a = 354) : zPutI 157 183 a (wm V I) 40 x := mkW (wS_10 h) (by omega) (by decide +kernel) (by decide +kernel) (by decide +kernel)
theorem aW_158_183_40_10 {V : wV} {I : Nat → Nat → Int32} {a : Nat} {x : Int32} (h : a = 354) : zPutI 158 183 a (wm V I) 40 x := mkW (wS_10 h) (by omega) (by decide +kernel) (by decide +kernel) (by decide +kernel)
theorem aW_167_278_15_10 {V : wV} {I : Nat → Nat → Int32} {a : Nat} {x : Int32} (h : a = 354) : zPutI 167 278 a (wm V I) 15 x := mkW (wS_10 h) (by omega) (by decide +kernel) (by decide +kernel) (by decide +kernel)
theorem aW_167_281_16_10 {V : wV} {I : Nat → Nat → Int32} {a : Nat} {x : Int32} (h : a = 354) : zPutI 167 281 a (wm V I) 16 x := mkW (wS_10 h) (by omega) (by decide +kernel) (by decide +kernel) (by decide +kernel)
theorem aW_168_117_50_10 {V : wV} {I : Nat → Nat → Int32} {a : Nat} {x : Int32} (h : a = 354) : zPutI 168 117 a (wm V I) 50 x := mkW (wS_10 h) (by omega) (by decide +kernel) (by decide +kernel) (by decide +kernel)
theorem aW_168_120_51_10 {V : wV} {I : Nat → Nat → Int32} {a : Nat} {x : Int32} (h : a = 354) : zPutI 168 120 a (wm V I) 51 x := mkW (wS_10 h) (by omega) (by decide +kernel) (by decide +kernel) (by decide +kernel)
theorem aW_168_123_52_10 {V : wV} {I : Nat → Nat → Int32} {a : Nat} {x : Int32} (h : a = 354) : zPutI 168 123 a (wm V I) 52 x := mkW (wS_10 h) (by omega) (by decide +kernel) (by decide +kernel) (by decide +kernel)
theorem aW_168_126_53_10 {V : wV} {I : Nat → Nat → Int32} {a : Nat} {x : Int32} (h : a = 354) : zPutI 168 126 a (wm V I) 53 x := mkW (wS_10 h) (by omega) (by decide +kernel) (by decide +kernel) (by decide +kernel)
theorem aW_169_138_26_10 {V : wV} {I : Nat → Nat → Int32} {a : Nat} {x : Int32} (h : a = 354) : zPutI 169 138 a (wm V I) 26 x := mkW (wS_10 h) (by omega) (by decide +kernel) (by decide +kernel) (by decide +kernel)
theorem aW_17_17_1_2 {V : wV} {I : Nat → Nat → Int32} {a : Nat} {x : Int32} (h : a = 4) : zPutI 17 17 a (wm V I) 1 x := mkW (wS_2 h) (by omega) (by decide +kernel) (by decide +kernel) (by decide +kernel)
theorem aW_17_21_2_2 {V : wV} {I : Nat → Nat → Int32} {a : Nat} {x : Int32} (h : a = 4) : zPutI 17 21 a (wm V I) 2 x := mkW (wS_2 h) (by omega) (by decide +kernel) (by decide +kernel) (by decide +kernel)
theorem aW_17_25_9_1 {V : wV} {I : Nat → Nat → Int32} {a : Nat} {x : Int32} (h : 6 ≤ a ∧ a < 46) : zPutI 17 25 a (wm V I) 9 x := mkW (wS_1 h) (by omega) (by decide +kernel) (by decide +kernel) (by decide +kernel)
theorem aW_17_36_8_1 {V : wV} {I : Nat → Nat → Int32} {a : Nat} {x : Int32} (h : 6 ≤ a ∧ a < 46) : zPutI 17 36 a (wm V I) 8 x ↔ (x = 0 ∨ x = 1) := mkWb (wS_1 h) (by omega) (by decide +kernel) (by decide +kernel) (by decide +kernel)
theorem aW_171_138_26_10 {V : wV} {I : Nat → Nat → Int32} {a : Nat} {x : Int32} (h : a = 354) : zPutI 171 138 a (wm V I) 26 x := mkW (wS_10 h) (by omega) (by decide +kernel) (by decide +kernel) (by decide +kernel)
theorem aW_173_278_15_10 {V : wV} {I : Nat → Nat → Int32} {a : Nat} {x : Int32} (h : a = 354) : zPutI 173 278 a (wm V I) 15 x := mkW (wS_10 h) (by omega) (by decide +kernel) (by decide +kernel) (by decide +kernel)
theorem aW_175_138_26_10 {V : wV} {I : Nat → Nat → Int32} {a : Nat} {x : Int32} (h : a = 354) : zPutI 175 138 a (wm V I) 26 x := mkW (wS_10 h) (by omega) (by decide +kernel) (by decide +kernel) (by decide +kernel)
theorem aW_176_138_26_10 {V : wV} {I : Nat → Nat → Int32} {a : Nat} {x : Int32} (h : a = 354) : zPutI 176 138 a (wm V I) 26 x := mkW (wS_10 h) (by omega) (by decide +kernel) (by decide +kernel) (by decide +kernel)
theorem aW_177_138_26_10 {V : wV} {I : Nat → Nat → Int32} {a : Nat} {x : Int32} (h : a = 354) : zPutI 177 138 a (wm V I) 26 x := mkW (wS_10 h) (by omega) (by decide +kernel) (by decide +kernel) (by decide +kernel)
theorem aW_178_138_26_10 {V : wV} {I : Nat → Nat → Int32} {a : Nat} {x : Int32} (h : a = 354) : zPutI 178 138 a (wm V I) 26 x := mkW (wS_10 h) (by omega) (by decide +kernel) (by decide +kernel) (by decide +kernel)
theorem aW_18_17_1_2 {V : wV} {I : Nat → Nat → Int32} {a : Nat} {x : Int32} (h : a = 4) : zPutI 18 17 a (wm V I) 1 x := mkW (wS_2 h) (by omega) (by decide +kernel) (by decide +kernel) (by decide +kernel)
theorem aW_18_25_9_1 {V : wV} {I : Nat → Nat → Int32} {a : Nat} {x : Int32} (h : 6 ≤ a ∧ a < 46) : zPutI 18 25 a (wm V I) 9 x := mkW (wS_1 h) (by omega) (by decide +kernel) (by decide +kernel) (by decide +kernel)
theorem aW_181_326_57_10 {V : wV} {I : Nat → Nat → Int32} {a : Nat} {x : Int32} (h : a = 354) : zPutI 181 326 a (wm V I) 57 x := mkW (wS_10 h) (by omega) (by decide +kernel) (by decide +kernel) (by decide +kernel)
theorem aW_182_326_57_10 {V : wV} {I : Nat → Nat → Int32} {a : Nat} {x : Int32} (h : a = 354) : zPutI 182 326 a (wm V I) 57 x := mkW (wS_10 h) (by omega) (by decide +kernel) (by decide +kernel) (by decide +kernel)
theorem aW_183_138_26_10 {V : wV} {I : Nat → Nat → Int32} {a : Nat} {x : Int32} (h : a = 354) : zPutI 183 138 a (wm V I) 26 x := mkW (wS_10 h) (by omega) (by decide +kernel) (by decide +kernel) (by decide +kernel)
theorem aW_184_138_26_10 {V : wV} {I : Nat → Nat → Int32} {a : Nat} {x : Int32} (h : a = 354) : zPutI 184 138 a (wm V I) 26 x := mkW (wS_10 h) (by omega) (by decide +kernel) (by decide +kernel) (by decide +kernel)
theorem aW_185_138_26_10 {V : wV} {I : Nat → Nat → Int32} {a : Nat} {x : Int32} (h : a = 354) : zPutI 185 138 a (wm V I) 26 x := mkW (wS_10 h) (by omega) (by decide +kernel) (by decide +kernel) (by decide +kernel)
theorem aW_186_138_26_10 {V : wV} {I : Nat → Nat → Int32} {a : Nat} {x : Int32} (h : a = 354) : zPutI 186 138 a (wm V I) 26 x := mkW (wS_10 h) (by omega) (by decide +kernel) (by decide +kernel) (by decide +kernel)
theorem aW_21_27_5_3 {V : wV} {I : Nat → Nat → Int32} {a : Nat} {x : Int32} (h : a = 46) : zPutI 21 27 a (wm V I) 5 x := mkW (wS_3 h) (by omega) (by decide +kernel) (by decide +kernel) (by decide +kernel)
theorem aW_21_31_6_3 {V : wV} {I : Nat → Nat → Int32} {a : Nat} {x : Int32} (h : a = 46) : zPutI 21 31 a (wm V I) 6 x := mkW (wS_3 h) (by omega) (by decide +kernel) (by decide +kernel) (by decide +kernel)
theorem aW_22_27_5_3 {V : wV} {I : Nat → Nat → Int32} {a : Nat} {x : Int32} (h : a = 46) : zPutI 22 27 a (wm V I) 5 x := mkW (wS_3 h) (by omega) (by decide +kernel) (by decide +kernel) (by decide +kernel)
theorem aW_22_31_6_3 {V : wV} {I : Nat → Nat → Int32} {a : Nat} {x : Int32} (h : a = 46) : zPutI 22 31 a (wm V I) 6 x := mkW (wS_3 h) (by omega) (by decide +kernel) (by decide +kernel) (by decide +kernel)
theorem aW_24_27_5_3 {V : wV} {I : Nat → Nat → Int32} {a : Nat} {x : Int32} (h : a = 46) : zPutI 24 27 a (wm V I) 5 x := mkW (wS_3 h) (by omega) (by decide +kernel) (by decide +kernel) (by decide +kernel)
theorem aW_28_21_3_4 {V : wV} {I : Nat → Nat → Int32} {a : Nat} {x : Int32} (h : 240 ≤ a ∧ a < 354 ∧ (a - 234) % 10 = 6) : zPutI 28 21 a (wm V I) 3 x := mkW (wS_4 h) (by omega) (by decide +kernel) (by decide +kernel) (by decide +kernel)
theorem aW_28_25_4_4 {V : wV} {I : Nat → Nat → Int32} {a : Nat} {x : Int32} (h : 240 ≤ a ∧ a < 354 ∧ (a - 234) % 10 = 6) : zPutI 28 25 a (wm V I) 4 x := mkW (wS_4 h) (by omega) (by decide +kernel) (by decide +kernel) (by decide +kernel)
theorem aW_28_28_5_4 {V : wV} {I : Nat → Nat → Int32} {a : Nat} {x : Int32} (h : 240 ≤ a ∧ a < 354 ∧ (a - 234) % 10 = 6) : zPutI 28 28 a (wm V I) 5 x := mkW (wS_4 h) (by omega) (by decide +kernel) (by decide +kernel) (by decide +kernel)
theorem aW_28_31_6_4 {V : wV} {I : Nat → Nat → Int32} {a : Nat} {x : Int32} (h : 240 ≤ a ∧ a < 354 ∧ (a - 234) % 10 = 6) : zPutI 28 31 a (wm V I) 6 x := mkW (wS_4 h) (by omega) (by decide +kernel) (by decide +kernel) (by decide +kernel)
theorem aW_28_34_7_4 {V : wV} {I : Nat → Nat → Int32} {a : Nat} {x : Int32} (h : 240 ≤ a ∧ a < 354 ∧ (a - 234) % 10 = 6) : zPutI 28 34 a (wm V I) 7 x := mkW (wS_4 h) (by omega) (by decide +kernel) (by decide +kernel) (by decide +kernel)
theorem aW_28_37_8_4 {V : wV} {I : Nat → Nat → Int32} {a : Nat} {x : Int32} (h : 240 ≤ a ∧ a < 354 ∧ (a - 234) % 10 = 6) : zPutI 28 37 a (wm V I) 8 x := mkW (wS_4 h) (by omega) (by decide +kernel) (by decide +kernel) (by decide +kernel)
theorem aW_29_21_3_4 {V : wV} {I : Nat → Nat → Int32} {a : Nat} {x : Int32} (h : 240 ≤ a ∧ a < 354 ∧ (a - 234) % 10 = 6) : zPutI 29 21 a (wm V I) 3 x := mkW (wS_4 h) (by omega) (by decide +kernel) (by decide +kernel) (by decide +kernel)
theorem aW_29_28_5_4 {V : wV} {I : Nat → Nat → Int32} {a : Nat} {x : Int32} (h : 240 ≤ a ∧ a < 354 ∧ (a - 234) % 10 = 6) : zPutI 29 28 a (wm V I) 5 x := mkW (wS_4 h) (by omega) (by decide +kernel) (by decide +kernel) (by decide +kernel)
theorem aW_29_31_6_4 {V : wV} {I : Nat → Nat → Int32} {a : Nat} {x : Int32} (h : 240 ≤ a ∧ a < 354 ∧ (a - 234) % 10 = 6) : zPutI 29 31 a (wm V I) 6 x := mkW (wS_4 h) (by omega) (by decide +kernel) (by decide +kernel) (by decide +kernel)
theorem aW_29_34_7_4 {V : wV} {I : Nat → Nat → Int32} {a : Nat} {x : Int32} (h : 240 ≤ a ∧ a < 354 ∧ (a - 234) % 10 = 6) : zPutI 29 34 a (wm V I) 7 x := mkW (wS_4 h) (by omega) (by decide +kernel) (by decide +kernel) (by decide +kernel)
theorem aW_29_37_8_4 {V : wV} {I : Nat → Nat → Int32} {a : Nat} {x : Int32} (h : 240 ≤ a ∧ a < 354 ∧ (a - 234) % 10 = 6) : zPutI 29 37 a (wm V I) 8 x := mkW (wS_4 h) (by omega) (by decide +kernel) (by decide +kernel) (by decide +kernel)
theorem aW_32_25_4_4 {V : wV} {I : Nat → Nat → Int32} {a : Nat} {x : Int32} (h : 240 ≤ a ∧ a < 354 ∧ (a - 234) % 10 = 6) : zPutI 32 25 a (wm V I) 4 x := mkW (wS_4 h) (by omega) (by decide +kernel) (by decide +kernel) (by decide +kernel)
theorem aW_34_25_4_4 {V : wV} {I : Nat → Nat → Int32} {a : Nat} {x : Int32} (h : 240 ≤ a ∧ a < 354 ∧ (a - 234) % 10 = 6) : zPutI 34 25 a (wm V I) 4 x := mkW (wS_4 h) (by omega) (by decide +kernel) (by decide +kernel) (by decide +kernel)
theorem aW_35_15_1_1 {V : wV} {I : Nat → Nat → Int32} {a : Nat} {x : Int32} (h : 6 ≤ a ∧ a < 46) : zPutI 35 15 a (wm V I) 1 x := mkW (wS_1 h) (by omega) (by decide +kernel) (by decide +kernel) (by decide +kernel)
theorem aW_35_15_1_5 {V : wV} {I : Nat → Nat → Int32} {a : Nat} {x : Int32} (h : a = 232) : zPutI 35 15 a (wm V I) 1 x := mkW (wS_5 h) (by omega) (by decide +kernel) (by decide +kernel) (by decide +kernel)
theorem aW_35_15_1_7 {V : wV} {I : Nat → Nat → Int32} {a : Nat} {x : Int32} (h : 58 ≤ a ∧ a < 232 ∧ a ≠ 108 ∧ a ≠ 109) : zPutI 35 15 a (wm V I) 1 x := mkW (wS_7 h) (by omega) (by decide +kernel) (by decide +kernel) (by decide +kernel)
theorem aW_35_18_2_1 {V : wV} {I : Nat → Nat → Int32} {a : Nat} {x : Int32} (h : 6 ≤ a ∧ a < 46) : zPutI 35 18 a (wm V I) 2 x := mkW (wS_1 h) (by omega) (by decide +kernel) (by decide +kernel) (by decide +kernel)
theorem aW_35_18_2_5 {V : wV} {I : Nat → Nat → Int32} {a : Nat} {x : Int32} (h : a = 232) : zPutI 35 18 a (wm V I) 2 x := mkW (wS_5 h) (by omega) (by decide +kernel) (by decide +kernel) (by decide +kernel)
theorem aW_35_18_2_7 {V : wV} {I : Nat → Nat → Int32} {a : Nat} {x : Int32} (h : 58 ≤ a ∧ a < 232 ∧ a ≠ 108 ∧ a ≠ 109) : zPutI 35 18 a (wm V I) 2 x := mkW (wS_7 h) (by omega) (by decide +kernel) (by decide +kernel) (by decide +kernel)
theorem aW_35_21_3_1 {V : wV} {I : Nat → Nat → Int32} {a : Nat} {x : Int32} (h : 6 ≤ a ∧ a < 46) : zPutI 35 21 a (wm V I) 3 x := mkW (wS_1 h) (by omega) (by decide +kernel) (by decide +kernel) (by decide +kernel)
theorem aW_35_21_3_5 {V : wV} {I : Nat → Nat → Int32} {a : Nat} {x : Int32} (h : a = 232) : zPutI 35 21 a (wm V I) 3 x := mkW (wS_5 h) (by omega) (by decide +kernel) (by decide +kernel) (by decide +kernel)
theorem aW_35_21_3_7 {V : wV} {I : Nat → Nat → Int32} {a : Nat} {x : Int32} (h : 58 ≤ a ∧ a < 232 ∧ a ≠ 108 ∧ a ≠ 109) : zPutI 35 21 a (wm V I) 3 x := mkW (wS_7 h) (by omega) (by decide +kernel) (by decide +kernel) (by decide +kernel)
theorem aW_35_24_4_1 {V : wV} {I : Nat → Nat → Int32} {a : Nat} {x : Int32} (h : 6 ≤ a ∧ a < 46) : zPutI 35 24 a (wm V I) 4 x := mkW (wS_1 h) (by omega) (by decide +kernel) (by decide +kernel) (by decide +kernel)
theorem aW_35_24_4_5 {V : wV} {I : Nat → Nat → Int32} {a : Nat} {x : Int32} (h : a = 232) : zPutI 35 24 a (wm V I) 4 x := mkW (wS_5 h) (by omega) (by decide +kernel) (by decide +kernel) (by decide +kernel)
theorem aW_35_24_4_7 {V : wV} {I : Nat → Nat → Int32} {a : Nat} {x : Int32} (h : 58 ≤ a ∧ a < 232 ∧ a ≠ 108 ∧ a ≠ 109) : zPutI 35 24 a (wm V I) 4 x := mkW (wS_7 h) (by omega) (by decide +kernel) (by decide +kernel) (by decide +kernel)
theorem aW_35_27_5_1 {V : wV} {I : Nat → Nat → Int32} {a : Nat} {x : Int32} (h : 6 ≤ a ∧ a < 46) : zPutI 35 27 a (wm V I) 5 x := mkW (wS_1 h) (by omega) (by decide +kernel) (by decide +kernel) (by decide +kernel)
theorem aW_35_27_5_5 {V : wV} {I : Nat → Nat → Int32} {a : Nat} {x : Int32} (h : a = 232) : zPutI 35 27 a (wm V I) 5 x := mkW (wS_5 h) (by omega) (by decide +kernel) (by decide +kernel) (by decide +kernel)
theorem aW_35_27_5_7 {V : wV} {I : Nat → Nat → Int32} {a : Nat} {x : Int32} (h : 58 ≤ a ∧ a < 232 ∧ a ≠ 108 ∧ a ≠ 109) : zPutI 35 27 a (wm V I) 5 x := mkW (wS_7 h) (by omega) (by decide +kernel) (by decide +kernel) (by decide +kernel)
theorem aW_35_30_6_1 {V : wV} {I : Nat → Nat → Int32} {a : Nat} {x : Int32} (h : 6 ≤ a ∧ a < 46) : zPutI 35 30 a (wm V I) 6 x := mkW (wS_1 h) (by omega) (by decide +kernel) (by decide +kernel) (by decide +kernel)
theorem aW_35_30_6_5 {V : wV} {I : Nat → Nat → Int32} {a : Nat} {x : Int32} (h : a = 232) : zPutI 35 30 a (wm V I) 6 x := mkW (wS_5 h) (by omega) (by decide +kernel) (by decide +kernel) (by decide +kernel)
theorem aW_35_30_6_7 {V : wV} {I : Nat → Nat → Int32} {a : Nat} {x : Int32} (h : 58 ≤ a ∧ a < 232 ∧ a ≠ 108 ∧ a ≠ 109) : zPutI 35 30 a (wm V I) 6 x := mkW (wS_7 h) (by omega) (by decide +kernel) (by decide +kernel) (by decide +kernel)
theorem aW_35_33_7_1 {V : wV} {I : Nat → Nat → Int32} {a : Nat} {x : Int32} (h : 6 ≤ a ∧ a < 46) : zPutI 35 33 a (wm V I) 7 x := mkW (wS_1 h) (by omega) (by decide +kernel) (by decide +kernel) (by decide +kernel)
theorem aW_35_33_7_5 {V : wV} {I : Nat → Nat → Int32} {a : Nat} {x : Int32} (h : a = 232) : zPutI 35 33 a (wm V I) 7 x := mkW (wS_5 h) (by omega) (by decide +kernel) (by decide +kernel) (by decide +kernel)
theorem aW_35_33_7_7 {V : wV} {I : Nat → Nat → Int32} {a : Nat} {x : Int32} (h : 58 ≤ a ∧ a < 232 ∧ a ≠ 108 ∧ a ≠ 109) : zPutI 35 33 a (wm V I) 7 x := mkW (wS_7 h) (by omega) (by decide +kernel) (by decide +kernel) (by decide +kernel)
theorem aW_35_9_0_1 {V : wV} {I : Nat → Nat → Int32} {a : Nat} {x : Int32} (h : 6 ≤ a ∧ a < 46) : zPutI 35 9 a (wm V I) 0 x := mkW (wS_1 h) (by omega) (by decide +kernel) (by decide +kernel) (by decide +kernel)
theorem aW_35_9_0_5 {V : wV} {I : Nat → Nat → Int32} {a : Nat} {x : Int32} (h : a = 232) : zPutI 35 9 a (wm V I) 0 x := mkW (wS_5 h) (by omega) (by decide +kernel) (by decide +kernel) (by decide +kernel)
theorem aW_35_9_0_7 {V : wV} {I : Nat → Nat → Int32} {a : Nat} {x : Int32} (h : 58 ≤ a ∧ a < 232 ∧ a ≠ 108 ∧ a ≠ 109) : zPutI 35 9 a (wm V I) 0 x := mkW (wS_7 h) (by omega) (by decide +kernel) (by decide +kernel) (by decide +kernel)
theorem aW_36_15_1_1 {V : wV} {I : Nat → Nat → Int32} {a : Nat} {x : Int32} (h : 6 ≤ a ∧ a < 46) : zPutI 36 15 a (wm V I) 1 x := mkW (wS_1 h) (by omega) (by decide +kernel) (by decide +kernel) (by decide +kernel)
theorem aW_36_15_1_5 {V : wV} {I : Nat → Nat → Int32} {a : Nat} {x : Int32} (h : a = 232) : zPutI 36 15 a (wm V I) 1 x := mkW (wS_5 h) (by omega) (by decide +kernel) (by decide +kernel) (by decide +kernel)
theorem aW_36_15_1_7 {V : wV} {I : Nat → Nat → Int32} {a : Nat} {x : Int32} (h : 58 ≤ a ∧ a < 232 ∧ a ≠ 108 ∧ a ≠ 109) : zPutI 36 15 a (wm V I) 1 x := mkW (wS_7 h) (by omega) (by decide +kernel) (by decide +kernel) (by decide +kernel)
theorem aW_36_18_2_1 {V : wV} {I : Nat → Nat → Int32} {a : Nat} {x : Int32} (h : 6 ≤ a ∧ a < 46) : zPutI 36 18 a (wm V I) 2 x := mkW (wS_1 h) (by omega) (by decide +kernel) (by decide +kernel) (by decide +kernel)
theorem aW_36_18_2_5 {V : wV} {I : Nat → Nat → Int32} {a : Nat} {x : Int32} (h : a = 232) : zPutI 36 18 a (wm V I) 2 x := mkW (wS_5 h) (by omega) (by decide +kernel) (by decide +kernel) (by decide +kernel)
theorem aW_36_18_2_7 {V : wV} {I : Nat → Nat → Int32} {a : Nat} {x : Int32} (h : 58 ≤ a ∧ a < 232 ∧ a ≠ 108 ∧ a ≠ 109) : zPutI 36 18 a (wm V I) 2 x := mkW (wS_7 h) (by omega) (by decide +kernel) (by decide +kernel) (by decide +kernel)
theorem aW_36_21_3_1 {V : wV} {I : Nat → Nat → Int32} {a : Nat} {x : Int32} (h : 6 ≤ a ∧ a < 46) : zPutI 36 21 a (wm V I) 3 x := mkW (wS_1 h) (by omega) (by decide +kernel) (by decide +kernel) (by decide +kernel)
theorem aW_36_21_3_5 {V : wV} {I : Nat → Nat → Int32} {a : Nat} {x : Int32} (h : a = 232) : zPutI 36 21 a (wm V I) 3 x := mkW (wS_5 h) (by omega) (by decide +kernel) (by decide +kernel) (by decide +kernel)
theorem aW_36_21_3_7 {V : wV} {I : Nat → Nat → Int32} {a : Nat} {x : Int32} (h : 58 ≤ a ∧ a < 232 ∧ a ≠ 108 ∧ a ≠ 109) : zPutI 36 21 a (wm V I) 3 x := mkW (wS_7 h) (by omega) (by decide +kernel) (by decide +kernel) (by decide +kernel)
theorem aW_36_24_4_1 {V : wV} {I : Nat → Nat → Int32} {a : Nat} {x : Int32} (h : 6 ≤ a ∧ a < 46) : zPutI 36 24 a (wm V I) 4 x := mkW (wS_1 h) (by omega) (by decide +kernel) (by decide +kernel) (by decide +kernel)
theorem aW_36_24_4_5 {V : wV} {I : Nat → Nat → Int32} {a : Nat} {x : Int32} (h : a = 232) : zPutI 36 24 a (wm V I) 4 x := mkW (wS_5 h) (by omega) (by decide +kernel) (by decide +kernel) (by decide +kernel)
theorem aW_36_24_4_7 {V : wV} {I : Nat → Nat → Int32} {a : Nat} {x : Int32} (h : 58 ≤ a ∧ a < 232 ∧ a ≠ 108 ∧ a ≠ 109) : zPutI 36 24 a (wm V I) 4 x := mkW (wS_7 h) (by omega) (by decide +kernel) (by decide +kernel) (by decide +kernel)
theorem aW_36_30_6_1 {V : wV} {I : Nat → Nat → Int32} {a : Nat} {x : Int32} (h : 6 ≤ a ∧ a < 46) : zPutI 36 30 a (wm V I) 6 x := mkW (wS_1 h) (by omega) (by decide +kernel) (by decide +kernel) (by decide +kernel)
theorem aW_36_30_6_5 {V : wV} {I : Nat → Nat → Int32} {a : Nat} {x : Int32} (h : a = 232) : zPutI 36 30 a (wm V I) 6 x := mkW (wS_5 h) (by omega) (by decide +kernel) (by decide +kernel) (by decide +kernel)
theorem aW_36_30_6_7 {V : wV} {I : Nat → Nat → Int32} {a : Nat} {x : Int32} (h : 58 ≤ a ∧ a < 232 ∧ a ≠ 108 ∧ a ≠ 109) : zPutI 36 30 a (wm V I) 6 x := mkW (wS_7 h) (by omega) (by decide +kernel) (by decide +kernel) (by decide +kernel)
theorem aW_36_33_7_1 {V : wV} {I : Nat → Nat → Int32} {a : Nat} {x : Int32} (h : 6 ≤ a ∧ a < 46) : zPutI 36 33 a (wm V I) 7 x := mkW (wS_1 h) (by omega) (by decide +kernel) (by decide +kernel) (by decide +kernel)
theorem aW_36_33_7_5 {V : wV} {I : Nat → Nat → Int32} {a : Nat} {x : Int32} (h : a = 232) : zPutI 36 33 a (wm V I) 7 x := mkW (wS_5 h) (by omega) (by decide +kernel) (by decide +kernel) (by decide +kernel)
theorem aW_36_33_7_7 {V : wV} {I : Nat → Nat → Int32} {a : Nat} {x : Int32} (h : 58 ≤ a ∧ a < 232 ∧ a ≠ 108 ∧ a ≠ 109) : zPutI 36 33 a (wm V I) 7 x := mkW (wS_7 h) (by omega) (by decide +kernel) (by decide +kernel) (by decide +kernel)
theorem aW_36_9_0_1 {V : wV} {I : Nat → Nat → Int32} {a : Nat} {x : Int32} (h : 6 ≤ a ∧ a < 46) : zPutI 36 9 a (wm V I) 0 x := mkW (wS_1 h) (by omega) (by decide +kernel) (by decide +kernel) (by decide +kernel)
theorem aW_36_9_0_5 {V : wV} {I : Nat → Nat → Int32} {a : Nat} {x : Int32} (h : a = 232) : zPutI 36 9 a (wm V I) 0 x := mkW (wS_5 h) (by omega) (by decide +kernel) (by decide +kernel) (by decide +kernel)
theorem aW_36_9_0_7 {V : wV} {I : Nat → Nat → Int32} {a : Nat} {x : Int32} (h : 58 ≤ a ∧ a < 232 ∧ a ≠ 108 ∧ a ≠ 109) : zPutI 36 9 a (wm V I) 0 x := mkW (wS_7 h) (by omega) (by decide +kernel) (by decide +kernel) (by decide +kernel)
theorem aW_37_27_5_1 {V : wV} {I : Nat → Nat → Int32} {a : Nat} {x : Int32} (h : 6 ≤ a ∧ a < 46) : zPutI 37 27 a (wm V I) 5 x := mkW (wS_1 h) (by omega) (by decide +kernel) (by decide +kernel) (by decide +kernel)
theorem aW_37_27_5_5 {V : wV} {I : Nat → Nat → Int32} {a : Nat} {x : Int32} (h : a = 232) : zPutI 37 27 a (wm V I) 5 x := mkW (wS_5 h) (by omega) (by decide +kernel) (by decide +kernel) (by decide +kernel)
theorem aW_37_27_5_7 {V : wV} {I : Nat → Nat → Int32} {a : Nat} {x : Int32} (h : 58 ≤ a ∧ a < 232 ∧ a ≠ 108 ∧ a ≠ 109) : zPutI 37 27 a (wm V I) 5 x := mkW (wS_7 h) (by omega) (by decide +kernel) (by decide +kernel) (by decide +kernel)
theorem aW_38_15_1_1 {V : wV} {I : Nat → Nat → Int32} {a : Nat} {x : Int32} (h : 6 ≤ a ∧ a < 46) : zPutI 38 15 a (wm V I) 1 x := mkW (wS_1 h) (by omega) (by decide +kernel) (by decide +kernel) (by decide +kernel)
theorem aW_38_15_1_5 {V : wV} {I : Nat → Nat → Int32} {a : Nat} {x : Int32} (h : a = 232) : zPutI 38 15 a (wm V I) 1 x := mkW (wS_5 h) (by omega) (by decide +kernel) (by decide +kernel) (by decide +kernel)
theorem aW_38_15_1_7 {V : wV} {I : Nat → Nat → Int32} {a : Nat} {x : Int32} (h : 58 ≤ a ∧ a < 232 ∧ a ≠ 108 ∧ a ≠ 109) : zPutI 38 15 a (wm V I) 1 x := mkW (wS_7 h) (by omega) (by decide +kernel) (by decide +kernel) (by decide +kernel)
theorem aW_38_18_2_1 {V : wV} {I : Nat → Nat → Int32} {a : Nat} {x : Int32} (h : 6 ≤ a ∧ a < 46) : zPutI 38 18 a (wm V I) 2 x := mkW (wS_1 h) (by omega) (by decide +kernel) (by decide +kernel) (by decide +kernel)
theorem aW_38_18_2_5 {V : wV} {I : Nat → Nat → Int32} {a : Nat} {x : Int32} (h : a = 232) : zPutI 38 18 a (wm V I) 2 x := mkW (wS_5 h) (by omega) (by decide +kernel) (by decide +kernel) (by decide +kernel)
theorem aW_38_18_2_7 {V : wV} {I : Nat → Nat → Int32} {a : Nat} {x : Int32} (h : 58 ≤ a ∧ a < 232 ∧ a ≠ 108 ∧ a ≠ 109) : zPutI 38 18 a (wm V I) 2 x := mkW (wS_7 h) (by omega) (by decide +kernel) (by decide +kernel) (by decide +kernel)
theorem aW_38_21_3_1 {V : wV} {I : Nat → Nat → Int32} {a : Nat} {x : Int32} (h : 6 ≤ a ∧ a < 46) : zPutI 38 21 a (wm V I) 3 x := mkW (wS_1 h) (by omega) (by decide +kernel) (by decide +kernel) (by decide +kernel)
theorem aW_38_21_3_5 {V : wV} {I : Nat → Nat → Int32} {a : Nat} {x : Int32} (h : a = 232) : zPutI 38 21 a (wm V I) 3 x := mkW (wS_5 h) (by omega) (by decide +kernel) (by decide +kernel) (by decide +kernel)
theorem aW_38_21_3_7 {V : wV} {I : Nat → Nat → Int32} {a : Nat} {x : Int32} (h : 58 ≤ a ∧ a < 232 ∧ a ≠ 108 ∧ a ≠ 109) : zPutI 38 21 a (wm V I) 3 x := mkW (wS_7 h) (by omega) (by decide +kernel) (by decide +kernel) (by decide +kernel)
theorem aW_38_24_4_1 {V : wV} {I : Nat → Nat → Int32} {a : Nat} {x : Int32} (h : 6 ≤ a ∧ a < 46) : zPutI 38 24 a (wm V I) 4 x := mkW (wS_1 h) (by omega) (by decide +kernel) (by decide +kernel) (by decide +kernel)
theorem aW_38_24_4_5 {V : wV} {I : Nat → Nat → Int32} {a : Nat} {x : Int32} (h : a = 232) : zPutI 38 24 a (wm V I) 4 x := mkW (wS_5 h) (by omega) (by decide +kernel) (by decide +kernel) (by decide +kernel)
theorem aW_38_24_4_7 {V : wV} {I : Nat → Nat → Int32} {a : Nat} {x : Int32} (h : 58 ≤ a ∧ a < 232 ∧ a ≠ 108 ∧ a ≠ 109) : zPutI 38 24 a (wm V I) 4 x := mkW (wS_7 h) (by omega) (by decide +kernel) (by decide +kernel) (by decide +kernel)
theorem aW_38_27_5_1 {V : wV} {I : Nat → Nat → Int32} {a : Nat} {x : Int32} (h : 6 ≤ a ∧ a < 46) : zPutI 38 27 a (wm V I) 5 x := mkW (wS_1 h) (by omega) (by decide +kernel) (by decide +kernel) (by decide +kernel)
theorem aW_38_27_5_5 {V : wV} {I : Nat → Nat → Int32} {a : Nat} {x : Int32} (h : a = 232) : zPutI 38 27 a (wm V I) 5 x := mkW (wS_5 h) (by omega) (by decide +kernel) (by decide +kernel) (by decide +kernel)
theorem aW_38_27_5_7 {V : wV} {I : Nat → Nat → Int32} {a : Nat} {x : Int32} (h : 58 ≤ a ∧ a < 232 ∧ a ≠ 108 ∧ a ≠ 109) : zPutI 38 27 a (wm V I) 5 x := mkW (wS_7 h) (by omega) (by decide +kernel) (by decide +kernel) (by decide +kernel)
theorem aW_38_30_6_1 {V : wV} {I : Nat → Nat → Int32} {a : Nat} {x : Int32} (h : 6 ≤ a ∧ a < 46) : zPutI 38 30 a (wm V I) 6 x := mkW (wS_1 h) (by omega) (by decide +kernel) (by decide +kernel) (by decide +kernel)
theorem aW_38_30_6_5 {V : wV} {I : Nat → Nat → Int32} {a : Nat} {x : Int32} (h : a = 232) : zPutI 38 30 a (wm V I) 6 x := mkW (wS_5 h) (by omega) (by decide +kernel) (by decide +kernel) (by decide +kernel)
theorem aW_38_30_6_7 {V : wV} {I : Nat → Nat → Int32} {a : Nat} {x : Int32} (h : 58 ≤ a ∧ a < 232 ∧ a ≠ 108 ∧ a ≠ 109) : zPutI 38 30 a (wm V I) 6 x := mkW (wS_7 h) (by omega) (by decide +kernel) (by decide +kernel) (by decide +kernel)
theorem aW_38_33_7_1 {V : wV} {I : Nat → Nat → Int32} {a : Nat} {x : Int32} (h : 6 ≤ a ∧ a < 46) : zPutI 38 33 a (wm V I) 7 x := mkW (wS_1 h) (by omega) (by decide +kernel) (by decide +kernel) (by decide +kernel)
theorem aW_38_33_7_5 {V : wV} {I : Nat → Nat → Int32} {a : Nat} {x : Int32} (h : a = 232) : zPutI 38 33 a (wm V I) 7 x := mkW (wS_5 h) (by omega) (by decide +kernel) (by decide +kernel) (by decide +kernel)
theorem aW_38_33_7_7 {V : wV} {I : Nat → Nat → Int32} {a : Nat} {x : Int32} (h : 58 ≤ a ∧ a < 232 ∧ a ≠ 108 ∧ a ≠ 109) : zPutI 38 33 a (wm V I) 7 x := mkW (wS_7 h) (by omega) (by decide +kernel) (by decide +kernel) (by decide +kernel)
theorem aW_38_9_0_1 {V : wV} {I : Nat → Nat → Int32} {a : Nat} {x : Int32} (h : 6 ≤ a ∧ a < 46) : zPutI 38 9 a (wm V I) 0 x := mkW (wS_1 h) (by omega) (by decide +kernel) (by decide +kernel) (by decide +kernel)
theorem aW_38_9_0_5 {V : wV} {I : Nat → Nat → Int32} {a : Nat} {x : Int32} (h : a = 232) : zPutI 38 9 a (wm V I) 0 x := mkW (wS_5 h) (by omega) (by decide +kernel) (by decide +kernel) (by decide +kernel)
theorem aW_38_9_0_7 {V : wV} {I : Nat → Nat → Int32} {a : Nat} {x : Int32} (h : 58 ≤ a ∧ a < 232 ∧ a ≠ 108 ∧ a ≠ 109) : zPutI 38 9 a (wm V I) 0 x := mkW (wS_7 h) (by omega) (by decide +kernel) (by decide +kernel) (by decide +kernel)
theorem aW_41_37_7_6 {V : wV} {I : Nat → Nat → Int32} {a : Nat} {x : Int32} (h : 234 ≤ a ∧ a < 354 ∧ (a - 234) % 10 = 0) : zPutI 41 37 a (wm V I) 7 x := mkW (wS_6 h) (by omega) (by decide +kernel) (by decide +kernel) (by decide +kernel)
theorem aW_41_41_8_6 {V : wV} {I : Nat → Nat → Int32} {a : Nat} {x : Int32} (h : 234 ≤ a ∧ a < 354 ∧ (a - 234) % 10 = 0) : zPutI 41 41 a (wm V I) 8 x ↔ (x = 0 ∨ x = 1) := mkWb (wS_6 h) (by omega) (by decide +kernel) (by decide +kernel) (by decide +kernel)
theorem aW_41_45_9_6 {V : wV} {I : Nat → Nat → Int32} {a : Nat} {x : Int32} (h : 234 ≤ a ∧ a < 354 ∧ (a - 234) % 10 = 0) : zPutI 41 45 a (wm V I) 9 x := mkW (wS_6 h) (by omega) (by decide +kernel) (by decide +kernel) (by decide +kernel)
theorem aW_41_48_10_6 {V : wV} {I : Nat → Nat → Int32} {a : Nat} {x : Int32} (h : 234 ≤ a ∧ a < 354 ∧ (a - 234) % 10 = 0) : zPutI 41 48 a (wm V I) 10 x := mkW (wS_6 h) (by omega) (by decide +kernel) (by decide +kernel) (by decide +kernel)
theorem aW_41_51_0_6 {V : wV} {I : Nat → Nat → Int32} {a : Nat} {x : Int32} (h : 234 ≤ a ∧ a < 354 ∧ (a - 234) % 10 = 0) : zPutI 41 51 a (wm V I) 0 x := mkW (wS_6 h) (by omega) (by decide +kernel) (by decide +kernel) (by decide +kernel)
theorem aW_42_37_7_6 {V : wV} {I : Nat → Nat → Int32} {a : Nat} {x : Int32} (h : 234 ≤ a ∧ a < 354 ∧ (a - 234) % 10 = 0) : zPutI 42 37 a (wm V I) 7 x := mkW (wS_6 h) (by omega) (by decide +kernel) (by decide +kernel) (by decide +kernel)
theorem aW_54_15_9_7 {V : wV} {I : Nat → Nat → Int32} {a : Nat} {x : Int32} (h : 58 ≤ a ∧ a < 232 ∧ a ≠ 108 ∧ a ≠ 109) : zPutI 54 15 a (wm V I) 9 x := mkW (wS_7 h) (by omega) (by decide +kernel) (by decide +kernel) (by decide +kernel)
theorem aW_54_9_8_7 {V : wV} {I : Nat → Nat → Int32} {a : Nat} {x : Int32} (h : 58 ≤ a ∧ a < 232 ∧ a ≠ 108 ∧ a ≠ 109) : zPutI 54 9 a (wm V I) 8 x := mkW (wS_7 h) (by omega) (by decide +kernel) (by decide +kernel) (by decide +kernel)
theorem aW_55_15_9_7 {V : wV} {I : Nat → Nat → Int32} {a : Nat} {x : Int32} (h : 58 ≤ a ∧ a < 232 ∧ a ≠ 108 ∧ a ≠ 109) : zPutI 55 15 a (wm V I) 9 x := mkW (wS_7 h) (by omega) (by decide +kernel) (by decide +kernel) (by decide +kernel)
theorem aW_55_40_5_7 {V : wV} {I : Nat → Nat → Int32} {a : Nat} {x : Int32} (h : 58 ≤ a ∧ a < 232 ∧ a ≠ 108 ∧ a ≠ 109) : zPutI 55 40 a (wm V I) 5 x := mkW (wS_7 h) (by omega) (by decide +kernel) (by decide +kernel) (by decide +kernel)
theorem aW_55_9_8_7 {V : wV} {I : Nat → Nat → Int32} {a : Nat} {x : Int32} (h : 58 ≤ a ∧ a < 232 ∧ a ≠ 108 ∧ a ≠ 109) : zPutI 55 9 a (wm V I) 8 x := mkW (wS_7 h) (by omega) (by decide +kernel) (by decide +kernel) (by decide +kernel)
theorem aW_57_15_9_7 {V : wV} {I : Nat → Nat → Int32} {a : Nat} {x : Int32} (h : 58 ≤ a ∧ a < 232 ∧ a ≠ 108 ∧ a ≠ 109) : zPutI 57 15 a (wm V I) 9 x := mkW (wS_7 h) (by omega) (by decide +kernel) (by decide +kernel) (by decide +kernel)
theorem aW_57_9_8_7 {V : wV} {I : Nat → Nat → Int32} {a : Nat} {x : Int32} (h : 58 ≤ a ∧ a < 232 ∧ a ≠ 108 ∧ a ≠ 109) : zPutI 57 9 a (wm V I) 8 x := mkW (wS_7 h) (by omega) (by decide +kernel) (by decide +kernel) (by decide +kernel)
theorem aW_58_7_1_8 {V : wV} {I : Nat → Nat → Int32} {a : Nat} {x : Int32} (h : a = 56 ∨ a = 108) : zPutI 58 7 a (wm V I) 1 x := mkW (wS_8 h) (by omega) (by decide +kernel) (by decide +kernel) (by decide +kernel)
theorem aW_59_7_1_8 {V : wV} {I : Nat → Nat → Int32} {a : Nat} {x : Int32} (h : a = 56 ∨ a = 108) : zPutI 59 7 a (wm V I) 1 x := mkW (wS_8 h) (by omega) (by decide +kernel) (by decide +kernel) (by decide +kernel)
theorem aW_60_7_1_8 {V : wV} {I : Nat → Nat → Int32} {a : Nat} {x : Int32} (h : a = 56 ∨ a = 108) : zPutI 60 7 a (wm V I) 1 x := mkW (wS_8 h) (by omega) (by decide +kernel) (by decide +kernel) (by decide +kernel)
theorem aW_61_100_19_9 {V : wV} {I : Nat → Nat → Int32} {a : Nat} {x : Int32} (h : a = 0) : zPutI 61 100 a (wm V I) 19 x := mkW (wS_9 h) (by omega) (by decide +kernel) (by decide +kernel) (by decide +kernel)
theorem aW_61_78_12_9 {V : wV} {I : Nat → Nat → Int32} {a : Nat} {x : Int32} (h : a = 0) : zPutI 61 78 a (wm V I) 12 x := mkW (wS_9 h) (by omega) (by decide +kernel) (by decide +kernel) (by decide +kernel)
theorem aW_61_82_13_9 {V : wV} {I : Nat → Nat → Int32} {a : Nat} {x : Int32} (h : a = 0) : zPutI 61 82 a (wm V I) 13 x := mkW (wS_9 h) (by omega) (by decide +kernel) (by decide +kernel) (by decide +kernel)
theorem aW_61_85_14_9 {V : wV} {I : Nat → Nat → Int32} {a : Nat} {x : Int32} (h : a = 0) : zPutI 61 85 a (wm V I) 14 x := mkW (wS_9 h) (by omega) (by decide +kernel) (by decide +kernel) (by decide +kernel)
theorem aW_61_88_15_9 {V : wV} {I : Nat → Nat → Int32} {a : Nat} {x : Int32} (h : a = 0) : zPutI 61 88 a (wm V I) 15 x := mkW (wS_9 h) (by omega) (by decide +kernel) (by decide +kernel) (by decide +kernel)
theorem aW_61_91_16_9 {V : wV} {I : Nat → Nat → Int32} {a : Nat} {x : Int32} (h : a = 0) : zPutI 61 91 a (wm V I) 16 x := mkW (wS_9 h) (by omega) (by decide +kernel) (by decide +kernel) (by decide +kernel)
theorem aW_61_94_17_9 {V : wV} {I : Nat → Nat → Int32} {a : Nat} {x : Int32} (h : a = 0) : zPutI 61 94 a (wm V I) 17 x := mkW (wS_9 h) (by omega) (by decide +kernel) (by decide +kernel) (by decide +kernel)
theorem aW_61_97_18_9 {V : wV} {I : Nat → Nat → Int32} {a : Nat} {x : Int32} (h : a = 0) : zPutI 61 97 a (wm V I) 18 x := mkW (wS_9 h) (by omega) (by decide +kernel) (by decide +kernel) (by decide +kernel)
theorem aW_62_78_12_9 {V : wV} {I : Nat → Nat → Int32} {a : Nat} {x : Int32} (h : a = 0) : zPutI 62 78 a (wm V I) 12 x := mkW (wS_9 h) (by omega) (by decide +kernel) (by decide +kernel) (by decide +kernel)
theorem aW_64_124_8_6 {V : wV} {I : Nat → Nat → Int32} {a : Nat} {x : Int32} (h : 234 ≤ a ∧ a < 354 ∧ (a - 234) % 10 = 0) : zPutI 64 124 a (wm V I) 8 x ↔ (x = 0 ∨ x = 1) := mkWb (wS_6 h) (by omega) (by decide +kernel) (by decide +kernel) (by decide +kernel)
theorem aW_67_172_9_6 {V : wV} {I : Nat → Nat → Int32} {a : Nat} {x : Int32} (h : 234 ≤ a ∧ a < 354 ∧ (a - 234) % 10 = 0) : zPutI 67 172 a (wm V I) 9 x := mkW (wS_6 h) (by omega) (by decide +kernel) (by decide +kernel) (by decide +kernel)
theorem aW_68_178_10_6 {V : wV} {I : Nat → Nat → Int32} {a : Nat} {x : Int32} (h : 234 ≤ a ∧ a < 354 ∧ (a - 234) % 10 = 0) : zPutI 68 178 a (wm V I) 10 x := mkW (wS_6 h) (by omega) (by decide +kernel) (by decide +kernel) (by decide +kernel)
theorem aW_69_82_13_9 {V : wV} {I : Nat → Nat → Int32} {a : Nat} {x : Int32} (h : a = 0) : zPutI 69 82 a (wm V I) 13 x := mkW (wS_9 h) (by omega) (by decide +kernel) (by decide +kernel) (by decide +kernel)
theorem aW_69_85_14_9 {V : wV} {I : Nat → Nat → Int32} {a : Nat} {x : Int32} (h : a = 0) : zPutI 69 85 a (wm V I) 14 x := mkW (wS_9 h) (by omega) (by decide +kernel) (by decide +kernel) (by decide +kernel)
theorem aW_69_88_15_9 {V : wV} {I : Nat → Nat → Int32} {a : Nat} {x : Int32} (h : a = 0) : zPutI 69 88 a (wm V I) 15 x := mkW (wS_9 h) (by omega) (by decide +kernel) (by decide +kernel) (by decide +kernel)
theorem aW_69_91_16_9 {V : wV} {I : Nat → Nat → Int32} {a : Nat} {x : Int32} (h : a = 0) : zPutI 69 91 a (wm V I) 16 x := mkW (wS_9 h) (by omega) (by decide +kernel) (by decide +kernel) (by decide +kernel)
theorem aW_73_94_17_9 {V : wV} {I : Nat → Nat → Int32} {a : Nat} {x : Int32} (h : a = 0) : zPutI 73 94 a (wm V I) 17 x := mkW (wS_9 h) (by omega) (by decide +kernel) (by decide +kernel) (by decide +kernel)
theorem aW_73_97_18_9 {V : wV} {I : Nat → Nat → Int32} {a : Nat} {x : Int32} (h : a = 0) : zPutI 73 97 a (wm V I) 18 x := mkW (wS_9 h) (by omega) (by decide +kernel) (by decide +kernel) (by decide +kernel)
theorem aV_0_15_1_0 {V : wV} {I : Nat → Nat → Int32} {a : Nat} (h : a = 52) : zPutQ 0 15 a (wm V I) 1 := mkV (wS_0 h) (by omega) (by decide +kernel) (by decide +kernel)
theorem aV_0_18_2_0 {V : wV} {I : Nat → Nat → Int32} {a : Nat} (h : a = 52) : zPutQ 0 18 a (wm V I) 2 := mkV (wS_0 h) (by omega) (by decide +kernel) (by decide +kernel)
theorem aV_0_9_0_0 {V : wV} {I : Nat → Nat → Int32} {a : Nat} (h : a = 52) : zPutQ 0 9 a (wm V I) 0 := mkV (wS_0 h) (by omega) (by decide +kernel) (by decide +kernel)
theorem aV_117_102_42_10 {V : wV} {I : Nat → Nat → Int32} {a : Nat} (h : a = 354) : zPutQ 117 102 a (wm V I) 42 := mkV (wS_10 h) (by omega) (by decide +kernel) (by decide +kernel)
theorem aV_117_105_43_10 {V : wV} {I : Nat → Nat → Int32} {a : Nat} (h : a = 354) : zPutQ 117 105 a (wm V I) 43 := mkV (wS_10 h) (by omega) (by decide +kernel) (by decide +kernel)
theorem aV_117_108_44_10 {V : wV} {I : Nat → Nat → Int32} {a : Nat} (h : a = 354) : zPutQ 117 108 a (wm V I) 44 := mkV (wS_10 h) (by omega) (by decide +kernel) (by decide +kernel)
theorem aV_117_111_48_10 {V : wV} {I : Nat → Nat → Int32} {a : Nat} (h : a = 354) : zPutQ 117 111 a (wm V I) 48 := mkV (wS_10 h) (by omega) (by decide +kernel) (by decide +kernel)
theorem aV_117_114_49_10 {V : wV} {I : Nat → Nat → Int32} {a : Nat} (h : a = 354) : zPutQ 117 114 a (wm V I) 49 := mkV (wS_10 h) (by omega) (by decide +kernel) (by decide +kernel)
theorem aV_117_129_54_10 {V : wV} {I : Nat → Nat → Int32} {a : Nat} (h : a = 354) : zPutQ 117 129 a (wm V I) 54 := mkV (wS_10 h) (by omega) (by decide +kernel) (by decide +kernel)
theorem aV_117_13_2_10 {V : wV} {I : Nat → Nat → Int32} {a : Nat} (h : a = 354) : zPutQ 117 13 a (wm V I) 2 := mkV (wS_10 h) (by omega) (by decide +kernel) (by decide +kernel)
theorem aV_117_132_55_10 {V : wV} {I : Nat → Nat → Int32} {a : Nat} (h : a = 354) : zPutQ 117 132 a (wm V I) 55 := mkV (wS_10 h) (by omega) (by decide +kernel) (by decide +kernel)
theorem aV_117_135_56_10 {V : wV} {I : Nat → Nat → Int32} {a : Nat} (h : a = 354) : zPutQ 117 135 a (wm V I) 56 := mkV (wS_10 h) (by omega) (by decide +kernel) (by decide +kernel)
theorem aV_117_16_3_10 {V : wV} {I : Nat → Nat → Int32} {a : Nat} (h : a = 354) : zPutQ 117 16 a (wm V I) 3 := mkV (wS_10 h) (by omega) (by decide +kernel) (by decide +kernel)
theorem aV_117_20_4_10 {V : wV} {I : Nat → Nat → Int32} {a : Nat} (h : a = 354) : zPutQ 117 20 a (wm V I) 4 := mkV (wS_10 h) (by omega) (by decide +kernel) (by decide +kernel)
theorem aV_117_23_5_10 {V : wV} {I : Nat → Nat → Int32} {a : Nat} (h : a = 354) : zPutQ 117 23 a (wm V I) 5 := mkV (wS_10 h) (by omega) (by decide +kernel) (by decide +kernel)
theorem aV_117_26_6_10 {V : wV} {I : Nat → Nat → Int32} {a : Nat} (h : a = 354) : zPutQ 117 26 a (wm V I) 6 := mkV (wS_10 h) (by omega) (by decide +kernel) (by decide +kernel)
theorem aV_117_29_7_10 {V : wV} {I : Nat → Nat → Int32} {a : Nat} (h : a = 354) : zPutQ 117 29 a (wm V I) 7 := mkV (wS_10 h) (by omega) (by decide +kernel) (by decide +kernel)
theorem aV_117_32_8_10 {V : wV} {I : Nat → Nat → Int32} {a : Nat} (h : a = 354) : zPutQ 117 32 a (wm V I) 8 := mkV (wS_10 h) (by omega) (by decide +kernel) (by decide +kernel)
theorem aV_117_35_9_10 {V : wV} {I : Nat → Nat → Int32} {a : Nat} (h : a = 354) : zPutQ 117 35 a (wm V I) 9 := mkV (wS_10 h) (by omega) (by decide +kernel) (by decide +kernel)
theorem aV_117_38_10_10 {V : wV} {I : Nat → Nat → Int32} {a : Nat} (h : a = 354) : zPutQ 117 38 a (wm V I) 10 := mkV (wS_10 h) (by omega) (by decide +kernel) (by decide +kernel)
theorem aV_117_54_17_10 {V : wV} {I : Nat → Nat → Int32} {a : Nat} (h : a = 354) : zPutQ 117 54 a (wm V I) 17 := mkV (wS_10 h) (by omega) (by decide +kernel) (by decide +kernel)
theorem aV_117_57_18_10 {V : wV} {I : Nat → Nat → Int32} {a : Nat} (h : a = 354) : zPutQ 117 57 a (wm V I) 18 := mkV (wS_10 h) (by omega) (by decide +kernel) (by decide +kernel)
theorem aV_117_60_19_10 {V : wV} {I : Nat → Nat → Int32} {a : Nat} (h : a = 354) : zPutQ 117 60 a (wm V I) 19 := mkV (wS_10 h) (by omega) (by decide +kernel) (by decide +kernel)
theorem aV_117_63_20_10 {V : wV} {I : Nat → Nat → Int32} {a : Nat} (h : a = 354) : zPutQ 117 63 a (wm V I) 20 := mkV (wS_10 h) (by omega) (by decide +kernel) (by decide +kernel)
theorem aV_117_66_21_10 {V : wV} {I : Nat → Nat → Int32} {a : Nat} (h : a = 354) : zPutQ 117 66 a (wm V I) 21 := mkV (wS_10 h) (by omega) (by decide +kernel) (by decide +kernel)
theorem aV_117_69_22_10 {V : wV} {I : Nat → Nat → Int32} {a : Nat} (h : a = 354) : zPutQ 117 69 a (wm V I) 22 := mkV (wS_10 h) (by omega) (by decide +kernel) (by decide +kernel)
theorem aV_117_7_1_10 {V : wV} {I : Nat → Nat → Int32} {a : Nat} (h : a = 354) : zPutQ 117 7 a (wm V I) 1 := mkV (wS_10 h) (by omega) (by decide +kernel) (by decide +kernel)
theorem aV_117_72_23_10 {V : wV} {I : Nat → Nat → Int32} {a : Nat} (h : a = 354) : zPutQ 117 72 a (wm V I) 23 := mkV (wS_10 h) (by omega) (by decide +kernel) (by decide +kernel)
theorem aV_117_75_24_10 {V : wV} {I : Nat → Nat → Int32} {a : Nat} (h : a = 354) : zPutQ 117 75 a (wm V I) 24 := mkV (wS_10 h) (by omega) (by decide +kernel) (by decide +kernel)
theorem aV_117_78_25_10 {V : wV} {I : Nat → Nat → Int32} {a : Nat} (h : a = 354) : zPutQ 117 78 a (wm V I) 25 := mkV (wS_10 h) (by omega) (by decide +kernel) (by decide +kernel)
theorem aV_117_87_35_10 {V : wV} {I : Nat → Nat → Int32} {a : Nat} (h : a = 354) : zPutQ 117 87 a (wm V I) 35 := mkV (wS_10 h) (by omega) (by decide +kernel) (by decide +kernel)
theorem aV_117_90_37_10 {V : wV} {I : Nat → Nat → Int32} {a : Nat} (h : a = 354) : zPutQ 117 90 a (wm V I) 37 := mkV (wS_10 h) (by omega) (by decide +kernel) (by decide +kernel)
theorem aV_117_93_38_10 {V : wV} {I : Nat → Nat → Int32} {a : Nat} (h : a = 354) : zPutQ 117 93 a (wm V I) 38 := mkV (wS_10 h) (by omega) (by decide +kernel) (by decide +kernel)
theorem aV_117_96_39_10 {V : wV} {I : Nat → Nat → Int32} {a : Nat} (h : a = 354) : zPutQ 117 96 a (wm V I) 39 := mkV (wS_10 h) (by omega) (by decide +kernel) (by decide +kernel)
theorem aV_117_99_41_10 {V : wV} {I : Nat → Nat → Int32} {a : Nat} (h : a = 354) : zPutQ 117 99 a (wm V I) 41 := mkV (wS_10 h) (by omega) (by decide +kernel) (by decide +kernel)
theorem aV_13_11_0_2 {V : wV} {I : Nat → Nat → Int32} {a : Nat} (h : a = 4) : zPutQ 13 11 a (wm V I) 0 := mkV (wS_2 h) (by omega) (by decide +kernel) (by decide +kernel)
theorem aV_21_15_1_3 {V : wV} {I : Nat → Nat → Int32} {a : Nat} (h : a = 46) : zPutQ 21 15 a (wm V I) 1 := mkV (wS_3 h) (by omega) (by decide +kernel) (by decide +kernel)
theorem aV_21_18_2_3 {V : wV} {I : Nat → Nat → Int32} {a : Nat} (h : a = 46) : zPutQ 21 18 a (wm V I) 2 := mkV (wS_3 h) (by omega) (by decide +kernel) (by decide +kernel)
theorem aV_21_21_3_3 {V : wV} {I : Nat → Nat → Int32} {a : Nat} (h : a = 46) : zPutQ 21 21 a (wm V I) 3 := mkV (wS_3 h) (by omega) (by decide +kernel) (by decide +kernel)
theorem aV_21_24_4_3 {V : wV} {I : Nat → Nat → Int32} {a : Nat} (h : a = 46) : zPutQ 21 24 a (wm V I) 4 := mkV (wS_3 h) (by omega) (by decide +kernel) (by decide +kernel)
theorem aV_21_9_0_3 {V : wV} {I : Nat → Nat → Int32} {a : Nat} (h : a = 46) : zPutQ 21 9 a (wm V I) 0 := mkV (wS_3 h) (by omega) (by decide +kernel) (by decide +kernel)
theorem aV_28_15_1_4 {V : wV} {I : Nat → Nat → Int32} {a : Nat} (h : 240 ≤ a ∧ a < 354 ∧ (a - 234) % 10 = 6) : zPutQ 28 15 a (wm V I) 1 := mkV (wS_4 h) (by omega) (by decide +kernel) (by decide +kernel)
theorem aV_28_18_2_4 {V : wV} {I : Nat → Nat → Int32} {a : Nat} (h : 240 ≤ a ∧ a < 354 ∧ (a - 234) % 10 = 6) : zPutQ 28 18 a (wm V I) 2 := mkV (wS_4 h) (by omega) (by decide +kernel) (by decide +kernel)
theorem aV_28_9_0_4 {V : wV} {I : Nat → Nat → Int32} {a : Nat} (h : 240 ≤ a ∧ a < 354 ∧ (a - 234) % 10 = 6) : zPutQ 28 9 a (wm V I) 0 := mkV (wS_4 h) (by omega) (by decide +kernel) (by decide +kernel)
theorem aV_41_15_2_6 {V : wV} {I : Nat → Nat → Int32} {a : Nat} (h : 234 ≤ a ∧ a < 354 ∧ (a - 234) % 10 = 0) : zPutQ 41 15 a (wm V I) 2 := mkV (wS_6 h) (by omega) (by decide +kernel) (by decide +kernel)
theorem aV_41_18_3_6 {V : wV} {I : Nat → Nat → Int32} {a : Nat} (h : 234 ≤ a ∧ a < 354 ∧ (a - 234) % 10 = 0) : zPutQ 41 18 a (wm V I) 3 := mkV (wS_6 h) (by omega) (by decide +kernel) (by decide +kernel)
theorem aV_41_21_4_6 {V : wV} {I : Nat → Nat → Int32} {a : Nat} (h : 234 ≤ a ∧ a < 354 ∧ (a - 234) % 10 = 0) : zPutQ 41 21 a (wm V I) 4 := mkV (wS_6 h) (by omega) (by decide +kernel) (by decide +kernel)
theorem aV_41_24_5_6 {V : wV} {I : Nat → Nat → Int32} {a : Nat} (h : 234 ≤ a ∧ a < 354 ∧ (a - 234) % 10 = 0) : zPutQ 41 24 a (wm V I) 5 := mkV (wS_6 h) (by omega) (by decide +kernel) (by decide +kernel)
theorem aV_41_34_6_6 {V : wV} {I : Nat → Nat → Int32} {a : Nat} (h : 234 ≤ a ∧ a < 354 ∧ (a - 234) % 10 = 0) : zPutQ 41 34 a (wm V I) 6 := mkV (wS_6 h) (by omega) (by decide +kernel) (by decide +kernel)
theorem aV_41_9_1_6 {V : wV} {I : Nat → Nat → Int32} {a : Nat} (h : 234 ≤ a ∧ a < 354 ∧ (a - 234) % 10 = 0) : zPutQ 41 9 a (wm V I) 1 := mkV (wS_6 h) (by omega) (by decide +kernel) (by decide +kernel)
theorem aV_58_15_0_8 {V : wV} {I : Nat → Nat → Int32} {a : Nat} (h : a = 56 ∨ a = 108) : zPutQ 58 15 a (wm V I) 0 := mkV (wS_8 h) (by omega) (by decide +kernel) (by decide +kernel)
theorem aV_61_11_0_9 {V : wV} {I : Nat → Nat → Int32} {a : Nat} (h : a = 0) : zPutQ 61 11 a (wm V I) 0 := mkV (wS_9 h) (by omega) (by decide +kernel) (by decide +kernel)
theorem aV_61_17_1_9 {V : wV} {I : Nat → Nat → Int32} {a : Nat} (h : a = 0) : zPutQ 61 17 a (wm V I) 1 := mkV (wS_9 h) (by omega) (by decide +kernel) (by decide +kernel)
theorem aV_61_21_2_9 {V : wV} {I : Nat → Nat → Int32} {a : Nat} (h : a = 0) : zPutQ 61 21 a (wm V I) 2 := mkV (wS_9 h) (by omega) (by decide +kernel) (by decide +kernel)
theorem aV_61_28_3_9 {V : wV} {I : Nat → Nat → Int32} {a : Nat} (h : a = 0) : zPutQ 61 28 a (wm V I) 3 := mkV (wS_9 h) (by omega) (by decide +kernel) (by decide +kernel)
theorem aV_61_35_4_9 {V : wV} {I : Nat → Nat → Int32} {a : Nat} (h : a = 0) : zPutQ 61 35 a (wm V I) 4 := mkV (wS_9 h) (by omega) (by decide +kernel) (by decide +kernel)
theorem aV_61_42_5_9 {V : wV} {I : Nat → Nat → Int32} {a : Nat} (h : a = 0) : zPutQ 61 42 a (wm V I) 5 := mkV (wS_9 h) (by omega) (by decide +kernel) (by decide +kernel)
theorem aV_61_51_6_9 {V : wV} {I : Nat → Nat → Int32} {a : Nat} (h : a = 0) : zPutQ 61 51 a (wm V I) 6 := mkV (wS_9 h) (by omega) (by decide +kernel) (by decide +kernel)
theorem aV_61_55_7_9 {V : wV} {I : Nat → Nat → Int32} {a : Nat} (h : a = 0) : zPutQ 61 55 a (wm V I) 7 := mkV (wS_9 h) (by omega) (by decide +kernel) (by decide +kernel)
theorem aV_61_61_8_9 {V : wV} {I : Nat → Nat → Int32} {a : Nat} (h : a = 0) : zPutQ 61 61 a (wm V I) 8 := mkV (wS_9 h) (by omega) (by decide +kernel) (by decide +kernel)
theorem aV_61_65_9_9 {V : wV} {I : Nat → Nat → Int32} {a : Nat} (h : a = 0) : zPutQ 61 65 a (wm V I) 9 := mkV (wS_9 h) (by omega) (by decide +kernel) (by decide +kernel)
theorem aV_61_71_10_9 {V : wV} {I : Nat → Nat → Int32} {a : Nat} (h : a = 0) : zPutQ 61 71 a (wm V I) 10 := mkV (wS_9 h) (by omega) (by decide +kernel) (by decide +kernel)
theorem aV_61_75_11_9 {V : wV} {I : Nat → Nat → Int32} {a : Nat} (h : a = 0) : zPutQ 61 75 a (wm V I) 11 := mkV (wS_9 h) (by omega) (by decide +kernel) (by decide +kernel)
theorem aV_62_109_6_6 {V : wV} {I : Nat → Nat → Int32} {a : Nat} (h : 234 ≤ a ∧ a < 354 ∧ (a - 234) % 10 = 0) : zPutQ 62 109 a (wm V I) 6 := mkV (wS_6 h) (by omega) (by decide +kernel) (by decide +kernel)
