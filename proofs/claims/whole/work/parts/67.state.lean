/-! What holds of the numbers between calls, and of the class's cells against them. -/
def wMad (s : wG) : Nat := (s 354 16).toNatClampNeg
def wWhn (s : wG) (k : Nat) : Nat := (s 373 k).toNatClampNeg
def wLst (s : wG) : Nat := (s 354 11).toNatClampNeg
/-- a number beside the others: no more stamps than this were given -/
def wGst (s : wG) : Nat := (s 999 0).toNatClampNeg
def wTld (s : wG) : Nat := (s 354 36).toNatClampNeg
def wCnt (s : wG) : Nat → Nat
  | 0 => 0
  | k + 1 => wCnt s k + (if s 365 k = 1 then 1 else 0)
def wGrn (s : wG) : Nat → Nat
  | 0 => 0
  | k + 1 => wGrn s k + (if wGrp s k = k then 1 else 0)
def wBrk (s : wG) (a i : Nat) : Int32 := if wKnd s a = 1 then (if s 362 (20 * a + i) = 0 then 1 else 0) else if wKnd s a = 4 then (if s 362 (20 * a + i) = 0 then 0 else 1) else 1
def wW (s : wG) : Prop := (s 354 0 = nI (wMny s) ∧ wMny s ≤ 12) ∧ (∀ a, a < wMny s → (s 355 a = nI (wKnd s a) ∧ wKnd s a < 6)) ∧ (∀ a, a < 12 → (s 356 a = nI (wStp s a) ∧ wStp s a ≤ 20)) ∧ (∀ a, wMny s ≤ a → a < 12 → (wStp s a = 0)) ∧ (∀ a, a < 12 → (s 357 a = 0 ∨ (s 357 a = 1 ∧ a < wMny s ∧ 3 ≤ wStp s a))) ∧ (∀ a, a < wMny s → (-1 ≤ (s 358 a).toInt ∧ (s 358 a).toInt ≤ 10000)) ∧ (∀ a, a < wMny s → (s 359 a = wM1 ∨ (1 ≤ (s 359 a).toInt ∧ (s 359 a).toInt ≤ 200 ∧ wKnd s a = 1))) ∧ (∀ k, k < 240 → (s 360 k = nI (wDr s k) ∧ wDr s k < 24)) ∧ (∀ k, k < 240 → (s 361 k = nI (wLn s k) ∧ wLn s k ≤ 12)) ∧ (∀ k, k < 240 → (s 362 k = 0 ∨ s 362 k = 1)) ∧ (∀ a i, a < wMny s → i < wStp s a → (s 364 (20 * a + i) = wM1 ∨ ∃ k, k < 40 ∧ s 364 (20 * a + i) = nI k)) ∧ (∀ k, k < 41 → (s 365 k = 0 ∨ (s 365 k = 1 ∧ k < 40))) ∧ (∀ k, k < 40 → s 365 k = 1 → (s 366 k = nI (wJA s k) ∧ s 367 k = nI (wJI s k) ∧ s 368 k = nI (wJB s k) ∧ s 369 k = nI (wJJ s k) ∧ s 370 k = nI (wJT s k) ∧ s 371 k = nI (wJN s k))) ∧ (∀ k, k < 40 → s 365 k = 1 → (wJA s k < wJB s k ∧ wJB s k < wMny s ∧ wJI s k < wStp s (wJA s k) ∧ wJJ s k < wStp s (wJB s k) ∧ wJT s k < 24 ∧ 1 ≤ wJN s k ∧ wJN s k ≤ wStp s (wJA s k) ∧ wJN s k ≤ wStp s (wJB s k))) ∧ (∀ k, k < 40 → s 365 k = 1 → (s 357 (wJA s k) = 1 ∧ s 357 (wJB s k) = 1 ∧ (s 372 k = 0 ∨ s 372 k = 1))) ∧ (s 354 15 = nI (wCnt s 40)) ∧ (s 354 16 = nI (wMad s) ∧ wMad s ≤ 1000000) ∧ (∀ k, k < 40 → s 365 k = 1 → (s 373 k = nI (wWhn s k) ∧ 1 ≤ wWhn s k ∧ wWhn s k ≤ wMad s)) ∧ (∀ k l, k < 40 → l < 40 → s 365 k = 1 → s 365 l = 1 → wWhn s k = wWhn s l → (k = l)) ∧ (s 354 11 = nI (wLst s) ∧ 1 ≤ wLst s ∧ wLst s ≤ 100) ∧ (s 354 36 = nI (wTld s) ∧ wTld s ≤ 50) ∧ (s 999 0 = nI (wGst s) ∧ wGst s ≤ 100000000) ∧ (∀ a i, a < wMny s → i < wStp s a → ((wKnd s a = 3 ∨ wKnd s a = 4) ∨ s 363 (20 * a + i) = 0))
def rN (V : wV) (I : Nat → Nat → Int32) (s : wG) : Prop := (I 0 12 = nI (wMny s)) ∧ (I 0 13 = nI (wLst s) ∧ I 0 14 = s 354 12 ∧ I 0 15 = s 354 13 ∧ I 0 16 = s 354 14) ∧ (I 0 17 = s 354 30 ∧ I 0 18 = s 354 31) ∧ (I 0 19 = s 354 50) ∧ (I 233 0 = s 354 51 ∧ I 233 1 = s 354 52 ∧ I 233 2 = s 354 53)
def rS (V : wV) (I : Nat → Nat → Int32) (s : wG) : Prop := (∀ a, a < 12 → (I (234 + 10 * a) 0 = nI a ∧ I (234 + 10 * a) 7 = nI (wStp s a) ∧ I (234 + 10 * a) 8 = s 357 a)) ∧ (∀ a, a < wMny s → (I (234 + 10 * a) 9 = s 358 a ∧ I (234 + 10 * a) 10 = s 359 a ∧ vK V a = wKnd s a)) ∧ (∀ a, wMny s ≤ a → a < 12 → (I (234 + 10 * a) 9 = wM1 ∧ I (234 + 10 * a) 10 = wM1)) ∧ (∀ a i, a < 12 → i < 20 → (I (234 + 10 * a + 1) i = nI (wDr s (20 * a + i)) ∧ I (234 + 10 * a + 2) i = nI (wLn s (20 * a + i)) ∧ I (234 + 10 * a + 3) i = s 363 (20 * a + i))) ∧ (∀ a i, a < wMny s → i < wStp s a → (I (234 + 10 * a + 4) i = s 364 (20 * a + i) ∧ I (234 + 10 * a + 5) i = wBrk s a i)) ∧ (∀ a i, a < 12 → i < 20 → wStp s a ≤ i → (I (234 + 10 * a + 4) i = wM1 ∧ s 363 (20 * a + i) = 0))
def rJ (V : wV) (I : Nat → Nat → Int32) (s : wG) : Prop := (∀ k, k < 40 → s 365 k = 0 → (I (6 + k) 9 = 0)) ∧ (∀ k, k < 40 → s 365 k = 1 → (I (6 + k) 0 = nI (wJA s k) ∧ I (6 + k) 1 = nI (wJI s k) ∧ I (6 + k) 2 = nI (wJB s k) ∧ I (6 + k) 3 = nI (wJJ s k) ∧ I (6 + k) 4 = nI (wJT s k) ∧ I (6 + k) 5 = nI (wJN s k) ∧ I (6 + k) 6 = nI (wStp s (wJA s k)) ∧ I (6 + k) 7 = nI (wStp s (wJB s k)) ∧ I (6 + k) 8 = s 372 k)) ∧ (I 4 1 = nI (wCnt s 40)) ∧ (∃ (st : Nat → Nat) (ls : Nat), I 4 2 = nI ls ∧ ls ≤ wGst s ∧ (∀ k, k < 40 → s 365 k = 1 → I (6 + k) 9 = nI (st k) ∧ 1 ≤ st k ∧ st k ≤ ls) ∧ (∀ k l, k < 40 → l < 40 → s 365 k = 1 → s 365 l = 1 → (st k < st l ↔ wWhn s k < wWhn s l)))
def rL (V : wV) (I : Nat → Nat → Int32) (s : wG) : Prop := (∀ a, a < wMny s → (I 47 a = nI (wGrp s a) ∧ I 48 a = nI ((wLay s (wGrp s a)).2.1 a) ∧ I 49 a = (wLay s (wGrp s a)).2.2.1 a ∧ I 50 a = (wLay s (wGrp s a)).2.2.2 a)) ∧ (I 46 6 = nI (wGrn s (wMny s)))
def rF (V : wV) (I : Nat → Nat → Int32) (s : wG) : Prop := (I 56 1 = nI (wTld s)) ∧ (∀ k, k < wTld s → (I (vF V k) 1 = s 374 (6 * k) ∧ I (vF V k) 3 = s 374 (6 * k + 1) ∧ I (vF V k) 4 = s 374 (6 * k + 2) ∧ I (vF V k) 5 = s 374 (6 * k + 3) ∧ I (vF V k) 8 = s 374 (6 * k + 4) ∧ I (vF V k) 9 = s 374 (6 * k + 5)))
def rP (V : wV) (I : Nat → Nat → Int32) (s : wG) : Prop := (∀ k, k < 50 → (58 ≤ vF V k ∧ vF V k < 108)) ∧ (∀ k l, k < 50 → l < 50 → vF V k = vF V l → (k = l)) ∧ (∀ k, k < 120 → (110 ≤ vU V k ∧ vU V k < 230)) ∧ (∀ k l, k < 120 → l < 120 → vU V k = vU V l → (k = l))
def rC (V : wV) (I : Nat → Nat → Int32) (s : wG) : Prop := rN V I s ∧ rS V I s ∧ rJ V I s ∧ rL V I s ∧ rF V I s ∧ rP V I s
theorem wW.mny0 {s : wG} (h : wW s) : s 354 0 = nI (wMny s) := (h.1).1
theorem wW.mny1 {s : wG} (h : wW s) : wMny s ≤ 12 := (h.1).2
theorem wW.knd0 {s : wG} (h : wW s) {a : Nat} (h0 : a < wMny s) : s 355 a = nI (wKnd s a) := (h.2.1 a h0).1
theorem wW.knd1 {s : wG} (h : wW s) {a : Nat} (h0 : a < wMny s) : wKnd s a < 6 := (h.2.1 a h0).2
theorem wW.stp0 {s : wG} (h : wW s) {a : Nat} (h0 : a < 12) : s 356 a = nI (wStp s a) := (h.2.2.1 a h0).1
theorem wW.stp1 {s : wG} (h : wW s) {a : Nat} (h0 : a < 12) : wStp s a ≤ 20 := (h.2.2.1 a h0).2
theorem wW.stz {s : wG} (h : wW s) {a : Nat} (h0 : wMny s ≤ a) (h1 : a < 12) : wStp s a = 0 := (h.2.2.2.1 a h0 h1)
theorem wW.cls {s : wG} (h : wW s) {a : Nat} (h0 : a < 12) : s 357 a = 0 ∨ (s 357 a = 1 ∧ a < wMny s ∧ 3 ≤ wStp s a) := (h.2.2.2.2.1 a h0)
theorem wW.ten0 {s : wG} (h : wW s) {a : Nat} (h0 : a < wMny s) : -1 ≤ (s 358 a).toInt := (h.2.2.2.2.2.1 a h0).1
theorem wW.ten1 {s : wG} (h : wW s) {a : Nat} (h0 : a < wMny s) : (s 358 a).toInt ≤ 10000 := (h.2.2.2.2.2.1 a h0).2
theorem wW.cir {s : wG} (h : wW s) {a : Nat} (h0 : a < wMny s) : s 359 a = wM1 ∨ (1 ≤ (s 359 a).toInt ∧ (s 359 a).toInt ≤ 200 ∧ wKnd s a = 1) := (h.2.2.2.2.2.2.1 a h0)
theorem wW.dir0 {s : wG} (h : wW s) {k : Nat} (h0 : k < 240) : s 360 k = nI (wDr s k) := (h.2.2.2.2.2.2.2.1 k h0).1
theorem wW.dir1 {s : wG} (h : wW s) {k : Nat} (h0 : k < 240) : wDr s k < 24 := (h.2.2.2.2.2.2.2.1 k h0).2
theorem wW.len0 {s : wG} (h : wW s) {k : Nat} (h0 : k < 240) : s 361 k = nI (wLn s k) := (h.2.2.2.2.2.2.2.2.1 k h0).1
theorem wW.len1 {s : wG} (h : wW s) {k : Nat} (h0 : k < 240) : wLn s k ≤ 12 := (h.2.2.2.2.2.2.2.2.1 k h0).2
theorem wW.mrk {s : wG} (h : wW s) {k : Nat} (h0 : k < 240) : s 362 k = 0 ∨ s 362 k = 1 := (h.2.2.2.2.2.2.2.2.2.1 k h0)
theorem wW.jof {s : wG} (h : wW s) {a : Nat} {i : Nat} (h0 : a < wMny s) (h1 : i < wStp s a) : s 364 (20 * a + i) = wM1 ∨ ∃ k, k < 40 ∧ s 364 (20 * a + i) = nI k := (h.2.2.2.2.2.2.2.2.2.2.1 a i h0 h1)
theorem wW.isj {s : wG} (h : wW s) {k : Nat} (h0 : k < 41) : s 365 k = 0 ∨ (s 365 k = 1 ∧ k < 40) := (h.2.2.2.2.2.2.2.2.2.2.2.1 k h0)
theorem wW.jnv0 {s : wG} (h : wW s) {k : Nat} (h0 : k < 40) (h1 : s 365 k = 1) : s 366 k = nI (wJA s k) := (h.2.2.2.2.2.2.2.2.2.2.2.2.1 k h0 h1).1
theorem wW.jnv1 {s : wG} (h : wW s) {k : Nat} (h0 : k < 40) (h1 : s 365 k = 1) : s 367 k = nI (wJI s k) := (h.2.2.2.2.2.2.2.2.2.2.2.2.1 k h0 h1).2.1
theorem wW.jnv2 {s : wG} (h : wW s) {k : Nat} (h0 : k < 40) (h1 : s 365 k = 1) : s 368 k = nI (wJB s k) := (h.2.2.2.2.2.2.2.2.2.2.2.2.1 k h0 h1).2.2.1
theorem wW.jnv3 {s : wG} (h : wW s) {k : Nat} (h0 : k < 40) (h1 : s 365 k = 1) : s 369 k = nI (wJJ s k) := (h.2.2.2.2.2.2.2.2.2.2.2.2.1 k h0 h1).2.2.2.1
theorem wW.jnv4 {s : wG} (h : wW s) {k : Nat} (h0 : k < 40) (h1 : s 365 k = 1) : s 370 k = nI (wJT s k) := (h.2.2.2.2.2.2.2.2.2.2.2.2.1 k h0 h1).2.2.2.2.1
theorem wW.jnv5 {s : wG} (h : wW s) {k : Nat} (h0 : k < 40) (h1 : s 365 k = 1) : s 371 k = nI (wJN s k) := (h.2.2.2.2.2.2.2.2.2.2.2.2.1 k h0 h1).2.2.2.2.2
theorem wW.jnr0 {s : wG} (h : wW s) {k : Nat} (h0 : k < 40) (h1 : s 365 k = 1) : wJA s k < wJB s k := (h.2.2.2.2.2.2.2.2.2.2.2.2.2.1 k h0 h1).1
theorem wW.jnr1 {s : wG} (h : wW s) {k : Nat} (h0 : k < 40) (h1 : s 365 k = 1) : wJB s k < wMny s := (h.2.2.2.2.2.2.2.2.2.2.2.2.2.1 k h0 h1).2.1
theorem wW.jnr2 {s : wG} (h : wW s) {k : Nat} (h0 : k < 40) (h1 : s 365 k = 1) : wJI s k < wStp s (wJA s k) := (h.2.2.2.2.2.2.2.2.2.2.2.2.2.1 k h0 h1).2.2.1
theorem wW.jnr3 {s : wG} (h : wW s) {k : Nat} (h0 : k < 40) (h1 : s 365 k = 1) : wJJ s k < wStp s (wJB s k) := (h.2.2.2.2.2.2.2.2.2.2.2.2.2.1 k h0 h1).2.2.2.1
theorem wW.jnr4 {s : wG} (h : wW s) {k : Nat} (h0 : k < 40) (h1 : s 365 k = 1) : wJT s k < 24 := (h.2.2.2.2.2.2.2.2.2.2.2.2.2.1 k h0 h1).2.2.2.2.1
theorem wW.jnr5 {s : wG} (h : wW s) {k : Nat} (h0 : k < 40) (h1 : s 365 k = 1) : 1 ≤ wJN s k := (h.2.2.2.2.2.2.2.2.2.2.2.2.2.1 k h0 h1).2.2.2.2.2.1
theorem wW.jnr6 {s : wG} (h : wW s) {k : Nat} (h0 : k < 40) (h1 : s 365 k = 1) : wJN s k ≤ wStp s (wJA s k) := (h.2.2.2.2.2.2.2.2.2.2.2.2.2.1 k h0 h1).2.2.2.2.2.2.1
theorem wW.jnr7 {s : wG} (h : wW s) {k : Nat} (h0 : k < 40) (h1 : s 365 k = 1) : wJN s k ≤ wStp s (wJB s k) := (h.2.2.2.2.2.2.2.2.2.2.2.2.2.1 k h0 h1).2.2.2.2.2.2.2
theorem wW.jnc0 {s : wG} (h : wW s) {k : Nat} (h0 : k < 40) (h1 : s 365 k = 1) : s 357 (wJA s k) = 1 := (h.2.2.2.2.2.2.2.2.2.2.2.2.2.2.1 k h0 h1).1
theorem wW.jnc1 {s : wG} (h : wW s) {k : Nat} (h0 : k < 40) (h1 : s 365 k = 1) : s 357 (wJB s k) = 1 := (h.2.2.2.2.2.2.2.2.2.2.2.2.2.2.1 k h0 h1).2.1
theorem wW.jnc2 {s : wG} (h : wW s) {k : Nat} (h0 : k < 40) (h1 : s 365 k = 1) : (s 372 k = 0 ∨ s 372 k = 1) := (h.2.2.2.2.2.2.2.2.2.2.2.2.2.2.1 k h0 h1).2.2
theorem wW.cnt {s : wG} (h : wW s) : s 354 15 = nI (wCnt s 40) := (h.2.2.2.2.2.2.2.2.2.2.2.2.2.2.2.1)
theorem wW.mad0 {s : wG} (h : wW s) : s 354 16 = nI (wMad s) := (h.2.2.2.2.2.2.2.2.2.2.2.2.2.2.2.2.1).1
theorem wW.mad1 {s : wG} (h : wW s) : wMad s ≤ 1000000 := (h.2.2.2.2.2.2.2.2.2.2.2.2.2.2.2.2.1).2
theorem wW.whn0 {s : wG} (h : wW s) {k : Nat} (h0 : k < 40) (h1 : s 365 k = 1) : s 373 k = nI (wWhn s k) := (h.2.2.2.2.2.2.2.2.2.2.2.2.2.2.2.2.2.1 k h0 h1).1
theorem wW.whn1 {s : wG} (h : wW s) {k : Nat} (h0 : k < 40) (h1 : s 365 k = 1) : 1 ≤ wWhn s k := (h.2.2.2.2.2.2.2.2.2.2.2.2.2.2.2.2.2.1 k h0 h1).2.1
theorem wW.whn2 {s : wG} (h : wW s) {k : Nat} (h0 : k < 40) (h1 : s 365 k = 1) : wWhn s k ≤ wMad s := (h.2.2.2.2.2.2.2.2.2.2.2.2.2.2.2.2.2.1 k h0 h1).2.2
theorem wW.wdf {s : wG} (h : wW s) {k : Nat} {l : Nat} (h0 : k < 40) (h1 : l < 40) (h2 : s 365 k = 1) (h3 : s 365 l = 1) (h4 : wWhn s k = wWhn s l) : k = l := (h.2.2.2.2.2.2.2.2.2.2.2.2.2.2.2.2.2.2.1 k l h0 h1 h2 h3 h4)
theorem wW.lst0 {s : wG} (h : wW s) : s 354 11 = nI (wLst s) := (h.2.2.2.2.2.2.2.2.2.2.2.2.2.2.2.2.2.2.2.1).1
theorem wW.lst1 {s : wG} (h : wW s) : 1 ≤ wLst s := (h.2.2.2.2.2.2.2.2.2.2.2.2.2.2.2.2.2.2.2.1).2.1
theorem wW.lst2 {s : wG} (h : wW s) : wLst s ≤ 100 := (h.2.2.2.2.2.2.2.2.2.2.2.2.2.2.2.2.2.2.2.1).2.2
theorem wW.tld0 {s : wG} (h : wW s) : s 354 36 = nI (wTld s) := (h.2.2.2.2.2.2.2.2.2.2.2.2.2.2.2.2.2.2.2.2.1).1
theorem wW.tld1 {s : wG} (h : wW s) : wTld s ≤ 50 := (h.2.2.2.2.2.2.2.2.2.2.2.2.2.2.2.2.2.2.2.2.1).2
theorem wW.gst0 {s : wG} (h : wW s) : s 999 0 = nI (wGst s) := (h.2.2.2.2.2.2.2.2.2.2.2.2.2.2.2.2.2.2.2.2.2.1).1
theorem wW.gst1 {s : wG} (h : wW s) : wGst s ≤ 100000000 := (h.2.2.2.2.2.2.2.2.2.2.2.2.2.2.2.2.2.2.2.2.2.1).2
theorem wW.col {s : wG} (h : wW s) {a : Nat} {i : Nat} (h0 : a < wMny s) (h1 : i < wStp s a) : (wKnd s a = 3 ∨ wKnd s a = 4) ∨ s 363 (20 * a + i) = 0 := (h.2.2.2.2.2.2.2.2.2.2.2.2.2.2.2.2.2.2.2.2.2.2 a i h0 h1)
theorem rN.num {V : wV} {I : Nat → Nat → Int32} {s : wG} (h : rN V I s) : I 0 12 = nI (wMny s) := (h.1)
theorem rN.tel0 {V : wV} {I : Nat → Nat → Int32} {s : wG} (h : rN V I s) : I 0 13 = nI (wLst s) := (h.2.1).1
theorem rN.tel1 {V : wV} {I : Nat → Nat → Int32} {s : wG} (h : rN V I s) : I 0 14 = s 354 12 := (h.2.1).2.1
theorem rN.tel2 {V : wV} {I : Nat → Nat → Int32} {s : wG} (h : rN V I s) : I 0 15 = s 354 13 := (h.2.1).2.2.1
theorem rN.tel3 {V : wV} {I : Nat → Nat → Int32} {s : wG} (h : rN V I s) : I 0 16 = s 354 14 := (h.2.1).2.2.2
theorem rN.ftd0 {V : wV} {I : Nat → Nat → Int32} {s : wG} (h : rN V I s) : I 0 17 = s 354 30 := (h.2.2.1).1
theorem rN.ftd1 {V : wV} {I : Nat → Nat → Int32} {s : wG} (h : rN V I s) : I 0 18 = s 354 31 := (h.2.2.1).2
theorem rN.rnd {V : wV} {I : Nat → Nat → Int32} {s : wG} (h : rN V I s) : I 0 19 = s 354 50 := (h.2.2.2.1)
theorem rN.lie0 {V : wV} {I : Nat → Nat → Int32} {s : wG} (h : rN V I s) : I 233 0 = s 354 51 := (h.2.2.2.2).1
theorem rN.lie1 {V : wV} {I : Nat → Nat → Int32} {s : wG} (h : rN V I s) : I 233 1 = s 354 52 := (h.2.2.2.2).2.1
theorem rN.lie2 {V : wV} {I : Nat → Nat → Int32} {s : wG} (h : rN V I s) : I 233 2 = s 354 53 := (h.2.2.2.2).2.2
theorem rS.sh0 {V : wV} {I : Nat → Nat → Int32} {s : wG} (h : rS V I s) {a : Nat} (h0 : a < 12) : I (234 + 10 * a) 0 = nI a := (h.1 a h0).1
theorem rS.sh1 {V : wV} {I : Nat → Nat → Int32} {s : wG} (h : rS V I s) {a : Nat} (h0 : a < 12) : I (234 + 10 * a) 7 = nI (wStp s a) := (h.1 a h0).2.1
theorem rS.sh2 {V : wV} {I : Nat → Nat → Int32} {s : wG} (h : rS V I s) {a : Nat} (h0 : a < 12) : I (234 + 10 * a) 8 = s 357 a := (h.1 a h0).2.2
theorem rS.sk0 {V : wV} {I : Nat → Nat → Int32} {s : wG} (h : rS V I s) {a : Nat} (h0 : a < wMny s) : I (234 + 10 * a) 9 = s 358 a := (h.2.1 a h0).1
theorem rS.sk1 {V : wV} {I : Nat → Nat → Int32} {s : wG} (h : rS V I s) {a : Nat} (h0 : a < wMny s) : I (234 + 10 * a) 10 = s 359 a := (h.2.1 a h0).2.1
theorem rS.sk2 {V : wV} {I : Nat → Nat → Int32} {s : wG} (h : rS V I s) {a : Nat} (h0 : a < wMny s) : vK V a = wKnd s a := (h.2.1 a h0).2.2
theorem rS.sn0 {V : wV} {I : Nat → Nat → Int32} {s : wG} (h : rS V I s) {a : Nat} (h0 : wMny s ≤ a) (h1 : a < 12) : I (234 + 10 * a) 9 = wM1 := (h.2.2.1 a h0 h1).1
theorem rS.sn1 {V : wV} {I : Nat → Nat → Int32} {s : wG} (h : rS V I s) {a : Nat} (h0 : wMny s ≤ a) (h1 : a < 12) : I (234 + 10 * a) 10 = wM1 := (h.2.2.1 a h0 h1).2
theorem rS.ar0 {V : wV} {I : Nat → Nat → Int32} {s : wG} (h : rS V I s) {a : Nat} {i : Nat} (h0 : a < 12) (h1 : i < 20) : I (234 + 10 * a + 1) i = nI (wDr s (20 * a + i)) := (h.2.2.2.1 a i h0 h1).1
theorem rS.ar1 {V : wV} {I : Nat → Nat → Int32} {s : wG} (h : rS V I s) {a : Nat} {i : Nat} (h0 : a < 12) (h1 : i < 20) : I (234 + 10 * a + 2) i = nI (wLn s (20 * a + i)) := (h.2.2.2.1 a i h0 h1).2.1
theorem rS.ar2 {V : wV} {I : Nat → Nat → Int32} {s : wG} (h : rS V I s) {a : Nat} {i : Nat} (h0 : a < 12) (h1 : i < 20) : I (234 + 10 * a + 3) i = s 363 (20 * a + i) := (h.2.2.2.1 a i h0 h1).2.2
theorem rS.at0 {V : wV} {I : Nat → Nat → Int32} {s : wG} (h : rS V I s) {a : Nat} {i : Nat} (h0 : a < wMny s) (h1 : i < wStp s a) : I (234 + 10 * a + 4) i = s 364 (20 * a + i) := (h.2.2.2.2.1 a i h0 h1).1
theorem rS.at1 {V : wV} {I : Nat → Nat → Int32} {s : wG} (h : rS V I s) {a : Nat} {i : Nat} (h0 : a < wMny s) (h1 : i < wStp s a) : I (234 + 10 * a + 5) i = wBrk s a i := (h.2.2.2.2.1 a i h0 h1).2
theorem rS.az0 {V : wV} {I : Nat → Nat → Int32} {s : wG} (h : rS V I s) {a : Nat} {i : Nat} (h0 : a < 12) (h1 : i < 20) (h2 : wStp s a ≤ i) : I (234 + 10 * a + 4) i = wM1 := (h.2.2.2.2.2 a i h0 h1 h2).1
theorem rS.az1 {V : wV} {I : Nat → Nat → Int32} {s : wG} (h : rS V I s) {a : Nat} {i : Nat} (h0 : a < 12) (h1 : i < 20) (h2 : wStp s a ≤ i) : s 363 (20 * a + i) = 0 := (h.2.2.2.2.2 a i h0 h1 h2).2
theorem rJ.jf {V : wV} {I : Nat → Nat → Int32} {s : wG} (h : rJ V I s) {k : Nat} (h0 : k < 40) (h1 : s 365 k = 0) : I (6 + k) 9 = 0 := (h.1 k h0 h1)
theorem rJ.jn0 {V : wV} {I : Nat → Nat → Int32} {s : wG} (h : rJ V I s) {k : Nat} (h0 : k < 40) (h1 : s 365 k = 1) : I (6 + k) 0 = nI (wJA s k) := (h.2.1 k h0 h1).1
theorem rJ.jn1 {V : wV} {I : Nat → Nat → Int32} {s : wG} (h : rJ V I s) {k : Nat} (h0 : k < 40) (h1 : s 365 k = 1) : I (6 + k) 1 = nI (wJI s k) := (h.2.1 k h0 h1).2.1
theorem rJ.jn2 {V : wV} {I : Nat → Nat → Int32} {s : wG} (h : rJ V I s) {k : Nat} (h0 : k < 40) (h1 : s 365 k = 1) : I (6 + k) 2 = nI (wJB s k) := (h.2.1 k h0 h1).2.2.1
theorem rJ.jn3 {V : wV} {I : Nat → Nat → Int32} {s : wG} (h : rJ V I s) {k : Nat} (h0 : k < 40) (h1 : s 365 k = 1) : I (6 + k) 3 = nI (wJJ s k) := (h.2.1 k h0 h1).2.2.2.1
theorem rJ.jn4 {V : wV} {I : Nat → Nat → Int32} {s : wG} (h : rJ V I s) {k : Nat} (h0 : k < 40) (h1 : s 365 k = 1) : I (6 + k) 4 = nI (wJT s k) := (h.2.1 k h0 h1).2.2.2.2.1
theorem rJ.jn5 {V : wV} {I : Nat → Nat → Int32} {s : wG} (h : rJ V I s) {k : Nat} (h0 : k < 40) (h1 : s 365 k = 1) : I (6 + k) 5 = nI (wJN s k) := (h.2.1 k h0 h1).2.2.2.2.2.1
theorem rJ.jn6 {V : wV} {I : Nat → Nat → Int32} {s : wG} (h : rJ V I s) {k : Nat} (h0 : k < 40) (h1 : s 365 k = 1) : I (6 + k) 6 = nI (wStp s (wJA s k)) := (h.2.1 k h0 h1).2.2.2.2.2.2.1
theorem rJ.jn7 {V : wV} {I : Nat → Nat → Int32} {s : wG} (h : rJ V I s) {k : Nat} (h0 : k < 40) (h1 : s 365 k = 1) : I (6 + k) 7 = nI (wStp s (wJB s k)) := (h.2.1 k h0 h1).2.2.2.2.2.2.2.1
theorem rJ.jn8 {V : wV} {I : Nat → Nat → Int32} {s : wG} (h : rJ V I s) {k : Nat} (h0 : k < 40) (h1 : s 365 k = 1) : I (6 + k) 8 = s 372 k := (h.2.1 k h0 h1).2.2.2.2.2.2.2.2
theorem rJ.jc {V : wV} {I : Nat → Nat → Int32} {s : wG} (h : rJ V I s) : I 4 1 = nI (wCnt s 40) := (h.2.2.1)
theorem rJ.stm {V : wV} {I : Nat → Nat → Int32} {s : wG} (h : rJ V I s) : ∃ (st : Nat → Nat) (ls : Nat), I 4 2 = nI ls ∧ ls ≤ wGst s ∧ (∀ k, k < 40 → s 365 k = 1 → I (6 + k) 9 = nI (st k) ∧ 1 ≤ st k ∧ st k ≤ ls) ∧ (∀ k l, k < 40 → l < 40 → s 365 k = 1 → s 365 l = 1 → (st k < st l ↔ wWhn s k < wWhn s l)) := (h.2.2.2)
theorem rL.lay0 {V : wV} {I : Nat → Nat → Int32} {s : wG} (h : rL V I s) {a : Nat} (h0 : a < wMny s) : I 47 a = nI (wGrp s a) := (h.1 a h0).1
theorem rL.lay1 {V : wV} {I : Nat → Nat → Int32} {s : wG} (h : rL V I s) {a : Nat} (h0 : a < wMny s) : I 48 a = nI ((wLay s (wGrp s a)).2.1 a) := (h.1 a h0).2.1
theorem rL.lay2 {V : wV} {I : Nat → Nat → Int32} {s : wG} (h : rL V I s) {a : Nat} (h0 : a < wMny s) : I 49 a = (wLay s (wGrp s a)).2.2.1 a := (h.1 a h0).2.2.1
theorem rL.lay3 {V : wV} {I : Nat → Nat → Int32} {s : wG} (h : rL V I s) {a : Nat} (h0 : a < wMny s) : I 50 a = (wLay s (wGrp s a)).2.2.2 a := (h.1 a h0).2.2.2
theorem rL.grc {V : wV} {I : Nat → Nat → Int32} {s : wG} (h : rL V I s) : I 46 6 = nI (wGrn s (wMny s)) := (h.2)
theorem rF.fsz {V : wV} {I : Nat → Nat → Int32} {s : wG} (h : rF V I s) : I 56 1 = nI (wTld s) := (h.1)
theorem rF.fnd0 {V : wV} {I : Nat → Nat → Int32} {s : wG} (h : rF V I s) {k : Nat} (h0 : k < wTld s) : I (vF V k) 1 = s 374 (6 * k) := (h.2 k h0).1
theorem rF.fnd1 {V : wV} {I : Nat → Nat → Int32} {s : wG} (h : rF V I s) {k : Nat} (h0 : k < wTld s) : I (vF V k) 3 = s 374 (6 * k + 1) := (h.2 k h0).2.1
theorem rF.fnd2 {V : wV} {I : Nat → Nat → Int32} {s : wG} (h : rF V I s) {k : Nat} (h0 : k < wTld s) : I (vF V k) 4 = s 374 (6 * k + 2) := (h.2 k h0).2.2.1
theorem rF.fnd3 {V : wV} {I : Nat → Nat → Int32} {s : wG} (h : rF V I s) {k : Nat} (h0 : k < wTld s) : I (vF V k) 5 = s 374 (6 * k + 3) := (h.2 k h0).2.2.2.1
theorem rF.fnd4 {V : wV} {I : Nat → Nat → Int32} {s : wG} (h : rF V I s) {k : Nat} (h0 : k < wTld s) : I (vF V k) 8 = s 374 (6 * k + 4) := (h.2 k h0).2.2.2.2.1
theorem rF.fnd5 {V : wV} {I : Nat → Nat → Int32} {s : wG} (h : rF V I s) {k : Nat} (h0 : k < wTld s) : I (vF V k) 9 = s 374 (6 * k + 5) := (h.2 k h0).2.2.2.2.2
theorem rP.prm0 {V : wV} {I : Nat → Nat → Int32} {s : wG} (h : rP V I s) {k : Nat} (h0 : k < 50) : 58 ≤ vF V k := (h.1 k h0).1
theorem rP.prm1 {V : wV} {I : Nat → Nat → Int32} {s : wG} (h : rP V I s) {k : Nat} (h0 : k < 50) : vF V k < 108 := (h.1 k h0).2
theorem rP.pri {V : wV} {I : Nat → Nat → Int32} {s : wG} (h : rP V I s) {k : Nat} {l : Nat} (h0 : k < 50) (h1 : l < 50) (h2 : vF V k = vF V l) : k = l := (h.2.1 k l h0 h1 h2)
theorem rP.pru0 {V : wV} {I : Nat → Nat → Int32} {s : wG} (h : rP V I s) {k : Nat} (h0 : k < 120) : 110 ≤ vU V k := (h.2.2.1 k h0).1
theorem rP.pru1 {V : wV} {I : Nat → Nat → Int32} {s : wG} (h : rP V I s) {k : Nat} (h0 : k < 120) : vU V k < 230 := (h.2.2.1 k h0).2
theorem rP.prj {V : wV} {I : Nat → Nat → Int32} {s : wG} (h : rP V I s) {k : Nat} {l : Nat} (h0 : k < 120) (h1 : l < 120) (h2 : vU V k = vU V l) : k = l := (h.2.2.2 k l h0 h1 h2)
theorem rC.N {V : wV} {I : Nat → Nat → Int32} {s : wG} (h : rC V I s) : rN V I s := h.1
theorem rC.S {V : wV} {I : Nat → Nat → Int32} {s : wG} (h : rC V I s) : rS V I s := h.2.1
theorem rC.J {V : wV} {I : Nat → Nat → Int32} {s : wG} (h : rC V I s) : rJ V I s := h.2.2.1
theorem rC.L {V : wV} {I : Nat → Nat → Int32} {s : wG} (h : rC V I s) : rL V I s := h.2.2.2.1
theorem rC.F {V : wV} {I : Nat → Nat → Int32} {s : wG} (h : rC V I s) : rF V I s := h.2.2.2.2.1
theorem rC.P {V : wV} {I : Nat → Nat → Int32} {s : wG} (h : rC V I s) : rP V I s := h.2.2.2.2.2
theorem rN.congr {V : wV} {I I2 : Nat → Nat → Int32} {s : wG} (h : rN V I s) (hI : ∀ a j, (a = 0 ∨ a = 233) → I2 a j = I a j) : rN V I2 s := by
  exact ⟨((hI _ _ (by omega)).trans (h.1)), (⟨(hI _ _ (by omega)).trans (h.2.1).1, (hI _ _ (by omega)).trans (h.2.1).2.1, (hI _ _ (by omega)).trans (h.2.1).2.2.1, (hI _ _ (by omega)).trans (h.2.1).2.2.2⟩), (⟨(hI _ _ (by omega)).trans (h.2.2.1).1, (hI _ _ (by omega)).trans (h.2.2.1).2⟩), ((hI _ _ (by omega)).trans (h.2.2.2.1)), (⟨(hI _ _ (by omega)).trans (h.2.2.2.2).1, (hI _ _ (by omega)).trans (h.2.2.2.2).2.1, (hI _ _ (by omega)).trans (h.2.2.2.2).2.2⟩)⟩
theorem rS.congr {V : wV} {I I2 : Nat → Nat → Int32} {s : wG} (h : rS V I s) (hI : ∀ a j, (234 ≤ a ∧ a < 354 ∧ (a - 234) % 10 < 6) → I2 a j = I a j) (hm : wMny s ≤ 12) : rS V I2 s := by
  exact ⟨(fun a h0 => ⟨(hI _ _ (by omega)).trans (h.1 a h0).1, (hI _ _ (by omega)).trans (h.1 a h0).2.1, (hI _ _ (by omega)).trans (h.1 a h0).2.2⟩), (fun a h0 => ⟨(hI _ _ (by omega)).trans (h.2.1 a h0).1, (hI _ _ (by omega)).trans (h.2.1 a h0).2.1, (h.2.1 a h0).2.2⟩), (fun a h0 h1 => ⟨(hI _ _ (by omega)).trans (h.2.2.1 a h0 h1).1, (hI _ _ (by omega)).trans (h.2.2.1 a h0 h1).2⟩), (fun a i h0 h1 => ⟨(hI _ _ (by omega)).trans (h.2.2.2.1 a i h0 h1).1, (hI _ _ (by omega)).trans (h.2.2.2.1 a i h0 h1).2.1, (hI _ _ (by omega)).trans (h.2.2.2.1 a i h0 h1).2.2⟩), (fun a i h0 h1 => ⟨(hI _ _ (by omega)).trans (h.2.2.2.2.1 a i h0 h1).1, (hI _ _ (by omega)).trans (h.2.2.2.2.1 a i h0 h1).2⟩), (fun a i h0 h1 h2 => ⟨(hI _ _ (by omega)).trans (h.2.2.2.2.2 a i h0 h1 h2).1, (h.2.2.2.2.2 a i h0 h1 h2).2⟩)⟩
theorem rJ.congr {V : wV} {I I2 : Nat → Nat → Int32} {s : wG} (h : rJ V I s) (hI : ∀ a j, (a = 4 ∨ (6 ≤ a ∧ a < 46)) → I2 a j = I a j) : rJ V I2 s := by
  exact ⟨(fun k h0 h1 => (hI _ _ (by omega)).trans (h.1 k h0 h1)), (fun k h0 h1 => ⟨(hI _ _ (by omega)).trans (h.2.1 k h0 h1).1, (hI _ _ (by omega)).trans (h.2.1 k h0 h1).2.1, (hI _ _ (by omega)).trans (h.2.1 k h0 h1).2.2.1, (hI _ _ (by omega)).trans (h.2.1 k h0 h1).2.2.2.1, (hI _ _ (by omega)).trans (h.2.1 k h0 h1).2.2.2.2.1, (hI _ _ (by omega)).trans (h.2.1 k h0 h1).2.2.2.2.2.1, (hI _ _ (by omega)).trans (h.2.1 k h0 h1).2.2.2.2.2.2.1, (hI _ _ (by omega)).trans (h.2.1 k h0 h1).2.2.2.2.2.2.2.1, (hI _ _ (by omega)).trans (h.2.1 k h0 h1).2.2.2.2.2.2.2.2⟩), ((hI _ _ (by omega)).trans (h.2.2.1)), (by obtain ⟨st, ls, a1, a2, a3, a4⟩ := h.2.2.2; exact ⟨st, ls, (hI _ _ (by omega)).trans a1, a2, fun k k1 k2 => ⟨(hI _ _ (by omega)).trans (a3 k k1 k2).1, (a3 k k1 k2).2⟩, a4⟩)⟩
theorem rL.congr {V : wV} {I I2 : Nat → Nat → Int32} {s : wG} (h : rL V I s) (hI : ∀ a j, ((47 ≤ a ∧ a ≤ 50) ∨ (a = 46 ∧ j = 6)) → I2 a j = I a j) : rL V I2 s := by
  exact ⟨(fun a h0 => ⟨(hI _ _ (by omega)).trans (h.1 a h0).1, (hI _ _ (by omega)).trans (h.1 a h0).2.1, (hI _ _ (by omega)).trans (h.1 a h0).2.2.1, (hI _ _ (by omega)).trans (h.1 a h0).2.2.2⟩), ((hI _ _ (by omega)).trans (h.2))⟩
theorem rF.congr {V : wV} {I I2 : Nat → Nat → Int32} {s : wG} (h : rF V I s) (hI : ∀ a j, (a = 56 ∨ (58 ≤ a ∧ a < 108)) → I2 a j = I a j) (hp : rP V I s) (ht : wTld s ≤ 50) : rF V I2 s := by
  exact ⟨((hI _ _ (by omega)).trans (h.1)), (fun k h0 => ⟨(hI _ _ (by have := hp.prm0 (k := k) (by omega); have := hp.prm1 (k := k) (by omega); omega)).trans (h.2 k h0).1, (hI _ _ (by have := hp.prm0 (k := k) (by omega); have := hp.prm1 (k := k) (by omega); omega)).trans (h.2 k h0).2.1, (hI _ _ (by have := hp.prm0 (k := k) (by omega); have := hp.prm1 (k := k) (by omega); omega)).trans (h.2 k h0).2.2.1, (hI _ _ (by have := hp.prm0 (k := k) (by omega); have := hp.prm1 (k := k) (by omega); omega)).trans (h.2 k h0).2.2.2.1, (hI _ _ (by have := hp.prm0 (k := k) (by omega); have := hp.prm1 (k := k) (by omega); omega)).trans (h.2 k h0).2.2.2.2.1, (hI _ _ (by have := hp.prm0 (k := k) (by omega); have := hp.prm1 (k := k) (by omega); omega)).trans (h.2 k h0).2.2.2.2.2⟩)⟩
theorem rP.congr {V : wV} {I I2 : Nat → Nat → Int32} {s s2 : wG} (h : rP V I s) : rP V I2 s2 := h
theorem rC.congr {V : wV} {I I2 : Nat → Nat → Int32} {s : wG} (hW : wW s) (h : rC V I s) (hI : ∀ a j, ((a = 0 ∨ a = 233) ∨ (234 ≤ a ∧ a < 354 ∧ (a - 234) % 10 < 6) ∨ (a = 4 ∨ (6 ≤ a ∧ a < 46)) ∨ ((47 ≤ a ∧ a ≤ 50) ∨ (a = 46 ∧ j = 6)) ∨ (a = 56 ∨ (58 ≤ a ∧ a < 108))) → I2 a j = I a j) : rC V I2 s :=
  ⟨h.N.congr (fun a j k => hI a j (by omega)), h.S.congr (fun a j k => hI a j (by omega)) hW.mny1, h.J.congr (fun a j k => hI a j (by omega)), h.L.congr (fun a j k => hI a j (by omega)), h.F.congr (fun a j k => hI a j (by omega)) h.P hW.tld1, h.P.congr⟩
