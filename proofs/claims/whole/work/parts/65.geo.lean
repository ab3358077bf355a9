/-! Points in two outlines, counted by rows' cuts or one by one. -/
/-- a way: x0 y0 x1 y1 -/
abbrev gE : Type := Int × Int × Int × Int
def gX (e : gE) (y : Int) : Prop := (e.2.1 ≤ y ∧ y < e.2.2.2) ∨ (e.2.2.2 ≤ y ∧ y < e.2.1)
def gCut (xl yl xh yh y : Int) : Int := - Int.fdiv (-((xl - 500) * (yh - yl) + (y - yl) * (xh - xl))) ((yh - yl) * 1000)
def gC (e : gE) (y : Int) : Int := if e.2.1 ≤ y ∧ y < e.2.2.2 then gCut e.1 e.2.1 e.2.2.1 e.2.2.2 y else gCut e.2.2.1 e.2.2.2 e.1 e.2.1 y
/-- the reference's question at a way -/
def gT (e : gE) (px y : Int) : Prop := gX e y ∧ (if e.2.2.2 > e.2.1 then (px - e.1) * (e.2.2.2 - e.2.1) < (y - e.2.1) * (e.2.2.1 - e.1) else (px - e.1) * (e.2.2.2 - e.2.1) > (y - e.2.1) * (e.2.2.1 - e.1))
theorem fdiv_neg_lt {b c g : Int} (hc : 0 < c) : g < - Int.fdiv (-b) c ↔ g * c < b := by
  rw [Int.fdiv_eq_ediv_of_nonneg _ (by omega)]
  have h := Int.mul_ediv_add_emod (-b) c
  have h1 := Int.emod_nonneg (-b) (show c ≠ 0 by omega)
  have h2 := Int.emod_lt_of_pos (-b) hc
  generalize (-b) / c = q at *
  generalize (-b) % c = r at *
  constructor
  · intro hg
    have : c * (g + q + 1) ≤ c * 0 := Int.mul_le_mul_of_nonneg_left (by omega) (by omega)
    rw [Int.mul_add, Int.mul_add] at this
    rw [Int.mul_comm g c]
    omega
  · intro hg
    apply Int.lt_of_not_ge
    intro hq
    have : c * 0 ≤ c * (g + q) := Int.mul_le_mul_of_nonneg_left (by omega) (by omega)
    rw [Int.mul_add] at this
    rw [Int.mul_comm g c] at hg
    omega
theorem gCut_lt {xl yl xh yh y g : Int} (h : yl < yh) : g < gCut xl yl xh yh y ↔ (1000 * g + 500 - xl) * (yh - yl) < (y - yl) * (xh - xl) := by
  unfold gCut
  rw [fdiv_neg_lt (by omega)]
  have e : (1000 * g + 500 - xl) * (yh - yl) = g * ((yh - yl) * 1000) - (xl - 500) * (yh - yl) := by grind
  rw [e]
  generalize g * ((yh - yl) * 1000) = A
  generalize (xl - 500) * (yh - yl) = B
  generalize (y - yl) * (xh - xl) = C
  omega
theorem gT_cut {e : gE} {g y : Int} : gT e (1000 * g + 500) y ↔ gX e y ∧ g < gC e y := by
  obtain ⟨x0, y0, x1, y1⟩ := e
  unfold gT gX gC
  simp only
  constructor
  · rintro ⟨hx, ht⟩
    refine ⟨hx, ?_⟩
    rcases hx with hx | hx
    · rw [if_pos hx, gCut_lt (by omega)]
      rw [if_pos (by omega)] at ht
      exact ht
    · rw [if_neg (by omega), gCut_lt (by omega)]
      rw [if_neg (by omega)] at ht
      have e1 : (1000 * g + 500 - x0) * (y1 - y0) = (x1 - x0) * (y1 - y0) - (1000 * g + 500 - x1) * (y0 - y1) := by grind
      have e2 : (y - y0) * (x1 - x0) = (x1 - x0) * (y1 - y0) - (y - y1) * (x0 - x1) := by grind
      rw [e1, e2] at ht
      omega
  · rintro ⟨hx, ht⟩
    refine ⟨hx, ?_⟩
    rcases hx with hx | hx
    · rw [if_pos hx, gCut_lt (by omega)] at ht
      rw [if_pos (by omega)]
      exact ht
    · rw [if_neg (by omega), gCut_lt (by omega)] at ht
      rw [if_neg (by omega)]
      have e1 : (1000 * g + 500 - x0) * (y1 - y0) = (x1 - x0) * (y1 - y0) - (1000 * g + 500 - x1) * (y0 - y1) := by grind
      have e2 : (y - y0) * (x1 - x0) = (x1 - x0) * (y1 - y0) - (y - y1) * (x0 - x1) := by grind
      rw [e1, e2]
      omega
/-- beyond the greatest x no way counts; ahead of the least x every way does -/
theorem gC_high {e : gE} {g y H : Int} (hx : gX e y) (h0 : e.1 ≤ H) (h1 : e.2.2.1 ≤ H) (h : H ≤ 1000 * g + 500) : ¬ g < gC e y := by
  obtain ⟨x0, y0, x1, y1⟩ := e
  have key : ∀ xl yl xh yh : Int, yl ≤ y → y < yh → xl ≤ H → xh ≤ H → ¬ (1000 * g + 500 - xl) * (yh - yl) < (y - yl) * (xh - xl) := by
    intro xl yl xh yh a b c d hlt
    by_cases hs : xh ≤ xl
    · have p1 : 0 ≤ (1000 * g + 500 - xl) * (yh - yl) := Int.mul_nonneg (by omega) (by omega)
      have p2 : (y - yl) * (xh - xl) ≤ 0 := Int.mul_nonpos_of_nonneg_of_nonpos (by omega) (by omega)
      omega
    · have p1 : (y - yl) * (xh - xl) ≤ (yh - yl) * (1000 * g + 500 - xl) := Int.mul_le_mul (by omega) (by omega) (by omega) (by omega)
      rw [Int.mul_comm (yh - yl)] at p1
      omega
  unfold gX at hx
  unfold gC
  simp only at *
  split
  · rename_i hc
    rw [gCut_lt (by omega)]
    exact key _ _ _ _ hc.1 hc.2 h0 h1
  · rename_i hc
    rw [gCut_lt (by omega)]
    exact key _ _ _ _ (by omega) (by omega) h1 h0
theorem gC_low {e : gE} {g y L : Int} (hx : gX e y) (h0 : L ≤ e.1) (h1 : L ≤ e.2.2.1) (h : 1000 * g + 500 < L) : g < gC e y := by
  obtain ⟨x0, y0, x1, y1⟩ := e
  have key : ∀ xl yl xh yh : Int, yl ≤ y → y < yh → L ≤ xl → L ≤ xh → (1000 * g + 500 - xl) * (yh - yl) < (y - yl) * (xh - xl) := by
    intro xl yl xh yh a b c d
    by_cases hs : xl ≤ xh
    · have p1 : 0 < (xl - (1000 * g + 500)) * (yh - yl) := Int.mul_pos (by omega) (by omega)
      have p2 : 0 ≤ (y - yl) * (xh - xl) := Int.mul_nonneg (by omega) (by omega)
      have e : (1000 * g + 500 - xl) * (yh - yl) = - ((xl - (1000 * g + 500)) * (yh - yl)) := by grind
      omega
    · have p1 : (y - yl) * (xl - xh) ≤ (yh - yl) * (xl - xh) := Int.mul_le_mul_of_nonneg_right (by omega) (by omega)
      have p2 : (yh - yl) * (xl - xh) < (yh - yl) * (xl - (1000 * g + 500)) := Int.mul_lt_mul_of_pos_left (by omega) (by omega)
      have e : (1000 * g + 500 - xl) * (yh - yl) = - ((yh - yl) * (xl - (1000 * g + 500))) := by grind
      have e2 : (y - yl) * (xh - xl) = - ((y - yl) * (xl - xh)) := by grind
      omega
  unfold gX at hx
  unfold gC
  simp only at *
  split
  · rename_i hc
    rw [gCut_lt (by omega)]
    exact key _ _ _ _ hc.1 hc.2 h0 h1
  · rename_i hc
    rw [gCut_lt (by omega)]
    exact key _ _ _ _ (by omega) (by omega) h1 h0
/-- the numbers of points that two and two cuts hold -/
def gPr : List Int → List (Int × Int)
  | a :: b :: t => (a, b) :: gPr t
  | _ => []
def gSorted : List Int → Prop
  | a :: t => (∀ x ∈ t, a ≤ x) ∧ gSorted t
  | [] => True
def gIns (c : Int) : List Int → List Int
  | a :: t => if c < a then c :: a :: t else a :: gIns c t
  | [] => [c]
def gSum {α : Type} (f : α → Nat) : List α → Nat
  | a :: t => f a + gSum f t
  | [] => 0
def g01 (p : Prop) [Decidable p] : Nat := if p then 1 else 0
theorem g01_pos {p : Prop} [Decidable p] (h : p) : g01 p = 1 := if_pos h
theorem g01_neg {p : Prop} [Decidable p] (h : ¬ p) : g01 p = 0 := if_neg h
theorem gIns_mem {c x : Int} : ∀ {l : List Int}, x ∈ gIns c l ↔ x = c ∨ x ∈ l
  | [] => by simp [gIns]
  | a :: t => by
    unfold gIns
    split
    · simp
    · rw [List.mem_cons, gIns_mem, List.mem_cons]; grind
theorem gIns_sorted {c : Int} : ∀ {l : List Int}, gSorted l → gSorted (gIns c l)
  | [], _ => ⟨by simp, trivial⟩
  | a :: t, h => by
    unfold gIns
    split
    · rename_i hc
      refine ⟨?_, h⟩
      intro x hx
      rcases List.mem_cons.mp hx with rfl | hx
      · omega
      · have := h.1 x hx; omega
    · rename_i hc
      refine ⟨?_, gIns_sorted h.2⟩
      intro x hx
      rcases gIns_mem.mp hx with rfl | hx
      · omega
      · exact h.1 x hx
theorem gIns_len {c : Int} : ∀ {l : List Int}, (gIns c l).length = l.length + 1
  | [] => rfl
  | a :: t => by
    unfold gIns
    split
    · rfl
    · simp [gIns_len]
theorem gIns_cnt {c g : Int} : ∀ {l : List Int}, gSum (fun x => g01 (g < x)) (gIns c l) = g01 (g < c) + gSum (fun x => g01 (g < x)) l
  | [] => rfl
  | a :: t => by
    unfold gIns
    split
    · rfl
    · simp only [gSum, gIns_cnt]; omega
theorem gSum_all {g : Int} : ∀ {l : List Int}, (∀ x ∈ l, g < x) → gSum (fun x => g01 (g < x)) l = l.length
  | [], _ => rfl
  | a :: t, h => by
    have h1 := gSum_all (g := g) (l := t) (fun x hx => h x (List.mem_cons_of_mem _ hx))
    have h2 : g < a := h a (by simp)
    simp only [gSum, h1, g01_pos h2, List.length_cons]; omega
theorem gPr_zero {g : Int} : ∀ {l : List Int}, (∀ x ∈ l, g < x) → gSum (fun p : Int × Int => g01 (p.1 ≤ g ∧ g < p.2)) (gPr l) = 0
  | [], _ => rfl
  | [_], _ => rfl
  | a :: b :: t, h => by
    have h1 := gPr_zero (g := g) (l := t) (fun x hx => h x (List.mem_cons_of_mem _ (List.mem_cons_of_mem _ hx)))
    have h2 : g < a := h a (by simp)
    simp only [gPr, gSum, h1]
    rw [g01_neg (by omega)]
/-- a point lies between an even cut and the next just where an odd number of cuts lies beyond it -/
theorem gPr_par {g : Int} : ∀ {l : List Int}, gSorted l → l.length % 2 = 0 → gSum (fun p : Int × Int => g01 (p.1 ≤ g ∧ g < p.2)) (gPr l) = gSum (fun x => g01 (g < x)) l % 2
  | [], _, _ => rfl
  | [_], _, h => by simp at h
  | a :: b :: t, hs, hl => by
    have hab : a ≤ b := hs.1 b (by simp)
    have hbt : ∀ x ∈ t, b ≤ x := hs.2.1
    have hl2 : t.length % 2 = 0 := by simp only [List.length_cons] at hl; omega
    have ih := gPr_par (g := g) (l := t) hs.2.2 hl2
    by_cases h1 : g < a
    · rw [gPr_zero (fun x hx => ?_), gSum_all (fun x hx => ?_), hl]
      · rcases List.mem_cons.mp hx with rfl | hx
        · exact h1
        · have := hs.1 x hx; omega
      · rcases List.mem_cons.mp hx with rfl | hx
        · exact h1
        · have := hs.1 x hx; omega
    · by_cases h2 : g < b
      · simp only [gPr, gSum]
        rw [gPr_zero (l := t) (fun x hx => by have := hbt x hx; omega), gSum_all (l := t) (fun x hx => by have := hbt x hx; omega)]
        rw [g01_pos (by omega), g01_neg h1, g01_pos h2]
        omega
      · simp only [gPr, gSum, ih]
        rw [g01_neg (by omega), g01_neg h1, g01_neg h2]
        omega
theorem gSum_zero {α : Type} {f : α → Nat} : ∀ {l : List α}, (∀ x ∈ l, f x = 0) → gSum f l = 0
  | [], _ => rfl
  | a :: t, h => by
    rw [gSum, h a (by simp), gSum_zero (fun x hx => h x (List.mem_cons_of_mem _ hx))]
theorem gSum_add {α : Type} {f g : α → Nat} : ∀ {l : List α}, gSum (fun x => f x + g x) l = gSum f l + gSum g l
  | [] => rfl
  | a :: t => by simp only [gSum, gSum_add]; omega
theorem gSum_congr {α : Type} {f g : α → Nat} : ∀ {l : List α}, (∀ x ∈ l, f x = g x) → gSum f l = gSum g l
  | [], _ => rfl
  | a :: t, h => by
    rw [gSum, gSum, h a (by simp), gSum_congr (fun x hx => h x (List.mem_cons_of_mem _ hx))]
theorem gSum_mulr {α : Type} {f : α → Nat} {c : Nat} : ∀ {l : List α}, gSum f l * c = gSum (fun x => f x * c) l
  | [] => by simp [gSum]
  | a :: t => by simp only [gSum, Nat.add_mul, gSum_mulr]
theorem gSum_mull {α : Type} {f : α → Nat} {c : Nat} : ∀ {l : List α}, c * gSum f l = gSum (fun x => c * f x) l
  | [] => by simp [gSum]
  | a :: t => by simp only [gSum, Nat.mul_add, gSum_mull]
theorem gSum_swap {α β : Type} {f : α → β → Nat} {m : List β} : ∀ {l : List α}, gSum (fun x => gSum (f x) m) l = gSum (fun y => gSum (fun x => f x y) l) m
  | [] => by
    simp only [gSum]
    exact (gSum_zero (fun _ _ => rfl)).symm
  | a :: t => by
    show gSum (f a) m + gSum (fun x => gSum (f x) m) t = gSum (fun y => f a y + gSum (fun x => f x y) t) m
    rw [gSum_add, gSum_swap]
/-- n numbers from a on -/
def gRg (a : Int) : Nat → List Int
  | 0 => []
  | n + 1 => gRg a n ++ [a + n]
theorem gSum_app {α : Type} {f : α → Nat} : ∀ {l m : List α}, gSum f (l ++ m) = gSum f l + gSum f m
  | [], m => by simp [gSum]
  | a :: t, m => by simp only [List.cons_append, gSum, gSum_app]; omega
theorem gRg_mem {a x : Int} : ∀ {n : Nat}, x ∈ gRg a n ↔ a ≤ x ∧ x < a + n
  | 0 => by simp [gRg]
  | n + 1 => by
    simp only [gRg, List.mem_append, gRg_mem, List.mem_singleton]
    omega
/-- how many of the numbers lie from l up to h -/
theorem gRg_cnt {a l h : Int} : ∀ {n : Nat}, gSum (fun x => g01 (l ≤ x ∧ x < h)) (gRg a n) = (min h (a + n) - max l a).toNat
  | 0 => by simp only [gRg, gSum]; omega
  | n + 1 => by
    simp only [gRg, gSum_app, gRg_cnt, gSum]
    by_cases hc : l ≤ a + n ∧ a + n < h
    · rw [g01_pos hc]; omega
    · rw [g01_neg hc]; omega
/-- two outlines' common points in a row: by cuts, or one by one over any stretch that holds them all -/
theorem gRow {l m : List Int} {a : Int} {n : Nat} (hl : gSorted l) (hl2 : l.length % 2 = 0) (hm : gSorted m) (hm2 : m.length % 2 = 0)
    (hc : ∀ g, gSum (fun x => g01 (g < x)) l % 2 = 1 → gSum (fun x => g01 (g < x)) m % 2 = 1 → a ≤ g ∧ g < a + n) :
    gSum (fun p : Int × Int => gSum (fun q : Int × Int => (min p.2 q.2 - max p.1 q.1).toNat) (gPr m)) (gPr l) = gSum (fun g => g01 (gSum (fun x => g01 (g < x)) l % 2 = 1 ∧ gSum (fun x => g01 (g < x)) m % 2 = 1)) (gRg a n) := by
  have hone : ∀ (l : List Int), gSorted l → l.length % 2 = 0 → ∀ (p : Int × Int), p ∈ gPr l → ∀ g, p.1 ≤ g → g < p.2 → gSum (fun x => g01 (g < x)) l % 2 = 1 := by
    intro l hl hl2 p hp g h1 h2
    rw [← gPr_par hl hl2]
    have h3 : gSum (fun x => g01 (g < x)) l % 2 < 2 := Nat.mod_lt _ (by omega)
    rw [← gPr_par hl hl2] at h3
    have h4 : ∀ (r : List (Int × Int)), p ∈ r → 1 ≤ gSum (fun p : Int × Int => g01 (p.1 ≤ g ∧ g < p.2)) r := by
      intro r hr
      induction r with
      | nil => cases hr
      | cons b t ih =>
        rcases List.mem_cons.mp hr with rfl | hr
        · simp only [gSum]
          rw [g01_pos ⟨h1, h2⟩]; omega
        · have := ih hr
          simp only [gSum]; omega
    have := h4 _ hp
    omega
  have e1 : ∀ g ∈ gRg a n, g01 (gSum (fun x => g01 (g < x)) l % 2 = 1 ∧ gSum (fun x => g01 (g < x)) m % 2 = 1) = gSum (fun p : Int × Int => gSum (fun q : Int × Int => g01 (max p.1 q.1 ≤ g ∧ g < min p.2 q.2)) (gPr m)) (gPr l) := by
    intro g _
    have h1 := gPr_par (g := g) hl hl2
    have h2 := gPr_par (g := g) hm hm2
    have e : gSum (fun p : Int × Int => gSum (fun q : Int × Int => g01 (max p.1 q.1 ≤ g ∧ g < min p.2 q.2)) (gPr m)) (gPr l) = gSum (fun p : Int × Int => g01 (p.1 ≤ g ∧ g < p.2)) (gPr l) * gSum (fun p : Int × Int => g01 (p.1 ≤ g ∧ g < p.2)) (gPr m) := by
      rw [gSum_mulr]
      apply gSum_congr
      intro p _
      rw [gSum_mull]
      apply gSum_congr
      intro q _
      by_cases c1 : p.1 ≤ g ∧ g < p.2
      · by_cases c2 : q.1 ≤ g ∧ g < q.2
        · rw [g01_pos c1, g01_pos c2, g01_pos (by omega)]
        · rw [g01_pos c1, g01_neg c2, g01_neg (by omega)]
      · rw [g01_neg c1, g01_neg (by omega)]; simp
    rw [e, h1, h2]
    have m1 : gSum (fun x => g01 (g < x)) l % 2 = 0 ∨ gSum (fun x => g01 (g < x)) l % 2 = 1 := by omega
    have m2 : gSum (fun x => g01 (g < x)) m % 2 = 0 ∨ gSum (fun x => g01 (g < x)) m % 2 = 1 := by omega
    rcases m1 with m1 | m1 <;> rcases m2 with m2 | m2 <;> rw [m1, m2]
    · exact g01_neg (by omega)
    · exact g01_neg (by omega)
    · exact g01_neg (by omega)
    · exact g01_pos (by omega)
  rw [gSum_congr e1, gSum_swap (l := gRg a n) (m := gPr l)]
  apply gSum_congr
  intro p hp
  rw [gSum_swap (l := gRg a n) (m := gPr m)]
  apply gSum_congr
  intro q hq
  rw [gRg_cnt]
  by_cases hne : max p.1 q.1 < min p.2 q.2
  · have c1 := hc (max p.1 q.1) (hone l hl hl2 p hp _ (by omega) (by omega)) (hone m hm hm2 q hq _ (by omega) (by omega))
    have c2 := hc (min p.2 q.2 - 1) (hone l hl hl2 p hp _ (by omega) (by omega)) (hone m hm hm2 q hq _ (by omega) (by omega))
    omega
  · omega
/-- sums over two stretches that hold all that counts -/
theorem gRg_in {f : Int → Nat} {a A : Int} : ∀ {N n : Nat}, A ≤ a → a + n ≤ A + N → (∀ r, A ≤ r → r < A + N → ¬ (a ≤ r ∧ r < a + n) → f r = 0) → gSum f (gRg A N) = gSum f (gRg a n)
  | 0, n, h1, h2, h3 => by
    have : n = 0 := by omega
    subst this; rfl
  | N + 1, n, h1, h2, h3 => by
    by_cases hc : a + n ≤ A + N
    · have ih := gRg_in (f := f) (a := a) (A := A) (N := N) (n := n) h1 hc (fun r x y z => h3 r x (by omega) z)
      simp only [gRg, gSum_app, ih, gSum]
      by_cases hn : a ≤ A + N ∧ A + N < a + n
      · omega
      · rw [h3 (A + N) (by omega) (by omega) hn]; rfl
    · cases n with
      | zero =>
        have ih : gSum f (gRg A (N + 1)) = 0 := gSum_zero (fun r hr => by
          rw [gRg_mem] at hr
          exact h3 r hr.1 hr.2 (by omega))
        rw [ih]; rfl
      | succ n =>
        have e : A + N = a + n := by omega
        have ih := gRg_in (f := f) (a := a) (A := A) (N := N) (n := n) h1 (by omega) (fun r x y z => h3 r x (by omega) (by omega))
        simp only [gRg, gSum_app, ih, gSum, e]
theorem gRg_eq {f : Int → Nat} {a b : Int} {n m : Nat} (h1 : ∀ r, f r ≠ 0 → a ≤ r ∧ r < a + n) (h2 : ∀ r, f r ≠ 0 → b ≤ r ∧ r < b + m) : gSum f (gRg a n) = gSum f (gRg b m) := by
  have z1 : ∀ r, ¬ (a ≤ r ∧ r < a + n) → f r = 0 := fun r h => Classical.byContradiction (fun h9 => h (h1 r h9))
  have z2 : ∀ r, ¬ (b ≤ r ∧ r < b + m) → f r = 0 := fun r h => Classical.byContradiction (fun h9 => h (h2 r h9))
  have e1 := gRg_in (f := f) (a := a) (A := min a b) (N := (max (a + n) (b + m) - min a b).toNat) (n := n) (by omega) (by omega) (fun r _ _ h => z1 r h)
  have e2 := gRg_in (f := f) (a := b) (A := min a b) (N := (max (a + n) (b + m) - min a b).toNat) (n := m) (by omega) (by omega) (fun r _ _ h => z2 r h)
  rw [← e1, e2]
/-- an outline: m places -/
def gNx (m k : Nat) : Nat := if k + 1 < m then k + 1 else 0
def gW (x y : Nat → Int) (m k : Nat) : gE := (x k, y k, x (gNx m k), y (gNx m k))
def gCs (x y : Nat → Int) (m : Nat) (Y : Int) : Nat → List Int
  | 0 => []
  | k + 1 => if (y k ≤ Y ∧ Y < y (gNx m k)) ∨ (y (gNx m k) ≤ Y ∧ Y < y k) then gIns (gC (gW x y m k) Y) (gCs x y m Y k) else gCs x y m Y k
/-- is the point of the row's number g in the outline -/
def gInP (x y : Nat → Int) (m : Nat) (Y g : Int) : Prop := gSum (fun c => g01 (g < c)) (gCs x y m Y m) % 2 = 1
theorem gCs_sorted {x y : Nat → Int} {m : Nat} {Y : Int} : ∀ k, gSorted (gCs x y m Y k)
  | 0 => trivial
  | k + 1 => by
    rw [gCs]
    split
    · exact gIns_sorted (gCs_sorted k)
    · exact gCs_sorted k
theorem gCs_len_le {x y : Nat → Int} {m : Nat} {Y : Int} : ∀ k, (gCs x y m Y k).length ≤ k
  | 0 => Nat.le_refl _
  | k + 1 => by
    have := gCs_len_le (x := x) (y := y) (m := m) (Y := Y) k
    rw [gCs]
    split
    · rw [gIns_len]; omega
    · omega
theorem gCs_par {x y : Nat → Int} {m : Nat} {Y : Int} : ∀ k, k < m → (gCs x y m Y k).length % 2 = g01 (¬ (y 0 ≤ Y ↔ y k ≤ Y))
  | 0, _ => by rw [g01_neg (by simp)]; rfl
  | k + 1, hk => by
    have ih := gCs_par (x := x) (y := y) (m := m) (Y := Y) k (by omega)
    have e : gNx m k = k + 1 := if_pos hk
    rw [gCs, e]
    by_cases h0 : y 0 ≤ Y <;> by_cases h1 : y k ≤ Y <;> by_cases h2 : y (k + 1) ≤ Y
    · rw [if_neg (by omega), ih, g01_neg (by simp [h0, h1]), g01_neg (by simp [h0, h2])]
    · rw [if_pos (by omega), gIns_len]; rw [g01_neg (by simp [h0, h1])] at ih; rw [g01_pos (by simp [h0, h2])]; omega
    · rw [if_pos (by omega), gIns_len]; rw [g01_pos (by simp [h0, h1])] at ih; rw [g01_neg (by simp [h0, h2])]; omega
    · rw [if_neg (by omega), ih, g01_pos (by simp [h0, h1]), g01_pos (by simp [h0, h2])]
    · rw [if_neg (by omega), ih, g01_pos (by simp [h0, h1]), g01_pos (by simp [h0, h2])]
    · rw [if_pos (by omega), gIns_len]; rw [g01_pos (by simp [h0, h1])] at ih; rw [g01_neg (by simp [h0, h2])]; omega
    · rw [if_pos (by omega), gIns_len]; rw [g01_neg (by simp [h0, h1])] at ih; rw [g01_pos (by simp [h0, h2])]; omega
    · rw [if_neg (by omega), ih, g01_neg (by simp [h0, h1]), g01_neg (by simp [h0, h2])]
theorem gCs_even {x y : Nat → Int} {m : Nat} {Y : Int} (hm : 1 ≤ m) : (gCs x y m Y m).length % 2 = 0 := by
  obtain ⟨k, rfl⟩ : ∃ k, m = k + 1 := ⟨m - 1, by omega⟩
  have ih := gCs_par (x := x) (y := y) (m := k + 1) (Y := Y) k (by omega)
  have e : gNx (k + 1) k = 0 := if_neg (by omega)
  rw [gCs, e]
  by_cases h0 : y 0 ≤ Y <;> by_cases h1 : y k ≤ Y
  · rw [if_neg (by omega), ih, g01_neg (by simp [h0, h1])]
  · rw [if_pos (by omega), gIns_len]; rw [g01_pos (by simp [h0, h1])] at ih; omega
  · rw [if_pos (by omega), gIns_len]; rw [g01_pos (by simp [h0, h1])] at ih; omega
  · rw [if_neg (by omega), ih, g01_neg (by simp [h0, h1])]
theorem gCs_none {x y : Nat → Int} {m : Nat} {Y : Int} {k : Nat} (h : ∀ j, j < k → ¬ gX (gW x y m j) Y) : gCs x y m Y k = [] := by
  induction k with
  | zero => rfl
  | succ k ih =>
    rw [gCs]
    split
    · rename_i hx; exact absurd hx (h k (by omega))
    · exact ih (fun j hj => h j (by omega))
theorem gCs_cut {x y : Nat → Int} {m : Nat} {Y c : Int} : ∀ {k : Nat}, c ∈ gCs x y m Y k → ∃ j, j < k ∧ gX (gW x y m j) Y ∧ c = gC (gW x y m j) Y
  | 0, h => by cases h
  | k + 1, h => by
    rw [gCs] at h
    split at h
    · rename_i hx
      rcases gIns_mem.mp h with rfl | h
      · exact ⟨k, by omega, hx, rfl⟩
      · obtain ⟨j, a, b, c⟩ := gCs_cut h
        exact ⟨j, by omega, b, c⟩
    · obtain ⟨j, a, b, c⟩ := gCs_cut h
      exact ⟨j, by omega, b, c⟩
theorem gNx_lt {m k : Nat} (hk : k < m) : gNx m k < m := by unfold gNx; split <;> omega
/-- a point in the outline lies within its bounds -/
theorem gInP_box {x y : Nat → Int} {m : Nat} {Y g lx hx ly hy : Int} (hm : 1 ≤ m) (hb : ∀ k, k < m → lx ≤ x k ∧ x k ≤ hx ∧ ly ≤ y k ∧ y k ≤ hy) (h : gInP x y m Y g) : lx ≤ 1000 * g + 500 ∧ 1000 * g + 500 < hx ∧ ly ≤ Y ∧ Y < hy := by
  unfold gInP at h
  have hne : ∃ c, c ∈ gCs x y m Y m ∧ g < c := by
    apply Classical.byContradiction
    intro hn
    have : gSum (fun c => g01 (g < c)) (gCs x y m Y m) = 0 := gSum_zero (fun c hc => g01_neg (fun h9 => hn ⟨c, hc, h9⟩))
    rw [this] at h
    cases h
  obtain ⟨c, hc, hgc⟩ := hne
  obtain ⟨j, hj, hxj, rfl⟩ := gCs_cut hc
  have b0 := hb j hj
  have b1 := hb (gNx m j) (gNx_lt hj)
  have hxj' := hxj
  unfold gX gW at hxj'
  simp only at hxj'
  refine ⟨?_, ?_, by omega, by omega⟩
  · apply Int.le_of_not_gt
    intro hlt
    have : gSum (fun c => g01 (g < c)) (gCs x y m Y m) = (gCs x y m Y m).length := gSum_all (fun c hc => by
      obtain ⟨j, hj, hxj, rfl⟩ := gCs_cut hc
      have b0 := hb j hj
      have b1 := hb (gNx m j) (gNx_lt hj)
      exact gC_low hxj b0.1 b1.1 hlt)
    rw [this, gCs_even hm] at h
    cases h
  · apply Int.lt_of_not_ge
    intro hge
    exact gC_high hxj b0.2.1 b1.2.1 hge hgc
/-- how many ways the reference turns at -/
def gTs (x y : Nat → Int) (m : Nat) (Y px : Int) : Nat → Nat
  | 0 => 0
  | k + 1 => gTs x y m Y px k + (if ((y k ≤ Y ∧ Y < y (gNx m k)) ∨ (y (gNx m k) ≤ Y ∧ Y < y k)) ∧ (if y (gNx m k) > y k then (px - x k) * (y (gNx m k) - y k) < (Y - y k) * (x (gNx m k) - x k) else (px - x k) * (y (gNx m k) - y k) > (Y - y k) * (x (gNx m k) - x k)) then 1 else 0)
theorem gTs_cnt {x y : Nat → Int} {m : Nat} {Y g : Int} : ∀ k, gTs x y m Y (1000 * g + 500) k = gSum (fun c => g01 (g < c)) (gCs x y m Y k)
  | 0 => rfl
  | k + 1 => by
    have h : (((y k ≤ Y ∧ Y < y (gNx m k)) ∨ (y (gNx m k) ≤ Y ∧ Y < y k)) ∧ (if y (gNx m k) > y k then (1000 * g + 500 - x k) * (y (gNx m k) - y k) < (Y - y k) * (x (gNx m k) - x k) else (1000 * g + 500 - x k) * (y (gNx m k) - y k) > (Y - y k) * (x (gNx m k) - x k))) ↔ gX (gW x y m k) Y ∧ g < gC (gW x y m k) Y := gT_cut (e := gW x y m k) (g := g) (y := Y)
    rw [gTs, gCs, gTs_cnt k]
    by_cases hb : (((y k ≤ Y ∧ Y < y (gNx m k)) ∨ (y (gNx m k) ≤ Y ∧ Y < y k)) ∧ (if y (gNx m k) > y k then (1000 * g + 500 - x k) * (y (gNx m k) - y k) < (Y - y k) * (x (gNx m k) - x k) else (1000 * g + 500 - x k) * (y (gNx m k) - y k) > (Y - y k) * (x (gNx m k) - x k)))
    · have h1 := h.mp hb
      rw [if_pos hb, if_pos (c := (y k ≤ Y ∧ Y < y (gNx m k)) ∨ (y (gNx m k) ≤ Y ∧ Y < y k)) h1.1, gIns_cnt, g01_pos h1.2]; omega
    · rw [if_neg hb]
      by_cases hx : gX (gW x y m k) Y
      · rw [if_pos (c := (y k ≤ Y ∧ Y < y (gNx m k)) ∨ (y (gNx m k) ≤ Y ∧ Y < y k)) hx, gIns_cnt, g01_neg (fun hg => hb (h.mpr ⟨hx, hg⟩))]; omega
      · rw [if_neg (c := (y k ≤ Y ∧ Y < y (gNx m k)) ∨ (y (gNx m k) ≤ Y ∧ Y < y k)) hx]; rfl
/-- a row's common points, by the cuts -/
def gRc (x y : Nat → Int) (m : Nat) (x2 y2 : Nat → Int) (m2 : Nat) (r : Int) : Nat :=
  gSum (fun p : Int × Int => gSum (fun q : Int × Int => (min p.2 q.2 - max p.1 q.1).toNat) (gPr (gCs x2 y2 m2 (1000 * r + 500) m2))) (gPr (gCs x y m (1000 * r + 500) m))
/-- the reference's count: rows from r0 on, points from g0 on -/
def gRef (x y : Nat → Int) (m : Nat) (x2 y2 : Nat → Int) (m2 : Nat) (r0 : Int) (nr : Nat) (g0 : Int) (ng : Nat) : Nat :=
  gSum (fun r => gSum (fun g => if gTs x y m (1000 * r + 500) (1000 * g + 500) m % 2 = 1 ∧ gTs x2 y2 m2 (1000 * r + 500) (1000 * g + 500) m2 % 2 = 1 then 1 else 0) (gRg g0 ng)) (gRg r0 nr)
theorem gAll {x y x2 y2 : Nat → Int} {m m2 : Nat} {lx hx ly hy lx2 hx2 ly2 hy2 r0 r1 g0 : Int} {nr nr1 ng : Nat} (hm : 1 ≤ m) (hm2 : 1 ≤ m2)
    (hb : ∀ k, k < m → lx ≤ x k ∧ x k ≤ hx ∧ ly ≤ y k ∧ y k ≤ hy) (hb2 : ∀ k, k < m2 → lx2 ≤ x2 k ∧ x2 k ≤ hx2 ∧ ly2 ≤ y2 k ∧ y2 k ≤ hy2)
    (hg : ∀ g, max lx lx2 ≤ 1000 * g + 500 → 1000 * g + 500 < min hx hx2 → g0 ≤ g ∧ g < g0 + ng)
    (hr : ∀ r, max ly ly2 ≤ 1000 * r + 500 → 1000 * r + 500 < min hy hy2 → r0 ≤ r ∧ r < r0 + nr)
    (hr1 : ∀ r, max ly ly2 ≤ 1000 * r + 500 → 1000 * r + 500 < min hy hy2 → r1 ≤ r ∧ r < r1 + nr1) :
    gRef x y m x2 y2 m2 r0 nr g0 ng = gSum (gRc x y m x2 y2 m2) (gRg r1 nr1) := by
  have e : ∀ r, gSum (fun g => if gTs x y m (1000 * r + 500) (1000 * g + 500) m % 2 = 1 ∧ gTs x2 y2 m2 (1000 * r + 500) (1000 * g + 500) m2 % 2 = 1 then 1 else 0) (gRg g0 ng) = gRc x y m x2 y2 m2 r := by
    intro r
    unfold gRc
    rw [gRow (a := g0) (n := ng) (gCs_sorted m) (gCs_even hm) (gCs_sorted m2) (gCs_even hm2)]
    · apply gSum_congr
      intro g _
      rw [gTs_cnt, gTs_cnt]; rfl
    · intro g h1 h2
      have b1 := gInP_box hm hb h1
      have b2 := gInP_box hm2 hb2 h2
      exact hg g (by omega) (by omega)
  unfold gRef
  rw [gSum_congr (fun r _ => e r)]
  have nz : ∀ r, gRc x y m x2 y2 m2 r ≠ 0 → max ly ly2 ≤ 1000 * r + 500 ∧ 1000 * r + 500 < min hy hy2 := by
    intro r h
    have h' := h
    unfold gRc at h
    rw [gRow (a := g0) (n := ng) (gCs_sorted m) (gCs_even hm) (gCs_sorted m2) (gCs_even hm2) (fun g h1 h2 => by
      have b1 := gInP_box hm hb h1
      have b2 := gInP_box hm2 hb2 h2
      exact hg g (by omega) (by omega))] at h
    apply Classical.byContradiction
    intro hn
    apply h
    apply gSum_zero
    intro g _
    apply g01_neg
    rintro ⟨h1, h2⟩
    have b1 := gInP_box hm hb h1
    have b2 := gInP_box hm2 hb2 h2
    exact hn (by omega)
  exact gRg_eq (fun r h => hr r (nz r h).1 (nz r h).2) (fun r h => hr1 r (nz r h).1 (nz r h).2)
/-- bounds apart: nothing in common -/
theorem gApart {x y x2 y2 : Nat → Int} {m m2 : Nat} {lx hx ly hy lx2 hx2 ly2 hy2 r1 : Int} {nr1 : Nat} (hm : 1 ≤ m) (hm2 : 1 ≤ m2)
    (hb : ∀ k, k < m → lx ≤ x k ∧ x k ≤ hx ∧ ly ≤ y k ∧ y k ≤ hy) (hb2 : ∀ k, k < m2 → lx2 ≤ x2 k ∧ x2 k ≤ hx2 ∧ ly2 ≤ y2 k ∧ y2 k ≤ hy2) (h : hx < lx2 ∨ hx2 < lx) : gSum (gRc x y m x2 y2 m2) (gRg r1 nr1) = 0 := by
  apply gSum_zero
  intro r _
  unfold gRc
  rw [gRow (a := 0) (n := 0) (gCs_sorted m) (gCs_even hm) (gCs_sorted m2) (gCs_even hm2)]
  · rfl
  · intro g h1 h2
    have b1 := gInP_box hm hb h1
    have b2 := gInP_box hm2 hb2 h2
    omega
