/-! How far a call moves the two counters; a call made on both sides. -/
def bE (s s2 : wG) : Prop := s2 354 16 = s 354 16 ∧ s2 999 0 = s 999 0
def bL (s s2 : wG) : Prop := wMad s2 ≤ wMad s + 41 ∧ wGst s2 ≤ wGst s + 5000
theorem bE.l {s s2 : wG} (h : bE s s2) : bL s s2 := by
  unfold bL wMad wGst; rw [h.1, h.2]; omega
theorem bE.rf {s : wG} : bE s s := ⟨rfl, rfl⟩
section BD
variable {s : wG} {x y v w u X U Y W Z : Int32}
theorem bE_z2 {a j : Nat} (h : ¬ (354 = a ∧ 16 = j)) (h2 : ¬ (999 = a ∧ 0 = j)) : bE s (z2 s a j x) := ⟨z2_off h, z2_off h2⟩
theorem bE_told {l : wLs} : bE s (sTold s l) := by
  constructor
  · show sTold s l 354 16 = s 354 16; exact sTold_off (by omega)
  · show sTold s l 999 0 = s 999 0; exact sTold_off (by omega)
theorem sherd_b : bE s (oSherd s x).2 := by
  unfold oSherd; split
  · unfold bE sSherd; simp (disch := omega) only [z2_off, and_self]
  · exact bE.rf
theorem step_b : bE s (oStep s x y v).2 := by
  unfold oStep; split
  · unfold bE sStep; simp (disch := omega) only [z2_off, and_self]
  · exact bE.rf
theorem close_b : bE s (oClose s x).2 := by
  unfold oClose; (repeat' split) <;> first | exact bE.rf | exact bE_z2 (by omega) (by omega)
theorem mark_b : bE s (oMark s x y w).2 := by
  unfold oMark; split
  · exact bE_z2 (by omega) (by omega)
  · exact bE.rf
theorem paint_b : bE s (oPaint s x y v).2 := by
  unfold oPaint; split
  · exact bE_z2 (by omega) (by omega)
  · exact bE.rf
theorem thick_b : bE s (oThick s x v).2 := by
  unfold oThick; split
  · split
    · exact bE.rf
    · exact bE_z2 (by omega) (by omega)
  · exact bE.rf
theorem circ_b : bE s (oCircle s x v).2 := by
  unfold oCircle; split
  · exact bE_z2 (by omega) (by omega)
  · exact bE.rf
theorem tell_b : bE s (oTell s x v).2 := by
  unfold oTell; (repeat' split) <;> first | exact bE.rf | exact bE_z2 (by omega) (by omega)
theorem fit_b : bE s (oFit s x u y v w).2 := by
  unfold oFit; split
  · unfold bE; simp (disch := omega) only [z2_off, and_self]
  · exact bE.rf
theorem spans_b : bE s (oSpans s x y).2 := by
  unfold oSpans; split
  · exact bE_told
  · exact bE.rf
theorem sDel_b {k : Nat} : bE s (sDel s k) := by
  constructor
  · show sDel s k 354 16 = _; unfold sDel; rw [if_neg (by omega), if_neg (by omega), if_neg (by omega)]
  · show sDel s k 999 0 = _; unfold sDel; rw [if_neg (by omega), if_neg (by omega), if_neg (by omega)]
theorem part_b : bE s (oPart s x).2 := by
  unfold oPart; split
  · exact sDel_b
  · exact bE.rf
theorem sUndo_b : ∀ (m : Nat) (s : wG), bE s (sUndo s m)
  | 0, _ => bE.rf
  | m + 1, s => ⟨(sUndo_b m _).1.trans sDel_b.1, (sUndo_b m _).2.trans sDel_b.2⟩
theorem undo_b : bE s (oUndo s x).2 := by
  unfold oUndo; split
  · exact sUndo_b _ _
  · exact bE.rf
theorem sAdd_b {k : Nat} {z : wSp} {h : Int32} (hm : wMad s < 1000000) (hg : wGst s < 100000000) : bL s (sAdd s k z h) := ⟨by rw [sA_mad hm]; omega, by rw [sA_gst hg]; omega⟩
theorem hand_b (hm : wMad s < 1000000) (hg : wGst s < 100000000) : bL s (oHand s X U Y W Z).2 := by
  unfold oHand oHx; (repeat' split) <;> first | exact bE.rf.l | exact sAdd_b hm hg
theorem sLie_b {v : Nat × Nat × Nat} (hg : wGst s < 100000000) : bL s (sLie s v) := by
  have e1 : wMad (sLie s v) = wMad s := by unfold wMad sLie sTry; simp (disch := omega) only [z2_off]
  have e2 : wGst (sLie s v) = wGst (sTry s) := by unfold wGst sLie; simp (disch := omega) only [z2_off]
  exact ⟨by rw [e1]; omega, by rw [e2, sTry_gst hg]; omega⟩
theorem oTry_b {z : wSp} (hm : wMad s < 1000000) (hg : wGst s < 100000000) : bL s (oTry s z).2 := by
  unfold oTry; split
  · exact bE.rf.l
  · split
    · split
      · exact bE.l (bE_z2 (by omega) (by omega))
      · unfold oLie; split
        · exact sLie_b hg
        · exact sAdd_b hm hg
    · exact bE.rf.l
theorem join_b (hm : wMad s < 1000000) (hg : wGst s < 100000000) : bL s (oJoin s X U Y W Z).2 := by
  unfold oJoin oJx; (repeat' split) <;> first | exact bE.rf.l | exact oTry_b hm hg
end BD
/-! The law's loop: what holds before each of the script's calls. -/
def lwI (V : wV) (I : Nat → Nat → Int32) (s : wG) (i : Nat) : Prop := wW s ∧ rC V I s ∧ rR I s ∧ rT I s ∧ wMad s ≤ 41 * i ∧ wGst s ≤ 5000 * i ∧ V.1.1 ≤ 100000 + 16 * i ∧ V.1.2 ≤ i
def lwG (X : Int32 × zM) : Prop := ∃ M1, X = (1, M1) ∧ zc M1 ≤ 601024 ∧ zZ M1 ≤ 7293034
def lwN (L i : Nat) (k : Nat → Nat → Nat → Nat → Int32 → zM → Int32 × zM) (q : Nat → Nat → Nat → Nat → Int32 → zM → Prop) : Prop := ∀ V I s, vL V = L → lwI V I s i → q 1000008 0 354 387 (nI i) (wm V I) ∧ lwG (k 1000008 0 354 387 (nI i) (wm V I))
def vWJ (V : wV) (x : Int64) : wV := (V.1, V.2.1, z2 (vJ V) 387 0 x, V.2.2.2)
section LW
variable {V : wV} {I : Nat → Nat → Int32} {s s2 : wG} {n i L : Nat} {k : Nat → Nat → Nat → Nat → Int32 → zM → Int32 × zM} {q : Nat → Nat → Nat → Nat → Int32 → zM → Prop}
theorem wm_WJ {x : Int64} : zWJ (wm V I) 387 0 x = wm (vWJ V x) I := rfl
theorem wm_J {x : Int64} : zJ (wm (vWJ V x) I) 387 0 = x := by
  show z2 (vJ V) 387 0 x 387 0 = x; exact z2_hit ⟨rfl, rfl⟩
theorem vX_WJ {x : Int64} : vX (vWJ V x) = vX V := rfl
theorem vL_WJ {x : Int64} : vL (vWJ V x) = vL V := rfl
theorem vX_Thr : vX (vThr V) = vX V := rfl
theorem vL_Thr : vL (vThr V) = vL V := rfl
theorem ok387 : zOkT 3 387 (nI 0) (wm V I) := ⟨⟨1, rfl, by decide⟩, by rw [wm_N]; omega⟩
theorem s387 : zS (wm V I) 387 = (3, 1) := rfl
theorem ok8 {j : Nat} (h : j < vL V) (h2 : vL V ≤ 3072) : zOkI 1000008 (nI j) (wm V I) := ⟨⟨vL V, rfl, win_nI h (by omega)⟩, Or.inr (Or.inr rfl)⟩
theorem okN8 : zOkN 1000008 (wm V I) := ⟨Nat.le_refl 1, Or.inr (Or.inr rfl)⟩
theorem s8 : zS (wm V I) 1000008 = (1, vL V) := rfl
theorem lg_self {x : Int64} : lg_cmp x x = 0 := by
  unfold lg_cmp; rw [if_neg (fun h => Int64.lt_irrefl h), if_pos rfl]
theorem ite_lw {c : Prop} [Decidable c] {a b : Int32 × zM} (h1 : lwG a) (h2 : lwG b) : lwG (if c then a else b) := by
  split
  · exact h1
  · exact h2
theorem law_next (hN : lwN L (i + 6) k q) (hl : vL V = L) (h : lwI V I s (i + 6)) : p198_1243 n q 1000008 0 354 387 (nI i) (wm V I) ∧ lwG (b198_1243 n k 1000008 0 354 387 (nI i) (wm V I)) := by
  unfold p198_1243 b198_1243; rw [ofI_6, kI_add]; exact hN V I s hl h
theorem law_two {α : Type} {r1 : α × zM} {P2 : zM → Prop} {B2 : zM → α × zM} {f : α} (hl : vL V = L) (hI : lwI V I s i) (h1 : cR V I r1 f s2) (h2 : ∀ V2 I2, rR I2 s → rT I2 s → P2 (wm V2 I2) ∧ rK V2 I2 (B2 (wm V2 I2)) f s2) (hw : wW s2) (hb : bL s s2) : ∃ V2 I2 I3, r1 = (f, wm V2 I2) ∧ P2 (wm V2 I2) ∧ B2 (wm V2 I2) = (f, wm V2 I3) ∧ vL V2 = L ∧ vX V2 = vX V ∧ lwI V2 I3 s2 (i + 6) := by
  obtain ⟨hW, hC, hR, hT, hm, hg, hz, hv⟩ := hI
  obtain ⟨V2, I2, e1, ⟨v1, v2, v3⟩, c2, k2⟩ := h1
  obtain ⟨p2, I3, e2, r2, t2, k3⟩ := h2 V2 I2 (hR.congr (fun c j h => k2 c j (by unfold wPM at h; omega))) (hT.congr (fun c j h => k2 c j (by omega)))
  refine ⟨V2, I2, I3, e1, p2, e2, ?_, ?_, hw, c2.congr hw (fun c j h => k3 c j (by omega)), r2, t2, ?_, ?_, ?_, ?_⟩
  · unfold vL; rw [v2]; exact hl
  · unfold vX; rw [v2]
  · have := hb.1; omega
  · have := hb.2; omega
  · rw [v1]; omega
  · rw [v1]; omega
end LW
