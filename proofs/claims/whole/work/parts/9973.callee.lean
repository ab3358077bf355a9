/-! What the throws of look and edge need; the two as callees that return or throw. -/
abbrev zIO : String := "java/lang/IndexOutOfBoundsException"
abbrev zNS : String := "java/util/NoSuchElementException"
abbrev zRtN : List String := ["java/lang/RuntimeException", "java/lang/Exception"]
def zNb : ByteArray := ⟨#[0x2a, 0x2b, 0xb7, 0x00, 0x0d, 0xb1]⟩
abbrev zNw : List Cond := vy_at "SherdTable" 212 zNS "java/lang/RuntimeException" 13 zNb ["java/lang/Exception"]
def zQn (q : Nat) : String := if q = 1 then zIO else zNS
def zEx (base : Nat) (U : State) : Prop :=
  ((∃ a, vk_R "SherdTable" 184 "no such sherd" a U) ∧ (∃ a, vk_R "SherdTable" 210 "no such what" a U) ∧ ∃ a, vk_R "SherdTable" 216 "no such sherd or step" a U) ∧ va_Nc zNS zIO U ∧
  (vx_Zq Bundle.tN "UNASSIGNED_STACK" Bundle.steD (fun q => base ≤ q) U U.heap ∧ vx_Zq Bundle.tN "SUPPRESSED_SENTINEL" Bundle.listD (fun q => base ≤ q) U U.heap) ∧
  (va_Nw (.castable zIO zIO) U ∧ va_Nw (.castable zNS zNS) U) ∧ (va_Nw (.declares (Bundle.initS "java/lang/RuntimeException")) U ∧ va_Nw (.declares (Bundle.initS "java/lang/Exception")) U ∧ va_Nw (.declares (Bundle.initS Bundle.tN)) U)
theorem zEx.to {base : Nat} {s U : State} (h : zEx base s) (hW : s.WarmedH U.vm) (hq : ∀ a : Nat, a < s.heap.size → ¬ base ≤ a → U.heap[a]? = s.heap[a]?) : zEx base U := by
  obtain ⟨⟨⟨a1, h1⟩, ⟨a2, h2⟩, a3, h3⟩, h4, ⟨h5, h6⟩, ⟨h7, h8⟩, h9, h10, h11⟩ := h
  exact ⟨⟨⟨a1, h1.warm hW⟩, ⟨a2, h2.warm hW⟩, a3, h3.warm hW⟩, h4.moved hW.alike, ⟨(h5.moved hW.alike).kept hq, (h6.moved hW.alike).kept hq⟩, ⟨h7.warmC hW, h8.warmC hW⟩, h9.warmD hW, h10.warmD hW, h11.warmD hW⟩
theorem zEx.blind {base : Nat} {U : State} (g : JFrame) (mk : MethodId) (a : Array Value) (h : zEx base U) : zEx base (U.calling g mk a) := h.to (State.WarmedH.refl U) (fun _ _ _ => rfl)
theorem zt_1 : ∀ w ∈ (vx_atS "SherdTable" 186 zIO zRtN).filter goodWord, w ∈ lw_tbl := by decide +kernel
theorem zt_2 : ∀ w ∈ zNw.filter goodWord, w ∈ lw_tbl := by decide +kernel
theorem zt_3 : ∀ w ∈ (vx_atS "SherdTable" 186 zIO zRtN).filter (fun w => !goodWord w), w ∈ [Cond.castable zIO zIO, .declares (Bundle.initS "java/lang/RuntimeException"), .declares (Bundle.initS "java/lang/Exception"), .declares (Bundle.initS Bundle.tN)] := by decide +kernel
theorem zt_4 : ∀ w ∈ zNw.filter (fun w => !goodWord w), w ∈ [Cond.castable zNS zNS, .declares (Bundle.initS "java/lang/RuntimeException"), .declares (Bundle.initS "java/lang/Exception"), .declares (Bundle.initS Bundle.tN)] := by decide +kernel
theorem zt_5 : ∀ w ∈ [Cond.classLink "SherdTable" 182 zIO, .initialized zIO, .classLink "SherdTable" 208 zNS, .initialized zNS], w ∈ lw_tbl ∧ goodWord w = true := by decide +kernel
theorem zt_6 : ∀ w ∈ Cond.classLink "SherdTable" 182 zIO :: Cond.initialized zIO :: vx_atS "SherdTable" 186 zIO zRtN, vx_ot w = true := by decide +kernel
theorem zt_7 : ∀ w ∈ Cond.classLink "SherdTable" 208 zNS :: Cond.initialized zNS :: zNw, vx_ot w = true := by decide +kernel
def zSi (y : Nat) (e : Nat × Instr × Nat) : Bool := match e.2.1 with
  | .new k => decide ((k = 182 ∧ e.1 = (if y = 70 then 8 else 9)) ∨ (k = 208 ∧ e.1 = (if y = 70 then 161 else 112)))
  | _ => true
theorem zSi_70 : (zCd 70).all (zSi 70) = true := by decide +kernel
theorem zSi_71 : (zCd 71).all (zSi 71) = true := by decide +kernel
theorem zSite {y pc k q : Nat} (hy : y = 70 ∨ y = 71) (h : zIns y pc = some (.new k, 3)) (ht : zThw y (.new k) = some q) : (k = 182 ∧ q = 1 ∧ pc = (if y = 70 then 8 else 9)) ∨ (k = 208 ∧ q = 2 ∧ pc = (if y = 70 then 161 else 112)) := by
  have hm : (pc, Instr.new k, 3) ∈ zCd y := by
    unfold zIns at h
    split at h
    · rename_i e he
      split at h
      · have h := Option.some.inj h
        obtain ⟨e1, e2, e3⟩ := e
        cases h
        have hp := List.find?_some he
        simp only [beq_iff_eq] at hp
        rw [← hp]; exact List.mem_of_find?_eq_some he
      · cases h
    · cases h
  have hs : zSi y (pc, Instr.new k, 3) = true := by
    rcases hy with rfl | rfl
    · exact List.all_eq_true.mp zSi_70 _ hm
    · exact List.all_eq_true.mp zSi_71 _ hm
  have hs := of_decide_eq_true hs
  unfold zThw at ht
  simp only [if_pos hy] at ht
  rcases hs with ⟨rfl, e⟩ | ⟨rfl, e⟩
  · simp at ht; exact Or.inl ⟨rfl, ht.symm, e⟩
  · simp at ht; exact Or.inr ⟨rfl, ht.symm, e⟩
section ZMT
variable {base : Nat} {sd : Nat → Nat} {cA : Nat → ClassId} {D : va_G} {L0 : Nat} {xs : Nat → Int32} {l : Launch}
theorem zHp_thr {M : zM} {H H1 : Heap} (h : zHp base sd cA D L0 xs M H) (hs : H.size ≤ H1.size) (hk : ∀ q : Nat, q < H.size → H1[q]? = H[q]?) : zHp base sd cA D L0 xs (zThr M) H1 := by
  obtain ⟨h1, h2, h3, h4, h5⟩ := h
  refine ⟨?_, Nat.le_trans h2 hs, fun h => absurd h (Nat.succ_ne_zero _), h4, h5⟩
  show va_P D zCl (zWs base (zAd base sd) cA M) H1
  exact va_P.kept h1 (fun k q hq => hk _ (vx_lt h1 hq))
def zXc (base : Nat) (sd : Nat → Nat) (cA : Nat → ClassId) (D : va_G) (L0 : Nat) (xs : Nat → Int32) (r : Option Value) (M1 : zM) : String → State → State → Prop := fun En st t => ∃ q, r = some (.retAddr q) ∧ (q = 1 ∨ q = 2) ∧ En = zQn q ∧ zHp base sd cA D L0 xs M1 t.heap ∧ va_F (fun q => base ≤ q) st t
def zPx (base : Nat) (sd : Nat → Nat) (cA : Nat → ClassId) (D : va_G) (L0 : Nat) (xs : Nat → Int32) (as : List Value) (M : zM) : Array Value → State → Prop := fun v U => zPc base sd cA D L0 xs as M v U ∧ zEx base U
theorem zPx_blind {as : List Value} {M : zM} : FrameBlind (zPx base sd cA D L0 xs as M) := fun a U g mk h => ⟨zPc_blind a U g mk h.1, h.2.blind g mk a⟩
def zQy (base : Nat) (sd : Nat → Nat) (cA : Nat → ClassId) (D : va_G) (L0 : Nat) (xs : Nat → Int32) (r : Option Value) (M1 : zM) : Array Value → State → Outcome → State → Prop := fun a st o t => zQc base sd cA D L0 xs r M1 a st o t ∧ ∀ q, r ≠ some (.retAddr q)
set_option maxRecDepth 20000 in
set_option maxHeartbeats 4000000 in
theorem zMetT {n z : Nat} {as : List Value} {M M1 : zM} {r : Option Value} (hl : l.stackTraces = false) (hz : z = 70 ∨ z = 71) (IT : zSnt base sd cA D L0 xs l n) (h : zX n z 0 (zEnt z as) [] M = some (r, M1)) (hlen : (zEa as).length ≤ zL z) :
    vx_Met l (zY z) (zWd z) (zRm z (zc M1 - zc M) (zZ M1 - zZ M)) (zPx base sd cA D L0 xs as M) (zQy base sd cA D L0 xs r M1) (zXc base sd cA D L0 xs r M1) (zc M1 - zc M) (zZ M1 - zZ M) (fun q => base ≤ q) := by
  have hord : zOrd z = true := by rcases hz with rfl | rfl <;> decide
  have hyz := zYat (zOrd_lt hord)
  refine vx_ofW (cc := zB z) (maxL := zL z) (ret := zR z) (by rcases hz with rfl | rfl <;> decide) rfl ?_
  intro p e s m args below meth c s₁ B hml hnt hv
  obtain ⟨⟨rfl, hK, hH⟩, hE⟩ := hv
  have hts := atoms_spec (ws := zWd z) B.pre
  have hown : s.vm.findClass (zY z).cls = some m.cls := findClass_of_methodNamed B.named
  have hlocks := B.notSynchronized
  have hret := B.returns
  have htw : ∀ w ∈ zW, w.before (as.map (zV (zAd base sd))).toArray s = true := fun w hw => hts w (List.mem_cons_of_mem _ hw)
  have cx : zCx base sd cA D L0 xs p s m (as.map (zV (zAd base sd))).toArray meth c z := ⟨B.exec, B.bytes, hml, by rw [← hyz.1]; exact hown, htw, fun h9 => ((name_of_methodNamed B.named B.method).1).trans h9, hK⟩
  rw [lg_entry_eq]
  refine IT h hz (show zdp z 0 = some 0 by rcases hz with rfl | rfl <;> rfl) (Nat.le_refl _) cx hH va_S.rf (Nat.le_trans (Nat.le_add_right _ _) hH.2.1) (Nat.le_refl _) (Nat.le_refl _) (zEnt_ls hlen) (by rw [Nat.zero_add]; exact Nat.le_refl _) (by rw [Nat.zero_add]; exact Nat.le_refl _) ?_ ?_
  · intro i st1 pc1 ls1 H1 locs1 c1 z1 hrt hd hH1 hS1 hc1 hz1
    rw [Nat.zero_add] at hc1 hz1
    subst hc1; subst hz1
    refine vx_ret ?_
    unfold zRet at hrt
    split at hrt
    · split at hrt
      · rename_i v
        split at hrt
        · rename_i hR9
          cases hrt
          exact W.iret B.exec B.bytes (hret.trans hR9) (fun t ht hW => ⟨⟨rfl, by rw [ht]; exact hH1, hS1.F ht⟩, fun q9 h9 => nomatch h9⟩) hS1.2.2 hd
        · rename_i hR9
          rcases hz with rfl | rfl
          · exact absurd hR9 (by decide)
          · exact absurd hR9 (by decide)
        · cases hrt
      · cases hrt
    · split at hrt
      · rename_i v
        split at hrt
        · rename_i hR9
          rcases hz with rfl | rfl
          · exact absurd hR9 (by decide)
          · exact absurd hR9 (by decide)
        · cases hrt
      · cases hrt
    · split at hrt
      · split at hrt
        · rename_i hR9
          rcases hz with rfl | rfl
          · exact absurd hR9 (by decide)
          · exact absurd hR9 (by decide)
        · cases hrt
      · cases hrt
    · cases hrt
  · intro i q st1 pc1 ls1 H1 locs1 M2 c1 z1 hth hrq hM1 hd hins hst1 hls hH1 hS1 hc1 hz1
    rw [Nat.zero_add] at hc1 hz1
    obtain ⟨⟨⟨s1, q1⟩, ⟨s2, q2⟩, s3, q3⟩, q4, ⟨q5, q6⟩, ⟨q7, q8⟩, q9, q10, q11⟩ := hE
    have hi : ∃ k, i = .new k := by
      unfold zThw at hth
      split at hth
      · exact ⟨_, rfl⟩
      · cases hth
    obtain ⟨k, rfl⟩ := hi
    have hsite := zSite hz hins hth
    have gw : ∀ w ∈ [Cond.classLink "SherdTable" 182 zIO, .initialized zIO, .classLink "SherdTable" 208 zNS, .initialized zNS], w.before (as.map (zV (zAd base sd))).toArray s = true := fun w hw => htw w (List.mem_filter.mpr (zt_5 w hw))
    have at1 : ∀ w ∈ vx_atS "SherdTable" 186 zIO zRtN, w.before (as.map (zV (zAd base sd))).toArray s = true := vx_hat (fun w hw => htw w (List.mem_filter.mpr ⟨zt_1 w hw, (List.mem_filter.mp hw).2⟩)) zt_3 (vx_c (q7.use rfl) (vx_c (q9.use rfl) (vx_c (q10.use rfl) (vx_c (q11.use rfl) vx_n))))
    have at2 : ∀ w ∈ zNw, w.before (as.map (zV (zAd base sd))).toArray s = true := vx_hat (fun w hw => htw w (List.mem_filter.mpr ⟨zt_2 w hw, (List.mem_filter.mp hw).2⟩)) zt_4 (vx_c (q8.use rfl) (vx_c (q9.use rfl) (vx_c (q10.use rfl) (vx_c (q11.use rfl) vx_n))))
    have hro : ((st1.map (zV (zAd base sd))).map fun v => v.category).sum + (13 * (zRtN.length + 1) + 43) ≤ 160 := by
      have := cat_two (st1.map (zV (zAd base sd)))
      rw [List.length_map] at this
      show (List.map Value.category (st1.map (zV (zAd base sd)))).sum + (13 * (2 + 1) + 43) ≤ 160
      omega
    have hF : zFr z = 7 ∧ zLo z = 160 := by rcases hz with rfl | rfl <;> decide
    have hcn : s.vm.findClass "SherdTable" = some m.cls := by
      have e9 : (zY z).cls = "SherdTable" := by rcases hz with rfl | rfl <;> rfl
      rw [e9] at hown; exact hown
    have hxc : ∀ cls, cls = zQn q → (q = 1 ∨ q = 2) → ∀ t : State, s.vm.Alike t.vm → H1.size ≤ t.heap.size → (∀ q : Nat, q < H1.size → t.heap[q]? = H1[q]?) → zXc base sd cA D L0 xs r M1 cls s t := by
      intro cls hcls hq t _ t1 t2
      refine ⟨q, hrq, hq, hcls, by rw [hM1]; exact zHp_thr hH1 t1 t2, Nat.le_trans hS1.1 t1, fun a ha hb => ?_⟩
      rw [t2 a (Nat.lt_of_lt_of_le ha hS1.1)]; exact hS1.2.1 a ha hb
    have hf1 : ∀ n ∈ zRtN, Bundle.fit n = true := by decide
    have hR1 : (headSpec (zWd z) (zRm z (zc M1 - zc M) (zZ M1 - zZ M))).room.frames = 7 := hF.1
    have hR2 : (headSpec (zWd z) (zRm z (zc M1 - zc M) (zZ M1 - zZ M))).room.locals = 160 := hF.2
    have hR3 : (headSpec (zWd z) (zRm z (zc M1 - zc M) (zZ M1 - zZ M))).room.cells = zc M1 - zc M := rfl
    have hR4 : (headSpec (zWd z) (zRm z (zc M1 - zc M) (zZ M1 - zZ M))).room.slots = zZ M1 - zZ M := rfl
    have hout : ∀ x ∈ c.exceptionTable.toList, ∀ pc, covers x pc = false := fun x hx => absurd hx (hnt x)
    rcases hsite with ⟨rfl, rfl, rfl⟩ | ⟨rfl, rfl, rfl⟩
    · rcases hz with rfl | rfl
      · exact vx_throwS (cc := zB 70) (pc := 8) (own := "SherdTable") (cls := zIO) (text := "no such sherd") (names := zRtN) (ik := 182) (is := 184) (ic := 186) (sa := s1) (A := fun q => base ≤ q) B.exec B.bytes hl hcn (by decide) hf1 (gw _ (by simp)) (gw _ (by simp)) q1 at1 zt_6 q5 q6 hS1 (hls.trans hml.symm) hd (zIns_spec (by decide) (rfl : zIns 70 11 = some (.dup, 1))).1 (zIns_spec (by decide) (rfl : zIns 70 12 = some (.ldc 184, 2))).1 (zIns_spec (by decide) (rfl : zIns 70 14 = some (.invokespecial 186, 3))).1 (zIns_spec (by decide) (rfl : zIns 70 17 = some (.athrow, 1))).1 (fun x hx => hout x hx _) (by rw [hR1]; decide) (by rw [hR2]; exact hro) (by rw [hR3]; omega) (by rw [hR4]; omega) hlocks (hxc _ rfl (Or.inl rfl)) hS1.2.2 hc1 (by omega)
      · exact vx_throwS (cc := zB 71) (pc := 9) (own := "SherdTable") (cls := zIO) (text := "no such sherd or step") (names := zRtN) (ik := 182) (is := 216) (ic := 186) (sa := s3) (A := fun q => base ≤ q) B.exec B.bytes hl hcn (by decide) hf1 (gw _ (by simp)) (gw _ (by simp)) q3 at1 zt_6 q5 q6 hS1 (hls.trans hml.symm) hd (zIns_spec (by decide) (rfl : zIns 71 12 = some (.dup, 1))).1 (zIns_spec (by decide) (rfl : zIns 71 13 = some (.ldc 216, 2))).1 (zIns_spec (by decide) (rfl : zIns 71 15 = some (.invokespecial 186, 3))).1 (zIns_spec (by decide) (rfl : zIns 71 18 = some (.athrow, 1))).1 (fun x hx => hout x hx _) (by rw [hR1]; decide) (by rw [hR2]; exact hro) (by rw [hR3]; omega) (by rw [hR4]; omega) hlocks (hxc _ rfl (Or.inl rfl)) hS1.2.2 hc1 (by omega)
    · rcases hz with rfl | rfl
      · exact vy_throwS (cc := zB 70) (pc := 161) (own := "SherdTable") (cls := zNS) (up := "java/lang/RuntimeException") (text := "no such what") (names := ["java/lang/Exception"]) (ik := 208) (is := 210) (ic := 212) (ix := 13) (bytes := zNb) (sa := s2) (A := fun q => base ≤ q) B.exec B.bytes hl hcn (by decide) (by decide) (by decide) (by decide +kernel) (by decide +kernel) (by decide +kernel) (by decide +kernel) (gw _ (by simp)) (gw _ (by simp)) q2 at2 zt_7 q5 q6 hS1 (hls.trans hml.symm) hd (zIns_spec (by decide) (rfl : zIns 70 164 = some (.dup, 1))).1 (zIns_spec (by decide) (rfl : zIns 70 165 = some (.ldc 210, 2))).1 (zIns_spec (by decide) (rfl : zIns 70 167 = some (.invokespecial 212, 3))).1 (zIns_spec (by decide) (rfl : zIns 70 170 = some (.athrow, 1))).1 (fun x hx => hout x hx _) (by rw [hR1]; decide) (by rw [hR2]; exact hro) (by rw [hR3]; omega) (by rw [hR4]; omega) hlocks (hxc _ rfl (Or.inr rfl)) hS1.2.2 hc1 (by omega)
      · exact vy_throwS (cc := zB 71) (pc := 112) (own := "SherdTable") (cls := zNS) (up := "java/lang/RuntimeException") (text := "no such what") (names := ["java/lang/Exception"]) (ik := 208) (is := 210) (ic := 212) (ix := 13) (bytes := zNb) (sa := s2) (A := fun q => base ≤ q) B.exec B.bytes hl hcn (by decide) (by decide) (by decide) (by decide +kernel) (by decide +kernel) (by decide +kernel) (by decide +kernel) (gw _ (by simp)) (gw _ (by simp)) q2 at2 zt_7 q5 q6 hS1 (hls.trans hml.symm) hd (zIns_spec (by decide) (rfl : zIns 71 115 = some (.dup, 1))).1 (zIns_spec (by decide) (rfl : zIns 71 116 = some (.ldc 210, 2))).1 (zIns_spec (by decide) (rfl : zIns 71 118 = some (.invokespecial 212, 3))).1 (zIns_spec (by decide) (rfl : zIns 71 121 = some (.athrow, 1))).1 (fun x hx => hout x hx _) (by rw [hR1]; decide) (by rw [hR2]; exact hro) (by rw [hR3]; omega) (by rw [hR4]; omega) hlocks (hxc _ rfl (Or.inr rfl)) hS1.2.2 hc1 (by omega)
end ZMT
