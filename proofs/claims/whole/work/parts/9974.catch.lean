/-! The law's own look and edge, which catch. -/
section ZL
variable {base : Nat} {sd : Nat → Nat} {cA : Nat → ClassId} {D : va_G} {L0 : Nat} {xs : Nat → Int32}
variable {p : Program} {l : Launch} {e : Env} {R : Room} {s : State} {m : MethodId} {args : Array Value} {below : List Frame} {meth : Method} {c : Code} {H : Heap} {locs : List Loc} {cells slots : Nat} {Q : State → Prop} {y pc : Nat} {ls : Array Slot} {rest : List Value} {M M1 : zM}
theorem zPur {pc' len : Nat} {i : Instr} {L L' : List (Option Value)} {st st' : List Value} (cx : zCx base sd cA D L0 xs p s m args meth c y) (hH : zHp base sd cA D L0 xs M H) (hS : va_S (fun q => base ≤ q) s.heap H locs) (hbs : base ≤ s.heap.size) (hRf : zFr y ≤ R.frames) (hRl : zLo y ≤ R.locals) (hy : y < 199) (hins : zIns y pc = some (i, len)) (hL : zLs (zAd base sd) ls (zL y) L) (hs : zStep y i len pc L st M = some (pc', L', st', M)) (hc : cells ≤ R.cells) (hsl : slots ≤ R.slots)
    (kk : ∀ (H1 : Heap) (locs1 : List Loc) (ls1 : Array Slot), zHp base sd cA D L0 xs M H1 → va_S (fun q => base ≤ q) s.heap H1 locs1 → zLs (zAd base sd) ls1 (zL y) L' → W p l e R s m args below meth c H1 locs1 cells slots Q (F0 m pc' ls1 (st'.map (zV (zAd base sd))))) :
    W p l e R s m args below meth c H locs cells slots Q (F0 m pc ls (st.map (zV (zAd base sd)))) := by
  obtain ⟨hd, hol⟩ := zIns_spec hy hins
  refine zStep_sound cx hH hS hbs hRf hRl hd hol hL hs (by omega) (by omega) (fun H1 locs1 ls1 c1 z1 k1 k2 g1 g2 g3 => ?_)
  obtain rfl : c1 = cells := by omega
  obtain rfl : z1 = slots := by omega
  exact kk H1 locs1 ls1 g1 g2 g3
theorem zr_last (cx : zCx base sd cA D L0 xs p s m args meth c y) (hH : zHp base sd cA D L0 xs M H) (hS : va_S (fun q => base ≤ q) s.heap H locs) {a : Nat} {x : Int64} (hs : zS M a = (3, 1)) (ha : a < zN M) (hdg : decode (zB y) pc = .ok (.lastore, 1))
    (kk : ∀ (H1 : Heap) (locs1 : List Loc), zHp base sd cA D L0 xs (zWJ M a 0 x) H1 → va_S (fun q => base ≤ q) s.heap H1 locs1 → H1.size = H.size → W p l e R s m args below meth c H1 locs1 cells slots Q (F0 m (pc + 1) ls rest)) : W p l e R s m args below meth c H locs cells slots Q (F0 m pc ls (.long x :: .int 0 :: .ref (base + a) :: rest)) := by
  obtain ⟨hx, hb, -, hown, hts, -, hK⟩ := cx
  have hD := zWs_D (base := base) (ad := zAd base sd) (cA := cA) (M := M)
  have hE0 := zE_long (cA := cA) (ad := zAd base sd) hs
  have ha0 : (zWs base (zAd base sd) cA M)[a]? = some (base + a, .inl (cA 2, 1, .inr (.inl (zJ M a)))) := by rw [zWs_get ha, hE0]
  refine W.last hx hb (hH.1 a _ ha0) ((hK.1.2 2 _ rfl).1 1 (fun j => .long (zJ M a j))) (fun q => by cases q) (by show ¬ ((0 : Int32) < 0 ∨ (arrV _ _ _).slots.size ≤ _); rw [arrV_size]; exact (by decide : ¬ ((0 : Int32) < 0 ∨ 1 ≤ (0 : Int32).toNatClampNeg))) rfl rfl hdg fun H1 e z oq => ?_
  have hat1 : va_at D zCl (base + a, .inl (cA 2, 1, .inr (.inl (vp_updL (zJ M a) (0 : Int32).toNatClampNeg x)))) H1 := by
    show H1[base + a]? = some (vp_cell _ _)
    rw [e, vp_cell_l, vp_cell_l, arrV_store]
    congr 2
    funext q
    by_cases hq : q = (0 : Int32).toNatClampNeg
    · subst hq
      simp [vp_updL, updV]
    · have hq0 : ¬ q = 0 := fun h => hq (by rw [h]; decide)
      simp [vp_updL, updV, hq0]
  have hP' := hH.1.set hD ha0 hat1 oq
  have hEa : zE (zAd base sd) cA (zWJ M a 0 x) a = .inl (cA 2, 1, .inr (.inl (vp_updL (zJ M a) (0 : Int32).toNatClampNeg x))) := by
    rw [zE_long (M := zWJ M a 0 x) hs]
    congr 5
    funext q
    show z2 (zJ M) a 0 x a q = vp_updL (zJ M a) (0 : Int32).toNatClampNeg x q
    by_cases hq : q = 0
    · rw [z2_hit ⟨rfl, hq⟩]; exact (if_pos (by rw [hq]; decide)).symm
    · rw [z2_off (fun h => hq h.2)]; exact (if_neg (fun h => hq (h.trans (by decide)))).symm
  rw [zWs_set (M := M) (M' := zWJ M a 0 x) rfl (fun j hj => zE_WJ hj) hEa] at hP'
  exact kk H1 _ ⟨hP', by rw [z]; exact hH.2.1, fun h => by rw [z]; exact hH.2.2.1 h, hH.2.2.2.1, zSta_WJ hH.2.2.2.2⟩ (hS.put z oq (Nat.le_add_right _ _)) z
theorem zRunT_go {r : Option Value} {mc ms : Nat} {st0 rest : List Value} {a : Array Value} (hr : vx_Run p l e R s m args below meth c H locs cells slots mc ms (F0 m pc ls st0) rest (zQy base sd cA D L0 xs r M1 a) (zXc base sd cA D L0 xs r M1) (fun q => base ≤ q)) (hS : va_S (fun q => base ≤ q) s.heap H locs)
    (kr : ∀ (H1 : Heap) (locs1 : List Loc), (∀ q, r ≠ some (.retAddr q)) → zHp base sd cA D L0 xs M1 H1 → va_S (fun q => base ≤ q) s.heap H1 locs1 → W p l e R s m args below meth c H1 locs1 (cells + mc) (slots + ms) Q (F0 m (pc + 3) ls ((r.map (zV (zAd base sd))).toList ++ rest)))
    (kx : ∀ (H1 : Heap) (locs1 : List Loc) (q9 : Addr) (ce : Cell) (q : Nat), r = some (.retAddr q) → (q = 1 ∨ q = 2) → zHp base sd cA D L0 xs M1 H1 → va_S (fun q => base ≤ q) s.heap H1 locs1 → H1[q9]? = some ce → ce.vm = .none → s.vm.findClass (zQn q) = some ce.cls → vx_W p l e R s m args below meth c H1 locs1 (cells + mc) (slots + ms) Q (F0 m pc ls rest) q9) : W p l e R s m args below meth c H locs cells slots Q (F0 m pc ls st0) := by
  have mk : ∀ {st₀ t T' : State} {L : List Loc}, st₀.heap = H → T'.heap = t.heap → (∀ q ∈ L, base ≤ q.base) → va_F (fun q => base ≤ q) st₀ t → va_S (fun q => base ≤ q) s.heap T'.heap (locs ++ L) := by
    intro st₀ t T' L h0 e1 hL hF
    obtain ⟨hz, hk⟩ := hF
    rw [h0] at hz hk
    exact ⟨Nat.le_trans hS.1 (by rw [e1]; exact hz), fun q h1 h2 => by rw [e1, hk q (Nat.lt_of_lt_of_le h1 hS.1) h2]; exact hS.2.1 q h1 h2, fun q hq => by
      rcases List.mem_append.mp hq with h | h
      · exact hS.2.2 q h
      · exact hL q h⟩
  intro T hT X
  rcases hr T hT X with ⟨v, st₀, t, T', L, h0, X', hL, e1, e2, ⟨⟨hv, hHp, hF⟩, hnr⟩, st⟩ | ⟨q, st₀, t, T', L, E, ce, h0, X', hL, e1, e2, ⟨q1, hq1, hq2, hq3, hHp, hF⟩, hce, hcv, hcl, st⟩
  · have hv := Outcome.returned.inj hv
    subst hv
    obtain ⟨t2, a1, b1⟩ := kr T'.heap (locs ++ L) hnr (by rw [e1]; exact hHp) (mk h0 e1 hL hF) T' rfl X'
    exact ⟨t2, st t2 a1, b1⟩
  · subst hq3
    obtain ⟨t2, a1, b1⟩ := kx T'.heap (locs ++ L) q ce q1 hq1 hq2 (by rw [e1]; exact hHp) (mk h0 e1 hL hF) (by rw [e1]; exact hce) hcv hcl T' rfl X'
    exact ⟨t2, st.trans a1, b1⟩
end ZL
def zrc (o k c : Nat) : Bool := (zCTs.getD o []).all (fun e => decide (¬ e.1 = k) || decide (e.2.1 = c))
theorem zrc_117 : zrc 9 117 9 = true := by decide +kernel
theorem zrc_213 : zrc 9 213 9 = true := by decide +kernel
theorem zrc_use {o k c c2 : Nat} {e : Nat × Nat × Nat × Nat × Nat × String × List Nat} (h : zrc o k c = true) (he : zCal o k c2 = some e) : c2 = c := by
  unfold zCal at he
  have hm := List.mem_of_find?_eq_some he
  have hp := List.find?_some he
  simp only [Bool.and_eq_true, beq_iff_eq] at hp
  have h2 := List.all_eq_true.mp h e hm
  simp only [Bool.or_eq_true, decide_eq_true_eq] at h2
  rcases h2 with h2 | h2
  · exact absurd hp.1 h2
  · exact hp.2.symm.trans h2
theorem zVir_recv {y k c : Nat} {st as rest : List Value} {M : zM} {z np x : Nat} (hk : zrc (zO y) k c = true) (hnp : zNp (zO y) k = some np) (hd : st.drop np = .ref x :: rest) (h : ¬ zVir y k false st M = none) (hc : c < 11) : zS M x = (0, c) ∧ x < zN M := by
  obtain ⟨q, hq⟩ := Option.ne_none_iff_exists'.mp h
  unfold zVir at hq
  rw [hnp] at hq
  simp only [hd] at hq
  split at hq
  · rename_i c2 hs
    split at hq
    · rename_i e he
      have e1 := zrc_use hk he
      subst e1
      simp only [Bool.false_eq_true, if_false] at hq
      split at hq
      · rename_i hcc
        simp only [Bool.and_eq_true, Bool.or_eq_true, decide_eq_true_eq] at hcc
        rcases hcc.1.2 with h9 | h9
        · exact ⟨hs, h9.1⟩
        · omega
      · cases hq
    · cases hq
  · cases hq
theorem zRc_lk {n : Nat} {x : Nat} {a b : Int32} {M : zM} {q : Option Value × zM} (h : zX n 70 0 (zEnt 70 [.ref x, .int a, .int b]) [] M = some q) : zS M x = (0, 9) ∧ x < zN M := by
  have h : zX (n + 3) 70 0 (zEnt 70 [.ref x, .int a, .int b]) [] M = some q := zX_up h
  have h : zX (n + 2) 70 1 (zEnt 70 [.ref x, .int a, .int b]) [.ref x] M = some q := h
  have h : zX (n + 1) 70 2 (zEnt 70 [.ref x, .int a, .int b]) [.int a, .ref x] M = some q := h
  refine zVir_recv (y := 70) (k := 117) (c := 9) (np := 1) (st := [.int a, .ref x]) (rest := []) (as := []) (z := 0) zrc_117 rfl rfl (fun hn => ?_) (by omega)
  have e : zX (n + 1) 70 2 (zEnt 70 [.ref x, .int a, .int b]) [.int a, .ref x] M = (match zVir 70 117 false [.int a, .ref x] M with
    | some (z, as, rest) => (match zX n z 0 (zEnt z as) [] M with
      | some (none, M1) => zX n 70 (2 + zIl (.invokevirtual 117)) (zEnt 70 [.ref x, .int a, .int b]) rest M1
      | some (some (.int v), M1) => zX n 70 (2 + zIl (.invokevirtual 117)) (zEnt 70 [.ref x, .int a, .int b]) (.int v :: rest) M1
      | some (some (.long v), M1) => zX n 70 (2 + zIl (.invokevirtual 117)) (zEnt 70 [.ref x, .int a, .int b]) (.long v :: rest) M1
      | _ => none)
    | none => none) := rfl
  rw [e, hn] at h
  cases h
def zWe_lk : List Cond := .codeWith (zY 196) (zB 196) 5 (some .int) [(0, 10, 13, 13), (0, 10, 17, 15)] :: zW
theorem zwe_lk : ∀ w ∈ [Cond.codeWith (zY 196) (zB 196) 5 (some .int) [(0, 10, 13, 13), (0, 10, 17, 15)], .methodLink (zOn 12) 61 (zY 196), .static (zY 196), .initialized (zY 196).cls, .classLink (zOn 12) 13 zIO, .classLink (zOn 12) 15 zNS, .methodLink (zOn 12) 7 (zY 70), .instanceMethod (zY 70), .selects (zCn 9) (zY 70) (zY 70), .initialized (zCn 9)], w ∈ lw_tbl ∧ goodWord w = true := by decide +kernel
section
variable {base : Nat} {sd : Nat → Nat} {cA : Nat → ClassId} {D : va_G} {L0 : Nat} {xs : Nat → Int32} {l : Launch}
set_option maxRecDepth 20000 in
set_option maxHeartbeats 4000000 in
theorem zMet_lk {n : Nat} {x out : Nat} {a b : Int32} {M M1 M2 : zM} {r1 : Option Value} {w : Value} (hl : l.stackTraces = false) (IT : zSnt base sd cA D L0 xs l n) (h : zX n 70 0 (zEnt 70 [.ref x, .int a, .int b]) [] M = some (r1, M1)) (hsp : zSpR r1 M1 out w M2) (ho : zS M out = (3, 1)) (ho2 : out < zN M) :
    Met l (zY 196) zWe_lk (zRm 196 (zc M1 - zc M) (zZ M1 - zZ M)) (zPx base sd cA D L0 xs [.ref x, .int a, .int b, .ref out] M) (zQc base sd cA D L0 xs (some w) M2) (zc M1 - zc M) (zZ M1 - zZ M) (fun q => base ≤ q) := by
  obtain ⟨hrs, hrx⟩ := zRc_lk h
  have hmono := zX_mono n h
  have hkeep : zS M1 out = (3, 1) ∧ out < zN M1 := ⟨(zX_shape n h out ho2).trans ho, Nat.lt_of_lt_of_le ho2 hmono.1⟩
  refine va_MetW (cc := zB 196) (maxL := 5) (ret := some .int) (hh := [(0, 10, 13, 13), (0, 10, 17, 15)]) (by decide) rfl ?_
  intro p e s m args below meth c s₁ B hml hv
  obtain ⟨⟨rfl, hK, hH⟩, hE⟩ := hv
  have hts := atoms_spec (ws := zWe_lk) B.pre
  have hown : s.vm.findClass (zY 196).cls = some m.cls := findClass_of_methodNamed B.named
  have hlocks := B.notSynchronized
  have htw : ∀ w ∈ zW, w.before ([.ref x, .int a, .int b, .ref out].map (zV (zAd base sd))).toArray s = true := fun w hw => hts w (List.mem_cons_of_mem _ hw)
  have gw : ∀ w ∈ [Cond.codeWith (zY 196) (zB 196) 5 (some .int) [(0, 10, 13, 13), (0, 10, 17, 15)], .methodLink (zOn 12) 61 (zY 196), .static (zY 196), .initialized (zY 196).cls, .classLink (zOn 12) 13 zIO, .classLink (zOn 12) 15 zNS, .methodLink (zOn 12) 7 (zY 70), .instanceMethod (zY 70), .selects (zCn 9) (zY 70) (zY 70), .initialized (zCn 9)], w.before ([.ref x, .int a, .int b, .ref out].map (zV (zAd base sd))).toArray s = true := fun w hw => htw w (List.mem_filter.mpr (zwe_lk w hw))
  have hown2 : s.vm.findClass (zOn (zO 196)) = some m.cls := hown
  have cx : zCx base sd cA D L0 xs p s m ([.ref x, .int a, .int b, .ref out].map (zV (zAd base sd))).toArray meth c 196 := ⟨B.exec, B.bytes, hml, hown2, htw, fun h9 => absurd h9 (by decide), hK⟩
  have htab : c.exceptionTable.toList = tableOf [(0, 10, 13, 13), (0, 10, 17, 15)] := vx_table (x := zY 196) (bytes := zB 196) (maxL' := 5) (ret' := some .int) (hh := [(0, 10, 13, 13), (0, 10, 17, 15)]) B (gw _ List.mem_cons_self)
  have hbs : base ≤ s.heap.size := Nat.le_trans (Nat.le_add_right _ _) hH.2.1
  have hRc : (headSpec zWe_lk (zRm 196 (zc M1 - zc M) (zZ M1 - zZ M))).room = zRm 196 (zc M1 - zc M) (zZ M1 - zZ M) := rfl
  rw [lg_entry_eq]
  have hL0 := zEnt_ls (ad := zAd base sd) (z := 196) (as := [.ref x, .int a, .int b, .ref out]) (by show 4 ≤ 5; omega)
  refine zPur (y := 196) (pc := 0) (pc' := 1) (i := .aload_n 3) (len := 1) (L := zEnt 196 [.ref x, .int a, .int b, .ref out]) (L' := zEnt 196 [.ref x, .int a, .int b, .ref out]) (st := []) (st' := [.ref out]) cx hH va_S.rf hbs (Nat.le_refl _) (Nat.le_refl _) (by omega) rfl hL0 rfl (Nat.zero_le _) (Nat.zero_le _) (fun H0 locs0 ls0 g0 k0 d0 => ?_)
  refine zPur (y := 196) (pc := 1) (pc' := 2) (i := .iconst 0) (len := 1) (L := zEnt 196 [.ref x, .int a, .int b, .ref out]) (L' := zEnt 196 [.ref x, .int a, .int b, .ref out]) (st := [.ref out]) (st' := [.int 0, .ref out]) cx g0 k0 hbs (Nat.le_refl _) (Nat.le_refl _) (by omega) rfl d0 rfl (Nat.zero_le _) (Nat.zero_le _) (fun H1 locs1 ls1 g1 k1 d1 => ?_)
  refine zPur (y := 196) (pc := 2) (pc' := 3) (i := .aload_n 0) (len := 1) (L := zEnt 196 [.ref x, .int a, .int b, .ref out]) (L' := zEnt 196 [.ref x, .int a, .int b, .ref out]) (st := [.int 0, .ref out]) (st' := [.ref x, .int 0, .ref out]) cx g1 k1 hbs (Nat.le_refl _) (Nat.le_refl _) (by omega) rfl d1 rfl (Nat.zero_le _) (Nat.zero_le _) (fun H2 locs2 ls2 g2 k2 d2 => ?_)
  refine zPur (y := 196) (pc := 3) (pc' := 4) (i := .iload_n 1) (len := 1) (L := zEnt 196 [.ref x, .int a, .int b, .ref out]) (L' := zEnt 196 [.ref x, .int a, .int b, .ref out]) (st := [.ref x, .int 0, .ref out]) (st' := [.int a, .ref x, .int 0, .ref out]) cx g2 k2 hbs (Nat.le_refl _) (Nat.le_refl _) (by omega) rfl d2 rfl (Nat.zero_le _) (Nat.zero_le _) (fun H3 locs3 ls3 g3 k3 d3 => ?_)
  refine zPur (y := 196) (pc := 4) (pc' := 5) (i := .iload_n 2) (len := 1) (L := zEnt 196 [.ref x, .int a, .int b, .ref out]) (L' := zEnt 196 [.ref x, .int a, .int b, .ref out]) (st := [.int a, .ref x, .int 0, .ref out]) (st' := [.int b, .int a, .ref x, .int 0, .ref out]) cx g3 k3 hbs (Nat.le_refl _) (Nat.le_refl _) (by omega) rfl d3 rfl (Nat.zero_le _) (Nat.zero_le _) (fun H4 locs4 ls4 g4 k4 d4 => ?_)
  have hx9 : zAd base sd x = base + x := zAd_lt (Nat.lt_trans hrx hH.2.2.2.1)
  have ho9 : zAd base sd out = base + out := zAd_lt (Nat.lt_trans ho2 hH.2.2.2.1)
  have hM := zMetT (z := 70) (as := [.ref x, .int a, .int b]) hl (Or.inl rfl) IT h (by show 3 ≤ 4; omega)
  have cw := cwV (R := (headSpec zWe_lk (zRm 196 (zc M1 - zc M) (zZ M1 - zZ M))).room) (s := s) (args := ([.ref x, .int a, .int b, .ref out].map (zV (zAd base sd))).toArray) (own := zOn 12) (C := zCn 9) (index := 7) (y := zY 70) (bytes := zB 70) (maxL := zL 70) (mc := zc M1 - zc M) (ms := zZ M1 - zZ M) (ret := zR 70) (Ts := zW) (ws := zWd 70) (rm := zRm 70 (zc M1 - zc M) (zZ M1 - zZ M)) 2 htw (zGoodApp (by decide) (fun w hw => List.mem_filter.mpr (zwe_lk w (List.mem_cons_of_mem _ (List.mem_cons_of_mem _ (List.mem_cons_of_mem _ (List.mem_cons_of_mem _ (List.mem_cons_of_mem _ (List.mem_cons_of_mem _ hw))))))))) rfl rfl rfl ⟨rfl, by decide, by decide, by decide⟩ ⟨(by decide : zFr 70 + 1 ≤ zFr 196), (by decide : 8 + (zL 70 + 11) + zLo 70 ≤ zLo 196)⟩
  have hrecv : ∃ cellB : Cell, H4[zAd base sd x]? = some cellB ∧ cellB.vm.isStatics = false ∧ s.vm.findClass (zCn 9) = some cellB.cls := by
    rw [hx9]; exact va_recv hK.1 g4.1 (zCl_at (c := 9) (by decide)) (by rw [zWs_get hrx, zE_obj hrs])
  have hEU : ∀ U : State, U.heap = H4 → s.WarmedH U.vm → zEx base U := fun U hU hW => hE.to hW (fun q h1 h2 => by rw [hU]; exact k4.2.1 q h1 h2)
  refine zRunT_go (base := base) (sd := sd) (cA := cA) (D := D) (L0 := L0) (xs := xs) (rest := ([.int 0, .ref out] : List Value).map (zV (zAd base sd))) (vx_runV (As := ([.int a, .int b] : List Value).map (zV (zAd base sd))) (b := zAd base sd x) (C := zCn 9) (index := 7) (cc := zB 196) (nL := zL 196) (Ts := zW) (own := zOn 12) ⟨B.exec, B.bytes, hml, hown2, htw⟩ hM cw ⟨zPx_blind, hrecv, fun U hU hW => ⟨zPc_at (as := [.ref x, .int a, .int b]) hK g4 k4 U hU hW, hEU U hU hW⟩⟩ rfl rfl d4.1 rfl (lv_room (by show 2 ≤ 8; omega)) (zIns_spec (by decide) (rfl : zIns 196 5 = some (.invokevirtual 7, 3))).1 ⟨by rw [Nat.zero_add]; exact Nat.le_refl _, by rw [Nat.zero_add]; exact Nat.le_refl _⟩) k4 ?_ ?_
  · intro H8 locs8 hnr gg kk8
    rcases hsp with ⟨v, rfl, rfl, rfl⟩ | ⟨q, rfl, -, -⟩
    · refine lv_i2l (rest := [.int 0, .ref (zAd base sd out)]) (x := v) B.exec B.bytes (zIns_spec (by decide) (rfl : zIns 196 8 = some (.i2l, 1))).1 rfl ?_
      rw [ho9]
      refine zr_last (rest := []) (pc := 9) cx gg kk8 hkeep.1 hkeep.2 (zIns_spec (by decide) (rfl : zIns 196 9 = some (.lastore, 1))).1 (fun H9 locs9 gg9 kk9 _ => ?_)
      refine zPur (y := 196) (pc := 10) (pc' := 21) (i := .goto 11) (len := 3) (L := zEnt 196 [.ref x, .int a, .int b, .ref out]) (L' := zEnt 196 [.ref x, .int a, .int b, .ref out]) (st := []) (st' := []) cx gg9 kk9 hbs (Nat.le_refl _) (Nat.le_refl _) (by omega) rfl d4 rfl (by rw [Nat.zero_add]; exact Nat.le_refl _) (by rw [Nat.zero_add]; exact Nat.le_refl _) (fun Ha locsa lsa ga ka da => ?_)
      refine lv_iconst (rest := []) B.exec B.bytes (zIns_spec (by decide) (rfl : zIns 196 21 = some (.iconst 0, 1))).1 rfl ?_
      rw [Nat.zero_add, Nat.zero_add]
      exact W.iret B.exec B.bytes B.returns (fun t ht hW => ⟨rfl, by rw [ht]; exact ga, ka.F ht⟩) ka.2.2 (zIns_spec (by decide) (rfl : zIns 196 22 = some (.ireturn, 1))).1
    · exact absurd rfl (hnr q)
  · intro H8 locs8 q9 ce q hrq hq12 gg kk8 hce hcv hcl
    rcases hsp with ⟨v, rfl, -, -⟩ | ⟨q', hr', rfl, rfl⟩
    · cases hrq
    · obtain rfl : q' = q := by rw [hr'] at hrq; cases hrq; rfl
      obtain ⟨-, e4, -, ⟨e7, e8⟩, -⟩ := hE
      rcases hq12 with rfl | rfl
      · refine vy_catch (own := zOn 12) (n1 := zIO) (n2 := zNS) (E := zIO) (x1 := ⟨0, 10, 13, 13⟩) (x2 := ⟨0, 10, 17, 15⟩) (tgt := 13) hown2 htab (by decide) (by decide) (by decide) (by decide) (gw _ (by simp)) (gw _ (by simp)) hce hcv hcl (Or.inl ⟨e7.use rfl, rfl⟩) ?_
        refine lv_astore (i := 4) (nL := 5) (lv := []) (rest := []) B.exec B.bytes (zIns_spec (by decide) (rfl : zIns 196 13 = some (.astore 4, 2))).1 ⟨d4.1, d4.2.2.1, fun _ h9 => nomatch h9⟩ (by omega) rfl (fun ls' hls' => ?_)
        refine lv_iconst (rest := []) B.exec B.bytes (zIns_spec (by decide) (rfl : zIns 196 (13 + 2) = some (.iconst 1, 1))).1 rfl ?_
        rw [Nat.zero_add, Nat.zero_add]
        exact W.iret B.exec B.bytes B.returns (fun t ht hW => ⟨rfl, by rw [ht]; exact gg, kk8.F ht⟩) kk8.2.2 (zIns_spec (by decide) (rfl : zIns 196 (13 + 2 + 1) = some (.ireturn, 1))).1
      · refine vy_catch (own := zOn 12) (n1 := zIO) (n2 := zNS) (E := zNS) (x1 := ⟨0, 10, 13, 13⟩) (x2 := ⟨0, 10, 17, 15⟩) (tgt := 17) hown2 htab (by decide) (by decide) (by decide) (by decide) (gw _ (by simp)) (gw _ (by simp)) hce hcv hcl (Or.inr ⟨e4, e8.use rfl, rfl⟩) ?_
        refine lv_astore (i := 4) (nL := 5) (lv := []) (rest := []) B.exec B.bytes (zIns_spec (by decide) (rfl : zIns 196 17 = some (.astore 4, 2))).1 ⟨d4.1, d4.2.2.1, fun _ h9 => nomatch h9⟩ (by omega) rfl (fun ls' hls' => ?_)
        refine lv_iconst (rest := []) B.exec B.bytes (zIns_spec (by decide) (rfl : zIns 196 (17 + 2) = some (.iconst 2, 1))).1 rfl ?_
        rw [Nat.zero_add, Nat.zero_add]
        exact W.iret B.exec B.bytes B.returns (fun t ht hW => ⟨rfl, by rw [ht]; exact gg, kk8.F ht⟩) kk8.2.2 (zIns_spec (by decide) (rfl : zIns 196 (17 + 2 + 1) = some (.ireturn, 1))).1
end
theorem zRc_ed {n : Nat} {x : Nat} {a b u : Int32} {M : zM} {q : Option Value × zM} (h : zX n 71 0 (zEnt 71 [.ref x, .int a, .int b, .int u]) [] M = some q) : zS M x = (0, 9) ∧ x < zN M := by
  have h : zX (n + 4) 71 0 (zEnt 71 [.ref x, .int a, .int b, .int u]) [] M = some q := zX_up h
  have h : zX (n + 3) 71 1 (zEnt 71 [.ref x, .int a, .int b, .int u]) [.ref x] M = some q := h
  have h : zX (n + 2) 71 2 (zEnt 71 [.ref x, .int a, .int b, .int u]) [.int a, .ref x] M = some q := h
  have h : zX (n + 1) 71 3 (zEnt 71 [.ref x, .int a, .int b, .int u]) [.int b, .int a, .ref x] M = some q := h
  refine zVir_recv (y := 71) (k := 213) (c := 9) (np := 2) (st := [.int b, .int a, .ref x]) (rest := []) (as := []) (z := 0) zrc_213 rfl rfl (fun hn => ?_) (by omega)
  have e : zX (n + 1) 71 3 (zEnt 71 [.ref x, .int a, .int b, .int u]) [.int b, .int a, .ref x] M = (match zVir 71 213 false [.int b, .int a, .ref x] M with
    | some (z, as, rest) => (match zX n z 0 (zEnt z as) [] M with
      | some (none, M1) => zX n 71 (3 + zIl (.invokevirtual 213)) (zEnt 71 [.ref x, .int a, .int b, .int u]) rest M1
      | some (some (.int v), M1) => zX n 71 (3 + zIl (.invokevirtual 213)) (zEnt 71 [.ref x, .int a, .int b, .int u]) (.int v :: rest) M1
      | some (some (.long v), M1) => zX n 71 (3 + zIl (.invokevirtual 213)) (zEnt 71 [.ref x, .int a, .int b, .int u]) (.long v :: rest) M1
      | _ => none)
    | none => none) := rfl
  rw [e, hn] at h
  cases h
def zWe_ed : List Cond := .codeWith (zY 197) (zB 197) 6 (some .int) [(0, 12, 15, 13), (0, 12, 19, 15)] :: zW
theorem zwe_ed : ∀ w ∈ [Cond.codeWith (zY 197) (zB 197) 6 (some .int) [(0, 12, 15, 13), (0, 12, 19, 15)], .methodLink (zOn 12) 71 (zY 197), .static (zY 197), .initialized (zY 197).cls, .classLink (zOn 12) 13 zIO, .classLink (zOn 12) 15 zNS, .methodLink (zOn 12) 17 (zY 71), .instanceMethod (zY 71), .selects (zCn 9) (zY 71) (zY 71), .initialized (zCn 9)], w ∈ lw_tbl ∧ goodWord w = true := by decide +kernel
section
variable {base : Nat} {sd : Nat → Nat} {cA : Nat → ClassId} {D : va_G} {L0 : Nat} {xs : Nat → Int32} {l : Launch}
set_option maxRecDepth 20000 in
set_option maxHeartbeats 4000000 in
theorem zMet_ed {n : Nat} {x out : Nat} {a b u : Int32} {M M1 M2 : zM} {r1 : Option Value} {w : Value} (hl : l.stackTraces = false) (IT : zSnt base sd cA D L0 xs l n) (h : zX n 71 0 (zEnt 71 [.ref x, .int a, .int b, .int u]) [] M = some (r1, M1)) (hsp : zSpR r1 M1 out w M2) (ho : zS M out = (3, 1)) (ho2 : out < zN M) :
    Met l (zY 197) zWe_ed (zRm 197 (zc M1 - zc M) (zZ M1 - zZ M)) (zPx base sd cA D L0 xs [.ref x, .int a, .int b, .int u, .ref out] M) (zQc base sd cA D L0 xs (some w) M2) (zc M1 - zc M) (zZ M1 - zZ M) (fun q => base ≤ q) := by
  obtain ⟨hrs, hrx⟩ := zRc_ed h
  have hmono := zX_mono n h
  have hkeep : zS M1 out = (3, 1) ∧ out < zN M1 := ⟨(zX_shape n h out ho2).trans ho, Nat.lt_of_lt_of_le ho2 hmono.1⟩
  refine va_MetW (cc := zB 197) (maxL := 6) (ret := some .int) (hh := [(0, 12, 15, 13), (0, 12, 19, 15)]) (by decide) rfl ?_
  intro p e s m args below meth c s₁ B hml hv
  obtain ⟨⟨rfl, hK, hH⟩, hE⟩ := hv
  have hts := atoms_spec (ws := zWe_ed) B.pre
  have hown : s.vm.findClass (zY 197).cls = some m.cls := findClass_of_methodNamed B.named
  have hlocks := B.notSynchronized
  have htw : ∀ w ∈ zW, w.before ([.ref x, .int a, .int b, .int u, .ref out].map (zV (zAd base sd))).toArray s = true := fun w hw => hts w (List.mem_cons_of_mem _ hw)
  have gw : ∀ w ∈ [Cond.codeWith (zY 197) (zB 197) 6 (some .int) [(0, 12, 15, 13), (0, 12, 19, 15)], .methodLink (zOn 12) 71 (zY 197), .static (zY 197), .initialized (zY 197).cls, .classLink (zOn 12) 13 zIO, .classLink (zOn 12) 15 zNS, .methodLink (zOn 12) 17 (zY 71), .instanceMethod (zY 71), .selects (zCn 9) (zY 71) (zY 71), .initialized (zCn 9)], w.before ([.ref x, .int a, .int b, .int u, .ref out].map (zV (zAd base sd))).toArray s = true := fun w hw => htw w (List.mem_filter.mpr (zwe_ed w hw))
  have hown2 : s.vm.findClass (zOn (zO 197)) = some m.cls := hown
  have cx : zCx base sd cA D L0 xs p s m ([.ref x, .int a, .int b, .int u, .ref out].map (zV (zAd base sd))).toArray meth c 197 := ⟨B.exec, B.bytes, hml, hown2, htw, fun h9 => absurd h9 (by decide), hK⟩
  have htab : c.exceptionTable.toList = tableOf [(0, 12, 15, 13), (0, 12, 19, 15)] := vx_table (x := zY 197) (bytes := zB 197) (maxL' := 6) (ret' := some .int) (hh := [(0, 12, 15, 13), (0, 12, 19, 15)]) B (gw _ List.mem_cons_self)
  have hbs : base ≤ s.heap.size := Nat.le_trans (Nat.le_add_right _ _) hH.2.1
  have hRc : (headSpec zWe_ed (zRm 197 (zc M1 - zc M) (zZ M1 - zZ M))).room = zRm 197 (zc M1 - zc M) (zZ M1 - zZ M) := rfl
  rw [lg_entry_eq]
  have hL0 := zEnt_ls (ad := zAd base sd) (z := 197) (as := [.ref x, .int a, .int b, .int u, .ref out]) (by show 5 ≤ 6; omega)
  refine zPur (y := 197) (pc := 0) (pc' := 2) (i := .aload 4) (len := 2) (L := zEnt 197 [.ref x, .int a, .int b, .int u, .ref out]) (L' := zEnt 197 [.ref x, .int a, .int b, .int u, .ref out]) (st := []) (st' := [.ref out]) cx hH va_S.rf hbs (Nat.le_refl _) (Nat.le_refl _) (by omega) rfl hL0 rfl (Nat.zero_le _) (Nat.zero_le _) (fun H0 locs0 ls0 g0 k0 d0 => ?_)
  refine zPur (y := 197) (pc := 2) (pc' := 3) (i := .iconst 0) (len := 1) (L := zEnt 197 [.ref x, .int a, .int b, .int u, .ref out]) (L' := zEnt 197 [.ref x, .int a, .int b, .int u, .ref out]) (st := [.ref out]) (st' := [.int 0, .ref out]) cx g0 k0 hbs (Nat.le_refl _) (Nat.le_refl _) (by omega) rfl d0 rfl (Nat.zero_le _) (Nat.zero_le _) (fun H1 locs1 ls1 g1 k1 d1 => ?_)
  refine zPur (y := 197) (pc := 3) (pc' := 4) (i := .aload_n 0) (len := 1) (L := zEnt 197 [.ref x, .int a, .int b, .int u, .ref out]) (L' := zEnt 197 [.ref x, .int a, .int b, .int u, .ref out]) (st := [.int 0, .ref out]) (st' := [.ref x, .int 0, .ref out]) cx g1 k1 hbs (Nat.le_refl _) (Nat.le_refl _) (by omega) rfl d1 rfl (Nat.zero_le _) (Nat.zero_le _) (fun H2 locs2 ls2 g2 k2 d2 => ?_)
  refine zPur (y := 197) (pc := 4) (pc' := 5) (i := .iload_n 1) (len := 1) (L := zEnt 197 [.ref x, .int a, .int b, .int u, .ref out]) (L' := zEnt 197 [.ref x, .int a, .int b, .int u, .ref out]) (st := [.ref x, .int 0, .ref out]) (st' := [.int a, .ref x, .int 0, .ref out]) cx g2 k2 hbs (Nat.le_refl _) (Nat.le_refl _) (by omega) rfl d2 rfl (Nat.zero_le _) (Nat.zero_le _) (fun H3 locs3 ls3 g3 k3 d3 => ?_)
  refine zPur (y := 197) (pc := 5) (pc' := 6) (i := .iload_n 2) (len := 1) (L := zEnt 197 [.ref x, .int a, .int b, .int u, .ref out]) (L' := zEnt 197 [.ref x, .int a, .int b, .int u, .ref out]) (st := [.int a, .ref x, .int 0, .ref out]) (st' := [.int b, .int a, .ref x, .int 0, .ref out]) cx g3 k3 hbs (Nat.le_refl _) (Nat.le_refl _) (by omega) rfl d3 rfl (Nat.zero_le _) (Nat.zero_le _) (fun H4 locs4 ls4 g4 k4 d4 => ?_)
  refine zPur (y := 197) (pc := 6) (pc' := 7) (i := .iload_n 3) (len := 1) (L := zEnt 197 [.ref x, .int a, .int b, .int u, .ref out]) (L' := zEnt 197 [.ref x, .int a, .int b, .int u, .ref out]) (st := [.int b, .int a, .ref x, .int 0, .ref out]) (st' := [.int u, .int b, .int a, .ref x, .int 0, .ref out]) cx g4 k4 hbs (Nat.le_refl _) (Nat.le_refl _) (by omega) rfl d4 rfl (Nat.zero_le _) (Nat.zero_le _) (fun H5 locs5 ls5 g5 k5 d5 => ?_)
  have hx9 : zAd base sd x = base + x := zAd_lt (Nat.lt_trans hrx hH.2.2.2.1)
  have ho9 : zAd base sd out = base + out := zAd_lt (Nat.lt_trans ho2 hH.2.2.2.1)
  have hM := zMetT (z := 71) (as := [.ref x, .int a, .int b, .int u]) hl (Or.inr rfl) IT h (by show 4 ≤ 5; omega)
  have cw := cwV (R := (headSpec zWe_ed (zRm 197 (zc M1 - zc M) (zZ M1 - zZ M))).room) (s := s) (args := ([.ref x, .int a, .int b, .int u, .ref out].map (zV (zAd base sd))).toArray) (own := zOn 12) (C := zCn 9) (index := 17) (y := zY 71) (bytes := zB 71) (maxL := zL 71) (mc := zc M1 - zc M) (ms := zZ M1 - zZ M) (ret := zR 71) (Ts := zW) (ws := zWd 71) (rm := zRm 71 (zc M1 - zc M) (zZ M1 - zZ M)) 3 htw (zGoodApp (by decide) (fun w hw => List.mem_filter.mpr (zwe_ed w (List.mem_cons_of_mem _ (List.mem_cons_of_mem _ (List.mem_cons_of_mem _ (List.mem_cons_of_mem _ (List.mem_cons_of_mem _ (List.mem_cons_of_mem _ hw))))))))) rfl rfl rfl ⟨rfl, by decide, by decide, by decide⟩ ⟨(by decide : zFr 71 + 1 ≤ zFr 197), (by decide : 8 + (zL 71 + 11) + zLo 71 ≤ zLo 197)⟩
  have hrecv : ∃ cellB : Cell, H5[zAd base sd x]? = some cellB ∧ cellB.vm.isStatics = false ∧ s.vm.findClass (zCn 9) = some cellB.cls := by
    rw [hx9]; exact va_recv hK.1 g5.1 (zCl_at (c := 9) (by decide)) (by rw [zWs_get hrx, zE_obj hrs])
  have hEU : ∀ U : State, U.heap = H5 → s.WarmedH U.vm → zEx base U := fun U hU hW => hE.to hW (fun q h1 h2 => by rw [hU]; exact k5.2.1 q h1 h2)
  refine zRunT_go (base := base) (sd := sd) (cA := cA) (D := D) (L0 := L0) (xs := xs) (rest := ([.int 0, .ref out] : List Value).map (zV (zAd base sd))) (vx_runV (As := ([.int a, .int b, .int u] : List Value).map (zV (zAd base sd))) (b := zAd base sd x) (C := zCn 9) (index := 17) (cc := zB 197) (nL := zL 197) (Ts := zW) (own := zOn 12) ⟨B.exec, B.bytes, hml, hown2, htw⟩ hM cw ⟨zPx_blind, hrecv, fun U hU hW => ⟨zPc_at (as := [.ref x, .int a, .int b, .int u]) hK g5 k5 U hU hW, hEU U hU hW⟩⟩ rfl rfl d5.1 rfl (lv_room (by show 2 ≤ 8; omega)) (zIns_spec (by decide) (rfl : zIns 197 7 = some (.invokevirtual 17, 3))).1 ⟨by rw [Nat.zero_add]; exact Nat.le_refl _, by rw [Nat.zero_add]; exact Nat.le_refl _⟩) k5 ?_ ?_
  · intro H8 locs8 hnr gg kk8
    rcases hsp with ⟨v, rfl, rfl, rfl⟩ | ⟨q, rfl, -, -⟩
    · refine lv_i2l (rest := [.int 0, .ref (zAd base sd out)]) (x := v) B.exec B.bytes (zIns_spec (by decide) (rfl : zIns 197 10 = some (.i2l, 1))).1 rfl ?_
      rw [ho9]
      refine zr_last (rest := []) (pc := 11) cx gg kk8 hkeep.1 hkeep.2 (zIns_spec (by decide) (rfl : zIns 197 11 = some (.lastore, 1))).1 (fun H9 locs9 gg9 kk9 _ => ?_)
      refine zPur (y := 197) (pc := 12) (pc' := 23) (i := .goto 11) (len := 3) (L := zEnt 197 [.ref x, .int a, .int b, .int u, .ref out]) (L' := zEnt 197 [.ref x, .int a, .int b, .int u, .ref out]) (st := []) (st' := []) cx gg9 kk9 hbs (Nat.le_refl _) (Nat.le_refl _) (by omega) rfl d5 rfl (by rw [Nat.zero_add]; exact Nat.le_refl _) (by rw [Nat.zero_add]; exact Nat.le_refl _) (fun Ha locsa lsa ga ka da => ?_)
      refine lv_iconst (rest := []) B.exec B.bytes (zIns_spec (by decide) (rfl : zIns 197 23 = some (.iconst 0, 1))).1 rfl ?_
      rw [Nat.zero_add, Nat.zero_add]
      exact W.iret B.exec B.bytes B.returns (fun t ht hW => ⟨rfl, by rw [ht]; exact ga, ka.F ht⟩) ka.2.2 (zIns_spec (by decide) (rfl : zIns 197 24 = some (.ireturn, 1))).1
    · exact absurd rfl (hnr q)
  · intro H8 locs8 q9 ce q hrq hq12 gg kk8 hce hcv hcl
    rcases hsp with ⟨v, rfl, -, -⟩ | ⟨q', hr', rfl, rfl⟩
    · cases hrq
    · obtain rfl : q' = q := by rw [hr'] at hrq; cases hrq; rfl
      obtain ⟨-, e4, -, ⟨e7, e8⟩, -⟩ := hE
      rcases hq12 with rfl | rfl
      · refine vy_catch (own := zOn 12) (n1 := zIO) (n2 := zNS) (E := zIO) (x1 := ⟨0, 12, 15, 13⟩) (x2 := ⟨0, 12, 19, 15⟩) (tgt := 15) hown2 htab (by decide) (by decide) (by decide) (by decide) (gw _ (by simp)) (gw _ (by simp)) hce hcv hcl (Or.inl ⟨e7.use rfl, rfl⟩) ?_
        refine lv_astore (i := 5) (nL := 6) (lv := []) (rest := []) B.exec B.bytes (zIns_spec (by decide) (rfl : zIns 197 15 = some (.astore 5, 2))).1 ⟨d5.1, d5.2.2.1, fun _ h9 => nomatch h9⟩ (by omega) rfl (fun ls' hls' => ?_)
        refine lv_iconst (rest := []) B.exec B.bytes (zIns_spec (by decide) (rfl : zIns 197 (15 + 2) = some (.iconst 1, 1))).1 rfl ?_
        rw [Nat.zero_add, Nat.zero_add]
        exact W.iret B.exec B.bytes B.returns (fun t ht hW => ⟨rfl, by rw [ht]; exact gg, kk8.F ht⟩) kk8.2.2 (zIns_spec (by decide) (rfl : zIns 197 (15 + 2 + 1) = some (.ireturn, 1))).1
      · refine vy_catch (own := zOn 12) (n1 := zIO) (n2 := zNS) (E := zNS) (x1 := ⟨0, 12, 15, 13⟩) (x2 := ⟨0, 12, 19, 15⟩) (tgt := 19) hown2 htab (by decide) (by decide) (by decide) (by decide) (gw _ (by simp)) (gw _ (by simp)) hce hcv hcl (Or.inr ⟨e4, e8.use rfl, rfl⟩) ?_
        refine lv_astore (i := 5) (nL := 6) (lv := []) (rest := []) B.exec B.bytes (zIns_spec (by decide) (rfl : zIns 197 19 = some (.astore 5, 2))).1 ⟨d5.1, d5.2.2.1, fun _ h9 => nomatch h9⟩ (by omega) rfl (fun ls' hls' => ?_)
        refine lv_iconst (rest := []) B.exec B.bytes (zIns_spec (by decide) (rfl : zIns 197 (19 + 2) = some (.iconst 2, 1))).1 rfl ?_
        rw [Nat.zero_add, Nat.zero_add]
        exact W.iret B.exec B.bytes B.returns (fun t ht hW => ⟨rfl, by rw [ht]; exact gg, kk8.F ht⟩) kk8.2.2 (zIns_spec (by decide) (rfl : zIns 197 (19 + 2 + 1) = some (.ireturn, 1))).1
end
