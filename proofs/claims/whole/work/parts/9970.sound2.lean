/-! The soundness again, with a fact E of the law's own state beside it. -/
/-- the runs of n steps at most are the machine's -/
def zSne (E : State → Prop) (base : Nat) (sd : Nat → Nat) (cA : Nat → ClassId) (D : va_G) (L0 : Nat) (xs : Nat → Int32) (l : Launch) (n : Nat) : Prop :=
  ∀ {y pc : Nat} {L : List (Option Value)} {st : List Value} {M M1 : zM} {r : Option Value}, zX n y pc L st M = some (r, M1) → y < 199 →
  ∀ {p : Program} {e : Env} {R : Room} {s : State} {m : MethodId} {args : Array Value} {below : List Frame} {meth : Method} {c : Code} {H : Heap} {locs : List Loc} {ls : Array Slot} {cells slots : Nat} {Q : State → Prop},
  (y = 198 → E s) → zCx base sd cA D L0 xs p s m args meth c y → zHp base sd cA D L0 xs M H → va_S (fun q => base ≤ q) s.heap H locs → base ≤ s.heap.size → zFr y ≤ R.frames → zLo y ≤ R.locals → zLs (zAd base sd) ls (zL y) L →
  cells + (zc M1 - zc M) ≤ R.cells → slots + (zZ M1 - zZ M) ≤ R.slots →
  (∀ (i : Instr) (st1 : List Value) (pc1 : Nat) (ls1 : Array Slot) (H1 : Heap) (locs1 : List Loc) (c1 z1 : Nat), zRet y i st1 = some r → decode (zB y) pc1 = .ok (i, 1) → zHp base sd cA D L0 xs M1 H1 → va_S (fun q => base ≤ q) s.heap H1 locs1 → c1 = cells + (zc M1 - zc M) → z1 = slots + (zZ M1 - zZ M) → W p l e R s m args below meth c H1 locs1 c1 z1 Q (F0 m pc1 ls1 (st1.map (zV (zAd base sd))))) →
  (∀ (i : Instr) (q : Nat) (st1 : List Value) (pc1 : Nat) (ls1 : Array Slot) (H1 : Heap) (locs1 : List Loc) (M2 : zM) (c1 z1 : Nat), zThw y i = some q → r = some (.retAddr q) → M1 = zThr M2 → decode (zB y) pc1 = .ok (i, 3) → ls1.size = zL y → zHp base sd cA D L0 xs M2 H1 → va_S (fun q => base ≤ q) s.heap H1 locs1 → c1 + 1 ≤ cells + (zc M1 - zc M) → z1 + 16 ≤ slots + (zZ M1 - zZ M) → W p l e R s m args below meth c H1 locs1 c1 z1 Q (F0 m pc1 ls1 (st1.map (zV (zAd base sd))))) →
  W p l e R s m args below meth c H locs cells slots Q (F0 m pc ls (st.map (zV (zAd base sd))))
def zSpE (E : State → Prop) (base : Nat) (sd : Nat → Nat) (cA : Nat → ClassId) (D : va_G) (L0 : Nat) (xs : Nat → Int32) (l : Launch) (n : Nat) : Prop :=
  ∀ {y pc z out len : Nat} {i : Instr} {L : List (Option Value)} {st as rest : List Value} {M M1 M2 : zM} {r1 : Option Value} {w : Value}, zSpc y i st M = some (z, as, out, rest) → zX n z 0 (zEnt z as) [] M = some (r1, M1) → zSpR r1 M1 out w M2 →
  ∀ {p : Program} {e : Env} {R : Room} {s : State} {m : MethodId} {args : Array Value} {below : List Frame} {meth : Method} {c : Code} {H : Heap} {locs : List Loc} {ls : Array Slot} {cells slots : Nat} {Q : State → Prop},
  E s → zCx base sd cA D L0 xs p s m args meth c y → zHp base sd cA D L0 xs M H → va_S (fun q => base ≤ q) s.heap H locs → base ≤ s.heap.size → zFr y ≤ R.frames → zLo y ≤ R.locals → zLs (zAd base sd) ls (zL y) L → decode (zB y) pc = .ok (i, len) → zOkl i len = true →
  cells + (zc M1 - zc M) ≤ R.cells → slots + (zZ M1 - zZ M) ≤ R.slots →
  (∀ (H1 : Heap) (locs1 : List Loc) (c1 z1 : Nat), zHp base sd cA D L0 xs M2 H1 → va_S (fun q => base ≤ q) s.heap H1 locs1 → c1 = cells + (zc M1 - zc M) → z1 = slots + (zZ M1 - zZ M) → W p l e R s m args below meth c H1 locs1 c1 z1 Q (F0 m (pc + 3) ls ((w :: rest).map (zV (zAd base sd))))) →
  W p l e R s m args below meth c H locs cells slots Q (F0 m pc ls (st.map (zV (zAd base sd))))
theorem zSpc_y {y : Nat} {i : Instr} {st : List Value} {M : zM} {z out : Nat} {as rest : List Value} (h : zSpc y i st M = some (z, as, out, rest)) : y = 198 := by
  unfold zSpc at h
  split at h
  · split at h
    · rename_i h9; exact h9
    · cases h
  · cases h
section ZSE
variable {E : State → Prop} {base : Nat} {sd : Nat → Nat} {cA : Nat → ClassId} {D : va_G} {L0 : Nat} {xs : Nat → Int32} {l : Launch}
theorem zMetE {n z : Nat} {as : List Value} {M M1 : zM} {r : Option Value} (IH : zSne E base sd cA D L0 xs l n) (h : zX n z 0 (zEnt z as) [] M = some (r, M1)) (hord : zOrd z = true) (hlen : (zEa as).length ≤ zL z) (hr : ∀ q, r ≠ some (.retAddr q)) :
    Met l (zY z) (zWd z) (zRm z (zc M1 - zc M) (zZ M1 - zZ M)) (zPc base sd cA D L0 xs as M) (zQc base sd cA D L0 xs r M1) (zc M1 - zc M) (zZ M1 - zZ M) (fun q => base ≤ q) := by
  have hyz := zYat (zOrd_lt hord)
  refine va_MetF (cc := zB z) (maxL := zL z) (ret := zR z) hyz.2.1 rfl ?_
  intro p e s m args below meth c s₁ B hml hv
  obtain ⟨rfl, hK, hH⟩ := hv
  have hts := atoms_spec (ws := zWd z) B.pre
  have hown : s.vm.findClass (zY z).cls = some m.cls := findClass_of_methodNamed B.named
  have hlocks := B.notSynchronized
  have hret := B.returns
  have cx : zCx base sd cA D L0 xs p s m (as.map (zV (zAd base sd))).toArray meth c z := ⟨B.exec, B.bytes, hml, by rw [← hyz.1]; exact hown, fun w hw => hts w (List.mem_cons_of_mem _ hw), fun h9 => ((name_of_methodNamed B.named B.method).1).trans h9, hK⟩
  rw [lg_entry_eq]
  refine IH h (zOrd_lt hord) (fun e9 => by subst e9; exact absurd hord (by decide)) cx hH va_S.rf (Nat.le_trans (Nat.le_add_right _ _) hH.2.1) (Nat.le_refl _) (Nat.le_refl _) (zEnt_ls hlen) (by rw [Nat.zero_add]; exact Nat.le_refl _) (by rw [Nat.zero_add]; exact Nat.le_refl _) ?_ ?_
  · intro i st1 pc1 ls1 H1 locs1 c1 z1 hrt hd hH1 hS1 hc1 hz1
    rw [Nat.zero_add] at hc1 hz1
    subst hc1; subst hz1
    unfold zRet at hrt
    split at hrt
    · split at hrt
      · rename_i v
        split at hrt
        · rename_i hR9
          cases hrt
          exact W.iret B.exec B.bytes (hret.trans hR9) (fun t ht hW => ⟨rfl, by rw [ht]; exact hH1, hS1.F ht⟩) hS1.2.2 hd
        · rename_i hR9
          split at hrt
          · rename_i hn
            cases hrt
            exact W.zret B.exec B.bytes (hret.trans hR9) (zNarB hn) (fun t ht hW => ⟨rfl, by rw [ht]; exact hH1, hS1.F ht⟩) hS1.2.2 hd
          · cases hrt
        · cases hrt
      · cases hrt
    · split at hrt
      · rename_i v
        split at hrt
        · rename_i hR9
          cases hrt
          exact W.lret B.exec B.bytes (hret.trans hR9) (fun t ht hW => ⟨rfl, by rw [ht]; exact hH1, hS1.F ht⟩) hS1.2.2 hd
        · cases hrt
      · cases hrt
    · split at hrt
      · split at hrt
        · rename_i hR9
          cases hrt
          exact W.vret B.exec B.bytes (hret.trans hR9) (fun t ht hW => ⟨rfl, by rw [ht]; exact hH1, hS1.F ht⟩) hS1.2.2 hd
        · cases hrt
      · cases hrt
    · cases hrt
  · intro i q st1 pc1 ls1 H1 locs1 M2 c1 z1 _ hrq
    exact absurd hrq (hr q)
set_option maxHeartbeats 4000000 in
/-- open in the law's own look and edge alone -/
theorem zX_soundE (hSp : ∀ n, zSne E base sd cA D L0 xs l n → zSpE E base sd cA D L0 xs l n) : ∀ n, zSne E base sd cA D L0 xs l n := by
  intro n
  induction n with
  | zero =>
    unfold zSne
    intro y pc L st M M1 r h
    cases h
  | succ n IH =>
    unfold zSne
    intro y pc L st M M1 r h hy p e R s m args below meth c H locs ls cells slots Q hE cx hH hS hbs hRf hRl hL hcells hslots hq ht
    simp only [zX] at h
    split at h
    · cases h
    · rename_i i len hins
      obtain ⟨hd, hol⟩ := zIns_spec hy hins
      split at h
      · rename_i r9 hrt
        cases h
        have h1 : 1 = len := by
          unfold zRet at hrt
          split at hrt
          · simp only [zOkl, zLen, Bool.or_eq_true, beq_iff_eq] at hol; omega
          · simp only [zOkl, zLen, Bool.or_eq_true, beq_iff_eq] at hol; omega
          · simp only [zOkl, zLen, Bool.or_eq_true, beq_iff_eq] at hol; omega
          · cases hrt
        subst h1
        exact hq i st pc ls H locs cells slots hrt hd hH hS (by omega) (by omega)
      · split at h
        · rename_i q hth
          have h9 := Option.some.inj h
          have h1 : r = some (.retAddr q) := (Prod.mk.inj h9).1.symm
          have h2 : M1 = zThr M := (Prod.mk.inj h9).2.symm
          have h3 : 3 = len := by
            unfold zThw at hth
            split at hth
            · simp only [zOkl, zLen, Bool.or_eq_true, beq_iff_eq] at hol; omega
            · cases hth
          subst h3
          have e1 : zc M1 = zc M + 1 := by rw [h2]; rfl
          have e2 : zZ M1 = zZ M + 16 := by rw [h2]; rfl
          exact ht i q st pc ls H locs M cells slots hth h1 h2 hd hL.1 hH hS (by omega) (by omega)
        · split at h
          · rename_i z as rest hinv
            obtain ⟨hord, hlen⟩ := zInv_ord hinv
            have go : ∀ {r1 : Option Value} {M2 : zM}, zX n z 0 (zEnt z as) [] M = some (r1, M2) → (∀ q, r1 ≠ some (.retAddr q)) → zX n y (pc + zIl i) L (r1.toList ++ rest) M2 = some (r, M1) → W p l e R s m args below meth c H locs cells slots Q (F0 m pc ls (st.map (zV (zAd base sd)))) := by
              intro r1 M2 h1 hn1 h2
              have m1 := zX_mono n h1
              have m2 := zX_mono n h2
              have hM := zMetE IH h1 hord hlen hn1
              have a1 : zc M ≤ zc M2 := by unfold zc; omega
              have a2 : zc M2 ≤ zc M1 := by unfold zc; omega
              refine zCall_sound cx hH hS hRf hRl hd hol hL hinv (by omega) (by omega) hM (fun H1 locs1 g1 g2 => ?_)
              refine IH h2 hy hE cx g1 g2 hbs hRf hRl hL (by omega) (by omega) ?_ ?_
              · intro i st1 pc1 ls1 H2 locs2 c1 z1 b1 b2 b3 b4 b5 b6
                exact hq i st1 pc1 ls1 H2 locs2 c1 z1 b1 b2 b3 b4 (by omega) (by omega)
              · intro i q st1 pc1 ls1 H2 locs2 M3 c1 z1 b1 b2 b3 b4 b5 b6 b7 b8 b9
                exact ht i q st1 pc1 ls1 H2 locs2 M3 c1 z1 b1 b2 b3 b4 b5 b6 b7 (by omega) (by omega)
            split at h
            · rename_i M2 h1
              exact go h1 (fun q => by simp) h
            · rename_i v M2 h1
              exact go h1 (fun q => by simp) h
            · rename_i v M2 h1
              exact go h1 (fun q => by simp) h
            · cases h
          · split at h
            · rename_i z as out rest hspc
              split at h
              · rename_i v M2 h1
                have m1 := zX_mono n h1
                have m2' := zX_mono n h
                have m2 : zN M2 ≤ zN M1 ∧ zZ M2 ≤ zZ M1 ∧ zG M2 ≤ zG M1 := m2'
                have a1 : zc M ≤ zc M2 := by unfold zc; omega
                have a2 : zc M2 ≤ zc M1 := by unfold zc; omega
                have e1 : zc (zWJ M2 out 0 v.toInt64) = zc M2 := rfl
                have e2 : zZ (zWJ M2 out 0 v.toInt64) = zZ M2 := rfl
                refine hSp n IH hspc h1 (Or.inl ⟨v, rfl, rfl, rfl⟩) (hE (zSpc_y hspc)) cx hH hS hbs hRf hRl hL hd hol (by omega) (by omega) (fun H1 locs1 c1 z1 g1 g2 k1 k2 => ?_)
                refine IH h hy hE cx g1 g2 hbs hRf hRl hL (by omega) (by omega) ?_ ?_
                · intro i st1 pc1 ls1 H2 locs2 c2 z2 b1 b2 b3 b4 b5 b6
                  exact hq i st1 pc1 ls1 H2 locs2 c2 z2 b1 b2 b3 b4 (by omega) (by omega)
                · intro i q st1 pc1 ls1 H2 locs2 M3 c2 z2 b1 b2 b3 b4 b5 b6 b7 b8 b9
                  exact ht i q st1 pc1 ls1 H2 locs2 M3 c2 z2 b1 b2 b3 b4 b5 b6 b7 (by omega) (by omega)
              · rename_i q0 M2 h1
                have m1 := zX_mono n h1
                have m2 := zX_mono n h
                have a1 : zc M ≤ zc M2 := by unfold zc; omega
                have a2 : zc M2 ≤ zc M1 := by unfold zc; omega
                refine hSp n IH hspc h1 (Or.inr ⟨q0, rfl, rfl, rfl⟩) (hE (zSpc_y hspc)) cx hH hS hbs hRf hRl hL hd hol (by omega) (by omega) (fun H1 locs1 c1 z1 g1 g2 k1 k2 => ?_)
                refine IH h hy hE cx g1 g2 hbs hRf hRl hL (by omega) (by omega) ?_ ?_
                · intro i st1 pc1 ls1 H2 locs2 c2 z2 b1 b2 b3 b4 b5 b6
                  exact hq i st1 pc1 ls1 H2 locs2 c2 z2 b1 b2 b3 b4 (by omega) (by omega)
                · intro i q st1 pc1 ls1 H2 locs2 M3 c2 z2 b1 b2 b3 b4 b5 b6 b7 b8 b9
                  exact ht i q st1 pc1 ls1 H2 locs2 M3 c2 z2 b1 b2 b3 b4 b5 b6 b7 (by omega) (by omega)
              · cases h
            · split at h
              · cases h
              · rename_i pc' L' st' M' hst
                obtain ⟨s1, s2, s3⟩ := zStep_mono hst
                have m2 := zX_mono n h
                have a1 : zc M' = zc M + (zN M' - zN M) := by unfold zc; omega
                have a2 : zc M' ≤ zc M1 := by unfold zc; omega
                refine zStep_sound cx hH hS hbs hRf hRl hd hol hL hst (by omega) (by omega) (fun H1 locs1 ls1 c1 z1 k1 k2 g1 g2 g3 => ?_)
                refine IH h hy hE cx g1 g2 hbs hRf hRl g3 (by omega) (by omega) ?_ ?_
                · intro i st1 pc1 ls1 H2 locs2 c2 z2 b1 b2 b3 b4 b5 b6
                  exact hq i st1 pc1 ls1 H2 locs2 c2 z2 b1 b2 b3 b4 (by omega) (by omega)
                · intro i q st1 pc1 ls1 H2 locs2 M3 c2 z2 b1 b2 b3 b4 b5 b6 b7 b8 b9
                  exact ht i q st1 pc1 ls1 H2 locs2 M3 c2 z2 b1 b2 b3 b4 b5 b6 b7 (by omega) (by omega)
end ZSE
set_option maxRecDepth 20000 in
/-- the law's walk, out of the model's run; open in the law's look and edge -/
theorem whole_startE (hp : zPure) {p : Program} {e : Env} {s : State} {m : MethodId} {below : List Frame} {meth : Method} {c : Code} (l : Launch) (Ef : Nat → State → Prop) (hEf : Ef s.heap.size s) (hSp : ∀ (base : Nat) (sd : Nat → Nat) (cA : Nat → ClassId) (D : va_G) (L0 : Nat) (xs : Nat → Int32) (n : Nat), zSne (Ef base) base sd cA D L0 xs l n → zSpE (Ef base) base sd cA D L0 xs l n) {b L : Nat} {xs : Nat → Int32} (hL : L ≤ 3072) (C0 : lw_At p s m meth c b L xs) : W p l e room_1 s m #[Value.ref b] below meth c s.heap [] 0 0 (lw_Z below #[Value.ref b] s) (entryFrame m ([Value.ref b] : List Value).toArray 7) := by
  obtain ⟨hx, hb, hr, hml, hown, hts, hX, hbl, hlocks, hgv⟩ := id C0
  obtain ⟨sd, cA, D, hK, h8⟩ := zK_start hts hX hbl hL hgv
  obtain ⟨n, M1, hrun, h1, h2⟩ := hp L xs hL
  have cx : zCx s.heap.size sd cA D L xs p s m #[Value.ref b] meth c 198 := ⟨hx, hb, hml, hown, fun w hw => hts w (List.mem_filter.mp hw).1, fun h => absurd h (by decide), hK⟩
  have hH : zHp s.heap.size sd cA D L xs (zM0 L xs) s.heap := ⟨fun k q h => absurd (zWs_inv h).1 (Nat.not_lt_zero k), Nat.le_refl _, fun _ => rfl, by show 0 < 1000000; omega, fun a _ => ⟨rfl, rfl, rfl⟩⟩
  have hv : ([Value.ref 1000008].map (zV (zAd s.heap.size sd)) : List Value) = [Value.ref b] := by
    simp only [List.map_cons, List.map_nil, zV]
    have : zAd s.heap.size sd 1000008 = sd 8 := zAd_ge 8
    rw [this, h8]
  have eg := lg_entry_eq m ([Value.ref 1000008].map (zV (zAd s.heap.size sd))) 7
  rw [hv] at eg
  have hLs := zEnt_ls (ad := zAd s.heap.size sd) (z := 198) (as := [Value.ref 1000008]) (by decide)
  rw [hv] at hLs
  refine W.eq eg ?_
  refine zX_soundE (hSp s.heap.size sd cA D L xs) n hrun (by decide) (fun _ => hEf) cx hH va_S.rf (Nat.le_refl _) (by decide) (by decide) hLs ?_ ?_ ?_ ?_
  · show 0 + (zc M1 - 0) ≤ 601024
    omega
  · show 0 + (zZ M1 - 0) ≤ 7293034
    omega
  · intro i st1 pc1 ls1 H1 locs1 c1 z1 hrt hd hH1 hS1 hc1 hz1
    have hc9 : c1 ≤ 601024 := by
      have : zc (zM0 L xs) = 0 := rfl
      omega
    have hz9 : z1 ≤ 7293034 := by
      have : zZ (zM0 L xs) = 0 := rfl
      omega
    unfold zRet at hrt
    split at hrt
    · split at hrt
      · rename_i v
        split at hrt
        · rename_i hR9
          exact absurd hR9 (by decide)
        · split at hrt
          · cases hrt
            refine va_forget (fun q hq => hS1.2.2 q hq) ?_
            exact W.widen hc9 hz9 (lw_ret hx hb hr hlocks hd)
          · cases hrt
        · cases hrt
      · cases hrt
    · split at hrt
      · split at hrt
        · cases hrt
        · cases hrt
      · cases hrt
    · split at hrt
      · split at hrt
        · cases hrt
        · cases hrt
      · cases hrt
    · cases hrt
  · intro i q st1 pc1 ls1 H1 locs1 M2 c1 z1 hth
    unfold zThw at hth
    split at hth
    · simp at hth
    · cases hth
