def R_law : String := "SherdTableLaw"
def lw_P (b : Addr) (xs : List Int32) (args : Array Value) (s : State) : Prop := args = #[.ref b] ∧ s.IntsAt b xs ∧ xs.length ≤ 3072 ∧ (Jvm.Cond.and given_1 narrow_1).before args s = true
def lw_Q (_ : Array Value) (s : State) (o : Outcome) (t : State) : Prop := o = .returned (some (.int 1)) ∧ Framed s o t [] 601024 7293034
def lw_Z (below : List Frame) (a : Array Value) (s : State) : State → Prop := fun t => ∃ o, t.status = .running ∧ Ended t below o ∧ lw_Q a s o t
/-- the law's own end, with 1 on the stack, nothing written that was there before, its room as the claim has it -/
theorem lw_ret {p : Program} {l : Launch} {e : Env} {s : State} {m : MethodId} {below : List Frame} {meth : Method} {c : Code} {b : Nat} (hx : p.tables.exec = Jvm.exec) (hb : c.code = code) (hr : meth.sig.returnType = ret) (hlocks : meth.locks = false) {pc : Nat} {H : Heap} {ls : Array Slot} (hdg : decode code pc = .ok (.ireturn, 1)) : W p l e room_1 s m #[Value.ref b] below meth c H [] 601024 7293034 (lw_Z below #[Value.ref b] s) (F0 m pc ls [.int 1]) := by
  intro T hT X
  obtain ⟨fs, hret, hrun, hended, hW, hframe⟩ := X.leave (v := some (.int 1)) (hlocks := hlocks) (fun h => by rw [hr] at h; cases h)
  have hmeth' : T.vm.method? m = some meth := X.method'
  refine ⟨T.setFrames fs, ?_, .returned (some (.int 1)), hrun, hended, rfl, ⟨_, rfl⟩, hW, hframe⟩
  jvm_step X.here [X.here.top, hx, hb, hdg, hmeth', hr, ret, narrow_b1]
  (try refine ⟨rfl, ?_⟩); (try refine ⟨rfl, ?_⟩)
  first | (intro acts; rw [hret _ acts rfl rfl rfl]) | rw [hret _ _ rfl rfl rfl]
  exact Steps.refl _
/-- what holds at the law's entry: the machine, the code, the tables' words (any of lw_tbl by 'hts w (by decide +kernel)'), the script of L ints xs at the cell b, what the Statement gives of the start (any of its parts by flat_of_before) -/
def lw_At (p : Program) (s : State) (m : MethodId) (meth : Method) (c : Code) (b L : Nat) (xs : Nat → Int32) : Prop :=
  p.tables.exec = Jvm.exec ∧ c.code = code ∧ meth.sig.returnType = ret ∧ c.maxLocals = 7 ∧ s.vm.findClass R_law = some m.cls ∧ (∀ w ∈ lw_tbl, w.before #[Value.ref b] s = true) ∧ va_X b L xs s s.heap ∧ b < s.heap.size ∧ meth.locks = false ∧ (Jvm.Cond.and given_1 narrow_1).before #[Value.ref b] s = true
def zM0 (L : Nat) (xs : Nat → Int32) : zM := (0, (0, 0), zgS L, zgI xs, fun _ _ => 0, zgP)
/-- what is left to prove, of the model alone -/
def zPure : Prop := ∀ (L : Nat) (xs : Nat → Int32), L ≤ 3072 → ∃ (n : Nat) (M1 : zM), zX n 198 0 (zEnt 198 [.ref 1000008]) [] (zM0 L xs) = some (some (.int 1), M1) ∧ zc M1 ≤ 601024 ∧ zZ M1 ≤ 7293034
set_option maxRecDepth 20000 in
/-- the law's walk, out of the model's run; open in the law's look and edge -/
theorem whole_start_open (hp : zPure) {p : Program} {e : Env} {s : State} {m : MethodId} {below : List Frame} {meth : Method} {c : Code} (l : Launch) (hSp : ∀ (base : Nat) (sd : Nat → Nat) (cA : Nat → ClassId) (D : va_G) (L0 : Nat) (xs : Nat → Int32) (n : Nat), zSnd base sd cA D L0 xs l n → zSpOK base sd cA D L0 xs l n) {b L : Nat} {xs : Nat → Int32} (hL : L ≤ 3072) (C0 : lw_At p s m meth c b L xs) : W p l e room_1 s m #[Value.ref b] below meth c s.heap [] 0 0 (lw_Z below #[Value.ref b] s) (entryFrame m ([Value.ref b] : List Value).toArray 7) := by
  obtain ⟨hx, hb, hr, hml, hown, hts, hX, hbl, hlocks, hgv⟩ := id C0
  obtain ⟨sd, cA, D, hK, h8⟩ := zK_start hts hX hbl hL hgv
  obtain ⟨n, M1, hrun, h1, h2⟩ := hp L xs hL
  have cx : zCx s.heap.size sd cA D L xs p s m #[Value.ref b] meth c 198 := ⟨hx, hb, hml, hown, fun w hw => hts w (List.mem_filter.mp hw).1, fun h => absurd h (by decide), hK⟩
  have hH : zHp s.heap.size sd cA D L xs (zM0 L xs) s.heap := ⟨fun k q h => absurd (zWs_inv h).1 (Nat.not_lt_zero k), Nat.le_refl _, fun _ => rfl, by show 0 < 1000000; omega, fun a _ => ⟨rfl, rfl, rfl⟩⟩
  have hv : ([Value.ref 1000008].map (zV (zAd s.heap.size sd)) : List Value) = [Value.ref b] := by
    simp only [List.map_cons, List.map_nil, zV]
    have : zAd s.heap.size sd 1000008 = sd 8 := zAd_ge 8
    rw [this, h8]
  have eg := lg_entry_eq m ([Value.ref 1000008].map (zV (zAd s.heap.size sd))) 7
  rw [hv] at eg
  have hLs := zEnt_ls (ad := zAd s.heap.size sd) (z := 198) (as := [Value.ref 1000008]) (by decide)
  rw [hv] at hLs
  refine W.eq eg ?_
  refine zX_sound_open (hSp s.heap.size sd cA D L xs) n hrun (by decide) cx hH va_S.rf (Nat.le_refl _) (by decide) (by decide) hLs ?_ ?_ ?_ ?_
  · show 0 + (zc M1 - 0) ≤ 601024
    omega
  · show 0 + (zZ M1 - 0) ≤ 7293034
    omega
  · intro i st1 pc1 ls1 H1 locs1 c1 z1 hrt hd hH1 hS1 hc1 hz1
    have hc9 : c1 ≤ 601024 := by
      have : zc (zM0 L xs) = 0 := rfl
      omega
    have hz9 : z1 ≤ 7293034 := by
      have : zZ (zM0 L xs) = 0 := rfl
      omega
    unfold zRet at hrt
    split at hrt
    · split at hrt
      · rename_i v
        split at hrt
        · rename_i hR9
          exact absurd hR9 (by decide)
        · split at hrt
          · cases hrt
            refine va_forget (fun q hq => hS1.2.2 q hq) ?_
            exact W.widen hc9 hz9 (lw_ret hx hb hr hlocks hd)
          · cases hrt
        · cases hrt
      · cases hrt
    · split at hrt
      · split at hrt
        · cases hrt
        · cases hrt
      · cases hrt
    · split at hrt
      · split at hrt
        · cases hrt
        · cases hrt
      · cases hrt
    · cases hrt
  · intro i q st1 pc1 ls1 H1 locs1 M2 c1 z1 hth
    unfold zThw at hth
    split at hth
    · simp at hth
    · cases hth
