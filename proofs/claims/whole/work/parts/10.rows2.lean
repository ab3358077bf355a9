section ZR2
variable {base : Nat} {sd : Nat → Nat} {cA : Nat → ClassId} {D : va_G} {L0 : Nat} {xs : Nat → Int32}
variable {p : Program} {l : Launch} {e : Env} {R : Room} {s : State} {m : MethodId} {args : Array Value} {below : List Frame} {meth : Method} {c : Code} {H : Heap} {locs : List Loc} {cells slots : Nat} {Q : State → Prop} {y pc : Nat} {ls : Array Slot} {rest : List Value} {M M' : zM}
theorem zr_iald (cx : zCx base sd cA D L0 xs p s m args meth c y) (hH : zHp base sd cA D L0 xs M H) {a n : Nat} {i : Int32} (hs : zS M a = (1, n)) (ha : a < zN M) (hin : zin i n = true) (hdg : decode (zB y) pc = .ok (.iaload, 1))
    (kk : W p l e R s m args below meth c H locs cells slots Q (F0 m (pc + 1) ls (.int (zI M a i.toNatClampNeg) :: rest))) : W p l e R s m args below meth c H locs cells slots Q (F0 m pc ls (.int i :: .ref (base + a) :: rest)) := by
  obtain ⟨hx, hb, -, hown, hts, -, hK⟩ := cx
  exact va_iald hx hb hK.1 hH.1 a 0 (by rw [zWs_get ha, zE_int hs]) rfl (zin_in hin) hdg kk
theorem zr_zald (cx : zCx base sd cA D L0 xs p s m args meth c y) (hH : zHp base sd cA D L0 xs M H) {a n : Nat} {i : Int32} (hs : zS M a = (2, n)) (ha : a < zN M) (hin : zin i n = true) (hdg : decode (zB y) pc = .ok (.baload, 1))
    (kk : W p l e R s m args below meth c H locs cells slots Q (F0 m (pc + 1) ls (.int (zI M a i.toNatClampNeg) :: rest))) : W p l e R s m args below meth c H locs cells slots Q (F0 m pc ls (.int i :: .ref (base + a) :: rest)) := by
  obtain ⟨hx, hb, -, hown, hts, -, hK⟩ := cx
  exact va_zald hx hb hK.1 hH.1 a 1 (by rw [zWs_get ha, zE_bool hs]) rfl (zin_in hin) hdg kk
theorem zr_lald (cx : zCx base sd cA D L0 xs p s m args meth c y) (hH : zHp base sd cA D L0 xs M H) {a n : Nat} {i : Int32} (hs : zS M a = (3, n)) (ha : a < zN M) (hin : zin i n = true) (hdg : decode (zB y) pc = .ok (.laload, 1))
    (kk : W p l e R s m args below meth c H locs cells slots Q (F0 m (pc + 1) ls (.long (zJ M a i.toNatClampNeg) :: rest))) : W p l e R s m args below meth c H locs cells slots Q (F0 m pc ls (.int i :: .ref (base + a) :: rest)) := by
  obtain ⟨hx, hb, -, hown, hts, -, hK⟩ := cx
  exact va_lald hx hb hK.1 hH.1 a 2 (by rw [zWs_get ha, zE_long hs]) rfl (zin_in hin) hdg kk
theorem zr_aald (cx : zCx base sd cA D L0 xs p s m args meth c y) (hH : zHp base sd cA D L0 xs M H) {a t n v : Nat} {i : Int32} (hs : zS M a = (t + 4, n)) (ht : t < 4) (ha : a < zN M) (hin : zin i n = true) (hv : zP M a i.toNatClampNeg = some v) (hdg : decode (zB y) pc = .ok (.aaload, 1))
    (kk : W p l e R s m args below meth c H locs cells slots Q (F0 m (pc + 1) ls (.ref (zAd base sd v) :: rest))) : W p l e R s m args below meth c H locs cells slots Q (F0 m pc ls (.int i :: .ref (base + a) :: rest)) := by
  obtain ⟨hx, hb, -, hown, hts, -, hK⟩ := cx
  refine va_aldq hx hb hK.1 hH.1 a (t + 3) (by rw [zWs_get ha, zE_ref hs]) (zTysAt (by omega) (by omega)) (zin_in hin) hdg ?_
  simp only [hv, Option.map_some, va_rf]
  exact kk
theorem zr_alen (cx : zCx base sd cA D L0 xs p s m args meth c y) (hH : zHp base sd cA D L0 xs M H) {a t n : Nat} (hs : zS M a = (t + 1, n)) (ht : t < 7) (ha : a < zN M) (hdg : decode (zB y) pc = .ok (.arraylength, 1))
    (kk : W p l e R s m args below meth c H locs cells slots Q (F0 m (pc + 1) ls (.int (Int32.ofNat n) :: rest))) : W p l e R s m args below meth c H locs cells slots Q (F0 m pc ls (.ref (base + a) :: rest)) := by
  obtain ⟨hx, hb, -, hown, hts, -, hK⟩ := cx
  match t, hs, ht with
  | 0, hs, _ => exact va_alen hx hb hK.1 hH.1 a 0 (x := (n, .inl (zI M a))) (by rw [zWs_get ha, zE_int hs]) (ty := .int) rfl rfl hdg kk
  | 1, hs, _ => exact va_alen hx hb hK.1 hH.1 a 1 (x := (n, .inl (zI M a))) (by rw [zWs_get ha, zE_bool hs]) (ty := .boolean) rfl rfl hdg kk
  | 2, hs, _ => exact va_alen hx hb hK.1 hH.1 a 2 (x := (n, .inr (.inl (zJ M a)))) (by rw [zWs_get ha, zE_long hs]) (ty := .long) rfl rfl hdg kk
  | t + 3, hs, ht => exact va_alen hx hb hK.1 hH.1 a (t + 3) (x := (n, .inr (.inr (.inr (.inr (fun j => (zP M a j).map (zAd base sd))))))) (by rw [zWs_get ha, zE_ref hs]) (zTysAt (by omega) ht) rfl hdg kk
/-- what lies before -/
theorem zr_xald (cx : zCx base sd cA D L0 xs p s m args meth c y) (hH : zHp base sd cA D L0 xs M H) (hS : va_S (fun q => base ≤ q) s.heap H locs) {i : Int32} (hin : zin i 24 = true) (hdg : decode (zB y) pc = .ok (.iaload, 1))
    (kk : W p l e R s m args below meth c H locs cells slots Q (F0 m (pc + 1) ls (.int (zI M 1000006 i.toNatClampNeg) :: rest))) : W p l e R s m args below meth c H locs cells slots Q (F0 m pc ls (.int i :: .ref (sd 6) :: rest)) := by
  obtain ⟨hx, hb, -, hown, hts, -, hK⟩ := cx
  obtain ⟨-, -, -, -, -, -, -, -, h9, -⟩ := hK
  refine va_ti hx hb h9 hS (zin_in hin) (v := .int (zI M 1000006 i.toNatClampNeg)) ?_ hdg kk
  rw [(hH.2.2.2.2 1000006 (by omega)).2.1]
  rfl
theorem zr_sald (cx : zCx base sd cA D L0 xs p s m args meth c y) (hH : zHp base sd cA D L0 xs M H) (hS : va_S (fun q => base ≤ q) s.heap H locs) {i : Int32} (hin : zin i L0 = true) (hdg : decode (zB y) pc = .ok (.iaload, 1))
    (kk : W p l e R s m args below meth c H locs cells slots Q (F0 m (pc + 1) ls (.int (zI M 1000008 i.toNatClampNeg) :: rest))) : W p l e R s m args below meth c H locs cells slots Q (F0 m pc ls (.int i :: .ref (sd 8) :: rest)) := by
  obtain ⟨hx, hb, -, hown, hts, -, hK⟩ := cx
  obtain ⟨-, -, -, -, -, -, -, -, -, -, ⟨h11, h12, h13, h14⟩, -⟩ := hK
  refine va_sld hx hb h11 h13 (Nat.not_le.mpr h12) hS (zin_in hin) hdg ?_
  have e : zI M 1000008 i.toNatClampNeg = xs i.toNatClampNeg := by rw [(hH.2.2.2.2 1000008 (by omega)).2.1]; rfl
  rw [← e]
  exact kk
theorem zr_slen (cx : zCx base sd cA D L0 xs p s m args meth c y) (hS : va_S (fun q => base ≤ q) s.heap H locs) (hdg : decode (zB y) pc = .ok (.arraylength, 1))
    (kk : W p l e R s m args below meth c H locs cells slots Q (F0 m (pc + 1) ls (.int (Int32.ofNat L0) :: rest))) : W p l e R s m args below meth c H locs cells slots Q (F0 m pc ls (.ref (sd 8) :: rest)) := by
  obtain ⟨hx, hb, -, hown, hts, -, hK⟩ := cx
  obtain ⟨-, -, -, -, -, -, -, -, -, -, ⟨h11, h12, h13, h14⟩, -⟩ := hK
  exact va_slen hx hb h11 h13 (Nat.not_le.mpr h12) hS hdg kk
theorem zr_klen (cx : zCx base sd cA D L0 xs p s m args meth c y) (hS : va_S (fun q => base ≤ q) s.heap H locs) (hdg : decode (zB y) pc = .ok (.arraylength, 1))
    (kk : W p l e R s m args below meth c H locs cells slots Q (F0 m (pc + 1) ls (.int 6 :: rest))) : W p l e R s m args below meth c H locs cells slots Q (F0 m pc ls (.ref (sd 7) :: rest)) := by
  obtain ⟨hx, hb, -, hown, hts, -, hK⟩ := cx
  obtain ⟨-, -, -, -, -, -, -, -, -, h10, -⟩ := hK
  exact va_tlen hx hb h10 hS rfl hdg kk
theorem zr_kald (cx : zCx base sd cA D L0 xs p s m args meth c y) (hS : va_S (fun q => base ≤ q) s.heap H locs) {i : Int32} (hin : zin i 6 = true) (hdg : decode (zB y) pc = .ok (.aaload, 1))
    (kk : W p l e R s m args below meth c H locs cells slots Q (F0 m (pc + 1) ls (.ref (sd i.toNatClampNeg) :: rest))) : W p l e R s m args below meth c H locs cells slots Q (F0 m pc ls (.int i :: .ref (sd 7) :: rest)) := by
  obtain ⟨hx, hb, -, hown, hts, -, hK⟩ := cx
  obtain ⟨-, -, -, -, -, -, -, -, -, h10, -⟩ := hK
  have hin := zin_in hin
  obtain ⟨cell, h1, h2, h3, h4, h5, h6, h7⟩ := h10
  have hlt : i.toNatClampNeg < 6 := Nat.not_le.mp fun q => hin (Or.inr q)
  have hin' : ¬ (i < 0 ∨ cell.slots.size ≤ i.toNatClampNeg) := by
    intro q
    rcases q with q | q
    · exact hin (Or.inl q)
    · omega
  exact W.aald (v := .ref (sd i.toNatClampNeg)) hx hb (by rw [hS.2.1 _ (Array.getElem?_eq_some_iff.mp h1).1 h7]; exact h1) h2 rfl h3 hin' (h6 _ hlt) rfl rfl hdg kk
theorem zKTs_lt {o : Nat} {e : Nat × Nat × Nat} (h : e ∈ zKTs.getD o []) : o < 15 := by
  by_cases ho : o < 15
  · exact ho
  · have : zKTs.getD o [] = [] := by
      rw [List.getD_eq_getElem?_getD, List.getElem?_eq_none (by show zKTs.length ≤ o; exact Nat.not_lt.mp ho)]; rfl
    rw [this] at h
    exact absurd h List.not_mem_nil
theorem zr_kget (cx : zCx base sd cA D L0 xs p s m args meth c y) (hH : zHp base sd cA D L0 xs M H) (hS : va_S (fun q => base ≤ q) s.heap H locs) {k a : Nat} {q : Nat × Nat × Nat} (ha : a < 6) (hf : zKfd (zO y) k = some q) (hd : decode (zB y) pc = .ok (.getfield k, 3))
    (kk : W p l e R s m args below meth c H locs cells slots Q (F0 m (pc + 3) ls (.int (zI M (1000000 + a) q.2.1) :: rest))) : W p l e R s m args below meth c H locs cells slots Q (F0 m pc ls (.ref (sd a) :: rest)) := by
  obtain ⟨hx, hb, -, hown, hts, -, hK⟩ := cx
  obtain ⟨-, -, -, -, -, -, -, h8, -⟩ := hK
  unfold zKfd at hf
  have hm := List.mem_of_find?_eq_some hf
  have hp := List.find?_some hf
  simp only [beq_iff_eq] at hp
  have hok := List.all_eq_true.mp (zAll15 zK_ok (zKTs_lt hm)) q hm
  simp only [zKok, Bool.and_eq_true, decide_eq_true_eq] at hok
  obtain ⟨h1, h2⟩ := hok
  rw [hp] at h2
  obtain ⟨cf, kf, fi, f, cell, g1, g2, g3, g4, g5, g6⟩ := ((h8 a ha).2 _ h1).kept hS.2.1
  refine W.getf hx hb hown (hts _ (zAt_mem h2)) g1 g2 g3 g4 (v := .int (zI M (1000000 + a) q.2.1)) ?_ rfl rfl hd kk
  rw [g5, (hH.2.2.2.2 (1000000 + a) (by omega)).2.1]
  unfold zgI
  rw [if_pos (by omega), Nat.add_sub_cancel_left]
theorem zSTs_lt {o : Nat} {e : Nat × Nat × Nat} (h : e ∈ zSTs.getD o []) : o < 15 := by
  by_cases ho : o < 15
  · exact ho
  · have : zSTs.getD o [] = [] := by
      rw [List.getD_eq_getElem?_getD, List.getElem?_eq_none (by show zSTs.length ≤ o; exact Nat.not_lt.mp ho)]; rfl
    rw [this] at h
    exact absurd h List.not_mem_nil
theorem zr_gets (cx : zCx base sd cA D L0 xs p s m args meth c y) (hS : va_S (fun q => base ≤ q) s.heap H locs) {k : Nat} {q : Nat × Nat × Nat} (hf : zSti (zO y) k = some q) (hd : decode (zB y) pc = .ok (.getstatic k, 3))
    (kk : q.2.1 < 8 → W p l e R s m args below meth c H locs cells slots Q (F0 m (pc + 3) ls (.ref (sd q.2.1) :: rest))) : W p l e R s m args below meth c H locs cells slots Q (F0 m pc ls rest) := by
  obtain ⟨hx, hb, -, hown, hts, -, hK⟩ := cx
  obtain ⟨-, -, -, h4, -, -, h7, -⟩ := hK
  unfold zSti at hf
  have hm := List.mem_of_find?_eq_some hf
  have hp := List.find?_some hf
  simp only [beq_iff_eq] at hp
  have hok := List.all_eq_true.mp (zAll15 zSt_ok (zSTs_lt hm)) q hm
  simp only [zStok, Bool.and_eq_true, decide_eq_true_eq, Bool.or_eq_true, ne_eq] at hok
  obtain ⟨⟨h1, h2⟩, h3⟩ := hok
  by_cases h6 : q.2.1 = 6
  · have ho : zO y = 6 := h3.elim (fun z => absurd h6 z) (fun z => z.1)
    have hk : q.1 = 78 := h3.elim (fun z => absurd h6 z) (fun z => z.2)
    have hk' : k = 78 := hp.symm.trans hk
    subst hk'
    rw [ho] at hown
    have hz := h7 6 (by omega)
    have e : W p l e R s m args below meth c H locs cells slots Q (F0 m (pc + 3) ls (.ref (sd 6) :: rest)) := by
      have := kk h1
      rw [h6] at this
      exact this
    exact va_getsN hx hb hz hS hown (va_Nw.use rfl h4) (fun _ h => h) hd e
  · rcases h2 with h2 | h2
    · exact absurd h2 h6
    · rw [hp] at h2
      exact va_gets hx hb (h7 _ h1) hS hown (hts _ (zAt_mem h2)) (fun _ h => h) hd (kk h1)
theorem zNTs_lt {o : Nat} {e : Nat × Nat × Nat × Nat × Nat} (h : e ∈ zNTs.getD o []) : o < 15 := by
  by_cases ho : o < 15
  · exact ho
  · have : zNTs.getD o [] = [] := by
      rw [List.getD_eq_getElem?_getD, List.getElem?_eq_none (by show zNTs.length ≤ o; exact Nat.not_lt.mp ho)]; rfl
    rw [this] at h
    exact absurd h List.not_mem_nil
/-- what a new cell leaves -/
theorem zr_born {e1 : va_E} {sh : Nat × Nat} {n : Nat} (hH : zHp base sd cA D L0 xs M H) (hS : va_S (fun q => base ≤ q) s.heap H locs) (hb : base ≤ s.heap.size) (hN : zN M < 999999) (hG : zG M = 0) (he : zE (zAd base sd) cA (zNew M sh n) (zN M) = e1) {H1 : Heap} (hat : va_at D zCl (base + zN M, e1) H1) (z : H1.size = H.size + 1) (oq : ∀ q, q < H.size → H1[q]? = H[q]?) :
    zHp base sd cA D L0 xs (zNew M sh n) H1 ∧ va_S (fun q => base ≤ q) s.heap H1 locs := by
  have hz := hH.2.2.1 hG
  have hP : va_P D zCl (zWs base (zAd base sd) cA M ++ [(base + zN M, e1)]) H1 := by
    refine va_P.app (hH.1.kept fun k x hx => oq x.1 ((hH.1 k x hx).lt)) (fun k x hx => ?_)
    have hz : k < 1 := (List.getElem?_eq_some_iff.mp hx).1
    rw [show k = 0 by omega] at hx
    cases hx
    exact hat
  rw [zWs_push (M' := zNew M sh n) rfl (fun j hj => zE_New hj) he] at hP
  exact ⟨⟨hP, by rw [z]; show base + (zN M + 1) ≤ _; omega, fun _ => by rw [z]; show _ = base + (zN M + 1); omega, by show zN M + 1 < 1000000; omega, zSta_New hH.2.2.2.2 hH.2.2.2.1⟩, ⟨Nat.le_trans hS.1 (by omega), fun q h1 h2 => (oq q (Nat.lt_of_lt_of_le h1 hS.1)).trans (hS.2.1 q h1 h2), hS.2.2⟩⟩
theorem zNew_S (sh : Nat × Nat) (n : Nat) : zS (zNew M sh n) (zN M) = sh := by show (if zN M = M.1 then sh else _) = sh; rw [if_pos (show zN M = M.1 from rfl)]
theorem zr_new (cx : zCx base sd cA D L0 xs p s m args meth c y) (hH : zHp base sd cA D L0 xs M H) (hS : va_S (fun q => base ≤ q) s.heap H locs) (hbs : base ≤ s.heap.size) {k : Nat} {q : Nat × Nat × Nat × Nat × Nat} (hf : zNwi (zO y) k = some q) (hN : zN M < 999999) (hG : zG M = 0) (hcells : cells + 1 ≤ R.cells) (hslots : slots + zNf q.2.1 ≤ R.slots) (hd : decode (zB y) pc = .ok (.new k, 3))
    (kk : ∀ H1 : Heap, zHp base sd cA D L0 xs (zNew M (0, q.2.1) (zNf q.2.1)) H1 → va_S (fun q => base ≤ q) s.heap H1 locs → W p l e R s m args below meth c H1 locs (cells + 1) (slots + zNf q.2.1) Q (F0 m (pc + 3) ls (.ref (base + zN M) :: rest))) : W p l e R s m args below meth c H locs cells slots Q (F0 m pc ls rest) := by
  obtain ⟨hx, hb, -, hown, hts, -, hK⟩ := cx
  have hK := hK.1
  unfold zNwi at hf
  have hm := List.mem_of_find?_eq_some hf
  have hp := List.find?_some hf
  simp only [beq_iff_eq] at hp
  have hok := List.all_eq_true.mp (zAll15 zN_ok (zNTs_lt hm)) q hm
  simp only [zNok, Bool.and_eq_true, decide_eq_true_eq] at hok
  obtain ⟨⟨⟨h1, h2⟩, h3⟩, h4⟩ := hok
  rw [hp] at h2
  have hKn := hK.1 _ _ (zCl_at h1)
  refine W.newcK hx hb hown (hts _ (zAt_mem h2)) (hts _ (zAt_mem h3)) (hts _ (zAt_mem h4)) rfl hd hcells hslots hKn.2.1 rfl fun H1 kC hkC e1 z1 o1 => ?_
  have hz := hH.2.2.1 hG
  rw [hz] at e1
  have hOB : t_OB (base + zN M) (D.1 q.2.1) (zNf q.2.1) (D.2 q.2.1) H1 (vp_V ((List.range (zNf q.2.1)).map (zFv (zAd base sd) (zNew M (0, q.2.1) (zNf q.2.1)) (zN M) q.2.1))) := by
    refine (u_born (zTy q.2.1) hts (zLays h1) hKn hkC e1 (fun k hk => zTyAt h1 hk)).to fun j hj => ?_
    have ht := zRfTy h1 hj
    have hv : vp_V ((List.range (zNf q.2.1)).map (zFv (zAd base sd) (zNew M (0, q.2.1) (zNf q.2.1)) (zN M) q.2.1)) j = if zRf q.2.1 j then .null else .int 0 := by
      unfold vp_V
      rw [List.getD_eq_getElem?_getD]
      simp only [List.getElem?_map, List.getElem?_range hj, Option.map_some, Option.getD_some]
      unfold zFv
      split
      · show va_rf (Option.map _ (if zN M = M.1 then none else _)) = _
        rw [if_pos (show zN M = M.1 from rfl)]; rfl
      · show Value.int (if zN M = M.1 then 0 else _) = _
        rw [if_pos (show zN M = M.1 from rfl)]
    rw [hv]
    generalize zTy q.2.1 j = t at ht
    generalize zRf q.2.1 j = r at ht
    cases r with
    | true => cases t <;> simp [zTyOk] at ht <;> rfl
    | false => cases t <;> simp [zTyOk] at ht <;> rfl
  obtain ⟨g1, g2⟩ := zr_born (sh := (0, q.2.1)) (n := zNf q.2.1) hH hS hbs hN hG (zE_obj (zNew_S _ _)) (H1 := H1) ⟨_, zCl_at h1, hOB⟩ z1 o1
  have hk := kk H1 g1 g2
  rw [← hz] at hk
  exact hk
theorem zr_newp (cx : zCx base sd cA D L0 xs p s m args meth c y) (hH : zHp base sd cA D L0 xs M H) (hS : va_S (fun q => base ≤ q) s.heap H locs) (hbs : base ≤ s.heap.size) {t : ArrayType} {k : Nat} {n : Int32} (hf : zAtp t = some k) (hn : ¬ n < 0) (hn9 : n.toNatClampNeg ≤ 100000) (hN : zN M < 999999) (hG : zG M = 0) (hcells : cells + 1 ≤ R.cells) (hslots : slots + n.toNatClampNeg ≤ R.slots) (hd : decode (zB y) pc = .ok (.newarray t, 2))
    (kk : ∀ H1 : Heap, zHp base sd cA D L0 xs (zNew M (k + 1, n.toNatClampNeg) n.toNatClampNeg) H1 → va_S (fun q => base ≤ q) s.heap H1 locs → W p l e R s m args below meth c H1 locs (cells + 1) (slots + n.toNatClampNeg) Q (F0 m (pc + 2) ls (.ref (base + zN M) :: rest))) : W p l e R s m args below meth c H locs cells slots Q (F0 m pc ls (.int n :: rest)) := by
  obtain ⟨hx, hb, -, hown, hts, -, hK⟩ := cx
  have hK := hK.1
  have hz := hH.2.2.1 hG
  have hI : (fun j => zI (zNew M (k + 1, n.toNatClampNeg) n.toNatClampNeg) (zN M) j) = fun _ => 0 := by
    funext j
    show (if zN M = M.1 then (0 : Int32) else _) = 0
    rw [if_pos (show zN M = M.1 from rfl)]
  have hJ : (fun j => zJ (zNew M (k + 1, n.toNatClampNeg) n.toNatClampNeg) (zN M) j) = fun _ => 0 := by
    funext j
    show (if zN M = M.1 then (0 : Int64) else _) = 0
    rw [if_pos (show zN M = M.1 from rfl)]
  have hS1 := zNew_S (M := M) (k + 1, n.toNatClampNeg) n.toNatClampNeg
  cases t <;> simp only [zAtp, Option.some.injEq, reduceCtorEq] at hf
  all_goals subst hf
  · refine va_newaK hx hb (hts _ (zAt_mem zArw_boolean)) rfl hd rfl hn rfl (by show _ * 1 ≤ _; omega) hcells hslots rfl fun H1 cA' e1 z1 o1 hAr hNm => ?_
    have hc : cA' = cA 1 := Option.some.inj (hNm.symm.trans (hK.2 1 _ rfl).2)
    subst hc
    rw [hz] at e1
    obtain ⟨g1, g2⟩ := zr_born (sh := (2, n.toNatClampNeg)) (n := n.toNatClampNeg) hH hS hbs hN hG (zE_bool hS1) (H1 := H1) (by
      show H1[base + zN M]? = some (vp_cell _ _)
      rw [e1, vp_cell_i]
      have := congrFun hI
      simp only [this]
      rfl) z1 o1
    have hk := kk H1 g1 g2
    rw [← hz] at hk
    exact hk
  · refine va_newaK hx hb (hts _ (zAt_mem zArw_int)) rfl hd rfl hn rfl (by show _ * 4 ≤ _; omega) hcells hslots rfl fun H1 cA' e1 z1 o1 hAr hNm => ?_
    have hc : cA' = cA 0 := Option.some.inj (hNm.symm.trans (hK.2 0 _ rfl).2)
    subst hc
    rw [hz] at e1
    obtain ⟨g1, g2⟩ := zr_born (sh := (1, n.toNatClampNeg)) (n := n.toNatClampNeg) hH hS hbs hN hG (zE_int hS1) (H1 := H1) (by
      show H1[base + zN M]? = some (vp_cell _ _)
      rw [e1, vp_cell_i]
      have := congrFun hI
      simp only [this]
      rfl) z1 o1
    have hk := kk H1 g1 g2
    rw [← hz] at hk
    exact hk
  · refine va_newaK hx hb (hts _ (zAt_mem zArw_long)) rfl hd rfl hn rfl (by show _ * 8 ≤ _; omega) hcells hslots rfl fun H1 cA' e1 z1 o1 hAr hNm => ?_
    have hc : cA' = cA 2 := Option.some.inj (hNm.symm.trans (hK.2 2 _ rfl).2)
    subst hc
    rw [hz] at e1
    obtain ⟨g1, g2⟩ := zr_born (sh := (3, n.toNatClampNeg)) (n := n.toNatClampNeg) hH hS hbs hN hG (zE_long hS1) (H1 := H1) (by
      show H1[base + zN M]? = some (vp_cell _ _)
      rw [e1, vp_cell_l]
      have := congrFun hJ
      simp only [this]
      rfl) z1 o1
    have hk := kk H1 g1 g2
    rw [← hz] at hk
    exact hk
theorem zATs_lt {o : Nat} {e : Nat × Nat × Nat} (h : e ∈ zATs.getD o []) : o < 15 := by
  by_cases ho : o < 15
  · exact ho
  · have : zATs.getD o [] = [] := by
      rw [List.getD_eq_getElem?_getD, List.getElem?_eq_none (by show zATs.length ≤ o; exact Nat.not_lt.mp ho)]; rfl
    rw [this] at h
    exact absurd h List.not_mem_nil
theorem zr_newq (cx : zCx base sd cA D L0 xs p s m args meth c y) (hH : zHp base sd cA D L0 xs M H) (hS : va_S (fun q => base ≤ q) s.heap H locs) (hbs : base ≤ s.heap.size) {k : Nat} {n : Int32} {q : Nat × Nat × Nat} (hf : zAni (zO y) k = some q) (hn : ¬ n < 0) (hn9 : n.toNatClampNeg ≤ 100000) (hN : zN M < 999999) (hG : zG M = 0) (hcells : cells + 1 ≤ R.cells) (hslots : slots + n.toNatClampNeg ≤ R.slots) (hd : decode (zB y) pc = .ok (.anewarray k, 3))
    (kk : ∀ H1 : Heap, zHp base sd cA D L0 xs (zNew M (q.2.1 + 1, n.toNatClampNeg) n.toNatClampNeg) H1 → va_S (fun q => base ≤ q) s.heap H1 locs → W p l e R s m args below meth c H1 locs (cells + 1) (slots + n.toNatClampNeg) Q (F0 m (pc + 3) ls (.ref (base + zN M) :: rest))) : W p l e R s m args below meth c H locs cells slots Q (F0 m pc ls (.int n :: rest)) := by
  obtain ⟨hx, hb, -, hown, hts, -, hK⟩ := cx
  obtain ⟨hK, hAO, -⟩ := hK
  have hz := hH.2.2.1 hG
  unfold zAni at hf
  have hm := List.mem_of_find?_eq_some hf
  have hp := List.find?_some hf
  simp only [beq_iff_eq] at hp
  have hok := List.all_eq_true.mp (zAll15 zA_ok (zATs_lt hm)) q hm
  simp only [zAok, Bool.and_eq_true, decide_eq_true_eq] at hok
  obtain ⟨⟨h1, h2⟩, h3⟩ := hok
  rw [hp] at h3
  refine W.anew hx hb hown (hts _ (zAt_mem h3)) (va_AO.use (hAO _ h1 h2)) rfl hd rfl hn (by omega) hcells hslots fun cA' kA comp f1 f2 f3 f4 => ?_
  generalize hH1 : H.push ({ cls := cA', slots := Array.replicate n.toNatClampNeg .null, vm := .none } : Cell) = H1
  have z1 : H1.size = H.size + 1 := by rw [← hH1, Array.size_push]
  have e1 : H1[H.size]? = some (arrV cA' n.toNatClampNeg (fun _ => .null)) := by rw [← hH1, Array.getElem?_push_size, ← arrV_new]
  have o1 : ∀ q : Nat, q < H.size → H1[q]? = H[q]? := fun q hq => by rw [← hH1, Array.getElem?_push, if_neg (Nat.ne_of_lt hq)]
  have htt := hK.2 q.2.1 _ (zTysAt h1 h2)
  obtain ⟨kA2, comp2, k1, k2, k3, k4⟩ := htt.2
  have hc : cA' = cA q.2.1 := Option.some.inj (f1.symm.trans k4)
  subst hc
  rw [hz] at e1
  obtain ⟨t, ht⟩ : ∃ t, q.2.1 = t + 3 := ⟨q.2.1 - 3, by omega⟩
  have hP : (fun j => Option.map (zAd base sd) (zP (zNew M (q.2.1 + 1, n.toNatClampNeg) n.toNatClampNeg) (zN M) j)) = fun _ => none := by
    funext j
    show Option.map _ (if zN M = M.1 then none else _) = none
    rw [if_pos (show zN M = M.1 from rfl)]; rfl
  have hS1 := zNew_S (M := M) (q.2.1 + 1, n.toNatClampNeg) n.toNatClampNeg
  rw [ht] at hS1 hP e1
  have hEE : zE (zAd base sd) cA (zNew M (q.2.1 + 1, n.toNatClampNeg) n.toNatClampNeg) (zN M) = .inl (cA (t + 3), n.toNatClampNeg, .inr (.inr (.inr (.inr (fun _ => none))))) := by
    have h9 := zE_ref (cA := cA) (ad := zAd base sd) hS1
    rw [ht, h9, hP]
  obtain ⟨g1, g2⟩ := zr_born (sh := (q.2.1 + 1, n.toNatClampNeg)) (n := n.toNatClampNeg) hH hS hbs hN hG hEE (H1 := H1) (by
      show H1[base + zN M]? = some (vp_cell _ _)
      rw [e1, vp_cell_q]
      rfl) z1 o1
  have hk := kk H1 g1 g2
  rw [← hz] at hk
  exact hk
end ZR2
