/-! The law's own look and edge, called by the law. -/
section ZS
variable {base : Nat} {sd : Nat → Nat} {cA : Nat → ClassId} {D : va_G} {L0 : Nat} {xs : Nat → Int32} {l : Launch}
set_option maxHeartbeats 4000000 in
theorem zSp_ok (hl : l.stackTraces = false) (n : Nat) (IE : zSne (zEx base) base sd cA D L0 xs l n) : zSpE (zEx base) base sd cA D L0 xs l n := by
  unfold zSpE
  intro y pc z out len i L st as rest M M1 M2 r1 w hspc hx hr p e R s m args below meth c H locs ls cells slots Q hE cx hH hS hbs hRf hRl hL hd hol hcells hslots kk
  obtain rfl := zSpc_y hspc
  have IT : zSnt base sd cA D L0 xs l n := @zX_soundT _ _ _ _ _ _ _ _ n IE n (Nat.le_refl _)
  have hts := cx.2.2.2.2.1
  have hK := cx.2.2.2.2.2.2
  have S : CallFix p m c (zB 198) (zL 198) s args zW (zOn 12) := ⟨cx.1, cx.2.1, cx.2.2.1, cx.2.2.2.1, hts⟩
  have hEU : ∀ U : State, U.heap = H → s.WarmedH U.vm → zEx base U := fun U hU hW => hE.to hW (fun q h1 h2 => by rw [hU]; exact hS.2.1 q h1 h2)
  have gd : ∀ {ws : List Cond}, (∀ w ∈ ws, w ∈ lw_tbl ∧ goodWord w = true) → GoodIn zW ws := fun h w hw => zGoodW (List.mem_filter.mpr (h w hw))
  unfold zSpc at hspc
  split at hspc
  · rename_i k
    obtain rfl : 3 = len := by simp only [zOkl, zLen, Bool.or_eq_true, beq_iff_eq] at hol; omega
    simp only [if_true] at hspc
    split at hspc
    · rename_i o' b' a' x' r'
      split at hspc
      · rename_i hc
        simp only [Option.some.injEq, Prod.mk.injEq] at hspc
        obtain ⟨rfl, rfl, rfl, rfl⟩ := hspc
        obtain ⟨rfl, ho, ho2, hcat⟩ := hc
        have hG : GoodIn zW (va_wsS (zOn 12) 61 (zY 196) zWe_lk) := by
          intro w hw
          rcases List.mem_append.mp hw with hw | hw
          · exact zGoodW (List.mem_filter.mpr (zwe_lk w (List.mem_cons_of_mem _ (List.mem_append_left _ hw))))
          · rcases List.mem_cons.mp hw with rfl | hw
            · exact zGoodW (List.mem_filter.mpr (zwe_lk _ List.mem_cons_self))
            · exact zGoodW hw
        have cw := vx_cwSW (R := R) (s := s) (args := args) (own := zOn 12) (index := 61) (y := zY 196) (bytes := zB 196) (maxL := 5) (mc := zc M1 - zc M) (ms := zZ M1 - zZ M) (ret := some .int) (hh := [(0, 10, 13, 13), (0, 10, 17, 15)]) (Ts := zW) (ws := zWe_lk) (ws' := zW) (rm := zRm 196 (zc M1 - zc M) (zZ M1 - zZ M)) 4 hts hG rfl rfl rfl ⟨by decide, by decide, by decide⟩ ⟨Nat.le_trans (by decide : zFr 196 + 1 ≤ zFr 198) hRf, Nat.le_trans (by decide : 8 + (5 + 11) + zLo 196 ≤ zLo 198) hRl⟩
        exact zRun_go (r := some w) (rest := r') (vx_runSW (As := ([.ref x', .int a', .int b', .ref o'] : List Value).map (zV (zAd base sd))) S (zMet_lk hl IT hx hr ho ho2) cw ⟨zPx_blind, fun U hU hW => ⟨zPc_at (as := [.ref x', .int a', .int b', .ref o']) hK hH hS U hU hW, hEU U hU hW⟩⟩ rfl rfl hL.1 rfl (lv_room (by rw [zSum]; exact hcat)) hd ⟨hcells, hslots⟩) hS (fun H1 locs1 g1 g2 => kk H1 locs1 _ _ g1 g2 rfl rfl)
      · cases hspc
    · rename_i _ o' u' b' a' x' r'
      split at hspc
      · rename_i hc
        simp only [Option.some.injEq, Prod.mk.injEq] at hspc
        obtain ⟨rfl, rfl, rfl, rfl⟩ := hspc
        obtain ⟨rfl, ho, ho2, hcat⟩ := hc
        have hG : GoodIn zW (va_wsS (zOn 12) 71 (zY 197) zWe_ed) := by
          intro w hw
          rcases List.mem_append.mp hw with hw | hw
          · exact zGoodW (List.mem_filter.mpr (zwe_ed w (List.mem_cons_of_mem _ (List.mem_append_left _ hw))))
          · rcases List.mem_cons.mp hw with rfl | hw
            · exact zGoodW (List.mem_filter.mpr (zwe_ed _ List.mem_cons_self))
            · exact zGoodW hw
        have cw := vx_cwSW (R := R) (s := s) (args := args) (own := zOn 12) (index := 71) (y := zY 197) (bytes := zB 197) (maxL := 6) (mc := zc M1 - zc M) (ms := zZ M1 - zZ M) (ret := some .int) (hh := [(0, 12, 15, 13), (0, 12, 19, 15)]) (Ts := zW) (ws := zWe_ed) (ws' := zW) (rm := zRm 197 (zc M1 - zc M) (zZ M1 - zZ M)) 5 hts hG rfl rfl rfl ⟨by decide, by decide, by decide⟩ ⟨Nat.le_trans (by decide : zFr 197 + 1 ≤ zFr 198) hRf, Nat.le_trans (by decide : 8 + (6 + 11) + zLo 197 ≤ zLo 198) hRl⟩
        exact zRun_go (r := some w) (rest := r') (vx_runSW (As := ([.ref x', .int a', .int b', .int u', .ref o'] : List Value).map (zV (zAd base sd))) S (zMet_ed hl IT hx hr ho ho2) cw ⟨zPx_blind, fun U hU hW => ⟨zPc_at (as := [.ref x', .int a', .int b', .int u', .ref o']) hK hH hS U hU hW, hEU U hU hW⟩⟩ rfl rfl hL.1 rfl (lv_room (by rw [zSum]; exact hcat)) hd ⟨hcells, hslots⟩) hS (fun H1 locs1 g1 g2 => kk H1 locs1 _ _ g1 g2 rfl rfl)
      · cases hspc
    · cases hspc
  · cases hspc
end ZS
