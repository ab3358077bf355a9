/-! The law answers 1, and makes and throws no more than the claim allows. -/
set_option maxRecDepth 100000 in
set_option maxHeartbeats 4000000 in
theorem z_pure : zPure := by
  intro L xs hL
  obtain ⟨z0, I, s, hz, h1, h2, h3, h4, h5, h6, hp, he⟩ := law_start (L := L) (xs := xs) (n := 20000) (by omega)
  obtain ⟨P, M1, E, g1, g2⟩ := law_L hL (Nat.le_refl _) 512 20000 0 (by omega) (by omega) (by omega) (gV0 L xs z0) I s rfl ⟨h1, h2, h3, h4, by omega, by omega, by show z0 ≤ _; omega, Nat.zero_le _⟩
  have hq : zWP 198 0 [some (.ref 1000008), none, none, none, none, none, none] [] (zM0 L xs) (fun r M => r = some (.int 1) ∧ M = M1) := by
    refine wq_new (c := 9) rfl rfl rfl ⟨rfl, by show 0 < 999999; omega⟩ ?_
    refine s198_3 20000 1000008 0 (zNew (zM0 L xs) (0, 9) (zNf 9)) (hp P) (fun r M h => ?_)
    rw [he] at h
    have E2 : b198_23 20000 20000 1000008 0 354 387 0 (wm (gV0 L xs z0) I) = (1, M1) := E
    rw [E2] at h
    exact h
  have e : zEnt 198 [.ref 1000008] = [some (.ref 1000008), none, none, none, none, none, none] := rfl
  obtain ⟨m, r, M2, hx, hr, hM⟩ := hq
  exact ⟨m, M1, by rw [e, hx, hr, hM], g1, g2⟩
