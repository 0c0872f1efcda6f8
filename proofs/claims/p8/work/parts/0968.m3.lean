/-! THE START -/
set_option maxRecDepth 1000000 in
theorem hy_ICs : ((hy_A.1 26 6).toInt = 0 ∧ hy_A.1 26 7 = hy_A.2.1 395 70 ∧ hy_A.1 26 8 = hy_A.2.1 395 71 ∧ hy_A.1 26 10 = hy_A.2.1 395 72 ∧ hy_A.1 26 9 = Int32.ofNat 0) ∧ ((hy_A.2.1 376 (hy_A.1 367 18).toNatClampNeg).toInt = 0 ∧ hy_A.1 40 2 = hy_A.1 367 51 ∧ (hy_A.1 40 2).toInt = 0 ∧ (hy_A.2.1 395 70).toInt = 0 ∧ (hy_A.2.1 395 71).toInt = -1) ∧ (hy_A.1 367 18).toNatClampNeg = 0 ∧ (hy_A.1 367 18).toInt = 0 := by decide +kernel
set_option maxRecDepth 1000000 in
theorem hy_ICt : (∀ s, s < 3 → (hy_A.2.1 408 s).toInt = 0) ∧ (∀ t, t < 24 → (hy_A.2.1 5 t).toInt = 0) ∧ (∀ t, t < 24 → (hy_A.2.1 380 (24 * 0 + t)).toInt = 0) ∧ ((hy_A.1 2 6).toInt = 6 ∧ (hy_A.1 2 7).toInt = 0 ∧ (hy_A.2.1 381 0).toInt = 6 ∧ (hy_A.2.1 382 0).toInt = 0) ∧ (hy_A.1 2 4).toInt = 0 ∧ (hy_A.2.1 376 0).toInt = 0 ∧ hy_A.2.2.2 0 3 = 3 := by decide +kernel
set_option maxRecDepth 1000000 in
theorem hy_ICu : (hy_A.1 (2 + 4) 4).toInt = 2 * ((4 : Nat) : Int) ∧ ∀ j, j < 4 → (hy_A.2.1 (2 + 6) j).toInt = 2 * (j : Int) ∧ (hy_A.2.1 (2 + 5) (2 * j)).toInt = 8 * (if j = 0 then 1 else 0) + 0 ∧ (hy_A.2.1 (2 + 5) (2 * j + 1)).toInt = 7 := by decide +kernel
set_option maxRecDepth 1000000 in
theorem hy_ICv : ∀ k, k < 4 → (hy_A.2.1 383 (4 * 0 + k)).toInt = 0 ∧ (hy_A.2.1 384 (4 * 0 + k)).toInt = 0 := by decide +kernel
theorem hy_ICw : ∀ q, q < 4 → hgw_wl (hg_d0.2.2.2 q) := (hgw_q_iv (K := fun _ => 0) (V := fun _ => 0) (E := fun _ _ => false) (fun t ht => absurd (show (0 : Int) = 21 from ht) (by decide)) (t := 0) (s := (0, 0, 0, 0, [], 0, 0, none)) rfl).1.1
theorem hy_IC : hIC hy_A := by
  obtain ⟨⟨a6, a7, a8, a10, a9⟩, ⟨c1, c2, c3, c4, c5⟩, c6, c7⟩ := hy_ICs
  obtain ⟨d1, d2, d3, ⟨d4, d5, d6, d7⟩, d8, d9, d10⟩ := hy_ICt
  refine ⟨hy_IB, ?_⟩
  unfold hCx
  rw [show hHn hy_A = 0 from c1]
  refine ⟨⟨⟨a6, ⟨a7, a8, a10⟩, ⟨0, by decide, a9, fun h hh => False.elim (by omega)⟩, fun h hh => False.elim (by omega)⟩, fun h hh => absurd hh (Nat.not_lt_zero h), by omega, Or.inl c5⟩, ⟨c2, fun i hi => ?_⟩, fun s hs hb => absurd (d1 s hs) hb, hg_d0, fun T hT => ?_, ?_, ⟨fun t _ => ⟨(by decide : (0 : Int) ≤ 0), (by decide : (0 : Int) ≤ 255)⟩, ⟨(by decide : (0 : Int) ≤ 6), (by decide : (6 : Int) ≤ 10000)⟩, (by decide : (0 : Int) ≤ 0), (by decide : (0 : Int) ≤ 10000)⟩⟩
  · rw [c3] at hi
    exact False.elim (by omega)
  · obtain rfl : T = 2 := by omega
    exact ⟨hy_ICw, fun _ => 0, [], 8, by omega, Nat.zero_le _, hcM.init hy_ICu (fun j hj => d2 j hj) d4 d5, d8⟩
  · rw [c6]
    have z := hy_J.2.2.2.1.2.2.2.1
    rw [c7] at z
    exact ⟨c7, by omega, z, hy_ICw, fun _ => 0, [], 0, 0, Nat.zero_le _, ⟨fun k hk => ⟨0, 0, (hy_ICv k hk).1, (hy_ICv k hk).2, Or.inl ⟨rfl, rfl⟩⟩, ⟨fun h hh => d3 h hh, d6, d7⟩, trivial⟩, d9⟩
