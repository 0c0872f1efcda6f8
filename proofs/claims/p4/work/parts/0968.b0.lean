theorem hY151 {d : Nat} {Bn Br : Int} {A0 A : hs_A} (hA : hJ 0 Bn Br A0 A)   {P : Option Value → hs_A → Prop} (hP : ∀ (r : Option Value) (A' : hs_A), (A = A' ∧ ∃ z : Int32, r = some (.int z)) → P r A') : hxa (d + 0) (some (.int)) hm_t151 0 [.ref 368] [] A P := by
  refine hxa_aload_n (by rfl) rfl ?_
  refine hxj_getI (by rfl) (by rfl) (by rfl) (fun z1 ez1 => ?_)
  exact hxa_ireturn (by rfl) rfl (hP _ _ ⟨rfl, _, rfl⟩)
theorem hX151 {d : Nat} {Bn Br : Int} {A0 A : hs_A} (hA : hJ 0 Bn Br A0 A)   : hxC (d + 1) 151 hm_m151 [.ref 368] A (fun r A' => A = A' ∧ ∃ z : Int32, r = some (.int z)) := hxC.of (by rfl) (hY151 hA  (fun r A' h => h))
theorem hy_I0 : hI0 hy_A := ⟨hy_t, (by decide +kernel : ∀ q, q < 20 → hy_A.2.2.1 374 q = hky q), fun i hi => absurd hi (by rw [show (hy_A.1 0 1).toInt = 0 by decide +kernel]; omega)⟩
theorem hpr_feed {N : Int} {A : hs_A} (hA : hJ 0 N (N + 72) A A) (hN : N ≤ 800000) (hI : hI0 A) (a1 : Int32) (a2 : Int32) (a3 : Int32) (a4 : Int32) (a5 : Int32) : hxC 26 70 hm_m70 [.ref 1, .int a1, .int a2, .int a3, .int a4, .int a5] A (fun r A1 => ∃ z : Int32, r = some (.int z) ∧ hxC 26 133 hm_m133 [.ref 368, .int a1, .int a2, .int a3, .int a4, .int a5] A1 (fun r2 A2 => ∃ z2 : Int32, r2 = some (.int z2) ∧ z = z2 ∧ ∃ N' : Int, N' ≤ N + 144 ∧ hJ 0 N' (N' + 72) A2 A2 ∧ hI0 A2)) := by
  obtain ⟨i1, i2, i3⟩ := hI
  have h10 := hJ.to10 hA
  have bl := hbok.get (hA.1.1 0 1) rfl
  obtain ⟨n, hn⟩ : ∃ n : Nat, (A.1 0 1).toInt = (n : Int) := ⟨(A.1 0 1).toInt.toNat, by omega⟩
  refine hxC.post (hxC.and (g := 0) (hX70q10 (d := 24) h10 a1 a2 a3 a4 a5) (fun g => hP70 a1 a2 a3 a4 a5 hn (by omega))) ?_
  rintro _ A1 ⟨⟨h1, r1, z, rfl, f1⟩, A1v, v1, -, -, tp1, ta1, tl1, fe1⟩
  refine ⟨z, rfl, ?_⟩
  have t1 := congrArg Int32.toInt r1
  refine hxC.post (hxC.and (g := 0) (hX133q10 (d := 24) h1 a1 a2 a3 a4 a5) (fun g => hP133 (len := n) a1 a2 a3 a4 a5 (by omega) (by omega))) ?_
  rintro _ A2 ⟨⟨h2, r2, z2, rfl, f2⟩, A2v, v2, -, -, tp2, ta2, tl2, fe2⟩
  have t2 := congrArg Int32.toInt r2
  refine ⟨z2, rfl, Int32.toInt_inj.mp (by omega), N, by omega, (hJ.end10 h2).1, by omega, v2.U ((v1.U (i2.fr (by rw [tl1]))).fr (by rw [tl2])), fun i hi => ?_⟩
  have bl2 := hbok.get (h2.1.1 0 1) rfl
  obtain ⟨m, hm⟩ : ∃ m : Nat, (A2.1 0 1).toInt = (m : Int) := ⟨(A2.1 0 1).toInt.toNat, by omega⟩
  have hi2 : i < 2000 := by omega
  have q := hf5_al (f := A.2.1 1) (g := A1.2.1 368) (n := n) (m := m) (a := a1) (b := a2) (c := a3) (d := a4) (e := a5) (fun j hj => ⟨by rw [(i3 j (by omega)).1, ← v1.t2 (show j < 2000 by omega), ta1 368 (by omega)], (i3 j (by omega)).2⟩) (by omega) i (by omega)
  have e1 : A2.2.1 1 i = hf5 (A.2.1 1) n a1 a2 a3 a4 a5 i := by rw [← v2.t1 hi2, ta2 1 (by omega), ← v1.t1 hi2, tp1]
  have e2 : A2.2.1 368 i = hf5 (A1.2.1 368) n a1 a2 a3 a4 a5 i := by rw [← v2.t2 hi2, tp2]
  rw [e1, e2]
  exact q
theorem hpr_back {N : Int} {A : hs_A} (hA : hJ 0 N (N + 72) A A) (hN : N ≤ 800000) (hI : hI0 A) (a1 : Int32) : hxC 26 72 hm_m72 [.ref 1, .int a1] A (fun r A1 => ∃ z : Int32, r = some (.int z) ∧ hxC 26 135 hm_m135 [.ref 368, .int a1] A1 (fun r2 A2 => ∃ z2 : Int32, r2 = some (.int z2) ∧ z = z2 ∧ ∃ N' : Int, N' ≤ N + 144 ∧ hJ 0 N' (N' + 72) A2 A2 ∧ hI0 A2)) := by
  obtain ⟨i1, i2, i3⟩ := hI
  have h10 := hJ.to10 hA
  refine hxC.post (hxC.and (g := 0) (hX72q10 (d := 25) h10 a1) (fun g => hP72 a1)) ?_
  rintro _ A1 ⟨⟨h1, r1, z, rfl, f1⟩, A1v, v1, -, -, fe1, ta1⟩
  refine ⟨z, rfl, ?_⟩
  refine hxC.post (hxC.and (g := 0) (hX135q10 (d := 25) h1 a1) (fun g => hP135 a1)) ?_
  rintro _ A2 ⟨⟨h2, r2, z2, rfl, f2⟩, A2v, v2, -, -, fe2, ta2⟩
  have t1 := congrArg Int32.toInt r1
  have t2 := congrArg Int32.toInt r2
  refine ⟨z2, rfl, Int32.toInt_inj.mp (by omega), N, by omega, (hJ.end10 h2).1, by omega, v2.U ((v1.U (i2.fr (by rw [ta1]))).fr (by rw [ta2])), fun i hi => ?_⟩
  have bl := hbok.get (hA.1.1 0 1) rfl
  have hi2 : i < 2000 := by omega
  rw [← v2.t1 hi2, ← v2.t2 hi2, ta2, ← v1.t1 hi2, ← v1.t2 hi2, ta1]
  exact i3 i (by omega)
theorem hpr_read {N : Int} {A : hs_A} (hA : hJ 0 N (N + 72) A A) (hN : N ≤ 800000) (hI : hI0 A)  : hxC 26 73 hm_m73 [.ref 1] A (fun r A1 => ∃ z : Int32, r = some (.int z) ∧ hxC 26 150 hm_m150 [.ref 368] A1 (fun r2 A2 => ∃ z2 : Int32, r2 = some (.int z2) ∧ z = z2 ∧ ∃ N' : Int, N' ≤ N + 144 ∧ hJ 0 N' (N' + 72) A2 A2 ∧ hI0 A2)) := by
  obtain ⟨i1, i2, i3⟩ := hI
  have bl := hbok.get (hA.1.1 0 1) rfl
  obtain ⟨n, hn⟩ : ∃ n : Nat, (A.1 0 1).toInt = (n : Int) := ⟨(A.1 0 1).toInt.toNat, by omega⟩
  have hBr : ∀ i, i < n → -128 ≤ (A.2.1 1 i).toInt ∧ (A.2.1 1 i).toInt ≤ 127 := fun i hi => (i3 i (by omega)).2
  have K : ∀ (A1 : hs_A) (z : Int32), hJ 0 (N + 72) (N + 144) A1 A1 → (A1.1 0 1).toInt = 0 → A1.1 367 2 = A.1 367 2 → hq_res (ht_K (fun i => (A.2.1 1 i).toInt) n) (ht_W (fun i => (A.2.1 1 i).toInt) n) (fun u => (ht_S (fun i => (A.2.1 1 i).toInt) n u : Int)) (ht_E (fun i => (A.2.1 1 i).toInt) n) z.toInt (A1.1 0 2).toInt → hcU A1 → (∀ j, A1.2.1 368 j = A.2.1 368 j) → hxC 26 150 hm_m150 [.ref 368] A1 (fun r2 A2 => ∃ z2 : Int32, r2 = some (.int z2) ∧ z = z2 ∧ ∃ N' : Int, N' ≤ N + 144 ∧ hJ 0 N' (N' + 72) A2 A2 ∧ hI0 A2) := by
    intro A1 z h1 t1 g1 RS1 hU1 kp
    have h1' : hJ 0 (N + 72) (N + 72 + 72) A1 A1 := hJ.mono h1 (by omega) (by omega)
    have lv := h1.2.2.2.1.2.2.2.2
    have g1' := congrArg Int32.toInt g1
    have hT2 : ∀ i, i < n → (A1.2.1 368 i).toInt = (A.2.1 1 i).toInt := fun i hi => by rw [kp i, (i3 i (by omega)).1]
    by_cases q : (A1.1 367 18).toInt = 0
    · refine hxC.post (hxC.and (g := 0) (hX150q5_1 (d := 18) h1' (by omega) q) (fun g => hP150 (sd := 1) (n := n) (B := fun i => (A.2.1 1 i).toInt) hT2 hBr (by omega) (by omega) (by omega) (by omega) hU1)) ?_
      rintro _ A2 ⟨⟨h2, z2, rfl, f2, g2⟩, A2v, v2, z2v, ez2, RS2, hU2⟩
      have ezz : z2v = z2 := by injection ez2 with e; injection e with e; exact e.symm
      rw [ezz] at RS2
      have hz := hq_res_one RS1 RS2
      exact ⟨z2, rfl, Int32.toInt_inj.mp hz.1, N + 72 + 72, by omega, hJ.mono h2 (by omega) (by omega), by rw [g2]; omega, v2.U hU2, fun i hi => absurd hi (by rw [g2]; omega)⟩
    · have q : (A1.1 367 18).toInt = 1 := by omega
      refine hxC.post (hxC.and (g := 0) (hX150q4_1 (d := 18) h1' (by omega) q) (fun g => hP150 (sd := 0) (n := n) (B := fun i => (A.2.1 1 i).toInt) hT2 hBr (by omega) (by omega) (by omega) (by omega) hU1)) ?_
      rintro _ A2 ⟨⟨h2, z2, rfl, f2, g2⟩, A2v, v2, z2v, ez2, RS2, hU2⟩
      have ezz : z2v = z2 := by injection ez2 with e; injection e with e; exact e.symm
      rw [ezz] at RS2
      have hz := hq_res_one RS1 RS2
      exact ⟨z2, rfl, Int32.toInt_inj.mp hz.1, N + 72 + 72, by omega, hJ.mono h2 (by omega) (by omega), by rw [g2]; omega, v2.U hU2, fun i hi => absurd hi (by rw [g2]; omega)⟩
  rcases hA.2.2.2.1.1 with ⟨h3, h4⟩ | ⟨h3, h4⟩
  · refine hxC.post (hX73q32 (d := 0) hA h3 h4 (B := fun i => (A.2.1 1 i).toInt) (n := n) (fun _ _ => rfl) hn hBr i2) ?_
    rintro _ A1 ⟨h1, z1, rfl, f1, g1, RS1, hU1, kp⟩
    exact ⟨z1, rfl, K A1 z1 h1 f1 g1 RS1 hU1 kp⟩
  · refine hxC.post (hX73q31 (d := 0) hA h3 h4 (B := fun i => (A.2.1 1 i).toInt) (n := n) (fun _ _ => rfl) hn hBr i2) ?_
    rintro _ A1 ⟨h1, z1, rfl, f1, g1, RS1, hU1, kp⟩
    exact ⟨z1, rfl, K A1 z1 h1 f1 g1 RS1 hU1 kp⟩
theorem hpr_place {N : Int} {A : hs_A} (hA : hJ 0 N (N + 72) A A) (hN : N ≤ 800000) (hI : hI0 A)  : hxC 26 75 hm_m75 [.ref 1] A (fun r A1 => ∃ z : Int32, r = some (.int z) ∧ hxC 26 151 hm_m151 [.ref 368] A1 (fun r2 A2 => ∃ z2 : Int32, r2 = some (.int z2) ∧ ∃ N' : Int, N' ≤ N + 144 ∧ hJ 0 N' (N' + 72) A2 A2 ∧ hI0 A2)) := by
  refine hxC.post (hX75 (d := 25) hA ) ?_
  rintro _ _ ⟨rfl, z1, rfl⟩
  refine ⟨z1, rfl, ?_⟩
  refine hxC.post (hX151 (d := 25) hA ) ?_
  rintro _ _ ⟨rfl, z2, rfl⟩
  exact ⟨z2, rfl, N + 72, by omega, hJ.mono (hJ.self hA) (by omega) (by omega), hI.fr hA.2.2.1⟩
theorem hpr_house {N : Int} {A : hs_A} (hA : hJ 0 N (N + 72) A A) (hN : N ≤ 800000) (hI : hI0 A) (a1 : Int32) (a2 : Int32) : hxC 26 79 hm_m79 [.ref 1, .int a1, .int a2] A (fun r A1 => ∃ z : Int32, r = some (.int z) ∧ hxC 26 188 hm_m188 [.ref 368, .int a1, .int a2] A1 (fun r2 A2 => ∃ z2 : Int32, r2 = some (.int z2) ∧ ∃ N' : Int, N' ≤ N + 144 ∧ hJ 0 N' (N' + 72) A2 A2 ∧ hI0 A2)) := by
  refine hxC.post (hX79 (d := 22) hA a1 a2) ?_
  rintro _ A1 ⟨hA1, z1, rfl⟩
  refine ⟨z1, rfl, ?_⟩
  refine hxC.post (hX188 (d := 22) hA1 (by omega) a1 a2) ?_
  rintro _ A2 ⟨hA2, z2, rfl⟩
  exact ⟨z2, rfl, N + 72, by omega, hJ.mono (hJ.self hA2) (by omega) (by omega), hI.fr hA2.2.2.1⟩
theorem hpr_passed {N : Int} {A : hs_A} (hA : hJ 0 N (N + 72) A A) (hN : N ≤ 800000) (hI : hI0 A) (a1 : Int32) (a2 : Int32) : hxC 26 81 hm_m81 [.ref 1, .int a1, .int a2] A (fun r A1 => ∃ z : Int32, r = some (.int z) ∧ hxC 26 189 hm_m189 [.ref 368, .int a1, .int a2] A1 (fun r2 A2 => ∃ z2 : Int32, r2 = some (.int z2) ∧ ∃ N' : Int, N' ≤ N + 144 ∧ hJ 0 N' (N' + 72) A2 A2 ∧ hI0 A2)) := by
  refine hxC.post (hX81 (d := 22) hA a1 a2) ?_
  rintro _ A1 ⟨hA1, z1, rfl⟩
  refine ⟨z1, rfl, ?_⟩
  refine hxC.post (hX189 (d := 21) hA1 (by omega) a1 a2) ?_
  rintro _ A2 ⟨hA2, z2, rfl⟩
  exact ⟨z2, rfl, N + 72, by omega, hJ.mono (hJ.self hA2) (by omega) (by omega), hI.fr hA2.2.2.1⟩
theorem hpr_turn {N : Int} {A : hs_A} (hA : hJ 0 N (N + 72) A A) (hN : N ≤ 800000) (hI : hI0 A) (a1 : Int32) (a2 : Int32) (b0 : 0 ≤ a2.toInt) (b1 : a2.toInt ≤ 1) : hxC 26 83 hm_m83 [.ref 1, .int a1, .int a2] A (fun r A1 => ∃ z : Int32, r = some (.int z) ∧ hxC 26 191 hm_m191 [.ref 368, .int a1, .int a2] A1 (fun r2 A2 => ∃ z2 : Int32, r2 = some (.int z2) ∧ ∃ N' : Int, N' ≤ N + 144 ∧ hJ 0 N' (N' + 72) A2 A2 ∧ hI0 A2)) := by
  refine hxC.post (hX83 (d := 22) hA a1 a2 b0 b1) ?_
  rintro _ A1 ⟨hA1, z1, rfl, _⟩
  refine ⟨z1, rfl, ?_⟩
  refine hxC.post (hX191 (d := 23) hA1 (by omega) a1 a2 b0 b1) ?_
  rintro _ A2 ⟨hA2, z2, rfl, _⟩
  exact ⟨z2, rfl, N + 72, by omega, hJ.mono (hJ.self hA2) (by omega) (by omega), hI.fr hA2.2.2.1⟩
theorem hpr_send {N : Int} {A : hs_A} (hA : hJ 0 N (N + 72) A A) (hN : N ≤ 800000) (hI : hI0 A) (a1 : Int32) : hxC 26 84 hm_m84 [.ref 1, .int a1] A (fun r A1 => ∃ z : Int32, r = some (.int z) ∧ hxC 26 192 hm_m192 [.ref 368, .int a1] A1 (fun r2 A2 => ∃ z2 : Int32, r2 = some (.int z2) ∧ ∃ N' : Int, N' ≤ N + 144 ∧ hJ 0 N' (N' + 72) A2 A2 ∧ hI0 A2)) := by
  refine hxC.post (hX84 (d := 22) hA a1) ?_
  rintro _ A1 ⟨hA1, z1, rfl, _⟩
  refine ⟨z1, rfl, ?_⟩
  refine hxC.post (hX192 (d := 23) hA1 (by omega) a1) ?_
  rintro _ A2 ⟨hA2, z2, rfl, _⟩
  exact ⟨z2, rfl, N + 72, by omega, hJ.mono (hJ.self hA2) (by omega) (by omega), hI.fr hA2.2.2.1⟩
theorem hpr_carry {N : Int} {A : hs_A} (hA : hJ 0 N (N + 72) A A) (hN : N ≤ 800000) (hI : hI0 A) (a1 : Int32) (a2 : Int32) : hxC 26 85 hm_m85 [.ref 1, .int a1, .int a2] A (fun r A1 => ∃ z : Int32, r = some (.int z) ∧ hxC 26 193 hm_m193 [.ref 368, .int a1, .int a2] A1 (fun r2 A2 => ∃ z2 : Int32, r2 = some (.int z2) ∧ ∃ N' : Int, N' ≤ N + 144 ∧ hJ 0 N' (N' + 72) A2 A2 ∧ hI0 A2)) := by
  refine hxC.post (hX85 (d := 22) hA a1 a2) ?_
  rintro _ A1 ⟨hA1, z1, rfl⟩
  refine ⟨z1, rfl, ?_⟩
  refine hxC.post (hX193 (d := 23) hA1 (by omega) a1 a2) ?_
  rintro _ A2 ⟨hA2, z2, rfl⟩
  exact ⟨z2, rfl, N + 72, by omega, hJ.mono (hJ.self hA2) (by omega) (by omega), hI.fr hA2.2.2.1⟩
theorem hpr_change {N : Int} {A : hs_A} (hA : hJ 0 N (N + 72) A A) (hN : N ≤ 800000) (hI : hI0 A) (a1 : Int32) (a2 : Int32) : hxC 26 86 hm_m86 [.ref 1, .int a1, .int a2] A (fun r A1 => ∃ z : Int32, r = some (.int z) ∧ hxC 26 195 hm_m195 [.ref 368, .int a1, .int a2] A1 (fun r2 A2 => ∃ z2 : Int32, r2 = some (.int z2) ∧ ∃ N' : Int, N' ≤ N + 144 ∧ hJ 0 N' (N' + 72) A2 A2 ∧ hI0 A2)) := by
  refine hxC.post (hX86 (d := 22) hA a1 a2) ?_
  rintro _ A1 ⟨hA1, z1, rfl, _⟩
  refine ⟨z1, rfl, ?_⟩
  refine hxC.post (hX195 (d := 23) hA1 (by omega) a1 a2) ?_
  rintro _ A2 ⟨hA2, z2, rfl, _⟩
  exact ⟨z2, rfl, N + 72, by omega, hJ.mono (hJ.self hA2) (by omega) (by omega), hI.fr hA2.2.2.1⟩
theorem hpr_hours {N : Int} {A : hs_A} (hA : hJ 0 N (N + 72) A A) (hN : N ≤ 800000) (hI : hI0 A) (a1 : Int32) : hxC 26 87 hm_m87 [.ref 1, .int a1] A (fun r A1 => ∃ z : Int32, r = some (.int z) ∧ hxC 26 198 hm_m198 [.ref 368, .int a1] A1 (fun r2 A2 => ∃ z2 : Int32, r2 = some (.int z2) ∧ ∃ N' : Int, N' ≤ N + 144 ∧ hJ 0 N' (N' + 72) A2 A2 ∧ hI0 A2)) := by
  refine hxC.post (hX87 (d := 21) hA a1) ?_
  rintro _ A1 ⟨hA1, z1, rfl⟩
  refine ⟨z1, rfl, ?_⟩
  refine hxC.post (hX198 (d := 19) hA1 (by omega) a1) ?_
  rintro _ A2 ⟨hA2, z2, rfl⟩
  exact ⟨z2, rfl, N + 72, by omega, hJ.mono (hJ.self hA2) (by omega) (by omega), hI.fr hA2.2.2.1⟩
theorem hpr_undo {N : Int} {A : hs_A} (hA : hJ 0 N (N + 72) A A) (hN : N ≤ 800000) (hI : hI0 A)  : hxC 26 88 hm_m88 [.ref 1] A (fun r A1 => ∃ z : Int32, r = some (.int z) ∧ hxC 26 199 hm_m199 [.ref 368] A1 (fun r2 A2 => ∃ z2 : Int32, r2 = some (.int z2) ∧ ∃ N' : Int, N' ≤ N + 144 ∧ hJ 0 N' (N' + 72) A2 A2 ∧ hI0 A2)) := by
  refine hxC.post (hX88 (d := 23) hA ) ?_
  rintro _ A1 ⟨hA1, z1, rfl, _⟩
  refine ⟨z1, rfl, ?_⟩
  refine hxC.post (hX199 (d := 25) hA1 (by omega) ) ?_
  rintro _ A2 ⟨hA2, z2, rfl, _⟩
  exact ⟨z2, rfl, N + 72, by omega, hJ.mono (hJ.self hA2) (by omega) (by omega), hI.fr hA2.2.2.1⟩
theorem hpr_comes {N : Int} {A : hs_A} (hA : hJ 0 N (N + 72) A A) (hN : N ≤ 800000) (hI : hI0 A) (a1 : Int32) (a2 : Int32) : hxC 26 91 hm_m91 [.ref 1, .int a1, .int a2] A (fun r A1 => ∃ z : Int32, r = some (.int z) ∧ hxC 26 204 hm_m204 [.ref 368, .int a1, .int a2] A1 (fun r2 A2 => ∃ z2 : Int32, r2 = some (.int z2) ∧ ∃ N' : Int, N' ≤ N + 144 ∧ hJ 0 N' (N' + 72) A2 A2 ∧ hI0 A2)) := by
  refine hxC.post (hX91 (d := 19) hA a1 a2) ?_
  rintro _ A1 ⟨hA1, z1, rfl⟩
  refine ⟨z1, rfl, ?_⟩
  refine hxC.post (hX204 (d := 19) hA1 (by omega) a1 a2) ?_
  rintro _ A2 ⟨hA2, z2, rfl⟩
  exact ⟨z2, rfl, N + 72, by omega, hJ.mono (hJ.self hA2) (by omega) (by omega), hI.fr hA2.2.2.1⟩
theorem hpr_last {N : Int} {A : hs_A} (hA : hJ 0 N (N + 72) A A) (hN : N ≤ 800000) (hI : hI0 A) (a1 : Int32) : hxC 26 92 hm_m92 [.ref 1, .int a1] A (fun r A1 => ∃ z : Int32, r = some (.int z) ∧ hxC 26 205 hm_m205 [.ref 368, .int a1] A1 (fun r2 A2 => ∃ z2 : Int32, r2 = some (.int z2) ∧ ∃ N' : Int, N' ≤ N + 144 ∧ hJ 0 N' (N' + 72) A2 A2 ∧ hI0 A2)) := by
  refine hxC.post (hX92 (d := 19) hA a1) ?_
  rintro _ A1 ⟨hA1, z1, rfl⟩
  refine ⟨z1, rfl, ?_⟩
  refine hxC.post (hX205 (d := 19) hA1 (by omega) a1) ?_
  rintro _ A2 ⟨hA2, z2, rfl⟩
  exact ⟨z2, rfl, N + 72, by omega, hJ.mono (hJ.self hA2) (by omega) (by omega), hI.fr hA2.2.2.1⟩
theorem hpr_sendFor {N : Int} {A : hs_A} (hA : hJ 0 N (N + 72) A A) (hN : N ≤ 800000) (hI : hI0 A) (a1 : Int32) : hxC 26 93 hm_m93 [.ref 1, .int a1] A (fun r A1 => ∃ z : Int32, r = some (.int z) ∧ hxC 26 206 hm_m206 [.ref 368, .int a1] A1 (fun r2 A2 => ∃ z2 : Int32, r2 = some (.int z2) ∧ ∃ N' : Int, N' ≤ N + 144 ∧ hJ 0 N' (N' + 72) A2 A2 ∧ hI0 A2)) := by
  refine hxC.post (hX93 (d := 19) hA a1) ?_
  rintro _ A1 ⟨hA1, z1, rfl⟩
  refine ⟨z1, rfl, ?_⟩
  refine hxC.post (hX206 (d := 18) hA1 (by omega) a1) ?_
  rintro _ A2 ⟨hA2, z2, rfl⟩
  exact ⟨z2, rfl, N + 72, by omega, hJ.mono (hJ.self hA2) (by omega) (by omega), hI.fr hA2.2.2.1⟩
theorem hpr_apart {N : Int} {A : hs_A} (hA : hJ 0 N (N + 72) A A) (hN : N ≤ 800000) (hI : hI0 A) (a1 : Int32) : hxC 26 94 hm_m94 [.ref 1, .int a1] A (fun r A1 => ∃ z : Int32, r = some (.int z) ∧ hxC 26 207 hm_m207 [.ref 368, .int a1] A1 (fun r2 A2 => ∃ z2 : Int32, r2 = some (.int z2) ∧ ∃ N' : Int, N' ≤ N + 144 ∧ hJ 0 N' (N' + 72) A2 A2 ∧ hI0 A2)) := by
  refine hxC.post (hX94 (d := 19) hA a1) ?_
  rintro _ A1 ⟨hA1, z1, rfl⟩
  refine ⟨z1, rfl, ?_⟩
  refine hxC.post (hX207 (d := 18) hA1 (by omega) a1) ?_
  rintro _ A2 ⟨hA2, z2, rfl⟩
  exact ⟨z2, rfl, N + 72, by omega, hJ.mono (hJ.self hA2) (by omega) (by omega), hI.fr hA2.2.2.1⟩
theorem hpr_code {N : Int} {A : hs_A} (hA : hJ 0 N (N + 72) A A) (hN : N ≤ 800000) (hI : hI0 A) (a1 : Int32) (a2 : Int32) (a3 : Int32) : hxC 26 95 hm_m95 [.ref 1, .int a1, .int a2, .int a3] A (fun r A1 => ∃ z : Int32, r = some (.int z) ∧ hxC 26 208 hm_m208 [.ref 368, .int a1, .int a2, .int a3] A1 (fun r2 A2 => ∃ z2 : Int32, r2 = some (.int z2) ∧ ∃ N' : Int, N' ≤ N + 144 ∧ hJ 0 N' (N' + 72) A2 A2 ∧ hI0 A2)) := by
  refine hxC.post (hX95 (d := 19) hA a1 a2 a3) ?_
  rintro _ A1 ⟨hA1, z1, rfl⟩
  refine ⟨z1, rfl, ?_⟩
  refine hxC.post (hX208 (d := 18) hA1 (by omega) a1 a2 a3) ?_
  rintro _ A2 ⟨hA2, z2, rfl⟩
  exact ⟨z2, rfl, N + 72, by omega, hJ.mono (hJ.self hA2) (by omega) (by omega), hI.fr hA2.2.2.1⟩
theorem hpr_lost {N : Int} {A : hs_A} (hA : hJ 0 N (N + 72) A A) (hN : N ≤ 800000) (hI : hI0 A) (a1 : Int32) : hxC 26 97 hm_m97 [.ref 1, .int a1] A (fun r A1 => ∃ z : Int32, r = some (.int z) ∧ hxC 26 209 hm_m209 [.ref 368, .int a1] A1 (fun r2 A2 => ∃ z2 : Int32, r2 = some (.int z2) ∧ ∃ N' : Int, N' ≤ N + 144 ∧ hJ 0 N' (N' + 72) A2 A2 ∧ hI0 A2)) := by
  refine hxC.post (hX97 (d := 19) hA a1) ?_
  rintro _ A1 ⟨hA1, z1, rfl⟩
  refine ⟨z1, rfl, ?_⟩
  refine hxC.post (hX209 (d := 19) hA1 (by omega) a1) ?_
  rintro _ A2 ⟨hA2, z2, rfl⟩
  exact ⟨z2, rfl, N + 72, by omega, hJ.mono (hJ.self hA2) (by omega) (by omega), hI.fr hA2.2.2.1⟩
theorem hpr_between {N : Int} {A : hs_A} (hA : hJ 0 N (N + 72) A A) (hN : N ≤ 800000) (hI : hI0 A) (a1 : Int32) (a2 : Int32) (a3 : Int32) : hxC 26 98 hm_m98 [.ref 1, .int a1, .int a2, .int a3] A (fun r A1 => ∃ z : Int32, r = some (.int z) ∧ hxC 26 210 hm_m210 [.ref 368, .int a1, .int a2, .int a3] A1 (fun r2 A2 => ∃ z2 : Int32, r2 = some (.int z2) ∧ ∃ N' : Int, N' ≤ N + 144 ∧ hJ 0 N' (N' + 72) A2 A2 ∧ hI0 A2)) := by
  refine hxC.post (hX98 (d := 19) hA a1 a2 a3) ?_
  rintro _ A1 ⟨hA1, z1, rfl⟩
  refine ⟨z1, rfl, ?_⟩
  refine hxC.post (hX210 (d := 19) hA1 (by omega) a1 a2 a3) ?_
  rintro _ A2 ⟨hA2, z2, rfl⟩
  exact ⟨z2, rfl, N + 72, by omega, hJ.mono (hJ.self hA2) (by omega) (by omega), hI.fr hA2.2.2.1⟩
theorem hpr_widest {N : Int} {A : hs_A} (hA : hJ 0 N (N + 72) A A) (hN : N ≤ 800000) (hI : hI0 A) (a1 : Int32) (a2 : Int32) : hxC 26 99 hm_m99 [.ref 1, .int a1, .int a2] A (fun r A1 => ∃ z : Int32, r = some (.int z) ∧ hxC 26 211 hm_m211 [.ref 368, .int a1, .int a2] A1 (fun r2 A2 => ∃ z2 : Int32, r2 = some (.int z2) ∧ ∃ N' : Int, N' ≤ N + 144 ∧ hJ 0 N' (N' + 72) A2 A2 ∧ hI0 A2)) := by
  refine hxC.post (hX99 (d := 19) hA a1 a2) ?_
  rintro _ A1 ⟨hA1, z1, rfl⟩
  refine ⟨z1, rfl, ?_⟩
  refine hxC.post (hX211 (d := 18) hA1 (by omega) a1 a2) ?_
  rintro _ A2 ⟨hA2, z2, rfl⟩
  exact ⟨z2, rfl, N + 72, by omega, hJ.mono (hJ.self hA2) (by omega) (by omega), hI.fr hA2.2.2.1⟩
theorem hpr_same {N : Int} {A : hs_A} (hA : hJ 0 N (N + 72) A A) (hN : N ≤ 800000) (hI : hI0 A) (a1 : Int32) (a2 : Int32) : hxC 26 100 hm_m100 [.ref 1, .int a1, .int a2] A (fun r A1 => ∃ z : Int32, r = some (.int z) ∧ hxC 26 212 hm_m212 [.ref 368, .int a1, .int a2] A1 (fun r2 A2 => ∃ z2 : Int32, r2 = some (.int z2) ∧ ∃ N' : Int, N' ≤ N + 144 ∧ hJ 0 N' (N' + 72) A2 A2 ∧ hI0 A2)) := by
  refine hxC.post (hX100 (d := 19) hA a1 a2) ?_
  rintro _ A1 ⟨hA1, z1, rfl⟩
  refine ⟨z1, rfl, ?_⟩
  refine hxC.post (hX212 (d := 18) hA1 (by omega) a1 a2) ?_
  rintro _ A2 ⟨hA2, z2, rfl⟩
  exact ⟨z2, rfl, N + 72, by omega, hJ.mono (hJ.self hA2) (by omega) (by omega), hI.fr hA2.2.2.1⟩
theorem hpr_itself {N : Int} {A : hs_A} (hA : hJ 0 N (N + 72) A A) (hN : N ≤ 800000) (hI : hI0 A) (a1 : Int32) : hxC 26 101 hm_m101 [.ref 1, .int a1] A (fun r A1 => ∃ z : Int32, r = some (.int z) ∧ hxC 26 213 hm_m213 [.ref 368, .int a1] A1 (fun r2 A2 => ∃ z2 : Int32, r2 = some (.int z2) ∧ ∃ N' : Int, N' ≤ N + 144 ∧ hJ 0 N' (N' + 72) A2 A2 ∧ hI0 A2)) := by
  refine hxC.post (hX101 (d := 19) hA a1) ?_
  rintro _ A1 ⟨hA1, z1, rfl⟩
  refine ⟨z1, rfl, ?_⟩
  refine hxC.post (hX213 (d := 19) hA1 (by omega) a1) ?_
  rintro _ A2 ⟨hA2, z2, rfl⟩
  exact ⟨z2, rfl, N + 72, by omega, hJ.mono (hJ.self hA2) (by omega) (by omega), hI.fr hA2.2.2.1⟩
theorem hpr_times {N : Int} {A : hs_A} (hA : hJ 0 N (N + 72) A A) (hN : N ≤ 800000) (hI : hI0 A) (a1 : Int32) (a2 : Int32) : hxC 26 102 hm_m102 [.ref 1, .int a1, .int a2] A (fun r A1 => ∃ z : Int32, r = some (.int z) ∧ hxC 26 216 hm_m216 [.ref 368, .int a1, .int a2] A1 (fun r2 A2 => ∃ z2 : Int32, r2 = some (.int z2) ∧ ∃ N' : Int, N' ≤ N + 144 ∧ hJ 0 N' (N' + 72) A2 A2 ∧ hI0 A2)) := by
  refine hxC.post (hX102 (d := 20) hA a1 a2) ?_
  rintro _ A1 ⟨hA1, z1, rfl⟩
  refine ⟨z1, rfl, ?_⟩
  refine hxC.post (hX216 (d := 19) hA1 (by omega) a1 a2) ?_
  rintro _ A2 ⟨hA2, z2, rfl⟩
  exact ⟨z2, rfl, N + 72, by omega, hJ.mono (hJ.self hA2) (by omega) (by omega), hI.fr hA2.2.2.1⟩
theorem hpr_bestHour {N : Int} {A : hs_A} (hA : hJ 0 N (N + 72) A A) (hN : N ≤ 800000) (hI : hI0 A) (a1 : Int32) (a2 : Int32) : hxC 26 105 hm_m105 [.ref 1, .int a1, .int a2] A (fun r A1 => ∃ z : Int32, r = some (.int z) ∧ hxC 26 217 hm_m217 [.ref 368, .int a1, .int a2] A1 (fun r2 A2 => ∃ z2 : Int32, r2 = some (.int z2) ∧ ∃ N' : Int, N' ≤ N + 144 ∧ hJ 0 N' (N' + 72) A2 A2 ∧ hI0 A2)) := by
  refine hxC.post (hX105 (d := 21) hA a1 a2) ?_
  rintro _ A1 ⟨hA1, z1, rfl⟩
  refine ⟨z1, rfl, ?_⟩
  refine hxC.post (hX217 (d := 19) hA1 (by omega) a1 a2) ?_
  rintro _ A2 ⟨hA2, z2, rfl⟩
  exact ⟨z2, rfl, N + 72, by omega, hJ.mono (hJ.self hA2) (by omega) (by omega), hI.fr hA2.2.2.1⟩
theorem hpr_breakAt {N : Int} {A : hs_A} (hA : hJ 0 N (N + 72) A A) (hN : N ≤ 800000) (hI : hI0 A) (a1 : Int32) : hxC 26 106 hm_m106 [.ref 1, .int a1] A (fun r A1 => ∃ z : Int32, r = some (.int z) ∧ hxC 26 218 hm_m218 [.ref 368, .int a1] A1 (fun r2 A2 => ∃ z2 : Int32, r2 = some (.int z2) ∧ ∃ N' : Int, N' ≤ N + 144 ∧ hJ 0 N' (N' + 72) A2 A2 ∧ hI0 A2)) := by
  refine hxC.post (hX106 (d := 22) hA a1) ?_
  rintro _ _ ⟨rfl, z1, rfl⟩
  refine ⟨z1, rfl, ?_⟩
  refine hxC.post (hX218 (d := 23) hA (by omega) a1) ?_
  rintro _ A2 ⟨hA2, z2, rfl⟩
  exact ⟨z2, rfl, N + 72, by omega, hJ.mono (hJ.self hA2) (by omega) (by omega), hI.fr hA2.2.2.1⟩
theorem hpr_loudest {N : Int} {A : hs_A} (hA : hJ 0 N (N + 72) A A) (hN : N ≤ 800000) (hI : hI0 A) (a1 : Int32) (a2 : Int32) : hxC 26 108 hm_m108 [.ref 1, .int a1, .int a2] A (fun r A1 => ∃ z : Int32, r = some (.int z) ∧ hxC 26 219 hm_m219 [.ref 368, .int a1, .int a2] A1 (fun r2 A2 => ∃ z2 : Int32, r2 = some (.int z2) ∧ ∃ N' : Int, N' ≤ N + 144 ∧ hJ 0 N' (N' + 72) A2 A2 ∧ hI0 A2)) := by
  refine hxC.post (hX108 (d := 20) hA a1 a2) ?_
  rintro _ A1 ⟨hA1, z1, rfl⟩
  refine ⟨z1, rfl, ?_⟩
  refine hxC.post (hX219 (d := 20) hA1 (by omega) a1 a2) ?_
  rintro _ A2 ⟨hA2, z2, rfl⟩
  exact ⟨z2, rfl, N + 72, by omega, hJ.mono (hJ.self hA2) (by omega) (by omega), hI.fr hA2.2.2.1⟩
theorem hpr_warm {N : Int} {A : hs_A} (hA : hJ 0 N (N + 72) A A) (hN : N ≤ 800000) (hI : hI0 A) (a1 : Int32) : hxC 26 110 hm_m110 [.ref 1, .int a1] A (fun r A1 => ∃ z : Int32, r = some (.int z) ∧ hxC 26 220 hm_m220 [.ref 368, .int a1] A1 (fun r2 A2 => ∃ z2 : Int32, r2 = some (.int z2) ∧ ∃ N' : Int, N' ≤ N + 144 ∧ hJ 0 N' (N' + 72) A2 A2 ∧ hI0 A2)) := by
  refine hxC.post (hX110 (d := 20) hA a1) ?_
  rintro _ A1 ⟨hA1, z1, rfl⟩
  refine ⟨z1, rfl, ?_⟩
  refine hxC.post (hX220 (d := 19) hA1 (by omega) a1) ?_
  rintro _ A2 ⟨hA2, z2, rfl⟩
  exact ⟨z2, rfl, N + 72, by omega, hJ.mono (hJ.self hA2) (by omega) (by omega), hI.fr hA2.2.2.1⟩
theorem hpr_lives {N : Int} {A : hs_A} (hA : hJ 0 N (N + 72) A A) (hN : N ≤ 800000) (hI : hI0 A) (a1 : Int32) : hxC 26 111 hm_m111 [.ref 1, .int a1] A (fun r A1 => ∃ z : Int32, r = some (.int z) ∧ hxC 26 221 hm_m221 [.ref 368, .int a1] A1 (fun r2 A2 => ∃ z2 : Int32, r2 = some (.int z2) ∧ ∃ N' : Int, N' ≤ N + 144 ∧ hJ 0 N' (N' + 72) A2 A2 ∧ hI0 A2)) := by
  refine hxC.post (hX111 (d := 25) hA a1) ?_
  rintro _ _ ⟨rfl, z1, rfl⟩
  refine ⟨z1, rfl, ?_⟩
  refine hxC.post (hX221 (d := 25) hA a1) ?_
  rintro _ _ ⟨rfl, z2, rfl⟩
  exact ⟨z2, rfl, N + 72, by omega, hJ.mono (hJ.self hA) (by omega) (by omega), hI.fr hA.2.2.1⟩
theorem hpr_warmth {N : Int} {A : hs_A} (hA : hJ 0 N (N + 72) A A) (hN : N ≤ 800000) (hI : hI0 A) (a1 : Int32) : hxC 26 112 hm_m112 [.ref 1, .int a1] A (fun r A1 => ∃ z : Int32, r = some (.int z) ∧ hxC 26 222 hm_m222 [.ref 368, .int a1] A1 (fun r2 A2 => ∃ z2 : Int32, r2 = some (.int z2) ∧ ∃ N' : Int, N' ≤ N + 144 ∧ hJ 0 N' (N' + 72) A2 A2 ∧ hI0 A2)) := by
  refine hxC.post (hX112 (d := 21) hA a1) ?_
  rintro _ A1 ⟨hA1, z1, rfl⟩
  refine ⟨z1, rfl, ?_⟩
  refine hxC.post (hX222 (d := 20) hA1 (by omega) a1) ?_
  rintro _ A2 ⟨hA2, z2, rfl⟩
  exact ⟨z2, rfl, N + 72, by omega, hJ.mono (hJ.self hA2) (by omega) (by omega), hI.fr hA2.2.2.1⟩
theorem hpr_then {N : Int} {A : hs_A} (hA : hJ 0 N (N + 72) A A) (hN : N ≤ 800000) (hI : hI0 A) (a1 : Int32) (a2 : Int32) (a3 : Int32) : hxC 26 113 hm_m113 [.ref 1, .int a1, .int a2, .int a3] A (fun r A1 => ∃ z : Int32, r = some (.int z) ∧ hxC 26 223 hm_m223 [.ref 368, .int a1, .int a2, .int a3] A1 (fun r2 A2 => ∃ z2 : Int32, r2 = some (.int z2) ∧ ∃ N' : Int, N' ≤ N + 144 ∧ hJ 0 N' (N' + 72) A2 A2 ∧ hI0 A2)) := by
  refine hxC.post (hX113 (d := 20) hA a1 a2 a3) ?_
  rintro _ A1 ⟨hA1, z1, rfl⟩
  refine ⟨z1, rfl, ?_⟩
  refine hxC.post (hX223 (d := 19) hA1 (by omega) a1 a2 a3) ?_
  rintro _ A2 ⟨hA2, z2, rfl⟩
  exact ⟨z2, rfl, N + 72, by omega, hJ.mono (hJ.self hA2) (by omega) (by omega), hI.fr hA2.2.2.1⟩
theorem hpr_quiet {N : Int} {A : hs_A} (hA : hJ 0 N (N + 72) A A) (hN : N ≤ 800000) (hI : hI0 A) (a1 : Int32) (a2 : Int32) : hxC 26 114 hm_m114 [.ref 1, .int a1, .int a2] A (fun r A1 => ∃ z : Int32, r = some (.int z) ∧ hxC 26 224 hm_m224 [.ref 368, .int a1, .int a2] A1 (fun r2 A2 => ∃ z2 : Int32, r2 = some (.int z2) ∧ ∃ N' : Int, N' ≤ N + 144 ∧ hJ 0 N' (N' + 72) A2 A2 ∧ hI0 A2)) := by
  refine hxC.post (hX114 (d := 21) hA a1 a2) ?_
  rintro _ A1 ⟨hA1, z1, rfl⟩
  refine ⟨z1, rfl, ?_⟩
  refine hxC.post (hX224 (d := 20) hA1 (by omega) a1 a2) ?_
  rintro _ A2 ⟨hA2, z2, rfl⟩
  exact ⟨z2, rfl, N + 72, by omega, hJ.mono (hJ.self hA2) (by omega) (by omega), hI.fr hA2.2.2.1⟩
theorem hpr_mourn {N : Int} {A : hs_A} (hA : hJ 0 N (N + 72) A A) (hN : N ≤ 800000) (hI : hI0 A) (a1 : Int32) : hxC 26 115 hm_m115 [.ref 1, .int a1] A (fun r A1 => ∃ z : Int32, r = some (.int z) ∧ hxC 26 226 hm_m226 [.ref 368, .int a1] A1 (fun r2 A2 => ∃ z2 : Int32, r2 = some (.int z2) ∧ ∃ N' : Int, N' ≤ N + 144 ∧ hJ 0 N' (N' + 72) A2 A2 ∧ hI0 A2)) := by
  refine hxC.post (hX115 (d := 20) hA a1) ?_
  rintro _ A1 ⟨hA1, z1, rfl⟩
  refine ⟨z1, rfl, ?_⟩
  refine hxC.post (hX226 (d := 19) hA1 (by omega) a1) ?_
  rintro _ A2 ⟨hA2, z2, rfl⟩
  exact ⟨z2, rfl, N + 72, by omega, hJ.mono (hJ.self hA2) (by omega) (by omega), hI.fr hA2.2.2.1⟩
theorem hpr_carryBest {N : Int} {A : hs_A} (hA : hJ 0 N (N + 72) A A) (hN : N ≤ 800000) (hI : hI0 A) (a1 : Int32) : hxC 26 116 hm_m116 [.ref 1, .int a1] A (fun r A1 => ∃ z : Int32, r = some (.int z) ∧ hxC 26 227 hm_m227 [.ref 368, .int a1] A1 (fun r2 A2 => ∃ z2 : Int32, r2 = some (.int z2) ∧ ∃ N' : Int, N' ≤ N + 144 ∧ hJ 0 N' (N' + 72) A2 A2 ∧ hI0 A2)) := by
  refine hxC.post (hX116 (d := 24) hA a1) ?_
  rintro _ _ ⟨rfl, z1, rfl⟩
  refine ⟨z1, rfl, ?_⟩
  refine hxC.post (hX227 (d := 24) hA a1) ?_
  rintro _ _ ⟨rfl, z2, rfl⟩
  exact ⟨z2, rfl, N + 72, by omega, hJ.mono (hJ.self hA) (by omega) (by omega), hI.fr hA.2.2.1⟩
theorem hpr_needs {N : Int} {A : hs_A} (hA : hJ 0 N (N + 72) A A) (hN : N ≤ 800000) (hI : hI0 A) (a1 : Int32) : hxC 26 117 hm_m117 [.ref 1, .int a1] A (fun r A1 => ∃ z : Int32, r = some (.int z) ∧ hxC 26 228 hm_m228 [.ref 368, .int a1] A1 (fun r2 A2 => ∃ z2 : Int32, r2 = some (.int z2) ∧ ∃ N' : Int, N' ≤ N + 144 ∧ hJ 0 N' (N' + 72) A2 A2 ∧ hI0 A2)) := by
  refine hxC.post (hX117 (d := 24) hA a1) ?_
  rintro _ _ ⟨rfl, z1, rfl⟩
  refine ⟨z1, rfl, ?_⟩
  refine hxC.post (hX228 (d := 23) hA a1) ?_
  rintro _ _ ⟨rfl, z2, rfl⟩
  exact ⟨z2, rfl, N + 72, by omega, hJ.mono (hJ.self hA) (by omega) (by omega), hI.fr hA.2.2.1⟩
theorem hpr_changeBest {N : Int} {A : hs_A} (hA : hJ 0 N (N + 72) A A) (hN : N ≤ 800000) (hI : hI0 A) (a1 : Int32) : hxC 26 118 hm_m118 [.ref 1, .int a1] A (fun r A1 => ∃ z : Int32, r = some (.int z) ∧ hxC 26 229 hm_m229 [.ref 368, .int a1] A1 (fun r2 A2 => ∃ z2 : Int32, r2 = some (.int z2) ∧ ∃ N' : Int, N' ≤ N + 144 ∧ hJ 0 N' (N' + 72) A2 A2 ∧ hI0 A2)) := by
  refine hxC.post (hX118 (d := 20) hA a1) ?_
  rintro _ A1 ⟨hA1, z1, rfl⟩
  refine ⟨z1, rfl, ?_⟩
  refine hxC.post (hX229 (d := 19) hA1 (by omega) a1) ?_
  rintro _ A2 ⟨hA2, z2, rfl⟩
  exact ⟨z2, rfl, N + 72, by omega, hJ.mono (hJ.self hA2) (by omega) (by omega), hI.fr hA2.2.2.1⟩
theorem hpr_off {N : Int} {A : hs_A} (hA : hJ 0 N (N + 72) A A) (hN : N ≤ 800000) (hI : hI0 A) (a1 : Int32) : hxC 26 120 hm_m120 [.ref 1, .int a1] A (fun r A1 => ∃ z : Int32, r = some (.int z) ∧ hxC 26 230 hm_m230 [.ref 368, .int a1] A1 (fun r2 A2 => ∃ z2 : Int32, r2 = some (.int z2) ∧ ∃ N' : Int, N' ≤ N + 144 ∧ hJ 0 N' (N' + 72) A2 A2 ∧ hI0 A2)) := by
  refine hxC.post (hX120 (d := 24) hA a1) ?_
  rintro _ _ ⟨rfl, z1, rfl⟩
  refine ⟨z1, rfl, ?_⟩
  refine hxC.post (hX230 (d := 23) hA a1) ?_
  rintro _ _ ⟨rfl, z2, rfl⟩
  exact ⟨z2, rfl, N + 72, by omega, hJ.mono (hJ.self hA) (by omega) (by omega), hI.fr hA.2.2.1⟩
theorem hpr_year {N : Int} {A : hs_A} (hA : hJ 0 N (N + 72) A A) (hN : N ≤ 800000) (hI : hI0 A) (a1 : Int32) (a2 : Int32) (a3 : Int32) : hxC 26 121 hm_m121 [.ref 1, .int a1, .int a2, .int a3] A (fun r A1 => ∃ z : Int32, r = some (.int z) ∧ hxC 26 231 hm_m231 [.ref 368, .int a1, .int a2, .int a3] A1 (fun r2 A2 => ∃ z2 : Int32, r2 = some (.int z2) ∧ ∃ N' : Int, N' ≤ N + 144 ∧ hJ 0 N' (N' + 72) A2 A2 ∧ hI0 A2)) := by
  refine hxC.post (hX121 (d := 20) hA a1 a2 a3) ?_
  rintro _ A1 ⟨hA1, z1, rfl⟩
  refine ⟨z1, rfl, ?_⟩
  refine hxC.post (hX231 (d := 19) hA1 (by omega) a1 a2 a3) ?_
  rintro _ A2 ⟨hA2, z2, rfl⟩
  exact ⟨z2, rfl, N + 72, by omega, hJ.mono (hJ.self hA2) (by omega) (by omega), hI.fr hA2.2.2.1⟩
theorem hpr_tell {N : Int} {A : hs_A} (hA : hJ 0 N (N + 72) A A) (hN : N ≤ 800000) (hI : hI0 A) (a1 : Int32) (a2 : Int32) : hxC 26 122 hm_m122 [.ref 1, .int a1, .int a2] A (fun r A1 => ∃ z : Int32, r = some (.int z) ∧ hxC 26 232 hm_m232 [.ref 368, .int a1, .int a2] A1 (fun r2 A2 => ∃ z2 : Int32, r2 = some (.int z2) ∧ ∃ N' : Int, N' ≤ N + 144 ∧ hJ 0 N' (N' + 72) A2 A2 ∧ hI0 A2)) := by
  refine hxC.post (hX122 (d := 24) hA a1 a2) ?_
  rintro _ A1 ⟨hA1, z1, rfl⟩
  refine ⟨z1, rfl, ?_⟩
  refine hxC.post (hX232 (d := 23) hA1 (by omega) a1 a2) ?_
  rintro _ A2 ⟨hA2, z2, rfl⟩
  exact ⟨z2, rfl, N + 72, by omega, hJ.mono (hJ.self hA2) (by omega) (by omega), hI.fr hA2.2.2.1⟩
theorem hpr_forget {N : Int} {A : hs_A} (hA : hJ 0 N (N + 72) A A) (hN : N ≤ 800000) (hI : hI0 A)  : hxC 26 123 hm_m123 [.ref 1] A (fun r A1 => ∃ z : Int32, r = some (.int z) ∧ hxC 26 233 hm_m233 [.ref 368] A1 (fun r2 A2 => ∃ z2 : Int32, r2 = some (.int z2) ∧ ∃ N' : Int, N' ≤ N + 144 ∧ hJ 0 N' (N' + 72) A2 A2 ∧ hI0 A2)) := by
  refine hxC.post (hX123 (d := 25) hA ) ?_
  rintro _ A1 ⟨hA1, z1, rfl⟩
  refine ⟨z1, rfl, ?_⟩
  refine hxC.post (hX233 (d := 25) hA1 (by omega) ) ?_
  rintro _ A2 ⟨hA2, z2, rfl⟩
  exact ⟨z2, rfl, N + 72, by omega, hJ.mono (hJ.self hA2) (by omega) (by omega), hI.fr hA2.2.2.1⟩
theorem hpr_sent {N : Int} {A : hs_A} (hA : hJ 0 N (N + 72) A A) (hN : N ≤ 800000) (hI : hI0 A) (a1 : Int32) (a2 : Int32) : hxC 26 125 hm_m125 [.ref 1, .int a1, .int a2] A (fun r A1 => ∃ z : Int32, r = some (.int z) ∧ hxC 26 235 hm_m235 [.ref 368, .int a1, .int a2] A1 (fun r2 A2 => ∃ z2 : Int32, r2 = some (.int z2) ∧ ∃ N' : Int, N' ≤ N + 144 ∧ hJ 0 N' (N' + 72) A2 A2 ∧ hI0 A2)) := by
  refine hxC.post (hX125 (d := 18) hA a1 a2) ?_
  rintro _ A1 ⟨hA1, z1, rfl⟩
  refine ⟨z1, rfl, ?_⟩
  refine hxC.post (hX235 (d := 18) hA1 (by omega) a1 a2) ?_
  rintro _ A2 ⟨hA2, z2, rfl⟩
  exact ⟨z2, rfl, N + 72, by omega, hJ.mono (hJ.self hA2) (by omega) (by omega), hI.fr hA2.2.2.1⟩
theorem hpr_listen {N : Int} {A : hs_A} (hA : hJ 0 N (N + 72) A A) (hN : N ≤ 800000) (hI : hI0 A) (a1 : Int32) : hxC 26 126 hm_m126 [.ref 1, .int a1] A (fun r A1 => ∃ z : Int32, r = some (.int z) ∧ hxC 26 237 hm_m237 [.ref 368, .int a1] A1 (fun r2 A2 => ∃ z2 : Int32, r2 = some (.int z2) ∧ ∃ N' : Int, N' ≤ N + 144 ∧ hJ 0 N' (N' + 72) A2 A2 ∧ hI0 A2)) := by
  refine hxC.post (hX126 (d := 18) hA a1) ?_
  rintro _ A1 ⟨hA1, z1, rfl⟩
  refine ⟨z1, rfl, ?_⟩
  refine hxC.post (hX237 (d := 18) hA1 (by omega) a1) ?_
  rintro _ A2 ⟨hA2, z2, rfl⟩
  exact ⟨z2, rfl, N + 72, by omega, hJ.mono (hJ.self hA2) (by omega) (by omega), hI.fr hA2.2.2.1⟩
theorem hpr_hold {N : Int} {A : hs_A} (hA : hJ 0 N (N + 72) A A) (hN : N ≤ 800000) (hI : hI0 A) (a1 : Int32) : hxC 26 128 hm_m128 [.ref 1, .int a1] A (fun r A1 => ∃ z : Int32, r = some (.int z) ∧ hxC 26 238 hm_m238 [.ref 368, .int a1] A1 (fun r2 A2 => ∃ z2 : Int32, r2 = some (.int z2) ∧ ∃ N' : Int, N' ≤ N + 144 ∧ hJ 0 N' (N' + 72) A2 A2 ∧ hI0 A2)) := by
  refine hxC.post (hX128 (d := 24) hA a1) ?_
  rintro _ A1 ⟨hA1, z1, rfl, _⟩
  refine ⟨z1, rfl, ?_⟩
  refine hxC.post (hX238 (d := 24) hA1 (by omega) a1) ?_
  rintro _ A2 ⟨hA2, z2, rfl, _⟩
  exact ⟨z2, rfl, N + 72, by omega, hJ.mono (hJ.self hA2) (by omega) (by omega), hI.fr hA2.2.2.1⟩
theorem hpr_restore {N : Int} {A : hs_A} (hA : hJ 0 N (N + 72) A A) (hN : N ≤ 800000) (hI : hI0 A) (a1 : Int32) : hxC 26 129 hm_m129 [.ref 1, .int a1] A (fun r A1 => ∃ z : Int32, r = some (.int z) ∧ hxC 26 239 hm_m239 [.ref 368, .int a1] A1 (fun r2 A2 => ∃ z2 : Int32, r2 = some (.int z2) ∧ ∃ N' : Int, N' ≤ N + 144 ∧ hJ 0 N' (N' + 72) A2 A2 ∧ hI0 A2)) := by
  refine hxC.post (hX129 (d := 24) hA a1) ?_
  rintro _ A1 ⟨hA1, z1, rfl, _⟩
  refine ⟨z1, rfl, ?_⟩
  refine hxC.post (hX239 (d := 24) hA1 (by omega) a1) ?_
  rintro _ A2 ⟨hA2, z2, rfl, _⟩
  exact ⟨z2, rfl, N + 72, by omega, hJ.mono (hJ.self hA2) (by omega) (by omega), hI.fr hA2.2.2.1⟩
theorem hpr_count {N : Int} {A : hs_A} (hA : hJ 0 N (N + 72) A A) (hN : N ≤ 800000) (hI : hI0 A) (a1 : Int32) : hxC 26 130 hm_m130 [.ref 1, .int a1] A (fun r A1 => ∃ z : Int32, r = some (.int z) ∧ hxC 26 241 hm_m241 [.ref 368, .int a1] A1 (fun r2 A2 => ∃ z2 : Int32, r2 = some (.int z2) ∧ ∃ N' : Int, N' ≤ N + 144 ∧ hJ 0 N' (N' + 72) A2 A2 ∧ hI0 A2)) := by
  refine hxC.post (hX130 (d := 23) hA a1) ?_
  rintro _ _ ⟨rfl, z1, rfl⟩
  refine ⟨z1, rfl, ?_⟩
  refine hxC.post (hX241 (d := 23) hA (by omega) a1) ?_
  rintro _ A2 ⟨hA2, z2, rfl⟩
  exact ⟨z2, rfl, N + 72, by omega, hJ.mono (hJ.self hA2) (by omega) (by omega), hI.fr hA2.2.2.1⟩
