theorem hpb_feed {N : Int} {A : hs_A} (hA : hJ 0 N (N + 72) A A) (hN : N ≤ 800000) (hI : hIB A) (a1 : Int32) (a2 : Int32) (a3 : Int32) (a4 : Int32) (a5 : Int32) : hxC 26 70 hm_m70 [.ref 1, .int a1, .int a2, .int a3, .int a4, .int a5] A (fun r A1 => ∃ z : Int32, r = some (.int z) ∧ hxC 26 133 hm_m133 [.ref 368, .int a1, .int a2, .int a3, .int a4, .int a5] A1 (fun r2 A2 => ∃ z2 : Int32, r2 = some (.int z2) ∧ z = z2 ∧ ∃ N' : Int, N' ≤ N + 144 ∧ hJ 0 N' (N' + 72) A2 A2 ∧ hIB A2)) := by
  obtain ⟨⟨⟨⟨i1, i2, i3⟩, iH, iP⟩, hHD⟩, hHS, hTD⟩ := hI
  have h10 := hJ.to10 hA
  have bl := hbok.get (hA.1.1 0 1) rfl
  obtain ⟨n, hn⟩ : ∃ n : Nat, (A.1 0 1).toInt = (n : Int) := ⟨(A.1 0 1).toInt.toNat, by omega⟩
  refine hxC.post (uf_k70 iH a1 a2 a3 a4 a5 (hxC.and (g := 0) (hX70q10 (d := 24) h10 a1 a2 a3 a4 a5) (fun g => hP70 a1 a2 a3 a4 a5 hn (by omega)))) ?_
  rintro _ A1 ⟨⟨⟨h1, r1, z, rfl, f1⟩, A1v, v1, -, -, tp1, ta1, tl1, fe1⟩, w1, H1⟩
  refine ⟨z, rfl, ?_⟩
  have t1 := congrArg Int32.toInt r1
  refine hxC.post (uf_k133 H1 a1 a2 a3 a4 a5 (hxC.and (g := 0) (hX133q10 (d := 24) h1 a1 a2 a3 a4 a5) (fun g => hP133 (len := n) a1 a2 a3 a4 a5 (by omega) (by omega)))) ?_
  rintro _ A2 ⟨⟨⟨h2, r2, z2, rfl, f2⟩, A2v, v2, -, -, tp2, ta2, tl2, fe2⟩, w2, H2⟩
  have t2 := congrArg Int32.toInt r2
  have PL := hPLk iP w1 w2 (by decide +kernel) (by decide +kernel) (by decide +kernel) (by decide +kernel)
  refine ⟨z2, rfl, Int32.toInt_inj.mp (by omega), N, by omega, (hJ.end10 h2).1, ⟨⟨⟨by omega, v2.U ((v1.U (i2.fr (by rw [tl1]))).fr (by rw [tl2])), fun i hi => ?_⟩, H2, PL⟩, (((hHD.uf w1 (by decide +kernel) (by decide +kernel))).uf w2 (by decide +kernel) (by decide +kernel))⟩, hBk hHS iH H1 w1 w2 (uf_lv hA) (by decide +kernel) (by decide +kernel), hTk hTD w1 w2 (by decide +kernel) (by decide +kernel) (by decide +kernel) (by decide +kernel)⟩
  have bl2 := hbok.get (h2.1.1 0 1) rfl
  obtain ⟨m, hm⟩ : ∃ m : Nat, (A2.1 0 1).toInt = (m : Int) := ⟨(A2.1 0 1).toInt.toNat, by omega⟩
  have hi2 : i < 2000 := by omega
  have q := hf5_al (f := A.2.1 1) (g := A1.2.1 368) (n := n) (m := m) (a := a1) (b := a2) (c := a3) (d := a4) (e := a5) (fun j hj => ⟨by rw [(i3 j (by omega)).1, ← v1.t2 (show j < 2000 by omega), ta1 368 (by omega)], (i3 j (by omega)).2⟩) (by omega) i (by omega)
  have e1 : A2.2.1 1 i = hf5 (A.2.1 1) n a1 a2 a3 a4 a5 i := by rw [← v2.t1 hi2, ta2 1 (by omega), ← v1.t1 hi2, tp1]
  have e2 : A2.2.1 368 i = hf5 (A1.2.1 368) n a1 a2 a3 a4 a5 i := by rw [← v2.t2 hi2, tp2]
  rw [e1, e2]
  exact q
theorem hpb_back {N : Int} {A : hs_A} (hA : hJ 0 N (N + 72) A A) (hN : N ≤ 800000) (hI : hIB A) (a1 : Int32) : hxC 26 72 hm_m72 [.ref 1, .int a1] A (fun r A1 => ∃ z : Int32, r = some (.int z) ∧ hxC 26 135 hm_m135 [.ref 368, .int a1] A1 (fun r2 A2 => ∃ z2 : Int32, r2 = some (.int z2) ∧ z = z2 ∧ ∃ N' : Int, N' ≤ N + 144 ∧ hJ 0 N' (N' + 72) A2 A2 ∧ hIB A2)) := by
  obtain ⟨⟨⟨⟨i1, i2, i3⟩, iH, iP⟩, hHD⟩, hHS, hTD⟩ := hI
  have h10 := hJ.to10 hA
  refine hxC.post (uf_k72 iH a1 (hxC.and (g := 0) (hX72q10 (d := 25) h10 a1) (fun g => hP72 a1))) ?_
  rintro _ A1 ⟨⟨⟨h1, r1, z, rfl, f1⟩, A1v, v1, -, -, fe1, ta1⟩, w1, H1⟩
  refine ⟨z, rfl, ?_⟩
  refine hxC.post (uf_k135 H1 a1 (hxC.and (g := 0) (hX135q10 (d := 25) h1 a1) (fun g => hP135 a1))) ?_
  rintro _ A2 ⟨⟨⟨h2, r2, z2, rfl, f2⟩, A2v, v2, -, -, fe2, ta2⟩, w2, H2⟩
  have t1 := congrArg Int32.toInt r1
  have t2 := congrArg Int32.toInt r2
  have PL := hPLk iP w1 w2 (by decide +kernel) (by decide +kernel) (by decide +kernel) (by decide +kernel)
  refine ⟨z2, rfl, Int32.toInt_inj.mp (by omega), N, by omega, (hJ.end10 h2).1, ⟨⟨⟨by omega, v2.U ((v1.U (i2.fr (by rw [ta1]))).fr (by rw [ta2])), fun i hi => ?_⟩, H2, PL⟩, (((hHD.uf w1 (by decide +kernel) (by decide +kernel))).uf w2 (by decide +kernel) (by decide +kernel))⟩, hBk hHS iH H1 w1 w2 (uf_lv hA) (by decide +kernel) (by decide +kernel), hTk hTD w1 w2 (by decide +kernel) (by decide +kernel) (by decide +kernel) (by decide +kernel)⟩
  have bl := hbok.get (hA.1.1 0 1) rfl
  have hi2 : i < 2000 := by omega
  rw [← v2.t1 hi2, ← v2.t2 hi2, ta2, ← v1.t1 hi2, ← v1.t2 hi2, ta1]
  exact i3 i (by omega)
theorem hpb_place {N : Int} {A : hs_A} (hA : hJ 0 N (N + 72) A A) (hN : N ≤ 800000) (hI : hIB A)  : hxC 26 75 hm_m75 [.ref 1] A (fun r A1 => ∃ z : Int32, r = some (.int z) ∧ hxC 26 151 hm_m151 [.ref 368] A1 (fun r2 A2 => ∃ z2 : Int32, r2 = some (.int z2) ∧ z = z2 ∧ ∃ N' : Int, N' ≤ N + 144 ∧ hJ 0 N' (N' + 72) A2 A2 ∧ hIB A2)) := by
  have bl := hbok.get (hA.1.1 0 1) rfl
  refine hxC.post (hxC.and (g := 0) (hX75 (d := 25) hA) (fun g => hP75)) ?_
  rintro _ _ ⟨⟨rfl, z1, rfl⟩, A1v, v1, -, z1v, e1, f1⟩
  refine ⟨z1, rfl, ?_⟩
  refine hxC.post (hxC.and (g := 0) (hX151 (d := 25) hA) (fun g => hP151)) ?_
  rintro _ _ ⟨⟨rfl, z2, rfl⟩, A2v, v2, -, z2v, e2, f2⟩
  have q1 : z1 = z1v := by injection e1 with e; injection e
  have q2 : z2 = z2v := by injection e2 with e; injection e
  exact ⟨z2, rfl, by rw [q1, q2, f1, f2]; exact hI.1.1.2.2, N + 72, by omega, hJ.mono hA (by omega) (by omega), hI⟩
theorem hpb_house {N : Int} {A : hs_A} (hA : hJ 0 N (N + 72) A A) (hN : N ≤ 800000) (hI : hIB A) (a1 : Int32) (a2 : Int32) : hxC 26 79 hm_m79 [.ref 1, .int a1, .int a2] A (fun r A1 => ∃ z : Int32, r = some (.int z) ∧ hxC 26 188 hm_m188 [.ref 368, .int a1, .int a2] A1 (fun r2 A2 => ∃ z2 : Int32, r2 = some (.int z2) ∧ ∃ N' : Int, N' ≤ N + 144 ∧ hJ 0 N' (N' + 72) A2 A2 ∧ hIB A2)) := by
  have bl := hbok.get (hA.1.1 0 1) rfl
  refine hxC.post (uf_k79 hI.1.1.2.1 a1 a2 (hX79 (d := 22) hA a1 a2)) ?_
  rintro _ A1 ⟨⟨hA1, z1, rfl⟩, wA1, HA1⟩
  refine ⟨z1, rfl, ?_⟩
  refine hxC.post (uf_k188 HA1 a1 a2 (hX188 (d := 22) hA1 (by omega) a1 a2)) ?_
  rintro _ A2 ⟨⟨hA2, z2, rfl⟩, wA2, HA2⟩
  exact ⟨z2, rfl, N + 72, by omega, hJ.mono (hJ.self hA2) (by omega) (by omega), hI.q ((wA1.le (by decide +kernel : ug_wle uw79 uwB = true)).trans (wA2.le (by decide +kernel : ug_wle uw188 uwB = true))) HA2 bl.2 (uf_lv hA)⟩
theorem hpb_passed {N : Int} {A : hs_A} (hA : hJ 0 N (N + 72) A A) (hN : N ≤ 800000) (hI : hIB A) (a1 : Int32) (a2 : Int32) : hxC 26 81 hm_m81 [.ref 1, .int a1, .int a2] A (fun r A1 => ∃ z : Int32, r = some (.int z) ∧ hxC 26 189 hm_m189 [.ref 368, .int a1, .int a2] A1 (fun r2 A2 => ∃ z2 : Int32, r2 = some (.int z2) ∧ ∃ N' : Int, N' ≤ N + 144 ∧ hJ 0 N' (N' + 72) A2 A2 ∧ hIB A2)) := by
  have bl := hbok.get (hA.1.1 0 1) rfl
  refine hxC.post (uf_k81 hI.1.1.2.1 a1 a2 (hX81 (d := 22) hA a1 a2)) ?_
  rintro _ A1 ⟨⟨hA1, z1, rfl⟩, wA1, HA1⟩
  refine ⟨z1, rfl, ?_⟩
  refine hxC.post (uf_k189 HA1 a1 a2 (hX189 (d := 21) hA1 (by omega) a1 a2)) ?_
  rintro _ A2 ⟨⟨hA2, z2, rfl⟩, wA2, HA2⟩
  exact ⟨z2, rfl, N + 72, by omega, hJ.mono (hJ.self hA2) (by omega) (by omega), hI.q ((wA1.le (by decide +kernel : ug_wle uw81 uwB = true)).trans (wA2.le (by decide +kernel : ug_wle uw189 uwB = true))) HA2 bl.2 (uf_lv hA)⟩
theorem hpb_comes {N : Int} {A : hs_A} (hA : hJ 0 N (N + 72) A A) (hN : N ≤ 800000) (hI : hIB A) (a1 : Int32) (a2 : Int32) : hxC 26 91 hm_m91 [.ref 1, .int a1, .int a2] A (fun r A1 => ∃ z : Int32, r = some (.int z) ∧ hxC 26 204 hm_m204 [.ref 368, .int a1, .int a2] A1 (fun r2 A2 => ∃ z2 : Int32, r2 = some (.int z2) ∧ ∃ N' : Int, N' ≤ N + 144 ∧ hJ 0 N' (N' + 72) A2 A2 ∧ hIB A2)) := by
  have bl := hbok.get (hA.1.1 0 1) rfl
  refine hxC.post (uf_k91 hI.1.1.2.1 a1 a2 (hX91 (d := 19) hA a1 a2)) ?_
  rintro _ A1 ⟨⟨hA1, z1, rfl⟩, wA1, HA1⟩
  refine ⟨z1, rfl, ?_⟩
  refine hxC.post (uf_k204 HA1 a1 a2 (hX204 (d := 19) hA1 (by omega) a1 a2)) ?_
  rintro _ A2 ⟨⟨hA2, z2, rfl⟩, wA2, HA2⟩
  exact ⟨z2, rfl, N + 72, by omega, hJ.mono (hJ.self hA2) (by omega) (by omega), hI.q ((wA1.le (by decide +kernel : ug_wle uw91 uwB = true)).trans (wA2.le (by decide +kernel : ug_wle uw204 uwB = true))) HA2 bl.2 (uf_lv hA)⟩
theorem hpb_last {N : Int} {A : hs_A} (hA : hJ 0 N (N + 72) A A) (hN : N ≤ 800000) (hI : hIB A) (a1 : Int32) : hxC 26 92 hm_m92 [.ref 1, .int a1] A (fun r A1 => ∃ z : Int32, r = some (.int z) ∧ hxC 26 205 hm_m205 [.ref 368, .int a1] A1 (fun r2 A2 => ∃ z2 : Int32, r2 = some (.int z2) ∧ ∃ N' : Int, N' ≤ N + 144 ∧ hJ 0 N' (N' + 72) A2 A2 ∧ hIB A2)) := by
  have bl := hbok.get (hA.1.1 0 1) rfl
  refine hxC.post (uf_k92 hI.1.1.2.1 a1 (hX92 (d := 19) hA a1)) ?_
  rintro _ A1 ⟨⟨hA1, z1, rfl⟩, wA1, HA1⟩
  refine ⟨z1, rfl, ?_⟩
  refine hxC.post (uf_k205 HA1 a1 (hX205 (d := 19) hA1 (by omega) a1)) ?_
  rintro _ A2 ⟨⟨hA2, z2, rfl⟩, wA2, HA2⟩
  exact ⟨z2, rfl, N + 72, by omega, hJ.mono (hJ.self hA2) (by omega) (by omega), hI.q ((wA1.le (by decide +kernel : ug_wle uw92 uwB = true)).trans (wA2.le (by decide +kernel : ug_wle uw205 uwB = true))) HA2 bl.2 (uf_lv hA)⟩
theorem hpb_sendFor {N : Int} {A : hs_A} (hA : hJ 0 N (N + 72) A A) (hN : N ≤ 800000) (hI : hIB A) (a1 : Int32) : hxC 26 93 hm_m93 [.ref 1, .int a1] A (fun r A1 => ∃ z : Int32, r = some (.int z) ∧ hxC 26 206 hm_m206 [.ref 368, .int a1] A1 (fun r2 A2 => ∃ z2 : Int32, r2 = some (.int z2) ∧ ∃ N' : Int, N' ≤ N + 144 ∧ hJ 0 N' (N' + 72) A2 A2 ∧ hIB A2)) := by
  have bl := hbok.get (hA.1.1 0 1) rfl
  refine hxC.post (uf_k93 hI.1.1.2.1 a1 (hX93 (d := 19) hA a1)) ?_
  rintro _ A1 ⟨⟨hA1, z1, rfl⟩, wA1, HA1⟩
  refine ⟨z1, rfl, ?_⟩
  refine hxC.post (uf_k206 HA1 a1 (hX206 (d := 18) hA1 (by omega) a1)) ?_
  rintro _ A2 ⟨⟨hA2, z2, rfl⟩, wA2, HA2⟩
  exact ⟨z2, rfl, N + 72, by omega, hJ.mono (hJ.self hA2) (by omega) (by omega), hI.q ((wA1.le (by decide +kernel : ug_wle uw93 uwB = true)).trans (wA2.le (by decide +kernel : ug_wle uw206 uwB = true))) HA2 bl.2 (uf_lv hA)⟩
theorem hpb_apart {N : Int} {A : hs_A} (hA : hJ 0 N (N + 72) A A) (hN : N ≤ 800000) (hI : hIB A) (a1 : Int32) : hxC 26 94 hm_m94 [.ref 1, .int a1] A (fun r A1 => ∃ z : Int32, r = some (.int z) ∧ hxC 26 207 hm_m207 [.ref 368, .int a1] A1 (fun r2 A2 => ∃ z2 : Int32, r2 = some (.int z2) ∧ ∃ N' : Int, N' ≤ N + 144 ∧ hJ 0 N' (N' + 72) A2 A2 ∧ hIB A2)) := by
  have bl := hbok.get (hA.1.1 0 1) rfl
  refine hxC.post (uf_k94 hI.1.1.2.1 a1 (hX94 (d := 19) hA a1)) ?_
  rintro _ A1 ⟨⟨hA1, z1, rfl⟩, wA1, HA1⟩
  refine ⟨z1, rfl, ?_⟩
  refine hxC.post (uf_k207 HA1 a1 (hX207 (d := 18) hA1 (by omega) a1)) ?_
  rintro _ A2 ⟨⟨hA2, z2, rfl⟩, wA2, HA2⟩
  exact ⟨z2, rfl, N + 72, by omega, hJ.mono (hJ.self hA2) (by omega) (by omega), hI.q ((wA1.le (by decide +kernel : ug_wle uw94 uwB = true)).trans (wA2.le (by decide +kernel : ug_wle uw207 uwB = true))) HA2 bl.2 (uf_lv hA)⟩
theorem hpb_code {N : Int} {A : hs_A} (hA : hJ 0 N (N + 72) A A) (hN : N ≤ 800000) (hI : hIB A) (a1 : Int32) (a2 : Int32) (a3 : Int32) : hxC 26 95 hm_m95 [.ref 1, .int a1, .int a2, .int a3] A (fun r A1 => ∃ z : Int32, r = some (.int z) ∧ hxC 26 208 hm_m208 [.ref 368, .int a1, .int a2, .int a3] A1 (fun r2 A2 => ∃ z2 : Int32, r2 = some (.int z2) ∧ ∃ N' : Int, N' ≤ N + 144 ∧ hJ 0 N' (N' + 72) A2 A2 ∧ hIB A2)) := by
  have bl := hbok.get (hA.1.1 0 1) rfl
  refine hxC.post (uf_k95 hI.1.1.2.1 a1 a2 a3 (hX95 (d := 19) hA a1 a2 a3)) ?_
  rintro _ A1 ⟨⟨hA1, z1, rfl⟩, wA1, HA1⟩
  refine ⟨z1, rfl, ?_⟩
  refine hxC.post (uf_k208 HA1 a1 a2 a3 (hX208 (d := 18) hA1 (by omega) a1 a2 a3)) ?_
  rintro _ A2 ⟨⟨hA2, z2, rfl⟩, wA2, HA2⟩
  exact ⟨z2, rfl, N + 72, by omega, hJ.mono (hJ.self hA2) (by omega) (by omega), hI.q ((wA1.le (by decide +kernel : ug_wle uw95 uwB = true)).trans (wA2.le (by decide +kernel : ug_wle uw208 uwB = true))) HA2 bl.2 (uf_lv hA)⟩
theorem hpb_lost {N : Int} {A : hs_A} (hA : hJ 0 N (N + 72) A A) (hN : N ≤ 800000) (hI : hIB A) (a1 : Int32) : hxC 26 97 hm_m97 [.ref 1, .int a1] A (fun r A1 => ∃ z : Int32, r = some (.int z) ∧ hxC 26 209 hm_m209 [.ref 368, .int a1] A1 (fun r2 A2 => ∃ z2 : Int32, r2 = some (.int z2) ∧ ∃ N' : Int, N' ≤ N + 144 ∧ hJ 0 N' (N' + 72) A2 A2 ∧ hIB A2)) := by
  have bl := hbok.get (hA.1.1 0 1) rfl
  refine hxC.post (uf_k97 hI.1.1.2.1 a1 (hX97 (d := 19) hA a1)) ?_
  rintro _ A1 ⟨⟨hA1, z1, rfl⟩, wA1, HA1⟩
  refine ⟨z1, rfl, ?_⟩
  refine hxC.post (uf_k209 HA1 a1 (hX209 (d := 19) hA1 (by omega) a1)) ?_
  rintro _ A2 ⟨⟨hA2, z2, rfl⟩, wA2, HA2⟩
  exact ⟨z2, rfl, N + 72, by omega, hJ.mono (hJ.self hA2) (by omega) (by omega), hI.q ((wA1.le (by decide +kernel : ug_wle uw97 uwB = true)).trans (wA2.le (by decide +kernel : ug_wle uw209 uwB = true))) HA2 bl.2 (uf_lv hA)⟩
theorem hpb_between {N : Int} {A : hs_A} (hA : hJ 0 N (N + 72) A A) (hN : N ≤ 800000) (hI : hIB A) (a1 : Int32) (a2 : Int32) (a3 : Int32) : hxC 26 98 hm_m98 [.ref 1, .int a1, .int a2, .int a3] A (fun r A1 => ∃ z : Int32, r = some (.int z) ∧ hxC 26 210 hm_m210 [.ref 368, .int a1, .int a2, .int a3] A1 (fun r2 A2 => ∃ z2 : Int32, r2 = some (.int z2) ∧ ∃ N' : Int, N' ≤ N + 144 ∧ hJ 0 N' (N' + 72) A2 A2 ∧ hIB A2)) := by
  have bl := hbok.get (hA.1.1 0 1) rfl
  refine hxC.post (uf_k98 hI.1.1.2.1 a1 a2 a3 (hX98 (d := 19) hA a1 a2 a3)) ?_
  rintro _ A1 ⟨⟨hA1, z1, rfl⟩, wA1, HA1⟩
  refine ⟨z1, rfl, ?_⟩
  refine hxC.post (uf_k210 HA1 a1 a2 a3 (hX210 (d := 19) hA1 (by omega) a1 a2 a3)) ?_
  rintro _ A2 ⟨⟨hA2, z2, rfl⟩, wA2, HA2⟩
  exact ⟨z2, rfl, N + 72, by omega, hJ.mono (hJ.self hA2) (by omega) (by omega), hI.q ((wA1.le (by decide +kernel : ug_wle uw98 uwB = true)).trans (wA2.le (by decide +kernel : ug_wle uw210 uwB = true))) HA2 bl.2 (uf_lv hA)⟩
theorem hpb_widest {N : Int} {A : hs_A} (hA : hJ 0 N (N + 72) A A) (hN : N ≤ 800000) (hI : hIB A) (a1 : Int32) (a2 : Int32) : hxC 26 99 hm_m99 [.ref 1, .int a1, .int a2] A (fun r A1 => ∃ z : Int32, r = some (.int z) ∧ hxC 26 211 hm_m211 [.ref 368, .int a1, .int a2] A1 (fun r2 A2 => ∃ z2 : Int32, r2 = some (.int z2) ∧ ∃ N' : Int, N' ≤ N + 144 ∧ hJ 0 N' (N' + 72) A2 A2 ∧ hIB A2)) := by
  have bl := hbok.get (hA.1.1 0 1) rfl
  refine hxC.post (uf_k99 hI.1.1.2.1 a1 a2 (hX99 (d := 19) hA a1 a2)) ?_
  rintro _ A1 ⟨⟨hA1, z1, rfl⟩, wA1, HA1⟩
  refine ⟨z1, rfl, ?_⟩
  refine hxC.post (uf_k211 HA1 a1 a2 (hX211 (d := 18) hA1 (by omega) a1 a2)) ?_
  rintro _ A2 ⟨⟨hA2, z2, rfl⟩, wA2, HA2⟩
  exact ⟨z2, rfl, N + 72, by omega, hJ.mono (hJ.self hA2) (by omega) (by omega), hI.q ((wA1.le (by decide +kernel : ug_wle uw99 uwB = true)).trans (wA2.le (by decide +kernel : ug_wle uw211 uwB = true))) HA2 bl.2 (uf_lv hA)⟩
theorem hpb_same {N : Int} {A : hs_A} (hA : hJ 0 N (N + 72) A A) (hN : N ≤ 800000) (hI : hIB A) (a1 : Int32) (a2 : Int32) : hxC 26 100 hm_m100 [.ref 1, .int a1, .int a2] A (fun r A1 => ∃ z : Int32, r = some (.int z) ∧ hxC 26 212 hm_m212 [.ref 368, .int a1, .int a2] A1 (fun r2 A2 => ∃ z2 : Int32, r2 = some (.int z2) ∧ ∃ N' : Int, N' ≤ N + 144 ∧ hJ 0 N' (N' + 72) A2 A2 ∧ hIB A2)) := by
  have bl := hbok.get (hA.1.1 0 1) rfl
  refine hxC.post (uf_k100 hI.1.1.2.1 a1 a2 (hX100 (d := 19) hA a1 a2)) ?_
  rintro _ A1 ⟨⟨hA1, z1, rfl⟩, wA1, HA1⟩
  refine ⟨z1, rfl, ?_⟩
  refine hxC.post (uf_k212 HA1 a1 a2 (hX212 (d := 18) hA1 (by omega) a1 a2)) ?_
  rintro _ A2 ⟨⟨hA2, z2, rfl⟩, wA2, HA2⟩
  exact ⟨z2, rfl, N + 72, by omega, hJ.mono (hJ.self hA2) (by omega) (by omega), hI.q ((wA1.le (by decide +kernel : ug_wle uw100 uwB = true)).trans (wA2.le (by decide +kernel : ug_wle uw212 uwB = true))) HA2 bl.2 (uf_lv hA)⟩
theorem hpb_itself {N : Int} {A : hs_A} (hA : hJ 0 N (N + 72) A A) (hN : N ≤ 800000) (hI : hIB A) (a1 : Int32) : hxC 26 101 hm_m101 [.ref 1, .int a1] A (fun r A1 => ∃ z : Int32, r = some (.int z) ∧ hxC 26 213 hm_m213 [.ref 368, .int a1] A1 (fun r2 A2 => ∃ z2 : Int32, r2 = some (.int z2) ∧ ∃ N' : Int, N' ≤ N + 144 ∧ hJ 0 N' (N' + 72) A2 A2 ∧ hIB A2)) := by
  have bl := hbok.get (hA.1.1 0 1) rfl
  refine hxC.post (uf_k101 hI.1.1.2.1 a1 (hX101 (d := 19) hA a1)) ?_
  rintro _ A1 ⟨⟨hA1, z1, rfl⟩, wA1, HA1⟩
  refine ⟨z1, rfl, ?_⟩
  refine hxC.post (uf_k213 HA1 a1 (hX213 (d := 19) hA1 (by omega) a1)) ?_
  rintro _ A2 ⟨⟨hA2, z2, rfl⟩, wA2, HA2⟩
  exact ⟨z2, rfl, N + 72, by omega, hJ.mono (hJ.self hA2) (by omega) (by omega), hI.q ((wA1.le (by decide +kernel : ug_wle uw101 uwB = true)).trans (wA2.le (by decide +kernel : ug_wle uw213 uwB = true))) HA2 bl.2 (uf_lv hA)⟩
theorem hpb_times {N : Int} {A : hs_A} (hA : hJ 0 N (N + 72) A A) (hN : N ≤ 800000) (hI : hIB A) (a1 : Int32) (a2 : Int32) : hxC 26 102 hm_m102 [.ref 1, .int a1, .int a2] A (fun r A1 => ∃ z : Int32, r = some (.int z) ∧ hxC 26 216 hm_m216 [.ref 368, .int a1, .int a2] A1 (fun r2 A2 => ∃ z2 : Int32, r2 = some (.int z2) ∧ ∃ N' : Int, N' ≤ N + 144 ∧ hJ 0 N' (N' + 72) A2 A2 ∧ hIB A2)) := by
  have bl := hbok.get (hA.1.1 0 1) rfl
  refine hxC.post (uf_k102 hI.1.1.2.1 a1 a2 (hX102 (d := 20) hA a1 a2)) ?_
  rintro _ A1 ⟨⟨hA1, z1, rfl⟩, wA1, HA1⟩
  refine ⟨z1, rfl, ?_⟩
  refine hxC.post (uf_k216 HA1 a1 a2 (hX216 (d := 19) hA1 (by omega) a1 a2)) ?_
  rintro _ A2 ⟨⟨hA2, z2, rfl⟩, wA2, HA2⟩
  exact ⟨z2, rfl, N + 72, by omega, hJ.mono (hJ.self hA2) (by omega) (by omega), hI.q ((wA1.le (by decide +kernel : ug_wle uw102 uwB = true)).trans (wA2.le (by decide +kernel : ug_wle uw216 uwB = true))) HA2 bl.2 (uf_lv hA)⟩
theorem hpb_bestHour {N : Int} {A : hs_A} (hA : hJ 0 N (N + 72) A A) (hN : N ≤ 800000) (hI : hIB A) (a1 : Int32) (a2 : Int32) : hxC 26 105 hm_m105 [.ref 1, .int a1, .int a2] A (fun r A1 => ∃ z : Int32, r = some (.int z) ∧ hxC 26 217 hm_m217 [.ref 368, .int a1, .int a2] A1 (fun r2 A2 => ∃ z2 : Int32, r2 = some (.int z2) ∧ ∃ N' : Int, N' ≤ N + 144 ∧ hJ 0 N' (N' + 72) A2 A2 ∧ hIB A2)) := by
  have bl := hbok.get (hA.1.1 0 1) rfl
  refine hxC.post (uf_k105 hI.1.1.2.1 a1 a2 (hX105 (d := 21) hA a1 a2)) ?_
  rintro _ A1 ⟨⟨hA1, z1, rfl⟩, wA1, HA1⟩
  refine ⟨z1, rfl, ?_⟩
  refine hxC.post (uf_k217 HA1 a1 a2 (hX217 (d := 19) hA1 (by omega) a1 a2)) ?_
  rintro _ A2 ⟨⟨hA2, z2, rfl⟩, wA2, HA2⟩
  exact ⟨z2, rfl, N + 72, by omega, hJ.mono (hJ.self hA2) (by omega) (by omega), hI.q ((wA1.le (by decide +kernel : ug_wle uw105 uwB = true)).trans (wA2.le (by decide +kernel : ug_wle uw217 uwB = true))) HA2 bl.2 (uf_lv hA)⟩
theorem hpb_breakAt {N : Int} {A : hs_A} (hA : hJ 0 N (N + 72) A A) (hN : N ≤ 800000) (hI : hIB A) (a1 : Int32) : hxC 26 106 hm_m106 [.ref 1, .int a1] A (fun r A1 => ∃ z : Int32, r = some (.int z) ∧ hxC 26 218 hm_m218 [.ref 368, .int a1] A1 (fun r2 A2 => ∃ z2 : Int32, r2 = some (.int z2) ∧ ∃ N' : Int, N' ≤ N + 144 ∧ hJ 0 N' (N' + 72) A2 A2 ∧ hIB A2)) := by
  have bl := hbok.get (hA.1.1 0 1) rfl
  refine hxC.post (uf_k106 hI.1.1.2.1 a1 (hX106 (d := 22) hA a1)) ?_
  rintro _ _ ⟨⟨rfl, z1, rfl⟩, wA1, HA1⟩
  refine ⟨z1, rfl, ?_⟩
  refine hxC.post (uf_k218 HA1 a1 (hX218 (d := 23) hA (by omega) a1)) ?_
  rintro _ A2 ⟨⟨hA2, z2, rfl⟩, wA2, HA2⟩
  exact ⟨z2, rfl, N + 72, by omega, hJ.mono (hJ.self hA2) (by omega) (by omega), hI.q ((wA1.le (by decide +kernel : ug_wle uw106 uwB = true)).trans (wA2.le (by decide +kernel : ug_wle uw218 uwB = true))) HA2 bl.2 (uf_lv hA)⟩
theorem hpb_loudest {N : Int} {A : hs_A} (hA : hJ 0 N (N + 72) A A) (hN : N ≤ 800000) (hI : hIB A) (a1 : Int32) (a2 : Int32) : hxC 26 108 hm_m108 [.ref 1, .int a1, .int a2] A (fun r A1 => ∃ z : Int32, r = some (.int z) ∧ hxC 26 219 hm_m219 [.ref 368, .int a1, .int a2] A1 (fun r2 A2 => ∃ z2 : Int32, r2 = some (.int z2) ∧ ∃ N' : Int, N' ≤ N + 144 ∧ hJ 0 N' (N' + 72) A2 A2 ∧ hIB A2)) := by
  have bl := hbok.get (hA.1.1 0 1) rfl
  refine hxC.post (uf_k108 hI.1.1.2.1 a1 a2 (hX108 (d := 20) hA a1 a2)) ?_
  rintro _ A1 ⟨⟨hA1, z1, rfl⟩, wA1, HA1⟩
  refine ⟨z1, rfl, ?_⟩
  refine hxC.post (uf_k219 HA1 a1 a2 (hX219 (d := 20) hA1 (by omega) a1 a2)) ?_
  rintro _ A2 ⟨⟨hA2, z2, rfl⟩, wA2, HA2⟩
  exact ⟨z2, rfl, N + 72, by omega, hJ.mono (hJ.self hA2) (by omega) (by omega), hI.q ((wA1.le (by decide +kernel : ug_wle uw108 uwB = true)).trans (wA2.le (by decide +kernel : ug_wle uw219 uwB = true))) HA2 bl.2 (uf_lv hA)⟩
theorem hpb_warm {N : Int} {A : hs_A} (hA : hJ 0 N (N + 72) A A) (hN : N ≤ 800000) (hI : hIB A) (a1 : Int32) : hxC 26 110 hm_m110 [.ref 1, .int a1] A (fun r A1 => ∃ z : Int32, r = some (.int z) ∧ hxC 26 220 hm_m220 [.ref 368, .int a1] A1 (fun r2 A2 => ∃ z2 : Int32, r2 = some (.int z2) ∧ ∃ N' : Int, N' ≤ N + 144 ∧ hJ 0 N' (N' + 72) A2 A2 ∧ hIB A2)) := by
  have bl := hbok.get (hA.1.1 0 1) rfl
  refine hxC.post (uf_k110 hI.1.1.2.1 a1 (hX110 (d := 20) hA a1)) ?_
  rintro _ A1 ⟨⟨hA1, z1, rfl⟩, wA1, HA1⟩
  refine ⟨z1, rfl, ?_⟩
  refine hxC.post (uf_k220 HA1 a1 (hX220 (d := 19) hA1 (by omega) a1)) ?_
  rintro _ A2 ⟨⟨hA2, z2, rfl⟩, wA2, HA2⟩
  exact ⟨z2, rfl, N + 72, by omega, hJ.mono (hJ.self hA2) (by omega) (by omega), hI.q ((wA1.le (by decide +kernel : ug_wle uw110 uwB = true)).trans (wA2.le (by decide +kernel : ug_wle uw220 uwB = true))) HA2 bl.2 (uf_lv hA)⟩
theorem hpb_lives {N : Int} {A : hs_A} (hA : hJ 0 N (N + 72) A A) (hN : N ≤ 800000) (hI : hIB A) (a1 : Int32) : hxC 26 111 hm_m111 [.ref 1, .int a1] A (fun r A1 => ∃ z : Int32, r = some (.int z) ∧ hxC 26 221 hm_m221 [.ref 368, .int a1] A1 (fun r2 A2 => ∃ z2 : Int32, r2 = some (.int z2) ∧ ∃ N' : Int, N' ≤ N + 144 ∧ hJ 0 N' (N' + 72) A2 A2 ∧ hIB A2)) := by
  have bl := hbok.get (hA.1.1 0 1) rfl
  refine hxC.post (uf_k111 hI.1.1.2.1 a1 (hX111 (d := 25) hA a1)) ?_
  rintro _ _ ⟨⟨rfl, z1, rfl⟩, wA1, HA1⟩
  refine ⟨z1, rfl, ?_⟩
  refine hxC.post (uf_k221 HA1 a1 (hX221 (d := 25) hA a1)) ?_
  rintro _ _ ⟨⟨rfl, z2, rfl⟩, wA2, HA2⟩
  exact ⟨z2, rfl, N + 72, by omega, hJ.mono (hJ.self hA) (by omega) (by omega), hI.q ((wA1.le (by decide +kernel : ug_wle uw111 uwB = true)).trans (wA2.le (by decide +kernel : ug_wle uw221 uwB = true))) HA2 bl.2 (uf_lv hA)⟩
theorem hpb_warmth {N : Int} {A : hs_A} (hA : hJ 0 N (N + 72) A A) (hN : N ≤ 800000) (hI : hIB A) (a1 : Int32) : hxC 26 112 hm_m112 [.ref 1, .int a1] A (fun r A1 => ∃ z : Int32, r = some (.int z) ∧ hxC 26 222 hm_m222 [.ref 368, .int a1] A1 (fun r2 A2 => ∃ z2 : Int32, r2 = some (.int z2) ∧ ∃ N' : Int, N' ≤ N + 144 ∧ hJ 0 N' (N' + 72) A2 A2 ∧ hIB A2)) := by
  have bl := hbok.get (hA.1.1 0 1) rfl
  refine hxC.post (uf_k112 hI.1.1.2.1 a1 (hX112 (d := 21) hA a1)) ?_
  rintro _ A1 ⟨⟨hA1, z1, rfl⟩, wA1, HA1⟩
  refine ⟨z1, rfl, ?_⟩
  refine hxC.post (uf_k222 HA1 a1 (hX222 (d := 20) hA1 (by omega) a1)) ?_
  rintro _ A2 ⟨⟨hA2, z2, rfl⟩, wA2, HA2⟩
  exact ⟨z2, rfl, N + 72, by omega, hJ.mono (hJ.self hA2) (by omega) (by omega), hI.q ((wA1.le (by decide +kernel : ug_wle uw112 uwB = true)).trans (wA2.le (by decide +kernel : ug_wle uw222 uwB = true))) HA2 bl.2 (uf_lv hA)⟩
theorem hpb_then {N : Int} {A : hs_A} (hA : hJ 0 N (N + 72) A A) (hN : N ≤ 800000) (hI : hIB A) (a1 : Int32) (a2 : Int32) (a3 : Int32) : hxC 26 113 hm_m113 [.ref 1, .int a1, .int a2, .int a3] A (fun r A1 => ∃ z : Int32, r = some (.int z) ∧ hxC 26 223 hm_m223 [.ref 368, .int a1, .int a2, .int a3] A1 (fun r2 A2 => ∃ z2 : Int32, r2 = some (.int z2) ∧ ∃ N' : Int, N' ≤ N + 144 ∧ hJ 0 N' (N' + 72) A2 A2 ∧ hIB A2)) := by
  have bl := hbok.get (hA.1.1 0 1) rfl
  refine hxC.post (uf_k113 hI.1.1.2.1 a1 a2 a3 (hX113 (d := 20) hA a1 a2 a3)) ?_
  rintro _ A1 ⟨⟨hA1, z1, rfl⟩, wA1, HA1⟩
  refine ⟨z1, rfl, ?_⟩
  refine hxC.post (uf_k223 HA1 a1 a2 a3 (hX223 (d := 19) hA1 (by omega) a1 a2 a3)) ?_
  rintro _ A2 ⟨⟨hA2, z2, rfl⟩, wA2, HA2⟩
  exact ⟨z2, rfl, N + 72, by omega, hJ.mono (hJ.self hA2) (by omega) (by omega), hI.q ((wA1.le (by decide +kernel : ug_wle uw113 uwB = true)).trans (wA2.le (by decide +kernel : ug_wle uw223 uwB = true))) HA2 bl.2 (uf_lv hA)⟩
theorem hpb_quiet {N : Int} {A : hs_A} (hA : hJ 0 N (N + 72) A A) (hN : N ≤ 800000) (hI : hIB A) (a1 : Int32) (a2 : Int32) : hxC 26 114 hm_m114 [.ref 1, .int a1, .int a2] A (fun r A1 => ∃ z : Int32, r = some (.int z) ∧ hxC 26 224 hm_m224 [.ref 368, .int a1, .int a2] A1 (fun r2 A2 => ∃ z2 : Int32, r2 = some (.int z2) ∧ ∃ N' : Int, N' ≤ N + 144 ∧ hJ 0 N' (N' + 72) A2 A2 ∧ hIB A2)) := by
  have bl := hbok.get (hA.1.1 0 1) rfl
  refine hxC.post (uf_k114 hI.1.1.2.1 a1 a2 (hX114 (d := 21) hA a1 a2)) ?_
  rintro _ A1 ⟨⟨hA1, z1, rfl⟩, wA1, HA1⟩
  refine ⟨z1, rfl, ?_⟩
  refine hxC.post (uf_k224 HA1 a1 a2 (hX224 (d := 20) hA1 (by omega) a1 a2)) ?_
  rintro _ A2 ⟨⟨hA2, z2, rfl⟩, wA2, HA2⟩
  exact ⟨z2, rfl, N + 72, by omega, hJ.mono (hJ.self hA2) (by omega) (by omega), hI.q ((wA1.le (by decide +kernel : ug_wle uw114 uwB = true)).trans (wA2.le (by decide +kernel : ug_wle uw224 uwB = true))) HA2 bl.2 (uf_lv hA)⟩
theorem hpb_mourn {N : Int} {A : hs_A} (hA : hJ 0 N (N + 72) A A) (hN : N ≤ 800000) (hI : hIB A) (a1 : Int32) : hxC 26 115 hm_m115 [.ref 1, .int a1] A (fun r A1 => ∃ z : Int32, r = some (.int z) ∧ hxC 26 226 hm_m226 [.ref 368, .int a1] A1 (fun r2 A2 => ∃ z2 : Int32, r2 = some (.int z2) ∧ ∃ N' : Int, N' ≤ N + 144 ∧ hJ 0 N' (N' + 72) A2 A2 ∧ hIB A2)) := by
  have bl := hbok.get (hA.1.1 0 1) rfl
  refine hxC.post (uf_k115 hI.1.1.2.1 a1 (hX115 (d := 20) hA a1)) ?_
  rintro _ A1 ⟨⟨hA1, z1, rfl⟩, wA1, HA1⟩
  refine ⟨z1, rfl, ?_⟩
  refine hxC.post (uf_k226 HA1 a1 (hX226 (d := 19) hA1 (by omega) a1)) ?_
  rintro _ A2 ⟨⟨hA2, z2, rfl⟩, wA2, HA2⟩
  exact ⟨z2, rfl, N + 72, by omega, hJ.mono (hJ.self hA2) (by omega) (by omega), hI.q ((wA1.le (by decide +kernel : ug_wle uw115 uwB = true)).trans (wA2.le (by decide +kernel : ug_wle uw226 uwB = true))) HA2 bl.2 (uf_lv hA)⟩
theorem hpb_carryBest {N : Int} {A : hs_A} (hA : hJ 0 N (N + 72) A A) (hN : N ≤ 800000) (hI : hIB A) (a1 : Int32) : hxC 26 116 hm_m116 [.ref 1, .int a1] A (fun r A1 => ∃ z : Int32, r = some (.int z) ∧ hxC 26 227 hm_m227 [.ref 368, .int a1] A1 (fun r2 A2 => ∃ z2 : Int32, r2 = some (.int z2) ∧ ∃ N' : Int, N' ≤ N + 144 ∧ hJ 0 N' (N' + 72) A2 A2 ∧ hIB A2)) := by
  have bl := hbok.get (hA.1.1 0 1) rfl
  refine hxC.post (uf_k116 hI.1.1.2.1 a1 (hX116 (d := 24) hA a1)) ?_
  rintro _ _ ⟨⟨rfl, z1, rfl⟩, wA1, HA1⟩
  refine ⟨z1, rfl, ?_⟩
  refine hxC.post (uf_k227 HA1 a1 (hX227 (d := 24) hA a1)) ?_
  rintro _ _ ⟨⟨rfl, z2, rfl⟩, wA2, HA2⟩
  exact ⟨z2, rfl, N + 72, by omega, hJ.mono (hJ.self hA) (by omega) (by omega), hI.q ((wA1.le (by decide +kernel : ug_wle uw116 uwB = true)).trans (wA2.le (by decide +kernel : ug_wle uw227 uwB = true))) HA2 bl.2 (uf_lv hA)⟩
theorem hpb_needs {N : Int} {A : hs_A} (hA : hJ 0 N (N + 72) A A) (hN : N ≤ 800000) (hI : hIB A) (a1 : Int32) : hxC 26 117 hm_m117 [.ref 1, .int a1] A (fun r A1 => ∃ z : Int32, r = some (.int z) ∧ hxC 26 228 hm_m228 [.ref 368, .int a1] A1 (fun r2 A2 => ∃ z2 : Int32, r2 = some (.int z2) ∧ ∃ N' : Int, N' ≤ N + 144 ∧ hJ 0 N' (N' + 72) A2 A2 ∧ hIB A2)) := by
  have bl := hbok.get (hA.1.1 0 1) rfl
  refine hxC.post (uf_k117 hI.1.1.2.1 a1 (hX117 (d := 24) hA a1)) ?_
  rintro _ _ ⟨⟨rfl, z1, rfl⟩, wA1, HA1⟩
  refine ⟨z1, rfl, ?_⟩
  refine hxC.post (uf_k228 HA1 a1 (hX228 (d := 23) hA a1)) ?_
  rintro _ _ ⟨⟨rfl, z2, rfl⟩, wA2, HA2⟩
  exact ⟨z2, rfl, N + 72, by omega, hJ.mono (hJ.self hA) (by omega) (by omega), hI.q ((wA1.le (by decide +kernel : ug_wle uw117 uwB = true)).trans (wA2.le (by decide +kernel : ug_wle uw228 uwB = true))) HA2 bl.2 (uf_lv hA)⟩
theorem hpb_changeBest {N : Int} {A : hs_A} (hA : hJ 0 N (N + 72) A A) (hN : N ≤ 800000) (hI : hIB A) (a1 : Int32) : hxC 26 118 hm_m118 [.ref 1, .int a1] A (fun r A1 => ∃ z : Int32, r = some (.int z) ∧ hxC 26 229 hm_m229 [.ref 368, .int a1] A1 (fun r2 A2 => ∃ z2 : Int32, r2 = some (.int z2) ∧ ∃ N' : Int, N' ≤ N + 144 ∧ hJ 0 N' (N' + 72) A2 A2 ∧ hIB A2)) := by
  have bl := hbok.get (hA.1.1 0 1) rfl
  refine hxC.post (uf_k118 hI.1.1.2.1 a1 (hX118 (d := 20) hA a1)) ?_
  rintro _ A1 ⟨⟨hA1, z1, rfl⟩, wA1, HA1⟩
  refine ⟨z1, rfl, ?_⟩
  refine hxC.post (uf_k229 HA1 a1 (hX229 (d := 19) hA1 (by omega) a1)) ?_
  rintro _ A2 ⟨⟨hA2, z2, rfl⟩, wA2, HA2⟩
  exact ⟨z2, rfl, N + 72, by omega, hJ.mono (hJ.self hA2) (by omega) (by omega), hI.q ((wA1.le (by decide +kernel : ug_wle uw118 uwB = true)).trans (wA2.le (by decide +kernel : ug_wle uw229 uwB = true))) HA2 bl.2 (uf_lv hA)⟩
theorem hpb_off {N : Int} {A : hs_A} (hA : hJ 0 N (N + 72) A A) (hN : N ≤ 800000) (hI : hIB A) (a1 : Int32) : hxC 26 120 hm_m120 [.ref 1, .int a1] A (fun r A1 => ∃ z : Int32, r = some (.int z) ∧ hxC 26 230 hm_m230 [.ref 368, .int a1] A1 (fun r2 A2 => ∃ z2 : Int32, r2 = some (.int z2) ∧ ∃ N' : Int, N' ≤ N + 144 ∧ hJ 0 N' (N' + 72) A2 A2 ∧ hIB A2)) := by
  have bl := hbok.get (hA.1.1 0 1) rfl
  refine hxC.post (uf_k120 hI.1.1.2.1 a1 (hX120 (d := 24) hA a1)) ?_
  rintro _ _ ⟨⟨rfl, z1, rfl⟩, wA1, HA1⟩
  refine ⟨z1, rfl, ?_⟩
  refine hxC.post (uf_k230 HA1 a1 (hX230 (d := 23) hA a1)) ?_
  rintro _ _ ⟨⟨rfl, z2, rfl⟩, wA2, HA2⟩
  exact ⟨z2, rfl, N + 72, by omega, hJ.mono (hJ.self hA) (by omega) (by omega), hI.q ((wA1.le (by decide +kernel : ug_wle uw120 uwB = true)).trans (wA2.le (by decide +kernel : ug_wle uw230 uwB = true))) HA2 bl.2 (uf_lv hA)⟩
theorem hpb_year {N : Int} {A : hs_A} (hA : hJ 0 N (N + 72) A A) (hN : N ≤ 800000) (hI : hIB A) (a1 : Int32) (a2 : Int32) (a3 : Int32) : hxC 26 121 hm_m121 [.ref 1, .int a1, .int a2, .int a3] A (fun r A1 => ∃ z : Int32, r = some (.int z) ∧ hxC 26 231 hm_m231 [.ref 368, .int a1, .int a2, .int a3] A1 (fun r2 A2 => ∃ z2 : Int32, r2 = some (.int z2) ∧ ∃ N' : Int, N' ≤ N + 144 ∧ hJ 0 N' (N' + 72) A2 A2 ∧ hIB A2)) := by
  have bl := hbok.get (hA.1.1 0 1) rfl
  refine hxC.post (uf_k121 hI.1.1.2.1 a1 a2 a3 (hX121 (d := 20) hA a1 a2 a3)) ?_
  rintro _ A1 ⟨⟨hA1, z1, rfl⟩, wA1, HA1⟩
  refine ⟨z1, rfl, ?_⟩
  refine hxC.post (uf_k231 HA1 a1 a2 a3 (hX231 (d := 19) hA1 (by omega) a1 a2 a3)) ?_
  rintro _ A2 ⟨⟨hA2, z2, rfl⟩, wA2, HA2⟩
  exact ⟨z2, rfl, N + 72, by omega, hJ.mono (hJ.self hA2) (by omega) (by omega), hI.q ((wA1.le (by decide +kernel : ug_wle uw121 uwB = true)).trans (wA2.le (by decide +kernel : ug_wle uw231 uwB = true))) HA2 bl.2 (uf_lv hA)⟩
theorem hpb_tell {N : Int} {A : hs_A} (hA : hJ 0 N (N + 72) A A) (hN : N ≤ 800000) (hI : hIB A) (a1 : Int32) (a2 : Int32) : hxC 26 122 hm_m122 [.ref 1, .int a1, .int a2] A (fun r A1 => ∃ z : Int32, r = some (.int z) ∧ hxC 26 232 hm_m232 [.ref 368, .int a1, .int a2] A1 (fun r2 A2 => ∃ z2 : Int32, r2 = some (.int z2) ∧ z = z2 ∧ ∃ N' : Int, N' ≤ N + 144 ∧ hJ 0 N' (N' + 72) A2 A2 ∧ hIB A2)) := by
  have bl := hbok.get (hA.1.1 0 1) rfl
  have bt := hbok.get (hA.1.1 340 2) rfl
  refine hxC.post (uf_k122 hI.1.1.2.1 a1 a2 (hX122f (d := 24) hA a1 a2 hI.2.1.c)) ?_
  rintro _ A1 ⟨⟨hA1, z1, rfl, f1⟩, w1, H1⟩
  refine ⟨z1, rfl, ?_⟩
  refine hxC.post (uf_k232 H1 a1 a2 (hX232f (d := 23) hA1 (by omega) a1 a2 (hHs.r w1 (uf_lv hA) (by decide +kernel) (by decide +kernel)))) ?_
  rintro _ A2 ⟨⟨hA2, z2, rfl, f2⟩, w2, H2⟩
  have t0 := congrArg Int32.toInt hI.2.2
  have e1 : A1.1 367 59 = A.1 367 59 := w1.1 367 _ _ 59 rfl rfl (by decide +kernel)
  have e2 : A2.1 340 2 = A1.1 340 2 := w2.1 340 _ _ 2 rfl rfl (by decide +kernel)
  rw [e1] at f2
  have td : (A2.1 340 2).toInt = (A2.1 367 59).toInt := by
    rw [e2]
    rcases f1 with ⟨u1, u2, u3⟩ | ⟨u1, u2, u3⟩
    · rcases f2 with ⟨v1, v2, v3⟩ | ⟨v1, v2, v3⟩
      · rw [u3, v3]; exact t0
      · exact absurd v2 (by omega)
    · rcases f2 with ⟨v1, v2, v3⟩ | ⟨v1, v2, v3⟩
      · exact absurd u2 (by omega)
      · rw [u3, v3, t0]
  have ez : z1.toInt = z2.toInt := by
    rcases f1 with ⟨u1, u2, u3⟩ | ⟨u1, u2, u3⟩
    · rcases f2 with ⟨v1, v2, v3⟩ | ⟨v1, v2, v3⟩
      · omega
      · exact absurd v2 (by omega)
    · rcases f2 with ⟨v1, v2, v3⟩ | ⟨v1, v2, v3⟩
      · exact absurd u2 (by omega)
      · omega
  exact ⟨z2, rfl, Int32.toInt_inj.mp ez, N + 72, by omega, hJ.mono (hJ.self hA2) (by omega) (by omega), ⟨(hI.1.1.uf w1 H1 (by decide +kernel) bl.2).uf w2 H2 (by decide +kernel) (by rw [w1.1 0 _ _ 1 rfl rfl (by decide +kernel)]; exact bl.2), (hI.1.2.uf w1 (by decide +kernel) (by decide +kernel)).uf w2 (by decide +kernel) (by decide +kernel)⟩, hBk hI.2.1 hI.1.1.2.1 H1 w1 w2 (uf_lv hA) (by decide +kernel) (by decide +kernel), Int32.toInt_inj.mp td⟩
theorem hpb_forget {N : Int} {A : hs_A} (hA : hJ 0 N (N + 72) A A) (hN : N ≤ 800000) (hI : hIB A)  : hxC 26 123 hm_m123 [.ref 1] A (fun r A1 => ∃ z : Int32, r = some (.int z) ∧ hxC 26 233 hm_m233 [.ref 368] A1 (fun r2 A2 => ∃ z2 : Int32, r2 = some (.int z2) ∧ z = z2 ∧ ∃ N' : Int, N' ≤ N + 144 ∧ hJ 0 N' (N' + 72) A2 A2 ∧ hIB A2)) := by
  have bl := hbok.get (hA.1.1 0 1) rfl
  refine hxC.post (uf_k123 hI.1.1.2.1 (hX123f (d := 25) hA)) ?_
  rintro _ A1 ⟨⟨hA1, z1, rfl, f1, g1⟩, w1, H1⟩
  refine ⟨z1, rfl, ?_⟩
  refine hxC.post (uf_k233 H1 (hX233f (d := 25) hA1 (by omega))) ?_
  rintro _ A2 ⟨⟨hA2, z2, rfl, f2, g2⟩, w2, H2⟩
  have e1 : A1.1 367 59 = A.1 367 59 := w1.1 367 _ _ 59 rfl rfl (by decide +kernel)
  have e2 : A2.1 340 2 = A1.1 340 2 := w2.1 340 _ _ 2 rfl rfl (by decide +kernel)
  exact ⟨z2, rfl, by rw [f1, f2, e1]; exact hI.2.2, N + 72, by omega, hJ.mono (hJ.self hA2) (by omega) (by omega), ⟨(hI.1.1.uf w1 H1 (by decide +kernel) bl.2).uf w2 H2 (by decide +kernel) (by rw [w1.1 0 _ _ 1 rfl rfl (by decide +kernel)]; exact bl.2), (hI.1.2.uf w1 (by decide +kernel) (by decide +kernel)).uf w2 (by decide +kernel) (by decide +kernel)⟩, hBk hI.2.1 hI.1.1.2.1 H1 w1 w2 (uf_lv hA) (by decide +kernel) (by decide +kernel), by rw [e2, g1, g2]⟩
theorem hpb_sent {N : Int} {A : hs_A} (hA : hJ 0 N (N + 72) A A) (hN : N ≤ 800000) (hI : hIB A) (a1 : Int32) (a2 : Int32) : hxC 26 125 hm_m125 [.ref 1, .int a1, .int a2] A (fun r A1 => ∃ z : Int32, r = some (.int z) ∧ hxC 26 235 hm_m235 [.ref 368, .int a1, .int a2] A1 (fun r2 A2 => ∃ z2 : Int32, r2 = some (.int z2) ∧ ∃ N' : Int, N' ≤ N + 144 ∧ hJ 0 N' (N' + 72) A2 A2 ∧ hIB A2)) := by
  have bl := hbok.get (hA.1.1 0 1) rfl
  refine hxC.post (uf_k125 hI.1.1.2.1 a1 a2 (hX125 (d := 18) hA a1 a2)) ?_
  rintro _ A1 ⟨⟨hA1, z1, rfl⟩, wA1, HA1⟩
  refine ⟨z1, rfl, ?_⟩
  refine hxC.post (uf_k235 HA1 a1 a2 (hX235 (d := 18) hA1 (by omega) a1 a2)) ?_
  rintro _ A2 ⟨⟨hA2, z2, rfl⟩, wA2, HA2⟩
  exact ⟨z2, rfl, N + 72, by omega, hJ.mono (hJ.self hA2) (by omega) (by omega), hI.q ((wA1.le (by decide +kernel : ug_wle uw125 uwB = true)).trans (wA2.le (by decide +kernel : ug_wle uw235 uwB = true))) HA2 bl.2 (uf_lv hA)⟩
theorem hpb_listen {N : Int} {A : hs_A} (hA : hJ 0 N (N + 72) A A) (hN : N ≤ 800000) (hI : hIB A) (a1 : Int32) : hxC 26 126 hm_m126 [.ref 1, .int a1] A (fun r A1 => ∃ z : Int32, r = some (.int z) ∧ hxC 26 237 hm_m237 [.ref 368, .int a1] A1 (fun r2 A2 => ∃ z2 : Int32, r2 = some (.int z2) ∧ ∃ N' : Int, N' ≤ N + 144 ∧ hJ 0 N' (N' + 72) A2 A2 ∧ hIB A2)) := by
  have bl := hbok.get (hA.1.1 0 1) rfl
  refine hxC.post (uf_k126 hI.1.1.2.1 a1 (hX126 (d := 18) hA a1)) ?_
  rintro _ A1 ⟨⟨hA1, z1, rfl⟩, wA1, HA1⟩
  refine ⟨z1, rfl, ?_⟩
  refine hxC.post (uf_k237 HA1 a1 (hX237 (d := 18) hA1 (by omega) a1)) ?_
  rintro _ A2 ⟨⟨hA2, z2, rfl⟩, wA2, HA2⟩
  exact ⟨z2, rfl, N + 72, by omega, hJ.mono (hJ.self hA2) (by omega) (by omega), hI.q ((wA1.le (by decide +kernel : ug_wle uw126 uwB = true)).trans (wA2.le (by decide +kernel : ug_wle uw237 uwB = true))) HA2 bl.2 (uf_lv hA)⟩
theorem hpb_count {N : Int} {A : hs_A} (hA : hJ 0 N (N + 72) A A) (hN : N ≤ 800000) (hI : hIB A) (a1 : Int32) : hxC 26 130 hm_m130 [.ref 1, .int a1] A (fun r A1 => ∃ z : Int32, r = some (.int z) ∧ hxC 26 241 hm_m241 [.ref 368, .int a1] A1 (fun r2 A2 => ∃ z2 : Int32, r2 = some (.int z2) ∧ ∃ N' : Int, N' ≤ N + 144 ∧ hJ 0 N' (N' + 72) A2 A2 ∧ hIB A2)) := by
  have bl := hbok.get (hA.1.1 0 1) rfl
  refine hxC.post (uf_k130 hI.1.1.2.1 a1 (hX130 (d := 23) hA a1)) ?_
  rintro _ _ ⟨⟨rfl, z1, rfl⟩, wA1, HA1⟩
  refine ⟨z1, rfl, ?_⟩
  refine hxC.post (uf_k241 HA1 a1 (hX241 (d := 23) hA (by omega) a1)) ?_
  rintro _ A2 ⟨⟨hA2, z2, rfl⟩, wA2, HA2⟩
  exact ⟨z2, rfl, N + 72, by omega, hJ.mono (hJ.self hA2) (by omega) (by omega), hI.q ((wA1.le (by decide +kernel : ug_wle uw130 uwB = true)).trans (wA2.le (by decide +kernel : ug_wle uw241 uwB = true))) HA2 bl.2 (uf_lv hA)⟩
