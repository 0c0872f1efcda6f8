theorem hpr_feed {N : Int} {A : hs_A} (hA : hJ 0 N (N + 72) A A) (hN : N ≤ 800000) (hI : hIC A) (a1 : Int32) (a2 : Int32) (a3 : Int32) (a4 : Int32) (a5 : Int32) : hxC 26 70 hm_m70 [.ref 1, .int a1, .int a2, .int a3, .int a4, .int a5] A (fun r A1 => ∃ z : Int32, r = some (.int z) ∧ hxC 26 133 hm_m133 [.ref 368, .int a1, .int a2, .int a3, .int a4, .int a5] A1 (fun r2 A2 => ∃ z2 : Int32, r2 = some (.int z2) ∧ z = z2 ∧ ∃ N' : Int, N' ≤ N + 144 ∧ hJ 0 N' (N' + 72) A2 A2 ∧ hIC A2)) := by
  obtain ⟨hIB0, hX0⟩ := hI
  refine hxC.post (uf_k70 hIB0.1.1.2.1 a1 a2 a3 a4 a5 (hpb_feed hA hN hIB0 a1 a2 a3 a4 a5)) ?_
  rintro _ A1 ⟨⟨z1, rfl, hC⟩, w1, H1⟩
  refine ⟨z1, rfl, ?_⟩
  refine hxC.post (uf_k133 H1 a1 a2 a3 a4 a5 hC) ?_
  rintro _ A2 ⟨⟨z2, rfl, ez, N', y1, y2, hB2⟩, w2, H2⟩
  exact ⟨z2, rfl, ez, N', y1, y2, hB2, hX0.two hA hIB0.1.1.2.1 H1 w1 w2 (by decide +kernel) (by decide +kernel)⟩
theorem hpr_back {N : Int} {A : hs_A} (hA : hJ 0 N (N + 72) A A) (hN : N ≤ 800000) (hI : hIC A) (a1 : Int32) : hxC 26 72 hm_m72 [.ref 1, .int a1] A (fun r A1 => ∃ z : Int32, r = some (.int z) ∧ hxC 26 135 hm_m135 [.ref 368, .int a1] A1 (fun r2 A2 => ∃ z2 : Int32, r2 = some (.int z2) ∧ z = z2 ∧ ∃ N' : Int, N' ≤ N + 144 ∧ hJ 0 N' (N' + 72) A2 A2 ∧ hIC A2)) := by
  obtain ⟨hIB0, hX0⟩ := hI
  refine hxC.post (uf_k72 hIB0.1.1.2.1 a1 (hpb_back hA hN hIB0 a1)) ?_
  rintro _ A1 ⟨⟨z1, rfl, hC⟩, w1, H1⟩
  refine ⟨z1, rfl, ?_⟩
  refine hxC.post (uf_k135 H1 a1 hC) ?_
  rintro _ A2 ⟨⟨z2, rfl, ez, N', y1, y2, hB2⟩, w2, H2⟩
  exact ⟨z2, rfl, ez, N', y1, y2, hB2, hX0.two hA hIB0.1.1.2.1 H1 w1 w2 (by decide +kernel) (by decide +kernel)⟩
theorem hpr_place {N : Int} {A : hs_A} (hA : hJ 0 N (N + 72) A A) (hN : N ≤ 800000) (hI : hIC A)  : hxC 26 75 hm_m75 [.ref 1] A (fun r A1 => ∃ z : Int32, r = some (.int z) ∧ hxC 26 151 hm_m151 [.ref 368] A1 (fun r2 A2 => ∃ z2 : Int32, r2 = some (.int z2) ∧ z = z2 ∧ ∃ N' : Int, N' ≤ N + 144 ∧ hJ 0 N' (N' + 72) A2 A2 ∧ hIC A2)) := by
  obtain ⟨hIB0, hX0⟩ := hI
  refine hxC.post (uf_k75 hIB0.1.1.2.1  (hpb_place hA hN hIB0 )) ?_
  rintro _ A1 ⟨⟨z1, rfl, hC⟩, w1, H1⟩
  refine ⟨z1, rfl, ?_⟩
  refine hxC.post (uf_k151 H1  hC) ?_
  rintro _ A2 ⟨⟨z2, rfl, ez, N', y1, y2, hB2⟩, w2, H2⟩
  exact ⟨z2, rfl, ez, N', y1, y2, hB2, hX0.two hA hIB0.1.1.2.1 H1 w1 w2 (by decide +kernel) (by decide +kernel)⟩
theorem hpr_comes {N : Int} {A : hs_A} (hA : hJ 0 N (N + 72) A A) (hN : N ≤ 800000) (hI : hIC A) (a1 : Int32) (a2 : Int32) : hxC 26 91 hm_m91 [.ref 1, .int a1, .int a2] A (fun r A1 => ∃ z : Int32, r = some (.int z) ∧ hxC 26 204 hm_m204 [.ref 368, .int a1, .int a2] A1 (fun r2 A2 => ∃ z2 : Int32, r2 = some (.int z2) ∧ ∃ N' : Int, N' ≤ N + 144 ∧ hJ 0 N' (N' + 72) A2 A2 ∧ hIC A2)) := by
  obtain ⟨hIB0, hX0⟩ := hI
  refine hxC.post (uf_k91 hIB0.1.1.2.1 a1 a2 (hpb_comes hA hN hIB0 a1 a2)) ?_
  rintro _ A1 ⟨⟨z1, rfl, hC⟩, w1, H1⟩
  refine ⟨z1, rfl, ?_⟩
  refine hxC.post (uf_k204 H1 a1 a2 hC) ?_
  rintro _ A2 ⟨⟨z2, rfl, N', y1, y2, hB2⟩, w2, H2⟩
  exact ⟨z2, rfl, N', y1, y2, hB2, hX0.two hA hIB0.1.1.2.1 H1 w1 w2 (by decide +kernel) (by decide +kernel)⟩
theorem hpr_last {N : Int} {A : hs_A} (hA : hJ 0 N (N + 72) A A) (hN : N ≤ 800000) (hI : hIC A) (a1 : Int32) : hxC 26 92 hm_m92 [.ref 1, .int a1] A (fun r A1 => ∃ z : Int32, r = some (.int z) ∧ hxC 26 205 hm_m205 [.ref 368, .int a1] A1 (fun r2 A2 => ∃ z2 : Int32, r2 = some (.int z2) ∧ ∃ N' : Int, N' ≤ N + 144 ∧ hJ 0 N' (N' + 72) A2 A2 ∧ hIC A2)) := by
  obtain ⟨hIB0, hX0⟩ := hI
  refine hxC.post (uf_k92 hIB0.1.1.2.1 a1 (hpb_last hA hN hIB0 a1)) ?_
  rintro _ A1 ⟨⟨z1, rfl, hC⟩, w1, H1⟩
  refine ⟨z1, rfl, ?_⟩
  refine hxC.post (uf_k205 H1 a1 hC) ?_
  rintro _ A2 ⟨⟨z2, rfl, N', y1, y2, hB2⟩, w2, H2⟩
  exact ⟨z2, rfl, N', y1, y2, hB2, hX0.two hA hIB0.1.1.2.1 H1 w1 w2 (by decide +kernel) (by decide +kernel)⟩
theorem hpr_sendFor {N : Int} {A : hs_A} (hA : hJ 0 N (N + 72) A A) (hN : N ≤ 800000) (hI : hIC A) (a1 : Int32) : hxC 26 93 hm_m93 [.ref 1, .int a1] A (fun r A1 => ∃ z : Int32, r = some (.int z) ∧ hxC 26 206 hm_m206 [.ref 368, .int a1] A1 (fun r2 A2 => ∃ z2 : Int32, r2 = some (.int z2) ∧ ∃ N' : Int, N' ≤ N + 144 ∧ hJ 0 N' (N' + 72) A2 A2 ∧ hIC A2)) := by
  obtain ⟨hIB0, hX0⟩ := hI
  refine hxC.post (uf_k93 hIB0.1.1.2.1 a1 (hpb_sendFor hA hN hIB0 a1)) ?_
  rintro _ A1 ⟨⟨z1, rfl, hC⟩, w1, H1⟩
  refine ⟨z1, rfl, ?_⟩
  refine hxC.post (uf_k206 H1 a1 hC) ?_
  rintro _ A2 ⟨⟨z2, rfl, N', y1, y2, hB2⟩, w2, H2⟩
  exact ⟨z2, rfl, N', y1, y2, hB2, hX0.two hA hIB0.1.1.2.1 H1 w1 w2 (by decide +kernel) (by decide +kernel)⟩
theorem hpr_apart {N : Int} {A : hs_A} (hA : hJ 0 N (N + 72) A A) (hN : N ≤ 800000) (hI : hIC A) (a1 : Int32) : hxC 26 94 hm_m94 [.ref 1, .int a1] A (fun r A1 => ∃ z : Int32, r = some (.int z) ∧ hxC 26 207 hm_m207 [.ref 368, .int a1] A1 (fun r2 A2 => ∃ z2 : Int32, r2 = some (.int z2) ∧ ∃ N' : Int, N' ≤ N + 144 ∧ hJ 0 N' (N' + 72) A2 A2 ∧ hIC A2)) := by
  obtain ⟨hIB0, hX0⟩ := hI
  refine hxC.post (uf_k94 hIB0.1.1.2.1 a1 (hpb_apart hA hN hIB0 a1)) ?_
  rintro _ A1 ⟨⟨z1, rfl, hC⟩, w1, H1⟩
  refine ⟨z1, rfl, ?_⟩
  refine hxC.post (uf_k207 H1 a1 hC) ?_
  rintro _ A2 ⟨⟨z2, rfl, N', y1, y2, hB2⟩, w2, H2⟩
  exact ⟨z2, rfl, N', y1, y2, hB2, hX0.two hA hIB0.1.1.2.1 H1 w1 w2 (by decide +kernel) (by decide +kernel)⟩
theorem hpr_code {N : Int} {A : hs_A} (hA : hJ 0 N (N + 72) A A) (hN : N ≤ 800000) (hI : hIC A) (a1 : Int32) (a2 : Int32) (a3 : Int32) : hxC 26 95 hm_m95 [.ref 1, .int a1, .int a2, .int a3] A (fun r A1 => ∃ z : Int32, r = some (.int z) ∧ hxC 26 208 hm_m208 [.ref 368, .int a1, .int a2, .int a3] A1 (fun r2 A2 => ∃ z2 : Int32, r2 = some (.int z2) ∧ ∃ N' : Int, N' ≤ N + 144 ∧ hJ 0 N' (N' + 72) A2 A2 ∧ hIC A2)) := by
  obtain ⟨hIB0, hX0⟩ := hI
  refine hxC.post (uf_k95 hIB0.1.1.2.1 a1 a2 a3 (hpb_code hA hN hIB0 a1 a2 a3)) ?_
  rintro _ A1 ⟨⟨z1, rfl, hC⟩, w1, H1⟩
  refine ⟨z1, rfl, ?_⟩
  refine hxC.post (uf_k208 H1 a1 a2 a3 hC) ?_
  rintro _ A2 ⟨⟨z2, rfl, N', y1, y2, hB2⟩, w2, H2⟩
  exact ⟨z2, rfl, N', y1, y2, hB2, hX0.two hA hIB0.1.1.2.1 H1 w1 w2 (by decide +kernel) (by decide +kernel)⟩
theorem hpr_lost {N : Int} {A : hs_A} (hA : hJ 0 N (N + 72) A A) (hN : N ≤ 800000) (hI : hIC A) (a1 : Int32) : hxC 26 97 hm_m97 [.ref 1, .int a1] A (fun r A1 => ∃ z : Int32, r = some (.int z) ∧ hxC 26 209 hm_m209 [.ref 368, .int a1] A1 (fun r2 A2 => ∃ z2 : Int32, r2 = some (.int z2) ∧ ∃ N' : Int, N' ≤ N + 144 ∧ hJ 0 N' (N' + 72) A2 A2 ∧ hIC A2)) := by
  obtain ⟨hIB0, hX0⟩ := hI
  refine hxC.post (uf_k97 hIB0.1.1.2.1 a1 (hpb_lost hA hN hIB0 a1)) ?_
  rintro _ A1 ⟨⟨z1, rfl, hC⟩, w1, H1⟩
  refine ⟨z1, rfl, ?_⟩
  refine hxC.post (uf_k209 H1 a1 hC) ?_
  rintro _ A2 ⟨⟨z2, rfl, N', y1, y2, hB2⟩, w2, H2⟩
  exact ⟨z2, rfl, N', y1, y2, hB2, hX0.two hA hIB0.1.1.2.1 H1 w1 w2 (by decide +kernel) (by decide +kernel)⟩
theorem hpr_between {N : Int} {A : hs_A} (hA : hJ 0 N (N + 72) A A) (hN : N ≤ 800000) (hI : hIC A) (a1 : Int32) (a2 : Int32) (a3 : Int32) : hxC 26 98 hm_m98 [.ref 1, .int a1, .int a2, .int a3] A (fun r A1 => ∃ z : Int32, r = some (.int z) ∧ hxC 26 210 hm_m210 [.ref 368, .int a1, .int a2, .int a3] A1 (fun r2 A2 => ∃ z2 : Int32, r2 = some (.int z2) ∧ ∃ N' : Int, N' ≤ N + 144 ∧ hJ 0 N' (N' + 72) A2 A2 ∧ hIC A2)) := by
  obtain ⟨hIB0, hX0⟩ := hI
  refine hxC.post (uf_k98 hIB0.1.1.2.1 a1 a2 a3 (hpb_between hA hN hIB0 a1 a2 a3)) ?_
  rintro _ A1 ⟨⟨z1, rfl, hC⟩, w1, H1⟩
  refine ⟨z1, rfl, ?_⟩
  refine hxC.post (uf_k210 H1 a1 a2 a3 hC) ?_
  rintro _ A2 ⟨⟨z2, rfl, N', y1, y2, hB2⟩, w2, H2⟩
  exact ⟨z2, rfl, N', y1, y2, hB2, hX0.two hA hIB0.1.1.2.1 H1 w1 w2 (by decide +kernel) (by decide +kernel)⟩
theorem hpr_widest {N : Int} {A : hs_A} (hA : hJ 0 N (N + 72) A A) (hN : N ≤ 800000) (hI : hIC A) (a1 : Int32) (a2 : Int32) : hxC 26 99 hm_m99 [.ref 1, .int a1, .int a2] A (fun r A1 => ∃ z : Int32, r = some (.int z) ∧ hxC 26 211 hm_m211 [.ref 368, .int a1, .int a2] A1 (fun r2 A2 => ∃ z2 : Int32, r2 = some (.int z2) ∧ ∃ N' : Int, N' ≤ N + 144 ∧ hJ 0 N' (N' + 72) A2 A2 ∧ hIC A2)) := by
  obtain ⟨hIB0, hX0⟩ := hI
  refine hxC.post (uf_k99 hIB0.1.1.2.1 a1 a2 (hpb_widest hA hN hIB0 a1 a2)) ?_
  rintro _ A1 ⟨⟨z1, rfl, hC⟩, w1, H1⟩
  refine ⟨z1, rfl, ?_⟩
  refine hxC.post (uf_k211 H1 a1 a2 hC) ?_
  rintro _ A2 ⟨⟨z2, rfl, N', y1, y2, hB2⟩, w2, H2⟩
  exact ⟨z2, rfl, N', y1, y2, hB2, hX0.two hA hIB0.1.1.2.1 H1 w1 w2 (by decide +kernel) (by decide +kernel)⟩
theorem hpr_same {N : Int} {A : hs_A} (hA : hJ 0 N (N + 72) A A) (hN : N ≤ 800000) (hI : hIC A) (a1 : Int32) (a2 : Int32) : hxC 26 100 hm_m100 [.ref 1, .int a1, .int a2] A (fun r A1 => ∃ z : Int32, r = some (.int z) ∧ hxC 26 212 hm_m212 [.ref 368, .int a1, .int a2] A1 (fun r2 A2 => ∃ z2 : Int32, r2 = some (.int z2) ∧ ∃ N' : Int, N' ≤ N + 144 ∧ hJ 0 N' (N' + 72) A2 A2 ∧ hIC A2)) := by
  obtain ⟨hIB0, hX0⟩ := hI
  refine hxC.post (uf_k100 hIB0.1.1.2.1 a1 a2 (hpb_same hA hN hIB0 a1 a2)) ?_
  rintro _ A1 ⟨⟨z1, rfl, hC⟩, w1, H1⟩
  refine ⟨z1, rfl, ?_⟩
  refine hxC.post (uf_k212 H1 a1 a2 hC) ?_
  rintro _ A2 ⟨⟨z2, rfl, N', y1, y2, hB2⟩, w2, H2⟩
  exact ⟨z2, rfl, N', y1, y2, hB2, hX0.two hA hIB0.1.1.2.1 H1 w1 w2 (by decide +kernel) (by decide +kernel)⟩
theorem hpr_itself {N : Int} {A : hs_A} (hA : hJ 0 N (N + 72) A A) (hN : N ≤ 800000) (hI : hIC A) (a1 : Int32) : hxC 26 101 hm_m101 [.ref 1, .int a1] A (fun r A1 => ∃ z : Int32, r = some (.int z) ∧ hxC 26 213 hm_m213 [.ref 368, .int a1] A1 (fun r2 A2 => ∃ z2 : Int32, r2 = some (.int z2) ∧ ∃ N' : Int, N' ≤ N + 144 ∧ hJ 0 N' (N' + 72) A2 A2 ∧ hIC A2)) := by
  obtain ⟨hIB0, hX0⟩ := hI
  refine hxC.post (uf_k101 hIB0.1.1.2.1 a1 (hpb_itself hA hN hIB0 a1)) ?_
  rintro _ A1 ⟨⟨z1, rfl, hC⟩, w1, H1⟩
  refine ⟨z1, rfl, ?_⟩
  refine hxC.post (uf_k213 H1 a1 hC) ?_
  rintro _ A2 ⟨⟨z2, rfl, N', y1, y2, hB2⟩, w2, H2⟩
  exact ⟨z2, rfl, N', y1, y2, hB2, hX0.two hA hIB0.1.1.2.1 H1 w1 w2 (by decide +kernel) (by decide +kernel)⟩
theorem hpr_times {N : Int} {A : hs_A} (hA : hJ 0 N (N + 72) A A) (hN : N ≤ 800000) (hI : hIC A) (a1 : Int32) (a2 : Int32) : hxC 26 102 hm_m102 [.ref 1, .int a1, .int a2] A (fun r A1 => ∃ z : Int32, r = some (.int z) ∧ hxC 26 216 hm_m216 [.ref 368, .int a1, .int a2] A1 (fun r2 A2 => ∃ z2 : Int32, r2 = some (.int z2) ∧ ∃ N' : Int, N' ≤ N + 144 ∧ hJ 0 N' (N' + 72) A2 A2 ∧ hIC A2)) := by
  obtain ⟨hIB0, hX0⟩ := hI
  refine hxC.post (uf_k102 hIB0.1.1.2.1 a1 a2 (hpb_times hA hN hIB0 a1 a2)) ?_
  rintro _ A1 ⟨⟨z1, rfl, hC⟩, w1, H1⟩
  refine ⟨z1, rfl, ?_⟩
  refine hxC.post (uf_k216 H1 a1 a2 hC) ?_
  rintro _ A2 ⟨⟨z2, rfl, N', y1, y2, hB2⟩, w2, H2⟩
  exact ⟨z2, rfl, N', y1, y2, hB2, hX0.two hA hIB0.1.1.2.1 H1 w1 w2 (by decide +kernel) (by decide +kernel)⟩
theorem hpr_bestHour {N : Int} {A : hs_A} (hA : hJ 0 N (N + 72) A A) (hN : N ≤ 800000) (hI : hIC A) (a1 : Int32) (a2 : Int32) : hxC 26 105 hm_m105 [.ref 1, .int a1, .int a2] A (fun r A1 => ∃ z : Int32, r = some (.int z) ∧ hxC 26 217 hm_m217 [.ref 368, .int a1, .int a2] A1 (fun r2 A2 => ∃ z2 : Int32, r2 = some (.int z2) ∧ ∃ N' : Int, N' ≤ N + 144 ∧ hJ 0 N' (N' + 72) A2 A2 ∧ hIC A2)) := by
  obtain ⟨hIB0, hX0⟩ := hI
  refine hxC.post (uf_k105 hIB0.1.1.2.1 a1 a2 (hpb_bestHour hA hN hIB0 a1 a2)) ?_
  rintro _ A1 ⟨⟨z1, rfl, hC⟩, w1, H1⟩
  refine ⟨z1, rfl, ?_⟩
  refine hxC.post (uf_k217 H1 a1 a2 hC) ?_
  rintro _ A2 ⟨⟨z2, rfl, N', y1, y2, hB2⟩, w2, H2⟩
  exact ⟨z2, rfl, N', y1, y2, hB2, hX0.two hA hIB0.1.1.2.1 H1 w1 w2 (by decide +kernel) (by decide +kernel)⟩
theorem hpr_loudest {N : Int} {A : hs_A} (hA : hJ 0 N (N + 72) A A) (hN : N ≤ 800000) (hI : hIC A) (a1 : Int32) (a2 : Int32) : hxC 26 108 hm_m108 [.ref 1, .int a1, .int a2] A (fun r A1 => ∃ z : Int32, r = some (.int z) ∧ hxC 26 219 hm_m219 [.ref 368, .int a1, .int a2] A1 (fun r2 A2 => ∃ z2 : Int32, r2 = some (.int z2) ∧ ∃ N' : Int, N' ≤ N + 144 ∧ hJ 0 N' (N' + 72) A2 A2 ∧ hIC A2)) := by
  obtain ⟨hIB0, hX0⟩ := hI
  refine hxC.post (uf_k108 hIB0.1.1.2.1 a1 a2 (hpb_loudest hA hN hIB0 a1 a2)) ?_
  rintro _ A1 ⟨⟨z1, rfl, hC⟩, w1, H1⟩
  refine ⟨z1, rfl, ?_⟩
  refine hxC.post (uf_k219 H1 a1 a2 hC) ?_
  rintro _ A2 ⟨⟨z2, rfl, N', y1, y2, hB2⟩, w2, H2⟩
  exact ⟨z2, rfl, N', y1, y2, hB2, hX0.two hA hIB0.1.1.2.1 H1 w1 w2 (by decide +kernel) (by decide +kernel)⟩
theorem hpr_warm {N : Int} {A : hs_A} (hA : hJ 0 N (N + 72) A A) (hN : N ≤ 800000) (hI : hIC A) (a1 : Int32) : hxC 26 110 hm_m110 [.ref 1, .int a1] A (fun r A1 => ∃ z : Int32, r = some (.int z) ∧ hxC 26 220 hm_m220 [.ref 368, .int a1] A1 (fun r2 A2 => ∃ z2 : Int32, r2 = some (.int z2) ∧ ∃ N' : Int, N' ≤ N + 144 ∧ hJ 0 N' (N' + 72) A2 A2 ∧ hIC A2)) := by
  obtain ⟨hIB0, hX0⟩ := hI
  refine hxC.post (uf_k110 hIB0.1.1.2.1 a1 (hpb_warm hA hN hIB0 a1)) ?_
  rintro _ A1 ⟨⟨z1, rfl, hC⟩, w1, H1⟩
  refine ⟨z1, rfl, ?_⟩
  refine hxC.post (uf_k220 H1 a1 hC) ?_
  rintro _ A2 ⟨⟨z2, rfl, N', y1, y2, hB2⟩, w2, H2⟩
  exact ⟨z2, rfl, N', y1, y2, hB2, hX0.two hA hIB0.1.1.2.1 H1 w1 w2 (by decide +kernel) (by decide +kernel)⟩
theorem hpr_warmth {N : Int} {A : hs_A} (hA : hJ 0 N (N + 72) A A) (hN : N ≤ 800000) (hI : hIC A) (a1 : Int32) : hxC 26 112 hm_m112 [.ref 1, .int a1] A (fun r A1 => ∃ z : Int32, r = some (.int z) ∧ hxC 26 222 hm_m222 [.ref 368, .int a1] A1 (fun r2 A2 => ∃ z2 : Int32, r2 = some (.int z2) ∧ ∃ N' : Int, N' ≤ N + 144 ∧ hJ 0 N' (N' + 72) A2 A2 ∧ hIC A2)) := by
  obtain ⟨hIB0, hX0⟩ := hI
  refine hxC.post (uf_k112 hIB0.1.1.2.1 a1 (hpb_warmth hA hN hIB0 a1)) ?_
  rintro _ A1 ⟨⟨z1, rfl, hC⟩, w1, H1⟩
  refine ⟨z1, rfl, ?_⟩
  refine hxC.post (uf_k222 H1 a1 hC) ?_
  rintro _ A2 ⟨⟨z2, rfl, N', y1, y2, hB2⟩, w2, H2⟩
  exact ⟨z2, rfl, N', y1, y2, hB2, hX0.two hA hIB0.1.1.2.1 H1 w1 w2 (by decide +kernel) (by decide +kernel)⟩
theorem hpr_then {N : Int} {A : hs_A} (hA : hJ 0 N (N + 72) A A) (hN : N ≤ 800000) (hI : hIC A) (a1 : Int32) (a2 : Int32) (a3 : Int32) : hxC 26 113 hm_m113 [.ref 1, .int a1, .int a2, .int a3] A (fun r A1 => ∃ z : Int32, r = some (.int z) ∧ hxC 26 223 hm_m223 [.ref 368, .int a1, .int a2, .int a3] A1 (fun r2 A2 => ∃ z2 : Int32, r2 = some (.int z2) ∧ ∃ N' : Int, N' ≤ N + 144 ∧ hJ 0 N' (N' + 72) A2 A2 ∧ hIC A2)) := by
  obtain ⟨hIB0, hX0⟩ := hI
  refine hxC.post (uf_k113 hIB0.1.1.2.1 a1 a2 a3 (hpb_then hA hN hIB0 a1 a2 a3)) ?_
  rintro _ A1 ⟨⟨z1, rfl, hC⟩, w1, H1⟩
  refine ⟨z1, rfl, ?_⟩
  refine hxC.post (uf_k223 H1 a1 a2 a3 hC) ?_
  rintro _ A2 ⟨⟨z2, rfl, N', y1, y2, hB2⟩, w2, H2⟩
  exact ⟨z2, rfl, N', y1, y2, hB2, hX0.two hA hIB0.1.1.2.1 H1 w1 w2 (by decide +kernel) (by decide +kernel)⟩
theorem hpr_quiet {N : Int} {A : hs_A} (hA : hJ 0 N (N + 72) A A) (hN : N ≤ 800000) (hI : hIC A) (a1 : Int32) (a2 : Int32) : hxC 26 114 hm_m114 [.ref 1, .int a1, .int a2] A (fun r A1 => ∃ z : Int32, r = some (.int z) ∧ hxC 26 224 hm_m224 [.ref 368, .int a1, .int a2] A1 (fun r2 A2 => ∃ z2 : Int32, r2 = some (.int z2) ∧ ∃ N' : Int, N' ≤ N + 144 ∧ hJ 0 N' (N' + 72) A2 A2 ∧ hIC A2)) := by
  obtain ⟨hIB0, hX0⟩ := hI
  refine hxC.post (uf_k114 hIB0.1.1.2.1 a1 a2 (hpb_quiet hA hN hIB0 a1 a2)) ?_
  rintro _ A1 ⟨⟨z1, rfl, hC⟩, w1, H1⟩
  refine ⟨z1, rfl, ?_⟩
  refine hxC.post (uf_k224 H1 a1 a2 hC) ?_
  rintro _ A2 ⟨⟨z2, rfl, N', y1, y2, hB2⟩, w2, H2⟩
  exact ⟨z2, rfl, N', y1, y2, hB2, hX0.two hA hIB0.1.1.2.1 H1 w1 w2 (by decide +kernel) (by decide +kernel)⟩
theorem hpr_mourn {N : Int} {A : hs_A} (hA : hJ 0 N (N + 72) A A) (hN : N ≤ 800000) (hI : hIC A) (a1 : Int32) : hxC 26 115 hm_m115 [.ref 1, .int a1] A (fun r A1 => ∃ z : Int32, r = some (.int z) ∧ hxC 26 226 hm_m226 [.ref 368, .int a1] A1 (fun r2 A2 => ∃ z2 : Int32, r2 = some (.int z2) ∧ ∃ N' : Int, N' ≤ N + 144 ∧ hJ 0 N' (N' + 72) A2 A2 ∧ hIC A2)) := by
  obtain ⟨hIB0, hX0⟩ := hI
  refine hxC.post (uf_k115 hIB0.1.1.2.1 a1 (hpb_mourn hA hN hIB0 a1)) ?_
  rintro _ A1 ⟨⟨z1, rfl, hC⟩, w1, H1⟩
  refine ⟨z1, rfl, ?_⟩
  refine hxC.post (uf_k226 H1 a1 hC) ?_
  rintro _ A2 ⟨⟨z2, rfl, N', y1, y2, hB2⟩, w2, H2⟩
  exact ⟨z2, rfl, N', y1, y2, hB2, hX0.two hA hIB0.1.1.2.1 H1 w1 w2 (by decide +kernel) (by decide +kernel)⟩
theorem hpr_changeBest {N : Int} {A : hs_A} (hA : hJ 0 N (N + 72) A A) (hN : N ≤ 800000) (hI : hIC A) (a1 : Int32) : hxC 26 118 hm_m118 [.ref 1, .int a1] A (fun r A1 => ∃ z : Int32, r = some (.int z) ∧ hxC 26 229 hm_m229 [.ref 368, .int a1] A1 (fun r2 A2 => ∃ z2 : Int32, r2 = some (.int z2) ∧ ∃ N' : Int, N' ≤ N + 144 ∧ hJ 0 N' (N' + 72) A2 A2 ∧ hIC A2)) := by
  obtain ⟨hIB0, hX0⟩ := hI
  refine hxC.post (uf_k118 hIB0.1.1.2.1 a1 (hpb_changeBest hA hN hIB0 a1)) ?_
  rintro _ A1 ⟨⟨z1, rfl, hC⟩, w1, H1⟩
  refine ⟨z1, rfl, ?_⟩
  refine hxC.post (uf_k229 H1 a1 hC) ?_
  rintro _ A2 ⟨⟨z2, rfl, N', y1, y2, hB2⟩, w2, H2⟩
  exact ⟨z2, rfl, N', y1, y2, hB2, hX0.two hA hIB0.1.1.2.1 H1 w1 w2 (by decide +kernel) (by decide +kernel)⟩
theorem hpr_year {N : Int} {A : hs_A} (hA : hJ 0 N (N + 72) A A) (hN : N ≤ 800000) (hI : hIC A) (a1 : Int32) (a2 : Int32) (a3 : Int32) : hxC 26 121 hm_m121 [.ref 1, .int a1, .int a2, .int a3] A (fun r A1 => ∃ z : Int32, r = some (.int z) ∧ hxC 26 231 hm_m231 [.ref 368, .int a1, .int a2, .int a3] A1 (fun r2 A2 => ∃ z2 : Int32, r2 = some (.int z2) ∧ ∃ N' : Int, N' ≤ N + 144 ∧ hJ 0 N' (N' + 72) A2 A2 ∧ hIC A2)) := by
  obtain ⟨hIB0, hX0⟩ := hI
  refine hxC.post (uf_k121 hIB0.1.1.2.1 a1 a2 a3 (hpb_year hA hN hIB0 a1 a2 a3)) ?_
  rintro _ A1 ⟨⟨z1, rfl, hC⟩, w1, H1⟩
  refine ⟨z1, rfl, ?_⟩
  refine hxC.post (uf_k231 H1 a1 a2 a3 hC) ?_
  rintro _ A2 ⟨⟨z2, rfl, N', y1, y2, hB2⟩, w2, H2⟩
  exact ⟨z2, rfl, N', y1, y2, hB2, hX0.two hA hIB0.1.1.2.1 H1 w1 w2 (by decide +kernel) (by decide +kernel)⟩
theorem hpr_tell {N : Int} {A : hs_A} (hA : hJ 0 N (N + 72) A A) (hN : N ≤ 800000) (hI : hIC A) (a1 : Int32) (a2 : Int32) : hxC 26 122 hm_m122 [.ref 1, .int a1, .int a2] A (fun r A1 => ∃ z : Int32, r = some (.int z) ∧ hxC 26 232 hm_m232 [.ref 368, .int a1, .int a2] A1 (fun r2 A2 => ∃ z2 : Int32, r2 = some (.int z2) ∧ z = z2 ∧ ∃ N' : Int, N' ≤ N + 144 ∧ hJ 0 N' (N' + 72) A2 A2 ∧ hIC A2)) := by
  obtain ⟨hIB0, hX0⟩ := hI
  refine hxC.post (uf_k122 hIB0.1.1.2.1 a1 a2 (hpb_tell hA hN hIB0 a1 a2)) ?_
  rintro _ A1 ⟨⟨z1, rfl, hC⟩, w1, H1⟩
  refine ⟨z1, rfl, ?_⟩
  refine hxC.post (uf_k232 H1 a1 a2 hC) ?_
  rintro _ A2 ⟨⟨z2, rfl, ez, N', y1, y2, hB2⟩, w2, H2⟩
  exact ⟨z2, rfl, ez, N', y1, y2, hB2, hX0.two hA hIB0.1.1.2.1 H1 w1 w2 (by decide +kernel) (by decide +kernel)⟩
theorem hpr_forget {N : Int} {A : hs_A} (hA : hJ 0 N (N + 72) A A) (hN : N ≤ 800000) (hI : hIC A)  : hxC 26 123 hm_m123 [.ref 1] A (fun r A1 => ∃ z : Int32, r = some (.int z) ∧ hxC 26 233 hm_m233 [.ref 368] A1 (fun r2 A2 => ∃ z2 : Int32, r2 = some (.int z2) ∧ z = z2 ∧ ∃ N' : Int, N' ≤ N + 144 ∧ hJ 0 N' (N' + 72) A2 A2 ∧ hIC A2)) := by
  obtain ⟨hIB0, hX0⟩ := hI
  refine hxC.post (uf_k123 hIB0.1.1.2.1  (hpb_forget hA hN hIB0 )) ?_
  rintro _ A1 ⟨⟨z1, rfl, hC⟩, w1, H1⟩
  refine ⟨z1, rfl, ?_⟩
  refine hxC.post (uf_k233 H1  hC) ?_
  rintro _ A2 ⟨⟨z2, rfl, ez, N', y1, y2, hB2⟩, w2, H2⟩
  exact ⟨z2, rfl, ez, N', y1, y2, hB2, hX0.two hA hIB0.1.1.2.1 H1 w1 w2 (by decide +kernel) (by decide +kernel)⟩
theorem hpr_sent {N : Int} {A : hs_A} (hA : hJ 0 N (N + 72) A A) (hN : N ≤ 800000) (hI : hIC A) (a1 : Int32) (a2 : Int32) : hxC 26 125 hm_m125 [.ref 1, .int a1, .int a2] A (fun r A1 => ∃ z : Int32, r = some (.int z) ∧ hxC 26 235 hm_m235 [.ref 368, .int a1, .int a2] A1 (fun r2 A2 => ∃ z2 : Int32, r2 = some (.int z2) ∧ ∃ N' : Int, N' ≤ N + 144 ∧ hJ 0 N' (N' + 72) A2 A2 ∧ hIC A2)) := by
  obtain ⟨hIB0, hX0⟩ := hI
  refine hxC.post (uf_k125 hIB0.1.1.2.1 a1 a2 (hpb_sent hA hN hIB0 a1 a2)) ?_
  rintro _ A1 ⟨⟨z1, rfl, hC⟩, w1, H1⟩
  refine ⟨z1, rfl, ?_⟩
  refine hxC.post (uf_k235 H1 a1 a2 hC) ?_
  rintro _ A2 ⟨⟨z2, rfl, N', y1, y2, hB2⟩, w2, H2⟩
  exact ⟨z2, rfl, N', y1, y2, hB2, hX0.two hA hIB0.1.1.2.1 H1 w1 w2 (by decide +kernel) (by decide +kernel)⟩
theorem hpr_listen {N : Int} {A : hs_A} (hA : hJ 0 N (N + 72) A A) (hN : N ≤ 800000) (hI : hIC A) (a1 : Int32) : hxC 26 126 hm_m126 [.ref 1, .int a1] A (fun r A1 => ∃ z : Int32, r = some (.int z) ∧ hxC 26 237 hm_m237 [.ref 368, .int a1] A1 (fun r2 A2 => ∃ z2 : Int32, r2 = some (.int z2) ∧ ∃ N' : Int, N' ≤ N + 144 ∧ hJ 0 N' (N' + 72) A2 A2 ∧ hIC A2)) := by
  obtain ⟨hIB0, hX0⟩ := hI
  refine hxC.post (uf_k126 hIB0.1.1.2.1 a1 (hpb_listen hA hN hIB0 a1)) ?_
  rintro _ A1 ⟨⟨z1, rfl, hC⟩, w1, H1⟩
  refine ⟨z1, rfl, ?_⟩
  refine hxC.post (uf_k237 H1 a1 hC) ?_
  rintro _ A2 ⟨⟨z2, rfl, N', y1, y2, hB2⟩, w2, H2⟩
  exact ⟨z2, rfl, N', y1, y2, hB2, hX0.two hA hIB0.1.1.2.1 H1 w1 w2 (by decide +kernel) (by decide +kernel)⟩
theorem hpr_count {N : Int} {A : hs_A} (hA : hJ 0 N (N + 72) A A) (hN : N ≤ 800000) (hI : hIC A) (a1 : Int32) : hxC 26 130 hm_m130 [.ref 1, .int a1] A (fun r A1 => ∃ z : Int32, r = some (.int z) ∧ hxC 26 241 hm_m241 [.ref 368, .int a1] A1 (fun r2 A2 => ∃ z2 : Int32, r2 = some (.int z2) ∧ ∃ N' : Int, N' ≤ N + 144 ∧ hJ 0 N' (N' + 72) A2 A2 ∧ hIC A2)) := by
  obtain ⟨hIB0, hX0⟩ := hI
  refine hxC.post (uf_k130 hIB0.1.1.2.1 a1 (hpb_count hA hN hIB0 a1)) ?_
  rintro _ A1 ⟨⟨z1, rfl, hC⟩, w1, H1⟩
  refine ⟨z1, rfl, ?_⟩
  refine hxC.post (uf_k241 H1 a1 hC) ?_
  rintro _ A2 ⟨⟨z2, rfl, N', y1, y2, hB2⟩, w2, H2⟩
  exact ⟨z2, rfl, N', y1, y2, hB2, hX0.two hA hIB0.1.1.2.1 H1 w1 w2 (by decide +kernel) (by decide +kernel)⟩
/-! QUERIES OF THE ROW THAT IS -/
def huLi (n : Nat) (ro : Nat → Int32) (w z : Int32) : Prop := (∃ h, h < n ∧ ro (20 + h) = w ∧ (∀ j, j < h → ¬ ro (20 + j) = w) ∧ z = Int32.ofNat h) ∨ ((∀ j, j < n → ¬ ro (20 + j) = w) ∧ z = Int32.ofNat 4294967295)
theorem huLi_one {n : Nat} {ro : Nat → Int32} {w z z' : Int32} (h : huLi n ro w z) (h' : huLi n ro w z') : z = z' := by
  rcases h with ⟨a, a1, a2, a3, rfl⟩ | ⟨a1, rfl⟩
  · rcases h' with ⟨b, b1, b2, b3, rfl⟩ | ⟨b1, rfl⟩
    · by_cases q : a = b
      · rw [q]
      · by_cases r : a < b
        · exact absurd a2 (b3 a r)
        · exact absurd b2 (a3 b (by omega))
    · exact absurd a2 (b1 a a1)
  · rcases h' with ⟨b, b1, b2, b3, rfl⟩ | ⟨b1, rfl⟩
    · exact absurd b2 (a1 b b1)
    · rfl
/-- at a house v, else -1 -/
def huAt (n : Nat) (a v z : Int32) : Prop := (0 ≤ a.toInt ∧ a.toInt < (n : Int) ∧ z = v) ∨ ((a.toInt < 0 ∨ (n : Int) ≤ a.toInt) ∧ z = Int32.ofNat 4294967295)
theorem huAt_one {n : Nat} {a v z z' : Int32} (h : huAt n a v z) (h' : huAt n a v z') : z = z' := by
  rcases h with ⟨a1, a2, rfl⟩ | ⟨a1, rfl⟩
  · rcases h' with ⟨b1, b2, rfl⟩ | ⟨b1, rfl⟩
    · rfl
    · exact False.elim (by omega)
  · rcases h' with ⟨b1, b2, rfl⟩ | ⟨b1, rfl⟩
    · exact False.elim (by omega)
    · rfl
def huOf (ro : Nat → Int32) : Nat → Nat
  | 0 => 0
  | k + 1 => huOf ro k + (if (ro (50 + k)).toInt = 1 then 0 else 1)
theorem huOf_y {ro : Nat → Int32} {k : Nat} (h : (ro (50 + k)).toInt = 1) : huOf ro (k + 1) = huOf ro k := by
  show huOf ro k + (if (ro (50 + k)).toInt = 1 then 0 else 1) = _
  rw [if_pos h]
  rfl
theorem huOf_n {ro : Nat → Int32} {k : Nat} (h : ¬ (ro (50 + k)).toInt = 1) : huOf ro (k + 1) = huOf ro k + 1 := by
  show huOf ro k + (if (ro (50 + k)).toInt = 1 then 0 else 1) = _
  rw [if_neg h]
theorem hW76 {g d f : Nat} {A : hs_A} {T n : Nat} {ro : Nat → Int32} (a1 : Int32) (hT : hTT T) (h3 : A.2.2.2 0 3 = T + 1) (hTn : (A.1 T 4).toInt = (n : Int)) (hL : hdL 26 ro n A) {P : Option Value → hs_A → Prop} (hP : ∀ (r : Option Value) (A' : hs_A), (A = A' ∧ ∃ z : Int32, r = some (.int z) ∧ ((z.toInt = 1 ∧ 0 ≤ a1.toInt ∧ a1.toInt < (n : Int)) ∨ (z.toInt = 0 ∧ (a1.toInt < 0 ∨ (n : Int) ≤ a1.toInt)))) → P r A') : hpa (f, g) d (some (.boolean)) hm_t76 0 [.ref 1, .int a1] [] A P := by
  have k0 := hk_0
  have k1 := hk_1
  have k10 := hk_10
  have hn10 := hL.1
  have cn := hn_c (n := n) (z := Int32.ofNat n) rfl (by omega)
  refine hpa_iload_n (by rfl) rfl ?_
  refine hpj_zlt (by rfl) rfl (fun q1 => ?_) (fun q1 => ?_)
  ·
    refine hpa_iconst (by rfl) rfl ?_
    exact hpa_ireturn (by rfl) (by rfl) (hP _ _ ⟨rfl, _, rfl, Or.inr ⟨hk_0, by omega⟩⟩)
  ·
    refine hpa_iload_n (by rfl) rfl ?_
    refine hpa_aload_n (by rfl) rfl ?_
    refine hpj_getT (by rfl) (by rfl) (by rfl) h3 ?_
    refine hpj_getK (by rfl) (hsT hT) (by rfl) rfl ?_
    rw [show (A.1 T 4) = Int32.ofNat n from huI hTn (by omega)]
    refine hpj_cge (by rfl) rfl cn (fun q2 => ?_) (fun q2 => ?_)
    ·
      refine hpa_iconst (by rfl) rfl ?_
      exact hpa_ireturn (by rfl) (by rfl) (hP _ _ ⟨rfl, _, rfl, Or.inr ⟨hk_0, by omega⟩⟩)
    ·
      refine hpa_iload_n (by rfl) rfl ?_
      refine hpa_bipush (by rfl) rfl ?_
      refine hpj_cge (by rfl) rfl hk_10 (fun q3 => ?_) (fun q3 => ?_)
      ·
        refine hpa_iconst (by rfl) rfl ?_
        exact hpa_ireturn (by rfl) (by rfl) (hP _ _ ⟨rfl, _, rfl, Or.inr ⟨hk_0, by omega⟩⟩)
      ·
        refine hpa_iconst (by rfl) rfl ?_
        refine hpa_goto (by rfl) ?_
        exact hpa_ireturn (by rfl) (by rfl) (hP _ _ ⟨rfl, _, rfl, Or.inl ⟨hk_1, by omega, by omega⟩⟩)
theorem hP76 {g d : Nat} {A : hs_A} {T n : Nat} {ro : Nat → Int32} (a1 : Int32) (hT : hTT T) (h3 : A.2.2.2 0 3 = T + 1) (hTn : (A.1 T 4).toInt = (n : Int)) (hL : hdL 26 ro n A) : hpC g d 76 hm_m76 [.ref 1, .int a1] A (fun r A' => A = A' ∧ ∃ z : Int32, r = some (.int z) ∧ ((z.toInt = 1 ∧ 0 ≤ a1.toInt ∧ a1.toInt < (n : Int)) ∨ (z.toInt = 0 ∧ (a1.toInt < 0 ∨ (n : Int) ≤ a1.toInt)))) := hpC.all (fun f d => hW76 a1 hT h3 hTn hL (fun r A' h => h))
theorem hW167 {g d f : Nat} {A : hs_A} {sd n : Nat} {D : hg_D} {ro : Nat → Int32} (a1 : Int32) (hK : hrK sd D A) (hHn : A.2.1 376 sd = Int32.ofNat n) (h10 : n ≤ 10) (hg5 : ∀ k, k < 73 → A.2.1 395 k = ro k) {P : Option Value → hs_A → Prop} (hP : ∀ (r : Option Value) (A' : hs_A), (A = A' ∧ ∃ z : Int32, r = some (.int z) ∧ ((z.toInt = 1 ∧ 0 ≤ a1.toInt ∧ a1.toInt < (n : Int)) ∨ (z.toInt = 0 ∧ (a1.toInt < 0 ∨ (n : Int) ≤ a1.toInt)))) → P r A') : hpa (f, g) d (some (.boolean)) hm_t167 0 [.ref 368, .int a1] [] A P := by
  have k0 := hk_0
  have k1 := hk_1
  have k18 := hK.1
  have ksd := hK.2.1
  have cn := hn_c (n := n) (z := Int32.ofNat n) rfl (by omega)
  refine hpa_iload_n (by rfl) rfl ?_
  refine hpa_iconst (by rfl) rfl ?_
  refine hpa_aload_n (by rfl) rfl ?_
  refine hpa_get (v := .ref 377) (by rfl) (by rfl) (by rfl) rfl ?_
  refine hpa_aload_n (by rfl) rfl ?_
  refine hpj_getK (by rfl) (by rfl) (by rfl) rfl ?_
  refine hpx_iald (by rfl) (by rfl) (fun h0v1 h1v1 v1 ev1 => ?_)
  rw [show ((A.1 367 18)).toNatClampNeg = sd from by have := hn_cn (j := (A.1 367 18)) (by omega); omega, hHn] at ev1
  subst ev1
  refine hpa_iconst (by rfl) rfl ?_
  refine hpj_isub (by rfl) cn hk_1 (by omega) (by omega) (fun z2 ez2 => ?_)
  refine hpa_call2 (by rfl) (by decide) (by rfl) (by rfl) (by rfl) (hP164 a1 (Int32.ofNat 0) z2) ?_
  rintro _ _ ⟨rfl, z4, rfl, (⟨fz_A3, lo_A3, hi_A3⟩ | ⟨fz_A3, no_A3⟩)⟩
  ·
    exact hpa_ireturn (by rfl) (hn_fitB (by omega) (by omega)) (hP _ _ ⟨rfl, _, rfl, Or.inl ⟨fz_A3, by have := hk_0; omega, by omega⟩⟩)
  ·
    exact hpa_ireturn (by rfl) (hn_fitB (by omega) (by omega)) (hP _ _ ⟨rfl, _, rfl, Or.inr ⟨fz_A3, by have := hk_0; omega⟩⟩)
theorem hP167 {g d : Nat} {A : hs_A} {sd n : Nat} {D : hg_D} {ro : Nat → Int32} (a1 : Int32) (hK : hrK sd D A) (hHn : A.2.1 376 sd = Int32.ofNat n) (h10 : n ≤ 10) (hg5 : ∀ k, k < 73 → A.2.1 395 k = ro k) : hpC g d 167 hm_m167 [.ref 368, .int a1] A (fun r A' => A = A' ∧ ∃ z : Int32, r = some (.int z) ∧ ((z.toInt = 1 ∧ 0 ≤ a1.toInt ∧ a1.toInt < (n : Int)) ∨ (z.toInt = 0 ∧ (a1.toInt < 0 ∨ (n : Int) ≤ a1.toInt)))) := hpC.all (fun f d => hW167 a1 hK hHn h10 hg5 (fun r A' h => h))
theorem hW111 {g d f : Nat} {A : hs_A} {T n : Nat} {ro : Nat → Int32} (a1 : Int32) (hT : hTT T) (h3 : A.2.2.2 0 3 = T + 1) (hTn : (A.1 T 4).toInt = (n : Int)) (hL : hdL 26 ro n A) {P : Option Value → hs_A → Prop} (hP : ∀ (r : Option Value) (A' : hs_A), (A = A' ∧ ∃ z : Int32, r = some (.int z) ∧ huLi n ro a1 z) → P r A') : hpa (f, g) d (some (.int)) hm_t111 0 [.ref 1, .int a1, .retAddr 0] [] A P := by
  have k0 := hk_0
  have k1 := hk_1
  have k4294967295 := hk_4294967295
  have hn10 := hL.1
  have cn := hn_c (n := n) (z := Int32.ofNat n) rfl (by omega)
  have L2 : ∀ (f : Nat) (x2_2 : Int32) (k : Nat) (bk : k ≤ n) (ek : x2_2 = Int32.ofNat k) (LJ : ∀ j, j < k → ¬ ro (20 + j) = a1), hpa (f, g) d (some (.int)) hm_t111 2 [.ref 1, .int a1, .int x2_2] [] A P := by
    intro f
    induction f with
    | zero => intros; exact hpa.zero
    | succ f ih2 =>
      intro x2_2 k bk ek LJ
      subst ek
      have ck := hn_c (n := k) (z := Int32.ofNat k) rfl (by omega)
      refine hpa_iload_nS (by rfl) rfl ?_
      refine hpa_aload_n (by rfl) rfl ?_
      refine hpj_getT (by rfl) (by rfl) (by rfl) h3 ?_
      refine hpj_getK (by rfl) (hsT hT) (by rfl) rfl ?_
      rw [show (A.1 T 4) = Int32.ofNat n from huI hTn (by omega)]
      refine hpj_cge (by rfl) ck cn (fun q1 => ?_) (fun q1 => ?_)
      ·
        refine hpa_iconst (by rfl) rfl ?_
        exact hpa_ireturn (by rfl) rfl (hP _ _ ⟨rfl, _, rfl, Or.inr ⟨fun j hj => LJ j (by omega), rfl⟩⟩)
      ·
        refine hpa_aload_n (by rfl) rfl ?_
        refine hpa_get (v := .ref 27) (by rfl) (by rfl) (by rfl) rfl ?_
        refine hpa_get (v := .ref 31) (by rfl) (by rfl) (by rfl) rfl ?_
        refine hpa_iload_n (by rfl) rfl ?_
        refine hpx_iald (by rfl) (by rfl) (fun h0v2 h1v2 v2 ev2 => ?_)
        rw [show ((Int32.ofNat k)).toNatClampNeg = k from by have := hn_cn (j := (Int32.ofNat k)) (by omega); omega] at ev2
        have lv2 := ev2.symm.trans ((hL.2.2.2.2 (k) (by omega)).2.1)
        clear ev2
        subst lv2
        refine hpa_iload_n (by rfl) rfl ?_
        refine hpj_cne (by rfl) rfl rfl (fun q3 => ?_) (fun q3 => ?_)
        ·
          refine hpj_iinc (by rfl) rfl ck hk_1 (by omega) (by omega) (fun _ => rfl) (fun z4 ez4 => ?_)
          refine hpa_goto (by rfl) ?_
          exact ih2 z4 (k + 1) (by omega) (huI (by omega) (by omega)) (fun j hj => by by_cases c : j = k; (rw [c]; exact fun w => q3 (congrArg Int32.toInt w)); exact LJ j (by omega))
        ·
          refine hpa_iload_n (by rfl) rfl ?_
          exact hpa_ireturn (by rfl) rfl (hP _ _ ⟨rfl, _, rfl, Or.inl ⟨k, by omega, Int32.toInt_inj.mp q3, LJ, rfl⟩⟩)
  refine hpa_iconst (by rfl) rfl ?_
  refine hpa_s1 (by rfl) (Or.inl ⟨_, rfl, rfl⟩) rfl ?_
  exact L2 _ (Int32.ofNat 0) 0 (by omega) rfl (fun j hj => absurd hj (Nat.not_lt_zero j))
theorem hP111 {g d : Nat} {A : hs_A} {T n : Nat} {ro : Nat → Int32} (a1 : Int32) (hT : hTT T) (h3 : A.2.2.2 0 3 = T + 1) (hTn : (A.1 T 4).toInt = (n : Int)) (hL : hdL 26 ro n A) : hpC g d 111 hm_m111 [.ref 1, .int a1] A (fun r A' => A = A' ∧ ∃ z : Int32, r = some (.int z) ∧ huLi n ro a1 z) := hpC.all (fun f d => hW111 a1 hT h3 hTn hL (fun r A' h => h))
theorem hW221 {g d f : Nat} {A : hs_A} {sd n : Nat} {D : hg_D} {ro : Nat → Int32} (a1 : Int32) (hK : hrK sd D A) (hHn : A.2.1 376 sd = Int32.ofNat n) (h10 : n ≤ 10) (hg5 : ∀ k, k < 73 → A.2.1 395 k = ro k) {P : Option Value → hs_A → Prop} (hP : ∀ (r : Option Value) (A' : hs_A), (A = A' ∧ ∃ z : Int32, r = some (.int z) ∧ huLi n ro a1 z) → P r A') : hpa (f, g) d (some (.int)) hm_t221 0 [.ref 368, .int a1, .retAddr 0] [] A P := by
  have k0 := hk_0
  have k1 := hk_1
  have k20 := hk_20
  have k4294967295 := hk_4294967295
  have k18 := hK.1
  have ksd := hK.2.1
  have cn := hn_c (n := n) (z := Int32.ofNat n) rfl (by omega)
  have L2 : ∀ (f : Nat) (x2_2 : Int32) (k : Nat) (bk : k ≤ n) (ek : x2_2 = Int32.ofNat k) (LJ : ∀ j, j < k → ¬ ro (20 + j) = a1), hpa (f, g) d (some (.int)) hm_t221 2 [.ref 368, .int a1, .int x2_2] [] A P := by
    intro f
    induction f with
    | zero => intros; exact hpa.zero
    | succ f ih2 =>
      intro x2_2 k bk ek LJ
      subst ek
      have ck := hn_c (n := k) (z := Int32.ofNat k) rfl (by omega)
      refine hpa_iload_nS (by rfl) rfl ?_
      refine hpa_aload_n (by rfl) rfl ?_
      refine hpa_get (v := .ref 377) (by rfl) (by rfl) (by rfl) rfl ?_
      refine hpa_aload_n (by rfl) rfl ?_
      refine hpj_getK (by rfl) (by rfl) (by rfl) rfl ?_
      refine hpx_iald (by rfl) (by rfl) (fun h0v1 h1v1 v1 ev1 => ?_)
      rw [show ((A.1 367 18)).toNatClampNeg = sd from by have := hn_cn (j := (A.1 367 18)) (by omega); omega, hHn] at ev1
      subst ev1
      refine hpj_cge (by rfl) ck cn (fun q2 => ?_) (fun q2 => ?_)
      ·
        refine hpa_iconst (by rfl) rfl ?_
        exact hpa_ireturn (by rfl) rfl (hP _ _ ⟨rfl, _, rfl, Or.inr ⟨fun j hj => LJ j (by omega), rfl⟩⟩)
      ·
        refine hpa_aload_n (by rfl) rfl ?_
        refine hpa_get (v := .ref 396) (by rfl) (by rfl) (by rfl) rfl ?_
        refine hpa_bipush (by rfl) rfl ?_
        refine hpa_iload_n (by rfl) rfl ?_
        refine hpj_iadd (by rfl) hk_20 ck (by omega) (by omega) (fun z3 ez3 => ?_)
        refine hpx_iald (by rfl) (by rfl) (fun h0v4 h1v4 v4 ev4 => ?_)
        rw [show (z3).toNatClampNeg = 20 + k from by have := hn_cn (j := z3) (by omega); omega] at ev4
        have lv4 := ev4.symm.trans (show _ = ro (20 + k) from hg5 (20 + k) (by omega))
        clear ev4
        subst lv4
        refine hpa_iload_n (by rfl) rfl ?_
        refine hpj_cne (by rfl) rfl rfl (fun q5 => ?_) (fun q5 => ?_)
        ·
          refine hpj_iinc (by rfl) rfl ck hk_1 (by omega) (by omega) (fun _ => rfl) (fun z6 ez6 => ?_)
          refine hpa_goto (by rfl) ?_
          exact ih2 z6 (k + 1) (by omega) (huI (by omega) (by omega)) (fun j hj => by by_cases c : j = k; (rw [c]; exact fun w => q5 (congrArg Int32.toInt w)); exact LJ j (by omega))
        ·
          refine hpa_iload_n (by rfl) rfl ?_
          exact hpa_ireturn (by rfl) rfl (hP _ _ ⟨rfl, _, rfl, Or.inl ⟨k, by omega, Int32.toInt_inj.mp q5, LJ, rfl⟩⟩)
  refine hpa_iconst (by rfl) rfl ?_
  refine hpa_s1 (by rfl) (Or.inl ⟨_, rfl, rfl⟩) rfl ?_
  exact L2 _ (Int32.ofNat 0) 0 (by omega) rfl (fun j hj => absurd hj (Nat.not_lt_zero j))
theorem hP221 {g d : Nat} {A : hs_A} {sd n : Nat} {D : hg_D} {ro : Nat → Int32} (a1 : Int32) (hK : hrK sd D A) (hHn : A.2.1 376 sd = Int32.ofNat n) (h10 : n ≤ 10) (hg5 : ∀ k, k < 73 → A.2.1 395 k = ro k) : hpC g d 221 hm_m221 [.ref 368, .int a1] A (fun r A' => A = A' ∧ ∃ z : Int32, r = some (.int z) ∧ huLi n ro a1 z) := hpC.all (fun f d => hW221 a1 hK hHn h10 hg5 (fun r A' h => h))
theorem hW117 {g d f : Nat} {A : hs_A} {T n : Nat} {ro : Nat → Int32} (a1 : Int32) (hT : hTT T) (h3 : A.2.2.2 0 3 = T + 1) (hTn : (A.1 T 4).toInt = (n : Int)) (hL : hdL 26 ro n A) {P : Option Value → hs_A → Prop} (hP : ∀ (r : Option Value) (A' : hs_A), (A = A' ∧ ∃ z : Int32, r = some (.int z) ∧ huAt n a1 (ro a1.toNatClampNeg &&& (ro (40 + a1.toNatClampNeg) ^^^ Int32.ofNat 4294967295)) z) → P r A') : hpa (f, g) d (some (.int)) hm_t117 0 [.ref 1, .int a1] [] A P := by
  have k4294967295 := hk_4294967295
  have hn10 := hL.1
  have cn := hn_c (n := n) (z := Int32.ofNat n) rfl (by omega)
  refine hpa_aload_n (by rfl) rfl ?_
  refine hpa_iload_n (by rfl) rfl ?_
  refine hpa_call0 (by rfl) (by rfl) (by rfl) (by rfl) (by rfl) (by rfl) (hP76 a1 hT h3 hTn hL) ?_
  rintro _ _ ⟨rfl, z2, rfl, (⟨fz_A1, HS_A1⟩ | ⟨fz_A1, HS_A1⟩)⟩
  ·
    have c1 := hn_cn (j := a1) (by omega)
    refine hpj_zeq (by rfl) rfl (fun q3 => False.elim (by omega)) (fun q3 => ?_)
    refine hpa_aload_n (by rfl) rfl ?_
    refine hpa_get (v := .ref 27) (by rfl) (by rfl) (by rfl) rfl ?_
    refine hpa_iload_n (by rfl) rfl ?_
    refine hpa_call0 (by rfl) (by rfl) (by rfl) (by rfl) (by rfl) (by rfl) (hP21_26 (h := a1.toNatClampNeg) a1 hL (by omega) (huI (by omega) (by omega))) ?_
    rintro _ _ ⟨rfl, z5, rfl, Z_A4⟩
    refine hpa_goto (by rfl) ?_
    exact hpa_ireturn (by rfl) rfl (hP _ _ ⟨rfl, _, rfl, Or.inl ⟨by omega, by omega, Z_A4⟩⟩)
  ·
    refine hpj_zeq (by rfl) rfl (fun q6 => ?_) (fun q6 => False.elim (by omega))
    refine hpa_iconst (by rfl) rfl ?_
    exact hpa_ireturn (by rfl) rfl (hP _ _ ⟨rfl, _, rfl, Or.inr ⟨by omega, rfl⟩⟩)
theorem hP117 {g d : Nat} {A : hs_A} {T n : Nat} {ro : Nat → Int32} (a1 : Int32) (hT : hTT T) (h3 : A.2.2.2 0 3 = T + 1) (hTn : (A.1 T 4).toInt = (n : Int)) (hL : hdL 26 ro n A) : hpC g d 117 hm_m117 [.ref 1, .int a1] A (fun r A' => A = A' ∧ ∃ z : Int32, r = some (.int z) ∧ huAt n a1 (ro a1.toNatClampNeg &&& (ro (40 + a1.toNatClampNeg) ^^^ Int32.ofNat 4294967295)) z) := hpC.all (fun f d => hW117 a1 hT h3 hTn hL (fun r A' h => h))
theorem hW228 {g d f : Nat} {A : hs_A} {sd n : Nat} {D : hg_D} {ro : Nat → Int32} (a1 : Int32) (hK : hrK sd D A) (hHn : A.2.1 376 sd = Int32.ofNat n) (h10 : n ≤ 10) (hg5 : ∀ k, k < 73 → A.2.1 395 k = ro k) {P : Option Value → hs_A → Prop} (hP : ∀ (r : Option Value) (A' : hs_A), (A = A' ∧ ∃ z : Int32, r = some (.int z) ∧ huAt n a1 (ro a1.toNatClampNeg &&& (ro (40 + a1.toNatClampNeg) ^^^ Int32.ofNat 4294967295)) z) → P r A') : hpa (f, g) d (some (.int)) hm_t228 0 [.ref 368, .int a1] [] A P := by
  have k40 := hk_40
  have k4294967295 := hk_4294967295
  have k18 := hK.1
  have ksd := hK.2.1
  have cn := hn_c (n := n) (z := Int32.ofNat n) rfl (by omega)
  refine hpa_aload_n (by rfl) rfl ?_
  refine hpa_iload_n (by rfl) rfl ?_
  refine hpa_call0 (by rfl) (by rfl) (by rfl) (by rfl) (by rfl) (by rfl) (hP167 a1 hK hHn h10 hg5) ?_
  rintro _ _ ⟨rfl, z2, rfl, (⟨fz_A1, HS_A1⟩ | ⟨fz_A1, HS_A1⟩)⟩
  ·
    have c1 := hn_cn (j := a1) (by omega)
    refine hpj_zeq (by rfl) rfl (fun q3 => False.elim (by omega)) (fun q3 => ?_)
    refine hpa_aload_n (by rfl) rfl ?_
    refine hpa_get (v := .ref 396) (by rfl) (by rfl) (by rfl) rfl ?_
    refine hpa_iload_n (by rfl) rfl ?_
    refine hpx_iald (by rfl) (by rfl) (fun h0v4 h1v4 v4 ev4 => ?_)
    rw [show (a1).toNatClampNeg = a1.toNatClampNeg from by have := hn_cn (j := a1) (by omega); omega] at ev4
    have lv4 := ev4.symm.trans (show _ = ro a1.toNatClampNeg from hg5 a1.toNatClampNeg (by omega))
    clear ev4
    subst lv4
    refine hpa_aload_n (by rfl) rfl ?_
    refine hpa_get (v := .ref 396) (by rfl) (by rfl) (by rfl) rfl ?_
    refine hpa_bipush (by rfl) rfl ?_
    refine hpa_iload_n (by rfl) rfl ?_
    refine hpj_iadd (by rfl) hk_40 rfl (by omega) (by omega) (fun z5 ez5 => ?_)
    refine hpx_iald (by rfl) (by rfl) (fun h0v6 h1v6 v6 ev6 => ?_)
    rw [show (z5).toNatClampNeg = 40 + a1.toNatClampNeg from by have := hn_cn (j := z5) (by omega); omega] at ev6
    have lv6 := ev6.symm.trans (show _ = ro (40 + a1.toNatClampNeg) from hg5 (40 + a1.toNatClampNeg) (by omega))
    clear ev6
    subst lv6
    refine hpa_iconst (by rfl) rfl ?_
    refine hpa_ixor (by rfl) ?_
    refine hpa_iand (by rfl) ?_
    refine hpa_goto (by rfl) ?_
    exact hpa_ireturn (by rfl) rfl (hP _ _ ⟨rfl, _, rfl, Or.inl ⟨by omega, by omega, rfl⟩⟩)
  ·
    refine hpj_zeq (by rfl) rfl (fun q7 => ?_) (fun q7 => False.elim (by omega))
    refine hpa_iconst (by rfl) rfl ?_
    exact hpa_ireturn (by rfl) rfl (hP _ _ ⟨rfl, _, rfl, Or.inr ⟨by omega, rfl⟩⟩)
theorem hP228 {g d : Nat} {A : hs_A} {sd n : Nat} {D : hg_D} {ro : Nat → Int32} (a1 : Int32) (hK : hrK sd D A) (hHn : A.2.1 376 sd = Int32.ofNat n) (h10 : n ≤ 10) (hg5 : ∀ k, k < 73 → A.2.1 395 k = ro k) : hpC g d 228 hm_m228 [.ref 368, .int a1] A (fun r A' => A = A' ∧ ∃ z : Int32, r = some (.int z) ∧ huAt n a1 (ro a1.toNatClampNeg &&& (ro (40 + a1.toNatClampNeg) ^^^ Int32.ofNat 4294967295)) z) := hpC.all (fun f d => hW228 a1 hK hHn h10 hg5 (fun r A' h => h))
/-! QUERIES OF LAWS -/
def huIf (P : Prop) (v z : Int32) : Prop := (P ∧ z = v) ∨ (¬ P ∧ z = Int32.ofNat 4294967295)
theorem huIf_one {P : Prop} {v z z' : Int32} (h : huIf P v z) (h' : huIf P v z') : z = z' := by
  rcases h with ⟨a1, rfl⟩ | ⟨a1, rfl⟩
  · rcases h' with ⟨b1, rfl⟩ | ⟨b1, rfl⟩
    · rfl
    · exact absurd a1 b1
  · rcases h' with ⟨b1, rfl⟩ | ⟨b1, rfl⟩
    · exact absurd b1 a1
    · rfl
theorem hW77 {g d f : Nat} {A : hs_A} (a1 : Int32) {P : Option Value → hs_A → Prop} (hP : ∀ (r : Option Value) (A' : hs_A), (A = A' ∧ ∃ z : Int32, r = some (.int z) ∧ ((z.toInt = 1 ∧ 0 ≤ a1.toInt ∧ a1.toInt ≤ 255) ∨ (z.toInt = 0 ∧ (a1.toInt < 0 ∨ 255 < a1.toInt)))) → P r A') : hpa (f, g) d (some (.boolean)) hm_t77 0 [.int a1] [] A P := by
  have k0 := hk_0
  have k1 := hk_1
  have k256 := hk_256
  refine hpa_iload_n (by rfl) rfl ?_
  refine hpj_zlt (by rfl) rfl (fun q1 => ?_) (fun q1 => ?_)
  ·
    refine hpa_iconst (by rfl) rfl ?_
    exact hpa_ireturn (by rfl) (by rfl) (hP _ _ ⟨rfl, _, rfl, Or.inr ⟨hk_0, by omega⟩⟩)
  ·
    refine hpa_iload_n (by rfl) rfl ?_
    refine hpa_sipush (by rfl) rfl ?_
    refine hpj_cge (by rfl) rfl hk_256 (fun q2 => ?_) (fun q2 => ?_)
    ·
      refine hpa_iconst (by rfl) rfl ?_
      exact hpa_ireturn (by rfl) (by rfl) (hP _ _ ⟨rfl, _, rfl, Or.inr ⟨hk_0, by omega⟩⟩)
    ·
      refine hpa_iconst (by rfl) rfl ?_
      refine hpa_goto (by rfl) ?_
      exact hpa_ireturn (by rfl) (by rfl) (hP _ _ ⟨rfl, _, rfl, Or.inl ⟨hk_1, by omega, by omega⟩⟩)
theorem hP77 {g d : Nat} {A : hs_A} (a1 : Int32) : hpC g d 77 hm_m77 [.int a1] A (fun r A' => A = A' ∧ ∃ z : Int32, r = some (.int z) ∧ ((z.toInt = 1 ∧ 0 ≤ a1.toInt ∧ a1.toInt ≤ 255) ∨ (z.toInt = 0 ∧ (a1.toInt < 0 ∨ 255 < a1.toInt)))) := hpC.all (fun f d => hW77 a1 (fun r A' h => h))
theorem hW168 {g d f : Nat} {A : hs_A} (a1 : Int32) {P : Option Value → hs_A → Prop} (hP : ∀ (r : Option Value) (A' : hs_A), (A = A' ∧ ∃ z : Int32, r = some (.int z) ∧ ((z.toInt = 1 ∧ 0 ≤ a1.toInt ∧ a1.toInt ≤ 255) ∨ (z.toInt = 0 ∧ (a1.toInt < 0 ∨ 255 < a1.toInt)))) → P r A') : hpa (f, g) d (some (.boolean)) hm_t168 0 [.int a1] [] A P := by
  have k0 := hk_0
  have k255 := hk_255
  refine hpa_iload_n (by rfl) rfl ?_
  refine hpa_iconst (by rfl) rfl ?_
  refine hpa_sipush (by rfl) rfl ?_
  refine hpa_call2 (by rfl) (by decide) (by rfl) (by rfl) (by rfl) (hP164 a1 (Int32.ofNat 0) (Int32.ofNat 255)) ?_
  rintro _ _ ⟨rfl, z2, rfl, (⟨fz_A1, lo_A1, hi_A1⟩ | ⟨fz_A1, no_A1⟩)⟩
  ·
    exact hpa_ireturn (by rfl) (hn_fitB (by omega) (by omega)) (hP _ _ ⟨rfl, _, rfl, Or.inl ⟨fz_A1, by have := hk_0; omega, by have := hk_255; omega⟩⟩)
  ·
    exact hpa_ireturn (by rfl) (hn_fitB (by omega) (by omega)) (hP _ _ ⟨rfl, _, rfl, Or.inr ⟨fz_A1, by have := hk_0; have := hk_255; omega⟩⟩)
theorem hP168 {g d : Nat} {A : hs_A} (a1 : Int32) : hpC g d 168 hm_m168 [.int a1] A (fun r A' => A = A' ∧ ∃ z : Int32, r = some (.int z) ∧ ((z.toInt = 1 ∧ 0 ≤ a1.toInt ∧ a1.toInt ≤ 255) ∨ (z.toInt = 0 ∧ (a1.toInt < 0 ∨ 255 < a1.toInt)))) := hpC.all (fun f d => hW168 a1 (fun r A' h => h))
def uM81 : Nat := 323519360005807677536004181044235568083645733070486903550240528794624
theorem hW81 {g d f : Nat} {A : hs_A} {T n : Nat} {D : hg_D} {ro : Nat → Int32} (a1 a2 : Int32) (hT : hTT T) (h3 : A.2.2.2 0 3 = T + 1) (hTn : (A.1 T 4).toInt = (n : Int)) (hC : hdK T D A) (hL : hdL 26 ro n A) (hO : huO ro n) (hH0 : uf_H A) {P : Option Value → hs_A → Prop} (hP : ∀ (r : Option Value) (A' : hs_A), (∃ z : Int32, r = some (.int z) ∧ huIf (0 ≤ a1.toInt ∧ a1.toInt < (n : Int) ∧ 0 ≤ a2.toInt ∧ a2.toInt ≤ 255) (huW D (huX (Int32.ofNat n) ro a1 (ro 70)) a2) z) → P r A') : hpa (f, g) d (some (.int)) hm_t81 0 [.ref 1, .int a1, .int a2] [] A P := by
  have k4294967295 := hk_4294967295
  have hT9 : T ≤ 11 := by rcases hT with rfl | rfl <;> omega
  have hn10 := hL.1
  have cn := hn_c (n := n) (z := Int32.ofNat n) rfl (by omega)
  have U0 : uf_W uM81 A A := uf_W.rfl
  refine hpa_aload_n (by rfl) rfl ?_
  refine hpa_iload_n (by rfl) rfl ?_
  refine hpa_call0 (by rfl) (by rfl) (by rfl) (by rfl) (by rfl) (by rfl) (uf_C (X := ug_x96) (j := 96) rfl rfl (ug_L.cons (uf_rk_ok (by decide +kernel)) (uf_int uf_nil)) hH0 (hP76 a1 hT h3 hTn hL)) ?_
  rintro _ _ ⟨⟨rfl, z2, rfl, (⟨fz_A1, HS_A1⟩ | ⟨fz_A1, HS_A1⟩)⟩, -, -⟩
  ·
    have c1 := hn_cn (j := a1) (by omega)
    refine hpj_zeq (by rfl) rfl (fun q3 => False.elim (by omega)) (fun q3 => ?_)
    refine hpa_iload_n (by rfl) rfl ?_
    refine hpa_call2 (by rfl) (by decide) (by rfl) (by rfl) (by rfl) (uf_C (X := ug_x98) (j := 98) rfl rfl (uf_int uf_nil) hH0 (hP77 a2)) ?_
    rintro _ _ ⟨⟨rfl, z5, rfl, (⟨fz_A4, HS_A4⟩ | ⟨fz_A4, HS_A4⟩)⟩, -, -⟩
    ·
      refine hpj_zne (by rfl) rfl (fun q6 => ?_) (fun q6 => False.elim (by omega))
      refine hpa_aload_n (by rfl) rfl ?_
      refine hpa_get (v := .ref 324) (by rfl) (by rfl) (by rfl) rfl ?_
      refine hpa_aload_n (by rfl) rfl ?_
      refine hpj_getT (by rfl) (by rfl) (by rfl) h3 ?_
      refine hpa_aload_n (by rfl) rfl ?_
      refine hpa_get (v := .ref 27) (by rfl) (by rfl) (by rfl) rfl ?_
      refine hpa_iload_n (by rfl) rfl ?_
      refine hpa_aload_n (by rfl) rfl ?_
      refine hpa_get (v := .ref 27) (by rfl) (by rfl) (by rfl) rfl ?_
      refine hpj_getK (by rfl) (by rfl) (by rfl) rfl ?_
      rw [show (A.1 26 7) = ro 70 from hL.2.2.1.1]
      refine hpa_call0 (by rfl) (by rfl) (by rfl) (by rfl) (by rfl) (by rfl) (uf_C (X := ug_x133) (j := 133) rfl rfl (ug_L.cons (uf_rk_ok (by decide +kernel)) (ug_L.cons (by rcases hT with rfl | rfl <;> exact uf_rk_ok (by decide +kernel)) (ug_L.cons (uf_rk_ok (by decide +kernel)) (uf_int (uf_int uf_nil))))) hH0 (hP1_26 (h := a1.toNatClampNeg) a1 (ro 70) hT hC hL hO (by omega) (huI (by omega) (by omega)) hTn hH0)) ?_
      rintro _ A7 ⟨⟨rfl, SS_A7, FR_A7⟩, wA7, HA7⟩
      have UA7 := (U0).trans (wA7.le (by decide +kernel : ug_wle ug_x133.2.2.2.1 uM81 = true))
      refine hpa_aload_n (by rfl) rfl ?_
      refine hpa_get (v := .ref 324) (by rfl) (by rfl) (by rfl) rfl ?_
      refine hpa_iload_n (by rfl) rfl ?_
      have hCA7 : hdK T D A7 := hC.uf hT UA7 (by decide +kernel)
      refine hpa_call0 (by rfl) (by rfl) (by rfl) (by rfl) (by rfl) (by rfl) (uf_C (X := ug_x134) (j := 134) rfl rfl (ug_L.cons (uf_rk_ok (by decide +kernel)) (uf_int uf_nil)) HA7 (hP5 a2 hT hCA7 SS_A7 (by omega) (by omega) HA7)) ?_
      rintro _ A8 ⟨⟨z9, rfl, Z_A8, SS_A8, FR_A8⟩, wA8, HA8⟩
      have UA8 := (UA7).trans (wA8.le (by decide +kernel : ug_wle ug_x134.2.2.2.1 uM81 = true))
      subst Z_A8
      exact hpa_ireturn (by rfl) rfl (hP _ _ ⟨_, rfl, Or.inl ⟨⟨by omega, by omega, by omega, by omega⟩, rfl⟩⟩)
    ·
      refine hpj_zne (by rfl) rfl (fun q10 => False.elim (by omega)) (fun q10 => ?_)
      refine hpa_iconst (by rfl) rfl ?_
      exact hpa_ireturn (by rfl) rfl (hP _ _ ⟨_, rfl, Or.inr ⟨fun p => by omega, rfl⟩⟩)
  ·
    refine hpj_zeq (by rfl) rfl (fun q11 => ?_) (fun q11 => False.elim (by omega))
    refine hpa_iconst (by rfl) rfl ?_
    exact hpa_ireturn (by rfl) rfl (hP _ _ ⟨_, rfl, Or.inr ⟨fun p => by omega, rfl⟩⟩)
theorem hP81 {g d : Nat} {A : hs_A} {T n : Nat} {D : hg_D} {ro : Nat → Int32} (a1 a2 : Int32) (hT : hTT T) (h3 : A.2.2.2 0 3 = T + 1) (hTn : (A.1 T 4).toInt = (n : Int)) (hC : hdK T D A) (hL : hdL 26 ro n A) (hO : huO ro n) (hH0 : uf_H A) : hpC g d 81 hm_m81 [.ref 1, .int a1, .int a2] A (fun r A' => ∃ z : Int32, r = some (.int z) ∧ huIf (0 ≤ a1.toInt ∧ a1.toInt < (n : Int) ∧ 0 ≤ a2.toInt ∧ a2.toInt ≤ 255) (huW D (huX (Int32.ofNat n) ro a1 (ro 70)) a2) z) := hpC.all (fun f d => hW81 a1 a2 hT h3 hTn hC hL hO hH0 (fun r A' h => h))
def uM189 : Nat := 12433080910244666053884556203670521002511403769933692936904025444889660923967013444911104
theorem hW189 {g d f : Nat} {A : hs_A} {sd n : Nat} {D : hg_D} {ro : Nat → Int32} (a1 a2 : Int32) (hK : hrK sd D A) (hHn : A.2.1 376 sd = Int32.ofNat n) (h10 : n ≤ 10) (hg5 : ∀ k, k < 73 → A.2.1 395 k = ro k) (hH0 : uf_H A) {P : Option Value → hs_A → Prop} (hP : ∀ (r : Option Value) (A' : hs_A), (∃ z : Int32, r = some (.int z) ∧ huIf (0 ≤ a1.toInt ∧ a1.toInt < (n : Int) ∧ 0 ≤ a2.toInt ∧ a2.toInt ≤ 255) (huW D (huX (Int32.ofNat n) ro a1 (ro 70)) a2) z) → P r A') : hpa (f, g) d (some (.int)) hm_t189 0 [.ref 368, .int a1, .int a2] [] A P := by
  have k4294967295 := hk_4294967295
  have k70 := hk_70
  have k18 := hK.1
  have ksd := hK.2.1
  have cn := hn_c (n := n) (z := Int32.ofNat n) rfl (by omega)
  have U0 : uf_W uM189 A A := uf_W.rfl
  refine hpa_aload_n (by rfl) rfl ?_
  refine hpa_iload_n (by rfl) rfl ?_
  refine hpa_call0 (by rfl) (by rfl) (by rfl) (by rfl) (by rfl) (by rfl) (uf_C (X := ug_x97) (j := 97) rfl rfl (ug_L.cons (uf_rk_ok (by decide +kernel)) (uf_int uf_nil)) hH0 (hP167 a1 hK hHn h10 hg5)) ?_
  rintro _ _ ⟨⟨rfl, z2, rfl, (⟨fz_A1, HS_A1⟩ | ⟨fz_A1, HS_A1⟩)⟩, -, -⟩
  ·
    have c1 := hn_cn (j := a1) (by omega)
    refine hpj_zeq (by rfl) rfl (fun q3 => False.elim (by omega)) (fun q3 => ?_)
    refine hpa_iload_n (by rfl) rfl ?_
    refine hpa_call2 (by rfl) (by decide) (by rfl) (by rfl) (by rfl) (uf_C (X := ug_x99) (j := 99) rfl rfl (uf_int uf_nil) hH0 (hP168 a2)) ?_
    rintro _ _ ⟨⟨rfl, z5, rfl, (⟨fz_A4, HS_A4⟩ | ⟨fz_A4, HS_A4⟩)⟩, -, -⟩
    ·
      refine hpj_zne (by rfl) rfl (fun q6 => ?_) (fun q6 => False.elim (by omega))
      refine hpa_aload_n (by rfl) rfl ?_
      refine hpa_call0 (by rfl) (by rfl) (by rfl) (by rfl) (by rfl) (by rfl) (uf_C (X := ug_x113) (j := 113) rfl rfl (ug_L.cons (uf_rk_ok (by decide +kernel)) uf_nil) hH0 (hP171 hK hH0)) ?_
      rintro _ A7 ⟨⟨rfl, RW_A7, LS_A7, SL_A7⟩, wA7, HA7⟩
      have UA7 := (U0).trans (wA7.le (by decide +kernel : ug_wle ug_x113.2.2.2.1 uM189 = true))
      refine hpa_aload_n (by rfl) rfl ?_
      refine hpa_iload_n (by rfl) rfl ?_
      refine hpa_iload_n (by rfl) rfl ?_
      refine hpa_aload_n (by rfl) rfl ?_
      refine hpa_get (v := .ref 397) (by rfl) (by rfl) (by rfl) rfl ?_
      refine hpa_bipush (by rfl) rfl ?_
      refine hpx_iald (by rfl) (by rfl) (fun h0v8 h1v8 v8 ev8 => ?_)
      rw [show ((Int32.ofNat 70)).toNatClampNeg = 70 from by have := hn_cn (j := (Int32.ofNat 70)) (by omega); omega] at ev8
      have lv8 := ev8.symm.trans (show _ = ro 70 from (RW_A7 70 (by omega)).trans (hg5 70 (by omega)))
      clear ev8
      subst lv8
      have hKA7 : hrK sd D A7 := hK.uf UA7 (by decide +kernel)
      have hHnA7 : A7.2.1 376 sd = Int32.ofNat n := (UA7.2.1 376 _ _ sd rfl (by have := hK.2.1; omega) (by decide +kernel)).trans hHn
      refine hpa_call0 (by rfl) (by rfl) (by rfl) (by rfl) (by rfl) (by rfl) (uf_C (X := ug_x200) (j := 200) rfl rfl (ug_L.cons (uf_rk_ok (by decide +kernel)) (uf_int (uf_int (uf_int uf_nil)))) HA7 (hP181 (H := Int32.ofNat n) a1 a2 (ro 70) hKA7 hHnA7 (fun k hk => (RW_A7 k hk).trans (hg5 k hk)) (by omega) (by omega) (by omega) (by omega) HA7)) ?_
      rintro _ A9 ⟨⟨z10, rfl, Z_A9⟩, wA9, HA9⟩
      have UA9 := (UA7).trans (wA9.le (by decide +kernel : ug_wle ug_x200.2.2.2.1 uM189 = true))
      subst Z_A9
      exact hpa_ireturn (by rfl) rfl (hP _ _ ⟨_, rfl, Or.inl ⟨⟨by omega, by omega, by omega, by omega⟩, rfl⟩⟩)
    ·
      refine hpj_zne (by rfl) rfl (fun q11 => False.elim (by omega)) (fun q11 => ?_)
      refine hpa_iconst (by rfl) rfl ?_
      exact hpa_ireturn (by rfl) rfl (hP _ _ ⟨_, rfl, Or.inr ⟨fun p => by omega, rfl⟩⟩)
  ·
    refine hpj_zeq (by rfl) rfl (fun q12 => ?_) (fun q12 => False.elim (by omega))
    refine hpa_iconst (by rfl) rfl ?_
    exact hpa_ireturn (by rfl) rfl (hP _ _ ⟨_, rfl, Or.inr ⟨fun p => by omega, rfl⟩⟩)
theorem hP189 {g d : Nat} {A : hs_A} {sd n : Nat} {D : hg_D} {ro : Nat → Int32} (a1 a2 : Int32) (hK : hrK sd D A) (hHn : A.2.1 376 sd = Int32.ofNat n) (h10 : n ≤ 10) (hg5 : ∀ k, k < 73 → A.2.1 395 k = ro k) (hH0 : uf_H A) : hpC g d 189 hm_m189 [.ref 368, .int a1, .int a2] A (fun r A' => ∃ z : Int32, r = some (.int z) ∧ huIf (0 ≤ a1.toInt ∧ a1.toInt < (n : Int) ∧ 0 ≤ a2.toInt ∧ a2.toInt ≤ 255) (huW D (huX (Int32.ofNat n) ro a1 (ro 70)) a2) z) := hpC.all (fun f d => hW189 a1 a2 hK hHn h10 hg5 hH0 (fun r A' h => h))
theorem huOf_le {ro : Nat → Int32} : ∀ k, huOf ro k ≤ k
  | 0 => Nat.le_refl 0
  | k + 1 => by
    have q := huOf_le (ro := ro) k
    show huOf ro k + (if (ro (50 + k)).toInt = 1 then 0 else 1) ≤ _
    split <;> omega
theorem huOf_i {ro : Nat → Int32} {k : Nat} (h : 0 ≤ (ro (50 + k)).toInt ∧ (ro (50 + k)).toInt ≤ 1) : ((huOf ro (k + 1) : Nat) : Int) = (huOf ro k : Int) + (1 - (ro (50 + k)).toInt) := by
  by_cases q : (ro (50 + k)).toInt = 1
  · rw [huOf_y q]
    omega
  · rw [huOf_n q]
    omega
theorem hOnb_b01 {x : Int32} {g : Nat → Int32} {n : Nat} (h : hOnb x g (n : Int)) (k : Nat) (hk : k < n) : 0 ≤ (g (50 + k)).toInt ∧ (g (50 + k)).toInt ≤ 1 := by
  obtain ⟨m, h1, h2, h3⟩ := h
  have e := h3 k (by omega)
  have m2 : m / 2 ^ k % 2 < 2 := Nat.mod_lt _ (by omega)
  have c := hn_c (n := m / 2 ^ k % 2) (z := g (50 + k)) e (by omega)
  omega
theorem hW120 {g d f : Nat} {A : hs_A} {T n : Nat} {ro : Nat → Int32} (a1 : Int32) (hT : hTT T) (h3 : A.2.2.2 0 3 = T + 1) (hTn : (A.1 T 4).toInt = (n : Int)) (hL : hdL 26 ro n A) {P : Option Value → hs_A → Prop} (hP : ∀ (r : Option Value) (A' : hs_A), (A = A' ∧ ∃ z : Int32, r = some (.int z) ∧ huAt n a1 (Int32.ofNat (huOf ro (a1.toNatClampNeg + 1))) z) → P r A') : hpa (f, g) d (some (.int)) hm_t120 0 [.ref 1, .int a1, .retAddr 0, .retAddr 0] [] A P := by
  have k0 := hk_0
  have k1 := hk_1
  have k4294967295 := hk_4294967295
  have hn10 := hL.1
  have cn := hn_c (n := n) (z := Int32.ofNat n) rfl (by omega)
  have L14 : ∀ (f : Nat) (x14_3 : Int32) (x14_2 : Int32) (k : Nat) (m : Nat) (bk : k ≤ 10) (bm : m ≤ k) (ek : x14_3 = Int32.ofNat k) (em : x14_2 = Int32.ofNat m) (EM : m = huOf ro k) (kk : (k : Int) ≤ a1.toInt + 1) (ha1 : 0 ≤ a1.toInt ∧ a1.toInt < (n : Int)), hpa (f, g) d (some (.int)) hm_t120 14 [.ref 1, .int a1, .int x14_2, .int x14_3] [] A P := by
    intro f
    induction f with
    | zero => intros; exact hpa.zero
    | succ f ih14 =>
      intro x14_3 x14_2 k m bk bm ek em EM kk ha1
      subst ek
      have ck := hn_c (n := k) (z := Int32.ofNat k) rfl (by omega)
      subst em
      have cm := hn_c (n := m) (z := Int32.ofNat m) rfl (by omega)
      have c1 := hn_cn (j := a1) ha1.1
      refine hpa_iload_nS (by rfl) rfl ?_
      refine hpa_iload_n (by rfl) rfl ?_
      refine hpj_cgt (by rfl) ck rfl (fun q1 => ?_) (fun q1 => ?_)
      ·
        refine hpa_iload_n (by rfl) rfl ?_
        exact hpa_ireturn (by rfl) rfl (hP _ _ ⟨rfl, _, rfl, Or.inl ⟨by omega, by omega, by rw [EM, show k = a1.toNatClampNeg + 1 by omega]⟩⟩)
      ·
        refine hpa_aload_n (by rfl) rfl ?_
        refine hpa_get (v := .ref 27) (by rfl) (by rfl) (by rfl) rfl ?_
        refine hpa_iload_n (by rfl) rfl ?_
        refine hpa_call0 (by rfl) (by rfl) (by rfl) (by rfl) (by rfl) (by rfl) (hP18_26 (h := k) (Int32.ofNat k) hL (by omega) rfl) ?_
        rintro _ _ ⟨rfl, z3, rfl, (⟨fz_A2, ON_A2⟩ | ⟨fz_A2, ON_A2⟩)⟩
        ·
          refine hpj_zne (by rfl) rfl (fun q4 => ?_) (fun q4 => False.elim (by omega))
          refine hpj_iinc (by rfl) rfl ck hk_1 (by omega) (by omega) (fun _ => rfl) (fun z5 ez5 => ?_)
          refine hpa_goto (by rfl) ?_
          exact ih14 z5 (Int32.ofNat m) (k + 1) m (by omega) (by omega) (huI (by omega) (by omega)) rfl (by rw [huOf_y ON_A2]; exact EM) (by omega) (by omega)
        ·
          refine hpj_zne (by rfl) rfl (fun q6 => False.elim (by omega)) (fun q6 => ?_)
          refine hpj_iinc (by rfl) rfl cm hk_1 (by omega) (by omega) (fun _ => rfl) (fun z7 ez7 => ?_)
          refine hpj_iinc (by rfl) rfl ck hk_1 (by omega) (by omega) (fun _ => rfl) (fun z8 ez8 => ?_)
          refine hpa_goto (by rfl) ?_
          exact ih14 z8 z7 (k + 1) (m + 1) (by omega) (by omega) (huI (by omega) (by omega)) (huI (by omega) (by omega)) (by rw [huOf_n (by omega), EM]) (by omega) (by omega)
  refine hpa_aload_n (by rfl) rfl ?_
  refine hpa_iload_n (by rfl) rfl ?_
  refine hpa_call0 (by rfl) (by rfl) (by rfl) (by rfl) (by rfl) (by rfl) (hP76 a1 hT h3 hTn hL) ?_
  rintro _ _ ⟨rfl, z10, rfl, (⟨fz_A9, HS_A9⟩ | ⟨fz_A9, HS_A9⟩)⟩
  ·
    have c1 := hn_cn (j := a1) (by omega)
    refine hpj_zne (by rfl) rfl (fun q11 => ?_) (fun q11 => False.elim (by omega))
    refine hpa_iconst (by rfl) rfl ?_
    refine hpa_s1 (by rfl) (Or.inl ⟨_, rfl, rfl⟩) rfl ?_
    refine hpa_iconst (by rfl) rfl ?_
    refine hpa_s1 (by rfl) (Or.inl ⟨_, rfl, rfl⟩) rfl ?_
    exact L14 _ (Int32.ofNat 0) (Int32.ofNat 0) 0 0 (by omega) (by omega) rfl rfl rfl (by omega) (by omega)
  ·
    refine hpj_zne (by rfl) rfl (fun q12 => False.elim (by omega)) (fun q12 => ?_)
    refine hpa_iconst (by rfl) rfl ?_
    exact hpa_ireturn (by rfl) rfl (hP _ _ ⟨rfl, _, rfl, Or.inr ⟨by omega, rfl⟩⟩)
theorem hP120 {g d : Nat} {A : hs_A} {T n : Nat} {ro : Nat → Int32} (a1 : Int32) (hT : hTT T) (h3 : A.2.2.2 0 3 = T + 1) (hTn : (A.1 T 4).toInt = (n : Int)) (hL : hdL 26 ro n A) : hpC g d 120 hm_m120 [.ref 1, .int a1] A (fun r A' => A = A' ∧ ∃ z : Int32, r = some (.int z) ∧ huAt n a1 (Int32.ofNat (huOf ro (a1.toNatClampNeg + 1))) z) := hpC.all (fun f d => hW120 a1 hT h3 hTn hL (fun r A' h => h))
theorem hW230 {g d f : Nat} {A : hs_A} {sd n : Nat} {D : hg_D} {ro : Nat → Int32} (a1 : Int32) (hK : hrK sd D A) (hHn : A.2.1 376 sd = Int32.ofNat n) (h10 : n ≤ 10) (hg5 : ∀ k, k < 73 → A.2.1 395 k = ro k) (hB : ∀ k, k < n → 0 ≤ (ro (50 + k)).toInt ∧ (ro (50 + k)).toInt ≤ 1) {P : Option Value → hs_A → Prop} (hP : ∀ (r : Option Value) (A' : hs_A), (A = A' ∧ ∃ z : Int32, r = some (.int z) ∧ huAt n a1 (Int32.ofNat (huOf ro (a1.toNatClampNeg + 1))) z) → P r A') : hpa (f, g) d (some (.int)) hm_t230 0 [.ref 368, .int a1, .retAddr 0, .retAddr 0] [] A P := by
  have k0 := hk_0
  have k1 := hk_1
  have k4294967295 := hk_4294967295
  have k50 := hk_50
  have k18 := hK.1
  have ksd := hK.2.1
  have cn := hn_c (n := n) (z := Int32.ofNat n) rfl (by omega)
  have L14 : ∀ (f : Nat) (x14_3 : Int32) (x14_2 : Int32) (k : Nat) (m : Nat) (bk : k ≤ 10) (bm : m ≤ k) (ek : x14_3 = Int32.ofNat k) (em : x14_2 = Int32.ofNat m) (EM : m = huOf ro k) (kk : (k : Int) ≤ a1.toInt + 1) (ha1 : 0 ≤ a1.toInt ∧ a1.toInt < (n : Int)), hpa (f, g) d (some (.int)) hm_t230 14 [.ref 368, .int a1, .int x14_2, .int x14_3] [] A P := by
    intro f
    induction f with
    | zero => intros; exact hpa.zero
    | succ f ih14 =>
      intro x14_3 x14_2 k m bk bm ek em EM kk ha1
      subst ek
      have ck := hn_c (n := k) (z := Int32.ofNat k) rfl (by omega)
      subst em
      have cm := hn_c (n := m) (z := Int32.ofNat m) rfl (by omega)
      have c1 := hn_cn (j := a1) ha1.1
      refine hpa_iload_nS (by rfl) rfl ?_
      refine hpa_iload_n (by rfl) rfl ?_
      refine hpj_cgt (by rfl) ck rfl (fun q1 => ?_) (fun q1 => ?_)
      ·
        refine hpa_iload_n (by rfl) rfl ?_
        exact hpa_ireturn (by rfl) rfl (hP _ _ ⟨rfl, _, rfl, Or.inl ⟨by omega, by omega, by rw [EM, show k = a1.toNatClampNeg + 1 by omega]⟩⟩)
      ·
        refine hpa_iload_n (by rfl) rfl ?_
        refine hpa_iconst (by rfl) rfl ?_
        refine hpa_aload_n (by rfl) rfl ?_
        refine hpa_get (v := .ref 396) (by rfl) (by rfl) (by rfl) rfl ?_
        refine hpa_bipush (by rfl) rfl ?_
        refine hpa_iload_n (by rfl) rfl ?_
        refine hpj_iadd (by rfl) hk_50 ck (by omega) (by omega) (fun z2 ez2 => ?_)
        refine hpx_iald (by rfl) (by rfl) (fun h0v3 h1v3 v3 ev3 => ?_)
        rw [show (z2).toNatClampNeg = 50 + k from by have := hn_cn (j := z2) (by omega); omega] at ev3
        have lv3 := ev3.symm.trans (show _ = ro (50 + k) from hg5 (50 + k) (by omega))
        clear ev3
        subst lv3
        have b50 := hB k (by omega)
        have i50 := huOf_i b50
        refine hpj_isub (by rfl) hk_1 rfl (by omega) (by omega) (fun z4 ez4 => ?_)
        refine hpj_iadd (by rfl) cm rfl (by omega) (by omega) (fun z5 ez5 => ?_)
        refine hpa_s1 (by rfl) (Or.inl ⟨_, rfl, rfl⟩) rfl ?_
        refine hpj_iinc (by rfl) rfl ck hk_1 (by omega) (by omega) (fun _ => rfl) (fun z6 ez6 => ?_)
        refine hpa_goto (by rfl) ?_
        exact ih14 z6 z5 (k + 1) (huOf ro (k + 1)) (by omega) (huOf_le (k + 1)) (huI (by omega) (by omega)) (huI (by omega) (by omega)) rfl (by omega) (by omega)
  refine hpa_aload_n (by rfl) rfl ?_
  refine hpa_iload_n (by rfl) rfl ?_
  refine hpa_call0 (by rfl) (by rfl) (by rfl) (by rfl) (by rfl) (by rfl) (hP167 a1 hK hHn h10 hg5) ?_
  rintro _ _ ⟨rfl, z8, rfl, (⟨fz_A7, HS_A7⟩ | ⟨fz_A7, HS_A7⟩)⟩
  ·
    have c1 := hn_cn (j := a1) (by omega)
    refine hpj_zne (by rfl) rfl (fun q9 => ?_) (fun q9 => False.elim (by omega))
    refine hpa_iconst (by rfl) rfl ?_
    refine hpa_s1 (by rfl) (Or.inl ⟨_, rfl, rfl⟩) rfl ?_
    refine hpa_iconst (by rfl) rfl ?_
    refine hpa_s1 (by rfl) (Or.inl ⟨_, rfl, rfl⟩) rfl ?_
    exact L14 _ (Int32.ofNat 0) (Int32.ofNat 0) 0 0 (by omega) (by omega) rfl rfl rfl (by omega) (by omega)
  ·
    refine hpj_zne (by rfl) rfl (fun q10 => False.elim (by omega)) (fun q10 => ?_)
    refine hpa_iconst (by rfl) rfl ?_
    exact hpa_ireturn (by rfl) rfl (hP _ _ ⟨rfl, _, rfl, Or.inr ⟨by omega, rfl⟩⟩)
theorem hP230 {g d : Nat} {A : hs_A} {sd n : Nat} {D : hg_D} {ro : Nat → Int32} (a1 : Int32) (hK : hrK sd D A) (hHn : A.2.1 376 sd = Int32.ofNat n) (h10 : n ≤ 10) (hg5 : ∀ k, k < 73 → A.2.1 395 k = ro k) (hB : ∀ k, k < n → 0 ≤ (ro (50 + k)).toInt ∧ (ro (50 + k)).toInt ≤ 1) : hpC g d 230 hm_m230 [.ref 368, .int a1] A (fun r A' => A = A' ∧ ∃ z : Int32, r = some (.int z) ∧ huAt n a1 (Int32.ofNat (huOf ro (a1.toNatClampNeg + 1))) z) := hpC.all (fun f d => hW230 a1 hK hHn h10 hg5 hB (fun r A' h => h))
/-! WHAT IS, WHAT IT DOES NOT HEAR, WHAT BEST IS CARRIED -/
/-- the first from 0 to h that does not hear, or -2 -/
def huBr (ro : Nat → Int32) (h : Nat) (z : Int32) : Prop := (∃ k, k ≤ h ∧ huH ro k = false ∧ (∀ j, j < k → huH ro j = true) ∧ z = Int32.ofNat k) ∨ ((∀ j, j ≤ h → huH ro j = true) ∧ z = Int32.ofNat 4294967294)
theorem huBr_one {ro : Nat → Int32} {h : Nat} {z z' : Int32} (a : huBr ro h z) (b : huBr ro h z') : z = z' := by
  rcases a with ⟨k, a1, a2, a3, rfl⟩ | ⟨a1, rfl⟩
  · rcases b with ⟨j, b1, b2, b3, rfl⟩ | ⟨b1, rfl⟩
    · by_cases q : k = j
      · rw [q]
      · by_cases r : k < j
        · rw [b3 k r] at a2
          cases a2
        · rw [a3 j (by omega)] at b2
          cases b2
    · rw [b1 k a1] at a2
      cases a2
  · rcases b with ⟨j, b1, b2, b3, rfl⟩ | ⟨b1, rfl⟩
    · rw [a1 j b1] at b2
      cases b2
    · rfl
/-- at a house what P says, else -1 -/
def huAp (n : Nat) (a : Int32) (P : Int32 → Prop) (z : Int32) : Prop := (0 ≤ a.toInt ∧ a.toInt < (n : Int) ∧ P z) ∨ ((a.toInt < 0 ∨ (n : Int) ≤ a.toInt) ∧ z = Int32.ofNat 4294967295)
theorem huAp_one {n : Nat} {a z z' : Int32} {P : Int32 → Prop} (u : ∀ v w, P v → P w → v = w) (h : huAp n a P z) (h' : huAp n a P z') : z = z' := by
  rcases h with ⟨a1, a2, a3⟩ | ⟨a1, rfl⟩
  · rcases h' with ⟨b1, b2, b3⟩ | ⟨b1, rfl⟩
    · exact u _ _ a3 b3
    · exact False.elim (by omega)
  · rcases h' with ⟨b1, b2, b3⟩ | ⟨b1, rfl⟩
    · exact False.elim (by omega)
    · rfl
def huHw (D : hg_D) (n : Nat) (ro : Nat → Int32) (a w : Int32) : Int32 :=
  if w.toInt = 7 then huT D (huX (Int32.ofNat n) ro a (ro 70)) (if a.toInt = 0 then Int32.ofNat 0 else huB 10 (ro (29 + a.toNatClampNeg)))
  else if w.toInt = 8 then huU D (huX (Int32.ofNat n) ro a (ro 70))
  else if w.toInt = 9 then huE D (huX (Int32.ofNat n) ro a (ro 70)) else Int32.ofNat 4294967295
def huHv (D : hg_D) (n : Nat) (ro : Nat → Int32) (a w : Int32) : Int32 :=
  if w.toInt = 0 then ro a.toNatClampNeg else if w.toInt = 1 then ro (10 + a.toNatClampNeg) else if w.toInt = 2 then ro (30 + a.toNatClampNeg)
  else if w.toInt = 3 then ro (40 + a.toNatClampNeg) else if w.toInt = 4 then ro (50 + a.toNatClampNeg) else if w.toInt = 5 then ro (60 + a.toNatClampNeg)
  else if w.toInt = 6 then ro (20 + a.toNatClampNeg) else huHw D n ro a w
/-! carried best -/
def huCv (ro : Nat → Int32) (i j : Nat) : Int32 := huB 10 (ro (30 + i) &&& (ro j &&& (ro (40 + j) ^^^ Int32.ofNat 4294967295)))
def huCs (ro : Nat → Int32) (i j : Nat) (s : Int32 × Int32) : Int32 × Int32 := if ¬ i = j ∧ s.1.toInt < (huCv ro i j).toInt then (huCv ro i j, Int32.ofNat (10 * i + j)) else s
def huCi (ro : Nat → Int32) (i : Nat) : Nat → Int32 × Int32 → Int32 × Int32
  | 0, s => s
  | j + 1, s => huCs ro i j (huCi ro i j s)
def huCb (ro : Nat → Int32) (n : Nat) : Nat → Int32 × Int32
  | 0 => (Int32.ofNat 0, Int32.ofNat 4294967294)
  | i + 1 => huCi ro i n (huCb ro n i)
def huCr (ro : Nat → Int32) (n : Nat) (w : Int32) : Int32 := if w.toInt = 0 ∨ (huCb ro n n).2.toInt = -2 then (huCb ro n n).2 else (huCb ro n n).1
section HCB
variable {ro : Nat → Int32} {n i j : Nat} {s : Int32 × Int32}
theorem huCi_n (h : ¬ (¬ i = j ∧ (huCi ro i j s).1.toInt < (huCv ro i j).toInt)) : huCi ro i (j + 1) s = huCi ro i j s := if_neg h
theorem huCi_y (h : ¬ i = j ∧ (huCi ro i j s).1.toInt < (huCv ro i j).toInt) : huCi ro i (j + 1) s = (huCv ro i j, Int32.ofNat (10 * i + j)) := if_pos h
def huCp (s : Int32 × Int32) : Prop := s.2.toInt = -2 ∨ 0 ≤ s.2.toInt
theorem huCi_p (hi : i < 10) (h : huCp s) : ∀ k, k ≤ 10 → huCp (huCi ro i k s)
  | 0, _ => h
  | k + 1, hk => by
    have q := huCi_p hi h k (by omega)
    show huCp (huCs ro i k (huCi ro i k s))
    unfold huCs
    split
    · have e := hn_c (n := 10 * i + k) (z := Int32.ofNat (10 * i + k)) rfl (by omega)
      exact Or.inr (by show 0 ≤ (Int32.ofNat (10 * i + k)).toInt; omega)
    · exact q
theorem huCb_p (h10 : n ≤ 10) : ∀ k, k ≤ 10 → huCp (huCb ro n k)
  | 0, _ => Or.inl hk_4294967294
  | k + 1, hk => huCi_p (by omega) (huCb_p h10 k (by omega)) n h10
end HCB
theorem hs_and3 {a b c : Int32} : a &&& b &&& c = a &&& (b &&& c) := by
  apply Int32.toBitVec_inj.mp
  show a.toBitVec &&& b.toBitVec &&& c.toBitVec = a.toBitVec &&& (b.toBitVec &&& c.toBitVec)
  exact BitVec.and_assoc _ _ _
theorem hW20_26 {g d f : Nat} {A : hs_A} {ro : Nat → Int32} {n : Nat} {h : Nat} (a1 : Int32) (hL : hdL 26 ro n A) (hh : h < n) (ha : a1 = Int32.ofNat h) {P : Option Value → hs_A → Prop} (hP : ∀ (r : Option Value) (A' : hs_A), (A = A' ∧ ∃ z : Int32, r = some (.int z) ∧ huBr ro h z) → P r A') : hpa (f, g) d (some (.int)) hm_t20 0 [.ref 27, .int a1, .retAddr 0] [] A P := by
  have k0 := hk_0
  have k1 := hk_1
  have k10 := hk_10
  have k4294967294 := hk_4294967294
  have hn10 := hL.1
  have ch := hn_c (n := h) (z := Int32.ofNat h) rfl (by omega)
  have cah : a1.toInt = (h : Int) := by rw [ha]; exact ch
  have cih : a1.toNatClampNeg = h := by have := hn_cn (j := a1) (by omega); omega
  have L2 : ∀ (f : Nat) (x2_2 : Int32) (k : Nat) (bk : k ≤ 10) (ek : x2_2 = Int32.ofNat k) (AJ : ∀ j, j < k → huH ro j = true) (kk : k ≤ h + 1), hpa (f, g) d (some (.int)) hm_t20 2 [.ref 27, .int a1, .int x2_2] [] A P := by
    intro f
    induction f with
    | zero => intros; exact hpa.zero
    | succ f ih2 =>
      intro x2_2 k bk ek AJ kk
      subst ek
      have ck := hn_c (n := k) (z := Int32.ofNat k) rfl (by omega)
      refine hpa_iload_nS (by rfl) rfl ?_
      refine hpa_iload_n (by rfl) rfl ?_
      refine hpj_cgt (by rfl) ck rfl (fun q1 => ?_) (fun q1 => ?_)
      ·
        refine hpa_bipush (by rfl) rfl ?_
        exact hpa_ireturn (by rfl) rfl (hP _ _ ⟨rfl, _, rfl, Or.inr ⟨fun j hj => AJ j (by omega), rfl⟩⟩)
      ·
        refine hpa_iload_n (by rfl) rfl ?_
        refine hpa_bipush (by rfl) rfl ?_
        refine hpj_cge (by rfl) ck hk_10 (fun q2 => False.elim (by omega)) (fun q2 => ?_)
        refine hpa_aload_n (by rfl) rfl ?_
        refine hpa_iload_n (by rfl) rfl ?_
        refine hpa_call0 (by rfl) (by rfl) (by rfl) (by rfl) (by rfl) (by rfl) (hP19_26 (h := k) (Int32.ofNat k) hL (by omega) rfl) ?_
        rintro _ _ ⟨rfl, z4, rfl, (⟨fz_A3, HE_A3⟩ | ⟨fz_A3, HE_A3⟩)⟩
        ·
          refine hpj_zne (by rfl) rfl (fun q5 => ?_) (fun q5 => False.elim (by omega))
          refine hpj_iinc (by rfl) rfl ck hk_1 (by omega) (by omega) (fun _ => rfl) (fun z6 ez6 => ?_)
          refine hpa_goto (by rfl) ?_
          exact ih2 z6 (k + 1) (by omega) (huI (by omega) (by omega)) (fun j hj => by by_cases c : j = k; (rw [c]; exact HE_A3); exact AJ j (by omega)) (by omega)
        ·
          refine hpj_zne (by rfl) rfl (fun q7 => False.elim (by omega)) (fun q7 => ?_)
          refine hpa_iload_n (by rfl) rfl ?_
          exact hpa_ireturn (by rfl) rfl (hP _ _ ⟨rfl, _, rfl, Or.inl ⟨k, by omega, HE_A3, AJ, rfl⟩⟩)
  refine hpa_iconst (by rfl) rfl ?_
  refine hpa_s1 (by rfl) (Or.inl ⟨_, rfl, rfl⟩) rfl ?_
  exact L2 _ (Int32.ofNat 0) 0 (by omega) rfl (fun j hj => absurd hj (Nat.not_lt_zero j)) (by omega)
theorem hP20_26 {g d : Nat} {A : hs_A} {ro : Nat → Int32} {n : Nat} {h : Nat} (a1 : Int32) (hL : hdL 26 ro n A) (hh : h < n) (ha : a1 = Int32.ofNat h) : hpC g d 20 hm_m20 [.ref 27, .int a1] A (fun r A' => A = A' ∧ ∃ z : Int32, r = some (.int z) ∧ huBr ro h z) := hpC.all (fun f d => hW20_26 a1 hL hh ha (fun r A' h => h))
theorem hW106 {g d f : Nat} {A : hs_A} {T n : Nat} {ro : Nat → Int32} (a1 : Int32) (hT : hTT T) (h3 : A.2.2.2 0 3 = T + 1) (hTn : (A.1 T 4).toInt = (n : Int)) (hL : hdL 26 ro n A) {P : Option Value → hs_A → Prop} (hP : ∀ (r : Option Value) (A' : hs_A), (A = A' ∧ ∃ z : Int32, r = some (.int z) ∧ huAp n a1 (huBr ro a1.toNatClampNeg) z) → P r A') : hpa (f, g) d (some (.int)) hm_t106 0 [.ref 1, .int a1] [] A P := by
  have k4294967295 := hk_4294967295
  have hn10 := hL.1
  have cn := hn_c (n := n) (z := Int32.ofNat n) rfl (by omega)
  refine hpa_aload_n (by rfl) rfl ?_
  refine hpa_iload_n (by rfl) rfl ?_
  refine hpa_call0 (by rfl) (by rfl) (by rfl) (by rfl) (by rfl) (by rfl) (hP76 a1 hT h3 hTn hL) ?_
  rintro _ _ ⟨rfl, z2, rfl, (⟨fz_A1, HS_A1⟩ | ⟨fz_A1, HS_A1⟩)⟩
  ·
    have c1 := hn_cn (j := a1) (by omega)
    refine hpj_zeq (by rfl) rfl (fun q3 => False.elim (by omega)) (fun q3 => ?_)
    refine hpa_aload_n (by rfl) rfl ?_
    refine hpa_get (v := .ref 27) (by rfl) (by rfl) (by rfl) rfl ?_
    refine hpa_iload_n (by rfl) rfl ?_
    refine hpa_call0 (by rfl) (by rfl) (by rfl) (by rfl) (by rfl) (by rfl) (hP20_26 (h := a1.toNatClampNeg) a1 hL (by omega) (huI (by omega) (by omega))) ?_
    rintro _ _ ⟨rfl, z5, rfl, BR_A4⟩
    refine hpa_goto (by rfl) ?_
    exact hpa_ireturn (by rfl) rfl (hP _ _ ⟨rfl, _, rfl, Or.inl ⟨by omega, by omega, BR_A4⟩⟩)
  ·
    refine hpj_zeq (by rfl) rfl (fun q6 => ?_) (fun q6 => False.elim (by omega))
    refine hpa_iconst (by rfl) rfl ?_
    exact hpa_ireturn (by rfl) rfl (hP _ _ ⟨rfl, _, rfl, Or.inr ⟨by omega, rfl⟩⟩)
theorem hP106 {g d : Nat} {A : hs_A} {T n : Nat} {ro : Nat → Int32} (a1 : Int32) (hT : hTT T) (h3 : A.2.2.2 0 3 = T + 1) (hTn : (A.1 T 4).toInt = (n : Int)) (hL : hdL 26 ro n A) : hpC g d 106 hm_m106 [.ref 1, .int a1] A (fun r A' => A = A' ∧ ∃ z : Int32, r = some (.int z) ∧ huAp n a1 (huBr ro a1.toNatClampNeg) z) := hpC.all (fun f d => hW106 a1 hT h3 hTn hL (fun r A' h => h))
theorem hW200 {g d f : Nat} {A : hs_A} {ro : Nat → Int32} {h : Nat} (a1 : Int32) (hg : ∀ k, k < 73 → A.2.1 396 k = ro k) (hh : h ≤ 9) (ha : a1 = Int32.ofNat h) {P : Option Value → hs_A → Prop} (hP : ∀ (r : Option Value) (A' : hs_A), (A = A' ∧ ∃ z : Int32, r = some (.int z) ∧ huBr ro h z) → P r A') : hpa (f, g) d (some (.int)) hm_t200 0 [.ref 368, .int a1, .retAddr 0] [] A P := by
  have k0 := hk_0
  have k1 := hk_1
  have k4294967294 := hk_4294967294
  have ch := hn_c (n := h) (z := Int32.ofNat h) rfl (by omega)
  have cah : a1.toInt = (h : Int) := by rw [ha]; exact ch
  have L2 : ∀ (f : Nat) (x2_2 : Int32) (k : Nat) (bk : k ≤ 10) (ek : x2_2 = Int32.ofNat k) (AJ : ∀ j, j < k → huH ro j = true) (kk : k ≤ h + 1), hpa (f, g) d (some (.int)) hm_t200 2 [.ref 368, .int a1, .int x2_2] [] A P := by
    intro f
    induction f with
    | zero => intros; exact hpa.zero
    | succ f ih2 =>
      intro x2_2 k bk ek AJ kk
      subst ek
      have ck := hn_c (n := k) (z := Int32.ofNat k) rfl (by omega)
      refine hpa_iload_nS (by rfl) rfl ?_
      refine hpa_iload_n (by rfl) rfl ?_
      refine hpj_cgt (by rfl) ck rfl (fun q1 => ?_) (fun q1 => ?_)
      ·
        refine hpa_bipush (by rfl) rfl ?_
        exact hpa_ireturn (by rfl) rfl (hP _ _ ⟨rfl, _, rfl, Or.inr ⟨fun j hj => AJ j (by omega), rfl⟩⟩)
      ·
        refine hpa_aload_n (by rfl) rfl ?_
        refine hpa_iload_n (by rfl) rfl ?_
        refine hpa_call0 (by rfl) (by rfl) (by rfl) (by rfl) (by rfl) (by rfl) (hP182 (h := k) (Int32.ofNat k) hg (by omega) rfl) ?_
        rintro _ _ ⟨rfl, z3, rfl, (⟨fz_A2, HE_A2⟩ | ⟨fz_A2, HE_A2⟩)⟩
        ·
          refine hpj_zne (by rfl) rfl (fun q4 => ?_) (fun q4 => False.elim (by omega))
          refine hpj_iinc (by rfl) rfl ck hk_1 (by omega) (by omega) (fun _ => rfl) (fun z5 ez5 => ?_)
          refine hpa_goto (by rfl) ?_
          exact ih2 z5 (k + 1) (by omega) (huI (by omega) (by omega)) (fun j hj => by by_cases c : j = k; (rw [c]; exact HE_A2); exact AJ j (by omega)) (by omega)
        ·
          refine hpj_zne (by rfl) rfl (fun q6 => False.elim (by omega)) (fun q6 => ?_)
          refine hpa_iload_n (by rfl) rfl ?_
          exact hpa_ireturn (by rfl) rfl (hP _ _ ⟨rfl, _, rfl, Or.inl ⟨k, by omega, HE_A2, AJ, rfl⟩⟩)
  refine hpa_iconst (by rfl) rfl ?_
  refine hpa_s1 (by rfl) (Or.inl ⟨_, rfl, rfl⟩) rfl ?_
  exact L2 _ (Int32.ofNat 0) 0 (by omega) rfl (fun j hj => absurd hj (Nat.not_lt_zero j)) (by omega)
theorem hP200 {g d : Nat} {A : hs_A} {ro : Nat → Int32} {h : Nat} (a1 : Int32) (hg : ∀ k, k < 73 → A.2.1 396 k = ro k) (hh : h ≤ 9) (ha : a1 = Int32.ofNat h) : hpC g d 200 hm_m200 [.ref 368, .int a1] A (fun r A' => A = A' ∧ ∃ z : Int32, r = some (.int z) ∧ huBr ro h z) := hpC.all (fun f d => hW200 a1 hg hh ha (fun r A' h => h))
def uM218 : Nat := 11935757673834879411729173955523700162410947619136345219220172552752681381867113053945856
theorem hW218 {g d f : Nat} {A : hs_A} {sd n : Nat} {D : hg_D} {ro : Nat → Int32} (a1 : Int32) (hK : hrK sd D A) (hHn : A.2.1 376 sd = Int32.ofNat n) (h10 : n ≤ 10) (hg5 : ∀ k, k < 73 → A.2.1 395 k = ro k) (hH0 : uf_H A) {P : Option Value → hs_A → Prop} (hP : ∀ (r : Option Value) (A' : hs_A), (∃ z : Int32, r = some (.int z) ∧ huAp n a1 (huBr ro a1.toNatClampNeg) z) → P r A') : hpa (f, g) d (some (.int)) hm_t218 0 [.ref 368, .int a1] [] A P := by
  have k4294967295 := hk_4294967295
  have k18 := hK.1
  have ksd := hK.2.1
  have cn := hn_c (n := n) (z := Int32.ofNat n) rfl (by omega)
  have U0 : uf_W uM218 A A := uf_W.rfl
  refine hpa_aload_n (by rfl) rfl ?_
  refine hpa_iload_n (by rfl) rfl ?_
  refine hpa_call0 (by rfl) (by rfl) (by rfl) (by rfl) (by rfl) (by rfl) (uf_C (X := ug_x97) (j := 97) rfl rfl (ug_L.cons (uf_rk_ok (by decide +kernel)) (uf_int uf_nil)) hH0 (hP167 a1 hK hHn h10 hg5)) ?_
  rintro _ _ ⟨⟨rfl, z2, rfl, (⟨fz_A1, HS_A1⟩ | ⟨fz_A1, HS_A1⟩)⟩, -, -⟩
  ·
    have c1 := hn_cn (j := a1) (by omega)
    refine hpj_zne (by rfl) rfl (fun q3 => ?_) (fun q3 => False.elim (by omega))
    refine hpa_aload_n (by rfl) rfl ?_
    refine hpa_call0 (by rfl) (by rfl) (by rfl) (by rfl) (by rfl) (by rfl) (uf_C (X := ug_x113) (j := 113) rfl rfl (ug_L.cons (uf_rk_ok (by decide +kernel)) uf_nil) hH0 (hP171 hK hH0)) ?_
    rintro _ A4 ⟨⟨rfl, RW_A4, LS_A4, SL_A4⟩, wA4, HA4⟩
    have UA4 := (U0).trans (wA4.le (by decide +kernel : ug_wle ug_x113.2.2.2.1 uM218 = true))
    refine hpa_aload_n (by rfl) rfl ?_
    refine hpa_iload_n (by rfl) rfl ?_
    refine hpa_call0 (by rfl) (by rfl) (by rfl) (by rfl) (by rfl) (by rfl) (uf_C (X := ug_x203) (j := 203) rfl rfl (ug_L.cons (uf_rk_ok (by decide +kernel)) (uf_int uf_nil)) HA4 (hP200 (ro := ro) (h := a1.toNatClampNeg) a1 (fun k hk => (RW_A4 k hk).trans (hg5 k hk)) (by omega) (huI (by omega) (by omega)))) ?_
    rintro _ _ ⟨⟨rfl, z6, rfl, BR_A5⟩, -, -⟩
    exact hpa_ireturn (by rfl) rfl (hP _ _ ⟨_, rfl, Or.inl ⟨by omega, by omega, BR_A5⟩⟩)
  ·
    refine hpj_zne (by rfl) rfl (fun q7 => False.elim (by omega)) (fun q7 => ?_)
    refine hpa_iconst (by rfl) rfl ?_
    exact hpa_ireturn (by rfl) rfl (hP _ _ ⟨_, rfl, Or.inr ⟨by omega, rfl⟩⟩)
theorem hP218 {g d : Nat} {A : hs_A} {sd n : Nat} {D : hg_D} {ro : Nat → Int32} (a1 : Int32) (hK : hrK sd D A) (hHn : A.2.1 376 sd = Int32.ofNat n) (h10 : n ≤ 10) (hg5 : ∀ k, k < 73 → A.2.1 395 k = ro k) (hH0 : uf_H A) : hpC g d 218 hm_m218 [.ref 368, .int a1] A (fun r A' => ∃ z : Int32, r = some (.int z) ∧ huAp n a1 (huBr ro a1.toNatClampNeg) z) := hpC.all (fun f d => hW218 a1 hK hHn h10 hg5 hH0 (fun r A' h => h))
def uM80 : Nat := 323519360005807677536004181044235568083645733070486903550240528794624
theorem hW80 {g d f : Nat} {A : hs_A} {T n : Nat} {D : hg_D} {ro : Nat → Int32} {h : Nat} (a1 a2 : Int32) (hT : hTT T) (h3 : A.2.2.2 0 3 = T + 1) (hTn : (A.1 T 4).toInt = (n : Int)) (hC : hdK T D A) (hL : hdL 26 ro n A) (hO : huO ro n) (hh : h < n) (ha : a1 = Int32.ofNat h) (hH0 : uf_H A) {P : Option Value → hs_A → Prop} (hP : ∀ (r : Option Value) (A' : hs_A), (∃ z : Int32, r = some (.int z) ∧ z = huHw D n ro a1 a2) → P r A') : hpa (f, g) d (some (.int)) hm_t80 0 [.ref 1, .int a1, .int a2] [] A P := by
  have k0 := hk_0
  have k1 := hk_1
  have k4294967295 := hk_4294967295
  have hT9 : T ≤ 11 := by rcases hT with rfl | rfl <;> omega
  have hn10 := hL.1
  have ch := hn_c (n := h) (z := Int32.ofNat h) rfl (by omega)
  have cah : a1.toInt = (h : Int) := by rw [ha]; exact ch
  have cih : a1.toNatClampNeg = h := by have := hn_cn (j := a1) (by omega); omega
  have U0 : uf_W uM80 A A := uf_W.rfl
  refine hpa_aload_n (by rfl) rfl ?_
  refine hpa_get (v := .ref 324) (by rfl) (by rfl) (by rfl) rfl ?_
  refine hpa_aload_n (by rfl) rfl ?_
  refine hpj_getT (by rfl) (by rfl) (by rfl) h3 ?_
  refine hpa_aload_n (by rfl) rfl ?_
  refine hpa_get (v := .ref 27) (by rfl) (by rfl) (by rfl) rfl ?_
  refine hpa_iload_n (by rfl) rfl ?_
  refine hpa_aload_n (by rfl) rfl ?_
  refine hpa_get (v := .ref 27) (by rfl) (by rfl) (by rfl) rfl ?_
  refine hpj_getK (by rfl) (by rfl) (by rfl) rfl ?_
  rw [show (A.1 26 7) = ro 70 from hL.2.2.1.1]
  refine hpa_call0 (by rfl) (by rfl) (by rfl) (by rfl) (by rfl) (by rfl) (uf_C (X := ug_x133) (j := 133) rfl rfl (ug_L.cons (uf_rk_ok (by decide +kernel)) (ug_L.cons (by rcases hT with rfl | rfl <;> exact uf_rk_ok (by decide +kernel)) (ug_L.cons (uf_rk_ok (by decide +kernel)) (uf_int (uf_int uf_nil))))) hH0 (hP1_26 (h := h) a1 (ro 70) hT hC hL hO hh ha hTn hH0)) ?_
  rintro _ A1 ⟨⟨rfl, SS_A1, FR_A1⟩, wA1, HA1⟩
  have UA1 := (U0).trans (wA1.le (by decide +kernel : ug_wle ug_x133.2.2.2.1 uM80 = true))
  refine hpa_iload_n (by rfl) rfl ?_
  by_cases q2 : a2.toInt = 7
  ·
    refine hpa_tabIn (by rfl) (by omega) (by omega) (by rw [q2]; rfl) (tgt := 52) (by rfl) ?_
    refine hpa_aload_n (by rfl) rfl ?_
    refine hpa_get (v := .ref 324) (by rfl) (by rfl) (by rfl) rfl ?_
    refine hpa_iload_n (by rfl) rfl ?_
    refine hpj_zne (by rfl) rfl (fun q3 => ?_) (fun q3 => ?_)
    ·
      refine hpa_aload_n (by rfl) rfl ?_
      refine hpa_get (v := .ref 27) (by rfl) (by rfl) (by rfl) rfl ?_
      refine hpa_get (v := .ref 32) (by rfl) (by rfl) (by rfl) rfl ?_
      refine hpa_iload_n (by rfl) rfl ?_
      refine hpa_iconst (by rfl) rfl ?_
      refine hpj_isub (by rfl) rfl hk_1 (by omega) (by omega) (fun z4 ez4 => ?_)
      refine hpx_iald (by rfl) (by rfl) (fun h0v5 h1v5 v5 ev5 => ?_)
      have b63 := (hO.1 (h - 1) (by omega)).2.2.1
      rw [show 30 + (h - 1) = 29 + h by omega] at b63
      have b8 := huB_8 b63.1 b63.2
      have c8 := hn_cn (j := huB 10 (ro (29 + h))) b8.1
      have hL26A1 : hdL 26 ro n A1 := hL.uf hLL_26 UA1 (by decide +kernel)
      rw [show (z4).toNatClampNeg = (h - 1) from by have := hn_cn (j := z4) (by omega); omega] at ev5
      have lv5 := ev5.symm.trans ((hL26A1.2.2.2.2 ((h - 1)) (by omega)).2.2.1)
      clear ev5
      subst lv5
      rw [show 30 + (h - 1) = 29 + h by omega]
      refine hpa_call2 (by rfl) (by decide) (by rfl) (by rfl) (by rfl) (uf_C (X := ug_x108) (j := 108) rfl rfl (uf_int uf_nil) HA1 (hP242 (ro (29 + h)) (by omega) (by omega))) ?_
      rintro _ _ ⟨⟨rfl, z7, rfl, Z_A6⟩, -, -⟩
      subst Z_A6
      have hCA1 : hdK T D A1 := hC.uf hT UA1 (by decide +kernel)
      refine hpa_call0 (by rfl) (by rfl) (by rfl) (by rfl) (by rfl) (by rfl) (uf_C (X := ug_x193) (j := 193) rfl rfl (ug_L.cons (uf_rk_ok (by decide +kernel)) (uf_int uf_nil)) HA1 (hP2 (q := (huB 10 (ro (29 + h))).toNatClampNeg) (huB 10 (ro (29 + h))) hT hCA1 SS_A1.1 SS_A1.2.2.1 (by omega) (hI32 b8.1 (by omega)) HA1)) ?_
      rintro _ A8 ⟨⟨z9, rfl, Z_A8, VV_A8, QT_A8, FR_A8⟩, wA8, HA8⟩
      have UA8 := (UA1).trans (wA8.le (by decide +kernel : ug_wle ug_x193.2.2.2.1 uM80 = true))
      subst Z_A8
      exact hpa_ireturn (by rfl) rfl (hP _ _ ⟨_, rfl, by unfold huHw; rw [if_pos q2, if_neg q3, cih]⟩)
    ·
      refine hpa_iconst (by rfl) rfl ?_
      refine hpa_goto (by rfl) ?_
      have hCA1 : hdK T D A1 := hC.uf hT UA1 (by decide +kernel)
      refine hpa_call0 (by rfl) (by rfl) (by rfl) (by rfl) (by rfl) (by rfl) (uf_C (X := ug_x193) (j := 193) rfl rfl (ug_L.cons (uf_rk_ok (by decide +kernel)) (uf_int uf_nil)) HA1 (hP2 (q := 0) (Int32.ofNat 0) hT hCA1 SS_A1.1 SS_A1.2.2.1 (by omega) rfl HA1)) ?_
      rintro _ A10 ⟨⟨z11, rfl, Z_A10, VV_A10, QT_A10, FR_A10⟩, wA10, HA10⟩
      have UA10 := (UA1).trans (wA10.le (by decide +kernel : ug_wle ug_x193.2.2.2.1 uM80 = true))
      subst Z_A10
      exact hpa_ireturn (by rfl) rfl (hP _ _ ⟨_, rfl, by unfold huHw; rw [if_pos q2, if_pos q3]⟩)
  ·
    by_cases q12 : a2.toInt = 8
    ·
      refine hpa_tabIn (by rfl) (by omega) (by omega) (by rw [q12]; rfl) (tgt := 82) (by rfl) ?_
      refine hpa_aload_n (by rfl) rfl ?_
      refine hpa_get (v := .ref 324) (by rfl) (by rfl) (by rfl) rfl ?_
      have hCA1 : hdK T D A1 := hC.uf hT UA1 (by decide +kernel)
      refine hpa_call0 (by rfl) (by rfl) (by rfl) (by rfl) (by rfl) (by rfl) (uf_C (X := ug_x191) (j := 191) rfl rfl (ug_L.cons (uf_rk_ok (by decide +kernel)) uf_nil) HA1 (hP3 hT hCA1 SS_A1.1 SS_A1.2.2.2 HA1)) ?_
      rintro _ A13 ⟨⟨z14, rfl, Z_A13, VV_A13, QH_A13, FR_A13⟩, wA13, HA13⟩
      have UA13 := (UA1).trans (wA13.le (by decide +kernel : ug_wle ug_x191.2.2.2.1 uM80 = true))
      subst Z_A13
      exact hpa_ireturn (by rfl) rfl (hP _ _ ⟨_, rfl, by unfold huHw; rw [if_neg (by omega), if_pos q12]⟩)
    ·
      by_cases q15 : a2.toInt = 9
      ·
        refine hpa_tabIn (by rfl) (by omega) (by omega) (by rw [q15]; rfl) (tgt := 90) (by rfl) ?_
        refine hpa_aload_n (by rfl) rfl ?_
        refine hpa_get (v := .ref 324) (by rfl) (by rfl) (by rfl) rfl ?_
        have hCA1 : hdK T D A1 := hC.uf hT UA1 (by decide +kernel)
        refine hpa_call0 (by rfl) (by rfl) (by rfl) (by rfl) (by rfl) (by rfl) (uf_C (X := ug_x192) (j := 192) rfl rfl (ug_L.cons (uf_rk_ok (by decide +kernel)) uf_nil) HA1 (hP4 hT hCA1 SS_A1.1 HA1)) ?_
        rintro _ A16 ⟨⟨z17, rfl, Z_A16, VV_A16, FR_A16⟩, wA16, HA16⟩
        have UA16 := (UA1).trans (wA16.le (by decide +kernel : ug_wle ug_x192.2.2.2.1 uM80 = true))
        subst Z_A16
        exact hpa_ireturn (by rfl) rfl (hP _ _ ⟨_, rfl, by unfold huHw; rw [if_neg (by omega), if_neg (by omega), if_pos q15]⟩)
      ·
        refine hpa_tabOut (by rfl) (by omega) (tgt := 98) (by rfl) ?_
        refine hpa_iconst (by rfl) rfl ?_
        exact hpa_ireturn (by rfl) rfl (hP _ _ ⟨_, rfl, by unfold huHw; rw [if_neg (by omega), if_neg (by omega), if_neg (by omega)]⟩)
theorem hP80 {g d : Nat} {A : hs_A} {T n : Nat} {D : hg_D} {ro : Nat → Int32} {h : Nat} (a1 a2 : Int32) (hT : hTT T) (h3 : A.2.2.2 0 3 = T + 1) (hTn : (A.1 T 4).toInt = (n : Int)) (hC : hdK T D A) (hL : hdL 26 ro n A) (hO : huO ro n) (hh : h < n) (ha : a1 = Int32.ofNat h) (hH0 : uf_H A) : hpC g d 80 hm_m80 [.ref 1, .int a1, .int a2] A (fun r A' => ∃ z : Int32, r = some (.int z) ∧ z = huHw D n ro a1 a2) := hpC.all (fun f d => hW80 a1 a2 hT h3 hTn hC hL hO hh ha hH0 (fun r A' h => h))
def uM79 : Nat := 323519360005807677536004181044235568083645733070486903550240528794624
theorem hW79 {g d f : Nat} {A : hs_A} {T n : Nat} {D : hg_D} {ro : Nat → Int32} (a1 a2 : Int32) (hT : hTT T) (h3 : A.2.2.2 0 3 = T + 1) (hTn : (A.1 T 4).toInt = (n : Int)) (hC : hdK T D A) (hL : hdL 26 ro n A) (hO : huO ro n) (hH0 : uf_H A) {P : Option Value → hs_A → Prop} (hP : ∀ (r : Option Value) (A' : hs_A), (∃ z : Int32, r = some (.int z) ∧ huIf (0 ≤ a1.toInt ∧ a1.toInt < (n : Int)) (huHv D n ro a1 a2) z) → P r A') : hpa (f, g) d (some (.int)) hm_t79 0 [.ref 1, .int a1, .int a2] [] A P := by
  have k0 := hk_0
  have k1 := hk_1
  have k4294967295 := hk_4294967295
  have hT9 : T ≤ 11 := by rcases hT with rfl | rfl <;> omega
  have hn10 := hL.1
  have cn := hn_c (n := n) (z := Int32.ofNat n) rfl (by omega)
  have U0 : uf_W uM79 A A := uf_W.rfl
  refine hpa_aload_n (by rfl) rfl ?_
  refine hpa_iload_n (by rfl) rfl ?_
  refine hpa_call0 (by rfl) (by rfl) (by rfl) (by rfl) (by rfl) (by rfl) (uf_C (X := ug_x96) (j := 96) rfl rfl (ug_L.cons (uf_rk_ok (by decide +kernel)) (uf_int uf_nil)) hH0 (hP76 a1 hT h3 hTn hL)) ?_
  rintro _ _ ⟨⟨rfl, z2, rfl, (⟨fz_A1, HS_A1⟩ | ⟨fz_A1, HS_A1⟩)⟩, -, -⟩
  ·
    have c1 := hn_cn (j := a1) (by omega)
    refine hpj_zne (by rfl) rfl (fun q3 => ?_) (fun q3 => False.elim (by omega))
    refine hpa_iload_n (by rfl) rfl ?_
    by_cases q4 : a2.toInt = 0
    ·
      refine hpa_tabIn (by rfl) (by omega) (by omega) (by rw [q4]; rfl) (tgt := 52) (by rfl) ?_
      refine hpa_aload_n (by rfl) rfl ?_
      refine hpa_get (v := .ref 27) (by rfl) (by rfl) (by rfl) rfl ?_
      refine hpa_get (v := .ref 28) (by rfl) (by rfl) (by rfl) rfl ?_
      refine hpa_iload_n (by rfl) rfl ?_
      refine hpx_iald (by rfl) (by rfl) (fun h0v5 h1v5 v5 ev5 => ?_)
      rw [show (a1).toNatClampNeg = a1.toNatClampNeg from by have := hn_cn (j := a1) (by omega); omega] at ev5
      have lv5 := ev5.symm.trans ((hL.2.2.2.2 (a1.toNatClampNeg) (by omega)).1.1)
      clear ev5
      subst lv5
      exact hpa_ireturn (by rfl) rfl (hP _ _ ⟨_, rfl, Or.inl ⟨⟨by omega, by omega⟩, by unfold huHv; rw [if_pos q4]⟩⟩)
    ·
      by_cases q6 : a2.toInt = 1
      ·
        refine hpa_tabIn (by rfl) (by omega) (by omega) (by rw [q6]; rfl) (tgt := 62) (by rfl) ?_
        refine hpa_aload_n (by rfl) rfl ?_
        refine hpa_get (v := .ref 27) (by rfl) (by rfl) (by rfl) rfl ?_
        refine hpa_get (v := .ref 29) (by rfl) (by rfl) (by rfl) rfl ?_
        refine hpa_iload_n (by rfl) rfl ?_
        refine hpx_iald (by rfl) (by rfl) (fun h0v7 h1v7 v7 ev7 => ?_)
        rw [show (a1).toNatClampNeg = a1.toNatClampNeg from by have := hn_cn (j := a1) (by omega); omega] at ev7
        have lv7 := ev7.symm.trans ((hL.2.2.2.2 (a1.toNatClampNeg) (by omega)).1.2.1)
        clear ev7
        subst lv7
        exact hpa_ireturn (by rfl) rfl (hP _ _ ⟨_, rfl, Or.inl ⟨⟨by omega, by omega⟩, by unfold huHv; rw [if_neg (by omega), if_pos q6]⟩⟩)
      ·
        by_cases q8 : a2.toInt = 2
        ·
          refine hpa_tabIn (by rfl) (by omega) (by omega) (by rw [q8]; rfl) (tgt := 72) (by rfl) ?_
          refine hpa_aload_n (by rfl) rfl ?_
          refine hpa_get (v := .ref 27) (by rfl) (by rfl) (by rfl) rfl ?_
          refine hpa_get (v := .ref 32) (by rfl) (by rfl) (by rfl) rfl ?_
          refine hpa_iload_n (by rfl) rfl ?_
          refine hpx_iald (by rfl) (by rfl) (fun h0v9 h1v9 v9 ev9 => ?_)
          rw [show (a1).toNatClampNeg = a1.toNatClampNeg from by have := hn_cn (j := a1) (by omega); omega] at ev9
          have lv9 := ev9.symm.trans ((hL.2.2.2.2 (a1.toNatClampNeg) (by omega)).2.2.1)
          clear ev9
          subst lv9
          exact hpa_ireturn (by rfl) rfl (hP _ _ ⟨_, rfl, Or.inl ⟨⟨by omega, by omega⟩, by unfold huHv; rw [if_neg (by omega), if_neg (by omega), if_pos q8]⟩⟩)
        ·
          by_cases q10 : a2.toInt = 3
          ·
            refine hpa_tabIn (by rfl) (by omega) (by omega) (by rw [q10]; rfl) (tgt := 82) (by rfl) ?_
            refine hpa_aload_n (by rfl) rfl ?_
            refine hpa_get (v := .ref 27) (by rfl) (by rfl) (by rfl) rfl ?_
            refine hpa_get (v := .ref 30) (by rfl) (by rfl) (by rfl) rfl ?_
            refine hpa_iload_n (by rfl) rfl ?_
            refine hpx_iald (by rfl) (by rfl) (fun h0v11 h1v11 v11 ev11 => ?_)
            rw [show (a1).toNatClampNeg = a1.toNatClampNeg from by have := hn_cn (j := a1) (by omega); omega] at ev11
            have lv11 := ev11.symm.trans ((hL.2.2.2.2 (a1.toNatClampNeg) (by omega)).1.2.2)
            clear ev11
            subst lv11
            exact hpa_ireturn (by rfl) rfl (hP _ _ ⟨_, rfl, Or.inl ⟨⟨by omega, by omega⟩, by unfold huHv; rw [if_neg (by omega), if_neg (by omega), if_neg (by omega), if_pos q10]⟩⟩)
          ·
            by_cases q12 : a2.toInt = 4
            ·
              refine hpa_tabIn (by rfl) (by omega) (by omega) (by rw [q12]; rfl) (tgt := 92) (by rfl) ?_
              refine hpa_aload_n (by rfl) rfl ?_
              refine hpa_get (v := .ref 27) (by rfl) (by rfl) (by rfl) rfl ?_
              refine hpa_iload_n (by rfl) rfl ?_
              refine hpa_call0 (by rfl) (by rfl) (by rfl) (by rfl) (by rfl) (by rfl) (uf_C (X := ug_x137) (j := 137) rfl rfl (ug_L.cons (uf_rk_ok (by decide +kernel)) (uf_int uf_nil)) hH0 (hP18_26 (h := a1.toNatClampNeg) a1 hL (by omega) (huI (by omega) (by omega)))) ?_
              rintro _ _ ⟨⟨rfl, z14, rfl, (⟨fz_A13, ON_A13⟩ | ⟨fz_A13, ON_A13⟩)⟩, -, -⟩
              ·
                refine hpj_zeq (by rfl) rfl (fun q15 => False.elim (by omega)) (fun q15 => ?_)
                refine hpa_iconst (by rfl) rfl ?_
                refine hpa_goto (by rfl) ?_
                exact hpa_ireturn (by rfl) rfl (hP _ _ ⟨_, rfl, Or.inl ⟨⟨by omega, by omega⟩, by unfold huHv; rw [if_neg (by omega), if_neg (by omega), if_neg (by omega), if_neg (by omega), if_pos q12]; exact (huI (n := 1) ON_A13 (by omega)).symm⟩⟩)
              ·
                refine hpj_zeq (by rfl) rfl (fun q16 => ?_) (fun q16 => False.elim (by omega))
                refine hpa_iconst (by rfl) rfl ?_
                exact hpa_ireturn (by rfl) rfl (hP _ _ ⟨_, rfl, Or.inl ⟨⟨by omega, by omega⟩, by unfold huHv; rw [if_neg (by omega), if_neg (by omega), if_neg (by omega), if_neg (by omega), if_pos q12]; exact (huI (n := 0) ON_A13 (by omega)).symm⟩⟩)
            ·
              by_cases q17 : a2.toInt = 5
              ·
                refine hpa_tabIn (by rfl) (by omega) (by omega) (by rw [q17]; rfl) (tgt := 109) (by rfl) ?_
                refine hpa_aload_n (by rfl) rfl ?_
                refine hpa_get (v := .ref 27) (by rfl) (by rfl) (by rfl) rfl ?_
                refine hpa_get (v := .ref 33) (by rfl) (by rfl) (by rfl) rfl ?_
                refine hpa_iload_n (by rfl) rfl ?_
                refine hpx_iald (by rfl) (by rfl) (fun h0v18 h1v18 v18 ev18 => ?_)
                rw [show (a1).toNatClampNeg = a1.toNatClampNeg from by have := hn_cn (j := a1) (by omega); omega] at ev18
                have lv18 := ev18.symm.trans ((hL.2.2.2.2 (a1.toNatClampNeg) (by omega)).2.2.2)
                clear ev18
                subst lv18
                exact hpa_ireturn (by rfl) rfl (hP _ _ ⟨_, rfl, Or.inl ⟨⟨by omega, by omega⟩, by unfold huHv; rw [if_neg (by omega), if_neg (by omega), if_neg (by omega), if_neg (by omega), if_neg (by omega), if_pos q17]⟩⟩)
              ·
                by_cases q19 : a2.toInt = 6
                ·
                  refine hpa_tabIn (by rfl) (by omega) (by omega) (by rw [q19]; rfl) (tgt := 119) (by rfl) ?_
                  refine hpa_aload_n (by rfl) rfl ?_
                  refine hpa_get (v := .ref 27) (by rfl) (by rfl) (by rfl) rfl ?_
                  refine hpa_get (v := .ref 31) (by rfl) (by rfl) (by rfl) rfl ?_
                  refine hpa_iload_n (by rfl) rfl ?_
                  refine hpx_iald (by rfl) (by rfl) (fun h0v20 h1v20 v20 ev20 => ?_)
                  rw [show (a1).toNatClampNeg = a1.toNatClampNeg from by have := hn_cn (j := a1) (by omega); omega] at ev20
                  have lv20 := ev20.symm.trans ((hL.2.2.2.2 (a1.toNatClampNeg) (by omega)).2.1)
                  clear ev20
                  subst lv20
                  exact hpa_ireturn (by rfl) rfl (hP _ _ ⟨_, rfl, Or.inl ⟨⟨by omega, by omega⟩, by unfold huHv; rw [if_neg (by omega), if_neg (by omega), if_neg (by omega), if_neg (by omega), if_neg (by omega), if_neg (by omega), if_pos q19]⟩⟩)
                ·
                  refine hpa_tabOut (by rfl) (by omega) (tgt := 129) (by rfl) ?_
                  refine hpa_aload_n (by rfl) rfl ?_
                  refine hpa_iload_n (by rfl) rfl ?_
                  refine hpa_iload_n (by rfl) rfl ?_
                  refine hpa_call0 (by rfl) (by rfl) (by rfl) (by rfl) (by rfl) (by rfl) (uf_C (X := ug_x147) (j := 147) rfl rfl (ug_L.cons (uf_rk_ok (by decide +kernel)) (uf_int (uf_int uf_nil))) hH0 (hP80 (h := a1.toNatClampNeg) a1 a2 hT h3 hTn hC hL hO (by omega) (huI (by omega) (by omega)) hH0)) ?_
                  rintro _ A21 ⟨⟨z22, rfl, Z_A21⟩, wA21, HA21⟩
                  have UA21 := (U0).trans (wA21.le (by decide +kernel : ug_wle ug_x147.2.2.2.1 uM79 = true))
                  subst Z_A21
                  exact hpa_ireturn (by rfl) rfl (hP _ _ ⟨_, rfl, Or.inl ⟨⟨by omega, by omega⟩, by unfold huHv; rw [if_neg (by omega), if_neg (by omega), if_neg (by omega), if_neg (by omega), if_neg (by omega), if_neg (by omega), if_neg (by omega)]⟩⟩)
  ·
    refine hpj_zne (by rfl) rfl (fun q23 => False.elim (by omega)) (fun q23 => ?_)
    refine hpa_iconst (by rfl) rfl ?_
    exact hpa_ireturn (by rfl) rfl (hP _ _ ⟨_, rfl, Or.inr ⟨fun p => by omega, rfl⟩⟩)
theorem hP79 {g d : Nat} {A : hs_A} {T n : Nat} {D : hg_D} {ro : Nat → Int32} (a1 a2 : Int32) (hT : hTT T) (h3 : A.2.2.2 0 3 = T + 1) (hTn : (A.1 T 4).toInt = (n : Int)) (hC : hdK T D A) (hL : hdL 26 ro n A) (hO : huO ro n) (hH0 : uf_H A) : hpC g d 79 hm_m79 [.ref 1, .int a1, .int a2] A (fun r A' => ∃ z : Int32, r = some (.int z) ∧ huIf (0 ≤ a1.toInt ∧ a1.toInt < (n : Int)) (huHv D n ro a1 a2) z) := hpC.all (fun f d => hW79 a1 a2 hT h3 hTn hC hL hO hH0 (fun r A' h => h))
def uM188 : Nat := 12433080910244666053884556203670521002511403769933692936904025444889660923967013444911104
theorem hW188 {g d f : Nat} {A : hs_A} {sd n : Nat} {D : hg_D} {ro : Nat → Int32} (a1 a2 : Int32) (hK : hrK sd D A) (hHn : A.2.1 376 sd = Int32.ofNat n) (h10 : n ≤ 10) (hg5 : ∀ k, k < 73 → A.2.1 395 k = ro k) (hH0 : uf_H A) {P : Option Value → hs_A → Prop} (hP : ∀ (r : Option Value) (A' : hs_A), (∃ z : Int32, r = some (.int z) ∧ huIf (0 ≤ a1.toInt ∧ a1.toInt < (n : Int)) (huHv D n ro a1 a2) z) → P r A') : hpa (f, g) d (some (.int)) hm_t188 0 [.ref 368, .int a1, .int a2] [] A P := by
  have k0 := hk_0
  have k10 := hk_10
  have k20 := hk_20
  have k29 := hk_29
  have k30 := hk_30
  have k40 := hk_40
  have k4294967295 := hk_4294967295
  have k50 := hk_50
  have k60 := hk_60
  have k70 := hk_70
  have k9 := hk_9
  have k18 := hK.1
  have ksd := hK.2.1
  have cn := hn_c (n := n) (z := Int32.ofNat n) rfl (by omega)
  have U0 : uf_W uM188 A A := uf_W.rfl
  refine hpa_aload_n (by rfl) rfl ?_
  refine hpa_iload_n (by rfl) rfl ?_
  refine hpa_call0 (by rfl) (by rfl) (by rfl) (by rfl) (by rfl) (by rfl) (uf_C (X := ug_x97) (j := 97) rfl rfl (ug_L.cons (uf_rk_ok (by decide +kernel)) (uf_int uf_nil)) hH0 (hP167 a1 hK hHn h10 hg5)) ?_
  rintro _ _ ⟨⟨rfl, z2, rfl, (⟨fz_A1, HS_A1⟩ | ⟨fz_A1, HS_A1⟩)⟩, -, -⟩
  ·
    have c1 := hn_cn (j := a1) (by omega)
    refine hpj_zeq (by rfl) rfl (fun q3 => False.elim (by omega)) (fun q3 => ?_)
    refine hpa_iload_n (by rfl) rfl ?_
    refine hpa_iconst (by rfl) rfl ?_
    refine hpa_bipush (by rfl) rfl ?_
    refine hpa_call2 (by rfl) (by decide) (by rfl) (by rfl) (by rfl) (uf_C (X := ug_x104) (j := 104) rfl rfl (uf_int (uf_int (uf_int uf_nil))) hH0 (hP164 a2 (Int32.ofNat 0) (Int32.ofNat 9))) ?_
    rintro _ _ ⟨⟨rfl, z5, rfl, (⟨fz_A4, lo_A4, hi_A4⟩ | ⟨fz_A4, no_A4⟩)⟩, -, -⟩
    ·
      refine hpj_zne (by rfl) rfl (fun q6 => ?_) (fun q6 => False.elim (by omega))
      refine hpa_aload_n (by rfl) rfl ?_
      refine hpa_call0 (by rfl) (by rfl) (by rfl) (by rfl) (by rfl) (by rfl) (uf_C (X := ug_x113) (j := 113) rfl rfl (ug_L.cons (uf_rk_ok (by decide +kernel)) uf_nil) hH0 (hP171 hK hH0)) ?_
      rintro _ A7 ⟨⟨rfl, RW_A7, LS_A7, SL_A7⟩, wA7, HA7⟩
      have UA7 := (U0).trans (wA7.le (by decide +kernel : ug_wle ug_x113.2.2.2.1 uM188 = true))
      refine hpa_iload_n (by rfl) rfl ?_
      by_cases q8 : a2.toInt = 0
      ·
        refine hpa_tabIn (by rfl) (by omega) (by omega) (by rw [q8]; rfl) (tgt := 76) (by rfl) ?_
        refine hpa_aload_n (by rfl) rfl ?_
        refine hpa_get (v := .ref 397) (by rfl) (by rfl) (by rfl) rfl ?_
        refine hpa_iload_n (by rfl) rfl ?_
        refine hpx_iald (by rfl) (by rfl) (fun h0v9 h1v9 v9 ev9 => ?_)
        rw [show (a1).toNatClampNeg = a1.toNatClampNeg from by have := hn_cn (j := a1) (by omega); omega] at ev9
        have lv9 := ev9.symm.trans (show _ = ro (a1.toNatClampNeg) from (RW_A7 (a1.toNatClampNeg) (by omega)).trans (hg5 (a1.toNatClampNeg) (by omega)))
        clear ev9
        subst lv9
        exact hpa_ireturn (by rfl) rfl (hP _ _ ⟨_, rfl, Or.inl ⟨⟨by omega, by omega⟩, by unfold huHv; rw [if_pos q8]⟩⟩)
      ·
        by_cases q10 : a2.toInt = 1
        ·
          refine hpa_tabIn (by rfl) (by omega) (by omega) (by rw [q10]; rfl) (tgt := 83) (by rfl) ?_
          refine hpa_aload_n (by rfl) rfl ?_
          refine hpa_get (v := .ref 397) (by rfl) (by rfl) (by rfl) rfl ?_
          refine hpa_bipush (by rfl) rfl ?_
          refine hpa_iload_n (by rfl) rfl ?_
          refine hpj_iadd (by rfl) hk_10 rfl (by omega) (by omega) (fun z11 ez11 => ?_)
          refine hpx_iald (by rfl) (by rfl) (fun h0v12 h1v12 v12 ev12 => ?_)
          rw [show (z11).toNatClampNeg = 10 + a1.toNatClampNeg from by have := hn_cn (j := z11) (by omega); omega] at ev12
          have lv12 := ev12.symm.trans (show _ = ro (10 + a1.toNatClampNeg) from (RW_A7 (10 + a1.toNatClampNeg) (by omega)).trans (hg5 (10 + a1.toNatClampNeg) (by omega)))
          clear ev12
          subst lv12
          exact hpa_ireturn (by rfl) rfl (hP _ _ ⟨_, rfl, Or.inl ⟨⟨by omega, by omega⟩, by unfold huHv; rw [if_neg (by omega), if_pos q10]⟩⟩)
        ·
          by_cases q13 : a2.toInt = 2
          ·
            refine hpa_tabIn (by rfl) (by omega) (by omega) (by rw [q13]; rfl) (tgt := 93) (by rfl) ?_
            refine hpa_aload_n (by rfl) rfl ?_
            refine hpa_get (v := .ref 397) (by rfl) (by rfl) (by rfl) rfl ?_
            refine hpa_bipush (by rfl) rfl ?_
            refine hpa_iload_n (by rfl) rfl ?_
            refine hpj_iadd (by rfl) hk_30 rfl (by omega) (by omega) (fun z14 ez14 => ?_)
            refine hpx_iald (by rfl) (by rfl) (fun h0v15 h1v15 v15 ev15 => ?_)
            rw [show (z14).toNatClampNeg = 30 + a1.toNatClampNeg from by have := hn_cn (j := z14) (by omega); omega] at ev15
            have lv15 := ev15.symm.trans (show _ = ro (30 + a1.toNatClampNeg) from (RW_A7 (30 + a1.toNatClampNeg) (by omega)).trans (hg5 (30 + a1.toNatClampNeg) (by omega)))
            clear ev15
            subst lv15
            exact hpa_ireturn (by rfl) rfl (hP _ _ ⟨_, rfl, Or.inl ⟨⟨by omega, by omega⟩, by unfold huHv; rw [if_neg (by omega), if_neg (by omega), if_pos q13]⟩⟩)
          ·
            by_cases q16 : a2.toInt = 3
            ·
              refine hpa_tabIn (by rfl) (by omega) (by omega) (by rw [q16]; rfl) (tgt := 103) (by rfl) ?_
              refine hpa_aload_n (by rfl) rfl ?_
              refine hpa_get (v := .ref 397) (by rfl) (by rfl) (by rfl) rfl ?_
              refine hpa_bipush (by rfl) rfl ?_
              refine hpa_iload_n (by rfl) rfl ?_
              refine hpj_iadd (by rfl) hk_40 rfl (by omega) (by omega) (fun z17 ez17 => ?_)
              refine hpx_iald (by rfl) (by rfl) (fun h0v18 h1v18 v18 ev18 => ?_)
              rw [show (z17).toNatClampNeg = 40 + a1.toNatClampNeg from by have := hn_cn (j := z17) (by omega); omega] at ev18
              have lv18 := ev18.symm.trans (show _ = ro (40 + a1.toNatClampNeg) from (RW_A7 (40 + a1.toNatClampNeg) (by omega)).trans (hg5 (40 + a1.toNatClampNeg) (by omega)))
              clear ev18
              subst lv18
              exact hpa_ireturn (by rfl) rfl (hP _ _ ⟨_, rfl, Or.inl ⟨⟨by omega, by omega⟩, by unfold huHv; rw [if_neg (by omega), if_neg (by omega), if_neg (by omega), if_pos q16]⟩⟩)
            ·
              by_cases q19 : a2.toInt = 4
              ·
                refine hpa_tabIn (by rfl) (by omega) (by omega) (by rw [q19]; rfl) (tgt := 113) (by rfl) ?_
                refine hpa_aload_n (by rfl) rfl ?_
                refine hpa_get (v := .ref 397) (by rfl) (by rfl) (by rfl) rfl ?_
                refine hpa_bipush (by rfl) rfl ?_
                refine hpa_iload_n (by rfl) rfl ?_
                refine hpj_iadd (by rfl) hk_50 rfl (by omega) (by omega) (fun z20 ez20 => ?_)
                refine hpx_iald (by rfl) (by rfl) (fun h0v21 h1v21 v21 ev21 => ?_)
                rw [show (z20).toNatClampNeg = 50 + a1.toNatClampNeg from by have := hn_cn (j := z20) (by omega); omega] at ev21
                have lv21 := ev21.symm.trans (show _ = ro (50 + a1.toNatClampNeg) from (RW_A7 (50 + a1.toNatClampNeg) (by omega)).trans (hg5 (50 + a1.toNatClampNeg) (by omega)))
                clear ev21
                subst lv21
                exact hpa_ireturn (by rfl) rfl (hP _ _ ⟨_, rfl, Or.inl ⟨⟨by omega, by omega⟩, by unfold huHv; rw [if_neg (by omega), if_neg (by omega), if_neg (by omega), if_neg (by omega), if_pos q19]⟩⟩)
              ·
                by_cases q22 : a2.toInt = 5
                ·
                  refine hpa_tabIn (by rfl) (by omega) (by omega) (by rw [q22]; rfl) (tgt := 123) (by rfl) ?_
                  refine hpa_aload_n (by rfl) rfl ?_
                  refine hpa_get (v := .ref 397) (by rfl) (by rfl) (by rfl) rfl ?_
                  refine hpa_bipush (by rfl) rfl ?_
                  refine hpa_iload_n (by rfl) rfl ?_
                  refine hpj_iadd (by rfl) hk_60 rfl (by omega) (by omega) (fun z23 ez23 => ?_)
                  refine hpx_iald (by rfl) (by rfl) (fun h0v24 h1v24 v24 ev24 => ?_)
                  rw [show (z23).toNatClampNeg = 60 + a1.toNatClampNeg from by have := hn_cn (j := z23) (by omega); omega] at ev24
                  have lv24 := ev24.symm.trans (show _ = ro (60 + a1.toNatClampNeg) from (RW_A7 (60 + a1.toNatClampNeg) (by omega)).trans (hg5 (60 + a1.toNatClampNeg) (by omega)))
                  clear ev24
                  subst lv24
                  exact hpa_ireturn (by rfl) rfl (hP _ _ ⟨_, rfl, Or.inl ⟨⟨by omega, by omega⟩, by unfold huHv; rw [if_neg (by omega), if_neg (by omega), if_neg (by omega), if_neg (by omega), if_neg (by omega), if_pos q22]⟩⟩)
                ·
                  by_cases q25 : a2.toInt = 6
                  ·
                    refine hpa_tabIn (by rfl) (by omega) (by omega) (by rw [q25]; rfl) (tgt := 133) (by rfl) ?_
                    refine hpa_aload_n (by rfl) rfl ?_
                    refine hpa_get (v := .ref 397) (by rfl) (by rfl) (by rfl) rfl ?_
                    refine hpa_bipush (by rfl) rfl ?_
                    refine hpa_iload_n (by rfl) rfl ?_
                    refine hpj_iadd (by rfl) hk_20 rfl (by omega) (by omega) (fun z26 ez26 => ?_)
                    refine hpx_iald (by rfl) (by rfl) (fun h0v27 h1v27 v27 ev27 => ?_)
                    rw [show (z26).toNatClampNeg = 20 + a1.toNatClampNeg from by have := hn_cn (j := z26) (by omega); omega] at ev27
                    have lv27 := ev27.symm.trans (show _ = ro (20 + a1.toNatClampNeg) from (RW_A7 (20 + a1.toNatClampNeg) (by omega)).trans (hg5 (20 + a1.toNatClampNeg) (by omega)))
                    clear ev27
                    subst lv27
                    exact hpa_ireturn (by rfl) rfl (hP _ _ ⟨_, rfl, Or.inl ⟨⟨by omega, by omega⟩, by unfold huHv; rw [if_neg (by omega), if_neg (by omega), if_neg (by omega), if_neg (by omega), if_neg (by omega), if_neg (by omega), if_pos q25]⟩⟩)
                  ·
                    by_cases q28 : a2.toInt = 7
                    ·
                      refine hpa_tabIn (by rfl) (by omega) (by omega) (by rw [q28]; rfl) (tgt := 143) (by rfl) ?_
                      refine hpa_aload_n (by rfl) rfl ?_
                      refine hpa_iload_n (by rfl) rfl ?_
                      refine hpa_iload_n (by rfl) rfl ?_
                      refine hpj_zne (by rfl) rfl (fun q29 => ?_) (fun q29 => ?_)
                      ·
                        refine hpa_aload_n (by rfl) rfl ?_
                        refine hpa_get (v := .ref 397) (by rfl) (by rfl) (by rfl) rfl ?_
                        refine hpa_bipush (by rfl) rfl ?_
                        refine hpa_iload_n (by rfl) rfl ?_
                        refine hpj_iadd (by rfl) hk_29 rfl (by omega) (by omega) (fun z30 ez30 => ?_)
                        refine hpx_iald (by rfl) (by rfl) (fun h0v31 h1v31 v31 ev31 => ?_)
                        rw [show (z30).toNatClampNeg = 29 + a1.toNatClampNeg from by have := hn_cn (j := z30) (by omega); omega] at ev31
                        have lv31 := ev31.symm.trans (show _ = ro (29 + a1.toNatClampNeg) from (RW_A7 (29 + a1.toNatClampNeg) (by omega)).trans (hg5 (29 + a1.toNatClampNeg) (by omega)))
                        clear ev31
                        subst lv31
                        refine hpa_call2 (by rfl) (by decide) (by rfl) (by rfl) (by rfl) (uf_C (X := ug_x126) (j := 126) rfl rfl (uf_int uf_nil) HA7 (hP166 (ro (29 + a1.toNatClampNeg)))) ?_
                        rintro _ _ ⟨⟨rfl, z33, rfl, Z_A32⟩, -, -⟩
                        subst Z_A32
                        refine hpa_aload_n (by rfl) rfl ?_
                        refine hpa_get (v := .ref 397) (by rfl) (by rfl) (by rfl) rfl ?_
                        refine hpa_bipush (by rfl) rfl ?_
                        refine hpx_iald (by rfl) (by rfl) (fun h0v34 h1v34 v34 ev34 => ?_)
                        rw [show ((Int32.ofNat 70)).toNatClampNeg = 70 from by have := hn_cn (j := (Int32.ofNat 70)) (by omega); omega] at ev34
                        have lv34 := ev34.symm.trans (show _ = ro 70 from (RW_A7 70 (by omega)).trans (hg5 70 (by omega)))
                        clear ev34
                        subst lv34
                        have hKA7 : hrK sd D A7 := hK.uf UA7 (by decide +kernel)
                        have hHnA7 : A7.2.1 376 sd = Int32.ofNat n := (UA7.2.1 376 _ _ sd rfl (by have := hK.2.1; omega) (by decide +kernel)).trans hHn
                        refine hpa_call0 (by rfl) (by rfl) (by rfl) (by rfl) (by rfl) (by rfl) (uf_C (X := ug_x207) (j := 207) rfl rfl (ug_L.cons (uf_rk_ok (by decide +kernel)) (uf_int (uf_int (uf_int uf_nil)))) HA7 (hP178 (H := Int32.ofNat n) a1 (huB 10 (ro (29 + a1.toNatClampNeg))) (ro 70) hKA7 hHnA7 (fun k hk => (RW_A7 k hk).trans (hg5 k hk)) (by omega) (by omega) HA7)) ?_
                        rintro _ A35 ⟨⟨z36, rfl, Z_A35⟩, wA35, HA35⟩
                        have UA35 := (UA7).trans (wA35.le (by decide +kernel : ug_wle ug_x207.2.2.2.1 uM188 = true))
                        subst Z_A35
                        exact hpa_ireturn (by rfl) rfl (hP _ _ ⟨_, rfl, Or.inl ⟨⟨by omega, by omega⟩, by unfold huHv huHw; rw [if_neg (by omega), if_neg (by omega), if_neg (by omega), if_neg (by omega), if_neg (by omega), if_neg (by omega), if_neg (by omega), if_pos q28, if_neg q29]⟩⟩)
                      ·
                        refine hpa_iconst (by rfl) rfl ?_
                        refine hpa_goto (by rfl) ?_
                        refine hpa_aload_n (by rfl) rfl ?_
                        refine hpa_get (v := .ref 397) (by rfl) (by rfl) (by rfl) rfl ?_
                        refine hpa_bipush (by rfl) rfl ?_
                        refine hpx_iald (by rfl) (by rfl) (fun h0v37 h1v37 v37 ev37 => ?_)
                        rw [show ((Int32.ofNat 70)).toNatClampNeg = 70 from by have := hn_cn (j := (Int32.ofNat 70)) (by omega); omega] at ev37
                        have lv37 := ev37.symm.trans (show _ = ro 70 from (RW_A7 70 (by omega)).trans (hg5 70 (by omega)))
                        clear ev37
                        subst lv37
                        have hKA7 : hrK sd D A7 := hK.uf UA7 (by decide +kernel)
                        have hHnA7 : A7.2.1 376 sd = Int32.ofNat n := (UA7.2.1 376 _ _ sd rfl (by have := hK.2.1; omega) (by decide +kernel)).trans hHn
                        refine hpa_call0 (by rfl) (by rfl) (by rfl) (by rfl) (by rfl) (by rfl) (uf_C (X := ug_x207) (j := 207) rfl rfl (ug_L.cons (uf_rk_ok (by decide +kernel)) (uf_int (uf_int (uf_int uf_nil)))) HA7 (hP178 (H := Int32.ofNat n) a1 (Int32.ofNat 0) (ro 70) hKA7 hHnA7 (fun k hk => (RW_A7 k hk).trans (hg5 k hk)) (by omega) (by omega) HA7)) ?_
                        rintro _ A38 ⟨⟨z39, rfl, Z_A38⟩, wA38, HA38⟩
                        have UA38 := (UA7).trans (wA38.le (by decide +kernel : ug_wle ug_x207.2.2.2.1 uM188 = true))
                        subst Z_A38
                        exact hpa_ireturn (by rfl) rfl (hP _ _ ⟨_, rfl, Or.inl ⟨⟨by omega, by omega⟩, by unfold huHv huHw; rw [if_neg (by omega), if_neg (by omega), if_neg (by omega), if_neg (by omega), if_neg (by omega), if_neg (by omega), if_neg (by omega), if_pos q28, if_pos q29]⟩⟩)
                    ·
                      by_cases q40 : a2.toInt = 8
                      ·
                        refine hpa_tabIn (by rfl) (by omega) (by omega) (by rw [q40]; rfl) (tgt := 176) (by rfl) ?_
                        refine hpa_aload_n (by rfl) rfl ?_
                        refine hpa_iload_n (by rfl) rfl ?_
                        refine hpa_aload_n (by rfl) rfl ?_
                        refine hpa_get (v := .ref 397) (by rfl) (by rfl) (by rfl) rfl ?_
                        refine hpa_bipush (by rfl) rfl ?_
                        refine hpx_iald (by rfl) (by rfl) (fun h0v41 h1v41 v41 ev41 => ?_)
                        rw [show ((Int32.ofNat 70)).toNatClampNeg = 70 from by have := hn_cn (j := (Int32.ofNat 70)) (by omega); omega] at ev41
                        have lv41 := ev41.symm.trans (show _ = ro 70 from (RW_A7 70 (by omega)).trans (hg5 70 (by omega)))
                        clear ev41
                        subst lv41
                        have hKA7 : hrK sd D A7 := hK.uf UA7 (by decide +kernel)
                        have hHnA7 : A7.2.1 376 sd = Int32.ofNat n := (UA7.2.1 376 _ _ sd rfl (by have := hK.2.1; omega) (by decide +kernel)).trans hHn
                        refine hpa_call0 (by rfl) (by rfl) (by rfl) (by rfl) (by rfl) (by rfl) (uf_C (X := ug_x205) (j := 205) rfl rfl (ug_L.cons (uf_rk_ok (by decide +kernel)) (uf_int (uf_int uf_nil))) HA7 (hP179 (H := Int32.ofNat n) a1 (ro 70) hKA7 hHnA7 (fun k hk => (RW_A7 k hk).trans (hg5 k hk)) (by omega) (by omega) HA7)) ?_
                        rintro _ A42 ⟨⟨z43, rfl, Z_A42⟩, wA42, HA42⟩
                        have UA42 := (UA7).trans (wA42.le (by decide +kernel : ug_wle ug_x205.2.2.2.1 uM188 = true))
                        subst Z_A42
                        exact hpa_ireturn (by rfl) rfl (hP _ _ ⟨_, rfl, Or.inl ⟨⟨by omega, by omega⟩, by unfold huHv huHw; rw [if_neg (by omega), if_neg (by omega), if_neg (by omega), if_neg (by omega), if_neg (by omega), if_neg (by omega), if_neg (by omega), if_neg (by omega), if_pos q40]⟩⟩)
                      ·
                        refine hpa_tabOut (by rfl) (by omega) (tgt := 189) (by rfl) ?_
                        refine hpa_aload_n (by rfl) rfl ?_
                        refine hpa_iload_n (by rfl) rfl ?_
                        have hKA7 : hrK sd D A7 := hK.uf UA7 (by decide +kernel)
                        have hHnA7 : A7.2.1 376 sd = Int32.ofNat n := (UA7.2.1 376 _ _ sd rfl (by have := hK.2.1; omega) (by decide +kernel)).trans hHn
                        refine hpa_call0 (by rfl) (by rfl) (by rfl) (by rfl) (by rfl) (by rfl) (uf_C (X := ug_x206) (j := 206) rfl rfl (ug_L.cons (uf_rk_ok (by decide +kernel)) (uf_int uf_nil)) HA7 (hP180 (H := Int32.ofNat n) a1 hKA7 hHnA7 (fun k hk => (RW_A7 k hk).trans (hg5 k hk)) (by omega) (by omega) HA7)) ?_
                        rintro _ A44 ⟨⟨z45, rfl, Z_A44⟩, wA44, HA44⟩
                        have UA44 := (UA7).trans (wA44.le (by decide +kernel : ug_wle ug_x206.2.2.2.1 uM188 = true))
                        subst Z_A44
                        exact hpa_ireturn (by rfl) rfl (hP _ _ ⟨_, rfl, Or.inl ⟨⟨by omega, by omega⟩, by unfold huHv huHw; rw [if_neg (by omega), if_neg (by omega), if_neg (by omega), if_neg (by omega), if_neg (by omega), if_neg (by omega), if_neg (by omega), if_neg (by omega), if_neg (by omega), if_pos (by omega)]⟩⟩)
    ·
      refine hpj_zne (by rfl) rfl (fun q46 => False.elim (by omega)) (fun q46 => ?_)
      refine hpa_iconst (by rfl) rfl ?_
      exact hpa_ireturn (by rfl) rfl (hP _ _ ⟨_, rfl, Or.inl ⟨⟨by omega, by omega⟩, by unfold huHv huHw; rw [if_neg (by omega), if_neg (by omega), if_neg (by omega), if_neg (by omega), if_neg (by omega), if_neg (by omega), if_neg (by omega), if_neg (by omega), if_neg (by omega), if_neg (by omega)]⟩⟩)
  ·
    refine hpj_zeq (by rfl) rfl (fun q47 => ?_) (fun q47 => False.elim (by omega))
    refine hpa_iconst (by rfl) rfl ?_
    exact hpa_ireturn (by rfl) rfl (hP _ _ ⟨_, rfl, Or.inr ⟨fun p => by omega, rfl⟩⟩)
theorem hP188 {g d : Nat} {A : hs_A} {sd n : Nat} {D : hg_D} {ro : Nat → Int32} (a1 a2 : Int32) (hK : hrK sd D A) (hHn : A.2.1 376 sd = Int32.ofNat n) (h10 : n ≤ 10) (hg5 : ∀ k, k < 73 → A.2.1 395 k = ro k) (hH0 : uf_H A) : hpC g d 188 hm_m188 [.ref 368, .int a1, .int a2] A (fun r A' => ∃ z : Int32, r = some (.int z) ∧ huIf (0 ≤ a1.toInt ∧ a1.toInt < (n : Int)) (huHv D n ro a1 a2) z) := hpC.all (fun f d => hW188 a1 a2 hK hHn h10 hg5 hH0 (fun r A' h => h))
theorem hW116 {g d f : Nat} {A : hs_A} {T n : Nat} {ro : Nat → Int32} (a1 : Int32) (hT : hTT T) (h3 : A.2.2.2 0 3 = T + 1) (hTn : (A.1 T 4).toInt = (n : Int)) (hL : hdL 26 ro n A) (hO : huO ro n) {P : Option Value → hs_A → Prop} (hP : ∀ (r : Option Value) (A' : hs_A), (A = A' ∧ ∃ z : Int32, r = some (.int z) ∧ huIf (0 ≤ a1.toInt ∧ a1.toInt ≤ 1) (huCr ro n a1) z) → P r A') : hpa (f, g) d (some (.int)) hm_t116 0 [.ref 1, .int a1, .retAddr 0, .retAddr 0, .retAddr 0, .retAddr 0, .retAddr 0] [] A P := by
  have k0 := hk_0
  have k1 := hk_1
  have k10 := hk_10
  have k4294967294 := hk_4294967294
  have k4294967295 := hk_4294967295
  have hn10 := hL.1
  have cn := hn_c (n := n) (z := Int32.ofNat n) rfl (by omega)
  have LL : ∀ f : Nat, (∀ (x19_5 : Value) (x19_6 : Value) (x19_4 : Int32) (x19_2 : Int32) (x19_3 : Int32) (i : Nat) (bi : i ≤ 10) (ei : x19_4 = Int32.ofNat i) (x19e2 : x19_2 = (huCb ro n i).1) (x19e3 : x19_3 = (huCb ro n i).2) (ii : i ≤ n) (hb1 : 0 ≤ a1.toInt ∧ a1.toInt ≤ 1), hpa (f, g) d (some (.int)) hm_t116 19 [.ref 1, .int a1, .int x19_2, .int x19_3, .int x19_4, x19_5, x19_6] [] A P) ∧ (∀ (x34_6 : Value) (x34_4 : Int32) (x34_5 : Int32) (x34_2 : Int32) (x34_3 : Int32) (i : Nat) (j : Nat) (bi : i ≤ 10) (bj : j ≤ 10) (ei : x34_4 = Int32.ofNat i) (ej : x34_5 = Int32.ofNat j) (x34e2 : x34_2 = (huCi ro i j (huCb ro n i)).1) (x34e3 : x34_3 = (huCi ro i j (huCb ro n i)).2) (ii : i < n) (jj : j ≤ n) (hb1 : 0 ≤ a1.toInt ∧ a1.toInt ≤ 1), hpa (f, g) d (some (.int)) hm_t116 34 [.ref 1, .int a1, .int x34_2, .int x34_3, .int x34_4, .int x34_5, x34_6] [] A P) := by
    intro f
    induction f with
    | zero => exact ⟨(by intros; exact hpa.zero), (by intros; exact hpa.zero)⟩
    | succ f ih =>
      obtain ⟨ih19, ih34⟩ := ih
      refine ⟨?_, ?_⟩
      ·
        intro x19_5 x19_6 x19_4 x19_2 x19_3 i bi ei x19e2 x19e3 ii hb1
        subst ei
        have ci := hn_c (n := i) (z := Int32.ofNat i) rfl (by omega)
        subst x19e2
        subst x19e3
        refine hpa_iloadS (by rfl) rfl ?_
        refine hpa_aload_n (by rfl) rfl ?_
        refine hpj_getT (by rfl) (by rfl) (by rfl) h3 ?_
        refine hpj_getK (by rfl) (hsT hT) (by rfl) rfl ?_
        rw [show (A.1 T 4) = Int32.ofNat n from huI hTn (by omega)]
        refine hpj_cge (by rfl) ci cn (fun q1 => ?_) (fun q1 => ?_)
        ·
          refine hpa_iload_n (by rfl) rfl ?_
          refine hpj_zeq (by rfl) rfl (fun q2 => ?_) (fun q2 => ?_)
          ·
            refine hpa_iload_n (by rfl) rfl ?_
            refine hpa_goto (by rfl) ?_
            obtain rfl : i = n := by omega
            exact hpa_ireturn (by rfl) rfl (hP _ _ ⟨rfl, _, rfl, Or.inl ⟨⟨by omega, by omega⟩, by unfold huCr; rw [if_pos (by omega)]⟩⟩)
          ·
            refine hpa_iload_n (by rfl) rfl ?_
            refine hpa_bipush (by rfl) rfl ?_
            refine hpj_cne (by rfl) rfl hk_4294967294 (fun q3 => ?_) (fun q3 => ?_)
            ·
              refine hpa_iload_n (by rfl) rfl ?_
              obtain rfl : i = n := by omega
              exact hpa_ireturn (by rfl) rfl (hP _ _ ⟨rfl, _, rfl, Or.inl ⟨⟨by omega, by omega⟩, by unfold huCr; rw [if_neg (by omega)]⟩⟩)
            ·
              refine hpa_iload_n (by rfl) rfl ?_
              refine hpa_goto (by rfl) ?_
              obtain rfl : i = n := by omega
              exact hpa_ireturn (by rfl) rfl (hP _ _ ⟨rfl, _, rfl, Or.inl ⟨⟨by omega, by omega⟩, by unfold huCr; rw [if_pos (by omega)]⟩⟩)
        ·
          refine hpa_iconst (by rfl) rfl ?_
          refine hpa_s1 (by rfl) (Or.inr ⟨_, rfl, rfl⟩) rfl ?_
          exact ih34 (x19_6) (Int32.ofNat i) (Int32.ofNat 0) ((huCb ro n i).1) ((huCb ro n i).2) i 0 (by omega) (by omega) rfl rfl rfl rfl (by omega) (by omega) (by omega)
      ·
        intro x34_6 x34_4 x34_5 x34_2 x34_3 i j bi bj ei ej x34e2 x34e3 ii jj hb1
        subst ei
        have ci := hn_c (n := i) (z := Int32.ofNat i) rfl (by omega)
        subst ej
        have cj := hn_c (n := j) (z := Int32.ofNat j) rfl (by omega)
        subst x34e2
        subst x34e3
        refine hpa_iloadS (by rfl) rfl ?_
        refine hpa_aload_n (by rfl) rfl ?_
        refine hpj_getT (by rfl) (by rfl) (by rfl) h3 ?_
        refine hpj_getK (by rfl) (hsT hT) (by rfl) rfl ?_
        rw [show (A.1 T 4) = Int32.ofNat n from huI hTn (by omega)]
        refine hpj_cge (by rfl) cj cn (fun q4 => ?_) (fun q4 => ?_)
        ·
          refine hpj_iinc (by rfl) rfl ci hk_1 (by omega) (by omega) (fun _ => rfl) (fun z5 ez5 => ?_)
          refine hpa_goto (by rfl) ?_
          exact ih19 (.int (Int32.ofNat j)) (x34_6) z5 ((huCi ro i j (huCb ro n i)).1) ((huCi ro i j (huCb ro n i)).2) (i + 1) (by omega) (huI (by omega) (by omega)) (by rw [show j = n by omega]; rfl) (by rw [show j = n by omega]; rfl) (by omega) (by omega)
        ·
          refine hpa_aload_n (by rfl) rfl ?_
          refine hpa_get (v := .ref 27) (by rfl) (by rfl) (by rfl) rfl ?_
          refine hpa_get (v := .ref 32) (by rfl) (by rfl) (by rfl) rfl ?_
          refine hpa_iload (by rfl) rfl ?_
          refine hpx_iald (by rfl) (by rfl) (fun h0v6 h1v6 v6 ev6 => ?_)
          rw [show ((Int32.ofNat i)).toNatClampNeg = i from by have := hn_cn (j := (Int32.ofNat i)) (by omega); omega] at ev6
          have lv6 := ev6.symm.trans ((hL.2.2.2.2 (i) (by omega)).2.2.1)
          clear ev6
          subst lv6
          refine hpa_aload_n (by rfl) rfl ?_
          refine hpa_get (v := .ref 27) (by rfl) (by rfl) (by rfl) rfl ?_
          refine hpa_iload (by rfl) rfl ?_
          refine hpa_call0 (by rfl) (by rfl) (by rfl) (by rfl) (by rfl) (by rfl) (hP21_26 (h := j) (Int32.ofNat j) hL (by omega) rfl) ?_
          rintro _ _ ⟨rfl, z8, rfl, Z_A7⟩
          subst Z_A7
          refine hpa_iand (by rfl) ?_
          have oi := (hO.1 i (by omega)).2.2.1
          have na := hn_and (x := ro j &&& (ro (40 + j) ^^^ Int32.ofNat 4294967295)) (y := ro (30 + i)) oi.1
          rw [show (ro j &&& (ro (40 + j) ^^^ Int32.ofNat 4294967295)) &&& ro (30 + i) = ro (30 + i) &&& (ro j &&& (ro (40 + j) ^^^ Int32.ofNat 4294967295)) from Int32.and_comm _ _] at na
          refine hpa_call2 (by rfl) (by decide) (by rfl) (by rfl) (by rfl) (hP242 ((ro (30 + i)) &&& (ro j &&& (ro (40 + j) ^^^ Int32.ofNat 4294967295))) (by omega) (by omega)) ?_
          rintro _ _ ⟨rfl, z10, rfl, Z_A9⟩
          subst Z_A9
          rw [show (huB 10 ((ro (30 + i)) &&& (ro j &&& (ro (40 + j) ^^^ Int32.ofNat 4294967295)))) = huCv ro i j from rfl]
          refine hpa_s1 (by rfl) (Or.inr ⟨_, rfl, rfl⟩) rfl ?_
          refine hpa_iload (by rfl) rfl ?_
          refine hpa_iload (by rfl) rfl ?_
          refine hpj_ceq (by rfl) ci cj (fun q11 => ?_) (fun q11 => ?_)
          ·
            refine hpj_iinc (by rfl) rfl cj hk_1 (by omega) (by omega) (fun _ => rfl) (fun z12 ez12 => ?_)
            refine hpa_goto (by rfl) ?_
            exact ih34 (.int (huCv ro i j)) (Int32.ofNat i) z12 ((huCi ro i j (huCb ro n i)).1) ((huCi ro i j (huCb ro n i)).2) i (j + 1) (by omega) (by omega) rfl (huI (by omega) (by omega)) (by rw [huCi_n (by omega)]) (by rw [huCi_n (by omega)]) (by omega) (by omega) (by omega)
          ·
            refine hpa_iload (by rfl) rfl ?_
            refine hpa_iload_n (by rfl) rfl ?_
            refine hpj_cle (by rfl) rfl rfl (fun q13 => ?_) (fun q13 => ?_)
            ·
              refine hpj_iinc (by rfl) rfl cj hk_1 (by omega) (by omega) (fun _ => rfl) (fun z14 ez14 => ?_)
              refine hpa_goto (by rfl) ?_
              exact ih34 (.int (huCv ro i j)) (Int32.ofNat i) z14 ((huCi ro i j (huCb ro n i)).1) ((huCi ro i j (huCb ro n i)).2) i (j + 1) (by omega) (by omega) rfl (huI (by omega) (by omega)) (by rw [huCi_n (by omega)]) (by rw [huCi_n (by omega)]) (by omega) (by omega) (by omega)
            ·
              refine hpa_iload (by rfl) rfl ?_
              refine hpa_s1 (by rfl) (Or.inl ⟨_, rfl, rfl⟩) rfl ?_
              refine hpa_bipush (by rfl) rfl ?_
              refine hpa_iload (by rfl) rfl ?_
              refine hpj_imul (by rfl) hk_10 ci (by omega) (by omega) (fun z15 ez15 => ?_)
              refine hpa_iload (by rfl) rfl ?_
              refine hpj_iadd (by rfl) rfl cj (by omega) (by omega) (fun z16 ez16 => ?_)
              refine hpa_s1 (by rfl) (Or.inl ⟨_, rfl, rfl⟩) rfl ?_
              refine hpj_iinc (by rfl) rfl cj hk_1 (by omega) (by omega) (fun _ => rfl) (fun z17 ez17 => ?_)
              refine hpa_goto (by rfl) ?_
              exact ih34 (.int (huCv ro i j)) (Int32.ofNat i) z17 (huCv ro i j) z16 i (j + 1) (by omega) (by omega) rfl (huI (by omega) (by omega)) (by rw [huCi_y ⟨by omega, by omega⟩]) (by rw [huCi_y ⟨by omega, by omega⟩]; show _ = Int32.ofNat (10 * i + j); exact huI (by omega) (by omega)) (by omega) (by omega) (by omega)
  have L19 := fun f => (LL f).1
  have L34 := fun f => (LL f).2
  refine hpa_iload_n (by rfl) rfl ?_
  refine hpa_iconst (by rfl) rfl ?_
  refine hpa_iconst (by rfl) rfl ?_
  refine hpa_call2 (by rfl) (by decide) (by rfl) (by rfl) (by rfl) (hP78 a1 (Int32.ofNat 0) (Int32.ofNat 1)) ?_
  rintro _ _ ⟨rfl, z19, rfl, (⟨fz_A18, lo_A18, hi_A18⟩ | ⟨fz_A18, no_A18⟩)⟩
  ·
    refine hpj_zne (by rfl) rfl (fun q20 => ?_) (fun q20 => False.elim (by omega))
    refine hpa_iconst (by rfl) rfl ?_
    refine hpa_s1 (by rfl) (Or.inl ⟨_, rfl, rfl⟩) rfl ?_
    refine hpa_bipush (by rfl) rfl ?_
    refine hpa_s1 (by rfl) (Or.inl ⟨_, rfl, rfl⟩) rfl ?_
    refine hpa_iconst (by rfl) rfl ?_
    refine hpa_s1 (by rfl) (Or.inr ⟨_, rfl, rfl⟩) rfl ?_
    exact L19 _ (.retAddr 0) (.retAddr 0) (Int32.ofNat 0) (Int32.ofNat 0) (Int32.ofNat 4294967294) 0 (by omega) rfl rfl rfl (by omega) (by omega)
  ·
    refine hpj_zne (by rfl) rfl (fun q21 => False.elim (by omega)) (fun q21 => ?_)
    refine hpa_iconst (by rfl) rfl ?_
    exact hpa_ireturn (by rfl) rfl (hP _ _ ⟨rfl, _, rfl, Or.inr ⟨fun p => by omega, rfl⟩⟩)
theorem hP116 {g d : Nat} {A : hs_A} {T n : Nat} {ro : Nat → Int32} (a1 : Int32) (hT : hTT T) (h3 : A.2.2.2 0 3 = T + 1) (hTn : (A.1 T 4).toInt = (n : Int)) (hL : hdL 26 ro n A) (hO : huO ro n) : hpC g d 116 hm_m116 [.ref 1, .int a1] A (fun r A' => A = A' ∧ ∃ z : Int32, r = some (.int z) ∧ huIf (0 ≤ a1.toInt ∧ a1.toInt ≤ 1) (huCr ro n a1) z) := hpC.all (fun f d => hW116 a1 hT h3 hTn hL hO (fun r A' h => h))
theorem hW227 {g d f : Nat} {A : hs_A} {sd n : Nat} {D : hg_D} {ro : Nat → Int32} (a1 : Int32) (hK : hrK sd D A) (hHn : A.2.1 376 sd = Int32.ofNat n) (h10 : n ≤ 10) (hg5 : ∀ k, k < 73 → A.2.1 395 k = ro k) (hO : huO ro n) {P : Option Value → hs_A → Prop} (hP : ∀ (r : Option Value) (A' : hs_A), (A = A' ∧ ∃ z : Int32, r = some (.int z) ∧ huIf (0 ≤ a1.toInt ∧ a1.toInt ≤ 1) (huCr ro n a1) z) → P r A') : hpa (f, g) d (some (.int)) hm_t227 0 [.ref 368, .int a1, .retAddr 0, .retAddr 0, .retAddr 0, .retAddr 0, .retAddr 0] [] A P := by
  have k0 := hk_0
  have k1 := hk_1
  have k10 := hk_10
  have k30 := hk_30
  have k40 := hk_40
  have k4294967294 := hk_4294967294
  have k4294967295 := hk_4294967295
  have k18 := hK.1
  have ksd := hK.2.1
  have cn := hn_c (n := n) (z := Int32.ofNat n) rfl (by omega)
  have LL : ∀ f : Nat, (∀ (x19_5 : Value) (x19_6 : Value) (x19_4 : Int32) (x19_3 : Int32) (x19_2 : Int32) (i : Nat) (bi : i ≤ 10) (ei : x19_4 = Int32.ofNat i) (x19e3 : x19_3 = (huCb ro n i).1) (x19e2 : x19_2 = (huCb ro n i).2) (ii : i ≤ n) (hb1 : 0 ≤ a1.toInt ∧ a1.toInt ≤ 1), hpa (f, g) d (some (.int)) hm_t227 19 [.ref 368, .int a1, .int x19_2, .int x19_3, .int x19_4, x19_5, x19_6] [] A P) ∧ (∀ (x36_6 : Value) (x36_4 : Int32) (x36_5 : Int32) (x36_3 : Int32) (x36_2 : Int32) (i : Nat) (j : Nat) (bi : i ≤ 10) (bj : j ≤ 10) (ei : x36_4 = Int32.ofNat i) (ej : x36_5 = Int32.ofNat j) (x36e3 : x36_3 = (huCi ro i j (huCb ro n i)).1) (x36e2 : x36_2 = (huCi ro i j (huCb ro n i)).2) (ii : i < n) (jj : j ≤ n) (hb1 : 0 ≤ a1.toInt ∧ a1.toInt ≤ 1), hpa (f, g) d (some (.int)) hm_t227 36 [.ref 368, .int a1, .int x36_2, .int x36_3, .int x36_4, .int x36_5, x36_6] [] A P) := by
    intro f
    induction f with
    | zero => exact ⟨(by intros; exact hpa.zero), (by intros; exact hpa.zero)⟩
    | succ f ih =>
      obtain ⟨ih19, ih36⟩ := ih
      refine ⟨?_, ?_⟩
      ·
        intro x19_5 x19_6 x19_4 x19_3 x19_2 i bi ei x19e3 x19e2 ii hb1
        subst ei
        have ci := hn_c (n := i) (z := Int32.ofNat i) rfl (by omega)
        subst x19e3
        subst x19e2
        refine hpa_iloadS (by rfl) rfl ?_
        refine hpa_aload_n (by rfl) rfl ?_
        refine hpa_get (v := .ref 377) (by rfl) (by rfl) (by rfl) rfl ?_
        refine hpa_aload_n (by rfl) rfl ?_
        refine hpj_getK (by rfl) (by rfl) (by rfl) rfl ?_
        refine hpx_iald (by rfl) (by rfl) (fun h0v1 h1v1 v1 ev1 => ?_)
        rw [show ((A.1 367 18)).toNatClampNeg = sd from by have := hn_cn (j := (A.1 367 18)) (by omega); omega, hHn] at ev1
        subst ev1
        refine hpj_cge (by rfl) ci cn (fun q2 => ?_) (fun q2 => ?_)
        ·
          have hp := huCb_p (ro := ro) h10 i (by omega)
          unfold huCp at hp
          refine hpa_iload_n (by rfl) rfl ?_
          refine hpj_zlt (by rfl) rfl (fun q3 => ?_) (fun q3 => ?_)
          ·
            refine hpa_iload_n (by rfl) rfl ?_
            refine hpa_goto (by rfl) ?_
            obtain rfl : i = n := by omega
            exact hpa_ireturn (by rfl) rfl (hP _ _ ⟨rfl, _, rfl, Or.inl ⟨⟨by omega, by omega⟩, by unfold huCr; rw [if_pos (by omega)]⟩⟩)
          ·
            refine hpa_iload_n (by rfl) rfl ?_
            refine hpj_zne (by rfl) rfl (fun q4 => ?_) (fun q4 => ?_)
            ·
              refine hpa_iload_n (by rfl) rfl ?_
              obtain rfl : i = n := by omega
              exact hpa_ireturn (by rfl) rfl (hP _ _ ⟨rfl, _, rfl, Or.inl ⟨⟨by omega, by omega⟩, by unfold huCr; rw [if_neg (by omega)]⟩⟩)
            ·
              refine hpa_iload_n (by rfl) rfl ?_
              refine hpa_goto (by rfl) ?_
              obtain rfl : i = n := by omega
              exact hpa_ireturn (by rfl) rfl (hP _ _ ⟨rfl, _, rfl, Or.inl ⟨⟨by omega, by omega⟩, by unfold huCr; rw [if_pos (by omega)]⟩⟩)
        ·
          refine hpa_iconst (by rfl) rfl ?_
          refine hpa_s1 (by rfl) (Or.inr ⟨_, rfl, rfl⟩) rfl ?_
          exact ih36 (x19_6) (Int32.ofNat i) (Int32.ofNat 0) ((huCb ro n i).1) ((huCb ro n i).2) i 0 (by omega) (by omega) rfl rfl rfl rfl (by omega) (by omega) (by omega)
      ·
        intro x36_6 x36_4 x36_5 x36_3 x36_2 i j bi bj ei ej x36e3 x36e2 ii jj hb1
        subst ei
        have ci := hn_c (n := i) (z := Int32.ofNat i) rfl (by omega)
        subst ej
        have cj := hn_c (n := j) (z := Int32.ofNat j) rfl (by omega)
        subst x36e3
        subst x36e2
        refine hpa_iloadS (by rfl) rfl ?_
        refine hpa_aload_n (by rfl) rfl ?_
        refine hpa_get (v := .ref 377) (by rfl) (by rfl) (by rfl) rfl ?_
        refine hpa_aload_n (by rfl) rfl ?_
        refine hpj_getK (by rfl) (by rfl) (by rfl) rfl ?_
        refine hpx_iald (by rfl) (by rfl) (fun h0v5 h1v5 v5 ev5 => ?_)
        rw [show ((A.1 367 18)).toNatClampNeg = sd from by have := hn_cn (j := (A.1 367 18)) (by omega); omega, hHn] at ev5
        subst ev5
        refine hpj_cge (by rfl) cj cn (fun q6 => ?_) (fun q6 => ?_)
        ·
          refine hpj_iinc (by rfl) rfl ci hk_1 (by omega) (by omega) (fun _ => rfl) (fun z7 ez7 => ?_)
          refine hpa_goto (by rfl) ?_
          exact ih19 (.int (Int32.ofNat j)) (x36_6) z7 ((huCi ro i j (huCb ro n i)).1) ((huCi ro i j (huCb ro n i)).2) (i + 1) (by omega) (huI (by omega) (by omega)) (by rw [show j = n by omega]; rfl) (by rw [show j = n by omega]; rfl) (by omega) (by omega)
        ·
          refine hpa_aload_n (by rfl) rfl ?_
          refine hpa_get (v := .ref 396) (by rfl) (by rfl) (by rfl) rfl ?_
          refine hpa_bipush (by rfl) rfl ?_
          refine hpa_iload (by rfl) rfl ?_
          refine hpj_iadd (by rfl) hk_30 ci (by omega) (by omega) (fun z8 ez8 => ?_)
          refine hpx_iald (by rfl) (by rfl) (fun h0v9 h1v9 v9 ev9 => ?_)
          rw [show (z8).toNatClampNeg = 30 + i from by have := hn_cn (j := z8) (by omega); omega] at ev9
          have lv9 := ev9.symm.trans (show _ = ro (30 + i) from hg5 (30 + i) (by omega))
          clear ev9
          subst lv9
          refine hpa_aload_n (by rfl) rfl ?_
          refine hpa_get (v := .ref 396) (by rfl) (by rfl) (by rfl) rfl ?_
          refine hpa_iload (by rfl) rfl ?_
          refine hpx_iald (by rfl) (by rfl) (fun h0v10 h1v10 v10 ev10 => ?_)
          rw [show ((Int32.ofNat j)).toNatClampNeg = j from by have := hn_cn (j := (Int32.ofNat j)) (by omega); omega] at ev10
          have lv10 := ev10.symm.trans (show _ = ro (j) from hg5 (j) (by omega))
          clear ev10
          subst lv10
          refine hpa_iand (by rfl) ?_
          refine hpa_aload_n (by rfl) rfl ?_
          refine hpa_get (v := .ref 396) (by rfl) (by rfl) (by rfl) rfl ?_
          refine hpa_bipush (by rfl) rfl ?_
          refine hpa_iload (by rfl) rfl ?_
          refine hpj_iadd (by rfl) hk_40 cj (by omega) (by omega) (fun z11 ez11 => ?_)
          refine hpx_iald (by rfl) (by rfl) (fun h0v12 h1v12 v12 ev12 => ?_)
          rw [show (z11).toNatClampNeg = 40 + j from by have := hn_cn (j := z11) (by omega); omega] at ev12
          have lv12 := ev12.symm.trans (show _ = ro (40 + j) from hg5 (40 + j) (by omega))
          clear ev12
          subst lv12
          refine hpa_iconst (by rfl) rfl ?_
          refine hpa_ixor (by rfl) ?_
          refine hpa_iand (by rfl) ?_
          refine hpa_call2 (by rfl) (by decide) (by rfl) (by rfl) (by rfl) (hP166 (((ro (30 + i)) &&& (ro (j))) &&& ((ro (40 + j)) ^^^ (Int32.ofNat 4294967295)))) ?_
          rintro _ _ ⟨rfl, z14, rfl, Z_A13⟩
          subst Z_A13
          rw [show (huB 10 (((ro (30 + i)) &&& (ro (j))) &&& ((ro (40 + j)) ^^^ (Int32.ofNat 4294967295)))) = huCv ro i j from by unfold huCv; rw [hs_and3]]
          refine hpa_s1 (by rfl) (Or.inr ⟨_, rfl, rfl⟩) rfl ?_
          refine hpa_iload (by rfl) rfl ?_
          refine hpa_iload (by rfl) rfl ?_
          refine hpj_ceq (by rfl) ci cj (fun q15 => ?_) (fun q15 => ?_)
          ·
            refine hpj_iinc (by rfl) rfl cj hk_1 (by omega) (by omega) (fun _ => rfl) (fun z16 ez16 => ?_)
            refine hpa_goto (by rfl) ?_
            exact ih36 (.int (huCv ro i j)) (Int32.ofNat i) z16 ((huCi ro i j (huCb ro n i)).1) ((huCi ro i j (huCb ro n i)).2) i (j + 1) (by omega) (by omega) rfl (huI (by omega) (by omega)) (by rw [huCi_n (by omega)]) (by rw [huCi_n (by omega)]) (by omega) (by omega) (by omega)
          ·
            refine hpa_iload (by rfl) rfl ?_
            refine hpa_iload_n (by rfl) rfl ?_
            refine hpj_cgt (by rfl) rfl rfl (fun q17 => ?_) (fun q17 => ?_)
            ·
              refine hpa_bipush (by rfl) rfl ?_
              refine hpa_iload (by rfl) rfl ?_
              refine hpj_imul (by rfl) hk_10 ci (by omega) (by omega) (fun z18 ez18 => ?_)
              refine hpa_iload (by rfl) rfl ?_
              refine hpj_iadd (by rfl) rfl cj (by omega) (by omega) (fun z19 ez19 => ?_)
              refine hpa_s1 (by rfl) (Or.inl ⟨_, rfl, rfl⟩) rfl ?_
              refine hpa_iload (by rfl) rfl ?_
              refine hpa_s1 (by rfl) (Or.inl ⟨_, rfl, rfl⟩) rfl ?_
              refine hpj_iinc (by rfl) rfl cj hk_1 (by omega) (by omega) (fun _ => rfl) (fun z20 ez20 => ?_)
              refine hpa_goto (by rfl) ?_
              exact ih36 (.int (huCv ro i j)) (Int32.ofNat i) z20 (huCv ro i j) z19 i (j + 1) (by omega) (by omega) rfl (huI (by omega) (by omega)) (by rw [huCi_y ⟨by omega, by omega⟩]) (by rw [huCi_y ⟨by omega, by omega⟩]; show _ = Int32.ofNat (10 * i + j); exact huI (by omega) (by omega)) (by omega) (by omega) (by omega)
            ·
              refine hpa_goto (by rfl) ?_
              refine hpj_iinc (by rfl) rfl cj hk_1 (by omega) (by omega) (fun _ => rfl) (fun z21 ez21 => ?_)
              refine hpa_goto (by rfl) ?_
              exact ih36 (.int (huCv ro i j)) (Int32.ofNat i) z21 ((huCi ro i j (huCb ro n i)).1) ((huCi ro i j (huCb ro n i)).2) i (j + 1) (by omega) (by omega) rfl (huI (by omega) (by omega)) (by rw [huCi_n (by omega)]) (by rw [huCi_n (by omega)]) (by omega) (by omega) (by omega)
  have L19 := fun f => (LL f).1
  have L36 := fun f => (LL f).2
  refine hpa_iload_n (by rfl) rfl ?_
  refine hpa_iconst (by rfl) rfl ?_
  refine hpa_iconst (by rfl) rfl ?_
  refine hpa_call2 (by rfl) (by decide) (by rfl) (by rfl) (by rfl) (hP164 a1 (Int32.ofNat 0) (Int32.ofNat 1)) ?_
  rintro _ _ ⟨rfl, z23, rfl, (⟨fz_A22, lo_A22, hi_A22⟩ | ⟨fz_A22, no_A22⟩)⟩
  ·
    refine hpj_zne (by rfl) rfl (fun q24 => ?_) (fun q24 => False.elim (by omega))
    refine hpa_bipush (by rfl) rfl ?_
    refine hpa_s1 (by rfl) (Or.inl ⟨_, rfl, rfl⟩) rfl ?_
    refine hpa_iconst (by rfl) rfl ?_
    refine hpa_s1 (by rfl) (Or.inl ⟨_, rfl, rfl⟩) rfl ?_
    refine hpa_iconst (by rfl) rfl ?_
    refine hpa_s1 (by rfl) (Or.inr ⟨_, rfl, rfl⟩) rfl ?_
    exact L19 _ (.retAddr 0) (.retAddr 0) (Int32.ofNat 0) (Int32.ofNat 0) (Int32.ofNat 4294967294) 0 (by omega) rfl rfl rfl (by omega) (by omega)
  ·
    refine hpj_zne (by rfl) rfl (fun q25 => False.elim (by omega)) (fun q25 => ?_)
    refine hpa_iconst (by rfl) rfl ?_
    exact hpa_ireturn (by rfl) rfl (hP _ _ ⟨rfl, _, rfl, Or.inr ⟨fun p => by omega, rfl⟩⟩)
theorem hP227 {g d : Nat} {A : hs_A} {sd n : Nat} {D : hg_D} {ro : Nat → Int32} (a1 : Int32) (hK : hrK sd D A) (hHn : A.2.1 376 sd = Int32.ofNat n) (h10 : n ≤ 10) (hg5 : ∀ k, k < 73 → A.2.1 395 k = ro k) (hO : huO ro n) : hpC g d 227 hm_m227 [.ref 368, .int a1] A (fun r A' => A = A' ∧ ∃ z : Int32, r = some (.int z) ∧ huIf (0 ≤ a1.toInt ∧ a1.toInt ≤ 1) (huCr ro n a1) z) := hpC.all (fun f d => hW227 a1 hK hHn h10 hg5 hO (fun r A' h => h))
theorem hpr_lives {N : Int} {A : hs_A} (hA : hJ 0 N (N + 72) A A) (hN : N ≤ 800000) (hI : hIC A) (a1 : Int32) : hxC 26 111 hm_m111 [.ref 1, .int a1] A (fun r A1 => ∃ z : Int32, r = some (.int z) ∧ hxC 26 221 hm_m221 [.ref 368, .int a1] A1 (fun r2 A2 => ∃ z2 : Int32, r2 = some (.int z2) ∧ z = z2 ∧ ∃ N' : Int, N' ≤ N + 144 ∧ hJ 0 N' (N' + 72) A2 A2 ∧ hIC A2)) := by
  have lH := hHn.le hA
  obtain ⟨hIB0, hX0⟩ := id hI
  obtain ⟨hN0, hP0, hS0, D, hC0⟩ := id hX0
  obtain ⟨n, hn⟩ : ∃ n : Nat, hHn A = (n : Int) := ⟨(hHn A).toNat, by omega⟩
  have h10 : n ≤ 10 := by omega
  have hN9 : hNw (n : Int) A := by rw [← hn]; exact hN0
  have hL : hdL 26 (A.2.1 395) n A := hN9.1.d h10
  obtain ⟨T, hT, h3, -⟩ := hA.T
  have hTn : (A.1 T 4).toInt = (n : Int) := (congrArg Int32.toInt (hIB0.2.1 T h3)).trans hn
  have hN2 : A.2.1 376 (A.1 367 18).toNatClampNeg = Int32.ofNat n := huI hn (by omega)
  refine hxC.post (hxC.and (g := 0) (hX111 (d := 25) hA a1) (fun g => hP111 a1 hT h3 hTn hL)) ?_
  rintro _ _ ⟨⟨rfl, z1, rfl⟩, A1v, v1, -, z1v, e1, f1⟩
  refine ⟨z1, rfl, ?_⟩
  refine hxC.post (hxC.and (g := 0) (hX221 (d := 25) hA a1) (fun g => hP221 a1 hC0.2.1 hN2 h10 (fun _ _ => rfl))) ?_
  rintro _ _ ⟨⟨rfl, z2, rfl⟩, A2v, v2, -, z2v, e2, f2⟩
  have q1 : z1 = z1v := by injection e1 with e; injection e
  have q2 : z2 = z2v := by injection e2 with e; injection e
  exact ⟨z2, rfl, by rw [q1, q2]; exact huLi_one f1 f2, N + 72, by omega, hJ.mono hA (by omega) (by omega), hI⟩
theorem hpr_needs {N : Int} {A : hs_A} (hA : hJ 0 N (N + 72) A A) (hN : N ≤ 800000) (hI : hIC A) (a1 : Int32) : hxC 26 117 hm_m117 [.ref 1, .int a1] A (fun r A1 => ∃ z : Int32, r = some (.int z) ∧ hxC 26 228 hm_m228 [.ref 368, .int a1] A1 (fun r2 A2 => ∃ z2 : Int32, r2 = some (.int z2) ∧ z = z2 ∧ ∃ N' : Int, N' ≤ N + 144 ∧ hJ 0 N' (N' + 72) A2 A2 ∧ hIC A2)) := by
  have lH := hHn.le hA
  obtain ⟨hIB0, hX0⟩ := id hI
  obtain ⟨hN0, hP0, hS0, D, hC0⟩ := id hX0
  obtain ⟨n, hn⟩ : ∃ n : Nat, hHn A = (n : Int) := ⟨(hHn A).toNat, by omega⟩
  have h10 : n ≤ 10 := by omega
  have hN9 : hNw (n : Int) A := by rw [← hn]; exact hN0
  have hL : hdL 26 (A.2.1 395) n A := hN9.1.d h10
  obtain ⟨T, hT, h3, -⟩ := hA.T
  have hTn : (A.1 T 4).toInt = (n : Int) := (congrArg Int32.toInt (hIB0.2.1 T h3)).trans hn
  have hN2 : A.2.1 376 (A.1 367 18).toNatClampNeg = Int32.ofNat n := huI hn (by omega)
  refine hxC.post (hxC.and (g := 0) (hX117 (d := 24) hA a1) (fun g => hP117 a1 hT h3 hTn hL)) ?_
  rintro _ _ ⟨⟨rfl, z1, rfl⟩, A1v, v1, -, z1v, e1, f1⟩
  refine ⟨z1, rfl, ?_⟩
  refine hxC.post (hxC.and (g := 0) (hX228 (d := 23) hA a1) (fun g => hP228 a1 hC0.2.1 hN2 h10 (fun _ _ => rfl))) ?_
  rintro _ _ ⟨⟨rfl, z2, rfl⟩, A2v, v2, -, z2v, e2, f2⟩
  have q1 : z1 = z1v := by injection e1 with e; injection e
  have q2 : z2 = z2v := by injection e2 with e; injection e
  exact ⟨z2, rfl, by rw [q1, q2]; exact huAt_one f1 f2, N + 72, by omega, hJ.mono hA (by omega) (by omega), hI⟩
theorem hpr_off {N : Int} {A : hs_A} (hA : hJ 0 N (N + 72) A A) (hN : N ≤ 800000) (hI : hIC A) (a1 : Int32) : hxC 26 120 hm_m120 [.ref 1, .int a1] A (fun r A1 => ∃ z : Int32, r = some (.int z) ∧ hxC 26 230 hm_m230 [.ref 368, .int a1] A1 (fun r2 A2 => ∃ z2 : Int32, r2 = some (.int z2) ∧ z = z2 ∧ ∃ N' : Int, N' ≤ N + 144 ∧ hJ 0 N' (N' + 72) A2 A2 ∧ hIC A2)) := by
  have lH := hHn.le hA
  obtain ⟨hIB0, hX0⟩ := id hI
  obtain ⟨hN0, hP0, hS0, D, hC0⟩ := id hX0
  obtain ⟨n, hn⟩ : ∃ n : Nat, hHn A = (n : Int) := ⟨(hHn A).toNat, by omega⟩
  have h10 : n ≤ 10 := by omega
  have hN9 : hNw (n : Int) A := by rw [← hn]; exact hN0
  have hL : hdL 26 (A.2.1 395) n A := hN9.1.d h10
  obtain ⟨T, hT, h3, -⟩ := hA.T
  have hTn : (A.1 T 4).toInt = (n : Int) := (congrArg Int32.toInt (hIB0.2.1 T h3)).trans hn
  have hN2 : A.2.1 376 (A.1 367 18).toNatClampNeg = Int32.ofNat n := huI hn (by omega)
  refine hxC.post (hxC.and (g := 0) (hX120 (d := 24) hA a1) (fun g => hP120 a1 hT h3 hTn hL)) ?_
  rintro _ _ ⟨⟨rfl, z1, rfl⟩, A1v, v1, -, z1v, e1, f1⟩
  refine ⟨z1, rfl, ?_⟩
  refine hxC.post (hxC.and (g := 0) (hX230 (d := 23) hA a1) (fun g => hP230 a1 hC0.2.1 hN2 h10 (fun _ _ => rfl) (fun k hk => hOnb_b01 hL.2.2.2.1 k hk))) ?_
  rintro _ _ ⟨⟨rfl, z2, rfl⟩, A2v, v2, -, z2v, e2, f2⟩
  have q1 : z1 = z1v := by injection e1 with e; injection e
  have q2 : z2 = z2v := by injection e2 with e; injection e
  exact ⟨z2, rfl, by rw [q1, q2]; exact huAt_one f1 f2, N + 72, by omega, hJ.mono hA (by omega) (by omega), hI⟩
theorem hpr_passed {N : Int} {A : hs_A} (hA : hJ 0 N (N + 72) A A) (hN : N ≤ 800000) (hI : hIC A) (a1 : Int32) (a2 : Int32) : hxC 26 81 hm_m81 [.ref 1, .int a1, .int a2] A (fun r A1 => ∃ z : Int32, r = some (.int z) ∧ hxC 26 189 hm_m189 [.ref 368, .int a1, .int a2] A1 (fun r2 A2 => ∃ z2 : Int32, r2 = some (.int z2) ∧ z = z2 ∧ ∃ N' : Int, N' ≤ N + 144 ∧ hJ 0 N' (N' + 72) A2 A2 ∧ hIC A2)) := by
  have bl := hbok.get (hA.1.1 0 1) rfl
  have lH := hHn.le hA
  obtain ⟨hIB0, hX0⟩ := hI
  obtain ⟨hN0, hP0, hS0, D, hC0⟩ := id hX0
  have uH := hIB0.1.1.2.1
  obtain ⟨n, hn⟩ : ∃ n : Nat, hHn A = (n : Int) := ⟨(hHn A).toNat, by omega⟩
  have h10 : n ≤ 10 := by omega
  have hN9 : hNw (n : Int) A := by rw [← hn]; exact hN0
  have hL : hdL 26 (A.2.1 395) n A := hN9.1.d h10
  have hO : huO (A.2.1 395) n := hN9.2
  obtain ⟨T, hT, h3, -⟩ := hA.T
  have hTn : (A.1 T 4).toInt = (n : Int) := (congrArg Int32.toInt (hIB0.2.1 T h3)).trans hn
  refine hxC.post (uf_k81 uH a1 a2 (hxC.and (g := 0) (hX81 (d := 22) hA a1 a2) (fun g => hP81 a1 a2 hT h3 hTn (hC0.1 T h3) hL hO uH))) ?_
  rintro _ A1 ⟨⟨⟨hA1, z1, rfl⟩, A1v, v1, z1v, e1, f1⟩, w1, H1⟩
  refine ⟨z1, rfl, ?_⟩
  have hC1 : hCo D A1 := hC0.uf uH w1 (by decide +kernel) (by decide +kernel) (by decide +kernel)
  have eH1 : hHn A1 = hHn A := hHn.uf w1 (uf_lv hA) (by decide +kernel) (by decide +kernel)
  have hN2 : A1.2.1 376 (A1.1 367 18).toNatClampNeg = Int32.ofNat n := huI (eH1.trans hn) (by omega)
  have e5 : ∀ k, k < 73 → A1.2.1 395 k = A.2.1 395 k := fun k hk => w1.2.1 395 _ _ k rfl hk (by decide +kernel)
  refine hxC.post (uf_k189 H1 a1 a2 (hxC.and (g := 0) (hX189 (d := 21) hA1 (by omega) a1 a2) (fun g => hP189 a1 a2 hC1.2.1 hN2 h10 e5 H1))) ?_
  rintro _ A2 ⟨⟨⟨hA2, z2, rfl⟩, A2v, v2, z2v, e2, f2⟩, w2, H2⟩
  have q1 : z1 = z1v := by injection e1 with e; injection e
  have q2 : z2 = z2v := by injection e2 with e; injection e
  exact ⟨z2, rfl, by rw [q1, q2]; exact huIf_one f1 f2, N + 72, by omega, hJ.mono (hJ.self hA2) (by omega) (by omega), hIB0.q ((w1.le (by decide +kernel : ug_wle uw81 uwB = true)).trans (w2.le (by decide +kernel : ug_wle uw189 uwB = true))) H2 bl.2 (uf_lv hA), hX0.two hA uH H1 w1 w2 (by decide +kernel) (by decide +kernel)⟩
theorem hpr_breakAt {N : Int} {A : hs_A} (hA : hJ 0 N (N + 72) A A) (hN : N ≤ 800000) (hI : hIC A) (a1 : Int32) : hxC 26 106 hm_m106 [.ref 1, .int a1] A (fun r A1 => ∃ z : Int32, r = some (.int z) ∧ hxC 26 218 hm_m218 [.ref 368, .int a1] A1 (fun r2 A2 => ∃ z2 : Int32, r2 = some (.int z2) ∧ z = z2 ∧ ∃ N' : Int, N' ≤ N + 144 ∧ hJ 0 N' (N' + 72) A2 A2 ∧ hIC A2)) := by
  have bl := hbok.get (hA.1.1 0 1) rfl
  have b1 := hbok.get (hA.1.1 40 1) rfl
  have b2 := hbok.get (hA.1.1 40 2) rfl
  have lH := hHn.le hA
  obtain ⟨hIB0, hX0⟩ := id hI
  obtain ⟨hN0, hP0, hS0, D, hC0⟩ := id hX0
  have uH := hIB0.1.1.2.1
  obtain ⟨n, hn⟩ : ∃ n : Nat, hHn A = (n : Int) := ⟨(hHn A).toNat, by omega⟩
  have h10 : n ≤ 10 := by omega
  have hN9 : hNw (n : Int) A := by rw [← hn]; exact hN0
  have hL : hdL 26 (A.2.1 395) n A := hN9.1.d h10
  have hO : huO (A.2.1 395) n := hN9.2
  obtain ⟨T, hT, h3, -⟩ := hA.T
  have hTn : (A.1 T 4).toInt = (n : Int) := (congrArg Int32.toInt (hIB0.2.1 T h3)).trans hn
  have hC := hC0.1 T h3
  have hD := hC0.2.2
  have h70 : (A.2.1 395 70).toInt ≤ 1000000 := by have q70 := hA.2.1.2.1; omega
  refine hxC.post (hxC.and (g := 0) (hX106 (d := 22) hA a1) (fun g => hP106 a1 hT h3 hTn hL)) ?_
  rintro _ _ ⟨⟨rfl, z1, rfl⟩, A1v, v1, -, z1v, e1, f1⟩
  refine ⟨z1, rfl, ?_⟩
  have hA1 := hA
  have H1 := uH
  have hK1 := hC0.2.1
  have hN2 : A.2.1 376 (A.1 367 18).toNatClampNeg = Int32.ofNat n := huI hn (by omega)
  have e5 : ∀ k, k < 73 → A.2.1 395 k = A.2.1 395 k := fun _ _ => rfl
  refine hxC.post (uf_k218 H1 a1 (hxC.and (g := 0) (hX218 (d := 23) hA1 (by omega) a1) (fun g => hP218 a1 hK1 hN2 h10 e5 H1))) ?_
  rintro _ A2 ⟨⟨⟨hA2, z2, rfl⟩, A2v, v2, z2v, e2, f2⟩, w2, H2⟩
  have q1 : z1 = z1v := by injection e1 with e; injection e
  have q2 : z2 = z2v := by injection e2 with e; injection e
  refine ⟨z2, rfl, by rw [q1, q2]; exact huAp_one (fun _ _ => huBr_one) f1 f2, N + 72, by omega, ?_⟩
  exact ⟨hJ.mono (hJ.self hA2) (by omega) (by omega), hIB0.q (w2.le (by decide +kernel : ug_wle uw218 uwB = true)) H2 bl.2 (uf_lv hA), (hX0.uf uH (uf_lv hA) lH.2 b1 b2.2 w2 (by decide +kernel)).1⟩
theorem hpr_house {N : Int} {A : hs_A} (hA : hJ 0 N (N + 72) A A) (hN : N ≤ 800000) (hI : hIC A) (a1 : Int32) (a2 : Int32) : hxC 26 79 hm_m79 [.ref 1, .int a1, .int a2] A (fun r A1 => ∃ z : Int32, r = some (.int z) ∧ hxC 26 188 hm_m188 [.ref 368, .int a1, .int a2] A1 (fun r2 A2 => ∃ z2 : Int32, r2 = some (.int z2) ∧ z = z2 ∧ ∃ N' : Int, N' ≤ N + 144 ∧ hJ 0 N' (N' + 72) A2 A2 ∧ hIC A2)) := by
  have bl := hbok.get (hA.1.1 0 1) rfl
  have b1 := hbok.get (hA.1.1 40 1) rfl
  have b2 := hbok.get (hA.1.1 40 2) rfl
  have lH := hHn.le hA
  obtain ⟨hIB0, hX0⟩ := id hI
  obtain ⟨hN0, hP0, hS0, D, hC0⟩ := id hX0
  have uH := hIB0.1.1.2.1
  obtain ⟨n, hn⟩ : ∃ n : Nat, hHn A = (n : Int) := ⟨(hHn A).toNat, by omega⟩
  have h10 : n ≤ 10 := by omega
  have hN9 : hNw (n : Int) A := by rw [← hn]; exact hN0
  have hL : hdL 26 (A.2.1 395) n A := hN9.1.d h10
  have hO : huO (A.2.1 395) n := hN9.2
  obtain ⟨T, hT, h3, -⟩ := hA.T
  have hTn : (A.1 T 4).toInt = (n : Int) := (congrArg Int32.toInt (hIB0.2.1 T h3)).trans hn
  have hC := hC0.1 T h3
  have hD := hC0.2.2
  have h70 : (A.2.1 395 70).toInt ≤ 1000000 := by have q70 := hA.2.1.2.1; omega
  refine hxC.post (uf_k79 uH a1 a2 (hxC.and (g := 0) (hX79 (d := 22) hA a1 a2) (fun g => hP79 a1 a2 hT h3 hTn hC hL hO uH))) ?_
  rintro _ A1 ⟨⟨⟨hA1, z1, rfl⟩, A1v, v1, z1v, e1, f1⟩, w1, H1⟩
  refine ⟨z1, rfl, ?_⟩
  have hC1 : hCo D A1 := hC0.uf uH w1 (by decide +kernel) (by decide +kernel) (by decide +kernel)
  have hK1 := hC1.2.1
  have eH1 : hHn A1 = hHn A := hHn.uf w1 (uf_lv hA) (by decide +kernel) (by decide +kernel)
  have hN2 : A1.2.1 376 (A1.1 367 18).toNatClampNeg = Int32.ofNat n := huI (eH1.trans hn) (by omega)
  have e5 : ∀ k, k < 73 → A1.2.1 395 k = A.2.1 395 k := fun k hk => w1.2.1 395 _ _ k rfl hk (by decide +kernel)
  refine hxC.post (uf_k188 H1 a1 a2 (hxC.and (g := 0) (hX188 (d := 22) hA1 (by omega) a1 a2) (fun g => hP188 a1 a2 hK1 hN2 h10 e5 H1))) ?_
  rintro _ A2 ⟨⟨⟨hA2, z2, rfl⟩, A2v, v2, z2v, e2, f2⟩, w2, H2⟩
  have q1 : z1 = z1v := by injection e1 with e; injection e
  have q2 : z2 = z2v := by injection e2 with e; injection e
  refine ⟨z2, rfl, by rw [q1, q2]; exact huIf_one f1 f2, N + 72, by omega, ?_⟩
  exact ⟨hJ.mono (hJ.self hA2) (by omega) (by omega), hIB0.q ((w1.le (by decide +kernel : ug_wle uw79 uwB = true)).trans (w2.le (by decide +kernel : ug_wle uw188 uwB = true))) H2 bl.2 (uf_lv hA), hX0.two hA uH H1 w1 w2 (by decide +kernel) (by decide +kernel)⟩
theorem hpr_carryBest {N : Int} {A : hs_A} (hA : hJ 0 N (N + 72) A A) (hN : N ≤ 800000) (hI : hIC A) (a1 : Int32) : hxC 26 116 hm_m116 [.ref 1, .int a1] A (fun r A1 => ∃ z : Int32, r = some (.int z) ∧ hxC 26 227 hm_m227 [.ref 368, .int a1] A1 (fun r2 A2 => ∃ z2 : Int32, r2 = some (.int z2) ∧ z = z2 ∧ ∃ N' : Int, N' ≤ N + 144 ∧ hJ 0 N' (N' + 72) A2 A2 ∧ hIC A2)) := by
  have bl := hbok.get (hA.1.1 0 1) rfl
  have b1 := hbok.get (hA.1.1 40 1) rfl
  have b2 := hbok.get (hA.1.1 40 2) rfl
  have lH := hHn.le hA
  obtain ⟨hIB0, hX0⟩ := id hI
  obtain ⟨hN0, hP0, hS0, D, hC0⟩ := id hX0
  have uH := hIB0.1.1.2.1
  obtain ⟨n, hn⟩ : ∃ n : Nat, hHn A = (n : Int) := ⟨(hHn A).toNat, by omega⟩
  have h10 : n ≤ 10 := by omega
  have hN9 : hNw (n : Int) A := by rw [← hn]; exact hN0
  have hL : hdL 26 (A.2.1 395) n A := hN9.1.d h10
  have hO : huO (A.2.1 395) n := hN9.2
  obtain ⟨T, hT, h3, -⟩ := hA.T
  have hTn : (A.1 T 4).toInt = (n : Int) := (congrArg Int32.toInt (hIB0.2.1 T h3)).trans hn
  have hC := hC0.1 T h3
  have hD := hC0.2.2
  have h70 : (A.2.1 395 70).toInt ≤ 1000000 := by have q70 := hA.2.1.2.1; omega
  refine hxC.post (hxC.and (g := 0) (hX116 (d := 24) hA a1) (fun g => hP116 a1 hT h3 hTn hL hO)) ?_
  rintro _ _ ⟨⟨rfl, z1, rfl⟩, A1v, v1, -, z1v, e1, f1⟩
  refine ⟨z1, rfl, ?_⟩
  have hA1 := hA
  have H1 := uH
  have hK1 := hC0.2.1
  have hN2 : A.2.1 376 (A.1 367 18).toNatClampNeg = Int32.ofNat n := huI hn (by omega)
  have e5 : ∀ k, k < 73 → A.2.1 395 k = A.2.1 395 k := fun _ _ => rfl
  refine hxC.post (hxC.and (g := 0) (hX227 (d := 24) hA1 a1) (fun g => hP227 a1 hK1 hN2 h10 e5 hO)) ?_
  rintro _ _ ⟨⟨rfl, z2, rfl⟩, A2v, v2, -, z2v, e2, f2⟩
  have q1 : z1 = z1v := by injection e1 with e; injection e
  have q2 : z2 = z2v := by injection e2 with e; injection e
  refine ⟨z2, rfl, by rw [q1, q2]; exact huIf_one f1 f2, N + 72, by omega, ?_⟩
  exact ⟨hJ.mono hA (by omega) (by omega), hI⟩
