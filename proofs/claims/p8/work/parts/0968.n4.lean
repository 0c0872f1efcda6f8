theorem hpr_feed {N : Int} {A : hs_A} (hA : hJ 0 N (N + 72) A A) (hN : N ≤ 800000) (hI : hIC A) (a1 : Int32) (a2 : Int32) (a3 : Int32) (a4 : Int32) (a5 : Int32) : hxC 26 70 hm_m70 [.ref 1, .int a1, .int a2, .int a3, .int a4, .int a5] A (fun r A1 => ∃ z : Int32, r = some (.int z) ∧ hxC 26 133 hm_m133 [.ref 368, .int a1, .int a2, .int a3, .int a4, .int a5] A1 (fun r2 A2 => ∃ z2 : Int32, r2 = some (.int z2) ∧ z = z2 ∧ ∃ N' : Int, N' ≤ N + 144 ∧ hJ 0 N' (N' + 72) A2 A2 ∧ hIC A2)) := by
  obtain ⟨hIB0, hX0⟩ := hI
  refine hxC.post (uf_k70 hIB0.1.1.2.1 a1 a2 a3 a4 a5 (hpb_feed hA hN hIB0 a1 a2 a3 a4 a5)) ?_
  rintro _ A1 ⟨⟨z1, rfl, hC⟩, w1, H1⟩
  refine ⟨z1, rfl, ?_⟩
  refine hxC.post (uf_k133 H1 a1 a2 a3 a4 a5 hC) ?_
  rintro _ A2 ⟨⟨z2, rfl, ez, N', y1, y2, hB2⟩, w2, H2⟩
  exact ⟨z2, rfl, ez, N', y1, y2, hB2, hX0.two hA hIB0.1.1.2.1 H1 w1 w2 (by decide +kernel) (by decide +kernel)⟩
theorem hpr_back {N : Int} {A : hs_A} (hA : hJ 0 N (N + 72) A A) (hN : N ≤ 800000) (hI : hIC A) (a1 : Int32) : hxC 26 72 hm_m72 [.ref 1, .int a1] A (fun r A1 => ∃ z : Int32, r = some (.int z) ∧ hxC 26 135 hm_m135 [.ref 368, .int a1] A1 (fun r2 A2 => ∃ z2 : Int32, r2 = some (.int z2) ∧ z = z2 ∧ ∃ N' : Int, N' ≤ N + 144 ∧ hJ 0 N' (N' + 72) A2 A2 ∧ hIC A2)) := by
  obtain ⟨hIB0, hX0⟩ := hI
  refine hxC.post (uf_k72 hIB0.1.1.2.1 a1 (hpb_back hA hN hIB0 a1)) ?_
  rintro _ A1 ⟨⟨z1, rfl, hC⟩, w1, H1⟩
  refine ⟨z1, rfl, ?_⟩
  refine hxC.post (uf_k135 H1 a1 hC) ?_
  rintro _ A2 ⟨⟨z2, rfl, ez, N', y1, y2, hB2⟩, w2, H2⟩
  exact ⟨z2, rfl, ez, N', y1, y2, hB2, hX0.two hA hIB0.1.1.2.1 H1 w1 w2 (by decide +kernel) (by decide +kernel)⟩
theorem hpr_place {N : Int} {A : hs_A} (hA : hJ 0 N (N + 72) A A) (hN : N ≤ 800000) (hI : hIC A)  : hxC 26 75 hm_m75 [.ref 1] A (fun r A1 => ∃ z : Int32, r = some (.int z) ∧ hxC 26 151 hm_m151 [.ref 368] A1 (fun r2 A2 => ∃ z2 : Int32, r2 = some (.int z2) ∧ z = z2 ∧ ∃ N' : Int, N' ≤ N + 144 ∧ hJ 0 N' (N' + 72) A2 A2 ∧ hIC A2)) := by
  obtain ⟨hIB0, hX0⟩ := hI
  refine hxC.post (uf_k75 hIB0.1.1.2.1  (hpb_place hA hN hIB0 )) ?_
  rintro _ A1 ⟨⟨z1, rfl, hC⟩, w1, H1⟩
  refine ⟨z1, rfl, ?_⟩
  refine hxC.post (uf_k151 H1  hC) ?_
  rintro _ A2 ⟨⟨z2, rfl, ez, N', y1, y2, hB2⟩, w2, H2⟩
  exact ⟨z2, rfl, ez, N', y1, y2, hB2, hX0.two hA hIB0.1.1.2.1 H1 w1 w2 (by decide +kernel) (by decide +kernel)⟩
theorem hpr_comes {N : Int} {A : hs_A} (hA : hJ 0 N (N + 72) A A) (hN : N ≤ 800000) (hI : hIC A) (a1 : Int32) (a2 : Int32) : hxC 26 91 hm_m91 [.ref 1, .int a1, .int a2] A (fun r A1 => ∃ z : Int32, r = some (.int z) ∧ hxC 26 204 hm_m204 [.ref 368, .int a1, .int a2] A1 (fun r2 A2 => ∃ z2 : Int32, r2 = some (.int z2) ∧ ∃ N' : Int, N' ≤ N + 144 ∧ hJ 0 N' (N' + 72) A2 A2 ∧ hIC A2)) := by
  obtain ⟨hIB0, hX0⟩ := hI
  refine hxC.post (uf_k91 hIB0.1.1.2.1 a1 a2 (hpb_comes hA hN hIB0 a1 a2)) ?_
  rintro _ A1 ⟨⟨z1, rfl, hC⟩, w1, H1⟩
  refine ⟨z1, rfl, ?_⟩
  refine hxC.post (uf_k204 H1 a1 a2 hC) ?_
  rintro _ A2 ⟨⟨z2, rfl, N', y1, y2, hB2⟩, w2, H2⟩
  exact ⟨z2, rfl, N', y1, y2, hB2, hX0.two hA hIB0.1.1.2.1 H1 w1 w2 (by decide +kernel) (by decide +kernel)⟩
theorem hpr_last {N : Int} {A : hs_A} (hA : hJ 0 N (N + 72) A A) (hN : N ≤ 800000) (hI : hIC A) (a1 : Int32) : hxC 26 92 hm_m92 [.ref 1, .int a1] A (fun r A1 => ∃ z : Int32, r = some (.int z) ∧ hxC 26 205 hm_m205 [.ref 368, .int a1] A1 (fun r2 A2 => ∃ z2 : Int32, r2 = some (.int z2) ∧ ∃ N' : Int, N' ≤ N + 144 ∧ hJ 0 N' (N' + 72) A2 A2 ∧ hIC A2)) := by
  obtain ⟨hIB0, hX0⟩ := hI
  refine hxC.post (uf_k92 hIB0.1.1.2.1 a1 (hpb_last hA hN hIB0 a1)) ?_
  rintro _ A1 ⟨⟨z1, rfl, hC⟩, w1, H1⟩
  refine ⟨z1, rfl, ?_⟩
  refine hxC.post (uf_k205 H1 a1 hC) ?_
  rintro _ A2 ⟨⟨z2, rfl, N', y1, y2, hB2⟩, w2, H2⟩
  exact ⟨z2, rfl, N', y1, y2, hB2, hX0.two hA hIB0.1.1.2.1 H1 w1 w2 (by decide +kernel) (by decide +kernel)⟩
theorem hpr_sendFor {N : Int} {A : hs_A} (hA : hJ 0 N (N + 72) A A) (hN : N ≤ 800000) (hI : hIC A) (a1 : Int32) : hxC 26 93 hm_m93 [.ref 1, .int a1] A (fun r A1 => ∃ z : Int32, r = some (.int z) ∧ hxC 26 206 hm_m206 [.ref 368, .int a1] A1 (fun r2 A2 => ∃ z2 : Int32, r2 = some (.int z2) ∧ ∃ N' : Int, N' ≤ N + 144 ∧ hJ 0 N' (N' + 72) A2 A2 ∧ hIC A2)) := by
  obtain ⟨hIB0, hX0⟩ := hI
  refine hxC.post (uf_k93 hIB0.1.1.2.1 a1 (hpb_sendFor hA hN hIB0 a1)) ?_
  rintro _ A1 ⟨⟨z1, rfl, hC⟩, w1, H1⟩
  refine ⟨z1, rfl, ?_⟩
  refine hxC.post (uf_k206 H1 a1 hC) ?_
  rintro _ A2 ⟨⟨z2, rfl, N', y1, y2, hB2⟩, w2, H2⟩
  exact ⟨z2, rfl, N', y1, y2, hB2, hX0.two hA hIB0.1.1.2.1 H1 w1 w2 (by decide +kernel) (by decide +kernel)⟩
theorem hpr_apart {N : Int} {A : hs_A} (hA : hJ 0 N (N + 72) A A) (hN : N ≤ 800000) (hI : hIC A) (a1 : Int32) : hxC 26 94 hm_m94 [.ref 1, .int a1] A (fun r A1 => ∃ z : Int32, r = some (.int z) ∧ hxC 26 207 hm_m207 [.ref 368, .int a1] A1 (fun r2 A2 => ∃ z2 : Int32, r2 = some (.int z2) ∧ ∃ N' : Int, N' ≤ N + 144 ∧ hJ 0 N' (N' + 72) A2 A2 ∧ hIC A2)) := by
  obtain ⟨hIB0, hX0⟩ := hI
  refine hxC.post (uf_k94 hIB0.1.1.2.1 a1 (hpb_apart hA hN hIB0 a1)) ?_
  rintro _ A1 ⟨⟨z1, rfl, hC⟩, w1, H1⟩
  refine ⟨z1, rfl, ?_⟩
  refine hxC.post (uf_k207 H1 a1 hC) ?_
  rintro _ A2 ⟨⟨z2, rfl, N', y1, y2, hB2⟩, w2, H2⟩
  exact ⟨z2, rfl, N', y1, y2, hB2, hX0.two hA hIB0.1.1.2.1 H1 w1 w2 (by decide +kernel) (by decide +kernel)⟩
theorem hpr_code {N : Int} {A : hs_A} (hA : hJ 0 N (N + 72) A A) (hN : N ≤ 800000) (hI : hIC A) (a1 : Int32) (a2 : Int32) (a3 : Int32) : hxC 26 95 hm_m95 [.ref 1, .int a1, .int a2, .int a3] A (fun r A1 => ∃ z : Int32, r = some (.int z) ∧ hxC 26 208 hm_m208 [.ref 368, .int a1, .int a2, .int a3] A1 (fun r2 A2 => ∃ z2 : Int32, r2 = some (.int z2) ∧ ∃ N' : Int, N' ≤ N + 144 ∧ hJ 0 N' (N' + 72) A2 A2 ∧ hIC A2)) := by
  obtain ⟨hIB0, hX0⟩ := hI
  refine hxC.post (uf_k95 hIB0.1.1.2.1 a1 a2 a3 (hpb_code hA hN hIB0 a1 a2 a3)) ?_
  rintro _ A1 ⟨⟨z1, rfl, hC⟩, w1, H1⟩
  refine ⟨z1, rfl, ?_⟩
  refine hxC.post (uf_k208 H1 a1 a2 a3 hC) ?_
  rintro _ A2 ⟨⟨z2, rfl, N', y1, y2, hB2⟩, w2, H2⟩
  exact ⟨z2, rfl, N', y1, y2, hB2, hX0.two hA hIB0.1.1.2.1 H1 w1 w2 (by decide +kernel) (by decide +kernel)⟩
theorem hpr_lost {N : Int} {A : hs_A} (hA : hJ 0 N (N + 72) A A) (hN : N ≤ 800000) (hI : hIC A) (a1 : Int32) : hxC 26 97 hm_m97 [.ref 1, .int a1] A (fun r A1 => ∃ z : Int32, r = some (.int z) ∧ hxC 26 209 hm_m209 [.ref 368, .int a1] A1 (fun r2 A2 => ∃ z2 : Int32, r2 = some (.int z2) ∧ ∃ N' : Int, N' ≤ N + 144 ∧ hJ 0 N' (N' + 72) A2 A2 ∧ hIC A2)) := by
  obtain ⟨hIB0, hX0⟩ := hI
  refine hxC.post (uf_k97 hIB0.1.1.2.1 a1 (hpb_lost hA hN hIB0 a1)) ?_
  rintro _ A1 ⟨⟨z1, rfl, hC⟩, w1, H1⟩
  refine ⟨z1, rfl, ?_⟩
  refine hxC.post (uf_k209 H1 a1 hC) ?_
  rintro _ A2 ⟨⟨z2, rfl, N', y1, y2, hB2⟩, w2, H2⟩
  exact ⟨z2, rfl, N', y1, y2, hB2, hX0.two hA hIB0.1.1.2.1 H1 w1 w2 (by decide +kernel) (by decide +kernel)⟩
theorem hpr_between {N : Int} {A : hs_A} (hA : hJ 0 N (N + 72) A A) (hN : N ≤ 800000) (hI : hIC A) (a1 : Int32) (a2 : Int32) (a3 : Int32) : hxC 26 98 hm_m98 [.ref 1, .int a1, .int a2, .int a3] A (fun r A1 => ∃ z : Int32, r = some (.int z) ∧ hxC 26 210 hm_m210 [.ref 368, .int a1, .int a2, .int a3] A1 (fun r2 A2 => ∃ z2 : Int32, r2 = some (.int z2) ∧ ∃ N' : Int, N' ≤ N + 144 ∧ hJ 0 N' (N' + 72) A2 A2 ∧ hIC A2)) := by
  obtain ⟨hIB0, hX0⟩ := hI
  refine hxC.post (uf_k98 hIB0.1.1.2.1 a1 a2 a3 (hpb_between hA hN hIB0 a1 a2 a3)) ?_
  rintro _ A1 ⟨⟨z1, rfl, hC⟩, w1, H1⟩
  refine ⟨z1, rfl, ?_⟩
  refine hxC.post (uf_k210 H1 a1 a2 a3 hC) ?_
  rintro _ A2 ⟨⟨z2, rfl, N', y1, y2, hB2⟩, w2, H2⟩
  exact ⟨z2, rfl, N', y1, y2, hB2, hX0.two hA hIB0.1.1.2.1 H1 w1 w2 (by decide +kernel) (by decide +kernel)⟩
theorem hpr_widest {N : Int} {A : hs_A} (hA : hJ 0 N (N + 72) A A) (hN : N ≤ 800000) (hI : hIC A) (a1 : Int32) (a2 : Int32) : hxC 26 99 hm_m99 [.ref 1, .int a1, .int a2] A (fun r A1 => ∃ z : Int32, r = some (.int z) ∧ hxC 26 211 hm_m211 [.ref 368, .int a1, .int a2] A1 (fun r2 A2 => ∃ z2 : Int32, r2 = some (.int z2) ∧ ∃ N' : Int, N' ≤ N + 144 ∧ hJ 0 N' (N' + 72) A2 A2 ∧ hIC A2)) := by
  obtain ⟨hIB0, hX0⟩ := hI
  refine hxC.post (uf_k99 hIB0.1.1.2.1 a1 a2 (hpb_widest hA hN hIB0 a1 a2)) ?_
  rintro _ A1 ⟨⟨z1, rfl, hC⟩, w1, H1⟩
  refine ⟨z1, rfl, ?_⟩
  refine hxC.post (uf_k211 H1 a1 a2 hC) ?_
  rintro _ A2 ⟨⟨z2, rfl, N', y1, y2, hB2⟩, w2, H2⟩
  exact ⟨z2, rfl, N', y1, y2, hB2, hX0.two hA hIB0.1.1.2.1 H1 w1 w2 (by decide +kernel) (by decide +kernel)⟩
theorem hpr_same {N : Int} {A : hs_A} (hA : hJ 0 N (N + 72) A A) (hN : N ≤ 800000) (hI : hIC A) (a1 : Int32) (a2 : Int32) : hxC 26 100 hm_m100 [.ref 1, .int a1, .int a2] A (fun r A1 => ∃ z : Int32, r = some (.int z) ∧ hxC 26 212 hm_m212 [.ref 368, .int a1, .int a2] A1 (fun r2 A2 => ∃ z2 : Int32, r2 = some (.int z2) ∧ ∃ N' : Int, N' ≤ N + 144 ∧ hJ 0 N' (N' + 72) A2 A2 ∧ hIC A2)) := by
  obtain ⟨hIB0, hX0⟩ := hI
  refine hxC.post (uf_k100 hIB0.1.1.2.1 a1 a2 (hpb_same hA hN hIB0 a1 a2)) ?_
  rintro _ A1 ⟨⟨z1, rfl, hC⟩, w1, H1⟩
  refine ⟨z1, rfl, ?_⟩
  refine hxC.post (uf_k212 H1 a1 a2 hC) ?_
  rintro _ A2 ⟨⟨z2, rfl, N', y1, y2, hB2⟩, w2, H2⟩
  exact ⟨z2, rfl, N', y1, y2, hB2, hX0.two hA hIB0.1.1.2.1 H1 w1 w2 (by decide +kernel) (by decide +kernel)⟩
theorem hpr_itself {N : Int} {A : hs_A} (hA : hJ 0 N (N + 72) A A) (hN : N ≤ 800000) (hI : hIC A) (a1 : Int32) : hxC 26 101 hm_m101 [.ref 1, .int a1] A (fun r A1 => ∃ z : Int32, r = some (.int z) ∧ hxC 26 213 hm_m213 [.ref 368, .int a1] A1 (fun r2 A2 => ∃ z2 : Int32, r2 = some (.int z2) ∧ ∃ N' : Int, N' ≤ N + 144 ∧ hJ 0 N' (N' + 72) A2 A2 ∧ hIC A2)) := by
  obtain ⟨hIB0, hX0⟩ := hI
  refine hxC.post (uf_k101 hIB0.1.1.2.1 a1 (hpb_itself hA hN hIB0 a1)) ?_
  rintro _ A1 ⟨⟨z1, rfl, hC⟩, w1, H1⟩
  refine ⟨z1, rfl, ?_⟩
  refine hxC.post (uf_k213 H1 a1 hC) ?_
  rintro _ A2 ⟨⟨z2, rfl, N', y1, y2, hB2⟩, w2, H2⟩
  exact ⟨z2, rfl, N', y1, y2, hB2, hX0.two hA hIB0.1.1.2.1 H1 w1 w2 (by decide +kernel) (by decide +kernel)⟩
theorem hpr_times {N : Int} {A : hs_A} (hA : hJ 0 N (N + 72) A A) (hN : N ≤ 800000) (hI : hIC A) (a1 : Int32) (a2 : Int32) : hxC 26 102 hm_m102 [.ref 1, .int a1, .int a2] A (fun r A1 => ∃ z : Int32, r = some (.int z) ∧ hxC 26 216 hm_m216 [.ref 368, .int a1, .int a2] A1 (fun r2 A2 => ∃ z2 : Int32, r2 = some (.int z2) ∧ ∃ N' : Int, N' ≤ N + 144 ∧ hJ 0 N' (N' + 72) A2 A2 ∧ hIC A2)) := by
  obtain ⟨hIB0, hX0⟩ := hI
  refine hxC.post (uf_k102 hIB0.1.1.2.1 a1 a2 (hpb_times hA hN hIB0 a1 a2)) ?_
  rintro _ A1 ⟨⟨z1, rfl, hC⟩, w1, H1⟩
  refine ⟨z1, rfl, ?_⟩
  refine hxC.post (uf_k216 H1 a1 a2 hC) ?_
  rintro _ A2 ⟨⟨z2, rfl, N', y1, y2, hB2⟩, w2, H2⟩
  exact ⟨z2, rfl, N', y1, y2, hB2, hX0.two hA hIB0.1.1.2.1 H1 w1 w2 (by decide +kernel) (by decide +kernel)⟩
theorem hpr_bestHour {N : Int} {A : hs_A} (hA : hJ 0 N (N + 72) A A) (hN : N ≤ 800000) (hI : hIC A) (a1 : Int32) (a2 : Int32) : hxC 26 105 hm_m105 [.ref 1, .int a1, .int a2] A (fun r A1 => ∃ z : Int32, r = some (.int z) ∧ hxC 26 217 hm_m217 [.ref 368, .int a1, .int a2] A1 (fun r2 A2 => ∃ z2 : Int32, r2 = some (.int z2) ∧ ∃ N' : Int, N' ≤ N + 144 ∧ hJ 0 N' (N' + 72) A2 A2 ∧ hIC A2)) := by
  obtain ⟨hIB0, hX0⟩ := hI
  refine hxC.post (uf_k105 hIB0.1.1.2.1 a1 a2 (hpb_bestHour hA hN hIB0 a1 a2)) ?_
  rintro _ A1 ⟨⟨z1, rfl, hC⟩, w1, H1⟩
  refine ⟨z1, rfl, ?_⟩
  refine hxC.post (uf_k217 H1 a1 a2 hC) ?_
  rintro _ A2 ⟨⟨z2, rfl, N', y1, y2, hB2⟩, w2, H2⟩
  exact ⟨z2, rfl, N', y1, y2, hB2, hX0.two hA hIB0.1.1.2.1 H1 w1 w2 (by decide +kernel) (by decide +kernel)⟩
theorem hpr_warmth {N : Int} {A : hs_A} (hA : hJ 0 N (N + 72) A A) (hN : N ≤ 800000) (hI : hIC A) (a1 : Int32) : hxC 26 112 hm_m112 [.ref 1, .int a1] A (fun r A1 => ∃ z : Int32, r = some (.int z) ∧ hxC 26 222 hm_m222 [.ref 368, .int a1] A1 (fun r2 A2 => ∃ z2 : Int32, r2 = some (.int z2) ∧ ∃ N' : Int, N' ≤ N + 144 ∧ hJ 0 N' (N' + 72) A2 A2 ∧ hIC A2)) := by
  obtain ⟨hIB0, hX0⟩ := hI
  refine hxC.post (uf_k112 hIB0.1.1.2.1 a1 (hpb_warmth hA hN hIB0 a1)) ?_
  rintro _ A1 ⟨⟨z1, rfl, hC⟩, w1, H1⟩
  refine ⟨z1, rfl, ?_⟩
  refine hxC.post (uf_k222 H1 a1 hC) ?_
  rintro _ A2 ⟨⟨z2, rfl, N', y1, y2, hB2⟩, w2, H2⟩
  exact ⟨z2, rfl, N', y1, y2, hB2, hX0.two hA hIB0.1.1.2.1 H1 w1 w2 (by decide +kernel) (by decide +kernel)⟩
theorem hpr_tell {N : Int} {A : hs_A} (hA : hJ 0 N (N + 72) A A) (hN : N ≤ 800000) (hI : hIC A) (a1 : Int32) (a2 : Int32) : hxC 26 122 hm_m122 [.ref 1, .int a1, .int a2] A (fun r A1 => ∃ z : Int32, r = some (.int z) ∧ hxC 26 232 hm_m232 [.ref 368, .int a1, .int a2] A1 (fun r2 A2 => ∃ z2 : Int32, r2 = some (.int z2) ∧ z = z2 ∧ ∃ N' : Int, N' ≤ N + 144 ∧ hJ 0 N' (N' + 72) A2 A2 ∧ hIC A2)) := by
  obtain ⟨hIB0, hX0⟩ := hI
  refine hxC.post (uf_k122 hIB0.1.1.2.1 a1 a2 (hpb_tell hA hN hIB0 a1 a2)) ?_
  rintro _ A1 ⟨⟨z1, rfl, hC⟩, w1, H1⟩
  refine ⟨z1, rfl, ?_⟩
  refine hxC.post (uf_k232 H1 a1 a2 hC) ?_
  rintro _ A2 ⟨⟨z2, rfl, ez, N', y1, y2, hB2⟩, w2, H2⟩
  exact ⟨z2, rfl, ez, N', y1, y2, hB2, hX0.two hA hIB0.1.1.2.1 H1 w1 w2 (by decide +kernel) (by decide +kernel)⟩
theorem hpr_forget {N : Int} {A : hs_A} (hA : hJ 0 N (N + 72) A A) (hN : N ≤ 800000) (hI : hIC A)  : hxC 26 123 hm_m123 [.ref 1] A (fun r A1 => ∃ z : Int32, r = some (.int z) ∧ hxC 26 233 hm_m233 [.ref 368] A1 (fun r2 A2 => ∃ z2 : Int32, r2 = some (.int z2) ∧ z = z2 ∧ ∃ N' : Int, N' ≤ N + 144 ∧ hJ 0 N' (N' + 72) A2 A2 ∧ hIC A2)) := by
  obtain ⟨hIB0, hX0⟩ := hI
  refine hxC.post (uf_k123 hIB0.1.1.2.1  (hpb_forget hA hN hIB0 )) ?_
  rintro _ A1 ⟨⟨z1, rfl, hC⟩, w1, H1⟩
  refine ⟨z1, rfl, ?_⟩
  refine hxC.post (uf_k233 H1  hC) ?_
  rintro _ A2 ⟨⟨z2, rfl, ez, N', y1, y2, hB2⟩, w2, H2⟩
  exact ⟨z2, rfl, ez, N', y1, y2, hB2, hX0.two hA hIB0.1.1.2.1 H1 w1 w2 (by decide +kernel) (by decide +kernel)⟩
theorem hpr_sent {N : Int} {A : hs_A} (hA : hJ 0 N (N + 72) A A) (hN : N ≤ 800000) (hI : hIC A) (a1 : Int32) (a2 : Int32) : hxC 26 125 hm_m125 [.ref 1, .int a1, .int a2] A (fun r A1 => ∃ z : Int32, r = some (.int z) ∧ hxC 26 235 hm_m235 [.ref 368, .int a1, .int a2] A1 (fun r2 A2 => ∃ z2 : Int32, r2 = some (.int z2) ∧ ∃ N' : Int, N' ≤ N + 144 ∧ hJ 0 N' (N' + 72) A2 A2 ∧ hIC A2)) := by
  obtain ⟨hIB0, hX0⟩ := hI
  refine hxC.post (uf_k125 hIB0.1.1.2.1 a1 a2 (hpb_sent hA hN hIB0 a1 a2)) ?_
  rintro _ A1 ⟨⟨z1, rfl, hC⟩, w1, H1⟩
  refine ⟨z1, rfl, ?_⟩
  refine hxC.post (uf_k235 H1 a1 a2 hC) ?_
  rintro _ A2 ⟨⟨z2, rfl, N', y1, y2, hB2⟩, w2, H2⟩
  exact ⟨z2, rfl, N', y1, y2, hB2, hX0.two hA hIB0.1.1.2.1 H1 w1 w2 (by decide +kernel) (by decide +kernel)⟩
theorem hpr_listen {N : Int} {A : hs_A} (hA : hJ 0 N (N + 72) A A) (hN : N ≤ 800000) (hI : hIC A) (a1 : Int32) : hxC 26 126 hm_m126 [.ref 1, .int a1] A (fun r A1 => ∃ z : Int32, r = some (.int z) ∧ hxC 26 237 hm_m237 [.ref 368, .int a1] A1 (fun r2 A2 => ∃ z2 : Int32, r2 = some (.int z2) ∧ ∃ N' : Int, N' ≤ N + 144 ∧ hJ 0 N' (N' + 72) A2 A2 ∧ hIC A2)) := by
  obtain ⟨hIB0, hX0⟩ := hI
  refine hxC.post (uf_k126 hIB0.1.1.2.1 a1 (hpb_listen hA hN hIB0 a1)) ?_
  rintro _ A1 ⟨⟨z1, rfl, hC⟩, w1, H1⟩
  refine ⟨z1, rfl, ?_⟩
  refine hxC.post (uf_k237 H1 a1 hC) ?_
  rintro _ A2 ⟨⟨z2, rfl, N', y1, y2, hB2⟩, w2, H2⟩
  exact ⟨z2, rfl, N', y1, y2, hB2, hX0.two hA hIB0.1.1.2.1 H1 w1 w2 (by decide +kernel) (by decide +kernel)⟩
theorem hpr_count {N : Int} {A : hs_A} (hA : hJ 0 N (N + 72) A A) (hN : N ≤ 800000) (hI : hIC A) (a1 : Int32) : hxC 26 130 hm_m130 [.ref 1, .int a1] A (fun r A1 => ∃ z : Int32, r = some (.int z) ∧ hxC 26 241 hm_m241 [.ref 368, .int a1] A1 (fun r2 A2 => ∃ z2 : Int32, r2 = some (.int z2) ∧ ∃ N' : Int, N' ≤ N + 144 ∧ hJ 0 N' (N' + 72) A2 A2 ∧ hIC A2)) := by
  obtain ⟨hIB0, hX0⟩ := hI
  refine hxC.post (uf_k130 hIB0.1.1.2.1 a1 (hpb_count hA hN hIB0 a1)) ?_
  rintro _ A1 ⟨⟨z1, rfl, hC⟩, w1, H1⟩
  refine ⟨z1, rfl, ?_⟩
  refine hxC.post (uf_k241 H1 a1 hC) ?_
  rintro _ A2 ⟨⟨z2, rfl, N', y1, y2, hB2⟩, w2, H2⟩
  exact ⟨z2, rfl, N', y1, y2, hB2, hX0.two hA hIB0.1.1.2.1 H1 w1 w2 (by decide +kernel) (by decide +kernel)⟩
