theorem hpr_warm {N : Int} {A : hs_A} (hA : hJ 0 N (N + 72) A A) (hN : N ≤ 800000) (hI : hIC A) (a1 : Int32) : hxC 26 110 hm_m110 [.ref 1, .int a1] A (fun r A1 => ∃ z : Int32, r = some (.int z) ∧ hxC 26 220 hm_m220 [.ref 368, .int a1] A1 (fun r2 A2 => ∃ z2 : Int32, r2 = some (.int z2) ∧ z = z2 ∧ ∃ N' : Int, N' ≤ N + 144 ∧ hJ 0 N' (N' + 72) A2 A2 ∧ hIC A2)) := by
  have bl := hbok.get (hA.1.1 0 1) rfl
  have b1 := hbok.get (hA.1.1 40 1) rfl
  have b2 := hbok.get (hA.1.1 40 2) rfl
  have lH := hHn.le hA
  obtain ⟨hIB0, hX0⟩ := id hI
  obtain ⟨hN0, hP0, hS0, D, hC0⟩ := id hX0
  have uH := hIB0.1.1.2.1
  obtain ⟨n, hn⟩ : ∃ n : Nat, hHn A = (n : Int) := ⟨(hHn A).toNat, by omega⟩
  have h10 : n ≤ 10 := by omega
  have hN9 : hNw (n : Int) A := by rw [← hn]; exact hN0
  have hL : hdL 26 (A.2.1 395) n A := hN9.1.d h10
  have hO : huO (A.2.1 395) n := hN9.2
  obtain ⟨T, hT, h3, -⟩ := hA.T
  have hTn : (A.1 T 4).toInt = (n : Int) := (congrArg Int32.toInt (hIB0.2.1 T h3)).trans hn
  have hC := hC0.1 T h3
  have hD := hC0.2.2
  have h70 : (A.2.1 395 70).toInt ≤ 1000000 := by have q70 := hA.2.1.2.1; omega
  refine hxC.post (uf_k110 uH a1 (hxC.and (g := 0) (hX110 (d := 20) hA a1) (fun g => hP110 a1 hT h3 hTn hC hL hO hD.1 hD.2.1 h70 uH))) ?_
  rintro _ A1 ⟨⟨⟨hA1, z1, rfl⟩, A1v, v1, z1v, e1, f1⟩, w1, H1⟩
  refine ⟨z1, rfl, ?_⟩
  have hC1 : hCo D A1 := hC0.uf uH w1 (by decide +kernel) (by decide +kernel) (by decide +kernel)
  have hK1 := hC1.2.1
  have eH1 : hHn A1 = hHn A := hHn.uf w1 (uf_lv hA) (by decide +kernel) (by decide +kernel)
  have hN2 : A1.2.1 376 (A1.1 367 18).toNatClampNeg = Int32.ofNat n := huI (eH1.trans hn) (by omega)
  have e5 : ∀ k, k < 73 → A1.2.1 395 k = A.2.1 395 k := fun k hk => w1.2.1 395 _ _ k rfl hk (by decide +kernel)
  refine hxC.post (uf_k220 H1 a1 (hxC.and (g := 0) (hX220 (d := 19) hA1 (by omega) a1) (fun g => hP220 a1 hK1 hN2 h10 e5 hO hD.1 hD.2.1 hD.2.2 h70 H1))) ?_
  rintro _ A2 ⟨⟨⟨hA2, z2, rfl⟩, A2v, v2, z2v, e2, f2⟩, w2, H2⟩
  have q1 : z1 = z1v := by injection e1 with e; injection e
  have q2 : z2 = z2v := by injection e2 with e; injection e
  refine ⟨z2, rfl, by rw [q1, q2]; exact huIf_one f1 f2, N + 72, by omega, ?_⟩
  exact ⟨hJ.mono (hJ.self hA2) (by omega) (by omega), hIB0.q ((w1.le (by decide +kernel : ug_wle uw110 uwB = true)).trans (w2.le (by decide +kernel : ug_wle uw220 uwB = true))) H2 bl.2 (uf_lv hA), hX0.two hA uH H1 w1 w2 (by decide +kernel) (by decide +kernel)⟩
theorem hpr_mourn {N : Int} {A : hs_A} (hA : hJ 0 N (N + 72) A A) (hN : N ≤ 800000) (hI : hIC A) (a1 : Int32) : hxC 26 115 hm_m115 [.ref 1, .int a1] A (fun r A1 => ∃ z : Int32, r = some (.int z) ∧ hxC 26 226 hm_m226 [.ref 368, .int a1] A1 (fun r2 A2 => ∃ z2 : Int32, r2 = some (.int z2) ∧ z = z2 ∧ ∃ N' : Int, N' ≤ N + 144 ∧ hJ 0 N' (N' + 72) A2 A2 ∧ hIC A2)) := by
  have bl := hbok.get (hA.1.1 0 1) rfl
  have b1 := hbok.get (hA.1.1 40 1) rfl
  have b2 := hbok.get (hA.1.1 40 2) rfl
  have lH := hHn.le hA
  obtain ⟨hIB0, hX0⟩ := id hI
  obtain ⟨hN0, hP0, hS0, D, hC0⟩ := id hX0
  have uH := hIB0.1.1.2.1
  obtain ⟨n, hn⟩ : ∃ n : Nat, hHn A = (n : Int) := ⟨(hHn A).toNat, by omega⟩
  have h10 : n ≤ 10 := by omega
  have hN9 : hNw (n : Int) A := by rw [← hn]; exact hN0
  have hL : hdL 26 (A.2.1 395) n A := hN9.1.d h10
  have hO : huO (A.2.1 395) n := hN9.2
  obtain ⟨T, hT, h3, -⟩ := hA.T
  have hTn : (A.1 T 4).toInt = (n : Int) := (congrArg Int32.toInt (hIB0.2.1 T h3)).trans hn
  have hC := hC0.1 T h3
  have hD := hC0.2.2
  have h70 : (A.2.1 395 70).toInt ≤ 1000000 := by have q70 := hA.2.1.2.1; omega
  refine hxC.post (uf_k115 uH a1 (hxC.and (g := 0) (hX115 (d := 20) hA a1) (fun g => hP115 a1 hT h3 hTn hC hL hO hD.1 hD.2.1 hD.2.2 h70 uH))) ?_
  rintro _ A1 ⟨⟨⟨hA1, z1, rfl⟩, A1v, v1, z1v, e1, f1⟩, w1, H1⟩
  refine ⟨z1, rfl, ?_⟩
  have hC1 : hCo D A1 := hC0.uf uH w1 (by decide +kernel) (by decide +kernel) (by decide +kernel)
  have hK1 := hC1.2.1
  have eH1 : hHn A1 = hHn A := hHn.uf w1 (uf_lv hA) (by decide +kernel) (by decide +kernel)
  have hN2 : A1.2.1 376 (A1.1 367 18).toNatClampNeg = Int32.ofNat n := huI (eH1.trans hn) (by omega)
  have e5 : ∀ k, k < 73 → A1.2.1 395 k = A.2.1 395 k := fun k hk => w1.2.1 395 _ _ k rfl hk (by decide +kernel)
  refine hxC.post (uf_k226 H1 a1 (hxC.and (g := 0) (hX226 (d := 19) hA1 (by omega) a1) (fun g => hP226 a1 hK1 hN2 h10 e5 hO hD.1 hD.2.1 hD.2.2 h70 H1))) ?_
  rintro _ A2 ⟨⟨⟨hA2, z2, rfl⟩, A2v, v2, z2v, e2, f2⟩, w2, H2⟩
  have q1 : z1 = z1v := by injection e1 with e; injection e
  have q2 : z2 = z2v := by injection e2 with e; injection e
  refine ⟨z2, rfl, by rw [q1, q2]; exact huIf_one f1 f2, N + 72, by omega, ?_⟩
  exact ⟨hJ.mono (hJ.self hA2) (by omega) (by omega), hIB0.q ((w1.le (by decide +kernel : ug_wle uw115 uwB = true)).trans (w2.le (by decide +kernel : ug_wle uw226 uwB = true))) H2 bl.2 (uf_lv hA), hX0.two hA uH H1 w1 w2 (by decide +kernel) (by decide +kernel)⟩
theorem hpr_then {N : Int} {A : hs_A} (hA : hJ 0 N (N + 72) A A) (hN : N ≤ 800000) (hI : hIC A) (a1 : Int32) (a2 : Int32) (a3 : Int32) : hxC 26 113 hm_m113 [.ref 1, .int a1, .int a2, .int a3] A (fun r A1 => ∃ z : Int32, r = some (.int z) ∧ hxC 26 223 hm_m223 [.ref 368, .int a1, .int a2, .int a3] A1 (fun r2 A2 => ∃ z2 : Int32, r2 = some (.int z2) ∧ z = z2 ∧ ∃ N' : Int, N' ≤ N + 144 ∧ hJ 0 N' (N' + 72) A2 A2 ∧ hIC A2)) := by
  have bl := hbok.get (hA.1.1 0 1) rfl
  have b1 := hbok.get (hA.1.1 40 1) rfl
  have b2 := hbok.get (hA.1.1 40 2) rfl
  have lH := hHn.le hA
  obtain ⟨hIB0, hX0⟩ := id hI
  obtain ⟨hN0, hP0, hS0, D, hC0⟩ := id hX0
  have uH := hIB0.1.1.2.1
  obtain ⟨n, hn⟩ : ∃ n : Nat, hHn A = (n : Int) := ⟨(hHn A).toNat, by omega⟩
  have h10 : n ≤ 10 := by omega
  have hN9 : hNw (n : Int) A := by rw [← hn]; exact hN0
  have hL : hdL 26 (A.2.1 395) n A := hN9.1.d h10
  have hO : huO (A.2.1 395) n := hN9.2
  obtain ⟨T, hT, h3, -⟩ := hA.T
  have hTn : (A.1 T 4).toInt = (n : Int) := (congrArg Int32.toInt (hIB0.2.1 T h3)).trans hn
  have hC := hC0.1 T h3
  have hD := hC0.2.2
  have h70 : (A.2.1 395 70).toInt ≤ 1000000 := by have q70 := hA.2.1.2.1; omega
  refine hxC.post (uf_k113 uH a1 a2 a3 (hxC.and (g := 0) (hX113 (d := 20) hA a1 a2 a3) (fun g => hP113 a1 a2 a3 hT h3 hTn hC hL hO hD.1 hD.2.1 hD.2.2 h70 uH))) ?_
  rintro _ A1 ⟨⟨⟨hA1, z1, rfl⟩, A1v, v1, z1v, e1, f1⟩, w1, H1⟩
  refine ⟨z1, rfl, ?_⟩
  have hC1 : hCo D A1 := hC0.uf uH w1 (by decide +kernel) (by decide +kernel) (by decide +kernel)
  have hK1 := hC1.2.1
  have eH1 : hHn A1 = hHn A := hHn.uf w1 (uf_lv hA) (by decide +kernel) (by decide +kernel)
  have hN2 : A1.2.1 376 (A1.1 367 18).toNatClampNeg = Int32.ofNat n := huI (eH1.trans hn) (by omega)
  have e5 : ∀ k, k < 73 → A1.2.1 395 k = A.2.1 395 k := fun k hk => w1.2.1 395 _ _ k rfl hk (by decide +kernel)
  refine hxC.post (uf_k223 H1 a1 a2 a3 (hxC.and (g := 0) (hX223 (d := 19) hA1 (by omega) a1 a2 a3) (fun g => hP223 a1 a2 a3 hK1 hN2 h10 e5 hO hD.1 hD.2.1 hD.2.2 h70 H1))) ?_
  rintro _ A2 ⟨⟨⟨hA2, z2, rfl⟩, A2v, v2, z2v, e2, f2⟩, w2, H2⟩
  have q1 : z1 = z1v := by injection e1 with e; injection e
  have q2 : z2 = z2v := by injection e2 with e; injection e
  refine ⟨z2, rfl, by rw [q1, q2]; exact huIf_one f1 f2, N + 72, by omega, ?_⟩
  exact ⟨hJ.mono (hJ.self hA2) (by omega) (by omega), hIB0.q ((w1.le (by decide +kernel : ug_wle uw113 uwB = true)).trans (w2.le (by decide +kernel : ug_wle uw223 uwB = true))) H2 bl.2 (uf_lv hA), hX0.two hA uH H1 w1 w2 (by decide +kernel) (by decide +kernel)⟩
theorem hpr_quiet {N : Int} {A : hs_A} (hA : hJ 0 N (N + 72) A A) (hN : N ≤ 800000) (hI : hIC A) (a1 : Int32) (a2 : Int32) : hxC 26 114 hm_m114 [.ref 1, .int a1, .int a2] A (fun r A1 => ∃ z : Int32, r = some (.int z) ∧ hxC 26 224 hm_m224 [.ref 368, .int a1, .int a2] A1 (fun r2 A2 => ∃ z2 : Int32, r2 = some (.int z2) ∧ z = z2 ∧ ∃ N' : Int, N' ≤ N + 144 ∧ hJ 0 N' (N' + 72) A2 A2 ∧ hIC A2)) := by
  have bl := hbok.get (hA.1.1 0 1) rfl
  have b1 := hbok.get (hA.1.1 40 1) rfl
  have b2 := hbok.get (hA.1.1 40 2) rfl
  have lH := hHn.le hA
  obtain ⟨hIB0, hX0⟩ := id hI
  obtain ⟨hN0, hP0, hS0, D, hC0⟩ := id hX0
  have uH := hIB0.1.1.2.1
  obtain ⟨n, hn⟩ : ∃ n : Nat, hHn A = (n : Int) := ⟨(hHn A).toNat, by omega⟩
  have h10 : n ≤ 10 := by omega
  have hN9 : hNw (n : Int) A := by rw [← hn]; exact hN0
  have hL : hdL 26 (A.2.1 395) n A := hN9.1.d h10
  have hO : huO (A.2.1 395) n := hN9.2
  obtain ⟨T, hT, h3, -⟩ := hA.T
  have hTn : (A.1 T 4).toInt = (n : Int) := (congrArg Int32.toInt (hIB0.2.1 T h3)).trans hn
  have hC := hC0.1 T h3
  have hD := hC0.2.2
  have h70 : (A.2.1 395 70).toInt ≤ 1000000 := by have q70 := hA.2.1.2.1; omega
  refine hxC.post (uf_k114 uH a1 a2 (hxC.and (g := 0) (hX114 (d := 21) hA a1 a2) (fun g => hP114 a1 a2 hT h3 hTn hC hL hO hD.1 hD.2.1 h70 uH))) ?_
  rintro _ A1 ⟨⟨⟨hA1, z1, rfl⟩, A1v, v1, z1v, e1, f1⟩, w1, H1⟩
  refine ⟨z1, rfl, ?_⟩
  have hC1 : hCo D A1 := hC0.uf uH w1 (by decide +kernel) (by decide +kernel) (by decide +kernel)
  have hK1 := hC1.2.1
  have eH1 : hHn A1 = hHn A := hHn.uf w1 (uf_lv hA) (by decide +kernel) (by decide +kernel)
  have hN2 : A1.2.1 376 (A1.1 367 18).toNatClampNeg = Int32.ofNat n := huI (eH1.trans hn) (by omega)
  have e5 : ∀ k, k < 73 → A1.2.1 395 k = A.2.1 395 k := fun k hk => w1.2.1 395 _ _ k rfl hk (by decide +kernel)
  refine hxC.post (uf_k224 H1 a1 a2 (hxC.and (g := 0) (hX224 (d := 20) hA1 (by omega) a1 a2) (fun g => hP224 a1 a2 hK1 hN2 h10 e5 hO hD.1 hD.2.1 hD.2.2 h70 H1))) ?_
  rintro _ A2 ⟨⟨⟨hA2, z2, rfl⟩, A2v, v2, z2v, e2, f2⟩, w2, H2⟩
  have q1 : z1 = z1v := by injection e1 with e; injection e
  have q2 : z2 = z2v := by injection e2 with e; injection e
  refine ⟨z2, rfl, by rw [q1, q2]; exact huIf_one f1 f2, N + 72, by omega, ?_⟩
  exact ⟨hJ.mono (hJ.self hA2) (by omega) (by omega), hIB0.q ((w1.le (by decide +kernel : ug_wle uw114 uwB = true)).trans (w2.le (by decide +kernel : ug_wle uw224 uwB = true))) H2 bl.2 (uf_lv hA), hX0.two hA uH H1 w1 w2 (by decide +kernel) (by decide +kernel)⟩
theorem hpr_year {N : Int} {A : hs_A} (hA : hJ 0 N (N + 72) A A) (hN : N ≤ 800000) (hI : hIC A) (a1 : Int32) (a2 : Int32) (a3 : Int32) : hxC 26 121 hm_m121 [.ref 1, .int a1, .int a2, .int a3] A (fun r A1 => ∃ z : Int32, r = some (.int z) ∧ hxC 26 231 hm_m231 [.ref 368, .int a1, .int a2, .int a3] A1 (fun r2 A2 => ∃ z2 : Int32, r2 = some (.int z2) ∧ z = z2 ∧ ∃ N' : Int, N' ≤ N + 144 ∧ hJ 0 N' (N' + 72) A2 A2 ∧ hIC A2)) := by
  have bl := hbok.get (hA.1.1 0 1) rfl
  have b1 := hbok.get (hA.1.1 40 1) rfl
  have b2 := hbok.get (hA.1.1 40 2) rfl
  have lH := hHn.le hA
  obtain ⟨hIB0, hX0⟩ := id hI
  obtain ⟨hN0, hP0, hS0, D, hC0⟩ := id hX0
  have uH := hIB0.1.1.2.1
  obtain ⟨n, hn⟩ : ∃ n : Nat, hHn A = (n : Int) := ⟨(hHn A).toNat, by omega⟩
  have h10 : n ≤ 10 := by omega
  have hN9 : hNw (n : Int) A := by rw [← hn]; exact hN0
  have hL : hdL 26 (A.2.1 395) n A := hN9.1.d h10
  have hO : huO (A.2.1 395) n := hN9.2
  obtain ⟨T, hT, h3, -⟩ := hA.T
  have hTn : (A.1 T 4).toInt = (n : Int) := (congrArg Int32.toInt (hIB0.2.1 T h3)).trans hn
  have hC := hC0.1 T h3
  have hD := hC0.2.2
  have h70 : (A.2.1 395 70).toInt ≤ 1000000 := by have q70 := hA.2.1.2.1; omega
  refine hxC.post (uf_k121 uH a1 a2 a3 (hxC.and (g := 0) (hX121 (d := 20) hA a1 a2 a3) (fun g => hP121 a1 a2 a3 hT h3 hTn hC hL hO hD.1 hD.2.1 hD.2.2 h70 uH))) ?_
  rintro _ A1 ⟨⟨⟨hA1, z1, rfl⟩, A1v, v1, z1v, e1, f1⟩, w1, H1⟩
  refine ⟨z1, rfl, ?_⟩
  have hC1 : hCo D A1 := hC0.uf uH w1 (by decide +kernel) (by decide +kernel) (by decide +kernel)
  have hK1 := hC1.2.1
  have eH1 : hHn A1 = hHn A := hHn.uf w1 (uf_lv hA) (by decide +kernel) (by decide +kernel)
  have hN2 : A1.2.1 376 (A1.1 367 18).toNatClampNeg = Int32.ofNat n := huI (eH1.trans hn) (by omega)
  have e5 : ∀ k, k < 73 → A1.2.1 395 k = A.2.1 395 k := fun k hk => w1.2.1 395 _ _ k rfl hk (by decide +kernel)
  refine hxC.post (uf_k231 H1 a1 a2 a3 (hxC.and (g := 0) (hX231 (d := 19) hA1 (by omega) a1 a2 a3) (fun g => hP231 a1 a2 a3 hK1 hN2 h10 e5 hO hD.1 hD.2.1 hD.2.2 h70 H1))) ?_
  rintro _ A2 ⟨⟨⟨hA2, z2, rfl⟩, A2v, v2, z2v, e2, f2⟩, w2, H2⟩
  have q1 : z1 = z1v := by injection e1 with e; injection e
  have q2 : z2 = z2v := by injection e2 with e; injection e
  refine ⟨z2, rfl, by rw [q1, q2]; exact huIf_one f1 f2, N + 72, by omega, ?_⟩
  exact ⟨hJ.mono (hJ.self hA2) (by omega) (by omega), hIB0.q ((w1.le (by decide +kernel : ug_wle uw121 uwB = true)).trans (w2.le (by decide +kernel : ug_wle uw231 uwB = true))) H2 bl.2 (uf_lv hA), hX0.two hA uH H1 w1 w2 (by decide +kernel) (by decide +kernel)⟩
