theorem hpr_lives {N : Int} {A : hs_A} (hA : hJ 0 N (N + 72) A A) (hN : N ≤ 800000) (hI : hIC A) (a1 : Int32) : hxC 26 111 hm_m111 [.ref 1, .int a1] A (fun r A1 => ∃ z : Int32, r = some (.int z) ∧ hxC 26 221 hm_m221 [.ref 368, .int a1] A1 (fun r2 A2 => ∃ z2 : Int32, r2 = some (.int z2) ∧ z = z2 ∧ ∃ N' : Int, N' ≤ N + 144 ∧ hJ 0 N' (N' + 72) A2 A2 ∧ hIC A2)) := by
  have lH := hHn.le hA
  obtain ⟨hIB0, hX0⟩ := id hI
  obtain ⟨hN0, hP0, hS0, D, hC0⟩ := id hX0
  obtain ⟨n, hn⟩ : ∃ n : Nat, hHn A = (n : Int) := ⟨(hHn A).toNat, by omega⟩
  have h10 : n ≤ 10 := by omega
  have hN9 : hNw (n : Int) A := by rw [← hn]; exact hN0
  have hL : hdL 26 (A.2.1 395) n A := hN9.1.d h10
  obtain ⟨T, hT, h3, -⟩ := hA.T
  have hTn : (A.1 T 4).toInt = (n : Int) := (congrArg Int32.toInt (hIB0.2.1 T h3)).trans hn
  have hN2 : A.2.1 376 (A.1 367 18).toNatClampNeg = Int32.ofNat n := huI hn (by omega)
  refine hxC.post (hxC.and (g := 0) (hX111 (d := 25) hA a1) (fun g => hP111 a1 hT h3 hTn hL)) ?_
  rintro _ _ ⟨⟨rfl, z1, rfl⟩, A1v, v1, -, z1v, e1, f1⟩
  refine ⟨z1, rfl, ?_⟩
  refine hxC.post (hxC.and (g := 0) (hX221 (d := 25) hA a1) (fun g => hP221 a1 hC0.2.1 hN2 h10 (fun _ _ => rfl))) ?_
  rintro _ _ ⟨⟨rfl, z2, rfl⟩, A2v, v2, -, z2v, e2, f2⟩
  have q1 : z1 = z1v := by injection e1 with e; injection e
  have q2 : z2 = z2v := by injection e2 with e; injection e
  exact ⟨z2, rfl, by rw [q1, q2]; exact huLi_one f1 f2, N + 72, by omega, hJ.mono hA (by omega) (by omega), hI⟩
theorem hpr_needs {N : Int} {A : hs_A} (hA : hJ 0 N (N + 72) A A) (hN : N ≤ 800000) (hI : hIC A) (a1 : Int32) : hxC 26 117 hm_m117 [.ref 1, .int a1] A (fun r A1 => ∃ z : Int32, r = some (.int z) ∧ hxC 26 228 hm_m228 [.ref 368, .int a1] A1 (fun r2 A2 => ∃ z2 : Int32, r2 = some (.int z2) ∧ z = z2 ∧ ∃ N' : Int, N' ≤ N + 144 ∧ hJ 0 N' (N' + 72) A2 A2 ∧ hIC A2)) := by
  have lH := hHn.le hA
  obtain ⟨hIB0, hX0⟩ := id hI
  obtain ⟨hN0, hP0, hS0, D, hC0⟩ := id hX0
  obtain ⟨n, hn⟩ : ∃ n : Nat, hHn A = (n : Int) := ⟨(hHn A).toNat, by omega⟩
  have h10 : n ≤ 10 := by omega
  have hN9 : hNw (n : Int) A := by rw [← hn]; exact hN0
  have hL : hdL 26 (A.2.1 395) n A := hN9.1.d h10
  obtain ⟨T, hT, h3, -⟩ := hA.T
  have hTn : (A.1 T 4).toInt = (n : Int) := (congrArg Int32.toInt (hIB0.2.1 T h3)).trans hn
  have hN2 : A.2.1 376 (A.1 367 18).toNatClampNeg = Int32.ofNat n := huI hn (by omega)
  refine hxC.post (hxC.and (g := 0) (hX117 (d := 24) hA a1) (fun g => hP117 a1 hT h3 hTn hL)) ?_
  rintro _ _ ⟨⟨rfl, z1, rfl⟩, A1v, v1, -, z1v, e1, f1⟩
  refine ⟨z1, rfl, ?_⟩
  refine hxC.post (hxC.and (g := 0) (hX228 (d := 23) hA a1) (fun g => hP228 a1 hC0.2.1 hN2 h10 (fun _ _ => rfl))) ?_
  rintro _ _ ⟨⟨rfl, z2, rfl⟩, A2v, v2, -, z2v, e2, f2⟩
  have q1 : z1 = z1v := by injection e1 with e; injection e
  have q2 : z2 = z2v := by injection e2 with e; injection e
  exact ⟨z2, rfl, by rw [q1, q2]; exact huAt_one f1 f2, N + 72, by omega, hJ.mono hA (by omega) (by omega), hI⟩
theorem hpr_off {N : Int} {A : hs_A} (hA : hJ 0 N (N + 72) A A) (hN : N ≤ 800000) (hI : hIC A) (a1 : Int32) : hxC 26 120 hm_m120 [.ref 1, .int a1] A (fun r A1 => ∃ z : Int32, r = some (.int z) ∧ hxC 26 230 hm_m230 [.ref 368, .int a1] A1 (fun r2 A2 => ∃ z2 : Int32, r2 = some (.int z2) ∧ z = z2 ∧ ∃ N' : Int, N' ≤ N + 144 ∧ hJ 0 N' (N' + 72) A2 A2 ∧ hIC A2)) := by
  have lH := hHn.le hA
  obtain ⟨hIB0, hX0⟩ := id hI
  obtain ⟨hN0, hP0, hS0, D, hC0⟩ := id hX0
  obtain ⟨n, hn⟩ : ∃ n : Nat, hHn A = (n : Int) := ⟨(hHn A).toNat, by omega⟩
  have h10 : n ≤ 10 := by omega
  have hN9 : hNw (n : Int) A := by rw [← hn]; exact hN0
  have hL : hdL 26 (A.2.1 395) n A := hN9.1.d h10
  obtain ⟨T, hT, h3, -⟩ := hA.T
  have hTn : (A.1 T 4).toInt = (n : Int) := (congrArg Int32.toInt (hIB0.2.1 T h3)).trans hn
  have hN2 : A.2.1 376 (A.1 367 18).toNatClampNeg = Int32.ofNat n := huI hn (by omega)
  refine hxC.post (hxC.and (g := 0) (hX120 (d := 24) hA a1) (fun g => hP120 a1 hT h3 hTn hL)) ?_
  rintro _ _ ⟨⟨rfl, z1, rfl⟩, A1v, v1, -, z1v, e1, f1⟩
  refine ⟨z1, rfl, ?_⟩
  refine hxC.post (hxC.and (g := 0) (hX230 (d := 23) hA a1) (fun g => hP230 a1 hC0.2.1 hN2 h10 (fun _ _ => rfl) (fun k hk => hOnb_b01 hL.2.2.2.1 k hk))) ?_
  rintro _ _ ⟨⟨rfl, z2, rfl⟩, A2v, v2, -, z2v, e2, f2⟩
  have q1 : z1 = z1v := by injection e1 with e; injection e
  have q2 : z2 = z2v := by injection e2 with e; injection e
  exact ⟨z2, rfl, by rw [q1, q2]; exact huAt_one f1 f2, N + 72, by omega, hJ.mono hA (by omega) (by omega), hI⟩
theorem hpr_passed {N : Int} {A : hs_A} (hA : hJ 0 N (N + 72) A A) (hN : N ≤ 800000) (hI : hIC A) (a1 : Int32) (a2 : Int32) : hxC 26 81 hm_m81 [.ref 1, .int a1, .int a2] A (fun r A1 => ∃ z : Int32, r = some (.int z) ∧ hxC 26 189 hm_m189 [.ref 368, .int a1, .int a2] A1 (fun r2 A2 => ∃ z2 : Int32, r2 = some (.int z2) ∧ z = z2 ∧ ∃ N' : Int, N' ≤ N + 144 ∧ hJ 0 N' (N' + 72) A2 A2 ∧ hIC A2)) := by
  have bl := hbok.get (hA.1.1 0 1) rfl
  have lH := hHn.le hA
  obtain ⟨hIB0, hX0⟩ := hI
  obtain ⟨hN0, hP0, hS0, D, hC0⟩ := id hX0
  have uH := hIB0.1.1.2.1
  obtain ⟨n, hn⟩ : ∃ n : Nat, hHn A = (n : Int) := ⟨(hHn A).toNat, by omega⟩
  have h10 : n ≤ 10 := by omega
  have hN9 : hNw (n : Int) A := by rw [← hn]; exact hN0
  have hL : hdL 26 (A.2.1 395) n A := hN9.1.d h10
  have hO : huO (A.2.1 395) n := hN9.2
  obtain ⟨T, hT, h3, -⟩ := hA.T
  have hTn : (A.1 T 4).toInt = (n : Int) := (congrArg Int32.toInt (hIB0.2.1 T h3)).trans hn
  refine hxC.post (uf_k81 uH a1 a2 (hxC.and (g := 0) (hX81 (d := 22) hA a1 a2) (fun g => hP81 a1 a2 hT h3 hTn (hC0.1 T h3) hL hO uH))) ?_
  rintro _ A1 ⟨⟨⟨hA1, z1, rfl⟩, A1v, v1, z1v, e1, f1⟩, w1, H1⟩
  refine ⟨z1, rfl, ?_⟩
  have hC1 : hCo D A1 := hC0.uf uH w1 (by decide +kernel) (by decide +kernel) (by decide +kernel)
  have eH1 : hHn A1 = hHn A := hHn.uf w1 (uf_lv hA) (by decide +kernel) (by decide +kernel)
  have hN2 : A1.2.1 376 (A1.1 367 18).toNatClampNeg = Int32.ofNat n := huI (eH1.trans hn) (by omega)
  have e5 : ∀ k, k < 73 → A1.2.1 395 k = A.2.1 395 k := fun k hk => w1.2.1 395 _ _ k rfl hk (by decide +kernel)
  refine hxC.post (uf_k189 H1 a1 a2 (hxC.and (g := 0) (hX189 (d := 21) hA1 (by omega) a1 a2) (fun g => hP189 a1 a2 hC1.2.1 hN2 h10 e5 H1))) ?_
  rintro _ A2 ⟨⟨⟨hA2, z2, rfl⟩, A2v, v2, z2v, e2, f2⟩, w2, H2⟩
  have q1 : z1 = z1v := by injection e1 with e; injection e
  have q2 : z2 = z2v := by injection e2 with e; injection e
  exact ⟨z2, rfl, by rw [q1, q2]; exact huIf_one f1 f2, N + 72, by omega, hJ.mono (hJ.self hA2) (by omega) (by omega), hIB0.q ((w1.le (by decide +kernel : ug_wle uw81 uwB = true)).trans (w2.le (by decide +kernel : ug_wle uw189 uwB = true))) H2 bl.2 (uf_lv hA), hX0.two hA uH H1 w1 w2 (by decide +kernel) (by decide +kernel)⟩
