theorem hpr_feed {N : Int} {A : hs_A} (hA : hJ 0 N (N + 72) A A) (hN : N ≤ 800000) (hI : hIB A) (a1 : Int32) (a2 : Int32) (a3 : Int32) (a4 : Int32) (a5 : Int32) : hxC 26 70 hm_m70 [.ref 1, .int a1, .int a2, .int a3, .int a4, .int a5] A (fun r A1 => ∃ z : Int32, r = some (.int z) ∧ hxC 26 133 hm_m133 [.ref 368, .int a1, .int a2, .int a3, .int a4, .int a5] A1 (fun r2 A2 => ∃ z2 : Int32, r2 = some (.int z2) ∧ z = z2 ∧ ∃ N' : Int, N' ≤ N + 144 ∧ hJ 0 N' (N' + 72) A2 A2 ∧ hIB A2)) := by
  obtain ⟨⟨⟨⟨i1, i2, i3⟩, iH, iP⟩, hHD⟩, hHS, hTD⟩ := hI
  have h10 := hJ.to10 hA
  have bl := hbok.get (hA.1.1 0 1) rfl
  obtain ⟨n, hn⟩ : ∃ n : Nat, (A.1 0 1).toInt = (n : Int) := ⟨(A.1 0 1).toInt.toNat, by omega⟩
  refine hxC.post (uf_k70 iH a1 a2 a3 a4 a5 (hxC.and (g := 0) (hX70q10 (d := 24) h10 a1 a2 a3 a4 a5) (fun g => hP70 a1 a2 a3 a4 a5 hn (by omega)))) ?_
  rintro _ A1 ⟨⟨⟨h1, r1, z, rfl, f1⟩, A1v, v1, -, -, tp1, ta1, tl1, fe1⟩, w1, H1⟩
  refine ⟨z, rfl, ?_⟩
  have t1 := congrArg Int32.toInt r1
  refine hxC.post (uf_k133 H1 a1 a2 a3 a4 a5 (hxC.and (g := 0) (hX133q10 (d := 24) h1 a1 a2 a3 a4 a5) (fun g => hP133 (len := n) a1 a2 a3 a4 a5 (by omega) (by omega)))) ?_
  rintro _ A2 ⟨⟨⟨h2, r2, z2, rfl, f2⟩, A2v, v2, -, -, tp2, ta2, tl2, fe2⟩, w2, H2⟩
  have t2 := congrArg Int32.toInt r2
  have PL := hPLk iP w1 w2 (by decide +kernel) (by decide +kernel) (by decide +kernel) (by decide +kernel)
  refine ⟨z2, rfl, Int32.toInt_inj.mp (by omega), N, by omega, (hJ.end10 h2).1, ⟨⟨⟨by omega, v2.U ((v1.U (i2.fr (by rw [tl1]))).fr (by rw [tl2])), fun i hi => ?_⟩, H2, PL⟩, (((hHD.uf w1 (by decide +kernel) (by decide +kernel))).uf w2 (by decide +kernel) (by decide +kernel))⟩, hBk hHS iH H1 w1 w2 (uf_lv hA) (by decide +kernel) (by decide +kernel), hTk hTD w1 w2 (by decide +kernel) (by decide +kernel) (by decide +kernel) (by decide +kernel)⟩
  have bl2 := hbok.get (h2.1.1 0 1) rfl
  obtain ⟨m, hm⟩ : ∃ m : Nat, (A2.1 0 1).toInt = (m : Int) := ⟨(A2.1 0 1).toInt.toNat, by omega⟩
  have hi2 : i < 2000 := by omega
  have q := hf5_al (f := A.2.1 1) (g := A1.2.1 368) (n := n) (m := m) (a := a1) (b := a2) (c := a3) (d := a4) (e := a5) (fun j hj => ⟨by rw [(i3 j (by omega)).1, ← v1.t2 (show j < 2000 by omega), ta1 368 (by omega)], (i3 j (by omega)).2⟩) (by omega) i (by omega)
  have e1 : A2.2.1 1 i = hf5 (A.2.1 1) n a1 a2 a3 a4 a5 i := by rw [← v2.t1 hi2, ta2 1 (by omega), ← v1.t1 hi2, tp1]
  have e2 : A2.2.1 368 i = hf5 (A1.2.1 368) n a1 a2 a3 a4 a5 i := by rw [← v2.t2 hi2, tp2]
  rw [e1, e2]
  exact q
theorem hpr_back {N : Int} {A : hs_A} (hA : hJ 0 N (N + 72) A A) (hN : N ≤ 800000) (hI : hIB A) (a1 : Int32) : hxC 26 72 hm_m72 [.ref 1, .int a1] A (fun r A1 => ∃ z : Int32, r = some (.int z) ∧ hxC 26 135 hm_m135 [.ref 368, .int a1] A1 (fun r2 A2 => ∃ z2 : Int32, r2 = some (.int z2) ∧ z = z2 ∧ ∃ N' : Int, N' ≤ N + 144 ∧ hJ 0 N' (N' + 72) A2 A2 ∧ hIB A2)) := by
  obtain ⟨⟨⟨⟨i1, i2, i3⟩, iH, iP⟩, hHD⟩, hHS, hTD⟩ := hI
  have h10 := hJ.to10 hA
  refine hxC.post (uf_k72 iH a1 (hxC.and (g := 0) (hX72q10 (d := 25) h10 a1) (fun g => hP72 a1))) ?_
  rintro _ A1 ⟨⟨⟨h1, r1, z, rfl, f1⟩, A1v, v1, -, -, fe1, ta1⟩, w1, H1⟩
  refine ⟨z, rfl, ?_⟩
  refine hxC.post (uf_k135 H1 a1 (hxC.and (g := 0) (hX135q10 (d := 25) h1 a1) (fun g => hP135 a1))) ?_
  rintro _ A2 ⟨⟨⟨h2, r2, z2, rfl, f2⟩, A2v, v2, -, -, fe2, ta2⟩, w2, H2⟩
  have t1 := congrArg Int32.toInt r1
  have t2 := congrArg Int32.toInt r2
  have PL := hPLk iP w1 w2 (by decide +kernel) (by decide +kernel) (by decide +kernel) (by decide +kernel)
  refine ⟨z2, rfl, Int32.toInt_inj.mp (by omega), N, by omega, (hJ.end10 h2).1, ⟨⟨⟨by omega, v2.U ((v1.U (i2.fr (by rw [ta1]))).fr (by rw [ta2])), fun i hi => ?_⟩, H2, PL⟩, (((hHD.uf w1 (by decide +kernel) (by decide +kernel))).uf w2 (by decide +kernel) (by decide +kernel))⟩, hBk hHS iH H1 w1 w2 (uf_lv hA) (by decide +kernel) (by decide +kernel), hTk hTD w1 w2 (by decide +kernel) (by decide +kernel) (by decide +kernel) (by decide +kernel)⟩
  have bl := hbok.get (hA.1.1 0 1) rfl
  have hi2 : i < 2000 := by omega
  rw [← v2.t1 hi2, ← v2.t2 hi2, ta2, ← v1.t1 hi2, ← v1.t2 hi2, ta1]
  exact i3 i (by omega)
theorem hpr_read {N : Int} {A : hs_A} (hA : hJ 0 N (N + 72) A A) (hN : N ≤ 800000) (hI : hIB A)  : hxC 26 73 hm_m73 [.ref 1] A (fun r A1 => ∃ z : Int32, r = some (.int z) ∧ hxC 26 150 hm_m150 [.ref 368] A1 (fun r2 A2 => ∃ z2 : Int32, r2 = some (.int z2) ∧ z = z2 ∧ ∃ N' : Int, N' ≤ N + 144 ∧ hJ 0 N' (N' + 72) A2 A2 ∧ hIB A2)) := by
  obtain ⟨⟨⟨⟨i1, i2, i3⟩, iH, iP⟩, hHD⟩, hHS, hTD⟩ := hI
  have hlv := uf_lv hA
  have bl := hbok.get (hA.1.1 0 1) rfl
  obtain ⟨n, hn⟩ : ∃ n : Nat, (A.1 0 1).toInt = (n : Int) := ⟨(A.1 0 1).toInt.toNat, by omega⟩
  have hBr : ∀ i, i < n → -128 ≤ (A.2.1 1 i).toInt ∧ (A.2.1 1 i).toInt ≤ 127 := fun i hi => (i3 i (by omega)).2
  have K : ∀ (A1 : hs_A) (z : Int32), hJ 0 (N + 72) (N + 144) A1 A1 → (A1.1 0 1).toInt = 0 → A1.1 367 2 = A.1 367 2 → hq_res (ht_K (fun i => (A.2.1 1 i).toInt) n) (ht_W (fun i => (A.2.1 1 i).toInt) n) (fun u => (ht_S (fun i => (A.2.1 1 i).toInt) n u : Int)) (ht_E (fun i => (A.2.1 1 i).toInt) n) z.toInt (A1.1 0 2).toInt → hcU A1 → (∀ j, A1.2.1 368 j = A.2.1 368 j) → uf_H A1 → (∀ f : Nat → Int32, (z.toInt = 0 → ∀ s : Nat, s < 3 → (f s).toInt = 0) → (¬ z.toInt = 0 → ∀ s : Nat, s < 3 → f s = A1.2.1 408 s) → hHd (A1.1 0 10) f) → (∀ v : Int32, (z.toInt = 0 → ∃ y, hq_hs (ht_K (fun i => (A.2.1 1 i).toInt) n) (ht_W (fun i => (A.2.1 1 i).toInt) n) (ht_E (fun i => (A.2.1 1 i).toInt) n) v.toInt y) → (¬ z.toInt = 0 → v = A.2.1 376 (A.1 367 18).toNatClampNeg) → ∀ T, A1.2.2.2 0 3 = T + 1 → A1.1 T 4 = v) → (∀ v : Int32, (z.toInt = 0 → v = Int32.ofNat 0) → (¬ z.toInt = 0 → v = A.1 367 59) → A1.1 340 2 = v) → (A1.1 367 18 = A.1 367 18 ∧ (∀ j, j < 2 → A1.2.1 376 j = A.2.1 376 j) ∧ A1.1 367 59 = A.1 367 59) → hxC 26 150 hm_m150 [.ref 368] A1 (fun r2 A2 => ∃ z2 : Int32, r2 = some (.int z2) ∧ z = z2 ∧ ∃ N' : Int, N' ≤ N + 144 ∧ hJ 0 N' (N' + 72) A2 A2 ∧ hIB A2) := by
    intro A1 z h1 t1 g1 RS1 hU1 kp H1 hd1 hh1 tl1 fr1
    have h1' : hJ 0 (N + 72) (N + 72 + 72) A1 A1 := hJ.mono h1 (by omega) (by omega)
    have lv := h1.2.2.2.1.2.2.2.2
    have g1' := congrArg Int32.toInt g1
    have hT2 : ∀ i, i < n → (A1.2.1 368 i).toInt = (A.2.1 1 i).toInt := fun i hi => by rw [kp i, (i3 i (by omega)).1]
    by_cases q : (A1.1 367 18).toInt = 0
    · refine hxC.post (uf_k150 H1 (hxC.and (g := 0) (hX150q5_1 (d := 18) h1' (by omega) q) (fun g => hP150r (sd := 1) (n := n) (B := fun i => (A.2.1 1 i).toInt) hT2 hBr (by omega) (by omega) (by omega) (by omega) hU1 H1))) ?_
      rintro _ A2 ⟨⟨⟨h2, z2, rfl, f2, g2⟩, A2v, v2, z2v, ez2, RS2, hU2, o2, n2⟩, w2, H2⟩
      have ezz : z2v = z2 := by injection ez2 with e; injection e with e; exact e.symm
      rw [ezz] at RS2 o2 n2
      have hz := hq_res_one RS1 RS2
      have HD : hHd (A2.1 0 10) (A2.2.1 408) := by
        rw [w2.1 0 _ _ 10 rfl rfl (by decide +kernel)]
        refine hd1 _ (fun e s hs => ?_) (fun e s hs => ?_)
        · rw [← v2.a (i := 408) (t := 3) (m := 3) (by rfl) hs]
          exact (o2 (by omega)).2.2.2.2 s (by omega)
        · rw [← v2.a (i := 408) (t := 3) (m := 3) (by rfl) hs]
          exact (n2 (by omega)).1.2.1 408 _ _ s rfl hs (by decide +kernel)
      have hA18 : A2.1 367 18 = A2v.1 367 18 := (v2.f (i := 367) (k := 18) (by rfl) (by rfl)).symm
      have hcl : ∀ l : Nat, (A2v.1 367 18).toInt = (l : Int) → (A2.1 367 18).toNatClampNeg = l := fun l hl => by
        rw [hA18]
        have := hn_cn (j := A2v.1 367 18) (by omega)
        omega
      have hv6 : ∀ j, j < 2 → A2.2.1 376 j = A2v.2.1 376 j := fun j hj => (v2.a (i := 376) (t := 1) (m := 2) (by rfl) hj).symm
      have hc1 := hn_cn (j := A1.1 367 18) (by omega)
      have HS : hHs A2 := by
        intro T hT
        rw [w2.2.2.2 0 _ _ 3 rfl rfl (by decide +kernel)] at hT
        have e4 : A2.1 T 4 = A1.1 T 4 := by
          rcases H1.1 with e | e
          · obtain rfl : T = 2 := by omega
            exact w2.1 2 _ _ 4 rfl rfl (by decide +kernel)
          · obtain rfl : T = 11 := by omega
            exact w2.1 11 _ _ 4 rfl rfl (by decide +kernel)
        rw [e4]
        refine hh1 _ (fun e => ?_) (fun e => ?_) T hT
        · obtain ⟨p1, p2, -⟩ := o2 (by omega)
          rw [hcl 1 p2, hv6 1 (by omega)]
          exact ⟨_, p1⟩
        · obtain ⟨p1, p2⟩ := n2 (by omega)
          have e18 : A2v.1 367 18 = A1.1 367 18 := p1.1 367 _ _ 18 rfl rfl (by decide +kernel)
          rw [hcl 0 (by rw [e18]; omega), hv6 0 (by omega), show A2v.2.1 376 0 = A1.2.1 376 0 from p2, fr1.2.1 0 (by omega), ← fr1.1, show (A1.1 367 18).toNatClampNeg = 0 by omega]
      have TD : A2.1 340 2 = A2.1 367 59 := by
        rw [w2.1 340 _ _ 2 rfl rfl (by decide +kernel), ← v2.f (i := 367) (k := 59) (by rfl) (by rfl)]
        refine tl1 _ (fun e => ?_) (fun e => ?_)
        · exact Int32.toInt_inj.mp ((o2 (by omega)).2.2.2.1.trans hk_0.symm)
        · rw [(n2 (by omega)).1.1 367 _ _ 59 rfl rfl (by decide +kernel), fr1.2.2]
      have PL : A2.1 0 2 = A2.1 367 17 := by rw [w2.1 0 _ _ 2 rfl rfl (by decide +kernel), ← v2.f (i := 367) (k := 17) (by rfl) (by rfl)]; exact Int32.toInt_inj.mp hz.2
      exact ⟨z2, rfl, Int32.toInt_inj.mp hz.1, N + 72 + 72, by omega, hJ.mono h2 (by omega) (by omega), ⟨⟨⟨by rw [g2]; omega, v2.U hU2, fun i hi => absurd hi (by rw [g2]; omega)⟩, H2, PL⟩, HD⟩, HS, TD⟩
    · have q : (A1.1 367 18).toInt = 1 := by omega
      refine hxC.post (uf_k150 H1 (hxC.and (g := 0) (hX150q4_1 (d := 18) h1' (by omega) q) (fun g => hP150r (sd := 0) (n := n) (B := fun i => (A.2.1 1 i).toInt) hT2 hBr (by omega) (by omega) (by omega) (by omega) hU1 H1))) ?_
      rintro _ A2 ⟨⟨⟨h2, z2, rfl, f2, g2⟩, A2v, v2, z2v, ez2, RS2, hU2, o2, n2⟩, w2, H2⟩
      have ezz : z2v = z2 := by injection ez2 with e; injection e with e; exact e.symm
      rw [ezz] at RS2 o2 n2
      have hz := hq_res_one RS1 RS2
      have HD : hHd (A2.1 0 10) (A2.2.1 408) := by
        rw [w2.1 0 _ _ 10 rfl rfl (by decide +kernel)]
        refine hd1 _ (fun e s hs => ?_) (fun e s hs => ?_)
        · rw [← v2.a (i := 408) (t := 3) (m := 3) (by rfl) hs]
          exact (o2 (by omega)).2.2.2.2 s (by omega)
        · rw [← v2.a (i := 408) (t := 3) (m := 3) (by rfl) hs]
          exact (n2 (by omega)).1.2.1 408 _ _ s rfl hs (by decide +kernel)
      have hA18 : A2.1 367 18 = A2v.1 367 18 := (v2.f (i := 367) (k := 18) (by rfl) (by rfl)).symm
      have hcl : ∀ l : Nat, (A2v.1 367 18).toInt = (l : Int) → (A2.1 367 18).toNatClampNeg = l := fun l hl => by
        rw [hA18]
        have := hn_cn (j := A2v.1 367 18) (by omega)
        omega
      have hv6 : ∀ j, j < 2 → A2.2.1 376 j = A2v.2.1 376 j := fun j hj => (v2.a (i := 376) (t := 1) (m := 2) (by rfl) hj).symm
      have hc1 := hn_cn (j := A1.1 367 18) (by omega)
      have HS : hHs A2 := by
        intro T hT
        rw [w2.2.2.2 0 _ _ 3 rfl rfl (by decide +kernel)] at hT
        have e4 : A2.1 T 4 = A1.1 T 4 := by
          rcases H1.1 with e | e
          · obtain rfl : T = 2 := by omega
            exact w2.1 2 _ _ 4 rfl rfl (by decide +kernel)
          · obtain rfl : T = 11 := by omega
            exact w2.1 11 _ _ 4 rfl rfl (by decide +kernel)
        rw [e4]
        refine hh1 _ (fun e => ?_) (fun e => ?_) T hT
        · obtain ⟨p1, p2, -⟩ := o2 (by omega)
          rw [hcl 0 p2, hv6 0 (by omega)]
          exact ⟨_, p1⟩
        · obtain ⟨p1, p2⟩ := n2 (by omega)
          have e18 : A2v.1 367 18 = A1.1 367 18 := p1.1 367 _ _ 18 rfl rfl (by decide +kernel)
          rw [hcl 1 (by rw [e18]; omega), hv6 1 (by omega), show A2v.2.1 376 1 = A1.2.1 376 1 from p2, fr1.2.1 1 (by omega), ← fr1.1, show (A1.1 367 18).toNatClampNeg = 1 by omega]
      have TD : A2.1 340 2 = A2.1 367 59 := by
        rw [w2.1 340 _ _ 2 rfl rfl (by decide +kernel), ← v2.f (i := 367) (k := 59) (by rfl) (by rfl)]
        refine tl1 _ (fun e => ?_) (fun e => ?_)
        · exact Int32.toInt_inj.mp ((o2 (by omega)).2.2.2.1.trans hk_0.symm)
        · rw [(n2 (by omega)).1.1 367 _ _ 59 rfl rfl (by decide +kernel), fr1.2.2]
      have PL : A2.1 0 2 = A2.1 367 17 := by rw [w2.1 0 _ _ 2 rfl rfl (by decide +kernel), ← v2.f (i := 367) (k := 17) (by rfl) (by rfl)]; exact Int32.toInt_inj.mp hz.2
      exact ⟨z2, rfl, Int32.toInt_inj.mp hz.1, N + 72 + 72, by omega, hJ.mono h2 (by omega) (by omega), ⟨⟨⟨by rw [g2]; omega, v2.U hU2, fun i hi => absurd hi (by rw [g2]; omega)⟩, H2, PL⟩, HD⟩, HS, TD⟩
  rcases hA.2.2.2.1.1 with ⟨h3, h4⟩ | ⟨h3, h4⟩
  · refine hxC.post (uf_k73 iH (hX73q42 (d := 0) hA h3 h4 (B := fun i => (A.2.1 1 i).toInt) (n := n) (fun _ _ => rfl) hn hBr i2)) ?_
    rintro _ A1 ⟨⟨h1, z1, rfl, f1, g1, RS1, hU1, kp, o1, n1⟩, w1, H1⟩
    have hd1 : ∀ f : Nat → Int32, (z1.toInt = 0 → ∀ s : Nat, s < 3 → (f s).toInt = 0) → (¬ z1.toInt = 0 → ∀ s : Nat, s < 3 → f s = A1.2.1 408 s) → hHd (A1.1 0 10) f := fun f p q => by
      by_cases e : z1.toInt = 0
      · exact hHd.nil (o1 e).2.2.2.1 (p e)
      · exact hHD.eq (n1 e).2.2.2.2.1 (fun s hs => (q e s hs).trans (w1.2.1 408 _ _ s rfl hs (by decide +kernel)))
    have hh1 : (∀ v : Int32, (z1.toInt = 0 → ∃ y, hq_hs (ht_K (fun i => (A.2.1 1 i).toInt) n) (ht_W (fun i => (A.2.1 1 i).toInt) n) (ht_E (fun i => (A.2.1 1 i).toInt) n) v.toInt y) → (¬ z1.toInt = 0 → v = A.2.1 376 (A.1 367 18).toNatClampNeg) → ∀ T, A1.2.2.2 0 3 = T + 1 → A1.1 T 4 = v) := fun v p q T hT => by
      by_cases e : z1.toInt = 0
      · obtain ⟨r1, r2, -⟩ := o1 e
        obtain rfl : T = 11 := by omega
        obtain ⟨y, hy⟩ := p e
        exact Int32.toInt_inj.mp (hq_hs_one r2 hy).1
      · obtain ⟨r1, r2, -⟩ := n1 e
        obtain rfl : T = 2 := by omega
        rw [r2, q e]
        exact hHS 2 h3
    have tl1 : (∀ v : Int32, (z1.toInt = 0 → v = Int32.ofNat 0) → (¬ z1.toInt = 0 → v = A.1 367 59) → A1.1 340 2 = v) := fun v p q => by
      by_cases e : z1.toInt = 0
      · rw [p e]; exact (o1 e).2.2.1
      · rw [q e, (n1 e).2.2.2.1]; exact hTD
    have fr1 : (A1.1 367 18 = A.1 367 18 ∧ (∀ j, j < 2 → A1.2.1 376 j = A.2.1 376 j) ∧ A1.1 367 59 = A.1 367 59) := ⟨w1.1 367 _ _ 18 rfl rfl (by decide +kernel), fun j hj => w1.2.1 376 _ _ j rfl hj (by decide +kernel), w1.1 367 _ _ 59 rfl rfl (by decide +kernel)⟩
    exact ⟨z1, rfl, K A1 z1 h1 f1 g1 RS1 hU1 kp H1 hd1 hh1 tl1 fr1⟩
  · refine hxC.post (uf_k73 iH (hX73q41 (d := 0) hA h3 h4 (B := fun i => (A.2.1 1 i).toInt) (n := n) (fun _ _ => rfl) hn hBr i2)) ?_
    rintro _ A1 ⟨⟨h1, z1, rfl, f1, g1, RS1, hU1, kp, o1, n1⟩, w1, H1⟩
    have hd1 : ∀ f : Nat → Int32, (z1.toInt = 0 → ∀ s : Nat, s < 3 → (f s).toInt = 0) → (¬ z1.toInt = 0 → ∀ s : Nat, s < 3 → f s = A1.2.1 408 s) → hHd (A1.1 0 10) f := fun f p q => by
      by_cases e : z1.toInt = 0
      · exact hHd.nil (o1 e).2.2.2.1 (p e)
      · exact hHD.eq (n1 e).2.2.2.2.1 (fun s hs => (q e s hs).trans (w1.2.1 408 _ _ s rfl hs (by decide +kernel)))
    have hh1 : (∀ v : Int32, (z1.toInt = 0 → ∃ y, hq_hs (ht_K (fun i => (A.2.1 1 i).toInt) n) (ht_W (fun i => (A.2.1 1 i).toInt) n) (ht_E (fun i => (A.2.1 1 i).toInt) n) v.toInt y) → (¬ z1.toInt = 0 → v = A.2.1 376 (A.1 367 18).toNatClampNeg) → ∀ T, A1.2.2.2 0 3 = T + 1 → A1.1 T 4 = v) := fun v p q T hT => by
      by_cases e : z1.toInt = 0
      · obtain ⟨r1, r2, -⟩ := o1 e
        obtain rfl : T = 2 := by omega
        obtain ⟨y, hy⟩ := p e
        exact Int32.toInt_inj.mp (hq_hs_one r2 hy).1
      · obtain ⟨r1, r2, -⟩ := n1 e
        obtain rfl : T = 11 := by omega
        rw [r2, q e]
        exact hHS 11 h3
    have tl1 : (∀ v : Int32, (z1.toInt = 0 → v = Int32.ofNat 0) → (¬ z1.toInt = 0 → v = A.1 367 59) → A1.1 340 2 = v) := fun v p q => by
      by_cases e : z1.toInt = 0
      · rw [p e]; exact (o1 e).2.2.1
      · rw [q e, (n1 e).2.2.2.1]; exact hTD
    have fr1 : (A1.1 367 18 = A.1 367 18 ∧ (∀ j, j < 2 → A1.2.1 376 j = A.2.1 376 j) ∧ A1.1 367 59 = A.1 367 59) := ⟨w1.1 367 _ _ 18 rfl rfl (by decide +kernel), fun j hj => w1.2.1 376 _ _ j rfl hj (by decide +kernel), w1.1 367 _ _ 59 rfl rfl (by decide +kernel)⟩
    exact ⟨z1, rfl, K A1 z1 h1 f1 g1 RS1 hU1 kp H1 hd1 hh1 tl1 fr1⟩
theorem hpr_place {N : Int} {A : hs_A} (hA : hJ 0 N (N + 72) A A) (hN : N ≤ 800000) (hI : hIB A)  : hxC 26 75 hm_m75 [.ref 1] A (fun r A1 => ∃ z : Int32, r = some (.int z) ∧ hxC 26 151 hm_m151 [.ref 368] A1 (fun r2 A2 => ∃ z2 : Int32, r2 = some (.int z2) ∧ z = z2 ∧ ∃ N' : Int, N' ≤ N + 144 ∧ hJ 0 N' (N' + 72) A2 A2 ∧ hIB A2)) := by
  have bl := hbok.get (hA.1.1 0 1) rfl
  refine hxC.post (hxC.and (g := 0) (hX75 (d := 25) hA) (fun g => hP75)) ?_
  rintro _ _ ⟨⟨rfl, z1, rfl⟩, A1v, v1, -, z1v, e1, f1⟩
  refine ⟨z1, rfl, ?_⟩
  refine hxC.post (hxC.and (g := 0) (hX151 (d := 25) hA) (fun g => hP151)) ?_
  rintro _ _ ⟨⟨rfl, z2, rfl⟩, A2v, v2, -, z2v, e2, f2⟩
  have q1 : z1 = z1v := by injection e1 with e; injection e
  have q2 : z2 = z2v := by injection e2 with e; injection e
  exact ⟨z2, rfl, by rw [q1, q2, f1, f2]; exact hI.1.1.2.2, N + 72, by omega, hJ.mono hA (by omega) (by omega), hI⟩
theorem hpr_house {N : Int} {A : hs_A} (hA : hJ 0 N (N + 72) A A) (hN : N ≤ 800000) (hI : hIB A) (a1 : Int32) (a2 : Int32) : hxC 26 79 hm_m79 [.ref 1, .int a1, .int a2] A (fun r A1 => ∃ z : Int32, r = some (.int z) ∧ hxC 26 188 hm_m188 [.ref 368, .int a1, .int a2] A1 (fun r2 A2 => ∃ z2 : Int32, r2 = some (.int z2) ∧ ∃ N' : Int, N' ≤ N + 144 ∧ hJ 0 N' (N' + 72) A2 A2 ∧ hIB A2)) := by
  have bl := hbok.get (hA.1.1 0 1) rfl
  refine hxC.post (uf_k79 hI.1.1.2.1 a1 a2 (hX79 (d := 22) hA a1 a2)) ?_
  rintro _ A1 ⟨⟨hA1, z1, rfl⟩, wA1, HA1⟩
  refine ⟨z1, rfl, ?_⟩
  refine hxC.post (uf_k188 HA1 a1 a2 (hX188 (d := 22) hA1 (by omega) a1 a2)) ?_
  rintro _ A2 ⟨⟨hA2, z2, rfl⟩, wA2, HA2⟩
  exact ⟨z2, rfl, N + 72, by omega, hJ.mono (hJ.self hA2) (by omega) (by omega), hI.q ((wA1.le (by decide +kernel : ug_wle uw79 uwB = true)).trans (wA2.le (by decide +kernel : ug_wle uw188 uwB = true))) HA2 bl.2 (uf_lv hA)⟩
theorem hpr_passed {N : Int} {A : hs_A} (hA : hJ 0 N (N + 72) A A) (hN : N ≤ 800000) (hI : hIB A) (a1 : Int32) (a2 : Int32) : hxC 26 81 hm_m81 [.ref 1, .int a1, .int a2] A (fun r A1 => ∃ z : Int32, r = some (.int z) ∧ hxC 26 189 hm_m189 [.ref 368, .int a1, .int a2] A1 (fun r2 A2 => ∃ z2 : Int32, r2 = some (.int z2) ∧ ∃ N' : Int, N' ≤ N + 144 ∧ hJ 0 N' (N' + 72) A2 A2 ∧ hIB A2)) := by
  have bl := hbok.get (hA.1.1 0 1) rfl
  refine hxC.post (uf_k81 hI.1.1.2.1 a1 a2 (hX81 (d := 22) hA a1 a2)) ?_
  rintro _ A1 ⟨⟨hA1, z1, rfl⟩, wA1, HA1⟩
  refine ⟨z1, rfl, ?_⟩
  refine hxC.post (uf_k189 HA1 a1 a2 (hX189 (d := 21) hA1 (by omega) a1 a2)) ?_
  rintro _ A2 ⟨⟨hA2, z2, rfl⟩, wA2, HA2⟩
  exact ⟨z2, rfl, N + 72, by omega, hJ.mono (hJ.self hA2) (by omega) (by omega), hI.q ((wA1.le (by decide +kernel : ug_wle uw81 uwB = true)).trans (wA2.le (by decide +kernel : ug_wle uw189 uwB = true))) HA2 bl.2 (uf_lv hA)⟩
theorem hpr_turn {N : Int} {A : hs_A} (hA : hJ 0 N (N + 72) A A) (hN : N ≤ 800000) (hI : hIB A) (a1 : Int32) (a2 : Int32) (b0 : 0 ≤ a2.toInt) (b1 : a2.toInt ≤ 1) : hxC 26 83 hm_m83 [.ref 1, .int a1, .int a2] A (fun r A1 => ∃ z : Int32, r = some (.int z) ∧ hxC 26 191 hm_m191 [.ref 368, .int a1, .int a2] A1 (fun r2 A2 => ∃ z2 : Int32, r2 = some (.int z2) ∧ ∃ N' : Int, N' ≤ N + 144 ∧ hJ 0 N' (N' + 72) A2 A2 ∧ hIB A2)) := by
  have bl := hbok.get (hA.1.1 0 1) rfl
  refine hxC.post (uf_k83 hI.1.1.2.1 a1 a2 (hX83 (d := 22) hA a1 a2 b0 b1)) ?_
  rintro _ A1 ⟨⟨hA1, z1, rfl, _⟩, wA1, HA1⟩
  refine ⟨z1, rfl, ?_⟩
  refine hxC.post (uf_k191 HA1 a1 a2 (hX191 (d := 23) hA1 (by omega) a1 a2 b0 b1)) ?_
  rintro _ A2 ⟨⟨hA2, z2, rfl, _⟩, wA2, HA2⟩
  exact ⟨z2, rfl, N + 72, by omega, hJ.mono (hJ.self hA2) (by omega) (by omega), hI.q ((wA1.le (by decide +kernel : ug_wle uw83 uwB = true)).trans (wA2.le (by decide +kernel : ug_wle uw191 uwB = true))) HA2 bl.2 (uf_lv hA)⟩
theorem hpr_send {N : Int} {A : hs_A} (hA : hJ 0 N (N + 72) A A) (hN : N ≤ 800000) (hI : hIB A) (a1 : Int32) : hxC 26 84 hm_m84 [.ref 1, .int a1] A (fun r A1 => ∃ z : Int32, r = some (.int z) ∧ hxC 26 192 hm_m192 [.ref 368, .int a1] A1 (fun r2 A2 => ∃ z2 : Int32, r2 = some (.int z2) ∧ z = z2 ∧ ∃ N' : Int, N' ≤ N + 144 ∧ hJ 0 N' (N' + 72) A2 A2 ∧ hIB A2)) := by
  have bl := hbok.get (hA.1.1 0 1) rfl
  refine hxC.post (uf_k84 hI.1.1.2.1 a1 (hX84f (d := 22) hA a1 hI.2.1.c)) ?_
  rintro _ A1 ⟨⟨hA1, z1, rfl, f1⟩, w1, H1⟩
  refine ⟨z1, rfl, ?_⟩
  refine hxC.post (uf_k192 H1 a1 (hX192f (d := 23) hA1 (by omega) a1 (hHs.r w1 (uf_lv hA) (by decide +kernel) (by decide +kernel)))) ?_
  rintro _ A2 ⟨⟨hA2, z2, rfl, f2⟩, w2, H2⟩
  exact ⟨z2, rfl, Int32.toInt_inj.mp (by omega), N + 72, by omega, hJ.mono (hJ.self hA2) (by omega) (by omega), hI.q ((w1.le (by decide +kernel : ug_wle uw84 uwB = true)).trans (w2.le (by decide +kernel : ug_wle uw192 uwB = true))) H2 bl.2 (uf_lv hA)⟩
theorem hpr_carry {N : Int} {A : hs_A} (hA : hJ 0 N (N + 72) A A) (hN : N ≤ 800000) (hI : hIB A) (a1 : Int32) (a2 : Int32) : hxC 26 85 hm_m85 [.ref 1, .int a1, .int a2] A (fun r A1 => ∃ z : Int32, r = some (.int z) ∧ hxC 26 193 hm_m193 [.ref 368, .int a1, .int a2] A1 (fun r2 A2 => ∃ z2 : Int32, r2 = some (.int z2) ∧ ∃ N' : Int, N' ≤ N + 144 ∧ hJ 0 N' (N' + 72) A2 A2 ∧ hIB A2)) := by
  have bl := hbok.get (hA.1.1 0 1) rfl
  refine hxC.post (uf_k85 hI.1.1.2.1 a1 a2 (hX85 (d := 22) hA a1 a2)) ?_
  rintro _ A1 ⟨⟨hA1, z1, rfl⟩, wA1, HA1⟩
  refine ⟨z1, rfl, ?_⟩
  refine hxC.post (uf_k193 HA1 a1 a2 (hX193 (d := 23) hA1 (by omega) a1 a2)) ?_
  rintro _ A2 ⟨⟨hA2, z2, rfl⟩, wA2, HA2⟩
  exact ⟨z2, rfl, N + 72, by omega, hJ.mono (hJ.self hA2) (by omega) (by omega), hI.q ((wA1.le (by decide +kernel : ug_wle uw85 uwB = true)).trans (wA2.le (by decide +kernel : ug_wle uw193 uwB = true))) HA2 bl.2 (uf_lv hA)⟩
theorem hpr_change {N : Int} {A : hs_A} (hA : hJ 0 N (N + 72) A A) (hN : N ≤ 800000) (hI : hIB A) (a1 : Int32) (a2 : Int32) : hxC 26 86 hm_m86 [.ref 1, .int a1, .int a2] A (fun r A1 => ∃ z : Int32, r = some (.int z) ∧ hxC 26 195 hm_m195 [.ref 368, .int a1, .int a2] A1 (fun r2 A2 => ∃ z2 : Int32, r2 = some (.int z2) ∧ z = z2 ∧ ∃ N' : Int, N' ≤ N + 144 ∧ hJ 0 N' (N' + 72) A2 A2 ∧ hIB A2)) := by
  have bl := hbok.get (hA.1.1 0 1) rfl
  refine hxC.post (uf_k86 hI.1.1.2.1 a1 a2 (hX86f (d := 22) hA a1 a2 hI.2.1.c)) ?_
  rintro _ A1 ⟨⟨hA1, z1, rfl, f1⟩, w1, H1⟩
  refine ⟨z1, rfl, ?_⟩
  refine hxC.post (uf_k195 H1 a1 a2 (hX195f (d := 23) hA1 (by omega) a1 a2 (hHs.r w1 (uf_lv hA) (by decide +kernel) (by decide +kernel)))) ?_
  rintro _ A2 ⟨⟨hA2, z2, rfl, f2⟩, w2, H2⟩
  exact ⟨z2, rfl, Int32.toInt_inj.mp (by omega), N + 72, by omega, hJ.mono (hJ.self hA2) (by omega) (by omega), hI.q ((w1.le (by decide +kernel : ug_wle uw86 uwB = true)).trans (w2.le (by decide +kernel : ug_wle uw195 uwB = true))) H2 bl.2 (uf_lv hA)⟩
theorem hpr_hours {N : Int} {A : hs_A} (hA : hJ 0 N (N + 72) A A) (hN : N ≤ 800000) (hI : hIB A) (a1 : Int32) : hxC 26 87 hm_m87 [.ref 1, .int a1] A (fun r A1 => ∃ z : Int32, r = some (.int z) ∧ hxC 26 198 hm_m198 [.ref 368, .int a1] A1 (fun r2 A2 => ∃ z2 : Int32, r2 = some (.int z2) ∧ ∃ N' : Int, N' ≤ N + 144 ∧ hJ 0 N' (N' + 72) A2 A2 ∧ hIB A2)) := by
  have bl := hbok.get (hA.1.1 0 1) rfl
  refine hxC.post (uf_k87 hI.1.1.2.1 a1 (hX87 (d := 21) hA a1)) ?_
  rintro _ A1 ⟨⟨hA1, z1, rfl⟩, wA1, HA1⟩
  refine ⟨z1, rfl, ?_⟩
  refine hxC.post (uf_k198 HA1 a1 (hX198 (d := 19) hA1 (by omega) a1)) ?_
  rintro _ A2 ⟨⟨hA2, z2, rfl⟩, wA2, HA2⟩
  exact ⟨z2, rfl, N + 72, by omega, hJ.mono (hJ.self hA2) (by omega) (by omega), hI.q ((wA1.le (by decide +kernel : ug_wle uw87 uwB = true)).trans (wA2.le (by decide +kernel : ug_wle uw198 uwB = true))) HA2 bl.2 (uf_lv hA)⟩
theorem hpr_undo {N : Int} {A : hs_A} (hA : hJ 0 N (N + 72) A A) (hN : N ≤ 800000) (hI : hIB A)  : hxC 26 88 hm_m88 [.ref 1] A (fun r A1 => ∃ z : Int32, r = some (.int z) ∧ hxC 26 199 hm_m199 [.ref 368] A1 (fun r2 A2 => ∃ z2 : Int32, r2 = some (.int z2) ∧ ∃ N' : Int, N' ≤ N + 144 ∧ hJ 0 N' (N' + 72) A2 A2 ∧ hIB A2)) := by
  have bl := hbok.get (hA.1.1 0 1) rfl
  refine hxC.post (uf_k88 hI.1.1.2.1  (hX88 (d := 23) hA )) ?_
  rintro _ A1 ⟨⟨hA1, z1, rfl, _⟩, wA1, HA1⟩
  refine ⟨z1, rfl, ?_⟩
  refine hxC.post (uf_k199 HA1  (hX199 (d := 25) hA1 (by omega) )) ?_
  rintro _ A2 ⟨⟨hA2, z2, rfl, _⟩, wA2, HA2⟩
  exact ⟨z2, rfl, N + 72, by omega, hJ.mono (hJ.self hA2) (by omega) (by omega), hI.q ((wA1.le (by decide +kernel : ug_wle uw88 uwB = true)).trans (wA2.le (by decide +kernel : ug_wle uw199 uwB = true))) HA2 bl.2 (uf_lv hA)⟩
theorem hpr_comes {N : Int} {A : hs_A} (hA : hJ 0 N (N + 72) A A) (hN : N ≤ 800000) (hI : hIB A) (a1 : Int32) (a2 : Int32) : hxC 26 91 hm_m91 [.ref 1, .int a1, .int a2] A (fun r A1 => ∃ z : Int32, r = some (.int z) ∧ hxC 26 204 hm_m204 [.ref 368, .int a1, .int a2] A1 (fun r2 A2 => ∃ z2 : Int32, r2 = some (.int z2) ∧ ∃ N' : Int, N' ≤ N + 144 ∧ hJ 0 N' (N' + 72) A2 A2 ∧ hIB A2)) := by
  have bl := hbok.get (hA.1.1 0 1) rfl
  refine hxC.post (uf_k91 hI.1.1.2.1 a1 a2 (hX91 (d := 19) hA a1 a2)) ?_
  rintro _ A1 ⟨⟨hA1, z1, rfl⟩, wA1, HA1⟩
  refine ⟨z1, rfl, ?_⟩
  refine hxC.post (uf_k204 HA1 a1 a2 (hX204 (d := 19) hA1 (by omega) a1 a2)) ?_
  rintro _ A2 ⟨⟨hA2, z2, rfl⟩, wA2, HA2⟩
  exact ⟨z2, rfl, N + 72, by omega, hJ.mono (hJ.self hA2) (by omega) (by omega), hI.q ((wA1.le (by decide +kernel : ug_wle uw91 uwB = true)).trans (wA2.le (by decide +kernel : ug_wle uw204 uwB = true))) HA2 bl.2 (uf_lv hA)⟩
theorem hpr_last {N : Int} {A : hs_A} (hA : hJ 0 N (N + 72) A A) (hN : N ≤ 800000) (hI : hIB A) (a1 : Int32) : hxC 26 92 hm_m92 [.ref 1, .int a1] A (fun r A1 => ∃ z : Int32, r = some (.int z) ∧ hxC 26 205 hm_m205 [.ref 368, .int a1] A1 (fun r2 A2 => ∃ z2 : Int32, r2 = some (.int z2) ∧ ∃ N' : Int, N' ≤ N + 144 ∧ hJ 0 N' (N' + 72) A2 A2 ∧ hIB A2)) := by
  have bl := hbok.get (hA.1.1 0 1) rfl
  refine hxC.post (uf_k92 hI.1.1.2.1 a1 (hX92 (d := 19) hA a1)) ?_
  rintro _ A1 ⟨⟨hA1, z1, rfl⟩, wA1, HA1⟩
  refine ⟨z1, rfl, ?_⟩
  refine hxC.post (uf_k205 HA1 a1 (hX205 (d := 19) hA1 (by omega) a1)) ?_
  rintro _ A2 ⟨⟨hA2, z2, rfl⟩, wA2, HA2⟩
  exact ⟨z2, rfl, N + 72, by omega, hJ.mono (hJ.self hA2) (by omega) (by omega), hI.q ((wA1.le (by decide +kernel : ug_wle uw92 uwB = true)).trans (wA2.le (by decide +kernel : ug_wle uw205 uwB = true))) HA2 bl.2 (uf_lv hA)⟩
theorem hpr_sendFor {N : Int} {A : hs_A} (hA : hJ 0 N (N + 72) A A) (hN : N ≤ 800000) (hI : hIB A) (a1 : Int32) : hxC 26 93 hm_m93 [.ref 1, .int a1] A (fun r A1 => ∃ z : Int32, r = some (.int z) ∧ hxC 26 206 hm_m206 [.ref 368, .int a1] A1 (fun r2 A2 => ∃ z2 : Int32, r2 = some (.int z2) ∧ ∃ N' : Int, N' ≤ N + 144 ∧ hJ 0 N' (N' + 72) A2 A2 ∧ hIB A2)) := by
  have bl := hbok.get (hA.1.1 0 1) rfl
  refine hxC.post (uf_k93 hI.1.1.2.1 a1 (hX93 (d := 19) hA a1)) ?_
  rintro _ A1 ⟨⟨hA1, z1, rfl⟩, wA1, HA1⟩
  refine ⟨z1, rfl, ?_⟩
  refine hxC.post (uf_k206 HA1 a1 (hX206 (d := 18) hA1 (by omega) a1)) ?_
  rintro _ A2 ⟨⟨hA2, z2, rfl⟩, wA2, HA2⟩
  exact ⟨z2, rfl, N + 72, by omega, hJ.mono (hJ.self hA2) (by omega) (by omega), hI.q ((wA1.le (by decide +kernel : ug_wle uw93 uwB = true)).trans (wA2.le (by decide +kernel : ug_wle uw206 uwB = true))) HA2 bl.2 (uf_lv hA)⟩
theorem hpr_apart {N : Int} {A : hs_A} (hA : hJ 0 N (N + 72) A A) (hN : N ≤ 800000) (hI : hIB A) (a1 : Int32) : hxC 26 94 hm_m94 [.ref 1, .int a1] A (fun r A1 => ∃ z : Int32, r = some (.int z) ∧ hxC 26 207 hm_m207 [.ref 368, .int a1] A1 (fun r2 A2 => ∃ z2 : Int32, r2 = some (.int z2) ∧ ∃ N' : Int, N' ≤ N + 144 ∧ hJ 0 N' (N' + 72) A2 A2 ∧ hIB A2)) := by
  have bl := hbok.get (hA.1.1 0 1) rfl
  refine hxC.post (uf_k94 hI.1.1.2.1 a1 (hX94 (d := 19) hA a1)) ?_
  rintro _ A1 ⟨⟨hA1, z1, rfl⟩, wA1, HA1⟩
  refine ⟨z1, rfl, ?_⟩
  refine hxC.post (uf_k207 HA1 a1 (hX207 (d := 18) hA1 (by omega) a1)) ?_
  rintro _ A2 ⟨⟨hA2, z2, rfl⟩, wA2, HA2⟩
  exact ⟨z2, rfl, N + 72, by omega, hJ.mono (hJ.self hA2) (by omega) (by omega), hI.q ((wA1.le (by decide +kernel : ug_wle uw94 uwB = true)).trans (wA2.le (by decide +kernel : ug_wle uw207 uwB = true))) HA2 bl.2 (uf_lv hA)⟩
theorem hpr_code {N : Int} {A : hs_A} (hA : hJ 0 N (N + 72) A A) (hN : N ≤ 800000) (hI : hIB A) (a1 : Int32) (a2 : Int32) (a3 : Int32) : hxC 26 95 hm_m95 [.ref 1, .int a1, .int a2, .int a3] A (fun r A1 => ∃ z : Int32, r = some (.int z) ∧ hxC 26 208 hm_m208 [.ref 368, .int a1, .int a2, .int a3] A1 (fun r2 A2 => ∃ z2 : Int32, r2 = some (.int z2) ∧ ∃ N' : Int, N' ≤ N + 144 ∧ hJ 0 N' (N' + 72) A2 A2 ∧ hIB A2)) := by
  have bl := hbok.get (hA.1.1 0 1) rfl
  refine hxC.post (uf_k95 hI.1.1.2.1 a1 a2 a3 (hX95 (d := 19) hA a1 a2 a3)) ?_
  rintro _ A1 ⟨⟨hA1, z1, rfl⟩, wA1, HA1⟩
  refine ⟨z1, rfl, ?_⟩
  refine hxC.post (uf_k208 HA1 a1 a2 a3 (hX208 (d := 18) hA1 (by omega) a1 a2 a3)) ?_
  rintro _ A2 ⟨⟨hA2, z2, rfl⟩, wA2, HA2⟩
  exact ⟨z2, rfl, N + 72, by omega, hJ.mono (hJ.self hA2) (by omega) (by omega), hI.q ((wA1.le (by decide +kernel : ug_wle uw95 uwB = true)).trans (wA2.le (by decide +kernel : ug_wle uw208 uwB = true))) HA2 bl.2 (uf_lv hA)⟩
theorem hpr_lost {N : Int} {A : hs_A} (hA : hJ 0 N (N + 72) A A) (hN : N ≤ 800000) (hI : hIB A) (a1 : Int32) : hxC 26 97 hm_m97 [.ref 1, .int a1] A (fun r A1 => ∃ z : Int32, r = some (.int z) ∧ hxC 26 209 hm_m209 [.ref 368, .int a1] A1 (fun r2 A2 => ∃ z2 : Int32, r2 = some (.int z2) ∧ ∃ N' : Int, N' ≤ N + 144 ∧ hJ 0 N' (N' + 72) A2 A2 ∧ hIB A2)) := by
  have bl := hbok.get (hA.1.1 0 1) rfl
  refine hxC.post (uf_k97 hI.1.1.2.1 a1 (hX97 (d := 19) hA a1)) ?_
  rintro _ A1 ⟨⟨hA1, z1, rfl⟩, wA1, HA1⟩
  refine ⟨z1, rfl, ?_⟩
  refine hxC.post (uf_k209 HA1 a1 (hX209 (d := 19) hA1 (by omega) a1)) ?_
  rintro _ A2 ⟨⟨hA2, z2, rfl⟩, wA2, HA2⟩
  exact ⟨z2, rfl, N + 72, by omega, hJ.mono (hJ.self hA2) (by omega) (by omega), hI.q ((wA1.le (by decide +kernel : ug_wle uw97 uwB = true)).trans (wA2.le (by decide +kernel : ug_wle uw209 uwB = true))) HA2 bl.2 (uf_lv hA)⟩
theorem hpr_between {N : Int} {A : hs_A} (hA : hJ 0 N (N + 72) A A) (hN : N ≤ 800000) (hI : hIB A) (a1 : Int32) (a2 : Int32) (a3 : Int32) : hxC 26 98 hm_m98 [.ref 1, .int a1, .int a2, .int a3] A (fun r A1 => ∃ z : Int32, r = some (.int z) ∧ hxC 26 210 hm_m210 [.ref 368, .int a1, .int a2, .int a3] A1 (fun r2 A2 => ∃ z2 : Int32, r2 = some (.int z2) ∧ ∃ N' : Int, N' ≤ N + 144 ∧ hJ 0 N' (N' + 72) A2 A2 ∧ hIB A2)) := by
  have bl := hbok.get (hA.1.1 0 1) rfl
  refine hxC.post (uf_k98 hI.1.1.2.1 a1 a2 a3 (hX98 (d := 19) hA a1 a2 a3)) ?_
  rintro _ A1 ⟨⟨hA1, z1, rfl⟩, wA1, HA1⟩
  refine ⟨z1, rfl, ?_⟩
  refine hxC.post (uf_k210 HA1 a1 a2 a3 (hX210 (d := 19) hA1 (by omega) a1 a2 a3)) ?_
  rintro _ A2 ⟨⟨hA2, z2, rfl⟩, wA2, HA2⟩
  exact ⟨z2, rfl, N + 72, by omega, hJ.mono (hJ.self hA2) (by omega) (by omega), hI.q ((wA1.le (by decide +kernel : ug_wle uw98 uwB = true)).trans (wA2.le (by decide +kernel : ug_wle uw210 uwB = true))) HA2 bl.2 (uf_lv hA)⟩
theorem hpr_widest {N : Int} {A : hs_A} (hA : hJ 0 N (N + 72) A A) (hN : N ≤ 800000) (hI : hIB A) (a1 : Int32) (a2 : Int32) : hxC 26 99 hm_m99 [.ref 1, .int a1, .int a2] A (fun r A1 => ∃ z : Int32, r = some (.int z) ∧ hxC 26 211 hm_m211 [.ref 368, .int a1, .int a2] A1 (fun r2 A2 => ∃ z2 : Int32, r2 = some (.int z2) ∧ ∃ N' : Int, N' ≤ N + 144 ∧ hJ 0 N' (N' + 72) A2 A2 ∧ hIB A2)) := by
  have bl := hbok.get (hA.1.1 0 1) rfl
  refine hxC.post (uf_k99 hI.1.1.2.1 a1 a2 (hX99 (d := 19) hA a1 a2)) ?_
  rintro _ A1 ⟨⟨hA1, z1, rfl⟩, wA1, HA1⟩
  refine ⟨z1, rfl, ?_⟩
  refine hxC.post (uf_k211 HA1 a1 a2 (hX211 (d := 18) hA1 (by omega) a1 a2)) ?_
  rintro _ A2 ⟨⟨hA2, z2, rfl⟩, wA2, HA2⟩
  exact ⟨z2, rfl, N + 72, by omega, hJ.mono (hJ.self hA2) (by omega) (by omega), hI.q ((wA1.le (by decide +kernel : ug_wle uw99 uwB = true)).trans (wA2.le (by decide +kernel : ug_wle uw211 uwB = true))) HA2 bl.2 (uf_lv hA)⟩
theorem hpr_same {N : Int} {A : hs_A} (hA : hJ 0 N (N + 72) A A) (hN : N ≤ 800000) (hI : hIB A) (a1 : Int32) (a2 : Int32) : hxC 26 100 hm_m100 [.ref 1, .int a1, .int a2] A (fun r A1 => ∃ z : Int32, r = some (.int z) ∧ hxC 26 212 hm_m212 [.ref 368, .int a1, .int a2] A1 (fun r2 A2 => ∃ z2 : Int32, r2 = some (.int z2) ∧ ∃ N' : Int, N' ≤ N + 144 ∧ hJ 0 N' (N' + 72) A2 A2 ∧ hIB A2)) := by
  have bl := hbok.get (hA.1.1 0 1) rfl
  refine hxC.post (uf_k100 hI.1.1.2.1 a1 a2 (hX100 (d := 19) hA a1 a2)) ?_
  rintro _ A1 ⟨⟨hA1, z1, rfl⟩, wA1, HA1⟩
  refine ⟨z1, rfl, ?_⟩
  refine hxC.post (uf_k212 HA1 a1 a2 (hX212 (d := 18) hA1 (by omega) a1 a2)) ?_
  rintro _ A2 ⟨⟨hA2, z2, rfl⟩, wA2, HA2⟩
  exact ⟨z2, rfl, N + 72, by omega, hJ.mono (hJ.self hA2) (by omega) (by omega), hI.q ((wA1.le (by decide +kernel : ug_wle uw100 uwB = true)).trans (wA2.le (by decide +kernel : ug_wle uw212 uwB = true))) HA2 bl.2 (uf_lv hA)⟩
theorem hpr_itself {N : Int} {A : hs_A} (hA : hJ 0 N (N + 72) A A) (hN : N ≤ 800000) (hI : hIB A) (a1 : Int32) : hxC 26 101 hm_m101 [.ref 1, .int a1] A (fun r A1 => ∃ z : Int32, r = some (.int z) ∧ hxC 26 213 hm_m213 [.ref 368, .int a1] A1 (fun r2 A2 => ∃ z2 : Int32, r2 = some (.int z2) ∧ ∃ N' : Int, N' ≤ N + 144 ∧ hJ 0 N' (N' + 72) A2 A2 ∧ hIB A2)) := by
  have bl := hbok.get (hA.1.1 0 1) rfl
  refine hxC.post (uf_k101 hI.1.1.2.1 a1 (hX101 (d := 19) hA a1)) ?_
  rintro _ A1 ⟨⟨hA1, z1, rfl⟩, wA1, HA1⟩
  refine ⟨z1, rfl, ?_⟩
  refine hxC.post (uf_k213 HA1 a1 (hX213 (d := 19) hA1 (by omega) a1)) ?_
  rintro _ A2 ⟨⟨hA2, z2, rfl⟩, wA2, HA2⟩
  exact ⟨z2, rfl, N + 72, by omega, hJ.mono (hJ.self hA2) (by omega) (by omega), hI.q ((wA1.le (by decide +kernel : ug_wle uw101 uwB = true)).trans (wA2.le (by decide +kernel : ug_wle uw213 uwB = true))) HA2 bl.2 (uf_lv hA)⟩
theorem hpr_times {N : Int} {A : hs_A} (hA : hJ 0 N (N + 72) A A) (hN : N ≤ 800000) (hI : hIB A) (a1 : Int32) (a2 : Int32) : hxC 26 102 hm_m102 [.ref 1, .int a1, .int a2] A (fun r A1 => ∃ z : Int32, r = some (.int z) ∧ hxC 26 216 hm_m216 [.ref 368, .int a1, .int a2] A1 (fun r2 A2 => ∃ z2 : Int32, r2 = some (.int z2) ∧ ∃ N' : Int, N' ≤ N + 144 ∧ hJ 0 N' (N' + 72) A2 A2 ∧ hIB A2)) := by
  have bl := hbok.get (hA.1.1 0 1) rfl
  refine hxC.post (uf_k102 hI.1.1.2.1 a1 a2 (hX102 (d := 20) hA a1 a2)) ?_
  rintro _ A1 ⟨⟨hA1, z1, rfl⟩, wA1, HA1⟩
  refine ⟨z1, rfl, ?_⟩
  refine hxC.post (uf_k216 HA1 a1 a2 (hX216 (d := 19) hA1 (by omega) a1 a2)) ?_
  rintro _ A2 ⟨⟨hA2, z2, rfl⟩, wA2, HA2⟩
  exact ⟨z2, rfl, N + 72, by omega, hJ.mono (hJ.self hA2) (by omega) (by omega), hI.q ((wA1.le (by decide +kernel : ug_wle uw102 uwB = true)).trans (wA2.le (by decide +kernel : ug_wle uw216 uwB = true))) HA2 bl.2 (uf_lv hA)⟩
theorem hpr_bestHour {N : Int} {A : hs_A} (hA : hJ 0 N (N + 72) A A) (hN : N ≤ 800000) (hI : hIB A) (a1 : Int32) (a2 : Int32) : hxC 26 105 hm_m105 [.ref 1, .int a1, .int a2] A (fun r A1 => ∃ z : Int32, r = some (.int z) ∧ hxC 26 217 hm_m217 [.ref 368, .int a1, .int a2] A1 (fun r2 A2 => ∃ z2 : Int32, r2 = some (.int z2) ∧ ∃ N' : Int, N' ≤ N + 144 ∧ hJ 0 N' (N' + 72) A2 A2 ∧ hIB A2)) := by
  have bl := hbok.get (hA.1.1 0 1) rfl
  refine hxC.post (uf_k105 hI.1.1.2.1 a1 a2 (hX105 (d := 21) hA a1 a2)) ?_
  rintro _ A1 ⟨⟨hA1, z1, rfl⟩, wA1, HA1⟩
  refine ⟨z1, rfl, ?_⟩
  refine hxC.post (uf_k217 HA1 a1 a2 (hX217 (d := 19) hA1 (by omega) a1 a2)) ?_
  rintro _ A2 ⟨⟨hA2, z2, rfl⟩, wA2, HA2⟩
  exact ⟨z2, rfl, N + 72, by omega, hJ.mono (hJ.self hA2) (by omega) (by omega), hI.q ((wA1.le (by decide +kernel : ug_wle uw105 uwB = true)).trans (wA2.le (by decide +kernel : ug_wle uw217 uwB = true))) HA2 bl.2 (uf_lv hA)⟩
theorem hpr_breakAt {N : Int} {A : hs_A} (hA : hJ 0 N (N + 72) A A) (hN : N ≤ 800000) (hI : hIB A) (a1 : Int32) : hxC 26 106 hm_m106 [.ref 1, .int a1] A (fun r A1 => ∃ z : Int32, r = some (.int z) ∧ hxC 26 218 hm_m218 [.ref 368, .int a1] A1 (fun r2 A2 => ∃ z2 : Int32, r2 = some (.int z2) ∧ ∃ N' : Int, N' ≤ N + 144 ∧ hJ 0 N' (N' + 72) A2 A2 ∧ hIB A2)) := by
  have bl := hbok.get (hA.1.1 0 1) rfl
  refine hxC.post (uf_k106 hI.1.1.2.1 a1 (hX106 (d := 22) hA a1)) ?_
  rintro _ _ ⟨⟨rfl, z1, rfl⟩, wA1, HA1⟩
  refine ⟨z1, rfl, ?_⟩
  refine hxC.post (uf_k218 HA1 a1 (hX218 (d := 23) hA (by omega) a1)) ?_
  rintro _ A2 ⟨⟨hA2, z2, rfl⟩, wA2, HA2⟩
  exact ⟨z2, rfl, N + 72, by omega, hJ.mono (hJ.self hA2) (by omega) (by omega), hI.q ((wA1.le (by decide +kernel : ug_wle uw106 uwB = true)).trans (wA2.le (by decide +kernel : ug_wle uw218 uwB = true))) HA2 bl.2 (uf_lv hA)⟩
theorem hpr_loudest {N : Int} {A : hs_A} (hA : hJ 0 N (N + 72) A A) (hN : N ≤ 800000) (hI : hIB A) (a1 : Int32) (a2 : Int32) : hxC 26 108 hm_m108 [.ref 1, .int a1, .int a2] A (fun r A1 => ∃ z : Int32, r = some (.int z) ∧ hxC 26 219 hm_m219 [.ref 368, .int a1, .int a2] A1 (fun r2 A2 => ∃ z2 : Int32, r2 = some (.int z2) ∧ ∃ N' : Int, N' ≤ N + 144 ∧ hJ 0 N' (N' + 72) A2 A2 ∧ hIB A2)) := by
  have bl := hbok.get (hA.1.1 0 1) rfl
  refine hxC.post (uf_k108 hI.1.1.2.1 a1 a2 (hX108 (d := 20) hA a1 a2)) ?_
  rintro _ A1 ⟨⟨hA1, z1, rfl⟩, wA1, HA1⟩
  refine ⟨z1, rfl, ?_⟩
  refine hxC.post (uf_k219 HA1 a1 a2 (hX219 (d := 20) hA1 (by omega) a1 a2)) ?_
  rintro _ A2 ⟨⟨hA2, z2, rfl⟩, wA2, HA2⟩
  exact ⟨z2, rfl, N + 72, by omega, hJ.mono (hJ.self hA2) (by omega) (by omega), hI.q ((wA1.le (by decide +kernel : ug_wle uw108 uwB = true)).trans (wA2.le (by decide +kernel : ug_wle uw219 uwB = true))) HA2 bl.2 (uf_lv hA)⟩
theorem hpr_warm {N : Int} {A : hs_A} (hA : hJ 0 N (N + 72) A A) (hN : N ≤ 800000) (hI : hIB A) (a1 : Int32) : hxC 26 110 hm_m110 [.ref 1, .int a1] A (fun r A1 => ∃ z : Int32, r = some (.int z) ∧ hxC 26 220 hm_m220 [.ref 368, .int a1] A1 (fun r2 A2 => ∃ z2 : Int32, r2 = some (.int z2) ∧ ∃ N' : Int, N' ≤ N + 144 ∧ hJ 0 N' (N' + 72) A2 A2 ∧ hIB A2)) := by
  have bl := hbok.get (hA.1.1 0 1) rfl
  refine hxC.post (uf_k110 hI.1.1.2.1 a1 (hX110 (d := 20) hA a1)) ?_
  rintro _ A1 ⟨⟨hA1, z1, rfl⟩, wA1, HA1⟩
  refine ⟨z1, rfl, ?_⟩
  refine hxC.post (uf_k220 HA1 a1 (hX220 (d := 19) hA1 (by omega) a1)) ?_
  rintro _ A2 ⟨⟨hA2, z2, rfl⟩, wA2, HA2⟩
  exact ⟨z2, rfl, N + 72, by omega, hJ.mono (hJ.self hA2) (by omega) (by omega), hI.q ((wA1.le (by decide +kernel : ug_wle uw110 uwB = true)).trans (wA2.le (by decide +kernel : ug_wle uw220 uwB = true))) HA2 bl.2 (uf_lv hA)⟩
theorem hpr_lives {N : Int} {A : hs_A} (hA : hJ 0 N (N + 72) A A) (hN : N ≤ 800000) (hI : hIB A) (a1 : Int32) : hxC 26 111 hm_m111 [.ref 1, .int a1] A (fun r A1 => ∃ z : Int32, r = some (.int z) ∧ hxC 26 221 hm_m221 [.ref 368, .int a1] A1 (fun r2 A2 => ∃ z2 : Int32, r2 = some (.int z2) ∧ ∃ N' : Int, N' ≤ N + 144 ∧ hJ 0 N' (N' + 72) A2 A2 ∧ hIB A2)) := by
  have bl := hbok.get (hA.1.1 0 1) rfl
  refine hxC.post (uf_k111 hI.1.1.2.1 a1 (hX111 (d := 25) hA a1)) ?_
  rintro _ _ ⟨⟨rfl, z1, rfl⟩, wA1, HA1⟩
  refine ⟨z1, rfl, ?_⟩
  refine hxC.post (uf_k221 HA1 a1 (hX221 (d := 25) hA a1)) ?_
  rintro _ _ ⟨⟨rfl, z2, rfl⟩, wA2, HA2⟩
  exact ⟨z2, rfl, N + 72, by omega, hJ.mono (hJ.self hA) (by omega) (by omega), hI.q ((wA1.le (by decide +kernel : ug_wle uw111 uwB = true)).trans (wA2.le (by decide +kernel : ug_wle uw221 uwB = true))) HA2 bl.2 (uf_lv hA)⟩
theorem hpr_warmth {N : Int} {A : hs_A} (hA : hJ 0 N (N + 72) A A) (hN : N ≤ 800000) (hI : hIB A) (a1 : Int32) : hxC 26 112 hm_m112 [.ref 1, .int a1] A (fun r A1 => ∃ z : Int32, r = some (.int z) ∧ hxC 26 222 hm_m222 [.ref 368, .int a1] A1 (fun r2 A2 => ∃ z2 : Int32, r2 = some (.int z2) ∧ ∃ N' : Int, N' ≤ N + 144 ∧ hJ 0 N' (N' + 72) A2 A2 ∧ hIB A2)) := by
  have bl := hbok.get (hA.1.1 0 1) rfl
  refine hxC.post (uf_k112 hI.1.1.2.1 a1 (hX112 (d := 21) hA a1)) ?_
  rintro _ A1 ⟨⟨hA1, z1, rfl⟩, wA1, HA1⟩
  refine ⟨z1, rfl, ?_⟩
  refine hxC.post (uf_k222 HA1 a1 (hX222 (d := 20) hA1 (by omega) a1)) ?_
  rintro _ A2 ⟨⟨hA2, z2, rfl⟩, wA2, HA2⟩
  exact ⟨z2, rfl, N + 72, by omega, hJ.mono (hJ.self hA2) (by omega) (by omega), hI.q ((wA1.le (by decide +kernel : ug_wle uw112 uwB = true)).trans (wA2.le (by decide +kernel : ug_wle uw222 uwB = true))) HA2 bl.2 (uf_lv hA)⟩
theorem hpr_then {N : Int} {A : hs_A} (hA : hJ 0 N (N + 72) A A) (hN : N ≤ 800000) (hI : hIB A) (a1 : Int32) (a2 : Int32) (a3 : Int32) : hxC 26 113 hm_m113 [.ref 1, .int a1, .int a2, .int a3] A (fun r A1 => ∃ z : Int32, r = some (.int z) ∧ hxC 26 223 hm_m223 [.ref 368, .int a1, .int a2, .int a3] A1 (fun r2 A2 => ∃ z2 : Int32, r2 = some (.int z2) ∧ ∃ N' : Int, N' ≤ N + 144 ∧ hJ 0 N' (N' + 72) A2 A2 ∧ hIB A2)) := by
  have bl := hbok.get (hA.1.1 0 1) rfl
  refine hxC.post (uf_k113 hI.1.1.2.1 a1 a2 a3 (hX113 (d := 20) hA a1 a2 a3)) ?_
  rintro _ A1 ⟨⟨hA1, z1, rfl⟩, wA1, HA1⟩
  refine ⟨z1, rfl, ?_⟩
  refine hxC.post (uf_k223 HA1 a1 a2 a3 (hX223 (d := 19) hA1 (by omega) a1 a2 a3)) ?_
  rintro _ A2 ⟨⟨hA2, z2, rfl⟩, wA2, HA2⟩
  exact ⟨z2, rfl, N + 72, by omega, hJ.mono (hJ.self hA2) (by omega) (by omega), hI.q ((wA1.le (by decide +kernel : ug_wle uw113 uwB = true)).trans (wA2.le (by decide +kernel : ug_wle uw223 uwB = true))) HA2 bl.2 (uf_lv hA)⟩
theorem hpr_quiet {N : Int} {A : hs_A} (hA : hJ 0 N (N + 72) A A) (hN : N ≤ 800000) (hI : hIB A) (a1 : Int32) (a2 : Int32) : hxC 26 114 hm_m114 [.ref 1, .int a1, .int a2] A (fun r A1 => ∃ z : Int32, r = some (.int z) ∧ hxC 26 224 hm_m224 [.ref 368, .int a1, .int a2] A1 (fun r2 A2 => ∃ z2 : Int32, r2 = some (.int z2) ∧ ∃ N' : Int, N' ≤ N + 144 ∧ hJ 0 N' (N' + 72) A2 A2 ∧ hIB A2)) := by
  have bl := hbok.get (hA.1.1 0 1) rfl
  refine hxC.post (uf_k114 hI.1.1.2.1 a1 a2 (hX114 (d := 21) hA a1 a2)) ?_
  rintro _ A1 ⟨⟨hA1, z1, rfl⟩, wA1, HA1⟩
  refine ⟨z1, rfl, ?_⟩
  refine hxC.post (uf_k224 HA1 a1 a2 (hX224 (d := 20) hA1 (by omega) a1 a2)) ?_
  rintro _ A2 ⟨⟨hA2, z2, rfl⟩, wA2, HA2⟩
  exact ⟨z2, rfl, N + 72, by omega, hJ.mono (hJ.self hA2) (by omega) (by omega), hI.q ((wA1.le (by decide +kernel : ug_wle uw114 uwB = true)).trans (wA2.le (by decide +kernel : ug_wle uw224 uwB = true))) HA2 bl.2 (uf_lv hA)⟩
theorem hpr_mourn {N : Int} {A : hs_A} (hA : hJ 0 N (N + 72) A A) (hN : N ≤ 800000) (hI : hIB A) (a1 : Int32) : hxC 26 115 hm_m115 [.ref 1, .int a1] A (fun r A1 => ∃ z : Int32, r = some (.int z) ∧ hxC 26 226 hm_m226 [.ref 368, .int a1] A1 (fun r2 A2 => ∃ z2 : Int32, r2 = some (.int z2) ∧ ∃ N' : Int, N' ≤ N + 144 ∧ hJ 0 N' (N' + 72) A2 A2 ∧ hIB A2)) := by
  have bl := hbok.get (hA.1.1 0 1) rfl
  refine hxC.post (uf_k115 hI.1.1.2.1 a1 (hX115 (d := 20) hA a1)) ?_
  rintro _ A1 ⟨⟨hA1, z1, rfl⟩, wA1, HA1⟩
  refine ⟨z1, rfl, ?_⟩
  refine hxC.post (uf_k226 HA1 a1 (hX226 (d := 19) hA1 (by omega) a1)) ?_
  rintro _ A2 ⟨⟨hA2, z2, rfl⟩, wA2, HA2⟩
  exact ⟨z2, rfl, N + 72, by omega, hJ.mono (hJ.self hA2) (by omega) (by omega), hI.q ((wA1.le (by decide +kernel : ug_wle uw115 uwB = true)).trans (wA2.le (by decide +kernel : ug_wle uw226 uwB = true))) HA2 bl.2 (uf_lv hA)⟩
theorem hpr_carryBest {N : Int} {A : hs_A} (hA : hJ 0 N (N + 72) A A) (hN : N ≤ 800000) (hI : hIB A) (a1 : Int32) : hxC 26 116 hm_m116 [.ref 1, .int a1] A (fun r A1 => ∃ z : Int32, r = some (.int z) ∧ hxC 26 227 hm_m227 [.ref 368, .int a1] A1 (fun r2 A2 => ∃ z2 : Int32, r2 = some (.int z2) ∧ ∃ N' : Int, N' ≤ N + 144 ∧ hJ 0 N' (N' + 72) A2 A2 ∧ hIB A2)) := by
  have bl := hbok.get (hA.1.1 0 1) rfl
  refine hxC.post (uf_k116 hI.1.1.2.1 a1 (hX116 (d := 24) hA a1)) ?_
  rintro _ _ ⟨⟨rfl, z1, rfl⟩, wA1, HA1⟩
  refine ⟨z1, rfl, ?_⟩
  refine hxC.post (uf_k227 HA1 a1 (hX227 (d := 24) hA a1)) ?_
  rintro _ _ ⟨⟨rfl, z2, rfl⟩, wA2, HA2⟩
  exact ⟨z2, rfl, N + 72, by omega, hJ.mono (hJ.self hA) (by omega) (by omega), hI.q ((wA1.le (by decide +kernel : ug_wle uw116 uwB = true)).trans (wA2.le (by decide +kernel : ug_wle uw227 uwB = true))) HA2 bl.2 (uf_lv hA)⟩
theorem hpr_needs {N : Int} {A : hs_A} (hA : hJ 0 N (N + 72) A A) (hN : N ≤ 800000) (hI : hIB A) (a1 : Int32) : hxC 26 117 hm_m117 [.ref 1, .int a1] A (fun r A1 => ∃ z : Int32, r = some (.int z) ∧ hxC 26 228 hm_m228 [.ref 368, .int a1] A1 (fun r2 A2 => ∃ z2 : Int32, r2 = some (.int z2) ∧ ∃ N' : Int, N' ≤ N + 144 ∧ hJ 0 N' (N' + 72) A2 A2 ∧ hIB A2)) := by
  have bl := hbok.get (hA.1.1 0 1) rfl
  refine hxC.post (uf_k117 hI.1.1.2.1 a1 (hX117 (d := 24) hA a1)) ?_
  rintro _ _ ⟨⟨rfl, z1, rfl⟩, wA1, HA1⟩
  refine ⟨z1, rfl, ?_⟩
  refine hxC.post (uf_k228 HA1 a1 (hX228 (d := 23) hA a1)) ?_
  rintro _ _ ⟨⟨rfl, z2, rfl⟩, wA2, HA2⟩
  exact ⟨z2, rfl, N + 72, by omega, hJ.mono (hJ.self hA) (by omega) (by omega), hI.q ((wA1.le (by decide +kernel : ug_wle uw117 uwB = true)).trans (wA2.le (by decide +kernel : ug_wle uw228 uwB = true))) HA2 bl.2 (uf_lv hA)⟩
theorem hpr_changeBest {N : Int} {A : hs_A} (hA : hJ 0 N (N + 72) A A) (hN : N ≤ 800000) (hI : hIB A) (a1 : Int32) : hxC 26 118 hm_m118 [.ref 1, .int a1] A (fun r A1 => ∃ z : Int32, r = some (.int z) ∧ hxC 26 229 hm_m229 [.ref 368, .int a1] A1 (fun r2 A2 => ∃ z2 : Int32, r2 = some (.int z2) ∧ ∃ N' : Int, N' ≤ N + 144 ∧ hJ 0 N' (N' + 72) A2 A2 ∧ hIB A2)) := by
  have bl := hbok.get (hA.1.1 0 1) rfl
  refine hxC.post (uf_k118 hI.1.1.2.1 a1 (hX118 (d := 20) hA a1)) ?_
  rintro _ A1 ⟨⟨hA1, z1, rfl⟩, wA1, HA1⟩
  refine ⟨z1, rfl, ?_⟩
  refine hxC.post (uf_k229 HA1 a1 (hX229 (d := 19) hA1 (by omega) a1)) ?_
  rintro _ A2 ⟨⟨hA2, z2, rfl⟩, wA2, HA2⟩
  exact ⟨z2, rfl, N + 72, by omega, hJ.mono (hJ.self hA2) (by omega) (by omega), hI.q ((wA1.le (by decide +kernel : ug_wle uw118 uwB = true)).trans (wA2.le (by decide +kernel : ug_wle uw229 uwB = true))) HA2 bl.2 (uf_lv hA)⟩
theorem hpr_off {N : Int} {A : hs_A} (hA : hJ 0 N (N + 72) A A) (hN : N ≤ 800000) (hI : hIB A) (a1 : Int32) : hxC 26 120 hm_m120 [.ref 1, .int a1] A (fun r A1 => ∃ z : Int32, r = some (.int z) ∧ hxC 26 230 hm_m230 [.ref 368, .int a1] A1 (fun r2 A2 => ∃ z2 : Int32, r2 = some (.int z2) ∧ ∃ N' : Int, N' ≤ N + 144 ∧ hJ 0 N' (N' + 72) A2 A2 ∧ hIB A2)) := by
  have bl := hbok.get (hA.1.1 0 1) rfl
  refine hxC.post (uf_k120 hI.1.1.2.1 a1 (hX120 (d := 24) hA a1)) ?_
  rintro _ _ ⟨⟨rfl, z1, rfl⟩, wA1, HA1⟩
  refine ⟨z1, rfl, ?_⟩
  refine hxC.post (uf_k230 HA1 a1 (hX230 (d := 23) hA a1)) ?_
  rintro _ _ ⟨⟨rfl, z2, rfl⟩, wA2, HA2⟩
  exact ⟨z2, rfl, N + 72, by omega, hJ.mono (hJ.self hA) (by omega) (by omega), hI.q ((wA1.le (by decide +kernel : ug_wle uw120 uwB = true)).trans (wA2.le (by decide +kernel : ug_wle uw230 uwB = true))) HA2 bl.2 (uf_lv hA)⟩
theorem hpr_year {N : Int} {A : hs_A} (hA : hJ 0 N (N + 72) A A) (hN : N ≤ 800000) (hI : hIB A) (a1 : Int32) (a2 : Int32) (a3 : Int32) : hxC 26 121 hm_m121 [.ref 1, .int a1, .int a2, .int a3] A (fun r A1 => ∃ z : Int32, r = some (.int z) ∧ hxC 26 231 hm_m231 [.ref 368, .int a1, .int a2, .int a3] A1 (fun r2 A2 => ∃ z2 : Int32, r2 = some (.int z2) ∧ ∃ N' : Int, N' ≤ N + 144 ∧ hJ 0 N' (N' + 72) A2 A2 ∧ hIB A2)) := by
  have bl := hbok.get (hA.1.1 0 1) rfl
  refine hxC.post (uf_k121 hI.1.1.2.1 a1 a2 a3 (hX121 (d := 20) hA a1 a2 a3)) ?_
  rintro _ A1 ⟨⟨hA1, z1, rfl⟩, wA1, HA1⟩
  refine ⟨z1, rfl, ?_⟩
  refine hxC.post (uf_k231 HA1 a1 a2 a3 (hX231 (d := 19) hA1 (by omega) a1 a2 a3)) ?_
  rintro _ A2 ⟨⟨hA2, z2, rfl⟩, wA2, HA2⟩
  exact ⟨z2, rfl, N + 72, by omega, hJ.mono (hJ.self hA2) (by omega) (by omega), hI.q ((wA1.le (by decide +kernel : ug_wle uw121 uwB = true)).trans (wA2.le (by decide +kernel : ug_wle uw231 uwB = true))) HA2 bl.2 (uf_lv hA)⟩
theorem hpr_tell {N : Int} {A : hs_A} (hA : hJ 0 N (N + 72) A A) (hN : N ≤ 800000) (hI : hIB A) (a1 : Int32) (a2 : Int32) : hxC 26 122 hm_m122 [.ref 1, .int a1, .int a2] A (fun r A1 => ∃ z : Int32, r = some (.int z) ∧ hxC 26 232 hm_m232 [.ref 368, .int a1, .int a2] A1 (fun r2 A2 => ∃ z2 : Int32, r2 = some (.int z2) ∧ z = z2 ∧ ∃ N' : Int, N' ≤ N + 144 ∧ hJ 0 N' (N' + 72) A2 A2 ∧ hIB A2)) := by
  have bl := hbok.get (hA.1.1 0 1) rfl
  have bt := hbok.get (hA.1.1 340 2) rfl
  refine hxC.post (uf_k122 hI.1.1.2.1 a1 a2 (hX122f (d := 24) hA a1 a2 hI.2.1.c)) ?_
  rintro _ A1 ⟨⟨hA1, z1, rfl, f1⟩, w1, H1⟩
  refine ⟨z1, rfl, ?_⟩
  refine hxC.post (uf_k232 H1 a1 a2 (hX232f (d := 23) hA1 (by omega) a1 a2 (hHs.r w1 (uf_lv hA) (by decide +kernel) (by decide +kernel)))) ?_
  rintro _ A2 ⟨⟨hA2, z2, rfl, f2⟩, w2, H2⟩
  have t0 := congrArg Int32.toInt hI.2.2
  have e1 : A1.1 367 59 = A.1 367 59 := w1.1 367 _ _ 59 rfl rfl (by decide +kernel)
  have e2 : A2.1 340 2 = A1.1 340 2 := w2.1 340 _ _ 2 rfl rfl (by decide +kernel)
  rw [e1] at f2
  have td : (A2.1 340 2).toInt = (A2.1 367 59).toInt := by
    rw [e2]
    rcases f1 with ⟨u1, u2, u3⟩ | ⟨u1, u2, u3⟩
    · rcases f2 with ⟨v1, v2, v3⟩ | ⟨v1, v2, v3⟩
      · rw [u3, v3]; exact t0
      · exact absurd v2 (by omega)
    · rcases f2 with ⟨v1, v2, v3⟩ | ⟨v1, v2, v3⟩
      · exact absurd u2 (by omega)
      · rw [u3, v3, t0]
  have ez : z1.toInt = z2.toInt := by
    rcases f1 with ⟨u1, u2, u3⟩ | ⟨u1, u2, u3⟩
    · rcases f2 with ⟨v1, v2, v3⟩ | ⟨v1, v2, v3⟩
      · omega
      · exact absurd v2 (by omega)
    · rcases f2 with ⟨v1, v2, v3⟩ | ⟨v1, v2, v3⟩
      · exact absurd u2 (by omega)
      · omega
  exact ⟨z2, rfl, Int32.toInt_inj.mp ez, N + 72, by omega, hJ.mono (hJ.self hA2) (by omega) (by omega), ⟨(hI.1.1.uf w1 H1 (by decide +kernel) bl.2).uf w2 H2 (by decide +kernel) (by rw [w1.1 0 _ _ 1 rfl rfl (by decide +kernel)]; exact bl.2), (hI.1.2.uf w1 (by decide +kernel) (by decide +kernel)).uf w2 (by decide +kernel) (by decide +kernel)⟩, hBk hI.2.1 hI.1.1.2.1 H1 w1 w2 (uf_lv hA) (by decide +kernel) (by decide +kernel), Int32.toInt_inj.mp td⟩
theorem hpr_forget {N : Int} {A : hs_A} (hA : hJ 0 N (N + 72) A A) (hN : N ≤ 800000) (hI : hIB A)  : hxC 26 123 hm_m123 [.ref 1] A (fun r A1 => ∃ z : Int32, r = some (.int z) ∧ hxC 26 233 hm_m233 [.ref 368] A1 (fun r2 A2 => ∃ z2 : Int32, r2 = some (.int z2) ∧ z = z2 ∧ ∃ N' : Int, N' ≤ N + 144 ∧ hJ 0 N' (N' + 72) A2 A2 ∧ hIB A2)) := by
  have bl := hbok.get (hA.1.1 0 1) rfl
  refine hxC.post (uf_k123 hI.1.1.2.1 (hX123f (d := 25) hA)) ?_
  rintro _ A1 ⟨⟨hA1, z1, rfl, f1, g1⟩, w1, H1⟩
  refine ⟨z1, rfl, ?_⟩
  refine hxC.post (uf_k233 H1 (hX233f (d := 25) hA1 (by omega))) ?_
  rintro _ A2 ⟨⟨hA2, z2, rfl, f2, g2⟩, w2, H2⟩
  have e1 : A1.1 367 59 = A.1 367 59 := w1.1 367 _ _ 59 rfl rfl (by decide +kernel)
  have e2 : A2.1 340 2 = A1.1 340 2 := w2.1 340 _ _ 2 rfl rfl (by decide +kernel)
  exact ⟨z2, rfl, by rw [f1, f2, e1]; exact hI.2.2, N + 72, by omega, hJ.mono (hJ.self hA2) (by omega) (by omega), ⟨(hI.1.1.uf w1 H1 (by decide +kernel) bl.2).uf w2 H2 (by decide +kernel) (by rw [w1.1 0 _ _ 1 rfl rfl (by decide +kernel)]; exact bl.2), (hI.1.2.uf w1 (by decide +kernel) (by decide +kernel)).uf w2 (by decide +kernel) (by decide +kernel)⟩, hBk hI.2.1 hI.1.1.2.1 H1 w1 w2 (uf_lv hA) (by decide +kernel) (by decide +kernel), by rw [e2, g1, g2]⟩
theorem hpr_sent {N : Int} {A : hs_A} (hA : hJ 0 N (N + 72) A A) (hN : N ≤ 800000) (hI : hIB A) (a1 : Int32) (a2 : Int32) : hxC 26 125 hm_m125 [.ref 1, .int a1, .int a2] A (fun r A1 => ∃ z : Int32, r = some (.int z) ∧ hxC 26 235 hm_m235 [.ref 368, .int a1, .int a2] A1 (fun r2 A2 => ∃ z2 : Int32, r2 = some (.int z2) ∧ ∃ N' : Int, N' ≤ N + 144 ∧ hJ 0 N' (N' + 72) A2 A2 ∧ hIB A2)) := by
  have bl := hbok.get (hA.1.1 0 1) rfl
  refine hxC.post (uf_k125 hI.1.1.2.1 a1 a2 (hX125 (d := 18) hA a1 a2)) ?_
  rintro _ A1 ⟨⟨hA1, z1, rfl⟩, wA1, HA1⟩
  refine ⟨z1, rfl, ?_⟩
  refine hxC.post (uf_k235 HA1 a1 a2 (hX235 (d := 18) hA1 (by omega) a1 a2)) ?_
  rintro _ A2 ⟨⟨hA2, z2, rfl⟩, wA2, HA2⟩
  exact ⟨z2, rfl, N + 72, by omega, hJ.mono (hJ.self hA2) (by omega) (by omega), hI.q ((wA1.le (by decide +kernel : ug_wle uw125 uwB = true)).trans (wA2.le (by decide +kernel : ug_wle uw235 uwB = true))) HA2 bl.2 (uf_lv hA)⟩
theorem hpr_listen {N : Int} {A : hs_A} (hA : hJ 0 N (N + 72) A A) (hN : N ≤ 800000) (hI : hIB A) (a1 : Int32) : hxC 26 126 hm_m126 [.ref 1, .int a1] A (fun r A1 => ∃ z : Int32, r = some (.int z) ∧ hxC 26 237 hm_m237 [.ref 368, .int a1] A1 (fun r2 A2 => ∃ z2 : Int32, r2 = some (.int z2) ∧ ∃ N' : Int, N' ≤ N + 144 ∧ hJ 0 N' (N' + 72) A2 A2 ∧ hIB A2)) := by
  have bl := hbok.get (hA.1.1 0 1) rfl
  refine hxC.post (uf_k126 hI.1.1.2.1 a1 (hX126 (d := 18) hA a1)) ?_
  rintro _ A1 ⟨⟨hA1, z1, rfl⟩, wA1, HA1⟩
  refine ⟨z1, rfl, ?_⟩
  refine hxC.post (uf_k237 HA1 a1 (hX237 (d := 18) hA1 (by omega) a1)) ?_
  rintro _ A2 ⟨⟨hA2, z2, rfl⟩, wA2, HA2⟩
  exact ⟨z2, rfl, N + 72, by omega, hJ.mono (hJ.self hA2) (by omega) (by omega), hI.q ((wA1.le (by decide +kernel : ug_wle uw126 uwB = true)).trans (wA2.le (by decide +kernel : ug_wle uw237 uwB = true))) HA2 bl.2 (uf_lv hA)⟩
theorem hpr_hold {N : Int} {A : hs_A} (hA : hJ 0 N (N + 72) A A) (hN : N ≤ 800000) (hI : hIB A) (a1 : Int32) : hxC 26 128 hm_m128 [.ref 1, .int a1] A (fun r A1 => ∃ z : Int32, r = some (.int z) ∧ hxC 26 238 hm_m238 [.ref 368, .int a1] A1 (fun r2 A2 => ∃ z2 : Int32, r2 = some (.int z2) ∧ z = z2 ∧ ∃ N' : Int, N' ≤ N + 144 ∧ hJ 0 N' (N' + 72) A2 A2 ∧ hIB A2)) := by
  have bl := hbok.get (hA.1.1 0 1) rfl
  refine hxC.post (uf_k128 hI.1.1.2.1 a1 (hX128f (d := 24) hA a1 hI.1.1.2.1)) ?_
  rintro _ A1 ⟨⟨hA1, z1, rfl, f1⟩, w1, H1⟩
  refine ⟨z1, rfl, ?_⟩
  refine hxC.post (uf_k238 H1 a1 (hX238f (d := 24) hA1 (by omega) a1)) ?_
  rintro _ A2 ⟨⟨hA2, z2, rfl, f2⟩, w2, H2⟩
  have e2 : A2.1 0 10 = A1.1 0 10 := w2.1 0 _ _ 10 rfl rfl (by decide +kernel)
  have e1 : ∀ s, s < 3 → A1.2.1 408 s = A.2.1 408 s := fun s hs => w1.2.1 408 _ _ s rfl hs (by decide +kernel)
  refine ⟨z2, rfl, Int32.toInt_inj.mp (by omega), N + 72, by omega, hJ.mono (hJ.self hA2) (by omega) (by omega), ⟨(hI.1.1.uf w1 H1 (by decide +kernel) bl.2).uf w2 H2 (by decide +kernel) (by rw [w1.1 0 _ _ 1 rfl rfl (by decide +kernel)]; exact bl.2), ?_⟩, hBk hI.2.1 hI.1.1.2.1 H1 w1 w2 (uf_lv hA) (by decide +kernel) (by decide +kernel), hTk hI.2.2 w1 w2 (by decide +kernel) (by decide +kernel) (by decide +kernel) (by decide +kernel)⟩
  rcases f1 with ⟨q1, q2, q3, q4⟩ | ⟨q1, q2, q4⟩
  · rcases f2 with ⟨p1, p2, p3, p4⟩ | ⟨p1, p2, p4⟩
    · exact hI.1.2.hold q2 q3 (e2.trans q4) (fun s hs => by rw [p4 s, e1 s hs])
    · exact absurd p2 (by omega)
  · rcases f2 with ⟨p1, p2, p3, p4⟩ | ⟨p1, p2, p4⟩
    · exact absurd q2 (by omega)
    · exact hI.1.2.eq (e2.trans q4) (fun s hs => by rw [p4 s, e1 s hs])
theorem hpr_restore {N : Int} {A : hs_A} (hA : hJ 0 N (N + 72) A A) (hN : N ≤ 800000) (hI : hIB A) (a1 : Int32) : hxC 26 129 hm_m129 [.ref 1, .int a1] A (fun r A1 => ∃ z : Int32, r = some (.int z) ∧ hxC 26 239 hm_m239 [.ref 368, .int a1] A1 (fun r2 A2 => ∃ z2 : Int32, r2 = some (.int z2) ∧ z = z2 ∧ ∃ N' : Int, N' ≤ N + 144 ∧ hJ 0 N' (N' + 72) A2 A2 ∧ hIB A2)) := by
  have bl := hbok.get (hA.1.1 0 1) rfl
  refine hxC.post (uf_k129 hI.1.1.2.1 a1 (hX129f (d := 24) hA a1)) ?_
  rintro _ A1 ⟨⟨hA1, z1, rfl, f1⟩, w1, H1⟩
  refine ⟨z1, rfl, ?_⟩
  refine hxC.post (uf_k239 H1 a1 (hX239f (d := 24) hA1 (by omega) a1)) ?_
  rintro _ A2 ⟨⟨hA2, z2, rfl, f2⟩, w2, H2⟩
  have ez : z1 = z2 := by
    apply Int32.toInt_inj.mp
    by_cases q : 0 ≤ a1.toInt ∧ a1.toInt ≤ 2
    · have hb := hI.1.2.bit q.1 q.2
      have hc := hn_cn (j := a1) q.1
      rw [w1.2.1 408 _ _ a1.toNatClampNeg rfl (by omega) (by decide +kernel)] at f2
      omega
    · omega
  exact ⟨z2, rfl, ez, N + 72, by omega, hJ.mono (hJ.self hA2) (by omega) (by omega), hI.q ((w1.le (by decide +kernel : ug_wle uw129 uwB = true)).trans (w2.le (by decide +kernel : ug_wle uw239 uwB = true))) H2 bl.2 (uf_lv hA)⟩
theorem hpr_count {N : Int} {A : hs_A} (hA : hJ 0 N (N + 72) A A) (hN : N ≤ 800000) (hI : hIB A) (a1 : Int32) : hxC 26 130 hm_m130 [.ref 1, .int a1] A (fun r A1 => ∃ z : Int32, r = some (.int z) ∧ hxC 26 241 hm_m241 [.ref 368, .int a1] A1 (fun r2 A2 => ∃ z2 : Int32, r2 = some (.int z2) ∧ ∃ N' : Int, N' ≤ N + 144 ∧ hJ 0 N' (N' + 72) A2 A2 ∧ hIB A2)) := by
  have bl := hbok.get (hA.1.1 0 1) rfl
  refine hxC.post (uf_k130 hI.1.1.2.1 a1 (hX130 (d := 23) hA a1)) ?_
  rintro _ _ ⟨⟨rfl, z1, rfl⟩, wA1, HA1⟩
  refine ⟨z1, rfl, ?_⟩
  refine hxC.post (uf_k241 HA1 a1 (hX241 (d := 23) hA (by omega) a1)) ?_
  rintro _ A2 ⟨⟨hA2, z2, rfl⟩, wA2, HA2⟩
  exact ⟨z2, rfl, N + 72, by omega, hJ.mono (hJ.self hA2) (by omega) (by omega), hI.q ((wA1.le (by decide +kernel : ug_wle uw130 uwB = true)).trans (wA2.le (by decide +kernel : ug_wle uw241 uwB = true))) HA2 bl.2 (uf_lv hA)⟩
