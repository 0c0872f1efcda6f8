theorem hpr_read {N : Int} {A : hs_A} (hA : hJ 0 N (N + 72) A A) (hN : N ≤ 800000) (hI : hIC A)  : hxC 26 73 hm_m73 [.ref 1] A (fun r A1 => ∃ z : Int32, r = some (.int z) ∧ hxC 26 150 hm_m150 [.ref 368] A1 (fun r2 A2 => ∃ z2 : Int32, r2 = some (.int z2) ∧ z = z2 ∧ ∃ N' : Int, N' ≤ N + 144 ∧ hJ 0 N' (N' + 72) A2 A2 ∧ hIC A2)) := by
  obtain ⟨⟨⟨⟨⟨i1, i2, i3⟩, iH, iP⟩, hHD⟩, hHS, hTD⟩, hX0⟩ := hI
  have hlv := uf_lv hA
  have bl := hbok.get (hA.1.1 0 1) rfl
  obtain ⟨n, hn⟩ : ∃ n : Nat, (A.1 0 1).toInt = (n : Int) := ⟨(A.1 0 1).toInt.toNat, by omega⟩
  have hBr : ∀ i, i < n → -128 ≤ (A.2.1 1 i).toInt ∧ (A.2.1 1 i).toInt ≤ 127 := fun i hi => (i3 i (by omega)).2
  have K : ∀ (A1 : hs_A) (z : Int32), hJ 0 (N + 72) (N + 144) A1 A1 → (A1.1 0 1).toInt = 0 → A1.1 367 2 = A.1 367 2 → hq_res (ht_K (fun i => (A.2.1 1 i).toInt) n) (ht_W (fun i => (A.2.1 1 i).toInt) n) (fun u => (ht_S (fun i => (A.2.1 1 i).toInt) n u : Int)) (ht_E (fun i => (A.2.1 1 i).toInt) n) z.toInt (A1.1 0 2).toInt → hcU A1 → (∀ j, A1.2.1 368 j = A.2.1 368 j) → uf_H A1 → (∀ f : Nat → Int32, (z.toInt = 0 → ∀ s : Nat, s < 3 → (f s).toInt = 0) → (¬ z.toInt = 0 → ∀ s : Nat, s < 3 → f s = A1.2.1 408 s) → hHd (A1.1 0 10) f) → (∀ v : Int32, (z.toInt = 0 → ∃ y, hq_hs (ht_K (fun i => (A.2.1 1 i).toInt) n) (ht_W (fun i => (A.2.1 1 i).toInt) n) (ht_E (fun i => (A.2.1 1 i).toInt) n) v.toInt y) → (¬ z.toInt = 0 → v = A.2.1 376 (A.1 367 18).toNatClampNeg) → ∀ T, A1.2.2.2 0 3 = T + 1 → A1.1 T 4 = v) → (∀ v : Int32, (z.toInt = 0 → v = Int32.ofNat 0) → (¬ z.toInt = 0 → v = A.1 367 59) → A1.1 340 2 = v) → (A1.1 367 18 = A.1 367 18 ∧ (∀ j, j < 2 → A1.2.1 376 j = A.2.1 376 j) ∧ A1.1 367 59 = A.1 367 59) → (z.toInt = 0 → A1.1 40 2 = Int32.ofNat 0 ∧ ∃ T, hTT T ∧ A1.2.2.2 0 3 = T + 1 ∧ hBg T A1 A1 ∧ hdQ (ht_K (fun i => (A.2.1 1 i).toInt) n) (ht_W (fun i => (A.2.1 1 i).toInt) n) (ht_E (fun i => (A.2.1 1 i).toInt) n) T A1) → (¬ z.toInt = 0 → hCk A A1) → uf_W uw73 A A1 → hxC 26 150 hm_m150 [.ref 368] A1 (fun r2 A2 => ∃ z2 : Int32, r2 = some (.int z2) ∧ z = z2 ∧ ∃ N' : Int, N' ≤ N + 144 ∧ hJ 0 N' (N' + 72) A2 A2 ∧ hIC A2) := by
    intro A1 z h1 t1 g1 RS1 hU1 kp H1 hd1 hh1 tl1 fr1 lf1 nf1 w1
    have h1' : hJ 0 (N + 72) (N + 72 + 72) A1 A1 := hJ.mono h1 (by omega) (by omega)
    have lv := h1.2.2.2.1.2.2.2.2
    have g1' := congrArg Int32.toInt g1
    have hT2 : ∀ i, i < n → (A1.2.1 368 i).toInt = (A.2.1 1 i).toInt := fun i hi => by rw [kp i, (i3 i (by omega)).1]
    by_cases q : (A1.1 367 18).toInt = 0
    · refine hxC.post (uf_k150 H1 (hxC.and (g := 0) (hX150r5_1 (d := 18) h1' (by omega) q) (fun g => hP150q (sd := 1) (n := n) (B := fun i => (A.2.1 1 i).toInt) hT2 hBr (by omega) (by omega) (by omega) (by omega) hU1 H1))) ?_
      rintro _ A2 ⟨⟨⟨h2, z2, rfl, f2, g2, em2⟩, A2v, v2, z2v, ez2, RS2, hU2, o2, n2⟩, w2, H2⟩
      have ezz : z2v = z2 := by injection ez2 with e; injection e with e; exact e.symm
      rw [ezz] at RS2 o2 n2
      have hz := hq_res_one RS1 RS2
      have HD : hHd (A2.1 0 10) (A2.2.1 408) := by
        rw [w2.1 0 _ _ 10 rfl rfl (by decide +kernel)]
        refine hd1 _ (fun e s hs => ?_) (fun e s hs => ?_)
        · rw [← v2.a (i := 408) (t := 3) (m := 3) (by rfl) hs]
          exact (o2 (by omega)).2.2.2.2.2.2.2 s (by omega)
        · rw [← v2.a (i := 408) (t := 3) (m := 3) (by rfl) hs]
          exact (n2 (by omega)).1.2.1 408 _ _ s rfl hs (by decide +kernel)
      have hA18 : A2.1 367 18 = A2v.1 367 18 := (v2.f (i := 367) (k := 18) (by rfl) (by rfl)).symm
      have hcl : ∀ l : Nat, (A2v.1 367 18).toInt = (l : Int) → (A2.1 367 18).toNatClampNeg = l := fun l hl => by
        rw [hA18]
        have := hn_cn (j := A2v.1 367 18) (by omega)
        omega
      have hv6 : ∀ j, j < 2 → A2.2.1 376 j = A2v.2.1 376 j := fun j hj => (v2.a (i := 376) (t := 1) (m := 2) (by rfl) hj).symm
      have hc1 := hn_cn (j := A1.1 367 18) (by omega)
      have HS : hHs A2 := by
        intro T hT
        rw [w2.2.2.2 0 _ _ 3 rfl rfl (by decide +kernel)] at hT
        have e4 : A2.1 T 4 = A1.1 T 4 := by
          rcases H1.1 with e | e
          · obtain rfl : T = 2 := by omega
            exact w2.1 2 _ _ 4 rfl rfl (by decide +kernel)
          · obtain rfl : T = 11 := by omega
            exact w2.1 11 _ _ 4 rfl rfl (by decide +kernel)
        rw [e4]
        refine hh1 _ (fun e => ?_) (fun e => ?_) T hT
        · obtain ⟨p1, p2, -⟩ := o2 (by omega)
          rw [hcl 1 p2, hv6 1 (by omega)]
          exact ⟨_, p1⟩
        · obtain ⟨p1, p2⟩ := n2 (by omega)
          have e18 : A2v.1 367 18 = A1.1 367 18 := p1.1 367 _ _ 18 rfl rfl (by decide +kernel)
          rw [hcl 0 (by rw [e18]; omega), hv6 0 (by omega), show A2v.2.1 376 0 = A1.2.1 376 0 from p2 376 0 (Or.inl ⟨Or.inl rfl, rfl⟩), fr1.2.1 0 (by omega), ← fr1.1, show (A1.1 367 18).toNatClampNeg = 0 by omega]
      have TD : A2.1 340 2 = A2.1 367 59 := by
        rw [w2.1 340 _ _ 2 rfl rfl (by decide +kernel), ← v2.f (i := 367) (k := 59) (by rfl) (by rfl)]
        refine tl1 _ (fun e => ?_) (fun e => ?_)
        · exact Int32.toInt_inj.mp ((o2 (by omega)).2.2.2.2.2.2.1.trans hk_0.symm)
        · rw [(n2 (by omega)).1.1 367 _ _ 59 rfl rfl (by decide +kernel), fr1.2.2]
      have LC : hCx A2 := by
        by_cases e : z.toInt = 0
        · obtain ⟨y0, T, hT, y1, y2, y3⟩ := lf1 e
          obtain ⟨p1, p2, p3, p4, p5, p6, p7, p8⟩ := o2 (by omega)
          have e3 : A2.2.2.2 0 3 = T + 1 := (w2.2.2.2 0 _ _ 3 rfl rfl (by decide +kernel)).trans y1
          rw [e] at RS1
          exact hCx.new ht_W_ok hT e3 y0 y2 y3 w2 (by decide +kernel) (by decide +kernel) (by decide +kernel) h2 RS1 p1 (by omega) p2 p3 p4 p5 p6 p8 v2
        · obtain ⟨p1, p2⟩ := n2 (by omega)
          have ee : (A.1 367 18).toNatClampNeg = 0 := by rw [← fr1.1]; omega
          have o : hOT (A.1 367 18).toNatClampNeg A1 A2 := by
            rw [ee]
            intro c j hl
            exact (hOT.vis (by omega) (uf_vis (hs_vis_sy v2)) c j hl).trans (p2 c j hl)
          exact hCx.old hX0 hA (nf1 e) w1 (by decide +kernel) H1 (p1.trans (uf_W.le (uf_vis (hs_vis_sy v2)) (by decide +kernel))) o (em2 (by omega)) h2
      have PL : A2.1 0 2 = A2.1 367 17 := by rw [w2.1 0 _ _ 2 rfl rfl (by decide +kernel), ← v2.f (i := 367) (k := 17) (by rfl) (by rfl)]; exact Int32.toInt_inj.mp hz.2
      exact ⟨z2, rfl, Int32.toInt_inj.mp hz.1, N + 72 + 72, by omega, hJ.mono h2 (by omega) (by omega), ⟨⟨⟨⟨by rw [g2]; omega, v2.U hU2, fun i hi => absurd hi (by rw [g2]; omega)⟩, H2, PL⟩, HD⟩, HS, TD⟩, LC⟩
    · have q : (A1.1 367 18).toInt = 1 := by omega
      refine hxC.post (uf_k150 H1 (hxC.and (g := 0) (hX150r4_1 (d := 18) h1' (by omega) q) (fun g => hP150q (sd := 0) (n := n) (B := fun i => (A.2.1 1 i).toInt) hT2 hBr (by omega) (by omega) (by omega) (by omega) hU1 H1))) ?_
      rintro _ A2 ⟨⟨⟨h2, z2, rfl, f2, g2, em2⟩, A2v, v2, z2v, ez2, RS2, hU2, o2, n2⟩, w2, H2⟩
      have ezz : z2v = z2 := by injection ez2 with e; injection e with e; exact e.symm
      rw [ezz] at RS2 o2 n2
      have hz := hq_res_one RS1 RS2
      have HD : hHd (A2.1 0 10) (A2.2.1 408) := by
        rw [w2.1 0 _ _ 10 rfl rfl (by decide +kernel)]
        refine hd1 _ (fun e s hs => ?_) (fun e s hs => ?_)
        · rw [← v2.a (i := 408) (t := 3) (m := 3) (by rfl) hs]
          exact (o2 (by omega)).2.2.2.2.2.2.2 s (by omega)
        · rw [← v2.a (i := 408) (t := 3) (m := 3) (by rfl) hs]
          exact (n2 (by omega)).1.2.1 408 _ _ s rfl hs (by decide +kernel)
      have hA18 : A2.1 367 18 = A2v.1 367 18 := (v2.f (i := 367) (k := 18) (by rfl) (by rfl)).symm
      have hcl : ∀ l : Nat, (A2v.1 367 18).toInt = (l : Int) → (A2.1 367 18).toNatClampNeg = l := fun l hl => by
        rw [hA18]
        have := hn_cn (j := A2v.1 367 18) (by omega)
        omega
      have hv6 : ∀ j, j < 2 → A2.2.1 376 j = A2v.2.1 376 j := fun j hj => (v2.a (i := 376) (t := 1) (m := 2) (by rfl) hj).symm
      have hc1 := hn_cn (j := A1.1 367 18) (by omega)
      have HS : hHs A2 := by
        intro T hT
        rw [w2.2.2.2 0 _ _ 3 rfl rfl (by decide +kernel)] at hT
        have e4 : A2.1 T 4 = A1.1 T 4 := by
          rcases H1.1 with e | e
          · obtain rfl : T = 2 := by omega
            exact w2.1 2 _ _ 4 rfl rfl (by decide +kernel)
          · obtain rfl : T = 11 := by omega
            exact w2.1 11 _ _ 4 rfl rfl (by decide +kernel)
        rw [e4]
        refine hh1 _ (fun e => ?_) (fun e => ?_) T hT
        · obtain ⟨p1, p2, -⟩ := o2 (by omega)
          rw [hcl 0 p2, hv6 0 (by omega)]
          exact ⟨_, p1⟩
        · obtain ⟨p1, p2⟩ := n2 (by omega)
          have e18 : A2v.1 367 18 = A1.1 367 18 := p1.1 367 _ _ 18 rfl rfl (by decide +kernel)
          rw [hcl 1 (by rw [e18]; omega), hv6 1 (by omega), show A2v.2.1 376 1 = A1.2.1 376 1 from p2 376 1 (Or.inl ⟨Or.inl rfl, rfl⟩), fr1.2.1 1 (by omega), ← fr1.1, show (A1.1 367 18).toNatClampNeg = 1 by omega]
      have TD : A2.1 340 2 = A2.1 367 59 := by
        rw [w2.1 340 _ _ 2 rfl rfl (by decide +kernel), ← v2.f (i := 367) (k := 59) (by rfl) (by rfl)]
        refine tl1 _ (fun e => ?_) (fun e => ?_)
        · exact Int32.toInt_inj.mp ((o2 (by omega)).2.2.2.2.2.2.1.trans hk_0.symm)
        · rw [(n2 (by omega)).1.1 367 _ _ 59 rfl rfl (by decide +kernel), fr1.2.2]
      have LC : hCx A2 := by
        by_cases e : z.toInt = 0
        · obtain ⟨y0, T, hT, y1, y2, y3⟩ := lf1 e
          obtain ⟨p1, p2, p3, p4, p5, p6, p7, p8⟩ := o2 (by omega)
          have e3 : A2.2.2.2 0 3 = T + 1 := (w2.2.2.2 0 _ _ 3 rfl rfl (by decide +kernel)).trans y1
          rw [e] at RS1
          exact hCx.new ht_W_ok hT e3 y0 y2 y3 w2 (by decide +kernel) (by decide +kernel) (by decide +kernel) h2 RS1 p1 (by omega) p2 p3 p4 p5 p6 p8 v2
        · obtain ⟨p1, p2⟩ := n2 (by omega)
          have ee : (A.1 367 18).toNatClampNeg = 1 := by rw [← fr1.1]; omega
          have o : hOT (A.1 367 18).toNatClampNeg A1 A2 := by
            rw [ee]
            intro c j hl
            exact (hOT.vis (by omega) (uf_vis (hs_vis_sy v2)) c j hl).trans (p2 c j hl)
          exact hCx.old hX0 hA (nf1 e) w1 (by decide +kernel) H1 (p1.trans (uf_W.le (uf_vis (hs_vis_sy v2)) (by decide +kernel))) o (em2 (by omega)) h2
      have PL : A2.1 0 2 = A2.1 367 17 := by rw [w2.1 0 _ _ 2 rfl rfl (by decide +kernel), ← v2.f (i := 367) (k := 17) (by rfl) (by rfl)]; exact Int32.toInt_inj.mp hz.2
      exact ⟨z2, rfl, Int32.toInt_inj.mp hz.1, N + 72 + 72, by omega, hJ.mono h2 (by omega) (by omega), ⟨⟨⟨⟨by rw [g2]; omega, v2.U hU2, fun i hi => absurd hi (by rw [g2]; omega)⟩, H2, PL⟩, HD⟩, HS, TD⟩, LC⟩
  rcases hA.2.2.2.1.1 with ⟨h3, h4⟩ | ⟨h3, h4⟩
  · refine hxC.post (uf_k73 iH (hX73q52 (d := 0) hA h3 h4 (B := fun i => (A.2.1 1 i).toInt) (n := n) (fun _ _ => rfl) hn hBr i2 iH)) ?_
    rintro _ A1 ⟨⟨h1, z1, rfl, f1, g1, RS1, hU1, kp, o1, n1⟩, w1, H1⟩
    have hd1 : ∀ f : Nat → Int32, (z1.toInt = 0 → ∀ s : Nat, s < 3 → (f s).toInt = 0) → (¬ z1.toInt = 0 → ∀ s : Nat, s < 3 → f s = A1.2.1 408 s) → hHd (A1.1 0 10) f := fun f p q => by
      by_cases e : z1.toInt = 0
      · exact hHd.nil (o1 e).2.2.2.1 (p e)
      · exact hHD.eq (n1 e).2.2.2.2.1 (fun s hs => (q e s hs).trans (w1.2.1 408 _ _ s rfl hs (by decide +kernel)))
    have hh1 : (∀ v : Int32, (z1.toInt = 0 → ∃ y, hq_hs (ht_K (fun i => (A.2.1 1 i).toInt) n) (ht_W (fun i => (A.2.1 1 i).toInt) n) (ht_E (fun i => (A.2.1 1 i).toInt) n) v.toInt y) → (¬ z1.toInt = 0 → v = A.2.1 376 (A.1 367 18).toNatClampNeg) → ∀ T, A1.2.2.2 0 3 = T + 1 → A1.1 T 4 = v) := fun v p q T hT => by
      by_cases e : z1.toInt = 0
      · obtain ⟨r1, r2, -⟩ := o1 e
        obtain rfl : T = 11 := by omega
        obtain ⟨y, hy⟩ := p e
        exact Int32.toInt_inj.mp (hq_hs_one r2 hy).1
      · obtain ⟨r1, r2, -⟩ := n1 e
        obtain rfl : T = 2 := by omega
        rw [r2, q e]
        exact hHS 2 h3
    have tl1 : (∀ v : Int32, (z1.toInt = 0 → v = Int32.ofNat 0) → (¬ z1.toInt = 0 → v = A.1 367 59) → A1.1 340 2 = v) := fun v p q => by
      by_cases e : z1.toInt = 0
      · rw [p e]; exact (o1 e).2.2.1
      · rw [q e, (n1 e).2.2.2.1]; exact hTD
    have lf1 : (z1.toInt = 0 → A1.1 40 2 = Int32.ofNat 0 ∧ ∃ T, hTT T ∧ A1.2.2.2 0 3 = T + 1 ∧ hBg T A1 A1 ∧ hdQ (ht_K (fun i => (A.2.1 1 i).toInt) n) (ht_W (fun i => (A.2.1 1 i).toInt) n) (ht_E (fun i => (A.2.1 1 i).toInt) n) T A1) := fun e => ⟨(o1 e).2.2.2.2.1, 11, (Or.inr rfl), (o1 e).1, (o1 e).2.2.2.2.2.2, (o1 e).2.2.2.2.2.1⟩
    have nf1 : (¬ z1.toInt = 0 → hCk A A1) := fun e => by
      obtain ⟨y1, -, -, -, -, -, y2, y3⟩ := n1 e
      exact ⟨fun i k hi => y2 i k (Or.inl hi), fun i hi => y3 i (Or.inl hi), fun D T hT c => by
        obtain rfl : T = 2 := by omega
        exact (c 2 h3).eq (fun i k a b => y2 i k (Or.inr ⟨a, b⟩)) (fun i a b => y3 i (Or.inr ⟨a, b⟩))⟩
    have fr1 : (A1.1 367 18 = A.1 367 18 ∧ (∀ j, j < 2 → A1.2.1 376 j = A.2.1 376 j) ∧ A1.1 367 59 = A.1 367 59) := ⟨w1.1 367 _ _ 18 rfl rfl (by decide +kernel), fun j hj => w1.2.1 376 _ _ j rfl hj (by decide +kernel), w1.1 367 _ _ 59 rfl rfl (by decide +kernel)⟩
    exact ⟨z1, rfl, K A1 z1 h1 f1 g1 RS1 hU1 kp H1 hd1 hh1 tl1 fr1 lf1 nf1 w1⟩
  · refine hxC.post (uf_k73 iH (hX73q51 (d := 0) hA h3 h4 (B := fun i => (A.2.1 1 i).toInt) (n := n) (fun _ _ => rfl) hn hBr i2 iH)) ?_
    rintro _ A1 ⟨⟨h1, z1, rfl, f1, g1, RS1, hU1, kp, o1, n1⟩, w1, H1⟩
    have hd1 : ∀ f : Nat → Int32, (z1.toInt = 0 → ∀ s : Nat, s < 3 → (f s).toInt = 0) → (¬ z1.toInt = 0 → ∀ s : Nat, s < 3 → f s = A1.2.1 408 s) → hHd (A1.1 0 10) f := fun f p q => by
      by_cases e : z1.toInt = 0
      · exact hHd.nil (o1 e).2.2.2.1 (p e)
      · exact hHD.eq (n1 e).2.2.2.2.1 (fun s hs => (q e s hs).trans (w1.2.1 408 _ _ s rfl hs (by decide +kernel)))
    have hh1 : (∀ v : Int32, (z1.toInt = 0 → ∃ y, hq_hs (ht_K (fun i => (A.2.1 1 i).toInt) n) (ht_W (fun i => (A.2.1 1 i).toInt) n) (ht_E (fun i => (A.2.1 1 i).toInt) n) v.toInt y) → (¬ z1.toInt = 0 → v = A.2.1 376 (A.1 367 18).toNatClampNeg) → ∀ T, A1.2.2.2 0 3 = T + 1 → A1.1 T 4 = v) := fun v p q T hT => by
      by_cases e : z1.toInt = 0
      · obtain ⟨r1, r2, -⟩ := o1 e
        obtain rfl : T = 2 := by omega
        obtain ⟨y, hy⟩ := p e
        exact Int32.toInt_inj.mp (hq_hs_one r2 hy).1
      · obtain ⟨r1, r2, -⟩ := n1 e
        obtain rfl : T = 11 := by omega
        rw [r2, q e]
        exact hHS 11 h3
    have tl1 : (∀ v : Int32, (z1.toInt = 0 → v = Int32.ofNat 0) → (¬ z1.toInt = 0 → v = A.1 367 59) → A1.1 340 2 = v) := fun v p q => by
      by_cases e : z1.toInt = 0
      · rw [p e]; exact (o1 e).2.2.1
      · rw [q e, (n1 e).2.2.2.1]; exact hTD
    have lf1 : (z1.toInt = 0 → A1.1 40 2 = Int32.ofNat 0 ∧ ∃ T, hTT T ∧ A1.2.2.2 0 3 = T + 1 ∧ hBg T A1 A1 ∧ hdQ (ht_K (fun i => (A.2.1 1 i).toInt) n) (ht_W (fun i => (A.2.1 1 i).toInt) n) (ht_E (fun i => (A.2.1 1 i).toInt) n) T A1) := fun e => ⟨(o1 e).2.2.2.2.1, 2, (Or.inl rfl), (o1 e).1, (o1 e).2.2.2.2.2.2, (o1 e).2.2.2.2.2.1⟩
    have nf1 : (¬ z1.toInt = 0 → hCk A A1) := fun e => by
      obtain ⟨y1, -, -, -, -, -, y2, y3⟩ := n1 e
      exact ⟨fun i k hi => y2 i k (Or.inl hi), fun i hi => y3 i (Or.inl hi), fun D T hT c => by
        obtain rfl : T = 11 := by omega
        exact (c 11 h3).eq (fun i k a b => y2 i k (Or.inr ⟨a, b⟩)) (fun i a b => y3 i (Or.inr ⟨a, b⟩))⟩
    have fr1 : (A1.1 367 18 = A.1 367 18 ∧ (∀ j, j < 2 → A1.2.1 376 j = A.2.1 376 j) ∧ A1.1 367 59 = A.1 367 59) := ⟨w1.1 367 _ _ 18 rfl rfl (by decide +kernel), fun j hj => w1.2.1 376 _ _ j rfl hj (by decide +kernel), w1.1 367 _ _ 59 rfl rfl (by decide +kernel)⟩
    exact ⟨z1, rfl, K A1 z1 h1 f1 g1 RS1 hU1 kp H1 hd1 hh1 tl1 fr1 lf1 nf1 w1⟩
