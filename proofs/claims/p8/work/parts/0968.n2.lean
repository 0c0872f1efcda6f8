theorem hpr_hold {N : Int} {A : hs_A} (hA : hJ 0 N (N + 72) A A) (hN : N ≤ 800000) (hI : hIC A) (a1 : Int32) : hxC 26 128 hm_m128 [.ref 1, .int a1] A (fun r A1 => ∃ z : Int32, r = some (.int z) ∧ hxC 26 238 hm_m238 [.ref 368, .int a1] A1 (fun r2 A2 => ∃ z2 : Int32, r2 = some (.int z2) ∧ z = z2 ∧ ∃ N' : Int, N' ≤ N + 144 ∧ hJ 0 N' (N' + 72) A2 A2 ∧ hIC A2)) := by
  have bl := hbok.get (hA.1.1 0 1) rfl
  have b1 := hbok.get (hA.1.1 40 1) rfl
  have b2 := hbok.get (hA.1.1 40 2) rfl
  have lH := hHn.le hA
  obtain ⟨hIB0, hN0, hP0, hS0, D, hC0⟩ := hI
  have uH := hIB0.1.1.2.1
  refine hxC.post (uf_k128 uH a1 (hX128g (d := 24) hA a1)) ?_
  rintro _ A1 ⟨⟨hA1, z1, rfl, f1⟩, w1, H1⟩
  refine ⟨z1, rfl, ?_⟩
  have eH1 : hHn A1 = hHn A := hHn.uf w1 (uf_lv hA) (by decide +kernel) (by decide +kernel)
  have hC1 : hCo D A1 := hC0.uf uH w1 (by decide +kernel) (by decide +kernel) (by decide +kernel)
  refine hxC.post (uf_k238 H1 a1 (hX238g (d := 24) hA1 (by omega) a1)) ?_
  rintro _ A2 ⟨⟨hA2, z2, rfl, f2⟩, w2, H2⟩
  have l1 : (A1.1 367 18).toNatClampNeg < 2 := uf_lv hA1
  have eH2 : hHn A2 = hHn A := (hHn.uf w2 l1 (by decide +kernel) (by decide +kernel)).trans eH1
  have hC2 : hCo D A2 := hC1.uf H1 w2 (by decide +kernel) (by decide +kernel) (by decide +kernel)
  have e2 : A2.1 0 10 = A1.1 0 10 := w2.1 0 _ _ 10 rfl rfl (by decide +kernel)
  have e1 : ∀ s, s < 3 → A1.2.1 408 s = A.2.1 408 s := fun s hs => w1.2.1 408 _ _ s rfl hs (by decide +kernel)
  rcases f1 with ⟨u1, u2, u3, sv, u4⟩ | ⟨u1, u2, u3⟩
  · rcases f2 with ⟨v1, v2, v3, v4, v5, v6⟩ | ⟨v1, v2, v3⟩
    · have hc := hn_cn (j := a1) u2
      have hB2 : hIB A2 := ⟨⟨(hIB0.1.1.uf w1 H1 (by decide +kernel) bl.2).uf w2 H2 (by decide +kernel) (by rw [w1.1 0 _ _ 1 rfl rfl (by decide +kernel)]; exact bl.2), hIB0.1.2.hold u2 u3 (e2.trans u4) (fun s hs => by rw [v4 s, e1 s hs])⟩, hBk hIB0.2.1 uH H1 w1 w2 (uf_lv hA) (by decide +kernel) (by decide +kernel), hTk hIB0.2.2 w1 w2 (by decide +kernel) (by decide +kernel) (by decide +kernel) (by decide +kernel)⟩
      have sc : ∀ q : Nat, q < 3 → (∀ k, 6 ≤ k → k ≤ 10 → A2.1 (346 + 7 * q) k = A1.1 (346 + 7 * q) k) ∧ ∀ j, 1 ≤ j → j ≤ 6 → ∀ x : Nat, x < 10 → A2.2.1 (346 + 7 * q + j) x = A1.2.1 (346 + 7 * q + j) x := fun q hq => by
        rcases (by omega : q = 0 ∨ q = 1 ∨ q = 2) with rfl | rfl | rfl
        · exact ⟨fun k a b => by rcases (by omega : k = 6 ∨ k = 7 ∨ k = 8 ∨ k = 9 ∨ k = 10) with rfl | rfl | rfl | rfl | rfl; exact w2.1 346 _ _ 6 rfl rfl (by decide +kernel); exact w2.1 346 _ _ 7 rfl rfl (by decide +kernel); exact w2.1 346 _ _ 8 rfl rfl (by decide +kernel); exact w2.1 346 _ _ 9 rfl rfl (by decide +kernel); exact w2.1 346 _ _ 10 rfl rfl (by decide +kernel), fun j a b x hx => by rcases (by omega : j = 1 ∨ j = 2 ∨ j = 3 ∨ j = 4 ∨ j = 5 ∨ j = 6) with rfl | rfl | rfl | rfl | rfl | rfl; exact w2.2.1 347 _ _ x rfl hx (by decide +kernel); exact w2.2.1 348 _ _ x rfl hx (by decide +kernel); exact w2.2.1 349 _ _ x rfl hx (by decide +kernel); exact w2.2.1 350 _ _ x rfl hx (by decide +kernel); exact w2.2.1 351 _ _ x rfl hx (by decide +kernel); exact w2.2.1 352 _ _ x rfl hx (by decide +kernel)⟩
        · exact ⟨fun k a b => by rcases (by omega : k = 6 ∨ k = 7 ∨ k = 8 ∨ k = 9 ∨ k = 10) with rfl | rfl | rfl | rfl | rfl; exact w2.1 353 _ _ 6 rfl rfl (by decide +kernel); exact w2.1 353 _ _ 7 rfl rfl (by decide +kernel); exact w2.1 353 _ _ 8 rfl rfl (by decide +kernel); exact w2.1 353 _ _ 9 rfl rfl (by decide +kernel); exact w2.1 353 _ _ 10 rfl rfl (by decide +kernel), fun j a b x hx => by rcases (by omega : j = 1 ∨ j = 2 ∨ j = 3 ∨ j = 4 ∨ j = 5 ∨ j = 6) with rfl | rfl | rfl | rfl | rfl | rfl; exact w2.2.1 354 _ _ x rfl hx (by decide +kernel); exact w2.2.1 355 _ _ x rfl hx (by decide +kernel); exact w2.2.1 356 _ _ x rfl hx (by decide +kernel); exact w2.2.1 357 _ _ x rfl hx (by decide +kernel); exact w2.2.1 358 _ _ x rfl hx (by decide +kernel); exact w2.2.1 359 _ _ x rfl hx (by decide +kernel)⟩
        · exact ⟨fun k a b => by rcases (by omega : k = 6 ∨ k = 7 ∨ k = 8 ∨ k = 9 ∨ k = 10) with rfl | rfl | rfl | rfl | rfl; exact w2.1 360 _ _ 6 rfl rfl (by decide +kernel); exact w2.1 360 _ _ 7 rfl rfl (by decide +kernel); exact w2.1 360 _ _ 8 rfl rfl (by decide +kernel); exact w2.1 360 _ _ 9 rfl rfl (by decide +kernel); exact w2.1 360 _ _ 10 rfl rfl (by decide +kernel), fun j a b x hx => by rcases (by omega : j = 1 ∨ j = 2 ∨ j = 3 ∨ j = 4 ∨ j = 5 ∨ j = 6) with rfl | rfl | rfl | rfl | rfl | rfl; exact w2.2.1 361 _ _ x rfl hx (by decide +kernel); exact w2.2.1 362 _ _ x rfl hx (by decide +kernel); exact w2.2.1 363 _ _ x rfl hx (by decide +kernel); exact w2.2.1 364 _ _ x rfl hx (by decide +kernel); exact w2.2.1 365 _ _ x rfl hx (by decide +kernel); exact w2.2.1 366 _ _ x rfl hx (by decide +kernel)⟩
      have ss2 : hSl (hHn A) A2 := by
        intro s hs hb
        have ss := sc s hs
        by_cases q : s = a1.toNatClampNeg
        · subst q
          exact hLo.mv hN0 lH.2 (fun k a b => (ss.1 k a b).trans (sv.1 k a b)) (fun j a b x hx => (ss.2 j a b x hx).trans (sv.2.1 j a b x hx)) (fun k hk => (v5 k hk).trans (w1.2.1 395 _ _ k rfl hk (by decide +kernel)))
        · rw [v4 s, if_neg q, e1 s hs] at hb
          have sq := sv.2.2 s hs q
          exact (hS0 s hs hb).mv lH.2 (fun k a b => (ss.1 k a b).trans (sq.1 k a b)) (fun j a b x hx => (ss.2 j a b x hx).trans (sq.2 j a b x hx)) (fun k hk => (v6 s hs q k hk).trans (w1.2.1 409 _ _ _ rfl (by omega) (by decide +kernel)))
      exact ⟨z2, rfl, Int32.toInt_inj.mp (by omega), N + 72, by omega, hJ.mono (hJ.self hA2) (by omega) (by omega), hB2, by rw [eH2]; exact (hN0.uf lH.2 w1 (by decide +kernel) (by decide +kernel)).uf lH.2 w2 (by decide +kernel) (by decide +kernel), by rw [eH2]; exact hPs.uf (hPs.uf hP0 lH.2 w1 (hPk.uf w1 (by decide +kernel)) b1 b2.2 (by decide +kernel) (by decide +kernel)) lH.2 w2 (hPk.uf w2 (by decide +kernel)) (by rw [w1.1 40 _ _ 1 rfl rfl (by decide +kernel)]; exact b1) (by rw [w1.1 40 _ _ 2 rfl rfl (by decide +kernel)]; exact b2.2) (by decide +kernel) (by decide +kernel), by rw [eH2]; exact ss2, D, hC2⟩
    · exact absurd v2 (by omega)
  · rcases f2 with ⟨v1, v2, v3, v4, v5, v6⟩ | ⟨v1, v2, v3⟩
    · exact absurd u2 (by omega)
    · subst v3
      subst u3
      have hB2 := hIB0
      exact ⟨z2, rfl, Int32.toInt_inj.mp (by omega), N + 72, by omega, hJ.mono (hJ.self hA2) (by omega) (by omega), hB2, by rw [eH2]; exact hN0, by rw [eH2]; exact hP0, by rw [eH2]; exact hS0, D, hC2⟩
theorem hpr_restore {N : Int} {A : hs_A} (hA : hJ 0 N (N + 72) A A) (hN : N ≤ 800000) (hI : hIC A) (a1 : Int32) : hxC 26 129 hm_m129 [.ref 1, .int a1] A (fun r A1 => ∃ z : Int32, r = some (.int z) ∧ hxC 26 239 hm_m239 [.ref 368, .int a1] A1 (fun r2 A2 => ∃ z2 : Int32, r2 = some (.int z2) ∧ z = z2 ∧ ∃ N' : Int, N' ≤ N + 144 ∧ hJ 0 N' (N' + 72) A2 A2 ∧ hIC A2)) := by
  have bl := hbok.get (hA.1.1 0 1) rfl
  have b1 := hbok.get (hA.1.1 40 1) rfl
  have b2 := hbok.get (hA.1.1 40 2) rfl
  have lH := hHn.le hA
  obtain ⟨hIB0, hN0, hP0, hS0, D, hC0⟩ := hI
  have uH := hIB0.1.1.2.1
  refine hxC.post (uf_k129 uH a1 (hX129g (d := 24) hA a1)) ?_
  rintro _ A1 ⟨⟨hA1, z1, rfl, f1⟩, w1, H1⟩
  refine ⟨z1, rfl, ?_⟩
  have eH1 : hHn A1 = hHn A := hHn.uf w1 (uf_lv hA) (by decide +kernel) (by decide +kernel)
  have hC1 : hCo D A1 := hC0.uf uH w1 (by decide +kernel) (by decide +kernel) (by decide +kernel)
  refine hxC.post (uf_k239 H1 a1 (hX239g (d := 24) hA1 (by omega) a1)) ?_
  rintro _ A2 ⟨⟨hA2, z2, rfl, f2⟩, w2, H2⟩
  have l1 : (A1.1 367 18).toNatClampNeg < 2 := uf_lv hA1
  have eH2 : hHn A2 = hHn A := (hHn.uf w2 l1 (by decide +kernel) (by decide +kernel)).trans eH1
  have hC2 : hCo D A2 := hC1.uf H1 w2 (by decide +kernel) (by decide +kernel) (by decide +kernel)
  have hB2 : hIB A2 := hIB0.q ((w1.le (by decide +kernel : ug_wle uw129 uwB = true)).trans (w2.le (by decide +kernel : ug_wle uw239 uwB = true))) H2 bl.2 (uf_lv hA)
  have m26 : ∀ k, 6 ≤ k → k ≤ 10 → A2.1 26 k = A1.1 26 k := (fun k a b => by rcases (by omega : k = 6 ∨ k = 7 ∨ k = 8 ∨ k = 9 ∨ k = 10) with rfl | rfl | rfl | rfl | rfl; exact w2.1 26 _ _ 6 rfl rfl (by decide +kernel); exact w2.1 26 _ _ 7 rfl rfl (by decide +kernel); exact w2.1 26 _ _ 8 rfl rfl (by decide +kernel); exact w2.1 26 _ _ 9 rfl rfl (by decide +kernel); exact w2.1 26 _ _ 10 rfl rfl (by decide +kernel))
  have m27 : ∀ j, 1 ≤ j → j ≤ 6 → ∀ x : Nat, x < 10 → A2.2.1 (26 + j) x = A1.2.1 (26 + j) x := (fun j a b x hx => by rcases (by omega : j = 1 ∨ j = 2 ∨ j = 3 ∨ j = 4 ∨ j = 5 ∨ j = 6) with rfl | rfl | rfl | rfl | rfl | rfl; exact w2.2.1 27 _ _ x rfl hx (by decide +kernel); exact w2.2.1 28 _ _ x rfl hx (by decide +kernel); exact w2.2.1 29 _ _ x rfl hx (by decide +kernel); exact w2.2.1 30 _ _ x rfl hx (by decide +kernel); exact w2.2.1 31 _ _ x rfl hx (by decide +kernel); exact w2.2.1 32 _ _ x rfl hx (by decide +kernel))
  have e1 : 0 ≤ a1.toInt ∧ a1.toInt ≤ 2 → A1.2.1 408 a1.toNatClampNeg = A.2.1 408 a1.toNatClampNeg ∧ hBit (A.1 0 10) a1 = (A.2.1 408 a1.toNatClampNeg).toInt := fun q => by
    have hc := hn_cn (j := a1) q.1
    exact ⟨w1.2.1 408 _ _ _ rfl (by omega) (by decide +kernel), hIB0.1.2.bit q.1 q.2⟩
  rcases f1 with ⟨u1, u2, u3, u4, u5⟩ | ⟨u1, u2, u3⟩
  · obtain ⟨x1, x2⟩ := e1 ⟨u2, u3⟩
    have hc := hn_cn (j := a1) u2
    rw [x1] at f2
    rcases f2 with ⟨v1, v2, v3, v4, v5, v6⟩ | ⟨v1, v2, v3⟩
    · have old := hS0 a1.toNatClampNeg (by omega) v4
      have nn : hNw (hHn A) A2 := hLo.mv old lH.2 (fun k a b => (m26 k a b).trans (u5.1 k a b)) (fun j a b x hx => (m27 j a b x hx).trans (u5.2.1 j a b x hx)) (fun k hk => (v5 k hk).trans (w1.2.1 409 _ _ _ rfl (by omega) (by decide +kernel)))
      have pp : hPs (hHn A) A2 := by
        have e402 : A2.1 40 2 = A1.1 40 2 := w2.1 40 _ _ 2 rfl rfl (by decide +kernel)
        have t402 := congrArg Int32.toInt e402
        have u52 := u5.2.2
        exact ⟨Int32.toInt_inj.mp (by omega), fun i hi => False.elim (by omega)⟩
      exact ⟨z2, rfl, Int32.toInt_inj.mp (by omega), N + 72, by omega, hJ.mono (hJ.self hA2) (by omega) (by omega), hB2, by rw [eH2]; exact nn, by rw [eH2]; exact pp, by rw [eH2]; exact (hS0.uf lH.2 w1 (by decide +kernel) (by decide +kernel) (by decide +kernel) (by decide +kernel) (by decide +kernel)).uf lH.2 w2 (by decide +kernel) (by decide +kernel) (by decide +kernel) (by decide +kernel) (by decide +kernel), D, hC2⟩
    · exact absurd v2 (by omega)
  · rcases f2 with ⟨v1, v2, v3, v4, v5, v6⟩ | ⟨v1, v2, v3⟩
    · obtain ⟨x1, x2⟩ := e1 ⟨v2, v3⟩
      rw [x1] at v4
      exact absurd u2 (by omega)
    · subst v3
      subst u3
      exact ⟨z2, rfl, Int32.toInt_inj.mp (by omega), N + 72, by omega, hJ.mono (hJ.self hA2) (by omega) (by omega), hB2, by rw [eH2]; exact hN0, by rw [eH2]; exact hP0, by rw [eH2]; exact hS0, D, hC2⟩
