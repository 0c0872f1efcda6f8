theorem hpr_turn {N : Int} {A : hs_A} (hA : hJ 0 N (N + 72) A A) (hN : N ≤ 800000) (hI : hIC A) (a1 : Int32) (a2 : Int32) (b0 : 0 ≤ a2.toInt) (b1x : a2.toInt ≤ 1) : hxC 26 83 hm_m83 [.ref 1, .int a1, .int a2] A (fun r A1 => ∃ z : Int32, r = some (.int z) ∧ hxC 26 191 hm_m191 [.ref 368, .int a1, .int a2] A1 (fun r2 A2 => ∃ z2 : Int32, r2 = some (.int z2) ∧ z = z2 ∧ ∃ N' : Int, N' ≤ N + 144 ∧ hJ 0 N' (N' + 72) A2 A2 ∧ hIC A2)) := by
  have bl := hbok.get (hA.1.1 0 1) rfl
  have b1 := hbok.get (hA.1.1 40 1) rfl
  have b2 := hbok.get (hA.1.1 40 2) rfl
  have lH := hHn.le hA
  obtain ⟨hIB0, hN0, hP0, hS0, D, hC0⟩ := hI
  have uH := hIB0.1.1.2.1
  refine hxC.post (uf_k83 uH a1 a2 (hX83g (d := 22) hA a1 a2 b0 b1x hIB0.2.1.c uH)) ?_
  rintro _ A1 ⟨⟨hA1, z1, rfl, f1⟩, w1, H1⟩
  refine ⟨z1, rfl, ?_⟩
  have eH1 : hHn A1 = hHn A := hHn.uf w1 (uf_lv hA) (by decide +kernel) (by decide +kernel)
  have hC1 : hCo D A1 := hC0.uf uH w1 (by decide +kernel) (by decide +kernel) (by decide +kernel)
  refine hxC.post (uf_k191 H1 a1 a2 (hX191g (d := 23) hA1 (by omega) a1 a2 b0 b1x (hHs.r w1 (uf_lv hA) (by decide +kernel) (by decide +kernel)) H1)) ?_
  rintro _ A2 ⟨⟨hA2, z2, rfl, f2⟩, w2, H2⟩
  have l1 : (A1.1 367 18).toNatClampNeg < 2 := uf_lv hA1
  have eH2 : hHn A2 = hHn A := (hHn.uf w2 l1 (by decide +kernel) (by decide +kernel)).trans eH1
  have hC2 : hCo D A2 := hC1.uf H1 w2 (by decide +kernel) (by decide +kernel) (by decide +kernel)
  have hB2 : hIB A2 := hIB0.q ((w1.le (by decide +kernel : ug_wle uw83 uwB = true)).trans (w2.le (by decide +kernel : ug_wle uw191 uwB = true))) H2 bl.2 (uf_lv hA)
  have e395 : A1.2.1 395 (50 + a1.toNatClampNeg) = A.2.1 395 (50 + a1.toNatClampNeg) ∨ 9 < a1.toNatClampNeg := by
    by_cases q : a1.toNatClampNeg ≤ 9
    · exact Or.inl (w1.2.1 395 _ _ _ rfl (by omega) (by decide +kernel))
    · exact Or.inr (by omega)
  have lHA : hHn A = (A.2.1 376 (A.1 367 18).toNatClampNeg).toInt := rfl
  rcases f1 with ⟨u1, u2, u3, u4, u5, u6, u7⟩ | ⟨u1, u2, u3⟩
  · have bt := hN0.1.2.2.1.bit u2 u3 u4
    have hc := hn_cn (j := a1) u2
    have e5 := congrArg Int32.toInt (e395.resolve_right (by omega))
    rcases f2 with ⟨v1, v2, v3, v4, v5, v6⟩ | ⟨v1, v2, v3⟩
    · have Dn := v6.pre (fun k hk => w1.2.1 395 _ _ k rfl hk (by decide +kernel)) (fun j hj => w1.2.1 399 _ _ j rfl hj (by decide +kernel)) (w1.1 367 _ _ 51 rfl rfl (by decide +kernel))
      have nn : hNw (hHn A) A2 := hLo.turn hN0 lH.2 u2 u3 b0 b1x u5 ((w2.1 26 _ _ 9 rfl rfl (by decide +kernel)).trans u7) (fun k a b c => by rcases (by omega : k = 6 ∨ k = 7 ∨ k = 8 ∨ k = 10) with rfl | rfl | rfl | rfl; exact (w2.1 26 _ _ 6 rfl rfl (by decide +kernel)).trans (w1.1 26 _ _ 6 rfl rfl (by decide +kernel)); exact (w2.1 26 _ _ 7 rfl rfl (by decide +kernel)).trans (w1.1 26 _ _ 7 rfl rfl (by decide +kernel)); exact (w2.1 26 _ _ 8 rfl rfl (by decide +kernel)).trans (w1.1 26 _ _ 8 rfl rfl (by decide +kernel)); exact (w2.1 26 _ _ 10 rfl rfl (by decide +kernel)).trans (w1.1 26 _ _ 10 rfl rfl (by decide +kernel))) (fun j a b x hx => by rcases (by omega : j = 1 ∨ j = 2 ∨ j = 3 ∨ j = 4 ∨ j = 5 ∨ j = 6) with rfl | rfl | rfl | rfl | rfl | rfl; exact (w2.2.1 27 _ _ x rfl hx (by decide +kernel)).trans (w1.2.1 27 _ _ x rfl hx (by decide +kernel)); exact (w2.2.1 28 _ _ x rfl hx (by decide +kernel)).trans (w1.2.1 28 _ _ x rfl hx (by decide +kernel)); exact (w2.2.1 29 _ _ x rfl hx (by decide +kernel)).trans (w1.2.1 29 _ _ x rfl hx (by decide +kernel)); exact (w2.2.1 30 _ _ x rfl hx (by decide +kernel)).trans (w1.2.1 30 _ _ x rfl hx (by decide +kernel)); exact (w2.2.1 31 _ _ x rfl hx (by decide +kernel)).trans (w1.2.1 31 _ _ x rfl hx (by decide +kernel)); exact (w2.2.1 32 _ _ x rfl hx (by decide +kernel)).trans (w1.2.1 32 _ _ x rfl hx (by decide +kernel))) (fun k hk => by
          rw [Dn.1 k hk]
          show (if k = 50 + a1.toNatClampNeg then a2 else A1.2.1 395 k) = _
          rw [w1.2.1 395 _ _ k rfl hk (by decide +kernel)])
      exact ⟨z2, rfl, Int32.toInt_inj.mp (by omega), N + 72, by omega, hJ.mono (hJ.self hA2) (by omega) (by omega), hB2, by rw [eH2]; exact nn, by rw [eH2]; exact hP0.push hN0 lH.2 b1 b2.1 u6 (hPk.uf w2 (by decide +kernel)) Dn, by rw [eH2]; exact (hS0.uf lH.2 w1 (by decide +kernel) (by decide +kernel) (by decide +kernel) (by decide +kernel) (by decide +kernel)).uf lH.2 w2 (by decide +kernel) (by decide +kernel) (by decide +kernel) (by decide +kernel) (by decide +kernel), D, hC2⟩
    · exact absurd v2 (by omega)
  · rcases f2 with ⟨v1, v2, v3, v4, v5, v6⟩ | ⟨v1, v2, v3⟩
    · have bt := hN0.1.2.2.1.bit v2 v3 v4
      have hc := hn_cn (j := a1) v2
      have e5 := congrArg Int32.toInt (e395.resolve_right (by omega))
      exact absurd u2 (by omega)
    · subst v3
      subst u3
      exact ⟨z2, rfl, Int32.toInt_inj.mp (by omega), N + 72, by omega, hJ.mono (hJ.self hA2) (by omega) (by omega), hB2, by rw [eH2]; exact hN0, by rw [eH2]; exact hP0, by rw [eH2]; exact hS0, D, hC2⟩
theorem hpr_send {N : Int} {A : hs_A} (hA : hJ 0 N (N + 72) A A) (hN : N ≤ 800000) (hI : hIC A) (a1 : Int32) : hxC 26 84 hm_m84 [.ref 1, .int a1] A (fun r A1 => ∃ z : Int32, r = some (.int z) ∧ hxC 26 192 hm_m192 [.ref 368, .int a1] A1 (fun r2 A2 => ∃ z2 : Int32, r2 = some (.int z2) ∧ z = z2 ∧ ∃ N' : Int, N' ≤ N + 144 ∧ hJ 0 N' (N' + 72) A2 A2 ∧ hIC A2)) := by
  have bl := hbok.get (hA.1.1 0 1) rfl
  have b1 := hbok.get (hA.1.1 40 1) rfl
  have b2 := hbok.get (hA.1.1 40 2) rfl
  have lH := hHn.le hA
  obtain ⟨hIB0, hN0, hP0, hS0, D, hC0⟩ := hI
  have uH := hIB0.1.1.2.1
  refine hxC.post (uf_k84 uH a1 (hX84g (d := 22) hA a1 hIB0.2.1.c)) ?_
  rintro _ A1 ⟨⟨hA1, z1, rfl, f1, k1, n1⟩, w1, H1⟩
  refine ⟨z1, rfl, ?_⟩
  have eH1 : hHn A1 = hHn A := hHn.uf w1 (uf_lv hA) (by decide +kernel) (by decide +kernel)
  have hC1 : hCo D A1 := hC0.uf uH w1 (by decide +kernel) (by decide +kernel) (by decide +kernel)
  refine hxC.post (uf_k192 H1 a1 (hX192g (d := 23) hA1 (by omega) a1 (hHs.r w1 (uf_lv hA) (by decide +kernel) (by decide +kernel)) H1)) ?_
  rintro _ A2 ⟨⟨hA2, z2, rfl, f2, d2, n2⟩, w2, H2⟩
  have l1 : (A1.1 367 18).toNatClampNeg < 2 := uf_lv hA1
  have eH2 : hHn A2 = hHn A := (hHn.uf w2 l1 (by decide +kernel) (by decide +kernel)).trans eH1
  have hC2 : hCo D A2 := hC1.uf H1 w2 (by decide +kernel) (by decide +kernel) (by decide +kernel)
  have hB2 : hIB A2 := hIB0.q ((w1.le (by decide +kernel : ug_wle uw84 uwB = true)).trans (w2.le (by decide +kernel : ug_wle uw192 uwB = true))) H2 bl.2 (uf_lv hA)
  by_cases q : z1.toInt = 1
  · have Dn := (d2 (by omega)).pre (fun k hk => w1.2.1 395 _ _ k rfl hk (by decide +kernel)) (fun j hj => w1.2.1 399 _ _ j rfl hj (by decide +kernel)) (w1.1 367 _ _ 51 rfl rfl (by decide +kernel))
    obtain ⟨u6, u8⟩ := k1 q
    have ha : 0 ≤ a1.toInt ∧ a1.toInt ≤ 255 := by
      rcases f1 with ⟨-, y1, y2, -⟩ | ⟨y, -⟩
      · exact ⟨y1, y2⟩
      · exact absurd y (by omega)
    have nn : hNw (hHn A) A2 := hLo.snd hN0 lH.2 ha.1 ha.2 ((w2.1 26 _ _ 8 rfl rfl (by decide +kernel)).trans u8) (fun k a b c => by rcases (by omega : k = 6 ∨ k = 7 ∨ k = 9 ∨ k = 10) with rfl | rfl | rfl | rfl; exact (w2.1 26 _ _ 6 rfl rfl (by decide +kernel)).trans (w1.1 26 _ _ 6 rfl rfl (by decide +kernel)); exact (w2.1 26 _ _ 7 rfl rfl (by decide +kernel)).trans (w1.1 26 _ _ 7 rfl rfl (by decide +kernel)); exact (w2.1 26 _ _ 9 rfl rfl (by decide +kernel)).trans (w1.1 26 _ _ 9 rfl rfl (by decide +kernel)); exact (w2.1 26 _ _ 10 rfl rfl (by decide +kernel)).trans (w1.1 26 _ _ 10 rfl rfl (by decide +kernel))) (fun j a b x hx => by rcases (by omega : j = 1 ∨ j = 2 ∨ j = 3 ∨ j = 4 ∨ j = 5 ∨ j = 6) with rfl | rfl | rfl | rfl | rfl | rfl; exact (w2.2.1 27 _ _ x rfl hx (by decide +kernel)).trans (w1.2.1 27 _ _ x rfl hx (by decide +kernel)); exact (w2.2.1 28 _ _ x rfl hx (by decide +kernel)).trans (w1.2.1 28 _ _ x rfl hx (by decide +kernel)); exact (w2.2.1 29 _ _ x rfl hx (by decide +kernel)).trans (w1.2.1 29 _ _ x rfl hx (by decide +kernel)); exact (w2.2.1 30 _ _ x rfl hx (by decide +kernel)).trans (w1.2.1 30 _ _ x rfl hx (by decide +kernel)); exact (w2.2.1 31 _ _ x rfl hx (by decide +kernel)).trans (w1.2.1 31 _ _ x rfl hx (by decide +kernel)); exact (w2.2.1 32 _ _ x rfl hx (by decide +kernel)).trans (w1.2.1 32 _ _ x rfl hx (by decide +kernel))) (fun k hk => by
      rw [Dn.1 k hk]
      show (if k = 71 then a1 else A1.2.1 395 k) = _
      rw [w1.2.1 395 _ _ k rfl hk (by decide +kernel)])
    exact ⟨z2, rfl, Int32.toInt_inj.mp (by omega), N + 72, by omega, hJ.mono (hJ.self hA2) (by omega) (by omega), hB2, by rw [eH2]; exact nn, by rw [eH2]; exact hP0.push hN0 lH.2 b1 b2.1 u6 (hPk.uf w2 (by decide +kernel)) Dn, by rw [eH2]; exact (hS0.uf lH.2 w1 (by decide +kernel) (by decide +kernel) (by decide +kernel) (by decide +kernel) (by decide +kernel)).uf lH.2 w2 (by decide +kernel) (by decide +kernel) (by decide +kernel) (by decide +kernel) (by decide +kernel), D, hC2⟩
  · have e1 := n1 q
    have e2 := n2 (by omega)
    subst e2
    subst e1
    exact ⟨z2, rfl, Int32.toInt_inj.mp (by omega), N + 72, by omega, hJ.mono (hJ.self hA2) (by omega) (by omega), hB2, by rw [eH2]; exact hN0, by rw [eH2]; exact hP0, by rw [eH2]; exact hS0, D, hC2⟩
theorem hpr_carry {N : Int} {A : hs_A} (hA : hJ 0 N (N + 72) A A) (hN : N ≤ 800000) (hI : hIC A) (a1 : Int32) (a2 : Int32) : hxC 26 85 hm_m85 [.ref 1, .int a1, .int a2] A (fun r A1 => ∃ z : Int32, r = some (.int z) ∧ hxC 26 193 hm_m193 [.ref 368, .int a1, .int a2] A1 (fun r2 A2 => ∃ z2 : Int32, r2 = some (.int z2) ∧ z = z2 ∧ ∃ N' : Int, N' ≤ N + 144 ∧ hJ 0 N' (N' + 72) A2 A2 ∧ hIC A2)) := by
  have bl := hbok.get (hA.1.1 0 1) rfl
  have b1 := hbok.get (hA.1.1 40 1) rfl
  have b2 := hbok.get (hA.1.1 40 2) rfl
  have lH := hHn.le hA
  obtain ⟨hIB0, hN0, hP0, hS0, D, hC0⟩ := hI
  have uH := hIB0.1.1.2.1
  refine hxC.post (uf_k85 uH a1 a2 (hX85g (d := 22) hA a1 a2 hIB0.2.1.c uH)) ?_
  rintro _ A1 ⟨⟨hA1, z1, rfl, f1⟩, w1, H1⟩
  refine ⟨z1, rfl, ?_⟩
  have eH1 : hHn A1 = hHn A := hHn.uf w1 (uf_lv hA) (by decide +kernel) (by decide +kernel)
  have hC1 : hCo D A1 := hC0.uf uH w1 (by decide +kernel) (by decide +kernel) (by decide +kernel)
  refine hxC.post (uf_k193 H1 a1 a2 (hX193g (d := 23) hA1 (by omega) a1 a2 (hHs.r w1 (uf_lv hA) (by decide +kernel) (by decide +kernel)) H1)) ?_
  rintro _ A2 ⟨⟨hA2, z2, rfl, f2⟩, w2, H2⟩
  have l1 : (A1.1 367 18).toNatClampNeg < 2 := uf_lv hA1
  have eH2 : hHn A2 = hHn A := (hHn.uf w2 l1 (by decide +kernel) (by decide +kernel)).trans eH1
  have hC2 : hCo D A2 := hC1.uf H1 w2 (by decide +kernel) (by decide +kernel) (by decide +kernel)
  have hB2 : hIB A2 := hIB0.q ((w1.le (by decide +kernel : ug_wle uw85 uwB = true)).trans (w2.le (by decide +kernel : ug_wle uw193 uwB = true))) H2 bl.2 (uf_lv hA)
  rcases f1 with ⟨u1, u2, u3, u4, u5, u6, u7, u8, u9, u10⟩ | ⟨u1, u2, u3⟩
  · have c1 := hn_cn (j := a1) u1
    have c2 := hn_cn (j := a2) u3
    have lHA : hHn A = (A.2.1 376 (A.1 367 18).toNatClampNeg).toInt := rfl
    rcases f2 with ⟨v1, v2, v3, v4, v5, v6, v7⟩ | ⟨v1, v2, v3⟩
    · have Dn := v7.pre (fun k hk => w1.2.1 395 _ _ k rfl hk (by decide +kernel)) (fun j hj => w1.2.1 399 _ _ j rfl hj (by decide +kernel)) (w1.1 367 _ _ 51 rfl rfl (by decide +kernel))
      have x5 : ∀ k, k < 73 → A1.2.1 395 k = A.2.1 395 k := (fun k hk => w1.2.1 395 _ _ k rfl hk (by decide +kernel))
      have nn : hNw (hHn A) A2 := hLo.car (a := a1.toNatClampNeg) (b := a2.toNatClampNeg) hN0 lH.2 (by omega) (by omega) ((w2.2.1 31 _ _ _ rfl (by omega) (by decide +kernel)).trans u8) ((w2.2.1 29 _ _ _ rfl (by omega) (by decide +kernel)).trans u9) (fun k a b => by rcases (by omega : k = 6 ∨ k = 7 ∨ k = 8 ∨ k = 9 ∨ k = 10) with rfl | rfl | rfl | rfl | rfl; exact (w2.1 26 _ _ 6 rfl rfl (by decide +kernel)).trans (w1.1 26 _ _ 6 rfl rfl (by decide +kernel)); exact (w2.1 26 _ _ 7 rfl rfl (by decide +kernel)).trans (w1.1 26 _ _ 7 rfl rfl (by decide +kernel)); exact (w2.1 26 _ _ 8 rfl rfl (by decide +kernel)).trans (w1.1 26 _ _ 8 rfl rfl (by decide +kernel)); exact (w2.1 26 _ _ 9 rfl rfl (by decide +kernel)).trans (w1.1 26 _ _ 9 rfl rfl (by decide +kernel)); exact (w2.1 26 _ _ 10 rfl rfl (by decide +kernel)).trans (w1.1 26 _ _ 10 rfl rfl (by decide +kernel))) (fun j a b x hx hj => by
          rcases (by omega : j = 1 ∨ j = 2 ∨ j = 3 ∨ j = 4 ∨ j = 5 ∨ j = 6) with rfl | rfl | rfl | rfl | rfl | rfl
          · exact (w2.2.1 27 _ _ x rfl hx (by decide +kernel)).trans (w1.2.1 27 _ _ x rfl hx (by decide +kernel))
          · exact (w2.2.1 28 _ _ x rfl hx (by decide +kernel)).trans (w1.2.1 28 _ _ x rfl hx (by decide +kernel))
          · exact (w2.2.1 29 _ _ x rfl hx (by decide +kernel)).trans (u10 29 x (Or.inl rfl) hx (by omega))
          · exact (w2.2.1 30 _ _ x rfl hx (by decide +kernel)).trans (w1.2.1 30 _ _ x rfl hx (by decide +kernel))
          · exact (w2.2.1 31 _ _ x rfl hx (by decide +kernel)).trans (u10 31 x (Or.inr rfl) hx (by omega))
          · exact (w2.2.1 32 _ _ x rfl hx (by decide +kernel)).trans (w1.2.1 32 _ _ x rfl hx (by decide +kernel))) (fun k hk => by
          rw [Dn.1 k hk]
          show (if k = 30 + a2.toNatClampNeg then A1.2.1 395 (30 + a1.toNatClampNeg) else if k = 40 + a2.toNatClampNeg then A1.2.1 395 (40 + a2.toNatClampNeg) ||| (A1.2.1 395 (30 + a1.toNatClampNeg) &&& A1.2.1 395 a2.toNatClampNeg) else A1.2.1 395 k) = _
          rw [x5 (30 + a1.toNatClampNeg) (by omega), x5 (40 + a2.toNatClampNeg) (by omega), x5 a2.toNatClampNeg (by omega), x5 k hk])
      have ez : z1 = z2 := by
        rw [u7, v6, Dn.1 (30 + a2.toNatClampNeg) (by omega)]
        show _ = (if 30 + a2.toNatClampNeg = 30 + a2.toNatClampNeg then A1.2.1 395 (30 + a1.toNatClampNeg) else _)
        rw [if_pos rfl, x5 (30 + a1.toNatClampNeg) (by omega)]
        exact (hN0.1.2.2.2 a1.toNatClampNeg (by omega)).2.2.1
      exact ⟨z2, rfl, ez, N + 72, by omega, hJ.mono (hJ.self hA2) (by omega) (by omega), hB2, by rw [eH2]; exact nn, by rw [eH2]; exact hP0.push hN0 lH.2 b1 b2.1 u6 (hPk.uf w2 (by decide +kernel)) Dn, by rw [eH2]; exact (hS0.uf lH.2 w1 (by decide +kernel) (by decide +kernel) (by decide +kernel) (by decide +kernel) (by decide +kernel)).uf lH.2 w2 (by decide +kernel) (by decide +kernel) (by decide +kernel) (by decide +kernel) (by decide +kernel), D, hC2⟩
    · exact absurd v1 (by omega)
  · have lHA : hHn A = (A.2.1 376 (A.1 367 18).toNatClampNeg).toInt := rfl
    rcases f2 with ⟨v1, v2, v3, v4, v5, v6, v7⟩ | ⟨v1, v2, v3⟩
    · exact absurd u1 (by omega)
    · subst v3
      subst u3
      exact ⟨z2, rfl, Int32.toInt_inj.mp (by omega), N + 72, by omega, hJ.mono (hJ.self hA2) (by omega) (by omega), hB2, by rw [eH2]; exact hN0, by rw [eH2]; exact hP0, by rw [eH2]; exact hS0, D, hC2⟩
theorem hpr_change {N : Int} {A : hs_A} (hA : hJ 0 N (N + 72) A A) (hN : N ≤ 800000) (hI : hIC A) (a1 : Int32) (a2 : Int32) : hxC 26 86 hm_m86 [.ref 1, .int a1, .int a2] A (fun r A1 => ∃ z : Int32, r = some (.int z) ∧ hxC 26 195 hm_m195 [.ref 368, .int a1, .int a2] A1 (fun r2 A2 => ∃ z2 : Int32, r2 = some (.int z2) ∧ z = z2 ∧ ∃ N' : Int, N' ≤ N + 144 ∧ hJ 0 N' (N' + 72) A2 A2 ∧ hIC A2)) := by
  have bl := hbok.get (hA.1.1 0 1) rfl
  have b1 := hbok.get (hA.1.1 40 1) rfl
  have b2 := hbok.get (hA.1.1 40 2) rfl
  have lH := hHn.le hA
  obtain ⟨hIB0, hN0, hP0, hS0, D, hC0⟩ := hI
  have uH := hIB0.1.1.2.1
  refine hxC.post (uf_k86 uH a1 a2 (hX86g (d := 22) hA a1 a2 hIB0.2.1.c uH)) ?_
  rintro _ A1 ⟨⟨hA1, z1, rfl, f1, k1, n1⟩, w1, H1⟩
  refine ⟨z1, rfl, ?_⟩
  have eH1 : hHn A1 = hHn A := hHn.uf w1 (uf_lv hA) (by decide +kernel) (by decide +kernel)
  have hC1 : hCo D A1 := hC0.uf uH w1 (by decide +kernel) (by decide +kernel) (by decide +kernel)
  refine hxC.post (uf_k195 H1 a1 a2 (hX195g (d := 23) hA1 (by omega) a1 a2 (hHs.r w1 (uf_lv hA) (by decide +kernel) (by decide +kernel)) H1)) ?_
  rintro _ A2 ⟨⟨hA2, z2, rfl, f2, d2, n2⟩, w2, H2⟩
  have l1 : (A1.1 367 18).toNatClampNeg < 2 := uf_lv hA1
  have eH2 : hHn A2 = hHn A := (hHn.uf w2 l1 (by decide +kernel) (by decide +kernel)).trans eH1
  have hC2 : hCo D A2 := hC1.uf H1 w2 (by decide +kernel) (by decide +kernel) (by decide +kernel)
  have hB2 : hIB A2 := hIB0.q ((w1.le (by decide +kernel : ug_wle uw86 uwB = true)).trans (w2.le (by decide +kernel : ug_wle uw195 uwB = true))) H2 bl.2 (uf_lv hA)
  by_cases q : z1.toInt = 1
  · have Dn := (d2 (by omega)).pre (fun k hk => w1.2.1 395 _ _ k rfl hk (by decide +kernel)) (fun j hj => w1.2.1 399 _ _ j rfl hj (by decide +kernel)) (w1.1 367 _ _ 51 rfl rfl (by decide +kernel))
    obtain ⟨u6, u7⟩ := k1 q
    have ha : 0 ≤ a1.toInt ∧ a1.toInt < hHn A ∧ 0 ≤ a2.toInt ∧ a2.toInt < hHn A ∧ ¬ a1.toInt = a2.toInt := by
      rcases f1 with ⟨-, y⟩ | ⟨y, -⟩
      · exact y
      · exact absurd y (by omega)
    have c1 := hn_cn (j := a1) ha.1
    have c2 := hn_cn (j := a2) ha.2.2.1
    have nn : hNw (hHn A) A2 := hLo.swp (a := a1.toNatClampNeg) (b := a2.toNatClampNeg) hN0 lH.2 (by omega) (by omega) (fun k a b => by rcases (by omega : k = 6 ∨ k = 7 ∨ k = 8 ∨ k = 9 ∨ k = 10) with rfl | rfl | rfl | rfl | rfl; exact (w2.1 26 _ _ 6 rfl rfl (by decide +kernel)).trans (w1.1 26 _ _ 6 rfl rfl (by decide +kernel)); exact (w2.1 26 _ _ 7 rfl rfl (by decide +kernel)).trans (w1.1 26 _ _ 7 rfl rfl (by decide +kernel)); exact (w2.1 26 _ _ 8 rfl rfl (by decide +kernel)).trans (w1.1 26 _ _ 8 rfl rfl (by decide +kernel)); exact (w2.1 26 _ _ 9 rfl rfl (by decide +kernel)).trans (w1.1 26 _ _ 9 rfl rfl (by decide +kernel)); exact (w2.1 26 _ _ 10 rfl rfl (by decide +kernel)).trans (w1.1 26 _ _ 10 rfl rfl (by decide +kernel))) (fun j a b x hx => by
        rcases (by omega : j = 1 ∨ j = 2 ∨ j = 3 ∨ j = 4) with rfl | rfl | rfl | rfl
        · exact (w2.2.1 27 _ _ x rfl hx (by decide +kernel)).trans (u7 1 (by omega) (by omega) x hx)
        · exact (w2.2.1 28 _ _ x rfl hx (by decide +kernel)).trans (u7 2 (by omega) (by omega) x hx)
        · exact (w2.2.1 29 _ _ x rfl hx (by decide +kernel)).trans (u7 3 (by omega) (by omega) x hx)
        · exact (w2.2.1 30 _ _ x rfl hx (by decide +kernel)).trans (u7 4 (by omega) (by omega) x hx)) (fun x hx => ⟨(w2.2.1 31 _ _ x rfl hx (by decide +kernel)).trans (w1.2.1 31 _ _ x rfl hx (by decide +kernel)), (w2.2.1 32 _ _ x rfl hx (by decide +kernel)).trans (w1.2.1 32 _ _ x rfl hx (by decide +kernel))⟩) (fun k hk => by
        rw [Dn.1 k hk]
        exact hswr_x (fun j hj => w1.2.1 395 _ _ j rfl hj (by decide +kernel)) (by omega) (by omega) hk)
    exact ⟨z2, rfl, Int32.toInt_inj.mp (by omega), N + 72, by omega, hJ.mono (hJ.self hA2) (by omega) (by omega), hB2, by rw [eH2]; exact nn, by rw [eH2]; exact hP0.push hN0 lH.2 b1 b2.1 u6 (hPk.uf w2 (by decide +kernel)) Dn, by rw [eH2]; exact (hS0.uf lH.2 w1 (by decide +kernel) (by decide +kernel) (by decide +kernel) (by decide +kernel) (by decide +kernel)).uf lH.2 w2 (by decide +kernel) (by decide +kernel) (by decide +kernel) (by decide +kernel) (by decide +kernel), D, hC2⟩
  · have e1 := n1 q
    have e2 := n2 (by omega)
    subst e2
    subst e1
    exact ⟨z2, rfl, Int32.toInt_inj.mp (by omega), N + 72, by omega, hJ.mono (hJ.self hA2) (by omega) (by omega), hB2, by rw [eH2]; exact hN0, by rw [eH2]; exact hP0, by rw [eH2]; exact hS0, D, hC2⟩
