theorem hPc_uf {W : Nat} {A A' : hs_A} (w : uf_W W A A') (c : (Nat.testBit W (ug_o (ug_g 42) 6) || (Nat.testBit W (ug_o (ug_g 42) 7) || (Nat.testBit W (ug_o (ug_g 42) 8) || (Nat.testBit W (ug_o (ug_g 42) 9) || (Nat.testBit W (ug_o (ug_g 42) 10) || (Nat.testBit W (ug_g 43) || (Nat.testBit W (ug_g 44) || (Nat.testBit W (ug_g 45) || (Nat.testBit W (ug_g 46) || (Nat.testBit W (ug_g 47) || (Nat.testBit W (ug_g 48)))))))))))) = false) (q : Nat) (hq : q < 40) : (∀ k, 6 ≤ k → k ≤ 10 → A'.1 (42 + 7 * q) k = A.1 (42 + 7 * q) k) ∧ ∀ j, 1 ≤ j → j ≤ 6 → ∀ x : Nat, x < 10 → A'.2.1 (42 + 7 * q + j) x = A.2.1 (42 + 7 * q + j) x := by
  simp only [Bool.or_eq_false_iff] at c
  obtain ⟨c6, c7, c8, c9, c10, d1, d2, d3, d4, d5, d6⟩ := c
  obtain ⟨s1, s2, s3⟩ := hPk_sh q hq
  refine ⟨fun k a b => ?_, fun j a b x hx => ?_⟩
  · have hk : k = 6 ∨ k = 7 ∨ k = 8 ∨ k = 9 ∨ k = 10 := by omega
    rcases hk with rfl | rfl | rfl | rfl | rfl
    · exact w.1 _ _ _ 6 s1 rfl (by rw [s3]; exact c6)
    · exact w.1 _ _ _ 7 s1 rfl (by rw [s3]; exact c7)
    · exact w.1 _ _ _ 8 s1 rfl (by rw [s3]; exact c8)
    · exact w.1 _ _ _ 9 s1 rfl (by rw [s3]; exact c9)
    · exact w.1 _ _ _ 10 s1 rfl (by rw [s3]; exact c10)
  · have hk : j = 1 ∨ j = 2 ∨ j = 3 ∨ j = 4 ∨ j = 5 ∨ j = 6 := by omega
    have sj := s2 j (by omega) a
    refine w.2.1 _ _ _ x sj.1 hx ?_
    rw [sj.2]
    rcases hk with rfl | rfl | rfl | rfl | rfl | rfl
    · exact d1
    · exact d2
    · exact d3
    · exact d4
    · exact d5
    · exact d6
theorem hpr_hours {N : Int} {A : hs_A} (hA : hJ 0 N (N + 72) A A) (hN : N ≤ 800000) (hI : hIC A) (a1 : Int32) : hxC 26 87 hm_m87 [.ref 1, .int a1] A (fun r A1 => ∃ z : Int32, r = some (.int z) ∧ hxC 26 198 hm_m198 [.ref 368, .int a1] A1 (fun r2 A2 => ∃ z2 : Int32, r2 = some (.int z2) ∧ z = z2 ∧ ∃ N' : Int, N' ≤ N + 144 ∧ hJ 0 N' (N' + 72) A2 A2 ∧ hIC A2)) := by
  have bl := hbok.get (hA.1.1 0 1) rfl
  have b1 := hbok.get (hA.1.1 40 1) rfl
  have b2 := hbok.get (hA.1.1 40 2) rfl
  have lH := hHn.le hA
  obtain ⟨hIB0, hN0, hP0, hS0, D, hC0⟩ := hI
  have uH := hIB0.1.1.2.1
  obtain ⟨n, hn⟩ : ∃ n : Nat, hHn A = (n : Int) := ⟨(hHn A).toNat, by omega⟩
  have h10 : n ≤ 10 := by omega
  have hN9 : hNw (n : Int) A := by rw [← hn]; exact hN0
  have hCt : ∀ T, hTT T → A.2.2.2 0 3 = T + 1 → hdK T D A ∧ (A.1 T 4).toInt = (n : Int) := fun T _ e => ⟨hC0.1 T e, (congrArg Int32.toInt (hIB0.2.1 T e)).trans hn⟩
  have hL : hdL 26 (A.2.1 395) n A := hN9.1.d h10
  have hO : huO (A.2.1 395) n := hN9.2
  have q70 := hA.2.1.2.1
  refine hxC.post (uf_k87 uH a1 (hX87h (d := 21) hA a1 uH hCt hL hO hC0.2.2.1 hC0.2.2.2.1 hC0.2.2.2.2 (by omega))) ?_
  rintro _ A1 ⟨⟨hA1, z1, rfl, f1⟩, w1, H1⟩
  refine ⟨z1, rfl, ?_⟩
  have eH1 : hHn A1 = hHn A := hHn.uf w1 (uf_lv hA) (by decide +kernel) (by decide +kernel)
  have hC1 : hCo D A1 := hC0.uf uH w1 (by decide +kernel) (by decide +kernel) (by decide +kernel)
  have eN : A1.2.1 376 (A1.1 367 18).toNatClampNeg = Int32.ofNat n := huI (eH1.trans hn) (by omega)
  have e5 : ∀ k, k < 73 → A1.2.1 395 k = A.2.1 395 k := (fun k hk => w1.2.1 395 _ _ k rfl hk (by decide +kernel))
  have hO1 : huO (A1.2.1 395) n := hO.mv h10 e5
  have e70 := congrArg Int32.toInt (e5 70 (by omega))
  refine hxC.post (uf_k198 H1 a1 (hX198h (d := 19) hA1 (by omega) a1 H1 hC1.2.1 eN h10 hO1 hC0.2.2.1 hC0.2.2.2.1 hC0.2.2.2.2 (by omega))) ?_
  rintro _ A2 ⟨⟨hA2, z2, rfl, f2⟩, w2, H2⟩
  have l1 : (A1.1 367 18).toNatClampNeg < 2 := uf_lv hA1
  have eH2 : hHn A2 = hHn A := (hHn.uf w2 l1 (by decide +kernel) (by decide +kernel)).trans eH1
  have hC2 : hCo D A2 := hC1.uf H1 w2 (by decide +kernel) (by decide +kernel) (by decide +kernel)
  have hB2 : hIB A2 := hIB0.q ((w1.le (by decide +kernel : ug_wle uw87 uwB = true)).trans (w2.le (by decide +kernel : ug_wle uw198 uwB = true))) H2 bl.2 (uf_lv hA)
  rcases f1 with ⟨u1, u2, u3, u4, m, u5, u6⟩ | ⟨u1, u2, u3⟩
  · have N2 : (∀ k, k < 73 → A2.2.1 395 k = huY D n true (Int32.ofInt D.2.2.1) m (A.2.1 395) k) → hNw (hHn A) A2 := fun hg => by
      rw [hn]
      exact ⟨hLw.mv u6.w (by omega) (fun k a b => by rcases (by omega : k = 6 ∨ k = 7 ∨ k = 8 ∨ k = 9 ∨ k = 10) with rfl | rfl | rfl | rfl | rfl; exact w2.1 26 _ _ 6 rfl rfl (by decide +kernel); exact w2.1 26 _ _ 7 rfl rfl (by decide +kernel); exact w2.1 26 _ _ 8 rfl rfl (by decide +kernel); exact w2.1 26 _ _ 9 rfl rfl (by decide +kernel); exact w2.1 26 _ _ 10 rfl rfl (by decide +kernel)) (fun j a b x hx => by rcases (by omega : j = 1 ∨ j = 2 ∨ j = 3 ∨ j = 4 ∨ j = 5 ∨ j = 6) with rfl | rfl | rfl | rfl | rfl | rfl; exact w2.2.1 27 _ _ x rfl hx (by decide +kernel); exact w2.2.1 28 _ _ x rfl hx (by decide +kernel); exact w2.2.1 29 _ _ x rfl hx (by decide +kernel); exact w2.2.1 30 _ _ x rfl hx (by decide +kernel); exact w2.2.1 31 _ _ x rfl hx (by decide +kernel); exact w2.2.1 32 _ _ x rfl hx (by decide +kernel)) hg, (hO.I (b := true) (s := (Int32.ofInt D.2.2.1)) h10 hC0.2.2.1 hC0.2.2.2.1 m (by omega)).1.mv h10 hg⟩
    rcases f2 with ⟨v1, v2, v3, v4⟩ | ⟨v1, v2, v3⟩
    · rcases v4 with ⟨y1, y2⟩ | ⟨y1, m2, y3, y4⟩
      · obtain rfl : m = 0 := by omega
        have nn := N2 (fun k hk => by rw [y2]; exact e5 k hk)
        have ez : z1 = z2 := by rw [u3, v3, ← nn.1.2.1.1]; exact (w2.1 26 _ _ 7 rfl rfl (by decide +kernel)).symm
        have k1 : hPk A A1 := by
          rcases u4 with ⟨-, x⟩ | ⟨x, -⟩
          · exact x
          · exact absurd x (by omega)
        have pp : hPs (hHn A) A2 := by rw [y2]; exact hPs.uf hP0 lH.2 w1 k1 b1 b2.2 (by decide +kernel) (by decide +kernel)
        exact ⟨z2, rfl, ez, N + 72, by omega, hJ.mono (hJ.self hA2) (by omega) (by omega), hB2, by rw [eH2]; exact nn, by rw [eH2]; exact pp, by rw [eH2]; exact (hS0.uf lH.2 w1 (by decide +kernel) (by decide +kernel) (by decide +kernel) (by decide +kernel) (by decide +kernel)).uf lH.2 w2 (by decide +kernel) (by decide +kernel) (by decide +kernel) (by decide +kernel) (by decide +kernel), D, hC2⟩
      · obtain rfl : m2 = m := by omega
        have Dn := y4.pre (fun k hk => w1.2.1 395 _ _ k rfl hk (by decide +kernel)) (fun j hj => w1.2.1 399 _ _ j rfl hj (by decide +kernel)) (w1.1 367 _ _ 51 rfl rfl (by decide +kernel))
        have nn := N2 (fun k hk => (Dn.1 k hk).trans (huY_cg h10 e5 m2 k hk))
        have ez : z1 = z2 := by rw [u3, v3, ← nn.1.2.1.1]; exact (w2.1 26 _ _ 7 rfl rfl (by decide +kernel)).symm
        have k1 : hKq A A1 := by
          rcases u4 with ⟨x, -⟩ | ⟨-, x⟩
          · exact absurd x (by omega)
          · exact x
        exact ⟨z2, rfl, ez, N + 72, by omega, hJ.mono (hJ.self hA2) (by omega) (by omega), hB2, by rw [eH2]; exact nn, by rw [eH2]; exact hP0.push hN0 lH.2 b1 b2.1 k1 (hPk.uf w2 (by decide +kernel)) Dn, by rw [eH2]; exact (hS0.uf lH.2 w1 (by decide +kernel) (by decide +kernel) (by decide +kernel) (by decide +kernel) (by decide +kernel)).uf lH.2 w2 (by decide +kernel) (by decide +kernel) (by decide +kernel) (by decide +kernel) (by decide +kernel), D, hC2⟩
    · exact absurd v1 (by omega)
  · rcases f2 with ⟨v1, v2, v3, v4⟩ | ⟨v1, v2, v3⟩
    · exact absurd u1 (by omega)
    · subst v3
      subst u3
      exact ⟨z2, rfl, Int32.toInt_inj.mp (by omega), N + 72, by omega, hJ.mono (hJ.self hA2) (by omega) (by omega), hB2, by rw [eH2]; exact hN0, by rw [eH2]; exact hP0, by rw [eH2]; exact hS0, D, hC2⟩
theorem hpr_undo {N : Int} {A : hs_A} (hA : hJ 0 N (N + 72) A A) (hN : N ≤ 800000) (hI : hIC A)  : hxC 26 88 hm_m88 [.ref 1] A (fun r A1 => ∃ z : Int32, r = some (.int z) ∧ hxC 26 199 hm_m199 [.ref 368] A1 (fun r2 A2 => ∃ z2 : Int32, r2 = some (.int z2) ∧ z = z2 ∧ ∃ N' : Int, N' ≤ N + 144 ∧ hJ 0 N' (N' + 72) A2 A2 ∧ hIC A2)) := by
  have bl := hbok.get (hA.1.1 0 1) rfl
  have b1 := hbok.get (hA.1.1 40 1) rfl
  have b2 := hbok.get (hA.1.1 40 2) rfl
  have lH := hHn.le hA
  obtain ⟨hIB0, hN0, hP0, hS0, D, hC0⟩ := hI
  have uH := hIB0.1.1.2.1
  refine hxC.post (uf_k88 uH  (hX88g (d := 23) hA)) ?_
  rintro _ A1 ⟨⟨hA1, z1, rfl, f1⟩, w1, H1⟩
  refine ⟨z1, rfl, ?_⟩
  have eH1 : hHn A1 = hHn A := hHn.uf w1 (uf_lv hA) (by decide +kernel) (by decide +kernel)
  have hC1 : hCo D A1 := hC0.uf uH w1 (by decide +kernel) (by decide +kernel) (by decide +kernel)
  refine hxC.post (uf_k199 H1  (hX199g (d := 25) hA1 (by omega))) ?_
  rintro _ A2 ⟨⟨hA2, z2, rfl, f2⟩, w2, H2⟩
  have l1 : (A1.1 367 18).toNatClampNeg < 2 := uf_lv hA1
  have eH2 : hHn A2 = hHn A := (hHn.uf w2 l1 (by decide +kernel) (by decide +kernel)).trans eH1
  have hC2 : hCo D A2 := hC1.uf H1 w2 (by decide +kernel) (by decide +kernel) (by decide +kernel)
  have hB2 : hIB A2 := hIB0.q ((w1.le (by decide +kernel : ug_wle uw88 uwB = true)).trans (w2.le (by decide +kernel : ug_wle uw199 uwB = true))) H2 bl.2 (uf_lv hA)
  have m26 : ∀ k, 6 ≤ k → k ≤ 10 → A2.1 26 k = A1.1 26 k := (fun k a b => by rcases (by omega : k = 6 ∨ k = 7 ∨ k = 8 ∨ k = 9 ∨ k = 10) with rfl | rfl | rfl | rfl | rfl; exact w2.1 26 _ _ 6 rfl rfl (by decide +kernel); exact w2.1 26 _ _ 7 rfl rfl (by decide +kernel); exact w2.1 26 _ _ 8 rfl rfl (by decide +kernel); exact w2.1 26 _ _ 9 rfl rfl (by decide +kernel); exact w2.1 26 _ _ 10 rfl rfl (by decide +kernel))
  have m27 : ∀ j, 1 ≤ j → j ≤ 6 → ∀ x : Nat, x < 10 → A2.2.1 (26 + j) x = A1.2.1 (26 + j) x := (fun j a b x hx => by rcases (by omega : j = 1 ∨ j = 2 ∨ j = 3 ∨ j = 4 ∨ j = 5 ∨ j = 6) with rfl | rfl | rfl | rfl | rfl | rfl; exact w2.2.1 27 _ _ x rfl hx (by decide +kernel); exact w2.2.1 28 _ _ x rfl hx (by decide +kernel); exact w2.2.1 29 _ _ x rfl hx (by decide +kernel); exact w2.2.1 30 _ _ x rfl hx (by decide +kernel); exact w2.2.1 31 _ _ x rfl hx (by decide +kernel); exact w2.2.1 32 _ _ x rfl hx (by decide +kernel))
  have e51 : A1.1 367 51 = A.1 367 51 := w1.1 367 _ _ 51 rfl rfl (by decide +kernel)
  have hsz := congrArg Int32.toInt hP0.1
  rw [e51] at f2
  rcases f1 with ⟨u1, p, u2, u3, u4, u5, u6, u7, u8⟩ | ⟨u1, u2, u3, u4⟩
  · rcases f2 with ⟨v1, u, v2, v3, v4⟩ | ⟨v1, v2, v3⟩
    · have pq : (((A.1 40 1).toInt + (u : Int)) % 40).toNat = p := by omega
      have old := hP0.2 u (by omega)
      rw [pq] at old
      have e402 : A2.1 40 2 = A1.1 40 2 := w2.1 40 _ _ 2 rfl rfl (by decide +kernel)
      have e401 : A2.1 40 1 = A1.1 40 1 := w2.1 40 _ _ 1 rfl rfl (by decide +kernel)
      have t402 := congrArg Int32.toInt e402
      have nn : hNw (hHn A) A2 := hLo.mv old lH.2 (fun k a b => (m26 k a b).trans (u7 k a b)) (fun j a b x hx => (m27 j a b x hx).trans (u8 j a b x hx)) (fun k hk => by rw [v4 k hk]; exact w1.2.1 399 _ _ _ rfl (by omega) (by decide +kernel))
      have pp : hPs (hHn A) A2 := by
        refine ⟨Int32.toInt_inj.mp (by omega), fun i hi => ?_⟩
        rw [e401, u6]
        have hq : (((A.1 40 1).toInt + (i : Int)) % 40).toNat < 40 := by omega
        have kk := hPc_uf w1 (by decide +kernel) _ hq
        have kk2 := hPc_uf w2 (by decide +kernel) _ hq
        exact (hP0.2 i (by omega)).mv lH.2 (fun k a b => (kk2.1 k a b).trans (kk.1 k a b)) (fun j a b x hx => (kk2.2 j a b x hx).trans (kk.2 j a b x hx)) (fun k hk => (w2.2.1 399 _ _ _ rfl (by omega) (by decide +kernel)).trans (w1.2.1 399 _ _ _ rfl (by omega) (by decide +kernel)))
      exact ⟨z2, rfl, Int32.toInt_inj.mp (by omega), N + 72, by omega, hJ.mono (hJ.self hA2) (by omega) (by omega), hB2, by rw [eH2]; exact nn, by rw [eH2]; exact pp, by rw [eH2]; exact (hS0.uf lH.2 w1 (by decide +kernel) (by decide +kernel) (by decide +kernel) (by decide +kernel) (by decide +kernel)).uf lH.2 w2 (by decide +kernel) (by decide +kernel) (by decide +kernel) (by decide +kernel) (by decide +kernel), D, hC2⟩
    · exact absurd u3 (by omega)
  · rcases f2 with ⟨v1, u, v2, v3, v4⟩ | ⟨v1, v2, v3⟩
    · exact absurd u2 (by omega)
    · subst v3
      have nn : hNw (hHn A) A2 := hLo.mv hN0 lH.2 (fun k _ _ => u3 26 k (by omega)) (fun j _ _ x _ => by rw [u4]) (fun k hk => by rw [u4])
      have pp : hPs (hHn A) A2 := ⟨by rw [u3 40 2 (by omega), u3 367 51 (by omega)]; exact hP0.1, fun i hi => by rw [u3 40 2 (by omega)] at hi; exact False.elim (by omega)⟩
      exact ⟨z2, rfl, Int32.toInt_inj.mp (by omega), N + 72, by omega, hJ.mono (hJ.self hA2) (by omega) (by omega), hB2, by rw [eH2]; exact nn, by rw [eH2]; exact pp, by rw [eH2]; exact hS0.uf lH.2 w1 (by decide +kernel) (by decide +kernel) (by decide +kernel) (by decide +kernel) (by decide +kernel), D, hC2⟩
