theorem hs_vis.symm {A A' : hs_A} (h : hs_vis A A') : hs_vis A' A := by
  obtain ⟨hh, h1, h2⟩ := h
  exact ⟨hh, h2, h1⟩
theorem hY87h {d : Nat} {Bn Br : Int} {A0 A : hs_A} (hA : hJ 0 Bn Br A0 A)  (a1 : Int32) {D : hg_D} {ro : Nat → Int32} {n : Nat} (uH : uf_H A) (hCt : (∀ T, hTT T → A.2.2.2 0 3 = T + 1 → hdK T D A ∧ (A.1 T 4).toInt = (n : Int))) (hL : hdL 26 ro n A) (hO : huO ro n) (hD : ∀ t, t < 24 → 0 ≤ D.1 t ∧ D.1 t ≤ 255) (hD2 : 0 ≤ D.2.1 ∧ D.2.1 ≤ 10000) (hD3 : 0 ≤ D.2.2.1 ∧ D.2.2.1 ≤ 10000) (h70 : (ro 70).toInt ≤ 1000000) {P : Option Value → hs_A → Prop} (hP : ∀ (r : Option Value) (A' : hs_A), (hJ 0 Bn Br A0 A' ∧ ∃ z : Int32, r = some (.int z) ∧ ((0 ≤ a1.toInt ∧ a1.toInt ≤ 72 ∧ z = A'.1 26 7 ∧ (a1.toInt = 0 ∧ hPk A A' ∨ 0 < a1.toInt ∧ hKq A A') ∧ ∃ m : Nat, a1.toInt = (m : Int) ∧ hdL 26 (huY D n true (Int32.ofInt D.2.2.1) m ro) n A') ∨ ((a1.toInt < 0 ∨ 72 < a1.toInt) ∧ z.toInt = -1 ∧ A' = A))) → P r A') : hxa (d + 4) (some (.int)) hm_t87 0 [.ref 1, .int a1, .retAddr 0] [] A P := by
  have k0 := hk_0
  have k1 := hk_1
  have k4294967295 := hk_4294967295
  have k72 := hk_72
  obtain ⟨T0, hT0, tA0, eT0⟩ := hA.T
  obtain ⟨hC0, hn0⟩ := hCt T0 hT0 tA0
  have L22 : ∀ (m22 : Nat) (x22_2 : Int32) (Ac22 : hs_A) (hAc22 : hJ 0 Bn Br A0 Ac22) (bx22_2 : 0 ≤ x22_2.toInt) (cx22_2 : x22_2.toInt ≤ 72) (ba1 : 0 ≤ a1.toInt) (ca1 : a1.toInt ≤ 72) (hm22 : 72 - x22_2.toInt < (m22 : Int)) (iv22 : (a1.toInt = 0 ∧ hPk A Ac22 ∨ 0 < a1.toInt ∧ hKq A Ac22) ∧ uf_H Ac22 ∧ hdK T0 D Ac22 ∧ (Ac22.1 T0 4).toInt = (n : Int) ∧ ∃ m : Nat, x22_2.toInt = (m : Int) ∧ (m : Int) ≤ a1.toInt ∧ hdL 26 (huY D n true (Int32.ofInt D.2.2.1) m ro) n Ac22), hxa (d + 4) (some (.int)) hm_t87 22 [.ref 1, .int a1, .int x22_2] [] Ac22 P := by
    intro m22
    induction m22 with
    | zero => intro x22_2 Ac22 hAc22 bx22_2 cx22_2 ba1 ca1 hm22 iv22;  exact False.elim (by omega)
    | succ m22 ih22 =>
      intro x22_2 Ac22 hAc22 bx22_2 cx22_2 ba1 ca1 hm22 iv22
      refine hxa_iload_n (by rfl) rfl ?_
      refine hxa_iload_n (by rfl) rfl ?_
      refine hxj_cge (by rfl) rfl rfl (fun q1 => ?_) (fun q1 => ?_)
      ·
        refine hxa_aload_n (by rfl) rfl ?_
        refine hxa_get (v := .ref 27) (by rfl) (by rfl) (by rfl) rfl ?_
        refine hxj_getI (by rfl) (by rfl) (by rfl) (fun z2 ez2 => ?_)
        exact hxa_ireturn (by rfl) rfl (hP _ _ ⟨hAc22, _, rfl, Or.inl ⟨by omega, by omega, ez2.symm, iv22.1, by obtain ⟨m, m1, m2, mL⟩ := iv22.2.2.2.2; exact ⟨m, by omega, mL⟩⟩⟩)
      ·
        refine hxa_aload_n (by rfl) rfl ?_
        refine hxa_get (v := .ref 27) (by rfl) (by rfl) (by rfl) rfl ?_
        refine hxa_aload_n (by rfl) rfl ?_
        refine hxj_getT (by rfl) (by rfl) (by rfl) (hAc22.Tw eT0) ?_
        refine hxa_aload_n (by rfl) rfl ?_
        refine hxa_get (v := .ref 324) (by rfl) (by rfl) (by rfl) rfl ?_
        refine hxa_iconst (by rfl) rfl ?_
        refine hxa_aload_n (by rfl) rfl ?_
        refine hxj_getT (by rfl) (by rfl) (by rfl) (hAc22.Tw eT0) ?_
        refine hxj_getI (by rfl) (hsT hT0) (by rfl) (fun z3 ez3 => ?_)
        obtain ⟨m, m1, m2, mL⟩ := iv22.2.2.2.2
        have OI := hO.I (b := true) (s := (Int32.ofInt D.2.2.1)) hL.1 hD hD2 m (by omega)
        have hs3 : z3 = (Int32.ofInt D.2.2.1) := by obtain ⟨kw, V, ns, zz, k1, k2, kM, k3⟩ := iv22.2.2.1; exact Int32.toInt_inj.mp ((congrArg Int32.toInt ez3.symm).trans (kM.2.2.1.2.2.trans (hs_ofInt hD3.1 hD3.2).symm))
        subst hs3
        refine hxa_call0 (by rfl) (by rfl) (by rfl) (by rfl) (by rfl) (by rfl) (hxC.and (g := 0) (uf_m26 hT0 iv22.2.1 (hX26g (d := d + 0) hAc22 hT0 eT0 (Int32.ofNat 1) (by omega) (by omega) (Int32.ofInt D.2.2.1) iv22.2.1)) (fun g => hP26_26 (b := true) (Int32.ofNat 1) (Int32.ofInt D.2.2.1) hT0 iv22.2.2.1 mL OI.1 hD hD2 hk_1 iv22.2.2.2.1 iv22.2.1)) ?_
        rintro _ A4 ⟨⟨⟨hA4, rfl, c4⟩, w4, H4⟩, A4v, v4, -, L4⟩
        refine hxj_iinc (by rfl) rfl rfl hk_1 (by omega) (by omega) (fun _ => rfl) (fun z5 ez5 => ?_)
        refine hxa_goto (by rfl) ?_
        exact ih22 z5 A4 hA4 (by omega) (by omega) (by omega) (by omega) (by omega) (⟨by rcases iv22.1 with ⟨u1, u2⟩ | ⟨u1, u2⟩; exact Or.inl ⟨u1, u2.trans (hPk.uf w4 (by decide +kernel))⟩; exact Or.inr ⟨u1, u2.k (hPk.uf w4 (by decide +kernel))⟩, H4, iv22.2.2.1.uf hT0 w4 (by decide +kernel), by rw [hdT4 w4 hT0 (by decide +kernel)]; exact iv22.2.2.2.1, m + 1, by omega, by omega, L4.uf hLL_26 (uf_vis v4.symm) (by decide +kernel)⟩)
  refine hxa_iload_n (by rfl) rfl ?_
  refine hxa_iconst (by rfl) rfl ?_
  refine hxa_bipush (by rfl) rfl ?_
  refine hxa_call2 (by rfl) (by decide) (by rfl) (by rfl) (by rfl) (hX78 (d := d + 3)  a1 (Int32.ofNat 0) (Int32.ofNat 72)) ?_
  rintro _ _ ⟨rfl, z6, rfl, fz6⟩
  rcases fz6 with fz6 | fz6
  ·
    refine hxj_zne (by rfl) rfl (fun q7 => ?_) (fun q7 => False.elim (by omega))
    refine hxa_iload_n (by rfl) rfl ?_
    refine hxj_zle (by rfl) rfl (fun q8 => ?_) (fun q8 => ?_)
    ·
      refine hxa_iconst (by rfl) rfl ?_
      refine hxa_s1 (by rfl) (Or.inl ⟨_, rfl, rfl⟩) rfl ?_
      exact L22 (Int.toNat (72 - 0) + 1) (Int32.ofNat 0) A hA (by omega) (by omega) (by omega) (by omega) (by omega) (⟨Or.inl ⟨by omega, ⟨fun q hq => ⟨fun _ _ _ => rfl, fun _ _ _ _ _ => rfl⟩, rfl, rfl⟩⟩, uH, hC0, hn0, 0, by omega, by omega, hL⟩)
    ·
      refine hxa_aload_n (by rfl) rfl ?_
      refine hxa_call0 (by rfl) (by rfl) (by rfl) (by rfl) (by rfl) (by rfl) (uf_i82 uH (hX82g (d := d + 1) hA)) ?_
      rintro _ A9 ⟨⟨hA9, rfl, c9⟩, w9, H9⟩
      refine hxa_iconst (by rfl) rfl ?_
      refine hxa_s1 (by rfl) (Or.inl ⟨_, rfl, rfl⟩) rfl ?_
      exact L22 (Int.toNat (72 - 0) + 1) (Int32.ofNat 0) A9 hA9 (by omega) (by omega) (by omega) (by omega) (by omega) (⟨Or.inr ⟨by omega, c9⟩, H9, hC0.uf hT0 w9 (by decide +kernel), by rw [hdT4 w9 hT0 (by decide +kernel)]; exact hn0, 0, by omega, by omega, hL.uf hLL_26 w9 (by decide +kernel)⟩)
  ·
    refine hxj_zne (by rfl) rfl (fun q10 => False.elim (by omega)) (fun q10 => ?_)
    refine hxa_iconst (by rfl) rfl ?_
    exact hxa_ireturn (by rfl) rfl (hP _ _ ⟨hA, _, rfl, Or.inr ⟨by omega, hk_4294967295, rfl⟩⟩)
theorem hX87h {d : Nat} {Bn Br : Int} {A0 A : hs_A} (hA : hJ 0 Bn Br A0 A)  (a1 : Int32) {D : hg_D} {ro : Nat → Int32} {n : Nat} (uH : uf_H A) (hCt : (∀ T, hTT T → A.2.2.2 0 3 = T + 1 → hdK T D A ∧ (A.1 T 4).toInt = (n : Int))) (hL : hdL 26 ro n A) (hO : huO ro n) (hD : ∀ t, t < 24 → 0 ≤ D.1 t ∧ D.1 t ≤ 255) (hD2 : 0 ≤ D.2.1 ∧ D.2.1 ≤ 10000) (hD3 : 0 ≤ D.2.2.1 ∧ D.2.2.1 ≤ 10000) (h70 : (ro 70).toInt ≤ 1000000) : hxC (d + 5) 87 hm_m87 [.ref 1, .int a1] A (fun r A' => hJ 0 Bn Br A0 A' ∧ ∃ z : Int32, r = some (.int z) ∧ ((0 ≤ a1.toInt ∧ a1.toInt ≤ 72 ∧ z = A'.1 26 7 ∧ (a1.toInt = 0 ∧ hPk A A' ∨ 0 < a1.toInt ∧ hKq A A') ∧ ∃ m : Nat, a1.toInt = (m : Int) ∧ hdL 26 (huY D n true (Int32.ofInt D.2.2.1) m ro) n A') ∨ ((a1.toInt < 0 ∨ 72 < a1.toInt) ∧ z.toInt = -1 ∧ A' = A))) := hxC.of (by rfl) (hY87h hA a1 uH hCt hL hO hD hD2 hD3 h70 (fun r A' h => h))
theorem hY198h {d : Nat} {N : Int} {A0 A : hs_A} (hA : hJ 0 N (N + 72) A0 A) (hN : N ≤ 900000) (a1 : Int32) {D : hg_D} {sd n : Nat} (uH : uf_H A) (hK : hrK sd D A) (hHn : A.2.1 376 sd = Int32.ofNat n) (h10 : n ≤ 10) (hO : huO (A.2.1 395) n) (hD : ∀ t, t < 24 → 0 ≤ D.1 t ∧ D.1 t ≤ 255) (hD2 : 0 ≤ D.2.1 ∧ D.2.1 ≤ 10000) (hD3 : 0 ≤ D.2.2.1 ∧ D.2.2.1 ≤ 10000) (h70 : (A.2.1 395 70).toInt ≤ 1000000) {P : Option Value → hs_A → Prop} (hP : ∀ (r : Option Value) (A' : hs_A), (hJ 0 (N + 72) (N + 144) A0 A' ∧ ∃ z : Int32, r = some (.int z) ∧ ((0 ≤ a1.toInt ∧ a1.toInt ≤ 72 ∧ z = A'.2.1 395 70 ∧ (a1.toInt = 0 ∧ A' = A ∨ 0 < a1.toInt ∧ ∃ m : Nat, a1.toInt = (m : Int) ∧ hDone A A' (huY D n true (Int32.ofInt D.2.2.1) m (A.2.1 395)))) ∨ ((a1.toInt < 0 ∨ 72 < a1.toInt) ∧ z.toInt = -1 ∧ A' = A))) → P r A') : hxa (d + 6) (some (.int)) hm_t198 0 [.ref 368, .int a1] [] A P := by
  have k4294967295 := hk_4294967295
  refine hxa_iload_n (by rfl) rfl ?_
  refine hxa_call2 (by rfl) (by decide) (by rfl) (by rfl) (by rfl) (hX196f (d := d + 4)  a1) ?_
  rintro _ _ ⟨rfl, z1, rfl, fz1⟩
  rcases fz1 with fz1 | fz1
  ·
    refine hxj_zne (by rfl) rfl (fun q2 => ?_) (fun q2 => False.elim (by omega))
    refine hxa_iload_n (by rfl) rfl ?_
    refine hxj_zne (by rfl) rfl (fun q3 => ?_) (fun q3 => ?_)
    ·
      refine hxa_aload_n (by rfl) rfl ?_
      refine hxa_call0 (by rfl) (by rfl) (by rfl) (by rfl) (by rfl) (by rfl) (hxC.and (g := 0) (uf_i171 uH (hX171g (d := d + 5) hA)) (fun g => hP171 hK uH)) ?_
      rintro _ A4 ⟨⟨⟨hA4, rfl, c4⟩, w4, H4⟩, A4v, v4, -, -, l4, s4⟩
      have ca := hn_cn (j := a1) (by omega)
      have K4 := hK.uf w4 (by decide +kernel)
      have N4 : A4.2.1 376 sd = Int32.ofNat n := (w4.2.1 376 _ _ sd rfl (by have := hK.2.1; omega) (by decide +kernel)).trans hHn
      have L4 : A4.1 367 47 = (Int32.ofInt D.2.2.1) := (v4.symm.f (i := 367) (k := 47) (by rfl) (by rfl)).trans (l4.trans (by obtain ⟨V, ns, bb, zz, k1, kM, k2⟩ := hK.2.2.2.2; exact Int32.toInt_inj.mp (kM.2.1.2.2.trans (hs_ofInt hD3.1 hD3.2).symm)))
      have S4 : (A4.1 367 48).toInt = if true then 0 else 1 := (congrArg Int32.toInt ((v4.symm.f (i := 367) (k := 48) (by rfl) (by rfl)).trans s4)).trans hk_0
      refine hxa_aload_n (by rfl) rfl ?_
      refine hxa_iload_n (by rfl) rfl ?_
      refine hxa_call0 (by rfl) (by rfl) (by rfl) (by rfl) (by rfl) (by rfl) (hxC.and (g := 0) (uf_j185 H4 (hX185g (d := d + 0) hA4 (by omega) a1 (by omega) (by omega) H4)) (fun g => hP185 (b := true) (s := (Int32.ofInt D.2.2.1)) (m := a1.toNatClampNeg) a1 K4 N4 h10 c4 hO hD hD2 L4 S4 (by omega) (by omega) H4)) ?_
      rintro _ A5 ⟨⟨⟨hA5, rfl, c5⟩, w5, H5⟩, A5v, v5, -, r5⟩
      refine hxa_aload_n (by rfl) rfl ?_
      refine hxa_call0 (by rfl) (by rfl) (by rfl) (by rfl) (by rfl) (by rfl) (hX190g (d := d + 4) hA5 (by omega) H5) ?_
      rintro _ A6 ⟨hA6, rfl, D6⟩
      refine hxa_aload_n (by rfl) rfl ?_
      refine hxa_get (v := .ref 396) (by rfl) (by rfl) (by rfl) rfl ?_
      refine hxa_bipush (by rfl) rfl ?_
      refine hxj_iald395 (by rfl) hk_70 (by omega) (by omega) hA6 (fun z7 ez7 fz7 => ?_)
      exact hxa_ireturn (by rfl) rfl (hP _ _ ⟨(hJ.mono hA6 (by omega) (by omega)), _, rfl, Or.inl ⟨by omega, by omega, ez7.symm, Or.inr ⟨by omega, a1.toNatClampNeg, by omega, hDone.cg (D6.pre (fun k hk => (w5.2.1 395 _ _ k rfl hk (by decide +kernel)).trans (w4.2.1 395 _ _ k rfl hk (by decide +kernel))) (fun j hj => (w5.2.1 399 _ _ j rfl hj (by decide +kernel)).trans (w4.2.1 399 _ _ j rfl hj (by decide +kernel))) ((w5.1 367 _ _ 51 rfl rfl (by decide +kernel)).trans (w4.1 367 _ _ 51 rfl rfl (by decide +kernel)))) (fun k hk => ((v5.symm.a (i := 396) (t := 1) (m := 73) (by rfl) hk).trans (r5 k hk)).symm)⟩⟩⟩)
    ·
      refine hxa_aload_n (by rfl) rfl ?_
      refine hxa_get (v := .ref 396) (by rfl) (by rfl) (by rfl) rfl ?_
      refine hxa_bipush (by rfl) rfl ?_
      refine hxj_iald395 (by rfl) hk_70 (by omega) (by omega) hA (fun z8 ez8 fz8 => ?_)
      exact hxa_ireturn (by rfl) rfl (hP _ _ ⟨(hJ.mono hA (by omega) (by omega)), _, rfl, Or.inl ⟨by omega, by omega, ez8.symm, Or.inl ⟨by omega, rfl⟩⟩⟩)
  ·
    refine hxj_zne (by rfl) rfl (fun q9 => False.elim (by omega)) (fun q9 => ?_)
    refine hxa_iconst (by rfl) rfl ?_
    exact hxa_ireturn (by rfl) rfl (hP _ _ ⟨(hJ.mono hA (by omega) (by omega)), _, rfl, Or.inr ⟨by omega, hk_4294967295, rfl⟩⟩)
theorem hX198h {d : Nat} {N : Int} {A0 A : hs_A} (hA : hJ 0 N (N + 72) A0 A) (hN : N ≤ 900000) (a1 : Int32) {D : hg_D} {sd n : Nat} (uH : uf_H A) (hK : hrK sd D A) (hHn : A.2.1 376 sd = Int32.ofNat n) (h10 : n ≤ 10) (hO : huO (A.2.1 395) n) (hD : ∀ t, t < 24 → 0 ≤ D.1 t ∧ D.1 t ≤ 255) (hD2 : 0 ≤ D.2.1 ∧ D.2.1 ≤ 10000) (hD3 : 0 ≤ D.2.2.1 ∧ D.2.2.1 ≤ 10000) (h70 : (A.2.1 395 70).toInt ≤ 1000000) : hxC (d + 7) 198 hm_m198 [.ref 368, .int a1] A (fun r A' => hJ 0 (N + 72) (N + 144) A0 A' ∧ ∃ z : Int32, r = some (.int z) ∧ ((0 ≤ a1.toInt ∧ a1.toInt ≤ 72 ∧ z = A'.2.1 395 70 ∧ (a1.toInt = 0 ∧ A' = A ∨ 0 < a1.toInt ∧ ∃ m : Nat, a1.toInt = (m : Int) ∧ hDone A A' (huY D n true (Int32.ofInt D.2.2.1) m (A.2.1 395)))) ∨ ((a1.toInt < 0 ∨ 72 < a1.toInt) ∧ z.toInt = -1 ∧ A' = A))) := hxC.of (by rfl) (hY198h hA hN a1 uH hK hHn h10 hO hD hD2 hD3 h70 (fun r A' h => h))
