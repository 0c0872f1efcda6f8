theorem hY161q4 {d : Nat} {Bn Br : Int} {A0 A : hs_A} (hA : hJ 4 Bn Br A0 A) (hc0 : 0 ≤ (A.1 367 37).toInt) (hc1 : ¬ (A.1 367 13).toInt = 0 ∨ (A.1 367 37).toInt ≤ 0 + (A.1 367 11).toInt) (hc2 : (A.1 367 37).toInt ≤ 402) (ho : ¬ (A.1 367 13).toInt = 0 ∨ (A.1 367 12).toInt ≤ 6) (hl : (A0.1 367 18).toInt = 1)  {P : Option Value → hs_A → Prop} (hP : ∀ (r : Option Value) (A' : hs_A), (hJ 4 Bn Br A0 A' ∧ A'.1 367 19 = A.1 367 19 ∧ A'.1 367 20 = A.1 367 20 ∧ A'.1 367 31 = A.1 367 31 ∧ A'.2.1 376 = A.2.1 376 ∧ A'.2.1 385 = A.2.1 385 ∧ A'.2.1 386 = A.2.1 386 ∧ A'.2.1 387 = A.2.1 387 ∧ r = none ∧ ((¬ (A'.1 367 13).toInt = 0 ∨ ((A.1 367 13).toInt = 0 ∧ (A.1 367 11).toInt + 1 ≤ (A'.1 367 11).toInt ∧ (A'.1 367 12).toInt = (A.1 367 12).toInt ∧ (A'.1 367 37).toInt ≤ 0 + (A'.1 367 11).toInt ∧ hWe (A'.2.1 390) (A'.2.1 391) ((A'.1 367 37).toInt - (A.1 367 37).toInt).toNat (A.1 367 37).toInt.toNat 0 1)) ∧ (A.1 367 11).toInt ≤ (A'.1 367 11).toInt ∧ (A.1 367 37).toInt ≤ (A'.1 367 37).toInt ∧ (A'.1 367 37).toInt ≤ 402 ∧ hK (A.1 367 37).toInt.toNat A A')) → P r A') : hxa (d + 3) none hm_t161 0 [.ref 368, .retAddr 0, .retAddr 0] [] A P := by
  have k0 := hk_0
  have k1 := hk_1
  have k10 := hk_10
  have k15 := hk_15
  have k2 := hk_2
  have k6 := hk_6
  have k7 := hk_7
  have k8 := hk_8
  have k9 := hk_9
  obtain ⟨fb367_11, fb367_11u⟩ := hA.f (i := 367) (k := 11) (by rfl)
  obtain ⟨fb367_12, fb367_12u⟩ := hA.f (i := 367) (k := 12) (by rfl)
  obtain ⟨fb367_13, fb367_13u⟩ := hA.f (i := 367) (k := 13) (by rfl)
  obtain ⟨fb367_19, fb367_19u⟩ := hA.f (i := 367) (k := 19) (by rfl)
  obtain ⟨fb367_20, fb367_20u⟩ := hA.f (i := 367) (k := 20) (by rfl)
  obtain ⟨fb367_31, fb367_31u⟩ := hA.f (i := 367) (k := 31) (by rfl)
  obtain ⟨fb367_37, fb367_37u⟩ := hA.f (i := 367) (k := 37) (by rfl)
  obtain ⟨fb367_41, fb367_41u⟩ := hA.f (i := 367) (k := 41) (by rfl)
  have L12 : ∀ (m12 : Nat) (w12_0 : Int32) (w12_1 : Int32) (w12_2 : Int32) (w12_6 : Int32) (w12_7 : Int32) (x12_1 : Int32) (x12_2 : Int32) (Ac12 : hs_A) (hAc12 : hJ 4 Bn Br A0 Ac12) (ek12_0 : Ac12.1 367 11 = w12_0) (ek12_1 : Ac12.1 367 12 = w12_1) (ek12_2 : Ac12.1 367 13 = w12_2) (ek12_3 : Ac12.1 367 19 = (A.1 367 19)) (ek12_4 : Ac12.1 367 20 = (A.1 367 20)) (ek12_5 : Ac12.1 367 31 = (A.1 367 31)) (ek12_6 : Ac12.1 367 37 = w12_6) (ek12_7 : Ac12.1 367 41 = w12_7) (af12_376 : Ac12.2.1 376 = A.2.1 376) (af12_385 : Ac12.2.1 385 = A.2.1 385) (af12_386 : Ac12.2.1 386 = A.2.1 386) (af12_387 : Ac12.2.1 387 = A.2.1 387) (bx12_1 : 0 ≤ x12_1.toInt) (cx12_1 : x12_1.toInt ≤ 7) (bx12_2 : 1 ≤ x12_2.toInt) (cx12_2 : x12_2.toInt ≤ 1) (bw12_7 : 0 ≤ w12_7.toInt) (cw12_7 : w12_7.toInt ≤ 64) (bw12_0 : 0 ≤ w12_0.toInt) (cw12_0 : w12_0.toInt ≤ 400) (bw12_1 : 0 ≤ w12_1.toInt) (cw12_1 : w12_1.toInt ≤ 7) (bw12_2 : 0 ≤ w12_2.toInt) (cw12_2 : w12_2.toInt ≤ 2) (bw12_6 : 0 ≤ w12_6.toInt) (cw12_6 : w12_6.toInt ≤ 840) (u12_0 : ¬ (Ac12.1 367 13).toInt = 0 ∨ ((A.1 367 13).toInt = 0 ∧ (Ac12.1 367 37).toInt ≤ 0 + (Ac12.1 367 11).toInt ∧ ∃ o g : Nat, hQ 0 (A.1 367 37).toInt o g 0 Ac12 ∧ (o : Int) = (Ac12.1 367 12).toInt - x12_1.toInt ∧ (Ac12.1 367 12).toInt ≤ 6)) (u12_1 : hK (A.1 367 37).toInt.toNat A Ac12) (u12_2 : (A.1 367 37).toInt ≤ (Ac12.1 367 37).toInt ∧ (Ac12.1 367 37).toInt ≤ 402 ∧ (A.1 367 11).toInt ≤ (Ac12.1 367 11).toInt ∧ x12_1.toInt = (A.1 367 12).toInt) (hm12 : 800 - 2 * w12_0.toInt - 2 * w12_2.toInt + 6 < (m12 : Int)), hxa (d + 3) none hm_t161 12 [.ref 368, .int x12_1, .int x12_2] [] Ac12 P := by
    intro m12
    induction m12 with
    | zero => intro w12_0 w12_1 w12_2 w12_6 w12_7 x12_1 x12_2 Ac12 hAc12 ek12_0 ek12_1 ek12_2 ek12_3 ek12_4 ek12_5 ek12_6 ek12_7 af12_376 af12_385 af12_386 af12_387 bx12_1 cx12_1 bx12_2 cx12_2 bw12_7 cw12_7 bw12_0 cw12_0 bw12_1 cw12_1 bw12_2 cw12_2 bw12_6 cw12_6 u12_0 u12_1 u12_2 hm12;  exact False.elim (by omega)
    | succ m12 ih12 =>
      intro w12_0 w12_1 w12_2 w12_6 w12_7 x12_1 x12_2 Ac12 hAc12 ek12_0 ek12_1 ek12_2 ek12_3 ek12_4 ek12_5 ek12_6 ek12_7 af12_376 af12_385 af12_386 af12_387 bx12_1 cx12_1 bx12_2 cx12_2 bw12_7 cw12_7 bw12_0 cw12_0 bw12_1 cw12_1 bw12_2 cw12_2 bw12_6 cw12_6 u12_0 u12_1 u12_2 hm12
      have tk12_0 : (Ac12.1 367 11).toInt = w12_0.toInt := congrArg Int32.toInt ek12_0
      have tk12_1 : (Ac12.1 367 12).toInt = w12_1.toInt := congrArg Int32.toInt ek12_1
      have tk12_2 : (Ac12.1 367 13).toInt = w12_2.toInt := congrArg Int32.toInt ek12_2
      have tk12_6 : (Ac12.1 367 37).toInt = w12_6.toInt := congrArg Int32.toInt ek12_6
      have tk12_7 : (Ac12.1 367 41).toInt = w12_7.toInt := congrArg Int32.toInt ek12_7
      have L96 : ∀ (m96 : Nat) (w96_0 : Int32) (w96_1 : Int32) (w96_2 : Int32) (w96_6 : Int32) (w96_7 : Int32) (Ac96 : hs_A) (hAc96 : hJ 4 Bn Br A0 Ac96) (ek96_0 : Ac96.1 367 11 = w96_0) (ek96_1 : Ac96.1 367 12 = w96_1) (ek96_2 : Ac96.1 367 13 = w96_2) (ek96_3 : Ac96.1 367 19 = (A.1 367 19)) (ek96_4 : Ac96.1 367 20 = (A.1 367 20)) (ek96_5 : Ac96.1 367 31 = (A.1 367 31)) (ek96_6 : Ac96.1 367 37 = w96_6) (ek96_7 : Ac96.1 367 41 = w96_7) (af96_376 : Ac96.2.1 376 = A.2.1 376) (af96_385 : Ac96.2.1 385 = A.2.1 385) (af96_386 : Ac96.2.1 386 = A.2.1 386) (af96_387 : Ac96.2.1 387 = A.2.1 387) (bw96_0 : 0 ≤ w96_0.toInt) (cw96_0 : w96_0.toInt ≤ 400) (bw96_2 : 0 ≤ w96_2.toInt) (cw96_2 : w96_2.toInt ≤ 2) (bw96_6 : 0 ≤ w96_6.toInt) (cw96_6 : w96_6.toInt ≤ 840) (bw96_7 : 0 ≤ w96_7.toInt) (cw96_7 : w96_7.toInt ≤ 64) (bw96_1 : 0 ≤ w96_1.toInt) (cw96_1 : w96_1.toInt ≤ 7) (cw12_2 : w12_2.toInt ≤ 0) (u96_0 : ∃ o g : Nat, hQ 0 (A.1 367 37).toInt o g 1 Ac96 ∧ (o : Int) = (Ac96.1 367 12).toInt - x12_1.toInt ∧ (Ac96.1 367 12).toInt ≤ 6) (u96_1 : hK (A.1 367 37).toInt.toNat A Ac96) (u96_2 : (A.1 367 37).toInt ≤ (Ac96.1 367 37).toInt ∧ (Ac96.1 367 37).toInt ≤ 402 ∧ (A.1 367 11).toInt + 1 ≤ (Ac96.1 367 11).toInt ∧ x12_1.toInt = (A.1 367 12).toInt) (u96_3 : (A.1 367 13).toInt = 0) (u96_4 : w12_0.toInt + 1 ≤ (Ac96.1 367 11).toInt) (hm96 : 800 - 2 * w96_0.toInt - 2 * w96_2.toInt + 6 < (m96 : Int)), hxa (d + 3) none hm_t161 96 [.ref 368, .int x12_1, .int x12_2] [] Ac96 P := by
        intro m96
        induction m96 with
        | zero => intro w96_0 w96_1 w96_2 w96_6 w96_7 Ac96 hAc96 ek96_0 ek96_1 ek96_2 ek96_3 ek96_4 ek96_5 ek96_6 ek96_7 af96_376 af96_385 af96_386 af96_387 bw96_0 cw96_0 bw96_2 cw96_2 bw96_6 cw96_6 bw96_7 cw96_7 bw96_1 cw96_1 cw12_2 u96_0 u96_1 u96_2 u96_3 u96_4 hm96;  exact False.elim (by omega)
        | succ m96 ih96 =>
          intro w96_0 w96_1 w96_2 w96_6 w96_7 Ac96 hAc96 ek96_0 ek96_1 ek96_2 ek96_3 ek96_4 ek96_5 ek96_6 ek96_7 af96_376 af96_385 af96_386 af96_387 bw96_0 cw96_0 bw96_2 cw96_2 bw96_6 cw96_6 bw96_7 cw96_7 bw96_1 cw96_1 cw12_2 u96_0 u96_1 u96_2 u96_3 u96_4 hm96
          have tk96_0 : (Ac96.1 367 11).toInt = w96_0.toInt := congrArg Int32.toInt ek96_0
          have tk96_1 : (Ac96.1 367 12).toInt = w96_1.toInt := congrArg Int32.toInt ek96_1
          have tk96_2 : (Ac96.1 367 13).toInt = w96_2.toInt := congrArg Int32.toInt ek96_2
          have tk96_6 : (Ac96.1 367 37).toInt = w96_6.toInt := congrArg Int32.toInt ek96_6
          have tk96_7 : (Ac96.1 367 41).toInt = w96_7.toInt := congrArg Int32.toInt ek96_7
          refine hxa_aload_n (by rfl) rfl ?_
          refine hxa_bipush (by rfl) rfl ?_
          have nAc96_11 : (Ac96.1 367 11).toInt = w96_0.toInt := congrArg Int32.toInt ek96_0
          have nAc96_12 : (Ac96.1 367 12).toInt = w96_1.toInt := congrArg Int32.toInt ek96_1
          have nAc96_13 : (Ac96.1 367 13).toInt = w96_2.toInt := congrArg Int32.toInt ek96_2
          have nAc96_37 : (Ac96.1 367 37).toInt = w96_6.toInt := congrArg Int32.toInt ek96_6
          have nAc96_41 : (Ac96.1 367 41).toInt = w96_7.toInt := congrArg Int32.toInt ek96_7
          refine hxa_call0 (by rfl) (by rfl) (by rfl) (by rfl) (by rfl) (by rfl) (hX144q4 (d := d + 2) hAc96 (Int32.ofNat 7)) ?_
          rintro _ _ ⟨rfl, z1, rfl, fz1⟩
          rcases fz1 with fz1 | fz1
          ·
            refine hxj_zeq (by rfl) rfl (fun q2 => False.elim (by omega)) (fun q2 => ?_)
            refine hxa_aload_n (by rfl) rfl ?_
            refine hxj_getK (by rfl) (by rfl) (by rfl) ek96_1 ?_
            refine hxa_iload_n (by rfl) rfl ?_
            refine hxj_cle (by rfl) rfl rfl (fun q3 => ?_) (fun q3 => ?_)
            ·
              obtain ⟨o_4, g_4, hq_4, ho_4, h6_4⟩ := u96_0
              have hw_4 := hq_4.w
              have cy_4 := hQ.cb hq_4 (hAc96.f (i := 367) (k := 11) (by rfl)).2
              refine hxa_aload_n (by rfl) rfl ?_
              refine hxa_bipush (by rfl) rfl ?_
              refine hxa_call0 (by rfl) (by rfl) (by rfl) (by rfl) (by rfl) (by rfl) (hX144q4 (d := d + 2) hAc96 (Int32.ofNat 8)) ?_
              rintro _ _ ⟨rfl, z5, rfl, fz5⟩
              rcases fz5 with fz5 | fz5
              ·
                exact False.elim (by omega)
              ·
                refine hxj_zne (by rfl) rfl (fun q6 => False.elim (by omega)) (fun q6 => ?_)
                refine hxa_aload_n (by rfl) rfl ?_
                refine hxa_bipush (by rfl) rfl ?_
                refine hxa_call0 (by rfl) (by rfl) (by rfl) (by rfl) (by rfl) (by rfl) (hX144q4 (d := d + 2) hAc96 (Int32.ofNat 9)) ?_
                rintro _ _ ⟨rfl, z7, rfl, fz7⟩
                rcases fz7 with fz7 | fz7
                ·
                  exact False.elim (by omega)
                ·
                  refine hxj_zne (by rfl) rfl (fun q8 => False.elim (by omega)) (fun q8 => ?_)
                  refine hxa_aload_n (by rfl) rfl ?_
                  refine hxa_bipush (by rfl) rfl ?_
                  refine hxa_call0 (by rfl) (by rfl) (by rfl) (by rfl) (by rfl) (by rfl) (hX144q4 (d := d + 2) hAc96 (Int32.ofNat 10)) ?_
                  rintro _ _ ⟨rfl, z9, rfl, fz9⟩
                  rcases fz9 with fz9 | fz9
                  ·
                    exact False.elim (by omega)
                  ·
                    refine hxj_zne (by rfl) rfl (fun q10 => False.elim (by omega)) (fun q10 => ?_)
                    refine hxa_aload_n (by rfl) rfl ?_
                    refine hxa_bipush (by rfl) rfl ?_
                    refine hxa_call0 (by rfl) (by rfl) (by rfl) (by rfl) (by rfl) (by rfl) (hX144q4 (d := d + 2) hAc96 (Int32.ofNat 15)) ?_
                    rintro _ _ ⟨rfl, z11, rfl, fz11⟩
                    rcases fz11 with fz11 | fz11
                    ·
                      exact False.elim (by omega)
                    ·
                      refine hxj_zeq (by rfl) rfl (fun q12 => ?_) (fun q12 => False.elim (by omega))
                      refine hxa_iconst (by rfl) rfl ?_
                      refine hxa_s1 (by rfl) (Or.inl ⟨_, rfl, rfl⟩) rfl ?_
                      refine hxa_iload_n (by rfl) rfl ?_
                      refine hxj_zne (by rfl) hk_0 (fun q13 => False.elim (by omega)) (fun q13 => ?_)
                      refine hxa_aload_n (by rfl) rfl ?_
                      refine hxj_getK (by rfl) (by rfl) (by rfl) ek96_1 ?_
                      refine hxa_iload_n (by rfl) rfl ?_
                      refine hxj_cle (by rfl) rfl rfl (fun q14 => ?_) (fun q14 => ?_)
                      ·
                        refine hxa_aload_n (by rfl) rfl ?_
                        refine hxa_iconst (by rfl) rfl ?_
                        refine hxa_call0 (by rfl) (by rfl) (by rfl) (by rfl) (by rfl) (by rfl) (hX160q4 (d := d + 1) hAc96 hq_4 hl (Int32.ofNat 0) (by omega) (by omega)) ?_
                        rintro _ A15 ⟨hA15, frA15_0, frA15_1, frA15_2, frA15_3, frA15_4, frA15_5, afA15_376, afA15_385, afA15_386, afA15_387, rfl, fA15⟩
                        have ttA15_12 : (A15.1 367 12).toInt = w96_1.toInt := congrArg Int32.toInt (frA15_0.trans ek96_1)
                        have ttA15_19 : (A15.1 367 19).toInt = (A.1 367 19).toInt := congrArg Int32.toInt (frA15_1.trans ek96_3)
                        have ttA15_20 : (A15.1 367 20).toInt = (A.1 367 20).toInt := congrArg Int32.toInt (frA15_2.trans ek96_4)
                        have ttA15_31 : (A15.1 367 31).toInt = (A.1 367 31).toInt := congrArg Int32.toInt (frA15_3.trans ek96_5)
                        have ttA15_11 : (A15.1 367 11).toInt = w96_0.toInt := congrArg Int32.toInt (frA15_4.trans ek96_0)
                        have ttA15_13 : (A15.1 367 13).toInt = w96_2.toInt := congrArg Int32.toInt (frA15_5.trans ek96_2)
                        obtain ⟨fbA15_367_37, fbA15_367_37u⟩ := hA15.f (i := 367) (k := 37) (by rfl)
                        obtain ⟨fbA15_367_41, fbA15_367_41u⟩ := hA15.f (i := 367) (k := 41) (by rfl)
                        obtain ⟨g2_16, hq2_16, h21_16, h20_16, hk2_16, h92_16, hc2_16⟩ := fA15
                        have hw2_16 := hq2_16.w
                        have hkz_16 := u96_1.trans hk2_16 (by omega)
                        have cz_16 := hQ.cb hq2_16 (hA15.f (i := 367) (k := 11) (by rfl)).2
                        have nA15_11 : (A15.1 367 11).toInt = w96_0.toInt := congrArg Int32.toInt (frA15_4.trans ek96_0)
                        have nA15_12 : (A15.1 367 12).toInt = w96_1.toInt := congrArg Int32.toInt (frA15_0.trans ek96_1)
                        have nA15_13 : (A15.1 367 13).toInt = w96_2.toInt := congrArg Int32.toInt (frA15_5.trans ek96_2)
                        have fi17 : ¬ (A15.1 367 13).toInt = 0 ∨ ((A.1 367 13).toInt = 0 ∧ (A.1 367 11).toInt + 1 ≤ (A15.1 367 11).toInt ∧ (A15.1 367 12).toInt = (A.1 367 12).toInt ∧ (A15.1 367 37).toInt ≤ 0 + (A15.1 367 11).toInt ∧ hWe (A15.2.1 390) (A15.2.1 391) ((A15.1 367 37).toInt - (A.1 367 37).toInt).toNat (A.1 367 37).toInt.toNat 0 1) := by
                          by_cases h9 : (A15.1 367 13).toInt = 0
                          · have e0 := h20_16 (by omega)
                            subst e0
                            have eo : o_4 = 0 := by omega
                            subst eo
                            have hf := hQ.fin hq2_16
                            have h5 := hq2_16.2.2.2.2
                            exact Or.inr ⟨by omega, by omega, by omega, by omega, hf.2⟩
                          · exact Or.inl h9
                        exact hxa_return (by rfl) rfl (hP _ _ ⟨hA15, (frA15_1.trans ek96_3), (frA15_2.trans ek96_4), (frA15_3.trans ek96_5), (afA15_376.trans af96_376), (afA15_385.trans af96_385), (afA15_386.trans af96_386), (afA15_387.trans af96_387), rfl, ⟨fi17, by omega, by omega, by omega, hkz_16⟩⟩)
                      ·
                        refine hxa_aload_n (by rfl) rfl ?_
                        refine hxa_iconst (by rfl) rfl ?_
                        refine hxa_call0 (by rfl) (by rfl) (by rfl) (by rfl) (by rfl) (by rfl) (hX145q4 (d := d + 2) hAc96 (Int32.ofNat 1) (by omega) (by omega)) ?_
                        rintro _ A18 ⟨hA18, frA18_0, frA18_1, frA18_2, frA18_3, frA18_4, frA18_5, aeA18, rfl, fA18⟩
                        have ttA18_12 : (A18.1 367 12).toInt = w96_1.toInt := congrArg Int32.toInt (frA18_0.trans ek96_1)
                        have ttA18_19 : (A18.1 367 19).toInt = (A.1 367 19).toInt := congrArg Int32.toInt (frA18_1.trans ek96_3)
                        have ttA18_20 : (A18.1 367 20).toInt = (A.1 367 20).toInt := congrArg Int32.toInt (frA18_2.trans ek96_4)
                        have ttA18_31 : (A18.1 367 31).toInt = (A.1 367 31).toInt := congrArg Int32.toInt (frA18_3.trans ek96_5)
                        have ttA18_37 : (A18.1 367 37).toInt = w96_6.toInt := congrArg Int32.toInt (frA18_4.trans ek96_6)
                        have ttA18_41 : (A18.1 367 41).toInt = w96_7.toInt := congrArg Int32.toInt (frA18_5.trans ek96_7)
                        obtain ⟨fbA18_367_11, fbA18_367_11u⟩ := hA18.f (i := 367) (k := 11) (by rfl)
                        obtain ⟨fbA18_367_13, fbA18_367_13u⟩ := hA18.f (i := 367) (k := 13) (by rfl)
                        refine hxa_aload_n (by rfl) rfl ?_
                        refine hxa_iconst (by rfl) rfl ?_
                        have nA18_12 : (A18.1 367 12).toInt = w96_1.toInt := congrArg Int32.toInt (frA18_0.trans ek96_1)
                        have nA18_37 : (A18.1 367 37).toInt = w96_6.toInt := congrArg Int32.toInt (frA18_4.trans ek96_6)
                        have nA18_41 : (A18.1 367 41).toInt = w96_7.toInt := congrArg Int32.toInt (frA18_5.trans ek96_7)
                        have ahm19 : A18.2.1 = Ac96.2.1 := by rw [aeA18]
                        have hm19 := hQ.mv hq_4 (A' := A18) (by omega) (by omega) ahm19 (by omega)
                        refine hxa_call0 (by rfl) (by rfl) (by rfl) (by rfl) (by rfl) (by rfl) (hX160q4 (d := d + 1) hA18 hm19 hl (Int32.ofNat 0) (by omega) (by omega)) ?_
                        rintro _ A20 ⟨hA20, frA20_0, frA20_1, frA20_2, frA20_3, frA20_4, frA20_5, afA20_376, afA20_385, afA20_386, afA20_387, rfl, fA20⟩
                        have ttA20_12 : (A20.1 367 12).toInt = w96_1.toInt := congrArg Int32.toInt (frA20_0.trans (frA18_0.trans ek96_1))
                        have ttA20_19 : (A20.1 367 19).toInt = (A.1 367 19).toInt := congrArg Int32.toInt (frA20_1.trans (frA18_1.trans ek96_3))
                        have ttA20_20 : (A20.1 367 20).toInt = (A.1 367 20).toInt := congrArg Int32.toInt (frA20_2.trans (frA18_2.trans ek96_4))
                        have ttA20_31 : (A20.1 367 31).toInt = (A.1 367 31).toInt := congrArg Int32.toInt (frA20_3.trans (frA18_3.trans ek96_5))
                        have ttA20_11 : (A20.1 367 11).toInt = (A18.1 367 11).toInt := congrArg Int32.toInt (frA20_4.trans rfl)
                        have ttA20_13 : (A20.1 367 13).toInt = (A18.1 367 13).toInt := congrArg Int32.toInt (frA20_5.trans rfl)
                        obtain ⟨fbA20_367_37, fbA20_367_37u⟩ := hA20.f (i := 367) (k := 37) (by rfl)
                        obtain ⟨fbA20_367_41, fbA20_367_41u⟩ := hA20.f (i := 367) (k := 41) (by rfl)
                        obtain ⟨g2_21, hq2_21, h21_21, h20_21, hk2_21, h92_21, hc2_21⟩ := fA20
                        have hw2_21 := hq2_21.w
                        have hkz_21 := (u96_1.trans (hK.eq ahm19) (Nat.le_refl _)).trans hk2_21 (by omega)
                        have cz_21 := hQ.cb hq2_21 (hA20.f (i := 367) (k := 11) (by rfl)).2
                        have nA20_11 : (A20.1 367 11).toInt = (A18.1 367 11).toInt := congrArg Int32.toInt (frA20_4.trans rfl)
                        have nA20_12 : (A20.1 367 12).toInt = w96_1.toInt := congrArg Int32.toInt (frA20_0.trans (frA18_0.trans ek96_1))
                        have nA20_13 : (A20.1 367 13).toInt = (A18.1 367 13).toInt := congrArg Int32.toInt (frA20_5.trans rfl)
                        have fi22 : ¬ (A20.1 367 13).toInt = 0 ∨ ((A.1 367 13).toInt = 0 ∧ (A.1 367 11).toInt + 1 ≤ (A20.1 367 11).toInt ∧ (A20.1 367 12).toInt = (A.1 367 12).toInt ∧ (A20.1 367 37).toInt ≤ 0 + (A20.1 367 11).toInt ∧ hWe (A20.2.1 390) (A20.2.1 391) ((A20.1 367 37).toInt - (A.1 367 37).toInt).toNat (A.1 367 37).toInt.toNat 0 1) := by
                          by_cases h9 : (A20.1 367 13).toInt = 0
                          · have e0 := h20_21 (by omega)
                            subst e0
                            have eo : o_4 = 0 := by omega
                            subst eo
                            have hf := hQ.fin hq2_21
                            have h5 := hq2_21.2.2.2.2
                            exact Or.inr ⟨by omega, by omega, by omega, by omega, hf.2⟩
                          · exact Or.inl h9
                        exact hxa_return (by rfl) rfl (hP _ _ ⟨hA20, (frA20_1.trans (frA18_1.trans ek96_3)), (frA20_2.trans (frA18_2.trans ek96_4)), (frA20_3.trans (frA18_3.trans ek96_5)), (afA20_376.trans (hafL aeA18 af96_376)), (afA20_385.trans (hafL aeA18 af96_385)), (afA20_386.trans (hafL aeA18 af96_386)), (afA20_387.trans (hafL aeA18 af96_387)), rfl, ⟨fi22, by omega, by omega, by omega, hkz_21⟩⟩)
            ·
              obtain ⟨o_23, g_23, hq_23, ho_23, h6_23⟩ := u96_0
              have hw_23 := hq_23.w
              have cy_23 := hQ.cb hq_23 (hAc96.f (i := 367) (k := 11) (by rfl)).2
              obtain ⟨p_23, rfl⟩ : ∃ p, o_23 = p + 1 := ⟨o_23 - 1, by omega⟩
              refine hxa_aload_n (by rfl) rfl ?_
              refine hxa_iconst (by rfl) rfl ?_
              refine hxa_call0 (by rfl) (by rfl) (by rfl) (by rfl) (by rfl) (by rfl) (hX160q4 (d := d + 1) hAc96 hq_23 hl (Int32.ofNat 0) (by omega) (by omega)) ?_
              rintro _ A24 ⟨hA24, frA24_0, frA24_1, frA24_2, frA24_3, frA24_4, frA24_5, afA24_376, afA24_385, afA24_386, afA24_387, rfl, fA24⟩
              have ttA24_12 : (A24.1 367 12).toInt = w96_1.toInt := congrArg Int32.toInt (frA24_0.trans ek96_1)
              have ttA24_19 : (A24.1 367 19).toInt = (A.1 367 19).toInt := congrArg Int32.toInt (frA24_1.trans ek96_3)
              have ttA24_20 : (A24.1 367 20).toInt = (A.1 367 20).toInt := congrArg Int32.toInt (frA24_2.trans ek96_4)
              have ttA24_31 : (A24.1 367 31).toInt = (A.1 367 31).toInt := congrArg Int32.toInt (frA24_3.trans ek96_5)
              have ttA24_11 : (A24.1 367 11).toInt = w96_0.toInt := congrArg Int32.toInt (frA24_4.trans ek96_0)
              have ttA24_13 : (A24.1 367 13).toInt = w96_2.toInt := congrArg Int32.toInt (frA24_5.trans ek96_2)
              obtain ⟨fbA24_367_37, fbA24_367_37u⟩ := hA24.f (i := 367) (k := 37) (by rfl)
              obtain ⟨fbA24_367_41, fbA24_367_41u⟩ := hA24.f (i := 367) (k := 41) (by rfl)
              obtain ⟨g2_25, hq2_25, h21_25, h20_25, hk2_25, h92_25, hc2_25⟩ := fA24
              have hw2_25 := hq2_25.w
              have hkz_25 := u96_1.trans hk2_25 (by omega)
              have cz_25 := hQ.cb hq2_25 (hA24.f (i := 367) (k := 11) (by rfl)).2
              have e0_25 := h20_25 (by omega)
              subst e0_25
              refine hxa_aload_n (by rfl) rfl ?_
              refine hxa_dupR (by rfl) ?_
              refine hxj_getK (by rfl) (by rfl) (by rfl) rfl ?_
              refine hxa_iconst (by rfl) rfl ?_
              refine hxj_isub (by rfl) rfl hk_1 (by omega) (by omega) (fun z26 ez26 => ?_)
              refine hxj_putI (by rfl) (by rfl) (by rfl) (by rfl) hA24 (hbok (by rfl) rfl (by omega) (by omega)) (by rfl) (by rfl) (fun A27 hA27 eA27 fA27 => ?_)
              refine hxa_aload_n (by rfl) rfl ?_
              refine hxa_dupR (by rfl) ?_
              refine hxj_getK (by rfl) (by rfl) (by rfl) (hkF eA27 (by first | decide | omega) (frA24_0.trans ek96_1)) ?_
              refine hxa_iconst (by rfl) rfl ?_
              refine hxj_isub (by rfl) rfl hk_1 (by omega) (by omega) (fun z28 ez28 => ?_)
              refine hxj_putI (by rfl) (by rfl) (by rfl) (by rfl) hA27 (hbok (by rfl) rfl (by omega) (by omega)) (by rfl) (by rfl) (fun A29 hA29 eA29 fA29 => ?_)
              refine hxa_aload_n (by rfl) rfl ?_
              have nA29_11 : (A29.1 367 11).toInt = w96_0.toInt := congrArg Int32.toInt (hkF eA29 (by first | decide | omega) (hkF eA27 (by first | decide | omega) (frA24_4.trans ek96_0)))
              have nA29_12 : (A29.1 367 12).toInt = z28.toInt := congrArg Int32.toInt (hkS eA29)
              have nA29_13 : (A29.1 367 13).toInt = w96_2.toInt := congrArg Int32.toInt (hkF eA29 (by first | decide | omega) (hkF eA27 (by first | decide | omega) (frA24_5.trans ek96_2)))
              have nA29_37 : (A29.1 367 37).toInt = (A24.1 367 37).toInt := congrArg Int32.toInt (hkF eA29 (by first | decide | omega) (hkF eA27 (by first | decide | omega) rfl))
              have nA29_41 : (A29.1 367 41).toInt = z26.toInt := congrArg Int32.toInt (hkF eA29 (by first | decide | omega) (hkS eA27))
              refine hxa_call0 (by rfl) (by rfl) (by rfl) (by rfl) (by rfl) (by rfl) (hX147q4 (d := d + 1) hA29 ) ?_
              rintro _ A30 ⟨hA30, frA30_0, frA30_1, frA30_2, frA30_3, frA30_4, frA30_5, aeA30, rfl, fA30⟩
              have ttA30_12 : (A30.1 367 12).toInt = z28.toInt := congrArg Int32.toInt (frA30_0.trans (hkS eA29))
              have ttA30_19 : (A30.1 367 19).toInt = (A.1 367 19).toInt := congrArg Int32.toInt (frA30_1.trans (hkF eA29 (by first | decide | omega) (hkF eA27 (by first | decide | omega) (frA24_1.trans ek96_3))))
              have ttA30_20 : (A30.1 367 20).toInt = (A.1 367 20).toInt := congrArg Int32.toInt (frA30_2.trans (hkF eA29 (by first | decide | omega) (hkF eA27 (by first | decide | omega) (frA24_2.trans ek96_4))))
              have ttA30_31 : (A30.1 367 31).toInt = (A.1 367 31).toInt := congrArg Int32.toInt (frA30_3.trans (hkF eA29 (by first | decide | omega) (hkF eA27 (by first | decide | omega) (frA24_3.trans ek96_5))))
              have ttA30_37 : (A30.1 367 37).toInt = (A24.1 367 37).toInt := congrArg Int32.toInt (frA30_4.trans (hkF eA29 (by first | decide | omega) (hkF eA27 (by first | decide | omega) rfl)))
              have ttA30_41 : (A30.1 367 41).toInt = z26.toInt := congrArg Int32.toInt (frA30_5.trans (hkF eA29 (by first | decide | omega) (hkS eA27)))
              obtain ⟨fbA30_367_11, fbA30_367_11u⟩ := hA30.f (i := 367) (k := 11) (by rfl)
              obtain ⟨fbA30_367_13, fbA30_367_13u⟩ := hA30.f (i := 367) (k := 13) (by rfl)
              have nA30_12 : (A30.1 367 12).toInt = z28.toInt := congrArg Int32.toInt (frA30_0.trans (hkS eA29))
              have nA30_37 : (A30.1 367 37).toInt = (A24.1 367 37).toInt := congrArg Int32.toInt (frA30_4.trans (hkF eA29 (by first | decide | omega) (hkF eA27 (by first | decide | omega) rfl)))
              have nA30_41 : (A30.1 367 41).toInt = z26.toInt := congrArg Int32.toInt (frA30_5.trans (hkF eA29 (by first | decide | omega) (hkS eA27)))
              have ac_31 : A30.2.1 = A24.2.1 := by rw [aeA30, (show A29.2.1 = A27.2.1 from congrArg Prod.fst fA29), (show A27.2.1 = A24.2.1 from congrArg Prod.fst fA27)]
              obtain ⟨g3_31, hq3_31⟩ := hQ.close hq2_25 ac_31 (by omega) (by omega) (by omega)
              have y3_31 : ∃ o g : Nat, hQ 0 (A.1 367 37).toInt o g 1 A30 ∧ (o : Int) = (A30.1 367 12).toInt - x12_1.toInt ∧ (A30.1 367 12).toInt ≤ 6 := ⟨_, _, hq3_31, by omega, by omega⟩
              refine hxa_goto (by rfl) ?_
              exact ih96 (A30.1 367 11) z28 (A30.1 367 13) (A24.1 367 37) z26 A30 hA30 rfl (frA30_0.trans (hkS eA29)) rfl (frA30_1.trans (hkF eA29 (by first | decide | omega) (hkF eA27 (by first | decide | omega) (frA24_1.trans ek96_3)))) (frA30_2.trans (hkF eA29 (by first | decide | omega) (hkF eA27 (by first | decide | omega) (frA24_2.trans ek96_4)))) (frA30_3.trans (hkF eA29 (by first | decide | omega) (hkF eA27 (by first | decide | omega) (frA24_3.trans ek96_5)))) (frA30_4.trans (hkF eA29 (by first | decide | omega) (hkF eA27 (by first | decide | omega) rfl))) (frA30_5.trans (hkF eA29 (by first | decide | omega) (hkS eA27))) (hafL aeA30 (hafF fA29 (hafF fA27 (afA24_376.trans af96_376)))) (hafL aeA30 (hafF fA29 (hafF fA27 (afA24_385.trans af96_385)))) (hafL aeA30 (hafF fA29 (hafF fA27 (afA24_386.trans af96_386)))) (hafL aeA30 (hafF fA29 (hafF fA27 (afA24_387.trans af96_387)))) (by first | assumption | omega) (by first | assumption | omega) (by first | assumption | omega) (by first | assumption | omega) (by first | assumption | omega) (by first | assumption | omega) (by first | assumption | omega) (by first | assumption | omega) (by first | assumption | omega) (by first | assumption | omega) (by first | assumption | omega) (by exact y3_31) (by exact (hkz_25.trans (hK.eq ac_31) (Nat.le_refl _))) (by first | assumption | omega) (by first | assumption | omega) (by first | assumption | omega) (by first | assumption | omega)
          ·
            refine hxj_zeq (by rfl) rfl (fun q32 => ?_) (fun q32 => False.elim (by omega))
            obtain ⟨o_33, g_33, hq_33, ho_33, h6_33⟩ := u96_0
            have hw_33 := hq_33.w
            have cy_33 := hQ.cb hq_33 (hAc96.f (i := 367) (k := 11) (by rfl)).2
            refine hxa_aload_n (by rfl) rfl ?_
            refine hxa_bipush (by rfl) rfl ?_
            refine hxa_call0 (by rfl) (by rfl) (by rfl) (by rfl) (by rfl) (by rfl) (hX144q4 (d := d + 2) hAc96 (Int32.ofNat 8)) ?_
            rintro _ _ ⟨rfl, z34, rfl, fz34⟩
            rcases fz34 with fz34 | fz34
            ·
              refine hxj_zne (by rfl) rfl (fun q35 => ?_) (fun q35 => False.elim (by omega))
              refine hxa_iconst (by rfl) rfl ?_
              refine hxa_goto (by rfl) ?_
              refine hxa_s1 (by rfl) (Or.inl ⟨_, rfl, rfl⟩) rfl ?_
              refine hxa_iload_n (by rfl) rfl ?_
              refine hxj_zne (by rfl) hk_1 (fun q36 => ?_) (fun q36 => False.elim (by omega))
              refine hxa_aload_n (by rfl) rfl ?_
              refine hxa_aload_n (by rfl) rfl ?_
              refine hxa_bipush (by rfl) rfl ?_
              refine hxa_call0 (by rfl) (by rfl) (by rfl) (by rfl) (by rfl) (by rfl) (hX144q4 (d := d + 2) hAc96 (Int32.ofNat 10)) ?_
              rintro _ _ ⟨rfl, z37, rfl, fz37⟩
              rcases fz37 with fz37 | fz37
              ·
                exact False.elim (by omega)
              ·
                refine hxj_zne (by rfl) rfl (fun q38 => False.elim (by omega)) (fun q38 => ?_)
                refine hxa_aload_n (by rfl) rfl ?_
                refine hxa_bipush (by rfl) rfl ?_
                refine hxa_call0 (by rfl) (by rfl) (by rfl) (by rfl) (by rfl) (by rfl) (hX144q4 (d := d + 2) hAc96 (Int32.ofNat 15)) ?_
                rintro _ _ ⟨rfl, z39, rfl, fz39⟩
                rcases fz39 with fz39 | fz39
                ·
                  exact False.elim (by omega)
                ·
                  refine hxj_zeq (by rfl) rfl (fun q40 => ?_) (fun q40 => False.elim (by omega))
                  refine hxa_iconst (by rfl) rfl ?_
                  refine hxa_call0 (by rfl) (by rfl) (by rfl) (by rfl) (by rfl) (by rfl) (hX160q4 (d := d + 1) hAc96 hq_33 hl (Int32.ofNat 0) (by omega) (by omega)) ?_
                  rintro _ A41 ⟨hA41, frA41_0, frA41_1, frA41_2, frA41_3, frA41_4, frA41_5, afA41_376, afA41_385, afA41_386, afA41_387, rfl, fA41⟩
                  have ttA41_12 : (A41.1 367 12).toInt = w96_1.toInt := congrArg Int32.toInt (frA41_0.trans ek96_1)
                  have ttA41_19 : (A41.1 367 19).toInt = (A.1 367 19).toInt := congrArg Int32.toInt (frA41_1.trans ek96_3)
                  have ttA41_20 : (A41.1 367 20).toInt = (A.1 367 20).toInt := congrArg Int32.toInt (frA41_2.trans ek96_4)
                  have ttA41_31 : (A41.1 367 31).toInt = (A.1 367 31).toInt := congrArg Int32.toInt (frA41_3.trans ek96_5)
                  have ttA41_11 : (A41.1 367 11).toInt = w96_0.toInt := congrArg Int32.toInt (frA41_4.trans ek96_0)
                  have ttA41_13 : (A41.1 367 13).toInt = w96_2.toInt := congrArg Int32.toInt (frA41_5.trans ek96_2)
                  obtain ⟨fbA41_367_37, fbA41_367_37u⟩ := hA41.f (i := 367) (k := 37) (by rfl)
                  obtain ⟨fbA41_367_41, fbA41_367_41u⟩ := hA41.f (i := 367) (k := 41) (by rfl)
                  obtain ⟨g2_42, hq2_42, h21_42, h20_42, hk2_42, h92_42, hc2_42⟩ := fA41
                  have hw2_42 := hq2_42.w
                  have hkz_42 := u96_1.trans hk2_42 (by omega)
                  have cz_42 := hQ.cb hq2_42 (hA41.f (i := 367) (k := 11) (by rfl)).2
                  refine hxa_aload_n (by rfl) rfl ?_
                  refine hxa_get (v := .ref 393) (by rfl) (by rfl) (by rfl) rfl ?_
                  refine hxa_aload_n (by rfl) rfl ?_
                  refine hxj_getK (by rfl) (by rfl) (by rfl) rfl ?_
                  refine hxa_aload_n (by rfl) rfl ?_
                  refine hxa_get (v := .ref 371) (by rfl) (by rfl) (by rfl) rfl ?_
                  refine hxa_aload_n (by rfl) rfl ?_
                  refine hxj_getK (by rfl) (by rfl) (by rfl) (frA41_4.trans ek96_0) ?_
                  refine hxj_ialdB (by rfl) (by rfl) rfl (by omega) (by omega) hA41 (by rfl) (fun z43 ez43 fz43 gz43 => ?_)
                  have kzz43 : z43.toInt = (Ac96.2.1 370 (Ac96.1 367 11).toNatClampNeg).toInt := by rw [← ez43, hk2_42.1 370 (by decide) (by decide) (by decide), (show Ac96.1 367 11 = w96_0 from ek96_0)]
                  refine hxj_iast (by rfl) (by rfl) rfl (by omega) (by omega) hA41 (hbokN (by rfl)) (by rfl) (by rfl) (fun A44 hA44 eA44 fA44 gA44 => ?_)
                  refine hxa_aload_n (by rfl) rfl ?_
                  refine hxa_dupR (by rfl) ?_
                  refine hxj_getK (by rfl) (by rfl) (by rfl) (hkA eA44 rfl) ?_
                  refine hxa_iconst (by rfl) rfl ?_
                  refine hxj_iadd (by rfl) rfl hk_1 (by omega) (by omega) (fun z45 ez45 => ?_)
                  refine hxj_putI (by rfl) (by rfl) (by rfl) (by rfl) hA44 (hbok (by rfl) rfl (by omega) (by omega)) (by rfl) (by rfl) (fun A46 hA46 eA46 fA46 => ?_)
                  refine hxa_aload_n (by rfl) rfl ?_
                  have nA46_11 : (A46.1 367 11).toInt = w96_0.toInt := congrArg Int32.toInt (hkF eA46 (by first | decide | omega) (hkA eA44 (frA41_4.trans ek96_0)))
                  have nA46_12 : (A46.1 367 12).toInt = w96_1.toInt := congrArg Int32.toInt (hkF eA46 (by first | decide | omega) (hkA eA44 (frA41_0.trans ek96_1)))
                  have nA46_13 : (A46.1 367 13).toInt = w96_2.toInt := congrArg Int32.toInt (hkF eA46 (by first | decide | omega) (hkA eA44 (frA41_5.trans ek96_2)))
                  have nA46_37 : (A46.1 367 37).toInt = (A41.1 367 37).toInt := congrArg Int32.toInt (hkF eA46 (by first | decide | omega) (hkA eA44 rfl))
                  have nA46_41 : (A46.1 367 41).toInt = z45.toInt := congrArg Int32.toInt (hkS eA46)
                  refine hxa_call0 (by rfl) (by rfl) (by rfl) (by rfl) (by rfl) (by rfl) (hX147q4 (d := d + 1) hA46 ) ?_
                  rintro _ A47 ⟨hA47, frA47_0, frA47_1, frA47_2, frA47_3, frA47_4, frA47_5, aeA47, rfl, fA47⟩
                  have ttA47_12 : (A47.1 367 12).toInt = w96_1.toInt := congrArg Int32.toInt (frA47_0.trans (hkF eA46 (by first | decide | omega) (hkA eA44 (frA41_0.trans ek96_1))))
                  have ttA47_19 : (A47.1 367 19).toInt = (A.1 367 19).toInt := congrArg Int32.toInt (frA47_1.trans (hkF eA46 (by first | decide | omega) (hkA eA44 (frA41_1.trans ek96_3))))
                  have ttA47_20 : (A47.1 367 20).toInt = (A.1 367 20).toInt := congrArg Int32.toInt (frA47_2.trans (hkF eA46 (by first | decide | omega) (hkA eA44 (frA41_2.trans ek96_4))))
                  have ttA47_31 : (A47.1 367 31).toInt = (A.1 367 31).toInt := congrArg Int32.toInt (frA47_3.trans (hkF eA46 (by first | decide | omega) (hkA eA44 (frA41_3.trans ek96_5))))
                  have ttA47_37 : (A47.1 367 37).toInt = (A41.1 367 37).toInt := congrArg Int32.toInt (frA47_4.trans (hkF eA46 (by first | decide | omega) (hkA eA44 rfl)))
                  have ttA47_41 : (A47.1 367 41).toInt = z45.toInt := congrArg Int32.toInt (frA47_5.trans (hkS eA46))
                  obtain ⟨fbA47_367_11, fbA47_367_11u⟩ := hA47.f (i := 367) (k := 11) (by rfl)
                  obtain ⟨fbA47_367_13, fbA47_367_13u⟩ := hA47.f (i := 367) (k := 13) (by rfl)
                  have nA47_12 : (A47.1 367 12).toInt = w96_1.toInt := congrArg Int32.toInt (frA47_0.trans (hkF eA46 (by first | decide | omega) (hkA eA44 (frA41_0.trans ek96_1))))
                  have nA47_37 : (A47.1 367 37).toInt = (A41.1 367 37).toInt := congrArg Int32.toInt (frA47_4.trans (hkF eA46 (by first | decide | omega) (hkA eA44 rfl)))
                  have nA47_41 : (A47.1 367 41).toInt = z45.toInt := congrArg Int32.toInt (frA47_5.trans (hkS eA46))
                  have aj48 : A47.2.1 = hs_up A41.2.1 392 (A41.1 367 41).toNatClampNeg z43 := by rw [aeA47, (show A46.2.1 = A44.2.1 from congrArg Prod.fst fA46), fA44]
                  have j48 : ¬ (A47.1 367 13).toInt = 0 ∨ ((A.1 367 13).toInt = 0 ∧ (A47.1 367 37).toInt ≤ 0 + (A47.1 367 11).toInt ∧ ∃ o g : Nat, hQ 0 (A.1 367 37).toInt o g 0 A47 ∧ (o : Int) = (A47.1 367 12).toInt - x12_1.toInt ∧ (A47.1 367 12).toInt ≤ 6) := by
                    by_cases h9 : (A47.1 367 13).toInt = 0
                    · obtain ⟨g5, hq5⟩ : ∃ g5, hQ 0 (A.1 367 37).toInt o_33 g5 0 A47 := by
                        have e0 := h20_42 (by omega)
                        subst e0
                        exact ⟨1, hQ.push hq2_42 (j := (A41.1 367 41)) rfl aj48 (by omega) (by omega) (by omega) (by omega)⟩
                      have h5 := hq5.2.2.2.2
                      have h6 := hq5.w
                      exact Or.inr ⟨by omega, by omega, _, g5, hq5, by omega, by omega⟩
                    · exact Or.inl h9
                  refine hxa_goto (by rfl) ?_
                  exact ih12 (A47.1 367 11) w96_1 (A47.1 367 13) (A41.1 367 37) z45 x12_1 (Int32.ofNat 1) A47 hA47 rfl (frA47_0.trans (hkF eA46 (by first | decide | omega) (hkA eA44 (frA41_0.trans ek96_1)))) rfl (frA47_1.trans (hkF eA46 (by first | decide | omega) (hkA eA44 (frA41_1.trans ek96_3)))) (frA47_2.trans (hkF eA46 (by first | decide | omega) (hkA eA44 (frA41_2.trans ek96_4)))) (frA47_3.trans (hkF eA46 (by first | decide | omega) (hkA eA44 (frA41_3.trans ek96_5)))) (frA47_4.trans (hkF eA46 (by first | decide | omega) (hkA eA44 rfl))) (frA47_5.trans (hkS eA46)) (hafL aeA47 (hafF fA46 (hafA fA44 (by first | decide | omega) (afA41_376.trans af96_376)))) (hafL aeA47 (hafF fA46 (hafA fA44 (by first | decide | omega) (afA41_385.trans af96_385)))) (hafL aeA47 (hafF fA46 (hafA fA44 (by first | decide | omega) (afA41_386.trans af96_386)))) (hafL aeA47 (hafF fA46 (hafA fA44 (by first | decide | omega) (afA41_387.trans af96_387)))) (by first | assumption | omega) (by first | assumption | omega) (by first | assumption | omega) (by first | assumption | omega) (by first | assumption | omega) (by first | assumption | omega) (by first | assumption | omega) (by first | assumption | omega) (by first | assumption | omega) (by first | assumption | omega) (by first | assumption | omega) (by first | assumption | omega) (by first | assumption | omega) (by first | assumption | omega) (by exact j48) (by exact (hkz_42.trans (hK.w aj48) (Nat.le_refl _))) (by first | assumption | omega) (by first | assumption | omega)
            ·
              refine hxj_zne (by rfl) rfl (fun q49 => False.elim (by omega)) (fun q49 => ?_)
              refine hxa_aload_n (by rfl) rfl ?_
              refine hxa_bipush (by rfl) rfl ?_
              refine hxa_call0 (by rfl) (by rfl) (by rfl) (by rfl) (by rfl) (by rfl) (hX144q4 (d := d + 2) hAc96 (Int32.ofNat 9)) ?_
              rintro _ _ ⟨rfl, z50, rfl, fz50⟩
              rcases fz50 with fz50 | fz50
              ·
                refine hxj_zne (by rfl) rfl (fun q51 => ?_) (fun q51 => False.elim (by omega))
                refine hxa_iconst (by rfl) rfl ?_
                refine hxa_goto (by rfl) ?_
                refine hxa_s1 (by rfl) (Or.inl ⟨_, rfl, rfl⟩) rfl ?_
                refine hxa_iload_n (by rfl) rfl ?_
                refine hxj_zne (by rfl) hk_1 (fun q52 => ?_) (fun q52 => False.elim (by omega))
                refine hxa_aload_n (by rfl) rfl ?_
                refine hxa_aload_n (by rfl) rfl ?_
                refine hxa_bipush (by rfl) rfl ?_
                refine hxa_call0 (by rfl) (by rfl) (by rfl) (by rfl) (by rfl) (by rfl) (hX144q4 (d := d + 2) hAc96 (Int32.ofNat 10)) ?_
                rintro _ _ ⟨rfl, z53, rfl, fz53⟩
                rcases fz53 with fz53 | fz53
                ·
                  exact False.elim (by omega)
                ·
                  refine hxj_zne (by rfl) rfl (fun q54 => False.elim (by omega)) (fun q54 => ?_)
                  refine hxa_aload_n (by rfl) rfl ?_
                  refine hxa_bipush (by rfl) rfl ?_
                  refine hxa_call0 (by rfl) (by rfl) (by rfl) (by rfl) (by rfl) (by rfl) (hX144q4 (d := d + 2) hAc96 (Int32.ofNat 15)) ?_
                  rintro _ _ ⟨rfl, z55, rfl, fz55⟩
                  rcases fz55 with fz55 | fz55
                  ·
                    exact False.elim (by omega)
                  ·
                    refine hxj_zeq (by rfl) rfl (fun q56 => ?_) (fun q56 => False.elim (by omega))
                    refine hxa_iconst (by rfl) rfl ?_
                    refine hxa_call0 (by rfl) (by rfl) (by rfl) (by rfl) (by rfl) (by rfl) (hX160q4 (d := d + 1) hAc96 hq_33 hl (Int32.ofNat 0) (by omega) (by omega)) ?_
                    rintro _ A57 ⟨hA57, frA57_0, frA57_1, frA57_2, frA57_3, frA57_4, frA57_5, afA57_376, afA57_385, afA57_386, afA57_387, rfl, fA57⟩
                    have ttA57_12 : (A57.1 367 12).toInt = w96_1.toInt := congrArg Int32.toInt (frA57_0.trans ek96_1)
                    have ttA57_19 : (A57.1 367 19).toInt = (A.1 367 19).toInt := congrArg Int32.toInt (frA57_1.trans ek96_3)
                    have ttA57_20 : (A57.1 367 20).toInt = (A.1 367 20).toInt := congrArg Int32.toInt (frA57_2.trans ek96_4)
                    have ttA57_31 : (A57.1 367 31).toInt = (A.1 367 31).toInt := congrArg Int32.toInt (frA57_3.trans ek96_5)
                    have ttA57_11 : (A57.1 367 11).toInt = w96_0.toInt := congrArg Int32.toInt (frA57_4.trans ek96_0)
                    have ttA57_13 : (A57.1 367 13).toInt = w96_2.toInt := congrArg Int32.toInt (frA57_5.trans ek96_2)
                    obtain ⟨fbA57_367_37, fbA57_367_37u⟩ := hA57.f (i := 367) (k := 37) (by rfl)
                    obtain ⟨fbA57_367_41, fbA57_367_41u⟩ := hA57.f (i := 367) (k := 41) (by rfl)
                    obtain ⟨g2_58, hq2_58, h21_58, h20_58, hk2_58, h92_58, hc2_58⟩ := fA57
                    have hw2_58 := hq2_58.w
                    have hkz_58 := u96_1.trans hk2_58 (by omega)
                    have cz_58 := hQ.cb hq2_58 (hA57.f (i := 367) (k := 11) (by rfl)).2
                    refine hxa_aload_n (by rfl) rfl ?_
                    refine hxa_get (v := .ref 393) (by rfl) (by rfl) (by rfl) rfl ?_
                    refine hxa_aload_n (by rfl) rfl ?_
                    refine hxj_getK (by rfl) (by rfl) (by rfl) rfl ?_
                    refine hxa_aload_n (by rfl) rfl ?_
                    refine hxa_get (v := .ref 371) (by rfl) (by rfl) (by rfl) rfl ?_
                    refine hxa_aload_n (by rfl) rfl ?_
                    refine hxj_getK (by rfl) (by rfl) (by rfl) (frA57_4.trans ek96_0) ?_
                    refine hxj_ialdB (by rfl) (by rfl) rfl (by omega) (by omega) hA57 (by rfl) (fun z59 ez59 fz59 gz59 => ?_)
                    have kzz59 : z59.toInt = (Ac96.2.1 370 (Ac96.1 367 11).toNatClampNeg).toInt := by rw [← ez59, hk2_58.1 370 (by decide) (by decide) (by decide), (show Ac96.1 367 11 = w96_0 from ek96_0)]
                    refine hxj_iast (by rfl) (by rfl) rfl (by omega) (by omega) hA57 (hbokN (by rfl)) (by rfl) (by rfl) (fun A60 hA60 eA60 fA60 gA60 => ?_)
                    refine hxa_aload_n (by rfl) rfl ?_
                    refine hxa_dupR (by rfl) ?_
                    refine hxj_getK (by rfl) (by rfl) (by rfl) (hkA eA60 rfl) ?_
                    refine hxa_iconst (by rfl) rfl ?_
                    refine hxj_iadd (by rfl) rfl hk_1 (by omega) (by omega) (fun z61 ez61 => ?_)
                    refine hxj_putI (by rfl) (by rfl) (by rfl) (by rfl) hA60 (hbok (by rfl) rfl (by omega) (by omega)) (by rfl) (by rfl) (fun A62 hA62 eA62 fA62 => ?_)
                    refine hxa_aload_n (by rfl) rfl ?_
                    have nA62_11 : (A62.1 367 11).toInt = w96_0.toInt := congrArg Int32.toInt (hkF eA62 (by first | decide | omega) (hkA eA60 (frA57_4.trans ek96_0)))
                    have nA62_12 : (A62.1 367 12).toInt = w96_1.toInt := congrArg Int32.toInt (hkF eA62 (by first | decide | omega) (hkA eA60 (frA57_0.trans ek96_1)))
                    have nA62_13 : (A62.1 367 13).toInt = w96_2.toInt := congrArg Int32.toInt (hkF eA62 (by first | decide | omega) (hkA eA60 (frA57_5.trans ek96_2)))
                    have nA62_37 : (A62.1 367 37).toInt = (A57.1 367 37).toInt := congrArg Int32.toInt (hkF eA62 (by first | decide | omega) (hkA eA60 rfl))
                    have nA62_41 : (A62.1 367 41).toInt = z61.toInt := congrArg Int32.toInt (hkS eA62)
                    refine hxa_call0 (by rfl) (by rfl) (by rfl) (by rfl) (by rfl) (by rfl) (hX147q4 (d := d + 1) hA62 ) ?_
                    rintro _ A63 ⟨hA63, frA63_0, frA63_1, frA63_2, frA63_3, frA63_4, frA63_5, aeA63, rfl, fA63⟩
                    have ttA63_12 : (A63.1 367 12).toInt = w96_1.toInt := congrArg Int32.toInt (frA63_0.trans (hkF eA62 (by first | decide | omega) (hkA eA60 (frA57_0.trans ek96_1))))
                    have ttA63_19 : (A63.1 367 19).toInt = (A.1 367 19).toInt := congrArg Int32.toInt (frA63_1.trans (hkF eA62 (by first | decide | omega) (hkA eA60 (frA57_1.trans ek96_3))))
                    have ttA63_20 : (A63.1 367 20).toInt = (A.1 367 20).toInt := congrArg Int32.toInt (frA63_2.trans (hkF eA62 (by first | decide | omega) (hkA eA60 (frA57_2.trans ek96_4))))
                    have ttA63_31 : (A63.1 367 31).toInt = (A.1 367 31).toInt := congrArg Int32.toInt (frA63_3.trans (hkF eA62 (by first | decide | omega) (hkA eA60 (frA57_3.trans ek96_5))))
                    have ttA63_37 : (A63.1 367 37).toInt = (A57.1 367 37).toInt := congrArg Int32.toInt (frA63_4.trans (hkF eA62 (by first | decide | omega) (hkA eA60 rfl)))
                    have ttA63_41 : (A63.1 367 41).toInt = z61.toInt := congrArg Int32.toInt (frA63_5.trans (hkS eA62))
                    obtain ⟨fbA63_367_11, fbA63_367_11u⟩ := hA63.f (i := 367) (k := 11) (by rfl)
                    obtain ⟨fbA63_367_13, fbA63_367_13u⟩ := hA63.f (i := 367) (k := 13) (by rfl)
                    have nA63_12 : (A63.1 367 12).toInt = w96_1.toInt := congrArg Int32.toInt (frA63_0.trans (hkF eA62 (by first | decide | omega) (hkA eA60 (frA57_0.trans ek96_1))))
                    have nA63_37 : (A63.1 367 37).toInt = (A57.1 367 37).toInt := congrArg Int32.toInt (frA63_4.trans (hkF eA62 (by first | decide | omega) (hkA eA60 rfl)))
                    have nA63_41 : (A63.1 367 41).toInt = z61.toInt := congrArg Int32.toInt (frA63_5.trans (hkS eA62))
                    have aj64 : A63.2.1 = hs_up A57.2.1 392 (A57.1 367 41).toNatClampNeg z59 := by rw [aeA63, (show A62.2.1 = A60.2.1 from congrArg Prod.fst fA62), fA60]
                    have j64 : ¬ (A63.1 367 13).toInt = 0 ∨ ((A.1 367 13).toInt = 0 ∧ (A63.1 367 37).toInt ≤ 0 + (A63.1 367 11).toInt ∧ ∃ o g : Nat, hQ 0 (A.1 367 37).toInt o g 0 A63 ∧ (o : Int) = (A63.1 367 12).toInt - x12_1.toInt ∧ (A63.1 367 12).toInt ≤ 6) := by
                      by_cases h9 : (A63.1 367 13).toInt = 0
                      · obtain ⟨g5, hq5⟩ : ∃ g5, hQ 0 (A.1 367 37).toInt o_33 g5 0 A63 := by
                          have e0 := h20_58 (by omega)
                          subst e0
                          exact ⟨1, hQ.push hq2_58 (j := (A57.1 367 41)) rfl aj64 (by omega) (by omega) (by omega) (by omega)⟩
                        have h5 := hq5.2.2.2.2
                        have h6 := hq5.w
                        exact Or.inr ⟨by omega, by omega, _, g5, hq5, by omega, by omega⟩
                      · exact Or.inl h9
                    refine hxa_goto (by rfl) ?_
                    exact ih12 (A63.1 367 11) w96_1 (A63.1 367 13) (A57.1 367 37) z61 x12_1 (Int32.ofNat 1) A63 hA63 rfl (frA63_0.trans (hkF eA62 (by first | decide | omega) (hkA eA60 (frA57_0.trans ek96_1)))) rfl (frA63_1.trans (hkF eA62 (by first | decide | omega) (hkA eA60 (frA57_1.trans ek96_3)))) (frA63_2.trans (hkF eA62 (by first | decide | omega) (hkA eA60 (frA57_2.trans ek96_4)))) (frA63_3.trans (hkF eA62 (by first | decide | omega) (hkA eA60 (frA57_3.trans ek96_5)))) (frA63_4.trans (hkF eA62 (by first | decide | omega) (hkA eA60 rfl))) (frA63_5.trans (hkS eA62)) (hafL aeA63 (hafF fA62 (hafA fA60 (by first | decide | omega) (afA57_376.trans af96_376)))) (hafL aeA63 (hafF fA62 (hafA fA60 (by first | decide | omega) (afA57_385.trans af96_385)))) (hafL aeA63 (hafF fA62 (hafA fA60 (by first | decide | omega) (afA57_386.trans af96_386)))) (hafL aeA63 (hafF fA62 (hafA fA60 (by first | decide | omega) (afA57_387.trans af96_387)))) (by first | assumption | omega) (by first | assumption | omega) (by first | assumption | omega) (by first | assumption | omega) (by first | assumption | omega) (by first | assumption | omega) (by first | assumption | omega) (by first | assumption | omega) (by first | assumption | omega) (by first | assumption | omega) (by first | assumption | omega) (by first | assumption | omega) (by first | assumption | omega) (by first | assumption | omega) (by exact j64) (by exact (hkz_58.trans (hK.w aj64) (Nat.le_refl _))) (by first | assumption | omega) (by first | assumption | omega)
              ·
                refine hxj_zne (by rfl) rfl (fun q65 => False.elim (by omega)) (fun q65 => ?_)
                refine hxa_aload_n (by rfl) rfl ?_
                refine hxa_bipush (by rfl) rfl ?_
                refine hxa_call0 (by rfl) (by rfl) (by rfl) (by rfl) (by rfl) (by rfl) (hX144q4 (d := d + 2) hAc96 (Int32.ofNat 10)) ?_
                rintro _ _ ⟨rfl, z66, rfl, fz66⟩
                rcases fz66 with fz66 | fz66
                ·
                  refine hxj_zne (by rfl) rfl (fun q67 => ?_) (fun q67 => False.elim (by omega))
                  refine hxa_iconst (by rfl) rfl ?_
                  refine hxa_goto (by rfl) ?_
                  refine hxa_s1 (by rfl) (Or.inl ⟨_, rfl, rfl⟩) rfl ?_
                  refine hxa_iload_n (by rfl) rfl ?_
                  refine hxj_zne (by rfl) hk_1 (fun q68 => ?_) (fun q68 => False.elim (by omega))
                  refine hxa_aload_n (by rfl) rfl ?_
                  refine hxa_aload_n (by rfl) rfl ?_
                  refine hxa_bipush (by rfl) rfl ?_
                  refine hxa_call0 (by rfl) (by rfl) (by rfl) (by rfl) (by rfl) (by rfl) (hX144q4 (d := d + 2) hAc96 (Int32.ofNat 10)) ?_
                  rintro _ _ ⟨rfl, z69, rfl, fz69⟩
                  rcases fz69 with fz69 | fz69
                  ·
                    refine hxj_zne (by rfl) rfl (fun q70 => ?_) (fun q70 => False.elim (by omega))
                    refine hxa_iconst (by rfl) rfl ?_
                    refine hxa_goto (by rfl) ?_
                    refine hxa_call0 (by rfl) (by rfl) (by rfl) (by rfl) (by rfl) (by rfl) (hX160q4 (d := d + 1) hAc96 hq_33 hl (Int32.ofNat 1) (by omega) (by omega)) ?_
                    rintro _ A71 ⟨hA71, frA71_0, frA71_1, frA71_2, frA71_3, frA71_4, frA71_5, afA71_376, afA71_385, afA71_386, afA71_387, rfl, fA71⟩
                    have ttA71_12 : (A71.1 367 12).toInt = w96_1.toInt := congrArg Int32.toInt (frA71_0.trans ek96_1)
                    have ttA71_19 : (A71.1 367 19).toInt = (A.1 367 19).toInt := congrArg Int32.toInt (frA71_1.trans ek96_3)
                    have ttA71_20 : (A71.1 367 20).toInt = (A.1 367 20).toInt := congrArg Int32.toInt (frA71_2.trans ek96_4)
                    have ttA71_31 : (A71.1 367 31).toInt = (A.1 367 31).toInt := congrArg Int32.toInt (frA71_3.trans ek96_5)
                    have ttA71_11 : (A71.1 367 11).toInt = w96_0.toInt := congrArg Int32.toInt (frA71_4.trans ek96_0)
                    have ttA71_13 : (A71.1 367 13).toInt = w96_2.toInt := congrArg Int32.toInt (frA71_5.trans ek96_2)
                    obtain ⟨fbA71_367_37, fbA71_367_37u⟩ := hA71.f (i := 367) (k := 37) (by rfl)
                    obtain ⟨fbA71_367_41, fbA71_367_41u⟩ := hA71.f (i := 367) (k := 41) (by rfl)
                    obtain ⟨g2_72, hq2_72, h21_72, h20_72, hk2_72, h92_72, hc2_72⟩ := fA71
                    have hw2_72 := hq2_72.w
                    have hkz_72 := u96_1.trans hk2_72 (by omega)
                    have cz_72 := hQ.cb hq2_72 (hA71.f (i := 367) (k := 11) (by rfl)).2
                    refine hxa_aload_n (by rfl) rfl ?_
                    refine hxa_get (v := .ref 393) (by rfl) (by rfl) (by rfl) rfl ?_
                    refine hxa_aload_n (by rfl) rfl ?_
                    refine hxj_getK (by rfl) (by rfl) (by rfl) rfl ?_
                    refine hxa_aload_n (by rfl) rfl ?_
                    refine hxa_get (v := .ref 371) (by rfl) (by rfl) (by rfl) rfl ?_
                    refine hxa_aload_n (by rfl) rfl ?_
                    refine hxj_getK (by rfl) (by rfl) (by rfl) (frA71_4.trans ek96_0) ?_
                    refine hxj_ialdB (by rfl) (by rfl) rfl (by omega) (by omega) hA71 (by rfl) (fun z73 ez73 fz73 gz73 => ?_)
                    have kzz73 : z73.toInt = (Ac96.2.1 370 (Ac96.1 367 11).toNatClampNeg).toInt := by rw [← ez73, hk2_72.1 370 (by decide) (by decide) (by decide), (show Ac96.1 367 11 = w96_0 from ek96_0)]
                    refine hxj_iast (by rfl) (by rfl) rfl (by omega) (by omega) hA71 (hbokN (by rfl)) (by rfl) (by rfl) (fun A74 hA74 eA74 fA74 gA74 => ?_)
                    refine hxa_aload_n (by rfl) rfl ?_
                    refine hxa_dupR (by rfl) ?_
                    refine hxj_getK (by rfl) (by rfl) (by rfl) (hkA eA74 rfl) ?_
                    refine hxa_iconst (by rfl) rfl ?_
                    refine hxj_iadd (by rfl) rfl hk_1 (by omega) (by omega) (fun z75 ez75 => ?_)
                    refine hxj_putI (by rfl) (by rfl) (by rfl) (by rfl) hA74 (hbok (by rfl) rfl (by omega) (by omega)) (by rfl) (by rfl) (fun A76 hA76 eA76 fA76 => ?_)
                    refine hxa_aload_n (by rfl) rfl ?_
                    have nA76_11 : (A76.1 367 11).toInt = w96_0.toInt := congrArg Int32.toInt (hkF eA76 (by first | decide | omega) (hkA eA74 (frA71_4.trans ek96_0)))
                    have nA76_12 : (A76.1 367 12).toInt = w96_1.toInt := congrArg Int32.toInt (hkF eA76 (by first | decide | omega) (hkA eA74 (frA71_0.trans ek96_1)))
                    have nA76_13 : (A76.1 367 13).toInt = w96_2.toInt := congrArg Int32.toInt (hkF eA76 (by first | decide | omega) (hkA eA74 (frA71_5.trans ek96_2)))
                    have nA76_37 : (A76.1 367 37).toInt = (A71.1 367 37).toInt := congrArg Int32.toInt (hkF eA76 (by first | decide | omega) (hkA eA74 rfl))
                    have nA76_41 : (A76.1 367 41).toInt = z75.toInt := congrArg Int32.toInt (hkS eA76)
                    refine hxa_call0 (by rfl) (by rfl) (by rfl) (by rfl) (by rfl) (by rfl) (hX147q4 (d := d + 1) hA76 ) ?_
                    rintro _ A77 ⟨hA77, frA77_0, frA77_1, frA77_2, frA77_3, frA77_4, frA77_5, aeA77, rfl, fA77⟩
                    have ttA77_12 : (A77.1 367 12).toInt = w96_1.toInt := congrArg Int32.toInt (frA77_0.trans (hkF eA76 (by first | decide | omega) (hkA eA74 (frA71_0.trans ek96_1))))
                    have ttA77_19 : (A77.1 367 19).toInt = (A.1 367 19).toInt := congrArg Int32.toInt (frA77_1.trans (hkF eA76 (by first | decide | omega) (hkA eA74 (frA71_1.trans ek96_3))))
                    have ttA77_20 : (A77.1 367 20).toInt = (A.1 367 20).toInt := congrArg Int32.toInt (frA77_2.trans (hkF eA76 (by first | decide | omega) (hkA eA74 (frA71_2.trans ek96_4))))
                    have ttA77_31 : (A77.1 367 31).toInt = (A.1 367 31).toInt := congrArg Int32.toInt (frA77_3.trans (hkF eA76 (by first | decide | omega) (hkA eA74 (frA71_3.trans ek96_5))))
                    have ttA77_37 : (A77.1 367 37).toInt = (A71.1 367 37).toInt := congrArg Int32.toInt (frA77_4.trans (hkF eA76 (by first | decide | omega) (hkA eA74 rfl)))
                    have ttA77_41 : (A77.1 367 41).toInt = z75.toInt := congrArg Int32.toInt (frA77_5.trans (hkS eA76))
                    obtain ⟨fbA77_367_11, fbA77_367_11u⟩ := hA77.f (i := 367) (k := 11) (by rfl)
                    obtain ⟨fbA77_367_13, fbA77_367_13u⟩ := hA77.f (i := 367) (k := 13) (by rfl)
                    have nA77_12 : (A77.1 367 12).toInt = w96_1.toInt := congrArg Int32.toInt (frA77_0.trans (hkF eA76 (by first | decide | omega) (hkA eA74 (frA71_0.trans ek96_1))))
                    have nA77_37 : (A77.1 367 37).toInt = (A71.1 367 37).toInt := congrArg Int32.toInt (frA77_4.trans (hkF eA76 (by first | decide | omega) (hkA eA74 rfl)))
                    have nA77_41 : (A77.1 367 41).toInt = z75.toInt := congrArg Int32.toInt (frA77_5.trans (hkS eA76))
                    have aj78 : A77.2.1 = hs_up A71.2.1 392 (A71.1 367 41).toNatClampNeg z73 := by rw [aeA77, (show A76.2.1 = A74.2.1 from congrArg Prod.fst fA76), fA74]
                    have j78 : ¬ (A77.1 367 13).toInt = 0 ∨ ((A.1 367 13).toInt = 0 ∧ (A77.1 367 37).toInt ≤ 0 + (A77.1 367 11).toInt ∧ ∃ o g : Nat, hQ 0 (A.1 367 37).toInt o g 0 A77 ∧ (o : Int) = (A77.1 367 12).toInt - x12_1.toInt ∧ (A77.1 367 12).toInt ≤ 6) := by
                      by_cases h9 : (A77.1 367 13).toInt = 0
                      · obtain ⟨g5, hq5⟩ : ∃ g5, hQ 0 (A.1 367 37).toInt o_33 g5 0 A77 := by
                          rcases (show g2_72 = 0 ∨ g2_72 = 1 by omega) with e0 | e0
                          · subst e0
                            exact ⟨2, hQ.push hq2_72 (j := (A71.1 367 41)) rfl aj78 (by omega) (by omega) (by omega) (by omega)⟩
                          · subst e0
                            exact ⟨3, hQ.push hq2_72 (j := (A71.1 367 41)) rfl aj78 (by omega) (by omega) (by omega) (by omega)⟩
                        have h5 := hq5.2.2.2.2
                        have h6 := hq5.w
                        exact Or.inr ⟨by omega, by omega, _, g5, hq5, by omega, by omega⟩
                      · exact Or.inl h9
                    refine hxa_goto (by rfl) ?_
                    exact ih12 (A77.1 367 11) w96_1 (A77.1 367 13) (A71.1 367 37) z75 x12_1 (Int32.ofNat 1) A77 hA77 rfl (frA77_0.trans (hkF eA76 (by first | decide | omega) (hkA eA74 (frA71_0.trans ek96_1)))) rfl (frA77_1.trans (hkF eA76 (by first | decide | omega) (hkA eA74 (frA71_1.trans ek96_3)))) (frA77_2.trans (hkF eA76 (by first | decide | omega) (hkA eA74 (frA71_2.trans ek96_4)))) (frA77_3.trans (hkF eA76 (by first | decide | omega) (hkA eA74 (frA71_3.trans ek96_5)))) (frA77_4.trans (hkF eA76 (by first | decide | omega) (hkA eA74 rfl))) (frA77_5.trans (hkS eA76)) (hafL aeA77 (hafF fA76 (hafA fA74 (by first | decide | omega) (afA71_376.trans af96_376)))) (hafL aeA77 (hafF fA76 (hafA fA74 (by first | decide | omega) (afA71_385.trans af96_385)))) (hafL aeA77 (hafF fA76 (hafA fA74 (by first | decide | omega) (afA71_386.trans af96_386)))) (hafL aeA77 (hafF fA76 (hafA fA74 (by first | decide | omega) (afA71_387.trans af96_387)))) (by first | assumption | omega) (by first | assumption | omega) (by first | assumption | omega) (by first | assumption | omega) (by first | assumption | omega) (by first | assumption | omega) (by first | assumption | omega) (by first | assumption | omega) (by first | assumption | omega) (by first | assumption | omega) (by first | assumption | omega) (by first | assumption | omega) (by first | assumption | omega) (by first | assumption | omega) (by exact j78) (by exact (hkz_72.trans (hK.w aj78) (Nat.le_refl _))) (by first | assumption | omega) (by first | assumption | omega)
                  ·
                    exact False.elim (by omega)
                ·
                  refine hxj_zne (by rfl) rfl (fun q79 => False.elim (by omega)) (fun q79 => ?_)
                  refine hxa_aload_n (by rfl) rfl ?_
                  refine hxa_bipush (by rfl) rfl ?_
                  refine hxa_call0 (by rfl) (by rfl) (by rfl) (by rfl) (by rfl) (by rfl) (hX144q4 (d := d + 2) hAc96 (Int32.ofNat 15)) ?_
                  rintro _ _ ⟨rfl, z80, rfl, fz80⟩
                  rcases fz80 with fz80 | fz80
                  ·
                    refine hxj_zeq (by rfl) rfl (fun q81 => False.elim (by omega)) (fun q81 => ?_)
                    refine hxa_iconst (by rfl) rfl ?_
                    refine hxa_goto (by rfl) ?_
                    refine hxa_s1 (by rfl) (Or.inl ⟨_, rfl, rfl⟩) rfl ?_
                    refine hxa_iload_n (by rfl) rfl ?_
                    refine hxj_zne (by rfl) hk_1 (fun q82 => ?_) (fun q82 => False.elim (by omega))
                    refine hxa_aload_n (by rfl) rfl ?_
                    refine hxa_aload_n (by rfl) rfl ?_
                    refine hxa_bipush (by rfl) rfl ?_
                    refine hxa_call0 (by rfl) (by rfl) (by rfl) (by rfl) (by rfl) (by rfl) (hX144q4 (d := d + 2) hAc96 (Int32.ofNat 10)) ?_
                    rintro _ _ ⟨rfl, z83, rfl, fz83⟩
                    rcases fz83 with fz83 | fz83
                    ·
                      exact False.elim (by omega)
                    ·
                      refine hxj_zne (by rfl) rfl (fun q84 => False.elim (by omega)) (fun q84 => ?_)
                      refine hxa_aload_n (by rfl) rfl ?_
                      refine hxa_bipush (by rfl) rfl ?_
                      refine hxa_call0 (by rfl) (by rfl) (by rfl) (by rfl) (by rfl) (by rfl) (hX144q4 (d := d + 2) hAc96 (Int32.ofNat 15)) ?_
                      rintro _ _ ⟨rfl, z85, rfl, fz85⟩
                      rcases fz85 with fz85 | fz85
                      ·
                        refine hxj_zeq (by rfl) rfl (fun q86 => False.elim (by omega)) (fun q86 => ?_)
                        refine hxa_iconst (by rfl) rfl ?_
                        refine hxa_goto (by rfl) ?_
                        refine hxa_call0 (by rfl) (by rfl) (by rfl) (by rfl) (by rfl) (by rfl) (hX160q4 (d := d + 1) hAc96 hq_33 hl (Int32.ofNat 1) (by omega) (by omega)) ?_
                        rintro _ A87 ⟨hA87, frA87_0, frA87_1, frA87_2, frA87_3, frA87_4, frA87_5, afA87_376, afA87_385, afA87_386, afA87_387, rfl, fA87⟩
                        have ttA87_12 : (A87.1 367 12).toInt = w96_1.toInt := congrArg Int32.toInt (frA87_0.trans ek96_1)
                        have ttA87_19 : (A87.1 367 19).toInt = (A.1 367 19).toInt := congrArg Int32.toInt (frA87_1.trans ek96_3)
                        have ttA87_20 : (A87.1 367 20).toInt = (A.1 367 20).toInt := congrArg Int32.toInt (frA87_2.trans ek96_4)
                        have ttA87_31 : (A87.1 367 31).toInt = (A.1 367 31).toInt := congrArg Int32.toInt (frA87_3.trans ek96_5)
                        have ttA87_11 : (A87.1 367 11).toInt = w96_0.toInt := congrArg Int32.toInt (frA87_4.trans ek96_0)
                        have ttA87_13 : (A87.1 367 13).toInt = w96_2.toInt := congrArg Int32.toInt (frA87_5.trans ek96_2)
                        obtain ⟨fbA87_367_37, fbA87_367_37u⟩ := hA87.f (i := 367) (k := 37) (by rfl)
                        obtain ⟨fbA87_367_41, fbA87_367_41u⟩ := hA87.f (i := 367) (k := 41) (by rfl)
                        obtain ⟨g2_88, hq2_88, h21_88, h20_88, hk2_88, h92_88, hc2_88⟩ := fA87
                        have hw2_88 := hq2_88.w
                        have hkz_88 := u96_1.trans hk2_88 (by omega)
                        have cz_88 := hQ.cb hq2_88 (hA87.f (i := 367) (k := 11) (by rfl)).2
                        refine hxa_aload_n (by rfl) rfl ?_
                        refine hxa_get (v := .ref 393) (by rfl) (by rfl) (by rfl) rfl ?_
                        refine hxa_aload_n (by rfl) rfl ?_
                        refine hxj_getK (by rfl) (by rfl) (by rfl) rfl ?_
                        refine hxa_aload_n (by rfl) rfl ?_
                        refine hxa_get (v := .ref 371) (by rfl) (by rfl) (by rfl) rfl ?_
                        refine hxa_aload_n (by rfl) rfl ?_
                        refine hxj_getK (by rfl) (by rfl) (by rfl) (frA87_4.trans ek96_0) ?_
                        refine hxj_ialdB (by rfl) (by rfl) rfl (by omega) (by omega) hA87 (by rfl) (fun z89 ez89 fz89 gz89 => ?_)
                        have kzz89 : z89.toInt = (Ac96.2.1 370 (Ac96.1 367 11).toNatClampNeg).toInt := by rw [← ez89, hk2_88.1 370 (by decide) (by decide) (by decide), (show Ac96.1 367 11 = w96_0 from ek96_0)]
                        refine hxj_iast (by rfl) (by rfl) rfl (by omega) (by omega) hA87 (hbokN (by rfl)) (by rfl) (by rfl) (fun A90 hA90 eA90 fA90 gA90 => ?_)
                        refine hxa_aload_n (by rfl) rfl ?_
                        refine hxa_dupR (by rfl) ?_
                        refine hxj_getK (by rfl) (by rfl) (by rfl) (hkA eA90 rfl) ?_
                        refine hxa_iconst (by rfl) rfl ?_
                        refine hxj_iadd (by rfl) rfl hk_1 (by omega) (by omega) (fun z91 ez91 => ?_)
                        refine hxj_putI (by rfl) (by rfl) (by rfl) (by rfl) hA90 (hbok (by rfl) rfl (by omega) (by omega)) (by rfl) (by rfl) (fun A92 hA92 eA92 fA92 => ?_)
                        refine hxa_aload_n (by rfl) rfl ?_
                        have nA92_11 : (A92.1 367 11).toInt = w96_0.toInt := congrArg Int32.toInt (hkF eA92 (by first | decide | omega) (hkA eA90 (frA87_4.trans ek96_0)))
                        have nA92_12 : (A92.1 367 12).toInt = w96_1.toInt := congrArg Int32.toInt (hkF eA92 (by first | decide | omega) (hkA eA90 (frA87_0.trans ek96_1)))
                        have nA92_13 : (A92.1 367 13).toInt = w96_2.toInt := congrArg Int32.toInt (hkF eA92 (by first | decide | omega) (hkA eA90 (frA87_5.trans ek96_2)))
                        have nA92_37 : (A92.1 367 37).toInt = (A87.1 367 37).toInt := congrArg Int32.toInt (hkF eA92 (by first | decide | omega) (hkA eA90 rfl))
                        have nA92_41 : (A92.1 367 41).toInt = z91.toInt := congrArg Int32.toInt (hkS eA92)
                        refine hxa_call0 (by rfl) (by rfl) (by rfl) (by rfl) (by rfl) (by rfl) (hX147q4 (d := d + 1) hA92 ) ?_
                        rintro _ A93 ⟨hA93, frA93_0, frA93_1, frA93_2, frA93_3, frA93_4, frA93_5, aeA93, rfl, fA93⟩
                        have ttA93_12 : (A93.1 367 12).toInt = w96_1.toInt := congrArg Int32.toInt (frA93_0.trans (hkF eA92 (by first | decide | omega) (hkA eA90 (frA87_0.trans ek96_1))))
                        have ttA93_19 : (A93.1 367 19).toInt = (A.1 367 19).toInt := congrArg Int32.toInt (frA93_1.trans (hkF eA92 (by first | decide | omega) (hkA eA90 (frA87_1.trans ek96_3))))
                        have ttA93_20 : (A93.1 367 20).toInt = (A.1 367 20).toInt := congrArg Int32.toInt (frA93_2.trans (hkF eA92 (by first | decide | omega) (hkA eA90 (frA87_2.trans ek96_4))))
                        have ttA93_31 : (A93.1 367 31).toInt = (A.1 367 31).toInt := congrArg Int32.toInt (frA93_3.trans (hkF eA92 (by first | decide | omega) (hkA eA90 (frA87_3.trans ek96_5))))
                        have ttA93_37 : (A93.1 367 37).toInt = (A87.1 367 37).toInt := congrArg Int32.toInt (frA93_4.trans (hkF eA92 (by first | decide | omega) (hkA eA90 rfl)))
                        have ttA93_41 : (A93.1 367 41).toInt = z91.toInt := congrArg Int32.toInt (frA93_5.trans (hkS eA92))
                        obtain ⟨fbA93_367_11, fbA93_367_11u⟩ := hA93.f (i := 367) (k := 11) (by rfl)
                        obtain ⟨fbA93_367_13, fbA93_367_13u⟩ := hA93.f (i := 367) (k := 13) (by rfl)
                        have nA93_12 : (A93.1 367 12).toInt = w96_1.toInt := congrArg Int32.toInt (frA93_0.trans (hkF eA92 (by first | decide | omega) (hkA eA90 (frA87_0.trans ek96_1))))
                        have nA93_37 : (A93.1 367 37).toInt = (A87.1 367 37).toInt := congrArg Int32.toInt (frA93_4.trans (hkF eA92 (by first | decide | omega) (hkA eA90 rfl)))
                        have nA93_41 : (A93.1 367 41).toInt = z91.toInt := congrArg Int32.toInt (frA93_5.trans (hkS eA92))
                        have aj94 : A93.2.1 = hs_up A87.2.1 392 (A87.1 367 41).toNatClampNeg z89 := by rw [aeA93, (show A92.2.1 = A90.2.1 from congrArg Prod.fst fA92), fA90]
                        have j94 : ¬ (A93.1 367 13).toInt = 0 ∨ ((A.1 367 13).toInt = 0 ∧ (A93.1 367 37).toInt ≤ 0 + (A93.1 367 11).toInt ∧ ∃ o g : Nat, hQ 0 (A.1 367 37).toInt o g 0 A93 ∧ (o : Int) = (A93.1 367 12).toInt - x12_1.toInt ∧ (A93.1 367 12).toInt ≤ 6) := by
                          by_cases h9 : (A93.1 367 13).toInt = 0
                          · obtain ⟨g5, hq5⟩ : ∃ g5, hQ 0 (A.1 367 37).toInt o_33 g5 0 A93 := by
                              rcases (show g2_88 = 0 ∨ g2_88 = 1 by omega) with e0 | e0
                              · subst e0
                                exact ⟨2, hQ.push hq2_88 (j := (A87.1 367 41)) rfl aj94 (by omega) (by omega) (by omega) (by omega)⟩
                              · subst e0
                                exact ⟨3, hQ.push hq2_88 (j := (A87.1 367 41)) rfl aj94 (by omega) (by omega) (by omega) (by omega)⟩
                            have h5 := hq5.2.2.2.2
                            have h6 := hq5.w
                            exact Or.inr ⟨by omega, by omega, _, g5, hq5, by omega, by omega⟩
                          · exact Or.inl h9
                        refine hxa_goto (by rfl) ?_
                        exact ih12 (A93.1 367 11) w96_1 (A93.1 367 13) (A87.1 367 37) z91 x12_1 (Int32.ofNat 1) A93 hA93 rfl (frA93_0.trans (hkF eA92 (by first | decide | omega) (hkA eA90 (frA87_0.trans ek96_1)))) rfl (frA93_1.trans (hkF eA92 (by first | decide | omega) (hkA eA90 (frA87_1.trans ek96_3)))) (frA93_2.trans (hkF eA92 (by first | decide | omega) (hkA eA90 (frA87_2.trans ek96_4)))) (frA93_3.trans (hkF eA92 (by first | decide | omega) (hkA eA90 (frA87_3.trans ek96_5)))) (frA93_4.trans (hkF eA92 (by first | decide | omega) (hkA eA90 rfl))) (frA93_5.trans (hkS eA92)) (hafL aeA93 (hafF fA92 (hafA fA90 (by first | decide | omega) (afA87_376.trans af96_376)))) (hafL aeA93 (hafF fA92 (hafA fA90 (by first | decide | omega) (afA87_385.trans af96_385)))) (hafL aeA93 (hafF fA92 (hafA fA90 (by first | decide | omega) (afA87_386.trans af96_386)))) (hafL aeA93 (hafF fA92 (hafA fA90 (by first | decide | omega) (afA87_387.trans af96_387)))) (by first | assumption | omega) (by first | assumption | omega) (by first | assumption | omega) (by first | assumption | omega) (by first | assumption | omega) (by first | assumption | omega) (by first | assumption | omega) (by first | assumption | omega) (by first | assumption | omega) (by first | assumption | omega) (by first | assumption | omega) (by first | assumption | omega) (by first | assumption | omega) (by first | assumption | omega) (by exact j94) (by exact (hkz_88.trans (hK.w aj94) (Nat.le_refl _))) (by first | assumption | omega) (by first | assumption | omega)
                      ·
                        exact False.elim (by omega)
                  ·
                    refine hxj_zeq (by rfl) rfl (fun q95 => ?_) (fun q95 => False.elim (by omega))
                    refine hxa_iconst (by rfl) rfl ?_
                    refine hxa_s1 (by rfl) (Or.inl ⟨_, rfl, rfl⟩) rfl ?_
                    refine hxa_iload_n (by rfl) rfl ?_
                    refine hxj_zne (by rfl) hk_0 (fun q96 => False.elim (by omega)) (fun q96 => ?_)
                    refine hxa_aload_n (by rfl) rfl ?_
                    refine hxj_getK (by rfl) (by rfl) (by rfl) ek96_1 ?_
                    refine hxa_iload_n (by rfl) rfl ?_
                    refine hxj_cle (by rfl) rfl rfl (fun q97 => ?_) (fun q97 => ?_)
                    ·
                      refine hxa_aload_n (by rfl) rfl ?_
                      refine hxa_iconst (by rfl) rfl ?_
                      refine hxa_call0 (by rfl) (by rfl) (by rfl) (by rfl) (by rfl) (by rfl) (hX160q4 (d := d + 1) hAc96 hq_33 hl (Int32.ofNat 0) (by omega) (by omega)) ?_
                      rintro _ A98 ⟨hA98, frA98_0, frA98_1, frA98_2, frA98_3, frA98_4, frA98_5, afA98_376, afA98_385, afA98_386, afA98_387, rfl, fA98⟩
                      have ttA98_12 : (A98.1 367 12).toInt = w96_1.toInt := congrArg Int32.toInt (frA98_0.trans ek96_1)
                      have ttA98_19 : (A98.1 367 19).toInt = (A.1 367 19).toInt := congrArg Int32.toInt (frA98_1.trans ek96_3)
                      have ttA98_20 : (A98.1 367 20).toInt = (A.1 367 20).toInt := congrArg Int32.toInt (frA98_2.trans ek96_4)
                      have ttA98_31 : (A98.1 367 31).toInt = (A.1 367 31).toInt := congrArg Int32.toInt (frA98_3.trans ek96_5)
                      have ttA98_11 : (A98.1 367 11).toInt = w96_0.toInt := congrArg Int32.toInt (frA98_4.trans ek96_0)
                      have ttA98_13 : (A98.1 367 13).toInt = w96_2.toInt := congrArg Int32.toInt (frA98_5.trans ek96_2)
                      obtain ⟨fbA98_367_37, fbA98_367_37u⟩ := hA98.f (i := 367) (k := 37) (by rfl)
                      obtain ⟨fbA98_367_41, fbA98_367_41u⟩ := hA98.f (i := 367) (k := 41) (by rfl)
                      obtain ⟨g2_99, hq2_99, h21_99, h20_99, hk2_99, h92_99, hc2_99⟩ := fA98
                      have hw2_99 := hq2_99.w
                      have hkz_99 := u96_1.trans hk2_99 (by omega)
                      have cz_99 := hQ.cb hq2_99 (hA98.f (i := 367) (k := 11) (by rfl)).2
                      have nA98_11 : (A98.1 367 11).toInt = w96_0.toInt := congrArg Int32.toInt (frA98_4.trans ek96_0)
                      have nA98_12 : (A98.1 367 12).toInt = w96_1.toInt := congrArg Int32.toInt (frA98_0.trans ek96_1)
                      have nA98_13 : (A98.1 367 13).toInt = w96_2.toInt := congrArg Int32.toInt (frA98_5.trans ek96_2)
                      have fi100 : ¬ (A98.1 367 13).toInt = 0 ∨ ((A.1 367 13).toInt = 0 ∧ (A.1 367 11).toInt + 1 ≤ (A98.1 367 11).toInt ∧ (A98.1 367 12).toInt = (A.1 367 12).toInt ∧ (A98.1 367 37).toInt ≤ 0 + (A98.1 367 11).toInt ∧ hWe (A98.2.1 390) (A98.2.1 391) ((A98.1 367 37).toInt - (A.1 367 37).toInt).toNat (A.1 367 37).toInt.toNat 0 1) := by
                        by_cases h9 : (A98.1 367 13).toInt = 0
                        · have e0 := h20_99 (by omega)
                          subst e0
                          have eo : o_33 = 0 := by omega
                          subst eo
                          have hf := hQ.fin hq2_99
                          have h5 := hq2_99.2.2.2.2
                          exact Or.inr ⟨by omega, by omega, by omega, by omega, hf.2⟩
                        · exact Or.inl h9
                      exact hxa_return (by rfl) rfl (hP _ _ ⟨hA98, (frA98_1.trans ek96_3), (frA98_2.trans ek96_4), (frA98_3.trans ek96_5), (afA98_376.trans af96_376), (afA98_385.trans af96_385), (afA98_386.trans af96_386), (afA98_387.trans af96_387), rfl, ⟨fi100, by omega, by omega, by omega, hkz_99⟩⟩)
                    ·
                      refine hxa_aload_n (by rfl) rfl ?_
                      refine hxa_iconst (by rfl) rfl ?_
                      refine hxa_call0 (by rfl) (by rfl) (by rfl) (by rfl) (by rfl) (by rfl) (hX145q4 (d := d + 2) hAc96 (Int32.ofNat 1) (by omega) (by omega)) ?_
                      rintro _ A101 ⟨hA101, frA101_0, frA101_1, frA101_2, frA101_3, frA101_4, frA101_5, aeA101, rfl, fA101⟩
                      have ttA101_12 : (A101.1 367 12).toInt = w96_1.toInt := congrArg Int32.toInt (frA101_0.trans ek96_1)
                      have ttA101_19 : (A101.1 367 19).toInt = (A.1 367 19).toInt := congrArg Int32.toInt (frA101_1.trans ek96_3)
                      have ttA101_20 : (A101.1 367 20).toInt = (A.1 367 20).toInt := congrArg Int32.toInt (frA101_2.trans ek96_4)
                      have ttA101_31 : (A101.1 367 31).toInt = (A.1 367 31).toInt := congrArg Int32.toInt (frA101_3.trans ek96_5)
                      have ttA101_37 : (A101.1 367 37).toInt = w96_6.toInt := congrArg Int32.toInt (frA101_4.trans ek96_6)
                      have ttA101_41 : (A101.1 367 41).toInt = w96_7.toInt := congrArg Int32.toInt (frA101_5.trans ek96_7)
                      obtain ⟨fbA101_367_11, fbA101_367_11u⟩ := hA101.f (i := 367) (k := 11) (by rfl)
                      obtain ⟨fbA101_367_13, fbA101_367_13u⟩ := hA101.f (i := 367) (k := 13) (by rfl)
                      refine hxa_aload_n (by rfl) rfl ?_
                      refine hxa_iconst (by rfl) rfl ?_
                      have nA101_12 : (A101.1 367 12).toInt = w96_1.toInt := congrArg Int32.toInt (frA101_0.trans ek96_1)
                      have nA101_37 : (A101.1 367 37).toInt = w96_6.toInt := congrArg Int32.toInt (frA101_4.trans ek96_6)
                      have nA101_41 : (A101.1 367 41).toInt = w96_7.toInt := congrArg Int32.toInt (frA101_5.trans ek96_7)
                      have ahm102 : A101.2.1 = Ac96.2.1 := by rw [aeA101]
                      have hm102 := hQ.mv hq_33 (A' := A101) (by omega) (by omega) ahm102 (by omega)
                      refine hxa_call0 (by rfl) (by rfl) (by rfl) (by rfl) (by rfl) (by rfl) (hX160q4 (d := d + 1) hA101 hm102 hl (Int32.ofNat 0) (by omega) (by omega)) ?_
                      rintro _ A103 ⟨hA103, frA103_0, frA103_1, frA103_2, frA103_3, frA103_4, frA103_5, afA103_376, afA103_385, afA103_386, afA103_387, rfl, fA103⟩
                      have ttA103_12 : (A103.1 367 12).toInt = w96_1.toInt := congrArg Int32.toInt (frA103_0.trans (frA101_0.trans ek96_1))
                      have ttA103_19 : (A103.1 367 19).toInt = (A.1 367 19).toInt := congrArg Int32.toInt (frA103_1.trans (frA101_1.trans ek96_3))
                      have ttA103_20 : (A103.1 367 20).toInt = (A.1 367 20).toInt := congrArg Int32.toInt (frA103_2.trans (frA101_2.trans ek96_4))
                      have ttA103_31 : (A103.1 367 31).toInt = (A.1 367 31).toInt := congrArg Int32.toInt (frA103_3.trans (frA101_3.trans ek96_5))
                      have ttA103_11 : (A103.1 367 11).toInt = (A101.1 367 11).toInt := congrArg Int32.toInt (frA103_4.trans rfl)
                      have ttA103_13 : (A103.1 367 13).toInt = (A101.1 367 13).toInt := congrArg Int32.toInt (frA103_5.trans rfl)
                      obtain ⟨fbA103_367_37, fbA103_367_37u⟩ := hA103.f (i := 367) (k := 37) (by rfl)
                      obtain ⟨fbA103_367_41, fbA103_367_41u⟩ := hA103.f (i := 367) (k := 41) (by rfl)
                      obtain ⟨g2_104, hq2_104, h21_104, h20_104, hk2_104, h92_104, hc2_104⟩ := fA103
                      have hw2_104 := hq2_104.w
                      have hkz_104 := (u96_1.trans (hK.eq ahm102) (Nat.le_refl _)).trans hk2_104 (by omega)
                      have cz_104 := hQ.cb hq2_104 (hA103.f (i := 367) (k := 11) (by rfl)).2
                      have nA103_11 : (A103.1 367 11).toInt = (A101.1 367 11).toInt := congrArg Int32.toInt (frA103_4.trans rfl)
                      have nA103_12 : (A103.1 367 12).toInt = w96_1.toInt := congrArg Int32.toInt (frA103_0.trans (frA101_0.trans ek96_1))
                      have nA103_13 : (A103.1 367 13).toInt = (A101.1 367 13).toInt := congrArg Int32.toInt (frA103_5.trans rfl)
                      have fi105 : ¬ (A103.1 367 13).toInt = 0 ∨ ((A.1 367 13).toInt = 0 ∧ (A.1 367 11).toInt + 1 ≤ (A103.1 367 11).toInt ∧ (A103.1 367 12).toInt = (A.1 367 12).toInt ∧ (A103.1 367 37).toInt ≤ 0 + (A103.1 367 11).toInt ∧ hWe (A103.2.1 390) (A103.2.1 391) ((A103.1 367 37).toInt - (A.1 367 37).toInt).toNat (A.1 367 37).toInt.toNat 0 1) := by
                        by_cases h9 : (A103.1 367 13).toInt = 0
                        · have e0 := h20_104 (by omega)
                          subst e0
                          have eo : o_33 = 0 := by omega
                          subst eo
                          have hf := hQ.fin hq2_104
                          have h5 := hq2_104.2.2.2.2
                          exact Or.inr ⟨by omega, by omega, by omega, by omega, hf.2⟩
                        · exact Or.inl h9
                      exact hxa_return (by rfl) rfl (hP _ _ ⟨hA103, (frA103_1.trans (frA101_1.trans ek96_3)), (frA103_2.trans (frA101_2.trans ek96_4)), (frA103_3.trans (frA101_3.trans ek96_5)), (afA103_376.trans (hafL aeA101 af96_376)), (afA103_385.trans (hafL aeA101 af96_385)), (afA103_386.trans (hafL aeA101 af96_386)), (afA103_387.trans (hafL aeA101 af96_387)), rfl, ⟨fi105, by omega, by omega, by omega, hkz_104⟩⟩)
      have L23 : ∀ (m23 : Nat) (w23_0 : Int32) (w23_1 : Int32) (w23_2 : Int32) (w23_6 : Int32) (w23_7 : Int32) (Ac23 : hs_A) (hAc23 : hJ 4 Bn Br A0 Ac23) (ek23_0 : Ac23.1 367 11 = w23_0) (ek23_1 : Ac23.1 367 12 = w23_1) (ek23_2 : Ac23.1 367 13 = w23_2) (ek23_3 : Ac23.1 367 19 = (A.1 367 19)) (ek23_4 : Ac23.1 367 20 = (A.1 367 20)) (ek23_5 : Ac23.1 367 31 = (A.1 367 31)) (ek23_6 : Ac23.1 367 37 = w23_6) (ek23_7 : Ac23.1 367 41 = w23_7) (af23_376 : Ac23.2.1 376 = A.2.1 376) (af23_385 : Ac23.2.1 385 = A.2.1 385) (af23_386 : Ac23.2.1 386 = A.2.1 386) (af23_387 : Ac23.2.1 387 = A.2.1 387) (bw23_7 : 0 ≤ w23_7.toInt) (cw23_7 : w23_7.toInt ≤ 64) (bw23_0 : 0 ≤ w23_0.toInt) (cw23_0 : w23_0.toInt ≤ 400) (bw23_1 : 0 ≤ w23_1.toInt) (cw23_1 : w23_1.toInt ≤ 7) (bw23_2 : 0 ≤ w23_2.toInt) (cw23_2 : w23_2.toInt ≤ 2) (bw23_6 : 0 ≤ w23_6.toInt) (cw23_6 : w23_6.toInt ≤ 840) (cw12_2 : w12_2.toInt ≤ 0) (u23_0 : ¬ (Ac23.1 367 13).toInt = 0 ∨ ((A.1 367 13).toInt = 0 ∧ (Ac23.1 367 37).toInt ≤ 0 + (Ac23.1 367 11).toInt ∧ ∃ o g : Nat, hQ 0 (A.1 367 37).toInt o g 0 Ac23 ∧ (o : Int) = (Ac23.1 367 12).toInt - x12_1.toInt ∧ (Ac23.1 367 12).toInt ≤ 6)) (u23_1 : hK (A.1 367 37).toInt.toNat A Ac23) (u23_2 : (A.1 367 37).toInt ≤ (Ac23.1 367 37).toInt ∧ (Ac23.1 367 37).toInt ≤ 402 ∧ (A.1 367 11).toInt ≤ (Ac23.1 367 11).toInt ∧ x12_1.toInt = (A.1 367 12).toInt) (u23_3 : w12_0.toInt ≤ (Ac23.1 367 11).toInt) (hm23 : 800 - 2 * w23_0.toInt - 2 * w23_2.toInt + 6 < (m23 : Int)), hxa (d + 3) none hm_t161 23 [.ref 368, .int x12_1, .int x12_2] [] Ac23 P := by
        intro m23
        induction m23 with
        | zero => intro w23_0 w23_1 w23_2 w23_6 w23_7 Ac23 hAc23 ek23_0 ek23_1 ek23_2 ek23_3 ek23_4 ek23_5 ek23_6 ek23_7 af23_376 af23_385 af23_386 af23_387 bw23_7 cw23_7 bw23_0 cw23_0 bw23_1 cw23_1 bw23_2 cw23_2 bw23_6 cw23_6 cw12_2 u23_0 u23_1 u23_2 u23_3 hm23;  exact False.elim (by omega)
        | succ m23 ih23 =>
          intro w23_0 w23_1 w23_2 w23_6 w23_7 Ac23 hAc23 ek23_0 ek23_1 ek23_2 ek23_3 ek23_4 ek23_5 ek23_6 ek23_7 af23_376 af23_385 af23_386 af23_387 bw23_7 cw23_7 bw23_0 cw23_0 bw23_1 cw23_1 bw23_2 cw23_2 bw23_6 cw23_6 cw12_2 u23_0 u23_1 u23_2 u23_3 hm23
          have tk23_0 : (Ac23.1 367 11).toInt = w23_0.toInt := congrArg Int32.toInt ek23_0
          have tk23_1 : (Ac23.1 367 12).toInt = w23_1.toInt := congrArg Int32.toInt ek23_1
          have tk23_2 : (Ac23.1 367 13).toInt = w23_2.toInt := congrArg Int32.toInt ek23_2
          have tk23_6 : (Ac23.1 367 37).toInt = w23_6.toInt := congrArg Int32.toInt ek23_6
          have tk23_7 : (Ac23.1 367 41).toInt = w23_7.toInt := congrArg Int32.toInt ek23_7
          refine hxa_aload_n (by rfl) rfl ?_
          refine hxa_bipush (by rfl) rfl ?_
          have nAc23_11 : (Ac23.1 367 11).toInt = w23_0.toInt := congrArg Int32.toInt ek23_0
          have nAc23_12 : (Ac23.1 367 12).toInt = w23_1.toInt := congrArg Int32.toInt ek23_1
          have nAc23_13 : (Ac23.1 367 13).toInt = w23_2.toInt := congrArg Int32.toInt ek23_2
          have nAc23_37 : (Ac23.1 367 37).toInt = w23_6.toInt := congrArg Int32.toInt ek23_6
          have nAc23_41 : (Ac23.1 367 41).toInt = w23_7.toInt := congrArg Int32.toInt ek23_7
          refine hxa_call0 (by rfl) (by rfl) (by rfl) (by rfl) (by rfl) (by rfl) (hX144q4 (d := d + 2) hAc23 (Int32.ofNat 6)) ?_
          rintro _ _ ⟨rfl, z106, rfl, fz106⟩
          rcases fz106 with fz106 | fz106
          ·
            refine hxj_zeq (by rfl) rfl (fun q107 => False.elim (by omega)) (fun q107 => ?_)
            obtain ⟨h0_108, hc_108, o_108, g_108, hq_108, ho_108, h6_108⟩ := Or.resolve_left u23_0 (fun w => w (by omega))
            have hw_108 := hq_108.w
            refine hxa_aload_n (by rfl) rfl ?_
            refine hxj_getK (by rfl) (by rfl) (by rfl) ek23_1 ?_
            refine hxa_bipush (by rfl) rfl ?_
            refine hxj_cne (by rfl) rfl hk_6 (fun q109 => ?_) (fun q109 => ?_)
            ·
              refine hxa_aload_n (by rfl) rfl ?_
              refine hxa_dupR (by rfl) ?_
              refine hxj_getK (by rfl) (by rfl) (by rfl) ek23_1 ?_
              refine hxa_iconst (by rfl) rfl ?_
              refine hxj_iadd (by rfl) rfl hk_1 (by omega) (by omega) (fun z110 ez110 => ?_)
              refine hxj_putI (by rfl) (by rfl) (by rfl) (by rfl) hAc23 (hbok (by rfl) rfl (by omega) (by omega)) (by rfl) (by rfl) (fun A111 hA111 eA111 fA111 => ?_)
              refine hxa_aload_n (by rfl) rfl ?_
              have nA111_11 : (A111.1 367 11).toInt = w23_0.toInt := congrArg Int32.toInt (hkF eA111 (by first | decide | omega) ek23_0)
              have nA111_12 : (A111.1 367 12).toInt = z110.toInt := congrArg Int32.toInt (hkS eA111)
              have nA111_13 : (A111.1 367 13).toInt = w23_2.toInt := congrArg Int32.toInt (hkF eA111 (by first | decide | omega) ek23_2)
              have nA111_37 : (A111.1 367 37).toInt = w23_6.toInt := congrArg Int32.toInt (hkF eA111 (by first | decide | omega) ek23_6)
              have nA111_41 : (A111.1 367 41).toInt = w23_7.toInt := congrArg Int32.toInt (hkF eA111 (by first | decide | omega) ek23_7)
              refine hxa_call0 (by rfl) (by rfl) (by rfl) (by rfl) (by rfl) (by rfl) (hX147q4 (d := d + 1) hA111 ) ?_
              rintro _ A112 ⟨hA112, frA112_0, frA112_1, frA112_2, frA112_3, frA112_4, frA112_5, aeA112, rfl, fA112⟩
              have ttA112_12 : (A112.1 367 12).toInt = z110.toInt := congrArg Int32.toInt (frA112_0.trans (hkS eA111))
              have ttA112_19 : (A112.1 367 19).toInt = (A.1 367 19).toInt := congrArg Int32.toInt (frA112_1.trans (hkF eA111 (by first | decide | omega) ek23_3))
              have ttA112_20 : (A112.1 367 20).toInt = (A.1 367 20).toInt := congrArg Int32.toInt (frA112_2.trans (hkF eA111 (by first | decide | omega) ek23_4))
              have ttA112_31 : (A112.1 367 31).toInt = (A.1 367 31).toInt := congrArg Int32.toInt (frA112_3.trans (hkF eA111 (by first | decide | omega) ek23_5))
              have ttA112_37 : (A112.1 367 37).toInt = w23_6.toInt := congrArg Int32.toInt (frA112_4.trans (hkF eA111 (by first | decide | omega) ek23_6))
              have ttA112_41 : (A112.1 367 41).toInt = w23_7.toInt := congrArg Int32.toInt (frA112_5.trans (hkF eA111 (by first | decide | omega) ek23_7))
              obtain ⟨fbA112_367_11, fbA112_367_11u⟩ := hA112.f (i := 367) (k := 11) (by rfl)
              obtain ⟨fbA112_367_13, fbA112_367_13u⟩ := hA112.f (i := 367) (k := 13) (by rfl)
              refine hxa_aload_n (by rfl) rfl ?_
              refine hxa_get (v := .ref 393) (by rfl) (by rfl) (by rfl) rfl ?_
              refine hxa_aload_n (by rfl) rfl ?_
              refine hxj_getK (by rfl) (by rfl) (by rfl) (frA112_5.trans (hkF eA111 (by first | decide | omega) ek23_7)) ?_
              refine hxa_bipush (by rfl) rfl ?_
              refine hxj_iast (by rfl) (by rfl) rfl (by omega) (by omega) hA112 (hbokN (by rfl)) (by rfl) (by rfl) (fun A113 hA113 eA113 fA113 gA113 => ?_)
              refine hxa_aload_n (by rfl) rfl ?_
              refine hxa_dupR (by rfl) ?_
              refine hxj_getK (by rfl) (by rfl) (by rfl) (hkA eA113 (frA112_5.trans (hkF eA111 (by first | decide | omega) ek23_7))) ?_
              refine hxa_iconst (by rfl) rfl ?_
              refine hxj_iadd (by rfl) rfl hk_1 (by omega) (by omega) (fun z114 ez114 => ?_)
              refine hxj_putI (by rfl) (by rfl) (by rfl) (by rfl) hA113 (hbok (by rfl) rfl (by omega) (by omega)) (by rfl) (by rfl) (fun A115 hA115 eA115 fA115 => ?_)
              have nA115_11 : (A115.1 367 11).toInt = (A112.1 367 11).toInt := congrArg Int32.toInt (hkF eA115 (by first | decide | omega) (hkA eA113 rfl))
              have nA115_12 : (A115.1 367 12).toInt = z110.toInt := congrArg Int32.toInt (hkF eA115 (by first | decide | omega) (hkA eA113 (frA112_0.trans (hkS eA111))))
              have nA115_13 : (A115.1 367 13).toInt = (A112.1 367 13).toInt := congrArg Int32.toInt (hkF eA115 (by first | decide | omega) (hkA eA113 rfl))
              have nA115_37 : (A115.1 367 37).toInt = w23_6.toInt := congrArg Int32.toInt (hkF eA115 (by first | decide | omega) (hkA eA113 (frA112_4.trans (hkF eA111 (by first | decide | omega) ek23_6))))
              have nA115_41 : (A115.1 367 41).toInt = z114.toInt := congrArg Int32.toInt (hkS eA115)
              have aj116 : A115.2.1 = hs_up Ac23.2.1 392 w23_7.toNatClampNeg (Int32.ofNat 6) := by rw [(show A115.2.1 = A113.2.1 from congrArg Prod.fst fA115), fA113, aeA112, (show A111.2.1 = Ac23.2.1 from congrArg Prod.fst fA111)]
              have j116 : ¬ (A115.1 367 13).toInt = 0 ∨ ((A.1 367 13).toInt = 0 ∧ (A115.1 367 37).toInt ≤ 0 + (A115.1 367 11).toInt ∧ ∃ o g : Nat, hQ 0 (A.1 367 37).toInt o g 0 A115 ∧ (o : Int) = (A115.1 367 12).toInt - x12_1.toInt ∧ (A115.1 367 12).toInt ≤ 6) := by
                by_cases h9 : (A115.1 367 13).toInt = 0
                · exact Or.inr ⟨by omega, by omega, _, _, hQ.opn hq_108 (j := w23_7) ek23_7 aj116 (by omega) (by omega) (by omega) hk_6, by omega, by omega⟩
                · exact Or.inl h9
              refine hxa_goto (by rfl) ?_
              exact ih23 (A112.1 367 11) z110 (A112.1 367 13) w23_6 z114 A115 hA115 (hkF eA115 (by first | decide | omega) (hkA eA113 rfl)) (hkF eA115 (by first | decide | omega) (hkA eA113 (frA112_0.trans (hkS eA111)))) (hkF eA115 (by first | decide | omega) (hkA eA113 rfl)) (hkF eA115 (by first | decide | omega) (hkA eA113 (frA112_1.trans (hkF eA111 (by first | decide | omega) ek23_3)))) (hkF eA115 (by first | decide | omega) (hkA eA113 (frA112_2.trans (hkF eA111 (by first | decide | omega) ek23_4)))) (hkF eA115 (by first | decide | omega) (hkA eA113 (frA112_3.trans (hkF eA111 (by first | decide | omega) ek23_5)))) (hkF eA115 (by first | decide | omega) (hkA eA113 (frA112_4.trans (hkF eA111 (by first | decide | omega) ek23_6)))) (hkS eA115) (hafF fA115 (hafA fA113 (by first | decide | omega) (hafL aeA112 (hafF fA111 af23_376)))) (hafF fA115 (hafA fA113 (by first | decide | omega) (hafL aeA112 (hafF fA111 af23_385)))) (hafF fA115 (hafA fA113 (by first | decide | omega) (hafL aeA112 (hafF fA111 af23_386)))) (hafF fA115 (hafA fA113 (by first | decide | omega) (hafL aeA112 (hafF fA111 af23_387)))) (by first | assumption | omega) (by first | assumption | omega) (by first | assumption | omega) (by first | assumption | omega) (by first | assumption | omega) (by first | assumption | omega) (by first | assumption | omega) (by first | assumption | omega) (by first | assumption | omega) (by first | assumption | omega) (by first | assumption | omega) (by exact j116) (by exact (u23_1.trans (hK.w aj116) (Nat.le_refl _))) (by first | assumption | omega) (by first | assumption | omega) (by first | assumption | omega)
            ·
              refine hxa_aload_n (by rfl) rfl ?_
              refine hxa_iconst (by rfl) rfl ?_
              refine hxa_call0 (by rfl) (by rfl) (by rfl) (by rfl) (by rfl) (by rfl) (hX145q4 (d := d + 2) hAc23 (Int32.ofNat 2) (by omega) (by omega)) ?_
              rintro _ A117 ⟨hA117, frA117_0, frA117_1, frA117_2, frA117_3, frA117_4, frA117_5, aeA117, rfl, fA117⟩
              have ttA117_12 : (A117.1 367 12).toInt = w23_1.toInt := congrArg Int32.toInt (frA117_0.trans ek23_1)
              have ttA117_19 : (A117.1 367 19).toInt = (A.1 367 19).toInt := congrArg Int32.toInt (frA117_1.trans ek23_3)
              have ttA117_20 : (A117.1 367 20).toInt = (A.1 367 20).toInt := congrArg Int32.toInt (frA117_2.trans ek23_4)
              have ttA117_31 : (A117.1 367 31).toInt = (A.1 367 31).toInt := congrArg Int32.toInt (frA117_3.trans ek23_5)
              have ttA117_37 : (A117.1 367 37).toInt = w23_6.toInt := congrArg Int32.toInt (frA117_4.trans ek23_6)
              have ttA117_41 : (A117.1 367 41).toInt = w23_7.toInt := congrArg Int32.toInt (frA117_5.trans ek23_7)
              obtain ⟨fbA117_367_11, fbA117_367_11u⟩ := hA117.f (i := 367) (k := 11) (by rfl)
              obtain ⟨fbA117_367_13, fbA117_367_13u⟩ := hA117.f (i := 367) (k := 13) (by rfl)
              refine hxa_aload_n (by rfl) rfl ?_
              refine hxa_dupR (by rfl) ?_
              refine hxj_getK (by rfl) (by rfl) (by rfl) (frA117_0.trans ek23_1) ?_
              refine hxa_iconst (by rfl) rfl ?_
              refine hxj_iadd (by rfl) rfl hk_1 (by omega) (by omega) (fun z118 ez118 => ?_)
              refine hxj_putI (by rfl) (by rfl) (by rfl) (by rfl) hA117 (hbok (by rfl) rfl (by omega) (by omega)) (by rfl) (by rfl) (fun A119 hA119 eA119 fA119 => ?_)
              refine hxa_aload_n (by rfl) rfl ?_
              have nA119_11 : (A119.1 367 11).toInt = (A117.1 367 11).toInt := congrArg Int32.toInt (hkF eA119 (by first | decide | omega) rfl)
              have nA119_12 : (A119.1 367 12).toInt = z118.toInt := congrArg Int32.toInt (hkS eA119)
              have nA119_13 : (A119.1 367 13).toInt = (A117.1 367 13).toInt := congrArg Int32.toInt (hkF eA119 (by first | decide | omega) rfl)
              have nA119_37 : (A119.1 367 37).toInt = w23_6.toInt := congrArg Int32.toInt (hkF eA119 (by first | decide | omega) (frA117_4.trans ek23_6))
              have nA119_41 : (A119.1 367 41).toInt = w23_7.toInt := congrArg Int32.toInt (hkF eA119 (by first | decide | omega) (frA117_5.trans ek23_7))
              refine hxa_call0 (by rfl) (by rfl) (by rfl) (by rfl) (by rfl) (by rfl) (hX147q4 (d := d + 1) hA119 ) ?_
              rintro _ A120 ⟨hA120, frA120_0, frA120_1, frA120_2, frA120_3, frA120_4, frA120_5, aeA120, rfl, fA120⟩
              have ttA120_12 : (A120.1 367 12).toInt = z118.toInt := congrArg Int32.toInt (frA120_0.trans (hkS eA119))
              have ttA120_19 : (A120.1 367 19).toInt = (A.1 367 19).toInt := congrArg Int32.toInt (frA120_1.trans (hkF eA119 (by first | decide | omega) (frA117_1.trans ek23_3)))
              have ttA120_20 : (A120.1 367 20).toInt = (A.1 367 20).toInt := congrArg Int32.toInt (frA120_2.trans (hkF eA119 (by first | decide | omega) (frA117_2.trans ek23_4)))
              have ttA120_31 : (A120.1 367 31).toInt = (A.1 367 31).toInt := congrArg Int32.toInt (frA120_3.trans (hkF eA119 (by first | decide | omega) (frA117_3.trans ek23_5)))
              have ttA120_37 : (A120.1 367 37).toInt = w23_6.toInt := congrArg Int32.toInt (frA120_4.trans (hkF eA119 (by first | decide | omega) (frA117_4.trans ek23_6)))
              have ttA120_41 : (A120.1 367 41).toInt = w23_7.toInt := congrArg Int32.toInt (frA120_5.trans (hkF eA119 (by first | decide | omega) (frA117_5.trans ek23_7)))
              obtain ⟨fbA120_367_11, fbA120_367_11u⟩ := hA120.f (i := 367) (k := 11) (by rfl)
              obtain ⟨fbA120_367_13, fbA120_367_13u⟩ := hA120.f (i := 367) (k := 13) (by rfl)
              refine hxa_aload_n (by rfl) rfl ?_
              refine hxa_get (v := .ref 393) (by rfl) (by rfl) (by rfl) rfl ?_
              refine hxa_aload_n (by rfl) rfl ?_
              refine hxj_getK (by rfl) (by rfl) (by rfl) (frA120_5.trans (hkF eA119 (by first | decide | omega) (frA117_5.trans ek23_7))) ?_
              refine hxa_bipush (by rfl) rfl ?_
              refine hxj_iast (by rfl) (by rfl) rfl (by omega) (by omega) hA120 (hbokN (by rfl)) (by rfl) (by rfl) (fun A121 hA121 eA121 fA121 gA121 => ?_)
              refine hxa_aload_n (by rfl) rfl ?_
              refine hxa_dupR (by rfl) ?_
              refine hxj_getK (by rfl) (by rfl) (by rfl) (hkA eA121 (frA120_5.trans (hkF eA119 (by first | decide | omega) (frA117_5.trans ek23_7)))) ?_
              refine hxa_iconst (by rfl) rfl ?_
              refine hxj_iadd (by rfl) rfl hk_1 (by omega) (by omega) (fun z122 ez122 => ?_)
              refine hxj_putI (by rfl) (by rfl) (by rfl) (by rfl) hA121 (hbok (by rfl) rfl (by omega) (by omega)) (by rfl) (by rfl) (fun A123 hA123 eA123 fA123 => ?_)
              have nA123_11 : (A123.1 367 11).toInt = (A120.1 367 11).toInt := congrArg Int32.toInt (hkF eA123 (by first | decide | omega) (hkA eA121 rfl))
              have nA123_12 : (A123.1 367 12).toInt = z118.toInt := congrArg Int32.toInt (hkF eA123 (by first | decide | omega) (hkA eA121 (frA120_0.trans (hkS eA119))))
              have nA123_13 : (A123.1 367 13).toInt = (A120.1 367 13).toInt := congrArg Int32.toInt (hkF eA123 (by first | decide | omega) (hkA eA121 rfl))
              have nA123_37 : (A123.1 367 37).toInt = w23_6.toInt := congrArg Int32.toInt (hkF eA123 (by first | decide | omega) (hkA eA121 (frA120_4.trans (hkF eA119 (by first | decide | omega) (frA117_4.trans ek23_6)))))
              have nA123_41 : (A123.1 367 41).toInt = z122.toInt := congrArg Int32.toInt (hkS eA123)
              have aj124 : A123.2.1 = hs_up Ac23.2.1 392 w23_7.toNatClampNeg (Int32.ofNat 6) := by rw [(show A123.2.1 = A121.2.1 from congrArg Prod.fst fA123), fA121, aeA120, (show A119.2.1 = A117.2.1 from congrArg Prod.fst fA119), aeA117]
              have j124 : ¬ (A123.1 367 13).toInt = 0 ∨ ((A.1 367 13).toInt = 0 ∧ (A123.1 367 37).toInt ≤ 0 + (A123.1 367 11).toInt ∧ ∃ o g : Nat, hQ 0 (A.1 367 37).toInt o g 0 A123 ∧ (o : Int) = (A123.1 367 12).toInt - x12_1.toInt ∧ (A123.1 367 12).toInt ≤ 6) := by
                by_cases h9 : (A123.1 367 13).toInt = 0
                · exact Or.inr ⟨by omega, by omega, _, _, hQ.opn hq_108 (j := w23_7) ek23_7 aj124 (by omega) (by omega) (by omega) hk_6, by omega, by omega⟩
                · exact Or.inl h9
              refine hxa_goto (by rfl) ?_
              exact ih23 (A120.1 367 11) z118 (A120.1 367 13) w23_6 z122 A123 hA123 (hkF eA123 (by first | decide | omega) (hkA eA121 rfl)) (hkF eA123 (by first | decide | omega) (hkA eA121 (frA120_0.trans (hkS eA119)))) (hkF eA123 (by first | decide | omega) (hkA eA121 rfl)) (hkF eA123 (by first | decide | omega) (hkA eA121 (frA120_1.trans (hkF eA119 (by first | decide | omega) (frA117_1.trans ek23_3))))) (hkF eA123 (by first | decide | omega) (hkA eA121 (frA120_2.trans (hkF eA119 (by first | decide | omega) (frA117_2.trans ek23_4))))) (hkF eA123 (by first | decide | omega) (hkA eA121 (frA120_3.trans (hkF eA119 (by first | decide | omega) (frA117_3.trans ek23_5))))) (hkF eA123 (by first | decide | omega) (hkA eA121 (frA120_4.trans (hkF eA119 (by first | decide | omega) (frA117_4.trans ek23_6))))) (hkS eA123) (hafF fA123 (hafA fA121 (by first | decide | omega) (hafL aeA120 (hafF fA119 (hafL aeA117 af23_376))))) (hafF fA123 (hafA fA121 (by first | decide | omega) (hafL aeA120 (hafF fA119 (hafL aeA117 af23_385))))) (hafF fA123 (hafA fA121 (by first | decide | omega) (hafL aeA120 (hafF fA119 (hafL aeA117 af23_386))))) (hafF fA123 (hafA fA121 (by first | decide | omega) (hafL aeA120 (hafF fA119 (hafL aeA117 af23_387))))) (by first | assumption | omega) (by first | assumption | omega) (by first | assumption | omega) (by first | assumption | omega) (by first | assumption | omega) (by first | assumption | omega) (by first | assumption | omega) (by first | assumption | omega) (by first | assumption | omega) (by first | assumption | omega) (by first | assumption | omega) (by exact j124) (by exact (u23_1.trans (hK.w aj124) (Nat.le_refl _))) (by first | assumption | omega) (by first | assumption | omega) (by first | assumption | omega)
          ·
            refine hxj_zeq (by rfl) rfl (fun q125 => ?_) (fun q125 => False.elim (by omega))
            refine hxa_aload_n (by rfl) rfl ?_
            rcases u23_0 with x_126 | ⟨h0_126, hc_126, o_126, g_126, hq_126, ho_126, h6_126⟩
            ·
              refine hxa_call0 (by rfl) (by rfl) (by rfl) (by rfl) (by rfl) (by rfl) (hX162q4_9 (d := d + 0) hAc23 (by rw [(show Ac23.1 367 13 = w23_2 from ek23_2)]; omega) (by rw [(show Ac23.1 367 13 = w23_2 from ek23_2)]; omega)) ?_
              rintro _ A127 ⟨hA127, frA127_0, frA127_1, frA127_2, frA127_3, frA127_4, frA127_5, aeA127, rfl, fA127⟩
              have ttA127_12 : (A127.1 367 12).toInt = w23_1.toInt := congrArg Int32.toInt (frA127_0.trans ek23_1)
              have ttA127_19 : (A127.1 367 19).toInt = (A.1 367 19).toInt := congrArg Int32.toInt (frA127_1.trans ek23_3)
              have ttA127_20 : (A127.1 367 20).toInt = (A.1 367 20).toInt := congrArg Int32.toInt (frA127_2.trans ek23_4)
              have ttA127_31 : (A127.1 367 31).toInt = (A.1 367 31).toInt := congrArg Int32.toInt (frA127_3.trans ek23_5)
              have ttA127_37 : (A127.1 367 37).toInt = w23_6.toInt := congrArg Int32.toInt (frA127_4.trans ek23_6)
              have ttA127_41 : (A127.1 367 41).toInt = w23_7.toInt := congrArg Int32.toInt (frA127_5.trans ek23_7)
              obtain ⟨fbA127_367_11, fbA127_367_11u⟩ := hA127.f (i := 367) (k := 11) (by rfl)
              obtain ⟨fbA127_367_13, fbA127_367_13u⟩ := hA127.f (i := 367) (k := 13) (by rfl)
              refine hxa_aload_n (by rfl) rfl ?_
              refine hxj_getK (by rfl) (by rfl) (by rfl) rfl ?_
              refine hxj_zle (by rfl) rfl (fun q128 => False.elim (by omega)) (fun q128 => ?_)
              have nA127_12 : (A127.1 367 12).toInt = w23_1.toInt := congrArg Int32.toInt (frA127_0.trans ek23_1)
              have nA127_37 : (A127.1 367 37).toInt = w23_6.toInt := congrArg Int32.toInt (frA127_4.trans ek23_6)
              have nA127_41 : (A127.1 367 41).toInt = w23_7.toInt := congrArg Int32.toInt (frA127_5.trans ek23_7)
              exact hxa_return (by rfl) rfl (hP _ _ ⟨hA127, (frA127_1.trans ek23_3), (frA127_2.trans ek23_4), (frA127_3.trans ek23_5), (hafL aeA127 af23_376), (hafL aeA127 af23_385), (hafL aeA127 af23_386), (hafL aeA127 af23_387), rfl, ⟨Or.inl (by omega), by omega, by omega, by omega, (u23_1.trans (hK.eq aeA127) (Nat.le_refl _))⟩⟩)
            ·
              refine hxa_call0 (by rfl) (by rfl) (by rfl) (by rfl) (by rfl) (by rfl) (hX162q4 (d := d + 0) hAc23 hq_126 hl) ?_
              rintro _ A129 ⟨hA129, frA129_0, frA129_1, frA129_2, frA129_3, frA129_4, afA129_376, afA129_385, afA129_386, afA129_387, rfl, fA129⟩
              have ttA129_12 : (A129.1 367 12).toInt = w23_1.toInt := congrArg Int32.toInt (frA129_0.trans ek23_1)
              have ttA129_19 : (A129.1 367 19).toInt = (A.1 367 19).toInt := congrArg Int32.toInt (frA129_1.trans ek23_3)
              have ttA129_20 : (A129.1 367 20).toInt = (A.1 367 20).toInt := congrArg Int32.toInt (frA129_2.trans ek23_4)
              have ttA129_31 : (A129.1 367 31).toInt = (A.1 367 31).toInt := congrArg Int32.toInt (frA129_3.trans ek23_5)
              have ttA129_41 : (A129.1 367 41).toInt = w23_7.toInt := congrArg Int32.toInt (frA129_4.trans ek23_7)
              obtain ⟨fbA129_367_11, fbA129_367_11u⟩ := hA129.f (i := 367) (k := 11) (by rfl)
              obtain ⟨fbA129_367_13, fbA129_367_13u⟩ := hA129.f (i := 367) (k := 13) (by rfl)
              obtain ⟨fbA129_367_37, fbA129_367_37u⟩ := hA129.f (i := 367) (k := 37) (by rfl)
              have hku_126 := u23_1.trans fA129.2.2.2.2.1 (by omega)
              have fu_126 := fA129.2.1
              have fv_126 := fA129.2.2.1
              have fw_126 := fA129.2.2.2.1
              have hcb_126 := hQ.cb hq_126 (hAc23.f (i := 367) (k := 11) (by rfl)).2
              refine hxa_aload_n (by rfl) rfl ?_
              refine hxj_getK (by rfl) (by rfl) (by rfl) rfl ?_
              refine hxj_zle (by rfl) rfl (fun q130 => ?_) (fun q130 => ?_)
              ·
                have nA129_12 : (A129.1 367 12).toInt = w23_1.toInt := congrArg Int32.toInt (frA129_0.trans ek23_1)
                have nA129_41 : (A129.1 367 41).toInt = w23_7.toInt := congrArg Int32.toInt (frA129_4.trans ek23_7)
                have hu_126 := (fA129.1).resolve_left (fun w => w (by omega))
                have yu_126 : ∃ o g : Nat, hQ 0 (A.1 367 37).toInt o g 1 A129 ∧ (o : Int) = (A129.1 367 12).toInt - x12_1.toInt ∧ (A129.1 367 12).toInt ≤ 6 := ⟨_, _, hu_126.2.2, by omega, by omega⟩
                have hv_126 := hu_126.1
                have hx_126 := hu_126.2.1
                have cu_126 := hQ.cb hu_126.2.2 (hA129.f (i := 367) (k := 11) (by rfl)).2
                exact L96 (Int.toNat (800 - 2 * (A129.1 367 11).toInt - 2 * (A129.1 367 13).toInt + 6) + 1) (A129.1 367 11) w23_1 (A129.1 367 13) (A129.1 367 37) w23_7 A129 hA129 rfl (frA129_0.trans ek23_1) rfl (frA129_1.trans ek23_3) (frA129_2.trans ek23_4) (frA129_3.trans ek23_5) rfl (frA129_4.trans ek23_7) (afA129_376.trans af23_376) (afA129_385.trans af23_385) (afA129_386.trans af23_386) (afA129_387.trans af23_387) (by first | assumption | omega) (by first | assumption | omega) (by first | assumption | omega) (by first | assumption | omega) (by first | assumption | omega) (by first | assumption | omega) (by first | assumption | omega) (by first | assumption | omega) (by first | assumption | omega) (by first | assumption | omega) (by first | assumption | omega) (by exact yu_126) (by exact hku_126) (by first | assumption | omega) (by first | assumption | omega) (by first | assumption | omega) (by first | assumption | omega)
              ·
                have nA129_12 : (A129.1 367 12).toInt = w23_1.toInt := congrArg Int32.toInt (frA129_0.trans ek23_1)
                have nA129_41 : (A129.1 367 41).toInt = w23_7.toInt := congrArg Int32.toInt (frA129_4.trans ek23_7)
                exact hxa_return (by rfl) rfl (hP _ _ ⟨hA129, (frA129_1.trans ek23_3), (frA129_2.trans ek23_4), (frA129_3.trans ek23_5), (afA129_376.trans af23_376), (afA129_385.trans af23_385), (afA129_386.trans af23_386), (afA129_387.trans af23_387), rfl, ⟨Or.inl (by omega), by omega, by omega, by omega, hku_126⟩⟩)
      refine hxa_iload_n (by rfl) rfl ?_
      refine hxj_zeq (by rfl) rfl (fun q131 => False.elim (by omega)) (fun q131 => ?_)
      refine hxa_aload_n (by rfl) rfl ?_
      refine hxj_getK (by rfl) (by rfl) (by rfl) ek12_2 ?_
      refine hxj_zne (by rfl) rfl (fun q132 => ?_) (fun q132 => ?_)
      ·
        have nAc12_11 : (Ac12.1 367 11).toInt = w12_0.toInt := congrArg Int32.toInt ek12_0
        have nAc12_12 : (Ac12.1 367 12).toInt = w12_1.toInt := congrArg Int32.toInt ek12_1
        have nAc12_13 : (Ac12.1 367 13).toInt = w12_2.toInt := congrArg Int32.toInt ek12_2
        have nAc12_37 : (Ac12.1 367 37).toInt = w12_6.toInt := congrArg Int32.toInt ek12_6
        have nAc12_41 : (Ac12.1 367 41).toInt = w12_7.toInt := congrArg Int32.toInt ek12_7
        exact hxa_return (by rfl) rfl (hP _ _ ⟨hAc12, ek12_3, ek12_4, ek12_5, af12_376, af12_385, af12_386, af12_387, rfl, ⟨Or.inl (by omega), by omega, by omega, by omega, u12_1⟩⟩)
      ·
        exact L23 (Int.toNat (800 - 2 * w12_0.toInt - 2 * w12_2.toInt + 6) + 1) w12_0 w12_1 w12_2 w12_6 w12_7 Ac12 hAc12 ek12_0 ek12_1 ek12_2 ek12_3 ek12_4 ek12_5 ek12_6 ek12_7 af12_376 af12_385 af12_386 af12_387 (by first | assumption | omega) (by first | assumption | omega) (by first | assumption | omega) (by first | assumption | omega) (by first | assumption | omega) (by first | assumption | omega) (by first | assumption | omega) (by first | assumption | omega) (by first | assumption | omega) (by first | assumption | omega) (by first | assumption | omega) (by exact u12_0) (by exact u12_1) (by first | assumption | omega) (by first | assumption | omega) (by first | assumption | omega)
  refine hxa_aload_n (by rfl) rfl ?_
  refine hxa_iconst (by rfl) rfl ?_
  refine hxj_putI (by rfl) (by rfl) (by rfl) (by rfl) hA (hbok (by rfl) hk_0 (by omega) (by omega)) (by rfl) (by rfl) (fun A133 hA133 eA133 fA133 => ?_)
  have nA133_11 : (A133.1 367 11).toInt = (A.1 367 11).toInt := congrArg Int32.toInt (hkF eA133 (by first | decide | omega) rfl)
  have nA133_12 : (A133.1 367 12).toInt = (A.1 367 12).toInt := congrArg Int32.toInt (hkF eA133 (by first | decide | omega) rfl)
  have nA133_13 : (A133.1 367 13).toInt = (A.1 367 13).toInt := congrArg Int32.toInt (hkF eA133 (by first | decide | omega) rfl)
  have nA133_37 : (A133.1 367 37).toInt = (A.1 367 37).toInt := congrArg Int32.toInt (hkF eA133 (by first | decide | omega) rfl)
  have nA133_41 : (A133.1 367 41).toInt = 0 := congrArg Int32.toInt (hkS eA133)
  have i0 : ¬ (A133.1 367 13).toInt = 0 ∨ ((A.1 367 13).toInt = 0 ∧ (A133.1 367 37).toInt ≤ 0 + (A133.1 367 11).toInt ∧ ∃ o g : Nat, hQ 0 (A.1 367 37).toInt o g 0 A133 ∧ (o : Int) = (A133.1 367 12).toInt - (A.1 367 12).toInt ∧ (A133.1 367 12).toInt ≤ 6) := by
    by_cases h0 : (A.1 367 13).toInt = 0
    · refine Or.inr ⟨h0, by omega, 0, 0, ?_, by omega, by omega⟩
      have q := hQ.init (s := 0) (A := A133) (by omega) (by omega) (by omega) (by omega)
      rw [nA133_37] at q
      exact q
    · exact Or.inl (by omega)
  refine hxa_aload_n (by rfl) rfl ?_
  refine hxj_getK (by rfl) (by rfl) (by rfl) (hkF eA133 (by first | decide | omega) rfl) ?_
  refine hxa_s1 (by rfl) (Or.inl ⟨_, rfl, rfl⟩) rfl ?_
  refine hxa_iconst (by rfl) rfl ?_
  refine hxa_s1 (by rfl) (Or.inl ⟨_, rfl, rfl⟩) rfl ?_
  exact L12 (Int.toNat (800 - 2 * (A.1 367 11).toInt - 2 * (A.1 367 13).toInt + 6) + 1) (A.1 367 11) (A.1 367 12) (A.1 367 13) (A.1 367 37) (Int32.ofNat 0) (A.1 367 12) (Int32.ofNat 1) A133 hA133 (hkF eA133 (by first | decide | omega) rfl) (hkF eA133 (by first | decide | omega) rfl) (hkF eA133 (by first | decide | omega) rfl) (hkF eA133 (by first | decide | omega) rfl) (hkF eA133 (by first | decide | omega) rfl) (hkF eA133 (by first | decide | omega) rfl) (hkF eA133 (by first | decide | omega) rfl) (hkS eA133) (hafF fA133 rfl) (hafF fA133 rfl) (hafF fA133 rfl) (hafF fA133 rfl) (by first | assumption | omega) (by first | assumption | omega) (by first | assumption | omega) (by first | assumption | omega) (by first | assumption | omega) (by first | assumption | omega) (by first | assumption | omega) (by first | assumption | omega) (by first | assumption | omega) (by first | assumption | omega) (by first | assumption | omega) (by first | assumption | omega) (by first | assumption | omega) (by first | assumption | omega) (by exact i0) (by exact (hK.eq (by rw [(show A133.2.1 = A.2.1 from congrArg Prod.fst fA133)]))) (by first | assumption | omega) (by first | assumption | omega)
theorem hX161q4 {d : Nat} {Bn Br : Int} {A0 A : hs_A} (hA : hJ 4 Bn Br A0 A) (hc0 : 0 ≤ (A.1 367 37).toInt) (hc1 : ¬ (A.1 367 13).toInt = 0 ∨ (A.1 367 37).toInt ≤ 0 + (A.1 367 11).toInt) (hc2 : (A.1 367 37).toInt ≤ 402) (ho : ¬ (A.1 367 13).toInt = 0 ∨ (A.1 367 12).toInt ≤ 6) (hl : (A0.1 367 18).toInt = 1)  : hxC (d + 4) 161 hm_m161 [.ref 368] A (fun r A' => hJ 4 Bn Br A0 A' ∧ A'.1 367 19 = A.1 367 19 ∧ A'.1 367 20 = A.1 367 20 ∧ A'.1 367 31 = A.1 367 31 ∧ A'.2.1 376 = A.2.1 376 ∧ A'.2.1 385 = A.2.1 385 ∧ A'.2.1 386 = A.2.1 386 ∧ A'.2.1 387 = A.2.1 387 ∧ r = none ∧ ((¬ (A'.1 367 13).toInt = 0 ∨ ((A.1 367 13).toInt = 0 ∧ (A.1 367 11).toInt + 1 ≤ (A'.1 367 11).toInt ∧ (A'.1 367 12).toInt = (A.1 367 12).toInt ∧ (A'.1 367 37).toInt ≤ 0 + (A'.1 367 11).toInt ∧ hWe (A'.2.1 390) (A'.2.1 391) ((A'.1 367 37).toInt - (A.1 367 37).toInt).toNat (A.1 367 37).toInt.toNat 0 1)) ∧ (A.1 367 11).toInt ≤ (A'.1 367 11).toInt ∧ (A.1 367 37).toInt ≤ (A'.1 367 37).toInt ∧ (A'.1 367 37).toInt ≤ 402 ∧ hK (A.1 367 37).toInt.toNat A A')) := hxC.of (by rfl) (hY161q4 hA hc0 hc1 hc2 ho hl (fun r A' h => h))
