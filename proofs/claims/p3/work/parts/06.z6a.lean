theorem hY161q4 {d : Nat} {Bn Br : Int} {A0 A : hs_A} (hA : hJ 4 Bn Br A0 A) (hc0 : 0 ≤ (A.1 367 37).toInt) (hc1 : ¬ (A.1 367 13).toInt = 0 ∨ (A.1 367 37).toInt ≤ 0 + (A.1 367 11).toInt) (hc2 : (A.1 367 37).toInt ≤ 402) (ho : ¬ (A.1 367 13).toInt = 0 ∨ (A.1 367 12).toInt ≤ 6) (hl : (A0.1 367 18).toInt = 1)  {P : Option Value → hs_A → Prop} (hP : ∀ (r : Option Value) (A' : hs_A), (hJ 4 Bn Br A0 A' ∧ A'.1 367 19 = A.1 367 19 ∧ A'.1 367 20 = A.1 367 20 ∧ A'.1 367 31 = A.1 367 31 ∧ r = none ∧ ((¬ (A'.1 367 13).toInt = 0 ∨ ((A.1 367 13).toInt = 0 ∧ (A.1 367 11).toInt + 1 ≤ (A'.1 367 11).toInt ∧ (A'.1 367 12).toInt = (A.1 367 12).toInt ∧ (A'.1 367 37).toInt ≤ 0 + (A'.1 367 11).toInt ∧ hWe (A'.2.1 390) (A'.2.1 391) ((A'.1 367 37).toInt - (A.1 367 37).toInt).toNat (A.1 367 37).toInt.toNat 0 1)) ∧ (A.1 367 11).toInt ≤ (A'.1 367 11).toInt ∧ (A.1 367 37).toInt ≤ (A'.1 367 37).toInt ∧ (A'.1 367 37).toInt ≤ 402 ∧ hK (A.1 367 37).toInt.toNat A A')) → P r A') : hxa (d + 3) none hm_t161 0 [.ref 368, .retAddr 0, .retAddr 0] [] A P := by
  have k0 := hk_0
  have k1 := hk_1
  have k10 := hk_10
  have k15 := hk_15
  have k2 := hk_2
  have k6 := hk_6
  have k7 := hk_7
  have k8 := hk_8
  have k9 := hk_9
  have fb367_11 := hA.f (i := 367) (k := 11) (by rfl)
  have fb367_12 := hA.f (i := 367) (k := 12) (by rfl)
  have fb367_13 := hA.f (i := 367) (k := 13) (by rfl)
  have fb367_19 := hA.f (i := 367) (k := 19) (by rfl)
  have fb367_20 := hA.f (i := 367) (k := 20) (by rfl)
  have fb367_31 := hA.f (i := 367) (k := 31) (by rfl)
  have fb367_37 := hA.f (i := 367) (k := 37) (by rfl)
  have fb367_41 := hA.f (i := 367) (k := 41) (by rfl)
  have L12 : ∀ (m12 : Nat) (w12_0 : Int32) (w12_1 : Int32) (w12_2 : Int32) (w12_6 : Int32) (w12_7 : Int32) (x12_1 : Int32) (x12_2 : Int32) (Ac12 : hs_A) (hAc12 : hJ 4 Bn Br A0 Ac12) (ek12_0 : Ac12.1 367 11 = w12_0) (ek12_1 : Ac12.1 367 12 = w12_1) (ek12_2 : Ac12.1 367 13 = w12_2) (ek12_3 : Ac12.1 367 19 = (A.1 367 19)) (ek12_4 : Ac12.1 367 20 = (A.1 367 20)) (ek12_5 : Ac12.1 367 31 = (A.1 367 31)) (ek12_6 : Ac12.1 367 37 = w12_6) (ek12_7 : Ac12.1 367 41 = w12_7) (bx12_1 : 0 ≤ x12_1.toInt) (cx12_1 : x12_1.toInt ≤ 7) (bx12_2 : 1 ≤ x12_2.toInt) (cx12_2 : x12_2.toInt ≤ 1) (bw12_7 : 0 ≤ w12_7.toInt) (cw12_7 : w12_7.toInt ≤ 65) (bw12_0 : 0 ≤ w12_0.toInt) (cw12_0 : w12_0.toInt ≤ 400) (bw12_2 : 0 ≤ w12_2.toInt) (cw12_2 : w12_2.toInt ≤ 2) (bw12_6 : 0 ≤ w12_6.toInt) (cw12_6 : w12_6.toInt ≤ 840) (u12_0 : ¬ (Ac12.1 367 13).toInt = 0 ∨ ((A.1 367 13).toInt = 0 ∧ (Ac12.1 367 37).toInt ≤ 0 + (Ac12.1 367 11).toInt ∧ ∃ o g : Nat, hQ 0 (A.1 367 37).toInt o g 0 Ac12 ∧ (o : Int) = (Ac12.1 367 12).toInt - x12_1.toInt ∧ (Ac12.1 367 12).toInt ≤ 6)) (u12_1 : hK (A.1 367 37).toInt.toNat A Ac12) (u12_2 : (A.1 367 37).toInt ≤ (Ac12.1 367 37).toInt ∧ (Ac12.1 367 37).toInt ≤ 402 ∧ (A.1 367 11).toInt ≤ (Ac12.1 367 11).toInt ∧ x12_1.toInt = (A.1 367 12).toInt) (hm12 : 800 - 2 * w12_0.toInt - 2 * w12_2.toInt + 6 < (m12 : Int)), hxa (d + 3) none hm_t161 12 [.ref 368, .int x12_1, .int x12_2] [] Ac12 P := by
    intro m12
    induction m12 with
    | zero => intro w12_0 w12_1 w12_2 w12_6 w12_7 x12_1 x12_2 Ac12 hAc12 ek12_0 ek12_1 ek12_2 ek12_3 ek12_4 ek12_5 ek12_6 ek12_7 bx12_1 cx12_1 bx12_2 cx12_2 bw12_7 cw12_7 bw12_0 cw12_0 bw12_2 cw12_2 bw12_6 cw12_6 u12_0 u12_1 u12_2 hm12; have := hn_rng w12_1; exact False.elim (by omega)
    | succ m12 ih12 =>
      intro w12_0 w12_1 w12_2 w12_6 w12_7 x12_1 x12_2 Ac12 hAc12 ek12_0 ek12_1 ek12_2 ek12_3 ek12_4 ek12_5 ek12_6 ek12_7 bx12_1 cx12_1 bx12_2 cx12_2 bw12_7 cw12_7 bw12_0 cw12_0 bw12_2 cw12_2 bw12_6 cw12_6 u12_0 u12_1 u12_2 hm12
      have tk12_0 : (Ac12.1 367 11).toInt = w12_0.toInt := congrArg Int32.toInt ek12_0
      have tk12_1 : (Ac12.1 367 12).toInt = w12_1.toInt := congrArg Int32.toInt ek12_1
      have tk12_2 : (Ac12.1 367 13).toInt = w12_2.toInt := congrArg Int32.toInt ek12_2
      have tk12_6 : (Ac12.1 367 37).toInt = w12_6.toInt := congrArg Int32.toInt ek12_6
      have tk12_7 : (Ac12.1 367 41).toInt = w12_7.toInt := congrArg Int32.toInt ek12_7
      have L96 : ∀ (m96 : Nat) (w96_0 : Int32) (w96_1 : Int32) (w96_2 : Int32) (w96_6 : Int32) (w96_7 : Int32) (Ac96 : hs_A) (hAc96 : hJ 4 Bn Br A0 Ac96) (ek96_0 : Ac96.1 367 11 = w96_0) (ek96_1 : Ac96.1 367 12 = w96_1) (ek96_2 : Ac96.1 367 13 = w96_2) (ek96_3 : Ac96.1 367 19 = (A.1 367 19)) (ek96_4 : Ac96.1 367 20 = (A.1 367 20)) (ek96_5 : Ac96.1 367 31 = (A.1 367 31)) (ek96_6 : Ac96.1 367 37 = w96_6) (ek96_7 : Ac96.1 367 41 = w96_7) (bw96_0 : 0 ≤ w96_0.toInt) (cw96_0 : w96_0.toInt ≤ 400) (bw96_2 : 0 ≤ w96_2.toInt) (cw96_2 : w96_2.toInt ≤ 2) (bw96_6 : 0 ≤ w96_6.toInt) (cw96_6 : w96_6.toInt ≤ 840) (u96_0 : ∃ o g : Nat, hQ 0 (A.1 367 37).toInt o g 1 Ac96 ∧ (o : Int) = (Ac96.1 367 12).toInt - x12_1.toInt ∧ (Ac96.1 367 12).toInt ≤ 6) (u96_1 : hK (A.1 367 37).toInt.toNat A Ac96) (u96_2 : (A.1 367 37).toInt ≤ (Ac96.1 367 37).toInt ∧ (Ac96.1 367 37).toInt ≤ 402 ∧ (A.1 367 11).toInt + 1 ≤ (Ac96.1 367 11).toInt ∧ x12_1.toInt = (A.1 367 12).toInt) (u96_3 : (A.1 367 13).toInt = 0) (hm96 : 800 - 2 * w96_0.toInt - 2 * w96_2.toInt + 6 < (m96 : Int)), hxa (d + 3) none hm_t161 96 [.ref 368, .int x12_1, .int x12_2] [] Ac96 P := by
        intro m96
        induction m96 with
        | zero => intro w96_0 w96_1 w96_2 w96_6 w96_7 Ac96 hAc96 ek96_0 ek96_1 ek96_2 ek96_3 ek96_4 ek96_5 ek96_6 ek96_7 bw96_0 cw96_0 bw96_2 cw96_2 bw96_6 cw96_6 u96_0 u96_1 u96_2 u96_3 hm96; have := hn_rng w96_1; have := hn_rng w96_7; exact False.elim (by omega)
        | succ m96 ih96 =>
          intro w96_0 w96_1 w96_2 w96_6 w96_7 Ac96 hAc96 ek96_0 ek96_1 ek96_2 ek96_3 ek96_4 ek96_5 ek96_6 ek96_7 bw96_0 cw96_0 bw96_2 cw96_2 bw96_6 cw96_6 u96_0 u96_1 u96_2 u96_3 hm96
          have tk96_0 : (Ac96.1 367 11).toInt = w96_0.toInt := congrArg Int32.toInt ek96_0
          have tk96_1 : (Ac96.1 367 12).toInt = w96_1.toInt := congrArg Int32.toInt ek96_1
          have tk96_2 : (Ac96.1 367 13).toInt = w96_2.toInt := congrArg Int32.toInt ek96_2
          have tk96_6 : (Ac96.1 367 37).toInt = w96_6.toInt := congrArg Int32.toInt ek96_6
          have tk96_7 : (Ac96.1 367 41).toInt = w96_7.toInt := congrArg Int32.toInt ek96_7
          refine hxa_aload_n (by rfl) rfl ?_
          refine hxa_bipush (by rfl) rfl ?_
          have nAc96_11 : (Ac96.1 367 11).toInt = w96_0.toInt := congrArg Int32.toInt ek96_0
          have nAc96_12 : (Ac96.1 367 12).toInt = w96_1.toInt := congrArg Int32.toInt ek96_1
          have nAc96_13 : (Ac96.1 367 13).toInt = w96_2.toInt := congrArg Int32.toInt ek96_2
          have nAc96_37 : (Ac96.1 367 37).toInt = w96_6.toInt := congrArg Int32.toInt ek96_6
          have nAc96_41 : (Ac96.1 367 41).toInt = w96_7.toInt := congrArg Int32.toInt ek96_7
          refine hxa_call0 (by rfl) (by rfl) (by rfl) (by rfl) (by rfl) (by rfl) (hX144q4 (d := d + 2) hAc96 (Int32.ofNat 7)) ?_
          rintro _ _ ⟨rfl, z1, rfl, fz1⟩
          rcases fz1 with fz1 | fz1
          ·
            refine hxj_zeq (by rfl) rfl (fun q2 => False.elim (by omega)) (fun q2 => ?_)
            refine hxa_aload_n (by rfl) rfl ?_
            refine hxj_getK (by rfl) (by rfl) (by rfl) ek96_1 ?_
            refine hxa_iload_n (by rfl) rfl ?_
            have rgw96_1 := hn_rng w96_1
            refine hxj_cle (by rfl) rfl rfl (fun q3 => ?_) (fun q3 => ?_)
            ·
              obtain ⟨o_4, g_4, hq_4, ho_4, h6_4⟩ := u96_0
              have hw_4 := hq_4.w
              have cy_4 := hQ.cb hq_4 (hAc96.f (i := 367) (k := 11) (by rfl)).2
              refine hxa_aload_n (by rfl) rfl ?_
              refine hxa_bipush (by rfl) rfl ?_
              refine hxa_call0 (by rfl) (by rfl) (by rfl) (by rfl) (by rfl) (by rfl) (hX144q4 (d := d + 2) hAc96 (Int32.ofNat 8)) ?_
              rintro _ _ ⟨rfl, z5, rfl, fz5⟩
              rcases fz5 with fz5 | fz5
              ·
                refine hxj_zne (by rfl) rfl (fun q6 => ?_) (fun q6 => False.elim (by omega))
                refine hxa_iconst (by rfl) rfl ?_
                refine hxa_goto (by rfl) ?_
                refine hxa_s1 (by rfl) (Or.inl ⟨_, rfl, rfl⟩) rfl ?_
                refine hxa_iload_n (by rfl) rfl ?_
                refine hxj_zne (by rfl) hk_1 (fun q7 => ?_) (fun q7 => False.elim (by omega))
                refine hxa_aload_n (by rfl) rfl ?_
                refine hxa_aload_n (by rfl) rfl ?_
                refine hxa_bipush (by rfl) rfl ?_
                refine hxa_call0 (by rfl) (by rfl) (by rfl) (by rfl) (by rfl) (by rfl) (hX144q4 (d := d + 2) hAc96 (Int32.ofNat 10)) ?_
                rintro _ _ ⟨rfl, z8, rfl, fz8⟩
                rcases fz8 with fz8 | fz8
                ·
                  refine hxj_zne (by rfl) rfl (fun q9 => ?_) (fun q9 => False.elim (by omega))
                  refine hxa_iconst (by rfl) rfl ?_
                  refine hxa_goto (by rfl) ?_
                  refine hxa_call0 (by rfl) (by rfl) (by rfl) (by rfl) (by rfl) (by rfl) (hX160q4 (d := d + 1) hAc96 hq_4 hl (Int32.ofNat 1) (by omega) (by omega)) ?_
                  rintro _ A10 ⟨hA10, frA10_0, frA10_1, frA10_2, frA10_3, frA10_4, frA10_5, rfl, fA10⟩
                  have ttA10_12 : (A10.1 367 12).toInt = w96_1.toInt := congrArg Int32.toInt (frA10_0.trans ek96_1)
                  have ttA10_19 : (A10.1 367 19).toInt = (A.1 367 19).toInt := congrArg Int32.toInt (frA10_1.trans ek96_3)
                  have ttA10_20 : (A10.1 367 20).toInt = (A.1 367 20).toInt := congrArg Int32.toInt (frA10_2.trans ek96_4)
                  have ttA10_31 : (A10.1 367 31).toInt = (A.1 367 31).toInt := congrArg Int32.toInt (frA10_3.trans ek96_5)
                  have ttA10_11 : (A10.1 367 11).toInt = w96_0.toInt := congrArg Int32.toInt (frA10_4.trans ek96_0)
                  have ttA10_13 : (A10.1 367 13).toInt = w96_2.toInt := congrArg Int32.toInt (frA10_5.trans ek96_2)
                  have fbA10_367_37 := hA10.f (i := 367) (k := 37) (by rfl)
                  have fbA10_367_41 := hA10.f (i := 367) (k := 41) (by rfl)
                  obtain ⟨g2_11, hq2_11, h21_11, h20_11, hk2_11, h92_11, hc2_11⟩ := fA10
                  have hw2_11 := hq2_11.w
                  have hkz_11 := u96_1.trans hk2_11 (by omega)
                  have cz_11 := hQ.cb hq2_11 (hA10.f (i := 367) (k := 11) (by rfl)).2
                  refine hxa_aload_n (by rfl) rfl ?_
                  refine hxa_get (v := .ref 393) (by rfl) (by rfl) (by rfl) rfl ?_
                  refine hxa_aload_n (by rfl) rfl ?_
                  refine hxj_getK (by rfl) (by rfl) (by rfl) rfl ?_
                  refine hxa_aload_n (by rfl) rfl ?_
                  refine hxa_get (v := .ref 371) (by rfl) (by rfl) (by rfl) rfl ?_
                  refine hxa_aload_n (by rfl) rfl ?_
                  refine hxj_getK (by rfl) (by rfl) (by rfl) (frA10_4.trans ek96_0) ?_
                  refine hxj_iald (by rfl) (by rfl) rfl (by omega) (by omega) (fun z12 ez12 => ?_)
                  have kzz12 : z12.toInt = (Ac96.2.1 370 (Ac96.1 367 11).toNatClampNeg).toInt := by rw [← ez12, hk2_11.1 370 (by decide) (by decide) (by decide), (show Ac96.1 367 11 = w96_0 from ek96_0)]
                  refine hxj_iast (by rfl) (by rfl) rfl (by omega) (by omega) hA10 (hbokN (by rfl)) (by rfl) (by rfl) (fun A13 hA13 eA13 fA13 gA13 => ?_)
                  refine hxa_aload_n (by rfl) rfl ?_
                  refine hxa_dupR (by rfl) ?_
                  refine hxj_getK (by rfl) (by rfl) (by rfl) (hkA eA13 rfl) ?_
                  refine hxa_iconst (by rfl) rfl ?_
                  refine hxj_iadd (by rfl) rfl hk_1 (by omega) (by omega) (fun z14 ez14 => ?_)
                  refine hxj_putI (by rfl) (by rfl) (by rfl) (by rfl) hA13 (hbok (by rfl) rfl (by omega) (by omega)) (by rfl) (by rfl) (fun A15 hA15 eA15 fA15 => ?_)
                  refine hxa_aload_n (by rfl) rfl ?_
                  have nA15_11 : (A15.1 367 11).toInt = w96_0.toInt := congrArg Int32.toInt (hkF eA15 (by omega) (hkA eA13 (frA10_4.trans ek96_0)))
                  have nA15_12 : (A15.1 367 12).toInt = w96_1.toInt := congrArg Int32.toInt (hkF eA15 (by omega) (hkA eA13 (frA10_0.trans ek96_1)))
                  have nA15_13 : (A15.1 367 13).toInt = w96_2.toInt := congrArg Int32.toInt (hkF eA15 (by omega) (hkA eA13 (frA10_5.trans ek96_2)))
                  have nA15_37 : (A15.1 367 37).toInt = (A10.1 367 37).toInt := congrArg Int32.toInt (hkF eA15 (by omega) (hkA eA13 rfl))
                  have nA15_41 : (A15.1 367 41).toInt = z14.toInt := congrArg Int32.toInt (hkS eA15)
                  refine hxa_call0 (by rfl) (by rfl) (by rfl) (by rfl) (by rfl) (by rfl) (hX147q4 (d := d + 1) hA15 ) ?_
                  rintro _ A16 ⟨hA16, frA16_0, frA16_1, frA16_2, frA16_3, frA16_4, frA16_5, aeA16, rfl, fA16⟩
                  have ttA16_12 : (A16.1 367 12).toInt = w96_1.toInt := congrArg Int32.toInt (frA16_0.trans (hkF eA15 (by omega) (hkA eA13 (frA10_0.trans ek96_1))))
                  have ttA16_19 : (A16.1 367 19).toInt = (A.1 367 19).toInt := congrArg Int32.toInt (frA16_1.trans (hkF eA15 (by omega) (hkA eA13 (frA10_1.trans ek96_3))))
                  have ttA16_20 : (A16.1 367 20).toInt = (A.1 367 20).toInt := congrArg Int32.toInt (frA16_2.trans (hkF eA15 (by omega) (hkA eA13 (frA10_2.trans ek96_4))))
                  have ttA16_31 : (A16.1 367 31).toInt = (A.1 367 31).toInt := congrArg Int32.toInt (frA16_3.trans (hkF eA15 (by omega) (hkA eA13 (frA10_3.trans ek96_5))))
                  have ttA16_37 : (A16.1 367 37).toInt = (A10.1 367 37).toInt := congrArg Int32.toInt (frA16_4.trans (hkF eA15 (by omega) (hkA eA13 rfl)))
                  have ttA16_41 : (A16.1 367 41).toInt = z14.toInt := congrArg Int32.toInt (frA16_5.trans (hkS eA15))
                  have fbA16_367_11 := hA16.f (i := 367) (k := 11) (by rfl)
                  have fbA16_367_13 := hA16.f (i := 367) (k := 13) (by rfl)
                  have nA16_12 : (A16.1 367 12).toInt = w96_1.toInt := congrArg Int32.toInt (frA16_0.trans (hkF eA15 (by omega) (hkA eA13 (frA10_0.trans ek96_1))))
                  have nA16_37 : (A16.1 367 37).toInt = (A10.1 367 37).toInt := congrArg Int32.toInt (frA16_4.trans (hkF eA15 (by omega) (hkA eA13 rfl)))
                  have nA16_41 : (A16.1 367 41).toInt = z14.toInt := congrArg Int32.toInt (frA16_5.trans (hkS eA15))
                  have aj17 : A16.2.1 = hs_up A10.2.1 392 (A10.1 367 41).toNatClampNeg z12 := by rw [aeA16, (show A15.2.1 = A13.2.1 from congrArg Prod.fst fA15), fA13]
                  have j17 : ¬ (A16.1 367 13).toInt = 0 ∨ ((A.1 367 13).toInt = 0 ∧ (A16.1 367 37).toInt ≤ 0 + (A16.1 367 11).toInt ∧ ∃ o g : Nat, hQ 0 (A.1 367 37).toInt o g 0 A16 ∧ (o : Int) = (A16.1 367 12).toInt - x12_1.toInt ∧ (A16.1 367 12).toInt ≤ 6) := by
                    by_cases h9 : (A16.1 367 13).toInt = 0
                    · obtain ⟨g5, hq5⟩ : ∃ g5, hQ 0 (A.1 367 37).toInt o_4 g5 0 A16 := by
                        rcases (show g2_11 = 0 ∨ g2_11 = 1 by omega) with e0 | e0
                        · subst e0
                          exact ⟨2, hQ.push hq2_11 (j := (A10.1 367 41)) rfl aj17 (by omega) (by omega) (by omega) (by omega)⟩
                        · subst e0
                          exact ⟨3, hQ.push hq2_11 (j := (A10.1 367 41)) rfl aj17 (by omega) (by omega) (by omega) (by omega)⟩
                      exact Or.inr ⟨by omega, by omega, _, g5, hq5, by omega, by omega⟩
                    · exact Or.inl h9
                  refine hxa_goto (by rfl) ?_
                  exact ih12 (A16.1 367 11) w96_1 (A16.1 367 13) (A10.1 367 37) z14 x12_1 (Int32.ofNat 1) A16 hA16 rfl (frA16_0.trans (hkF eA15 (by omega) (hkA eA13 (frA10_0.trans ek96_1)))) rfl (frA16_1.trans (hkF eA15 (by omega) (hkA eA13 (frA10_1.trans ek96_3)))) (frA16_2.trans (hkF eA15 (by omega) (hkA eA13 (frA10_2.trans ek96_4)))) (frA16_3.trans (hkF eA15 (by omega) (hkA eA13 (frA10_3.trans ek96_5)))) (frA16_4.trans (hkF eA15 (by omega) (hkA eA13 rfl))) (frA16_5.trans (hkS eA15)) (by omega) (by omega) (by omega) (by omega) (by omega) (by omega) (by omega) (by omega) (by omega) (by omega) (by omega) (by omega) (by exact j17) (by exact (hkz_11.trans (hK.w aj17) (Nat.le_refl _))) (by omega) (by omega)
                ·
                  refine hxj_zne (by rfl) rfl (fun q18 => False.elim (by omega)) (fun q18 => ?_)
                  refine hxa_aload_n (by rfl) rfl ?_
                  refine hxa_bipush (by rfl) rfl ?_
                  refine hxa_call0 (by rfl) (by rfl) (by rfl) (by rfl) (by rfl) (by rfl) (hX144q4 (d := d + 2) hAc96 (Int32.ofNat 15)) ?_
                  rintro _ _ ⟨rfl, z19, rfl, fz19⟩
                  rcases fz19 with fz19 | fz19
                  ·
                    refine hxj_zeq (by rfl) rfl (fun q20 => False.elim (by omega)) (fun q20 => ?_)
                    refine hxa_iconst (by rfl) rfl ?_
                    refine hxa_goto (by rfl) ?_
                    refine hxa_call0 (by rfl) (by rfl) (by rfl) (by rfl) (by rfl) (by rfl) (hX160q4 (d := d + 1) hAc96 hq_4 hl (Int32.ofNat 1) (by omega) (by omega)) ?_
                    rintro _ A21 ⟨hA21, frA21_0, frA21_1, frA21_2, frA21_3, frA21_4, frA21_5, rfl, fA21⟩
                    have ttA21_12 : (A21.1 367 12).toInt = w96_1.toInt := congrArg Int32.toInt (frA21_0.trans ek96_1)
                    have ttA21_19 : (A21.1 367 19).toInt = (A.1 367 19).toInt := congrArg Int32.toInt (frA21_1.trans ek96_3)
                    have ttA21_20 : (A21.1 367 20).toInt = (A.1 367 20).toInt := congrArg Int32.toInt (frA21_2.trans ek96_4)
                    have ttA21_31 : (A21.1 367 31).toInt = (A.1 367 31).toInt := congrArg Int32.toInt (frA21_3.trans ek96_5)
                    have ttA21_11 : (A21.1 367 11).toInt = w96_0.toInt := congrArg Int32.toInt (frA21_4.trans ek96_0)
                    have ttA21_13 : (A21.1 367 13).toInt = w96_2.toInt := congrArg Int32.toInt (frA21_5.trans ek96_2)
                    have fbA21_367_37 := hA21.f (i := 367) (k := 37) (by rfl)
                    have fbA21_367_41 := hA21.f (i := 367) (k := 41) (by rfl)
                    obtain ⟨g2_22, hq2_22, h21_22, h20_22, hk2_22, h92_22, hc2_22⟩ := fA21
                    have hw2_22 := hq2_22.w
                    have hkz_22 := u96_1.trans hk2_22 (by omega)
                    have cz_22 := hQ.cb hq2_22 (hA21.f (i := 367) (k := 11) (by rfl)).2
                    refine hxa_aload_n (by rfl) rfl ?_
                    refine hxa_get (v := .ref 393) (by rfl) (by rfl) (by rfl) rfl ?_
                    refine hxa_aload_n (by rfl) rfl ?_
                    refine hxj_getK (by rfl) (by rfl) (by rfl) rfl ?_
                    refine hxa_aload_n (by rfl) rfl ?_
                    refine hxa_get (v := .ref 371) (by rfl) (by rfl) (by rfl) rfl ?_
                    refine hxa_aload_n (by rfl) rfl ?_
                    refine hxj_getK (by rfl) (by rfl) (by rfl) (frA21_4.trans ek96_0) ?_
                    refine hxj_iald (by rfl) (by rfl) rfl (by omega) (by omega) (fun z23 ez23 => ?_)
                    have kzz23 : z23.toInt = (Ac96.2.1 370 (Ac96.1 367 11).toNatClampNeg).toInt := by rw [← ez23, hk2_22.1 370 (by decide) (by decide) (by decide), (show Ac96.1 367 11 = w96_0 from ek96_0)]
                    refine hxj_iast (by rfl) (by rfl) rfl (by omega) (by omega) hA21 (hbokN (by rfl)) (by rfl) (by rfl) (fun A24 hA24 eA24 fA24 gA24 => ?_)
                    refine hxa_aload_n (by rfl) rfl ?_
                    refine hxa_dupR (by rfl) ?_
                    refine hxj_getK (by rfl) (by rfl) (by rfl) (hkA eA24 rfl) ?_
                    refine hxa_iconst (by rfl) rfl ?_
                    refine hxj_iadd (by rfl) rfl hk_1 (by omega) (by omega) (fun z25 ez25 => ?_)
                    refine hxj_putI (by rfl) (by rfl) (by rfl) (by rfl) hA24 (hbok (by rfl) rfl (by omega) (by omega)) (by rfl) (by rfl) (fun A26 hA26 eA26 fA26 => ?_)
                    refine hxa_aload_n (by rfl) rfl ?_
                    have nA26_11 : (A26.1 367 11).toInt = w96_0.toInt := congrArg Int32.toInt (hkF eA26 (by omega) (hkA eA24 (frA21_4.trans ek96_0)))
                    have nA26_12 : (A26.1 367 12).toInt = w96_1.toInt := congrArg Int32.toInt (hkF eA26 (by omega) (hkA eA24 (frA21_0.trans ek96_1)))
                    have nA26_13 : (A26.1 367 13).toInt = w96_2.toInt := congrArg Int32.toInt (hkF eA26 (by omega) (hkA eA24 (frA21_5.trans ek96_2)))
                    have nA26_37 : (A26.1 367 37).toInt = (A21.1 367 37).toInt := congrArg Int32.toInt (hkF eA26 (by omega) (hkA eA24 rfl))
                    have nA26_41 : (A26.1 367 41).toInt = z25.toInt := congrArg Int32.toInt (hkS eA26)
                    refine hxa_call0 (by rfl) (by rfl) (by rfl) (by rfl) (by rfl) (by rfl) (hX147q4 (d := d + 1) hA26 ) ?_
                    rintro _ A27 ⟨hA27, frA27_0, frA27_1, frA27_2, frA27_3, frA27_4, frA27_5, aeA27, rfl, fA27⟩
                    have ttA27_12 : (A27.1 367 12).toInt = w96_1.toInt := congrArg Int32.toInt (frA27_0.trans (hkF eA26 (by omega) (hkA eA24 (frA21_0.trans ek96_1))))
                    have ttA27_19 : (A27.1 367 19).toInt = (A.1 367 19).toInt := congrArg Int32.toInt (frA27_1.trans (hkF eA26 (by omega) (hkA eA24 (frA21_1.trans ek96_3))))
                    have ttA27_20 : (A27.1 367 20).toInt = (A.1 367 20).toInt := congrArg Int32.toInt (frA27_2.trans (hkF eA26 (by omega) (hkA eA24 (frA21_2.trans ek96_4))))
                    have ttA27_31 : (A27.1 367 31).toInt = (A.1 367 31).toInt := congrArg Int32.toInt (frA27_3.trans (hkF eA26 (by omega) (hkA eA24 (frA21_3.trans ek96_5))))
                    have ttA27_37 : (A27.1 367 37).toInt = (A21.1 367 37).toInt := congrArg Int32.toInt (frA27_4.trans (hkF eA26 (by omega) (hkA eA24 rfl)))
                    have ttA27_41 : (A27.1 367 41).toInt = z25.toInt := congrArg Int32.toInt (frA27_5.trans (hkS eA26))
                    have fbA27_367_11 := hA27.f (i := 367) (k := 11) (by rfl)
                    have fbA27_367_13 := hA27.f (i := 367) (k := 13) (by rfl)
                    have nA27_12 : (A27.1 367 12).toInt = w96_1.toInt := congrArg Int32.toInt (frA27_0.trans (hkF eA26 (by omega) (hkA eA24 (frA21_0.trans ek96_1))))
                    have nA27_37 : (A27.1 367 37).toInt = (A21.1 367 37).toInt := congrArg Int32.toInt (frA27_4.trans (hkF eA26 (by omega) (hkA eA24 rfl)))
                    have nA27_41 : (A27.1 367 41).toInt = z25.toInt := congrArg Int32.toInt (frA27_5.trans (hkS eA26))
                    have aj28 : A27.2.1 = hs_up A21.2.1 392 (A21.1 367 41).toNatClampNeg z23 := by rw [aeA27, (show A26.2.1 = A24.2.1 from congrArg Prod.fst fA26), fA24]
                    have j28 : ¬ (A27.1 367 13).toInt = 0 ∨ ((A.1 367 13).toInt = 0 ∧ (A27.1 367 37).toInt ≤ 0 + (A27.1 367 11).toInt ∧ ∃ o g : Nat, hQ 0 (A.1 367 37).toInt o g 0 A27 ∧ (o : Int) = (A27.1 367 12).toInt - x12_1.toInt ∧ (A27.1 367 12).toInt ≤ 6) := by
                      by_cases h9 : (A27.1 367 13).toInt = 0
                      · obtain ⟨g5, hq5⟩ : ∃ g5, hQ 0 (A.1 367 37).toInt o_4 g5 0 A27 := by
                          rcases (show g2_22 = 0 ∨ g2_22 = 1 by omega) with e0 | e0
                          · subst e0
                            exact ⟨2, hQ.push hq2_22 (j := (A21.1 367 41)) rfl aj28 (by omega) (by omega) (by omega) (by omega)⟩
                          · subst e0
                            exact ⟨3, hQ.push hq2_22 (j := (A21.1 367 41)) rfl aj28 (by omega) (by omega) (by omega) (by omega)⟩
                        exact Or.inr ⟨by omega, by omega, _, g5, hq5, by omega, by omega⟩
                      · exact Or.inl h9
                    refine hxa_goto (by rfl) ?_
                    exact ih12 (A27.1 367 11) w96_1 (A27.1 367 13) (A21.1 367 37) z25 x12_1 (Int32.ofNat 1) A27 hA27 rfl (frA27_0.trans (hkF eA26 (by omega) (hkA eA24 (frA21_0.trans ek96_1)))) rfl (frA27_1.trans (hkF eA26 (by omega) (hkA eA24 (frA21_1.trans ek96_3)))) (frA27_2.trans (hkF eA26 (by omega) (hkA eA24 (frA21_2.trans ek96_4)))) (frA27_3.trans (hkF eA26 (by omega) (hkA eA24 (frA21_3.trans ek96_5)))) (frA27_4.trans (hkF eA26 (by omega) (hkA eA24 rfl))) (frA27_5.trans (hkS eA26)) (by omega) (by omega) (by omega) (by omega) (by omega) (by omega) (by omega) (by omega) (by omega) (by omega) (by omega) (by omega) (by exact j28) (by exact (hkz_22.trans (hK.w aj28) (Nat.le_refl _))) (by omega) (by omega)
                  ·
                    refine hxj_zeq (by rfl) rfl (fun q29 => ?_) (fun q29 => False.elim (by omega))
                    refine hxa_iconst (by rfl) rfl ?_
                    refine hxa_call0 (by rfl) (by rfl) (by rfl) (by rfl) (by rfl) (by rfl) (hX160q4 (d := d + 1) hAc96 hq_4 hl (Int32.ofNat 0) (by omega) (by omega)) ?_
                    rintro _ A30 ⟨hA30, frA30_0, frA30_1, frA30_2, frA30_3, frA30_4, frA30_5, rfl, fA30⟩
                    have ttA30_12 : (A30.1 367 12).toInt = w96_1.toInt := congrArg Int32.toInt (frA30_0.trans ek96_1)
                    have ttA30_19 : (A30.1 367 19).toInt = (A.1 367 19).toInt := congrArg Int32.toInt (frA30_1.trans ek96_3)
                    have ttA30_20 : (A30.1 367 20).toInt = (A.1 367 20).toInt := congrArg Int32.toInt (frA30_2.trans ek96_4)
                    have ttA30_31 : (A30.1 367 31).toInt = (A.1 367 31).toInt := congrArg Int32.toInt (frA30_3.trans ek96_5)
                    have ttA30_11 : (A30.1 367 11).toInt = w96_0.toInt := congrArg Int32.toInt (frA30_4.trans ek96_0)
                    have ttA30_13 : (A30.1 367 13).toInt = w96_2.toInt := congrArg Int32.toInt (frA30_5.trans ek96_2)
                    have fbA30_367_37 := hA30.f (i := 367) (k := 37) (by rfl)
                    have fbA30_367_41 := hA30.f (i := 367) (k := 41) (by rfl)
                    obtain ⟨g2_31, hq2_31, h21_31, h20_31, hk2_31, h92_31, hc2_31⟩ := fA30
                    have hw2_31 := hq2_31.w
                    have hkz_31 := u96_1.trans hk2_31 (by omega)
                    have cz_31 := hQ.cb hq2_31 (hA30.f (i := 367) (k := 11) (by rfl)).2
                    refine hxa_aload_n (by rfl) rfl ?_
                    refine hxa_get (v := .ref 393) (by rfl) (by rfl) (by rfl) rfl ?_
                    refine hxa_aload_n (by rfl) rfl ?_
                    refine hxj_getK (by rfl) (by rfl) (by rfl) rfl ?_
                    refine hxa_aload_n (by rfl) rfl ?_
                    refine hxa_get (v := .ref 371) (by rfl) (by rfl) (by rfl) rfl ?_
                    refine hxa_aload_n (by rfl) rfl ?_
                    refine hxj_getK (by rfl) (by rfl) (by rfl) (frA30_4.trans ek96_0) ?_
                    refine hxj_iald (by rfl) (by rfl) rfl (by omega) (by omega) (fun z32 ez32 => ?_)
                    have kzz32 : z32.toInt = (Ac96.2.1 370 (Ac96.1 367 11).toNatClampNeg).toInt := by rw [← ez32, hk2_31.1 370 (by decide) (by decide) (by decide), (show Ac96.1 367 11 = w96_0 from ek96_0)]
                    refine hxj_iast (by rfl) (by rfl) rfl (by omega) (by omega) hA30 (hbokN (by rfl)) (by rfl) (by rfl) (fun A33 hA33 eA33 fA33 gA33 => ?_)
                    refine hxa_aload_n (by rfl) rfl ?_
                    refine hxa_dupR (by rfl) ?_
                    refine hxj_getK (by rfl) (by rfl) (by rfl) (hkA eA33 rfl) ?_
                    refine hxa_iconst (by rfl) rfl ?_
                    refine hxj_iadd (by rfl) rfl hk_1 (by omega) (by omega) (fun z34 ez34 => ?_)
                    refine hxj_putI (by rfl) (by rfl) (by rfl) (by rfl) hA33 (hbok (by rfl) rfl (by omega) (by omega)) (by rfl) (by rfl) (fun A35 hA35 eA35 fA35 => ?_)
                    refine hxa_aload_n (by rfl) rfl ?_
                    have nA35_11 : (A35.1 367 11).toInt = w96_0.toInt := congrArg Int32.toInt (hkF eA35 (by omega) (hkA eA33 (frA30_4.trans ek96_0)))
                    have nA35_12 : (A35.1 367 12).toInt = w96_1.toInt := congrArg Int32.toInt (hkF eA35 (by omega) (hkA eA33 (frA30_0.trans ek96_1)))
                    have nA35_13 : (A35.1 367 13).toInt = w96_2.toInt := congrArg Int32.toInt (hkF eA35 (by omega) (hkA eA33 (frA30_5.trans ek96_2)))
                    have nA35_37 : (A35.1 367 37).toInt = (A30.1 367 37).toInt := congrArg Int32.toInt (hkF eA35 (by omega) (hkA eA33 rfl))
                    have nA35_41 : (A35.1 367 41).toInt = z34.toInt := congrArg Int32.toInt (hkS eA35)
                    refine hxa_call0 (by rfl) (by rfl) (by rfl) (by rfl) (by rfl) (by rfl) (hX147q4 (d := d + 1) hA35 ) ?_
                    rintro _ A36 ⟨hA36, frA36_0, frA36_1, frA36_2, frA36_3, frA36_4, frA36_5, aeA36, rfl, fA36⟩
                    have ttA36_12 : (A36.1 367 12).toInt = w96_1.toInt := congrArg Int32.toInt (frA36_0.trans (hkF eA35 (by omega) (hkA eA33 (frA30_0.trans ek96_1))))
                    have ttA36_19 : (A36.1 367 19).toInt = (A.1 367 19).toInt := congrArg Int32.toInt (frA36_1.trans (hkF eA35 (by omega) (hkA eA33 (frA30_1.trans ek96_3))))
                    have ttA36_20 : (A36.1 367 20).toInt = (A.1 367 20).toInt := congrArg Int32.toInt (frA36_2.trans (hkF eA35 (by omega) (hkA eA33 (frA30_2.trans ek96_4))))
                    have ttA36_31 : (A36.1 367 31).toInt = (A.1 367 31).toInt := congrArg Int32.toInt (frA36_3.trans (hkF eA35 (by omega) (hkA eA33 (frA30_3.trans ek96_5))))
                    have ttA36_37 : (A36.1 367 37).toInt = (A30.1 367 37).toInt := congrArg Int32.toInt (frA36_4.trans (hkF eA35 (by omega) (hkA eA33 rfl)))
                    have ttA36_41 : (A36.1 367 41).toInt = z34.toInt := congrArg Int32.toInt (frA36_5.trans (hkS eA35))
                    have fbA36_367_11 := hA36.f (i := 367) (k := 11) (by rfl)
                    have fbA36_367_13 := hA36.f (i := 367) (k := 13) (by rfl)
                    have nA36_12 : (A36.1 367 12).toInt = w96_1.toInt := congrArg Int32.toInt (frA36_0.trans (hkF eA35 (by omega) (hkA eA33 (frA30_0.trans ek96_1))))
                    have nA36_37 : (A36.1 367 37).toInt = (A30.1 367 37).toInt := congrArg Int32.toInt (frA36_4.trans (hkF eA35 (by omega) (hkA eA33 rfl)))
                    have nA36_41 : (A36.1 367 41).toInt = z34.toInt := congrArg Int32.toInt (frA36_5.trans (hkS eA35))
                    have aj37 : A36.2.1 = hs_up A30.2.1 392 (A30.1 367 41).toNatClampNeg z32 := by rw [aeA36, (show A35.2.1 = A33.2.1 from congrArg Prod.fst fA35), fA33]
                    have j37 : ¬ (A36.1 367 13).toInt = 0 ∨ ((A.1 367 13).toInt = 0 ∧ (A36.1 367 37).toInt ≤ 0 + (A36.1 367 11).toInt ∧ ∃ o g : Nat, hQ 0 (A.1 367 37).toInt o g 0 A36 ∧ (o : Int) = (A36.1 367 12).toInt - x12_1.toInt ∧ (A36.1 367 12).toInt ≤ 6) := by
                      by_cases h9 : (A36.1 367 13).toInt = 0
                      · obtain ⟨g5, hq5⟩ : ∃ g5, hQ 0 (A.1 367 37).toInt o_4 g5 0 A36 := by
                          have e0 := h20_31 (by omega)
                          subst e0
                          exact ⟨1, hQ.push hq2_31 (j := (A30.1 367 41)) rfl aj37 (by omega) (by omega) (by omega) (by omega)⟩
                        exact Or.inr ⟨by omega, by omega, _, g5, hq5, by omega, by omega⟩
                      · exact Or.inl h9
                    refine hxa_goto (by rfl) ?_
                    exact ih12 (A36.1 367 11) w96_1 (A36.1 367 13) (A30.1 367 37) z34 x12_1 (Int32.ofNat 1) A36 hA36 rfl (frA36_0.trans (hkF eA35 (by omega) (hkA eA33 (frA30_0.trans ek96_1)))) rfl (frA36_1.trans (hkF eA35 (by omega) (hkA eA33 (frA30_1.trans ek96_3)))) (frA36_2.trans (hkF eA35 (by omega) (hkA eA33 (frA30_2.trans ek96_4)))) (frA36_3.trans (hkF eA35 (by omega) (hkA eA33 (frA30_3.trans ek96_5)))) (frA36_4.trans (hkF eA35 (by omega) (hkA eA33 rfl))) (frA36_5.trans (hkS eA35)) (by omega) (by omega) (by omega) (by omega) (by omega) (by omega) (by omega) (by omega) (by omega) (by omega) (by omega) (by omega) (by exact j37) (by exact (hkz_31.trans (hK.w aj37) (Nat.le_refl _))) (by omega) (by omega)
              ·
                refine hxj_zne (by rfl) rfl (fun q38 => False.elim (by omega)) (fun q38 => ?_)
                refine hxa_aload_n (by rfl) rfl ?_
                refine hxa_bipush (by rfl) rfl ?_
                refine hxa_call0 (by rfl) (by rfl) (by rfl) (by rfl) (by rfl) (by rfl) (hX144q4 (d := d + 2) hAc96 (Int32.ofNat 9)) ?_
                rintro _ _ ⟨rfl, z39, rfl, fz39⟩
                rcases fz39 with fz39 | fz39
                ·
                  refine hxj_zne (by rfl) rfl (fun q40 => ?_) (fun q40 => False.elim (by omega))
                  refine hxa_iconst (by rfl) rfl ?_
                  refine hxa_goto (by rfl) ?_
                  refine hxa_s1 (by rfl) (Or.inl ⟨_, rfl, rfl⟩) rfl ?_
                  refine hxa_iload_n (by rfl) rfl ?_
                  refine hxj_zne (by rfl) hk_1 (fun q41 => ?_) (fun q41 => False.elim (by omega))
                  refine hxa_aload_n (by rfl) rfl ?_
                  refine hxa_aload_n (by rfl) rfl ?_
                  refine hxa_bipush (by rfl) rfl ?_
                  refine hxa_call0 (by rfl) (by rfl) (by rfl) (by rfl) (by rfl) (by rfl) (hX144q4 (d := d + 2) hAc96 (Int32.ofNat 10)) ?_
                  rintro _ _ ⟨rfl, z42, rfl, fz42⟩
                  rcases fz42 with fz42 | fz42
                  ·
                    refine hxj_zne (by rfl) rfl (fun q43 => ?_) (fun q43 => False.elim (by omega))
                    refine hxa_iconst (by rfl) rfl ?_
                    refine hxa_goto (by rfl) ?_
                    refine hxa_call0 (by rfl) (by rfl) (by rfl) (by rfl) (by rfl) (by rfl) (hX160q4 (d := d + 1) hAc96 hq_4 hl (Int32.ofNat 1) (by omega) (by omega)) ?_
                    rintro _ A44 ⟨hA44, frA44_0, frA44_1, frA44_2, frA44_3, frA44_4, frA44_5, rfl, fA44⟩
                    have ttA44_12 : (A44.1 367 12).toInt = w96_1.toInt := congrArg Int32.toInt (frA44_0.trans ek96_1)
                    have ttA44_19 : (A44.1 367 19).toInt = (A.1 367 19).toInt := congrArg Int32.toInt (frA44_1.trans ek96_3)
                    have ttA44_20 : (A44.1 367 20).toInt = (A.1 367 20).toInt := congrArg Int32.toInt (frA44_2.trans ek96_4)
                    have ttA44_31 : (A44.1 367 31).toInt = (A.1 367 31).toInt := congrArg Int32.toInt (frA44_3.trans ek96_5)
                    have ttA44_11 : (A44.1 367 11).toInt = w96_0.toInt := congrArg Int32.toInt (frA44_4.trans ek96_0)
                    have ttA44_13 : (A44.1 367 13).toInt = w96_2.toInt := congrArg Int32.toInt (frA44_5.trans ek96_2)
                    have fbA44_367_37 := hA44.f (i := 367) (k := 37) (by rfl)
                    have fbA44_367_41 := hA44.f (i := 367) (k := 41) (by rfl)
                    obtain ⟨g2_45, hq2_45, h21_45, h20_45, hk2_45, h92_45, hc2_45⟩ := fA44
                    have hw2_45 := hq2_45.w
                    have hkz_45 := u96_1.trans hk2_45 (by omega)
                    have cz_45 := hQ.cb hq2_45 (hA44.f (i := 367) (k := 11) (by rfl)).2
                    refine hxa_aload_n (by rfl) rfl ?_
                    refine hxa_get (v := .ref 393) (by rfl) (by rfl) (by rfl) rfl ?_
                    refine hxa_aload_n (by rfl) rfl ?_
                    refine hxj_getK (by rfl) (by rfl) (by rfl) rfl ?_
                    refine hxa_aload_n (by rfl) rfl ?_
                    refine hxa_get (v := .ref 371) (by rfl) (by rfl) (by rfl) rfl ?_
                    refine hxa_aload_n (by rfl) rfl ?_
                    refine hxj_getK (by rfl) (by rfl) (by rfl) (frA44_4.trans ek96_0) ?_
                    refine hxj_iald (by rfl) (by rfl) rfl (by omega) (by omega) (fun z46 ez46 => ?_)
                    have kzz46 : z46.toInt = (Ac96.2.1 370 (Ac96.1 367 11).toNatClampNeg).toInt := by rw [← ez46, hk2_45.1 370 (by decide) (by decide) (by decide), (show Ac96.1 367 11 = w96_0 from ek96_0)]
                    refine hxj_iast (by rfl) (by rfl) rfl (by omega) (by omega) hA44 (hbokN (by rfl)) (by rfl) (by rfl) (fun A47 hA47 eA47 fA47 gA47 => ?_)
                    refine hxa_aload_n (by rfl) rfl ?_
                    refine hxa_dupR (by rfl) ?_
                    refine hxj_getK (by rfl) (by rfl) (by rfl) (hkA eA47 rfl) ?_
                    refine hxa_iconst (by rfl) rfl ?_
                    refine hxj_iadd (by rfl) rfl hk_1 (by omega) (by omega) (fun z48 ez48 => ?_)
                    refine hxj_putI (by rfl) (by rfl) (by rfl) (by rfl) hA47 (hbok (by rfl) rfl (by omega) (by omega)) (by rfl) (by rfl) (fun A49 hA49 eA49 fA49 => ?_)
                    refine hxa_aload_n (by rfl) rfl ?_
                    have nA49_11 : (A49.1 367 11).toInt = w96_0.toInt := congrArg Int32.toInt (hkF eA49 (by omega) (hkA eA47 (frA44_4.trans ek96_0)))
                    have nA49_12 : (A49.1 367 12).toInt = w96_1.toInt := congrArg Int32.toInt (hkF eA49 (by omega) (hkA eA47 (frA44_0.trans ek96_1)))
                    have nA49_13 : (A49.1 367 13).toInt = w96_2.toInt := congrArg Int32.toInt (hkF eA49 (by omega) (hkA eA47 (frA44_5.trans ek96_2)))
                    have nA49_37 : (A49.1 367 37).toInt = (A44.1 367 37).toInt := congrArg Int32.toInt (hkF eA49 (by omega) (hkA eA47 rfl))
                    have nA49_41 : (A49.1 367 41).toInt = z48.toInt := congrArg Int32.toInt (hkS eA49)
                    refine hxa_call0 (by rfl) (by rfl) (by rfl) (by rfl) (by rfl) (by rfl) (hX147q4 (d := d + 1) hA49 ) ?_
                    rintro _ A50 ⟨hA50, frA50_0, frA50_1, frA50_2, frA50_3, frA50_4, frA50_5, aeA50, rfl, fA50⟩
                    have ttA50_12 : (A50.1 367 12).toInt = w96_1.toInt := congrArg Int32.toInt (frA50_0.trans (hkF eA49 (by omega) (hkA eA47 (frA44_0.trans ek96_1))))
                    have ttA50_19 : (A50.1 367 19).toInt = (A.1 367 19).toInt := congrArg Int32.toInt (frA50_1.trans (hkF eA49 (by omega) (hkA eA47 (frA44_1.trans ek96_3))))
                    have ttA50_20 : (A50.1 367 20).toInt = (A.1 367 20).toInt := congrArg Int32.toInt (frA50_2.trans (hkF eA49 (by omega) (hkA eA47 (frA44_2.trans ek96_4))))
                    have ttA50_31 : (A50.1 367 31).toInt = (A.1 367 31).toInt := congrArg Int32.toInt (frA50_3.trans (hkF eA49 (by omega) (hkA eA47 (frA44_3.trans ek96_5))))
                    have ttA50_37 : (A50.1 367 37).toInt = (A44.1 367 37).toInt := congrArg Int32.toInt (frA50_4.trans (hkF eA49 (by omega) (hkA eA47 rfl)))
                    have ttA50_41 : (A50.1 367 41).toInt = z48.toInt := congrArg Int32.toInt (frA50_5.trans (hkS eA49))
                    have fbA50_367_11 := hA50.f (i := 367) (k := 11) (by rfl)
                    have fbA50_367_13 := hA50.f (i := 367) (k := 13) (by rfl)
                    have nA50_12 : (A50.1 367 12).toInt = w96_1.toInt := congrArg Int32.toInt (frA50_0.trans (hkF eA49 (by omega) (hkA eA47 (frA44_0.trans ek96_1))))
                    have nA50_37 : (A50.1 367 37).toInt = (A44.1 367 37).toInt := congrArg Int32.toInt (frA50_4.trans (hkF eA49 (by omega) (hkA eA47 rfl)))
                    have nA50_41 : (A50.1 367 41).toInt = z48.toInt := congrArg Int32.toInt (frA50_5.trans (hkS eA49))
                    have aj51 : A50.2.1 = hs_up A44.2.1 392 (A44.1 367 41).toNatClampNeg z46 := by rw [aeA50, (show A49.2.1 = A47.2.1 from congrArg Prod.fst fA49), fA47]
                    have j51 : ¬ (A50.1 367 13).toInt = 0 ∨ ((A.1 367 13).toInt = 0 ∧ (A50.1 367 37).toInt ≤ 0 + (A50.1 367 11).toInt ∧ ∃ o g : Nat, hQ 0 (A.1 367 37).toInt o g 0 A50 ∧ (o : Int) = (A50.1 367 12).toInt - x12_1.toInt ∧ (A50.1 367 12).toInt ≤ 6) := by
                      by_cases h9 : (A50.1 367 13).toInt = 0
                      · obtain ⟨g5, hq5⟩ : ∃ g5, hQ 0 (A.1 367 37).toInt o_4 g5 0 A50 := by
                          rcases (show g2_45 = 0 ∨ g2_45 = 1 by omega) with e0 | e0
                          · subst e0
                            exact ⟨2, hQ.push hq2_45 (j := (A44.1 367 41)) rfl aj51 (by omega) (by omega) (by omega) (by omega)⟩
                          · subst e0
                            exact ⟨3, hQ.push hq2_45 (j := (A44.1 367 41)) rfl aj51 (by omega) (by omega) (by omega) (by omega)⟩
                        exact Or.inr ⟨by omega, by omega, _, g5, hq5, by omega, by omega⟩
                      · exact Or.inl h9
                    refine hxa_goto (by rfl) ?_
                    exact ih12 (A50.1 367 11) w96_1 (A50.1 367 13) (A44.1 367 37) z48 x12_1 (Int32.ofNat 1) A50 hA50 rfl (frA50_0.trans (hkF eA49 (by omega) (hkA eA47 (frA44_0.trans ek96_1)))) rfl (frA50_1.trans (hkF eA49 (by omega) (hkA eA47 (frA44_1.trans ek96_3)))) (frA50_2.trans (hkF eA49 (by omega) (hkA eA47 (frA44_2.trans ek96_4)))) (frA50_3.trans (hkF eA49 (by omega) (hkA eA47 (frA44_3.trans ek96_5)))) (frA50_4.trans (hkF eA49 (by omega) (hkA eA47 rfl))) (frA50_5.trans (hkS eA49)) (by omega) (by omega) (by omega) (by omega) (by omega) (by omega) (by omega) (by omega) (by omega) (by omega) (by omega) (by omega) (by exact j51) (by exact (hkz_45.trans (hK.w aj51) (Nat.le_refl _))) (by omega) (by omega)
                  ·
                    refine hxj_zne (by rfl) rfl (fun q52 => False.elim (by omega)) (fun q52 => ?_)
                    refine hxa_aload_n (by rfl) rfl ?_
                    refine hxa_bipush (by rfl) rfl ?_
                    refine hxa_call0 (by rfl) (by rfl) (by rfl) (by rfl) (by rfl) (by rfl) (hX144q4 (d := d + 2) hAc96 (Int32.ofNat 15)) ?_
                    rintro _ _ ⟨rfl, z53, rfl, fz53⟩
                    rcases fz53 with fz53 | fz53
                    ·
                      refine hxj_zeq (by rfl) rfl (fun q54 => False.elim (by omega)) (fun q54 => ?_)
                      refine hxa_iconst (by rfl) rfl ?_
                      refine hxa_goto (by rfl) ?_
                      refine hxa_call0 (by rfl) (by rfl) (by rfl) (by rfl) (by rfl) (by rfl) (hX160q4 (d := d + 1) hAc96 hq_4 hl (Int32.ofNat 1) (by omega) (by omega)) ?_
                      rintro _ A55 ⟨hA55, frA55_0, frA55_1, frA55_2, frA55_3, frA55_4, frA55_5, rfl, fA55⟩
                      have ttA55_12 : (A55.1 367 12).toInt = w96_1.toInt := congrArg Int32.toInt (frA55_0.trans ek96_1)
                      have ttA55_19 : (A55.1 367 19).toInt = (A.1 367 19).toInt := congrArg Int32.toInt (frA55_1.trans ek96_3)
                      have ttA55_20 : (A55.1 367 20).toInt = (A.1 367 20).toInt := congrArg Int32.toInt (frA55_2.trans ek96_4)
                      have ttA55_31 : (A55.1 367 31).toInt = (A.1 367 31).toInt := congrArg Int32.toInt (frA55_3.trans ek96_5)
                      have ttA55_11 : (A55.1 367 11).toInt = w96_0.toInt := congrArg Int32.toInt (frA55_4.trans ek96_0)
                      have ttA55_13 : (A55.1 367 13).toInt = w96_2.toInt := congrArg Int32.toInt (frA55_5.trans ek96_2)
                      have fbA55_367_37 := hA55.f (i := 367) (k := 37) (by rfl)
                      have fbA55_367_41 := hA55.f (i := 367) (k := 41) (by rfl)
                      obtain ⟨g2_56, hq2_56, h21_56, h20_56, hk2_56, h92_56, hc2_56⟩ := fA55
                      have hw2_56 := hq2_56.w
                      have hkz_56 := u96_1.trans hk2_56 (by omega)
                      have cz_56 := hQ.cb hq2_56 (hA55.f (i := 367) (k := 11) (by rfl)).2
                      refine hxa_aload_n (by rfl) rfl ?_
                      refine hxa_get (v := .ref 393) (by rfl) (by rfl) (by rfl) rfl ?_
                      refine hxa_aload_n (by rfl) rfl ?_
                      refine hxj_getK (by rfl) (by rfl) (by rfl) rfl ?_
                      refine hxa_aload_n (by rfl) rfl ?_
                      refine hxa_get (v := .ref 371) (by rfl) (by rfl) (by rfl) rfl ?_
                      refine hxa_aload_n (by rfl) rfl ?_
                      refine hxj_getK (by rfl) (by rfl) (by rfl) (frA55_4.trans ek96_0) ?_
                      refine hxj_iald (by rfl) (by rfl) rfl (by omega) (by omega) (fun z57 ez57 => ?_)
                      have kzz57 : z57.toInt = (Ac96.2.1 370 (Ac96.1 367 11).toNatClampNeg).toInt := by rw [← ez57, hk2_56.1 370 (by decide) (by decide) (by decide), (show Ac96.1 367 11 = w96_0 from ek96_0)]
                      refine hxj_iast (by rfl) (by rfl) rfl (by omega) (by omega) hA55 (hbokN (by rfl)) (by rfl) (by rfl) (fun A58 hA58 eA58 fA58 gA58 => ?_)
                      refine hxa_aload_n (by rfl) rfl ?_
                      refine hxa_dupR (by rfl) ?_
                      refine hxj_getK (by rfl) (by rfl) (by rfl) (hkA eA58 rfl) ?_
                      refine hxa_iconst (by rfl) rfl ?_
                      refine hxj_iadd (by rfl) rfl hk_1 (by omega) (by omega) (fun z59 ez59 => ?_)
                      refine hxj_putI (by rfl) (by rfl) (by rfl) (by rfl) hA58 (hbok (by rfl) rfl (by omega) (by omega)) (by rfl) (by rfl) (fun A60 hA60 eA60 fA60 => ?_)
                      refine hxa_aload_n (by rfl) rfl ?_
                      have nA60_11 : (A60.1 367 11).toInt = w96_0.toInt := congrArg Int32.toInt (hkF eA60 (by omega) (hkA eA58 (frA55_4.trans ek96_0)))
                      have nA60_12 : (A60.1 367 12).toInt = w96_1.toInt := congrArg Int32.toInt (hkF eA60 (by omega) (hkA eA58 (frA55_0.trans ek96_1)))
                      have nA60_13 : (A60.1 367 13).toInt = w96_2.toInt := congrArg Int32.toInt (hkF eA60 (by omega) (hkA eA58 (frA55_5.trans ek96_2)))
                      have nA60_37 : (A60.1 367 37).toInt = (A55.1 367 37).toInt := congrArg Int32.toInt (hkF eA60 (by omega) (hkA eA58 rfl))
                      have nA60_41 : (A60.1 367 41).toInt = z59.toInt := congrArg Int32.toInt (hkS eA60)
                      refine hxa_call0 (by rfl) (by rfl) (by rfl) (by rfl) (by rfl) (by rfl) (hX147q4 (d := d + 1) hA60 ) ?_
                      rintro _ A61 ⟨hA61, frA61_0, frA61_1, frA61_2, frA61_3, frA61_4, frA61_5, aeA61, rfl, fA61⟩
                      have ttA61_12 : (A61.1 367 12).toInt = w96_1.toInt := congrArg Int32.toInt (frA61_0.trans (hkF eA60 (by omega) (hkA eA58 (frA55_0.trans ek96_1))))
                      have ttA61_19 : (A61.1 367 19).toInt = (A.1 367 19).toInt := congrArg Int32.toInt (frA61_1.trans (hkF eA60 (by omega) (hkA eA58 (frA55_1.trans ek96_3))))
                      have ttA61_20 : (A61.1 367 20).toInt = (A.1 367 20).toInt := congrArg Int32.toInt (frA61_2.trans (hkF eA60 (by omega) (hkA eA58 (frA55_2.trans ek96_4))))
                      have ttA61_31 : (A61.1 367 31).toInt = (A.1 367 31).toInt := congrArg Int32.toInt (frA61_3.trans (hkF eA60 (by omega) (hkA eA58 (frA55_3.trans ek96_5))))
                      have ttA61_37 : (A61.1 367 37).toInt = (A55.1 367 37).toInt := congrArg Int32.toInt (frA61_4.trans (hkF eA60 (by omega) (hkA eA58 rfl)))
                      have ttA61_41 : (A61.1 367 41).toInt = z59.toInt := congrArg Int32.toInt (frA61_5.trans (hkS eA60))
                      have fbA61_367_11 := hA61.f (i := 367) (k := 11) (by rfl)
                      have fbA61_367_13 := hA61.f (i := 367) (k := 13) (by rfl)
                      have nA61_12 : (A61.1 367 12).toInt = w96_1.toInt := congrArg Int32.toInt (frA61_0.trans (hkF eA60 (by omega) (hkA eA58 (frA55_0.trans ek96_1))))
                      have nA61_37 : (A61.1 367 37).toInt = (A55.1 367 37).toInt := congrArg Int32.toInt (frA61_4.trans (hkF eA60 (by omega) (hkA eA58 rfl)))
                      have nA61_41 : (A61.1 367 41).toInt = z59.toInt := congrArg Int32.toInt (frA61_5.trans (hkS eA60))
                      have aj62 : A61.2.1 = hs_up A55.2.1 392 (A55.1 367 41).toNatClampNeg z57 := by rw [aeA61, (show A60.2.1 = A58.2.1 from congrArg Prod.fst fA60), fA58]
                      have j62 : ¬ (A61.1 367 13).toInt = 0 ∨ ((A.1 367 13).toInt = 0 ∧ (A61.1 367 37).toInt ≤ 0 + (A61.1 367 11).toInt ∧ ∃ o g : Nat, hQ 0 (A.1 367 37).toInt o g 0 A61 ∧ (o : Int) = (A61.1 367 12).toInt - x12_1.toInt ∧ (A61.1 367 12).toInt ≤ 6) := by
                        by_cases h9 : (A61.1 367 13).toInt = 0
                        · obtain ⟨g5, hq5⟩ : ∃ g5, hQ 0 (A.1 367 37).toInt o_4 g5 0 A61 := by
                            rcases (show g2_56 = 0 ∨ g2_56 = 1 by omega) with e0 | e0
                            · subst e0
                              exact ⟨2, hQ.push hq2_56 (j := (A55.1 367 41)) rfl aj62 (by omega) (by omega) (by omega) (by omega)⟩
                            · subst e0
                              exact ⟨3, hQ.push hq2_56 (j := (A55.1 367 41)) rfl aj62 (by omega) (by omega) (by omega) (by omega)⟩
                          exact Or.inr ⟨by omega, by omega, _, g5, hq5, by omega, by omega⟩
                        · exact Or.inl h9
                      refine hxa_goto (by rfl) ?_
                      exact ih12 (A61.1 367 11) w96_1 (A61.1 367 13) (A55.1 367 37) z59 x12_1 (Int32.ofNat 1) A61 hA61 rfl (frA61_0.trans (hkF eA60 (by omega) (hkA eA58 (frA55_0.trans ek96_1)))) rfl (frA61_1.trans (hkF eA60 (by omega) (hkA eA58 (frA55_1.trans ek96_3)))) (frA61_2.trans (hkF eA60 (by omega) (hkA eA58 (frA55_2.trans ek96_4)))) (frA61_3.trans (hkF eA60 (by omega) (hkA eA58 (frA55_3.trans ek96_5)))) (frA61_4.trans (hkF eA60 (by omega) (hkA eA58 rfl))) (frA61_5.trans (hkS eA60)) (by omega) (by omega) (by omega) (by omega) (by omega) (by omega) (by omega) (by omega) (by omega) (by omega) (by omega) (by omega) (by exact j62) (by exact (hkz_56.trans (hK.w aj62) (Nat.le_refl _))) (by omega) (by omega)
                    ·
                      refine hxj_zeq (by rfl) rfl (fun q63 => ?_) (fun q63 => False.elim (by omega))
                      refine hxa_iconst (by rfl) rfl ?_
                      refine hxa_call0 (by rfl) (by rfl) (by rfl) (by rfl) (by rfl) (by rfl) (hX160q4 (d := d + 1) hAc96 hq_4 hl (Int32.ofNat 0) (by omega) (by omega)) ?_
                      rintro _ A64 ⟨hA64, frA64_0, frA64_1, frA64_2, frA64_3, frA64_4, frA64_5, rfl, fA64⟩
                      have ttA64_12 : (A64.1 367 12).toInt = w96_1.toInt := congrArg Int32.toInt (frA64_0.trans ek96_1)
                      have ttA64_19 : (A64.1 367 19).toInt = (A.1 367 19).toInt := congrArg Int32.toInt (frA64_1.trans ek96_3)
                      have ttA64_20 : (A64.1 367 20).toInt = (A.1 367 20).toInt := congrArg Int32.toInt (frA64_2.trans ek96_4)
                      have ttA64_31 : (A64.1 367 31).toInt = (A.1 367 31).toInt := congrArg Int32.toInt (frA64_3.trans ek96_5)
                      have ttA64_11 : (A64.1 367 11).toInt = w96_0.toInt := congrArg Int32.toInt (frA64_4.trans ek96_0)
                      have ttA64_13 : (A64.1 367 13).toInt = w96_2.toInt := congrArg Int32.toInt (frA64_5.trans ek96_2)
                      have fbA64_367_37 := hA64.f (i := 367) (k := 37) (by rfl)
                      have fbA64_367_41 := hA64.f (i := 367) (k := 41) (by rfl)
                      obtain ⟨g2_65, hq2_65, h21_65, h20_65, hk2_65, h92_65, hc2_65⟩ := fA64
                      have hw2_65 := hq2_65.w
                      have hkz_65 := u96_1.trans hk2_65 (by omega)
                      have cz_65 := hQ.cb hq2_65 (hA64.f (i := 367) (k := 11) (by rfl)).2
                      refine hxa_aload_n (by rfl) rfl ?_
                      refine hxa_get (v := .ref 393) (by rfl) (by rfl) (by rfl) rfl ?_
                      refine hxa_aload_n (by rfl) rfl ?_
                      refine hxj_getK (by rfl) (by rfl) (by rfl) rfl ?_
                      refine hxa_aload_n (by rfl) rfl ?_
                      refine hxa_get (v := .ref 371) (by rfl) (by rfl) (by rfl) rfl ?_
                      refine hxa_aload_n (by rfl) rfl ?_
                      refine hxj_getK (by rfl) (by rfl) (by rfl) (frA64_4.trans ek96_0) ?_
                      refine hxj_iald (by rfl) (by rfl) rfl (by omega) (by omega) (fun z66 ez66 => ?_)
                      have kzz66 : z66.toInt = (Ac96.2.1 370 (Ac96.1 367 11).toNatClampNeg).toInt := by rw [← ez66, hk2_65.1 370 (by decide) (by decide) (by decide), (show Ac96.1 367 11 = w96_0 from ek96_0)]
                      refine hxj_iast (by rfl) (by rfl) rfl (by omega) (by omega) hA64 (hbokN (by rfl)) (by rfl) (by rfl) (fun A67 hA67 eA67 fA67 gA67 => ?_)
                      refine hxa_aload_n (by rfl) rfl ?_
                      refine hxa_dupR (by rfl) ?_
                      refine hxj_getK (by rfl) (by rfl) (by rfl) (hkA eA67 rfl) ?_
                      refine hxa_iconst (by rfl) rfl ?_
                      refine hxj_iadd (by rfl) rfl hk_1 (by omega) (by omega) (fun z68 ez68 => ?_)
                      refine hxj_putI (by rfl) (by rfl) (by rfl) (by rfl) hA67 (hbok (by rfl) rfl (by omega) (by omega)) (by rfl) (by rfl) (fun A69 hA69 eA69 fA69 => ?_)
                      refine hxa_aload_n (by rfl) rfl ?_
                      have nA69_11 : (A69.1 367 11).toInt = w96_0.toInt := congrArg Int32.toInt (hkF eA69 (by omega) (hkA eA67 (frA64_4.trans ek96_0)))
                      have nA69_12 : (A69.1 367 12).toInt = w96_1.toInt := congrArg Int32.toInt (hkF eA69 (by omega) (hkA eA67 (frA64_0.trans ek96_1)))
                      have nA69_13 : (A69.1 367 13).toInt = w96_2.toInt := congrArg Int32.toInt (hkF eA69 (by omega) (hkA eA67 (frA64_5.trans ek96_2)))
                      have nA69_37 : (A69.1 367 37).toInt = (A64.1 367 37).toInt := congrArg Int32.toInt (hkF eA69 (by omega) (hkA eA67 rfl))
                      have nA69_41 : (A69.1 367 41).toInt = z68.toInt := congrArg Int32.toInt (hkS eA69)
                      refine hxa_call0 (by rfl) (by rfl) (by rfl) (by rfl) (by rfl) (by rfl) (hX147q4 (d := d + 1) hA69 ) ?_
                      rintro _ A70 ⟨hA70, frA70_0, frA70_1, frA70_2, frA70_3, frA70_4, frA70_5, aeA70, rfl, fA70⟩
                      have ttA70_12 : (A70.1 367 12).toInt = w96_1.toInt := congrArg Int32.toInt (frA70_0.trans (hkF eA69 (by omega) (hkA eA67 (frA64_0.trans ek96_1))))
                      have ttA70_19 : (A70.1 367 19).toInt = (A.1 367 19).toInt := congrArg Int32.toInt (frA70_1.trans (hkF eA69 (by omega) (hkA eA67 (frA64_1.trans ek96_3))))
                      have ttA70_20 : (A70.1 367 20).toInt = (A.1 367 20).toInt := congrArg Int32.toInt (frA70_2.trans (hkF eA69 (by omega) (hkA eA67 (frA64_2.trans ek96_4))))
                      have ttA70_31 : (A70.1 367 31).toInt = (A.1 367 31).toInt := congrArg Int32.toInt (frA70_3.trans (hkF eA69 (by omega) (hkA eA67 (frA64_3.trans ek96_5))))
                      have ttA70_37 : (A70.1 367 37).toInt = (A64.1 367 37).toInt := congrArg Int32.toInt (frA70_4.trans (hkF eA69 (by omega) (hkA eA67 rfl)))
                      have ttA70_41 : (A70.1 367 41).toInt = z68.toInt := congrArg Int32.toInt (frA70_5.trans (hkS eA69))
                      have fbA70_367_11 := hA70.f (i := 367) (k := 11) (by rfl)
                      have fbA70_367_13 := hA70.f (i := 367) (k := 13) (by rfl)
                      have nA70_12 : (A70.1 367 12).toInt = w96_1.toInt := congrArg Int32.toInt (frA70_0.trans (hkF eA69 (by omega) (hkA eA67 (frA64_0.trans ek96_1))))
                      have nA70_37 : (A70.1 367 37).toInt = (A64.1 367 37).toInt := congrArg Int32.toInt (frA70_4.trans (hkF eA69 (by omega) (hkA eA67 rfl)))
                      have nA70_41 : (A70.1 367 41).toInt = z68.toInt := congrArg Int32.toInt (frA70_5.trans (hkS eA69))
                      have aj71 : A70.2.1 = hs_up A64.2.1 392 (A64.1 367 41).toNatClampNeg z66 := by rw [aeA70, (show A69.2.1 = A67.2.1 from congrArg Prod.fst fA69), fA67]
                      have j71 : ¬ (A70.1 367 13).toInt = 0 ∨ ((A.1 367 13).toInt = 0 ∧ (A70.1 367 37).toInt ≤ 0 + (A70.1 367 11).toInt ∧ ∃ o g : Nat, hQ 0 (A.1 367 37).toInt o g 0 A70 ∧ (o : Int) = (A70.1 367 12).toInt - x12_1.toInt ∧ (A70.1 367 12).toInt ≤ 6) := by
                        by_cases h9 : (A70.1 367 13).toInt = 0
                        · obtain ⟨g5, hq5⟩ : ∃ g5, hQ 0 (A.1 367 37).toInt o_4 g5 0 A70 := by
                            have e0 := h20_65 (by omega)
                            subst e0
                            exact ⟨1, hQ.push hq2_65 (j := (A64.1 367 41)) rfl aj71 (by omega) (by omega) (by omega) (by omega)⟩
                          exact Or.inr ⟨by omega, by omega, _, g5, hq5, by omega, by omega⟩
                        · exact Or.inl h9
                      refine hxa_goto (by rfl) ?_
                      exact ih12 (A70.1 367 11) w96_1 (A70.1 367 13) (A64.1 367 37) z68 x12_1 (Int32.ofNat 1) A70 hA70 rfl (frA70_0.trans (hkF eA69 (by omega) (hkA eA67 (frA64_0.trans ek96_1)))) rfl (frA70_1.trans (hkF eA69 (by omega) (hkA eA67 (frA64_1.trans ek96_3)))) (frA70_2.trans (hkF eA69 (by omega) (hkA eA67 (frA64_2.trans ek96_4)))) (frA70_3.trans (hkF eA69 (by omega) (hkA eA67 (frA64_3.trans ek96_5)))) (frA70_4.trans (hkF eA69 (by omega) (hkA eA67 rfl))) (frA70_5.trans (hkS eA69)) (by omega) (by omega) (by omega) (by omega) (by omega) (by omega) (by omega) (by omega) (by omega) (by omega) (by omega) (by omega) (by exact j71) (by exact (hkz_65.trans (hK.w aj71) (Nat.le_refl _))) (by omega) (by omega)
                ·
                  refine hxj_zne (by rfl) rfl (fun q72 => False.elim (by omega)) (fun q72 => ?_)
                  refine hxa_aload_n (by rfl) rfl ?_
                  refine hxa_bipush (by rfl) rfl ?_
                  refine hxa_call0 (by rfl) (by rfl) (by rfl) (by rfl) (by rfl) (by rfl) (hX144q4 (d := d + 2) hAc96 (Int32.ofNat 10)) ?_
                  rintro _ _ ⟨rfl, z73, rfl, fz73⟩
                  rcases fz73 with fz73 | fz73
                  ·
                    refine hxj_zne (by rfl) rfl (fun q74 => ?_) (fun q74 => False.elim (by omega))
                    refine hxa_iconst (by rfl) rfl ?_
                    refine hxa_goto (by rfl) ?_
                    refine hxa_s1 (by rfl) (Or.inl ⟨_, rfl, rfl⟩) rfl ?_
                    refine hxa_iload_n (by rfl) rfl ?_
                    refine hxj_zne (by rfl) hk_1 (fun q75 => ?_) (fun q75 => False.elim (by omega))
                    refine hxa_aload_n (by rfl) rfl ?_
                    refine hxa_aload_n (by rfl) rfl ?_
                    refine hxa_bipush (by rfl) rfl ?_
                    refine hxa_call0 (by rfl) (by rfl) (by rfl) (by rfl) (by rfl) (by rfl) (hX144q4 (d := d + 2) hAc96 (Int32.ofNat 10)) ?_
                    rintro _ _ ⟨rfl, z76, rfl, fz76⟩
                    rcases fz76 with fz76 | fz76
                    ·
                      refine hxj_zne (by rfl) rfl (fun q77 => ?_) (fun q77 => False.elim (by omega))
                      refine hxa_iconst (by rfl) rfl ?_
                      refine hxa_goto (by rfl) ?_
                      refine hxa_call0 (by rfl) (by rfl) (by rfl) (by rfl) (by rfl) (by rfl) (hX160q4 (d := d + 1) hAc96 hq_4 hl (Int32.ofNat 1) (by omega) (by omega)) ?_
                      rintro _ A78 ⟨hA78, frA78_0, frA78_1, frA78_2, frA78_3, frA78_4, frA78_5, rfl, fA78⟩
                      have ttA78_12 : (A78.1 367 12).toInt = w96_1.toInt := congrArg Int32.toInt (frA78_0.trans ek96_1)
                      have ttA78_19 : (A78.1 367 19).toInt = (A.1 367 19).toInt := congrArg Int32.toInt (frA78_1.trans ek96_3)
                      have ttA78_20 : (A78.1 367 20).toInt = (A.1 367 20).toInt := congrArg Int32.toInt (frA78_2.trans ek96_4)
                      have ttA78_31 : (A78.1 367 31).toInt = (A.1 367 31).toInt := congrArg Int32.toInt (frA78_3.trans ek96_5)
                      have ttA78_11 : (A78.1 367 11).toInt = w96_0.toInt := congrArg Int32.toInt (frA78_4.trans ek96_0)
                      have ttA78_13 : (A78.1 367 13).toInt = w96_2.toInt := congrArg Int32.toInt (frA78_5.trans ek96_2)
                      have fbA78_367_37 := hA78.f (i := 367) (k := 37) (by rfl)
                      have fbA78_367_41 := hA78.f (i := 367) (k := 41) (by rfl)
                      obtain ⟨g2_79, hq2_79, h21_79, h20_79, hk2_79, h92_79, hc2_79⟩ := fA78
                      have hw2_79 := hq2_79.w
                      have hkz_79 := u96_1.trans hk2_79 (by omega)
                      have cz_79 := hQ.cb hq2_79 (hA78.f (i := 367) (k := 11) (by rfl)).2
                      refine hxa_aload_n (by rfl) rfl ?_
                      refine hxa_get (v := .ref 393) (by rfl) (by rfl) (by rfl) rfl ?_
                      refine hxa_aload_n (by rfl) rfl ?_
                      refine hxj_getK (by rfl) (by rfl) (by rfl) rfl ?_
                      refine hxa_aload_n (by rfl) rfl ?_
                      refine hxa_get (v := .ref 371) (by rfl) (by rfl) (by rfl) rfl ?_
                      refine hxa_aload_n (by rfl) rfl ?_
                      refine hxj_getK (by rfl) (by rfl) (by rfl) (frA78_4.trans ek96_0) ?_
                      refine hxj_iald (by rfl) (by rfl) rfl (by omega) (by omega) (fun z80 ez80 => ?_)
                      have kzz80 : z80.toInt = (Ac96.2.1 370 (Ac96.1 367 11).toNatClampNeg).toInt := by rw [← ez80, hk2_79.1 370 (by decide) (by decide) (by decide), (show Ac96.1 367 11 = w96_0 from ek96_0)]
                      refine hxj_iast (by rfl) (by rfl) rfl (by omega) (by omega) hA78 (hbokN (by rfl)) (by rfl) (by rfl) (fun A81 hA81 eA81 fA81 gA81 => ?_)
                      refine hxa_aload_n (by rfl) rfl ?_
                      refine hxa_dupR (by rfl) ?_
                      refine hxj_getK (by rfl) (by rfl) (by rfl) (hkA eA81 rfl) ?_
                      refine hxa_iconst (by rfl) rfl ?_
                      refine hxj_iadd (by rfl) rfl hk_1 (by omega) (by omega) (fun z82 ez82 => ?_)
                      refine hxj_putI (by rfl) (by rfl) (by rfl) (by rfl) hA81 (hbok (by rfl) rfl (by omega) (by omega)) (by rfl) (by rfl) (fun A83 hA83 eA83 fA83 => ?_)
                      refine hxa_aload_n (by rfl) rfl ?_
                      have nA83_11 : (A83.1 367 11).toInt = w96_0.toInt := congrArg Int32.toInt (hkF eA83 (by omega) (hkA eA81 (frA78_4.trans ek96_0)))
                      have nA83_12 : (A83.1 367 12).toInt = w96_1.toInt := congrArg Int32.toInt (hkF eA83 (by omega) (hkA eA81 (frA78_0.trans ek96_1)))
                      have nA83_13 : (A83.1 367 13).toInt = w96_2.toInt := congrArg Int32.toInt (hkF eA83 (by omega) (hkA eA81 (frA78_5.trans ek96_2)))
                      have nA83_37 : (A83.1 367 37).toInt = (A78.1 367 37).toInt := congrArg Int32.toInt (hkF eA83 (by omega) (hkA eA81 rfl))
                      have nA83_41 : (A83.1 367 41).toInt = z82.toInt := congrArg Int32.toInt (hkS eA83)
                      refine hxa_call0 (by rfl) (by rfl) (by rfl) (by rfl) (by rfl) (by rfl) (hX147q4 (d := d + 1) hA83 ) ?_
                      rintro _ A84 ⟨hA84, frA84_0, frA84_1, frA84_2, frA84_3, frA84_4, frA84_5, aeA84, rfl, fA84⟩
                      have ttA84_12 : (A84.1 367 12).toInt = w96_1.toInt := congrArg Int32.toInt (frA84_0.trans (hkF eA83 (by omega) (hkA eA81 (frA78_0.trans ek96_1))))
                      have ttA84_19 : (A84.1 367 19).toInt = (A.1 367 19).toInt := congrArg Int32.toInt (frA84_1.trans (hkF eA83 (by omega) (hkA eA81 (frA78_1.trans ek96_3))))
                      have ttA84_20 : (A84.1 367 20).toInt = (A.1 367 20).toInt := congrArg Int32.toInt (frA84_2.trans (hkF eA83 (by omega) (hkA eA81 (frA78_2.trans ek96_4))))
                      have ttA84_31 : (A84.1 367 31).toInt = (A.1 367 31).toInt := congrArg Int32.toInt (frA84_3.trans (hkF eA83 (by omega) (hkA eA81 (frA78_3.trans ek96_5))))
                      have ttA84_37 : (A84.1 367 37).toInt = (A78.1 367 37).toInt := congrArg Int32.toInt (frA84_4.trans (hkF eA83 (by omega) (hkA eA81 rfl)))
                      have ttA84_41 : (A84.1 367 41).toInt = z82.toInt := congrArg Int32.toInt (frA84_5.trans (hkS eA83))
                      have fbA84_367_11 := hA84.f (i := 367) (k := 11) (by rfl)
                      have fbA84_367_13 := hA84.f (i := 367) (k := 13) (by rfl)
                      have nA84_12 : (A84.1 367 12).toInt = w96_1.toInt := congrArg Int32.toInt (frA84_0.trans (hkF eA83 (by omega) (hkA eA81 (frA78_0.trans ek96_1))))
                      have nA84_37 : (A84.1 367 37).toInt = (A78.1 367 37).toInt := congrArg Int32.toInt (frA84_4.trans (hkF eA83 (by omega) (hkA eA81 rfl)))
                      have nA84_41 : (A84.1 367 41).toInt = z82.toInt := congrArg Int32.toInt (frA84_5.trans (hkS eA83))
                      have aj85 : A84.2.1 = hs_up A78.2.1 392 (A78.1 367 41).toNatClampNeg z80 := by rw [aeA84, (show A83.2.1 = A81.2.1 from congrArg Prod.fst fA83), fA81]
                      have j85 : ¬ (A84.1 367 13).toInt = 0 ∨ ((A.1 367 13).toInt = 0 ∧ (A84.1 367 37).toInt ≤ 0 + (A84.1 367 11).toInt ∧ ∃ o g : Nat, hQ 0 (A.1 367 37).toInt o g 0 A84 ∧ (o : Int) = (A84.1 367 12).toInt - x12_1.toInt ∧ (A84.1 367 12).toInt ≤ 6) := by
                        by_cases h9 : (A84.1 367 13).toInt = 0
                        · obtain ⟨g5, hq5⟩ : ∃ g5, hQ 0 (A.1 367 37).toInt o_4 g5 0 A84 := by
                            rcases (show g2_79 = 0 ∨ g2_79 = 1 by omega) with e0 | e0
                            · subst e0
                              exact ⟨2, hQ.push hq2_79 (j := (A78.1 367 41)) rfl aj85 (by omega) (by omega) (by omega) (by omega)⟩
                            · subst e0
                              exact ⟨3, hQ.push hq2_79 (j := (A78.1 367 41)) rfl aj85 (by omega) (by omega) (by omega) (by omega)⟩
                          exact Or.inr ⟨by omega, by omega, _, g5, hq5, by omega, by omega⟩
                        · exact Or.inl h9
                      refine hxa_goto (by rfl) ?_
                      exact ih12 (A84.1 367 11) w96_1 (A84.1 367 13) (A78.1 367 37) z82 x12_1 (Int32.ofNat 1) A84 hA84 rfl (frA84_0.trans (hkF eA83 (by omega) (hkA eA81 (frA78_0.trans ek96_1)))) rfl (frA84_1.trans (hkF eA83 (by omega) (hkA eA81 (frA78_1.trans ek96_3)))) (frA84_2.trans (hkF eA83 (by omega) (hkA eA81 (frA78_2.trans ek96_4)))) (frA84_3.trans (hkF eA83 (by omega) (hkA eA81 (frA78_3.trans ek96_5)))) (frA84_4.trans (hkF eA83 (by omega) (hkA eA81 rfl))) (frA84_5.trans (hkS eA83)) (by omega) (by omega) (by omega) (by omega) (by omega) (by omega) (by omega) (by omega) (by omega) (by omega) (by omega) (by omega) (by exact j85) (by exact (hkz_79.trans (hK.w aj85) (Nat.le_refl _))) (by omega) (by omega)
                    ·
                      refine hxj_zne (by rfl) rfl (fun q86 => False.elim (by omega)) (fun q86 => ?_)
                      refine hxa_aload_n (by rfl) rfl ?_
                      refine hxa_bipush (by rfl) rfl ?_
                      refine hxa_call0 (by rfl) (by rfl) (by rfl) (by rfl) (by rfl) (by rfl) (hX144q4 (d := d + 2) hAc96 (Int32.ofNat 15)) ?_
                      rintro _ _ ⟨rfl, z87, rfl, fz87⟩
                      rcases fz87 with fz87 | fz87
                      ·
                        refine hxj_zeq (by rfl) rfl (fun q88 => False.elim (by omega)) (fun q88 => ?_)
                        refine hxa_iconst (by rfl) rfl ?_
                        refine hxa_goto (by rfl) ?_
                        refine hxa_call0 (by rfl) (by rfl) (by rfl) (by rfl) (by rfl) (by rfl) (hX160q4 (d := d + 1) hAc96 hq_4 hl (Int32.ofNat 1) (by omega) (by omega)) ?_
                        rintro _ A89 ⟨hA89, frA89_0, frA89_1, frA89_2, frA89_3, frA89_4, frA89_5, rfl, fA89⟩
                        have ttA89_12 : (A89.1 367 12).toInt = w96_1.toInt := congrArg Int32.toInt (frA89_0.trans ek96_1)
                        have ttA89_19 : (A89.1 367 19).toInt = (A.1 367 19).toInt := congrArg Int32.toInt (frA89_1.trans ek96_3)
                        have ttA89_20 : (A89.1 367 20).toInt = (A.1 367 20).toInt := congrArg Int32.toInt (frA89_2.trans ek96_4)
                        have ttA89_31 : (A89.1 367 31).toInt = (A.1 367 31).toInt := congrArg Int32.toInt (frA89_3.trans ek96_5)
                        have ttA89_11 : (A89.1 367 11).toInt = w96_0.toInt := congrArg Int32.toInt (frA89_4.trans ek96_0)
                        have ttA89_13 : (A89.1 367 13).toInt = w96_2.toInt := congrArg Int32.toInt (frA89_5.trans ek96_2)
                        have fbA89_367_37 := hA89.f (i := 367) (k := 37) (by rfl)
                        have fbA89_367_41 := hA89.f (i := 367) (k := 41) (by rfl)
                        obtain ⟨g2_90, hq2_90, h21_90, h20_90, hk2_90, h92_90, hc2_90⟩ := fA89
                        have hw2_90 := hq2_90.w
                        have hkz_90 := u96_1.trans hk2_90 (by omega)
                        have cz_90 := hQ.cb hq2_90 (hA89.f (i := 367) (k := 11) (by rfl)).2
                        refine hxa_aload_n (by rfl) rfl ?_
                        refine hxa_get (v := .ref 393) (by rfl) (by rfl) (by rfl) rfl ?_
                        refine hxa_aload_n (by rfl) rfl ?_
                        refine hxj_getK (by rfl) (by rfl) (by rfl) rfl ?_
                        refine hxa_aload_n (by rfl) rfl ?_
                        refine hxa_get (v := .ref 371) (by rfl) (by rfl) (by rfl) rfl ?_
                        refine hxa_aload_n (by rfl) rfl ?_
                        refine hxj_getK (by rfl) (by rfl) (by rfl) (frA89_4.trans ek96_0) ?_
                        refine hxj_iald (by rfl) (by rfl) rfl (by omega) (by omega) (fun z91 ez91 => ?_)
                        have kzz91 : z91.toInt = (Ac96.2.1 370 (Ac96.1 367 11).toNatClampNeg).toInt := by rw [← ez91, hk2_90.1 370 (by decide) (by decide) (by decide), (show Ac96.1 367 11 = w96_0 from ek96_0)]
                        refine hxj_iast (by rfl) (by rfl) rfl (by omega) (by omega) hA89 (hbokN (by rfl)) (by rfl) (by rfl) (fun A92 hA92 eA92 fA92 gA92 => ?_)
                        refine hxa_aload_n (by rfl) rfl ?_
                        refine hxa_dupR (by rfl) ?_
                        refine hxj_getK (by rfl) (by rfl) (by rfl) (hkA eA92 rfl) ?_
                        refine hxa_iconst (by rfl) rfl ?_
                        refine hxj_iadd (by rfl) rfl hk_1 (by omega) (by omega) (fun z93 ez93 => ?_)
                        refine hxj_putI (by rfl) (by rfl) (by rfl) (by rfl) hA92 (hbok (by rfl) rfl (by omega) (by omega)) (by rfl) (by rfl) (fun A94 hA94 eA94 fA94 => ?_)
                        refine hxa_aload_n (by rfl) rfl ?_
                        have nA94_11 : (A94.1 367 11).toInt = w96_0.toInt := congrArg Int32.toInt (hkF eA94 (by omega) (hkA eA92 (frA89_4.trans ek96_0)))
                        have nA94_12 : (A94.1 367 12).toInt = w96_1.toInt := congrArg Int32.toInt (hkF eA94 (by omega) (hkA eA92 (frA89_0.trans ek96_1)))
                        have nA94_13 : (A94.1 367 13).toInt = w96_2.toInt := congrArg Int32.toInt (hkF eA94 (by omega) (hkA eA92 (frA89_5.trans ek96_2)))
                        have nA94_37 : (A94.1 367 37).toInt = (A89.1 367 37).toInt := congrArg Int32.toInt (hkF eA94 (by omega) (hkA eA92 rfl))
                        have nA94_41 : (A94.1 367 41).toInt = z93.toInt := congrArg Int32.toInt (hkS eA94)
                        refine hxa_call0 (by rfl) (by rfl) (by rfl) (by rfl) (by rfl) (by rfl) (hX147q4 (d := d + 1) hA94 ) ?_
                        rintro _ A95 ⟨hA95, frA95_0, frA95_1, frA95_2, frA95_3, frA95_4, frA95_5, aeA95, rfl, fA95⟩
                        have ttA95_12 : (A95.1 367 12).toInt = w96_1.toInt := congrArg Int32.toInt (frA95_0.trans (hkF eA94 (by omega) (hkA eA92 (frA89_0.trans ek96_1))))
                        have ttA95_19 : (A95.1 367 19).toInt = (A.1 367 19).toInt := congrArg Int32.toInt (frA95_1.trans (hkF eA94 (by omega) (hkA eA92 (frA89_1.trans ek96_3))))
                        have ttA95_20 : (A95.1 367 20).toInt = (A.1 367 20).toInt := congrArg Int32.toInt (frA95_2.trans (hkF eA94 (by omega) (hkA eA92 (frA89_2.trans ek96_4))))
                        have ttA95_31 : (A95.1 367 31).toInt = (A.1 367 31).toInt := congrArg Int32.toInt (frA95_3.trans (hkF eA94 (by omega) (hkA eA92 (frA89_3.trans ek96_5))))
                        have ttA95_37 : (A95.1 367 37).toInt = (A89.1 367 37).toInt := congrArg Int32.toInt (frA95_4.trans (hkF eA94 (by omega) (hkA eA92 rfl)))
                        have ttA95_41 : (A95.1 367 41).toInt = z93.toInt := congrArg Int32.toInt (frA95_5.trans (hkS eA94))
                        have fbA95_367_11 := hA95.f (i := 367) (k := 11) (by rfl)
                        have fbA95_367_13 := hA95.f (i := 367) (k := 13) (by rfl)
                        have nA95_12 : (A95.1 367 12).toInt = w96_1.toInt := congrArg Int32.toInt (frA95_0.trans (hkF eA94 (by omega) (hkA eA92 (frA89_0.trans ek96_1))))
                        have nA95_37 : (A95.1 367 37).toInt = (A89.1 367 37).toInt := congrArg Int32.toInt (frA95_4.trans (hkF eA94 (by omega) (hkA eA92 rfl)))
                        have nA95_41 : (A95.1 367 41).toInt = z93.toInt := congrArg Int32.toInt (frA95_5.trans (hkS eA94))
                        have aj96 : A95.2.1 = hs_up A89.2.1 392 (A89.1 367 41).toNatClampNeg z91 := by rw [aeA95, (show A94.2.1 = A92.2.1 from congrArg Prod.fst fA94), fA92]
                        have j96 : ¬ (A95.1 367 13).toInt = 0 ∨ ((A.1 367 13).toInt = 0 ∧ (A95.1 367 37).toInt ≤ 0 + (A95.1 367 11).toInt ∧ ∃ o g : Nat, hQ 0 (A.1 367 37).toInt o g 0 A95 ∧ (o : Int) = (A95.1 367 12).toInt - x12_1.toInt ∧ (A95.1 367 12).toInt ≤ 6) := by
                          by_cases h9 : (A95.1 367 13).toInt = 0
                          · obtain ⟨g5, hq5⟩ : ∃ g5, hQ 0 (A.1 367 37).toInt o_4 g5 0 A95 := by
                              rcases (show g2_90 = 0 ∨ g2_90 = 1 by omega) with e0 | e0
                              · subst e0
                                exact ⟨2, hQ.push hq2_90 (j := (A89.1 367 41)) rfl aj96 (by omega) (by omega) (by omega) (by omega)⟩
                              · subst e0
                                exact ⟨3, hQ.push hq2_90 (j := (A89.1 367 41)) rfl aj96 (by omega) (by omega) (by omega) (by omega)⟩
                            exact Or.inr ⟨by omega, by omega, _, g5, hq5, by omega, by omega⟩
                          · exact Or.inl h9
                        refine hxa_goto (by rfl) ?_
                        exact ih12 (A95.1 367 11) w96_1 (A95.1 367 13) (A89.1 367 37) z93 x12_1 (Int32.ofNat 1) A95 hA95 rfl (frA95_0.trans (hkF eA94 (by omega) (hkA eA92 (frA89_0.trans ek96_1)))) rfl (frA95_1.trans (hkF eA94 (by omega) (hkA eA92 (frA89_1.trans ek96_3)))) (frA95_2.trans (hkF eA94 (by omega) (hkA eA92 (frA89_2.trans ek96_4)))) (frA95_3.trans (hkF eA94 (by omega) (hkA eA92 (frA89_3.trans ek96_5)))) (frA95_4.trans (hkF eA94 (by omega) (hkA eA92 rfl))) (frA95_5.trans (hkS eA94)) (by omega) (by omega) (by omega) (by omega) (by omega) (by omega) (by omega) (by omega) (by omega) (by omega) (by omega) (by omega) (by exact j96) (by exact (hkz_90.trans (hK.w aj96) (Nat.le_refl _))) (by omega) (by omega)
                      ·
                        refine hxj_zeq (by rfl) rfl (fun q97 => ?_) (fun q97 => False.elim (by omega))
                        refine hxa_iconst (by rfl) rfl ?_
                        refine hxa_call0 (by rfl) (by rfl) (by rfl) (by rfl) (by rfl) (by rfl) (hX160q4 (d := d + 1) hAc96 hq_4 hl (Int32.ofNat 0) (by omega) (by omega)) ?_
                        rintro _ A98 ⟨hA98, frA98_0, frA98_1, frA98_2, frA98_3, frA98_4, frA98_5, rfl, fA98⟩
                        have ttA98_12 : (A98.1 367 12).toInt = w96_1.toInt := congrArg Int32.toInt (frA98_0.trans ek96_1)
                        have ttA98_19 : (A98.1 367 19).toInt = (A.1 367 19).toInt := congrArg Int32.toInt (frA98_1.trans ek96_3)
                        have ttA98_20 : (A98.1 367 20).toInt = (A.1 367 20).toInt := congrArg Int32.toInt (frA98_2.trans ek96_4)
                        have ttA98_31 : (A98.1 367 31).toInt = (A.1 367 31).toInt := congrArg Int32.toInt (frA98_3.trans ek96_5)
                        have ttA98_11 : (A98.1 367 11).toInt = w96_0.toInt := congrArg Int32.toInt (frA98_4.trans ek96_0)
                        have ttA98_13 : (A98.1 367 13).toInt = w96_2.toInt := congrArg Int32.toInt (frA98_5.trans ek96_2)
                        have fbA98_367_37 := hA98.f (i := 367) (k := 37) (by rfl)
                        have fbA98_367_41 := hA98.f (i := 367) (k := 41) (by rfl)
                        obtain ⟨g2_99, hq2_99, h21_99, h20_99, hk2_99, h92_99, hc2_99⟩ := fA98
                        have hw2_99 := hq2_99.w
                        have hkz_99 := u96_1.trans hk2_99 (by omega)
                        have cz_99 := hQ.cb hq2_99 (hA98.f (i := 367) (k := 11) (by rfl)).2
                        refine hxa_aload_n (by rfl) rfl ?_
                        refine hxa_get (v := .ref 393) (by rfl) (by rfl) (by rfl) rfl ?_
                        refine hxa_aload_n (by rfl) rfl ?_
                        refine hxj_getK (by rfl) (by rfl) (by rfl) rfl ?_
                        refine hxa_aload_n (by rfl) rfl ?_
                        refine hxa_get (v := .ref 371) (by rfl) (by rfl) (by rfl) rfl ?_
                        refine hxa_aload_n (by rfl) rfl ?_
                        refine hxj_getK (by rfl) (by rfl) (by rfl) (frA98_4.trans ek96_0) ?_
                        refine hxj_iald (by rfl) (by rfl) rfl (by omega) (by omega) (fun z100 ez100 => ?_)
                        have kzz100 : z100.toInt = (Ac96.2.1 370 (Ac96.1 367 11).toNatClampNeg).toInt := by rw [← ez100, hk2_99.1 370 (by decide) (by decide) (by decide), (show Ac96.1 367 11 = w96_0 from ek96_0)]
                        refine hxj_iast (by rfl) (by rfl) rfl (by omega) (by omega) hA98 (hbokN (by rfl)) (by rfl) (by rfl) (fun A101 hA101 eA101 fA101 gA101 => ?_)
                        refine hxa_aload_n (by rfl) rfl ?_
                        refine hxa_dupR (by rfl) ?_
                        refine hxj_getK (by rfl) (by rfl) (by rfl) (hkA eA101 rfl) ?_
                        refine hxa_iconst (by rfl) rfl ?_
                        refine hxj_iadd (by rfl) rfl hk_1 (by omega) (by omega) (fun z102 ez102 => ?_)
                        refine hxj_putI (by rfl) (by rfl) (by rfl) (by rfl) hA101 (hbok (by rfl) rfl (by omega) (by omega)) (by rfl) (by rfl) (fun A103 hA103 eA103 fA103 => ?_)
                        refine hxa_aload_n (by rfl) rfl ?_
                        have nA103_11 : (A103.1 367 11).toInt = w96_0.toInt := congrArg Int32.toInt (hkF eA103 (by omega) (hkA eA101 (frA98_4.trans ek96_0)))
                        have nA103_12 : (A103.1 367 12).toInt = w96_1.toInt := congrArg Int32.toInt (hkF eA103 (by omega) (hkA eA101 (frA98_0.trans ek96_1)))
                        have nA103_13 : (A103.1 367 13).toInt = w96_2.toInt := congrArg Int32.toInt (hkF eA103 (by omega) (hkA eA101 (frA98_5.trans ek96_2)))
                        have nA103_37 : (A103.1 367 37).toInt = (A98.1 367 37).toInt := congrArg Int32.toInt (hkF eA103 (by omega) (hkA eA101 rfl))
                        have nA103_41 : (A103.1 367 41).toInt = z102.toInt := congrArg Int32.toInt (hkS eA103)
                        refine hxa_call0 (by rfl) (by rfl) (by rfl) (by rfl) (by rfl) (by rfl) (hX147q4 (d := d + 1) hA103 ) ?_
                        rintro _ A104 ⟨hA104, frA104_0, frA104_1, frA104_2, frA104_3, frA104_4, frA104_5, aeA104, rfl, fA104⟩
                        have ttA104_12 : (A104.1 367 12).toInt = w96_1.toInt := congrArg Int32.toInt (frA104_0.trans (hkF eA103 (by omega) (hkA eA101 (frA98_0.trans ek96_1))))
                        have ttA104_19 : (A104.1 367 19).toInt = (A.1 367 19).toInt := congrArg Int32.toInt (frA104_1.trans (hkF eA103 (by omega) (hkA eA101 (frA98_1.trans ek96_3))))
                        have ttA104_20 : (A104.1 367 20).toInt = (A.1 367 20).toInt := congrArg Int32.toInt (frA104_2.trans (hkF eA103 (by omega) (hkA eA101 (frA98_2.trans ek96_4))))
                        have ttA104_31 : (A104.1 367 31).toInt = (A.1 367 31).toInt := congrArg Int32.toInt (frA104_3.trans (hkF eA103 (by omega) (hkA eA101 (frA98_3.trans ek96_5))))
                        have ttA104_37 : (A104.1 367 37).toInt = (A98.1 367 37).toInt := congrArg Int32.toInt (frA104_4.trans (hkF eA103 (by omega) (hkA eA101 rfl)))
                        have ttA104_41 : (A104.1 367 41).toInt = z102.toInt := congrArg Int32.toInt (frA104_5.trans (hkS eA103))
                        have fbA104_367_11 := hA104.f (i := 367) (k := 11) (by rfl)
                        have fbA104_367_13 := hA104.f (i := 367) (k := 13) (by rfl)
                        have nA104_12 : (A104.1 367 12).toInt = w96_1.toInt := congrArg Int32.toInt (frA104_0.trans (hkF eA103 (by omega) (hkA eA101 (frA98_0.trans ek96_1))))
                        have nA104_37 : (A104.1 367 37).toInt = (A98.1 367 37).toInt := congrArg Int32.toInt (frA104_4.trans (hkF eA103 (by omega) (hkA eA101 rfl)))
                        have nA104_41 : (A104.1 367 41).toInt = z102.toInt := congrArg Int32.toInt (frA104_5.trans (hkS eA103))
                        have aj105 : A104.2.1 = hs_up A98.2.1 392 (A98.1 367 41).toNatClampNeg z100 := by rw [aeA104, (show A103.2.1 = A101.2.1 from congrArg Prod.fst fA103), fA101]
                        have j105 : ¬ (A104.1 367 13).toInt = 0 ∨ ((A.1 367 13).toInt = 0 ∧ (A104.1 367 37).toInt ≤ 0 + (A104.1 367 11).toInt ∧ ∃ o g : Nat, hQ 0 (A.1 367 37).toInt o g 0 A104 ∧ (o : Int) = (A104.1 367 12).toInt - x12_1.toInt ∧ (A104.1 367 12).toInt ≤ 6) := by
                          by_cases h9 : (A104.1 367 13).toInt = 0
                          · obtain ⟨g5, hq5⟩ : ∃ g5, hQ 0 (A.1 367 37).toInt o_4 g5 0 A104 := by
                              have e0 := h20_99 (by omega)
                              subst e0
                              exact ⟨1, hQ.push hq2_99 (j := (A98.1 367 41)) rfl aj105 (by omega) (by omega) (by omega) (by omega)⟩
                            exact Or.inr ⟨by omega, by omega, _, g5, hq5, by omega, by omega⟩
                          · exact Or.inl h9
                        refine hxa_goto (by rfl) ?_
                        exact ih12 (A104.1 367 11) w96_1 (A104.1 367 13) (A98.1 367 37) z102 x12_1 (Int32.ofNat 1) A104 hA104 rfl (frA104_0.trans (hkF eA103 (by omega) (hkA eA101 (frA98_0.trans ek96_1)))) rfl (frA104_1.trans (hkF eA103 (by omega) (hkA eA101 (frA98_1.trans ek96_3)))) (frA104_2.trans (hkF eA103 (by omega) (hkA eA101 (frA98_2.trans ek96_4)))) (frA104_3.trans (hkF eA103 (by omega) (hkA eA101 (frA98_3.trans ek96_5)))) (frA104_4.trans (hkF eA103 (by omega) (hkA eA101 rfl))) (frA104_5.trans (hkS eA103)) (by omega) (by omega) (by omega) (by omega) (by omega) (by omega) (by omega) (by omega) (by omega) (by omega) (by omega) (by omega) (by exact j105) (by exact (hkz_99.trans (hK.w aj105) (Nat.le_refl _))) (by omega) (by omega)
                  ·
                    refine hxj_zne (by rfl) rfl (fun q106 => False.elim (by omega)) (fun q106 => ?_)
                    refine hxa_aload_n (by rfl) rfl ?_
                    refine hxa_bipush (by rfl) rfl ?_
                    refine hxa_call0 (by rfl) (by rfl) (by rfl) (by rfl) (by rfl) (by rfl) (hX144q4 (d := d + 2) hAc96 (Int32.ofNat 15)) ?_
                    rintro _ _ ⟨rfl, z107, rfl, fz107⟩
                    rcases fz107 with fz107 | fz107
                    ·
                      refine hxj_zeq (by rfl) rfl (fun q108 => False.elim (by omega)) (fun q108 => ?_)
                      refine hxa_iconst (by rfl) rfl ?_
                      refine hxa_goto (by rfl) ?_
                      refine hxa_s1 (by rfl) (Or.inl ⟨_, rfl, rfl⟩) rfl ?_
                      refine hxa_iload_n (by rfl) rfl ?_
                      refine hxj_zne (by rfl) hk_1 (fun q109 => ?_) (fun q109 => False.elim (by omega))
                      refine hxa_aload_n (by rfl) rfl ?_
                      refine hxa_aload_n (by rfl) rfl ?_
                      refine hxa_bipush (by rfl) rfl ?_
                      refine hxa_call0 (by rfl) (by rfl) (by rfl) (by rfl) (by rfl) (by rfl) (hX144q4 (d := d + 2) hAc96 (Int32.ofNat 10)) ?_
                      rintro _ _ ⟨rfl, z110, rfl, fz110⟩
                      rcases fz110 with fz110 | fz110
                      ·
                        refine hxj_zne (by rfl) rfl (fun q111 => ?_) (fun q111 => False.elim (by omega))
                        refine hxa_iconst (by rfl) rfl ?_
                        refine hxa_goto (by rfl) ?_
                        refine hxa_call0 (by rfl) (by rfl) (by rfl) (by rfl) (by rfl) (by rfl) (hX160q4 (d := d + 1) hAc96 hq_4 hl (Int32.ofNat 1) (by omega) (by omega)) ?_
                        rintro _ A112 ⟨hA112, frA112_0, frA112_1, frA112_2, frA112_3, frA112_4, frA112_5, rfl, fA112⟩
                        have ttA112_12 : (A112.1 367 12).toInt = w96_1.toInt := congrArg Int32.toInt (frA112_0.trans ek96_1)
                        have ttA112_19 : (A112.1 367 19).toInt = (A.1 367 19).toInt := congrArg Int32.toInt (frA112_1.trans ek96_3)
                        have ttA112_20 : (A112.1 367 20).toInt = (A.1 367 20).toInt := congrArg Int32.toInt (frA112_2.trans ek96_4)
                        have ttA112_31 : (A112.1 367 31).toInt = (A.1 367 31).toInt := congrArg Int32.toInt (frA112_3.trans ek96_5)
                        have ttA112_11 : (A112.1 367 11).toInt = w96_0.toInt := congrArg Int32.toInt (frA112_4.trans ek96_0)
                        have ttA112_13 : (A112.1 367 13).toInt = w96_2.toInt := congrArg Int32.toInt (frA112_5.trans ek96_2)
                        have fbA112_367_37 := hA112.f (i := 367) (k := 37) (by rfl)
                        have fbA112_367_41 := hA112.f (i := 367) (k := 41) (by rfl)
                        obtain ⟨g2_113, hq2_113, h21_113, h20_113, hk2_113, h92_113, hc2_113⟩ := fA112
                        have hw2_113 := hq2_113.w
                        have hkz_113 := u96_1.trans hk2_113 (by omega)
                        have cz_113 := hQ.cb hq2_113 (hA112.f (i := 367) (k := 11) (by rfl)).2
                        refine hxa_aload_n (by rfl) rfl ?_
                        refine hxa_get (v := .ref 393) (by rfl) (by rfl) (by rfl) rfl ?_
                        refine hxa_aload_n (by rfl) rfl ?_
                        refine hxj_getK (by rfl) (by rfl) (by rfl) rfl ?_
                        refine hxa_aload_n (by rfl) rfl ?_
                        refine hxa_get (v := .ref 371) (by rfl) (by rfl) (by rfl) rfl ?_
                        refine hxa_aload_n (by rfl) rfl ?_
                        refine hxj_getK (by rfl) (by rfl) (by rfl) (frA112_4.trans ek96_0) ?_
                        refine hxj_iald (by rfl) (by rfl) rfl (by omega) (by omega) (fun z114 ez114 => ?_)
                        have kzz114 : z114.toInt = (Ac96.2.1 370 (Ac96.1 367 11).toNatClampNeg).toInt := by rw [← ez114, hk2_113.1 370 (by decide) (by decide) (by decide), (show Ac96.1 367 11 = w96_0 from ek96_0)]
                        refine hxj_iast (by rfl) (by rfl) rfl (by omega) (by omega) hA112 (hbokN (by rfl)) (by rfl) (by rfl) (fun A115 hA115 eA115 fA115 gA115 => ?_)
                        refine hxa_aload_n (by rfl) rfl ?_
                        refine hxa_dupR (by rfl) ?_
                        refine hxj_getK (by rfl) (by rfl) (by rfl) (hkA eA115 rfl) ?_
                        refine hxa_iconst (by rfl) rfl ?_
                        refine hxj_iadd (by rfl) rfl hk_1 (by omega) (by omega) (fun z116 ez116 => ?_)
                        refine hxj_putI (by rfl) (by rfl) (by rfl) (by rfl) hA115 (hbok (by rfl) rfl (by omega) (by omega)) (by rfl) (by rfl) (fun A117 hA117 eA117 fA117 => ?_)
                        refine hxa_aload_n (by rfl) rfl ?_
                        have nA117_11 : (A117.1 367 11).toInt = w96_0.toInt := congrArg Int32.toInt (hkF eA117 (by omega) (hkA eA115 (frA112_4.trans ek96_0)))
                        have nA117_12 : (A117.1 367 12).toInt = w96_1.toInt := congrArg Int32.toInt (hkF eA117 (by omega) (hkA eA115 (frA112_0.trans ek96_1)))
                        have nA117_13 : (A117.1 367 13).toInt = w96_2.toInt := congrArg Int32.toInt (hkF eA117 (by omega) (hkA eA115 (frA112_5.trans ek96_2)))
                        have nA117_37 : (A117.1 367 37).toInt = (A112.1 367 37).toInt := congrArg Int32.toInt (hkF eA117 (by omega) (hkA eA115 rfl))
                        have nA117_41 : (A117.1 367 41).toInt = z116.toInt := congrArg Int32.toInt (hkS eA117)
                        refine hxa_call0 (by rfl) (by rfl) (by rfl) (by rfl) (by rfl) (by rfl) (hX147q4 (d := d + 1) hA117 ) ?_
                        rintro _ A118 ⟨hA118, frA118_0, frA118_1, frA118_2, frA118_3, frA118_4, frA118_5, aeA118, rfl, fA118⟩
                        have ttA118_12 : (A118.1 367 12).toInt = w96_1.toInt := congrArg Int32.toInt (frA118_0.trans (hkF eA117 (by omega) (hkA eA115 (frA112_0.trans ek96_1))))
                        have ttA118_19 : (A118.1 367 19).toInt = (A.1 367 19).toInt := congrArg Int32.toInt (frA118_1.trans (hkF eA117 (by omega) (hkA eA115 (frA112_1.trans ek96_3))))
                        have ttA118_20 : (A118.1 367 20).toInt = (A.1 367 20).toInt := congrArg Int32.toInt (frA118_2.trans (hkF eA117 (by omega) (hkA eA115 (frA112_2.trans ek96_4))))
                        have ttA118_31 : (A118.1 367 31).toInt = (A.1 367 31).toInt := congrArg Int32.toInt (frA118_3.trans (hkF eA117 (by omega) (hkA eA115 (frA112_3.trans ek96_5))))
                        have ttA118_37 : (A118.1 367 37).toInt = (A112.1 367 37).toInt := congrArg Int32.toInt (frA118_4.trans (hkF eA117 (by omega) (hkA eA115 rfl)))
                        have ttA118_41 : (A118.1 367 41).toInt = z116.toInt := congrArg Int32.toInt (frA118_5.trans (hkS eA117))
                        have fbA118_367_11 := hA118.f (i := 367) (k := 11) (by rfl)
                        have fbA118_367_13 := hA118.f (i := 367) (k := 13) (by rfl)
                        have nA118_12 : (A118.1 367 12).toInt = w96_1.toInt := congrArg Int32.toInt (frA118_0.trans (hkF eA117 (by omega) (hkA eA115 (frA112_0.trans ek96_1))))
                        have nA118_37 : (A118.1 367 37).toInt = (A112.1 367 37).toInt := congrArg Int32.toInt (frA118_4.trans (hkF eA117 (by omega) (hkA eA115 rfl)))
                        have nA118_41 : (A118.1 367 41).toInt = z116.toInt := congrArg Int32.toInt (frA118_5.trans (hkS eA117))
                        have aj119 : A118.2.1 = hs_up A112.2.1 392 (A112.1 367 41).toNatClampNeg z114 := by rw [aeA118, (show A117.2.1 = A115.2.1 from congrArg Prod.fst fA117), fA115]
                        have j119 : ¬ (A118.1 367 13).toInt = 0 ∨ ((A.1 367 13).toInt = 0 ∧ (A118.1 367 37).toInt ≤ 0 + (A118.1 367 11).toInt ∧ ∃ o g : Nat, hQ 0 (A.1 367 37).toInt o g 0 A118 ∧ (o : Int) = (A118.1 367 12).toInt - x12_1.toInt ∧ (A118.1 367 12).toInt ≤ 6) := by
                          by_cases h9 : (A118.1 367 13).toInt = 0
                          · obtain ⟨g5, hq5⟩ : ∃ g5, hQ 0 (A.1 367 37).toInt o_4 g5 0 A118 := by
                              rcases (show g2_113 = 0 ∨ g2_113 = 1 by omega) with e0 | e0
                              · subst e0
                                exact ⟨2, hQ.push hq2_113 (j := (A112.1 367 41)) rfl aj119 (by omega) (by omega) (by omega) (by omega)⟩
                              · subst e0
                                exact ⟨3, hQ.push hq2_113 (j := (A112.1 367 41)) rfl aj119 (by omega) (by omega) (by omega) (by omega)⟩
                            exact Or.inr ⟨by omega, by omega, _, g5, hq5, by omega, by omega⟩
                          · exact Or.inl h9
                        refine hxa_goto (by rfl) ?_
                        exact ih12 (A118.1 367 11) w96_1 (A118.1 367 13) (A112.1 367 37) z116 x12_1 (Int32.ofNat 1) A118 hA118 rfl (frA118_0.trans (hkF eA117 (by omega) (hkA eA115 (frA112_0.trans ek96_1)))) rfl (frA118_1.trans (hkF eA117 (by omega) (hkA eA115 (frA112_1.trans ek96_3)))) (frA118_2.trans (hkF eA117 (by omega) (hkA eA115 (frA112_2.trans ek96_4)))) (frA118_3.trans (hkF eA117 (by omega) (hkA eA115 (frA112_3.trans ek96_5)))) (frA118_4.trans (hkF eA117 (by omega) (hkA eA115 rfl))) (frA118_5.trans (hkS eA117)) (by omega) (by omega) (by omega) (by omega) (by omega) (by omega) (by omega) (by omega) (by omega) (by omega) (by omega) (by omega) (by exact j119) (by exact (hkz_113.trans (hK.w aj119) (Nat.le_refl _))) (by omega) (by omega)
                      ·
                        refine hxj_zne (by rfl) rfl (fun q120 => False.elim (by omega)) (fun q120 => ?_)
                        refine hxa_aload_n (by rfl) rfl ?_
                        refine hxa_bipush (by rfl) rfl ?_
                        refine hxa_call0 (by rfl) (by rfl) (by rfl) (by rfl) (by rfl) (by rfl) (hX144q4 (d := d + 2) hAc96 (Int32.ofNat 15)) ?_
                        rintro _ _ ⟨rfl, z121, rfl, fz121⟩
                        rcases fz121 with fz121 | fz121
                        ·
                          refine hxj_zeq (by rfl) rfl (fun q122 => False.elim (by omega)) (fun q122 => ?_)
                          refine hxa_iconst (by rfl) rfl ?_
                          refine hxa_goto (by rfl) ?_
                          refine hxa_call0 (by rfl) (by rfl) (by rfl) (by rfl) (by rfl) (by rfl) (hX160q4 (d := d + 1) hAc96 hq_4 hl (Int32.ofNat 1) (by omega) (by omega)) ?_
                          rintro _ A123 ⟨hA123, frA123_0, frA123_1, frA123_2, frA123_3, frA123_4, frA123_5, rfl, fA123⟩
                          have ttA123_12 : (A123.1 367 12).toInt = w96_1.toInt := congrArg Int32.toInt (frA123_0.trans ek96_1)
                          have ttA123_19 : (A123.1 367 19).toInt = (A.1 367 19).toInt := congrArg Int32.toInt (frA123_1.trans ek96_3)
                          have ttA123_20 : (A123.1 367 20).toInt = (A.1 367 20).toInt := congrArg Int32.toInt (frA123_2.trans ek96_4)
                          have ttA123_31 : (A123.1 367 31).toInt = (A.1 367 31).toInt := congrArg Int32.toInt (frA123_3.trans ek96_5)
                          have ttA123_11 : (A123.1 367 11).toInt = w96_0.toInt := congrArg Int32.toInt (frA123_4.trans ek96_0)
                          have ttA123_13 : (A123.1 367 13).toInt = w96_2.toInt := congrArg Int32.toInt (frA123_5.trans ek96_2)
                          have fbA123_367_37 := hA123.f (i := 367) (k := 37) (by rfl)
                          have fbA123_367_41 := hA123.f (i := 367) (k := 41) (by rfl)
                          obtain ⟨g2_124, hq2_124, h21_124, h20_124, hk2_124, h92_124, hc2_124⟩ := fA123
                          have hw2_124 := hq2_124.w
                          have hkz_124 := u96_1.trans hk2_124 (by omega)
                          have cz_124 := hQ.cb hq2_124 (hA123.f (i := 367) (k := 11) (by rfl)).2
                          refine hxa_aload_n (by rfl) rfl ?_
                          refine hxa_get (v := .ref 393) (by rfl) (by rfl) (by rfl) rfl ?_
                          refine hxa_aload_n (by rfl) rfl ?_
                          refine hxj_getK (by rfl) (by rfl) (by rfl) rfl ?_
                          refine hxa_aload_n (by rfl) rfl ?_
                          refine hxa_get (v := .ref 371) (by rfl) (by rfl) (by rfl) rfl ?_
                          refine hxa_aload_n (by rfl) rfl ?_
                          refine hxj_getK (by rfl) (by rfl) (by rfl) (frA123_4.trans ek96_0) ?_
                          refine hxj_iald (by rfl) (by rfl) rfl (by omega) (by omega) (fun z125 ez125 => ?_)
                          have kzz125 : z125.toInt = (Ac96.2.1 370 (Ac96.1 367 11).toNatClampNeg).toInt := by rw [← ez125, hk2_124.1 370 (by decide) (by decide) (by decide), (show Ac96.1 367 11 = w96_0 from ek96_0)]
                          refine hxj_iast (by rfl) (by rfl) rfl (by omega) (by omega) hA123 (hbokN (by rfl)) (by rfl) (by rfl) (fun A126 hA126 eA126 fA126 gA126 => ?_)
                          refine hxa_aload_n (by rfl) rfl ?_
                          refine hxa_dupR (by rfl) ?_
                          refine hxj_getK (by rfl) (by rfl) (by rfl) (hkA eA126 rfl) ?_
                          refine hxa_iconst (by rfl) rfl ?_
                          refine hxj_iadd (by rfl) rfl hk_1 (by omega) (by omega) (fun z127 ez127 => ?_)
                          refine hxj_putI (by rfl) (by rfl) (by rfl) (by rfl) hA126 (hbok (by rfl) rfl (by omega) (by omega)) (by rfl) (by rfl) (fun A128 hA128 eA128 fA128 => ?_)
                          refine hxa_aload_n (by rfl) rfl ?_
                          have nA128_11 : (A128.1 367 11).toInt = w96_0.toInt := congrArg Int32.toInt (hkF eA128 (by omega) (hkA eA126 (frA123_4.trans ek96_0)))
                          have nA128_12 : (A128.1 367 12).toInt = w96_1.toInt := congrArg Int32.toInt (hkF eA128 (by omega) (hkA eA126 (frA123_0.trans ek96_1)))
                          have nA128_13 : (A128.1 367 13).toInt = w96_2.toInt := congrArg Int32.toInt (hkF eA128 (by omega) (hkA eA126 (frA123_5.trans ek96_2)))
                          have nA128_37 : (A128.1 367 37).toInt = (A123.1 367 37).toInt := congrArg Int32.toInt (hkF eA128 (by omega) (hkA eA126 rfl))
                          have nA128_41 : (A128.1 367 41).toInt = z127.toInt := congrArg Int32.toInt (hkS eA128)
                          refine hxa_call0 (by rfl) (by rfl) (by rfl) (by rfl) (by rfl) (by rfl) (hX147q4 (d := d + 1) hA128 ) ?_
                          rintro _ A129 ⟨hA129, frA129_0, frA129_1, frA129_2, frA129_3, frA129_4, frA129_5, aeA129, rfl, fA129⟩
                          have ttA129_12 : (A129.1 367 12).toInt = w96_1.toInt := congrArg Int32.toInt (frA129_0.trans (hkF eA128 (by omega) (hkA eA126 (frA123_0.trans ek96_1))))
                          have ttA129_19 : (A129.1 367 19).toInt = (A.1 367 19).toInt := congrArg Int32.toInt (frA129_1.trans (hkF eA128 (by omega) (hkA eA126 (frA123_1.trans ek96_3))))
                          have ttA129_20 : (A129.1 367 20).toInt = (A.1 367 20).toInt := congrArg Int32.toInt (frA129_2.trans (hkF eA128 (by omega) (hkA eA126 (frA123_2.trans ek96_4))))
                          have ttA129_31 : (A129.1 367 31).toInt = (A.1 367 31).toInt := congrArg Int32.toInt (frA129_3.trans (hkF eA128 (by omega) (hkA eA126 (frA123_3.trans ek96_5))))
                          have ttA129_37 : (A129.1 367 37).toInt = (A123.1 367 37).toInt := congrArg Int32.toInt (frA129_4.trans (hkF eA128 (by omega) (hkA eA126 rfl)))
                          have ttA129_41 : (A129.1 367 41).toInt = z127.toInt := congrArg Int32.toInt (frA129_5.trans (hkS eA128))
                          have fbA129_367_11 := hA129.f (i := 367) (k := 11) (by rfl)
                          have fbA129_367_13 := hA129.f (i := 367) (k := 13) (by rfl)
                          have nA129_12 : (A129.1 367 12).toInt = w96_1.toInt := congrArg Int32.toInt (frA129_0.trans (hkF eA128 (by omega) (hkA eA126 (frA123_0.trans ek96_1))))
                          have nA129_37 : (A129.1 367 37).toInt = (A123.1 367 37).toInt := congrArg Int32.toInt (frA129_4.trans (hkF eA128 (by omega) (hkA eA126 rfl)))
                          have nA129_41 : (A129.1 367 41).toInt = z127.toInt := congrArg Int32.toInt (frA129_5.trans (hkS eA128))
                          have aj130 : A129.2.1 = hs_up A123.2.1 392 (A123.1 367 41).toNatClampNeg z125 := by rw [aeA129, (show A128.2.1 = A126.2.1 from congrArg Prod.fst fA128), fA126]
                          have j130 : ¬ (A129.1 367 13).toInt = 0 ∨ ((A.1 367 13).toInt = 0 ∧ (A129.1 367 37).toInt ≤ 0 + (A129.1 367 11).toInt ∧ ∃ o g : Nat, hQ 0 (A.1 367 37).toInt o g 0 A129 ∧ (o : Int) = (A129.1 367 12).toInt - x12_1.toInt ∧ (A129.1 367 12).toInt ≤ 6) := by
                            by_cases h9 : (A129.1 367 13).toInt = 0
                            · obtain ⟨g5, hq5⟩ : ∃ g5, hQ 0 (A.1 367 37).toInt o_4 g5 0 A129 := by
                                rcases (show g2_124 = 0 ∨ g2_124 = 1 by omega) with e0 | e0
                                · subst e0
                                  exact ⟨2, hQ.push hq2_124 (j := (A123.1 367 41)) rfl aj130 (by omega) (by omega) (by omega) (by omega)⟩
                                · subst e0
                                  exact ⟨3, hQ.push hq2_124 (j := (A123.1 367 41)) rfl aj130 (by omega) (by omega) (by omega) (by omega)⟩
                              exact Or.inr ⟨by omega, by omega, _, g5, hq5, by omega, by omega⟩
                            · exact Or.inl h9
                          refine hxa_goto (by rfl) ?_
                          exact ih12 (A129.1 367 11) w96_1 (A129.1 367 13) (A123.1 367 37) z127 x12_1 (Int32.ofNat 1) A129 hA129 rfl (frA129_0.trans (hkF eA128 (by omega) (hkA eA126 (frA123_0.trans ek96_1)))) rfl (frA129_1.trans (hkF eA128 (by omega) (hkA eA126 (frA123_1.trans ek96_3)))) (frA129_2.trans (hkF eA128 (by omega) (hkA eA126 (frA123_2.trans ek96_4)))) (frA129_3.trans (hkF eA128 (by omega) (hkA eA126 (frA123_3.trans ek96_5)))) (frA129_4.trans (hkF eA128 (by omega) (hkA eA126 rfl))) (frA129_5.trans (hkS eA128)) (by omega) (by omega) (by omega) (by omega) (by omega) (by omega) (by omega) (by omega) (by omega) (by omega) (by omega) (by omega) (by exact j130) (by exact (hkz_124.trans (hK.w aj130) (Nat.le_refl _))) (by omega) (by omega)
                        ·
                          refine hxj_zeq (by rfl) rfl (fun q131 => ?_) (fun q131 => False.elim (by omega))
                          refine hxa_iconst (by rfl) rfl ?_
                          refine hxa_call0 (by rfl) (by rfl) (by rfl) (by rfl) (by rfl) (by rfl) (hX160q4 (d := d + 1) hAc96 hq_4 hl (Int32.ofNat 0) (by omega) (by omega)) ?_
                          rintro _ A132 ⟨hA132, frA132_0, frA132_1, frA132_2, frA132_3, frA132_4, frA132_5, rfl, fA132⟩
                          have ttA132_12 : (A132.1 367 12).toInt = w96_1.toInt := congrArg Int32.toInt (frA132_0.trans ek96_1)
                          have ttA132_19 : (A132.1 367 19).toInt = (A.1 367 19).toInt := congrArg Int32.toInt (frA132_1.trans ek96_3)
                          have ttA132_20 : (A132.1 367 20).toInt = (A.1 367 20).toInt := congrArg Int32.toInt (frA132_2.trans ek96_4)
                          have ttA132_31 : (A132.1 367 31).toInt = (A.1 367 31).toInt := congrArg Int32.toInt (frA132_3.trans ek96_5)
                          have ttA132_11 : (A132.1 367 11).toInt = w96_0.toInt := congrArg Int32.toInt (frA132_4.trans ek96_0)
                          have ttA132_13 : (A132.1 367 13).toInt = w96_2.toInt := congrArg Int32.toInt (frA132_5.trans ek96_2)
                          have fbA132_367_37 := hA132.f (i := 367) (k := 37) (by rfl)
                          have fbA132_367_41 := hA132.f (i := 367) (k := 41) (by rfl)
                          obtain ⟨g2_133, hq2_133, h21_133, h20_133, hk2_133, h92_133, hc2_133⟩ := fA132
                          have hw2_133 := hq2_133.w
                          have hkz_133 := u96_1.trans hk2_133 (by omega)
                          have cz_133 := hQ.cb hq2_133 (hA132.f (i := 367) (k := 11) (by rfl)).2
                          refine hxa_aload_n (by rfl) rfl ?_
                          refine hxa_get (v := .ref 393) (by rfl) (by rfl) (by rfl) rfl ?_
                          refine hxa_aload_n (by rfl) rfl ?_
                          refine hxj_getK (by rfl) (by rfl) (by rfl) rfl ?_
                          refine hxa_aload_n (by rfl) rfl ?_
                          refine hxa_get (v := .ref 371) (by rfl) (by rfl) (by rfl) rfl ?_
                          refine hxa_aload_n (by rfl) rfl ?_
                          refine hxj_getK (by rfl) (by rfl) (by rfl) (frA132_4.trans ek96_0) ?_
                          refine hxj_iald (by rfl) (by rfl) rfl (by omega) (by omega) (fun z134 ez134 => ?_)
                          have kzz134 : z134.toInt = (Ac96.2.1 370 (Ac96.1 367 11).toNatClampNeg).toInt := by rw [← ez134, hk2_133.1 370 (by decide) (by decide) (by decide), (show Ac96.1 367 11 = w96_0 from ek96_0)]
                          refine hxj_iast (by rfl) (by rfl) rfl (by omega) (by omega) hA132 (hbokN (by rfl)) (by rfl) (by rfl) (fun A135 hA135 eA135 fA135 gA135 => ?_)
                          refine hxa_aload_n (by rfl) rfl ?_
                          refine hxa_dupR (by rfl) ?_
                          refine hxj_getK (by rfl) (by rfl) (by rfl) (hkA eA135 rfl) ?_
                          refine hxa_iconst (by rfl) rfl ?_
                          refine hxj_iadd (by rfl) rfl hk_1 (by omega) (by omega) (fun z136 ez136 => ?_)
                          refine hxj_putI (by rfl) (by rfl) (by rfl) (by rfl) hA135 (hbok (by rfl) rfl (by omega) (by omega)) (by rfl) (by rfl) (fun A137 hA137 eA137 fA137 => ?_)
                          refine hxa_aload_n (by rfl) rfl ?_
                          have nA137_11 : (A137.1 367 11).toInt = w96_0.toInt := congrArg Int32.toInt (hkF eA137 (by omega) (hkA eA135 (frA132_4.trans ek96_0)))
                          have nA137_12 : (A137.1 367 12).toInt = w96_1.toInt := congrArg Int32.toInt (hkF eA137 (by omega) (hkA eA135 (frA132_0.trans ek96_1)))
                          have nA137_13 : (A137.1 367 13).toInt = w96_2.toInt := congrArg Int32.toInt (hkF eA137 (by omega) (hkA eA135 (frA132_5.trans ek96_2)))
                          have nA137_37 : (A137.1 367 37).toInt = (A132.1 367 37).toInt := congrArg Int32.toInt (hkF eA137 (by omega) (hkA eA135 rfl))
                          have nA137_41 : (A137.1 367 41).toInt = z136.toInt := congrArg Int32.toInt (hkS eA137)
                          refine hxa_call0 (by rfl) (by rfl) (by rfl) (by rfl) (by rfl) (by rfl) (hX147q4 (d := d + 1) hA137 ) ?_
                          rintro _ A138 ⟨hA138, frA138_0, frA138_1, frA138_2, frA138_3, frA138_4, frA138_5, aeA138, rfl, fA138⟩
                          have ttA138_12 : (A138.1 367 12).toInt = w96_1.toInt := congrArg Int32.toInt (frA138_0.trans (hkF eA137 (by omega) (hkA eA135 (frA132_0.trans ek96_1))))
                          have ttA138_19 : (A138.1 367 19).toInt = (A.1 367 19).toInt := congrArg Int32.toInt (frA138_1.trans (hkF eA137 (by omega) (hkA eA135 (frA132_1.trans ek96_3))))
                          have ttA138_20 : (A138.1 367 20).toInt = (A.1 367 20).toInt := congrArg Int32.toInt (frA138_2.trans (hkF eA137 (by omega) (hkA eA135 (frA132_2.trans ek96_4))))
                          have ttA138_31 : (A138.1 367 31).toInt = (A.1 367 31).toInt := congrArg Int32.toInt (frA138_3.trans (hkF eA137 (by omega) (hkA eA135 (frA132_3.trans ek96_5))))
                          have ttA138_37 : (A138.1 367 37).toInt = (A132.1 367 37).toInt := congrArg Int32.toInt (frA138_4.trans (hkF eA137 (by omega) (hkA eA135 rfl)))
                          have ttA138_41 : (A138.1 367 41).toInt = z136.toInt := congrArg Int32.toInt (frA138_5.trans (hkS eA137))
                          have fbA138_367_11 := hA138.f (i := 367) (k := 11) (by rfl)
                          have fbA138_367_13 := hA138.f (i := 367) (k := 13) (by rfl)
                          have nA138_12 : (A138.1 367 12).toInt = w96_1.toInt := congrArg Int32.toInt (frA138_0.trans (hkF eA137 (by omega) (hkA eA135 (frA132_0.trans ek96_1))))
                          have nA138_37 : (A138.1 367 37).toInt = (A132.1 367 37).toInt := congrArg Int32.toInt (frA138_4.trans (hkF eA137 (by omega) (hkA eA135 rfl)))
                          have nA138_41 : (A138.1 367 41).toInt = z136.toInt := congrArg Int32.toInt (frA138_5.trans (hkS eA137))
                          have aj139 : A138.2.1 = hs_up A132.2.1 392 (A132.1 367 41).toNatClampNeg z134 := by rw [aeA138, (show A137.2.1 = A135.2.1 from congrArg Prod.fst fA137), fA135]
                          have j139 : ¬ (A138.1 367 13).toInt = 0 ∨ ((A.1 367 13).toInt = 0 ∧ (A138.1 367 37).toInt ≤ 0 + (A138.1 367 11).toInt ∧ ∃ o g : Nat, hQ 0 (A.1 367 37).toInt o g 0 A138 ∧ (o : Int) = (A138.1 367 12).toInt - x12_1.toInt ∧ (A138.1 367 12).toInt ≤ 6) := by
                            by_cases h9 : (A138.1 367 13).toInt = 0
                            · obtain ⟨g5, hq5⟩ : ∃ g5, hQ 0 (A.1 367 37).toInt o_4 g5 0 A138 := by
                                have e0 := h20_133 (by omega)
                                subst e0
                                exact ⟨1, hQ.push hq2_133 (j := (A132.1 367 41)) rfl aj139 (by omega) (by omega) (by omega) (by omega)⟩
                              exact Or.inr ⟨by omega, by omega, _, g5, hq5, by omega, by omega⟩
                            · exact Or.inl h9
                          refine hxa_goto (by rfl) ?_
                          exact ih12 (A138.1 367 11) w96_1 (A138.1 367 13) (A132.1 367 37) z136 x12_1 (Int32.ofNat 1) A138 hA138 rfl (frA138_0.trans (hkF eA137 (by omega) (hkA eA135 (frA132_0.trans ek96_1)))) rfl (frA138_1.trans (hkF eA137 (by omega) (hkA eA135 (frA132_1.trans ek96_3)))) (frA138_2.trans (hkF eA137 (by omega) (hkA eA135 (frA132_2.trans ek96_4)))) (frA138_3.trans (hkF eA137 (by omega) (hkA eA135 (frA132_3.trans ek96_5)))) (frA138_4.trans (hkF eA137 (by omega) (hkA eA135 rfl))) (frA138_5.trans (hkS eA137)) (by omega) (by omega) (by omega) (by omega) (by omega) (by omega) (by omega) (by omega) (by omega) (by omega) (by omega) (by omega) (by exact j139) (by exact (hkz_133.trans (hK.w aj139) (Nat.le_refl _))) (by omega) (by omega)
                    ·
                      refine hxj_zeq (by rfl) rfl (fun q140 => ?_) (fun q140 => False.elim (by omega))
                      refine hxa_iconst (by rfl) rfl ?_
                      refine hxa_s1 (by rfl) (Or.inl ⟨_, rfl, rfl⟩) rfl ?_
                      refine hxa_iload_n (by rfl) rfl ?_
                      refine hxj_zne (by rfl) hk_0 (fun q141 => False.elim (by omega)) (fun q141 => ?_)
                      refine hxa_aload_n (by rfl) rfl ?_
                      refine hxj_getK (by rfl) (by rfl) (by rfl) ek96_1 ?_
                      refine hxa_iload_n (by rfl) rfl ?_
                      refine hxj_cle (by rfl) rfl rfl (fun q142 => ?_) (fun q142 => ?_)
                      ·
                        refine hxa_aload_n (by rfl) rfl ?_
                        refine hxa_iconst (by rfl) rfl ?_
                        refine hxa_call0 (by rfl) (by rfl) (by rfl) (by rfl) (by rfl) (by rfl) (hX160q4 (d := d + 1) hAc96 hq_4 hl (Int32.ofNat 0) (by omega) (by omega)) ?_
                        rintro _ A143 ⟨hA143, frA143_0, frA143_1, frA143_2, frA143_3, frA143_4, frA143_5, rfl, fA143⟩
                        have ttA143_12 : (A143.1 367 12).toInt = w96_1.toInt := congrArg Int32.toInt (frA143_0.trans ek96_1)
                        have ttA143_19 : (A143.1 367 19).toInt = (A.1 367 19).toInt := congrArg Int32.toInt (frA143_1.trans ek96_3)
                        have ttA143_20 : (A143.1 367 20).toInt = (A.1 367 20).toInt := congrArg Int32.toInt (frA143_2.trans ek96_4)
                        have ttA143_31 : (A143.1 367 31).toInt = (A.1 367 31).toInt := congrArg Int32.toInt (frA143_3.trans ek96_5)
                        have ttA143_11 : (A143.1 367 11).toInt = w96_0.toInt := congrArg Int32.toInt (frA143_4.trans ek96_0)
                        have ttA143_13 : (A143.1 367 13).toInt = w96_2.toInt := congrArg Int32.toInt (frA143_5.trans ek96_2)
                        have fbA143_367_37 := hA143.f (i := 367) (k := 37) (by rfl)
                        have fbA143_367_41 := hA143.f (i := 367) (k := 41) (by rfl)
                        obtain ⟨g2_144, hq2_144, h21_144, h20_144, hk2_144, h92_144, hc2_144⟩ := fA143
                        have hw2_144 := hq2_144.w
                        have hkz_144 := u96_1.trans hk2_144 (by omega)
                        have cz_144 := hQ.cb hq2_144 (hA143.f (i := 367) (k := 11) (by rfl)).2
                        have nA143_11 : (A143.1 367 11).toInt = w96_0.toInt := congrArg Int32.toInt (frA143_4.trans ek96_0)
                        have nA143_12 : (A143.1 367 12).toInt = w96_1.toInt := congrArg Int32.toInt (frA143_0.trans ek96_1)
                        have nA143_13 : (A143.1 367 13).toInt = w96_2.toInt := congrArg Int32.toInt (frA143_5.trans ek96_2)
                        have fi145 : ¬ (A143.1 367 13).toInt = 0 ∨ ((A.1 367 13).toInt = 0 ∧ (A.1 367 11).toInt + 1 ≤ (A143.1 367 11).toInt ∧ (A143.1 367 12).toInt = (A.1 367 12).toInt ∧ (A143.1 367 37).toInt ≤ 0 + (A143.1 367 11).toInt ∧ hWe (A143.2.1 390) (A143.2.1 391) ((A143.1 367 37).toInt - (A.1 367 37).toInt).toNat (A.1 367 37).toInt.toNat 0 1) := by
                          by_cases h9 : (A143.1 367 13).toInt = 0
                          · have e0 := h20_144 (by omega)
                            subst e0
                            have eo : o_4 = 0 := by omega
                            subst eo
                            have hf := hQ.fin hq2_144
                            have h5 := hq2_144.2.2.2.2
                            exact Or.inr ⟨by omega, by omega, by omega, by omega, hf.2⟩
                          · exact Or.inl h9
                        exact hxa_return (by rfl) rfl (hP _ _ ⟨hA143, (frA143_1.trans ek96_3), (frA143_2.trans ek96_4), (frA143_3.trans ek96_5), rfl, ⟨fi145, by omega, by omega, by omega, hkz_144⟩⟩)
                      ·
                        refine hxa_aload_n (by rfl) rfl ?_
                        refine hxa_iconst (by rfl) rfl ?_
                        refine hxa_call0 (by rfl) (by rfl) (by rfl) (by rfl) (by rfl) (by rfl) (hX145q4 (d := d + 2) hAc96 (Int32.ofNat 1) (by omega) (by omega)) ?_
                        rintro _ A146 ⟨hA146, frA146_0, frA146_1, frA146_2, frA146_3, frA146_4, frA146_5, aeA146, rfl, fA146⟩
                        have ttA146_12 : (A146.1 367 12).toInt = w96_1.toInt := congrArg Int32.toInt (frA146_0.trans ek96_1)
                        have ttA146_19 : (A146.1 367 19).toInt = (A.1 367 19).toInt := congrArg Int32.toInt (frA146_1.trans ek96_3)
                        have ttA146_20 : (A146.1 367 20).toInt = (A.1 367 20).toInt := congrArg Int32.toInt (frA146_2.trans ek96_4)
                        have ttA146_31 : (A146.1 367 31).toInt = (A.1 367 31).toInt := congrArg Int32.toInt (frA146_3.trans ek96_5)
                        have ttA146_37 : (A146.1 367 37).toInt = w96_6.toInt := congrArg Int32.toInt (frA146_4.trans ek96_6)
                        have ttA146_41 : (A146.1 367 41).toInt = w96_7.toInt := congrArg Int32.toInt (frA146_5.trans ek96_7)
                        have fbA146_367_11 := hA146.f (i := 367) (k := 11) (by rfl)
                        have fbA146_367_13 := hA146.f (i := 367) (k := 13) (by rfl)
                        refine hxa_aload_n (by rfl) rfl ?_
                        refine hxa_iconst (by rfl) rfl ?_
                        have nA146_12 : (A146.1 367 12).toInt = w96_1.toInt := congrArg Int32.toInt (frA146_0.trans ek96_1)
                        have nA146_37 : (A146.1 367 37).toInt = w96_6.toInt := congrArg Int32.toInt (frA146_4.trans ek96_6)
                        have nA146_41 : (A146.1 367 41).toInt = w96_7.toInt := congrArg Int32.toInt (frA146_5.trans ek96_7)
                        have ahm147 : A146.2.1 = Ac96.2.1 := by rw [aeA146]
                        have hm147 := hQ.mv hq_4 (A' := A146) (by omega) (by omega) ahm147 (by omega)
                        refine hxa_call0 (by rfl) (by rfl) (by rfl) (by rfl) (by rfl) (by rfl) (hX160q4 (d := d + 1) hA146 hm147 hl (Int32.ofNat 0) (by omega) (by omega)) ?_
                        rintro _ A148 ⟨hA148, frA148_0, frA148_1, frA148_2, frA148_3, frA148_4, frA148_5, rfl, fA148⟩
                        have ttA148_12 : (A148.1 367 12).toInt = w96_1.toInt := congrArg Int32.toInt (frA148_0.trans (frA146_0.trans ek96_1))
                        have ttA148_19 : (A148.1 367 19).toInt = (A.1 367 19).toInt := congrArg Int32.toInt (frA148_1.trans (frA146_1.trans ek96_3))
                        have ttA148_20 : (A148.1 367 20).toInt = (A.1 367 20).toInt := congrArg Int32.toInt (frA148_2.trans (frA146_2.trans ek96_4))
                        have ttA148_31 : (A148.1 367 31).toInt = (A.1 367 31).toInt := congrArg Int32.toInt (frA148_3.trans (frA146_3.trans ek96_5))
                        have ttA148_11 : (A148.1 367 11).toInt = (A146.1 367 11).toInt := congrArg Int32.toInt (frA148_4.trans rfl)
                        have ttA148_13 : (A148.1 367 13).toInt = (A146.1 367 13).toInt := congrArg Int32.toInt (frA148_5.trans rfl)
                        have fbA148_367_37 := hA148.f (i := 367) (k := 37) (by rfl)
                        have fbA148_367_41 := hA148.f (i := 367) (k := 41) (by rfl)
                        obtain ⟨g2_149, hq2_149, h21_149, h20_149, hk2_149, h92_149, hc2_149⟩ := fA148
                        have hw2_149 := hq2_149.w
                        have hkz_149 := (u96_1.trans (hK.eq ahm147) (Nat.le_refl _)).trans hk2_149 (by omega)
                        have cz_149 := hQ.cb hq2_149 (hA148.f (i := 367) (k := 11) (by rfl)).2
                        have nA148_11 : (A148.1 367 11).toInt = (A146.1 367 11).toInt := congrArg Int32.toInt (frA148_4.trans rfl)
                        have nA148_12 : (A148.1 367 12).toInt = w96_1.toInt := congrArg Int32.toInt (frA148_0.trans (frA146_0.trans ek96_1))
                        have nA148_13 : (A148.1 367 13).toInt = (A146.1 367 13).toInt := congrArg Int32.toInt (frA148_5.trans rfl)
                        have fi150 : ¬ (A148.1 367 13).toInt = 0 ∨ ((A.1 367 13).toInt = 0 ∧ (A.1 367 11).toInt + 1 ≤ (A148.1 367 11).toInt ∧ (A148.1 367 12).toInt = (A.1 367 12).toInt ∧ (A148.1 367 37).toInt ≤ 0 + (A148.1 367 11).toInt ∧ hWe (A148.2.1 390) (A148.2.1 391) ((A148.1 367 37).toInt - (A.1 367 37).toInt).toNat (A.1 367 37).toInt.toNat 0 1) := by
                          by_cases h9 : (A148.1 367 13).toInt = 0
                          · have e0 := h20_149 (by omega)
                            subst e0
                            have eo : o_4 = 0 := by omega
                            subst eo
                            have hf := hQ.fin hq2_149
                            have h5 := hq2_149.2.2.2.2
                            exact Or.inr ⟨by omega, by omega, by omega, by omega, hf.2⟩
                          · exact Or.inl h9
                        exact hxa_return (by rfl) rfl (hP _ _ ⟨hA148, (frA148_1.trans (frA146_1.trans ek96_3)), (frA148_2.trans (frA146_2.trans ek96_4)), (frA148_3.trans (frA146_3.trans ek96_5)), rfl, ⟨fi150, by omega, by omega, by omega, hkz_149⟩⟩)
            ·
              obtain ⟨o_151, g_151, hq_151, ho_151, h6_151⟩ := u96_0
              have hw_151 := hq_151.w
              have cy_151 := hQ.cb hq_151 (hAc96.f (i := 367) (k := 11) (by rfl)).2
              obtain ⟨p_151, rfl⟩ : ∃ p, o_151 = p + 1 := ⟨o_151 - 1, by omega⟩
              refine hxa_aload_n (by rfl) rfl ?_
              refine hxa_iconst (by rfl) rfl ?_
              refine hxa_call0 (by rfl) (by rfl) (by rfl) (by rfl) (by rfl) (by rfl) (hX160q4 (d := d + 1) hAc96 hq_151 hl (Int32.ofNat 0) (by omega) (by omega)) ?_
              rintro _ A152 ⟨hA152, frA152_0, frA152_1, frA152_2, frA152_3, frA152_4, frA152_5, rfl, fA152⟩
              have ttA152_12 : (A152.1 367 12).toInt = w96_1.toInt := congrArg Int32.toInt (frA152_0.trans ek96_1)
              have ttA152_19 : (A152.1 367 19).toInt = (A.1 367 19).toInt := congrArg Int32.toInt (frA152_1.trans ek96_3)
              have ttA152_20 : (A152.1 367 20).toInt = (A.1 367 20).toInt := congrArg Int32.toInt (frA152_2.trans ek96_4)
              have ttA152_31 : (A152.1 367 31).toInt = (A.1 367 31).toInt := congrArg Int32.toInt (frA152_3.trans ek96_5)
              have ttA152_11 : (A152.1 367 11).toInt = w96_0.toInt := congrArg Int32.toInt (frA152_4.trans ek96_0)
              have ttA152_13 : (A152.1 367 13).toInt = w96_2.toInt := congrArg Int32.toInt (frA152_5.trans ek96_2)
              have fbA152_367_37 := hA152.f (i := 367) (k := 37) (by rfl)
              have fbA152_367_41 := hA152.f (i := 367) (k := 41) (by rfl)
              obtain ⟨g2_153, hq2_153, h21_153, h20_153, hk2_153, h92_153, hc2_153⟩ := fA152
              have hw2_153 := hq2_153.w
              have hkz_153 := u96_1.trans hk2_153 (by omega)
              have cz_153 := hQ.cb hq2_153 (hA152.f (i := 367) (k := 11) (by rfl)).2
              have e0_153 := h20_153 (by omega)
              subst e0_153
              refine hxa_aload_n (by rfl) rfl ?_
              refine hxa_dupR (by rfl) ?_
              refine hxj_getK (by rfl) (by rfl) (by rfl) rfl ?_
              refine hxa_iconst (by rfl) rfl ?_
              refine hxj_isub (by rfl) rfl hk_1 (by omega) (by omega) (fun z154 ez154 => ?_)
              refine hxj_putI (by rfl) (by rfl) (by rfl) (by rfl) hA152 (hbok (by rfl) rfl (by omega) (by omega)) (by rfl) (by rfl) (fun A155 hA155 eA155 fA155 => ?_)
              refine hxa_aload_n (by rfl) rfl ?_
              refine hxa_dupR (by rfl) ?_
              refine hxj_getK (by rfl) (by rfl) (by rfl) (hkF eA155 (by omega) (frA152_0.trans ek96_1)) ?_
              refine hxa_iconst (by rfl) rfl ?_
              refine hxj_isub (by rfl) rfl hk_1 (by omega) (by omega) (fun z156 ez156 => ?_)
              refine hxj_putI (by rfl) (by rfl) (by rfl) (by rfl) hA155 (hbok (by rfl) rfl (by omega) (by omega)) (by rfl) (by rfl) (fun A157 hA157 eA157 fA157 => ?_)
              refine hxa_aload_n (by rfl) rfl ?_
              have nA157_11 : (A157.1 367 11).toInt = w96_0.toInt := congrArg Int32.toInt (hkF eA157 (by omega) (hkF eA155 (by omega) (frA152_4.trans ek96_0)))
              have nA157_12 : (A157.1 367 12).toInt = z156.toInt := congrArg Int32.toInt (hkS eA157)
              have nA157_13 : (A157.1 367 13).toInt = w96_2.toInt := congrArg Int32.toInt (hkF eA157 (by omega) (hkF eA155 (by omega) (frA152_5.trans ek96_2)))
              have nA157_37 : (A157.1 367 37).toInt = (A152.1 367 37).toInt := congrArg Int32.toInt (hkF eA157 (by omega) (hkF eA155 (by omega) rfl))
              have nA157_41 : (A157.1 367 41).toInt = z154.toInt := congrArg Int32.toInt (hkF eA157 (by omega) (hkS eA155))
              refine hxa_call0 (by rfl) (by rfl) (by rfl) (by rfl) (by rfl) (by rfl) (hX147q4 (d := d + 1) hA157 ) ?_
              rintro _ A158 ⟨hA158, frA158_0, frA158_1, frA158_2, frA158_3, frA158_4, frA158_5, aeA158, rfl, fA158⟩
              have ttA158_12 : (A158.1 367 12).toInt = z156.toInt := congrArg Int32.toInt (frA158_0.trans (hkS eA157))
              have ttA158_19 : (A158.1 367 19).toInt = (A.1 367 19).toInt := congrArg Int32.toInt (frA158_1.trans (hkF eA157 (by omega) (hkF eA155 (by omega) (frA152_1.trans ek96_3))))
              have ttA158_20 : (A158.1 367 20).toInt = (A.1 367 20).toInt := congrArg Int32.toInt (frA158_2.trans (hkF eA157 (by omega) (hkF eA155 (by omega) (frA152_2.trans ek96_4))))
              have ttA158_31 : (A158.1 367 31).toInt = (A.1 367 31).toInt := congrArg Int32.toInt (frA158_3.trans (hkF eA157 (by omega) (hkF eA155 (by omega) (frA152_3.trans ek96_5))))
              have ttA158_37 : (A158.1 367 37).toInt = (A152.1 367 37).toInt := congrArg Int32.toInt (frA158_4.trans (hkF eA157 (by omega) (hkF eA155 (by omega) rfl)))
              have ttA158_41 : (A158.1 367 41).toInt = z154.toInt := congrArg Int32.toInt (frA158_5.trans (hkF eA157 (by omega) (hkS eA155)))
              have fbA158_367_11 := hA158.f (i := 367) (k := 11) (by rfl)
              have fbA158_367_13 := hA158.f (i := 367) (k := 13) (by rfl)
              have nA158_12 : (A158.1 367 12).toInt = z156.toInt := congrArg Int32.toInt (frA158_0.trans (hkS eA157))
              have nA158_37 : (A158.1 367 37).toInt = (A152.1 367 37).toInt := congrArg Int32.toInt (frA158_4.trans (hkF eA157 (by omega) (hkF eA155 (by omega) rfl)))
              have nA158_41 : (A158.1 367 41).toInt = z154.toInt := congrArg Int32.toInt (frA158_5.trans (hkF eA157 (by omega) (hkS eA155)))
              have ac_159 : A158.2.1 = A152.2.1 := by rw [aeA158, (show A157.2.1 = A155.2.1 from congrArg Prod.fst fA157), (show A155.2.1 = A152.2.1 from congrArg Prod.fst fA155)]
              obtain ⟨g3_159, hq3_159⟩ := hQ.close hq2_153 ac_159 (by omega) (by omega) (by omega)
              have y3_159 : ∃ o g : Nat, hQ 0 (A.1 367 37).toInt o g 1 A158 ∧ (o : Int) = (A158.1 367 12).toInt - x12_1.toInt ∧ (A158.1 367 12).toInt ≤ 6 := ⟨_, _, hq3_159, by omega, by omega⟩
              refine hxa_goto (by rfl) ?_
              exact ih96 (A158.1 367 11) z156 (A158.1 367 13) (A152.1 367 37) z154 A158 hA158 rfl (frA158_0.trans (hkS eA157)) rfl (frA158_1.trans (hkF eA157 (by omega) (hkF eA155 (by omega) (frA152_1.trans ek96_3)))) (frA158_2.trans (hkF eA157 (by omega) (hkF eA155 (by omega) (frA152_2.trans ek96_4)))) (frA158_3.trans (hkF eA157 (by omega) (hkF eA155 (by omega) (frA152_3.trans ek96_5)))) (frA158_4.trans (hkF eA157 (by omega) (hkF eA155 (by omega) rfl))) (frA158_5.trans (hkF eA157 (by omega) (hkS eA155))) (by omega) (by omega) (by omega) (by omega) (by omega) (by omega) (by exact y3_159) (by exact (hkz_153.trans (hK.eq ac_159) (Nat.le_refl _))) (by omega) (by omega) (by omega)
          ·
            refine hxj_zeq (by rfl) rfl (fun q160 => ?_) (fun q160 => False.elim (by omega))
            obtain ⟨o_161, g_161, hq_161, ho_161, h6_161⟩ := u96_0
            have hw_161 := hq_161.w
            have cy_161 := hQ.cb hq_161 (hAc96.f (i := 367) (k := 11) (by rfl)).2
            refine hxa_aload_n (by rfl) rfl ?_
            refine hxa_bipush (by rfl) rfl ?_
            refine hxa_call0 (by rfl) (by rfl) (by rfl) (by rfl) (by rfl) (by rfl) (hX144q4 (d := d + 2) hAc96 (Int32.ofNat 8)) ?_
            rintro _ _ ⟨rfl, z162, rfl, fz162⟩
            rcases fz162 with fz162 | fz162
            ·
              refine hxj_zne (by rfl) rfl (fun q163 => ?_) (fun q163 => False.elim (by omega))
              refine hxa_iconst (by rfl) rfl ?_
              refine hxa_goto (by rfl) ?_
              refine hxa_s1 (by rfl) (Or.inl ⟨_, rfl, rfl⟩) rfl ?_
              refine hxa_iload_n (by rfl) rfl ?_
              refine hxj_zne (by rfl) hk_1 (fun q164 => ?_) (fun q164 => False.elim (by omega))
              refine hxa_aload_n (by rfl) rfl ?_
              refine hxa_aload_n (by rfl) rfl ?_
              refine hxa_bipush (by rfl) rfl ?_
              refine hxa_call0 (by rfl) (by rfl) (by rfl) (by rfl) (by rfl) (by rfl) (hX144q4 (d := d + 2) hAc96 (Int32.ofNat 10)) ?_
              rintro _ _ ⟨rfl, z165, rfl, fz165⟩
              rcases fz165 with fz165 | fz165
              ·
                refine hxj_zne (by rfl) rfl (fun q166 => ?_) (fun q166 => False.elim (by omega))
                refine hxa_iconst (by rfl) rfl ?_
                refine hxa_goto (by rfl) ?_
                refine hxa_call0 (by rfl) (by rfl) (by rfl) (by rfl) (by rfl) (by rfl) (hX160q4 (d := d + 1) hAc96 hq_161 hl (Int32.ofNat 1) (by omega) (by omega)) ?_
                rintro _ A167 ⟨hA167, frA167_0, frA167_1, frA167_2, frA167_3, frA167_4, frA167_5, rfl, fA167⟩
                have ttA167_12 : (A167.1 367 12).toInt = w96_1.toInt := congrArg Int32.toInt (frA167_0.trans ek96_1)
                have ttA167_19 : (A167.1 367 19).toInt = (A.1 367 19).toInt := congrArg Int32.toInt (frA167_1.trans ek96_3)
                have ttA167_20 : (A167.1 367 20).toInt = (A.1 367 20).toInt := congrArg Int32.toInt (frA167_2.trans ek96_4)
                have ttA167_31 : (A167.1 367 31).toInt = (A.1 367 31).toInt := congrArg Int32.toInt (frA167_3.trans ek96_5)
                have ttA167_11 : (A167.1 367 11).toInt = w96_0.toInt := congrArg Int32.toInt (frA167_4.trans ek96_0)
                have ttA167_13 : (A167.1 367 13).toInt = w96_2.toInt := congrArg Int32.toInt (frA167_5.trans ek96_2)
                have fbA167_367_37 := hA167.f (i := 367) (k := 37) (by rfl)
                have fbA167_367_41 := hA167.f (i := 367) (k := 41) (by rfl)
                obtain ⟨g2_168, hq2_168, h21_168, h20_168, hk2_168, h92_168, hc2_168⟩ := fA167
                have hw2_168 := hq2_168.w
                have hkz_168 := u96_1.trans hk2_168 (by omega)
                have cz_168 := hQ.cb hq2_168 (hA167.f (i := 367) (k := 11) (by rfl)).2
                refine hxa_aload_n (by rfl) rfl ?_
                refine hxa_get (v := .ref 393) (by rfl) (by rfl) (by rfl) rfl ?_
                refine hxa_aload_n (by rfl) rfl ?_
                refine hxj_getK (by rfl) (by rfl) (by rfl) rfl ?_
                refine hxa_aload_n (by rfl) rfl ?_
                refine hxa_get (v := .ref 371) (by rfl) (by rfl) (by rfl) rfl ?_
                refine hxa_aload_n (by rfl) rfl ?_
                refine hxj_getK (by rfl) (by rfl) (by rfl) (frA167_4.trans ek96_0) ?_
                refine hxj_iald (by rfl) (by rfl) rfl (by omega) (by omega) (fun z169 ez169 => ?_)
                have kzz169 : z169.toInt = (Ac96.2.1 370 (Ac96.1 367 11).toNatClampNeg).toInt := by rw [← ez169, hk2_168.1 370 (by decide) (by decide) (by decide), (show Ac96.1 367 11 = w96_0 from ek96_0)]
                refine hxj_iast (by rfl) (by rfl) rfl (by omega) (by omega) hA167 (hbokN (by rfl)) (by rfl) (by rfl) (fun A170 hA170 eA170 fA170 gA170 => ?_)
                refine hxa_aload_n (by rfl) rfl ?_
                refine hxa_dupR (by rfl) ?_
                refine hxj_getK (by rfl) (by rfl) (by rfl) (hkA eA170 rfl) ?_
                refine hxa_iconst (by rfl) rfl ?_
                refine hxj_iadd (by rfl) rfl hk_1 (by omega) (by omega) (fun z171 ez171 => ?_)
                refine hxj_putI (by rfl) (by rfl) (by rfl) (by rfl) hA170 (hbok (by rfl) rfl (by omega) (by omega)) (by rfl) (by rfl) (fun A172 hA172 eA172 fA172 => ?_)
                refine hxa_aload_n (by rfl) rfl ?_
                have nA172_11 : (A172.1 367 11).toInt = w96_0.toInt := congrArg Int32.toInt (hkF eA172 (by omega) (hkA eA170 (frA167_4.trans ek96_0)))
                have nA172_12 : (A172.1 367 12).toInt = w96_1.toInt := congrArg Int32.toInt (hkF eA172 (by omega) (hkA eA170 (frA167_0.trans ek96_1)))
                have nA172_13 : (A172.1 367 13).toInt = w96_2.toInt := congrArg Int32.toInt (hkF eA172 (by omega) (hkA eA170 (frA167_5.trans ek96_2)))
                have nA172_37 : (A172.1 367 37).toInt = (A167.1 367 37).toInt := congrArg Int32.toInt (hkF eA172 (by omega) (hkA eA170 rfl))
                have nA172_41 : (A172.1 367 41).toInt = z171.toInt := congrArg Int32.toInt (hkS eA172)
                refine hxa_call0 (by rfl) (by rfl) (by rfl) (by rfl) (by rfl) (by rfl) (hX147q4 (d := d + 1) hA172 ) ?_
                rintro _ A173 ⟨hA173, frA173_0, frA173_1, frA173_2, frA173_3, frA173_4, frA173_5, aeA173, rfl, fA173⟩
                have ttA173_12 : (A173.1 367 12).toInt = w96_1.toInt := congrArg Int32.toInt (frA173_0.trans (hkF eA172 (by omega) (hkA eA170 (frA167_0.trans ek96_1))))
                have ttA173_19 : (A173.1 367 19).toInt = (A.1 367 19).toInt := congrArg Int32.toInt (frA173_1.trans (hkF eA172 (by omega) (hkA eA170 (frA167_1.trans ek96_3))))
                have ttA173_20 : (A173.1 367 20).toInt = (A.1 367 20).toInt := congrArg Int32.toInt (frA173_2.trans (hkF eA172 (by omega) (hkA eA170 (frA167_2.trans ek96_4))))
                have ttA173_31 : (A173.1 367 31).toInt = (A.1 367 31).toInt := congrArg Int32.toInt (frA173_3.trans (hkF eA172 (by omega) (hkA eA170 (frA167_3.trans ek96_5))))
                have ttA173_37 : (A173.1 367 37).toInt = (A167.1 367 37).toInt := congrArg Int32.toInt (frA173_4.trans (hkF eA172 (by omega) (hkA eA170 rfl)))
                have ttA173_41 : (A173.1 367 41).toInt = z171.toInt := congrArg Int32.toInt (frA173_5.trans (hkS eA172))
                have fbA173_367_11 := hA173.f (i := 367) (k := 11) (by rfl)
                have fbA173_367_13 := hA173.f (i := 367) (k := 13) (by rfl)
                have nA173_12 : (A173.1 367 12).toInt = w96_1.toInt := congrArg Int32.toInt (frA173_0.trans (hkF eA172 (by omega) (hkA eA170 (frA167_0.trans ek96_1))))
                have nA173_37 : (A173.1 367 37).toInt = (A167.1 367 37).toInt := congrArg Int32.toInt (frA173_4.trans (hkF eA172 (by omega) (hkA eA170 rfl)))
                have nA173_41 : (A173.1 367 41).toInt = z171.toInt := congrArg Int32.toInt (frA173_5.trans (hkS eA172))
                have aj174 : A173.2.1 = hs_up A167.2.1 392 (A167.1 367 41).toNatClampNeg z169 := by rw [aeA173, (show A172.2.1 = A170.2.1 from congrArg Prod.fst fA172), fA170]
                have j174 : ¬ (A173.1 367 13).toInt = 0 ∨ ((A.1 367 13).toInt = 0 ∧ (A173.1 367 37).toInt ≤ 0 + (A173.1 367 11).toInt ∧ ∃ o g : Nat, hQ 0 (A.1 367 37).toInt o g 0 A173 ∧ (o : Int) = (A173.1 367 12).toInt - x12_1.toInt ∧ (A173.1 367 12).toInt ≤ 6) := by
                  by_cases h9 : (A173.1 367 13).toInt = 0
                  · obtain ⟨g5, hq5⟩ : ∃ g5, hQ 0 (A.1 367 37).toInt o_161 g5 0 A173 := by
                      rcases (show g2_168 = 0 ∨ g2_168 = 1 by omega) with e0 | e0
                      · subst e0
                        exact ⟨2, hQ.push hq2_168 (j := (A167.1 367 41)) rfl aj174 (by omega) (by omega) (by omega) (by omega)⟩
                      · subst e0
                        exact ⟨3, hQ.push hq2_168 (j := (A167.1 367 41)) rfl aj174 (by omega) (by omega) (by omega) (by omega)⟩
                    exact Or.inr ⟨by omega, by omega, _, g5, hq5, by omega, by omega⟩
                  · exact Or.inl h9
                refine hxa_goto (by rfl) ?_
                exact ih12 (A173.1 367 11) w96_1 (A173.1 367 13) (A167.1 367 37) z171 x12_1 (Int32.ofNat 1) A173 hA173 rfl (frA173_0.trans (hkF eA172 (by omega) (hkA eA170 (frA167_0.trans ek96_1)))) rfl (frA173_1.trans (hkF eA172 (by omega) (hkA eA170 (frA167_1.trans ek96_3)))) (frA173_2.trans (hkF eA172 (by omega) (hkA eA170 (frA167_2.trans ek96_4)))) (frA173_3.trans (hkF eA172 (by omega) (hkA eA170 (frA167_3.trans ek96_5)))) (frA173_4.trans (hkF eA172 (by omega) (hkA eA170 rfl))) (frA173_5.trans (hkS eA172)) (by omega) (by omega) (by omega) (by omega) (by omega) (by omega) (by omega) (by omega) (by omega) (by omega) (by omega) (by omega) (by exact j174) (by exact (hkz_168.trans (hK.w aj174) (Nat.le_refl _))) (by omega) (by omega)
              ·
                refine hxj_zne (by rfl) rfl (fun q175 => False.elim (by omega)) (fun q175 => ?_)
                refine hxa_aload_n (by rfl) rfl ?_
                refine hxa_bipush (by rfl) rfl ?_
                refine hxa_call0 (by rfl) (by rfl) (by rfl) (by rfl) (by rfl) (by rfl) (hX144q4 (d := d + 2) hAc96 (Int32.ofNat 15)) ?_
                rintro _ _ ⟨rfl, z176, rfl, fz176⟩
                rcases fz176 with fz176 | fz176
                ·
                  refine hxj_zeq (by rfl) rfl (fun q177 => False.elim (by omega)) (fun q177 => ?_)
                  refine hxa_iconst (by rfl) rfl ?_
                  refine hxa_goto (by rfl) ?_
                  refine hxa_call0 (by rfl) (by rfl) (by rfl) (by rfl) (by rfl) (by rfl) (hX160q4 (d := d + 1) hAc96 hq_161 hl (Int32.ofNat 1) (by omega) (by omega)) ?_
                  rintro _ A178 ⟨hA178, frA178_0, frA178_1, frA178_2, frA178_3, frA178_4, frA178_5, rfl, fA178⟩
                  have ttA178_12 : (A178.1 367 12).toInt = w96_1.toInt := congrArg Int32.toInt (frA178_0.trans ek96_1)
                  have ttA178_19 : (A178.1 367 19).toInt = (A.1 367 19).toInt := congrArg Int32.toInt (frA178_1.trans ek96_3)
                  have ttA178_20 : (A178.1 367 20).toInt = (A.1 367 20).toInt := congrArg Int32.toInt (frA178_2.trans ek96_4)
                  have ttA178_31 : (A178.1 367 31).toInt = (A.1 367 31).toInt := congrArg Int32.toInt (frA178_3.trans ek96_5)
                  have ttA178_11 : (A178.1 367 11).toInt = w96_0.toInt := congrArg Int32.toInt (frA178_4.trans ek96_0)
                  have ttA178_13 : (A178.1 367 13).toInt = w96_2.toInt := congrArg Int32.toInt (frA178_5.trans ek96_2)
                  have fbA178_367_37 := hA178.f (i := 367) (k := 37) (by rfl)
                  have fbA178_367_41 := hA178.f (i := 367) (k := 41) (by rfl)
                  obtain ⟨g2_179, hq2_179, h21_179, h20_179, hk2_179, h92_179, hc2_179⟩ := fA178
                  have hw2_179 := hq2_179.w
                  have hkz_179 := u96_1.trans hk2_179 (by omega)
                  have cz_179 := hQ.cb hq2_179 (hA178.f (i := 367) (k := 11) (by rfl)).2
                  refine hxa_aload_n (by rfl) rfl ?_
                  refine hxa_get (v := .ref 393) (by rfl) (by rfl) (by rfl) rfl ?_
                  refine hxa_aload_n (by rfl) rfl ?_
                  refine hxj_getK (by rfl) (by rfl) (by rfl) rfl ?_
                  refine hxa_aload_n (by rfl) rfl ?_
                  refine hxa_get (v := .ref 371) (by rfl) (by rfl) (by rfl) rfl ?_
                  refine hxa_aload_n (by rfl) rfl ?_
                  refine hxj_getK (by rfl) (by rfl) (by rfl) (frA178_4.trans ek96_0) ?_
                  refine hxj_iald (by rfl) (by rfl) rfl (by omega) (by omega) (fun z180 ez180 => ?_)
                  have kzz180 : z180.toInt = (Ac96.2.1 370 (Ac96.1 367 11).toNatClampNeg).toInt := by rw [← ez180, hk2_179.1 370 (by decide) (by decide) (by decide), (show Ac96.1 367 11 = w96_0 from ek96_0)]
                  refine hxj_iast (by rfl) (by rfl) rfl (by omega) (by omega) hA178 (hbokN (by rfl)) (by rfl) (by rfl) (fun A181 hA181 eA181 fA181 gA181 => ?_)
                  refine hxa_aload_n (by rfl) rfl ?_
                  refine hxa_dupR (by rfl) ?_
                  refine hxj_getK (by rfl) (by rfl) (by rfl) (hkA eA181 rfl) ?_
                  refine hxa_iconst (by rfl) rfl ?_
                  refine hxj_iadd (by rfl) rfl hk_1 (by omega) (by omega) (fun z182 ez182 => ?_)
                  refine hxj_putI (by rfl) (by rfl) (by rfl) (by rfl) hA181 (hbok (by rfl) rfl (by omega) (by omega)) (by rfl) (by rfl) (fun A183 hA183 eA183 fA183 => ?_)
                  refine hxa_aload_n (by rfl) rfl ?_
                  have nA183_11 : (A183.1 367 11).toInt = w96_0.toInt := congrArg Int32.toInt (hkF eA183 (by omega) (hkA eA181 (frA178_4.trans ek96_0)))
                  have nA183_12 : (A183.1 367 12).toInt = w96_1.toInt := congrArg Int32.toInt (hkF eA183 (by omega) (hkA eA181 (frA178_0.trans ek96_1)))
                  have nA183_13 : (A183.1 367 13).toInt = w96_2.toInt := congrArg Int32.toInt (hkF eA183 (by omega) (hkA eA181 (frA178_5.trans ek96_2)))
                  have nA183_37 : (A183.1 367 37).toInt = (A178.1 367 37).toInt := congrArg Int32.toInt (hkF eA183 (by omega) (hkA eA181 rfl))
                  have nA183_41 : (A183.1 367 41).toInt = z182.toInt := congrArg Int32.toInt (hkS eA183)
                  refine hxa_call0 (by rfl) (by rfl) (by rfl) (by rfl) (by rfl) (by rfl) (hX147q4 (d := d + 1) hA183 ) ?_
                  rintro _ A184 ⟨hA184, frA184_0, frA184_1, frA184_2, frA184_3, frA184_4, frA184_5, aeA184, rfl, fA184⟩
                  have ttA184_12 : (A184.1 367 12).toInt = w96_1.toInt := congrArg Int32.toInt (frA184_0.trans (hkF eA183 (by omega) (hkA eA181 (frA178_0.trans ek96_1))))
                  have ttA184_19 : (A184.1 367 19).toInt = (A.1 367 19).toInt := congrArg Int32.toInt (frA184_1.trans (hkF eA183 (by omega) (hkA eA181 (frA178_1.trans ek96_3))))
                  have ttA184_20 : (A184.1 367 20).toInt = (A.1 367 20).toInt := congrArg Int32.toInt (frA184_2.trans (hkF eA183 (by omega) (hkA eA181 (frA178_2.trans ek96_4))))
                  have ttA184_31 : (A184.1 367 31).toInt = (A.1 367 31).toInt := congrArg Int32.toInt (frA184_3.trans (hkF eA183 (by omega) (hkA eA181 (frA178_3.trans ek96_5))))
                  have ttA184_37 : (A184.1 367 37).toInt = (A178.1 367 37).toInt := congrArg Int32.toInt (frA184_4.trans (hkF eA183 (by omega) (hkA eA181 rfl)))
                  have ttA184_41 : (A184.1 367 41).toInt = z182.toInt := congrArg Int32.toInt (frA184_5.trans (hkS eA183))
                  have fbA184_367_11 := hA184.f (i := 367) (k := 11) (by rfl)
                  have fbA184_367_13 := hA184.f (i := 367) (k := 13) (by rfl)
                  have nA184_12 : (A184.1 367 12).toInt = w96_1.toInt := congrArg Int32.toInt (frA184_0.trans (hkF eA183 (by omega) (hkA eA181 (frA178_0.trans ek96_1))))
                  have nA184_37 : (A184.1 367 37).toInt = (A178.1 367 37).toInt := congrArg Int32.toInt (frA184_4.trans (hkF eA183 (by omega) (hkA eA181 rfl)))
                  have nA184_41 : (A184.1 367 41).toInt = z182.toInt := congrArg Int32.toInt (frA184_5.trans (hkS eA183))
                  have aj185 : A184.2.1 = hs_up A178.2.1 392 (A178.1 367 41).toNatClampNeg z180 := by rw [aeA184, (show A183.2.1 = A181.2.1 from congrArg Prod.fst fA183), fA181]
                  have j185 : ¬ (A184.1 367 13).toInt = 0 ∨ ((A.1 367 13).toInt = 0 ∧ (A184.1 367 37).toInt ≤ 0 + (A184.1 367 11).toInt ∧ ∃ o g : Nat, hQ 0 (A.1 367 37).toInt o g 0 A184 ∧ (o : Int) = (A184.1 367 12).toInt - x12_1.toInt ∧ (A184.1 367 12).toInt ≤ 6) := by
                    by_cases h9 : (A184.1 367 13).toInt = 0
                    · obtain ⟨g5, hq5⟩ : ∃ g5, hQ 0 (A.1 367 37).toInt o_161 g5 0 A184 := by
                        rcases (show g2_179 = 0 ∨ g2_179 = 1 by omega) with e0 | e0
                        · subst e0
                          exact ⟨2, hQ.push hq2_179 (j := (A178.1 367 41)) rfl aj185 (by omega) (by omega) (by omega) (by omega)⟩
                        · subst e0
                          exact ⟨3, hQ.push hq2_179 (j := (A178.1 367 41)) rfl aj185 (by omega) (by omega) (by omega) (by omega)⟩
                      exact Or.inr ⟨by omega, by omega, _, g5, hq5, by omega, by omega⟩
                    · exact Or.inl h9
                  refine hxa_goto (by rfl) ?_
                  exact ih12 (A184.1 367 11) w96_1 (A184.1 367 13) (A178.1 367 37) z182 x12_1 (Int32.ofNat 1) A184 hA184 rfl (frA184_0.trans (hkF eA183 (by omega) (hkA eA181 (frA178_0.trans ek96_1)))) rfl (frA184_1.trans (hkF eA183 (by omega) (hkA eA181 (frA178_1.trans ek96_3)))) (frA184_2.trans (hkF eA183 (by omega) (hkA eA181 (frA178_2.trans ek96_4)))) (frA184_3.trans (hkF eA183 (by omega) (hkA eA181 (frA178_3.trans ek96_5)))) (frA184_4.trans (hkF eA183 (by omega) (hkA eA181 rfl))) (frA184_5.trans (hkS eA183)) (by omega) (by omega) (by omega) (by omega) (by omega) (by omega) (by omega) (by omega) (by omega) (by omega) (by omega) (by omega) (by exact j185) (by exact (hkz_179.trans (hK.w aj185) (Nat.le_refl _))) (by omega) (by omega)
                ·
                  refine hxj_zeq (by rfl) rfl (fun q186 => ?_) (fun q186 => False.elim (by omega))
                  refine hxa_iconst (by rfl) rfl ?_
                  refine hxa_call0 (by rfl) (by rfl) (by rfl) (by rfl) (by rfl) (by rfl) (hX160q4 (d := d + 1) hAc96 hq_161 hl (Int32.ofNat 0) (by omega) (by omega)) ?_
                  rintro _ A187 ⟨hA187, frA187_0, frA187_1, frA187_2, frA187_3, frA187_4, frA187_5, rfl, fA187⟩
                  have ttA187_12 : (A187.1 367 12).toInt = w96_1.toInt := congrArg Int32.toInt (frA187_0.trans ek96_1)
                  have ttA187_19 : (A187.1 367 19).toInt = (A.1 367 19).toInt := congrArg Int32.toInt (frA187_1.trans ek96_3)
                  have ttA187_20 : (A187.1 367 20).toInt = (A.1 367 20).toInt := congrArg Int32.toInt (frA187_2.trans ek96_4)
                  have ttA187_31 : (A187.1 367 31).toInt = (A.1 367 31).toInt := congrArg Int32.toInt (frA187_3.trans ek96_5)
                  have ttA187_11 : (A187.1 367 11).toInt = w96_0.toInt := congrArg Int32.toInt (frA187_4.trans ek96_0)
                  have ttA187_13 : (A187.1 367 13).toInt = w96_2.toInt := congrArg Int32.toInt (frA187_5.trans ek96_2)
                  have fbA187_367_37 := hA187.f (i := 367) (k := 37) (by rfl)
                  have fbA187_367_41 := hA187.f (i := 367) (k := 41) (by rfl)
                  obtain ⟨g2_188, hq2_188, h21_188, h20_188, hk2_188, h92_188, hc2_188⟩ := fA187
                  have hw2_188 := hq2_188.w
                  have hkz_188 := u96_1.trans hk2_188 (by omega)
                  have cz_188 := hQ.cb hq2_188 (hA187.f (i := 367) (k := 11) (by rfl)).2
                  refine hxa_aload_n (by rfl) rfl ?_
                  refine hxa_get (v := .ref 393) (by rfl) (by rfl) (by rfl) rfl ?_
                  refine hxa_aload_n (by rfl) rfl ?_
                  refine hxj_getK (by rfl) (by rfl) (by rfl) rfl ?_
                  refine hxa_aload_n (by rfl) rfl ?_
                  refine hxa_get (v := .ref 371) (by rfl) (by rfl) (by rfl) rfl ?_
                  refine hxa_aload_n (by rfl) rfl ?_
                  refine hxj_getK (by rfl) (by rfl) (by rfl) (frA187_4.trans ek96_0) ?_
                  refine hxj_iald (by rfl) (by rfl) rfl (by omega) (by omega) (fun z189 ez189 => ?_)
                  have kzz189 : z189.toInt = (Ac96.2.1 370 (Ac96.1 367 11).toNatClampNeg).toInt := by rw [← ez189, hk2_188.1 370 (by decide) (by decide) (by decide), (show Ac96.1 367 11 = w96_0 from ek96_0)]
                  refine hxj_iast (by rfl) (by rfl) rfl (by omega) (by omega) hA187 (hbokN (by rfl)) (by rfl) (by rfl) (fun A190 hA190 eA190 fA190 gA190 => ?_)
                  refine hxa_aload_n (by rfl) rfl ?_
                  refine hxa_dupR (by rfl) ?_
                  refine hxj_getK (by rfl) (by rfl) (by rfl) (hkA eA190 rfl) ?_
                  refine hxa_iconst (by rfl) rfl ?_
                  refine hxj_iadd (by rfl) rfl hk_1 (by omega) (by omega) (fun z191 ez191 => ?_)
                  refine hxj_putI (by rfl) (by rfl) (by rfl) (by rfl) hA190 (hbok (by rfl) rfl (by omega) (by omega)) (by rfl) (by rfl) (fun A192 hA192 eA192 fA192 => ?_)
                  refine hxa_aload_n (by rfl) rfl ?_
                  have nA192_11 : (A192.1 367 11).toInt = w96_0.toInt := congrArg Int32.toInt (hkF eA192 (by omega) (hkA eA190 (frA187_4.trans ek96_0)))
                  have nA192_12 : (A192.1 367 12).toInt = w96_1.toInt := congrArg Int32.toInt (hkF eA192 (by omega) (hkA eA190 (frA187_0.trans ek96_1)))
                  have nA192_13 : (A192.1 367 13).toInt = w96_2.toInt := congrArg Int32.toInt (hkF eA192 (by omega) (hkA eA190 (frA187_5.trans ek96_2)))
                  have nA192_37 : (A192.1 367 37).toInt = (A187.1 367 37).toInt := congrArg Int32.toInt (hkF eA192 (by omega) (hkA eA190 rfl))
                  have nA192_41 : (A192.1 367 41).toInt = z191.toInt := congrArg Int32.toInt (hkS eA192)
                  refine hxa_call0 (by rfl) (by rfl) (by rfl) (by rfl) (by rfl) (by rfl) (hX147q4 (d := d + 1) hA192 ) ?_
                  rintro _ A193 ⟨hA193, frA193_0, frA193_1, frA193_2, frA193_3, frA193_4, frA193_5, aeA193, rfl, fA193⟩
                  have ttA193_12 : (A193.1 367 12).toInt = w96_1.toInt := congrArg Int32.toInt (frA193_0.trans (hkF eA192 (by omega) (hkA eA190 (frA187_0.trans ek96_1))))
                  have ttA193_19 : (A193.1 367 19).toInt = (A.1 367 19).toInt := congrArg Int32.toInt (frA193_1.trans (hkF eA192 (by omega) (hkA eA190 (frA187_1.trans ek96_3))))
                  have ttA193_20 : (A193.1 367 20).toInt = (A.1 367 20).toInt := congrArg Int32.toInt (frA193_2.trans (hkF eA192 (by omega) (hkA eA190 (frA187_2.trans ek96_4))))
                  have ttA193_31 : (A193.1 367 31).toInt = (A.1 367 31).toInt := congrArg Int32.toInt (frA193_3.trans (hkF eA192 (by omega) (hkA eA190 (frA187_3.trans ek96_5))))
                  have ttA193_37 : (A193.1 367 37).toInt = (A187.1 367 37).toInt := congrArg Int32.toInt (frA193_4.trans (hkF eA192 (by omega) (hkA eA190 rfl)))
                  have ttA193_41 : (A193.1 367 41).toInt = z191.toInt := congrArg Int32.toInt (frA193_5.trans (hkS eA192))
                  have fbA193_367_11 := hA193.f (i := 367) (k := 11) (by rfl)
                  have fbA193_367_13 := hA193.f (i := 367) (k := 13) (by rfl)
                  have nA193_12 : (A193.1 367 12).toInt = w96_1.toInt := congrArg Int32.toInt (frA193_0.trans (hkF eA192 (by omega) (hkA eA190 (frA187_0.trans ek96_1))))
                  have nA193_37 : (A193.1 367 37).toInt = (A187.1 367 37).toInt := congrArg Int32.toInt (frA193_4.trans (hkF eA192 (by omega) (hkA eA190 rfl)))
                  have nA193_41 : (A193.1 367 41).toInt = z191.toInt := congrArg Int32.toInt (frA193_5.trans (hkS eA192))
                  have aj194 : A193.2.1 = hs_up A187.2.1 392 (A187.1 367 41).toNatClampNeg z189 := by rw [aeA193, (show A192.2.1 = A190.2.1 from congrArg Prod.fst fA192), fA190]
                  have j194 : ¬ (A193.1 367 13).toInt = 0 ∨ ((A.1 367 13).toInt = 0 ∧ (A193.1 367 37).toInt ≤ 0 + (A193.1 367 11).toInt ∧ ∃ o g : Nat, hQ 0 (A.1 367 37).toInt o g 0 A193 ∧ (o : Int) = (A193.1 367 12).toInt - x12_1.toInt ∧ (A193.1 367 12).toInt ≤ 6) := by
                    by_cases h9 : (A193.1 367 13).toInt = 0
                    · obtain ⟨g5, hq5⟩ : ∃ g5, hQ 0 (A.1 367 37).toInt o_161 g5 0 A193 := by
                        have e0 := h20_188 (by omega)
                        subst e0
                        exact ⟨1, hQ.push hq2_188 (j := (A187.1 367 41)) rfl aj194 (by omega) (by omega) (by omega) (by omega)⟩
                      exact Or.inr ⟨by omega, by omega, _, g5, hq5, by omega, by omega⟩
                    · exact Or.inl h9
                  refine hxa_goto (by rfl) ?_
                  exact ih12 (A193.1 367 11) w96_1 (A193.1 367 13) (A187.1 367 37) z191 x12_1 (Int32.ofNat 1) A193 hA193 rfl (frA193_0.trans (hkF eA192 (by omega) (hkA eA190 (frA187_0.trans ek96_1)))) rfl (frA193_1.trans (hkF eA192 (by omega) (hkA eA190 (frA187_1.trans ek96_3)))) (frA193_2.trans (hkF eA192 (by omega) (hkA eA190 (frA187_2.trans ek96_4)))) (frA193_3.trans (hkF eA192 (by omega) (hkA eA190 (frA187_3.trans ek96_5)))) (frA193_4.trans (hkF eA192 (by omega) (hkA eA190 rfl))) (frA193_5.trans (hkS eA192)) (by omega) (by omega) (by omega) (by omega) (by omega) (by omega) (by omega) (by omega) (by omega) (by omega) (by omega) (by omega) (by exact j194) (by exact (hkz_188.trans (hK.w aj194) (Nat.le_refl _))) (by omega) (by omega)
            ·
              refine hxj_zne (by rfl) rfl (fun q195 => False.elim (by omega)) (fun q195 => ?_)
              refine hxa_aload_n (by rfl) rfl ?_
              refine hxa_bipush (by rfl) rfl ?_
              refine hxa_call0 (by rfl) (by rfl) (by rfl) (by rfl) (by rfl) (by rfl) (hX144q4 (d := d + 2) hAc96 (Int32.ofNat 9)) ?_
              rintro _ _ ⟨rfl, z196, rfl, fz196⟩
              rcases fz196 with fz196 | fz196
              ·
                refine hxj_zne (by rfl) rfl (fun q197 => ?_) (fun q197 => False.elim (by omega))
                refine hxa_iconst (by rfl) rfl ?_
                refine hxa_goto (by rfl) ?_
                refine hxa_s1 (by rfl) (Or.inl ⟨_, rfl, rfl⟩) rfl ?_
                refine hxa_iload_n (by rfl) rfl ?_
                refine hxj_zne (by rfl) hk_1 (fun q198 => ?_) (fun q198 => False.elim (by omega))
                refine hxa_aload_n (by rfl) rfl ?_
                refine hxa_aload_n (by rfl) rfl ?_
                refine hxa_bipush (by rfl) rfl ?_
                refine hxa_call0 (by rfl) (by rfl) (by rfl) (by rfl) (by rfl) (by rfl) (hX144q4 (d := d + 2) hAc96 (Int32.ofNat 10)) ?_
                rintro _ _ ⟨rfl, z199, rfl, fz199⟩
                rcases fz199 with fz199 | fz199
                ·
                  refine hxj_zne (by rfl) rfl (fun q200 => ?_) (fun q200 => False.elim (by omega))
                  refine hxa_iconst (by rfl) rfl ?_
                  refine hxa_goto (by rfl) ?_
                  refine hxa_call0 (by rfl) (by rfl) (by rfl) (by rfl) (by rfl) (by rfl) (hX160q4 (d := d + 1) hAc96 hq_161 hl (Int32.ofNat 1) (by omega) (by omega)) ?_
                  rintro _ A201 ⟨hA201, frA201_0, frA201_1, frA201_2, frA201_3, frA201_4, frA201_5, rfl, fA201⟩
                  have ttA201_12 : (A201.1 367 12).toInt = w96_1.toInt := congrArg Int32.toInt (frA201_0.trans ek96_1)
                  have ttA201_19 : (A201.1 367 19).toInt = (A.1 367 19).toInt := congrArg Int32.toInt (frA201_1.trans ek96_3)
                  have ttA201_20 : (A201.1 367 20).toInt = (A.1 367 20).toInt := congrArg Int32.toInt (frA201_2.trans ek96_4)
                  have ttA201_31 : (A201.1 367 31).toInt = (A.1 367 31).toInt := congrArg Int32.toInt (frA201_3.trans ek96_5)
                  have ttA201_11 : (A201.1 367 11).toInt = w96_0.toInt := congrArg Int32.toInt (frA201_4.trans ek96_0)
                  have ttA201_13 : (A201.1 367 13).toInt = w96_2.toInt := congrArg Int32.toInt (frA201_5.trans ek96_2)
                  have fbA201_367_37 := hA201.f (i := 367) (k := 37) (by rfl)
                  have fbA201_367_41 := hA201.f (i := 367) (k := 41) (by rfl)
                  obtain ⟨g2_202, hq2_202, h21_202, h20_202, hk2_202, h92_202, hc2_202⟩ := fA201
                  have hw2_202 := hq2_202.w
                  have hkz_202 := u96_1.trans hk2_202 (by omega)
                  have cz_202 := hQ.cb hq2_202 (hA201.f (i := 367) (k := 11) (by rfl)).2
                  refine hxa_aload_n (by rfl) rfl ?_
                  refine hxa_get (v := .ref 393) (by rfl) (by rfl) (by rfl) rfl ?_
                  refine hxa_aload_n (by rfl) rfl ?_
                  refine hxj_getK (by rfl) (by rfl) (by rfl) rfl ?_
                  refine hxa_aload_n (by rfl) rfl ?_
                  refine hxa_get (v := .ref 371) (by rfl) (by rfl) (by rfl) rfl ?_
                  refine hxa_aload_n (by rfl) rfl ?_
                  refine hxj_getK (by rfl) (by rfl) (by rfl) (frA201_4.trans ek96_0) ?_
                  refine hxj_iald (by rfl) (by rfl) rfl (by omega) (by omega) (fun z203 ez203 => ?_)
                  have kzz203 : z203.toInt = (Ac96.2.1 370 (Ac96.1 367 11).toNatClampNeg).toInt := by rw [← ez203, hk2_202.1 370 (by decide) (by decide) (by decide), (show Ac96.1 367 11 = w96_0 from ek96_0)]
                  refine hxj_iast (by rfl) (by rfl) rfl (by omega) (by omega) hA201 (hbokN (by rfl)) (by rfl) (by rfl) (fun A204 hA204 eA204 fA204 gA204 => ?_)
                  refine hxa_aload_n (by rfl) rfl ?_
                  refine hxa_dupR (by rfl) ?_
                  refine hxj_getK (by rfl) (by rfl) (by rfl) (hkA eA204 rfl) ?_
                  refine hxa_iconst (by rfl) rfl ?_
                  refine hxj_iadd (by rfl) rfl hk_1 (by omega) (by omega) (fun z205 ez205 => ?_)
                  refine hxj_putI (by rfl) (by rfl) (by rfl) (by rfl) hA204 (hbok (by rfl) rfl (by omega) (by omega)) (by rfl) (by rfl) (fun A206 hA206 eA206 fA206 => ?_)
                  refine hxa_aload_n (by rfl) rfl ?_
                  have nA206_11 : (A206.1 367 11).toInt = w96_0.toInt := congrArg Int32.toInt (hkF eA206 (by omega) (hkA eA204 (frA201_4.trans ek96_0)))
                  have nA206_12 : (A206.1 367 12).toInt = w96_1.toInt := congrArg Int32.toInt (hkF eA206 (by omega) (hkA eA204 (frA201_0.trans ek96_1)))
                  have nA206_13 : (A206.1 367 13).toInt = w96_2.toInt := congrArg Int32.toInt (hkF eA206 (by omega) (hkA eA204 (frA201_5.trans ek96_2)))
                  have nA206_37 : (A206.1 367 37).toInt = (A201.1 367 37).toInt := congrArg Int32.toInt (hkF eA206 (by omega) (hkA eA204 rfl))
                  have nA206_41 : (A206.1 367 41).toInt = z205.toInt := congrArg Int32.toInt (hkS eA206)
                  refine hxa_call0 (by rfl) (by rfl) (by rfl) (by rfl) (by rfl) (by rfl) (hX147q4 (d := d + 1) hA206 ) ?_
                  rintro _ A207 ⟨hA207, frA207_0, frA207_1, frA207_2, frA207_3, frA207_4, frA207_5, aeA207, rfl, fA207⟩
                  have ttA207_12 : (A207.1 367 12).toInt = w96_1.toInt := congrArg Int32.toInt (frA207_0.trans (hkF eA206 (by omega) (hkA eA204 (frA201_0.trans ek96_1))))
                  have ttA207_19 : (A207.1 367 19).toInt = (A.1 367 19).toInt := congrArg Int32.toInt (frA207_1.trans (hkF eA206 (by omega) (hkA eA204 (frA201_1.trans ek96_3))))
                  have ttA207_20 : (A207.1 367 20).toInt = (A.1 367 20).toInt := congrArg Int32.toInt (frA207_2.trans (hkF eA206 (by omega) (hkA eA204 (frA201_2.trans ek96_4))))
                  have ttA207_31 : (A207.1 367 31).toInt = (A.1 367 31).toInt := congrArg Int32.toInt (frA207_3.trans (hkF eA206 (by omega) (hkA eA204 (frA201_3.trans ek96_5))))
                  have ttA207_37 : (A207.1 367 37).toInt = (A201.1 367 37).toInt := congrArg Int32.toInt (frA207_4.trans (hkF eA206 (by omega) (hkA eA204 rfl)))
                  have ttA207_41 : (A207.1 367 41).toInt = z205.toInt := congrArg Int32.toInt (frA207_5.trans (hkS eA206))
                  have fbA207_367_11 := hA207.f (i := 367) (k := 11) (by rfl)
                  have fbA207_367_13 := hA207.f (i := 367) (k := 13) (by rfl)
                  have nA207_12 : (A207.1 367 12).toInt = w96_1.toInt := congrArg Int32.toInt (frA207_0.trans (hkF eA206 (by omega) (hkA eA204 (frA201_0.trans ek96_1))))
                  have nA207_37 : (A207.1 367 37).toInt = (A201.1 367 37).toInt := congrArg Int32.toInt (frA207_4.trans (hkF eA206 (by omega) (hkA eA204 rfl)))
                  have nA207_41 : (A207.1 367 41).toInt = z205.toInt := congrArg Int32.toInt (frA207_5.trans (hkS eA206))
                  have aj208 : A207.2.1 = hs_up A201.2.1 392 (A201.1 367 41).toNatClampNeg z203 := by rw [aeA207, (show A206.2.1 = A204.2.1 from congrArg Prod.fst fA206), fA204]
                  have j208 : ¬ (A207.1 367 13).toInt = 0 ∨ ((A.1 367 13).toInt = 0 ∧ (A207.1 367 37).toInt ≤ 0 + (A207.1 367 11).toInt ∧ ∃ o g : Nat, hQ 0 (A.1 367 37).toInt o g 0 A207 ∧ (o : Int) = (A207.1 367 12).toInt - x12_1.toInt ∧ (A207.1 367 12).toInt ≤ 6) := by
                    by_cases h9 : (A207.1 367 13).toInt = 0
                    · obtain ⟨g5, hq5⟩ : ∃ g5, hQ 0 (A.1 367 37).toInt o_161 g5 0 A207 := by
                        rcases (show g2_202 = 0 ∨ g2_202 = 1 by omega) with e0 | e0
                        · subst e0
                          exact ⟨2, hQ.push hq2_202 (j := (A201.1 367 41)) rfl aj208 (by omega) (by omega) (by omega) (by omega)⟩
                        · subst e0
                          exact ⟨3, hQ.push hq2_202 (j := (A201.1 367 41)) rfl aj208 (by omega) (by omega) (by omega) (by omega)⟩
                      exact Or.inr ⟨by omega, by omega, _, g5, hq5, by omega, by omega⟩
                    · exact Or.inl h9
                  refine hxa_goto (by rfl) ?_
                  exact ih12 (A207.1 367 11) w96_1 (A207.1 367 13) (A201.1 367 37) z205 x12_1 (Int32.ofNat 1) A207 hA207 rfl (frA207_0.trans (hkF eA206 (by omega) (hkA eA204 (frA201_0.trans ek96_1)))) rfl (frA207_1.trans (hkF eA206 (by omega) (hkA eA204 (frA201_1.trans ek96_3)))) (frA207_2.trans (hkF eA206 (by omega) (hkA eA204 (frA201_2.trans ek96_4)))) (frA207_3.trans (hkF eA206 (by omega) (hkA eA204 (frA201_3.trans ek96_5)))) (frA207_4.trans (hkF eA206 (by omega) (hkA eA204 rfl))) (frA207_5.trans (hkS eA206)) (by omega) (by omega) (by omega) (by omega) (by omega) (by omega) (by omega) (by omega) (by omega) (by omega) (by omega) (by omega) (by exact j208) (by exact (hkz_202.trans (hK.w aj208) (Nat.le_refl _))) (by omega) (by omega)
                ·
                  refine hxj_zne (by rfl) rfl (fun q209 => False.elim (by omega)) (fun q209 => ?_)
                  refine hxa_aload_n (by rfl) rfl ?_
                  refine hxa_bipush (by rfl) rfl ?_
                  refine hxa_call0 (by rfl) (by rfl) (by rfl) (by rfl) (by rfl) (by rfl) (hX144q4 (d := d + 2) hAc96 (Int32.ofNat 15)) ?_
                  rintro _ _ ⟨rfl, z210, rfl, fz210⟩
                  rcases fz210 with fz210 | fz210
                  ·
                    refine hxj_zeq (by rfl) rfl (fun q211 => False.elim (by omega)) (fun q211 => ?_)
                    refine hxa_iconst (by rfl) rfl ?_
                    refine hxa_goto (by rfl) ?_
                    refine hxa_call0 (by rfl) (by rfl) (by rfl) (by rfl) (by rfl) (by rfl) (hX160q4 (d := d + 1) hAc96 hq_161 hl (Int32.ofNat 1) (by omega) (by omega)) ?_
                    rintro _ A212 ⟨hA212, frA212_0, frA212_1, frA212_2, frA212_3, frA212_4, frA212_5, rfl, fA212⟩
                    have ttA212_12 : (A212.1 367 12).toInt = w96_1.toInt := congrArg Int32.toInt (frA212_0.trans ek96_1)
                    have ttA212_19 : (A212.1 367 19).toInt = (A.1 367 19).toInt := congrArg Int32.toInt (frA212_1.trans ek96_3)
                    have ttA212_20 : (A212.1 367 20).toInt = (A.1 367 20).toInt := congrArg Int32.toInt (frA212_2.trans ek96_4)
                    have ttA212_31 : (A212.1 367 31).toInt = (A.1 367 31).toInt := congrArg Int32.toInt (frA212_3.trans ek96_5)
                    have ttA212_11 : (A212.1 367 11).toInt = w96_0.toInt := congrArg Int32.toInt (frA212_4.trans ek96_0)
                    have ttA212_13 : (A212.1 367 13).toInt = w96_2.toInt := congrArg Int32.toInt (frA212_5.trans ek96_2)
                    have fbA212_367_37 := hA212.f (i := 367) (k := 37) (by rfl)
                    have fbA212_367_41 := hA212.f (i := 367) (k := 41) (by rfl)
                    obtain ⟨g2_213, hq2_213, h21_213, h20_213, hk2_213, h92_213, hc2_213⟩ := fA212
                    have hw2_213 := hq2_213.w
                    have hkz_213 := u96_1.trans hk2_213 (by omega)
                    have cz_213 := hQ.cb hq2_213 (hA212.f (i := 367) (k := 11) (by rfl)).2
                    refine hxa_aload_n (by rfl) rfl ?_
                    refine hxa_get (v := .ref 393) (by rfl) (by rfl) (by rfl) rfl ?_
                    refine hxa_aload_n (by rfl) rfl ?_
                    refine hxj_getK (by rfl) (by rfl) (by rfl) rfl ?_
                    refine hxa_aload_n (by rfl) rfl ?_
                    refine hxa_get (v := .ref 371) (by rfl) (by rfl) (by rfl) rfl ?_
                    refine hxa_aload_n (by rfl) rfl ?_
                    refine hxj_getK (by rfl) (by rfl) (by rfl) (frA212_4.trans ek96_0) ?_
                    refine hxj_iald (by rfl) (by rfl) rfl (by omega) (by omega) (fun z214 ez214 => ?_)
                    have kzz214 : z214.toInt = (Ac96.2.1 370 (Ac96.1 367 11).toNatClampNeg).toInt := by rw [← ez214, hk2_213.1 370 (by decide) (by decide) (by decide), (show Ac96.1 367 11 = w96_0 from ek96_0)]
                    refine hxj_iast (by rfl) (by rfl) rfl (by omega) (by omega) hA212 (hbokN (by rfl)) (by rfl) (by rfl) (fun A215 hA215 eA215 fA215 gA215 => ?_)
                    refine hxa_aload_n (by rfl) rfl ?_
                    refine hxa_dupR (by rfl) ?_
                    refine hxj_getK (by rfl) (by rfl) (by rfl) (hkA eA215 rfl) ?_
                    refine hxa_iconst (by rfl) rfl ?_
                    refine hxj_iadd (by rfl) rfl hk_1 (by omega) (by omega) (fun z216 ez216 => ?_)
                    refine hxj_putI (by rfl) (by rfl) (by rfl) (by rfl) hA215 (hbok (by rfl) rfl (by omega) (by omega)) (by rfl) (by rfl) (fun A217 hA217 eA217 fA217 => ?_)
                    refine hxa_aload_n (by rfl) rfl ?_
                    have nA217_11 : (A217.1 367 11).toInt = w96_0.toInt := congrArg Int32.toInt (hkF eA217 (by omega) (hkA eA215 (frA212_4.trans ek96_0)))
                    have nA217_12 : (A217.1 367 12).toInt = w96_1.toInt := congrArg Int32.toInt (hkF eA217 (by omega) (hkA eA215 (frA212_0.trans ek96_1)))
                    have nA217_13 : (A217.1 367 13).toInt = w96_2.toInt := congrArg Int32.toInt (hkF eA217 (by omega) (hkA eA215 (frA212_5.trans ek96_2)))
                    have nA217_37 : (A217.1 367 37).toInt = (A212.1 367 37).toInt := congrArg Int32.toInt (hkF eA217 (by omega) (hkA eA215 rfl))
                    have nA217_41 : (A217.1 367 41).toInt = z216.toInt := congrArg Int32.toInt (hkS eA217)
                    refine hxa_call0 (by rfl) (by rfl) (by rfl) (by rfl) (by rfl) (by rfl) (hX147q4 (d := d + 1) hA217 ) ?_
                    rintro _ A218 ⟨hA218, frA218_0, frA218_1, frA218_2, frA218_3, frA218_4, frA218_5, aeA218, rfl, fA218⟩
                    have ttA218_12 : (A218.1 367 12).toInt = w96_1.toInt := congrArg Int32.toInt (frA218_0.trans (hkF eA217 (by omega) (hkA eA215 (frA212_0.trans ek96_1))))
                    have ttA218_19 : (A218.1 367 19).toInt = (A.1 367 19).toInt := congrArg Int32.toInt (frA218_1.trans (hkF eA217 (by omega) (hkA eA215 (frA212_1.trans ek96_3))))
                    have ttA218_20 : (A218.1 367 20).toInt = (A.1 367 20).toInt := congrArg Int32.toInt (frA218_2.trans (hkF eA217 (by omega) (hkA eA215 (frA212_2.trans ek96_4))))
                    have ttA218_31 : (A218.1 367 31).toInt = (A.1 367 31).toInt := congrArg Int32.toInt (frA218_3.trans (hkF eA217 (by omega) (hkA eA215 (frA212_3.trans ek96_5))))
                    have ttA218_37 : (A218.1 367 37).toInt = (A212.1 367 37).toInt := congrArg Int32.toInt (frA218_4.trans (hkF eA217 (by omega) (hkA eA215 rfl)))
                    have ttA218_41 : (A218.1 367 41).toInt = z216.toInt := congrArg Int32.toInt (frA218_5.trans (hkS eA217))
                    have fbA218_367_11 := hA218.f (i := 367) (k := 11) (by rfl)
                    have fbA218_367_13 := hA218.f (i := 367) (k := 13) (by rfl)
                    have nA218_12 : (A218.1 367 12).toInt = w96_1.toInt := congrArg Int32.toInt (frA218_0.trans (hkF eA217 (by omega) (hkA eA215 (frA212_0.trans ek96_1))))
                    have nA218_37 : (A218.1 367 37).toInt = (A212.1 367 37).toInt := congrArg Int32.toInt (frA218_4.trans (hkF eA217 (by omega) (hkA eA215 rfl)))
                    have nA218_41 : (A218.1 367 41).toInt = z216.toInt := congrArg Int32.toInt (frA218_5.trans (hkS eA217))
                    have aj219 : A218.2.1 = hs_up A212.2.1 392 (A212.1 367 41).toNatClampNeg z214 := by rw [aeA218, (show A217.2.1 = A215.2.1 from congrArg Prod.fst fA217), fA215]
                    have j219 : ¬ (A218.1 367 13).toInt = 0 ∨ ((A.1 367 13).toInt = 0 ∧ (A218.1 367 37).toInt ≤ 0 + (A218.1 367 11).toInt ∧ ∃ o g : Nat, hQ 0 (A.1 367 37).toInt o g 0 A218 ∧ (o : Int) = (A218.1 367 12).toInt - x12_1.toInt ∧ (A218.1 367 12).toInt ≤ 6) := by
                      by_cases h9 : (A218.1 367 13).toInt = 0
                      · obtain ⟨g5, hq5⟩ : ∃ g5, hQ 0 (A.1 367 37).toInt o_161 g5 0 A218 := by
                          rcases (show g2_213 = 0 ∨ g2_213 = 1 by omega) with e0 | e0
                          · subst e0
                            exact ⟨2, hQ.push hq2_213 (j := (A212.1 367 41)) rfl aj219 (by omega) (by omega) (by omega) (by omega)⟩
                          · subst e0
                            exact ⟨3, hQ.push hq2_213 (j := (A212.1 367 41)) rfl aj219 (by omega) (by omega) (by omega) (by omega)⟩
                        exact Or.inr ⟨by omega, by omega, _, g5, hq5, by omega, by omega⟩
                      · exact Or.inl h9
                    refine hxa_goto (by rfl) ?_
                    exact ih12 (A218.1 367 11) w96_1 (A218.1 367 13) (A212.1 367 37) z216 x12_1 (Int32.ofNat 1) A218 hA218 rfl (frA218_0.trans (hkF eA217 (by omega) (hkA eA215 (frA212_0.trans ek96_1)))) rfl (frA218_1.trans (hkF eA217 (by omega) (hkA eA215 (frA212_1.trans ek96_3)))) (frA218_2.trans (hkF eA217 (by omega) (hkA eA215 (frA212_2.trans ek96_4)))) (frA218_3.trans (hkF eA217 (by omega) (hkA eA215 (frA212_3.trans ek96_5)))) (frA218_4.trans (hkF eA217 (by omega) (hkA eA215 rfl))) (frA218_5.trans (hkS eA217)) (by omega) (by omega) (by omega) (by omega) (by omega) (by omega) (by omega) (by omega) (by omega) (by omega) (by omega) (by omega) (by exact j219) (by exact (hkz_213.trans (hK.w aj219) (Nat.le_refl _))) (by omega) (by omega)
                  ·
                    refine hxj_zeq (by rfl) rfl (fun q220 => ?_) (fun q220 => False.elim (by omega))
                    refine hxa_iconst (by rfl) rfl ?_
                    refine hxa_call0 (by rfl) (by rfl) (by rfl) (by rfl) (by rfl) (by rfl) (hX160q4 (d := d + 1) hAc96 hq_161 hl (Int32.ofNat 0) (by omega) (by omega)) ?_
                    rintro _ A221 ⟨hA221, frA221_0, frA221_1, frA221_2, frA221_3, frA221_4, frA221_5, rfl, fA221⟩
                    have ttA221_12 : (A221.1 367 12).toInt = w96_1.toInt := congrArg Int32.toInt (frA221_0.trans ek96_1)
                    have ttA221_19 : (A221.1 367 19).toInt = (A.1 367 19).toInt := congrArg Int32.toInt (frA221_1.trans ek96_3)
                    have ttA221_20 : (A221.1 367 20).toInt = (A.1 367 20).toInt := congrArg Int32.toInt (frA221_2.trans ek96_4)
                    have ttA221_31 : (A221.1 367 31).toInt = (A.1 367 31).toInt := congrArg Int32.toInt (frA221_3.trans ek96_5)
                    have ttA221_11 : (A221.1 367 11).toInt = w96_0.toInt := congrArg Int32.toInt (frA221_4.trans ek96_0)
                    have ttA221_13 : (A221.1 367 13).toInt = w96_2.toInt := congrArg Int32.toInt (frA221_5.trans ek96_2)
                    have fbA221_367_37 := hA221.f (i := 367) (k := 37) (by rfl)
                    have fbA221_367_41 := hA221.f (i := 367) (k := 41) (by rfl)
                    obtain ⟨g2_222, hq2_222, h21_222, h20_222, hk2_222, h92_222, hc2_222⟩ := fA221
                    have hw2_222 := hq2_222.w
                    have hkz_222 := u96_1.trans hk2_222 (by omega)
                    have cz_222 := hQ.cb hq2_222 (hA221.f (i := 367) (k := 11) (by rfl)).2
                    refine hxa_aload_n (by rfl) rfl ?_
                    refine hxa_get (v := .ref 393) (by rfl) (by rfl) (by rfl) rfl ?_
                    refine hxa_aload_n (by rfl) rfl ?_
                    refine hxj_getK (by rfl) (by rfl) (by rfl) rfl ?_
                    refine hxa_aload_n (by rfl) rfl ?_
                    refine hxa_get (v := .ref 371) (by rfl) (by rfl) (by rfl) rfl ?_
                    refine hxa_aload_n (by rfl) rfl ?_
                    refine hxj_getK (by rfl) (by rfl) (by rfl) (frA221_4.trans ek96_0) ?_
                    refine hxj_iald (by rfl) (by rfl) rfl (by omega) (by omega) (fun z223 ez223 => ?_)
                    have kzz223 : z223.toInt = (Ac96.2.1 370 (Ac96.1 367 11).toNatClampNeg).toInt := by rw [← ez223, hk2_222.1 370 (by decide) (by decide) (by decide), (show Ac96.1 367 11 = w96_0 from ek96_0)]
                    refine hxj_iast (by rfl) (by rfl) rfl (by omega) (by omega) hA221 (hbokN (by rfl)) (by rfl) (by rfl) (fun A224 hA224 eA224 fA224 gA224 => ?_)
                    refine hxa_aload_n (by rfl) rfl ?_
                    refine hxa_dupR (by rfl) ?_
                    refine hxj_getK (by rfl) (by rfl) (by rfl) (hkA eA224 rfl) ?_
                    refine hxa_iconst (by rfl) rfl ?_
                    refine hxj_iadd (by rfl) rfl hk_1 (by omega) (by omega) (fun z225 ez225 => ?_)
                    refine hxj_putI (by rfl) (by rfl) (by rfl) (by rfl) hA224 (hbok (by rfl) rfl (by omega) (by omega)) (by rfl) (by rfl) (fun A226 hA226 eA226 fA226 => ?_)
                    refine hxa_aload_n (by rfl) rfl ?_
                    have nA226_11 : (A226.1 367 11).toInt = w96_0.toInt := congrArg Int32.toInt (hkF eA226 (by omega) (hkA eA224 (frA221_4.trans ek96_0)))
                    have nA226_12 : (A226.1 367 12).toInt = w96_1.toInt := congrArg Int32.toInt (hkF eA226 (by omega) (hkA eA224 (frA221_0.trans ek96_1)))
                    have nA226_13 : (A226.1 367 13).toInt = w96_2.toInt := congrArg Int32.toInt (hkF eA226 (by omega) (hkA eA224 (frA221_5.trans ek96_2)))
                    have nA226_37 : (A226.1 367 37).toInt = (A221.1 367 37).toInt := congrArg Int32.toInt (hkF eA226 (by omega) (hkA eA224 rfl))
                    have nA226_41 : (A226.1 367 41).toInt = z225.toInt := congrArg Int32.toInt (hkS eA226)
                    refine hxa_call0 (by rfl) (by rfl) (by rfl) (by rfl) (by rfl) (by rfl) (hX147q4 (d := d + 1) hA226 ) ?_
                    rintro _ A227 ⟨hA227, frA227_0, frA227_1, frA227_2, frA227_3, frA227_4, frA227_5, aeA227, rfl, fA227⟩
                    have ttA227_12 : (A227.1 367 12).toInt = w96_1.toInt := congrArg Int32.toInt (frA227_0.trans (hkF eA226 (by omega) (hkA eA224 (frA221_0.trans ek96_1))))
                    have ttA227_19 : (A227.1 367 19).toInt = (A.1 367 19).toInt := congrArg Int32.toInt (frA227_1.trans (hkF eA226 (by omega) (hkA eA224 (frA221_1.trans ek96_3))))
                    have ttA227_20 : (A227.1 367 20).toInt = (A.1 367 20).toInt := congrArg Int32.toInt (frA227_2.trans (hkF eA226 (by omega) (hkA eA224 (frA221_2.trans ek96_4))))
                    have ttA227_31 : (A227.1 367 31).toInt = (A.1 367 31).toInt := congrArg Int32.toInt (frA227_3.trans (hkF eA226 (by omega) (hkA eA224 (frA221_3.trans ek96_5))))
                    have ttA227_37 : (A227.1 367 37).toInt = (A221.1 367 37).toInt := congrArg Int32.toInt (frA227_4.trans (hkF eA226 (by omega) (hkA eA224 rfl)))
                    have ttA227_41 : (A227.1 367 41).toInt = z225.toInt := congrArg Int32.toInt (frA227_5.trans (hkS eA226))
                    have fbA227_367_11 := hA227.f (i := 367) (k := 11) (by rfl)
                    have fbA227_367_13 := hA227.f (i := 367) (k := 13) (by rfl)
                    have nA227_12 : (A227.1 367 12).toInt = w96_1.toInt := congrArg Int32.toInt (frA227_0.trans (hkF eA226 (by omega) (hkA eA224 (frA221_0.trans ek96_1))))
                    have nA227_37 : (A227.1 367 37).toInt = (A221.1 367 37).toInt := congrArg Int32.toInt (frA227_4.trans (hkF eA226 (by omega) (hkA eA224 rfl)))
                    have nA227_41 : (A227.1 367 41).toInt = z225.toInt := congrArg Int32.toInt (frA227_5.trans (hkS eA226))
                    have aj228 : A227.2.1 = hs_up A221.2.1 392 (A221.1 367 41).toNatClampNeg z223 := by rw [aeA227, (show A226.2.1 = A224.2.1 from congrArg Prod.fst fA226), fA224]
                    have j228 : ¬ (A227.1 367 13).toInt = 0 ∨ ((A.1 367 13).toInt = 0 ∧ (A227.1 367 37).toInt ≤ 0 + (A227.1 367 11).toInt ∧ ∃ o g : Nat, hQ 0 (A.1 367 37).toInt o g 0 A227 ∧ (o : Int) = (A227.1 367 12).toInt - x12_1.toInt ∧ (A227.1 367 12).toInt ≤ 6) := by
                      by_cases h9 : (A227.1 367 13).toInt = 0
                      · obtain ⟨g5, hq5⟩ : ∃ g5, hQ 0 (A.1 367 37).toInt o_161 g5 0 A227 := by
                          have e0 := h20_222 (by omega)
                          subst e0
                          exact ⟨1, hQ.push hq2_222 (j := (A221.1 367 41)) rfl aj228 (by omega) (by omega) (by omega) (by omega)⟩
                        exact Or.inr ⟨by omega, by omega, _, g5, hq5, by omega, by omega⟩
                      · exact Or.inl h9
                    refine hxa_goto (by rfl) ?_
                    exact ih12 (A227.1 367 11) w96_1 (A227.1 367 13) (A221.1 367 37) z225 x12_1 (Int32.ofNat 1) A227 hA227 rfl (frA227_0.trans (hkF eA226 (by omega) (hkA eA224 (frA221_0.trans ek96_1)))) rfl (frA227_1.trans (hkF eA226 (by omega) (hkA eA224 (frA221_1.trans ek96_3)))) (frA227_2.trans (hkF eA226 (by omega) (hkA eA224 (frA221_2.trans ek96_4)))) (frA227_3.trans (hkF eA226 (by omega) (hkA eA224 (frA221_3.trans ek96_5)))) (frA227_4.trans (hkF eA226 (by omega) (hkA eA224 rfl))) (frA227_5.trans (hkS eA226)) (by omega) (by omega) (by omega) (by omega) (by omega) (by omega) (by omega) (by omega) (by omega) (by omega) (by omega) (by omega) (by exact j228) (by exact (hkz_222.trans (hK.w aj228) (Nat.le_refl _))) (by omega) (by omega)
              ·
                refine hxj_zne (by rfl) rfl (fun q229 => False.elim (by omega)) (fun q229 => ?_)
                refine hxa_aload_n (by rfl) rfl ?_
                refine hxa_bipush (by rfl) rfl ?_
                refine hxa_call0 (by rfl) (by rfl) (by rfl) (by rfl) (by rfl) (by rfl) (hX144q4 (d := d + 2) hAc96 (Int32.ofNat 10)) ?_
                rintro _ _ ⟨rfl, z230, rfl, fz230⟩
                rcases fz230 with fz230 | fz230
                ·
                  refine hxj_zne (by rfl) rfl (fun q231 => ?_) (fun q231 => False.elim (by omega))
                  refine hxa_iconst (by rfl) rfl ?_
                  refine hxa_goto (by rfl) ?_
                  refine hxa_s1 (by rfl) (Or.inl ⟨_, rfl, rfl⟩) rfl ?_
                  refine hxa_iload_n (by rfl) rfl ?_
                  refine hxj_zne (by rfl) hk_1 (fun q232 => ?_) (fun q232 => False.elim (by omega))
                  refine hxa_aload_n (by rfl) rfl ?_
                  refine hxa_aload_n (by rfl) rfl ?_
                  refine hxa_bipush (by rfl) rfl ?_
                  refine hxa_call0 (by rfl) (by rfl) (by rfl) (by rfl) (by rfl) (by rfl) (hX144q4 (d := d + 2) hAc96 (Int32.ofNat 10)) ?_
                  rintro _ _ ⟨rfl, z233, rfl, fz233⟩
                  rcases fz233 with fz233 | fz233
                  ·
                    refine hxj_zne (by rfl) rfl (fun q234 => ?_) (fun q234 => False.elim (by omega))
                    refine hxa_iconst (by rfl) rfl ?_
                    refine hxa_goto (by rfl) ?_
                    refine hxa_call0 (by rfl) (by rfl) (by rfl) (by rfl) (by rfl) (by rfl) (hX160q4 (d := d + 1) hAc96 hq_161 hl (Int32.ofNat 1) (by omega) (by omega)) ?_
                    rintro _ A235 ⟨hA235, frA235_0, frA235_1, frA235_2, frA235_3, frA235_4, frA235_5, rfl, fA235⟩
                    have ttA235_12 : (A235.1 367 12).toInt = w96_1.toInt := congrArg Int32.toInt (frA235_0.trans ek96_1)
                    have ttA235_19 : (A235.1 367 19).toInt = (A.1 367 19).toInt := congrArg Int32.toInt (frA235_1.trans ek96_3)
                    have ttA235_20 : (A235.1 367 20).toInt = (A.1 367 20).toInt := congrArg Int32.toInt (frA235_2.trans ek96_4)
                    have ttA235_31 : (A235.1 367 31).toInt = (A.1 367 31).toInt := congrArg Int32.toInt (frA235_3.trans ek96_5)
                    have ttA235_11 : (A235.1 367 11).toInt = w96_0.toInt := congrArg Int32.toInt (frA235_4.trans ek96_0)
                    have ttA235_13 : (A235.1 367 13).toInt = w96_2.toInt := congrArg Int32.toInt (frA235_5.trans ek96_2)
                    have fbA235_367_37 := hA235.f (i := 367) (k := 37) (by rfl)
                    have fbA235_367_41 := hA235.f (i := 367) (k := 41) (by rfl)
                    obtain ⟨g2_236, hq2_236, h21_236, h20_236, hk2_236, h92_236, hc2_236⟩ := fA235
                    have hw2_236 := hq2_236.w
                    have hkz_236 := u96_1.trans hk2_236 (by omega)
                    have cz_236 := hQ.cb hq2_236 (hA235.f (i := 367) (k := 11) (by rfl)).2
                    refine hxa_aload_n (by rfl) rfl ?_
                    refine hxa_get (v := .ref 393) (by rfl) (by rfl) (by rfl) rfl ?_
                    refine hxa_aload_n (by rfl) rfl ?_
                    refine hxj_getK (by rfl) (by rfl) (by rfl) rfl ?_
                    refine hxa_aload_n (by rfl) rfl ?_
                    refine hxa_get (v := .ref 371) (by rfl) (by rfl) (by rfl) rfl ?_
                    refine hxa_aload_n (by rfl) rfl ?_
                    refine hxj_getK (by rfl) (by rfl) (by rfl) (frA235_4.trans ek96_0) ?_
                    refine hxj_iald (by rfl) (by rfl) rfl (by omega) (by omega) (fun z237 ez237 => ?_)
                    have kzz237 : z237.toInt = (Ac96.2.1 370 (Ac96.1 367 11).toNatClampNeg).toInt := by rw [← ez237, hk2_236.1 370 (by decide) (by decide) (by decide), (show Ac96.1 367 11 = w96_0 from ek96_0)]
                    refine hxj_iast (by rfl) (by rfl) rfl (by omega) (by omega) hA235 (hbokN (by rfl)) (by rfl) (by rfl) (fun A238 hA238 eA238 fA238 gA238 => ?_)
                    refine hxa_aload_n (by rfl) rfl ?_
                    refine hxa_dupR (by rfl) ?_
                    refine hxj_getK (by rfl) (by rfl) (by rfl) (hkA eA238 rfl) ?_
                    refine hxa_iconst (by rfl) rfl ?_
                    refine hxj_iadd (by rfl) rfl hk_1 (by omega) (by omega) (fun z239 ez239 => ?_)
                    refine hxj_putI (by rfl) (by rfl) (by rfl) (by rfl) hA238 (hbok (by rfl) rfl (by omega) (by omega)) (by rfl) (by rfl) (fun A240 hA240 eA240 fA240 => ?_)
                    refine hxa_aload_n (by rfl) rfl ?_
                    have nA240_11 : (A240.1 367 11).toInt = w96_0.toInt := congrArg Int32.toInt (hkF eA240 (by omega) (hkA eA238 (frA235_4.trans ek96_0)))
                    have nA240_12 : (A240.1 367 12).toInt = w96_1.toInt := congrArg Int32.toInt (hkF eA240 (by omega) (hkA eA238 (frA235_0.trans ek96_1)))
                    have nA240_13 : (A240.1 367 13).toInt = w96_2.toInt := congrArg Int32.toInt (hkF eA240 (by omega) (hkA eA238 (frA235_5.trans ek96_2)))
                    have nA240_37 : (A240.1 367 37).toInt = (A235.1 367 37).toInt := congrArg Int32.toInt (hkF eA240 (by omega) (hkA eA238 rfl))
                    have nA240_41 : (A240.1 367 41).toInt = z239.toInt := congrArg Int32.toInt (hkS eA240)
                    refine hxa_call0 (by rfl) (by rfl) (by rfl) (by rfl) (by rfl) (by rfl) (hX147q4 (d := d + 1) hA240 ) ?_
                    rintro _ A241 ⟨hA241, frA241_0, frA241_1, frA241_2, frA241_3, frA241_4, frA241_5, aeA241, rfl, fA241⟩
                    have ttA241_12 : (A241.1 367 12).toInt = w96_1.toInt := congrArg Int32.toInt (frA241_0.trans (hkF eA240 (by omega) (hkA eA238 (frA235_0.trans ek96_1))))
                    have ttA241_19 : (A241.1 367 19).toInt = (A.1 367 19).toInt := congrArg Int32.toInt (frA241_1.trans (hkF eA240 (by omega) (hkA eA238 (frA235_1.trans ek96_3))))
                    have ttA241_20 : (A241.1 367 20).toInt = (A.1 367 20).toInt := congrArg Int32.toInt (frA241_2.trans (hkF eA240 (by omega) (hkA eA238 (frA235_2.trans ek96_4))))
                    have ttA241_31 : (A241.1 367 31).toInt = (A.1 367 31).toInt := congrArg Int32.toInt (frA241_3.trans (hkF eA240 (by omega) (hkA eA238 (frA235_3.trans ek96_5))))
                    have ttA241_37 : (A241.1 367 37).toInt = (A235.1 367 37).toInt := congrArg Int32.toInt (frA241_4.trans (hkF eA240 (by omega) (hkA eA238 rfl)))
                    have ttA241_41 : (A241.1 367 41).toInt = z239.toInt := congrArg Int32.toInt (frA241_5.trans (hkS eA240))
                    have fbA241_367_11 := hA241.f (i := 367) (k := 11) (by rfl)
                    have fbA241_367_13 := hA241.f (i := 367) (k := 13) (by rfl)
                    have nA241_12 : (A241.1 367 12).toInt = w96_1.toInt := congrArg Int32.toInt (frA241_0.trans (hkF eA240 (by omega) (hkA eA238 (frA235_0.trans ek96_1))))
                    have nA241_37 : (A241.1 367 37).toInt = (A235.1 367 37).toInt := congrArg Int32.toInt (frA241_4.trans (hkF eA240 (by omega) (hkA eA238 rfl)))
                    have nA241_41 : (A241.1 367 41).toInt = z239.toInt := congrArg Int32.toInt (frA241_5.trans (hkS eA240))
                    have aj242 : A241.2.1 = hs_up A235.2.1 392 (A235.1 367 41).toNatClampNeg z237 := by rw [aeA241, (show A240.2.1 = A238.2.1 from congrArg Prod.fst fA240), fA238]
                    have j242 : ¬ (A241.1 367 13).toInt = 0 ∨ ((A.1 367 13).toInt = 0 ∧ (A241.1 367 37).toInt ≤ 0 + (A241.1 367 11).toInt ∧ ∃ o g : Nat, hQ 0 (A.1 367 37).toInt o g 0 A241 ∧ (o : Int) = (A241.1 367 12).toInt - x12_1.toInt ∧ (A241.1 367 12).toInt ≤ 6) := by
                      by_cases h9 : (A241.1 367 13).toInt = 0
                      · obtain ⟨g5, hq5⟩ : ∃ g5, hQ 0 (A.1 367 37).toInt o_161 g5 0 A241 := by
                          rcases (show g2_236 = 0 ∨ g2_236 = 1 by omega) with e0 | e0
                          · subst e0
                            exact ⟨2, hQ.push hq2_236 (j := (A235.1 367 41)) rfl aj242 (by omega) (by omega) (by omega) (by omega)⟩
                          · subst e0
                            exact ⟨3, hQ.push hq2_236 (j := (A235.1 367 41)) rfl aj242 (by omega) (by omega) (by omega) (by omega)⟩
                        exact Or.inr ⟨by omega, by omega, _, g5, hq5, by omega, by omega⟩
                      · exact Or.inl h9
                    refine hxa_goto (by rfl) ?_
                    exact ih12 (A241.1 367 11) w96_1 (A241.1 367 13) (A235.1 367 37) z239 x12_1 (Int32.ofNat 1) A241 hA241 rfl (frA241_0.trans (hkF eA240 (by omega) (hkA eA238 (frA235_0.trans ek96_1)))) rfl (frA241_1.trans (hkF eA240 (by omega) (hkA eA238 (frA235_1.trans ek96_3)))) (frA241_2.trans (hkF eA240 (by omega) (hkA eA238 (frA235_2.trans ek96_4)))) (frA241_3.trans (hkF eA240 (by omega) (hkA eA238 (frA235_3.trans ek96_5)))) (frA241_4.trans (hkF eA240 (by omega) (hkA eA238 rfl))) (frA241_5.trans (hkS eA240)) (by omega) (by omega) (by omega) (by omega) (by omega) (by omega) (by omega) (by omega) (by omega) (by omega) (by omega) (by omega) (by exact j242) (by exact (hkz_236.trans (hK.w aj242) (Nat.le_refl _))) (by omega) (by omega)
                  ·
                    refine hxj_zne (by rfl) rfl (fun q243 => False.elim (by omega)) (fun q243 => ?_)
                    refine hxa_aload_n (by rfl) rfl ?_
                    refine hxa_bipush (by rfl) rfl ?_
                    refine hxa_call0 (by rfl) (by rfl) (by rfl) (by rfl) (by rfl) (by rfl) (hX144q4 (d := d + 2) hAc96 (Int32.ofNat 15)) ?_
                    rintro _ _ ⟨rfl, z244, rfl, fz244⟩
                    rcases fz244 with fz244 | fz244
                    ·
                      refine hxj_zeq (by rfl) rfl (fun q245 => False.elim (by omega)) (fun q245 => ?_)
                      refine hxa_iconst (by rfl) rfl ?_
                      refine hxa_goto (by rfl) ?_
                      refine hxa_call0 (by rfl) (by rfl) (by rfl) (by rfl) (by rfl) (by rfl) (hX160q4 (d := d + 1) hAc96 hq_161 hl (Int32.ofNat 1) (by omega) (by omega)) ?_
                      rintro _ A246 ⟨hA246, frA246_0, frA246_1, frA246_2, frA246_3, frA246_4, frA246_5, rfl, fA246⟩
                      have ttA246_12 : (A246.1 367 12).toInt = w96_1.toInt := congrArg Int32.toInt (frA246_0.trans ek96_1)
                      have ttA246_19 : (A246.1 367 19).toInt = (A.1 367 19).toInt := congrArg Int32.toInt (frA246_1.trans ek96_3)
                      have ttA246_20 : (A246.1 367 20).toInt = (A.1 367 20).toInt := congrArg Int32.toInt (frA246_2.trans ek96_4)
                      have ttA246_31 : (A246.1 367 31).toInt = (A.1 367 31).toInt := congrArg Int32.toInt (frA246_3.trans ek96_5)
                      have ttA246_11 : (A246.1 367 11).toInt = w96_0.toInt := congrArg Int32.toInt (frA246_4.trans ek96_0)
                      have ttA246_13 : (A246.1 367 13).toInt = w96_2.toInt := congrArg Int32.toInt (frA246_5.trans ek96_2)
                      have fbA246_367_37 := hA246.f (i := 367) (k := 37) (by rfl)
                      have fbA246_367_41 := hA246.f (i := 367) (k := 41) (by rfl)
                      obtain ⟨g2_247, hq2_247, h21_247, h20_247, hk2_247, h92_247, hc2_247⟩ := fA246
                      have hw2_247 := hq2_247.w
                      have hkz_247 := u96_1.trans hk2_247 (by omega)
                      have cz_247 := hQ.cb hq2_247 (hA246.f (i := 367) (k := 11) (by rfl)).2
                      refine hxa_aload_n (by rfl) rfl ?_
                      refine hxa_get (v := .ref 393) (by rfl) (by rfl) (by rfl) rfl ?_
                      refine hxa_aload_n (by rfl) rfl ?_
                      refine hxj_getK (by rfl) (by rfl) (by rfl) rfl ?_
                      refine hxa_aload_n (by rfl) rfl ?_
                      refine hxa_get (v := .ref 371) (by rfl) (by rfl) (by rfl) rfl ?_
                      refine hxa_aload_n (by rfl) rfl ?_
                      refine hxj_getK (by rfl) (by rfl) (by rfl) (frA246_4.trans ek96_0) ?_
                      refine hxj_iald (by rfl) (by rfl) rfl (by omega) (by omega) (fun z248 ez248 => ?_)
                      have kzz248 : z248.toInt = (Ac96.2.1 370 (Ac96.1 367 11).toNatClampNeg).toInt := by rw [← ez248, hk2_247.1 370 (by decide) (by decide) (by decide), (show Ac96.1 367 11 = w96_0 from ek96_0)]
                      refine hxj_iast (by rfl) (by rfl) rfl (by omega) (by omega) hA246 (hbokN (by rfl)) (by rfl) (by rfl) (fun A249 hA249 eA249 fA249 gA249 => ?_)
                      refine hxa_aload_n (by rfl) rfl ?_
                      refine hxa_dupR (by rfl) ?_
                      refine hxj_getK (by rfl) (by rfl) (by rfl) (hkA eA249 rfl) ?_
                      refine hxa_iconst (by rfl) rfl ?_
                      refine hxj_iadd (by rfl) rfl hk_1 (by omega) (by omega) (fun z250 ez250 => ?_)
                      refine hxj_putI (by rfl) (by rfl) (by rfl) (by rfl) hA249 (hbok (by rfl) rfl (by omega) (by omega)) (by rfl) (by rfl) (fun A251 hA251 eA251 fA251 => ?_)
                      refine hxa_aload_n (by rfl) rfl ?_
                      have nA251_11 : (A251.1 367 11).toInt = w96_0.toInt := congrArg Int32.toInt (hkF eA251 (by omega) (hkA eA249 (frA246_4.trans ek96_0)))
                      have nA251_12 : (A251.1 367 12).toInt = w96_1.toInt := congrArg Int32.toInt (hkF eA251 (by omega) (hkA eA249 (frA246_0.trans ek96_1)))
                      have nA251_13 : (A251.1 367 13).toInt = w96_2.toInt := congrArg Int32.toInt (hkF eA251 (by omega) (hkA eA249 (frA246_5.trans ek96_2)))
                      have nA251_37 : (A251.1 367 37).toInt = (A246.1 367 37).toInt := congrArg Int32.toInt (hkF eA251 (by omega) (hkA eA249 rfl))
                      have nA251_41 : (A251.1 367 41).toInt = z250.toInt := congrArg Int32.toInt (hkS eA251)
                      refine hxa_call0 (by rfl) (by rfl) (by rfl) (by rfl) (by rfl) (by rfl) (hX147q4 (d := d + 1) hA251 ) ?_
                      rintro _ A252 ⟨hA252, frA252_0, frA252_1, frA252_2, frA252_3, frA252_4, frA252_5, aeA252, rfl, fA252⟩
                      have ttA252_12 : (A252.1 367 12).toInt = w96_1.toInt := congrArg Int32.toInt (frA252_0.trans (hkF eA251 (by omega) (hkA eA249 (frA246_0.trans ek96_1))))
                      have ttA252_19 : (A252.1 367 19).toInt = (A.1 367 19).toInt := congrArg Int32.toInt (frA252_1.trans (hkF eA251 (by omega) (hkA eA249 (frA246_1.trans ek96_3))))
                      have ttA252_20 : (A252.1 367 20).toInt = (A.1 367 20).toInt := congrArg Int32.toInt (frA252_2.trans (hkF eA251 (by omega) (hkA eA249 (frA246_2.trans ek96_4))))
                      have ttA252_31 : (A252.1 367 31).toInt = (A.1 367 31).toInt := congrArg Int32.toInt (frA252_3.trans (hkF eA251 (by omega) (hkA eA249 (frA246_3.trans ek96_5))))
                      have ttA252_37 : (A252.1 367 37).toInt = (A246.1 367 37).toInt := congrArg Int32.toInt (frA252_4.trans (hkF eA251 (by omega) (hkA eA249 rfl)))
                      have ttA252_41 : (A252.1 367 41).toInt = z250.toInt := congrArg Int32.toInt (frA252_5.trans (hkS eA251))
                      have fbA252_367_11 := hA252.f (i := 367) (k := 11) (by rfl)
                      have fbA252_367_13 := hA252.f (i := 367) (k := 13) (by rfl)
                      have nA252_12 : (A252.1 367 12).toInt = w96_1.toInt := congrArg Int32.toInt (frA252_0.trans (hkF eA251 (by omega) (hkA eA249 (frA246_0.trans ek96_1))))
                      have nA252_37 : (A252.1 367 37).toInt = (A246.1 367 37).toInt := congrArg Int32.toInt (frA252_4.trans (hkF eA251 (by omega) (hkA eA249 rfl)))
                      have nA252_41 : (A252.1 367 41).toInt = z250.toInt := congrArg Int32.toInt (frA252_5.trans (hkS eA251))
                      have aj253 : A252.2.1 = hs_up A246.2.1 392 (A246.1 367 41).toNatClampNeg z248 := by rw [aeA252, (show A251.2.1 = A249.2.1 from congrArg Prod.fst fA251), fA249]
                      have j253 : ¬ (A252.1 367 13).toInt = 0 ∨ ((A.1 367 13).toInt = 0 ∧ (A252.1 367 37).toInt ≤ 0 + (A252.1 367 11).toInt ∧ ∃ o g : Nat, hQ 0 (A.1 367 37).toInt o g 0 A252 ∧ (o : Int) = (A252.1 367 12).toInt - x12_1.toInt ∧ (A252.1 367 12).toInt ≤ 6) := by
                        by_cases h9 : (A252.1 367 13).toInt = 0
                        · obtain ⟨g5, hq5⟩ : ∃ g5, hQ 0 (A.1 367 37).toInt o_161 g5 0 A252 := by
                            rcases (show g2_247 = 0 ∨ g2_247 = 1 by omega) with e0 | e0
                            · subst e0
                              exact ⟨2, hQ.push hq2_247 (j := (A246.1 367 41)) rfl aj253 (by omega) (by omega) (by omega) (by omega)⟩
                            · subst e0
                              exact ⟨3, hQ.push hq2_247 (j := (A246.1 367 41)) rfl aj253 (by omega) (by omega) (by omega) (by omega)⟩
                          exact Or.inr ⟨by omega, by omega, _, g5, hq5, by omega, by omega⟩
                        · exact Or.inl h9
                      refine hxa_goto (by rfl) ?_
                      exact ih12 (A252.1 367 11) w96_1 (A252.1 367 13) (A246.1 367 37) z250 x12_1 (Int32.ofNat 1) A252 hA252 rfl (frA252_0.trans (hkF eA251 (by omega) (hkA eA249 (frA246_0.trans ek96_1)))) rfl (frA252_1.trans (hkF eA251 (by omega) (hkA eA249 (frA246_1.trans ek96_3)))) (frA252_2.trans (hkF eA251 (by omega) (hkA eA249 (frA246_2.trans ek96_4)))) (frA252_3.trans (hkF eA251 (by omega) (hkA eA249 (frA246_3.trans ek96_5)))) (frA252_4.trans (hkF eA251 (by omega) (hkA eA249 rfl))) (frA252_5.trans (hkS eA251)) (by omega) (by omega) (by omega) (by omega) (by omega) (by omega) (by omega) (by omega) (by omega) (by omega) (by omega) (by omega) (by exact j253) (by exact (hkz_247.trans (hK.w aj253) (Nat.le_refl _))) (by omega) (by omega)
                    ·
                      refine hxj_zeq (by rfl) rfl (fun q254 => ?_) (fun q254 => False.elim (by omega))
                      refine hxa_iconst (by rfl) rfl ?_
                      refine hxa_call0 (by rfl) (by rfl) (by rfl) (by rfl) (by rfl) (by rfl) (hX160q4 (d := d + 1) hAc96 hq_161 hl (Int32.ofNat 0) (by omega) (by omega)) ?_
                      rintro _ A255 ⟨hA255, frA255_0, frA255_1, frA255_2, frA255_3, frA255_4, frA255_5, rfl, fA255⟩
                      have ttA255_12 : (A255.1 367 12).toInt = w96_1.toInt := congrArg Int32.toInt (frA255_0.trans ek96_1)
                      have ttA255_19 : (A255.1 367 19).toInt = (A.1 367 19).toInt := congrArg Int32.toInt (frA255_1.trans ek96_3)
                      have ttA255_20 : (A255.1 367 20).toInt = (A.1 367 20).toInt := congrArg Int32.toInt (frA255_2.trans ek96_4)
                      have ttA255_31 : (A255.1 367 31).toInt = (A.1 367 31).toInt := congrArg Int32.toInt (frA255_3.trans ek96_5)
                      have ttA255_11 : (A255.1 367 11).toInt = w96_0.toInt := congrArg Int32.toInt (frA255_4.trans ek96_0)
                      have ttA255_13 : (A255.1 367 13).toInt = w96_2.toInt := congrArg Int32.toInt (frA255_5.trans ek96_2)
                      have fbA255_367_37 := hA255.f (i := 367) (k := 37) (by rfl)
                      have fbA255_367_41 := hA255.f (i := 367) (k := 41) (by rfl)
                      obtain ⟨g2_256, hq2_256, h21_256, h20_256, hk2_256, h92_256, hc2_256⟩ := fA255
                      have hw2_256 := hq2_256.w
                      have hkz_256 := u96_1.trans hk2_256 (by omega)
                      have cz_256 := hQ.cb hq2_256 (hA255.f (i := 367) (k := 11) (by rfl)).2
                      refine hxa_aload_n (by rfl) rfl ?_
                      refine hxa_get (v := .ref 393) (by rfl) (by rfl) (by rfl) rfl ?_
                      refine hxa_aload_n (by rfl) rfl ?_
                      refine hxj_getK (by rfl) (by rfl) (by rfl) rfl ?_
                      refine hxa_aload_n (by rfl) rfl ?_
                      refine hxa_get (v := .ref 371) (by rfl) (by rfl) (by rfl) rfl ?_
                      refine hxa_aload_n (by rfl) rfl ?_
                      refine hxj_getK (by rfl) (by rfl) (by rfl) (frA255_4.trans ek96_0) ?_
                      refine hxj_iald (by rfl) (by rfl) rfl (by omega) (by omega) (fun z257 ez257 => ?_)
                      have kzz257 : z257.toInt = (Ac96.2.1 370 (Ac96.1 367 11).toNatClampNeg).toInt := by rw [← ez257, hk2_256.1 370 (by decide) (by decide) (by decide), (show Ac96.1 367 11 = w96_0 from ek96_0)]
                      refine hxj_iast (by rfl) (by rfl) rfl (by omega) (by omega) hA255 (hbokN (by rfl)) (by rfl) (by rfl) (fun A258 hA258 eA258 fA258 gA258 => ?_)
                      refine hxa_aload_n (by rfl) rfl ?_
                      refine hxa_dupR (by rfl) ?_
                      refine hxj_getK (by rfl) (by rfl) (by rfl) (hkA eA258 rfl) ?_
                      refine hxa_iconst (by rfl) rfl ?_
                      refine hxj_iadd (by rfl) rfl hk_1 (by omega) (by omega) (fun z259 ez259 => ?_)
                      refine hxj_putI (by rfl) (by rfl) (by rfl) (by rfl) hA258 (hbok (by rfl) rfl (by omega) (by omega)) (by rfl) (by rfl) (fun A260 hA260 eA260 fA260 => ?_)
                      refine hxa_aload_n (by rfl) rfl ?_
                      have nA260_11 : (A260.1 367 11).toInt = w96_0.toInt := congrArg Int32.toInt (hkF eA260 (by omega) (hkA eA258 (frA255_4.trans ek96_0)))
                      have nA260_12 : (A260.1 367 12).toInt = w96_1.toInt := congrArg Int32.toInt (hkF eA260 (by omega) (hkA eA258 (frA255_0.trans ek96_1)))
                      have nA260_13 : (A260.1 367 13).toInt = w96_2.toInt := congrArg Int32.toInt (hkF eA260 (by omega) (hkA eA258 (frA255_5.trans ek96_2)))
                      have nA260_37 : (A260.1 367 37).toInt = (A255.1 367 37).toInt := congrArg Int32.toInt (hkF eA260 (by omega) (hkA eA258 rfl))
                      have nA260_41 : (A260.1 367 41).toInt = z259.toInt := congrArg Int32.toInt (hkS eA260)
                      refine hxa_call0 (by rfl) (by rfl) (by rfl) (by rfl) (by rfl) (by rfl) (hX147q4 (d := d + 1) hA260 ) ?_
                      rintro _ A261 ⟨hA261, frA261_0, frA261_1, frA261_2, frA261_3, frA261_4, frA261_5, aeA261, rfl, fA261⟩
                      have ttA261_12 : (A261.1 367 12).toInt = w96_1.toInt := congrArg Int32.toInt (frA261_0.trans (hkF eA260 (by omega) (hkA eA258 (frA255_0.trans ek96_1))))
                      have ttA261_19 : (A261.1 367 19).toInt = (A.1 367 19).toInt := congrArg Int32.toInt (frA261_1.trans (hkF eA260 (by omega) (hkA eA258 (frA255_1.trans ek96_3))))
                      have ttA261_20 : (A261.1 367 20).toInt = (A.1 367 20).toInt := congrArg Int32.toInt (frA261_2.trans (hkF eA260 (by omega) (hkA eA258 (frA255_2.trans ek96_4))))
                      have ttA261_31 : (A261.1 367 31).toInt = (A.1 367 31).toInt := congrArg Int32.toInt (frA261_3.trans (hkF eA260 (by omega) (hkA eA258 (frA255_3.trans ek96_5))))
                      have ttA261_37 : (A261.1 367 37).toInt = (A255.1 367 37).toInt := congrArg Int32.toInt (frA261_4.trans (hkF eA260 (by omega) (hkA eA258 rfl)))
                      have ttA261_41 : (A261.1 367 41).toInt = z259.toInt := congrArg Int32.toInt (frA261_5.trans (hkS eA260))
                      have fbA261_367_11 := hA261.f (i := 367) (k := 11) (by rfl)
                      have fbA261_367_13 := hA261.f (i := 367) (k := 13) (by rfl)
                      have nA261_12 : (A261.1 367 12).toInt = w96_1.toInt := congrArg Int32.toInt (frA261_0.trans (hkF eA260 (by omega) (hkA eA258 (frA255_0.trans ek96_1))))
                      have nA261_37 : (A261.1 367 37).toInt = (A255.1 367 37).toInt := congrArg Int32.toInt (frA261_4.trans (hkF eA260 (by omega) (hkA eA258 rfl)))
                      have nA261_41 : (A261.1 367 41).toInt = z259.toInt := congrArg Int32.toInt (frA261_5.trans (hkS eA260))
                      have aj262 : A261.2.1 = hs_up A255.2.1 392 (A255.1 367 41).toNatClampNeg z257 := by rw [aeA261, (show A260.2.1 = A258.2.1 from congrArg Prod.fst fA260), fA258]
                      have j262 : ¬ (A261.1 367 13).toInt = 0 ∨ ((A.1 367 13).toInt = 0 ∧ (A261.1 367 37).toInt ≤ 0 + (A261.1 367 11).toInt ∧ ∃ o g : Nat, hQ 0 (A.1 367 37).toInt o g 0 A261 ∧ (o : Int) = (A261.1 367 12).toInt - x12_1.toInt ∧ (A261.1 367 12).toInt ≤ 6) := by
                        by_cases h9 : (A261.1 367 13).toInt = 0
                        · obtain ⟨g5, hq5⟩ : ∃ g5, hQ 0 (A.1 367 37).toInt o_161 g5 0 A261 := by
                            have e0 := h20_256 (by omega)
                            subst e0
                            exact ⟨1, hQ.push hq2_256 (j := (A255.1 367 41)) rfl aj262 (by omega) (by omega) (by omega) (by omega)⟩
                          exact Or.inr ⟨by omega, by omega, _, g5, hq5, by omega, by omega⟩
                        · exact Or.inl h9
                      refine hxa_goto (by rfl) ?_
                      exact ih12 (A261.1 367 11) w96_1 (A261.1 367 13) (A255.1 367 37) z259 x12_1 (Int32.ofNat 1) A261 hA261 rfl (frA261_0.trans (hkF eA260 (by omega) (hkA eA258 (frA255_0.trans ek96_1)))) rfl (frA261_1.trans (hkF eA260 (by omega) (hkA eA258 (frA255_1.trans ek96_3)))) (frA261_2.trans (hkF eA260 (by omega) (hkA eA258 (frA255_2.trans ek96_4)))) (frA261_3.trans (hkF eA260 (by omega) (hkA eA258 (frA255_3.trans ek96_5)))) (frA261_4.trans (hkF eA260 (by omega) (hkA eA258 rfl))) (frA261_5.trans (hkS eA260)) (by omega) (by omega) (by omega) (by omega) (by omega) (by omega) (by omega) (by omega) (by omega) (by omega) (by omega) (by omega) (by exact j262) (by exact (hkz_256.trans (hK.w aj262) (Nat.le_refl _))) (by omega) (by omega)
                ·
                  refine hxj_zne (by rfl) rfl (fun q263 => False.elim (by omega)) (fun q263 => ?_)
                  refine hxa_aload_n (by rfl) rfl ?_
                  refine hxa_bipush (by rfl) rfl ?_
                  refine hxa_call0 (by rfl) (by rfl) (by rfl) (by rfl) (by rfl) (by rfl) (hX144q4 (d := d + 2) hAc96 (Int32.ofNat 15)) ?_
                  rintro _ _ ⟨rfl, z264, rfl, fz264⟩
                  rcases fz264 with fz264 | fz264
                  ·
                    refine hxj_zeq (by rfl) rfl (fun q265 => False.elim (by omega)) (fun q265 => ?_)
                    refine hxa_iconst (by rfl) rfl ?_
                    refine hxa_goto (by rfl) ?_
                    refine hxa_s1 (by rfl) (Or.inl ⟨_, rfl, rfl⟩) rfl ?_
                    refine hxa_iload_n (by rfl) rfl ?_
                    refine hxj_zne (by rfl) hk_1 (fun q266 => ?_) (fun q266 => False.elim (by omega))
                    refine hxa_aload_n (by rfl) rfl ?_
                    refine hxa_aload_n (by rfl) rfl ?_
                    refine hxa_bipush (by rfl) rfl ?_
                    refine hxa_call0 (by rfl) (by rfl) (by rfl) (by rfl) (by rfl) (by rfl) (hX144q4 (d := d + 2) hAc96 (Int32.ofNat 10)) ?_
                    rintro _ _ ⟨rfl, z267, rfl, fz267⟩
                    rcases fz267 with fz267 | fz267
                    ·
                      refine hxj_zne (by rfl) rfl (fun q268 => ?_) (fun q268 => False.elim (by omega))
                      refine hxa_iconst (by rfl) rfl ?_
                      refine hxa_goto (by rfl) ?_
                      refine hxa_call0 (by rfl) (by rfl) (by rfl) (by rfl) (by rfl) (by rfl) (hX160q4 (d := d + 1) hAc96 hq_161 hl (Int32.ofNat 1) (by omega) (by omega)) ?_
                      rintro _ A269 ⟨hA269, frA269_0, frA269_1, frA269_2, frA269_3, frA269_4, frA269_5, rfl, fA269⟩
                      have ttA269_12 : (A269.1 367 12).toInt = w96_1.toInt := congrArg Int32.toInt (frA269_0.trans ek96_1)
                      have ttA269_19 : (A269.1 367 19).toInt = (A.1 367 19).toInt := congrArg Int32.toInt (frA269_1.trans ek96_3)
                      have ttA269_20 : (A269.1 367 20).toInt = (A.1 367 20).toInt := congrArg Int32.toInt (frA269_2.trans ek96_4)
                      have ttA269_31 : (A269.1 367 31).toInt = (A.1 367 31).toInt := congrArg Int32.toInt (frA269_3.trans ek96_5)
                      have ttA269_11 : (A269.1 367 11).toInt = w96_0.toInt := congrArg Int32.toInt (frA269_4.trans ek96_0)
                      have ttA269_13 : (A269.1 367 13).toInt = w96_2.toInt := congrArg Int32.toInt (frA269_5.trans ek96_2)
                      have fbA269_367_37 := hA269.f (i := 367) (k := 37) (by rfl)
                      have fbA269_367_41 := hA269.f (i := 367) (k := 41) (by rfl)
                      obtain ⟨g2_270, hq2_270, h21_270, h20_270, hk2_270, h92_270, hc2_270⟩ := fA269
                      have hw2_270 := hq2_270.w
                      have hkz_270 := u96_1.trans hk2_270 (by omega)
                      have cz_270 := hQ.cb hq2_270 (hA269.f (i := 367) (k := 11) (by rfl)).2
                      refine hxa_aload_n (by rfl) rfl ?_
                      refine hxa_get (v := .ref 393) (by rfl) (by rfl) (by rfl) rfl ?_
                      refine hxa_aload_n (by rfl) rfl ?_
                      refine hxj_getK (by rfl) (by rfl) (by rfl) rfl ?_
                      refine hxa_aload_n (by rfl) rfl ?_
                      refine hxa_get (v := .ref 371) (by rfl) (by rfl) (by rfl) rfl ?_
                      refine hxa_aload_n (by rfl) rfl ?_
                      refine hxj_getK (by rfl) (by rfl) (by rfl) (frA269_4.trans ek96_0) ?_
                      refine hxj_iald (by rfl) (by rfl) rfl (by omega) (by omega) (fun z271 ez271 => ?_)
                      have kzz271 : z271.toInt = (Ac96.2.1 370 (Ac96.1 367 11).toNatClampNeg).toInt := by rw [← ez271, hk2_270.1 370 (by decide) (by decide) (by decide), (show Ac96.1 367 11 = w96_0 from ek96_0)]
                      refine hxj_iast (by rfl) (by rfl) rfl (by omega) (by omega) hA269 (hbokN (by rfl)) (by rfl) (by rfl) (fun A272 hA272 eA272 fA272 gA272 => ?_)
                      refine hxa_aload_n (by rfl) rfl ?_
                      refine hxa_dupR (by rfl) ?_
                      refine hxj_getK (by rfl) (by rfl) (by rfl) (hkA eA272 rfl) ?_
                      refine hxa_iconst (by rfl) rfl ?_
                      refine hxj_iadd (by rfl) rfl hk_1 (by omega) (by omega) (fun z273 ez273 => ?_)
                      refine hxj_putI (by rfl) (by rfl) (by rfl) (by rfl) hA272 (hbok (by rfl) rfl (by omega) (by omega)) (by rfl) (by rfl) (fun A274 hA274 eA274 fA274 => ?_)
                      refine hxa_aload_n (by rfl) rfl ?_
                      have nA274_11 : (A274.1 367 11).toInt = w96_0.toInt := congrArg Int32.toInt (hkF eA274 (by omega) (hkA eA272 (frA269_4.trans ek96_0)))
                      have nA274_12 : (A274.1 367 12).toInt = w96_1.toInt := congrArg Int32.toInt (hkF eA274 (by omega) (hkA eA272 (frA269_0.trans ek96_1)))
                      have nA274_13 : (A274.1 367 13).toInt = w96_2.toInt := congrArg Int32.toInt (hkF eA274 (by omega) (hkA eA272 (frA269_5.trans ek96_2)))
                      have nA274_37 : (A274.1 367 37).toInt = (A269.1 367 37).toInt := congrArg Int32.toInt (hkF eA274 (by omega) (hkA eA272 rfl))
                      have nA274_41 : (A274.1 367 41).toInt = z273.toInt := congrArg Int32.toInt (hkS eA274)
                      refine hxa_call0 (by rfl) (by rfl) (by rfl) (by rfl) (by rfl) (by rfl) (hX147q4 (d := d + 1) hA274 ) ?_
                      rintro _ A275 ⟨hA275, frA275_0, frA275_1, frA275_2, frA275_3, frA275_4, frA275_5, aeA275, rfl, fA275⟩
                      have ttA275_12 : (A275.1 367 12).toInt = w96_1.toInt := congrArg Int32.toInt (frA275_0.trans (hkF eA274 (by omega) (hkA eA272 (frA269_0.trans ek96_1))))
                      have ttA275_19 : (A275.1 367 19).toInt = (A.1 367 19).toInt := congrArg Int32.toInt (frA275_1.trans (hkF eA274 (by omega) (hkA eA272 (frA269_1.trans ek96_3))))
                      have ttA275_20 : (A275.1 367 20).toInt = (A.1 367 20).toInt := congrArg Int32.toInt (frA275_2.trans (hkF eA274 (by omega) (hkA eA272 (frA269_2.trans ek96_4))))
                      have ttA275_31 : (A275.1 367 31).toInt = (A.1 367 31).toInt := congrArg Int32.toInt (frA275_3.trans (hkF eA274 (by omega) (hkA eA272 (frA269_3.trans ek96_5))))
                      have ttA275_37 : (A275.1 367 37).toInt = (A269.1 367 37).toInt := congrArg Int32.toInt (frA275_4.trans (hkF eA274 (by omega) (hkA eA272 rfl)))
                      have ttA275_41 : (A275.1 367 41).toInt = z273.toInt := congrArg Int32.toInt (frA275_5.trans (hkS eA274))
                      have fbA275_367_11 := hA275.f (i := 367) (k := 11) (by rfl)
                      have fbA275_367_13 := hA275.f (i := 367) (k := 13) (by rfl)
                      have nA275_12 : (A275.1 367 12).toInt = w96_1.toInt := congrArg Int32.toInt (frA275_0.trans (hkF eA274 (by omega) (hkA eA272 (frA269_0.trans ek96_1))))
                      have nA275_37 : (A275.1 367 37).toInt = (A269.1 367 37).toInt := congrArg Int32.toInt (frA275_4.trans (hkF eA274 (by omega) (hkA eA272 rfl)))
                      have nA275_41 : (A275.1 367 41).toInt = z273.toInt := congrArg Int32.toInt (frA275_5.trans (hkS eA274))
                      have aj276 : A275.2.1 = hs_up A269.2.1 392 (A269.1 367 41).toNatClampNeg z271 := by rw [aeA275, (show A274.2.1 = A272.2.1 from congrArg Prod.fst fA274), fA272]
                      have j276 : ¬ (A275.1 367 13).toInt = 0 ∨ ((A.1 367 13).toInt = 0 ∧ (A275.1 367 37).toInt ≤ 0 + (A275.1 367 11).toInt ∧ ∃ o g : Nat, hQ 0 (A.1 367 37).toInt o g 0 A275 ∧ (o : Int) = (A275.1 367 12).toInt - x12_1.toInt ∧ (A275.1 367 12).toInt ≤ 6) := by
                        by_cases h9 : (A275.1 367 13).toInt = 0
                        · obtain ⟨g5, hq5⟩ : ∃ g5, hQ 0 (A.1 367 37).toInt o_161 g5 0 A275 := by
                            rcases (show g2_270 = 0 ∨ g2_270 = 1 by omega) with e0 | e0
                            · subst e0
                              exact ⟨2, hQ.push hq2_270 (j := (A269.1 367 41)) rfl aj276 (by omega) (by omega) (by omega) (by omega)⟩
                            · subst e0
                              exact ⟨3, hQ.push hq2_270 (j := (A269.1 367 41)) rfl aj276 (by omega) (by omega) (by omega) (by omega)⟩
                          exact Or.inr ⟨by omega, by omega, _, g5, hq5, by omega, by omega⟩
                        · exact Or.inl h9
                      refine hxa_goto (by rfl) ?_
                      exact ih12 (A275.1 367 11) w96_1 (A275.1 367 13) (A269.1 367 37) z273 x12_1 (Int32.ofNat 1) A275 hA275 rfl (frA275_0.trans (hkF eA274 (by omega) (hkA eA272 (frA269_0.trans ek96_1)))) rfl (frA275_1.trans (hkF eA274 (by omega) (hkA eA272 (frA269_1.trans ek96_3)))) (frA275_2.trans (hkF eA274 (by omega) (hkA eA272 (frA269_2.trans ek96_4)))) (frA275_3.trans (hkF eA274 (by omega) (hkA eA272 (frA269_3.trans ek96_5)))) (frA275_4.trans (hkF eA274 (by omega) (hkA eA272 rfl))) (frA275_5.trans (hkS eA274)) (by omega) (by omega) (by omega) (by omega) (by omega) (by omega) (by omega) (by omega) (by omega) (by omega) (by omega) (by omega) (by exact j276) (by exact (hkz_270.trans (hK.w aj276) (Nat.le_refl _))) (by omega) (by omega)
                    ·
                      refine hxj_zne (by rfl) rfl (fun q277 => False.elim (by omega)) (fun q277 => ?_)
                      refine hxa_aload_n (by rfl) rfl ?_
                      refine hxa_bipush (by rfl) rfl ?_
                      refine hxa_call0 (by rfl) (by rfl) (by rfl) (by rfl) (by rfl) (by rfl) (hX144q4 (d := d + 2) hAc96 (Int32.ofNat 15)) ?_
                      rintro _ _ ⟨rfl, z278, rfl, fz278⟩
                      rcases fz278 with fz278 | fz278
                      ·
                        refine hxj_zeq (by rfl) rfl (fun q279 => False.elim (by omega)) (fun q279 => ?_)
                        refine hxa_iconst (by rfl) rfl ?_
                        refine hxa_goto (by rfl) ?_
                        refine hxa_call0 (by rfl) (by rfl) (by rfl) (by rfl) (by rfl) (by rfl) (hX160q4 (d := d + 1) hAc96 hq_161 hl (Int32.ofNat 1) (by omega) (by omega)) ?_
                        rintro _ A280 ⟨hA280, frA280_0, frA280_1, frA280_2, frA280_3, frA280_4, frA280_5, rfl, fA280⟩
                        have ttA280_12 : (A280.1 367 12).toInt = w96_1.toInt := congrArg Int32.toInt (frA280_0.trans ek96_1)
                        have ttA280_19 : (A280.1 367 19).toInt = (A.1 367 19).toInt := congrArg Int32.toInt (frA280_1.trans ek96_3)
                        have ttA280_20 : (A280.1 367 20).toInt = (A.1 367 20).toInt := congrArg Int32.toInt (frA280_2.trans ek96_4)
                        have ttA280_31 : (A280.1 367 31).toInt = (A.1 367 31).toInt := congrArg Int32.toInt (frA280_3.trans ek96_5)
                        have ttA280_11 : (A280.1 367 11).toInt = w96_0.toInt := congrArg Int32.toInt (frA280_4.trans ek96_0)
                        have ttA280_13 : (A280.1 367 13).toInt = w96_2.toInt := congrArg Int32.toInt (frA280_5.trans ek96_2)
                        have fbA280_367_37 := hA280.f (i := 367) (k := 37) (by rfl)
                        have fbA280_367_41 := hA280.f (i := 367) (k := 41) (by rfl)
                        obtain ⟨g2_281, hq2_281, h21_281, h20_281, hk2_281, h92_281, hc2_281⟩ := fA280
                        have hw2_281 := hq2_281.w
                        have hkz_281 := u96_1.trans hk2_281 (by omega)
                        have cz_281 := hQ.cb hq2_281 (hA280.f (i := 367) (k := 11) (by rfl)).2
                        refine hxa_aload_n (by rfl) rfl ?_
                        refine hxa_get (v := .ref 393) (by rfl) (by rfl) (by rfl) rfl ?_
                        refine hxa_aload_n (by rfl) rfl ?_
                        refine hxj_getK (by rfl) (by rfl) (by rfl) rfl ?_
                        refine hxa_aload_n (by rfl) rfl ?_
                        refine hxa_get (v := .ref 371) (by rfl) (by rfl) (by rfl) rfl ?_
                        refine hxa_aload_n (by rfl) rfl ?_
                        refine hxj_getK (by rfl) (by rfl) (by rfl) (frA280_4.trans ek96_0) ?_
                        refine hxj_iald (by rfl) (by rfl) rfl (by omega) (by omega) (fun z282 ez282 => ?_)
                        have kzz282 : z282.toInt = (Ac96.2.1 370 (Ac96.1 367 11).toNatClampNeg).toInt := by rw [← ez282, hk2_281.1 370 (by decide) (by decide) (by decide), (show Ac96.1 367 11 = w96_0 from ek96_0)]
                        refine hxj_iast (by rfl) (by rfl) rfl (by omega) (by omega) hA280 (hbokN (by rfl)) (by rfl) (by rfl) (fun A283 hA283 eA283 fA283 gA283 => ?_)
                        refine hxa_aload_n (by rfl) rfl ?_
                        refine hxa_dupR (by rfl) ?_
                        refine hxj_getK (by rfl) (by rfl) (by rfl) (hkA eA283 rfl) ?_
                        refine hxa_iconst (by rfl) rfl ?_
                        refine hxj_iadd (by rfl) rfl hk_1 (by omega) (by omega) (fun z284 ez284 => ?_)
                        refine hxj_putI (by rfl) (by rfl) (by rfl) (by rfl) hA283 (hbok (by rfl) rfl (by omega) (by omega)) (by rfl) (by rfl) (fun A285 hA285 eA285 fA285 => ?_)
                        refine hxa_aload_n (by rfl) rfl ?_
                        have nA285_11 : (A285.1 367 11).toInt = w96_0.toInt := congrArg Int32.toInt (hkF eA285 (by omega) (hkA eA283 (frA280_4.trans ek96_0)))
                        have nA285_12 : (A285.1 367 12).toInt = w96_1.toInt := congrArg Int32.toInt (hkF eA285 (by omega) (hkA eA283 (frA280_0.trans ek96_1)))
                        have nA285_13 : (A285.1 367 13).toInt = w96_2.toInt := congrArg Int32.toInt (hkF eA285 (by omega) (hkA eA283 (frA280_5.trans ek96_2)))
                        have nA285_37 : (A285.1 367 37).toInt = (A280.1 367 37).toInt := congrArg Int32.toInt (hkF eA285 (by omega) (hkA eA283 rfl))
                        have nA285_41 : (A285.1 367 41).toInt = z284.toInt := congrArg Int32.toInt (hkS eA285)
                        refine hxa_call0 (by rfl) (by rfl) (by rfl) (by rfl) (by rfl) (by rfl) (hX147q4 (d := d + 1) hA285 ) ?_
                        rintro _ A286 ⟨hA286, frA286_0, frA286_1, frA286_2, frA286_3, frA286_4, frA286_5, aeA286, rfl, fA286⟩
                        have ttA286_12 : (A286.1 367 12).toInt = w96_1.toInt := congrArg Int32.toInt (frA286_0.trans (hkF eA285 (by omega) (hkA eA283 (frA280_0.trans ek96_1))))
                        have ttA286_19 : (A286.1 367 19).toInt = (A.1 367 19).toInt := congrArg Int32.toInt (frA286_1.trans (hkF eA285 (by omega) (hkA eA283 (frA280_1.trans ek96_3))))
                        have ttA286_20 : (A286.1 367 20).toInt = (A.1 367 20).toInt := congrArg Int32.toInt (frA286_2.trans (hkF eA285 (by omega) (hkA eA283 (frA280_2.trans ek96_4))))
                        have ttA286_31 : (A286.1 367 31).toInt = (A.1 367 31).toInt := congrArg Int32.toInt (frA286_3.trans (hkF eA285 (by omega) (hkA eA283 (frA280_3.trans ek96_5))))
                        have ttA286_37 : (A286.1 367 37).toInt = (A280.1 367 37).toInt := congrArg Int32.toInt (frA286_4.trans (hkF eA285 (by omega) (hkA eA283 rfl)))
                        have ttA286_41 : (A286.1 367 41).toInt = z284.toInt := congrArg Int32.toInt (frA286_5.trans (hkS eA285))
                        have fbA286_367_11 := hA286.f (i := 367) (k := 11) (by rfl)
                        have fbA286_367_13 := hA286.f (i := 367) (k := 13) (by rfl)
                        have nA286_12 : (A286.1 367 12).toInt = w96_1.toInt := congrArg Int32.toInt (frA286_0.trans (hkF eA285 (by omega) (hkA eA283 (frA280_0.trans ek96_1))))
                        have nA286_37 : (A286.1 367 37).toInt = (A280.1 367 37).toInt := congrArg Int32.toInt (frA286_4.trans (hkF eA285 (by omega) (hkA eA283 rfl)))
                        have nA286_41 : (A286.1 367 41).toInt = z284.toInt := congrArg Int32.toInt (frA286_5.trans (hkS eA285))
                        have aj287 : A286.2.1 = hs_up A280.2.1 392 (A280.1 367 41).toNatClampNeg z282 := by rw [aeA286, (show A285.2.1 = A283.2.1 from congrArg Prod.fst fA285), fA283]
                        have j287 : ¬ (A286.1 367 13).toInt = 0 ∨ ((A.1 367 13).toInt = 0 ∧ (A286.1 367 37).toInt ≤ 0 + (A286.1 367 11).toInt ∧ ∃ o g : Nat, hQ 0 (A.1 367 37).toInt o g 0 A286 ∧ (o : Int) = (A286.1 367 12).toInt - x12_1.toInt ∧ (A286.1 367 12).toInt ≤ 6) := by
                          by_cases h9 : (A286.1 367 13).toInt = 0
                          · obtain ⟨g5, hq5⟩ : ∃ g5, hQ 0 (A.1 367 37).toInt o_161 g5 0 A286 := by
                              rcases (show g2_281 = 0 ∨ g2_281 = 1 by omega) with e0 | e0
                              · subst e0
                                exact ⟨2, hQ.push hq2_281 (j := (A280.1 367 41)) rfl aj287 (by omega) (by omega) (by omega) (by omega)⟩
                              · subst e0
                                exact ⟨3, hQ.push hq2_281 (j := (A280.1 367 41)) rfl aj287 (by omega) (by omega) (by omega) (by omega)⟩
                            exact Or.inr ⟨by omega, by omega, _, g5, hq5, by omega, by omega⟩
                          · exact Or.inl h9
                        refine hxa_goto (by rfl) ?_
                        exact ih12 (A286.1 367 11) w96_1 (A286.1 367 13) (A280.1 367 37) z284 x12_1 (Int32.ofNat 1) A286 hA286 rfl (frA286_0.trans (hkF eA285 (by omega) (hkA eA283 (frA280_0.trans ek96_1)))) rfl (frA286_1.trans (hkF eA285 (by omega) (hkA eA283 (frA280_1.trans ek96_3)))) (frA286_2.trans (hkF eA285 (by omega) (hkA eA283 (frA280_2.trans ek96_4)))) (frA286_3.trans (hkF eA285 (by omega) (hkA eA283 (frA280_3.trans ek96_5)))) (frA286_4.trans (hkF eA285 (by omega) (hkA eA283 rfl))) (frA286_5.trans (hkS eA285)) (by omega) (by omega) (by omega) (by omega) (by omega) (by omega) (by omega) (by omega) (by omega) (by omega) (by omega) (by omega) (by exact j287) (by exact (hkz_281.trans (hK.w aj287) (Nat.le_refl _))) (by omega) (by omega)
                      ·
                        refine hxj_zeq (by rfl) rfl (fun q288 => ?_) (fun q288 => False.elim (by omega))
                        refine hxa_iconst (by rfl) rfl ?_
                        refine hxa_call0 (by rfl) (by rfl) (by rfl) (by rfl) (by rfl) (by rfl) (hX160q4 (d := d + 1) hAc96 hq_161 hl (Int32.ofNat 0) (by omega) (by omega)) ?_
                        rintro _ A289 ⟨hA289, frA289_0, frA289_1, frA289_2, frA289_3, frA289_4, frA289_5, rfl, fA289⟩
                        have ttA289_12 : (A289.1 367 12).toInt = w96_1.toInt := congrArg Int32.toInt (frA289_0.trans ek96_1)
                        have ttA289_19 : (A289.1 367 19).toInt = (A.1 367 19).toInt := congrArg Int32.toInt (frA289_1.trans ek96_3)
                        have ttA289_20 : (A289.1 367 20).toInt = (A.1 367 20).toInt := congrArg Int32.toInt (frA289_2.trans ek96_4)
                        have ttA289_31 : (A289.1 367 31).toInt = (A.1 367 31).toInt := congrArg Int32.toInt (frA289_3.trans ek96_5)
                        have ttA289_11 : (A289.1 367 11).toInt = w96_0.toInt := congrArg Int32.toInt (frA289_4.trans ek96_0)
                        have ttA289_13 : (A289.1 367 13).toInt = w96_2.toInt := congrArg Int32.toInt (frA289_5.trans ek96_2)
                        have fbA289_367_37 := hA289.f (i := 367) (k := 37) (by rfl)
                        have fbA289_367_41 := hA289.f (i := 367) (k := 41) (by rfl)
                        obtain ⟨g2_290, hq2_290, h21_290, h20_290, hk2_290, h92_290, hc2_290⟩ := fA289
                        have hw2_290 := hq2_290.w
                        have hkz_290 := u96_1.trans hk2_290 (by omega)
                        have cz_290 := hQ.cb hq2_290 (hA289.f (i := 367) (k := 11) (by rfl)).2
                        refine hxa_aload_n (by rfl) rfl ?_
                        refine hxa_get (v := .ref 393) (by rfl) (by rfl) (by rfl) rfl ?_
                        refine hxa_aload_n (by rfl) rfl ?_
                        refine hxj_getK (by rfl) (by rfl) (by rfl) rfl ?_
                        refine hxa_aload_n (by rfl) rfl ?_
                        refine hxa_get (v := .ref 371) (by rfl) (by rfl) (by rfl) rfl ?_
                        refine hxa_aload_n (by rfl) rfl ?_
                        refine hxj_getK (by rfl) (by rfl) (by rfl) (frA289_4.trans ek96_0) ?_
                        refine hxj_iald (by rfl) (by rfl) rfl (by omega) (by omega) (fun z291 ez291 => ?_)
                        have kzz291 : z291.toInt = (Ac96.2.1 370 (Ac96.1 367 11).toNatClampNeg).toInt := by rw [← ez291, hk2_290.1 370 (by decide) (by decide) (by decide), (show Ac96.1 367 11 = w96_0 from ek96_0)]
                        refine hxj_iast (by rfl) (by rfl) rfl (by omega) (by omega) hA289 (hbokN (by rfl)) (by rfl) (by rfl) (fun A292 hA292 eA292 fA292 gA292 => ?_)
                        refine hxa_aload_n (by rfl) rfl ?_
                        refine hxa_dupR (by rfl) ?_
                        refine hxj_getK (by rfl) (by rfl) (by rfl) (hkA eA292 rfl) ?_
                        refine hxa_iconst (by rfl) rfl ?_
                        refine hxj_iadd (by rfl) rfl hk_1 (by omega) (by omega) (fun z293 ez293 => ?_)
                        refine hxj_putI (by rfl) (by rfl) (by rfl) (by rfl) hA292 (hbok (by rfl) rfl (by omega) (by omega)) (by rfl) (by rfl) (fun A294 hA294 eA294 fA294 => ?_)
                        refine hxa_aload_n (by rfl) rfl ?_
                        have nA294_11 : (A294.1 367 11).toInt = w96_0.toInt := congrArg Int32.toInt (hkF eA294 (by omega) (hkA eA292 (frA289_4.trans ek96_0)))
                        have nA294_12 : (A294.1 367 12).toInt = w96_1.toInt := congrArg Int32.toInt (hkF eA294 (by omega) (hkA eA292 (frA289_0.trans ek96_1)))
                        have nA294_13 : (A294.1 367 13).toInt = w96_2.toInt := congrArg Int32.toInt (hkF eA294 (by omega) (hkA eA292 (frA289_5.trans ek96_2)))
                        have nA294_37 : (A294.1 367 37).toInt = (A289.1 367 37).toInt := congrArg Int32.toInt (hkF eA294 (by omega) (hkA eA292 rfl))
                        have nA294_41 : (A294.1 367 41).toInt = z293.toInt := congrArg Int32.toInt (hkS eA294)
                        refine hxa_call0 (by rfl) (by rfl) (by rfl) (by rfl) (by rfl) (by rfl) (hX147q4 (d := d + 1) hA294 ) ?_
                        rintro _ A295 ⟨hA295, frA295_0, frA295_1, frA295_2, frA295_3, frA295_4, frA295_5, aeA295, rfl, fA295⟩
                        have ttA295_12 : (A295.1 367 12).toInt = w96_1.toInt := congrArg Int32.toInt (frA295_0.trans (hkF eA294 (by omega) (hkA eA292 (frA289_0.trans ek96_1))))
                        have ttA295_19 : (A295.1 367 19).toInt = (A.1 367 19).toInt := congrArg Int32.toInt (frA295_1.trans (hkF eA294 (by omega) (hkA eA292 (frA289_1.trans ek96_3))))
                        have ttA295_20 : (A295.1 367 20).toInt = (A.1 367 20).toInt := congrArg Int32.toInt (frA295_2.trans (hkF eA294 (by omega) (hkA eA292 (frA289_2.trans ek96_4))))
                        have ttA295_31 : (A295.1 367 31).toInt = (A.1 367 31).toInt := congrArg Int32.toInt (frA295_3.trans (hkF eA294 (by omega) (hkA eA292 (frA289_3.trans ek96_5))))
                        have ttA295_37 : (A295.1 367 37).toInt = (A289.1 367 37).toInt := congrArg Int32.toInt (frA295_4.trans (hkF eA294 (by omega) (hkA eA292 rfl)))
                        have ttA295_41 : (A295.1 367 41).toInt = z293.toInt := congrArg Int32.toInt (frA295_5.trans (hkS eA294))
                        have fbA295_367_11 := hA295.f (i := 367) (k := 11) (by rfl)
                        have fbA295_367_13 := hA295.f (i := 367) (k := 13) (by rfl)
                        have nA295_12 : (A295.1 367 12).toInt = w96_1.toInt := congrArg Int32.toInt (frA295_0.trans (hkF eA294 (by omega) (hkA eA292 (frA289_0.trans ek96_1))))
                        have nA295_37 : (A295.1 367 37).toInt = (A289.1 367 37).toInt := congrArg Int32.toInt (frA295_4.trans (hkF eA294 (by omega) (hkA eA292 rfl)))
                        have nA295_41 : (A295.1 367 41).toInt = z293.toInt := congrArg Int32.toInt (frA295_5.trans (hkS eA294))
                        have aj296 : A295.2.1 = hs_up A289.2.1 392 (A289.1 367 41).toNatClampNeg z291 := by rw [aeA295, (show A294.2.1 = A292.2.1 from congrArg Prod.fst fA294), fA292]
                        have j296 : ¬ (A295.1 367 13).toInt = 0 ∨ ((A.1 367 13).toInt = 0 ∧ (A295.1 367 37).toInt ≤ 0 + (A295.1 367 11).toInt ∧ ∃ o g : Nat, hQ 0 (A.1 367 37).toInt o g 0 A295 ∧ (o : Int) = (A295.1 367 12).toInt - x12_1.toInt ∧ (A295.1 367 12).toInt ≤ 6) := by
                          by_cases h9 : (A295.1 367 13).toInt = 0
                          · obtain ⟨g5, hq5⟩ : ∃ g5, hQ 0 (A.1 367 37).toInt o_161 g5 0 A295 := by
                              have e0 := h20_290 (by omega)
                              subst e0
                              exact ⟨1, hQ.push hq2_290 (j := (A289.1 367 41)) rfl aj296 (by omega) (by omega) (by omega) (by omega)⟩
                            exact Or.inr ⟨by omega, by omega, _, g5, hq5, by omega, by omega⟩
                          · exact Or.inl h9
                        refine hxa_goto (by rfl) ?_
                        exact ih12 (A295.1 367 11) w96_1 (A295.1 367 13) (A289.1 367 37) z293 x12_1 (Int32.ofNat 1) A295 hA295 rfl (frA295_0.trans (hkF eA294 (by omega) (hkA eA292 (frA289_0.trans ek96_1)))) rfl (frA295_1.trans (hkF eA294 (by omega) (hkA eA292 (frA289_1.trans ek96_3)))) (frA295_2.trans (hkF eA294 (by omega) (hkA eA292 (frA289_2.trans ek96_4)))) (frA295_3.trans (hkF eA294 (by omega) (hkA eA292 (frA289_3.trans ek96_5)))) (frA295_4.trans (hkF eA294 (by omega) (hkA eA292 rfl))) (frA295_5.trans (hkS eA294)) (by omega) (by omega) (by omega) (by omega) (by omega) (by omega) (by omega) (by omega) (by omega) (by omega) (by omega) (by omega) (by exact j296) (by exact (hkz_290.trans (hK.w aj296) (Nat.le_refl _))) (by omega) (by omega)
                  ·
                    refine hxj_zeq (by rfl) rfl (fun q297 => ?_) (fun q297 => False.elim (by omega))
                    refine hxa_iconst (by rfl) rfl ?_
                    refine hxa_s1 (by rfl) (Or.inl ⟨_, rfl, rfl⟩) rfl ?_
                    refine hxa_iload_n (by rfl) rfl ?_
                    refine hxj_zne (by rfl) hk_0 (fun q298 => False.elim (by omega)) (fun q298 => ?_)
                    refine hxa_aload_n (by rfl) rfl ?_
                    refine hxj_getK (by rfl) (by rfl) (by rfl) ek96_1 ?_
                    refine hxa_iload_n (by rfl) rfl ?_
                    have rgw96_1 := hn_rng w96_1
                    refine hxj_cle (by rfl) rfl rfl (fun q299 => ?_) (fun q299 => ?_)
                    ·
                      refine hxa_aload_n (by rfl) rfl ?_
                      refine hxa_iconst (by rfl) rfl ?_
                      refine hxa_call0 (by rfl) (by rfl) (by rfl) (by rfl) (by rfl) (by rfl) (hX160q4 (d := d + 1) hAc96 hq_161 hl (Int32.ofNat 0) (by omega) (by omega)) ?_
                      rintro _ A300 ⟨hA300, frA300_0, frA300_1, frA300_2, frA300_3, frA300_4, frA300_5, rfl, fA300⟩
                      have ttA300_12 : (A300.1 367 12).toInt = w96_1.toInt := congrArg Int32.toInt (frA300_0.trans ek96_1)
                      have ttA300_19 : (A300.1 367 19).toInt = (A.1 367 19).toInt := congrArg Int32.toInt (frA300_1.trans ek96_3)
                      have ttA300_20 : (A300.1 367 20).toInt = (A.1 367 20).toInt := congrArg Int32.toInt (frA300_2.trans ek96_4)
                      have ttA300_31 : (A300.1 367 31).toInt = (A.1 367 31).toInt := congrArg Int32.toInt (frA300_3.trans ek96_5)
                      have ttA300_11 : (A300.1 367 11).toInt = w96_0.toInt := congrArg Int32.toInt (frA300_4.trans ek96_0)
                      have ttA300_13 : (A300.1 367 13).toInt = w96_2.toInt := congrArg Int32.toInt (frA300_5.trans ek96_2)
                      have fbA300_367_37 := hA300.f (i := 367) (k := 37) (by rfl)
                      have fbA300_367_41 := hA300.f (i := 367) (k := 41) (by rfl)
                      obtain ⟨g2_301, hq2_301, h21_301, h20_301, hk2_301, h92_301, hc2_301⟩ := fA300
                      have hw2_301 := hq2_301.w
                      have hkz_301 := u96_1.trans hk2_301 (by omega)
                      have cz_301 := hQ.cb hq2_301 (hA300.f (i := 367) (k := 11) (by rfl)).2
                      have nA300_11 : (A300.1 367 11).toInt = w96_0.toInt := congrArg Int32.toInt (frA300_4.trans ek96_0)
                      have nA300_12 : (A300.1 367 12).toInt = w96_1.toInt := congrArg Int32.toInt (frA300_0.trans ek96_1)
                      have nA300_13 : (A300.1 367 13).toInt = w96_2.toInt := congrArg Int32.toInt (frA300_5.trans ek96_2)
                      have fi302 : ¬ (A300.1 367 13).toInt = 0 ∨ ((A.1 367 13).toInt = 0 ∧ (A.1 367 11).toInt + 1 ≤ (A300.1 367 11).toInt ∧ (A300.1 367 12).toInt = (A.1 367 12).toInt ∧ (A300.1 367 37).toInt ≤ 0 + (A300.1 367 11).toInt ∧ hWe (A300.2.1 390) (A300.2.1 391) ((A300.1 367 37).toInt - (A.1 367 37).toInt).toNat (A.1 367 37).toInt.toNat 0 1) := by
                        by_cases h9 : (A300.1 367 13).toInt = 0
                        · have e0 := h20_301 (by omega)
                          subst e0
                          have eo : o_161 = 0 := by omega
                          subst eo
                          have hf := hQ.fin hq2_301
                          have h5 := hq2_301.2.2.2.2
                          exact Or.inr ⟨by omega, by omega, by omega, by omega, hf.2⟩
                        · exact Or.inl h9
                      exact hxa_return (by rfl) rfl (hP _ _ ⟨hA300, (frA300_1.trans ek96_3), (frA300_2.trans ek96_4), (frA300_3.trans ek96_5), rfl, ⟨fi302, by omega, by omega, by omega, hkz_301⟩⟩)
                    ·
                      refine hxa_aload_n (by rfl) rfl ?_
                      refine hxa_iconst (by rfl) rfl ?_
                      refine hxa_call0 (by rfl) (by rfl) (by rfl) (by rfl) (by rfl) (by rfl) (hX145q4 (d := d + 2) hAc96 (Int32.ofNat 1) (by omega) (by omega)) ?_
                      rintro _ A303 ⟨hA303, frA303_0, frA303_1, frA303_2, frA303_3, frA303_4, frA303_5, aeA303, rfl, fA303⟩
                      have ttA303_12 : (A303.1 367 12).toInt = w96_1.toInt := congrArg Int32.toInt (frA303_0.trans ek96_1)
                      have ttA303_19 : (A303.1 367 19).toInt = (A.1 367 19).toInt := congrArg Int32.toInt (frA303_1.trans ek96_3)
                      have ttA303_20 : (A303.1 367 20).toInt = (A.1 367 20).toInt := congrArg Int32.toInt (frA303_2.trans ek96_4)
                      have ttA303_31 : (A303.1 367 31).toInt = (A.1 367 31).toInt := congrArg Int32.toInt (frA303_3.trans ek96_5)
                      have ttA303_37 : (A303.1 367 37).toInt = w96_6.toInt := congrArg Int32.toInt (frA303_4.trans ek96_6)
                      have ttA303_41 : (A303.1 367 41).toInt = w96_7.toInt := congrArg Int32.toInt (frA303_5.trans ek96_7)
                      have fbA303_367_11 := hA303.f (i := 367) (k := 11) (by rfl)
                      have fbA303_367_13 := hA303.f (i := 367) (k := 13) (by rfl)
                      refine hxa_aload_n (by rfl) rfl ?_
                      refine hxa_iconst (by rfl) rfl ?_
                      have nA303_12 : (A303.1 367 12).toInt = w96_1.toInt := congrArg Int32.toInt (frA303_0.trans ek96_1)
                      have nA303_37 : (A303.1 367 37).toInt = w96_6.toInt := congrArg Int32.toInt (frA303_4.trans ek96_6)
                      have nA303_41 : (A303.1 367 41).toInt = w96_7.toInt := congrArg Int32.toInt (frA303_5.trans ek96_7)
                      have ahm304 : A303.2.1 = Ac96.2.1 := by rw [aeA303]
                      have hm304 := hQ.mv hq_161 (A' := A303) (by omega) (by omega) ahm304 (by omega)
                      refine hxa_call0 (by rfl) (by rfl) (by rfl) (by rfl) (by rfl) (by rfl) (hX160q4 (d := d + 1) hA303 hm304 hl (Int32.ofNat 0) (by omega) (by omega)) ?_
                      rintro _ A305 ⟨hA305, frA305_0, frA305_1, frA305_2, frA305_3, frA305_4, frA305_5, rfl, fA305⟩
                      have ttA305_12 : (A305.1 367 12).toInt = w96_1.toInt := congrArg Int32.toInt (frA305_0.trans (frA303_0.trans ek96_1))
                      have ttA305_19 : (A305.1 367 19).toInt = (A.1 367 19).toInt := congrArg Int32.toInt (frA305_1.trans (frA303_1.trans ek96_3))
                      have ttA305_20 : (A305.1 367 20).toInt = (A.1 367 20).toInt := congrArg Int32.toInt (frA305_2.trans (frA303_2.trans ek96_4))
                      have ttA305_31 : (A305.1 367 31).toInt = (A.1 367 31).toInt := congrArg Int32.toInt (frA305_3.trans (frA303_3.trans ek96_5))
                      have ttA305_11 : (A305.1 367 11).toInt = (A303.1 367 11).toInt := congrArg Int32.toInt (frA305_4.trans rfl)
                      have ttA305_13 : (A305.1 367 13).toInt = (A303.1 367 13).toInt := congrArg Int32.toInt (frA305_5.trans rfl)
                      have fbA305_367_37 := hA305.f (i := 367) (k := 37) (by rfl)
                      have fbA305_367_41 := hA305.f (i := 367) (k := 41) (by rfl)
                      obtain ⟨g2_306, hq2_306, h21_306, h20_306, hk2_306, h92_306, hc2_306⟩ := fA305
                      have hw2_306 := hq2_306.w
                      have hkz_306 := (u96_1.trans (hK.eq ahm304) (Nat.le_refl _)).trans hk2_306 (by omega)
                      have cz_306 := hQ.cb hq2_306 (hA305.f (i := 367) (k := 11) (by rfl)).2
                      have nA305_11 : (A305.1 367 11).toInt = (A303.1 367 11).toInt := congrArg Int32.toInt (frA305_4.trans rfl)
                      have nA305_12 : (A305.1 367 12).toInt = w96_1.toInt := congrArg Int32.toInt (frA305_0.trans (frA303_0.trans ek96_1))
                      have nA305_13 : (A305.1 367 13).toInt = (A303.1 367 13).toInt := congrArg Int32.toInt (frA305_5.trans rfl)
                      have fi307 : ¬ (A305.1 367 13).toInt = 0 ∨ ((A.1 367 13).toInt = 0 ∧ (A.1 367 11).toInt + 1 ≤ (A305.1 367 11).toInt ∧ (A305.1 367 12).toInt = (A.1 367 12).toInt ∧ (A305.1 367 37).toInt ≤ 0 + (A305.1 367 11).toInt ∧ hWe (A305.2.1 390) (A305.2.1 391) ((A305.1 367 37).toInt - (A.1 367 37).toInt).toNat (A.1 367 37).toInt.toNat 0 1) := by
                        by_cases h9 : (A305.1 367 13).toInt = 0
                        · have e0 := h20_306 (by omega)
                          subst e0
                          have eo : o_161 = 0 := by omega
                          subst eo
                          have hf := hQ.fin hq2_306
                          have h5 := hq2_306.2.2.2.2
                          exact Or.inr ⟨by omega, by omega, by omega, by omega, hf.2⟩
                        · exact Or.inl h9
                      exact hxa_return (by rfl) rfl (hP _ _ ⟨hA305, (frA305_1.trans (frA303_1.trans ek96_3)), (frA305_2.trans (frA303_2.trans ek96_4)), (frA305_3.trans (frA303_3.trans ek96_5)), rfl, ⟨fi307, by omega, by omega, by omega, hkz_306⟩⟩)
      have L23 : ∀ (m23 : Nat) (w23_0 : Int32) (w23_1 : Int32) (w23_2 : Int32) (w23_6 : Int32) (w23_7 : Int32) (Ac23 : hs_A) (hAc23 : hJ 4 Bn Br A0 Ac23) (ek23_0 : Ac23.1 367 11 = w23_0) (ek23_1 : Ac23.1 367 12 = w23_1) (ek23_2 : Ac23.1 367 13 = w23_2) (ek23_3 : Ac23.1 367 19 = (A.1 367 19)) (ek23_4 : Ac23.1 367 20 = (A.1 367 20)) (ek23_5 : Ac23.1 367 31 = (A.1 367 31)) (ek23_6 : Ac23.1 367 37 = w23_6) (ek23_7 : Ac23.1 367 41 = w23_7) (bw23_0 : 0 ≤ w23_0.toInt) (cw23_0 : w23_0.toInt ≤ 400) (bw23_2 : 0 ≤ w23_2.toInt) (cw23_2 : w23_2.toInt ≤ 2) (bw23_6 : 0 ≤ w23_6.toInt) (cw23_6 : w23_6.toInt ≤ 840) (u23_0 : ¬ (Ac23.1 367 13).toInt = 0 ∨ ((A.1 367 13).toInt = 0 ∧ (Ac23.1 367 37).toInt ≤ 0 + (Ac23.1 367 11).toInt ∧ ∃ o g : Nat, hQ 0 (A.1 367 37).toInt o g 0 Ac23 ∧ (o : Int) = (Ac23.1 367 12).toInt - x12_1.toInt ∧ (Ac23.1 367 12).toInt ≤ 6)) (u23_1 : hK (A.1 367 37).toInt.toNat A Ac23) (u23_2 : (A.1 367 37).toInt ≤ (Ac23.1 367 37).toInt ∧ (Ac23.1 367 37).toInt ≤ 402 ∧ (A.1 367 11).toInt ≤ (Ac23.1 367 11).toInt ∧ x12_1.toInt = (A.1 367 12).toInt) (hm23 : 800 - 2 * w23_0.toInt - 2 * w23_2.toInt + 6 < (m23 : Int)), hxa (d + 3) none hm_t161 23 [.ref 368, .int x12_1, .int x12_2] [] Ac23 P := by
        intro m23
        induction m23 with
        | zero => intro w23_0 w23_1 w23_2 w23_6 w23_7 Ac23 hAc23 ek23_0 ek23_1 ek23_2 ek23_3 ek23_4 ek23_5 ek23_6 ek23_7 bw23_0 cw23_0 bw23_2 cw23_2 bw23_6 cw23_6 u23_0 u23_1 u23_2 hm23; have := hn_rng w23_1; have := hn_rng w23_7; exact False.elim (by omega)
        | succ m23 ih23 =>
          intro w23_0 w23_1 w23_2 w23_6 w23_7 Ac23 hAc23 ek23_0 ek23_1 ek23_2 ek23_3 ek23_4 ek23_5 ek23_6 ek23_7 bw23_0 cw23_0 bw23_2 cw23_2 bw23_6 cw23_6 u23_0 u23_1 u23_2 hm23
          have tk23_0 : (Ac23.1 367 11).toInt = w23_0.toInt := congrArg Int32.toInt ek23_0
          have tk23_1 : (Ac23.1 367 12).toInt = w23_1.toInt := congrArg Int32.toInt ek23_1
          have tk23_2 : (Ac23.1 367 13).toInt = w23_2.toInt := congrArg Int32.toInt ek23_2
          have tk23_6 : (Ac23.1 367 37).toInt = w23_6.toInt := congrArg Int32.toInt ek23_6
          have tk23_7 : (Ac23.1 367 41).toInt = w23_7.toInt := congrArg Int32.toInt ek23_7
          refine hxa_aload_n (by rfl) rfl ?_
          refine hxa_bipush (by rfl) rfl ?_
          have nAc23_11 : (Ac23.1 367 11).toInt = w23_0.toInt := congrArg Int32.toInt ek23_0
          have nAc23_12 : (Ac23.1 367 12).toInt = w23_1.toInt := congrArg Int32.toInt ek23_1
          have nAc23_13 : (Ac23.1 367 13).toInt = w23_2.toInt := congrArg Int32.toInt ek23_2
          have nAc23_37 : (Ac23.1 367 37).toInt = w23_6.toInt := congrArg Int32.toInt ek23_6
          have nAc23_41 : (Ac23.1 367 41).toInt = w23_7.toInt := congrArg Int32.toInt ek23_7
          refine hxa_call0 (by rfl) (by rfl) (by rfl) (by rfl) (by rfl) (by rfl) (hX144q4 (d := d + 2) hAc23 (Int32.ofNat 6)) ?_
          rintro _ _ ⟨rfl, z308, rfl, fz308⟩
          rcases fz308 with fz308 | fz308
          ·
            refine hxj_zeq (by rfl) rfl (fun q309 => False.elim (by omega)) (fun q309 => ?_)
            obtain ⟨h0_310, hc_310, o_310, g_310, hq_310, ho_310, h6_310⟩ := Or.resolve_left u23_0 (fun w => w (by omega))
            have hw_310 := hq_310.w
            refine hxa_aload_n (by rfl) rfl ?_
            refine hxj_getK (by rfl) (by rfl) (by rfl) ek23_1 ?_
            refine hxa_bipush (by rfl) rfl ?_
            refine hxj_cne (by rfl) rfl hk_6 (fun q311 => ?_) (fun q311 => ?_)
            ·
              refine hxa_aload_n (by rfl) rfl ?_
              refine hxa_dupR (by rfl) ?_
              refine hxj_getK (by rfl) (by rfl) (by rfl) ek23_1 ?_
              refine hxa_iconst (by rfl) rfl ?_
              refine hxj_iaddU (by rfl) (fun z312 => ?_)
              refine hxj_putI (by rfl) (by rfl) (by rfl) (by rfl) hAc23 (hbok (by rfl) rfl (by omega) (by omega)) (by rfl) (by rfl) (fun A313 hA313 eA313 fA313 => ?_)
              refine hxa_aload_n (by rfl) rfl ?_
              have nA313_11 : (A313.1 367 11).toInt = w23_0.toInt := congrArg Int32.toInt (hkF eA313 (by omega) ek23_0)
              have nA313_12 : (A313.1 367 12).toInt = z312.toInt := congrArg Int32.toInt (hkS eA313)
              have nA313_13 : (A313.1 367 13).toInt = w23_2.toInt := congrArg Int32.toInt (hkF eA313 (by omega) ek23_2)
              have nA313_37 : (A313.1 367 37).toInt = w23_6.toInt := congrArg Int32.toInt (hkF eA313 (by omega) ek23_6)
              have nA313_41 : (A313.1 367 41).toInt = w23_7.toInt := congrArg Int32.toInt (hkF eA313 (by omega) ek23_7)
              refine hxa_call0 (by rfl) (by rfl) (by rfl) (by rfl) (by rfl) (by rfl) (hX147q4 (d := d + 1) hA313 ) ?_
              rintro _ A314 ⟨hA314, frA314_0, frA314_1, frA314_2, frA314_3, frA314_4, frA314_5, aeA314, rfl, fA314⟩
              have ttA314_12 : (A314.1 367 12).toInt = z312.toInt := congrArg Int32.toInt (frA314_0.trans (hkS eA313))
              have ttA314_19 : (A314.1 367 19).toInt = (A.1 367 19).toInt := congrArg Int32.toInt (frA314_1.trans (hkF eA313 (by omega) ek23_3))
              have ttA314_20 : (A314.1 367 20).toInt = (A.1 367 20).toInt := congrArg Int32.toInt (frA314_2.trans (hkF eA313 (by omega) ek23_4))
              have ttA314_31 : (A314.1 367 31).toInt = (A.1 367 31).toInt := congrArg Int32.toInt (frA314_3.trans (hkF eA313 (by omega) ek23_5))
              have ttA314_37 : (A314.1 367 37).toInt = w23_6.toInt := congrArg Int32.toInt (frA314_4.trans (hkF eA313 (by omega) ek23_6))
              have ttA314_41 : (A314.1 367 41).toInt = w23_7.toInt := congrArg Int32.toInt (frA314_5.trans (hkF eA313 (by omega) ek23_7))
              have fbA314_367_11 := hA314.f (i := 367) (k := 11) (by rfl)
              have fbA314_367_13 := hA314.f (i := 367) (k := 13) (by rfl)
              refine hxa_aload_n (by rfl) rfl ?_
              refine hxa_get (v := .ref 393) (by rfl) (by rfl) (by rfl) rfl ?_
              refine hxa_aload_n (by rfl) rfl ?_
              refine hxj_getK (by rfl) (by rfl) (by rfl) (frA314_5.trans (hkF eA313 (by omega) ek23_7)) ?_
              refine hxa_bipush (by rfl) rfl ?_
              refine hxj_iast (by rfl) (by rfl) rfl (by omega) (by omega) hA314 (hbokN (by rfl)) (by rfl) (by rfl) (fun A315 hA315 eA315 fA315 gA315 => ?_)
              refine hxa_aload_n (by rfl) rfl ?_
              refine hxa_dupR (by rfl) ?_
              refine hxj_getK (by rfl) (by rfl) (by rfl) (hkA eA315 (frA314_5.trans (hkF eA313 (by omega) ek23_7))) ?_
              refine hxa_iconst (by rfl) rfl ?_
              refine hxj_iaddU (by rfl) (fun z316 => ?_)
              refine hxj_putI (by rfl) (by rfl) (by rfl) (by rfl) hA315 (hbok (by rfl) rfl (by omega) (by omega)) (by rfl) (by rfl) (fun A317 hA317 eA317 fA317 => ?_)
              have nA317_11 : (A317.1 367 11).toInt = (A314.1 367 11).toInt := congrArg Int32.toInt (hkF eA317 (by omega) (hkA eA315 rfl))
              have nA317_12 : (A317.1 367 12).toInt = z312.toInt := congrArg Int32.toInt (hkF eA317 (by omega) (hkA eA315 (frA314_0.trans (hkS eA313))))
              have nA317_13 : (A317.1 367 13).toInt = (A314.1 367 13).toInt := congrArg Int32.toInt (hkF eA317 (by omega) (hkA eA315 rfl))
              have nA317_37 : (A317.1 367 37).toInt = w23_6.toInt := congrArg Int32.toInt (hkF eA317 (by omega) (hkA eA315 (frA314_4.trans (hkF eA313 (by omega) ek23_6))))
              have nA317_41 : (A317.1 367 41).toInt = z316.toInt := congrArg Int32.toInt (hkS eA317)
              have aj318 : A317.2.1 = hs_up Ac23.2.1 392 w23_7.toNatClampNeg (Int32.ofNat 6) := by rw [(show A317.2.1 = A315.2.1 from congrArg Prod.fst fA317), fA315, aeA314, (show A313.2.1 = Ac23.2.1 from congrArg Prod.fst fA313)]
              have j318 : ¬ (A317.1 367 13).toInt = 0 ∨ ((A.1 367 13).toInt = 0 ∧ (A317.1 367 37).toInt ≤ 0 + (A317.1 367 11).toInt ∧ ∃ o g : Nat, hQ 0 (A.1 367 37).toInt o g 0 A317 ∧ (o : Int) = (A317.1 367 12).toInt - x12_1.toInt ∧ (A317.1 367 12).toInt ≤ 6) := by
                by_cases h9 : (A317.1 367 13).toInt = 0
                · exact Or.inr ⟨by omega, by omega, _, _, hQ.opn hq_310 (j := w23_7) ek23_7 aj318 (by omega) (by omega) (by omega) hk_6, by omega, by omega⟩
                · exact Or.inl h9
              refine hxa_goto (by rfl) ?_
              exact ih23 (A314.1 367 11) z312 (A314.1 367 13) w23_6 z316 A317 hA317 (hkF eA317 (by omega) (hkA eA315 rfl)) (hkF eA317 (by omega) (hkA eA315 (frA314_0.trans (hkS eA313)))) (hkF eA317 (by omega) (hkA eA315 rfl)) (hkF eA317 (by omega) (hkA eA315 (frA314_1.trans (hkF eA313 (by omega) ek23_3)))) (hkF eA317 (by omega) (hkA eA315 (frA314_2.trans (hkF eA313 (by omega) ek23_4)))) (hkF eA317 (by omega) (hkA eA315 (frA314_3.trans (hkF eA313 (by omega) ek23_5)))) (hkF eA317 (by omega) (hkA eA315 (frA314_4.trans (hkF eA313 (by omega) ek23_6)))) (hkS eA317) (by omega) (by omega) (by omega) (by omega) (by omega) (by omega) (by exact j318) (by exact (u23_1.trans (hK.w aj318) (Nat.le_refl _))) (by omega) (by omega)
            ·
              refine hxa_aload_n (by rfl) rfl ?_
              refine hxa_iconst (by rfl) rfl ?_
              refine hxa_call0 (by rfl) (by rfl) (by rfl) (by rfl) (by rfl) (by rfl) (hX145q4 (d := d + 2) hAc23 (Int32.ofNat 2) (by omega) (by omega)) ?_
              rintro _ A319 ⟨hA319, frA319_0, frA319_1, frA319_2, frA319_3, frA319_4, frA319_5, aeA319, rfl, fA319⟩
              have ttA319_12 : (A319.1 367 12).toInt = w23_1.toInt := congrArg Int32.toInt (frA319_0.trans ek23_1)
              have ttA319_19 : (A319.1 367 19).toInt = (A.1 367 19).toInt := congrArg Int32.toInt (frA319_1.trans ek23_3)
              have ttA319_20 : (A319.1 367 20).toInt = (A.1 367 20).toInt := congrArg Int32.toInt (frA319_2.trans ek23_4)
              have ttA319_31 : (A319.1 367 31).toInt = (A.1 367 31).toInt := congrArg Int32.toInt (frA319_3.trans ek23_5)
              have ttA319_37 : (A319.1 367 37).toInt = w23_6.toInt := congrArg Int32.toInt (frA319_4.trans ek23_6)
              have ttA319_41 : (A319.1 367 41).toInt = w23_7.toInt := congrArg Int32.toInt (frA319_5.trans ek23_7)
              have fbA319_367_11 := hA319.f (i := 367) (k := 11) (by rfl)
              have fbA319_367_13 := hA319.f (i := 367) (k := 13) (by rfl)
              refine hxa_aload_n (by rfl) rfl ?_
              refine hxa_dupR (by rfl) ?_
              refine hxj_getK (by rfl) (by rfl) (by rfl) (frA319_0.trans ek23_1) ?_
              refine hxa_iconst (by rfl) rfl ?_
              refine hxj_iadd (by rfl) rfl hk_1 (by omega) (by omega) (fun z320 ez320 => ?_)
              refine hxj_putI (by rfl) (by rfl) (by rfl) (by rfl) hA319 (hbok (by rfl) rfl (by omega) (by omega)) (by rfl) (by rfl) (fun A321 hA321 eA321 fA321 => ?_)
              refine hxa_aload_n (by rfl) rfl ?_
              have nA321_11 : (A321.1 367 11).toInt = (A319.1 367 11).toInt := congrArg Int32.toInt (hkF eA321 (by omega) rfl)
              have nA321_12 : (A321.1 367 12).toInt = z320.toInt := congrArg Int32.toInt (hkS eA321)
              have nA321_13 : (A321.1 367 13).toInt = (A319.1 367 13).toInt := congrArg Int32.toInt (hkF eA321 (by omega) rfl)
              have nA321_37 : (A321.1 367 37).toInt = w23_6.toInt := congrArg Int32.toInt (hkF eA321 (by omega) (frA319_4.trans ek23_6))
              have nA321_41 : (A321.1 367 41).toInt = w23_7.toInt := congrArg Int32.toInt (hkF eA321 (by omega) (frA319_5.trans ek23_7))
              refine hxa_call0 (by rfl) (by rfl) (by rfl) (by rfl) (by rfl) (by rfl) (hX147q4 (d := d + 1) hA321 ) ?_
              rintro _ A322 ⟨hA322, frA322_0, frA322_1, frA322_2, frA322_3, frA322_4, frA322_5, aeA322, rfl, fA322⟩
              have ttA322_12 : (A322.1 367 12).toInt = z320.toInt := congrArg Int32.toInt (frA322_0.trans (hkS eA321))
              have ttA322_19 : (A322.1 367 19).toInt = (A.1 367 19).toInt := congrArg Int32.toInt (frA322_1.trans (hkF eA321 (by omega) (frA319_1.trans ek23_3)))
              have ttA322_20 : (A322.1 367 20).toInt = (A.1 367 20).toInt := congrArg Int32.toInt (frA322_2.trans (hkF eA321 (by omega) (frA319_2.trans ek23_4)))
              have ttA322_31 : (A322.1 367 31).toInt = (A.1 367 31).toInt := congrArg Int32.toInt (frA322_3.trans (hkF eA321 (by omega) (frA319_3.trans ek23_5)))
              have ttA322_37 : (A322.1 367 37).toInt = w23_6.toInt := congrArg Int32.toInt (frA322_4.trans (hkF eA321 (by omega) (frA319_4.trans ek23_6)))
              have ttA322_41 : (A322.1 367 41).toInt = w23_7.toInt := congrArg Int32.toInt (frA322_5.trans (hkF eA321 (by omega) (frA319_5.trans ek23_7)))
              have fbA322_367_11 := hA322.f (i := 367) (k := 11) (by rfl)
              have fbA322_367_13 := hA322.f (i := 367) (k := 13) (by rfl)
              refine hxa_aload_n (by rfl) rfl ?_
              refine hxa_get (v := .ref 393) (by rfl) (by rfl) (by rfl) rfl ?_
              refine hxa_aload_n (by rfl) rfl ?_
              refine hxj_getK (by rfl) (by rfl) (by rfl) (frA322_5.trans (hkF eA321 (by omega) (frA319_5.trans ek23_7))) ?_
              refine hxa_bipush (by rfl) rfl ?_
              refine hxj_iast (by rfl) (by rfl) rfl (by omega) (by omega) hA322 (hbokN (by rfl)) (by rfl) (by rfl) (fun A323 hA323 eA323 fA323 gA323 => ?_)
              refine hxa_aload_n (by rfl) rfl ?_
              refine hxa_dupR (by rfl) ?_
              refine hxj_getK (by rfl) (by rfl) (by rfl) (hkA eA323 (frA322_5.trans (hkF eA321 (by omega) (frA319_5.trans ek23_7)))) ?_
              refine hxa_iconst (by rfl) rfl ?_
              refine hxj_iaddU (by rfl) (fun z324 => ?_)
              refine hxj_putI (by rfl) (by rfl) (by rfl) (by rfl) hA323 (hbok (by rfl) rfl (by omega) (by omega)) (by rfl) (by rfl) (fun A325 hA325 eA325 fA325 => ?_)
              have nA325_11 : (A325.1 367 11).toInt = (A322.1 367 11).toInt := congrArg Int32.toInt (hkF eA325 (by omega) (hkA eA323 rfl))
              have nA325_12 : (A325.1 367 12).toInt = z320.toInt := congrArg Int32.toInt (hkF eA325 (by omega) (hkA eA323 (frA322_0.trans (hkS eA321))))
              have nA325_13 : (A325.1 367 13).toInt = (A322.1 367 13).toInt := congrArg Int32.toInt (hkF eA325 (by omega) (hkA eA323 rfl))
              have nA325_37 : (A325.1 367 37).toInt = w23_6.toInt := congrArg Int32.toInt (hkF eA325 (by omega) (hkA eA323 (frA322_4.trans (hkF eA321 (by omega) (frA319_4.trans ek23_6)))))
              have nA325_41 : (A325.1 367 41).toInt = z324.toInt := congrArg Int32.toInt (hkS eA325)
              have aj326 : A325.2.1 = hs_up Ac23.2.1 392 w23_7.toNatClampNeg (Int32.ofNat 6) := by rw [(show A325.2.1 = A323.2.1 from congrArg Prod.fst fA325), fA323, aeA322, (show A321.2.1 = A319.2.1 from congrArg Prod.fst fA321), aeA319]
              have j326 : ¬ (A325.1 367 13).toInt = 0 ∨ ((A.1 367 13).toInt = 0 ∧ (A325.1 367 37).toInt ≤ 0 + (A325.1 367 11).toInt ∧ ∃ o g : Nat, hQ 0 (A.1 367 37).toInt o g 0 A325 ∧ (o : Int) = (A325.1 367 12).toInt - x12_1.toInt ∧ (A325.1 367 12).toInt ≤ 6) := by
                by_cases h9 : (A325.1 367 13).toInt = 0
                · exact Or.inr ⟨by omega, by omega, _, _, hQ.opn hq_310 (j := w23_7) ek23_7 aj326 (by omega) (by omega) (by omega) hk_6, by omega, by omega⟩
                · exact Or.inl h9
              refine hxa_goto (by rfl) ?_
              exact ih23 (A322.1 367 11) z320 (A322.1 367 13) w23_6 z324 A325 hA325 (hkF eA325 (by omega) (hkA eA323 rfl)) (hkF eA325 (by omega) (hkA eA323 (frA322_0.trans (hkS eA321)))) (hkF eA325 (by omega) (hkA eA323 rfl)) (hkF eA325 (by omega) (hkA eA323 (frA322_1.trans (hkF eA321 (by omega) (frA319_1.trans ek23_3))))) (hkF eA325 (by omega) (hkA eA323 (frA322_2.trans (hkF eA321 (by omega) (frA319_2.trans ek23_4))))) (hkF eA325 (by omega) (hkA eA323 (frA322_3.trans (hkF eA321 (by omega) (frA319_3.trans ek23_5))))) (hkF eA325 (by omega) (hkA eA323 (frA322_4.trans (hkF eA321 (by omega) (frA319_4.trans ek23_6))))) (hkS eA325) (by omega) (by omega) (by omega) (by omega) (by omega) (by omega) (by exact j326) (by exact (u23_1.trans (hK.w aj326) (Nat.le_refl _))) (by omega) (by omega)
          ·
            refine hxj_zeq (by rfl) rfl (fun q327 => ?_) (fun q327 => False.elim (by omega))
            refine hxa_aload_n (by rfl) rfl ?_
            rcases u23_0 with x_328 | ⟨h0_328, hc_328, o_328, g_328, hq_328, ho_328, h6_328⟩
            ·
              refine hxa_call0 (by rfl) (by rfl) (by rfl) (by rfl) (by rfl) (by rfl) (hX162q4_9 (d := d + 0) hAc23 (by rw [(show Ac23.1 367 13 = w23_2 from ek23_2)]; omega) (by rw [(show Ac23.1 367 13 = w23_2 from ek23_2)]; omega)) ?_
              rintro _ A329 ⟨hA329, frA329_0, frA329_1, frA329_2, frA329_3, frA329_4, frA329_5, rfl, fA329⟩
              have ttA329_12 : (A329.1 367 12).toInt = w23_1.toInt := congrArg Int32.toInt (frA329_0.trans ek23_1)
              have ttA329_19 : (A329.1 367 19).toInt = (A.1 367 19).toInt := congrArg Int32.toInt (frA329_1.trans ek23_3)
              have ttA329_20 : (A329.1 367 20).toInt = (A.1 367 20).toInt := congrArg Int32.toInt (frA329_2.trans ek23_4)
              have ttA329_31 : (A329.1 367 31).toInt = (A.1 367 31).toInt := congrArg Int32.toInt (frA329_3.trans ek23_5)
              have ttA329_37 : (A329.1 367 37).toInt = w23_6.toInt := congrArg Int32.toInt (frA329_4.trans ek23_6)
              have ttA329_41 : (A329.1 367 41).toInt = w23_7.toInt := congrArg Int32.toInt (frA329_5.trans ek23_7)
              have fbA329_367_11 := hA329.f (i := 367) (k := 11) (by rfl)
              have fbA329_367_13 := hA329.f (i := 367) (k := 13) (by rfl)
              refine hxa_aload_n (by rfl) rfl ?_
              refine hxj_getK (by rfl) (by rfl) (by rfl) rfl ?_
              refine hxj_zle (by rfl) rfl (fun q330 => False.elim (by omega)) (fun q330 => ?_)
              have nA329_12 : (A329.1 367 12).toInt = w23_1.toInt := congrArg Int32.toInt (frA329_0.trans ek23_1)
              have nA329_37 : (A329.1 367 37).toInt = w23_6.toInt := congrArg Int32.toInt (frA329_4.trans ek23_6)
              have nA329_41 : (A329.1 367 41).toInt = w23_7.toInt := congrArg Int32.toInt (frA329_5.trans ek23_7)
              exact hxa_return (by rfl) rfl (hP _ _ ⟨hA329, (frA329_1.trans ek23_3), (frA329_2.trans ek23_4), (frA329_3.trans ek23_5), rfl, ⟨Or.inl (by omega), by omega, by omega, by omega, (u23_1.trans (hK.eq aeA329) (Nat.le_refl _))⟩⟩)
            ·
              refine hxa_call0 (by rfl) (by rfl) (by rfl) (by rfl) (by rfl) (by rfl) (hX162q4 (d := d + 0) hAc23 hq_328 hl) ?_
              rintro _ A331 ⟨hA331, frA331_0, frA331_1, frA331_2, frA331_3, frA331_4, rfl, fA331⟩
              have ttA331_12 : (A331.1 367 12).toInt = w23_1.toInt := congrArg Int32.toInt (frA331_0.trans ek23_1)
              have ttA331_19 : (A331.1 367 19).toInt = (A.1 367 19).toInt := congrArg Int32.toInt (frA331_1.trans ek23_3)
              have ttA331_20 : (A331.1 367 20).toInt = (A.1 367 20).toInt := congrArg Int32.toInt (frA331_2.trans ek23_4)
              have ttA331_31 : (A331.1 367 31).toInt = (A.1 367 31).toInt := congrArg Int32.toInt (frA331_3.trans ek23_5)
              have ttA331_41 : (A331.1 367 41).toInt = w23_7.toInt := congrArg Int32.toInt (frA331_4.trans ek23_7)
              have fbA331_367_11 := hA331.f (i := 367) (k := 11) (by rfl)
              have fbA331_367_13 := hA331.f (i := 367) (k := 13) (by rfl)
              have fbA331_367_37 := hA331.f (i := 367) (k := 37) (by rfl)
              have hku_328 := u23_1.trans fA331.2.2.2.2.1 (by omega)
              have fu_328 := fA331.2.1
              have fv_328 := fA331.2.2.1
              have fw_328 := fA331.2.2.2.1
              have hcb_328 := hQ.cb hq_328 (hAc23.f (i := 367) (k := 11) (by rfl)).2
              refine hxa_aload_n (by rfl) rfl ?_
              refine hxj_getK (by rfl) (by rfl) (by rfl) rfl ?_
              refine hxj_zle (by rfl) rfl (fun q332 => ?_) (fun q332 => ?_)
              ·
                have nA331_12 : (A331.1 367 12).toInt = w23_1.toInt := congrArg Int32.toInt (frA331_0.trans ek23_1)
                have nA331_41 : (A331.1 367 41).toInt = w23_7.toInt := congrArg Int32.toInt (frA331_4.trans ek23_7)
                have hu_328 := (fA331.1).resolve_left (fun w => w (by omega))
                have yu_328 : ∃ o g : Nat, hQ 0 (A.1 367 37).toInt o g 1 A331 ∧ (o : Int) = (A331.1 367 12).toInt - x12_1.toInt ∧ (A331.1 367 12).toInt ≤ 6 := ⟨_, _, hu_328.2.2, by omega, by omega⟩
                have hv_328 := hu_328.1
                have hx_328 := hu_328.2.1
                have cu_328 := hQ.cb hu_328.2.2 (hA331.f (i := 367) (k := 11) (by rfl)).2
                exact L96 (Int.toNat (800 - 2 * (A331.1 367 11).toInt - 2 * (A331.1 367 13).toInt + 6) + 1) (A331.1 367 11) w23_1 (A331.1 367 13) (A331.1 367 37) w23_7 A331 hA331 rfl (frA331_0.trans ek23_1) rfl (frA331_1.trans ek23_3) (frA331_2.trans ek23_4) (frA331_3.trans ek23_5) rfl (frA331_4.trans ek23_7) (by omega) (by omega) (by omega) (by omega) (by omega) (by omega) (by exact yu_328) (by exact hku_328) (by omega) (by omega) (by omega)
              ·
                have nA331_12 : (A331.1 367 12).toInt = w23_1.toInt := congrArg Int32.toInt (frA331_0.trans ek23_1)
                have nA331_41 : (A331.1 367 41).toInt = w23_7.toInt := congrArg Int32.toInt (frA331_4.trans ek23_7)
                exact hxa_return (by rfl) rfl (hP _ _ ⟨hA331, (frA331_1.trans ek23_3), (frA331_2.trans ek23_4), (frA331_3.trans ek23_5), rfl, ⟨Or.inl (by omega), by omega, by omega, by omega, hku_328⟩⟩)
      refine hxa_iload_n (by rfl) rfl ?_
      refine hxj_zeq (by rfl) rfl (fun q333 => False.elim (by omega)) (fun q333 => ?_)
      refine hxa_aload_n (by rfl) rfl ?_
      refine hxj_getK (by rfl) (by rfl) (by rfl) ek12_2 ?_
      refine hxj_zne (by rfl) rfl (fun q334 => ?_) (fun q334 => ?_)
      ·
        have nAc12_11 : (Ac12.1 367 11).toInt = w12_0.toInt := congrArg Int32.toInt ek12_0
        have nAc12_12 : (Ac12.1 367 12).toInt = w12_1.toInt := congrArg Int32.toInt ek12_1
        have nAc12_13 : (Ac12.1 367 13).toInt = w12_2.toInt := congrArg Int32.toInt ek12_2
        have nAc12_37 : (Ac12.1 367 37).toInt = w12_6.toInt := congrArg Int32.toInt ek12_6
        have nAc12_41 : (Ac12.1 367 41).toInt = w12_7.toInt := congrArg Int32.toInt ek12_7
        exact hxa_return (by rfl) rfl (hP _ _ ⟨hAc12, ek12_3, ek12_4, ek12_5, rfl, ⟨Or.inl (by omega), by omega, by omega, by omega, u12_1⟩⟩)
      ·
        exact L23 (Int.toNat (800 - 2 * w12_0.toInt - 2 * w12_2.toInt + 6) + 1) w12_0 w12_1 w12_2 w12_6 w12_7 Ac12 hAc12 ek12_0 ek12_1 ek12_2 ek12_3 ek12_4 ek12_5 ek12_6 ek12_7 (by omega) (by omega) (by omega) (by omega) (by omega) (by omega) (by exact u12_0) (by exact u12_1) (by omega) (by omega)
  refine hxa_aload_n (by rfl) rfl ?_
  refine hxa_iconst (by rfl) rfl ?_
  refine hxj_putI (by rfl) (by rfl) (by rfl) (by rfl) hA (hbok (by rfl) hk_0 (by omega) (by omega)) (by rfl) (by rfl) (fun A335 hA335 eA335 fA335 => ?_)
  have nA335_11 : (A335.1 367 11).toInt = (A.1 367 11).toInt := congrArg Int32.toInt (hkF eA335 (by omega) rfl)
  have nA335_12 : (A335.1 367 12).toInt = (A.1 367 12).toInt := congrArg Int32.toInt (hkF eA335 (by omega) rfl)
  have nA335_13 : (A335.1 367 13).toInt = (A.1 367 13).toInt := congrArg Int32.toInt (hkF eA335 (by omega) rfl)
  have nA335_37 : (A335.1 367 37).toInt = (A.1 367 37).toInt := congrArg Int32.toInt (hkF eA335 (by omega) rfl)
  have nA335_41 : (A335.1 367 41).toInt = 0 := congrArg Int32.toInt (hkS eA335)
  have i0 : ¬ (A335.1 367 13).toInt = 0 ∨ ((A.1 367 13).toInt = 0 ∧ (A335.1 367 37).toInt ≤ 0 + (A335.1 367 11).toInt ∧ ∃ o g : Nat, hQ 0 (A.1 367 37).toInt o g 0 A335 ∧ (o : Int) = (A335.1 367 12).toInt - (A.1 367 12).toInt ∧ (A335.1 367 12).toInt ≤ 6) := by
    by_cases h0 : (A.1 367 13).toInt = 0
    · refine Or.inr ⟨h0, by omega, 0, 0, ?_, by omega, by omega⟩
      have q := hQ.init (s := 0) (A := A335) (by omega) (by omega) (by omega) (by omega)
      rw [nA335_37] at q
      exact q
    · exact Or.inl (by omega)
  refine hxa_aload_n (by rfl) rfl ?_
  refine hxj_getK (by rfl) (by rfl) (by rfl) (hkF eA335 (by omega) rfl) ?_
  refine hxa_s1 (by rfl) (Or.inl ⟨_, rfl, rfl⟩) rfl ?_
  refine hxa_iconst (by rfl) rfl ?_
  refine hxa_s1 (by rfl) (Or.inl ⟨_, rfl, rfl⟩) rfl ?_
  exact L12 (Int.toNat (800 - 2 * (A.1 367 11).toInt - 2 * (A.1 367 13).toInt + 6) + 1) (A.1 367 11) (A.1 367 12) (A.1 367 13) (A.1 367 37) (Int32.ofNat 0) (A.1 367 12) (Int32.ofNat 1) A335 hA335 (hkF eA335 (by omega) rfl) (hkF eA335 (by omega) rfl) (hkF eA335 (by omega) rfl) (hkF eA335 (by omega) rfl) (hkF eA335 (by omega) rfl) (hkF eA335 (by omega) rfl) (hkF eA335 (by omega) rfl) (hkS eA335) (by omega) (by omega) (by omega) (by omega) (by omega) (by omega) (by omega) (by omega) (by omega) (by omega) (by omega) (by omega) (by exact i0) (by exact (hK.eq (by rw [(show A335.2.1 = A.2.1 from congrArg Prod.fst fA335)]))) (by omega) (by omega)
theorem hX161q4 {d : Nat} {Bn Br : Int} {A0 A : hs_A} (hA : hJ 4 Bn Br A0 A) (hc0 : 0 ≤ (A.1 367 37).toInt) (hc1 : ¬ (A.1 367 13).toInt = 0 ∨ (A.1 367 37).toInt ≤ 0 + (A.1 367 11).toInt) (hc2 : (A.1 367 37).toInt ≤ 402) (ho : ¬ (A.1 367 13).toInt = 0 ∨ (A.1 367 12).toInt ≤ 6) (hl : (A0.1 367 18).toInt = 1)  : hxC (d + 4) 161 hm_m161 [.ref 368] A (fun r A' => hJ 4 Bn Br A0 A' ∧ A'.1 367 19 = A.1 367 19 ∧ A'.1 367 20 = A.1 367 20 ∧ A'.1 367 31 = A.1 367 31 ∧ r = none ∧ ((¬ (A'.1 367 13).toInt = 0 ∨ ((A.1 367 13).toInt = 0 ∧ (A.1 367 11).toInt + 1 ≤ (A'.1 367 11).toInt ∧ (A'.1 367 12).toInt = (A.1 367 12).toInt ∧ (A'.1 367 37).toInt ≤ 0 + (A'.1 367 11).toInt ∧ hWe (A'.2.1 390) (A'.2.1 391) ((A'.1 367 37).toInt - (A.1 367 37).toInt).toNat (A.1 367 37).toInt.toNat 0 1)) ∧ (A.1 367 11).toInt ≤ (A'.1 367 11).toInt ∧ (A.1 367 37).toInt ≤ (A'.1 367 37).toInt ∧ (A'.1 367 37).toInt ≤ 402 ∧ hK (A.1 367 37).toInt.toNat A A')) := hxC.of (by rfl) (hY161q4 hA hc0 hc1 hc2 ho hl (fun r A' h => h))
