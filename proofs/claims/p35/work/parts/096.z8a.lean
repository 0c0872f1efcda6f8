theorem hY158q4 {d : Nat} {Bn Br : Int} {A0 A : hs_A} (hA : hJ 4 Bn Br A0 A) (hc0 : 0 ≤ (A.1 367 37).toInt) (hc1 : ¬ (A.1 367 13).toInt = 0 ∨ (A.1 367 37).toInt ≤ 0 + (A.1 367 11).toInt) (hc2 : (A.1 367 37).toInt ≤ 402) (ho : ¬ (A.1 367 13).toInt = 0 ∨ (A.1 367 12).toInt ≤ 6) (hl : (A0.1 367 18).toInt = 1) (fl0 : 0 ≤ (A.1 367 31).toInt) (fh0 : (A.1 367 31).toInt ≤ 129) {P : Option Value → hs_A → Prop} (hP : ∀ (r : Option Value) (A' : hs_A), (hJ 4 Bn Br A0 A' ∧ A'.1 367 19 = A.1 367 19 ∧ A'.1 367 20 = A.1 367 20 ∧ A'.2.1 376 = A.2.1 376 ∧ A'.2.1 385 = A.2.1 385 ∧ A'.2.1 386 = A.2.1 386 ∧ A'.2.1 387 = A.2.1 387 ∧ r = none ∧ ((¬ (A'.1 367 13).toInt = 0 ∨ ((A.1 367 13).toInt = 0 ∧ (A.1 367 11).toInt + 1 ≤ (A'.1 367 11).toInt ∧ (A'.1 367 12).toInt = (A.1 367 12).toInt ∧ (A'.1 367 37).toInt ≤ 0 + (A'.1 367 11).toInt ∧ hSg 0 A' (A'.2.1 388 (A.1 367 31).toNatClampNeg) (A'.2.1 389 (A.1 367 31).toNatClampNeg))) ∧ (A.1 367 11).toInt ≤ (A'.1 367 11).toInt ∧ (A.1 367 37).toInt ≤ (A'.1 367 37).toInt ∧ (A'.1 367 37).toInt ≤ 402 ∧ ((A'.1 367 31).toInt = (A.1 367 31).toInt + 1 ∧ (A'.2.1 388 (A.1 367 31).toNatClampNeg).toInt = (A.1 367 37).toInt) ∧ hM (A.1 367 37).toInt.toNat (A.1 367 31).toNatClampNeg A A')) → P r A') : hxa (d + 4) none hm_t158 0 [.ref 368] [] A P := by
  obtain ⟨fb367_11, fb367_11u⟩ := hA.f (i := 367) (k := 11) (by rfl)
  obtain ⟨fb367_12, fb367_12u⟩ := hA.f (i := 367) (k := 12) (by rfl)
  obtain ⟨fb367_13, fb367_13u⟩ := hA.f (i := 367) (k := 13) (by rfl)
  obtain ⟨fb367_19, fb367_19u⟩ := hA.f (i := 367) (k := 19) (by rfl)
  obtain ⟨fb367_20, fb367_20u⟩ := hA.f (i := 367) (k := 20) (by rfl)
  obtain ⟨fb367_37, fb367_37u⟩ := hA.f (i := 367) (k := 37) (by rfl)
  refine hxa_aload_n (by rfl) rfl ?_
  refine hxa_get (v := .ref 389) (by rfl) (by rfl) (by rfl) rfl ?_
  refine hxa_aload_n (by rfl) rfl ?_
  refine hxj_getK (by rfl) (by rfl) (by rfl) rfl ?_
  refine hxa_aload_n (by rfl) rfl ?_
  refine hxj_getK (by rfl) (by rfl) (by rfl) rfl ?_
  refine hxj_iastE (by rfl) (by rfl) rfl (by omega) (by omega) hA (by omega) (hlrB hl rfl (by omega) (by omega) (by omega)) (fun A1 hA1 eA1 fA1 gA1 => ?_)
  refine hxa_aload_n (by rfl) rfl ?_
  refine hxj_getK (by rfl) (by rfl) (by rfl) (hkA eA1 rfl) ?_
  refine hxj_zne (by rfl) rfl (fun q2 => ?_) (fun q2 => ?_)
  ·
    refine hxa_aload_n (by rfl) rfl ?_
    refine hxa_get (v := .ref 390) (by rfl) (by rfl) (by rfl) rfl ?_
    refine hxa_aload_n (by rfl) rfl ?_
    refine hxj_getK (by rfl) (by rfl) (by rfl) (hkA eA1 rfl) ?_
    refine hxa_aload_n (by rfl) rfl ?_
    refine hxj_getK (by rfl) (by rfl) (by rfl) (hkA eA1 rfl) ?_
    refine hxj_iastE (by rfl) (by rfl) rfl (by omega) (by omega) hA1 (by omega) (hlrB hl rfl (by omega) (by omega) (by omega)) (fun A3 hA3 eA3 fA3 gA3 => ?_)
    refine hxa_aload_n (by rfl) rfl ?_
    refine hxa_dupR (by rfl) ?_
    refine hxj_getK (by rfl) (by rfl) (by rfl) (hkA eA3 (hkA eA1 rfl)) ?_
    refine hxa_iconst (by rfl) rfl ?_
    refine hxj_iadd (by rfl) rfl hk_1 (by omega) (by omega) (fun z4 ez4 => ?_)
    refine hxj_putI (by rfl) (by rfl) (by rfl) (by rfl) hA3 (hbok (by rfl) rfl (by omega) (by omega)) (by rfl) (by rfl) (fun A5 hA5 eA5 fA5 => ?_)
    have nA5_11 : (A5.1 367 11).toInt = (A.1 367 11).toInt := congrArg Int32.toInt (hkF eA5 (by first | decide | omega) (hkA eA3 (hkA eA1 rfl)))
    have nA5_12 : (A5.1 367 12).toInt = (A.1 367 12).toInt := congrArg Int32.toInt (hkF eA5 (by first | decide | omega) (hkA eA3 (hkA eA1 rfl)))
    have nA5_13 : (A5.1 367 13).toInt = (A.1 367 13).toInt := congrArg Int32.toInt (hkF eA5 (by first | decide | omega) (hkA eA3 (hkA eA1 rfl)))
    have nA5_37 : (A5.1 367 37).toInt = (A.1 367 37).toInt := congrArg Int32.toInt (hkF eA5 (by first | decide | omega) (hkA eA3 (hkA eA1 rfl)))
    have nA5_31 : (A5.1 367 31).toInt = z4.toInt := congrArg Int32.toInt (hkS eA5)
    have hS := hTermS0 fA1 fA3 fA5
    have e88 : (A5.2.1 388 (A.1 367 31).toNatClampNeg).toInt = (A.1 367 37).toInt := by rw [hS]
    exact hxa_return (by rfl) rfl (hP _ _ ⟨hA5, (hkF eA5 (by first | decide | omega) (hkA eA3 (hkA eA1 rfl))), (hkF eA5 (by first | decide | omega) (hkA eA3 (hkA eA1 rfl))), (hafF fA5 (hafA fA3 (by first | decide | omega) (hafA fA1 (by first | decide | omega) rfl))), (hafF fA5 (hafA fA3 (by first | decide | omega) (hafA fA1 (by first | decide | omega) rfl))), (hafF fA5 (hafA fA3 (by first | decide | omega) (hafA fA1 (by first | decide | omega) rfl))), (hafF fA5 (hafA fA3 (by first | decide | omega) (hafA fA1 (by first | decide | omega) rfl))), rfl, ⟨Or.inl (by omega), by omega, by omega, by omega, ⟨by omega, e88⟩, (hM.tF (hM.tW (hM.tW (hM.refl (A.1 367 37).toInt.toNat (A.1 367 31).toNatClampNeg A) fA1 rfl (by omega)) fA3 rfl (by omega)) fA5)⟩⟩)
  ·
    refine hxa_aload_n (by rfl) rfl ?_
    have nA1_11 : (A1.1 367 11).toInt = (A.1 367 11).toInt := congrArg Int32.toInt (hkA eA1 rfl)
    have nA1_12 : (A1.1 367 12).toInt = (A.1 367 12).toInt := congrArg Int32.toInt (hkA eA1 rfl)
    have nA1_13 : (A1.1 367 13).toInt = (A.1 367 13).toInt := congrArg Int32.toInt (hkA eA1 rfl)
    have nA1_37 : (A1.1 367 37).toInt = (A.1 367 37).toInt := congrArg Int32.toInt (hkA eA1 rfl)
    refine hxa_call0 (by rfl) (by rfl) (by rfl) (by rfl) (by rfl) (by rfl) (hX161q4 (d := d + 0) hA1 (by omega) (by omega) (by omega) (by omega) (by omega)) ?_
    rintro _ A6 ⟨hA6, frA6_0, frA6_1, frA6_2, afA6_376, afA6_385, afA6_386, afA6_387, rfl, fA6⟩
    have ttA6_19 : (A6.1 367 19).toInt = (A.1 367 19).toInt := congrArg Int32.toInt (frA6_0.trans (hkA eA1 rfl))
    have ttA6_20 : (A6.1 367 20).toInt = (A.1 367 20).toInt := congrArg Int32.toInt (frA6_1.trans (hkA eA1 rfl))
    have ttA6_31 : (A6.1 367 31).toInt = (A.1 367 31).toInt := congrArg Int32.toInt (frA6_2.trans (hkA eA1 rfl))
    have acc_A6 := hM.tK (hM.tW (hM.refl (A.1 367 37).toInt.toNat (A.1 367 31).toNatClampNeg A) fA1 rfl (by omega)) fA6.2.2.2.2 (by omega)
    obtain ⟨fbA6_367_11, fbA6_367_11u⟩ := hA6.f (i := 367) (k := 11) (by rfl)
    obtain ⟨fbA6_367_12, fbA6_367_12u⟩ := hA6.f (i := 367) (k := 12) (by rfl)
    obtain ⟨fbA6_367_13, fbA6_367_13u⟩ := hA6.f (i := 367) (k := 13) (by rfl)
    obtain ⟨fbA6_367_37, fbA6_367_37u⟩ := hA6.f (i := 367) (k := 37) (by rfl)
    refine hxa_aload_n (by rfl) rfl ?_
    refine hxa_get (v := .ref 390) (by rfl) (by rfl) (by rfl) rfl ?_
    refine hxa_aload_n (by rfl) rfl ?_
    refine hxj_getK (by rfl) (by rfl) (by rfl) (frA6_2.trans (hkA eA1 rfl)) ?_
    refine hxa_aload_n (by rfl) rfl ?_
    refine hxj_getK (by rfl) (by rfl) (by rfl) rfl ?_
    refine hxj_iastE (by rfl) (by rfl) rfl (by omega) (by omega) hA6 (by omega) (hlrB hl rfl (by omega) (by omega) (by omega)) (fun A7 hA7 eA7 fA7 gA7 => ?_)
    refine hxa_aload_n (by rfl) rfl ?_
    refine hxa_dupR (by rfl) ?_
    refine hxj_getK (by rfl) (by rfl) (by rfl) (hkA eA7 (frA6_2.trans (hkA eA1 rfl))) ?_
    refine hxa_iconst (by rfl) rfl ?_
    refine hxj_iadd (by rfl) rfl hk_1 (by omega) (by omega) (fun z8 ez8 => ?_)
    refine hxj_putI (by rfl) (by rfl) (by rfl) (by rfl) hA7 (hbok (by rfl) rfl (by omega) (by omega)) (by rfl) (by rfl) (fun A9 hA9 eA9 fA9 => ?_)
    have nA9_11 : (A9.1 367 11).toInt = (A6.1 367 11).toInt := congrArg Int32.toInt (hkF eA9 (by first | decide | omega) (hkA eA7 rfl))
    have nA9_12 : (A9.1 367 12).toInt = (A6.1 367 12).toInt := congrArg Int32.toInt (hkF eA9 (by first | decide | omega) (hkA eA7 rfl))
    have nA9_13 : (A9.1 367 13).toInt = (A6.1 367 13).toInt := congrArg Int32.toInt (hkF eA9 (by first | decide | omega) (hkA eA7 rfl))
    have nA9_37 : (A9.1 367 37).toInt = (A6.1 367 37).toInt := congrArg Int32.toInt (hkF eA9 (by first | decide | omega) (hkA eA7 rfl))
    have nA9_31 : (A9.1 367 31).toInt = z8.toInt := congrArg Int32.toInt (hkS eA9)
    have hS := hTermS fA1 fA6.2.2.2.2 fA7 fA9
    have seg : ¬ (A9.1 367 13).toInt = 0 ∨ ((A.1 367 13).toInt = 0 ∧ (A.1 367 11).toInt + 1 ≤ (A9.1 367 11).toInt ∧ (A9.1 367 12).toInt = (A.1 367 12).toInt ∧ (A9.1 367 37).toInt ≤ 0 + (A9.1 367 11).toInt ∧ hSg 0 A9 (A9.2.1 388 (A.1 367 31).toNatClampNeg) (A9.2.1 389 (A.1 367 31).toNatClampNeg)) := by
      rcases fA6.1 with q9 | q9
      · exact Or.inl (by omega)
      · refine Or.inr ⟨by omega, by omega, by omega, by omega, ?_⟩
        rw [hS.1, hS.2.1]
        have w5 := q9.2.2.2.2
        rw [nA1_37] at w5
        refine hSg.of (c0 := (A.1 367 37).toInt) (c1 := (A6.1 367 37).toInt) (by omega) rfl rfl (by omega) (by omega) (by omega) ?_
        rw [hS.2.2.1, hS.2.2.2]
        exact w5
    have e88 : (A9.2.1 388 (A.1 367 31).toNatClampNeg).toInt = (A.1 367 37).toInt := by rw [hS.1]
    have x9 := fA6.2
    exact hxa_return (by rfl) rfl (hP _ _ ⟨hA9, (hkF eA9 (by first | decide | omega) (hkA eA7 (frA6_0.trans (hkA eA1 rfl)))), (hkF eA9 (by first | decide | omega) (hkA eA7 (frA6_1.trans (hkA eA1 rfl)))), (hafF fA9 (hafA fA7 (by first | decide | omega) (afA6_376.trans (hafA fA1 (by first | decide | omega) rfl)))), (hafF fA9 (hafA fA7 (by first | decide | omega) (afA6_385.trans (hafA fA1 (by first | decide | omega) rfl)))), (hafF fA9 (hafA fA7 (by first | decide | omega) (afA6_386.trans (hafA fA1 (by first | decide | omega) rfl)))), (hafF fA9 (hafA fA7 (by first | decide | omega) (afA6_387.trans (hafA fA1 (by first | decide | omega) rfl)))), rfl, ⟨seg, by omega, by omega, by omega, ⟨by omega, e88⟩, (hM.tF (hM.tW acc_A6 fA7 rfl (by omega)) fA9)⟩⟩)
theorem hX158q4 {d : Nat} {Bn Br : Int} {A0 A : hs_A} (hA : hJ 4 Bn Br A0 A) (hc0 : 0 ≤ (A.1 367 37).toInt) (hc1 : ¬ (A.1 367 13).toInt = 0 ∨ (A.1 367 37).toInt ≤ 0 + (A.1 367 11).toInt) (hc2 : (A.1 367 37).toInt ≤ 402) (ho : ¬ (A.1 367 13).toInt = 0 ∨ (A.1 367 12).toInt ≤ 6) (hl : (A0.1 367 18).toInt = 1) (fl0 : 0 ≤ (A.1 367 31).toInt) (fh0 : (A.1 367 31).toInt ≤ 129) : hxC (d + 5) 158 hm_m158 [.ref 368] A (fun r A' => hJ 4 Bn Br A0 A' ∧ A'.1 367 19 = A.1 367 19 ∧ A'.1 367 20 = A.1 367 20 ∧ A'.2.1 376 = A.2.1 376 ∧ A'.2.1 385 = A.2.1 385 ∧ A'.2.1 386 = A.2.1 386 ∧ A'.2.1 387 = A.2.1 387 ∧ r = none ∧ ((¬ (A'.1 367 13).toInt = 0 ∨ ((A.1 367 13).toInt = 0 ∧ (A.1 367 11).toInt + 1 ≤ (A'.1 367 11).toInt ∧ (A'.1 367 12).toInt = (A.1 367 12).toInt ∧ (A'.1 367 37).toInt ≤ 0 + (A'.1 367 11).toInt ∧ hSg 0 A' (A'.2.1 388 (A.1 367 31).toNatClampNeg) (A'.2.1 389 (A.1 367 31).toNatClampNeg))) ∧ (A.1 367 11).toInt ≤ (A'.1 367 11).toInt ∧ (A.1 367 37).toInt ≤ (A'.1 367 37).toInt ∧ (A'.1 367 37).toInt ≤ 402 ∧ ((A'.1 367 31).toInt = (A.1 367 31).toInt + 1 ∧ (A'.2.1 388 (A.1 367 31).toNatClampNeg).toInt = (A.1 367 37).toInt) ∧ hM (A.1 367 37).toInt.toNat (A.1 367 31).toNatClampNeg A A')) := hxC.of (by rfl) (hY158q4 hA hc0 hc1 hc2 ho hl fl0 fh0 (fun r A' h => h))
theorem hY157q4 {d : Nat} {Bn Br : Int} {A0 A : hs_A} (hA : hJ 4 Bn Br A0 A) (hv : hVr 0 A) (hb1 : ¬ (A.1 367 13).toInt = 0 ∨ 4 * ((A.1 367 31).toInt - 0) + 1 ≤ (A.1 367 11).toInt) (hb2 : 0 ≤ (A.1 367 31).toInt ∧ (A.1 367 31).toInt ≤ 101) (hc0 : 0 ≤ (A.1 367 37).toInt) (hc1 : ¬ (A.1 367 13).toInt = 0 ∨ (A.1 367 37).toInt ≤ 0 + (A.1 367 11).toInt) (hc2 : (A.1 367 37).toInt ≤ 402) (ho : ¬ (A.1 367 13).toInt = 0 ∨ (A.1 367 12).toInt ≤ 6) (hl : (A0.1 367 18).toInt = 1) (a1 : Int32) (p1 : 0 ≤ a1.toInt) (q1 : a1.toInt ≤ 3) (fl0 : 0 ≤ (A.1 367 19).toInt) (fh0 : (A.1 367 19).toInt ≤ 0) {P : Option Value → hs_A → Prop} (hP : ∀ (r : Option Value) (A' : hs_A), (hJ 4 Bn Br A0 A' ∧ A'.1 367 19 = A.1 367 19 ∧ A'.1 367 20 = A.1 367 20 ∧ A'.2.1 376 = A.2.1 376 ∧ r = none ∧ ((¬ (A'.1 367 13).toInt = 0 ∨ ((A.1 367 13).toInt = 0 ∧ (A.1 367 11).toInt + 2 ≤ (A'.1 367 11).toInt ∧ 4 * ((A'.1 367 31).toInt - 0) ≤ (A'.1 367 11).toInt ∧ (A'.1 367 37).toInt ≤ 0 + (A'.1 367 11).toInt ∧ (A'.1 367 12).toInt = (A.1 367 12).toInt)) ∧ (A.1 367 11).toInt ≤ (A'.1 367 11).toInt ∧ (A.1 367 31).toInt ≤ (A'.1 367 31).toInt ∧ (A'.1 367 31).toInt ≤ 103 ∧ (A.1 367 37).toInt ≤ (A'.1 367 37).toInt ∧ (A'.1 367 37).toInt ≤ 402 ∧ hVr 0 A')) → P r A') : hxa (d + 5) none hm_t157 0 [.ref 368, .int a1, .retAddr 0, .retAddr 0] [] A P := by
  have k0 := hk_0
  have k13 := hk_13
  have k2 := hk_2
  have k28 := hk_28
  have k29 := hk_29
  have k30 := hk_30
  have k4 := hk_4
  have k5 := hk_5
  obtain ⟨fb367_11, fb367_11u⟩ := hA.f (i := 367) (k := 11) (by rfl)
  obtain ⟨fb367_12, fb367_12u⟩ := hA.f (i := 367) (k := 12) (by rfl)
  obtain ⟨fb367_13, fb367_13u⟩ := hA.f (i := 367) (k := 13) (by rfl)
  obtain ⟨fb367_20, fb367_20u⟩ := hA.f (i := 367) (k := 20) (by rfl)
  obtain ⟨fb367_31, fb367_31u⟩ := hA.f (i := 367) (k := 31) (by rfl)
  obtain ⟨fb367_37, fb367_37u⟩ := hA.f (i := 367) (k := 37) (by rfl)
  have L12 : ∀ (m12 : Nat) (w12_0 : Int32) (w12_1 : Int32) (w12_2 : Int32) (w12_5 : Int32) (w12_6 : Int32) (x12_2 : Int32) (x12_3 : Int32) (Ac12 : hs_A) (hAc12 : hJ 4 Bn Br A0 Ac12) (ek12_0 : Ac12.1 367 11 = w12_0) (ek12_1 : Ac12.1 367 12 = w12_1) (ek12_2 : Ac12.1 367 13 = w12_2) (ek12_3 : Ac12.1 367 19 = (A.1 367 19)) (ek12_4 : Ac12.1 367 20 = (A.1 367 20)) (ek12_5 : Ac12.1 367 31 = w12_5) (ek12_6 : Ac12.1 367 37 = w12_6) (af12_376 : Ac12.2.1 376 = A.2.1 376) (bx12_2 : 0 ≤ x12_2.toInt) (cx12_2 : x12_2.toInt ≤ 260) (bx12_3 : 0 ≤ x12_3.toInt) (cx12_3 : x12_3.toInt ≤ 4) (bw12_0 : 0 ≤ w12_0.toInt) (cw12_0 : w12_0.toInt ≤ 400) (bw12_2 : 0 ≤ w12_2.toInt) (cw12_2 : w12_2.toInt ≤ 2) (bw12_1 : 0 ≤ w12_1.toInt) (cw12_1 : w12_1.toInt ≤ 7) (bw12_5 : 0 ≤ w12_5.toInt) (cw12_5 : w12_5.toInt ≤ 260) (bw12_6 : 0 ≤ w12_6.toInt) (cw12_6 : w12_6.toInt ≤ 840) (u12_0 : ¬ (Ac12.1 367 13).toInt = 0 ∨ ((A.1 367 13).toInt = 0 ∧ 4 * ((Ac12.1 367 31).toInt - 0) + 2 ≤ (Ac12.1 367 11).toInt ∧ (Ac12.1 367 37).toInt ≤ 0 + (Ac12.1 367 11).toInt ∧ (Ac12.1 367 12).toInt = (A.1 367 12).toInt ∧ (A.1 367 11).toInt + 1 ≤ (Ac12.1 367 11).toInt ∧ ∀ i : Nat, x12_2.toInt ≤ (i : Int) → (i : Int) < (Ac12.1 367 31).toInt → hVc 0 Ac12 i)) (u12_1 : hMa (A.1 367 37).toInt.toNat (A.1 367 31).toInt.toNat A Ac12) (u12_2 : x12_2.toInt = (A.1 367 31).toInt ∧ (A.1 367 31).toInt ≤ (Ac12.1 367 31).toInt ∧ (Ac12.1 367 31).toInt ≤ 101 ∧ (A.1 367 37).toInt ≤ (Ac12.1 367 37).toInt ∧ (Ac12.1 367 37).toInt ≤ 402 ∧ (A.1 367 11).toInt ≤ (Ac12.1 367 11).toInt) (hm12 : 5 - x12_3.toInt < (m12 : Int)), hxa (d + 5) none hm_t157 12 [.ref 368, .int a1, .int x12_2, .int x12_3] [] Ac12 P := by
    intro m12
    induction m12 with
    | zero => intro w12_0 w12_1 w12_2 w12_5 w12_6 x12_2 x12_3 Ac12 hAc12 ek12_0 ek12_1 ek12_2 ek12_3 ek12_4 ek12_5 ek12_6 af12_376 bx12_2 cx12_2 bx12_3 cx12_3 bw12_0 cw12_0 bw12_2 cw12_2 bw12_1 cw12_1 bw12_5 cw12_5 bw12_6 cw12_6 u12_0 u12_1 u12_2 hm12;  exact False.elim (by omega)
    | succ m12 ih12 =>
      intro w12_0 w12_1 w12_2 w12_5 w12_6 x12_2 x12_3 Ac12 hAc12 ek12_0 ek12_1 ek12_2 ek12_3 ek12_4 ek12_5 ek12_6 af12_376 bx12_2 cx12_2 bx12_3 cx12_3 bw12_0 cw12_0 bw12_2 cw12_2 bw12_1 cw12_1 bw12_5 cw12_5 bw12_6 cw12_6 u12_0 u12_1 u12_2 hm12
      have tk12_0 : (Ac12.1 367 11).toInt = w12_0.toInt := congrArg Int32.toInt ek12_0
      have tk12_1 : (Ac12.1 367 12).toInt = w12_1.toInt := congrArg Int32.toInt ek12_1
      have tk12_2 : (Ac12.1 367 13).toInt = w12_2.toInt := congrArg Int32.toInt ek12_2
      have tk12_5 : (Ac12.1 367 31).toInt = w12_5.toInt := congrArg Int32.toInt ek12_5
      have tk12_6 : (Ac12.1 367 37).toInt = w12_6.toInt := congrArg Int32.toInt ek12_6
      have cbx := hn_cn (j := w12_5) (by omega)
      refine hxa_aload_n (by rfl) rfl ?_
      refine hxj_getK (by rfl) (by rfl) (by rfl) ek12_2 ?_
      refine hxj_zne (by rfl) rfl (fun q1 => ?_) (fun q1 => ?_)
      ·
        refine hxa_aload_n (by rfl) rfl ?_
        refine hxa_get (v := .ref 386) (by rfl) (by rfl) (by rfl) rfl ?_
        refine hxa_aload_n (by rfl) rfl ?_
        refine hxj_getK (by rfl) (by rfl) (by rfl) ek12_5 ?_
        refine hxa_iconst (by rfl) rfl ?_
        refine hxj_zastE (by rfl) (by rfl) rfl (by omega) (by omega) hk_0 (by omega) (by omega) hAc12 (by omega) (hlrB hl rfl (by omega) (by omega) (by omega)) (fun A2 hA2 eA2 fA2 gA2 => ?_)
        refine hxa_aload_n (by rfl) rfl ?_
        have nA2_11 : (A2.1 367 11).toInt = w12_0.toInt := congrArg Int32.toInt (hkA eA2 ek12_0)
        have nA2_12 : (A2.1 367 12).toInt = w12_1.toInt := congrArg Int32.toInt (hkA eA2 ek12_1)
        have nA2_13 : (A2.1 367 13).toInt = w12_2.toInt := congrArg Int32.toInt (hkA eA2 ek12_2)
        have nA2_37 : (A2.1 367 37).toInt = w12_6.toInt := congrArg Int32.toInt (hkA eA2 ek12_6)
        refine hxa_call0 (by rfl) (by rfl) (by rfl) (by rfl) (by rfl) (by rfl) (hX158q4 (d := d + 0) hA2 (by omega) (by omega) (by omega) (by omega) (by omega) (by rw [(show A2.1 367 31 = w12_5 from (hkA eA2 ek12_5))]; omega) (by rw [(show A2.1 367 31 = w12_5 from (hkA eA2 ek12_5))]; omega)) ?_
        rintro _ A3 ⟨hA3, frA3_0, frA3_1, afA3_376, afA3_385, afA3_386, afA3_387, rfl, fA3⟩
        have ttA3_19 : (A3.1 367 19).toInt = (A.1 367 19).toInt := congrArg Int32.toInt (frA3_0.trans (hkA eA2 ek12_3))
        have ttA3_20 : (A3.1 367 20).toInt = (A.1 367 20).toInt := congrArg Int32.toInt (frA3_1.trans (hkA eA2 ek12_4))
        rw [(show A2.1 367 31 = w12_5 from (hkA eA2 ek12_5))] at fA3
        have el385_A3 := helX afA3_385 (helS fA2)
        have acc_A3 := hM.tM (hM.tW (hM.refl (Ac12.1 367 37).toInt.toNat w12_5.toNatClampNeg Ac12) fA2 rfl (by omega)) fA3.2.2.2.2.2 (by omega)
        obtain ⟨fbA3_367_11, fbA3_367_11u⟩ := hA3.f (i := 367) (k := 11) (by rfl)
        obtain ⟨fbA3_367_12, fbA3_367_12u⟩ := hA3.f (i := 367) (k := 12) (by rfl)
        obtain ⟨fbA3_367_13, fbA3_367_13u⟩ := hA3.f (i := 367) (k := 13) (by rfl)
        obtain ⟨fbA3_367_37, fbA3_367_37u⟩ := hA3.f (i := 367) (k := 37) (by rfl)
        obtain ⟨fbA3_367_31, fbA3_367_31u⟩ := hA3.f (i := 367) (k := 31) (by rfl)
        refine hxa_aload_n (by rfl) rfl ?_
        refine hxa_iconst (by rfl) rfl ?_
        refine hxa_call0 (by rfl) (by rfl) (by rfl) (by rfl) (by rfl) (by rfl) (hX148q4 (d := d + 2) hA3 (Int32.ofNat 4)) ?_
        rintro _ A4 ⟨hA4, frA4_0, frA4_1, frA4_2, frA4_3, frA4_4, frA4_5, aeA4, rfl, fA4⟩
        have ttA4_12 : (A4.1 367 12).toInt = (A3.1 367 12).toInt := congrArg Int32.toInt (frA4_0.trans rfl)
        have ttA4_19 : (A4.1 367 19).toInt = (A.1 367 19).toInt := congrArg Int32.toInt (frA4_1.trans (frA3_0.trans (hkA eA2 ek12_3)))
        have ttA4_20 : (A4.1 367 20).toInt = (A.1 367 20).toInt := congrArg Int32.toInt (frA4_2.trans (frA3_1.trans (hkA eA2 ek12_4)))
        have ttA4_31 : (A4.1 367 31).toInt = (A3.1 367 31).toInt := congrArg Int32.toInt (frA4_3.trans rfl)
        have ttA4_37 : (A4.1 367 37).toInt = (A3.1 367 37).toInt := congrArg Int32.toInt (frA4_4.trans rfl)
        have el385_A4 := helE aeA4 el385_A3
        have acc_A4 := hM.tE acc_A3 aeA4
        obtain ⟨fbA4_367_11, fbA4_367_11u⟩ := hA4.f (i := 367) (k := 11) (by rfl)
        obtain ⟨fbA4_367_13, fbA4_367_13u⟩ := hA4.f (i := 367) (k := 13) (by rfl)
        refine hxa_aload_n (by rfl) rfl ?_
        refine hxj_getK (by rfl) (by rfl) (by rfl) rfl ?_
        refine hxj_zle (by rfl) rfl (fun q5 => ?_) (fun q5 => ?_)
        ·
          have nA4_12 : (A4.1 367 12).toInt = (A3.1 367 12).toInt := congrArg Int32.toInt (frA4_0.trans rfl)
          have nA4_37 : (A4.1 367 37).toInt = (A3.1 367 37).toInt := congrArg Int32.toInt (frA4_4.trans rfl)
          have nA4_31 : (A4.1 367 31).toInt = (A3.1 367 31).toInt := congrArg Int32.toInt (frA4_3.trans rfl)
          have mf := acc_A4
          have zf := fA3.2
          have hma := u12_1.step mf (by omega) (by omega)
          have hvr := hVr.ma hv (by omega) (by omega) hma (by omega) (by omega)
          have q3 := (fA3.1).resolve_left (fun z => z (by omega))
          have q0 := Or.resolve_left u12_0 (fun z => z (by omega))
          have e85 := el385_A4
          have s88 : A4.2.1 388 w12_5.toNatClampNeg = A3.2.1 388 w12_5.toNatClampNeg := congrFun (congrFun aeA4 388) _
          have s89 : A4.2.1 389 w12_5.toNatClampNeg = A3.2.1 389 w12_5.toNatClampNeg := congrFun (congrFun aeA4 389) _
          have hn : ∀ i : Nat, x12_2.toInt ≤ (i : Int) → (i : Int) < (A4.1 367 31).toInt → hVc 0 A4 i := by
            intro i h1 h2
            by_cases hi : i = w12_5.toNatClampNeg
            · subst hi
              refine ⟨fun z => absurd (by rw [e85]; decide) z, ?_⟩
              rw [s88, s89]
              exact (q3.2.2.2.2).mv (by omega) (n := (A3.1 367 37).toInt.toNat) (by have := (q3.2.2.2.2).2.1; omega) (hM.tE (hM.refl (A3.1 367 37).toInt.toNat w12_5.toNatClampNeg A3) aeA4) (by omega)
            · exact (q0.2.2.2.2.2 i h1 (by omega)).mv (by omega) (n := (Ac12.1 367 37).toInt.toNat) (by omega) mf hi (by omega)
          refine hxa_aload_n (by rfl) rfl ?_
          refine hxa_get (v := .ref 384) (by rfl) (by rfl) (by rfl) rfl ?_
          refine hxa_iconst (by rfl) rfl ?_
          refine hxa_aload_n (by rfl) rfl ?_
          refine hxj_getK (by rfl) (by rfl) (by rfl) (frA4_1.trans (frA3_0.trans (hkA eA2 ek12_3))) ?_
          refine hxj_imul (by rfl) hk_4 rfl (by omega) (by omega) (fun z6 ez6 => ?_)
          refine hxa_iload_n (by rfl) rfl ?_
          refine hxj_iadd (by rfl) rfl rfl (by omega) (by omega) (fun z7 ez7 => ?_)
          refine hxa_iload_n (by rfl) rfl ?_
          refine hxj_iastE (by rfl) (by rfl) rfl (by omega) (by omega) hA4 (by omega) (hlrA hl rfl (by omega) (by omega) (by omega)) (fun A8 hA8 eA8 fA8 gA8 => ?_)
          refine hxa_aload_n (by rfl) rfl ?_
          refine hxa_get (v := .ref 385) (by rfl) (by rfl) (by rfl) rfl ?_
          refine hxa_iconst (by rfl) rfl ?_
          refine hxa_aload_n (by rfl) rfl ?_
          refine hxj_getK (by rfl) (by rfl) (by rfl) (hkA eA8 (frA4_1.trans (frA3_0.trans (hkA eA2 ek12_3)))) ?_
          refine hxj_imul (by rfl) hk_4 rfl (by omega) (by omega) (fun z9 ez9 => ?_)
          refine hxa_iload_n (by rfl) rfl ?_
          refine hxj_iadd (by rfl) rfl rfl (by omega) (by omega) (fun z10 ez10 => ?_)
          refine hxa_aload_n (by rfl) rfl ?_
          refine hxj_getK (by rfl) (by rfl) (by rfl) (hkA eA8 (frA4_3.trans rfl)) ?_
          refine hxj_iastE (by rfl) (by rfl) rfl (by omega) (by omega) hA8 (by omega) (hlrA hl rfl (by omega) (by omega) (by omega)) (fun A11 hA11 eA11 fA11 gA11 => ?_)
          have nA11_11 : (A11.1 367 11).toInt = (A4.1 367 11).toInt := congrArg Int32.toInt (hkA eA11 (hkA eA8 rfl))
          have nA11_12 : (A11.1 367 12).toInt = (A3.1 367 12).toInt := congrArg Int32.toInt (hkA eA11 (hkA eA8 (frA4_0.trans rfl)))
          have nA11_13 : (A11.1 367 13).toInt = (A4.1 367 13).toInt := congrArg Int32.toInt (hkA eA11 (hkA eA8 rfl))
          have nA11_37 : (A11.1 367 37).toInt = (A3.1 367 37).toInt := congrArg Int32.toInt (hkA eA11 (hkA eA8 (frA4_4.trans rfl)))
          have nA11_31 : (A11.1 367 31).toInt = (A3.1 367 31).toInt := congrArg Int32.toInt (hkA eA11 (hkA eA8 (frA4_3.trans rfl)))
          exact hxa_return (by rfl) rfl (hP _ _ ⟨hA11, (hkA eA11 (hkA eA8 (frA4_1.trans (frA3_0.trans (hkA eA2 ek12_3))))), (hkA eA11 (hkA eA8 (frA4_2.trans (frA3_1.trans (hkA eA2 ek12_4))))), (hafA fA11 (by first | decide | omega) (hafA fA8 (by first | decide | omega) (hafL aeA4 (afA3_376.trans (hafA fA2 (by first | decide | omega) af12_376))))), rfl, ⟨Or.inr ⟨by omega, by omega, by omega, by omega, by omega⟩, by omega, by omega, by omega, by omega, by omega, hVr.put hvr fA8 fA11 eA8 eA11 (by omega) (by omega) (by omega) (by omega) hn⟩⟩)
        ·
          have nA4_12 : (A4.1 367 12).toInt = (A3.1 367 12).toInt := congrArg Int32.toInt (frA4_0.trans rfl)
          have nA4_37 : (A4.1 367 37).toInt = (A3.1 367 37).toInt := congrArg Int32.toInt (frA4_4.trans rfl)
          have nA4_31 : (A4.1 367 31).toInt = (A3.1 367 31).toInt := congrArg Int32.toInt (frA4_3.trans rfl)
          have mf := acc_A4
          have zf := fA3.2
          have hma := u12_1.step mf (by omega) (by omega)
          exact hxa_return (by rfl) rfl (hP _ _ ⟨hA4, (frA4_1.trans (frA3_0.trans (hkA eA2 ek12_3))), (frA4_2.trans (frA3_1.trans (hkA eA2 ek12_4))), (hafL aeA4 (afA3_376.trans (hafA fA2 (by first | decide | omega) af12_376))), rfl, ⟨Or.inl (by omega), by omega, by omega, by omega, by omega, by omega, hVr.ma hv (by omega) (by omega) hma (by omega) (by omega)⟩⟩)
      ·
        refine hxa_aload_n (by rfl) rfl ?_
        refine hxa_bipush (by rfl) rfl ?_
        have nAc12_11 : (Ac12.1 367 11).toInt = w12_0.toInt := congrArg Int32.toInt ek12_0
        have nAc12_12 : (Ac12.1 367 12).toInt = w12_1.toInt := congrArg Int32.toInt ek12_1
        have nAc12_13 : (Ac12.1 367 13).toInt = w12_2.toInt := congrArg Int32.toInt ek12_2
        have nAc12_37 : (Ac12.1 367 37).toInt = w12_6.toInt := congrArg Int32.toInt ek12_6
        refine hxa_call0 (by rfl) (by rfl) (by rfl) (by rfl) (by rfl) (by rfl) (hX144q4 (d := d + 4) hAc12 (Int32.ofNat 28)) ?_
        rintro _ _ ⟨rfl, z12, rfl, fz12⟩
        rcases fz12 with fz12 | fz12
        ·
          refine hxj_zeq (by rfl) rfl (fun q13 => False.elim (by omega)) (fun q13 => ?_)
          refine hxa_iload_n (by rfl) rfl ?_
          refine hxa_iconst (by rfl) rfl ?_
          refine hxj_cne (by rfl) rfl hk_4 (fun q14 => ?_) (fun q14 => ?_)
          ·
            refine hxa_aload_n (by rfl) rfl ?_
            refine hxj_getK (by rfl) (by rfl) (by rfl) ek12_2 ?_
            refine hxj_zle (by rfl) rfl (fun q15 => ?_) (fun q15 => False.elim (by omega))
            refine hxj_iinc (by rfl) rfl rfl hk_1 (by omega) (by omega) (fun _ => rfl) (fun z16 ez16 => ?_)
            refine hxa_aload_n (by rfl) rfl ?_
            refine hxa_call0 (by rfl) (by rfl) (by rfl) (by rfl) (by rfl) (by rfl) (hX147q4 (d := d + 3) hAc12 ) ?_
            rintro _ A17 ⟨hA17, frA17_0, frA17_1, frA17_2, frA17_3, frA17_4, frA17_5, aeA17, rfl, fA17⟩
            have ttA17_12 : (A17.1 367 12).toInt = w12_1.toInt := congrArg Int32.toInt (frA17_0.trans ek12_1)
            have ttA17_19 : (A17.1 367 19).toInt = (A.1 367 19).toInt := congrArg Int32.toInt (frA17_1.trans ek12_3)
            have ttA17_20 : (A17.1 367 20).toInt = (A.1 367 20).toInt := congrArg Int32.toInt (frA17_2.trans ek12_4)
            have ttA17_31 : (A17.1 367 31).toInt = w12_5.toInt := congrArg Int32.toInt (frA17_3.trans ek12_5)
            have ttA17_37 : (A17.1 367 37).toInt = w12_6.toInt := congrArg Int32.toInt (frA17_4.trans ek12_6)
            have acc_A17 := hM.tE (hM.refl (Ac12.1 367 37).toInt.toNat w12_5.toNatClampNeg Ac12) aeA17
            obtain ⟨fbA17_367_11, fbA17_367_11u⟩ := hA17.f (i := 367) (k := 11) (by rfl)
            obtain ⟨fbA17_367_13, fbA17_367_13u⟩ := hA17.f (i := 367) (k := 13) (by rfl)
            refine hxa_aload_n (by rfl) rfl ?_
            refine hxa_get (v := .ref 386) (by rfl) (by rfl) (by rfl) rfl ?_
            refine hxa_aload_n (by rfl) rfl ?_
            refine hxj_getK (by rfl) (by rfl) (by rfl) (frA17_3.trans ek12_5) ?_
            refine hxa_iconst (by rfl) rfl ?_
            refine hxj_zastE (by rfl) (by rfl) rfl (by omega) (by omega) hk_1 (by omega) (by omega) hA17 (by omega) (hlrB hl rfl (by omega) (by omega) (by omega)) (fun A18 hA18 eA18 fA18 gA18 => ?_)
            refine hxa_aload_n (by rfl) rfl ?_
            refine hxa_get (v := .ref 387) (by rfl) (by rfl) (by rfl) rfl ?_
            refine hxa_aload_n (by rfl) rfl ?_
            refine hxj_getK (by rfl) (by rfl) (by rfl) (hkA eA18 (frA17_3.trans ek12_5)) ?_
            refine hxa_aload_n (by rfl) rfl ?_
            refine hxj_getK (by rfl) (by rfl) (by rfl) (hkA eA18 (frA17_4.trans ek12_6)) ?_
            refine hxj_iastE (by rfl) (by rfl) rfl (by omega) (by omega) hA18 (by omega) (hlrB hl rfl (by omega) (by omega) (by omega)) (fun A19 hA19 eA19 fA19 gA19 => ?_)
            refine hxa_aload_n (by rfl) rfl ?_
            have nA19_11 : (A19.1 367 11).toInt = (A17.1 367 11).toInt := congrArg Int32.toInt (hkA eA19 (hkA eA18 rfl))
            have nA19_12 : (A19.1 367 12).toInt = w12_1.toInt := congrArg Int32.toInt (hkA eA19 (hkA eA18 (frA17_0.trans ek12_1)))
            have nA19_13 : (A19.1 367 13).toInt = (A17.1 367 13).toInt := congrArg Int32.toInt (hkA eA19 (hkA eA18 rfl))
            have nA19_37 : (A19.1 367 37).toInt = w12_6.toInt := congrArg Int32.toInt (hkA eA19 (hkA eA18 (frA17_4.trans ek12_6)))
            refine hxa_call0 (by rfl) (by rfl) (by rfl) (by rfl) (by rfl) (by rfl) (hX161q4 (d := d + 1) hA19 (by omega) (by omega) (by omega) (by omega) (by omega)) ?_
            rintro _ A20 ⟨hA20, frA20_0, frA20_1, frA20_2, afA20_376, afA20_385, afA20_386, afA20_387, rfl, fA20⟩
            have ttA20_19 : (A20.1 367 19).toInt = (A.1 367 19).toInt := congrArg Int32.toInt (frA20_0.trans (hkA eA19 (hkA eA18 (frA17_1.trans ek12_3))))
            have ttA20_20 : (A20.1 367 20).toInt = (A.1 367 20).toInt := congrArg Int32.toInt (frA20_1.trans (hkA eA19 (hkA eA18 (frA17_2.trans ek12_4))))
            have ttA20_31 : (A20.1 367 31).toInt = w12_5.toInt := congrArg Int32.toInt (frA20_2.trans (hkA eA19 (hkA eA18 (frA17_3.trans ek12_5))))
            have el385_A20 := helK fA20.2.2.2.2 (by omega) (helA fA19 (by omega) (helS fA18))
            have el386_A20 := helK fA20.2.2.2.2 (by omega) (helS fA19)
            have acc_A20 := hM.tK (hM.tW (hM.tW acc_A17 fA18 rfl (by omega)) fA19 rfl (by omega)) fA20.2.2.2.2 (by omega)
            obtain ⟨fbA20_367_11, fbA20_367_11u⟩ := hA20.f (i := 367) (k := 11) (by rfl)
            obtain ⟨fbA20_367_12, fbA20_367_12u⟩ := hA20.f (i := 367) (k := 12) (by rfl)
            obtain ⟨fbA20_367_13, fbA20_367_13u⟩ := hA20.f (i := 367) (k := 13) (by rfl)
            obtain ⟨fbA20_367_37, fbA20_367_37u⟩ := hA20.f (i := 367) (k := 37) (by rfl)
            refine hxa_aload_n (by rfl) rfl ?_
            refine hxa_bipush (by rfl) rfl ?_
            refine hxa_call0 (by rfl) (by rfl) (by rfl) (by rfl) (by rfl) (by rfl) (hX148q4 (d := d + 2) hA20 (Int32.ofNat 13)) ?_
            rintro _ A21 ⟨hA21, frA21_0, frA21_1, frA21_2, frA21_3, frA21_4, frA21_5, aeA21, rfl, fA21⟩
            have ttA21_12 : (A21.1 367 12).toInt = (A20.1 367 12).toInt := congrArg Int32.toInt (frA21_0.trans rfl)
            have ttA21_19 : (A21.1 367 19).toInt = (A.1 367 19).toInt := congrArg Int32.toInt (frA21_1.trans (frA20_0.trans (hkA eA19 (hkA eA18 (frA17_1.trans ek12_3)))))
            have ttA21_20 : (A21.1 367 20).toInt = (A.1 367 20).toInt := congrArg Int32.toInt (frA21_2.trans (frA20_1.trans (hkA eA19 (hkA eA18 (frA17_2.trans ek12_4)))))
            have ttA21_31 : (A21.1 367 31).toInt = w12_5.toInt := congrArg Int32.toInt (frA21_3.trans (frA20_2.trans (hkA eA19 (hkA eA18 (frA17_3.trans ek12_5)))))
            have ttA21_37 : (A21.1 367 37).toInt = (A20.1 367 37).toInt := congrArg Int32.toInt (frA21_4.trans rfl)
            have el385_A21 := helE aeA21 el385_A20
            have el386_A21 := helE aeA21 el386_A20
            have acc_A21 := hM.tE acc_A20 aeA21
            have accA_A21 := hM.tE (hM.refl (A20.1 367 37).toInt.toNat w12_5.toNatClampNeg A20) aeA21
            obtain ⟨fbA21_367_11, fbA21_367_11u⟩ := hA21.f (i := 367) (k := 11) (by rfl)
            obtain ⟨fbA21_367_13, fbA21_367_13u⟩ := hA21.f (i := 367) (k := 13) (by rfl)
            refine hxa_aload_n (by rfl) rfl ?_
            refine hxa_get (v := .ref 388) (by rfl) (by rfl) (by rfl) rfl ?_
            refine hxa_aload_n (by rfl) rfl ?_
            refine hxj_getK (by rfl) (by rfl) (by rfl) (frA21_3.trans (frA20_2.trans (hkA eA19 (hkA eA18 (frA17_3.trans ek12_5))))) ?_
            refine hxa_aload_n (by rfl) rfl ?_
            refine hxj_getK (by rfl) (by rfl) (by rfl) (frA21_4.trans rfl) ?_
            refine hxj_iastE (by rfl) (by rfl) rfl (by omega) (by omega) hA21 (by omega) (hlrB hl rfl (by omega) (by omega) (by omega)) (fun A22 hA22 eA22 fA22 gA22 => ?_)
            refine hxa_aload_n (by rfl) rfl ?_
            refine hxj_getK (by rfl) (by rfl) (by rfl) (hkA eA22 rfl) ?_
            refine hxj_zne (by rfl) rfl (fun q23 => ?_) (fun q23 => ?_)
            ·
              refine hxa_aload_n (by rfl) rfl ?_
              refine hxa_bipush (by rfl) rfl ?_
              have nA22_11 : (A22.1 367 11).toInt = (A21.1 367 11).toInt := congrArg Int32.toInt (hkA eA22 rfl)
              have nA22_12 : (A22.1 367 12).toInt = (A20.1 367 12).toInt := congrArg Int32.toInt (hkA eA22 (frA21_0.trans rfl))
              have nA22_13 : (A22.1 367 13).toInt = (A21.1 367 13).toInt := congrArg Int32.toInt (hkA eA22 rfl)
              have nA22_37 : (A22.1 367 37).toInt = (A20.1 367 37).toInt := congrArg Int32.toInt (hkA eA22 (frA21_4.trans rfl))
              refine hxa_call0 (by rfl) (by rfl) (by rfl) (by rfl) (by rfl) (by rfl) (hX148q4 (d := d + 2) hA22 (Int32.ofNat 29)) ?_
              rintro _ A24 ⟨hA24, frA24_0, frA24_1, frA24_2, frA24_3, frA24_4, frA24_5, aeA24, rfl, fA24⟩
              have ttA24_12 : (A24.1 367 12).toInt = (A20.1 367 12).toInt := congrArg Int32.toInt (frA24_0.trans (hkA eA22 (frA21_0.trans rfl)))
              have ttA24_19 : (A24.1 367 19).toInt = (A.1 367 19).toInt := congrArg Int32.toInt (frA24_1.trans (hkA eA22 (frA21_1.trans (frA20_0.trans (hkA eA19 (hkA eA18 (frA17_1.trans ek12_3)))))))
              have ttA24_20 : (A24.1 367 20).toInt = (A.1 367 20).toInt := congrArg Int32.toInt (frA24_2.trans (hkA eA22 (frA21_2.trans (frA20_1.trans (hkA eA19 (hkA eA18 (frA17_2.trans ek12_4)))))))
              have ttA24_31 : (A24.1 367 31).toInt = w12_5.toInt := congrArg Int32.toInt (frA24_3.trans (hkA eA22 (frA21_3.trans (frA20_2.trans (hkA eA19 (hkA eA18 (frA17_3.trans ek12_5)))))))
              have ttA24_37 : (A24.1 367 37).toInt = (A20.1 367 37).toInt := congrArg Int32.toInt (frA24_4.trans (hkA eA22 (frA21_4.trans rfl)))
              have el385_A24 := helE aeA24 (helA fA22 (by omega) el385_A21)
              have el386_A24 := helE aeA24 (helA fA22 (by omega) el386_A21)
              have el387_A24 := helE aeA24 (helS fA22)
              have acc_A24 := hM.tE (hM.tW acc_A21 fA22 rfl (by omega)) aeA24
              have accA_A24 := hM.tE (hM.tW accA_A21 fA22 rfl (by omega)) aeA24
              obtain ⟨fbA24_367_11, fbA24_367_11u⟩ := hA24.f (i := 367) (k := 11) (by rfl)
              obtain ⟨fbA24_367_13, fbA24_367_13u⟩ := hA24.f (i := 367) (k := 13) (by rfl)
              refine hxa_aload_n (by rfl) rfl ?_
              have nA24_12 : (A24.1 367 12).toInt = (A20.1 367 12).toInt := congrArg Int32.toInt (frA24_0.trans (hkA eA22 (frA21_0.trans rfl)))
              have nA24_37 : (A24.1 367 37).toInt = (A20.1 367 37).toInt := congrArg Int32.toInt (frA24_4.trans (hkA eA22 (frA21_4.trans rfl)))
              refine hxa_call0 (by rfl) (by rfl) (by rfl) (by rfl) (by rfl) (by rfl) (hX158q4 (d := d + 0) hA24 (by omega) (by omega) (by omega) (by omega) (by omega) (by rw [(show A24.1 367 31 = w12_5 from (frA24_3.trans (hkA eA22 (frA21_3.trans (frA20_2.trans (hkA eA19 (hkA eA18 (frA17_3.trans ek12_5))))))))]; omega) (by rw [(show A24.1 367 31 = w12_5 from (frA24_3.trans (hkA eA22 (frA21_3.trans (frA20_2.trans (hkA eA19 (hkA eA18 (frA17_3.trans ek12_5))))))))]; omega)) ?_
              rintro _ A25 ⟨hA25, frA25_0, frA25_1, afA25_376, afA25_385, afA25_386, afA25_387, rfl, fA25⟩
              have ttA25_19 : (A25.1 367 19).toInt = (A.1 367 19).toInt := congrArg Int32.toInt (frA25_0.trans (frA24_1.trans (hkA eA22 (frA21_1.trans (frA20_0.trans (hkA eA19 (hkA eA18 (frA17_1.trans ek12_3))))))))
              have ttA25_20 : (A25.1 367 20).toInt = (A.1 367 20).toInt := congrArg Int32.toInt (frA25_1.trans (frA24_2.trans (hkA eA22 (frA21_2.trans (frA20_1.trans (hkA eA19 (hkA eA18 (frA17_2.trans ek12_4))))))))
              rw [(show A24.1 367 31 = w12_5 from (frA24_3.trans (hkA eA22 (frA21_3.trans (frA20_2.trans (hkA eA19 (hkA eA18 (frA17_3.trans ek12_5))))))))] at fA25
              have el385_A25 := helX afA25_385 el385_A24
              have el386_A25 := helX afA25_386 el386_A24
              have el387_A25 := helX afA25_387 el387_A24
              have acc_A25 := hM.tM acc_A24 fA25.2.2.2.2.2 (by omega)
              have accA_A25 := hM.tM accA_A24 fA25.2.2.2.2.2 (by omega)
              obtain ⟨fbA25_367_11, fbA25_367_11u⟩ := hA25.f (i := 367) (k := 11) (by rfl)
              obtain ⟨fbA25_367_12, fbA25_367_12u⟩ := hA25.f (i := 367) (k := 12) (by rfl)
              obtain ⟨fbA25_367_13, fbA25_367_13u⟩ := hA25.f (i := 367) (k := 13) (by rfl)
              obtain ⟨fbA25_367_37, fbA25_367_37u⟩ := hA25.f (i := 367) (k := 37) (by rfl)
              obtain ⟨fbA25_367_31, fbA25_367_31u⟩ := hA25.f (i := 367) (k := 31) (by rfl)
              refine hxa_aload_n (by rfl) rfl ?_
              refine hxa_bipush (by rfl) rfl ?_
              refine hxa_call0 (by rfl) (by rfl) (by rfl) (by rfl) (by rfl) (by rfl) (hX148q4 (d := d + 2) hA25 (Int32.ofNat 30)) ?_
              rintro _ A26 ⟨hA26, frA26_0, frA26_1, frA26_2, frA26_3, frA26_4, frA26_5, aeA26, rfl, fA26⟩
              have ttA26_12 : (A26.1 367 12).toInt = (A25.1 367 12).toInt := congrArg Int32.toInt (frA26_0.trans rfl)
              have ttA26_19 : (A26.1 367 19).toInt = (A.1 367 19).toInt := congrArg Int32.toInt (frA26_1.trans (frA25_0.trans (frA24_1.trans (hkA eA22 (frA21_1.trans (frA20_0.trans (hkA eA19 (hkA eA18 (frA17_1.trans ek12_3)))))))))
              have ttA26_20 : (A26.1 367 20).toInt = (A.1 367 20).toInt := congrArg Int32.toInt (frA26_2.trans (frA25_1.trans (frA24_2.trans (hkA eA22 (frA21_2.trans (frA20_1.trans (hkA eA19 (hkA eA18 (frA17_2.trans ek12_4)))))))))
              have ttA26_31 : (A26.1 367 31).toInt = (A25.1 367 31).toInt := congrArg Int32.toInt (frA26_3.trans rfl)
              have ttA26_37 : (A26.1 367 37).toInt = (A25.1 367 37).toInt := congrArg Int32.toInt (frA26_4.trans rfl)
              have el385_A26 := helE aeA26 el385_A25
              have el386_A26 := helE aeA26 el386_A25
              have el387_A26 := helE aeA26 el387_A25
              have acc_A26 := hM.tE acc_A25 aeA26
              have accA_A26 := hM.tE accA_A25 aeA26
              obtain ⟨fbA26_367_11, fbA26_367_11u⟩ := hA26.f (i := 367) (k := 11) (by rfl)
              obtain ⟨fbA26_367_13, fbA26_367_13u⟩ := hA26.f (i := 367) (k := 13) (by rfl)
              have nA26_12 : (A26.1 367 12).toInt = (A25.1 367 12).toInt := congrArg Int32.toInt (frA26_0.trans rfl)
              have nA26_37 : (A26.1 367 37).toInt = (A25.1 367 37).toInt := congrArg Int32.toInt (frA26_4.trans rfl)
              have nA26_31 : (A26.1 367 31).toInt = (A25.1 367 31).toInt := congrArg Int32.toInt (frA26_3.trans rfl)
              have mj27 := acc_A26
              have zj27 := fA25.2
              have yj27 := fA20.2
              have j27 : ¬ (A26.1 367 13).toInt = 0 ∨ ((A.1 367 13).toInt = 0 ∧ 4 * ((A26.1 367 31).toInt - 0) + 2 ≤ (A26.1 367 11).toInt ∧ (A26.1 367 37).toInt ≤ 0 + (A26.1 367 11).toInt ∧ (A26.1 367 12).toInt = (A.1 367 12).toInt ∧ (A.1 367 11).toInt + 1 ≤ (A26.1 367 11).toInt ∧ ∀ i : Nat, x12_2.toInt ≤ (i : Int) → (i : Int) < (A26.1 367 31).toInt → hVc 0 A26 i) := by
                by_cases h9 : (A26.1 367 13).toInt = 0
                · exact False.elim (by omega)
                · exact Or.inl h9
              refine hxa_goto (by rfl) ?_
              exact ih12 (A26.1 367 11) (A25.1 367 12) (A26.1 367 13) (A25.1 367 31) (A25.1 367 37) x12_2 z16 A26 hA26 rfl (frA26_0.trans rfl) rfl (frA26_1.trans (frA25_0.trans (frA24_1.trans (hkA eA22 (frA21_1.trans (frA20_0.trans (hkA eA19 (hkA eA18 (frA17_1.trans ek12_3))))))))) (frA26_2.trans (frA25_1.trans (frA24_2.trans (hkA eA22 (frA21_2.trans (frA20_1.trans (hkA eA19 (hkA eA18 (frA17_2.trans ek12_4))))))))) (frA26_3.trans rfl) (frA26_4.trans rfl) (hafL aeA26 (afA25_376.trans (hafL aeA24 (hafA fA22 (by first | decide | omega) (hafL aeA21 (afA20_376.trans (hafA fA19 (by first | decide | omega) (hafA fA18 (by first | decide | omega) (hafL aeA17 af12_376))))))))) (by first | assumption | omega) (by first | assumption | omega) (by first | assumption | omega) (by first | assumption | omega) (by first | assumption | omega) (by first | assumption | omega) (by first | assumption | omega) (by first | assumption | omega) (by first | assumption | omega) (by first | assumption | omega) (by first | assumption | omega) (by first | assumption | omega) (by first | assumption | omega) (by first | assumption | omega) (by exact j27) (by exact (u12_1.step mj27 (by first | assumption | omega) (by first | assumption | omega))) (by first | assumption | omega) (by first | assumption | omega)
            ·
              refine hxa_aload_n (by rfl) rfl ?_
              have nA22_11 : (A22.1 367 11).toInt = (A21.1 367 11).toInt := congrArg Int32.toInt (hkA eA22 rfl)
              have nA22_12 : (A22.1 367 12).toInt = (A20.1 367 12).toInt := congrArg Int32.toInt (hkA eA22 (frA21_0.trans rfl))
              have nA22_13 : (A22.1 367 13).toInt = (A21.1 367 13).toInt := congrArg Int32.toInt (hkA eA22 rfl)
              have nA22_37 : (A22.1 367 37).toInt = (A20.1 367 37).toInt := congrArg Int32.toInt (hkA eA22 (frA21_4.trans rfl))
              refine hxa_call0 (by rfl) (by rfl) (by rfl) (by rfl) (by rfl) (by rfl) (hX161q4 (d := d + 1) hA22 (by omega) (by omega) (by omega) (by omega) (by omega)) ?_
              rintro _ A28 ⟨hA28, frA28_0, frA28_1, frA28_2, afA28_376, afA28_385, afA28_386, afA28_387, rfl, fA28⟩
              have ttA28_19 : (A28.1 367 19).toInt = (A.1 367 19).toInt := congrArg Int32.toInt (frA28_0.trans (hkA eA22 (frA21_1.trans (frA20_0.trans (hkA eA19 (hkA eA18 (frA17_1.trans ek12_3)))))))
              have ttA28_20 : (A28.1 367 20).toInt = (A.1 367 20).toInt := congrArg Int32.toInt (frA28_1.trans (hkA eA22 (frA21_2.trans (frA20_1.trans (hkA eA19 (hkA eA18 (frA17_2.trans ek12_4)))))))
              have ttA28_31 : (A28.1 367 31).toInt = w12_5.toInt := congrArg Int32.toInt (frA28_2.trans (hkA eA22 (frA21_3.trans (frA20_2.trans (hkA eA19 (hkA eA18 (frA17_3.trans ek12_5)))))))
              have el385_A28 := helK fA28.2.2.2.2 (by omega) (helA fA22 (by omega) el385_A21)
              have el386_A28 := helK fA28.2.2.2.2 (by omega) (helA fA22 (by omega) el386_A21)
              have el387_A28 := helK fA28.2.2.2.2 (by omega) (helS fA22)
              have acc_A28 := hM.tK (hM.tW acc_A21 fA22 rfl (by omega)) fA28.2.2.2.2 (by omega)
              have accA_A28 := hM.tK (hM.tW accA_A21 fA22 rfl (by omega)) fA28.2.2.2.2 (by omega)
              obtain ⟨fbA28_367_11, fbA28_367_11u⟩ := hA28.f (i := 367) (k := 11) (by rfl)
              obtain ⟨fbA28_367_12, fbA28_367_12u⟩ := hA28.f (i := 367) (k := 12) (by rfl)
              obtain ⟨fbA28_367_13, fbA28_367_13u⟩ := hA28.f (i := 367) (k := 13) (by rfl)
              obtain ⟨fbA28_367_37, fbA28_367_37u⟩ := hA28.f (i := 367) (k := 37) (by rfl)
              refine hxa_aload_n (by rfl) rfl ?_
              refine hxa_bipush (by rfl) rfl ?_
              refine hxa_call0 (by rfl) (by rfl) (by rfl) (by rfl) (by rfl) (by rfl) (hX148q4 (d := d + 2) hA28 (Int32.ofNat 29)) ?_
              rintro _ A29 ⟨hA29, frA29_0, frA29_1, frA29_2, frA29_3, frA29_4, frA29_5, aeA29, rfl, fA29⟩
              have ttA29_12 : (A29.1 367 12).toInt = (A28.1 367 12).toInt := congrArg Int32.toInt (frA29_0.trans rfl)
              have ttA29_19 : (A29.1 367 19).toInt = (A.1 367 19).toInt := congrArg Int32.toInt (frA29_1.trans (frA28_0.trans (hkA eA22 (frA21_1.trans (frA20_0.trans (hkA eA19 (hkA eA18 (frA17_1.trans ek12_3))))))))
              have ttA29_20 : (A29.1 367 20).toInt = (A.1 367 20).toInt := congrArg Int32.toInt (frA29_2.trans (frA28_1.trans (hkA eA22 (frA21_2.trans (frA20_1.trans (hkA eA19 (hkA eA18 (frA17_2.trans ek12_4))))))))
              have ttA29_31 : (A29.1 367 31).toInt = w12_5.toInt := congrArg Int32.toInt (frA29_3.trans (frA28_2.trans (hkA eA22 (frA21_3.trans (frA20_2.trans (hkA eA19 (hkA eA18 (frA17_3.trans ek12_5))))))))
              have ttA29_37 : (A29.1 367 37).toInt = (A28.1 367 37).toInt := congrArg Int32.toInt (frA29_4.trans rfl)
              have el385_A29 := helE aeA29 el385_A28
              have el386_A29 := helE aeA29 el386_A28
              have el387_A29 := helE aeA29 el387_A28
              have acc_A29 := hM.tE acc_A28 aeA29
              have accA_A29 := hM.tE accA_A28 aeA29
              have accB_A29 := hM.tE (hM.refl (A28.1 367 37).toInt.toNat w12_5.toNatClampNeg A28) aeA29
              obtain ⟨fbA29_367_11, fbA29_367_11u⟩ := hA29.f (i := 367) (k := 11) (by rfl)
              obtain ⟨fbA29_367_13, fbA29_367_13u⟩ := hA29.f (i := 367) (k := 13) (by rfl)
              refine hxa_aload_n (by rfl) rfl ?_
              have nA29_12 : (A29.1 367 12).toInt = (A28.1 367 12).toInt := congrArg Int32.toInt (frA29_0.trans rfl)
              have nA29_37 : (A29.1 367 37).toInt = (A28.1 367 37).toInt := congrArg Int32.toInt (frA29_4.trans rfl)
              refine hxa_call0 (by rfl) (by rfl) (by rfl) (by rfl) (by rfl) (by rfl) (hX158q4 (d := d + 0) hA29 (by omega) (by omega) (by omega) (by omega) (by omega) (by rw [(show A29.1 367 31 = w12_5 from (frA29_3.trans (frA28_2.trans (hkA eA22 (frA21_3.trans (frA20_2.trans (hkA eA19 (hkA eA18 (frA17_3.trans ek12_5)))))))))]; omega) (by rw [(show A29.1 367 31 = w12_5 from (frA29_3.trans (frA28_2.trans (hkA eA22 (frA21_3.trans (frA20_2.trans (hkA eA19 (hkA eA18 (frA17_3.trans ek12_5)))))))))]; omega)) ?_
              rintro _ A30 ⟨hA30, frA30_0, frA30_1, afA30_376, afA30_385, afA30_386, afA30_387, rfl, fA30⟩
              have ttA30_19 : (A30.1 367 19).toInt = (A.1 367 19).toInt := congrArg Int32.toInt (frA30_0.trans (frA29_1.trans (frA28_0.trans (hkA eA22 (frA21_1.trans (frA20_0.trans (hkA eA19 (hkA eA18 (frA17_1.trans ek12_3)))))))))
              have ttA30_20 : (A30.1 367 20).toInt = (A.1 367 20).toInt := congrArg Int32.toInt (frA30_1.trans (frA29_2.trans (frA28_1.trans (hkA eA22 (frA21_2.trans (frA20_1.trans (hkA eA19 (hkA eA18 (frA17_2.trans ek12_4)))))))))
              rw [(show A29.1 367 31 = w12_5 from (frA29_3.trans (frA28_2.trans (hkA eA22 (frA21_3.trans (frA20_2.trans (hkA eA19 (hkA eA18 (frA17_3.trans ek12_5)))))))))] at fA30
              have el385_A30 := helX afA30_385 el385_A29
              have el386_A30 := helX afA30_386 el386_A29
              have el387_A30 := helX afA30_387 el387_A29
              have acc_A30 := hM.tM acc_A29 fA30.2.2.2.2.2 (by omega)
              have accA_A30 := hM.tM accA_A29 fA30.2.2.2.2.2 (by omega)
              have accB_A30 := hM.tM accB_A29 fA30.2.2.2.2.2 (by omega)
              obtain ⟨fbA30_367_11, fbA30_367_11u⟩ := hA30.f (i := 367) (k := 11) (by rfl)
              obtain ⟨fbA30_367_12, fbA30_367_12u⟩ := hA30.f (i := 367) (k := 12) (by rfl)
              obtain ⟨fbA30_367_13, fbA30_367_13u⟩ := hA30.f (i := 367) (k := 13) (by rfl)
              obtain ⟨fbA30_367_37, fbA30_367_37u⟩ := hA30.f (i := 367) (k := 37) (by rfl)
              obtain ⟨fbA30_367_31, fbA30_367_31u⟩ := hA30.f (i := 367) (k := 31) (by rfl)
              refine hxa_aload_n (by rfl) rfl ?_
              refine hxa_bipush (by rfl) rfl ?_
              refine hxa_call0 (by rfl) (by rfl) (by rfl) (by rfl) (by rfl) (by rfl) (hX148q4 (d := d + 2) hA30 (Int32.ofNat 30)) ?_
              rintro _ A31 ⟨hA31, frA31_0, frA31_1, frA31_2, frA31_3, frA31_4, frA31_5, aeA31, rfl, fA31⟩
              have ttA31_12 : (A31.1 367 12).toInt = (A30.1 367 12).toInt := congrArg Int32.toInt (frA31_0.trans rfl)
              have ttA31_19 : (A31.1 367 19).toInt = (A.1 367 19).toInt := congrArg Int32.toInt (frA31_1.trans (frA30_0.trans (frA29_1.trans (frA28_0.trans (hkA eA22 (frA21_1.trans (frA20_0.trans (hkA eA19 (hkA eA18 (frA17_1.trans ek12_3))))))))))
              have ttA31_20 : (A31.1 367 20).toInt = (A.1 367 20).toInt := congrArg Int32.toInt (frA31_2.trans (frA30_1.trans (frA29_2.trans (frA28_1.trans (hkA eA22 (frA21_2.trans (frA20_1.trans (hkA eA19 (hkA eA18 (frA17_2.trans ek12_4))))))))))
              have ttA31_31 : (A31.1 367 31).toInt = (A30.1 367 31).toInt := congrArg Int32.toInt (frA31_3.trans rfl)
              have ttA31_37 : (A31.1 367 37).toInt = (A30.1 367 37).toInt := congrArg Int32.toInt (frA31_4.trans rfl)
              have el385_A31 := helE aeA31 el385_A30
              have el386_A31 := helE aeA31 el386_A30
              have el387_A31 := helE aeA31 el387_A30
              have acc_A31 := hM.tE acc_A30 aeA31
              have accA_A31 := hM.tE accA_A30 aeA31
              have accB_A31 := hM.tE accB_A30 aeA31
              obtain ⟨fbA31_367_11, fbA31_367_11u⟩ := hA31.f (i := 367) (k := 11) (by rfl)
              obtain ⟨fbA31_367_13, fbA31_367_13u⟩ := hA31.f (i := 367) (k := 13) (by rfl)
              have nA31_12 : (A31.1 367 12).toInt = (A30.1 367 12).toInt := congrArg Int32.toInt (frA31_0.trans rfl)
              have nA31_37 : (A31.1 367 37).toInt = (A30.1 367 37).toInt := congrArg Int32.toInt (frA31_4.trans rfl)
              have nA31_31 : (A31.1 367 31).toInt = (A30.1 367 31).toInt := congrArg Int32.toInt (frA31_3.trans rfl)
              have mj32 := acc_A31
              have zj32 := fA30.2
              have yj32 := fA20.2
              have vj32 := fA28.2
              have j32 : ¬ (A31.1 367 13).toInt = 0 ∨ ((A.1 367 13).toInt = 0 ∧ 4 * ((A31.1 367 31).toInt - 0) + 2 ≤ (A31.1 367 11).toInt ∧ (A31.1 367 37).toInt ≤ 0 + (A31.1 367 11).toInt ∧ (A31.1 367 12).toInt = (A.1 367 12).toInt ∧ (A.1 367 11).toInt + 1 ≤ (A31.1 367 11).toInt ∧ ∀ i : Nat, x12_2.toInt ≤ (i : Int) → (i : Int) < (A31.1 367 31).toInt → hVc 0 A31 i) := by
                by_cases h9 : (A31.1 367 13).toInt = 0
                · have q3 := (fA30.1).resolve_left (fun z => z (by omega))
                  have q2 := (fA28.1).resolve_left (fun z => z (by omega))
                  have q1 := (fA20.1).resolve_left (fun z => z (by omega))
                  have q0 := Or.resolve_left u12_0 (fun z => z (by omega))
                  have e5 := el386_A31
                  have e6 := el387_A31
                  have tA := accA_A31
                  have tB := accB_A31
                  have tC := hM.tE (hM.refl (A30.1 367 37).toInt.toNat w12_5.toNatClampNeg A30) aeA31
                  have s88 : A31.2.1 388 w12_5.toNatClampNeg = A30.2.1 388 w12_5.toNatClampNeg := congrFun (congrFun aeA31 388) _
                  have s89 : A31.2.1 389 w12_5.toNatClampNeg = A30.2.1 389 w12_5.toNatClampNeg := congrFun (congrFun aeA31 389) _
                  refine Or.inr ⟨by omega, by omega, by omega, by omega, by omega, fun i h1 h2 => ?_⟩
                  by_cases hi : i = w12_5.toNatClampNeg
                  · subst hi
                    have sC := (q3.2.2.2.2).mv (by omega) (n := (A30.1 367 37).toInt.toNat) (by have := (q3.2.2.2.2).2.1; omega) tC (by omega)
                    have sA : hSg 0 A20 w12_6 (A20.1 367 37) := hSg.of (by omega) rfl rfl (by omega) (by omega) rfl (by have z := q1.2.2.2.2; rw [nA19_37] at z; exact z)
                    have sB : hSg 0 A28 (A20.1 367 37) (A28.1 367 37) := hSg.of (by omega) rfl rfl (by omega) (by omega) rfl (by have z := q2.2.2.2.2; rw [nA22_37] at z; exact z)
                    have sA2 := sA.mv (by omega) (n := (A20.1 367 37).toInt.toNat) (by omega) tA (by omega)
                    have sB2 := sB.mv (by omega) (n := (A28.1 367 37).toInt.toNat) (by omega) tB (by omega)
                    refine ⟨fun _ => ⟨?_, ?_⟩, ?_⟩
                    · rw [e5, e6]
                      exact sA2
                    · rw [e6]
                      exact sB2.eq rfl (by rw [s88]; omega)
                    · rw [s88, s89]
                      exact sC
                  · exact (q0.2.2.2.2.2 i h1 (by omega)).mv (by omega) (n := (Ac12.1 367 37).toInt.toNat) (by omega) mj32 hi (by omega)
                · exact Or.inl h9
              refine hxa_goto (by rfl) ?_
              exact ih12 (A31.1 367 11) (A30.1 367 12) (A31.1 367 13) (A30.1 367 31) (A30.1 367 37) x12_2 z16 A31 hA31 rfl (frA31_0.trans rfl) rfl (frA31_1.trans (frA30_0.trans (frA29_1.trans (frA28_0.trans (hkA eA22 (frA21_1.trans (frA20_0.trans (hkA eA19 (hkA eA18 (frA17_1.trans ek12_3)))))))))) (frA31_2.trans (frA30_1.trans (frA29_2.trans (frA28_1.trans (hkA eA22 (frA21_2.trans (frA20_1.trans (hkA eA19 (hkA eA18 (frA17_2.trans ek12_4)))))))))) (frA31_3.trans rfl) (frA31_4.trans rfl) (hafL aeA31 (afA30_376.trans (hafL aeA29 (afA28_376.trans (hafA fA22 (by first | decide | omega) (hafL aeA21 (afA20_376.trans (hafA fA19 (by first | decide | omega) (hafA fA18 (by first | decide | omega) (hafL aeA17 af12_376)))))))))) (by first | assumption | omega) (by first | assumption | omega) (by first | assumption | omega) (by first | assumption | omega) (by first | assumption | omega) (by first | assumption | omega) (by first | assumption | omega) (by first | assumption | omega) (by first | assumption | omega) (by first | assumption | omega) (by first | assumption | omega) (by first | assumption | omega) (by first | assumption | omega) (by first | assumption | omega) (by exact j32) (by exact (u12_1.step mj32 (by first | assumption | omega) (by first | assumption | omega))) (by first | assumption | omega) (by first | assumption | omega)
          ·
            refine hxa_aload_n (by rfl) rfl ?_
            refine hxa_iconst (by rfl) rfl ?_
            refine hxa_call0 (by rfl) (by rfl) (by rfl) (by rfl) (by rfl) (by rfl) (hX145q4 (d := d + 4) hAc12 (Int32.ofNat 2) (by omega) (by omega)) ?_
            rintro _ A33 ⟨hA33, frA33_0, frA33_1, frA33_2, frA33_3, frA33_4, frA33_5, aeA33, rfl, fA33⟩
            have ttA33_12 : (A33.1 367 12).toInt = w12_1.toInt := congrArg Int32.toInt (frA33_0.trans ek12_1)
            have ttA33_19 : (A33.1 367 19).toInt = (A.1 367 19).toInt := congrArg Int32.toInt (frA33_1.trans ek12_3)
            have ttA33_20 : (A33.1 367 20).toInt = (A.1 367 20).toInt := congrArg Int32.toInt (frA33_2.trans ek12_4)
            have ttA33_31 : (A33.1 367 31).toInt = w12_5.toInt := congrArg Int32.toInt (frA33_3.trans ek12_5)
            have ttA33_37 : (A33.1 367 37).toInt = w12_6.toInt := congrArg Int32.toInt (frA33_4.trans ek12_6)
            have acc_A33 := hM.tE (hM.refl (Ac12.1 367 37).toInt.toNat w12_5.toNatClampNeg Ac12) aeA33
            obtain ⟨fbA33_367_11, fbA33_367_11u⟩ := hA33.f (i := 367) (k := 11) (by rfl)
            obtain ⟨fbA33_367_13, fbA33_367_13u⟩ := hA33.f (i := 367) (k := 13) (by rfl)
            refine hxa_aload_n (by rfl) rfl ?_
            refine hxj_getK (by rfl) (by rfl) (by rfl) rfl ?_
            refine hxj_zle (by rfl) rfl (fun q34 => False.elim (by omega)) (fun q34 => ?_)
            have nA33_12 : (A33.1 367 12).toInt = w12_1.toInt := congrArg Int32.toInt (frA33_0.trans ek12_1)
            have nA33_37 : (A33.1 367 37).toInt = w12_6.toInt := congrArg Int32.toInt (frA33_4.trans ek12_6)
            have nA33_31 : (A33.1 367 31).toInt = w12_5.toInt := congrArg Int32.toInt (frA33_3.trans ek12_5)
            exact hxa_return (by rfl) rfl (hP _ _ ⟨hA33, (frA33_1.trans ek12_3), (frA33_2.trans ek12_4), (hafL aeA33 af12_376), rfl, ⟨Or.inl (by omega), by omega, by omega, by omega, by omega, by omega, hVr.ma hv (by omega) (by omega) (hMa.step u12_1 acc_A33 (by omega) (by omega)) (by omega) (by omega)⟩⟩)
        ·
          refine hxj_zeq (by rfl) rfl (fun q35 => ?_) (fun q35 => False.elim (by omega))
          refine hxa_aload_n (by rfl) rfl ?_
          refine hxa_get (v := .ref 386) (by rfl) (by rfl) (by rfl) rfl ?_
          refine hxa_aload_n (by rfl) rfl ?_
          refine hxj_getK (by rfl) (by rfl) (by rfl) ek12_5 ?_
          refine hxa_iconst (by rfl) rfl ?_
          refine hxj_zastE (by rfl) (by rfl) rfl (by omega) (by omega) hk_0 (by omega) (by omega) hAc12 (by omega) (hlrB hl rfl (by omega) (by omega) (by omega)) (fun A36 hA36 eA36 fA36 gA36 => ?_)
          refine hxa_aload_n (by rfl) rfl ?_
          have nA36_11 : (A36.1 367 11).toInt = w12_0.toInt := congrArg Int32.toInt (hkA eA36 ek12_0)
          have nA36_12 : (A36.1 367 12).toInt = w12_1.toInt := congrArg Int32.toInt (hkA eA36 ek12_1)
          have nA36_13 : (A36.1 367 13).toInt = w12_2.toInt := congrArg Int32.toInt (hkA eA36 ek12_2)
          have nA36_37 : (A36.1 367 37).toInt = w12_6.toInt := congrArg Int32.toInt (hkA eA36 ek12_6)
          refine hxa_call0 (by rfl) (by rfl) (by rfl) (by rfl) (by rfl) (by rfl) (hX158q4 (d := d + 0) hA36 (by omega) (by omega) (by omega) (by omega) (by omega) (by rw [(show A36.1 367 31 = w12_5 from (hkA eA36 ek12_5))]; omega) (by rw [(show A36.1 367 31 = w12_5 from (hkA eA36 ek12_5))]; omega)) ?_
          rintro _ A37 ⟨hA37, frA37_0, frA37_1, afA37_376, afA37_385, afA37_386, afA37_387, rfl, fA37⟩
          have ttA37_19 : (A37.1 367 19).toInt = (A.1 367 19).toInt := congrArg Int32.toInt (frA37_0.trans (hkA eA36 ek12_3))
          have ttA37_20 : (A37.1 367 20).toInt = (A.1 367 20).toInt := congrArg Int32.toInt (frA37_1.trans (hkA eA36 ek12_4))
          rw [(show A36.1 367 31 = w12_5 from (hkA eA36 ek12_5))] at fA37
          have el385_A37 := helX afA37_385 (helS fA36)
          have acc_A37 := hM.tM (hM.tW (hM.refl (Ac12.1 367 37).toInt.toNat w12_5.toNatClampNeg Ac12) fA36 rfl (by omega)) fA37.2.2.2.2.2 (by omega)
          obtain ⟨fbA37_367_11, fbA37_367_11u⟩ := hA37.f (i := 367) (k := 11) (by rfl)
          obtain ⟨fbA37_367_12, fbA37_367_12u⟩ := hA37.f (i := 367) (k := 12) (by rfl)
          obtain ⟨fbA37_367_13, fbA37_367_13u⟩ := hA37.f (i := 367) (k := 13) (by rfl)
          obtain ⟨fbA37_367_37, fbA37_367_37u⟩ := hA37.f (i := 367) (k := 37) (by rfl)
          obtain ⟨fbA37_367_31, fbA37_367_31u⟩ := hA37.f (i := 367) (k := 31) (by rfl)
          refine hxa_aload_n (by rfl) rfl ?_
          refine hxa_iconst (by rfl) rfl ?_
          refine hxa_call0 (by rfl) (by rfl) (by rfl) (by rfl) (by rfl) (by rfl) (hX148q4 (d := d + 2) hA37 (Int32.ofNat 4)) ?_
          rintro _ A38 ⟨hA38, frA38_0, frA38_1, frA38_2, frA38_3, frA38_4, frA38_5, aeA38, rfl, fA38⟩
          have ttA38_12 : (A38.1 367 12).toInt = (A37.1 367 12).toInt := congrArg Int32.toInt (frA38_0.trans rfl)
          have ttA38_19 : (A38.1 367 19).toInt = (A.1 367 19).toInt := congrArg Int32.toInt (frA38_1.trans (frA37_0.trans (hkA eA36 ek12_3)))
          have ttA38_20 : (A38.1 367 20).toInt = (A.1 367 20).toInt := congrArg Int32.toInt (frA38_2.trans (frA37_1.trans (hkA eA36 ek12_4)))
          have ttA38_31 : (A38.1 367 31).toInt = (A37.1 367 31).toInt := congrArg Int32.toInt (frA38_3.trans rfl)
          have ttA38_37 : (A38.1 367 37).toInt = (A37.1 367 37).toInt := congrArg Int32.toInt (frA38_4.trans rfl)
          have el385_A38 := helE aeA38 el385_A37
          have acc_A38 := hM.tE acc_A37 aeA38
          obtain ⟨fbA38_367_11, fbA38_367_11u⟩ := hA38.f (i := 367) (k := 11) (by rfl)
          obtain ⟨fbA38_367_13, fbA38_367_13u⟩ := hA38.f (i := 367) (k := 13) (by rfl)
          refine hxa_aload_n (by rfl) rfl ?_
          refine hxj_getK (by rfl) (by rfl) (by rfl) rfl ?_
          refine hxj_zle (by rfl) rfl (fun q39 => ?_) (fun q39 => ?_)
          ·
            have nA38_12 : (A38.1 367 12).toInt = (A37.1 367 12).toInt := congrArg Int32.toInt (frA38_0.trans rfl)
            have nA38_37 : (A38.1 367 37).toInt = (A37.1 367 37).toInt := congrArg Int32.toInt (frA38_4.trans rfl)
            have nA38_31 : (A38.1 367 31).toInt = (A37.1 367 31).toInt := congrArg Int32.toInt (frA38_3.trans rfl)
            have mf := acc_A38
            have zf := fA37.2
            have hma := u12_1.step mf (by omega) (by omega)
            have hvr := hVr.ma hv (by omega) (by omega) hma (by omega) (by omega)
            have q3 := (fA37.1).resolve_left (fun z => z (by omega))
            have q0 := Or.resolve_left u12_0 (fun z => z (by omega))
            have e85 := el385_A38
            have s88 : A38.2.1 388 w12_5.toNatClampNeg = A37.2.1 388 w12_5.toNatClampNeg := congrFun (congrFun aeA38 388) _
            have s89 : A38.2.1 389 w12_5.toNatClampNeg = A37.2.1 389 w12_5.toNatClampNeg := congrFun (congrFun aeA38 389) _
            have hn : ∀ i : Nat, x12_2.toInt ≤ (i : Int) → (i : Int) < (A38.1 367 31).toInt → hVc 0 A38 i := by
              intro i h1 h2
              by_cases hi : i = w12_5.toNatClampNeg
              · subst hi
                refine ⟨fun z => absurd (by rw [e85]; decide) z, ?_⟩
                rw [s88, s89]
                exact (q3.2.2.2.2).mv (by omega) (n := (A37.1 367 37).toInt.toNat) (by have := (q3.2.2.2.2).2.1; omega) (hM.tE (hM.refl (A37.1 367 37).toInt.toNat w12_5.toNatClampNeg A37) aeA38) (by omega)
              · exact (q0.2.2.2.2.2 i h1 (by omega)).mv (by omega) (n := (Ac12.1 367 37).toInt.toNat) (by omega) mf hi (by omega)
            refine hxa_aload_n (by rfl) rfl ?_
            refine hxa_get (v := .ref 384) (by rfl) (by rfl) (by rfl) rfl ?_
            refine hxa_iconst (by rfl) rfl ?_
            refine hxa_aload_n (by rfl) rfl ?_
            refine hxj_getK (by rfl) (by rfl) (by rfl) (frA38_1.trans (frA37_0.trans (hkA eA36 ek12_3))) ?_
            refine hxj_imul (by rfl) hk_4 rfl (by omega) (by omega) (fun z40 ez40 => ?_)
            refine hxa_iload_n (by rfl) rfl ?_
            refine hxj_iadd (by rfl) rfl rfl (by omega) (by omega) (fun z41 ez41 => ?_)
            refine hxa_iload_n (by rfl) rfl ?_
            refine hxj_iastE (by rfl) (by rfl) rfl (by omega) (by omega) hA38 (by omega) (hlrA hl rfl (by omega) (by omega) (by omega)) (fun A42 hA42 eA42 fA42 gA42 => ?_)
            refine hxa_aload_n (by rfl) rfl ?_
            refine hxa_get (v := .ref 385) (by rfl) (by rfl) (by rfl) rfl ?_
            refine hxa_iconst (by rfl) rfl ?_
            refine hxa_aload_n (by rfl) rfl ?_
            refine hxj_getK (by rfl) (by rfl) (by rfl) (hkA eA42 (frA38_1.trans (frA37_0.trans (hkA eA36 ek12_3)))) ?_
            refine hxj_imul (by rfl) hk_4 rfl (by omega) (by omega) (fun z43 ez43 => ?_)
            refine hxa_iload_n (by rfl) rfl ?_
            refine hxj_iadd (by rfl) rfl rfl (by omega) (by omega) (fun z44 ez44 => ?_)
            refine hxa_aload_n (by rfl) rfl ?_
            refine hxj_getK (by rfl) (by rfl) (by rfl) (hkA eA42 (frA38_3.trans rfl)) ?_
            refine hxj_iastE (by rfl) (by rfl) rfl (by omega) (by omega) hA42 (by omega) (hlrA hl rfl (by omega) (by omega) (by omega)) (fun A45 hA45 eA45 fA45 gA45 => ?_)
            have nA45_11 : (A45.1 367 11).toInt = (A38.1 367 11).toInt := congrArg Int32.toInt (hkA eA45 (hkA eA42 rfl))
            have nA45_12 : (A45.1 367 12).toInt = (A37.1 367 12).toInt := congrArg Int32.toInt (hkA eA45 (hkA eA42 (frA38_0.trans rfl)))
            have nA45_13 : (A45.1 367 13).toInt = (A38.1 367 13).toInt := congrArg Int32.toInt (hkA eA45 (hkA eA42 rfl))
            have nA45_37 : (A45.1 367 37).toInt = (A37.1 367 37).toInt := congrArg Int32.toInt (hkA eA45 (hkA eA42 (frA38_4.trans rfl)))
            have nA45_31 : (A45.1 367 31).toInt = (A37.1 367 31).toInt := congrArg Int32.toInt (hkA eA45 (hkA eA42 (frA38_3.trans rfl)))
            exact hxa_return (by rfl) rfl (hP _ _ ⟨hA45, (hkA eA45 (hkA eA42 (frA38_1.trans (frA37_0.trans (hkA eA36 ek12_3))))), (hkA eA45 (hkA eA42 (frA38_2.trans (frA37_1.trans (hkA eA36 ek12_4))))), (hafA fA45 (by first | decide | omega) (hafA fA42 (by first | decide | omega) (hafL aeA38 (afA37_376.trans (hafA fA36 (by first | decide | omega) af12_376))))), rfl, ⟨Or.inr ⟨by omega, by omega, by omega, by omega, by omega⟩, by omega, by omega, by omega, by omega, by omega, hVr.put hvr fA42 fA45 eA42 eA45 (by omega) (by omega) (by omega) (by omega) hn⟩⟩)
          ·
            have nA38_12 : (A38.1 367 12).toInt = (A37.1 367 12).toInt := congrArg Int32.toInt (frA38_0.trans rfl)
            have nA38_37 : (A38.1 367 37).toInt = (A37.1 367 37).toInt := congrArg Int32.toInt (frA38_4.trans rfl)
            have nA38_31 : (A38.1 367 31).toInt = (A37.1 367 31).toInt := congrArg Int32.toInt (frA38_3.trans rfl)
            have mf := acc_A38
            have zf := fA37.2
            have hma := u12_1.step mf (by omega) (by omega)
            exact hxa_return (by rfl) rfl (hP _ _ ⟨hA38, (frA38_1.trans (frA37_0.trans (hkA eA36 ek12_3))), (frA38_2.trans (frA37_1.trans (hkA eA36 ek12_4))), (hafL aeA38 (afA37_376.trans (hafA fA36 (by first | decide | omega) af12_376))), rfl, ⟨Or.inl (by omega), by omega, by omega, by omega, by omega, by omega, hVr.ma hv (by omega) (by omega) hma (by omega) (by omega)⟩⟩)
  refine hxa_aload_n (by rfl) rfl ?_
  refine hxa_iconst (by rfl) rfl ?_
  refine hxa_call0 (by rfl) (by rfl) (by rfl) (by rfl) (by rfl) (by rfl) (hX148q4 (d := d + 2) hA (Int32.ofNat 5)) ?_
  rintro _ A46 ⟨hA46, frA46_0, frA46_1, frA46_2, frA46_3, frA46_4, frA46_5, aeA46, rfl, fA46⟩
  have ttA46_12 : (A46.1 367 12).toInt = (A.1 367 12).toInt := congrArg Int32.toInt (frA46_0.trans rfl)
  have ttA46_19 : (A46.1 367 19).toInt = (A.1 367 19).toInt := congrArg Int32.toInt (frA46_1.trans rfl)
  have ttA46_20 : (A46.1 367 20).toInt = (A.1 367 20).toInt := congrArg Int32.toInt (frA46_2.trans rfl)
  have ttA46_31 : (A46.1 367 31).toInt = (A.1 367 31).toInt := congrArg Int32.toInt (frA46_3.trans rfl)
  have ttA46_37 : (A46.1 367 37).toInt = (A.1 367 37).toInt := congrArg Int32.toInt (frA46_4.trans rfl)
  obtain ⟨fbA46_367_11, fbA46_367_11u⟩ := hA46.f (i := 367) (k := 11) (by rfl)
  obtain ⟨fbA46_367_13, fbA46_367_13u⟩ := hA46.f (i := 367) (k := 13) (by rfl)
  refine hxa_aload_n (by rfl) rfl ?_
  refine hxj_getK (by rfl) (by rfl) (by rfl) (frA46_3.trans rfl) ?_
  refine hxa_s1 (by rfl) (Or.inl ⟨_, rfl, rfl⟩) rfl ?_
  refine hxa_iconst (by rfl) rfl ?_
  refine hxa_s1 (by rfl) (Or.inl ⟨_, rfl, rfl⟩) rfl ?_
  have nA46_12 : (A46.1 367 12).toInt = (A.1 367 12).toInt := congrArg Int32.toInt (frA46_0.trans rfl)
  have nA46_37 : (A46.1 367 37).toInt = (A.1 367 37).toInt := congrArg Int32.toInt (frA46_4.trans rfl)
  have nA46_31 : (A46.1 367 31).toInt = (A.1 367 31).toInt := congrArg Int32.toInt (frA46_3.trans rfl)
  have i0 : ¬ (A46.1 367 13).toInt = 0 ∨ ((A.1 367 13).toInt = 0 ∧ 4 * ((A46.1 367 31).toInt - 0) + 2 ≤ (A46.1 367 11).toInt ∧ (A46.1 367 37).toInt ≤ 0 + (A46.1 367 11).toInt ∧ (A46.1 367 12).toInt = (A.1 367 12).toInt ∧ (A.1 367 11).toInt + 1 ≤ (A46.1 367 11).toInt ∧ ∀ i : Nat, (A.1 367 31).toInt ≤ (i : Int) → (i : Int) < (A46.1 367 31).toInt → hVc 0 A46 i) := by
    rcases fA46.1 with q9 | q9
    · exact Or.inl (by omega)
    · exact Or.inr ⟨by omega, by omega, by omega, by omega, by omega, fun i h1 h2 => by omega⟩
  exact L12 (Int.toNat (5 - 0) + 1) (A46.1 367 11) (A.1 367 12) (A46.1 367 13) (A.1 367 31) (A.1 367 37) (A.1 367 31) (Int32.ofNat 0) A46 hA46 rfl (frA46_0.trans rfl) rfl (frA46_1.trans rfl) (frA46_2.trans rfl) (frA46_3.trans rfl) (frA46_4.trans rfl) (hafL aeA46 rfl) (by first | assumption | omega) (by first | assumption | omega) (by first | assumption | omega) (by first | assumption | omega) (by first | assumption | omega) (by first | assumption | omega) (by first | assumption | omega) (by first | assumption | omega) (by first | assumption | omega) (by first | assumption | omega) (by first | assumption | omega) (by first | assumption | omega) (by first | assumption | omega) (by first | assumption | omega) (by exact i0) (by exact (hMa.eq aeA46)) (by first | assumption | omega) (by first | assumption | omega)
theorem hX157q4 {d : Nat} {Bn Br : Int} {A0 A : hs_A} (hA : hJ 4 Bn Br A0 A) (hv : hVr 0 A) (hb1 : ¬ (A.1 367 13).toInt = 0 ∨ 4 * ((A.1 367 31).toInt - 0) + 1 ≤ (A.1 367 11).toInt) (hb2 : 0 ≤ (A.1 367 31).toInt ∧ (A.1 367 31).toInt ≤ 101) (hc0 : 0 ≤ (A.1 367 37).toInt) (hc1 : ¬ (A.1 367 13).toInt = 0 ∨ (A.1 367 37).toInt ≤ 0 + (A.1 367 11).toInt) (hc2 : (A.1 367 37).toInt ≤ 402) (ho : ¬ (A.1 367 13).toInt = 0 ∨ (A.1 367 12).toInt ≤ 6) (hl : (A0.1 367 18).toInt = 1) (a1 : Int32) (p1 : 0 ≤ a1.toInt) (q1 : a1.toInt ≤ 3) (fl0 : 0 ≤ (A.1 367 19).toInt) (fh0 : (A.1 367 19).toInt ≤ 0) : hxC (d + 6) 157 hm_m157 [.ref 368, .int a1] A (fun r A' => hJ 4 Bn Br A0 A' ∧ A'.1 367 19 = A.1 367 19 ∧ A'.1 367 20 = A.1 367 20 ∧ A'.2.1 376 = A.2.1 376 ∧ r = none ∧ ((¬ (A'.1 367 13).toInt = 0 ∨ ((A.1 367 13).toInt = 0 ∧ (A.1 367 11).toInt + 2 ≤ (A'.1 367 11).toInt ∧ 4 * ((A'.1 367 31).toInt - 0) ≤ (A'.1 367 11).toInt ∧ (A'.1 367 37).toInt ≤ 0 + (A'.1 367 11).toInt ∧ (A'.1 367 12).toInt = (A.1 367 12).toInt)) ∧ (A.1 367 11).toInt ≤ (A'.1 367 11).toInt ∧ (A.1 367 31).toInt ≤ (A'.1 367 31).toInt ∧ (A'.1 367 31).toInt ≤ 103 ∧ (A.1 367 37).toInt ≤ (A'.1 367 37).toInt ∧ (A'.1 367 37).toInt ≤ 402 ∧ hVr 0 A')) := hxC.of (by rfl) (hY157q4 hA hv hb1 hb2 hc0 hc1 hc2 ho hl a1 p1 q1 fl0 fh0 (fun r A' h => h))
theorem hY158q5 {d : Nat} {Bn Br : Int} {A0 A : hs_A} (hA : hJ 5 Bn Br A0 A) (hc0 : 420 ≤ (A.1 367 37).toInt) (hc1 : ¬ (A.1 367 13).toInt = 0 ∨ (A.1 367 37).toInt ≤ 420 + (A.1 367 11).toInt) (hc2 : (A.1 367 37).toInt ≤ 822) (ho : ¬ (A.1 367 13).toInt = 0 ∨ (A.1 367 12).toInt ≤ 6) (hl : (A0.1 367 18).toInt = 0) (fl0 : 130 ≤ (A.1 367 31).toInt) (fh0 : (A.1 367 31).toInt ≤ 259) {P : Option Value → hs_A → Prop} (hP : ∀ (r : Option Value) (A' : hs_A), (hJ 5 Bn Br A0 A' ∧ A'.1 367 19 = A.1 367 19 ∧ A'.1 367 20 = A.1 367 20 ∧ A'.2.1 376 = A.2.1 376 ∧ A'.2.1 385 = A.2.1 385 ∧ A'.2.1 386 = A.2.1 386 ∧ A'.2.1 387 = A.2.1 387 ∧ r = none ∧ ((¬ (A'.1 367 13).toInt = 0 ∨ ((A.1 367 13).toInt = 0 ∧ (A.1 367 11).toInt + 1 ≤ (A'.1 367 11).toInt ∧ (A'.1 367 12).toInt = (A.1 367 12).toInt ∧ (A'.1 367 37).toInt ≤ 420 + (A'.1 367 11).toInt ∧ hSg 1 A' (A'.2.1 388 (A.1 367 31).toNatClampNeg) (A'.2.1 389 (A.1 367 31).toNatClampNeg))) ∧ (A.1 367 11).toInt ≤ (A'.1 367 11).toInt ∧ (A.1 367 37).toInt ≤ (A'.1 367 37).toInt ∧ (A'.1 367 37).toInt ≤ 822 ∧ ((A'.1 367 31).toInt = (A.1 367 31).toInt + 1 ∧ (A'.2.1 388 (A.1 367 31).toNatClampNeg).toInt = (A.1 367 37).toInt) ∧ hM (A.1 367 37).toInt.toNat (A.1 367 31).toNatClampNeg A A')) → P r A') : hxa (d + 4) none hm_t158 0 [.ref 368] [] A P := by
  obtain ⟨fb367_11, fb367_11u⟩ := hA.f (i := 367) (k := 11) (by rfl)
  obtain ⟨fb367_12, fb367_12u⟩ := hA.f (i := 367) (k := 12) (by rfl)
  obtain ⟨fb367_13, fb367_13u⟩ := hA.f (i := 367) (k := 13) (by rfl)
  obtain ⟨fb367_19, fb367_19u⟩ := hA.f (i := 367) (k := 19) (by rfl)
  obtain ⟨fb367_20, fb367_20u⟩ := hA.f (i := 367) (k := 20) (by rfl)
  obtain ⟨fb367_37, fb367_37u⟩ := hA.f (i := 367) (k := 37) (by rfl)
  refine hxa_aload_n (by rfl) rfl ?_
  refine hxa_get (v := .ref 389) (by rfl) (by rfl) (by rfl) rfl ?_
  refine hxa_aload_n (by rfl) rfl ?_
  refine hxj_getK (by rfl) (by rfl) (by rfl) rfl ?_
  refine hxa_aload_n (by rfl) rfl ?_
  refine hxj_getK (by rfl) (by rfl) (by rfl) rfl ?_
  refine hxj_iastE (by rfl) (by rfl) rfl (by omega) (by omega) hA (by omega) (hlrB hl rfl (by omega) (by omega) (by omega)) (fun A1 hA1 eA1 fA1 gA1 => ?_)
  refine hxa_aload_n (by rfl) rfl ?_
  refine hxj_getK (by rfl) (by rfl) (by rfl) (hkA eA1 rfl) ?_
  refine hxj_zne (by rfl) rfl (fun q2 => ?_) (fun q2 => ?_)
  ·
    refine hxa_aload_n (by rfl) rfl ?_
    refine hxa_get (v := .ref 390) (by rfl) (by rfl) (by rfl) rfl ?_
    refine hxa_aload_n (by rfl) rfl ?_
    refine hxj_getK (by rfl) (by rfl) (by rfl) (hkA eA1 rfl) ?_
    refine hxa_aload_n (by rfl) rfl ?_
    refine hxj_getK (by rfl) (by rfl) (by rfl) (hkA eA1 rfl) ?_
    refine hxj_iastE (by rfl) (by rfl) rfl (by omega) (by omega) hA1 (by omega) (hlrB hl rfl (by omega) (by omega) (by omega)) (fun A3 hA3 eA3 fA3 gA3 => ?_)
    refine hxa_aload_n (by rfl) rfl ?_
    refine hxa_dupR (by rfl) ?_
    refine hxj_getK (by rfl) (by rfl) (by rfl) (hkA eA3 (hkA eA1 rfl)) ?_
    refine hxa_iconst (by rfl) rfl ?_
    refine hxj_iadd (by rfl) rfl hk_1 (by omega) (by omega) (fun z4 ez4 => ?_)
    refine hxj_putI (by rfl) (by rfl) (by rfl) (by rfl) hA3 (hbok (by rfl) rfl (by omega) (by omega)) (by rfl) (by rfl) (fun A5 hA5 eA5 fA5 => ?_)
    have nA5_11 : (A5.1 367 11).toInt = (A.1 367 11).toInt := congrArg Int32.toInt (hkF eA5 (by first | decide | omega) (hkA eA3 (hkA eA1 rfl)))
    have nA5_12 : (A5.1 367 12).toInt = (A.1 367 12).toInt := congrArg Int32.toInt (hkF eA5 (by first | decide | omega) (hkA eA3 (hkA eA1 rfl)))
    have nA5_13 : (A5.1 367 13).toInt = (A.1 367 13).toInt := congrArg Int32.toInt (hkF eA5 (by first | decide | omega) (hkA eA3 (hkA eA1 rfl)))
    have nA5_37 : (A5.1 367 37).toInt = (A.1 367 37).toInt := congrArg Int32.toInt (hkF eA5 (by first | decide | omega) (hkA eA3 (hkA eA1 rfl)))
    have nA5_31 : (A5.1 367 31).toInt = z4.toInt := congrArg Int32.toInt (hkS eA5)
    have hS := hTermS0 fA1 fA3 fA5
    have e88 : (A5.2.1 388 (A.1 367 31).toNatClampNeg).toInt = (A.1 367 37).toInt := by rw [hS]
    exact hxa_return (by rfl) rfl (hP _ _ ⟨hA5, (hkF eA5 (by first | decide | omega) (hkA eA3 (hkA eA1 rfl))), (hkF eA5 (by first | decide | omega) (hkA eA3 (hkA eA1 rfl))), (hafF fA5 (hafA fA3 (by first | decide | omega) (hafA fA1 (by first | decide | omega) rfl))), (hafF fA5 (hafA fA3 (by first | decide | omega) (hafA fA1 (by first | decide | omega) rfl))), (hafF fA5 (hafA fA3 (by first | decide | omega) (hafA fA1 (by first | decide | omega) rfl))), (hafF fA5 (hafA fA3 (by first | decide | omega) (hafA fA1 (by first | decide | omega) rfl))), rfl, ⟨Or.inl (by omega), by omega, by omega, by omega, ⟨by omega, e88⟩, (hM.tF (hM.tW (hM.tW (hM.refl (A.1 367 37).toInt.toNat (A.1 367 31).toNatClampNeg A) fA1 rfl (by omega)) fA3 rfl (by omega)) fA5)⟩⟩)
  ·
    refine hxa_aload_n (by rfl) rfl ?_
    have nA1_11 : (A1.1 367 11).toInt = (A.1 367 11).toInt := congrArg Int32.toInt (hkA eA1 rfl)
    have nA1_12 : (A1.1 367 12).toInt = (A.1 367 12).toInt := congrArg Int32.toInt (hkA eA1 rfl)
    have nA1_13 : (A1.1 367 13).toInt = (A.1 367 13).toInt := congrArg Int32.toInt (hkA eA1 rfl)
    have nA1_37 : (A1.1 367 37).toInt = (A.1 367 37).toInt := congrArg Int32.toInt (hkA eA1 rfl)
    refine hxa_call0 (by rfl) (by rfl) (by rfl) (by rfl) (by rfl) (by rfl) (hX161q5 (d := d + 0) hA1 (by omega) (by omega) (by omega) (by omega) (by omega)) ?_
    rintro _ A6 ⟨hA6, frA6_0, frA6_1, frA6_2, afA6_376, afA6_385, afA6_386, afA6_387, rfl, fA6⟩
    have ttA6_19 : (A6.1 367 19).toInt = (A.1 367 19).toInt := congrArg Int32.toInt (frA6_0.trans (hkA eA1 rfl))
    have ttA6_20 : (A6.1 367 20).toInt = (A.1 367 20).toInt := congrArg Int32.toInt (frA6_1.trans (hkA eA1 rfl))
    have ttA6_31 : (A6.1 367 31).toInt = (A.1 367 31).toInt := congrArg Int32.toInt (frA6_2.trans (hkA eA1 rfl))
    have acc_A6 := hM.tK (hM.tW (hM.refl (A.1 367 37).toInt.toNat (A.1 367 31).toNatClampNeg A) fA1 rfl (by omega)) fA6.2.2.2.2 (by omega)
    obtain ⟨fbA6_367_11, fbA6_367_11u⟩ := hA6.f (i := 367) (k := 11) (by rfl)
    obtain ⟨fbA6_367_12, fbA6_367_12u⟩ := hA6.f (i := 367) (k := 12) (by rfl)
    obtain ⟨fbA6_367_13, fbA6_367_13u⟩ := hA6.f (i := 367) (k := 13) (by rfl)
    obtain ⟨fbA6_367_37, fbA6_367_37u⟩ := hA6.f (i := 367) (k := 37) (by rfl)
    refine hxa_aload_n (by rfl) rfl ?_
    refine hxa_get (v := .ref 390) (by rfl) (by rfl) (by rfl) rfl ?_
    refine hxa_aload_n (by rfl) rfl ?_
    refine hxj_getK (by rfl) (by rfl) (by rfl) (frA6_2.trans (hkA eA1 rfl)) ?_
    refine hxa_aload_n (by rfl) rfl ?_
    refine hxj_getK (by rfl) (by rfl) (by rfl) rfl ?_
    refine hxj_iastE (by rfl) (by rfl) rfl (by omega) (by omega) hA6 (by omega) (hlrB hl rfl (by omega) (by omega) (by omega)) (fun A7 hA7 eA7 fA7 gA7 => ?_)
    refine hxa_aload_n (by rfl) rfl ?_
    refine hxa_dupR (by rfl) ?_
    refine hxj_getK (by rfl) (by rfl) (by rfl) (hkA eA7 (frA6_2.trans (hkA eA1 rfl))) ?_
    refine hxa_iconst (by rfl) rfl ?_
    refine hxj_iadd (by rfl) rfl hk_1 (by omega) (by omega) (fun z8 ez8 => ?_)
    refine hxj_putI (by rfl) (by rfl) (by rfl) (by rfl) hA7 (hbok (by rfl) rfl (by omega) (by omega)) (by rfl) (by rfl) (fun A9 hA9 eA9 fA9 => ?_)
    have nA9_11 : (A9.1 367 11).toInt = (A6.1 367 11).toInt := congrArg Int32.toInt (hkF eA9 (by first | decide | omega) (hkA eA7 rfl))
    have nA9_12 : (A9.1 367 12).toInt = (A6.1 367 12).toInt := congrArg Int32.toInt (hkF eA9 (by first | decide | omega) (hkA eA7 rfl))
    have nA9_13 : (A9.1 367 13).toInt = (A6.1 367 13).toInt := congrArg Int32.toInt (hkF eA9 (by first | decide | omega) (hkA eA7 rfl))
    have nA9_37 : (A9.1 367 37).toInt = (A6.1 367 37).toInt := congrArg Int32.toInt (hkF eA9 (by first | decide | omega) (hkA eA7 rfl))
    have nA9_31 : (A9.1 367 31).toInt = z8.toInt := congrArg Int32.toInt (hkS eA9)
    have hS := hTermS fA1 fA6.2.2.2.2 fA7 fA9
    have seg : ¬ (A9.1 367 13).toInt = 0 ∨ ((A.1 367 13).toInt = 0 ∧ (A.1 367 11).toInt + 1 ≤ (A9.1 367 11).toInt ∧ (A9.1 367 12).toInt = (A.1 367 12).toInt ∧ (A9.1 367 37).toInt ≤ 420 + (A9.1 367 11).toInt ∧ hSg 1 A9 (A9.2.1 388 (A.1 367 31).toNatClampNeg) (A9.2.1 389 (A.1 367 31).toNatClampNeg)) := by
      rcases fA6.1 with q9 | q9
      · exact Or.inl (by omega)
      · refine Or.inr ⟨by omega, by omega, by omega, by omega, ?_⟩
        rw [hS.1, hS.2.1]
        have w5 := q9.2.2.2.2
        rw [nA1_37] at w5
        refine hSg.of (c0 := (A.1 367 37).toInt) (c1 := (A6.1 367 37).toInt) (by omega) rfl rfl (by omega) (by omega) (by omega) ?_
        rw [hS.2.2.1, hS.2.2.2]
        exact w5
    have e88 : (A9.2.1 388 (A.1 367 31).toNatClampNeg).toInt = (A.1 367 37).toInt := by rw [hS.1]
    have x9 := fA6.2
    exact hxa_return (by rfl) rfl (hP _ _ ⟨hA9, (hkF eA9 (by first | decide | omega) (hkA eA7 (frA6_0.trans (hkA eA1 rfl)))), (hkF eA9 (by first | decide | omega) (hkA eA7 (frA6_1.trans (hkA eA1 rfl)))), (hafF fA9 (hafA fA7 (by first | decide | omega) (afA6_376.trans (hafA fA1 (by first | decide | omega) rfl)))), (hafF fA9 (hafA fA7 (by first | decide | omega) (afA6_385.trans (hafA fA1 (by first | decide | omega) rfl)))), (hafF fA9 (hafA fA7 (by first | decide | omega) (afA6_386.trans (hafA fA1 (by first | decide | omega) rfl)))), (hafF fA9 (hafA fA7 (by first | decide | omega) (afA6_387.trans (hafA fA1 (by first | decide | omega) rfl)))), rfl, ⟨seg, by omega, by omega, by omega, ⟨by omega, e88⟩, (hM.tF (hM.tW acc_A6 fA7 rfl (by omega)) fA9)⟩⟩)
theorem hX158q5 {d : Nat} {Bn Br : Int} {A0 A : hs_A} (hA : hJ 5 Bn Br A0 A) (hc0 : 420 ≤ (A.1 367 37).toInt) (hc1 : ¬ (A.1 367 13).toInt = 0 ∨ (A.1 367 37).toInt ≤ 420 + (A.1 367 11).toInt) (hc2 : (A.1 367 37).toInt ≤ 822) (ho : ¬ (A.1 367 13).toInt = 0 ∨ (A.1 367 12).toInt ≤ 6) (hl : (A0.1 367 18).toInt = 0) (fl0 : 130 ≤ (A.1 367 31).toInt) (fh0 : (A.1 367 31).toInt ≤ 259) : hxC (d + 5) 158 hm_m158 [.ref 368] A (fun r A' => hJ 5 Bn Br A0 A' ∧ A'.1 367 19 = A.1 367 19 ∧ A'.1 367 20 = A.1 367 20 ∧ A'.2.1 376 = A.2.1 376 ∧ A'.2.1 385 = A.2.1 385 ∧ A'.2.1 386 = A.2.1 386 ∧ A'.2.1 387 = A.2.1 387 ∧ r = none ∧ ((¬ (A'.1 367 13).toInt = 0 ∨ ((A.1 367 13).toInt = 0 ∧ (A.1 367 11).toInt + 1 ≤ (A'.1 367 11).toInt ∧ (A'.1 367 12).toInt = (A.1 367 12).toInt ∧ (A'.1 367 37).toInt ≤ 420 + (A'.1 367 11).toInt ∧ hSg 1 A' (A'.2.1 388 (A.1 367 31).toNatClampNeg) (A'.2.1 389 (A.1 367 31).toNatClampNeg))) ∧ (A.1 367 11).toInt ≤ (A'.1 367 11).toInt ∧ (A.1 367 37).toInt ≤ (A'.1 367 37).toInt ∧ (A'.1 367 37).toInt ≤ 822 ∧ ((A'.1 367 31).toInt = (A.1 367 31).toInt + 1 ∧ (A'.2.1 388 (A.1 367 31).toNatClampNeg).toInt = (A.1 367 37).toInt) ∧ hM (A.1 367 37).toInt.toNat (A.1 367 31).toNatClampNeg A A')) := hxC.of (by rfl) (hY158q5 hA hc0 hc1 hc2 ho hl fl0 fh0 (fun r A' h => h))
