theorem hY158q4 {d : Nat} {Bn Br : Int} {A0 A : hs_A} (hA : hJ 4 Bn Br A0 A) (hc0 : 0 ≤ (A.1 367 37).toInt) (hc1 : ¬ (A.1 367 13).toInt = 0 ∨ (A.1 367 37).toInt ≤ 0 + (A.1 367 11).toInt) (hc2 : (A.1 367 37).toInt ≤ 402) (ho : ¬ (A.1 367 13).toInt = 0 ∨ (A.1 367 12).toInt ≤ 6) (hl : (A0.1 367 18).toInt = 1) (fl0 : 0 ≤ (A.1 367 31).toInt) (fh0 : (A.1 367 31).toInt ≤ 129) {P : Option Value → hs_A → Prop} (hP : ∀ (r : Option Value) (A' : hs_A), (hJ 4 Bn Br A0 A' ∧ A'.1 367 19 = A.1 367 19 ∧ A'.1 367 20 = A.1 367 20 ∧ A'.2.1 376 = A.2.1 376 ∧ A'.2.1 385 = A.2.1 385 ∧ A'.2.1 386 = A.2.1 386 ∧ A'.2.1 387 = A.2.1 387 ∧ r = none ∧ ((¬ (A'.1 367 13).toInt = 0 ∨ ((A.1 367 13).toInt = 0 ∧ (A.1 367 11).toInt + 1 ≤ (A'.1 367 11).toInt ∧ (A'.1 367 12).toInt = (A.1 367 12).toInt ∧ (A'.1 367 37).toInt ≤ 0 + (A'.1 367 11).toInt ∧ hSg 0 A' (A'.2.1 388 (A.1 367 31).toNatClampNeg) (A'.2.1 389 (A.1 367 31).toNatClampNeg))) ∧ (A.1 367 11).toInt ≤ (A'.1 367 11).toInt ∧ (A.1 367 37).toInt ≤ (A'.1 367 37).toInt ∧ (A'.1 367 37).toInt ≤ 402 ∧ ((A'.1 367 31).toInt = (A.1 367 31).toInt + 1 ∧ (A'.2.1 388 (A.1 367 31).toNatClampNeg).toInt = (A.1 367 37).toInt) ∧ hM (A.1 367 37).toInt.toNat (A.1 367 31).toNatClampNeg A A')) → P r A') : hxa (d + 4) none hm_t158 0 [.ref 368] [] A P := by
  have fb367_11 := hA.f (i := 367) (k := 11) (by rfl)
  have fb367_12 := hA.f (i := 367) (k := 12) (by rfl)
  have fb367_13 := hA.f (i := 367) (k := 13) (by rfl)
  have fb367_19 := hA.f (i := 367) (k := 19) (by rfl)
  have fb367_20 := hA.f (i := 367) (k := 20) (by rfl)
  have fb367_37 := hA.f (i := 367) (k := 37) (by rfl)
  refine hxa_aload_n (by rfl) rfl ?_
  refine hxa_get (v := .ref 389) (by rfl) (by rfl) (by rfl) rfl ?_
  refine hxa_aload_n (by rfl) rfl ?_
  refine hxj_getK (by rfl) (by rfl) (by rfl) rfl ?_
  refine hxa_aload_n (by rfl) rfl ?_
  refine hxj_getK (by rfl) (by rfl) (by rfl) rfl ?_
  refine hxj_iastE (by rfl) (by rfl) rfl (by omega) (by omega) hA (by omega) (hlrB hl rfl (by omega) (by omega) (by omega)) (fun A1 hA1 eA1 fA1 gA1 => ?_)
  refine hxa_aload_n (by rfl) rfl ?_
  refine hxj_getK (by rfl) (by rfl) (by rfl) (hkA eA1 rfl) ?_
  refine hxj_zne (by rfl) rfl (fun q2 => ?_) (fun q2 => ?_)
  ·
    refine hxa_aload_n (by rfl) rfl ?_
    refine hxa_get (v := .ref 390) (by rfl) (by rfl) (by rfl) rfl ?_
    refine hxa_aload_n (by rfl) rfl ?_
    refine hxj_getK (by rfl) (by rfl) (by rfl) (hkA eA1 rfl) ?_
    refine hxa_aload_n (by rfl) rfl ?_
    refine hxj_getK (by rfl) (by rfl) (by rfl) (hkA eA1 rfl) ?_
    refine hxj_iastE (by rfl) (by rfl) rfl (by omega) (by omega) hA1 (by omega) (hlrB hl rfl (by omega) (by omega) (by omega)) (fun A3 hA3 eA3 fA3 gA3 => ?_)
    refine hxa_aload_n (by rfl) rfl ?_
    refine hxa_dupR (by rfl) ?_
    refine hxj_getK (by rfl) (by rfl) (by rfl) (hkA eA3 (hkA eA1 rfl)) ?_
    refine hxa_iconst (by rfl) rfl ?_
    refine hxj_iadd (by rfl) rfl hk_1 (by omega) (by omega) (fun z4 ez4 => ?_)
    refine hxj_putI (by rfl) (by rfl) (by rfl) (by rfl) hA3 (hbok (by rfl) rfl (by omega) (by omega)) (by rfl) (by rfl) (fun A5 hA5 eA5 fA5 => ?_)
    have nA5_11 : (A5.1 367 11).toInt = (A.1 367 11).toInt := congrArg Int32.toInt (hkF eA5 (by omega) (hkA eA3 (hkA eA1 rfl)))
    have nA5_12 : (A5.1 367 12).toInt = (A.1 367 12).toInt := congrArg Int32.toInt (hkF eA5 (by omega) (hkA eA3 (hkA eA1 rfl)))
    have nA5_13 : (A5.1 367 13).toInt = (A.1 367 13).toInt := congrArg Int32.toInt (hkF eA5 (by omega) (hkA eA3 (hkA eA1 rfl)))
    have nA5_37 : (A5.1 367 37).toInt = (A.1 367 37).toInt := congrArg Int32.toInt (hkF eA5 (by omega) (hkA eA3 (hkA eA1 rfl)))
    have nA5_31 : (A5.1 367 31).toInt = z4.toInt := congrArg Int32.toInt (hkS eA5)
    have hS := hTermS0 fA1 fA3 fA5
    have e88 : (A5.2.1 388 (A.1 367 31).toNatClampNeg).toInt = (A.1 367 37).toInt := by rw [hS]
    exact hxa_return (by rfl) rfl (hP _ _ ⟨hA5, (hkF eA5 (by omega) (hkA eA3 (hkA eA1 rfl))), (hkF eA5 (by omega) (hkA eA3 (hkA eA1 rfl))), (hafF fA5 (hafA fA3 (by omega) (hafA fA1 (by omega) rfl))), (hafF fA5 (hafA fA3 (by omega) (hafA fA1 (by omega) rfl))), (hafF fA5 (hafA fA3 (by omega) (hafA fA1 (by omega) rfl))), (hafF fA5 (hafA fA3 (by omega) (hafA fA1 (by omega) rfl))), rfl, ⟨Or.inl (by omega), by omega, by omega, by omega, ⟨by omega, e88⟩, (hM.tF (hM.tW (hM.tW (hM.refl (A.1 367 37).toInt.toNat (A.1 367 31).toNatClampNeg A) fA1 rfl (by omega)) fA3 rfl (by omega)) fA5)⟩⟩)
  ·
    refine hxa_aload_n (by rfl) rfl ?_
    have nA1_11 : (A1.1 367 11).toInt = (A.1 367 11).toInt := congrArg Int32.toInt (hkA eA1 rfl)
    have nA1_12 : (A1.1 367 12).toInt = (A.1 367 12).toInt := congrArg Int32.toInt (hkA eA1 rfl)
    have nA1_13 : (A1.1 367 13).toInt = (A.1 367 13).toInt := congrArg Int32.toInt (hkA eA1 rfl)
    have nA1_37 : (A1.1 367 37).toInt = (A.1 367 37).toInt := congrArg Int32.toInt (hkA eA1 rfl)
    refine hxa_call0 (by rfl) (by rfl) (by rfl) (by rfl) (by rfl) (by rfl) (hX161q4 (d := d + 0) hA1 (by omega) (by omega) (by omega) (by omega) (by omega)) ?_
    rintro _ A6 ⟨hA6, frA6_0, frA6_1, frA6_2, afA6_376, afA6_385, afA6_386, afA6_387, rfl, fA6⟩
    have ttA6_19 : (A6.1 367 19).toInt = (A.1 367 19).toInt := congrArg Int32.toInt (frA6_0.trans (hkA eA1 rfl))
    have ttA6_20 : (A6.1 367 20).toInt = (A.1 367 20).toInt := congrArg Int32.toInt (frA6_1.trans (hkA eA1 rfl))
    have ttA6_31 : (A6.1 367 31).toInt = (A.1 367 31).toInt := congrArg Int32.toInt (frA6_2.trans (hkA eA1 rfl))
    have acc_A6 := hM.tK (hM.tW (hM.refl (A.1 367 37).toInt.toNat (A.1 367 31).toNatClampNeg A) fA1 rfl (by omega)) fA6.2.2.2.2 (by omega)
    have fbA6_367_11 := hA6.f (i := 367) (k := 11) (by rfl)
    have fbA6_367_12 := hA6.f (i := 367) (k := 12) (by rfl)
    have fbA6_367_13 := hA6.f (i := 367) (k := 13) (by rfl)
    have fbA6_367_37 := hA6.f (i := 367) (k := 37) (by rfl)
    refine hxa_aload_n (by rfl) rfl ?_
    refine hxa_get (v := .ref 390) (by rfl) (by rfl) (by rfl) rfl ?_
    refine hxa_aload_n (by rfl) rfl ?_
    refine hxj_getK (by rfl) (by rfl) (by rfl) (frA6_2.trans (hkA eA1 rfl)) ?_
    refine hxa_aload_n (by rfl) rfl ?_
    refine hxj_getK (by rfl) (by rfl) (by rfl) rfl ?_
    refine hxj_iastE (by rfl) (by rfl) rfl (by omega) (by omega) hA6 (by omega) (hlrB hl rfl (by omega) (by omega) (by omega)) (fun A7 hA7 eA7 fA7 gA7 => ?_)
    refine hxa_aload_n (by rfl) rfl ?_
    refine hxa_dupR (by rfl) ?_
    refine hxj_getK (by rfl) (by rfl) (by rfl) (hkA eA7 (frA6_2.trans (hkA eA1 rfl))) ?_
    refine hxa_iconst (by rfl) rfl ?_
    refine hxj_iadd (by rfl) rfl hk_1 (by omega) (by omega) (fun z8 ez8 => ?_)
    refine hxj_putI (by rfl) (by rfl) (by rfl) (by rfl) hA7 (hbok (by rfl) rfl (by omega) (by omega)) (by rfl) (by rfl) (fun A9 hA9 eA9 fA9 => ?_)
    have nA9_11 : (A9.1 367 11).toInt = (A6.1 367 11).toInt := congrArg Int32.toInt (hkF eA9 (by omega) (hkA eA7 rfl))
    have nA9_12 : (A9.1 367 12).toInt = (A6.1 367 12).toInt := congrArg Int32.toInt (hkF eA9 (by omega) (hkA eA7 rfl))
    have nA9_13 : (A9.1 367 13).toInt = (A6.1 367 13).toInt := congrArg Int32.toInt (hkF eA9 (by omega) (hkA eA7 rfl))
    have nA9_37 : (A9.1 367 37).toInt = (A6.1 367 37).toInt := congrArg Int32.toInt (hkF eA9 (by omega) (hkA eA7 rfl))
    have nA9_31 : (A9.1 367 31).toInt = z8.toInt := congrArg Int32.toInt (hkS eA9)
    have hS := hTermS fA1 fA6.2.2.2.2 fA7 fA9
    have seg : ¬ (A9.1 367 13).toInt = 0 ∨ ((A.1 367 13).toInt = 0 ∧ (A.1 367 11).toInt + 1 ≤ (A9.1 367 11).toInt ∧ (A9.1 367 12).toInt = (A.1 367 12).toInt ∧ (A9.1 367 37).toInt ≤ 0 + (A9.1 367 11).toInt ∧ hSg 0 A9 (A9.2.1 388 (A.1 367 31).toNatClampNeg) (A9.2.1 389 (A.1 367 31).toNatClampNeg)) := by
      rcases fA6.1 with q9 | q9
      · exact Or.inl (by omega)
      · refine Or.inr ⟨by omega, by omega, by omega, by omega, ?_⟩
        rw [hS.1, hS.2.1]
        have w5 := q9.2.2.2.2
        rw [nA1_37] at w5
        refine hSg.of (c0 := (A.1 367 37).toInt) (c1 := (A6.1 367 37).toInt) (by omega) rfl rfl (by omega) (by omega) (by omega) ?_
        rw [hS.2.2.1, hS.2.2.2]
        exact w5
    have e88 : (A9.2.1 388 (A.1 367 31).toNatClampNeg).toInt = (A.1 367 37).toInt := by rw [hS.1]
    have x9 := fA6.2
    exact hxa_return (by rfl) rfl (hP _ _ ⟨hA9, (hkF eA9 (by omega) (hkA eA7 (frA6_0.trans (hkA eA1 rfl)))), (hkF eA9 (by omega) (hkA eA7 (frA6_1.trans (hkA eA1 rfl)))), (hafF fA9 (hafA fA7 (by omega) (afA6_376.trans (hafA fA1 (by omega) rfl)))), (hafF fA9 (hafA fA7 (by omega) (afA6_385.trans (hafA fA1 (by omega) rfl)))), (hafF fA9 (hafA fA7 (by omega) (afA6_386.trans (hafA fA1 (by omega) rfl)))), (hafF fA9 (hafA fA7 (by omega) (afA6_387.trans (hafA fA1 (by omega) rfl)))), rfl, ⟨seg, by omega, by omega, by omega, ⟨by omega, e88⟩, (hM.tF (hM.tW acc_A6 fA7 rfl (by omega)) fA9)⟩⟩)
theorem hX158q4 {d : Nat} {Bn Br : Int} {A0 A : hs_A} (hA : hJ 4 Bn Br A0 A) (hc0 : 0 ≤ (A.1 367 37).toInt) (hc1 : ¬ (A.1 367 13).toInt = 0 ∨ (A.1 367 37).toInt ≤ 0 + (A.1 367 11).toInt) (hc2 : (A.1 367 37).toInt ≤ 402) (ho : ¬ (A.1 367 13).toInt = 0 ∨ (A.1 367 12).toInt ≤ 6) (hl : (A0.1 367 18).toInt = 1) (fl0 : 0 ≤ (A.1 367 31).toInt) (fh0 : (A.1 367 31).toInt ≤ 129) : hxC (d + 5) 158 hm_m158 [.ref 368] A (fun r A' => hJ 4 Bn Br A0 A' ∧ A'.1 367 19 = A.1 367 19 ∧ A'.1 367 20 = A.1 367 20 ∧ A'.2.1 376 = A.2.1 376 ∧ A'.2.1 385 = A.2.1 385 ∧ A'.2.1 386 = A.2.1 386 ∧ A'.2.1 387 = A.2.1 387 ∧ r = none ∧ ((¬ (A'.1 367 13).toInt = 0 ∨ ((A.1 367 13).toInt = 0 ∧ (A.1 367 11).toInt + 1 ≤ (A'.1 367 11).toInt ∧ (A'.1 367 12).toInt = (A.1 367 12).toInt ∧ (A'.1 367 37).toInt ≤ 0 + (A'.1 367 11).toInt ∧ hSg 0 A' (A'.2.1 388 (A.1 367 31).toNatClampNeg) (A'.2.1 389 (A.1 367 31).toNatClampNeg))) ∧ (A.1 367 11).toInt ≤ (A'.1 367 11).toInt ∧ (A.1 367 37).toInt ≤ (A'.1 367 37).toInt ∧ (A'.1 367 37).toInt ≤ 402 ∧ ((A'.1 367 31).toInt = (A.1 367 31).toInt + 1 ∧ (A'.2.1 388 (A.1 367 31).toNatClampNeg).toInt = (A.1 367 37).toInt) ∧ hM (A.1 367 37).toInt.toNat (A.1 367 31).toNatClampNeg A A')) := hxC.of (by rfl) (hY158q4 hA hc0 hc1 hc2 ho hl fl0 fh0 (fun r A' h => h))
theorem hY158q5 {d : Nat} {Bn Br : Int} {A0 A : hs_A} (hA : hJ 5 Bn Br A0 A) (hc0 : 420 ≤ (A.1 367 37).toInt) (hc1 : ¬ (A.1 367 13).toInt = 0 ∨ (A.1 367 37).toInt ≤ 420 + (A.1 367 11).toInt) (hc2 : (A.1 367 37).toInt ≤ 822) (ho : ¬ (A.1 367 13).toInt = 0 ∨ (A.1 367 12).toInt ≤ 6) (hl : (A0.1 367 18).toInt = 0) (fl0 : 130 ≤ (A.1 367 31).toInt) (fh0 : (A.1 367 31).toInt ≤ 259) {P : Option Value → hs_A → Prop} (hP : ∀ (r : Option Value) (A' : hs_A), (hJ 5 Bn Br A0 A' ∧ A'.1 367 19 = A.1 367 19 ∧ A'.1 367 20 = A.1 367 20 ∧ A'.2.1 376 = A.2.1 376 ∧ A'.2.1 385 = A.2.1 385 ∧ A'.2.1 386 = A.2.1 386 ∧ A'.2.1 387 = A.2.1 387 ∧ r = none ∧ ((¬ (A'.1 367 13).toInt = 0 ∨ ((A.1 367 13).toInt = 0 ∧ (A.1 367 11).toInt + 1 ≤ (A'.1 367 11).toInt ∧ (A'.1 367 12).toInt = (A.1 367 12).toInt ∧ (A'.1 367 37).toInt ≤ 420 + (A'.1 367 11).toInt ∧ hSg 1 A' (A'.2.1 388 (A.1 367 31).toNatClampNeg) (A'.2.1 389 (A.1 367 31).toNatClampNeg))) ∧ (A.1 367 11).toInt ≤ (A'.1 367 11).toInt ∧ (A.1 367 37).toInt ≤ (A'.1 367 37).toInt ∧ (A'.1 367 37).toInt ≤ 822 ∧ ((A'.1 367 31).toInt = (A.1 367 31).toInt + 1 ∧ (A'.2.1 388 (A.1 367 31).toNatClampNeg).toInt = (A.1 367 37).toInt) ∧ hM (A.1 367 37).toInt.toNat (A.1 367 31).toNatClampNeg A A')) → P r A') : hxa (d + 4) none hm_t158 0 [.ref 368] [] A P := by
  have fb367_11 := hA.f (i := 367) (k := 11) (by rfl)
  have fb367_12 := hA.f (i := 367) (k := 12) (by rfl)
  have fb367_13 := hA.f (i := 367) (k := 13) (by rfl)
  have fb367_19 := hA.f (i := 367) (k := 19) (by rfl)
  have fb367_20 := hA.f (i := 367) (k := 20) (by rfl)
  have fb367_37 := hA.f (i := 367) (k := 37) (by rfl)
  refine hxa_aload_n (by rfl) rfl ?_
  refine hxa_get (v := .ref 389) (by rfl) (by rfl) (by rfl) rfl ?_
  refine hxa_aload_n (by rfl) rfl ?_
  refine hxj_getK (by rfl) (by rfl) (by rfl) rfl ?_
  refine hxa_aload_n (by rfl) rfl ?_
  refine hxj_getK (by rfl) (by rfl) (by rfl) rfl ?_
  refine hxj_iastE (by rfl) (by rfl) rfl (by omega) (by omega) hA (by omega) (hlrB hl rfl (by omega) (by omega) (by omega)) (fun A1 hA1 eA1 fA1 gA1 => ?_)
  refine hxa_aload_n (by rfl) rfl ?_
  refine hxj_getK (by rfl) (by rfl) (by rfl) (hkA eA1 rfl) ?_
  refine hxj_zne (by rfl) rfl (fun q2 => ?_) (fun q2 => ?_)
  ·
    refine hxa_aload_n (by rfl) rfl ?_
    refine hxa_get (v := .ref 390) (by rfl) (by rfl) (by rfl) rfl ?_
    refine hxa_aload_n (by rfl) rfl ?_
    refine hxj_getK (by rfl) (by rfl) (by rfl) (hkA eA1 rfl) ?_
    refine hxa_aload_n (by rfl) rfl ?_
    refine hxj_getK (by rfl) (by rfl) (by rfl) (hkA eA1 rfl) ?_
    refine hxj_iastE (by rfl) (by rfl) rfl (by omega) (by omega) hA1 (by omega) (hlrB hl rfl (by omega) (by omega) (by omega)) (fun A3 hA3 eA3 fA3 gA3 => ?_)
    refine hxa_aload_n (by rfl) rfl ?_
    refine hxa_dupR (by rfl) ?_
    refine hxj_getK (by rfl) (by rfl) (by rfl) (hkA eA3 (hkA eA1 rfl)) ?_
    refine hxa_iconst (by rfl) rfl ?_
    refine hxj_iadd (by rfl) rfl hk_1 (by omega) (by omega) (fun z4 ez4 => ?_)
    refine hxj_putI (by rfl) (by rfl) (by rfl) (by rfl) hA3 (hbok (by rfl) rfl (by omega) (by omega)) (by rfl) (by rfl) (fun A5 hA5 eA5 fA5 => ?_)
    have nA5_11 : (A5.1 367 11).toInt = (A.1 367 11).toInt := congrArg Int32.toInt (hkF eA5 (by omega) (hkA eA3 (hkA eA1 rfl)))
    have nA5_12 : (A5.1 367 12).toInt = (A.1 367 12).toInt := congrArg Int32.toInt (hkF eA5 (by omega) (hkA eA3 (hkA eA1 rfl)))
    have nA5_13 : (A5.1 367 13).toInt = (A.1 367 13).toInt := congrArg Int32.toInt (hkF eA5 (by omega) (hkA eA3 (hkA eA1 rfl)))
    have nA5_37 : (A5.1 367 37).toInt = (A.1 367 37).toInt := congrArg Int32.toInt (hkF eA5 (by omega) (hkA eA3 (hkA eA1 rfl)))
    have nA5_31 : (A5.1 367 31).toInt = z4.toInt := congrArg Int32.toInt (hkS eA5)
    have hS := hTermS0 fA1 fA3 fA5
    have e88 : (A5.2.1 388 (A.1 367 31).toNatClampNeg).toInt = (A.1 367 37).toInt := by rw [hS]
    exact hxa_return (by rfl) rfl (hP _ _ ⟨hA5, (hkF eA5 (by omega) (hkA eA3 (hkA eA1 rfl))), (hkF eA5 (by omega) (hkA eA3 (hkA eA1 rfl))), (hafF fA5 (hafA fA3 (by omega) (hafA fA1 (by omega) rfl))), (hafF fA5 (hafA fA3 (by omega) (hafA fA1 (by omega) rfl))), (hafF fA5 (hafA fA3 (by omega) (hafA fA1 (by omega) rfl))), (hafF fA5 (hafA fA3 (by omega) (hafA fA1 (by omega) rfl))), rfl, ⟨Or.inl (by omega), by omega, by omega, by omega, ⟨by omega, e88⟩, (hM.tF (hM.tW (hM.tW (hM.refl (A.1 367 37).toInt.toNat (A.1 367 31).toNatClampNeg A) fA1 rfl (by omega)) fA3 rfl (by omega)) fA5)⟩⟩)
  ·
    refine hxa_aload_n (by rfl) rfl ?_
    have nA1_11 : (A1.1 367 11).toInt = (A.1 367 11).toInt := congrArg Int32.toInt (hkA eA1 rfl)
    have nA1_12 : (A1.1 367 12).toInt = (A.1 367 12).toInt := congrArg Int32.toInt (hkA eA1 rfl)
    have nA1_13 : (A1.1 367 13).toInt = (A.1 367 13).toInt := congrArg Int32.toInt (hkA eA1 rfl)
    have nA1_37 : (A1.1 367 37).toInt = (A.1 367 37).toInt := congrArg Int32.toInt (hkA eA1 rfl)
    refine hxa_call0 (by rfl) (by rfl) (by rfl) (by rfl) (by rfl) (by rfl) (hX161q5 (d := d + 0) hA1 (by omega) (by omega) (by omega) (by omega) (by omega)) ?_
    rintro _ A6 ⟨hA6, frA6_0, frA6_1, frA6_2, afA6_376, afA6_385, afA6_386, afA6_387, rfl, fA6⟩
    have ttA6_19 : (A6.1 367 19).toInt = (A.1 367 19).toInt := congrArg Int32.toInt (frA6_0.trans (hkA eA1 rfl))
    have ttA6_20 : (A6.1 367 20).toInt = (A.1 367 20).toInt := congrArg Int32.toInt (frA6_1.trans (hkA eA1 rfl))
    have ttA6_31 : (A6.1 367 31).toInt = (A.1 367 31).toInt := congrArg Int32.toInt (frA6_2.trans (hkA eA1 rfl))
    have acc_A6 := hM.tK (hM.tW (hM.refl (A.1 367 37).toInt.toNat (A.1 367 31).toNatClampNeg A) fA1 rfl (by omega)) fA6.2.2.2.2 (by omega)
    have fbA6_367_11 := hA6.f (i := 367) (k := 11) (by rfl)
    have fbA6_367_12 := hA6.f (i := 367) (k := 12) (by rfl)
    have fbA6_367_13 := hA6.f (i := 367) (k := 13) (by rfl)
    have fbA6_367_37 := hA6.f (i := 367) (k := 37) (by rfl)
    refine hxa_aload_n (by rfl) rfl ?_
    refine hxa_get (v := .ref 390) (by rfl) (by rfl) (by rfl) rfl ?_
    refine hxa_aload_n (by rfl) rfl ?_
    refine hxj_getK (by rfl) (by rfl) (by rfl) (frA6_2.trans (hkA eA1 rfl)) ?_
    refine hxa_aload_n (by rfl) rfl ?_
    refine hxj_getK (by rfl) (by rfl) (by rfl) rfl ?_
    refine hxj_iastE (by rfl) (by rfl) rfl (by omega) (by omega) hA6 (by omega) (hlrB hl rfl (by omega) (by omega) (by omega)) (fun A7 hA7 eA7 fA7 gA7 => ?_)
    refine hxa_aload_n (by rfl) rfl ?_
    refine hxa_dupR (by rfl) ?_
    refine hxj_getK (by rfl) (by rfl) (by rfl) (hkA eA7 (frA6_2.trans (hkA eA1 rfl))) ?_
    refine hxa_iconst (by rfl) rfl ?_
    refine hxj_iadd (by rfl) rfl hk_1 (by omega) (by omega) (fun z8 ez8 => ?_)
    refine hxj_putI (by rfl) (by rfl) (by rfl) (by rfl) hA7 (hbok (by rfl) rfl (by omega) (by omega)) (by rfl) (by rfl) (fun A9 hA9 eA9 fA9 => ?_)
    have nA9_11 : (A9.1 367 11).toInt = (A6.1 367 11).toInt := congrArg Int32.toInt (hkF eA9 (by omega) (hkA eA7 rfl))
    have nA9_12 : (A9.1 367 12).toInt = (A6.1 367 12).toInt := congrArg Int32.toInt (hkF eA9 (by omega) (hkA eA7 rfl))
    have nA9_13 : (A9.1 367 13).toInt = (A6.1 367 13).toInt := congrArg Int32.toInt (hkF eA9 (by omega) (hkA eA7 rfl))
    have nA9_37 : (A9.1 367 37).toInt = (A6.1 367 37).toInt := congrArg Int32.toInt (hkF eA9 (by omega) (hkA eA7 rfl))
    have nA9_31 : (A9.1 367 31).toInt = z8.toInt := congrArg Int32.toInt (hkS eA9)
    have hS := hTermS fA1 fA6.2.2.2.2 fA7 fA9
    have seg : ¬ (A9.1 367 13).toInt = 0 ∨ ((A.1 367 13).toInt = 0 ∧ (A.1 367 11).toInt + 1 ≤ (A9.1 367 11).toInt ∧ (A9.1 367 12).toInt = (A.1 367 12).toInt ∧ (A9.1 367 37).toInt ≤ 420 + (A9.1 367 11).toInt ∧ hSg 1 A9 (A9.2.1 388 (A.1 367 31).toNatClampNeg) (A9.2.1 389 (A.1 367 31).toNatClampNeg)) := by
      rcases fA6.1 with q9 | q9
      · exact Or.inl (by omega)
      · refine Or.inr ⟨by omega, by omega, by omega, by omega, ?_⟩
        rw [hS.1, hS.2.1]
        have w5 := q9.2.2.2.2
        rw [nA1_37] at w5
        refine hSg.of (c0 := (A.1 367 37).toInt) (c1 := (A6.1 367 37).toInt) (by omega) rfl rfl (by omega) (by omega) (by omega) ?_
        rw [hS.2.2.1, hS.2.2.2]
        exact w5
    have e88 : (A9.2.1 388 (A.1 367 31).toNatClampNeg).toInt = (A.1 367 37).toInt := by rw [hS.1]
    have x9 := fA6.2
    exact hxa_return (by rfl) rfl (hP _ _ ⟨hA9, (hkF eA9 (by omega) (hkA eA7 (frA6_0.trans (hkA eA1 rfl)))), (hkF eA9 (by omega) (hkA eA7 (frA6_1.trans (hkA eA1 rfl)))), (hafF fA9 (hafA fA7 (by omega) (afA6_376.trans (hafA fA1 (by omega) rfl)))), (hafF fA9 (hafA fA7 (by omega) (afA6_385.trans (hafA fA1 (by omega) rfl)))), (hafF fA9 (hafA fA7 (by omega) (afA6_386.trans (hafA fA1 (by omega) rfl)))), (hafF fA9 (hafA fA7 (by omega) (afA6_387.trans (hafA fA1 (by omega) rfl)))), rfl, ⟨seg, by omega, by omega, by omega, ⟨by omega, e88⟩, (hM.tF (hM.tW acc_A6 fA7 rfl (by omega)) fA9)⟩⟩)
theorem hX158q5 {d : Nat} {Bn Br : Int} {A0 A : hs_A} (hA : hJ 5 Bn Br A0 A) (hc0 : 420 ≤ (A.1 367 37).toInt) (hc1 : ¬ (A.1 367 13).toInt = 0 ∨ (A.1 367 37).toInt ≤ 420 + (A.1 367 11).toInt) (hc2 : (A.1 367 37).toInt ≤ 822) (ho : ¬ (A.1 367 13).toInt = 0 ∨ (A.1 367 12).toInt ≤ 6) (hl : (A0.1 367 18).toInt = 0) (fl0 : 130 ≤ (A.1 367 31).toInt) (fh0 : (A.1 367 31).toInt ≤ 259) : hxC (d + 5) 158 hm_m158 [.ref 368] A (fun r A' => hJ 5 Bn Br A0 A' ∧ A'.1 367 19 = A.1 367 19 ∧ A'.1 367 20 = A.1 367 20 ∧ A'.2.1 376 = A.2.1 376 ∧ A'.2.1 385 = A.2.1 385 ∧ A'.2.1 386 = A.2.1 386 ∧ A'.2.1 387 = A.2.1 387 ∧ r = none ∧ ((¬ (A'.1 367 13).toInt = 0 ∨ ((A.1 367 13).toInt = 0 ∧ (A.1 367 11).toInt + 1 ≤ (A'.1 367 11).toInt ∧ (A'.1 367 12).toInt = (A.1 367 12).toInt ∧ (A'.1 367 37).toInt ≤ 420 + (A'.1 367 11).toInt ∧ hSg 1 A' (A'.2.1 388 (A.1 367 31).toNatClampNeg) (A'.2.1 389 (A.1 367 31).toNatClampNeg))) ∧ (A.1 367 11).toInt ≤ (A'.1 367 11).toInt ∧ (A.1 367 37).toInt ≤ (A'.1 367 37).toInt ∧ (A'.1 367 37).toInt ≤ 822 ∧ ((A'.1 367 31).toInt = (A.1 367 31).toInt + 1 ∧ (A'.2.1 388 (A.1 367 31).toNatClampNeg).toInt = (A.1 367 37).toInt) ∧ hM (A.1 367 37).toInt.toNat (A.1 367 31).toNatClampNeg A A')) := hxC.of (by rfl) (hY158q5 hA hc0 hc1 hc2 ho hl fl0 fh0 (fun r A' h => h))
