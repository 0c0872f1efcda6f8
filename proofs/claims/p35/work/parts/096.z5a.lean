theorem hY159q4 {d : Nat} {Bn Br : Int} {A0 A : hs_A} (hA : hJ 4 Bn Br A0 A) (hl : (A0.1 367 18).toInt = 1) (a1 : Int32) (a2 : Int32) (fl0 : 0 ≤ (A.1 367 37).toInt) (fh0 : (A.1 367 37).toInt ≤ 419) {P : Option Value → hs_A → Prop} (hP : ∀ (r : Option Value) (A' : hs_A), (hJ 4 Bn Br A0 A' ∧ A'.1 367 12 = A.1 367 12 ∧ A'.1 367 19 = A.1 367 19 ∧ A'.1 367 20 = A.1 367 20 ∧ A'.1 367 31 = A.1 367 31 ∧ A'.1 367 41 = A.1 367 41 ∧ A'.1 367 11 = A.1 367 11 ∧ A'.1 367 13 = A.1 367 13 ∧ A'.2.1 376 = A.2.1 376 ∧ A'.2.1 385 = A.2.1 385 ∧ A'.2.1 386 = A.2.1 386 ∧ A'.2.1 387 = A.2.1 387 ∧ r = none ∧ ((A'.1 367 37).toInt = (A.1 367 37).toInt + 1 ∧ A'.2.1 = hs_up (hs_up A.2.1 390 (A.1 367 37).toNatClampNeg a1) 391 (A.1 367 37).toNatClampNeg a2)) → P r A') : hxa (d + 0) none hm_t159 0 [.ref 368, .int a1, .int a2] [] A P := by
  have fb367_11 := hA.f (i := 367) (k := 11) (by rfl)
  have fb367_12 := hA.f (i := 367) (k := 12) (by rfl)
  have fb367_13 := hA.f (i := 367) (k := 13) (by rfl)
  have fb367_19 := hA.f (i := 367) (k := 19) (by rfl)
  have fb367_20 := hA.f (i := 367) (k := 20) (by rfl)
  have fb367_31 := hA.f (i := 367) (k := 31) (by rfl)
  have fb367_41 := hA.f (i := 367) (k := 41) (by rfl)
  refine hxa_aload_n (by rfl) rfl ?_
  refine hxa_get (v := .ref 391) (by rfl) (by rfl) (by rfl) rfl ?_
  refine hxa_aload_n (by rfl) rfl ?_
  refine hxj_getK (by rfl) (by rfl) (by rfl) rfl ?_
  refine hxa_iload_n (by rfl) rfl ?_
  refine hxj_iastE (by rfl) (by rfl) rfl (by omega) (by omega) hA (by omega) (hlrC hl rfl (by omega) (by omega) (by omega)) (fun A1 hA1 eA1 fA1 gA1 => ?_)
  refine hxa_aload_n (by rfl) rfl ?_
  refine hxa_get (v := .ref 392) (by rfl) (by rfl) (by rfl) rfl ?_
  refine hxa_aload_n (by rfl) rfl ?_
  refine hxj_getK (by rfl) (by rfl) (by rfl) (hkA eA1 rfl) ?_
  refine hxa_iload_n (by rfl) rfl ?_
  refine hxj_iastE (by rfl) (by rfl) rfl (by omega) (by omega) hA1 (by omega) (hlrC hl rfl (by omega) (by omega) (by omega)) (fun A2 hA2 eA2 fA2 gA2 => ?_)
  refine hxa_aload_n (by rfl) rfl ?_
  refine hxa_dupR (by rfl) ?_
  refine hxj_getK (by rfl) (by rfl) (by rfl) (hkA eA2 (hkA eA1 rfl)) ?_
  refine hxa_iconst (by rfl) rfl ?_
  refine hxj_iadd (by rfl) rfl hk_1 (by omega) (by omega) (fun z3 ez3 => ?_)
  refine hxj_putI (by rfl) (by rfl) (by rfl) (by rfl) hA2 (hbok (by rfl) rfl (by omega) (by omega)) (by rfl) (by rfl) (fun A4 hA4 eA4 fA4 => ?_)
  exact hxa_return (by rfl) rfl (hP _ _ ⟨hA4, (hkF eA4 (by first | decide | omega) (hkA eA2 (hkA eA1 rfl))), (hkF eA4 (by first | decide | omega) (hkA eA2 (hkA eA1 rfl))), (hkF eA4 (by first | decide | omega) (hkA eA2 (hkA eA1 rfl))), (hkF eA4 (by first | decide | omega) (hkA eA2 (hkA eA1 rfl))), (hkF eA4 (by first | decide | omega) (hkA eA2 (hkA eA1 rfl))), (hkF eA4 (by first | decide | omega) (hkA eA2 (hkA eA1 rfl))), (hkF eA4 (by first | decide | omega) (hkA eA2 (hkA eA1 rfl))), (hafF fA4 (hafA fA2 (by first | decide | omega) (hafA fA1 (by first | decide | omega) rfl))), (hafF fA4 (hafA fA2 (by first | decide | omega) (hafA fA1 (by first | decide | omega) rfl))), (hafF fA4 (hafA fA2 (by first | decide | omega) (hafA fA1 (by first | decide | omega) rfl))), (hafF fA4 (hafA fA2 (by first | decide | omega) (hafA fA1 (by first | decide | omega) rfl))), rfl, ⟨by rw [(show A4.1 367 37 = z3 from (hkS eA4))]; omega, by rw [(show A4.2.1 = A2.2.1 from congrArg Prod.fst fA4), fA2, fA1]⟩⟩)
theorem hX159q4 {d : Nat} {Bn Br : Int} {A0 A : hs_A} (hA : hJ 4 Bn Br A0 A) (hl : (A0.1 367 18).toInt = 1) (a1 : Int32) (a2 : Int32) (fl0 : 0 ≤ (A.1 367 37).toInt) (fh0 : (A.1 367 37).toInt ≤ 419) : hxC (d + 1) 159 hm_m159 [.ref 368, .int a1, .int a2] A (fun r A' => hJ 4 Bn Br A0 A' ∧ A'.1 367 12 = A.1 367 12 ∧ A'.1 367 19 = A.1 367 19 ∧ A'.1 367 20 = A.1 367 20 ∧ A'.1 367 31 = A.1 367 31 ∧ A'.1 367 41 = A.1 367 41 ∧ A'.1 367 11 = A.1 367 11 ∧ A'.1 367 13 = A.1 367 13 ∧ A'.2.1 376 = A.2.1 376 ∧ A'.2.1 385 = A.2.1 385 ∧ A'.2.1 386 = A.2.1 386 ∧ A'.2.1 387 = A.2.1 387 ∧ r = none ∧ ((A'.1 367 37).toInt = (A.1 367 37).toInt + 1 ∧ A'.2.1 = hs_up (hs_up A.2.1 390 (A.1 367 37).toNatClampNeg a1) 391 (A.1 367 37).toNatClampNeg a2)) := hxC.of (by rfl) (hY159q4 hA hl a1 a2 fl0 fh0 (fun r A' h => h))
theorem hY162q4 {d : Nat} {Bn Br : Int} {A0 A : hs_A} (hA : hJ 4 Bn Br A0 A) {f : Int} {o g : Nat} (hqq : hQ 0 f o g 0 A) (hl : (A0.1 367 18).toInt = 1)  {P : Option Value → hs_A → Prop} (hP : ∀ (r : Option Value) (A' : hs_A), (hJ 4 Bn Br A0 A' ∧ A'.1 367 12 = A.1 367 12 ∧ A'.1 367 19 = A.1 367 19 ∧ A'.1 367 20 = A.1 367 20 ∧ A'.1 367 31 = A.1 367 31 ∧ A'.1 367 41 = A.1 367 41 ∧ A'.2.1 376 = A.2.1 376 ∧ A'.2.1 385 = A.2.1 385 ∧ A'.2.1 386 = A.2.1 386 ∧ A'.2.1 387 = A.2.1 387 ∧ r = none ∧ ((¬ (A'.1 367 13).toInt = 0 ∨ ((A.1 367 13).toInt = 0 ∧ (A'.1 367 11).toInt = (A.1 367 11).toInt + 1 ∧ hQ 0 f o g 1 A')) ∧ (A.1 367 11).toInt ≤ (A'.1 367 11).toInt ∧ (A.1 367 37).toInt ≤ (A'.1 367 37).toInt ∧ (A'.1 367 37).toInt ≤ (A.1 367 37).toInt + 1 ∧ hK (A.1 367 37).toInt.toNat A A' ∧ A'.2.1 392 = A.2.1 392)) → P r A') : hxa (d + 2) none hm_t162 0 [.ref 368] [] A P := by
  have k0 := hk_0
  have k1 := hk_1
  have k2 := hk_2
  have fb367_11 := hA.f (i := 367) (k := 11) (by rfl)
  have fb367_12 := hA.f (i := 367) (k := 12) (by rfl)
  have fb367_13 := hA.f (i := 367) (k := 13) (by rfl)
  have fb367_19 := hA.f (i := 367) (k := 19) (by rfl)
  have fb367_20 := hA.f (i := 367) (k := 20) (by rfl)
  have fb367_31 := hA.f (i := 367) (k := 31) (by rfl)
  have fb367_37 := hA.f (i := 367) (k := 37) (by rfl)
  have fb367_41 := hA.f (i := 367) (k := 41) (by rfl)
  have cb1 := hQ.cb hqq (hA.f (i := 367) (k := 11) (by rfl)).2
  refine hxa_aload_n (by rfl) rfl ?_
  refine hxa_iconst (by rfl) rfl ?_
  refine hxa_call0 (by rfl) (by rfl) (by rfl) (by rfl) (by rfl) (by rfl) (hX144q4 (d := d + 1) hA (Int32.ofNat 2)) ?_
  rintro _ _ ⟨rfl, z2, rfl, fz2⟩
  rcases fz2 with fz2 | fz2
  ·
    refine hxj_zeq (by rfl) rfl (fun q3 => False.elim (by omega)) (fun q3 => ?_)
    refine hxa_aload_n (by rfl) rfl ?_
    refine hxa_iconst (by rfl) rfl ?_
    refine hxa_aload_n (by rfl) rfl ?_
    refine hxa_get (v := .ref 373) (by rfl) (by rfl) (by rfl) rfl ?_
    refine hxa_aload_n (by rfl) rfl ?_
    refine hxj_getK (by rfl) (by rfl) (by rfl) rfl ?_
    refine hxj_ialdB (by rfl) (by rfl) rfl (by omega) (by omega) hA (by rfl) (fun z4 ez4 fz4 gz4 => ?_)
    refine hxa_call0 (by rfl) (by rfl) (by rfl) (by rfl) (by rfl) (by rfl) (hX159q4 (d := d + 1) hA (by omega) (Int32.ofNat 0) z4 (by omega) (by omega)) ?_
    rintro _ A5 ⟨hA5, frA5_0, frA5_1, frA5_2, frA5_3, frA5_4, frA5_5, frA5_6, afA5_376, afA5_385, afA5_386, afA5_387, rfl, fA5⟩
    have ttA5_12 : (A5.1 367 12).toInt = (A.1 367 12).toInt := congrArg Int32.toInt (frA5_0.trans rfl)
    have ttA5_19 : (A5.1 367 19).toInt = (A.1 367 19).toInt := congrArg Int32.toInt (frA5_1.trans rfl)
    have ttA5_20 : (A5.1 367 20).toInt = (A.1 367 20).toInt := congrArg Int32.toInt (frA5_2.trans rfl)
    have ttA5_31 : (A5.1 367 31).toInt = (A.1 367 31).toInt := congrArg Int32.toInt (frA5_3.trans rfl)
    have ttA5_41 : (A5.1 367 41).toInt = (A.1 367 41).toInt := congrArg Int32.toInt (frA5_4.trans rfl)
    have ttA5_11 : (A5.1 367 11).toInt = (A.1 367 11).toInt := congrArg Int32.toInt (frA5_5.trans rfl)
    have ttA5_13 : (A5.1 367 13).toInt = (A.1 367 13).toInt := congrArg Int32.toInt (frA5_6.trans rfl)
    have fbA5_367_37 := hA5.f (i := 367) (k := 37) (by rfl)
    refine hxa_aload_n (by rfl) rfl ?_
    refine hxa_call0 (by rfl) (by rfl) (by rfl) (by rfl) (by rfl) (by rfl) (hX147q4 (d := d + 0) hA5 ) ?_
    rintro _ A6 ⟨hA6, frA6_0, frA6_1, frA6_2, frA6_3, frA6_4, frA6_5, aeA6, rfl, fA6⟩
    have ttA6_12 : (A6.1 367 12).toInt = (A.1 367 12).toInt := congrArg Int32.toInt (frA6_0.trans (frA5_0.trans rfl))
    have ttA6_19 : (A6.1 367 19).toInt = (A.1 367 19).toInt := congrArg Int32.toInt (frA6_1.trans (frA5_1.trans rfl))
    have ttA6_20 : (A6.1 367 20).toInt = (A.1 367 20).toInt := congrArg Int32.toInt (frA6_2.trans (frA5_2.trans rfl))
    have ttA6_31 : (A6.1 367 31).toInt = (A.1 367 31).toInt := congrArg Int32.toInt (frA6_3.trans (frA5_3.trans rfl))
    have ttA6_37 : (A6.1 367 37).toInt = (A5.1 367 37).toInt := congrArg Int32.toInt (frA6_4.trans rfl)
    have ttA6_41 : (A6.1 367 41).toInt = (A.1 367 41).toInt := congrArg Int32.toInt (frA6_5.trans (frA5_4.trans rfl))
    have fbA6_367_11 := hA6.f (i := 367) (k := 11) (by rfl)
    have fbA6_367_13 := hA6.f (i := 367) (k := 13) (by rfl)
    refine hxa_goto (by rfl) ?_
    exact hxa_return (by rfl) rfl (hP _ _ ⟨hA6, (frA6_0.trans (frA5_0.trans rfl)), (frA6_1.trans (frA5_1.trans rfl)), (frA6_2.trans (frA5_2.trans rfl)), (frA6_3.trans (frA5_3.trans rfl)), (frA6_5.trans (frA5_4.trans rfl)), (hafL aeA6 (afA5_376.trans rfl)), (hafL aeA6 (afA5_385.trans rfl)), (hafL aeA6 (afA5_386.trans rfl)), (hafL aeA6 (afA5_387.trans rfl)), rfl, hUnit hqq fA5.1 fA5.2 ttA6_37 ttA6_41 ttA5_11 ttA5_13 aeA6 fA6 (by omega)⟩)
  ·
    refine hxj_zeq (by rfl) rfl (fun q7 => ?_) (fun q7 => False.elim (by omega))
    refine hxa_aload_n (by rfl) rfl ?_
    refine hxj_getK (by rfl) (by rfl) (by rfl) rfl ?_
    refine hxj_zne (by rfl) rfl (fun q8 => ?_) (fun q8 => ?_)
    ·
      refine hxa_aload_n (by rfl) rfl ?_
      refine hxa_iconst (by rfl) rfl ?_
      refine hxa_call0 (by rfl) (by rfl) (by rfl) (by rfl) (by rfl) (by rfl) (hX145q4 (d := d + 1) hA (Int32.ofNat 1) (by omega) (by omega)) ?_
      rintro _ A9 ⟨hA9, frA9_0, frA9_1, frA9_2, frA9_3, frA9_4, frA9_5, aeA9, rfl, fA9⟩
      have ttA9_12 : (A9.1 367 12).toInt = (A.1 367 12).toInt := congrArg Int32.toInt (frA9_0.trans rfl)
      have ttA9_19 : (A9.1 367 19).toInt = (A.1 367 19).toInt := congrArg Int32.toInt (frA9_1.trans rfl)
      have ttA9_20 : (A9.1 367 20).toInt = (A.1 367 20).toInt := congrArg Int32.toInt (frA9_2.trans rfl)
      have ttA9_31 : (A9.1 367 31).toInt = (A.1 367 31).toInt := congrArg Int32.toInt (frA9_3.trans rfl)
      have ttA9_37 : (A9.1 367 37).toInt = (A.1 367 37).toInt := congrArg Int32.toInt (frA9_4.trans rfl)
      have ttA9_41 : (A9.1 367 41).toInt = (A.1 367 41).toInt := congrArg Int32.toInt (frA9_5.trans rfl)
      have fbA9_367_11 := hA9.f (i := 367) (k := 11) (by rfl)
      have fbA9_367_13 := hA9.f (i := 367) (k := 13) (by rfl)
      exact hxa_return (by rfl) rfl (hP _ _ ⟨hA9, (frA9_0.trans rfl), (frA9_1.trans rfl), (frA9_2.trans rfl), (frA9_3.trans rfl), (frA9_5.trans rfl), (hafL aeA9 rfl), (hafL aeA9 rfl), (hafL aeA9 rfl), (hafL aeA9 rfl), rfl, hUnitF ttA9_37 aeA9 fA9⟩)
    ·
      refine hxa_aload_n (by rfl) rfl ?_
      refine hxa_get (v := .ref 371) (by rfl) (by rfl) (by rfl) rfl ?_
      refine hxa_aload_n (by rfl) rfl ?_
      refine hxj_getK (by rfl) (by rfl) (by rfl) rfl ?_
      refine hxj_ialdB (by rfl) (by rfl) rfl (by omega) (by omega) hA (by rfl) (fun z10 ez10 fz10 gz10 => ?_)
      refine hxa_bipush (by rfl) rfl ?_
      refine hxj_clt (by rfl) rfl hk_31 (fun q11 => ?_) (fun q11 => ?_)
      ·
        refine hxa_aload_n (by rfl) rfl ?_
        refine hxa_iconst (by rfl) rfl ?_
        refine hxa_call0 (by rfl) (by rfl) (by rfl) (by rfl) (by rfl) (by rfl) (hX145q4 (d := d + 1) hA (Int32.ofNat 1) (by omega) (by omega)) ?_
        rintro _ A12 ⟨hA12, frA12_0, frA12_1, frA12_2, frA12_3, frA12_4, frA12_5, aeA12, rfl, fA12⟩
        have ttA12_12 : (A12.1 367 12).toInt = (A.1 367 12).toInt := congrArg Int32.toInt (frA12_0.trans rfl)
        have ttA12_19 : (A12.1 367 19).toInt = (A.1 367 19).toInt := congrArg Int32.toInt (frA12_1.trans rfl)
        have ttA12_20 : (A12.1 367 20).toInt = (A.1 367 20).toInt := congrArg Int32.toInt (frA12_2.trans rfl)
        have ttA12_31 : (A12.1 367 31).toInt = (A.1 367 31).toInt := congrArg Int32.toInt (frA12_3.trans rfl)
        have ttA12_37 : (A12.1 367 37).toInt = (A.1 367 37).toInt := congrArg Int32.toInt (frA12_4.trans rfl)
        have ttA12_41 : (A12.1 367 41).toInt = (A.1 367 41).toInt := congrArg Int32.toInt (frA12_5.trans rfl)
        have fbA12_367_11 := hA12.f (i := 367) (k := 11) (by rfl)
        have fbA12_367_13 := hA12.f (i := 367) (k := 13) (by rfl)
        exact hxa_return (by rfl) rfl (hP _ _ ⟨hA12, (frA12_0.trans rfl), (frA12_1.trans rfl), (frA12_2.trans rfl), (frA12_3.trans rfl), (frA12_5.trans rfl), (hafL aeA12 rfl), (hafL aeA12 rfl), (hafL aeA12 rfl), (hafL aeA12 rfl), rfl, hUnitF ttA12_37 aeA12 fA12⟩)
      ·
        refine hxa_aload_n (by rfl) rfl ?_
        refine hxa_get (v := .ref 371) (by rfl) (by rfl) (by rfl) rfl ?_
        refine hxa_aload_n (by rfl) rfl ?_
        refine hxj_getK (by rfl) (by rfl) (by rfl) rfl ?_
        refine hxj_ialdK (by rfl) (by rfl) rfl (by omega) (by omega) ez10 ?_
        refine hxa_bipush (by rfl) rfl ?_
        refine hxj_cgt (by rfl) rfl hk_39 (fun q13 => False.elim (by omega)) (fun q13 => ?_)
        refine hxa_aload_n (by rfl) rfl ?_
        refine hxa_iconst (by rfl) rfl ?_
        refine hxa_aload_n (by rfl) rfl ?_
        refine hxa_get (v := .ref 371) (by rfl) (by rfl) (by rfl) rfl ?_
        refine hxa_aload_n (by rfl) rfl ?_
        refine hxj_getK (by rfl) (by rfl) (by rfl) rfl ?_
        refine hxj_ialdK (by rfl) (by rfl) rfl (by omega) (by omega) ez10 ?_
        refine hxa_bipush (by rfl) rfl ?_
        refine hxj_isub (by rfl) rfl hk_31 (by omega) (by omega) (fun z14 ez14 => ?_)
        refine hxa_call0 (by rfl) (by rfl) (by rfl) (by rfl) (by rfl) (by rfl) (hX159q4 (d := d + 1) hA (by omega) (Int32.ofNat 1) z14 (by omega) (by omega)) ?_
        rintro _ A15 ⟨hA15, frA15_0, frA15_1, frA15_2, frA15_3, frA15_4, frA15_5, frA15_6, afA15_376, afA15_385, afA15_386, afA15_387, rfl, fA15⟩
        have ttA15_12 : (A15.1 367 12).toInt = (A.1 367 12).toInt := congrArg Int32.toInt (frA15_0.trans rfl)
        have ttA15_19 : (A15.1 367 19).toInt = (A.1 367 19).toInt := congrArg Int32.toInt (frA15_1.trans rfl)
        have ttA15_20 : (A15.1 367 20).toInt = (A.1 367 20).toInt := congrArg Int32.toInt (frA15_2.trans rfl)
        have ttA15_31 : (A15.1 367 31).toInt = (A.1 367 31).toInt := congrArg Int32.toInt (frA15_3.trans rfl)
        have ttA15_41 : (A15.1 367 41).toInt = (A.1 367 41).toInt := congrArg Int32.toInt (frA15_4.trans rfl)
        have ttA15_11 : (A15.1 367 11).toInt = (A.1 367 11).toInt := congrArg Int32.toInt (frA15_5.trans rfl)
        have ttA15_13 : (A15.1 367 13).toInt = (A.1 367 13).toInt := congrArg Int32.toInt (frA15_6.trans rfl)
        have fbA15_367_37 := hA15.f (i := 367) (k := 37) (by rfl)
        refine hxa_aload_n (by rfl) rfl ?_
        refine hxa_call0 (by rfl) (by rfl) (by rfl) (by rfl) (by rfl) (by rfl) (hX147q4 (d := d + 0) hA15 ) ?_
        rintro _ A16 ⟨hA16, frA16_0, frA16_1, frA16_2, frA16_3, frA16_4, frA16_5, aeA16, rfl, fA16⟩
        have ttA16_12 : (A16.1 367 12).toInt = (A.1 367 12).toInt := congrArg Int32.toInt (frA16_0.trans (frA15_0.trans rfl))
        have ttA16_19 : (A16.1 367 19).toInt = (A.1 367 19).toInt := congrArg Int32.toInt (frA16_1.trans (frA15_1.trans rfl))
        have ttA16_20 : (A16.1 367 20).toInt = (A.1 367 20).toInt := congrArg Int32.toInt (frA16_2.trans (frA15_2.trans rfl))
        have ttA16_31 : (A16.1 367 31).toInt = (A.1 367 31).toInt := congrArg Int32.toInt (frA16_3.trans (frA15_3.trans rfl))
        have ttA16_37 : (A16.1 367 37).toInt = (A15.1 367 37).toInt := congrArg Int32.toInt (frA16_4.trans rfl)
        have ttA16_41 : (A16.1 367 41).toInt = (A.1 367 41).toInt := congrArg Int32.toInt (frA16_5.trans (frA15_4.trans rfl))
        have fbA16_367_11 := hA16.f (i := 367) (k := 11) (by rfl)
        have fbA16_367_13 := hA16.f (i := 367) (k := 13) (by rfl)
        refine hxa_goto (by rfl) ?_
        exact hxa_return (by rfl) rfl (hP _ _ ⟨hA16, (frA16_0.trans (frA15_0.trans rfl)), (frA16_1.trans (frA15_1.trans rfl)), (frA16_2.trans (frA15_2.trans rfl)), (frA16_3.trans (frA15_3.trans rfl)), (frA16_5.trans (frA15_4.trans rfl)), (hafL aeA16 (afA15_376.trans rfl)), (hafL aeA16 (afA15_385.trans rfl)), (hafL aeA16 (afA15_386.trans rfl)), (hafL aeA16 (afA15_387.trans rfl)), rfl, hUnit hqq fA15.1 fA15.2 ttA16_37 ttA16_41 ttA15_11 ttA15_13 aeA16 fA16 (by omega)⟩)
theorem hX162q4 {d : Nat} {Bn Br : Int} {A0 A : hs_A} (hA : hJ 4 Bn Br A0 A) {f : Int} {o g : Nat} (hqq : hQ 0 f o g 0 A) (hl : (A0.1 367 18).toInt = 1)  : hxC (d + 3) 162 hm_m162 [.ref 368] A (fun r A' => hJ 4 Bn Br A0 A' ∧ A'.1 367 12 = A.1 367 12 ∧ A'.1 367 19 = A.1 367 19 ∧ A'.1 367 20 = A.1 367 20 ∧ A'.1 367 31 = A.1 367 31 ∧ A'.1 367 41 = A.1 367 41 ∧ A'.2.1 376 = A.2.1 376 ∧ A'.2.1 385 = A.2.1 385 ∧ A'.2.1 386 = A.2.1 386 ∧ A'.2.1 387 = A.2.1 387 ∧ r = none ∧ ((¬ (A'.1 367 13).toInt = 0 ∨ ((A.1 367 13).toInt = 0 ∧ (A'.1 367 11).toInt = (A.1 367 11).toInt + 1 ∧ hQ 0 f o g 1 A')) ∧ (A.1 367 11).toInt ≤ (A'.1 367 11).toInt ∧ (A.1 367 37).toInt ≤ (A'.1 367 37).toInt ∧ (A'.1 367 37).toInt ≤ (A.1 367 37).toInt + 1 ∧ hK (A.1 367 37).toInt.toNat A A' ∧ A'.2.1 392 = A.2.1 392)) := hxC.of (by rfl) (hY162q4 hA hqq hl (fun r A' h => h))
theorem hY160q4 {d : Nat} {Bn Br : Int} {A0 A : hs_A} (hA : hJ 4 Bn Br A0 A) {f : Int} {o g : Nat} (hqq : hQ 0 f o g 1 A) (hl : (A0.1 367 18).toInt = 1) (a1 : Int32) (p1 : 0 ≤ a1.toInt) (q1 : a1.toInt ≤ 1) {P : Option Value → hs_A → Prop} (hP : ∀ (r : Option Value) (A' : hs_A), (hJ 4 Bn Br A0 A' ∧ A'.1 367 12 = A.1 367 12 ∧ A'.1 367 19 = A.1 367 19 ∧ A'.1 367 20 = A.1 367 20 ∧ A'.1 367 31 = A.1 367 31 ∧ A'.1 367 11 = A.1 367 11 ∧ A'.1 367 13 = A.1 367 13 ∧ A'.2.1 376 = A.2.1 376 ∧ A'.2.1 385 = A.2.1 385 ∧ A'.2.1 386 = A.2.1 386 ∧ A'.2.1 387 = A.2.1 387 ∧ r = none ∧ (∃ g2 : Nat, hQ 0 f o g2 1 A' ∧ g2 ≤ 1 ∧ (a1.toInt = 0 → g2 = 0) ∧ hK (A.1 367 37).toInt.toNat A A' ∧ A'.2.1 392 = A.2.1 392 ∧ (A.1 367 37).toInt ≤ (A'.1 367 37).toInt)) → P r A') : hxa (d + 1) none hm_t160 0 [.ref 368, .int a1, .retAddr 0] [] A P := by
  have k0 := hk_0
  have k2 := hk_2
  have k3 := hk_3
  have k4 := hk_4
  have k5 := hk_5
  have fb367_11 := hA.f (i := 367) (k := 11) (by rfl)
  have fb367_12 := hA.f (i := 367) (k := 12) (by rfl)
  have fb367_13 := hA.f (i := 367) (k := 13) (by rfl)
  have fb367_19 := hA.f (i := 367) (k := 19) (by rfl)
  have fb367_20 := hA.f (i := 367) (k := 20) (by rfl)
  have fb367_31 := hA.f (i := 367) (k := 31) (by rfl)
  have fb367_37 := hA.f (i := 367) (k := 37) (by rfl)
  have fb367_41 := hA.f (i := 367) (k := 41) (by rfl)
  have hw' := hqq.2.1
  have cb1 := hQ.cb hqq (hA.f (i := 367) (k := 11) (by rfl)).2
  have L0 : ∀ (m0 : Nat) (w0_6 : Int32) (w0_7 : Int32) (x0_2 : Int32) (Ac0 : hs_A) (hAc0 : hJ 4 Bn Br A0 Ac0) (ek0_0 : Ac0.1 367 11 = (A.1 367 11)) (ek0_1 : Ac0.1 367 12 = (A.1 367 12)) (ek0_2 : Ac0.1 367 13 = (A.1 367 13)) (ek0_3 : Ac0.1 367 19 = (A.1 367 19)) (ek0_4 : Ac0.1 367 20 = (A.1 367 20)) (ek0_5 : Ac0.1 367 31 = (A.1 367 31)) (ek0_6 : Ac0.1 367 37 = w0_6) (ek0_7 : Ac0.1 367 41 = w0_7) (af0_376 : Ac0.2.1 376 = A.2.1 376) (af0_385 : Ac0.2.1 385 = A.2.1 385) (af0_386 : Ac0.2.1 386 = A.2.1 386) (af0_387 : Ac0.2.1 387 = A.2.1 387) (bx0_2 : 8 ≤ x0_2.toInt) (cx0_2 : x0_2.toInt ≤ 15) (bw0_6 : 0 ≤ w0_6.toInt) (cw0_6 : w0_6.toInt ≤ 840) (bw0_7 : 0 ≤ w0_7.toInt) (cw0_7 : w0_7.toInt ≤ 63) (b_A_1_367_41_ : 1 ≤ (A.1 367 41).toInt) (u0_0 : ∃ g2 : Nat, hQ 0 f o g2 1 Ac0 ∧ hK (A.1 367 37).toInt.toNat A Ac0 ∧ Ac0.2.1 392 = A.2.1 392 ∧ (A.1 367 37).toInt ≤ (Ac0.1 367 37).toInt) (hm0 : w0_7.toInt < (m0 : Int)), hxa (d + 1) none hm_t160 0 [.ref 368, .int a1, .int x0_2] [] Ac0 P := by
    intro m0
    induction m0 with
    | zero => intro w0_6 w0_7 x0_2 Ac0 hAc0 ek0_0 ek0_1 ek0_2 ek0_3 ek0_4 ek0_5 ek0_6 ek0_7 af0_376 af0_385 af0_386 af0_387 bx0_2 cx0_2 bw0_6 cw0_6 bw0_7 cw0_7 b_A_1_367_41_ u0_0 hm0;  exact False.elim (by omega)
    | succ m0 ih0 =>
      intro w0_6 w0_7 x0_2 Ac0 hAc0 ek0_0 ek0_1 ek0_2 ek0_3 ek0_4 ek0_5 ek0_6 ek0_7 af0_376 af0_385 af0_386 af0_387 bx0_2 cx0_2 bw0_6 cw0_6 bw0_7 cw0_7 b_A_1_367_41_ u0_0 hm0
      have tk0_6 : (Ac0.1 367 37).toInt = w0_6.toInt := congrArg Int32.toInt ek0_6
      have tk0_7 : (Ac0.1 367 41).toInt = w0_7.toInt := congrArg Int32.toInt ek0_7
      obtain ⟨g2, hq2, hk2, h92, hc2⟩ := u0_0
      have hw2 := hq2.2.1
      have nAc0_37 : (Ac0.1 367 37).toInt = w0_6.toInt := congrArg Int32.toInt ek0_6
      have nAc0_41 : (Ac0.1 367 41).toInt = w0_7.toInt := congrArg Int32.toInt ek0_7
      have cb2 := hQ.cb hq2 (hAc0.f (i := 367) (k := 11) (by rfl)).2
      refine hxa_aload_n (by rfl) rfl ?_
      refine hxj_getK (by rfl) (by rfl) (by rfl) ek0_7 ?_
      refine hxj_zle (by rfl) rfl (fun q3 => ?_) (fun q3 => ?_)
      ·
        exact hxa_return (by rfl) rfl (hP _ _ ⟨hAc0, ek0_1, ek0_3, ek0_4, ek0_5, ek0_0, ek0_2, af0_376, af0_385, af0_386, af0_387, rfl, ⟨_, hq2, by have := hq2.zero (by omega); omega, fun _ => hq2.zero (by omega), hk2, h92, by omega⟩⟩)
      ·
        refine hxa_aload_n (by rfl) rfl ?_
        refine hxa_get (v := .ref 393) (by rfl) (by rfl) (by rfl) rfl ?_
        refine hxa_aload_n (by rfl) rfl ?_
        refine hxj_getK (by rfl) (by rfl) (by rfl) ek0_7 ?_
        refine hxa_iconst (by rfl) rfl ?_
        refine hxj_isub (by rfl) rfl hk_1 (by omega) (by omega) (fun z4 ez4 => ?_)
        refine hxj_iald (by rfl) (by rfl) rfl (by omega) (by omega) (fun z5 ez5 => ?_)
        rcases hQ.top hq2 (by omega) (j := z4) (by omega) ez5 with ⟨hz, hg⟩ | ⟨hz, hg, hn⟩ | ⟨hz, g9, hg, hn⟩
        ·
          refine hxa_s1 (by rfl) (Or.inl ⟨_, rfl, rfl⟩) rfl ?_
          refine hxa_iload_n (by rfl) rfl ?_
          refine hxa_bipush (by rfl) rfl ?_
          refine hxj_ceq (by rfl) rfl hk_6 (fun q6 => ?_) (fun q6 => False.elim (by omega))
          exact hxa_return (by rfl) rfl (hP _ _ ⟨hAc0, ek0_1, ek0_3, ek0_4, ek0_5, ek0_0, ek0_2, af0_376, af0_385, af0_386, af0_387, rfl, ⟨_, hq2, by omega, by intro _; omega, hk2, h92, by omega⟩⟩)
        ·
          refine hxa_s1 (by rfl) (Or.inl ⟨_, rfl, rfl⟩) rfl ?_
          refine hxa_iload_n (by rfl) rfl ?_
          refine hxa_bipush (by rfl) rfl ?_
          refine hxj_ceq (by rfl) rfl hk_6 (fun q7 => False.elim (by omega)) (fun q7 => ?_)
          refine hxa_iload_n (by rfl) rfl ?_
          refine hxj_zeq (by rfl) rfl (fun q8 => ?_) (fun q8 => ?_)
          ·
            refine hxa_aload_n (by rfl) rfl ?_
            refine hxa_dupR (by rfl) ?_
            refine hxj_getK (by rfl) (by rfl) (by rfl) ek0_7 ?_
            refine hxa_iconst (by rfl) rfl ?_
            refine hxj_isub (by rfl) rfl hk_1 (by omega) (by omega) (fun z9 ez9 => ?_)
            refine hxj_putI (by rfl) (by rfl) (by rfl) (by rfl) hAc0 (hbok (by rfl) rfl (by omega) (by omega)) (by rfl) (by rfl) (fun A10 hA10 eA10 fA10 => ?_)
            refine hxa_aload_n (by rfl) rfl ?_
            refine hxa_iload_n (by rfl) rfl ?_
            refine hxa_bipush (by rfl) rfl ?_
            refine hxj_cne (by rfl) rfl hk_8 (fun q11 => ?_) (fun q11 => ?_)
            ·
              refine hxa_iload_n (by rfl) rfl ?_
              refine hxa_bipush (by rfl) rfl ?_
              refine hxj_cne (by rfl) rfl hk_9 (fun q12 => False.elim (by omega)) (fun q12 => ?_)
              refine hxa_iconst (by rfl) rfl ?_
              refine hxa_goto (by rfl) ?_
              refine hxa_iconst (by rfl) rfl ?_
              refine hxa_call0 (by rfl) (by rfl) (by rfl) (by rfl) (by rfl) (by rfl) (hX159q4 (d := d + 0) hA10 (by omega) (Int32.ofNat 3) (Int32.ofNat 0) (by rw [(show A10.1 367 37 = w0_6 from (hkF eA10 (by first | decide | omega) ek0_6))]; omega) (by rw [(show A10.1 367 37 = w0_6 from (hkF eA10 (by first | decide | omega) ek0_6))]; omega)) ?_
              rintro _ A13 ⟨hA13, frA13_0, frA13_1, frA13_2, frA13_3, frA13_4, frA13_5, frA13_6, afA13_376, afA13_385, afA13_386, afA13_387, rfl, fA13⟩
              have ttA13_12 : (A13.1 367 12).toInt = (A.1 367 12).toInt := congrArg Int32.toInt (frA13_0.trans (hkF eA10 (by first | decide | omega) ek0_1))
              have ttA13_19 : (A13.1 367 19).toInt = (A.1 367 19).toInt := congrArg Int32.toInt (frA13_1.trans (hkF eA10 (by first | decide | omega) ek0_3))
              have ttA13_20 : (A13.1 367 20).toInt = (A.1 367 20).toInt := congrArg Int32.toInt (frA13_2.trans (hkF eA10 (by first | decide | omega) ek0_4))
              have ttA13_31 : (A13.1 367 31).toInt = (A.1 367 31).toInt := congrArg Int32.toInt (frA13_3.trans (hkF eA10 (by first | decide | omega) ek0_5))
              have ttA13_41 : (A13.1 367 41).toInt = z9.toInt := congrArg Int32.toInt (frA13_4.trans (hkS eA10))
              have ttA13_11 : (A13.1 367 11).toInt = (A.1 367 11).toInt := congrArg Int32.toInt (frA13_5.trans (hkF eA10 (by first | decide | omega) ek0_0))
              have ttA13_13 : (A13.1 367 13).toInt = (A.1 367 13).toInt := congrArg Int32.toInt (frA13_6.trans (hkF eA10 (by first | decide | omega) ek0_2))
              have fbA13_367_37 := hA13.f (i := 367) (k := 37) (by rfl)
              have hq14 := hOp hq2 eA10 fA10 (by omega) fA13.2 fA13.1 frA13_4 frA13_5 (by omega) (by omega) hn
              have chq14 := hq14.2.2.2
              refine hxa_goto (by rfl) ?_
              exact ih0 (A13.1 367 37) z9 z5 A13 hA13 (frA13_5.trans (hkF eA10 (by first | decide | omega) ek0_0)) (frA13_0.trans (hkF eA10 (by first | decide | omega) ek0_1)) (frA13_6.trans (hkF eA10 (by first | decide | omega) ek0_2)) (frA13_1.trans (hkF eA10 (by first | decide | omega) ek0_3)) (frA13_2.trans (hkF eA10 (by first | decide | omega) ek0_4)) (frA13_3.trans (hkF eA10 (by first | decide | omega) ek0_5)) rfl (frA13_4.trans (hkS eA10)) (afA13_376.trans (hafF fA10 af0_376)) (afA13_385.trans (hafF fA10 af0_385)) (afA13_386.trans (hafF fA10 af0_386)) (afA13_387.trans (hafF fA10 af0_387)) (by omega) (by omega) (by omega) (by omega) (by omega) (by omega) (by omega) (by exact ⟨_, hq14.1, (hk2.trans hq14.2.1 (by omega)), (hq14.2.2.1.trans h92), by omega⟩) (by omega)
            ·
              refine hxa_iconst (by rfl) rfl ?_
              refine hxa_goto (by rfl) ?_
              refine hxa_iconst (by rfl) rfl ?_
              refine hxa_call0 (by rfl) (by rfl) (by rfl) (by rfl) (by rfl) (by rfl) (hX159q4 (d := d + 0) hA10 (by omega) (Int32.ofNat 2) (Int32.ofNat 0) (by rw [(show A10.1 367 37 = w0_6 from (hkF eA10 (by first | decide | omega) ek0_6))]; omega) (by rw [(show A10.1 367 37 = w0_6 from (hkF eA10 (by first | decide | omega) ek0_6))]; omega)) ?_
              rintro _ A15 ⟨hA15, frA15_0, frA15_1, frA15_2, frA15_3, frA15_4, frA15_5, frA15_6, afA15_376, afA15_385, afA15_386, afA15_387, rfl, fA15⟩
              have ttA15_12 : (A15.1 367 12).toInt = (A.1 367 12).toInt := congrArg Int32.toInt (frA15_0.trans (hkF eA10 (by first | decide | omega) ek0_1))
              have ttA15_19 : (A15.1 367 19).toInt = (A.1 367 19).toInt := congrArg Int32.toInt (frA15_1.trans (hkF eA10 (by first | decide | omega) ek0_3))
              have ttA15_20 : (A15.1 367 20).toInt = (A.1 367 20).toInt := congrArg Int32.toInt (frA15_2.trans (hkF eA10 (by first | decide | omega) ek0_4))
              have ttA15_31 : (A15.1 367 31).toInt = (A.1 367 31).toInt := congrArg Int32.toInt (frA15_3.trans (hkF eA10 (by first | decide | omega) ek0_5))
              have ttA15_41 : (A15.1 367 41).toInt = z9.toInt := congrArg Int32.toInt (frA15_4.trans (hkS eA10))
              have ttA15_11 : (A15.1 367 11).toInt = (A.1 367 11).toInt := congrArg Int32.toInt (frA15_5.trans (hkF eA10 (by first | decide | omega) ek0_0))
              have ttA15_13 : (A15.1 367 13).toInt = (A.1 367 13).toInt := congrArg Int32.toInt (frA15_6.trans (hkF eA10 (by first | decide | omega) ek0_2))
              have fbA15_367_37 := hA15.f (i := 367) (k := 37) (by rfl)
              have hq16 := hOp hq2 eA10 fA10 (by omega) fA15.2 fA15.1 frA15_4 frA15_5 (by omega) (by omega) hn
              have chq16 := hq16.2.2.2
              refine hxa_goto (by rfl) ?_
              exact ih0 (A15.1 367 37) z9 z5 A15 hA15 (frA15_5.trans (hkF eA10 (by first | decide | omega) ek0_0)) (frA15_0.trans (hkF eA10 (by first | decide | omega) ek0_1)) (frA15_6.trans (hkF eA10 (by first | decide | omega) ek0_2)) (frA15_1.trans (hkF eA10 (by first | decide | omega) ek0_3)) (frA15_2.trans (hkF eA10 (by first | decide | omega) ek0_4)) (frA15_3.trans (hkF eA10 (by first | decide | omega) ek0_5)) rfl (frA15_4.trans (hkS eA10)) (afA15_376.trans (hafF fA10 af0_376)) (afA15_385.trans (hafF fA10 af0_385)) (afA15_386.trans (hafF fA10 af0_386)) (afA15_387.trans (hafF fA10 af0_387)) (by omega) (by omega) (by omega) (by omega) (by omega) (by omega) (by omega) (by exact ⟨_, hq16.1, (hk2.trans hq16.2.1 (by omega)), (hq16.2.2.1.trans h92), by omega⟩) (by omega)
          ·
            refine hxa_iload_n (by rfl) rfl ?_
            refine hxa_bipush (by rfl) rfl ?_
            refine hxj_ceq (by rfl) rfl hk_8 (fun q17 => ?_) (fun q17 => ?_)
            ·
              exact hxa_return (by rfl) rfl (hP _ _ ⟨hAc0, ek0_1, ek0_3, ek0_4, ek0_5, ek0_0, ek0_2, af0_376, af0_385, af0_386, af0_387, rfl, ⟨_, hq2, by omega, by intro _; omega, hk2, h92, by omega⟩⟩)
            ·
              refine hxa_iload_n (by rfl) rfl ?_
              refine hxa_bipush (by rfl) rfl ?_
              refine hxj_cne (by rfl) rfl hk_9 (fun q18 => False.elim (by omega)) (fun q18 => ?_)
              exact hxa_return (by rfl) rfl (hP _ _ ⟨hAc0, ek0_1, ek0_3, ek0_4, ek0_5, ek0_0, ek0_2, af0_376, af0_385, af0_386, af0_387, rfl, ⟨_, hq2, by omega, by intro _; omega, hk2, h92, by omega⟩⟩)
        ·
          refine hxa_s1 (by rfl) (Or.inl ⟨_, rfl, rfl⟩) rfl ?_
          refine hxa_iload_n (by rfl) rfl ?_
          refine hxa_bipush (by rfl) rfl ?_
          refine hxj_ceq (by rfl) rfl hk_6 (fun q19 => False.elim (by omega)) (fun q19 => ?_)
          refine hxa_iload_n (by rfl) rfl ?_
          refine hxj_zeq (by rfl) rfl (fun q20 => ?_) (fun q20 => ?_)
          ·
            refine hxa_aload_n (by rfl) rfl ?_
            refine hxa_dupR (by rfl) ?_
            refine hxj_getK (by rfl) (by rfl) (by rfl) ek0_7 ?_
            refine hxa_iconst (by rfl) rfl ?_
            refine hxj_isub (by rfl) rfl hk_1 (by omega) (by omega) (fun z21 ez21 => ?_)
            refine hxj_putI (by rfl) (by rfl) (by rfl) (by rfl) hAc0 (hbok (by rfl) rfl (by omega) (by omega)) (by rfl) (by rfl) (fun A22 hA22 eA22 fA22 => ?_)
            refine hxa_aload_n (by rfl) rfl ?_
            refine hxa_iload_n (by rfl) rfl ?_
            refine hxa_bipush (by rfl) rfl ?_
            refine hxj_cne (by rfl) rfl hk_8 (fun q23 => ?_) (fun q23 => False.elim (by omega))
            refine hxa_iload_n (by rfl) rfl ?_
            refine hxa_bipush (by rfl) rfl ?_
            refine hxj_cne (by rfl) rfl hk_9 (fun q24 => ?_) (fun q24 => False.elim (by omega))
            refine hxa_iload_n (by rfl) rfl ?_
            refine hxa_bipush (by rfl) rfl ?_
            refine hxj_cne (by rfl) rfl hk_10 (fun q25 => ?_) (fun q25 => ?_)
            ·
              refine hxa_iconst (by rfl) rfl ?_
              refine hxa_iconst (by rfl) rfl ?_
              refine hxa_call0 (by rfl) (by rfl) (by rfl) (by rfl) (by rfl) (by rfl) (hX159q4 (d := d + 0) hA22 (by omega) (Int32.ofNat 5) (Int32.ofNat 0) (by rw [(show A22.1 367 37 = w0_6 from (hkF eA22 (by first | decide | omega) ek0_6))]; omega) (by rw [(show A22.1 367 37 = w0_6 from (hkF eA22 (by first | decide | omega) ek0_6))]; omega)) ?_
              rintro _ A26 ⟨hA26, frA26_0, frA26_1, frA26_2, frA26_3, frA26_4, frA26_5, frA26_6, afA26_376, afA26_385, afA26_386, afA26_387, rfl, fA26⟩
              have ttA26_12 : (A26.1 367 12).toInt = (A.1 367 12).toInt := congrArg Int32.toInt (frA26_0.trans (hkF eA22 (by first | decide | omega) ek0_1))
              have ttA26_19 : (A26.1 367 19).toInt = (A.1 367 19).toInt := congrArg Int32.toInt (frA26_1.trans (hkF eA22 (by first | decide | omega) ek0_3))
              have ttA26_20 : (A26.1 367 20).toInt = (A.1 367 20).toInt := congrArg Int32.toInt (frA26_2.trans (hkF eA22 (by first | decide | omega) ek0_4))
              have ttA26_31 : (A26.1 367 31).toInt = (A.1 367 31).toInt := congrArg Int32.toInt (frA26_3.trans (hkF eA22 (by first | decide | omega) ek0_5))
              have ttA26_41 : (A26.1 367 41).toInt = z21.toInt := congrArg Int32.toInt (frA26_4.trans (hkS eA22))
              have ttA26_11 : (A26.1 367 11).toInt = (A.1 367 11).toInt := congrArg Int32.toInt (frA26_5.trans (hkF eA22 (by first | decide | omega) ek0_0))
              have ttA26_13 : (A26.1 367 13).toInt = (A.1 367 13).toInt := congrArg Int32.toInt (frA26_6.trans (hkF eA22 (by first | decide | omega) ek0_2))
              have fbA26_367_37 := hA26.f (i := 367) (k := 37) (by rfl)
              have hq27 := hOp hq2 eA22 fA22 (by omega) fA26.2 fA26.1 frA26_4 frA26_5 (by omega) (by omega) hn
              have chq27 := hq27.2.2.2
              refine hxa_goto (by rfl) ?_
              exact ih0 (A26.1 367 37) z21 z5 A26 hA26 (frA26_5.trans (hkF eA22 (by first | decide | omega) ek0_0)) (frA26_0.trans (hkF eA22 (by first | decide | omega) ek0_1)) (frA26_6.trans (hkF eA22 (by first | decide | omega) ek0_2)) (frA26_1.trans (hkF eA22 (by first | decide | omega) ek0_3)) (frA26_2.trans (hkF eA22 (by first | decide | omega) ek0_4)) (frA26_3.trans (hkF eA22 (by first | decide | omega) ek0_5)) rfl (frA26_4.trans (hkS eA22)) (afA26_376.trans (hafF fA22 af0_376)) (afA26_385.trans (hafF fA22 af0_385)) (afA26_386.trans (hafF fA22 af0_386)) (afA26_387.trans (hafF fA22 af0_387)) (by omega) (by omega) (by omega) (by omega) (by omega) (by omega) (by omega) (by exact ⟨_, hq27.1, (hk2.trans hq27.2.1 (by omega)), (hq27.2.2.1.trans h92), by omega⟩) (by omega)
            ·
              refine hxa_iconst (by rfl) rfl ?_
              refine hxa_goto (by rfl) ?_
              refine hxa_iconst (by rfl) rfl ?_
              refine hxa_call0 (by rfl) (by rfl) (by rfl) (by rfl) (by rfl) (by rfl) (hX159q4 (d := d + 0) hA22 (by omega) (Int32.ofNat 4) (Int32.ofNat 0) (by rw [(show A22.1 367 37 = w0_6 from (hkF eA22 (by first | decide | omega) ek0_6))]; omega) (by rw [(show A22.1 367 37 = w0_6 from (hkF eA22 (by first | decide | omega) ek0_6))]; omega)) ?_
              rintro _ A28 ⟨hA28, frA28_0, frA28_1, frA28_2, frA28_3, frA28_4, frA28_5, frA28_6, afA28_376, afA28_385, afA28_386, afA28_387, rfl, fA28⟩
              have ttA28_12 : (A28.1 367 12).toInt = (A.1 367 12).toInt := congrArg Int32.toInt (frA28_0.trans (hkF eA22 (by first | decide | omega) ek0_1))
              have ttA28_19 : (A28.1 367 19).toInt = (A.1 367 19).toInt := congrArg Int32.toInt (frA28_1.trans (hkF eA22 (by first | decide | omega) ek0_3))
              have ttA28_20 : (A28.1 367 20).toInt = (A.1 367 20).toInt := congrArg Int32.toInt (frA28_2.trans (hkF eA22 (by first | decide | omega) ek0_4))
              have ttA28_31 : (A28.1 367 31).toInt = (A.1 367 31).toInt := congrArg Int32.toInt (frA28_3.trans (hkF eA22 (by first | decide | omega) ek0_5))
              have ttA28_41 : (A28.1 367 41).toInt = z21.toInt := congrArg Int32.toInt (frA28_4.trans (hkS eA22))
              have ttA28_11 : (A28.1 367 11).toInt = (A.1 367 11).toInt := congrArg Int32.toInt (frA28_5.trans (hkF eA22 (by first | decide | omega) ek0_0))
              have ttA28_13 : (A28.1 367 13).toInt = (A.1 367 13).toInt := congrArg Int32.toInt (frA28_6.trans (hkF eA22 (by first | decide | omega) ek0_2))
              have fbA28_367_37 := hA28.f (i := 367) (k := 37) (by rfl)
              have hq29 := hOp hq2 eA22 fA22 (by omega) fA28.2 fA28.1 frA28_4 frA28_5 (by omega) (by omega) hn
              have chq29 := hq29.2.2.2
              refine hxa_goto (by rfl) ?_
              exact ih0 (A28.1 367 37) z21 z5 A28 hA28 (frA28_5.trans (hkF eA22 (by first | decide | omega) ek0_0)) (frA28_0.trans (hkF eA22 (by first | decide | omega) ek0_1)) (frA28_6.trans (hkF eA22 (by first | decide | omega) ek0_2)) (frA28_1.trans (hkF eA22 (by first | decide | omega) ek0_3)) (frA28_2.trans (hkF eA22 (by first | decide | omega) ek0_4)) (frA28_3.trans (hkF eA22 (by first | decide | omega) ek0_5)) rfl (frA28_4.trans (hkS eA22)) (afA28_376.trans (hafF fA22 af0_376)) (afA28_385.trans (hafF fA22 af0_385)) (afA28_386.trans (hafF fA22 af0_386)) (afA28_387.trans (hafF fA22 af0_387)) (by omega) (by omega) (by omega) (by omega) (by omega) (by omega) (by omega) (by exact ⟨_, hq29.1, (hk2.trans hq29.2.1 (by omega)), (hq29.2.2.1.trans h92), by omega⟩) (by omega)
          ·
            refine hxa_iload_n (by rfl) rfl ?_
            refine hxa_bipush (by rfl) rfl ?_
            refine hxj_ceq (by rfl) rfl hk_8 (fun q30 => False.elim (by omega)) (fun q30 => ?_)
            refine hxa_iload_n (by rfl) rfl ?_
            refine hxa_bipush (by rfl) rfl ?_
            refine hxj_cne (by rfl) rfl hk_9 (fun q31 => ?_) (fun q31 => False.elim (by omega))
            refine hxa_aload_n (by rfl) rfl ?_
            refine hxa_dupR (by rfl) ?_
            refine hxj_getK (by rfl) (by rfl) (by rfl) ek0_7 ?_
            refine hxa_iconst (by rfl) rfl ?_
            refine hxj_isub (by rfl) rfl hk_1 (by omega) (by omega) (fun z32 ez32 => ?_)
            refine hxj_putI (by rfl) (by rfl) (by rfl) (by rfl) hAc0 (hbok (by rfl) rfl (by omega) (by omega)) (by rfl) (by rfl) (fun A33 hA33 eA33 fA33 => ?_)
            refine hxa_aload_n (by rfl) rfl ?_
            refine hxa_iload_n (by rfl) rfl ?_
            refine hxa_bipush (by rfl) rfl ?_
            refine hxj_cne (by rfl) rfl hk_8 (fun q34 => ?_) (fun q34 => False.elim (by omega))
            refine hxa_iload_n (by rfl) rfl ?_
            refine hxa_bipush (by rfl) rfl ?_
            refine hxj_cne (by rfl) rfl hk_9 (fun q35 => ?_) (fun q35 => False.elim (by omega))
            refine hxa_iload_n (by rfl) rfl ?_
            refine hxa_bipush (by rfl) rfl ?_
            refine hxj_cne (by rfl) rfl hk_10 (fun q36 => ?_) (fun q36 => ?_)
            ·
              refine hxa_iconst (by rfl) rfl ?_
              refine hxa_iconst (by rfl) rfl ?_
              refine hxa_call0 (by rfl) (by rfl) (by rfl) (by rfl) (by rfl) (by rfl) (hX159q4 (d := d + 0) hA33 (by omega) (Int32.ofNat 5) (Int32.ofNat 0) (by rw [(show A33.1 367 37 = w0_6 from (hkF eA33 (by first | decide | omega) ek0_6))]; omega) (by rw [(show A33.1 367 37 = w0_6 from (hkF eA33 (by first | decide | omega) ek0_6))]; omega)) ?_
              rintro _ A37 ⟨hA37, frA37_0, frA37_1, frA37_2, frA37_3, frA37_4, frA37_5, frA37_6, afA37_376, afA37_385, afA37_386, afA37_387, rfl, fA37⟩
              have ttA37_12 : (A37.1 367 12).toInt = (A.1 367 12).toInt := congrArg Int32.toInt (frA37_0.trans (hkF eA33 (by first | decide | omega) ek0_1))
              have ttA37_19 : (A37.1 367 19).toInt = (A.1 367 19).toInt := congrArg Int32.toInt (frA37_1.trans (hkF eA33 (by first | decide | omega) ek0_3))
              have ttA37_20 : (A37.1 367 20).toInt = (A.1 367 20).toInt := congrArg Int32.toInt (frA37_2.trans (hkF eA33 (by first | decide | omega) ek0_4))
              have ttA37_31 : (A37.1 367 31).toInt = (A.1 367 31).toInt := congrArg Int32.toInt (frA37_3.trans (hkF eA33 (by first | decide | omega) ek0_5))
              have ttA37_41 : (A37.1 367 41).toInt = z32.toInt := congrArg Int32.toInt (frA37_4.trans (hkS eA33))
              have ttA37_11 : (A37.1 367 11).toInt = (A.1 367 11).toInt := congrArg Int32.toInt (frA37_5.trans (hkF eA33 (by first | decide | omega) ek0_0))
              have ttA37_13 : (A37.1 367 13).toInt = (A.1 367 13).toInt := congrArg Int32.toInt (frA37_6.trans (hkF eA33 (by first | decide | omega) ek0_2))
              have fbA37_367_37 := hA37.f (i := 367) (k := 37) (by rfl)
              have hq38 := hOp hq2 eA33 fA33 (by omega) fA37.2 fA37.1 frA37_4 frA37_5 (by omega) (by omega) hn
              have chq38 := hq38.2.2.2
              refine hxa_goto (by rfl) ?_
              exact ih0 (A37.1 367 37) z32 z5 A37 hA37 (frA37_5.trans (hkF eA33 (by first | decide | omega) ek0_0)) (frA37_0.trans (hkF eA33 (by first | decide | omega) ek0_1)) (frA37_6.trans (hkF eA33 (by first | decide | omega) ek0_2)) (frA37_1.trans (hkF eA33 (by first | decide | omega) ek0_3)) (frA37_2.trans (hkF eA33 (by first | decide | omega) ek0_4)) (frA37_3.trans (hkF eA33 (by first | decide | omega) ek0_5)) rfl (frA37_4.trans (hkS eA33)) (afA37_376.trans (hafF fA33 af0_376)) (afA37_385.trans (hafF fA33 af0_385)) (afA37_386.trans (hafF fA33 af0_386)) (afA37_387.trans (hafF fA33 af0_387)) (by omega) (by omega) (by omega) (by omega) (by omega) (by omega) (by omega) (by exact ⟨_, hq38.1, (hk2.trans hq38.2.1 (by omega)), (hq38.2.2.1.trans h92), by omega⟩) (by omega)
            ·
              refine hxa_iconst (by rfl) rfl ?_
              refine hxa_goto (by rfl) ?_
              refine hxa_iconst (by rfl) rfl ?_
              refine hxa_call0 (by rfl) (by rfl) (by rfl) (by rfl) (by rfl) (by rfl) (hX159q4 (d := d + 0) hA33 (by omega) (Int32.ofNat 4) (Int32.ofNat 0) (by rw [(show A33.1 367 37 = w0_6 from (hkF eA33 (by first | decide | omega) ek0_6))]; omega) (by rw [(show A33.1 367 37 = w0_6 from (hkF eA33 (by first | decide | omega) ek0_6))]; omega)) ?_
              rintro _ A39 ⟨hA39, frA39_0, frA39_1, frA39_2, frA39_3, frA39_4, frA39_5, frA39_6, afA39_376, afA39_385, afA39_386, afA39_387, rfl, fA39⟩
              have ttA39_12 : (A39.1 367 12).toInt = (A.1 367 12).toInt := congrArg Int32.toInt (frA39_0.trans (hkF eA33 (by first | decide | omega) ek0_1))
              have ttA39_19 : (A39.1 367 19).toInt = (A.1 367 19).toInt := congrArg Int32.toInt (frA39_1.trans (hkF eA33 (by first | decide | omega) ek0_3))
              have ttA39_20 : (A39.1 367 20).toInt = (A.1 367 20).toInt := congrArg Int32.toInt (frA39_2.trans (hkF eA33 (by first | decide | omega) ek0_4))
              have ttA39_31 : (A39.1 367 31).toInt = (A.1 367 31).toInt := congrArg Int32.toInt (frA39_3.trans (hkF eA33 (by first | decide | omega) ek0_5))
              have ttA39_41 : (A39.1 367 41).toInt = z32.toInt := congrArg Int32.toInt (frA39_4.trans (hkS eA33))
              have ttA39_11 : (A39.1 367 11).toInt = (A.1 367 11).toInt := congrArg Int32.toInt (frA39_5.trans (hkF eA33 (by first | decide | omega) ek0_0))
              have ttA39_13 : (A39.1 367 13).toInt = (A.1 367 13).toInt := congrArg Int32.toInt (frA39_6.trans (hkF eA33 (by first | decide | omega) ek0_2))
              have fbA39_367_37 := hA39.f (i := 367) (k := 37) (by rfl)
              have hq40 := hOp hq2 eA33 fA33 (by omega) fA39.2 fA39.1 frA39_4 frA39_5 (by omega) (by omega) hn
              have chq40 := hq40.2.2.2
              refine hxa_goto (by rfl) ?_
              exact ih0 (A39.1 367 37) z32 z5 A39 hA39 (frA39_5.trans (hkF eA33 (by first | decide | omega) ek0_0)) (frA39_0.trans (hkF eA33 (by first | decide | omega) ek0_1)) (frA39_6.trans (hkF eA33 (by first | decide | omega) ek0_2)) (frA39_1.trans (hkF eA33 (by first | decide | omega) ek0_3)) (frA39_2.trans (hkF eA33 (by first | decide | omega) ek0_4)) (frA39_3.trans (hkF eA33 (by first | decide | omega) ek0_5)) rfl (frA39_4.trans (hkS eA33)) (afA39_376.trans (hafF fA33 af0_376)) (afA39_385.trans (hafF fA33 af0_385)) (afA39_386.trans (hafF fA33 af0_386)) (afA39_387.trans (hafF fA33 af0_387)) (by omega) (by omega) (by omega) (by omega) (by omega) (by omega) (by omega) (by exact ⟨_, hq40.1, (hk2.trans hq40.2.1 (by omega)), (hq40.2.2.1.trans h92), by omega⟩) (by omega)
  refine hxa_aload_n (by rfl) rfl ?_
  refine hxj_getK (by rfl) (by rfl) (by rfl) rfl ?_
  refine hxj_zle (by rfl) rfl (fun q41 => ?_) (fun q41 => ?_)
  ·
    exact hxa_return (by rfl) rfl (hP _ _ ⟨hA, rfl, rfl, rfl, rfl, rfl, rfl, rfl, rfl, rfl, rfl, rfl, ⟨_, hqq, by have := hqq.zero (by omega); omega, fun _ => hqq.zero (by omega), (hK.refl _ _), rfl, by omega⟩⟩)
  ·
    refine hxa_aload_n (by rfl) rfl ?_
    refine hxa_get (v := .ref 393) (by rfl) (by rfl) (by rfl) rfl ?_
    refine hxa_aload_n (by rfl) rfl ?_
    refine hxj_getK (by rfl) (by rfl) (by rfl) rfl ?_
    refine hxa_iconst (by rfl) rfl ?_
    refine hxj_isub (by rfl) rfl hk_1 (by omega) (by omega) (fun z42 ez42 => ?_)
    refine hxj_iald (by rfl) (by rfl) rfl (by omega) (by omega) (fun z43 ez43 => ?_)
    rcases hQ.top hqq (by omega) (j := z42) (by omega) ez43 with ⟨hz, hg⟩ | ⟨hz, hg, hn⟩ | ⟨hz, g9, hg, hn⟩
    ·
      refine hxa_s1 (by rfl) (Or.inl ⟨_, rfl, rfl⟩) rfl ?_
      refine hxa_iload_n (by rfl) rfl ?_
      refine hxa_bipush (by rfl) rfl ?_
      refine hxj_ceq (by rfl) rfl hk_6 (fun q44 => ?_) (fun q44 => False.elim (by omega))
      exact hxa_return (by rfl) rfl (hP _ _ ⟨hA, rfl, rfl, rfl, rfl, rfl, rfl, rfl, rfl, rfl, rfl, rfl, ⟨_, hqq, by omega, by intro _; omega, (hK.refl _ _), rfl, by omega⟩⟩)
    ·
      refine hxa_s1 (by rfl) (Or.inl ⟨_, rfl, rfl⟩) rfl ?_
      refine hxa_iload_n (by rfl) rfl ?_
      refine hxa_bipush (by rfl) rfl ?_
      refine hxj_ceq (by rfl) rfl hk_6 (fun q45 => False.elim (by omega)) (fun q45 => ?_)
      refine hxa_iload_n (by rfl) rfl ?_
      refine hxj_zeq (by rfl) rfl (fun q46 => ?_) (fun q46 => ?_)
      ·
        refine hxa_aload_n (by rfl) rfl ?_
        refine hxa_dupR (by rfl) ?_
        refine hxj_getK (by rfl) (by rfl) (by rfl) rfl ?_
        refine hxa_iconst (by rfl) rfl ?_
        refine hxj_isub (by rfl) rfl hk_1 (by omega) (by omega) (fun z47 ez47 => ?_)
        refine hxj_putI (by rfl) (by rfl) (by rfl) (by rfl) hA (hbok (by rfl) rfl (by omega) (by omega)) (by rfl) (by rfl) (fun A48 hA48 eA48 fA48 => ?_)
        refine hxa_aload_n (by rfl) rfl ?_
        refine hxa_iload_n (by rfl) rfl ?_
        refine hxa_bipush (by rfl) rfl ?_
        refine hxj_cne (by rfl) rfl hk_8 (fun q49 => ?_) (fun q49 => ?_)
        ·
          refine hxa_iload_n (by rfl) rfl ?_
          refine hxa_bipush (by rfl) rfl ?_
          refine hxj_cne (by rfl) rfl hk_9 (fun q50 => False.elim (by omega)) (fun q50 => ?_)
          refine hxa_iconst (by rfl) rfl ?_
          refine hxa_goto (by rfl) ?_
          refine hxa_iconst (by rfl) rfl ?_
          refine hxa_call0 (by rfl) (by rfl) (by rfl) (by rfl) (by rfl) (by rfl) (hX159q4 (d := d + 0) hA48 (by omega) (Int32.ofNat 3) (Int32.ofNat 0) (by rw [(show A48.1 367 37 = (A.1 367 37) from (hkF eA48 (by first | decide | omega) rfl))]; omega) (by rw [(show A48.1 367 37 = (A.1 367 37) from (hkF eA48 (by first | decide | omega) rfl))]; omega)) ?_
          rintro _ A51 ⟨hA51, frA51_0, frA51_1, frA51_2, frA51_3, frA51_4, frA51_5, frA51_6, afA51_376, afA51_385, afA51_386, afA51_387, rfl, fA51⟩
          have ttA51_12 : (A51.1 367 12).toInt = (A.1 367 12).toInt := congrArg Int32.toInt (frA51_0.trans (hkF eA48 (by first | decide | omega) rfl))
          have ttA51_19 : (A51.1 367 19).toInt = (A.1 367 19).toInt := congrArg Int32.toInt (frA51_1.trans (hkF eA48 (by first | decide | omega) rfl))
          have ttA51_20 : (A51.1 367 20).toInt = (A.1 367 20).toInt := congrArg Int32.toInt (frA51_2.trans (hkF eA48 (by first | decide | omega) rfl))
          have ttA51_31 : (A51.1 367 31).toInt = (A.1 367 31).toInt := congrArg Int32.toInt (frA51_3.trans (hkF eA48 (by first | decide | omega) rfl))
          have ttA51_41 : (A51.1 367 41).toInt = z47.toInt := congrArg Int32.toInt (frA51_4.trans (hkS eA48))
          have ttA51_11 : (A51.1 367 11).toInt = (A.1 367 11).toInt := congrArg Int32.toInt (frA51_5.trans (hkF eA48 (by first | decide | omega) rfl))
          have ttA51_13 : (A51.1 367 13).toInt = (A.1 367 13).toInt := congrArg Int32.toInt (frA51_6.trans (hkF eA48 (by first | decide | omega) rfl))
          have fbA51_367_37 := hA51.f (i := 367) (k := 37) (by rfl)
          have hq52 := hOp hqq eA48 fA48 (by omega) fA51.2 fA51.1 frA51_4 frA51_5 (by omega) (by omega) hn
          have chq52 := hq52.2.2.2
          refine hxa_goto (by rfl) ?_
          exact L0 (Int.toNat (z47.toInt) + 1) (A51.1 367 37) z47 z43 A51 hA51 (frA51_5.trans (hkF eA48 (by first | decide | omega) rfl)) (frA51_0.trans (hkF eA48 (by first | decide | omega) rfl)) (frA51_6.trans (hkF eA48 (by first | decide | omega) rfl)) (frA51_1.trans (hkF eA48 (by first | decide | omega) rfl)) (frA51_2.trans (hkF eA48 (by first | decide | omega) rfl)) (frA51_3.trans (hkF eA48 (by first | decide | omega) rfl)) rfl (frA51_4.trans (hkS eA48)) (afA51_376.trans (hafF fA48 rfl)) (afA51_385.trans (hafF fA48 rfl)) (afA51_386.trans (hafF fA48 rfl)) (afA51_387.trans (hafF fA48 rfl)) (by omega) (by omega) (by omega) (by omega) (by omega) (by omega) (by omega) (by exact ⟨_, hq52.1, ((hK.refl _ _).trans hq52.2.1 (by omega)), (hq52.2.2.1.trans rfl), by omega⟩) (by omega)
        ·
          refine hxa_iconst (by rfl) rfl ?_
          refine hxa_goto (by rfl) ?_
          refine hxa_iconst (by rfl) rfl ?_
          refine hxa_call0 (by rfl) (by rfl) (by rfl) (by rfl) (by rfl) (by rfl) (hX159q4 (d := d + 0) hA48 (by omega) (Int32.ofNat 2) (Int32.ofNat 0) (by rw [(show A48.1 367 37 = (A.1 367 37) from (hkF eA48 (by first | decide | omega) rfl))]; omega) (by rw [(show A48.1 367 37 = (A.1 367 37) from (hkF eA48 (by first | decide | omega) rfl))]; omega)) ?_
          rintro _ A53 ⟨hA53, frA53_0, frA53_1, frA53_2, frA53_3, frA53_4, frA53_5, frA53_6, afA53_376, afA53_385, afA53_386, afA53_387, rfl, fA53⟩
          have ttA53_12 : (A53.1 367 12).toInt = (A.1 367 12).toInt := congrArg Int32.toInt (frA53_0.trans (hkF eA48 (by first | decide | omega) rfl))
          have ttA53_19 : (A53.1 367 19).toInt = (A.1 367 19).toInt := congrArg Int32.toInt (frA53_1.trans (hkF eA48 (by first | decide | omega) rfl))
          have ttA53_20 : (A53.1 367 20).toInt = (A.1 367 20).toInt := congrArg Int32.toInt (frA53_2.trans (hkF eA48 (by first | decide | omega) rfl))
          have ttA53_31 : (A53.1 367 31).toInt = (A.1 367 31).toInt := congrArg Int32.toInt (frA53_3.trans (hkF eA48 (by first | decide | omega) rfl))
          have ttA53_41 : (A53.1 367 41).toInt = z47.toInt := congrArg Int32.toInt (frA53_4.trans (hkS eA48))
          have ttA53_11 : (A53.1 367 11).toInt = (A.1 367 11).toInt := congrArg Int32.toInt (frA53_5.trans (hkF eA48 (by first | decide | omega) rfl))
          have ttA53_13 : (A53.1 367 13).toInt = (A.1 367 13).toInt := congrArg Int32.toInt (frA53_6.trans (hkF eA48 (by first | decide | omega) rfl))
          have fbA53_367_37 := hA53.f (i := 367) (k := 37) (by rfl)
          have hq54 := hOp hqq eA48 fA48 (by omega) fA53.2 fA53.1 frA53_4 frA53_5 (by omega) (by omega) hn
          have chq54 := hq54.2.2.2
          refine hxa_goto (by rfl) ?_
          exact L0 (Int.toNat (z47.toInt) + 1) (A53.1 367 37) z47 z43 A53 hA53 (frA53_5.trans (hkF eA48 (by first | decide | omega) rfl)) (frA53_0.trans (hkF eA48 (by first | decide | omega) rfl)) (frA53_6.trans (hkF eA48 (by first | decide | omega) rfl)) (frA53_1.trans (hkF eA48 (by first | decide | omega) rfl)) (frA53_2.trans (hkF eA48 (by first | decide | omega) rfl)) (frA53_3.trans (hkF eA48 (by first | decide | omega) rfl)) rfl (frA53_4.trans (hkS eA48)) (afA53_376.trans (hafF fA48 rfl)) (afA53_385.trans (hafF fA48 rfl)) (afA53_386.trans (hafF fA48 rfl)) (afA53_387.trans (hafF fA48 rfl)) (by omega) (by omega) (by omega) (by omega) (by omega) (by omega) (by omega) (by exact ⟨_, hq54.1, ((hK.refl _ _).trans hq54.2.1 (by omega)), (hq54.2.2.1.trans rfl), by omega⟩) (by omega)
      ·
        refine hxa_iload_n (by rfl) rfl ?_
        refine hxa_bipush (by rfl) rfl ?_
        refine hxj_ceq (by rfl) rfl hk_8 (fun q55 => ?_) (fun q55 => ?_)
        ·
          exact hxa_return (by rfl) rfl (hP _ _ ⟨hA, rfl, rfl, rfl, rfl, rfl, rfl, rfl, rfl, rfl, rfl, rfl, ⟨_, hqq, by omega, by intro _; omega, (hK.refl _ _), rfl, by omega⟩⟩)
        ·
          refine hxa_iload_n (by rfl) rfl ?_
          refine hxa_bipush (by rfl) rfl ?_
          refine hxj_cne (by rfl) rfl hk_9 (fun q56 => False.elim (by omega)) (fun q56 => ?_)
          exact hxa_return (by rfl) rfl (hP _ _ ⟨hA, rfl, rfl, rfl, rfl, rfl, rfl, rfl, rfl, rfl, rfl, rfl, ⟨_, hqq, by omega, by intro _; omega, (hK.refl _ _), rfl, by omega⟩⟩)
    ·
      refine hxa_s1 (by rfl) (Or.inl ⟨_, rfl, rfl⟩) rfl ?_
      refine hxa_iload_n (by rfl) rfl ?_
      refine hxa_bipush (by rfl) rfl ?_
      refine hxj_ceq (by rfl) rfl hk_6 (fun q57 => False.elim (by omega)) (fun q57 => ?_)
      refine hxa_iload_n (by rfl) rfl ?_
      refine hxj_zeq (by rfl) rfl (fun q58 => ?_) (fun q58 => ?_)
      ·
        refine hxa_aload_n (by rfl) rfl ?_
        refine hxa_dupR (by rfl) ?_
        refine hxj_getK (by rfl) (by rfl) (by rfl) rfl ?_
        refine hxa_iconst (by rfl) rfl ?_
        refine hxj_isub (by rfl) rfl hk_1 (by omega) (by omega) (fun z59 ez59 => ?_)
        refine hxj_putI (by rfl) (by rfl) (by rfl) (by rfl) hA (hbok (by rfl) rfl (by omega) (by omega)) (by rfl) (by rfl) (fun A60 hA60 eA60 fA60 => ?_)
        refine hxa_aload_n (by rfl) rfl ?_
        refine hxa_iload_n (by rfl) rfl ?_
        refine hxa_bipush (by rfl) rfl ?_
        refine hxj_cne (by rfl) rfl hk_8 (fun q61 => ?_) (fun q61 => False.elim (by omega))
        refine hxa_iload_n (by rfl) rfl ?_
        refine hxa_bipush (by rfl) rfl ?_
        refine hxj_cne (by rfl) rfl hk_9 (fun q62 => ?_) (fun q62 => False.elim (by omega))
        refine hxa_iload_n (by rfl) rfl ?_
        refine hxa_bipush (by rfl) rfl ?_
        refine hxj_cne (by rfl) rfl hk_10 (fun q63 => ?_) (fun q63 => ?_)
        ·
          refine hxa_iconst (by rfl) rfl ?_
          refine hxa_iconst (by rfl) rfl ?_
          refine hxa_call0 (by rfl) (by rfl) (by rfl) (by rfl) (by rfl) (by rfl) (hX159q4 (d := d + 0) hA60 (by omega) (Int32.ofNat 5) (Int32.ofNat 0) (by rw [(show A60.1 367 37 = (A.1 367 37) from (hkF eA60 (by first | decide | omega) rfl))]; omega) (by rw [(show A60.1 367 37 = (A.1 367 37) from (hkF eA60 (by first | decide | omega) rfl))]; omega)) ?_
          rintro _ A64 ⟨hA64, frA64_0, frA64_1, frA64_2, frA64_3, frA64_4, frA64_5, frA64_6, afA64_376, afA64_385, afA64_386, afA64_387, rfl, fA64⟩
          have ttA64_12 : (A64.1 367 12).toInt = (A.1 367 12).toInt := congrArg Int32.toInt (frA64_0.trans (hkF eA60 (by first | decide | omega) rfl))
          have ttA64_19 : (A64.1 367 19).toInt = (A.1 367 19).toInt := congrArg Int32.toInt (frA64_1.trans (hkF eA60 (by first | decide | omega) rfl))
          have ttA64_20 : (A64.1 367 20).toInt = (A.1 367 20).toInt := congrArg Int32.toInt (frA64_2.trans (hkF eA60 (by first | decide | omega) rfl))
          have ttA64_31 : (A64.1 367 31).toInt = (A.1 367 31).toInt := congrArg Int32.toInt (frA64_3.trans (hkF eA60 (by first | decide | omega) rfl))
          have ttA64_41 : (A64.1 367 41).toInt = z59.toInt := congrArg Int32.toInt (frA64_4.trans (hkS eA60))
          have ttA64_11 : (A64.1 367 11).toInt = (A.1 367 11).toInt := congrArg Int32.toInt (frA64_5.trans (hkF eA60 (by first | decide | omega) rfl))
          have ttA64_13 : (A64.1 367 13).toInt = (A.1 367 13).toInt := congrArg Int32.toInt (frA64_6.trans (hkF eA60 (by first | decide | omega) rfl))
          have fbA64_367_37 := hA64.f (i := 367) (k := 37) (by rfl)
          have hq65 := hOp hqq eA60 fA60 (by omega) fA64.2 fA64.1 frA64_4 frA64_5 (by omega) (by omega) hn
          have chq65 := hq65.2.2.2
          refine hxa_goto (by rfl) ?_
          exact L0 (Int.toNat (z59.toInt) + 1) (A64.1 367 37) z59 z43 A64 hA64 (frA64_5.trans (hkF eA60 (by first | decide | omega) rfl)) (frA64_0.trans (hkF eA60 (by first | decide | omega) rfl)) (frA64_6.trans (hkF eA60 (by first | decide | omega) rfl)) (frA64_1.trans (hkF eA60 (by first | decide | omega) rfl)) (frA64_2.trans (hkF eA60 (by first | decide | omega) rfl)) (frA64_3.trans (hkF eA60 (by first | decide | omega) rfl)) rfl (frA64_4.trans (hkS eA60)) (afA64_376.trans (hafF fA60 rfl)) (afA64_385.trans (hafF fA60 rfl)) (afA64_386.trans (hafF fA60 rfl)) (afA64_387.trans (hafF fA60 rfl)) (by omega) (by omega) (by omega) (by omega) (by omega) (by omega) (by omega) (by exact ⟨_, hq65.1, ((hK.refl _ _).trans hq65.2.1 (by omega)), (hq65.2.2.1.trans rfl), by omega⟩) (by omega)
        ·
          refine hxa_iconst (by rfl) rfl ?_
          refine hxa_goto (by rfl) ?_
          refine hxa_iconst (by rfl) rfl ?_
          refine hxa_call0 (by rfl) (by rfl) (by rfl) (by rfl) (by rfl) (by rfl) (hX159q4 (d := d + 0) hA60 (by omega) (Int32.ofNat 4) (Int32.ofNat 0) (by rw [(show A60.1 367 37 = (A.1 367 37) from (hkF eA60 (by first | decide | omega) rfl))]; omega) (by rw [(show A60.1 367 37 = (A.1 367 37) from (hkF eA60 (by first | decide | omega) rfl))]; omega)) ?_
          rintro _ A66 ⟨hA66, frA66_0, frA66_1, frA66_2, frA66_3, frA66_4, frA66_5, frA66_6, afA66_376, afA66_385, afA66_386, afA66_387, rfl, fA66⟩
          have ttA66_12 : (A66.1 367 12).toInt = (A.1 367 12).toInt := congrArg Int32.toInt (frA66_0.trans (hkF eA60 (by first | decide | omega) rfl))
          have ttA66_19 : (A66.1 367 19).toInt = (A.1 367 19).toInt := congrArg Int32.toInt (frA66_1.trans (hkF eA60 (by first | decide | omega) rfl))
          have ttA66_20 : (A66.1 367 20).toInt = (A.1 367 20).toInt := congrArg Int32.toInt (frA66_2.trans (hkF eA60 (by first | decide | omega) rfl))
          have ttA66_31 : (A66.1 367 31).toInt = (A.1 367 31).toInt := congrArg Int32.toInt (frA66_3.trans (hkF eA60 (by first | decide | omega) rfl))
          have ttA66_41 : (A66.1 367 41).toInt = z59.toInt := congrArg Int32.toInt (frA66_4.trans (hkS eA60))
          have ttA66_11 : (A66.1 367 11).toInt = (A.1 367 11).toInt := congrArg Int32.toInt (frA66_5.trans (hkF eA60 (by first | decide | omega) rfl))
          have ttA66_13 : (A66.1 367 13).toInt = (A.1 367 13).toInt := congrArg Int32.toInt (frA66_6.trans (hkF eA60 (by first | decide | omega) rfl))
          have fbA66_367_37 := hA66.f (i := 367) (k := 37) (by rfl)
          have hq67 := hOp hqq eA60 fA60 (by omega) fA66.2 fA66.1 frA66_4 frA66_5 (by omega) (by omega) hn
          have chq67 := hq67.2.2.2
          refine hxa_goto (by rfl) ?_
          exact L0 (Int.toNat (z59.toInt) + 1) (A66.1 367 37) z59 z43 A66 hA66 (frA66_5.trans (hkF eA60 (by first | decide | omega) rfl)) (frA66_0.trans (hkF eA60 (by first | decide | omega) rfl)) (frA66_6.trans (hkF eA60 (by first | decide | omega) rfl)) (frA66_1.trans (hkF eA60 (by first | decide | omega) rfl)) (frA66_2.trans (hkF eA60 (by first | decide | omega) rfl)) (frA66_3.trans (hkF eA60 (by first | decide | omega) rfl)) rfl (frA66_4.trans (hkS eA60)) (afA66_376.trans (hafF fA60 rfl)) (afA66_385.trans (hafF fA60 rfl)) (afA66_386.trans (hafF fA60 rfl)) (afA66_387.trans (hafF fA60 rfl)) (by omega) (by omega) (by omega) (by omega) (by omega) (by omega) (by omega) (by exact ⟨_, hq67.1, ((hK.refl _ _).trans hq67.2.1 (by omega)), (hq67.2.2.1.trans rfl), by omega⟩) (by omega)
      ·
        refine hxa_iload_n (by rfl) rfl ?_
        refine hxa_bipush (by rfl) rfl ?_
        refine hxj_ceq (by rfl) rfl hk_8 (fun q68 => False.elim (by omega)) (fun q68 => ?_)
        refine hxa_iload_n (by rfl) rfl ?_
        refine hxa_bipush (by rfl) rfl ?_
        refine hxj_cne (by rfl) rfl hk_9 (fun q69 => ?_) (fun q69 => False.elim (by omega))
        refine hxa_aload_n (by rfl) rfl ?_
        refine hxa_dupR (by rfl) ?_
        refine hxj_getK (by rfl) (by rfl) (by rfl) rfl ?_
        refine hxa_iconst (by rfl) rfl ?_
        refine hxj_isub (by rfl) rfl hk_1 (by omega) (by omega) (fun z70 ez70 => ?_)
        refine hxj_putI (by rfl) (by rfl) (by rfl) (by rfl) hA (hbok (by rfl) rfl (by omega) (by omega)) (by rfl) (by rfl) (fun A71 hA71 eA71 fA71 => ?_)
        refine hxa_aload_n (by rfl) rfl ?_
        refine hxa_iload_n (by rfl) rfl ?_
        refine hxa_bipush (by rfl) rfl ?_
        refine hxj_cne (by rfl) rfl hk_8 (fun q72 => ?_) (fun q72 => False.elim (by omega))
        refine hxa_iload_n (by rfl) rfl ?_
        refine hxa_bipush (by rfl) rfl ?_
        refine hxj_cne (by rfl) rfl hk_9 (fun q73 => ?_) (fun q73 => False.elim (by omega))
        refine hxa_iload_n (by rfl) rfl ?_
        refine hxa_bipush (by rfl) rfl ?_
        refine hxj_cne (by rfl) rfl hk_10 (fun q74 => ?_) (fun q74 => ?_)
        ·
          refine hxa_iconst (by rfl) rfl ?_
          refine hxa_iconst (by rfl) rfl ?_
          refine hxa_call0 (by rfl) (by rfl) (by rfl) (by rfl) (by rfl) (by rfl) (hX159q4 (d := d + 0) hA71 (by omega) (Int32.ofNat 5) (Int32.ofNat 0) (by rw [(show A71.1 367 37 = (A.1 367 37) from (hkF eA71 (by first | decide | omega) rfl))]; omega) (by rw [(show A71.1 367 37 = (A.1 367 37) from (hkF eA71 (by first | decide | omega) rfl))]; omega)) ?_
          rintro _ A75 ⟨hA75, frA75_0, frA75_1, frA75_2, frA75_3, frA75_4, frA75_5, frA75_6, afA75_376, afA75_385, afA75_386, afA75_387, rfl, fA75⟩
          have ttA75_12 : (A75.1 367 12).toInt = (A.1 367 12).toInt := congrArg Int32.toInt (frA75_0.trans (hkF eA71 (by first | decide | omega) rfl))
          have ttA75_19 : (A75.1 367 19).toInt = (A.1 367 19).toInt := congrArg Int32.toInt (frA75_1.trans (hkF eA71 (by first | decide | omega) rfl))
          have ttA75_20 : (A75.1 367 20).toInt = (A.1 367 20).toInt := congrArg Int32.toInt (frA75_2.trans (hkF eA71 (by first | decide | omega) rfl))
          have ttA75_31 : (A75.1 367 31).toInt = (A.1 367 31).toInt := congrArg Int32.toInt (frA75_3.trans (hkF eA71 (by first | decide | omega) rfl))
          have ttA75_41 : (A75.1 367 41).toInt = z70.toInt := congrArg Int32.toInt (frA75_4.trans (hkS eA71))
          have ttA75_11 : (A75.1 367 11).toInt = (A.1 367 11).toInt := congrArg Int32.toInt (frA75_5.trans (hkF eA71 (by first | decide | omega) rfl))
          have ttA75_13 : (A75.1 367 13).toInt = (A.1 367 13).toInt := congrArg Int32.toInt (frA75_6.trans (hkF eA71 (by first | decide | omega) rfl))
          have fbA75_367_37 := hA75.f (i := 367) (k := 37) (by rfl)
          have hq76 := hOp hqq eA71 fA71 (by omega) fA75.2 fA75.1 frA75_4 frA75_5 (by omega) (by omega) hn
          have chq76 := hq76.2.2.2
          refine hxa_goto (by rfl) ?_
          exact L0 (Int.toNat (z70.toInt) + 1) (A75.1 367 37) z70 z43 A75 hA75 (frA75_5.trans (hkF eA71 (by first | decide | omega) rfl)) (frA75_0.trans (hkF eA71 (by first | decide | omega) rfl)) (frA75_6.trans (hkF eA71 (by first | decide | omega) rfl)) (frA75_1.trans (hkF eA71 (by first | decide | omega) rfl)) (frA75_2.trans (hkF eA71 (by first | decide | omega) rfl)) (frA75_3.trans (hkF eA71 (by first | decide | omega) rfl)) rfl (frA75_4.trans (hkS eA71)) (afA75_376.trans (hafF fA71 rfl)) (afA75_385.trans (hafF fA71 rfl)) (afA75_386.trans (hafF fA71 rfl)) (afA75_387.trans (hafF fA71 rfl)) (by omega) (by omega) (by omega) (by omega) (by omega) (by omega) (by omega) (by exact ⟨_, hq76.1, ((hK.refl _ _).trans hq76.2.1 (by omega)), (hq76.2.2.1.trans rfl), by omega⟩) (by omega)
        ·
          refine hxa_iconst (by rfl) rfl ?_
          refine hxa_goto (by rfl) ?_
          refine hxa_iconst (by rfl) rfl ?_
          refine hxa_call0 (by rfl) (by rfl) (by rfl) (by rfl) (by rfl) (by rfl) (hX159q4 (d := d + 0) hA71 (by omega) (Int32.ofNat 4) (Int32.ofNat 0) (by rw [(show A71.1 367 37 = (A.1 367 37) from (hkF eA71 (by first | decide | omega) rfl))]; omega) (by rw [(show A71.1 367 37 = (A.1 367 37) from (hkF eA71 (by first | decide | omega) rfl))]; omega)) ?_
          rintro _ A77 ⟨hA77, frA77_0, frA77_1, frA77_2, frA77_3, frA77_4, frA77_5, frA77_6, afA77_376, afA77_385, afA77_386, afA77_387, rfl, fA77⟩
          have ttA77_12 : (A77.1 367 12).toInt = (A.1 367 12).toInt := congrArg Int32.toInt (frA77_0.trans (hkF eA71 (by first | decide | omega) rfl))
          have ttA77_19 : (A77.1 367 19).toInt = (A.1 367 19).toInt := congrArg Int32.toInt (frA77_1.trans (hkF eA71 (by first | decide | omega) rfl))
          have ttA77_20 : (A77.1 367 20).toInt = (A.1 367 20).toInt := congrArg Int32.toInt (frA77_2.trans (hkF eA71 (by first | decide | omega) rfl))
          have ttA77_31 : (A77.1 367 31).toInt = (A.1 367 31).toInt := congrArg Int32.toInt (frA77_3.trans (hkF eA71 (by first | decide | omega) rfl))
          have ttA77_41 : (A77.1 367 41).toInt = z70.toInt := congrArg Int32.toInt (frA77_4.trans (hkS eA71))
          have ttA77_11 : (A77.1 367 11).toInt = (A.1 367 11).toInt := congrArg Int32.toInt (frA77_5.trans (hkF eA71 (by first | decide | omega) rfl))
          have ttA77_13 : (A77.1 367 13).toInt = (A.1 367 13).toInt := congrArg Int32.toInt (frA77_6.trans (hkF eA71 (by first | decide | omega) rfl))
          have fbA77_367_37 := hA77.f (i := 367) (k := 37) (by rfl)
          have hq78 := hOp hqq eA71 fA71 (by omega) fA77.2 fA77.1 frA77_4 frA77_5 (by omega) (by omega) hn
          have chq78 := hq78.2.2.2
          refine hxa_goto (by rfl) ?_
          exact L0 (Int.toNat (z70.toInt) + 1) (A77.1 367 37) z70 z43 A77 hA77 (frA77_5.trans (hkF eA71 (by first | decide | omega) rfl)) (frA77_0.trans (hkF eA71 (by first | decide | omega) rfl)) (frA77_6.trans (hkF eA71 (by first | decide | omega) rfl)) (frA77_1.trans (hkF eA71 (by first | decide | omega) rfl)) (frA77_2.trans (hkF eA71 (by first | decide | omega) rfl)) (frA77_3.trans (hkF eA71 (by first | decide | omega) rfl)) rfl (frA77_4.trans (hkS eA71)) (afA77_376.trans (hafF fA71 rfl)) (afA77_385.trans (hafF fA71 rfl)) (afA77_386.trans (hafF fA71 rfl)) (afA77_387.trans (hafF fA71 rfl)) (by omega) (by omega) (by omega) (by omega) (by omega) (by omega) (by omega) (by exact ⟨_, hq78.1, ((hK.refl _ _).trans hq78.2.1 (by omega)), (hq78.2.2.1.trans rfl), by omega⟩) (by omega)
theorem hX160q4 {d : Nat} {Bn Br : Int} {A0 A : hs_A} (hA : hJ 4 Bn Br A0 A) {f : Int} {o g : Nat} (hqq : hQ 0 f o g 1 A) (hl : (A0.1 367 18).toInt = 1) (a1 : Int32) (p1 : 0 ≤ a1.toInt) (q1 : a1.toInt ≤ 1) : hxC (d + 2) 160 hm_m160 [.ref 368, .int a1] A (fun r A' => hJ 4 Bn Br A0 A' ∧ A'.1 367 12 = A.1 367 12 ∧ A'.1 367 19 = A.1 367 19 ∧ A'.1 367 20 = A.1 367 20 ∧ A'.1 367 31 = A.1 367 31 ∧ A'.1 367 11 = A.1 367 11 ∧ A'.1 367 13 = A.1 367 13 ∧ A'.2.1 376 = A.2.1 376 ∧ A'.2.1 385 = A.2.1 385 ∧ A'.2.1 386 = A.2.1 386 ∧ A'.2.1 387 = A.2.1 387 ∧ r = none ∧ (∃ g2 : Nat, hQ 0 f o g2 1 A' ∧ g2 ≤ 1 ∧ (a1.toInt = 0 → g2 = 0) ∧ hK (A.1 367 37).toInt.toNat A A' ∧ A'.2.1 392 = A.2.1 392 ∧ (A.1 367 37).toInt ≤ (A'.1 367 37).toInt)) := hxC.of (by rfl) (hY160q4 hA hqq hl a1 p1 q1 (fun r A' h => h))
theorem hY159q5 {d : Nat} {Bn Br : Int} {A0 A : hs_A} (hA : hJ 5 Bn Br A0 A) (hl : (A0.1 367 18).toInt = 0) (a1 : Int32) (a2 : Int32) (fl0 : 420 ≤ (A.1 367 37).toInt) (fh0 : (A.1 367 37).toInt ≤ 839) {P : Option Value → hs_A → Prop} (hP : ∀ (r : Option Value) (A' : hs_A), (hJ 5 Bn Br A0 A' ∧ A'.1 367 12 = A.1 367 12 ∧ A'.1 367 19 = A.1 367 19 ∧ A'.1 367 20 = A.1 367 20 ∧ A'.1 367 31 = A.1 367 31 ∧ A'.1 367 41 = A.1 367 41 ∧ A'.1 367 11 = A.1 367 11 ∧ A'.1 367 13 = A.1 367 13 ∧ A'.2.1 376 = A.2.1 376 ∧ A'.2.1 385 = A.2.1 385 ∧ A'.2.1 386 = A.2.1 386 ∧ A'.2.1 387 = A.2.1 387 ∧ r = none ∧ ((A'.1 367 37).toInt = (A.1 367 37).toInt + 1 ∧ A'.2.1 = hs_up (hs_up A.2.1 390 (A.1 367 37).toNatClampNeg a1) 391 (A.1 367 37).toNatClampNeg a2)) → P r A') : hxa (d + 0) none hm_t159 0 [.ref 368, .int a1, .int a2] [] A P := by
  have fb367_11 := hA.f (i := 367) (k := 11) (by rfl)
  have fb367_12 := hA.f (i := 367) (k := 12) (by rfl)
  have fb367_13 := hA.f (i := 367) (k := 13) (by rfl)
  have fb367_19 := hA.f (i := 367) (k := 19) (by rfl)
  have fb367_20 := hA.f (i := 367) (k := 20) (by rfl)
  have fb367_31 := hA.f (i := 367) (k := 31) (by rfl)
  have fb367_41 := hA.f (i := 367) (k := 41) (by rfl)
  refine hxa_aload_n (by rfl) rfl ?_
  refine hxa_get (v := .ref 391) (by rfl) (by rfl) (by rfl) rfl ?_
  refine hxa_aload_n (by rfl) rfl ?_
  refine hxj_getK (by rfl) (by rfl) (by rfl) rfl ?_
  refine hxa_iload_n (by rfl) rfl ?_
  refine hxj_iastE (by rfl) (by rfl) rfl (by omega) (by omega) hA (by omega) (hlrC hl rfl (by omega) (by omega) (by omega)) (fun A1 hA1 eA1 fA1 gA1 => ?_)
  refine hxa_aload_n (by rfl) rfl ?_
  refine hxa_get (v := .ref 392) (by rfl) (by rfl) (by rfl) rfl ?_
  refine hxa_aload_n (by rfl) rfl ?_
  refine hxj_getK (by rfl) (by rfl) (by rfl) (hkA eA1 rfl) ?_
  refine hxa_iload_n (by rfl) rfl ?_
  refine hxj_iastE (by rfl) (by rfl) rfl (by omega) (by omega) hA1 (by omega) (hlrC hl rfl (by omega) (by omega) (by omega)) (fun A2 hA2 eA2 fA2 gA2 => ?_)
  refine hxa_aload_n (by rfl) rfl ?_
  refine hxa_dupR (by rfl) ?_
  refine hxj_getK (by rfl) (by rfl) (by rfl) (hkA eA2 (hkA eA1 rfl)) ?_
  refine hxa_iconst (by rfl) rfl ?_
  refine hxj_iadd (by rfl) rfl hk_1 (by omega) (by omega) (fun z3 ez3 => ?_)
  refine hxj_putI (by rfl) (by rfl) (by rfl) (by rfl) hA2 (hbok (by rfl) rfl (by omega) (by omega)) (by rfl) (by rfl) (fun A4 hA4 eA4 fA4 => ?_)
  exact hxa_return (by rfl) rfl (hP _ _ ⟨hA4, (hkF eA4 (by first | decide | omega) (hkA eA2 (hkA eA1 rfl))), (hkF eA4 (by first | decide | omega) (hkA eA2 (hkA eA1 rfl))), (hkF eA4 (by first | decide | omega) (hkA eA2 (hkA eA1 rfl))), (hkF eA4 (by first | decide | omega) (hkA eA2 (hkA eA1 rfl))), (hkF eA4 (by first | decide | omega) (hkA eA2 (hkA eA1 rfl))), (hkF eA4 (by first | decide | omega) (hkA eA2 (hkA eA1 rfl))), (hkF eA4 (by first | decide | omega) (hkA eA2 (hkA eA1 rfl))), (hafF fA4 (hafA fA2 (by first | decide | omega) (hafA fA1 (by first | decide | omega) rfl))), (hafF fA4 (hafA fA2 (by first | decide | omega) (hafA fA1 (by first | decide | omega) rfl))), (hafF fA4 (hafA fA2 (by first | decide | omega) (hafA fA1 (by first | decide | omega) rfl))), (hafF fA4 (hafA fA2 (by first | decide | omega) (hafA fA1 (by first | decide | omega) rfl))), rfl, ⟨by rw [(show A4.1 367 37 = z3 from (hkS eA4))]; omega, by rw [(show A4.2.1 = A2.2.1 from congrArg Prod.fst fA4), fA2, fA1]⟩⟩)
theorem hX159q5 {d : Nat} {Bn Br : Int} {A0 A : hs_A} (hA : hJ 5 Bn Br A0 A) (hl : (A0.1 367 18).toInt = 0) (a1 : Int32) (a2 : Int32) (fl0 : 420 ≤ (A.1 367 37).toInt) (fh0 : (A.1 367 37).toInt ≤ 839) : hxC (d + 1) 159 hm_m159 [.ref 368, .int a1, .int a2] A (fun r A' => hJ 5 Bn Br A0 A' ∧ A'.1 367 12 = A.1 367 12 ∧ A'.1 367 19 = A.1 367 19 ∧ A'.1 367 20 = A.1 367 20 ∧ A'.1 367 31 = A.1 367 31 ∧ A'.1 367 41 = A.1 367 41 ∧ A'.1 367 11 = A.1 367 11 ∧ A'.1 367 13 = A.1 367 13 ∧ A'.2.1 376 = A.2.1 376 ∧ A'.2.1 385 = A.2.1 385 ∧ A'.2.1 386 = A.2.1 386 ∧ A'.2.1 387 = A.2.1 387 ∧ r = none ∧ ((A'.1 367 37).toInt = (A.1 367 37).toInt + 1 ∧ A'.2.1 = hs_up (hs_up A.2.1 390 (A.1 367 37).toNatClampNeg a1) 391 (A.1 367 37).toNatClampNeg a2)) := hxC.of (by rfl) (hY159q5 hA hl a1 a2 fl0 fh0 (fun r A' h => h))
theorem hY162q5 {d : Nat} {Bn Br : Int} {A0 A : hs_A} (hA : hJ 5 Bn Br A0 A) {f : Int} {o g : Nat} (hqq : hQ 1 f o g 0 A) (hl : (A0.1 367 18).toInt = 0)  {P : Option Value → hs_A → Prop} (hP : ∀ (r : Option Value) (A' : hs_A), (hJ 5 Bn Br A0 A' ∧ A'.1 367 12 = A.1 367 12 ∧ A'.1 367 19 = A.1 367 19 ∧ A'.1 367 20 = A.1 367 20 ∧ A'.1 367 31 = A.1 367 31 ∧ A'.1 367 41 = A.1 367 41 ∧ A'.2.1 376 = A.2.1 376 ∧ A'.2.1 385 = A.2.1 385 ∧ A'.2.1 386 = A.2.1 386 ∧ A'.2.1 387 = A.2.1 387 ∧ r = none ∧ ((¬ (A'.1 367 13).toInt = 0 ∨ ((A.1 367 13).toInt = 0 ∧ (A'.1 367 11).toInt = (A.1 367 11).toInt + 1 ∧ hQ 1 f o g 1 A')) ∧ (A.1 367 11).toInt ≤ (A'.1 367 11).toInt ∧ (A.1 367 37).toInt ≤ (A'.1 367 37).toInt ∧ (A'.1 367 37).toInt ≤ (A.1 367 37).toInt + 1 ∧ hK (A.1 367 37).toInt.toNat A A' ∧ A'.2.1 392 = A.2.1 392)) → P r A') : hxa (d + 2) none hm_t162 0 [.ref 368] [] A P := by
  have k0 := hk_0
  have k1 := hk_1
  have k2 := hk_2
  have fb367_11 := hA.f (i := 367) (k := 11) (by rfl)
  have fb367_12 := hA.f (i := 367) (k := 12) (by rfl)
  have fb367_13 := hA.f (i := 367) (k := 13) (by rfl)
  have fb367_19 := hA.f (i := 367) (k := 19) (by rfl)
  have fb367_20 := hA.f (i := 367) (k := 20) (by rfl)
  have fb367_31 := hA.f (i := 367) (k := 31) (by rfl)
  have fb367_37 := hA.f (i := 367) (k := 37) (by rfl)
  have fb367_41 := hA.f (i := 367) (k := 41) (by rfl)
  have cb1 := hQ.cb hqq (hA.f (i := 367) (k := 11) (by rfl)).2
  refine hxa_aload_n (by rfl) rfl ?_
  refine hxa_iconst (by rfl) rfl ?_
  refine hxa_call0 (by rfl) (by rfl) (by rfl) (by rfl) (by rfl) (by rfl) (hX144q5 (d := d + 1) hA (Int32.ofNat 2)) ?_
  rintro _ _ ⟨rfl, z2, rfl, fz2⟩
  rcases fz2 with fz2 | fz2
  ·
    refine hxj_zeq (by rfl) rfl (fun q3 => False.elim (by omega)) (fun q3 => ?_)
    refine hxa_aload_n (by rfl) rfl ?_
    refine hxa_iconst (by rfl) rfl ?_
    refine hxa_aload_n (by rfl) rfl ?_
    refine hxa_get (v := .ref 373) (by rfl) (by rfl) (by rfl) rfl ?_
    refine hxa_aload_n (by rfl) rfl ?_
    refine hxj_getK (by rfl) (by rfl) (by rfl) rfl ?_
    refine hxj_ialdB (by rfl) (by rfl) rfl (by omega) (by omega) hA (by rfl) (fun z4 ez4 fz4 gz4 => ?_)
    refine hxa_call0 (by rfl) (by rfl) (by rfl) (by rfl) (by rfl) (by rfl) (hX159q5 (d := d + 1) hA (by omega) (Int32.ofNat 0) z4 (by omega) (by omega)) ?_
    rintro _ A5 ⟨hA5, frA5_0, frA5_1, frA5_2, frA5_3, frA5_4, frA5_5, frA5_6, afA5_376, afA5_385, afA5_386, afA5_387, rfl, fA5⟩
    have ttA5_12 : (A5.1 367 12).toInt = (A.1 367 12).toInt := congrArg Int32.toInt (frA5_0.trans rfl)
    have ttA5_19 : (A5.1 367 19).toInt = (A.1 367 19).toInt := congrArg Int32.toInt (frA5_1.trans rfl)
    have ttA5_20 : (A5.1 367 20).toInt = (A.1 367 20).toInt := congrArg Int32.toInt (frA5_2.trans rfl)
    have ttA5_31 : (A5.1 367 31).toInt = (A.1 367 31).toInt := congrArg Int32.toInt (frA5_3.trans rfl)
    have ttA5_41 : (A5.1 367 41).toInt = (A.1 367 41).toInt := congrArg Int32.toInt (frA5_4.trans rfl)
    have ttA5_11 : (A5.1 367 11).toInt = (A.1 367 11).toInt := congrArg Int32.toInt (frA5_5.trans rfl)
    have ttA5_13 : (A5.1 367 13).toInt = (A.1 367 13).toInt := congrArg Int32.toInt (frA5_6.trans rfl)
    have fbA5_367_37 := hA5.f (i := 367) (k := 37) (by rfl)
    refine hxa_aload_n (by rfl) rfl ?_
    refine hxa_call0 (by rfl) (by rfl) (by rfl) (by rfl) (by rfl) (by rfl) (hX147q5 (d := d + 0) hA5 ) ?_
    rintro _ A6 ⟨hA6, frA6_0, frA6_1, frA6_2, frA6_3, frA6_4, frA6_5, aeA6, rfl, fA6⟩
    have ttA6_12 : (A6.1 367 12).toInt = (A.1 367 12).toInt := congrArg Int32.toInt (frA6_0.trans (frA5_0.trans rfl))
    have ttA6_19 : (A6.1 367 19).toInt = (A.1 367 19).toInt := congrArg Int32.toInt (frA6_1.trans (frA5_1.trans rfl))
    have ttA6_20 : (A6.1 367 20).toInt = (A.1 367 20).toInt := congrArg Int32.toInt (frA6_2.trans (frA5_2.trans rfl))
    have ttA6_31 : (A6.1 367 31).toInt = (A.1 367 31).toInt := congrArg Int32.toInt (frA6_3.trans (frA5_3.trans rfl))
    have ttA6_37 : (A6.1 367 37).toInt = (A5.1 367 37).toInt := congrArg Int32.toInt (frA6_4.trans rfl)
    have ttA6_41 : (A6.1 367 41).toInt = (A.1 367 41).toInt := congrArg Int32.toInt (frA6_5.trans (frA5_4.trans rfl))
    have fbA6_367_11 := hA6.f (i := 367) (k := 11) (by rfl)
    have fbA6_367_13 := hA6.f (i := 367) (k := 13) (by rfl)
    refine hxa_goto (by rfl) ?_
    exact hxa_return (by rfl) rfl (hP _ _ ⟨hA6, (frA6_0.trans (frA5_0.trans rfl)), (frA6_1.trans (frA5_1.trans rfl)), (frA6_2.trans (frA5_2.trans rfl)), (frA6_3.trans (frA5_3.trans rfl)), (frA6_5.trans (frA5_4.trans rfl)), (hafL aeA6 (afA5_376.trans rfl)), (hafL aeA6 (afA5_385.trans rfl)), (hafL aeA6 (afA5_386.trans rfl)), (hafL aeA6 (afA5_387.trans rfl)), rfl, hUnit hqq fA5.1 fA5.2 ttA6_37 ttA6_41 ttA5_11 ttA5_13 aeA6 fA6 (by omega)⟩)
  ·
    refine hxj_zeq (by rfl) rfl (fun q7 => ?_) (fun q7 => False.elim (by omega))
    refine hxa_aload_n (by rfl) rfl ?_
    refine hxj_getK (by rfl) (by rfl) (by rfl) rfl ?_
    refine hxj_zne (by rfl) rfl (fun q8 => ?_) (fun q8 => ?_)
    ·
      refine hxa_aload_n (by rfl) rfl ?_
      refine hxa_iconst (by rfl) rfl ?_
      refine hxa_call0 (by rfl) (by rfl) (by rfl) (by rfl) (by rfl) (by rfl) (hX145q5 (d := d + 1) hA (Int32.ofNat 1) (by omega) (by omega)) ?_
      rintro _ A9 ⟨hA9, frA9_0, frA9_1, frA9_2, frA9_3, frA9_4, frA9_5, aeA9, rfl, fA9⟩
      have ttA9_12 : (A9.1 367 12).toInt = (A.1 367 12).toInt := congrArg Int32.toInt (frA9_0.trans rfl)
      have ttA9_19 : (A9.1 367 19).toInt = (A.1 367 19).toInt := congrArg Int32.toInt (frA9_1.trans rfl)
      have ttA9_20 : (A9.1 367 20).toInt = (A.1 367 20).toInt := congrArg Int32.toInt (frA9_2.trans rfl)
      have ttA9_31 : (A9.1 367 31).toInt = (A.1 367 31).toInt := congrArg Int32.toInt (frA9_3.trans rfl)
      have ttA9_37 : (A9.1 367 37).toInt = (A.1 367 37).toInt := congrArg Int32.toInt (frA9_4.trans rfl)
      have ttA9_41 : (A9.1 367 41).toInt = (A.1 367 41).toInt := congrArg Int32.toInt (frA9_5.trans rfl)
      have fbA9_367_11 := hA9.f (i := 367) (k := 11) (by rfl)
      have fbA9_367_13 := hA9.f (i := 367) (k := 13) (by rfl)
      exact hxa_return (by rfl) rfl (hP _ _ ⟨hA9, (frA9_0.trans rfl), (frA9_1.trans rfl), (frA9_2.trans rfl), (frA9_3.trans rfl), (frA9_5.trans rfl), (hafL aeA9 rfl), (hafL aeA9 rfl), (hafL aeA9 rfl), (hafL aeA9 rfl), rfl, hUnitF ttA9_37 aeA9 fA9⟩)
    ·
      refine hxa_aload_n (by rfl) rfl ?_
      refine hxa_get (v := .ref 371) (by rfl) (by rfl) (by rfl) rfl ?_
      refine hxa_aload_n (by rfl) rfl ?_
      refine hxj_getK (by rfl) (by rfl) (by rfl) rfl ?_
      refine hxj_ialdB (by rfl) (by rfl) rfl (by omega) (by omega) hA (by rfl) (fun z10 ez10 fz10 gz10 => ?_)
      refine hxa_bipush (by rfl) rfl ?_
      refine hxj_clt (by rfl) rfl hk_31 (fun q11 => ?_) (fun q11 => ?_)
      ·
        refine hxa_aload_n (by rfl) rfl ?_
        refine hxa_iconst (by rfl) rfl ?_
        refine hxa_call0 (by rfl) (by rfl) (by rfl) (by rfl) (by rfl) (by rfl) (hX145q5 (d := d + 1) hA (Int32.ofNat 1) (by omega) (by omega)) ?_
        rintro _ A12 ⟨hA12, frA12_0, frA12_1, frA12_2, frA12_3, frA12_4, frA12_5, aeA12, rfl, fA12⟩
        have ttA12_12 : (A12.1 367 12).toInt = (A.1 367 12).toInt := congrArg Int32.toInt (frA12_0.trans rfl)
        have ttA12_19 : (A12.1 367 19).toInt = (A.1 367 19).toInt := congrArg Int32.toInt (frA12_1.trans rfl)
        have ttA12_20 : (A12.1 367 20).toInt = (A.1 367 20).toInt := congrArg Int32.toInt (frA12_2.trans rfl)
        have ttA12_31 : (A12.1 367 31).toInt = (A.1 367 31).toInt := congrArg Int32.toInt (frA12_3.trans rfl)
        have ttA12_37 : (A12.1 367 37).toInt = (A.1 367 37).toInt := congrArg Int32.toInt (frA12_4.trans rfl)
        have ttA12_41 : (A12.1 367 41).toInt = (A.1 367 41).toInt := congrArg Int32.toInt (frA12_5.trans rfl)
        have fbA12_367_11 := hA12.f (i := 367) (k := 11) (by rfl)
        have fbA12_367_13 := hA12.f (i := 367) (k := 13) (by rfl)
        exact hxa_return (by rfl) rfl (hP _ _ ⟨hA12, (frA12_0.trans rfl), (frA12_1.trans rfl), (frA12_2.trans rfl), (frA12_3.trans rfl), (frA12_5.trans rfl), (hafL aeA12 rfl), (hafL aeA12 rfl), (hafL aeA12 rfl), (hafL aeA12 rfl), rfl, hUnitF ttA12_37 aeA12 fA12⟩)
      ·
        refine hxa_aload_n (by rfl) rfl ?_
        refine hxa_get (v := .ref 371) (by rfl) (by rfl) (by rfl) rfl ?_
        refine hxa_aload_n (by rfl) rfl ?_
        refine hxj_getK (by rfl) (by rfl) (by rfl) rfl ?_
        refine hxj_ialdK (by rfl) (by rfl) rfl (by omega) (by omega) ez10 ?_
        refine hxa_bipush (by rfl) rfl ?_
        refine hxj_cgt (by rfl) rfl hk_39 (fun q13 => False.elim (by omega)) (fun q13 => ?_)
        refine hxa_aload_n (by rfl) rfl ?_
        refine hxa_iconst (by rfl) rfl ?_
        refine hxa_aload_n (by rfl) rfl ?_
        refine hxa_get (v := .ref 371) (by rfl) (by rfl) (by rfl) rfl ?_
        refine hxa_aload_n (by rfl) rfl ?_
        refine hxj_getK (by rfl) (by rfl) (by rfl) rfl ?_
        refine hxj_ialdK (by rfl) (by rfl) rfl (by omega) (by omega) ez10 ?_
        refine hxa_bipush (by rfl) rfl ?_
        refine hxj_isub (by rfl) rfl hk_31 (by omega) (by omega) (fun z14 ez14 => ?_)
        refine hxa_call0 (by rfl) (by rfl) (by rfl) (by rfl) (by rfl) (by rfl) (hX159q5 (d := d + 1) hA (by omega) (Int32.ofNat 1) z14 (by omega) (by omega)) ?_
        rintro _ A15 ⟨hA15, frA15_0, frA15_1, frA15_2, frA15_3, frA15_4, frA15_5, frA15_6, afA15_376, afA15_385, afA15_386, afA15_387, rfl, fA15⟩
        have ttA15_12 : (A15.1 367 12).toInt = (A.1 367 12).toInt := congrArg Int32.toInt (frA15_0.trans rfl)
        have ttA15_19 : (A15.1 367 19).toInt = (A.1 367 19).toInt := congrArg Int32.toInt (frA15_1.trans rfl)
        have ttA15_20 : (A15.1 367 20).toInt = (A.1 367 20).toInt := congrArg Int32.toInt (frA15_2.trans rfl)
        have ttA15_31 : (A15.1 367 31).toInt = (A.1 367 31).toInt := congrArg Int32.toInt (frA15_3.trans rfl)
        have ttA15_41 : (A15.1 367 41).toInt = (A.1 367 41).toInt := congrArg Int32.toInt (frA15_4.trans rfl)
        have ttA15_11 : (A15.1 367 11).toInt = (A.1 367 11).toInt := congrArg Int32.toInt (frA15_5.trans rfl)
        have ttA15_13 : (A15.1 367 13).toInt = (A.1 367 13).toInt := congrArg Int32.toInt (frA15_6.trans rfl)
        have fbA15_367_37 := hA15.f (i := 367) (k := 37) (by rfl)
        refine hxa_aload_n (by rfl) rfl ?_
        refine hxa_call0 (by rfl) (by rfl) (by rfl) (by rfl) (by rfl) (by rfl) (hX147q5 (d := d + 0) hA15 ) ?_
        rintro _ A16 ⟨hA16, frA16_0, frA16_1, frA16_2, frA16_3, frA16_4, frA16_5, aeA16, rfl, fA16⟩
        have ttA16_12 : (A16.1 367 12).toInt = (A.1 367 12).toInt := congrArg Int32.toInt (frA16_0.trans (frA15_0.trans rfl))
        have ttA16_19 : (A16.1 367 19).toInt = (A.1 367 19).toInt := congrArg Int32.toInt (frA16_1.trans (frA15_1.trans rfl))
        have ttA16_20 : (A16.1 367 20).toInt = (A.1 367 20).toInt := congrArg Int32.toInt (frA16_2.trans (frA15_2.trans rfl))
        have ttA16_31 : (A16.1 367 31).toInt = (A.1 367 31).toInt := congrArg Int32.toInt (frA16_3.trans (frA15_3.trans rfl))
        have ttA16_37 : (A16.1 367 37).toInt = (A15.1 367 37).toInt := congrArg Int32.toInt (frA16_4.trans rfl)
        have ttA16_41 : (A16.1 367 41).toInt = (A.1 367 41).toInt := congrArg Int32.toInt (frA16_5.trans (frA15_4.trans rfl))
        have fbA16_367_11 := hA16.f (i := 367) (k := 11) (by rfl)
        have fbA16_367_13 := hA16.f (i := 367) (k := 13) (by rfl)
        refine hxa_goto (by rfl) ?_
        exact hxa_return (by rfl) rfl (hP _ _ ⟨hA16, (frA16_0.trans (frA15_0.trans rfl)), (frA16_1.trans (frA15_1.trans rfl)), (frA16_2.trans (frA15_2.trans rfl)), (frA16_3.trans (frA15_3.trans rfl)), (frA16_5.trans (frA15_4.trans rfl)), (hafL aeA16 (afA15_376.trans rfl)), (hafL aeA16 (afA15_385.trans rfl)), (hafL aeA16 (afA15_386.trans rfl)), (hafL aeA16 (afA15_387.trans rfl)), rfl, hUnit hqq fA15.1 fA15.2 ttA16_37 ttA16_41 ttA15_11 ttA15_13 aeA16 fA16 (by omega)⟩)
theorem hX162q5 {d : Nat} {Bn Br : Int} {A0 A : hs_A} (hA : hJ 5 Bn Br A0 A) {f : Int} {o g : Nat} (hqq : hQ 1 f o g 0 A) (hl : (A0.1 367 18).toInt = 0)  : hxC (d + 3) 162 hm_m162 [.ref 368] A (fun r A' => hJ 5 Bn Br A0 A' ∧ A'.1 367 12 = A.1 367 12 ∧ A'.1 367 19 = A.1 367 19 ∧ A'.1 367 20 = A.1 367 20 ∧ A'.1 367 31 = A.1 367 31 ∧ A'.1 367 41 = A.1 367 41 ∧ A'.2.1 376 = A.2.1 376 ∧ A'.2.1 385 = A.2.1 385 ∧ A'.2.1 386 = A.2.1 386 ∧ A'.2.1 387 = A.2.1 387 ∧ r = none ∧ ((¬ (A'.1 367 13).toInt = 0 ∨ ((A.1 367 13).toInt = 0 ∧ (A'.1 367 11).toInt = (A.1 367 11).toInt + 1 ∧ hQ 1 f o g 1 A')) ∧ (A.1 367 11).toInt ≤ (A'.1 367 11).toInt ∧ (A.1 367 37).toInt ≤ (A'.1 367 37).toInt ∧ (A'.1 367 37).toInt ≤ (A.1 367 37).toInt + 1 ∧ hK (A.1 367 37).toInt.toNat A A' ∧ A'.2.1 392 = A.2.1 392)) := hxC.of (by rfl) (hY162q5 hA hqq hl (fun r A' h => h))
theorem hY160q5 {d : Nat} {Bn Br : Int} {A0 A : hs_A} (hA : hJ 5 Bn Br A0 A) {f : Int} {o g : Nat} (hqq : hQ 1 f o g 1 A) (hl : (A0.1 367 18).toInt = 0) (a1 : Int32) (p1 : 0 ≤ a1.toInt) (q1 : a1.toInt ≤ 1) {P : Option Value → hs_A → Prop} (hP : ∀ (r : Option Value) (A' : hs_A), (hJ 5 Bn Br A0 A' ∧ A'.1 367 12 = A.1 367 12 ∧ A'.1 367 19 = A.1 367 19 ∧ A'.1 367 20 = A.1 367 20 ∧ A'.1 367 31 = A.1 367 31 ∧ A'.1 367 11 = A.1 367 11 ∧ A'.1 367 13 = A.1 367 13 ∧ A'.2.1 376 = A.2.1 376 ∧ A'.2.1 385 = A.2.1 385 ∧ A'.2.1 386 = A.2.1 386 ∧ A'.2.1 387 = A.2.1 387 ∧ r = none ∧ (∃ g2 : Nat, hQ 1 f o g2 1 A' ∧ g2 ≤ 1 ∧ (a1.toInt = 0 → g2 = 0) ∧ hK (A.1 367 37).toInt.toNat A A' ∧ A'.2.1 392 = A.2.1 392 ∧ (A.1 367 37).toInt ≤ (A'.1 367 37).toInt)) → P r A') : hxa (d + 1) none hm_t160 0 [.ref 368, .int a1, .retAddr 0] [] A P := by
  have k0 := hk_0
  have k2 := hk_2
  have k3 := hk_3
  have k4 := hk_4
  have k5 := hk_5
  have fb367_11 := hA.f (i := 367) (k := 11) (by rfl)
  have fb367_12 := hA.f (i := 367) (k := 12) (by rfl)
  have fb367_13 := hA.f (i := 367) (k := 13) (by rfl)
  have fb367_19 := hA.f (i := 367) (k := 19) (by rfl)
  have fb367_20 := hA.f (i := 367) (k := 20) (by rfl)
  have fb367_31 := hA.f (i := 367) (k := 31) (by rfl)
  have fb367_37 := hA.f (i := 367) (k := 37) (by rfl)
  have fb367_41 := hA.f (i := 367) (k := 41) (by rfl)
  have hw' := hqq.2.1
  have cb1 := hQ.cb hqq (hA.f (i := 367) (k := 11) (by rfl)).2
  have L0 : ∀ (m0 : Nat) (w0_6 : Int32) (w0_7 : Int32) (x0_2 : Int32) (Ac0 : hs_A) (hAc0 : hJ 5 Bn Br A0 Ac0) (ek0_0 : Ac0.1 367 11 = (A.1 367 11)) (ek0_1 : Ac0.1 367 12 = (A.1 367 12)) (ek0_2 : Ac0.1 367 13 = (A.1 367 13)) (ek0_3 : Ac0.1 367 19 = (A.1 367 19)) (ek0_4 : Ac0.1 367 20 = (A.1 367 20)) (ek0_5 : Ac0.1 367 31 = (A.1 367 31)) (ek0_6 : Ac0.1 367 37 = w0_6) (ek0_7 : Ac0.1 367 41 = w0_7) (af0_376 : Ac0.2.1 376 = A.2.1 376) (af0_385 : Ac0.2.1 385 = A.2.1 385) (af0_386 : Ac0.2.1 386 = A.2.1 386) (af0_387 : Ac0.2.1 387 = A.2.1 387) (bx0_2 : 8 ≤ x0_2.toInt) (cx0_2 : x0_2.toInt ≤ 15) (bw0_6 : 0 ≤ w0_6.toInt) (cw0_6 : w0_6.toInt ≤ 840) (bw0_7 : 0 ≤ w0_7.toInt) (cw0_7 : w0_7.toInt ≤ 63) (b_A_1_367_41_ : 1 ≤ (A.1 367 41).toInt) (u0_0 : ∃ g2 : Nat, hQ 1 f o g2 1 Ac0 ∧ hK (A.1 367 37).toInt.toNat A Ac0 ∧ Ac0.2.1 392 = A.2.1 392 ∧ (A.1 367 37).toInt ≤ (Ac0.1 367 37).toInt) (hm0 : w0_7.toInt < (m0 : Int)), hxa (d + 1) none hm_t160 0 [.ref 368, .int a1, .int x0_2] [] Ac0 P := by
    intro m0
    induction m0 with
    | zero => intro w0_6 w0_7 x0_2 Ac0 hAc0 ek0_0 ek0_1 ek0_2 ek0_3 ek0_4 ek0_5 ek0_6 ek0_7 af0_376 af0_385 af0_386 af0_387 bx0_2 cx0_2 bw0_6 cw0_6 bw0_7 cw0_7 b_A_1_367_41_ u0_0 hm0;  exact False.elim (by omega)
    | succ m0 ih0 =>
      intro w0_6 w0_7 x0_2 Ac0 hAc0 ek0_0 ek0_1 ek0_2 ek0_3 ek0_4 ek0_5 ek0_6 ek0_7 af0_376 af0_385 af0_386 af0_387 bx0_2 cx0_2 bw0_6 cw0_6 bw0_7 cw0_7 b_A_1_367_41_ u0_0 hm0
      have tk0_6 : (Ac0.1 367 37).toInt = w0_6.toInt := congrArg Int32.toInt ek0_6
      have tk0_7 : (Ac0.1 367 41).toInt = w0_7.toInt := congrArg Int32.toInt ek0_7
      obtain ⟨g2, hq2, hk2, h92, hc2⟩ := u0_0
      have hw2 := hq2.2.1
      have nAc0_37 : (Ac0.1 367 37).toInt = w0_6.toInt := congrArg Int32.toInt ek0_6
      have nAc0_41 : (Ac0.1 367 41).toInt = w0_7.toInt := congrArg Int32.toInt ek0_7
      have cb2 := hQ.cb hq2 (hAc0.f (i := 367) (k := 11) (by rfl)).2
      refine hxa_aload_n (by rfl) rfl ?_
      refine hxj_getK (by rfl) (by rfl) (by rfl) ek0_7 ?_
      refine hxj_zle (by rfl) rfl (fun q3 => ?_) (fun q3 => ?_)
      ·
        exact hxa_return (by rfl) rfl (hP _ _ ⟨hAc0, ek0_1, ek0_3, ek0_4, ek0_5, ek0_0, ek0_2, af0_376, af0_385, af0_386, af0_387, rfl, ⟨_, hq2, by have := hq2.zero (by omega); omega, fun _ => hq2.zero (by omega), hk2, h92, by omega⟩⟩)
      ·
        refine hxa_aload_n (by rfl) rfl ?_
        refine hxa_get (v := .ref 393) (by rfl) (by rfl) (by rfl) rfl ?_
        refine hxa_aload_n (by rfl) rfl ?_
        refine hxj_getK (by rfl) (by rfl) (by rfl) ek0_7 ?_
        refine hxa_iconst (by rfl) rfl ?_
        refine hxj_isub (by rfl) rfl hk_1 (by omega) (by omega) (fun z4 ez4 => ?_)
        refine hxj_iald (by rfl) (by rfl) rfl (by omega) (by omega) (fun z5 ez5 => ?_)
        rcases hQ.top hq2 (by omega) (j := z4) (by omega) ez5 with ⟨hz, hg⟩ | ⟨hz, hg, hn⟩ | ⟨hz, g9, hg, hn⟩
        ·
          refine hxa_s1 (by rfl) (Or.inl ⟨_, rfl, rfl⟩) rfl ?_
          refine hxa_iload_n (by rfl) rfl ?_
          refine hxa_bipush (by rfl) rfl ?_
          refine hxj_ceq (by rfl) rfl hk_6 (fun q6 => ?_) (fun q6 => False.elim (by omega))
          exact hxa_return (by rfl) rfl (hP _ _ ⟨hAc0, ek0_1, ek0_3, ek0_4, ek0_5, ek0_0, ek0_2, af0_376, af0_385, af0_386, af0_387, rfl, ⟨_, hq2, by omega, by intro _; omega, hk2, h92, by omega⟩⟩)
        ·
          refine hxa_s1 (by rfl) (Or.inl ⟨_, rfl, rfl⟩) rfl ?_
          refine hxa_iload_n (by rfl) rfl ?_
          refine hxa_bipush (by rfl) rfl ?_
          refine hxj_ceq (by rfl) rfl hk_6 (fun q7 => False.elim (by omega)) (fun q7 => ?_)
          refine hxa_iload_n (by rfl) rfl ?_
          refine hxj_zeq (by rfl) rfl (fun q8 => ?_) (fun q8 => ?_)
          ·
            refine hxa_aload_n (by rfl) rfl ?_
            refine hxa_dupR (by rfl) ?_
            refine hxj_getK (by rfl) (by rfl) (by rfl) ek0_7 ?_
            refine hxa_iconst (by rfl) rfl ?_
            refine hxj_isub (by rfl) rfl hk_1 (by omega) (by omega) (fun z9 ez9 => ?_)
            refine hxj_putI (by rfl) (by rfl) (by rfl) (by rfl) hAc0 (hbok (by rfl) rfl (by omega) (by omega)) (by rfl) (by rfl) (fun A10 hA10 eA10 fA10 => ?_)
            refine hxa_aload_n (by rfl) rfl ?_
            refine hxa_iload_n (by rfl) rfl ?_
            refine hxa_bipush (by rfl) rfl ?_
            refine hxj_cne (by rfl) rfl hk_8 (fun q11 => ?_) (fun q11 => ?_)
            ·
              refine hxa_iload_n (by rfl) rfl ?_
              refine hxa_bipush (by rfl) rfl ?_
              refine hxj_cne (by rfl) rfl hk_9 (fun q12 => False.elim (by omega)) (fun q12 => ?_)
              refine hxa_iconst (by rfl) rfl ?_
              refine hxa_goto (by rfl) ?_
              refine hxa_iconst (by rfl) rfl ?_
              refine hxa_call0 (by rfl) (by rfl) (by rfl) (by rfl) (by rfl) (by rfl) (hX159q5 (d := d + 0) hA10 (by omega) (Int32.ofNat 3) (Int32.ofNat 0) (by rw [(show A10.1 367 37 = w0_6 from (hkF eA10 (by first | decide | omega) ek0_6))]; omega) (by rw [(show A10.1 367 37 = w0_6 from (hkF eA10 (by first | decide | omega) ek0_6))]; omega)) ?_
              rintro _ A13 ⟨hA13, frA13_0, frA13_1, frA13_2, frA13_3, frA13_4, frA13_5, frA13_6, afA13_376, afA13_385, afA13_386, afA13_387, rfl, fA13⟩
              have ttA13_12 : (A13.1 367 12).toInt = (A.1 367 12).toInt := congrArg Int32.toInt (frA13_0.trans (hkF eA10 (by first | decide | omega) ek0_1))
              have ttA13_19 : (A13.1 367 19).toInt = (A.1 367 19).toInt := congrArg Int32.toInt (frA13_1.trans (hkF eA10 (by first | decide | omega) ek0_3))
              have ttA13_20 : (A13.1 367 20).toInt = (A.1 367 20).toInt := congrArg Int32.toInt (frA13_2.trans (hkF eA10 (by first | decide | omega) ek0_4))
              have ttA13_31 : (A13.1 367 31).toInt = (A.1 367 31).toInt := congrArg Int32.toInt (frA13_3.trans (hkF eA10 (by first | decide | omega) ek0_5))
              have ttA13_41 : (A13.1 367 41).toInt = z9.toInt := congrArg Int32.toInt (frA13_4.trans (hkS eA10))
              have ttA13_11 : (A13.1 367 11).toInt = (A.1 367 11).toInt := congrArg Int32.toInt (frA13_5.trans (hkF eA10 (by first | decide | omega) ek0_0))
              have ttA13_13 : (A13.1 367 13).toInt = (A.1 367 13).toInt := congrArg Int32.toInt (frA13_6.trans (hkF eA10 (by first | decide | omega) ek0_2))
              have fbA13_367_37 := hA13.f (i := 367) (k := 37) (by rfl)
              have hq14 := hOp hq2 eA10 fA10 (by omega) fA13.2 fA13.1 frA13_4 frA13_5 (by omega) (by omega) hn
              have chq14 := hq14.2.2.2
              refine hxa_goto (by rfl) ?_
              exact ih0 (A13.1 367 37) z9 z5 A13 hA13 (frA13_5.trans (hkF eA10 (by first | decide | omega) ek0_0)) (frA13_0.trans (hkF eA10 (by first | decide | omega) ek0_1)) (frA13_6.trans (hkF eA10 (by first | decide | omega) ek0_2)) (frA13_1.trans (hkF eA10 (by first | decide | omega) ek0_3)) (frA13_2.trans (hkF eA10 (by first | decide | omega) ek0_4)) (frA13_3.trans (hkF eA10 (by first | decide | omega) ek0_5)) rfl (frA13_4.trans (hkS eA10)) (afA13_376.trans (hafF fA10 af0_376)) (afA13_385.trans (hafF fA10 af0_385)) (afA13_386.trans (hafF fA10 af0_386)) (afA13_387.trans (hafF fA10 af0_387)) (by omega) (by omega) (by omega) (by omega) (by omega) (by omega) (by omega) (by exact ⟨_, hq14.1, (hk2.trans hq14.2.1 (by omega)), (hq14.2.2.1.trans h92), by omega⟩) (by omega)
            ·
              refine hxa_iconst (by rfl) rfl ?_
              refine hxa_goto (by rfl) ?_
              refine hxa_iconst (by rfl) rfl ?_
              refine hxa_call0 (by rfl) (by rfl) (by rfl) (by rfl) (by rfl) (by rfl) (hX159q5 (d := d + 0) hA10 (by omega) (Int32.ofNat 2) (Int32.ofNat 0) (by rw [(show A10.1 367 37 = w0_6 from (hkF eA10 (by first | decide | omega) ek0_6))]; omega) (by rw [(show A10.1 367 37 = w0_6 from (hkF eA10 (by first | decide | omega) ek0_6))]; omega)) ?_
              rintro _ A15 ⟨hA15, frA15_0, frA15_1, frA15_2, frA15_3, frA15_4, frA15_5, frA15_6, afA15_376, afA15_385, afA15_386, afA15_387, rfl, fA15⟩
              have ttA15_12 : (A15.1 367 12).toInt = (A.1 367 12).toInt := congrArg Int32.toInt (frA15_0.trans (hkF eA10 (by first | decide | omega) ek0_1))
              have ttA15_19 : (A15.1 367 19).toInt = (A.1 367 19).toInt := congrArg Int32.toInt (frA15_1.trans (hkF eA10 (by first | decide | omega) ek0_3))
              have ttA15_20 : (A15.1 367 20).toInt = (A.1 367 20).toInt := congrArg Int32.toInt (frA15_2.trans (hkF eA10 (by first | decide | omega) ek0_4))
              have ttA15_31 : (A15.1 367 31).toInt = (A.1 367 31).toInt := congrArg Int32.toInt (frA15_3.trans (hkF eA10 (by first | decide | omega) ek0_5))
              have ttA15_41 : (A15.1 367 41).toInt = z9.toInt := congrArg Int32.toInt (frA15_4.trans (hkS eA10))
              have ttA15_11 : (A15.1 367 11).toInt = (A.1 367 11).toInt := congrArg Int32.toInt (frA15_5.trans (hkF eA10 (by first | decide | omega) ek0_0))
              have ttA15_13 : (A15.1 367 13).toInt = (A.1 367 13).toInt := congrArg Int32.toInt (frA15_6.trans (hkF eA10 (by first | decide | omega) ek0_2))
              have fbA15_367_37 := hA15.f (i := 367) (k := 37) (by rfl)
              have hq16 := hOp hq2 eA10 fA10 (by omega) fA15.2 fA15.1 frA15_4 frA15_5 (by omega) (by omega) hn
              have chq16 := hq16.2.2.2
              refine hxa_goto (by rfl) ?_
              exact ih0 (A15.1 367 37) z9 z5 A15 hA15 (frA15_5.trans (hkF eA10 (by first | decide | omega) ek0_0)) (frA15_0.trans (hkF eA10 (by first | decide | omega) ek0_1)) (frA15_6.trans (hkF eA10 (by first | decide | omega) ek0_2)) (frA15_1.trans (hkF eA10 (by first | decide | omega) ek0_3)) (frA15_2.trans (hkF eA10 (by first | decide | omega) ek0_4)) (frA15_3.trans (hkF eA10 (by first | decide | omega) ek0_5)) rfl (frA15_4.trans (hkS eA10)) (afA15_376.trans (hafF fA10 af0_376)) (afA15_385.trans (hafF fA10 af0_385)) (afA15_386.trans (hafF fA10 af0_386)) (afA15_387.trans (hafF fA10 af0_387)) (by omega) (by omega) (by omega) (by omega) (by omega) (by omega) (by omega) (by exact ⟨_, hq16.1, (hk2.trans hq16.2.1 (by omega)), (hq16.2.2.1.trans h92), by omega⟩) (by omega)
          ·
            refine hxa_iload_n (by rfl) rfl ?_
            refine hxa_bipush (by rfl) rfl ?_
            refine hxj_ceq (by rfl) rfl hk_8 (fun q17 => ?_) (fun q17 => ?_)
            ·
              exact hxa_return (by rfl) rfl (hP _ _ ⟨hAc0, ek0_1, ek0_3, ek0_4, ek0_5, ek0_0, ek0_2, af0_376, af0_385, af0_386, af0_387, rfl, ⟨_, hq2, by omega, by intro _; omega, hk2, h92, by omega⟩⟩)
            ·
              refine hxa_iload_n (by rfl) rfl ?_
              refine hxa_bipush (by rfl) rfl ?_
              refine hxj_cne (by rfl) rfl hk_9 (fun q18 => False.elim (by omega)) (fun q18 => ?_)
              exact hxa_return (by rfl) rfl (hP _ _ ⟨hAc0, ek0_1, ek0_3, ek0_4, ek0_5, ek0_0, ek0_2, af0_376, af0_385, af0_386, af0_387, rfl, ⟨_, hq2, by omega, by intro _; omega, hk2, h92, by omega⟩⟩)
        ·
          refine hxa_s1 (by rfl) (Or.inl ⟨_, rfl, rfl⟩) rfl ?_
          refine hxa_iload_n (by rfl) rfl ?_
          refine hxa_bipush (by rfl) rfl ?_
          refine hxj_ceq (by rfl) rfl hk_6 (fun q19 => False.elim (by omega)) (fun q19 => ?_)
          refine hxa_iload_n (by rfl) rfl ?_
          refine hxj_zeq (by rfl) rfl (fun q20 => ?_) (fun q20 => ?_)
          ·
            refine hxa_aload_n (by rfl) rfl ?_
            refine hxa_dupR (by rfl) ?_
            refine hxj_getK (by rfl) (by rfl) (by rfl) ek0_7 ?_
            refine hxa_iconst (by rfl) rfl ?_
            refine hxj_isub (by rfl) rfl hk_1 (by omega) (by omega) (fun z21 ez21 => ?_)
            refine hxj_putI (by rfl) (by rfl) (by rfl) (by rfl) hAc0 (hbok (by rfl) rfl (by omega) (by omega)) (by rfl) (by rfl) (fun A22 hA22 eA22 fA22 => ?_)
            refine hxa_aload_n (by rfl) rfl ?_
            refine hxa_iload_n (by rfl) rfl ?_
            refine hxa_bipush (by rfl) rfl ?_
            refine hxj_cne (by rfl) rfl hk_8 (fun q23 => ?_) (fun q23 => False.elim (by omega))
            refine hxa_iload_n (by rfl) rfl ?_
            refine hxa_bipush (by rfl) rfl ?_
            refine hxj_cne (by rfl) rfl hk_9 (fun q24 => ?_) (fun q24 => False.elim (by omega))
            refine hxa_iload_n (by rfl) rfl ?_
            refine hxa_bipush (by rfl) rfl ?_
            refine hxj_cne (by rfl) rfl hk_10 (fun q25 => ?_) (fun q25 => ?_)
            ·
              refine hxa_iconst (by rfl) rfl ?_
              refine hxa_iconst (by rfl) rfl ?_
              refine hxa_call0 (by rfl) (by rfl) (by rfl) (by rfl) (by rfl) (by rfl) (hX159q5 (d := d + 0) hA22 (by omega) (Int32.ofNat 5) (Int32.ofNat 0) (by rw [(show A22.1 367 37 = w0_6 from (hkF eA22 (by first | decide | omega) ek0_6))]; omega) (by rw [(show A22.1 367 37 = w0_6 from (hkF eA22 (by first | decide | omega) ek0_6))]; omega)) ?_
              rintro _ A26 ⟨hA26, frA26_0, frA26_1, frA26_2, frA26_3, frA26_4, frA26_5, frA26_6, afA26_376, afA26_385, afA26_386, afA26_387, rfl, fA26⟩
              have ttA26_12 : (A26.1 367 12).toInt = (A.1 367 12).toInt := congrArg Int32.toInt (frA26_0.trans (hkF eA22 (by first | decide | omega) ek0_1))
              have ttA26_19 : (A26.1 367 19).toInt = (A.1 367 19).toInt := congrArg Int32.toInt (frA26_1.trans (hkF eA22 (by first | decide | omega) ek0_3))
              have ttA26_20 : (A26.1 367 20).toInt = (A.1 367 20).toInt := congrArg Int32.toInt (frA26_2.trans (hkF eA22 (by first | decide | omega) ek0_4))
              have ttA26_31 : (A26.1 367 31).toInt = (A.1 367 31).toInt := congrArg Int32.toInt (frA26_3.trans (hkF eA22 (by first | decide | omega) ek0_5))
              have ttA26_41 : (A26.1 367 41).toInt = z21.toInt := congrArg Int32.toInt (frA26_4.trans (hkS eA22))
              have ttA26_11 : (A26.1 367 11).toInt = (A.1 367 11).toInt := congrArg Int32.toInt (frA26_5.trans (hkF eA22 (by first | decide | omega) ek0_0))
              have ttA26_13 : (A26.1 367 13).toInt = (A.1 367 13).toInt := congrArg Int32.toInt (frA26_6.trans (hkF eA22 (by first | decide | omega) ek0_2))
              have fbA26_367_37 := hA26.f (i := 367) (k := 37) (by rfl)
              have hq27 := hOp hq2 eA22 fA22 (by omega) fA26.2 fA26.1 frA26_4 frA26_5 (by omega) (by omega) hn
              have chq27 := hq27.2.2.2
              refine hxa_goto (by rfl) ?_
              exact ih0 (A26.1 367 37) z21 z5 A26 hA26 (frA26_5.trans (hkF eA22 (by first | decide | omega) ek0_0)) (frA26_0.trans (hkF eA22 (by first | decide | omega) ek0_1)) (frA26_6.trans (hkF eA22 (by first | decide | omega) ek0_2)) (frA26_1.trans (hkF eA22 (by first | decide | omega) ek0_3)) (frA26_2.trans (hkF eA22 (by first | decide | omega) ek0_4)) (frA26_3.trans (hkF eA22 (by first | decide | omega) ek0_5)) rfl (frA26_4.trans (hkS eA22)) (afA26_376.trans (hafF fA22 af0_376)) (afA26_385.trans (hafF fA22 af0_385)) (afA26_386.trans (hafF fA22 af0_386)) (afA26_387.trans (hafF fA22 af0_387)) (by omega) (by omega) (by omega) (by omega) (by omega) (by omega) (by omega) (by exact ⟨_, hq27.1, (hk2.trans hq27.2.1 (by omega)), (hq27.2.2.1.trans h92), by omega⟩) (by omega)
            ·
              refine hxa_iconst (by rfl) rfl ?_
              refine hxa_goto (by rfl) ?_
              refine hxa_iconst (by rfl) rfl ?_
              refine hxa_call0 (by rfl) (by rfl) (by rfl) (by rfl) (by rfl) (by rfl) (hX159q5 (d := d + 0) hA22 (by omega) (Int32.ofNat 4) (Int32.ofNat 0) (by rw [(show A22.1 367 37 = w0_6 from (hkF eA22 (by first | decide | omega) ek0_6))]; omega) (by rw [(show A22.1 367 37 = w0_6 from (hkF eA22 (by first | decide | omega) ek0_6))]; omega)) ?_
              rintro _ A28 ⟨hA28, frA28_0, frA28_1, frA28_2, frA28_3, frA28_4, frA28_5, frA28_6, afA28_376, afA28_385, afA28_386, afA28_387, rfl, fA28⟩
              have ttA28_12 : (A28.1 367 12).toInt = (A.1 367 12).toInt := congrArg Int32.toInt (frA28_0.trans (hkF eA22 (by first | decide | omega) ek0_1))
              have ttA28_19 : (A28.1 367 19).toInt = (A.1 367 19).toInt := congrArg Int32.toInt (frA28_1.trans (hkF eA22 (by first | decide | omega) ek0_3))
              have ttA28_20 : (A28.1 367 20).toInt = (A.1 367 20).toInt := congrArg Int32.toInt (frA28_2.trans (hkF eA22 (by first | decide | omega) ek0_4))
              have ttA28_31 : (A28.1 367 31).toInt = (A.1 367 31).toInt := congrArg Int32.toInt (frA28_3.trans (hkF eA22 (by first | decide | omega) ek0_5))
              have ttA28_41 : (A28.1 367 41).toInt = z21.toInt := congrArg Int32.toInt (frA28_4.trans (hkS eA22))
              have ttA28_11 : (A28.1 367 11).toInt = (A.1 367 11).toInt := congrArg Int32.toInt (frA28_5.trans (hkF eA22 (by first | decide | omega) ek0_0))
              have ttA28_13 : (A28.1 367 13).toInt = (A.1 367 13).toInt := congrArg Int32.toInt (frA28_6.trans (hkF eA22 (by first | decide | omega) ek0_2))
              have fbA28_367_37 := hA28.f (i := 367) (k := 37) (by rfl)
              have hq29 := hOp hq2 eA22 fA22 (by omega) fA28.2 fA28.1 frA28_4 frA28_5 (by omega) (by omega) hn
              have chq29 := hq29.2.2.2
              refine hxa_goto (by rfl) ?_
              exact ih0 (A28.1 367 37) z21 z5 A28 hA28 (frA28_5.trans (hkF eA22 (by first | decide | omega) ek0_0)) (frA28_0.trans (hkF eA22 (by first | decide | omega) ek0_1)) (frA28_6.trans (hkF eA22 (by first | decide | omega) ek0_2)) (frA28_1.trans (hkF eA22 (by first | decide | omega) ek0_3)) (frA28_2.trans (hkF eA22 (by first | decide | omega) ek0_4)) (frA28_3.trans (hkF eA22 (by first | decide | omega) ek0_5)) rfl (frA28_4.trans (hkS eA22)) (afA28_376.trans (hafF fA22 af0_376)) (afA28_385.trans (hafF fA22 af0_385)) (afA28_386.trans (hafF fA22 af0_386)) (afA28_387.trans (hafF fA22 af0_387)) (by omega) (by omega) (by omega) (by omega) (by omega) (by omega) (by omega) (by exact ⟨_, hq29.1, (hk2.trans hq29.2.1 (by omega)), (hq29.2.2.1.trans h92), by omega⟩) (by omega)
          ·
            refine hxa_iload_n (by rfl) rfl ?_
            refine hxa_bipush (by rfl) rfl ?_
            refine hxj_ceq (by rfl) rfl hk_8 (fun q30 => False.elim (by omega)) (fun q30 => ?_)
            refine hxa_iload_n (by rfl) rfl ?_
            refine hxa_bipush (by rfl) rfl ?_
            refine hxj_cne (by rfl) rfl hk_9 (fun q31 => ?_) (fun q31 => False.elim (by omega))
            refine hxa_aload_n (by rfl) rfl ?_
            refine hxa_dupR (by rfl) ?_
            refine hxj_getK (by rfl) (by rfl) (by rfl) ek0_7 ?_
            refine hxa_iconst (by rfl) rfl ?_
            refine hxj_isub (by rfl) rfl hk_1 (by omega) (by omega) (fun z32 ez32 => ?_)
            refine hxj_putI (by rfl) (by rfl) (by rfl) (by rfl) hAc0 (hbok (by rfl) rfl (by omega) (by omega)) (by rfl) (by rfl) (fun A33 hA33 eA33 fA33 => ?_)
            refine hxa_aload_n (by rfl) rfl ?_
            refine hxa_iload_n (by rfl) rfl ?_
            refine hxa_bipush (by rfl) rfl ?_
            refine hxj_cne (by rfl) rfl hk_8 (fun q34 => ?_) (fun q34 => False.elim (by omega))
            refine hxa_iload_n (by rfl) rfl ?_
            refine hxa_bipush (by rfl) rfl ?_
            refine hxj_cne (by rfl) rfl hk_9 (fun q35 => ?_) (fun q35 => False.elim (by omega))
            refine hxa_iload_n (by rfl) rfl ?_
            refine hxa_bipush (by rfl) rfl ?_
            refine hxj_cne (by rfl) rfl hk_10 (fun q36 => ?_) (fun q36 => ?_)
            ·
              refine hxa_iconst (by rfl) rfl ?_
              refine hxa_iconst (by rfl) rfl ?_
              refine hxa_call0 (by rfl) (by rfl) (by rfl) (by rfl) (by rfl) (by rfl) (hX159q5 (d := d + 0) hA33 (by omega) (Int32.ofNat 5) (Int32.ofNat 0) (by rw [(show A33.1 367 37 = w0_6 from (hkF eA33 (by first | decide | omega) ek0_6))]; omega) (by rw [(show A33.1 367 37 = w0_6 from (hkF eA33 (by first | decide | omega) ek0_6))]; omega)) ?_
              rintro _ A37 ⟨hA37, frA37_0, frA37_1, frA37_2, frA37_3, frA37_4, frA37_5, frA37_6, afA37_376, afA37_385, afA37_386, afA37_387, rfl, fA37⟩
              have ttA37_12 : (A37.1 367 12).toInt = (A.1 367 12).toInt := congrArg Int32.toInt (frA37_0.trans (hkF eA33 (by first | decide | omega) ek0_1))
              have ttA37_19 : (A37.1 367 19).toInt = (A.1 367 19).toInt := congrArg Int32.toInt (frA37_1.trans (hkF eA33 (by first | decide | omega) ek0_3))
              have ttA37_20 : (A37.1 367 20).toInt = (A.1 367 20).toInt := congrArg Int32.toInt (frA37_2.trans (hkF eA33 (by first | decide | omega) ek0_4))
              have ttA37_31 : (A37.1 367 31).toInt = (A.1 367 31).toInt := congrArg Int32.toInt (frA37_3.trans (hkF eA33 (by first | decide | omega) ek0_5))
              have ttA37_41 : (A37.1 367 41).toInt = z32.toInt := congrArg Int32.toInt (frA37_4.trans (hkS eA33))
              have ttA37_11 : (A37.1 367 11).toInt = (A.1 367 11).toInt := congrArg Int32.toInt (frA37_5.trans (hkF eA33 (by first | decide | omega) ek0_0))
              have ttA37_13 : (A37.1 367 13).toInt = (A.1 367 13).toInt := congrArg Int32.toInt (frA37_6.trans (hkF eA33 (by first | decide | omega) ek0_2))
              have fbA37_367_37 := hA37.f (i := 367) (k := 37) (by rfl)
              have hq38 := hOp hq2 eA33 fA33 (by omega) fA37.2 fA37.1 frA37_4 frA37_5 (by omega) (by omega) hn
              have chq38 := hq38.2.2.2
              refine hxa_goto (by rfl) ?_
              exact ih0 (A37.1 367 37) z32 z5 A37 hA37 (frA37_5.trans (hkF eA33 (by first | decide | omega) ek0_0)) (frA37_0.trans (hkF eA33 (by first | decide | omega) ek0_1)) (frA37_6.trans (hkF eA33 (by first | decide | omega) ek0_2)) (frA37_1.trans (hkF eA33 (by first | decide | omega) ek0_3)) (frA37_2.trans (hkF eA33 (by first | decide | omega) ek0_4)) (frA37_3.trans (hkF eA33 (by first | decide | omega) ek0_5)) rfl (frA37_4.trans (hkS eA33)) (afA37_376.trans (hafF fA33 af0_376)) (afA37_385.trans (hafF fA33 af0_385)) (afA37_386.trans (hafF fA33 af0_386)) (afA37_387.trans (hafF fA33 af0_387)) (by omega) (by omega) (by omega) (by omega) (by omega) (by omega) (by omega) (by exact ⟨_, hq38.1, (hk2.trans hq38.2.1 (by omega)), (hq38.2.2.1.trans h92), by omega⟩) (by omega)
            ·
              refine hxa_iconst (by rfl) rfl ?_
              refine hxa_goto (by rfl) ?_
              refine hxa_iconst (by rfl) rfl ?_
              refine hxa_call0 (by rfl) (by rfl) (by rfl) (by rfl) (by rfl) (by rfl) (hX159q5 (d := d + 0) hA33 (by omega) (Int32.ofNat 4) (Int32.ofNat 0) (by rw [(show A33.1 367 37 = w0_6 from (hkF eA33 (by first | decide | omega) ek0_6))]; omega) (by rw [(show A33.1 367 37 = w0_6 from (hkF eA33 (by first | decide | omega) ek0_6))]; omega)) ?_
              rintro _ A39 ⟨hA39, frA39_0, frA39_1, frA39_2, frA39_3, frA39_4, frA39_5, frA39_6, afA39_376, afA39_385, afA39_386, afA39_387, rfl, fA39⟩
              have ttA39_12 : (A39.1 367 12).toInt = (A.1 367 12).toInt := congrArg Int32.toInt (frA39_0.trans (hkF eA33 (by first | decide | omega) ek0_1))
              have ttA39_19 : (A39.1 367 19).toInt = (A.1 367 19).toInt := congrArg Int32.toInt (frA39_1.trans (hkF eA33 (by first | decide | omega) ek0_3))
              have ttA39_20 : (A39.1 367 20).toInt = (A.1 367 20).toInt := congrArg Int32.toInt (frA39_2.trans (hkF eA33 (by first | decide | omega) ek0_4))
              have ttA39_31 : (A39.1 367 31).toInt = (A.1 367 31).toInt := congrArg Int32.toInt (frA39_3.trans (hkF eA33 (by first | decide | omega) ek0_5))
              have ttA39_41 : (A39.1 367 41).toInt = z32.toInt := congrArg Int32.toInt (frA39_4.trans (hkS eA33))
              have ttA39_11 : (A39.1 367 11).toInt = (A.1 367 11).toInt := congrArg Int32.toInt (frA39_5.trans (hkF eA33 (by first | decide | omega) ek0_0))
              have ttA39_13 : (A39.1 367 13).toInt = (A.1 367 13).toInt := congrArg Int32.toInt (frA39_6.trans (hkF eA33 (by first | decide | omega) ek0_2))
              have fbA39_367_37 := hA39.f (i := 367) (k := 37) (by rfl)
              have hq40 := hOp hq2 eA33 fA33 (by omega) fA39.2 fA39.1 frA39_4 frA39_5 (by omega) (by omega) hn
              have chq40 := hq40.2.2.2
              refine hxa_goto (by rfl) ?_
              exact ih0 (A39.1 367 37) z32 z5 A39 hA39 (frA39_5.trans (hkF eA33 (by first | decide | omega) ek0_0)) (frA39_0.trans (hkF eA33 (by first | decide | omega) ek0_1)) (frA39_6.trans (hkF eA33 (by first | decide | omega) ek0_2)) (frA39_1.trans (hkF eA33 (by first | decide | omega) ek0_3)) (frA39_2.trans (hkF eA33 (by first | decide | omega) ek0_4)) (frA39_3.trans (hkF eA33 (by first | decide | omega) ek0_5)) rfl (frA39_4.trans (hkS eA33)) (afA39_376.trans (hafF fA33 af0_376)) (afA39_385.trans (hafF fA33 af0_385)) (afA39_386.trans (hafF fA33 af0_386)) (afA39_387.trans (hafF fA33 af0_387)) (by omega) (by omega) (by omega) (by omega) (by omega) (by omega) (by omega) (by exact ⟨_, hq40.1, (hk2.trans hq40.2.1 (by omega)), (hq40.2.2.1.trans h92), by omega⟩) (by omega)
  refine hxa_aload_n (by rfl) rfl ?_
  refine hxj_getK (by rfl) (by rfl) (by rfl) rfl ?_
  refine hxj_zle (by rfl) rfl (fun q41 => ?_) (fun q41 => ?_)
  ·
    exact hxa_return (by rfl) rfl (hP _ _ ⟨hA, rfl, rfl, rfl, rfl, rfl, rfl, rfl, rfl, rfl, rfl, rfl, ⟨_, hqq, by have := hqq.zero (by omega); omega, fun _ => hqq.zero (by omega), (hK.refl _ _), rfl, by omega⟩⟩)
  ·
    refine hxa_aload_n (by rfl) rfl ?_
    refine hxa_get (v := .ref 393) (by rfl) (by rfl) (by rfl) rfl ?_
    refine hxa_aload_n (by rfl) rfl ?_
    refine hxj_getK (by rfl) (by rfl) (by rfl) rfl ?_
    refine hxa_iconst (by rfl) rfl ?_
    refine hxj_isub (by rfl) rfl hk_1 (by omega) (by omega) (fun z42 ez42 => ?_)
    refine hxj_iald (by rfl) (by rfl) rfl (by omega) (by omega) (fun z43 ez43 => ?_)
    rcases hQ.top hqq (by omega) (j := z42) (by omega) ez43 with ⟨hz, hg⟩ | ⟨hz, hg, hn⟩ | ⟨hz, g9, hg, hn⟩
    ·
      refine hxa_s1 (by rfl) (Or.inl ⟨_, rfl, rfl⟩) rfl ?_
      refine hxa_iload_n (by rfl) rfl ?_
      refine hxa_bipush (by rfl) rfl ?_
      refine hxj_ceq (by rfl) rfl hk_6 (fun q44 => ?_) (fun q44 => False.elim (by omega))
      exact hxa_return (by rfl) rfl (hP _ _ ⟨hA, rfl, rfl, rfl, rfl, rfl, rfl, rfl, rfl, rfl, rfl, rfl, ⟨_, hqq, by omega, by intro _; omega, (hK.refl _ _), rfl, by omega⟩⟩)
    ·
      refine hxa_s1 (by rfl) (Or.inl ⟨_, rfl, rfl⟩) rfl ?_
      refine hxa_iload_n (by rfl) rfl ?_
      refine hxa_bipush (by rfl) rfl ?_
      refine hxj_ceq (by rfl) rfl hk_6 (fun q45 => False.elim (by omega)) (fun q45 => ?_)
      refine hxa_iload_n (by rfl) rfl ?_
      refine hxj_zeq (by rfl) rfl (fun q46 => ?_) (fun q46 => ?_)
      ·
        refine hxa_aload_n (by rfl) rfl ?_
        refine hxa_dupR (by rfl) ?_
        refine hxj_getK (by rfl) (by rfl) (by rfl) rfl ?_
        refine hxa_iconst (by rfl) rfl ?_
        refine hxj_isub (by rfl) rfl hk_1 (by omega) (by omega) (fun z47 ez47 => ?_)
        refine hxj_putI (by rfl) (by rfl) (by rfl) (by rfl) hA (hbok (by rfl) rfl (by omega) (by omega)) (by rfl) (by rfl) (fun A48 hA48 eA48 fA48 => ?_)
        refine hxa_aload_n (by rfl) rfl ?_
        refine hxa_iload_n (by rfl) rfl ?_
        refine hxa_bipush (by rfl) rfl ?_
        refine hxj_cne (by rfl) rfl hk_8 (fun q49 => ?_) (fun q49 => ?_)
        ·
          refine hxa_iload_n (by rfl) rfl ?_
          refine hxa_bipush (by rfl) rfl ?_
          refine hxj_cne (by rfl) rfl hk_9 (fun q50 => False.elim (by omega)) (fun q50 => ?_)
          refine hxa_iconst (by rfl) rfl ?_
          refine hxa_goto (by rfl) ?_
          refine hxa_iconst (by rfl) rfl ?_
          refine hxa_call0 (by rfl) (by rfl) (by rfl) (by rfl) (by rfl) (by rfl) (hX159q5 (d := d + 0) hA48 (by omega) (Int32.ofNat 3) (Int32.ofNat 0) (by rw [(show A48.1 367 37 = (A.1 367 37) from (hkF eA48 (by first | decide | omega) rfl))]; omega) (by rw [(show A48.1 367 37 = (A.1 367 37) from (hkF eA48 (by first | decide | omega) rfl))]; omega)) ?_
          rintro _ A51 ⟨hA51, frA51_0, frA51_1, frA51_2, frA51_3, frA51_4, frA51_5, frA51_6, afA51_376, afA51_385, afA51_386, afA51_387, rfl, fA51⟩
          have ttA51_12 : (A51.1 367 12).toInt = (A.1 367 12).toInt := congrArg Int32.toInt (frA51_0.trans (hkF eA48 (by first | decide | omega) rfl))
          have ttA51_19 : (A51.1 367 19).toInt = (A.1 367 19).toInt := congrArg Int32.toInt (frA51_1.trans (hkF eA48 (by first | decide | omega) rfl))
          have ttA51_20 : (A51.1 367 20).toInt = (A.1 367 20).toInt := congrArg Int32.toInt (frA51_2.trans (hkF eA48 (by first | decide | omega) rfl))
          have ttA51_31 : (A51.1 367 31).toInt = (A.1 367 31).toInt := congrArg Int32.toInt (frA51_3.trans (hkF eA48 (by first | decide | omega) rfl))
          have ttA51_41 : (A51.1 367 41).toInt = z47.toInt := congrArg Int32.toInt (frA51_4.trans (hkS eA48))
          have ttA51_11 : (A51.1 367 11).toInt = (A.1 367 11).toInt := congrArg Int32.toInt (frA51_5.trans (hkF eA48 (by first | decide | omega) rfl))
          have ttA51_13 : (A51.1 367 13).toInt = (A.1 367 13).toInt := congrArg Int32.toInt (frA51_6.trans (hkF eA48 (by first | decide | omega) rfl))
          have fbA51_367_37 := hA51.f (i := 367) (k := 37) (by rfl)
          have hq52 := hOp hqq eA48 fA48 (by omega) fA51.2 fA51.1 frA51_4 frA51_5 (by omega) (by omega) hn
          have chq52 := hq52.2.2.2
          refine hxa_goto (by rfl) ?_
          exact L0 (Int.toNat (z47.toInt) + 1) (A51.1 367 37) z47 z43 A51 hA51 (frA51_5.trans (hkF eA48 (by first | decide | omega) rfl)) (frA51_0.trans (hkF eA48 (by first | decide | omega) rfl)) (frA51_6.trans (hkF eA48 (by first | decide | omega) rfl)) (frA51_1.trans (hkF eA48 (by first | decide | omega) rfl)) (frA51_2.trans (hkF eA48 (by first | decide | omega) rfl)) (frA51_3.trans (hkF eA48 (by first | decide | omega) rfl)) rfl (frA51_4.trans (hkS eA48)) (afA51_376.trans (hafF fA48 rfl)) (afA51_385.trans (hafF fA48 rfl)) (afA51_386.trans (hafF fA48 rfl)) (afA51_387.trans (hafF fA48 rfl)) (by omega) (by omega) (by omega) (by omega) (by omega) (by omega) (by omega) (by exact ⟨_, hq52.1, ((hK.refl _ _).trans hq52.2.1 (by omega)), (hq52.2.2.1.trans rfl), by omega⟩) (by omega)
        ·
          refine hxa_iconst (by rfl) rfl ?_
          refine hxa_goto (by rfl) ?_
          refine hxa_iconst (by rfl) rfl ?_
          refine hxa_call0 (by rfl) (by rfl) (by rfl) (by rfl) (by rfl) (by rfl) (hX159q5 (d := d + 0) hA48 (by omega) (Int32.ofNat 2) (Int32.ofNat 0) (by rw [(show A48.1 367 37 = (A.1 367 37) from (hkF eA48 (by first | decide | omega) rfl))]; omega) (by rw [(show A48.1 367 37 = (A.1 367 37) from (hkF eA48 (by first | decide | omega) rfl))]; omega)) ?_
          rintro _ A53 ⟨hA53, frA53_0, frA53_1, frA53_2, frA53_3, frA53_4, frA53_5, frA53_6, afA53_376, afA53_385, afA53_386, afA53_387, rfl, fA53⟩
          have ttA53_12 : (A53.1 367 12).toInt = (A.1 367 12).toInt := congrArg Int32.toInt (frA53_0.trans (hkF eA48 (by first | decide | omega) rfl))
          have ttA53_19 : (A53.1 367 19).toInt = (A.1 367 19).toInt := congrArg Int32.toInt (frA53_1.trans (hkF eA48 (by first | decide | omega) rfl))
          have ttA53_20 : (A53.1 367 20).toInt = (A.1 367 20).toInt := congrArg Int32.toInt (frA53_2.trans (hkF eA48 (by first | decide | omega) rfl))
          have ttA53_31 : (A53.1 367 31).toInt = (A.1 367 31).toInt := congrArg Int32.toInt (frA53_3.trans (hkF eA48 (by first | decide | omega) rfl))
          have ttA53_41 : (A53.1 367 41).toInt = z47.toInt := congrArg Int32.toInt (frA53_4.trans (hkS eA48))
          have ttA53_11 : (A53.1 367 11).toInt = (A.1 367 11).toInt := congrArg Int32.toInt (frA53_5.trans (hkF eA48 (by first | decide | omega) rfl))
          have ttA53_13 : (A53.1 367 13).toInt = (A.1 367 13).toInt := congrArg Int32.toInt (frA53_6.trans (hkF eA48 (by first | decide | omega) rfl))
          have fbA53_367_37 := hA53.f (i := 367) (k := 37) (by rfl)
          have hq54 := hOp hqq eA48 fA48 (by omega) fA53.2 fA53.1 frA53_4 frA53_5 (by omega) (by omega) hn
          have chq54 := hq54.2.2.2
          refine hxa_goto (by rfl) ?_
          exact L0 (Int.toNat (z47.toInt) + 1) (A53.1 367 37) z47 z43 A53 hA53 (frA53_5.trans (hkF eA48 (by first | decide | omega) rfl)) (frA53_0.trans (hkF eA48 (by first | decide | omega) rfl)) (frA53_6.trans (hkF eA48 (by first | decide | omega) rfl)) (frA53_1.trans (hkF eA48 (by first | decide | omega) rfl)) (frA53_2.trans (hkF eA48 (by first | decide | omega) rfl)) (frA53_3.trans (hkF eA48 (by first | decide | omega) rfl)) rfl (frA53_4.trans (hkS eA48)) (afA53_376.trans (hafF fA48 rfl)) (afA53_385.trans (hafF fA48 rfl)) (afA53_386.trans (hafF fA48 rfl)) (afA53_387.trans (hafF fA48 rfl)) (by omega) (by omega) (by omega) (by omega) (by omega) (by omega) (by omega) (by exact ⟨_, hq54.1, ((hK.refl _ _).trans hq54.2.1 (by omega)), (hq54.2.2.1.trans rfl), by omega⟩) (by omega)
      ·
        refine hxa_iload_n (by rfl) rfl ?_
        refine hxa_bipush (by rfl) rfl ?_
        refine hxj_ceq (by rfl) rfl hk_8 (fun q55 => ?_) (fun q55 => ?_)
        ·
          exact hxa_return (by rfl) rfl (hP _ _ ⟨hA, rfl, rfl, rfl, rfl, rfl, rfl, rfl, rfl, rfl, rfl, rfl, ⟨_, hqq, by omega, by intro _; omega, (hK.refl _ _), rfl, by omega⟩⟩)
        ·
          refine hxa_iload_n (by rfl) rfl ?_
          refine hxa_bipush (by rfl) rfl ?_
          refine hxj_cne (by rfl) rfl hk_9 (fun q56 => False.elim (by omega)) (fun q56 => ?_)
          exact hxa_return (by rfl) rfl (hP _ _ ⟨hA, rfl, rfl, rfl, rfl, rfl, rfl, rfl, rfl, rfl, rfl, rfl, ⟨_, hqq, by omega, by intro _; omega, (hK.refl _ _), rfl, by omega⟩⟩)
    ·
      refine hxa_s1 (by rfl) (Or.inl ⟨_, rfl, rfl⟩) rfl ?_
      refine hxa_iload_n (by rfl) rfl ?_
      refine hxa_bipush (by rfl) rfl ?_
      refine hxj_ceq (by rfl) rfl hk_6 (fun q57 => False.elim (by omega)) (fun q57 => ?_)
      refine hxa_iload_n (by rfl) rfl ?_
      refine hxj_zeq (by rfl) rfl (fun q58 => ?_) (fun q58 => ?_)
      ·
        refine hxa_aload_n (by rfl) rfl ?_
        refine hxa_dupR (by rfl) ?_
        refine hxj_getK (by rfl) (by rfl) (by rfl) rfl ?_
        refine hxa_iconst (by rfl) rfl ?_
        refine hxj_isub (by rfl) rfl hk_1 (by omega) (by omega) (fun z59 ez59 => ?_)
        refine hxj_putI (by rfl) (by rfl) (by rfl) (by rfl) hA (hbok (by rfl) rfl (by omega) (by omega)) (by rfl) (by rfl) (fun A60 hA60 eA60 fA60 => ?_)
        refine hxa_aload_n (by rfl) rfl ?_
        refine hxa_iload_n (by rfl) rfl ?_
        refine hxa_bipush (by rfl) rfl ?_
        refine hxj_cne (by rfl) rfl hk_8 (fun q61 => ?_) (fun q61 => False.elim (by omega))
        refine hxa_iload_n (by rfl) rfl ?_
        refine hxa_bipush (by rfl) rfl ?_
        refine hxj_cne (by rfl) rfl hk_9 (fun q62 => ?_) (fun q62 => False.elim (by omega))
        refine hxa_iload_n (by rfl) rfl ?_
        refine hxa_bipush (by rfl) rfl ?_
        refine hxj_cne (by rfl) rfl hk_10 (fun q63 => ?_) (fun q63 => ?_)
        ·
          refine hxa_iconst (by rfl) rfl ?_
          refine hxa_iconst (by rfl) rfl ?_
          refine hxa_call0 (by rfl) (by rfl) (by rfl) (by rfl) (by rfl) (by rfl) (hX159q5 (d := d + 0) hA60 (by omega) (Int32.ofNat 5) (Int32.ofNat 0) (by rw [(show A60.1 367 37 = (A.1 367 37) from (hkF eA60 (by first | decide | omega) rfl))]; omega) (by rw [(show A60.1 367 37 = (A.1 367 37) from (hkF eA60 (by first | decide | omega) rfl))]; omega)) ?_
          rintro _ A64 ⟨hA64, frA64_0, frA64_1, frA64_2, frA64_3, frA64_4, frA64_5, frA64_6, afA64_376, afA64_385, afA64_386, afA64_387, rfl, fA64⟩
          have ttA64_12 : (A64.1 367 12).toInt = (A.1 367 12).toInt := congrArg Int32.toInt (frA64_0.trans (hkF eA60 (by first | decide | omega) rfl))
          have ttA64_19 : (A64.1 367 19).toInt = (A.1 367 19).toInt := congrArg Int32.toInt (frA64_1.trans (hkF eA60 (by first | decide | omega) rfl))
          have ttA64_20 : (A64.1 367 20).toInt = (A.1 367 20).toInt := congrArg Int32.toInt (frA64_2.trans (hkF eA60 (by first | decide | omega) rfl))
          have ttA64_31 : (A64.1 367 31).toInt = (A.1 367 31).toInt := congrArg Int32.toInt (frA64_3.trans (hkF eA60 (by first | decide | omega) rfl))
          have ttA64_41 : (A64.1 367 41).toInt = z59.toInt := congrArg Int32.toInt (frA64_4.trans (hkS eA60))
          have ttA64_11 : (A64.1 367 11).toInt = (A.1 367 11).toInt := congrArg Int32.toInt (frA64_5.trans (hkF eA60 (by first | decide | omega) rfl))
          have ttA64_13 : (A64.1 367 13).toInt = (A.1 367 13).toInt := congrArg Int32.toInt (frA64_6.trans (hkF eA60 (by first | decide | omega) rfl))
          have fbA64_367_37 := hA64.f (i := 367) (k := 37) (by rfl)
          have hq65 := hOp hqq eA60 fA60 (by omega) fA64.2 fA64.1 frA64_4 frA64_5 (by omega) (by omega) hn
          have chq65 := hq65.2.2.2
          refine hxa_goto (by rfl) ?_
          exact L0 (Int.toNat (z59.toInt) + 1) (A64.1 367 37) z59 z43 A64 hA64 (frA64_5.trans (hkF eA60 (by first | decide | omega) rfl)) (frA64_0.trans (hkF eA60 (by first | decide | omega) rfl)) (frA64_6.trans (hkF eA60 (by first | decide | omega) rfl)) (frA64_1.trans (hkF eA60 (by first | decide | omega) rfl)) (frA64_2.trans (hkF eA60 (by first | decide | omega) rfl)) (frA64_3.trans (hkF eA60 (by first | decide | omega) rfl)) rfl (frA64_4.trans (hkS eA60)) (afA64_376.trans (hafF fA60 rfl)) (afA64_385.trans (hafF fA60 rfl)) (afA64_386.trans (hafF fA60 rfl)) (afA64_387.trans (hafF fA60 rfl)) (by omega) (by omega) (by omega) (by omega) (by omega) (by omega) (by omega) (by exact ⟨_, hq65.1, ((hK.refl _ _).trans hq65.2.1 (by omega)), (hq65.2.2.1.trans rfl), by omega⟩) (by omega)
        ·
          refine hxa_iconst (by rfl) rfl ?_
          refine hxa_goto (by rfl) ?_
          refine hxa_iconst (by rfl) rfl ?_
          refine hxa_call0 (by rfl) (by rfl) (by rfl) (by rfl) (by rfl) (by rfl) (hX159q5 (d := d + 0) hA60 (by omega) (Int32.ofNat 4) (Int32.ofNat 0) (by rw [(show A60.1 367 37 = (A.1 367 37) from (hkF eA60 (by first | decide | omega) rfl))]; omega) (by rw [(show A60.1 367 37 = (A.1 367 37) from (hkF eA60 (by first | decide | omega) rfl))]; omega)) ?_
          rintro _ A66 ⟨hA66, frA66_0, frA66_1, frA66_2, frA66_3, frA66_4, frA66_5, frA66_6, afA66_376, afA66_385, afA66_386, afA66_387, rfl, fA66⟩
          have ttA66_12 : (A66.1 367 12).toInt = (A.1 367 12).toInt := congrArg Int32.toInt (frA66_0.trans (hkF eA60 (by first | decide | omega) rfl))
          have ttA66_19 : (A66.1 367 19).toInt = (A.1 367 19).toInt := congrArg Int32.toInt (frA66_1.trans (hkF eA60 (by first | decide | omega) rfl))
          have ttA66_20 : (A66.1 367 20).toInt = (A.1 367 20).toInt := congrArg Int32.toInt (frA66_2.trans (hkF eA60 (by first | decide | omega) rfl))
          have ttA66_31 : (A66.1 367 31).toInt = (A.1 367 31).toInt := congrArg Int32.toInt (frA66_3.trans (hkF eA60 (by first | decide | omega) rfl))
          have ttA66_41 : (A66.1 367 41).toInt = z59.toInt := congrArg Int32.toInt (frA66_4.trans (hkS eA60))
          have ttA66_11 : (A66.1 367 11).toInt = (A.1 367 11).toInt := congrArg Int32.toInt (frA66_5.trans (hkF eA60 (by first | decide | omega) rfl))
          have ttA66_13 : (A66.1 367 13).toInt = (A.1 367 13).toInt := congrArg Int32.toInt (frA66_6.trans (hkF eA60 (by first | decide | omega) rfl))
          have fbA66_367_37 := hA66.f (i := 367) (k := 37) (by rfl)
          have hq67 := hOp hqq eA60 fA60 (by omega) fA66.2 fA66.1 frA66_4 frA66_5 (by omega) (by omega) hn
          have chq67 := hq67.2.2.2
          refine hxa_goto (by rfl) ?_
          exact L0 (Int.toNat (z59.toInt) + 1) (A66.1 367 37) z59 z43 A66 hA66 (frA66_5.trans (hkF eA60 (by first | decide | omega) rfl)) (frA66_0.trans (hkF eA60 (by first | decide | omega) rfl)) (frA66_6.trans (hkF eA60 (by first | decide | omega) rfl)) (frA66_1.trans (hkF eA60 (by first | decide | omega) rfl)) (frA66_2.trans (hkF eA60 (by first | decide | omega) rfl)) (frA66_3.trans (hkF eA60 (by first | decide | omega) rfl)) rfl (frA66_4.trans (hkS eA60)) (afA66_376.trans (hafF fA60 rfl)) (afA66_385.trans (hafF fA60 rfl)) (afA66_386.trans (hafF fA60 rfl)) (afA66_387.trans (hafF fA60 rfl)) (by omega) (by omega) (by omega) (by omega) (by omega) (by omega) (by omega) (by exact ⟨_, hq67.1, ((hK.refl _ _).trans hq67.2.1 (by omega)), (hq67.2.2.1.trans rfl), by omega⟩) (by omega)
      ·
        refine hxa_iload_n (by rfl) rfl ?_
        refine hxa_bipush (by rfl) rfl ?_
        refine hxj_ceq (by rfl) rfl hk_8 (fun q68 => False.elim (by omega)) (fun q68 => ?_)
        refine hxa_iload_n (by rfl) rfl ?_
        refine hxa_bipush (by rfl) rfl ?_
        refine hxj_cne (by rfl) rfl hk_9 (fun q69 => ?_) (fun q69 => False.elim (by omega))
        refine hxa_aload_n (by rfl) rfl ?_
        refine hxa_dupR (by rfl) ?_
        refine hxj_getK (by rfl) (by rfl) (by rfl) rfl ?_
        refine hxa_iconst (by rfl) rfl ?_
        refine hxj_isub (by rfl) rfl hk_1 (by omega) (by omega) (fun z70 ez70 => ?_)
        refine hxj_putI (by rfl) (by rfl) (by rfl) (by rfl) hA (hbok (by rfl) rfl (by omega) (by omega)) (by rfl) (by rfl) (fun A71 hA71 eA71 fA71 => ?_)
        refine hxa_aload_n (by rfl) rfl ?_
        refine hxa_iload_n (by rfl) rfl ?_
        refine hxa_bipush (by rfl) rfl ?_
        refine hxj_cne (by rfl) rfl hk_8 (fun q72 => ?_) (fun q72 => False.elim (by omega))
        refine hxa_iload_n (by rfl) rfl ?_
        refine hxa_bipush (by rfl) rfl ?_
        refine hxj_cne (by rfl) rfl hk_9 (fun q73 => ?_) (fun q73 => False.elim (by omega))
        refine hxa_iload_n (by rfl) rfl ?_
        refine hxa_bipush (by rfl) rfl ?_
        refine hxj_cne (by rfl) rfl hk_10 (fun q74 => ?_) (fun q74 => ?_)
        ·
          refine hxa_iconst (by rfl) rfl ?_
          refine hxa_iconst (by rfl) rfl ?_
          refine hxa_call0 (by rfl) (by rfl) (by rfl) (by rfl) (by rfl) (by rfl) (hX159q5 (d := d + 0) hA71 (by omega) (Int32.ofNat 5) (Int32.ofNat 0) (by rw [(show A71.1 367 37 = (A.1 367 37) from (hkF eA71 (by first | decide | omega) rfl))]; omega) (by rw [(show A71.1 367 37 = (A.1 367 37) from (hkF eA71 (by first | decide | omega) rfl))]; omega)) ?_
          rintro _ A75 ⟨hA75, frA75_0, frA75_1, frA75_2, frA75_3, frA75_4, frA75_5, frA75_6, afA75_376, afA75_385, afA75_386, afA75_387, rfl, fA75⟩
          have ttA75_12 : (A75.1 367 12).toInt = (A.1 367 12).toInt := congrArg Int32.toInt (frA75_0.trans (hkF eA71 (by first | decide | omega) rfl))
          have ttA75_19 : (A75.1 367 19).toInt = (A.1 367 19).toInt := congrArg Int32.toInt (frA75_1.trans (hkF eA71 (by first | decide | omega) rfl))
          have ttA75_20 : (A75.1 367 20).toInt = (A.1 367 20).toInt := congrArg Int32.toInt (frA75_2.trans (hkF eA71 (by first | decide | omega) rfl))
          have ttA75_31 : (A75.1 367 31).toInt = (A.1 367 31).toInt := congrArg Int32.toInt (frA75_3.trans (hkF eA71 (by first | decide | omega) rfl))
          have ttA75_41 : (A75.1 367 41).toInt = z70.toInt := congrArg Int32.toInt (frA75_4.trans (hkS eA71))
          have ttA75_11 : (A75.1 367 11).toInt = (A.1 367 11).toInt := congrArg Int32.toInt (frA75_5.trans (hkF eA71 (by first | decide | omega) rfl))
          have ttA75_13 : (A75.1 367 13).toInt = (A.1 367 13).toInt := congrArg Int32.toInt (frA75_6.trans (hkF eA71 (by first | decide | omega) rfl))
          have fbA75_367_37 := hA75.f (i := 367) (k := 37) (by rfl)
          have hq76 := hOp hqq eA71 fA71 (by omega) fA75.2 fA75.1 frA75_4 frA75_5 (by omega) (by omega) hn
          have chq76 := hq76.2.2.2
          refine hxa_goto (by rfl) ?_
          exact L0 (Int.toNat (z70.toInt) + 1) (A75.1 367 37) z70 z43 A75 hA75 (frA75_5.trans (hkF eA71 (by first | decide | omega) rfl)) (frA75_0.trans (hkF eA71 (by first | decide | omega) rfl)) (frA75_6.trans (hkF eA71 (by first | decide | omega) rfl)) (frA75_1.trans (hkF eA71 (by first | decide | omega) rfl)) (frA75_2.trans (hkF eA71 (by first | decide | omega) rfl)) (frA75_3.trans (hkF eA71 (by first | decide | omega) rfl)) rfl (frA75_4.trans (hkS eA71)) (afA75_376.trans (hafF fA71 rfl)) (afA75_385.trans (hafF fA71 rfl)) (afA75_386.trans (hafF fA71 rfl)) (afA75_387.trans (hafF fA71 rfl)) (by omega) (by omega) (by omega) (by omega) (by omega) (by omega) (by omega) (by exact ⟨_, hq76.1, ((hK.refl _ _).trans hq76.2.1 (by omega)), (hq76.2.2.1.trans rfl), by omega⟩) (by omega)
        ·
          refine hxa_iconst (by rfl) rfl ?_
          refine hxa_goto (by rfl) ?_
          refine hxa_iconst (by rfl) rfl ?_
          refine hxa_call0 (by rfl) (by rfl) (by rfl) (by rfl) (by rfl) (by rfl) (hX159q5 (d := d + 0) hA71 (by omega) (Int32.ofNat 4) (Int32.ofNat 0) (by rw [(show A71.1 367 37 = (A.1 367 37) from (hkF eA71 (by first | decide | omega) rfl))]; omega) (by rw [(show A71.1 367 37 = (A.1 367 37) from (hkF eA71 (by first | decide | omega) rfl))]; omega)) ?_
          rintro _ A77 ⟨hA77, frA77_0, frA77_1, frA77_2, frA77_3, frA77_4, frA77_5, frA77_6, afA77_376, afA77_385, afA77_386, afA77_387, rfl, fA77⟩
          have ttA77_12 : (A77.1 367 12).toInt = (A.1 367 12).toInt := congrArg Int32.toInt (frA77_0.trans (hkF eA71 (by first | decide | omega) rfl))
          have ttA77_19 : (A77.1 367 19).toInt = (A.1 367 19).toInt := congrArg Int32.toInt (frA77_1.trans (hkF eA71 (by first | decide | omega) rfl))
          have ttA77_20 : (A77.1 367 20).toInt = (A.1 367 20).toInt := congrArg Int32.toInt (frA77_2.trans (hkF eA71 (by first | decide | omega) rfl))
          have ttA77_31 : (A77.1 367 31).toInt = (A.1 367 31).toInt := congrArg Int32.toInt (frA77_3.trans (hkF eA71 (by first | decide | omega) rfl))
          have ttA77_41 : (A77.1 367 41).toInt = z70.toInt := congrArg Int32.toInt (frA77_4.trans (hkS eA71))
          have ttA77_11 : (A77.1 367 11).toInt = (A.1 367 11).toInt := congrArg Int32.toInt (frA77_5.trans (hkF eA71 (by first | decide | omega) rfl))
          have ttA77_13 : (A77.1 367 13).toInt = (A.1 367 13).toInt := congrArg Int32.toInt (frA77_6.trans (hkF eA71 (by first | decide | omega) rfl))
          have fbA77_367_37 := hA77.f (i := 367) (k := 37) (by rfl)
          have hq78 := hOp hqq eA71 fA71 (by omega) fA77.2 fA77.1 frA77_4 frA77_5 (by omega) (by omega) hn
          have chq78 := hq78.2.2.2
          refine hxa_goto (by rfl) ?_
          exact L0 (Int.toNat (z70.toInt) + 1) (A77.1 367 37) z70 z43 A77 hA77 (frA77_5.trans (hkF eA71 (by first | decide | omega) rfl)) (frA77_0.trans (hkF eA71 (by first | decide | omega) rfl)) (frA77_6.trans (hkF eA71 (by first | decide | omega) rfl)) (frA77_1.trans (hkF eA71 (by first | decide | omega) rfl)) (frA77_2.trans (hkF eA71 (by first | decide | omega) rfl)) (frA77_3.trans (hkF eA71 (by first | decide | omega) rfl)) rfl (frA77_4.trans (hkS eA71)) (afA77_376.trans (hafF fA71 rfl)) (afA77_385.trans (hafF fA71 rfl)) (afA77_386.trans (hafF fA71 rfl)) (afA77_387.trans (hafF fA71 rfl)) (by omega) (by omega) (by omega) (by omega) (by omega) (by omega) (by omega) (by exact ⟨_, hq78.1, ((hK.refl _ _).trans hq78.2.1 (by omega)), (hq78.2.2.1.trans rfl), by omega⟩) (by omega)
theorem hX160q5 {d : Nat} {Bn Br : Int} {A0 A : hs_A} (hA : hJ 5 Bn Br A0 A) {f : Int} {o g : Nat} (hqq : hQ 1 f o g 1 A) (hl : (A0.1 367 18).toInt = 0) (a1 : Int32) (p1 : 0 ≤ a1.toInt) (q1 : a1.toInt ≤ 1) : hxC (d + 2) 160 hm_m160 [.ref 368, .int a1] A (fun r A' => hJ 5 Bn Br A0 A' ∧ A'.1 367 12 = A.1 367 12 ∧ A'.1 367 19 = A.1 367 19 ∧ A'.1 367 20 = A.1 367 20 ∧ A'.1 367 31 = A.1 367 31 ∧ A'.1 367 11 = A.1 367 11 ∧ A'.1 367 13 = A.1 367 13 ∧ A'.2.1 376 = A.2.1 376 ∧ A'.2.1 385 = A.2.1 385 ∧ A'.2.1 386 = A.2.1 386 ∧ A'.2.1 387 = A.2.1 387 ∧ r = none ∧ (∃ g2 : Nat, hQ 1 f o g2 1 A' ∧ g2 ≤ 1 ∧ (a1.toInt = 0 → g2 = 0) ∧ hK (A.1 367 37).toInt.toNat A A' ∧ A'.2.1 392 = A.2.1 392 ∧ (A.1 367 37).toInt ≤ (A'.1 367 37).toInt)) := hxC.of (by rfl) (hY160q5 hA hqq hl a1 p1 q1 (fun r A' h => h))
theorem hY162q4_9 {d : Nat} {Bn Br : Int} {A0 A : hs_A} (hA : hJ 4 Bn Br A0 A)  (fl0 : 1 ≤ (A.1 367 13).toInt) (fh0 : (A.1 367 13).toInt ≤ 2) {P : Option Value → hs_A → Prop} (hP : ∀ (r : Option Value) (A' : hs_A), (hJ 4 Bn Br A0 A' ∧ A'.1 367 12 = A.1 367 12 ∧ A'.1 367 19 = A.1 367 19 ∧ A'.1 367 20 = A.1 367 20 ∧ A'.1 367 31 = A.1 367 31 ∧ A'.1 367 37 = A.1 367 37 ∧ A'.1 367 41 = A.1 367 41 ∧ A'.2.1 = A.2.1 ∧ r = none ∧ (¬ (A'.1 367 13).toInt = 0 ∧ (A'.1 367 11).toInt = (A.1 367 11).toInt)) → P r A') : hxa (d + 2) none hm_t162 0 [.ref 368] [] A P := by
  have k1 := hk_1
  have k2 := hk_2
  have fb367_11 := hA.f (i := 367) (k := 11) (by rfl)
  have fb367_12 := hA.f (i := 367) (k := 12) (by rfl)
  have fb367_19 := hA.f (i := 367) (k := 19) (by rfl)
  have fb367_20 := hA.f (i := 367) (k := 20) (by rfl)
  have fb367_31 := hA.f (i := 367) (k := 31) (by rfl)
  have fb367_37 := hA.f (i := 367) (k := 37) (by rfl)
  have fb367_41 := hA.f (i := 367) (k := 41) (by rfl)
  refine hxa_aload_n (by rfl) rfl ?_
  refine hxa_iconst (by rfl) rfl ?_
  refine hxa_call0 (by rfl) (by rfl) (by rfl) (by rfl) (by rfl) (by rfl) (hX144q4 (d := d + 1) hA (Int32.ofNat 2)) ?_
  rintro _ _ ⟨rfl, z1, rfl, fz1⟩
  rcases fz1 with fz1 | fz1
  ·
    exact False.elim (by omega)
  ·
    refine hxj_zeq (by rfl) rfl (fun q2 => ?_) (fun q2 => False.elim (by omega))
    refine hxa_aload_n (by rfl) rfl ?_
    refine hxj_getK (by rfl) (by rfl) (by rfl) rfl ?_
    refine hxj_zne (by rfl) rfl (fun q3 => ?_) (fun q3 => False.elim (by omega))
    refine hxa_aload_n (by rfl) rfl ?_
    refine hxa_iconst (by rfl) rfl ?_
    refine hxa_call0 (by rfl) (by rfl) (by rfl) (by rfl) (by rfl) (by rfl) (hX145q4 (d := d + 1) hA (Int32.ofNat 1) (by omega) (by omega)) ?_
    rintro _ A4 ⟨hA4, frA4_0, frA4_1, frA4_2, frA4_3, frA4_4, frA4_5, aeA4, rfl, fA4⟩
    have ttA4_12 : (A4.1 367 12).toInt = (A.1 367 12).toInt := congrArg Int32.toInt (frA4_0.trans rfl)
    have ttA4_19 : (A4.1 367 19).toInt = (A.1 367 19).toInt := congrArg Int32.toInt (frA4_1.trans rfl)
    have ttA4_20 : (A4.1 367 20).toInt = (A.1 367 20).toInt := congrArg Int32.toInt (frA4_2.trans rfl)
    have ttA4_31 : (A4.1 367 31).toInt = (A.1 367 31).toInt := congrArg Int32.toInt (frA4_3.trans rfl)
    have ttA4_37 : (A4.1 367 37).toInt = (A.1 367 37).toInt := congrArg Int32.toInt (frA4_4.trans rfl)
    have ttA4_41 : (A4.1 367 41).toInt = (A.1 367 41).toInt := congrArg Int32.toInt (frA4_5.trans rfl)
    have fbA4_367_11 := hA4.f (i := 367) (k := 11) (by rfl)
    have fbA4_367_13 := hA4.f (i := 367) (k := 13) (by rfl)
    exact hxa_return (by rfl) rfl (hP _ _ ⟨hA4, (frA4_0.trans rfl), (frA4_1.trans rfl), (frA4_2.trans rfl), (frA4_3.trans rfl), (frA4_4.trans rfl), (frA4_5.trans rfl), (aeA4.trans rfl), rfl, by omega⟩)
theorem hX162q4_9 {d : Nat} {Bn Br : Int} {A0 A : hs_A} (hA : hJ 4 Bn Br A0 A)  (fl0 : 1 ≤ (A.1 367 13).toInt) (fh0 : (A.1 367 13).toInt ≤ 2) : hxC (d + 3) 162 hm_m162 [.ref 368] A (fun r A' => hJ 4 Bn Br A0 A' ∧ A'.1 367 12 = A.1 367 12 ∧ A'.1 367 19 = A.1 367 19 ∧ A'.1 367 20 = A.1 367 20 ∧ A'.1 367 31 = A.1 367 31 ∧ A'.1 367 37 = A.1 367 37 ∧ A'.1 367 41 = A.1 367 41 ∧ A'.2.1 = A.2.1 ∧ r = none ∧ (¬ (A'.1 367 13).toInt = 0 ∧ (A'.1 367 11).toInt = (A.1 367 11).toInt)) := hxC.of (by rfl) (hY162q4_9 hA fl0 fh0 (fun r A' h => h))
theorem hY162q5_9 {d : Nat} {Bn Br : Int} {A0 A : hs_A} (hA : hJ 5 Bn Br A0 A)  (fl0 : 1 ≤ (A.1 367 13).toInt) (fh0 : (A.1 367 13).toInt ≤ 2) {P : Option Value → hs_A → Prop} (hP : ∀ (r : Option Value) (A' : hs_A), (hJ 5 Bn Br A0 A' ∧ A'.1 367 12 = A.1 367 12 ∧ A'.1 367 19 = A.1 367 19 ∧ A'.1 367 20 = A.1 367 20 ∧ A'.1 367 31 = A.1 367 31 ∧ A'.1 367 37 = A.1 367 37 ∧ A'.1 367 41 = A.1 367 41 ∧ A'.2.1 = A.2.1 ∧ r = none ∧ (¬ (A'.1 367 13).toInt = 0 ∧ (A'.1 367 11).toInt = (A.1 367 11).toInt)) → P r A') : hxa (d + 2) none hm_t162 0 [.ref 368] [] A P := by
  have k1 := hk_1
  have k2 := hk_2
  have fb367_11 := hA.f (i := 367) (k := 11) (by rfl)
  have fb367_12 := hA.f (i := 367) (k := 12) (by rfl)
  have fb367_19 := hA.f (i := 367) (k := 19) (by rfl)
  have fb367_20 := hA.f (i := 367) (k := 20) (by rfl)
  have fb367_31 := hA.f (i := 367) (k := 31) (by rfl)
  have fb367_37 := hA.f (i := 367) (k := 37) (by rfl)
  have fb367_41 := hA.f (i := 367) (k := 41) (by rfl)
  refine hxa_aload_n (by rfl) rfl ?_
  refine hxa_iconst (by rfl) rfl ?_
  refine hxa_call0 (by rfl) (by rfl) (by rfl) (by rfl) (by rfl) (by rfl) (hX144q5 (d := d + 1) hA (Int32.ofNat 2)) ?_
  rintro _ _ ⟨rfl, z1, rfl, fz1⟩
  rcases fz1 with fz1 | fz1
  ·
    exact False.elim (by omega)
  ·
    refine hxj_zeq (by rfl) rfl (fun q2 => ?_) (fun q2 => False.elim (by omega))
    refine hxa_aload_n (by rfl) rfl ?_
    refine hxj_getK (by rfl) (by rfl) (by rfl) rfl ?_
    refine hxj_zne (by rfl) rfl (fun q3 => ?_) (fun q3 => False.elim (by omega))
    refine hxa_aload_n (by rfl) rfl ?_
    refine hxa_iconst (by rfl) rfl ?_
    refine hxa_call0 (by rfl) (by rfl) (by rfl) (by rfl) (by rfl) (by rfl) (hX145q5 (d := d + 1) hA (Int32.ofNat 1) (by omega) (by omega)) ?_
    rintro _ A4 ⟨hA4, frA4_0, frA4_1, frA4_2, frA4_3, frA4_4, frA4_5, aeA4, rfl, fA4⟩
    have ttA4_12 : (A4.1 367 12).toInt = (A.1 367 12).toInt := congrArg Int32.toInt (frA4_0.trans rfl)
    have ttA4_19 : (A4.1 367 19).toInt = (A.1 367 19).toInt := congrArg Int32.toInt (frA4_1.trans rfl)
    have ttA4_20 : (A4.1 367 20).toInt = (A.1 367 20).toInt := congrArg Int32.toInt (frA4_2.trans rfl)
    have ttA4_31 : (A4.1 367 31).toInt = (A.1 367 31).toInt := congrArg Int32.toInt (frA4_3.trans rfl)
    have ttA4_37 : (A4.1 367 37).toInt = (A.1 367 37).toInt := congrArg Int32.toInt (frA4_4.trans rfl)
    have ttA4_41 : (A4.1 367 41).toInt = (A.1 367 41).toInt := congrArg Int32.toInt (frA4_5.trans rfl)
    have fbA4_367_11 := hA4.f (i := 367) (k := 11) (by rfl)
    have fbA4_367_13 := hA4.f (i := 367) (k := 13) (by rfl)
    exact hxa_return (by rfl) rfl (hP _ _ ⟨hA4, (frA4_0.trans rfl), (frA4_1.trans rfl), (frA4_2.trans rfl), (frA4_3.trans rfl), (frA4_4.trans rfl), (frA4_5.trans rfl), (aeA4.trans rfl), rfl, by omega⟩)
theorem hX162q5_9 {d : Nat} {Bn Br : Int} {A0 A : hs_A} (hA : hJ 5 Bn Br A0 A)  (fl0 : 1 ≤ (A.1 367 13).toInt) (fh0 : (A.1 367 13).toInt ≤ 2) : hxC (d + 3) 162 hm_m162 [.ref 368] A (fun r A' => hJ 5 Bn Br A0 A' ∧ A'.1 367 12 = A.1 367 12 ∧ A'.1 367 19 = A.1 367 19 ∧ A'.1 367 20 = A.1 367 20 ∧ A'.1 367 31 = A.1 367 31 ∧ A'.1 367 37 = A.1 367 37 ∧ A'.1 367 41 = A.1 367 41 ∧ A'.2.1 = A.2.1 ∧ r = none ∧ (¬ (A'.1 367 13).toInt = 0 ∧ (A'.1 367 11).toInt = (A.1 367 11).toInt)) := hxC.of (by rfl) (hY162q5_9 hA fl0 fh0 (fun r A' h => h))
