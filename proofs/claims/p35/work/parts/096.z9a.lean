theorem hY156q4 {d : Nat} {Bn Br : Int} {A0 A : hs_A} (hA : hJ 4 Bn Br A0 A) (hn : (A.1 367 20).toInt = (A.2.1 376 0).toInt) (fl0 : 0 ≤ (A.1 367 19).toInt) (fh0 : (A.1 367 19).toInt ≤ 0) (fl1 : 0 ≤ (A.1 367 20).toInt) (fh1 : (A.1 367 20).toInt ≤ 9) {P : Option Value → hs_A → Prop} (hP : ∀ (r : Option Value) (A' : hs_A), (hJ 4 Bn Br A0 A' ∧ A'.1 367 12 = A.1 367 12 ∧ A'.1 367 31 = A.1 367 31 ∧ A'.1 367 37 = A.1 367 37 ∧ A'.1 367 19 = A.1 367 19 ∧ A'.2.1 383 = A.2.1 383 ∧ A'.2.1 384 = A.2.1 384 ∧ A'.2.1 385 = A.2.1 385 ∧ A'.2.1 386 = A.2.1 386 ∧ A'.2.1 387 = A.2.1 387 ∧ A'.2.1 388 = A.2.1 388 ∧ A'.2.1 389 = A.2.1 389 ∧ A'.2.1 390 = A.2.1 390 ∧ A'.2.1 391 = A.2.1 391 ∧ r = none ∧ ((¬ (A'.1 367 13).toInt = 0 ∨ ((A.1 367 13).toInt = 0 ∧ (A.1 367 11).toInt + 1 ≤ (A'.1 367 11).toInt)) ∧ (A.1 367 11).toInt ≤ (A'.1 367 11).toInt ∧ (A'.1 367 20).toInt = (A'.2.1 376 0).toInt)) → P r A') : hxa (d + 3) none hm_t156 0 [.ref 368, .retAddr 0, .retAddr 0, .retAddr 0] [] A P := by
  have k0 := hk_0
  have k1 := hk_1
  have k255 := hk_255
  have k3 := hk_3
  have k4 := hk_4
  have k99 := hk_99
  obtain ⟨fb367_11, fb367_11u⟩ := hA.f (i := 367) (k := 11) (by rfl)
  obtain ⟨fb367_12, fb367_12u⟩ := hA.f (i := 367) (k := 12) (by rfl)
  obtain ⟨fb367_13, fb367_13u⟩ := hA.f (i := 367) (k := 13) (by rfl)
  obtain ⟨fb367_31, fb367_31u⟩ := hA.f (i := 367) (k := 31) (by rfl)
  obtain ⟨fb367_37, fb367_37u⟩ := hA.f (i := 367) (k := 37) (by rfl)
  have hix : (A.1 367 19).toNatClampNeg = 0 := by have := hn_cn (j := A.1 367 19) (by omega); omega
  have L30 : ∀ (m30 : Nat) (w30_0 : Int32) (w30_2 : Int32) (x30_1 : Int32) (x30_2 : Int32) (x30_3 : Int32) (Ac30 : hs_A) (hAc30 : hJ 4 Bn Br A0 Ac30) (ek30_0 : Ac30.1 367 11 = w30_0) (ek30_1 : Ac30.1 367 12 = (A.1 367 12)) (ek30_2 : Ac30.1 367 13 = w30_2) (ek30_3 : Ac30.1 367 19 = (A.1 367 19)) (ek30_4 : Ac30.1 367 20 = (A.1 367 20)) (ek30_5 : Ac30.1 367 31 = (A.1 367 31)) (ek30_6 : Ac30.1 367 37 = (A.1 367 37)) (af30_376 : Ac30.2.1 376 = A.2.1 376) (af30_383 : Ac30.2.1 383 = A.2.1 383) (af30_384 : Ac30.2.1 384 = A.2.1 384) (af30_385 : Ac30.2.1 385 = A.2.1 385) (af30_386 : Ac30.2.1 386 = A.2.1 386) (af30_387 : Ac30.2.1 387 = A.2.1 387) (af30_388 : Ac30.2.1 388 = A.2.1 388) (af30_389 : Ac30.2.1 389 = A.2.1 389) (af30_390 : Ac30.2.1 390 = A.2.1 390) (af30_391 : Ac30.2.1 391 = A.2.1 391) (bx30_1 : 0 ≤ x30_1.toInt) (cx30_1 : x30_1.toInt ≤ 9) (bx30_2 : 0 ≤ x30_2.toInt) (cx30_2 : x30_2.toInt ≤ 400) (bx30_3 : 0 ≤ x30_3.toInt) (cx30_3 : x30_3.toInt ≤ 9) (bw30_0 : 0 ≤ w30_0.toInt) (cw30_0 : w30_0.toInt ≤ 400) (bw30_2 : 0 ≤ w30_2.toInt) (cw30_2 : w30_2.toInt ≤ 2) (u30_0 : (¬ (Ac30.1 367 13).toInt = 0 ∨ ((A.1 367 13).toInt = 0 ∧ (A.1 367 11).toInt + 1 ≤ (Ac30.1 367 11).toInt)) ∧ (A.1 367 11).toInt ≤ (Ac30.1 367 11).toInt) (hm30 : 9 - x30_3.toInt < (m30 : Int)), hxa (d + 3) none hm_t156 30 [.ref 368, .int x30_1, .int x30_2, .int x30_3] [] Ac30 P := by
    intro m30
    induction m30 with
    | zero => intro w30_0 w30_2 x30_1 x30_2 x30_3 Ac30 hAc30 ek30_0 ek30_1 ek30_2 ek30_3 ek30_4 ek30_5 ek30_6 af30_376 af30_383 af30_384 af30_385 af30_386 af30_387 af30_388 af30_389 af30_390 af30_391 bx30_1 cx30_1 bx30_2 cx30_2 bx30_3 cx30_3 bw30_0 cw30_0 bw30_2 cw30_2 u30_0 hm30;  exact False.elim (by omega)
    | succ m30 ih30 =>
      intro w30_0 w30_2 x30_1 x30_2 x30_3 Ac30 hAc30 ek30_0 ek30_1 ek30_2 ek30_3 ek30_4 ek30_5 ek30_6 af30_376 af30_383 af30_384 af30_385 af30_386 af30_387 af30_388 af30_389 af30_390 af30_391 bx30_1 cx30_1 bx30_2 cx30_2 bx30_3 cx30_3 bw30_0 cw30_0 bw30_2 cw30_2 u30_0 hm30
      have tk30_0 : (Ac30.1 367 11).toInt = w30_0.toInt := congrArg Int32.toInt ek30_0
      have tk30_2 : (Ac30.1 367 13).toInt = w30_2.toInt := congrArg Int32.toInt ek30_2
      refine hxa_iload_n (by rfl) rfl ?_
      refine hxa_aload_n (by rfl) rfl ?_
      refine hxj_getK (by rfl) (by rfl) (by rfl) ek30_4 ?_
      refine hxj_cge (by rfl) rfl rfl (fun q1 => ?_) (fun q1 => ?_)
      ·
        refine hxa_aload_n (by rfl) rfl ?_
        refine hxa_get (v := .ref 378) (by rfl) (by rfl) (by rfl) rfl ?_
        refine hxa_iload_n (by rfl) rfl ?_
        refine hxa_aload_n (by rfl) rfl ?_
        refine hxa_iconst (by rfl) rfl ?_
        refine hxa_sipush (by rfl) rfl ?_
        have nAc30_11 : (Ac30.1 367 11).toInt = w30_0.toInt := congrArg Int32.toInt ek30_0
        have nAc30_12 : (Ac30.1 367 12).toInt = (A.1 367 12).toInt := congrArg Int32.toInt ek30_1
        have nAc30_13 : (Ac30.1 367 13).toInt = w30_2.toInt := congrArg Int32.toInt ek30_2
        have nAc30_37 : (Ac30.1 367 37).toInt = (A.1 367 37).toInt := congrArg Int32.toInt ek30_6
        refine hxa_call0 (by rfl) (by rfl) (by rfl) (by rfl) (by rfl) (by rfl) (hX155q4 (d := d + 0) hAc30 (Int32.ofNat 0) (by omega) (by omega) (Int32.ofNat 255)) ?_
        rintro _ A2 ⟨hA2, frA2_0, frA2_1, frA2_2, frA2_3, frA2_4, frA2_5, aeA2, z3, rfl, fz3⟩
        have ttA2_12 : (A2.1 367 12).toInt = (A.1 367 12).toInt := congrArg Int32.toInt (frA2_0.trans ek30_1)
        have ttA2_19 : (A2.1 367 19).toInt = (A.1 367 19).toInt := congrArg Int32.toInt (frA2_1.trans ek30_3)
        have ttA2_20 : (A2.1 367 20).toInt = (A.1 367 20).toInt := congrArg Int32.toInt (frA2_2.trans ek30_4)
        have ttA2_31 : (A2.1 367 31).toInt = (A.1 367 31).toInt := congrArg Int32.toInt (frA2_3.trans ek30_5)
        have ttA2_37 : (A2.1 367 37).toInt = (A.1 367 37).toInt := congrArg Int32.toInt (frA2_4.trans ek30_6)
        obtain ⟨fbA2_367_11, fbA2_367_11u⟩ := hA2.f (i := 367) (k := 11) (by rfl)
        obtain ⟨fbA2_367_13, fbA2_367_13u⟩ := hA2.f (i := 367) (k := 13) (by rfl)
        refine hxj_iast (by rfl) (by rfl) rfl (by omega) (by omega) hA2 (hbokN (by rfl)) (by rfl) (by rfl) (fun A4 hA4 eA4 fA4 gA4 => ?_)
        refine hxa_aload_n (by rfl) rfl ?_
        refine hxa_get (v := .ref 379) (by rfl) (by rfl) (by rfl) rfl ?_
        refine hxa_iload_n (by rfl) rfl ?_
        refine hxa_aload_n (by rfl) rfl ?_
        refine hxa_iconst (by rfl) rfl ?_
        refine hxa_bipush (by rfl) rfl ?_
        have nA4_11 : (A4.1 367 11).toInt = (A2.1 367 11).toInt := congrArg Int32.toInt (hkA eA4 rfl)
        have nA4_12 : (A4.1 367 12).toInt = (A.1 367 12).toInt := congrArg Int32.toInt (hkA eA4 (frA2_0.trans ek30_1))
        have nA4_13 : (A4.1 367 13).toInt = (A2.1 367 13).toInt := congrArg Int32.toInt (hkA eA4 rfl)
        have nA4_37 : (A4.1 367 37).toInt = (A.1 367 37).toInt := congrArg Int32.toInt (hkA eA4 (frA2_4.trans ek30_6))
        refine hxa_call0 (by rfl) (by rfl) (by rfl) (by rfl) (by rfl) (by rfl) (hX155q4 (d := d + 0) hA4 (Int32.ofNat 0) (by omega) (by omega) (Int32.ofNat 99)) ?_
        rintro _ A5 ⟨hA5, frA5_0, frA5_1, frA5_2, frA5_3, frA5_4, frA5_5, aeA5, z6, rfl, fz6⟩
        have ttA5_12 : (A5.1 367 12).toInt = (A.1 367 12).toInt := congrArg Int32.toInt (frA5_0.trans (hkA eA4 (frA2_0.trans ek30_1)))
        have ttA5_19 : (A5.1 367 19).toInt = (A.1 367 19).toInt := congrArg Int32.toInt (frA5_1.trans (hkA eA4 (frA2_1.trans ek30_3)))
        have ttA5_20 : (A5.1 367 20).toInt = (A.1 367 20).toInt := congrArg Int32.toInt (frA5_2.trans (hkA eA4 (frA2_2.trans ek30_4)))
        have ttA5_31 : (A5.1 367 31).toInt = (A.1 367 31).toInt := congrArg Int32.toInt (frA5_3.trans (hkA eA4 (frA2_3.trans ek30_5)))
        have ttA5_37 : (A5.1 367 37).toInt = (A.1 367 37).toInt := congrArg Int32.toInt (frA5_4.trans (hkA eA4 (frA2_4.trans ek30_6)))
        obtain ⟨fbA5_367_11, fbA5_367_11u⟩ := hA5.f (i := 367) (k := 11) (by rfl)
        obtain ⟨fbA5_367_13, fbA5_367_13u⟩ := hA5.f (i := 367) (k := 13) (by rfl)
        refine hxj_iast (by rfl) (by rfl) rfl (by omega) (by omega) hA5 (hbokN (by rfl)) (by rfl) (by rfl) (fun A7 hA7 eA7 fA7 gA7 => ?_)
        refine hxa_aload_n (by rfl) rfl ?_
        refine hxa_iconst (by rfl) rfl ?_
        have nA7_11 : (A7.1 367 11).toInt = (A5.1 367 11).toInt := congrArg Int32.toInt (hkA eA7 rfl)
        have nA7_12 : (A7.1 367 12).toInt = (A.1 367 12).toInt := congrArg Int32.toInt (hkA eA7 (frA5_0.trans (hkA eA4 (frA2_0.trans ek30_1))))
        have nA7_13 : (A7.1 367 13).toInt = (A5.1 367 13).toInt := congrArg Int32.toInt (hkA eA7 rfl)
        have nA7_37 : (A7.1 367 37).toInt = (A.1 367 37).toInt := congrArg Int32.toInt (hkA eA7 (frA5_4.trans (hkA eA4 (frA2_4.trans ek30_6))))
        refine hxa_call0 (by rfl) (by rfl) (by rfl) (by rfl) (by rfl) (by rfl) (hX148q4 (d := d + 0) hA7 (Int32.ofNat 4)) ?_
        rintro _ A8 ⟨hA8, frA8_0, frA8_1, frA8_2, frA8_3, frA8_4, frA8_5, aeA8, rfl, fA8⟩
        have ttA8_12 : (A8.1 367 12).toInt = (A.1 367 12).toInt := congrArg Int32.toInt (frA8_0.trans (hkA eA7 (frA5_0.trans (hkA eA4 (frA2_0.trans ek30_1)))))
        have ttA8_19 : (A8.1 367 19).toInt = (A.1 367 19).toInt := congrArg Int32.toInt (frA8_1.trans (hkA eA7 (frA5_1.trans (hkA eA4 (frA2_1.trans ek30_3)))))
        have ttA8_20 : (A8.1 367 20).toInt = (A.1 367 20).toInt := congrArg Int32.toInt (frA8_2.trans (hkA eA7 (frA5_2.trans (hkA eA4 (frA2_2.trans ek30_4)))))
        have ttA8_31 : (A8.1 367 31).toInt = (A.1 367 31).toInt := congrArg Int32.toInt (frA8_3.trans (hkA eA7 (frA5_3.trans (hkA eA4 (frA2_3.trans ek30_5)))))
        have ttA8_37 : (A8.1 367 37).toInt = (A.1 367 37).toInt := congrArg Int32.toInt (frA8_4.trans (hkA eA7 (frA5_4.trans (hkA eA4 (frA2_4.trans ek30_6)))))
        obtain ⟨fbA8_367_11, fbA8_367_11u⟩ := hA8.f (i := 367) (k := 11) (by rfl)
        obtain ⟨fbA8_367_13, fbA8_367_13u⟩ := hA8.f (i := 367) (k := 13) (by rfl)
        refine hxa_aload_n (by rfl) rfl ?_
        refine hxj_getK (by rfl) (by rfl) (by rfl) rfl ?_
        refine hxj_zle (by rfl) rfl (fun q9 => ?_) (fun q9 => ?_)
        ·
          refine hxa_aload_n (by rfl) rfl ?_
          refine hxa_get (v := .ref 376) (by rfl) (by rfl) (by rfl) rfl ?_
          refine hxa_aload_n (by rfl) rfl ?_
          refine hxj_getK (by rfl) (by rfl) (by rfl) (frA8_2.trans (hkA eA7 (frA5_2.trans (hkA eA4 (frA2_2.trans ek30_4))))) ?_
          refine hxa_aload_n (by rfl) rfl ?_
          refine hxa_get (v := .ref 374) (by rfl) (by rfl) (by rfl) rfl ?_
          refine hxa_iload_n (by rfl) rfl ?_
          refine hxj_lald (by rfl) (by rfl) rfl (by omega) (by omega) (fun j10 ej10 => ?_)
          refine hxj_last (by rfl) (by rfl) rfl (by omega) (by omega) hA8 (by omega) (fun A11 hA11 eA11 fA11 => ?_)
          refine hxa_aload_n (by rfl) rfl ?_
          refine hxa_dupR (by rfl) ?_
          refine hxj_getK (by rfl) (by rfl) (by rfl) (hkA eA11 (frA8_2.trans (hkA eA7 (frA5_2.trans (hkA eA4 (frA2_2.trans ek30_4)))))) ?_
          refine hxa_iconst (by rfl) rfl ?_
          refine hxj_iadd (by rfl) rfl hk_1 (by omega) (by omega) (fun z12 ez12 => ?_)
          refine hxj_putI (by rfl) (by rfl) (by rfl) (by rfl) hA11 (hbok (by rfl) rfl (by omega) (by omega)) (by rfl) (by rfl) (fun A13 hA13 eA13 fA13 => ?_)
          refine hxa_aload_n (by rfl) rfl ?_
          refine hxa_get (v := .ref 377) (by rfl) (by rfl) (by rfl) rfl ?_
          refine hxa_aload_n (by rfl) rfl ?_
          refine hxj_getK (by rfl) (by rfl) (by rfl) (hkF eA13 (by first | decide | omega) (hkA eA11 (frA8_1.trans (hkA eA7 (frA5_1.trans (hkA eA4 (frA2_1.trans ek30_3))))))) ?_
          refine hxa_dup2IR (by rfl) ?_
          refine hxj_ialdB (by rfl) (by rfl) rfl (by omega) (by omega) hA13 (by rfl) (fun z14 ez14 fz14 gz14 => ?_)
          have h47 : z14.toInt = (A.1 367 20).toInt := by rw [← ez14, hix, (show A13.2.1 376 = A.2.1 376 from (hafF fA13 (hafL fA11 (hafL aeA8 (hafA fA7 (by first | decide | omega) (hafL aeA5 (hafA fA4 (by first | decide | omega) (hafL aeA2 af30_376))))))))]; exact hn.symm
          refine hxa_iconst (by rfl) rfl ?_
          refine hxj_iadd (by rfl) rfl hk_1 (by omega) (by omega) (fun z15 ez15 => ?_)
          refine hxj_iast (by rfl) (by rfl) rfl (by omega) (by omega) hA13 (hbok (by rfl) rfl (by omega) (by omega)) (by rfl) (by rfl) (fun A16 hA16 eA16 fA16 gA16 => ?_)
          have nA16_11 : (A16.1 367 11).toInt = (A8.1 367 11).toInt := congrArg Int32.toInt (hkA eA16 (hkF eA13 (by first | decide | omega) (hkA eA11 rfl)))
          have nA16_13 : (A16.1 367 13).toInt = (A8.1 367 13).toInt := congrArg Int32.toInt (hkA eA16 (hkF eA13 (by first | decide | omega) (hkA eA11 rfl)))
          have nA16_20 : (A16.1 367 20).toInt = z12.toInt := congrArg Int32.toInt (hkA eA16 (hkS eA13))
          exact hxa_return (by rfl) rfl (hP _ _ ⟨hA16, (hkA eA16 (hkF eA13 (by first | decide | omega) (hkA eA11 (frA8_0.trans (hkA eA7 (frA5_0.trans (hkA eA4 (frA2_0.trans ek30_1)))))))), (hkA eA16 (hkF eA13 (by first | decide | omega) (hkA eA11 (frA8_3.trans (hkA eA7 (frA5_3.trans (hkA eA4 (frA2_3.trans ek30_5)))))))), (hkA eA16 (hkF eA13 (by first | decide | omega) (hkA eA11 (frA8_4.trans (hkA eA7 (frA5_4.trans (hkA eA4 (frA2_4.trans ek30_6)))))))), (hkA eA16 (hkF eA13 (by first | decide | omega) (hkA eA11 (frA8_1.trans (hkA eA7 (frA5_1.trans (hkA eA4 (frA2_1.trans ek30_3)))))))), (hafA fA16 (by first | decide | omega) (hafF fA13 (hafL fA11 (hafL aeA8 (hafA fA7 (by first | decide | omega) (hafL aeA5 (hafA fA4 (by first | decide | omega) (hafL aeA2 af30_383)))))))), (hafA fA16 (by first | decide | omega) (hafF fA13 (hafL fA11 (hafL aeA8 (hafA fA7 (by first | decide | omega) (hafL aeA5 (hafA fA4 (by first | decide | omega) (hafL aeA2 af30_384)))))))), (hafA fA16 (by first | decide | omega) (hafF fA13 (hafL fA11 (hafL aeA8 (hafA fA7 (by first | decide | omega) (hafL aeA5 (hafA fA4 (by first | decide | omega) (hafL aeA2 af30_385)))))))), (hafA fA16 (by first | decide | omega) (hafF fA13 (hafL fA11 (hafL aeA8 (hafA fA7 (by first | decide | omega) (hafL aeA5 (hafA fA4 (by first | decide | omega) (hafL aeA2 af30_386)))))))), (hafA fA16 (by first | decide | omega) (hafF fA13 (hafL fA11 (hafL aeA8 (hafA fA7 (by first | decide | omega) (hafL aeA5 (hafA fA4 (by first | decide | omega) (hafL aeA2 af30_387)))))))), (hafA fA16 (by first | decide | omega) (hafF fA13 (hafL fA11 (hafL aeA8 (hafA fA7 (by first | decide | omega) (hafL aeA5 (hafA fA4 (by first | decide | omega) (hafL aeA2 af30_388)))))))), (hafA fA16 (by first | decide | omega) (hafF fA13 (hafL fA11 (hafL aeA8 (hafA fA7 (by first | decide | omega) (hafL aeA5 (hafA fA4 (by first | decide | omega) (hafL aeA2 af30_389)))))))), (hafA fA16 (by first | decide | omega) (hafF fA13 (hafL fA11 (hafL aeA8 (hafA fA7 (by first | decide | omega) (hafL aeA5 (hafA fA4 (by first | decide | omega) (hafL aeA2 af30_390)))))))), (hafA fA16 (by first | decide | omega) (hafF fA13 (hafL fA11 (hafL aeA8 (hafA fA7 (by first | decide | omega) (hafL aeA5 (hafA fA4 (by first | decide | omega) (hafL aeA2 af30_391)))))))), rfl, ⟨by omega, by omega, by rw [fA16, hix, hup1]; omega⟩⟩)
        ·
          have nA8_20 : (A8.1 367 20).toInt = (A.1 367 20).toInt := congrArg Int32.toInt (frA8_2.trans (hkA eA7 (frA5_2.trans (hkA eA4 (frA2_2.trans ek30_4)))))
          exact hxa_return (by rfl) rfl (hP _ _ ⟨hA8, (frA8_0.trans (hkA eA7 (frA5_0.trans (hkA eA4 (frA2_0.trans ek30_1))))), (frA8_3.trans (hkA eA7 (frA5_3.trans (hkA eA4 (frA2_3.trans ek30_5))))), (frA8_4.trans (hkA eA7 (frA5_4.trans (hkA eA4 (frA2_4.trans ek30_6))))), (frA8_1.trans (hkA eA7 (frA5_1.trans (hkA eA4 (frA2_1.trans ek30_3))))), (hafL aeA8 (hafA fA7 (by first | decide | omega) (hafL aeA5 (hafA fA4 (by first | decide | omega) (hafL aeA2 af30_383))))), (hafL aeA8 (hafA fA7 (by first | decide | omega) (hafL aeA5 (hafA fA4 (by first | decide | omega) (hafL aeA2 af30_384))))), (hafL aeA8 (hafA fA7 (by first | decide | omega) (hafL aeA5 (hafA fA4 (by first | decide | omega) (hafL aeA2 af30_385))))), (hafL aeA8 (hafA fA7 (by first | decide | omega) (hafL aeA5 (hafA fA4 (by first | decide | omega) (hafL aeA2 af30_386))))), (hafL aeA8 (hafA fA7 (by first | decide | omega) (hafL aeA5 (hafA fA4 (by first | decide | omega) (hafL aeA2 af30_387))))), (hafL aeA8 (hafA fA7 (by first | decide | omega) (hafL aeA5 (hafA fA4 (by first | decide | omega) (hafL aeA2 af30_388))))), (hafL aeA8 (hafA fA7 (by first | decide | omega) (hafL aeA5 (hafA fA4 (by first | decide | omega) (hafL aeA2 af30_389))))), (hafL aeA8 (hafA fA7 (by first | decide | omega) (hafL aeA5 (hafA fA4 (by first | decide | omega) (hafL aeA2 af30_390))))), (hafL aeA8 (hafA fA7 (by first | decide | omega) (hafL aeA5 (hafA fA4 (by first | decide | omega) (hafL aeA2 af30_391))))), rfl, ⟨by omega, by omega, by rw [(show A8.2.1 376 = A.2.1 376 from (hafL aeA8 (hafA fA7 (by first | decide | omega) (hafL aeA5 (hafA fA4 (by first | decide | omega) (hafL aeA2 af30_376)))))), ← hn]; omega⟩⟩)
      ·
        refine hxa_aload_n (by rfl) rfl ?_
        refine hxj_getK (by rfl) (by rfl) (by rfl) ek30_2 ?_
        refine hxj_zne (by rfl) rfl (fun q17 => ?_) (fun q17 => ?_)
        ·
          refine hxa_aload_n (by rfl) rfl ?_
          refine hxa_get (v := .ref 378) (by rfl) (by rfl) (by rfl) rfl ?_
          refine hxa_iload_n (by rfl) rfl ?_
          refine hxa_aload_n (by rfl) rfl ?_
          refine hxa_iconst (by rfl) rfl ?_
          refine hxa_sipush (by rfl) rfl ?_
          have nAc30_11 : (Ac30.1 367 11).toInt = w30_0.toInt := congrArg Int32.toInt ek30_0
          have nAc30_12 : (Ac30.1 367 12).toInt = (A.1 367 12).toInt := congrArg Int32.toInt ek30_1
          have nAc30_13 : (Ac30.1 367 13).toInt = w30_2.toInt := congrArg Int32.toInt ek30_2
          have nAc30_37 : (Ac30.1 367 37).toInt = (A.1 367 37).toInt := congrArg Int32.toInt ek30_6
          refine hxa_call0 (by rfl) (by rfl) (by rfl) (by rfl) (by rfl) (by rfl) (hX155q4 (d := d + 0) hAc30 (Int32.ofNat 0) (by omega) (by omega) (Int32.ofNat 255)) ?_
          rintro _ A18 ⟨hA18, frA18_0, frA18_1, frA18_2, frA18_3, frA18_4, frA18_5, aeA18, z19, rfl, fz19⟩
          have ttA18_12 : (A18.1 367 12).toInt = (A.1 367 12).toInt := congrArg Int32.toInt (frA18_0.trans ek30_1)
          have ttA18_19 : (A18.1 367 19).toInt = (A.1 367 19).toInt := congrArg Int32.toInt (frA18_1.trans ek30_3)
          have ttA18_20 : (A18.1 367 20).toInt = (A.1 367 20).toInt := congrArg Int32.toInt (frA18_2.trans ek30_4)
          have ttA18_31 : (A18.1 367 31).toInt = (A.1 367 31).toInt := congrArg Int32.toInt (frA18_3.trans ek30_5)
          have ttA18_37 : (A18.1 367 37).toInt = (A.1 367 37).toInt := congrArg Int32.toInt (frA18_4.trans ek30_6)
          obtain ⟨fbA18_367_11, fbA18_367_11u⟩ := hA18.f (i := 367) (k := 11) (by rfl)
          obtain ⟨fbA18_367_13, fbA18_367_13u⟩ := hA18.f (i := 367) (k := 13) (by rfl)
          refine hxj_iast (by rfl) (by rfl) rfl (by omega) (by omega) hA18 (hbokN (by rfl)) (by rfl) (by rfl) (fun A20 hA20 eA20 fA20 gA20 => ?_)
          refine hxa_aload_n (by rfl) rfl ?_
          refine hxa_get (v := .ref 379) (by rfl) (by rfl) (by rfl) rfl ?_
          refine hxa_iload_n (by rfl) rfl ?_
          refine hxa_aload_n (by rfl) rfl ?_
          refine hxa_iconst (by rfl) rfl ?_
          refine hxa_bipush (by rfl) rfl ?_
          have nA20_11 : (A20.1 367 11).toInt = (A18.1 367 11).toInt := congrArg Int32.toInt (hkA eA20 rfl)
          have nA20_12 : (A20.1 367 12).toInt = (A.1 367 12).toInt := congrArg Int32.toInt (hkA eA20 (frA18_0.trans ek30_1))
          have nA20_13 : (A20.1 367 13).toInt = (A18.1 367 13).toInt := congrArg Int32.toInt (hkA eA20 rfl)
          have nA20_37 : (A20.1 367 37).toInt = (A.1 367 37).toInt := congrArg Int32.toInt (hkA eA20 (frA18_4.trans ek30_6))
          refine hxa_call0 (by rfl) (by rfl) (by rfl) (by rfl) (by rfl) (by rfl) (hX155q4 (d := d + 0) hA20 (Int32.ofNat 0) (by omega) (by omega) (Int32.ofNat 99)) ?_
          rintro _ A21 ⟨hA21, frA21_0, frA21_1, frA21_2, frA21_3, frA21_4, frA21_5, aeA21, z22, rfl, fz22⟩
          have ttA21_12 : (A21.1 367 12).toInt = (A.1 367 12).toInt := congrArg Int32.toInt (frA21_0.trans (hkA eA20 (frA18_0.trans ek30_1)))
          have ttA21_19 : (A21.1 367 19).toInt = (A.1 367 19).toInt := congrArg Int32.toInt (frA21_1.trans (hkA eA20 (frA18_1.trans ek30_3)))
          have ttA21_20 : (A21.1 367 20).toInt = (A.1 367 20).toInt := congrArg Int32.toInt (frA21_2.trans (hkA eA20 (frA18_2.trans ek30_4)))
          have ttA21_31 : (A21.1 367 31).toInt = (A.1 367 31).toInt := congrArg Int32.toInt (frA21_3.trans (hkA eA20 (frA18_3.trans ek30_5)))
          have ttA21_37 : (A21.1 367 37).toInt = (A.1 367 37).toInt := congrArg Int32.toInt (frA21_4.trans (hkA eA20 (frA18_4.trans ek30_6)))
          obtain ⟨fbA21_367_11, fbA21_367_11u⟩ := hA21.f (i := 367) (k := 11) (by rfl)
          obtain ⟨fbA21_367_13, fbA21_367_13u⟩ := hA21.f (i := 367) (k := 13) (by rfl)
          refine hxj_iast (by rfl) (by rfl) rfl (by omega) (by omega) hA21 (hbokN (by rfl)) (by rfl) (by rfl) (fun A23 hA23 eA23 fA23 gA23 => ?_)
          refine hxa_aload_n (by rfl) rfl ?_
          refine hxa_iconst (by rfl) rfl ?_
          have nA23_11 : (A23.1 367 11).toInt = (A21.1 367 11).toInt := congrArg Int32.toInt (hkA eA23 rfl)
          have nA23_12 : (A23.1 367 12).toInt = (A.1 367 12).toInt := congrArg Int32.toInt (hkA eA23 (frA21_0.trans (hkA eA20 (frA18_0.trans ek30_1))))
          have nA23_13 : (A23.1 367 13).toInt = (A21.1 367 13).toInt := congrArg Int32.toInt (hkA eA23 rfl)
          have nA23_37 : (A23.1 367 37).toInt = (A.1 367 37).toInt := congrArg Int32.toInt (hkA eA23 (frA21_4.trans (hkA eA20 (frA18_4.trans ek30_6))))
          refine hxa_call0 (by rfl) (by rfl) (by rfl) (by rfl) (by rfl) (by rfl) (hX148q4 (d := d + 0) hA23 (Int32.ofNat 4)) ?_
          rintro _ A24 ⟨hA24, frA24_0, frA24_1, frA24_2, frA24_3, frA24_4, frA24_5, aeA24, rfl, fA24⟩
          have ttA24_12 : (A24.1 367 12).toInt = (A.1 367 12).toInt := congrArg Int32.toInt (frA24_0.trans (hkA eA23 (frA21_0.trans (hkA eA20 (frA18_0.trans ek30_1)))))
          have ttA24_19 : (A24.1 367 19).toInt = (A.1 367 19).toInt := congrArg Int32.toInt (frA24_1.trans (hkA eA23 (frA21_1.trans (hkA eA20 (frA18_1.trans ek30_3)))))
          have ttA24_20 : (A24.1 367 20).toInt = (A.1 367 20).toInt := congrArg Int32.toInt (frA24_2.trans (hkA eA23 (frA21_2.trans (hkA eA20 (frA18_2.trans ek30_4)))))
          have ttA24_31 : (A24.1 367 31).toInt = (A.1 367 31).toInt := congrArg Int32.toInt (frA24_3.trans (hkA eA23 (frA21_3.trans (hkA eA20 (frA18_3.trans ek30_5)))))
          have ttA24_37 : (A24.1 367 37).toInt = (A.1 367 37).toInt := congrArg Int32.toInt (frA24_4.trans (hkA eA23 (frA21_4.trans (hkA eA20 (frA18_4.trans ek30_6)))))
          obtain ⟨fbA24_367_11, fbA24_367_11u⟩ := hA24.f (i := 367) (k := 11) (by rfl)
          obtain ⟨fbA24_367_13, fbA24_367_13u⟩ := hA24.f (i := 367) (k := 13) (by rfl)
          refine hxa_aload_n (by rfl) rfl ?_
          refine hxj_getK (by rfl) (by rfl) (by rfl) rfl ?_
          refine hxj_zle (by rfl) rfl (fun q25 => ?_) (fun q25 => ?_)
          ·
            refine hxa_aload_n (by rfl) rfl ?_
            refine hxa_get (v := .ref 376) (by rfl) (by rfl) (by rfl) rfl ?_
            refine hxa_aload_n (by rfl) rfl ?_
            refine hxj_getK (by rfl) (by rfl) (by rfl) (frA24_2.trans (hkA eA23 (frA21_2.trans (hkA eA20 (frA18_2.trans ek30_4))))) ?_
            refine hxa_aload_n (by rfl) rfl ?_
            refine hxa_get (v := .ref 374) (by rfl) (by rfl) (by rfl) rfl ?_
            refine hxa_iload_n (by rfl) rfl ?_
            refine hxj_lald (by rfl) (by rfl) rfl (by omega) (by omega) (fun j26 ej26 => ?_)
            refine hxj_last (by rfl) (by rfl) rfl (by omega) (by omega) hA24 (by omega) (fun A27 hA27 eA27 fA27 => ?_)
            refine hxa_aload_n (by rfl) rfl ?_
            refine hxa_dupR (by rfl) ?_
            refine hxj_getK (by rfl) (by rfl) (by rfl) (hkA eA27 (frA24_2.trans (hkA eA23 (frA21_2.trans (hkA eA20 (frA18_2.trans ek30_4)))))) ?_
            refine hxa_iconst (by rfl) rfl ?_
            refine hxj_iadd (by rfl) rfl hk_1 (by omega) (by omega) (fun z28 ez28 => ?_)
            refine hxj_putI (by rfl) (by rfl) (by rfl) (by rfl) hA27 (hbok (by rfl) rfl (by omega) (by omega)) (by rfl) (by rfl) (fun A29 hA29 eA29 fA29 => ?_)
            refine hxa_aload_n (by rfl) rfl ?_
            refine hxa_get (v := .ref 377) (by rfl) (by rfl) (by rfl) rfl ?_
            refine hxa_aload_n (by rfl) rfl ?_
            refine hxj_getK (by rfl) (by rfl) (by rfl) (hkF eA29 (by first | decide | omega) (hkA eA27 (frA24_1.trans (hkA eA23 (frA21_1.trans (hkA eA20 (frA18_1.trans ek30_3))))))) ?_
            refine hxa_dup2IR (by rfl) ?_
            refine hxj_ialdB (by rfl) (by rfl) rfl (by omega) (by omega) hA29 (by rfl) (fun z30 ez30 fz30 gz30 => ?_)
            have h47 : z30.toInt = (A.1 367 20).toInt := by rw [← ez30, hix, (show A29.2.1 376 = A.2.1 376 from (hafF fA29 (hafL fA27 (hafL aeA24 (hafA fA23 (by first | decide | omega) (hafL aeA21 (hafA fA20 (by first | decide | omega) (hafL aeA18 af30_376))))))))]; exact hn.symm
            refine hxa_iconst (by rfl) rfl ?_
            refine hxj_iadd (by rfl) rfl hk_1 (by omega) (by omega) (fun z31 ez31 => ?_)
            refine hxj_iast (by rfl) (by rfl) rfl (by omega) (by omega) hA29 (hbok (by rfl) rfl (by omega) (by omega)) (by rfl) (by rfl) (fun A32 hA32 eA32 fA32 gA32 => ?_)
            have nA32_11 : (A32.1 367 11).toInt = (A24.1 367 11).toInt := congrArg Int32.toInt (hkA eA32 (hkF eA29 (by first | decide | omega) (hkA eA27 rfl)))
            have nA32_13 : (A32.1 367 13).toInt = (A24.1 367 13).toInt := congrArg Int32.toInt (hkA eA32 (hkF eA29 (by first | decide | omega) (hkA eA27 rfl)))
            have nA32_20 : (A32.1 367 20).toInt = z28.toInt := congrArg Int32.toInt (hkA eA32 (hkS eA29))
            exact hxa_return (by rfl) rfl (hP _ _ ⟨hA32, (hkA eA32 (hkF eA29 (by first | decide | omega) (hkA eA27 (frA24_0.trans (hkA eA23 (frA21_0.trans (hkA eA20 (frA18_0.trans ek30_1)))))))), (hkA eA32 (hkF eA29 (by first | decide | omega) (hkA eA27 (frA24_3.trans (hkA eA23 (frA21_3.trans (hkA eA20 (frA18_3.trans ek30_5)))))))), (hkA eA32 (hkF eA29 (by first | decide | omega) (hkA eA27 (frA24_4.trans (hkA eA23 (frA21_4.trans (hkA eA20 (frA18_4.trans ek30_6)))))))), (hkA eA32 (hkF eA29 (by first | decide | omega) (hkA eA27 (frA24_1.trans (hkA eA23 (frA21_1.trans (hkA eA20 (frA18_1.trans ek30_3)))))))), (hafA fA32 (by first | decide | omega) (hafF fA29 (hafL fA27 (hafL aeA24 (hafA fA23 (by first | decide | omega) (hafL aeA21 (hafA fA20 (by first | decide | omega) (hafL aeA18 af30_383)))))))), (hafA fA32 (by first | decide | omega) (hafF fA29 (hafL fA27 (hafL aeA24 (hafA fA23 (by first | decide | omega) (hafL aeA21 (hafA fA20 (by first | decide | omega) (hafL aeA18 af30_384)))))))), (hafA fA32 (by first | decide | omega) (hafF fA29 (hafL fA27 (hafL aeA24 (hafA fA23 (by first | decide | omega) (hafL aeA21 (hafA fA20 (by first | decide | omega) (hafL aeA18 af30_385)))))))), (hafA fA32 (by first | decide | omega) (hafF fA29 (hafL fA27 (hafL aeA24 (hafA fA23 (by first | decide | omega) (hafL aeA21 (hafA fA20 (by first | decide | omega) (hafL aeA18 af30_386)))))))), (hafA fA32 (by first | decide | omega) (hafF fA29 (hafL fA27 (hafL aeA24 (hafA fA23 (by first | decide | omega) (hafL aeA21 (hafA fA20 (by first | decide | omega) (hafL aeA18 af30_387)))))))), (hafA fA32 (by first | decide | omega) (hafF fA29 (hafL fA27 (hafL aeA24 (hafA fA23 (by first | decide | omega) (hafL aeA21 (hafA fA20 (by first | decide | omega) (hafL aeA18 af30_388)))))))), (hafA fA32 (by first | decide | omega) (hafF fA29 (hafL fA27 (hafL aeA24 (hafA fA23 (by first | decide | omega) (hafL aeA21 (hafA fA20 (by first | decide | omega) (hafL aeA18 af30_389)))))))), (hafA fA32 (by first | decide | omega) (hafF fA29 (hafL fA27 (hafL aeA24 (hafA fA23 (by first | decide | omega) (hafL aeA21 (hafA fA20 (by first | decide | omega) (hafL aeA18 af30_390)))))))), (hafA fA32 (by first | decide | omega) (hafF fA29 (hafL fA27 (hafL aeA24 (hafA fA23 (by first | decide | omega) (hafL aeA21 (hafA fA20 (by first | decide | omega) (hafL aeA18 af30_391)))))))), rfl, ⟨by omega, by omega, by rw [fA32, hix, hup1]; omega⟩⟩)
          ·
            have nA24_20 : (A24.1 367 20).toInt = (A.1 367 20).toInt := congrArg Int32.toInt (frA24_2.trans (hkA eA23 (frA21_2.trans (hkA eA20 (frA18_2.trans ek30_4)))))
            exact hxa_return (by rfl) rfl (hP _ _ ⟨hA24, (frA24_0.trans (hkA eA23 (frA21_0.trans (hkA eA20 (frA18_0.trans ek30_1))))), (frA24_3.trans (hkA eA23 (frA21_3.trans (hkA eA20 (frA18_3.trans ek30_5))))), (frA24_4.trans (hkA eA23 (frA21_4.trans (hkA eA20 (frA18_4.trans ek30_6))))), (frA24_1.trans (hkA eA23 (frA21_1.trans (hkA eA20 (frA18_1.trans ek30_3))))), (hafL aeA24 (hafA fA23 (by first | decide | omega) (hafL aeA21 (hafA fA20 (by first | decide | omega) (hafL aeA18 af30_383))))), (hafL aeA24 (hafA fA23 (by first | decide | omega) (hafL aeA21 (hafA fA20 (by first | decide | omega) (hafL aeA18 af30_384))))), (hafL aeA24 (hafA fA23 (by first | decide | omega) (hafL aeA21 (hafA fA20 (by first | decide | omega) (hafL aeA18 af30_385))))), (hafL aeA24 (hafA fA23 (by first | decide | omega) (hafL aeA21 (hafA fA20 (by first | decide | omega) (hafL aeA18 af30_386))))), (hafL aeA24 (hafA fA23 (by first | decide | omega) (hafL aeA21 (hafA fA20 (by first | decide | omega) (hafL aeA18 af30_387))))), (hafL aeA24 (hafA fA23 (by first | decide | omega) (hafL aeA21 (hafA fA20 (by first | decide | omega) (hafL aeA18 af30_388))))), (hafL aeA24 (hafA fA23 (by first | decide | omega) (hafL aeA21 (hafA fA20 (by first | decide | omega) (hafL aeA18 af30_389))))), (hafL aeA24 (hafA fA23 (by first | decide | omega) (hafL aeA21 (hafA fA20 (by first | decide | omega) (hafL aeA18 af30_390))))), (hafL aeA24 (hafA fA23 (by first | decide | omega) (hafL aeA21 (hafA fA20 (by first | decide | omega) (hafL aeA18 af30_391))))), rfl, ⟨by omega, by omega, by rw [(show A24.2.1 376 = A.2.1 376 from (hafL aeA24 (hafA fA23 (by first | decide | omega) (hafL aeA21 (hafA fA20 (by first | decide | omega) (hafL aeA18 af30_376)))))), ← hn]; omega⟩⟩)
        ·
          refine hxa_aload_n (by rfl) rfl ?_
          refine hxa_get (v := .ref 376) (by rfl) (by rfl) (by rfl) rfl ?_
          refine hxa_iload_n (by rfl) rfl ?_
          refine hxj_lald (by rfl) (by rfl) rfl (by omega) (by omega) (fun j33 ej33 => ?_)
          refine hxa_aload_n (by rfl) rfl ?_
          refine hxa_get (v := .ref 374) (by rfl) (by rfl) (by rfl) rfl ?_
          refine hxa_iload_n (by rfl) rfl ?_
          refine hxj_lald (by rfl) (by rfl) rfl (by omega) (by omega) (fun j34 ej34 => ?_)
          refine hxa_lcmp (by rfl) (hn_top (fun z35 _ => ?_))
          refine hxj_zne (by rfl) rfl (fun q36 => ?_) (fun q36 => ?_)
          ·
            refine hxj_iinc (by rfl) rfl rfl hk_1 (by omega) (by omega) (fun _ => rfl) (fun z37 ez37 => ?_)
            refine hxa_goto (by rfl) ?_
            exact ih30 w30_0 w30_2 x30_1 x30_2 z37 Ac30 hAc30 ek30_0 ek30_1 ek30_2 ek30_3 ek30_4 ek30_5 ek30_6 af30_376 af30_383 af30_384 af30_385 af30_386 af30_387 af30_388 af30_389 af30_390 af30_391 (by omega) (by omega) (by omega) (by omega) (by omega) (by omega) (by omega) (by omega) (by omega) (by omega) (by omega) (by omega)
          ·
            refine hxa_aload_n (by rfl) rfl ?_
            refine hxa_iconst (by rfl) rfl ?_
            refine hxa_iload_n (by rfl) rfl ?_
            have nAc30_11 : (Ac30.1 367 11).toInt = w30_0.toInt := congrArg Int32.toInt ek30_0
            have nAc30_12 : (Ac30.1 367 12).toInt = (A.1 367 12).toInt := congrArg Int32.toInt ek30_1
            have nAc30_13 : (Ac30.1 367 13).toInt = w30_2.toInt := congrArg Int32.toInt ek30_2
            have nAc30_37 : (Ac30.1 367 37).toInt = (A.1 367 37).toInt := congrArg Int32.toInt ek30_6
            refine hxa_call0 (by rfl) (by rfl) (by rfl) (by rfl) (by rfl) (by rfl) (hX146q4 (d := d + 2) hAc30 (Int32.ofNat 3) x30_2 (by omega) (by omega)) ?_
            rintro _ A38 ⟨hA38, frA38_0, frA38_1, frA38_2, frA38_3, frA38_4, frA38_5, frA38_6, frA38_7, aeA38, rfl⟩
            have ttA38_12 : (A38.1 367 12).toInt = (A.1 367 12).toInt := congrArg Int32.toInt (frA38_0.trans ek30_1)
            have ttA38_19 : (A38.1 367 19).toInt = (A.1 367 19).toInt := congrArg Int32.toInt (frA38_1.trans ek30_3)
            have ttA38_20 : (A38.1 367 20).toInt = (A.1 367 20).toInt := congrArg Int32.toInt (frA38_2.trans ek30_4)
            have ttA38_31 : (A38.1 367 31).toInt = (A.1 367 31).toInt := congrArg Int32.toInt (frA38_3.trans ek30_5)
            have ttA38_37 : (A38.1 367 37).toInt = (A.1 367 37).toInt := congrArg Int32.toInt (frA38_4.trans ek30_6)
            have ttA38_11 : (A38.1 367 11).toInt = w30_0.toInt := congrArg Int32.toInt (frA38_6.trans ek30_0)
            have ttA38_13 : (A38.1 367 13).toInt = w30_2.toInt := congrArg Int32.toInt (frA38_7.trans ek30_2)
            refine hxj_iinc (by rfl) rfl rfl hk_1 (by omega) (by omega) (fun _ => rfl) (fun z39 ez39 => ?_)
            refine hxa_goto (by rfl) ?_
            exact ih30 w30_0 w30_2 x30_1 x30_2 z39 A38 hA38 (frA38_6.trans ek30_0) (frA38_0.trans ek30_1) (frA38_7.trans ek30_2) (frA38_1.trans ek30_3) (frA38_2.trans ek30_4) (frA38_3.trans ek30_5) (frA38_4.trans ek30_6) (hafL aeA38 af30_376) (hafL aeA38 af30_383) (hafL aeA38 af30_384) (hafL aeA38 af30_385) (hafL aeA38 af30_386) (hafL aeA38 af30_387) (hafL aeA38 af30_388) (hafL aeA38 af30_389) (hafL aeA38 af30_390) (hafL aeA38 af30_391) (by omega) (by omega) (by omega) (by omega) (by omega) (by omega) (by omega) (by omega) (by omega) (by omega) (by omega) (by omega)
  refine hxa_bipush (by rfl) rfl ?_
  refine hxa_aload_n (by rfl) rfl ?_
  refine hxj_getK (by rfl) (by rfl) (by rfl) rfl ?_
  refine hxj_imul (by rfl) hk_10 rfl (by omega) (by omega) (fun z40 ez40 => ?_)
  refine hxa_aload_n (by rfl) rfl ?_
  refine hxa_get (v := .ref 377) (by rfl) (by rfl) (by rfl) rfl ?_
  refine hxa_aload_n (by rfl) rfl ?_
  refine hxj_getK (by rfl) (by rfl) (by rfl) rfl ?_
  refine hxj_ialdB (by rfl) (by rfl) rfl (by omega) (by omega) hA (by rfl) (fun z41 ez41 fz41 gz41 => ?_)
  have h15 : z41.toInt = (A.1 367 20).toInt := by rw [← ez41, hix]; exact hn.symm
  refine hxj_iadd (by rfl) rfl rfl (by omega) (by omega) (fun z42 ez42 => ?_)
  refine hxa_s1 (by rfl) (Or.inl ⟨_, rfl, rfl⟩) rfl ?_
  refine hxa_aload_n (by rfl) rfl ?_
  refine hxj_getK (by rfl) (by rfl) (by rfl) rfl ?_
  refine hxa_s1 (by rfl) (Or.inl ⟨_, rfl, rfl⟩) rfl ?_
  refine hxa_aload_n (by rfl) rfl ?_
  refine hxa_iconst (by rfl) rfl ?_
  refine hxa_call0 (by rfl) (by rfl) (by rfl) (by rfl) (by rfl) (by rfl) (hX148q4 (d := d + 0) hA (Int32.ofNat 1)) ?_
  rintro _ A43 ⟨hA43, frA43_0, frA43_1, frA43_2, frA43_3, frA43_4, frA43_5, aeA43, rfl, fA43⟩
  have ttA43_12 : (A43.1 367 12).toInt = (A.1 367 12).toInt := congrArg Int32.toInt (frA43_0.trans rfl)
  have ttA43_19 : (A43.1 367 19).toInt = (A.1 367 19).toInt := congrArg Int32.toInt (frA43_1.trans rfl)
  have ttA43_20 : (A43.1 367 20).toInt = (A.1 367 20).toInt := congrArg Int32.toInt (frA43_2.trans rfl)
  have ttA43_31 : (A43.1 367 31).toInt = (A.1 367 31).toInt := congrArg Int32.toInt (frA43_3.trans rfl)
  have ttA43_37 : (A43.1 367 37).toInt = (A.1 367 37).toInt := congrArg Int32.toInt (frA43_4.trans rfl)
  obtain ⟨fbA43_367_11, fbA43_367_11u⟩ := hA43.f (i := 367) (k := 11) (by rfl)
  obtain ⟨fbA43_367_13, fbA43_367_13u⟩ := hA43.f (i := 367) (k := 13) (by rfl)
  refine hxa_iconst (by rfl) rfl ?_
  refine hxa_s1 (by rfl) (Or.inl ⟨_, rfl, rfl⟩) rfl ?_
  exact L30 (Int.toNat (9 - 0) + 1) (A43.1 367 11) (A43.1 367 13) z42 (A.1 367 11) (Int32.ofNat 0) A43 hA43 rfl (frA43_0.trans rfl) rfl (frA43_1.trans rfl) (frA43_2.trans rfl) (frA43_3.trans rfl) (frA43_4.trans rfl) (hafL aeA43 rfl) (hafL aeA43 rfl) (hafL aeA43 rfl) (hafL aeA43 rfl) (hafL aeA43 rfl) (hafL aeA43 rfl) (hafL aeA43 rfl) (hafL aeA43 rfl) (hafL aeA43 rfl) (hafL aeA43 rfl) (by omega) (by omega) (by omega) (by omega) (by omega) (by omega) (by omega) (by omega) (by omega) (by omega) (by omega) (by omega)
theorem hX156q4 {d : Nat} {Bn Br : Int} {A0 A : hs_A} (hA : hJ 4 Bn Br A0 A) (hn : (A.1 367 20).toInt = (A.2.1 376 0).toInt) (fl0 : 0 ≤ (A.1 367 19).toInt) (fh0 : (A.1 367 19).toInt ≤ 0) (fl1 : 0 ≤ (A.1 367 20).toInt) (fh1 : (A.1 367 20).toInt ≤ 9) : hxC (d + 4) 156 hm_m156 [.ref 368] A (fun r A' => hJ 4 Bn Br A0 A' ∧ A'.1 367 12 = A.1 367 12 ∧ A'.1 367 31 = A.1 367 31 ∧ A'.1 367 37 = A.1 367 37 ∧ A'.1 367 19 = A.1 367 19 ∧ A'.2.1 383 = A.2.1 383 ∧ A'.2.1 384 = A.2.1 384 ∧ A'.2.1 385 = A.2.1 385 ∧ A'.2.1 386 = A.2.1 386 ∧ A'.2.1 387 = A.2.1 387 ∧ A'.2.1 388 = A.2.1 388 ∧ A'.2.1 389 = A.2.1 389 ∧ A'.2.1 390 = A.2.1 390 ∧ A'.2.1 391 = A.2.1 391 ∧ r = none ∧ ((¬ (A'.1 367 13).toInt = 0 ∨ ((A.1 367 13).toInt = 0 ∧ (A.1 367 11).toInt + 1 ≤ (A'.1 367 11).toInt)) ∧ (A.1 367 11).toInt ≤ (A'.1 367 11).toInt ∧ (A'.1 367 20).toInt = (A'.2.1 376 0).toInt)) := hxC.of (by rfl) (hY156q4 hA hn fl0 fh0 fl1 fh1 (fun r A' h => h))
theorem hY154q4 {d : Nat} {Bn Br : Int} {A0 A : hs_A} (hA : hJ 4 Bn Br A0 A) (hv : hVr 0 A) (hn : (A.1 367 20).toInt = (A.2.1 376 0).toInt) (hf : (A.1 367 13).toInt = 0) (hb : 0 ≤ (A.1 367 31).toInt ∧ 4 * ((A.1 367 31).toInt - 0) ≤ (A.1 367 11).toInt) (hc : 0 ≤ (A.1 367 37).toInt ∧ (A.1 367 37).toInt ≤ 0 + (A.1 367 11).toInt) (ho : (A.1 367 12).toInt ≤ 6) (hl : (A0.1 367 18).toInt = 1) (fl0 : 0 ≤ (A.1 367 19).toInt) (fh0 : (A.1 367 19).toInt ≤ 0) {P : Option Value → hs_A → Prop} (hP : ∀ (r : Option Value) (A' : hs_A), (hJ 4 Bn Br A0 A' ∧ A'.1 367 19 = A.1 367 19 ∧ r = none ∧ ((¬ (A'.1 367 13).toInt = 0 ∨ ((A.1 367 11).toInt + 1 ≤ (A'.1 367 11).toInt ∧ 4 * ((A'.1 367 31).toInt - 0) ≤ (A'.1 367 11).toInt ∧ (A'.1 367 37).toInt ≤ 0 + (A'.1 367 11).toInt ∧ (A'.1 367 12).toInt = (A.1 367 12).toInt)) ∧ (A.1 367 11).toInt ≤ (A'.1 367 11).toInt ∧ (A.1 367 31).toInt ≤ (A'.1 367 31).toInt ∧ (A'.1 367 31).toInt ≤ 103 ∧ (A.1 367 37).toInt ≤ (A'.1 367 37).toInt ∧ (A'.1 367 37).toInt ≤ 402 ∧ hVr 0 A' ∧ (A'.1 367 20).toInt = (A'.2.1 376 0).toInt)) → P r A') : hxa (d + 6) none hm_t154 0 [.ref 368, .retAddr 0, .retAddr 0] [] A P := by
  have k0 := hk_0
  have k1 := hk_1
  have k10 := hk_10
  have k23 := hk_23
  have k255 := hk_255
  have k4 := hk_4
  have k8 := hk_8
  have k99 := hk_99
  have k9999 := hk_9999
  obtain ⟨fb367_11, fb367_11u⟩ := hA.f (i := 367) (k := 11) (by rfl)
  obtain ⟨fb367_12, fb367_12u⟩ := hA.f (i := 367) (k := 12) (by rfl)
  obtain ⟨fb367_13, fb367_13u⟩ := hA.f (i := 367) (k := 13) (by rfl)
  obtain ⟨fb367_20, fb367_20u⟩ := hA.f (i := 367) (k := 20) (by rfl)
  obtain ⟨fb367_31, fb367_31u⟩ := hA.f (i := 367) (k := 31) (by rfl)
  obtain ⟨fb367_37, fb367_37u⟩ := hA.f (i := 367) (k := 37) (by rfl)
  have hix : (A.1 367 19).toNatClampNeg = 0 := by have := hn_cn (j := A.1 367 19) (by omega); omega
  refine hxa_aload_n (by rfl) rfl ?_
  refine hxa_get (v := .ref 371) (by rfl) (by rfl) (by rfl) rfl ?_
  refine hxa_aload_n (by rfl) rfl ?_
  refine hxj_getK (by rfl) (by rfl) (by rfl) rfl ?_
  refine hxj_ialdB (by rfl) (by rfl) rfl (by omega) (by omega) hA (by rfl) (fun z1 ez1 fz1 gz1 => ?_)
  by_cases q2 : z1.toInt = 20
  ·
    refine hxa_tabIn (by rfl) (by omega) (by omega) (by rw [q2]; rfl) (tgt := 56) (by rfl) ?_
    refine hxa_aload_n (by rfl) rfl ?_
    refine hxa_aload_n (by rfl) rfl ?_
    refine hxa_get (v := .ref 377) (by rfl) (by rfl) (by rfl) rfl ?_
    refine hxa_aload_n (by rfl) rfl ?_
    refine hxj_getK (by rfl) (by rfl) (by rfl) rfl ?_
    refine hxj_ialdB (by rfl) (by rfl) rfl (by omega) (by omega) hA (by rfl) (fun z3 ez3 fz3 gz3 => ?_)
    have h65 : z3.toInt = (A.1 367 20).toInt := by rw [← ez3, hix]; exact hn.symm
    refine hxa_bipush (by rfl) rfl ?_
    refine hxa_call0 (by rfl) (by rfl) (by rfl) (by rfl) (by rfl) (by rfl) (hX152q4 (d := d + 3) hA z3 (Int32.ofNat 10)) ?_
    rintro _ A4 ⟨hA4, frA4_0, frA4_1, frA4_2, frA4_3, frA4_4, frA4_5, aeA4, rfl, fA4⟩
    have ttA4_12 : (A4.1 367 12).toInt = (A.1 367 12).toInt := congrArg Int32.toInt (frA4_0.trans rfl)
    have ttA4_19 : (A4.1 367 19).toInt = (A.1 367 19).toInt := congrArg Int32.toInt (frA4_1.trans rfl)
    have ttA4_20 : (A4.1 367 20).toInt = (A.1 367 20).toInt := congrArg Int32.toInt (frA4_2.trans rfl)
    have ttA4_31 : (A4.1 367 31).toInt = (A.1 367 31).toInt := congrArg Int32.toInt (frA4_3.trans rfl)
    have ttA4_37 : (A4.1 367 37).toInt = (A.1 367 37).toInt := congrArg Int32.toInt (frA4_4.trans rfl)
    obtain ⟨fbA4_367_11, fbA4_367_11u⟩ := hA4.f (i := 367) (k := 11) (by rfl)
    obtain ⟨fbA4_367_13, fbA4_367_13u⟩ := hA4.f (i := 367) (k := 13) (by rfl)
    refine hxa_aload_n (by rfl) rfl ?_
    refine hxj_getK (by rfl) (by rfl) (by rfl) rfl ?_
    refine hxj_zne (by rfl) rfl (fun q5 => ?_) (fun q5 => ?_)
    ·
      have nA4_12 : (A4.1 367 12).toInt = (A.1 367 12).toInt := congrArg Int32.toInt (frA4_0.trans rfl)
      have nA4_20 : (A4.1 367 20).toInt = (A.1 367 20).toInt := congrArg Int32.toInt (frA4_2.trans rfl)
      have nA4_31 : (A4.1 367 31).toInt = (A.1 367 31).toInt := congrArg Int32.toInt (frA4_3.trans rfl)
      have nA4_37 : (A4.1 367 37).toInt = (A.1 367 37).toInt := congrArg Int32.toInt (frA4_4.trans rfl)
      have hvz : hVr 0 A4 := hVr.cg hv ((frA4_3.trans rfl)) ((frA4_4.trans rfl)) (fun c q1 q2 => hlw ((hafL aeA4 rfl)) ((hafL aeA4 rfl)) ((hafL aeA4 rfl)) ((hafL aeA4 rfl)) ((hafL aeA4 rfl)) ((hafL aeA4 rfl)) ((hafL aeA4 rfl)) ((hafL aeA4 rfl)) ((hafL aeA4 rfl)) c q1 q2)
      have hnz : (A4.1 367 20).toInt = (A4.2.1 376 0).toInt := by rw [(show A4.2.1 376 = A.2.1 376 from (hafL aeA4 rfl)), ← hn]; omega
      exact hxa_return (by rfl) rfl (hP _ _ ⟨hA4, (frA4_1.trans rfl), rfl, ⟨by omega, by omega, by omega, by omega, by omega, by omega, hvz, hnz⟩⟩)
    ·
      refine hxa_aload_n (by rfl) rfl ?_
      have nA4_12 : (A4.1 367 12).toInt = (A.1 367 12).toInt := congrArg Int32.toInt (frA4_0.trans rfl)
      have nA4_20 : (A4.1 367 20).toInt = (A.1 367 20).toInt := congrArg Int32.toInt (frA4_2.trans rfl)
      have nA4_31 : (A4.1 367 31).toInt = (A.1 367 31).toInt := congrArg Int32.toInt (frA4_3.trans rfl)
      have nA4_37 : (A4.1 367 37).toInt = (A.1 367 37).toInt := congrArg Int32.toInt (frA4_4.trans rfl)
      have hn9 : (A4.1 367 20).toInt = (A4.2.1 376 0).toInt := by rw [(show A4.2.1 376 = A.2.1 376 from (hafL aeA4 rfl)), ← hn]; omega
      refine hxa_call0 (by rfl) (by rfl) (by rfl) (by rfl) (by rfl) (by rfl) (hX156q4 (d := d + 2) hA4 hn9 (by rw [(show A4.1 367 19 = (A.1 367 19) from (frA4_1.trans rfl))]; omega) (by rw [(show A4.1 367 19 = (A.1 367 19) from (frA4_1.trans rfl))]; omega) (by rw [(show A4.1 367 20 = (A.1 367 20) from (frA4_2.trans rfl))]; omega) (by rw [(show A4.1 367 20 = (A.1 367 20) from (frA4_2.trans rfl))]; omega)) ?_
      rintro _ A6 ⟨hA6, frA6_0, frA6_1, frA6_2, frA6_3, afA6_383, afA6_384, afA6_385, afA6_386, afA6_387, afA6_388, afA6_389, afA6_390, afA6_391, rfl, fA6⟩
      have ttA6_12 : (A6.1 367 12).toInt = (A.1 367 12).toInt := congrArg Int32.toInt (frA6_0.trans (frA4_0.trans rfl))
      have ttA6_31 : (A6.1 367 31).toInt = (A.1 367 31).toInt := congrArg Int32.toInt (frA6_1.trans (frA4_3.trans rfl))
      have ttA6_37 : (A6.1 367 37).toInt = (A.1 367 37).toInt := congrArg Int32.toInt (frA6_2.trans (frA4_4.trans rfl))
      have ttA6_19 : (A6.1 367 19).toInt = (A.1 367 19).toInt := congrArg Int32.toInt (frA6_3.trans (frA4_1.trans rfl))
      obtain ⟨fbA6_367_11, fbA6_367_11u⟩ := hA6.f (i := 367) (k := 11) (by rfl)
      obtain ⟨fbA6_367_13, fbA6_367_13u⟩ := hA6.f (i := 367) (k := 13) (by rfl)
      obtain ⟨fbA6_367_20, fbA6_367_20u⟩ := hA6.f (i := 367) (k := 20) (by rfl)
      refine hxa_goto (by rfl) ?_
      have nA6_12 : (A6.1 367 12).toInt = (A.1 367 12).toInt := congrArg Int32.toInt (frA6_0.trans (frA4_0.trans rfl))
      have nA6_31 : (A6.1 367 31).toInt = (A.1 367 31).toInt := congrArg Int32.toInt (frA6_1.trans (frA4_3.trans rfl))
      have nA6_37 : (A6.1 367 37).toInt = (A.1 367 37).toInt := congrArg Int32.toInt (frA6_2.trans (frA4_4.trans rfl))
      have hvz : hVr 0 A6 := hVr.cg hv ((frA6_1.trans (frA4_3.trans rfl))) ((frA6_2.trans (frA4_4.trans rfl))) (fun c q1 q2 => hlw ((afA6_383.trans (hafL aeA4 rfl))) ((afA6_384.trans (hafL aeA4 rfl))) ((afA6_385.trans (hafL aeA4 rfl))) ((afA6_386.trans (hafL aeA4 rfl))) ((afA6_387.trans (hafL aeA4 rfl))) ((afA6_388.trans (hafL aeA4 rfl))) ((afA6_389.trans (hafL aeA4 rfl))) ((afA6_390.trans (hafL aeA4 rfl))) ((afA6_391.trans (hafL aeA4 rfl))) c q1 q2)
      exact hxa_return (by rfl) rfl (hP _ _ ⟨hA6, (frA6_3.trans (frA4_1.trans rfl)), rfl, ⟨by omega, by omega, by omega, by omega, by omega, by omega, hvz, fA6.2.2⟩⟩)
  ·
    by_cases q7 : z1.toInt = 21
    ·
      refine hxa_tabIn (by rfl) (by omega) (by omega) (by rw [q7]; rfl) (tgt := 85) (by rfl) ?_
      refine hxa_aload_n (by rfl) rfl ?_
      refine hxa_aload_n (by rfl) rfl ?_
      refine hxa_get (v := .ref 380) (by rfl) (by rfl) (by rfl) rfl ?_
      refine hxa_aload_n (by rfl) rfl ?_
      refine hxj_getK (by rfl) (by rfl) (by rfl) rfl ?_
      refine hxj_iald (by rfl) (by rfl) rfl (by omega) (by omega) (fun z8 ez8 => ?_)
      refine hxa_bipush (by rfl) rfl ?_
      refine hxa_call0 (by rfl) (by rfl) (by rfl) (by rfl) (by rfl) (by rfl) (hX152q4 (d := d + 3) hA z8 (Int32.ofNat 8)) ?_
      rintro _ A9 ⟨hA9, frA9_0, frA9_1, frA9_2, frA9_3, frA9_4, frA9_5, aeA9, rfl, fA9⟩
      have ttA9_12 : (A9.1 367 12).toInt = (A.1 367 12).toInt := congrArg Int32.toInt (frA9_0.trans rfl)
      have ttA9_19 : (A9.1 367 19).toInt = (A.1 367 19).toInt := congrArg Int32.toInt (frA9_1.trans rfl)
      have ttA9_20 : (A9.1 367 20).toInt = (A.1 367 20).toInt := congrArg Int32.toInt (frA9_2.trans rfl)
      have ttA9_31 : (A9.1 367 31).toInt = (A.1 367 31).toInt := congrArg Int32.toInt (frA9_3.trans rfl)
      have ttA9_37 : (A9.1 367 37).toInt = (A.1 367 37).toInt := congrArg Int32.toInt (frA9_4.trans rfl)
      obtain ⟨fbA9_367_11, fbA9_367_11u⟩ := hA9.f (i := 367) (k := 11) (by rfl)
      obtain ⟨fbA9_367_13, fbA9_367_13u⟩ := hA9.f (i := 367) (k := 13) (by rfl)
      refine hxa_aload_n (by rfl) rfl ?_
      refine hxj_getK (by rfl) (by rfl) (by rfl) rfl ?_
      refine hxj_zle (by rfl) rfl (fun q10 => ?_) (fun q10 => ?_)
      ·
        refine hxa_aload_n (by rfl) rfl ?_
        refine hxa_iconst (by rfl) rfl ?_
        refine hxa_bipush (by rfl) rfl ?_
        have nA9_12 : (A9.1 367 12).toInt = (A.1 367 12).toInt := congrArg Int32.toInt (frA9_0.trans rfl)
        have nA9_37 : (A9.1 367 37).toInt = (A.1 367 37).toInt := congrArg Int32.toInt (frA9_4.trans rfl)
        refine hxa_call0 (by rfl) (by rfl) (by rfl) (by rfl) (by rfl) (by rfl) (hX155q4 (d := d + 3) hA9 (Int32.ofNat 0) (by omega) (by omega) (Int32.ofNat 23)) ?_
        rintro _ A11 ⟨hA11, frA11_0, frA11_1, frA11_2, frA11_3, frA11_4, frA11_5, aeA11, z12, rfl, fz12⟩
        have ttA11_12 : (A11.1 367 12).toInt = (A.1 367 12).toInt := congrArg Int32.toInt (frA11_0.trans (frA9_0.trans rfl))
        have ttA11_19 : (A11.1 367 19).toInt = (A.1 367 19).toInt := congrArg Int32.toInt (frA11_1.trans (frA9_1.trans rfl))
        have ttA11_20 : (A11.1 367 20).toInt = (A.1 367 20).toInt := congrArg Int32.toInt (frA11_2.trans (frA9_2.trans rfl))
        have ttA11_31 : (A11.1 367 31).toInt = (A.1 367 31).toInt := congrArg Int32.toInt (frA11_3.trans (frA9_3.trans rfl))
        have ttA11_37 : (A11.1 367 37).toInt = (A.1 367 37).toInt := congrArg Int32.toInt (frA11_4.trans (frA9_4.trans rfl))
        obtain ⟨fbA11_367_11, fbA11_367_11u⟩ := hA11.f (i := 367) (k := 11) (by rfl)
        obtain ⟨fbA11_367_13, fbA11_367_13u⟩ := hA11.f (i := 367) (k := 13) (by rfl)
        refine hxa_s1 (by rfl) (Or.inl ⟨_, rfl, rfl⟩) rfl ?_
        refine hxa_aload_n (by rfl) rfl ?_
        refine hxa_iconst (by rfl) rfl ?_
        refine hxa_sipush (by rfl) rfl ?_
        have nA11_12 : (A11.1 367 12).toInt = (A.1 367 12).toInt := congrArg Int32.toInt (frA11_0.trans (frA9_0.trans rfl))
        have nA11_37 : (A11.1 367 37).toInt = (A.1 367 37).toInt := congrArg Int32.toInt (frA11_4.trans (frA9_4.trans rfl))
        refine hxa_call0 (by rfl) (by rfl) (by rfl) (by rfl) (by rfl) (by rfl) (hX155q4 (d := d + 3) hA11 (Int32.ofNat 0) (by omega) (by omega) (Int32.ofNat 255)) ?_
        rintro _ A13 ⟨hA13, frA13_0, frA13_1, frA13_2, frA13_3, frA13_4, frA13_5, aeA13, z14, rfl, fz14⟩
        have ttA13_12 : (A13.1 367 12).toInt = (A.1 367 12).toInt := congrArg Int32.toInt (frA13_0.trans (frA11_0.trans (frA9_0.trans rfl)))
        have ttA13_19 : (A13.1 367 19).toInt = (A.1 367 19).toInt := congrArg Int32.toInt (frA13_1.trans (frA11_1.trans (frA9_1.trans rfl)))
        have ttA13_20 : (A13.1 367 20).toInt = (A.1 367 20).toInt := congrArg Int32.toInt (frA13_2.trans (frA11_2.trans (frA9_2.trans rfl)))
        have ttA13_31 : (A13.1 367 31).toInt = (A.1 367 31).toInt := congrArg Int32.toInt (frA13_3.trans (frA11_3.trans (frA9_3.trans rfl)))
        have ttA13_37 : (A13.1 367 37).toInt = (A.1 367 37).toInt := congrArg Int32.toInt (frA13_4.trans (frA11_4.trans (frA9_4.trans rfl)))
        obtain ⟨fbA13_367_11, fbA13_367_11u⟩ := hA13.f (i := 367) (k := 11) (by rfl)
        obtain ⟨fbA13_367_13, fbA13_367_13u⟩ := hA13.f (i := 367) (k := 13) (by rfl)
        refine hxa_s1 (by rfl) (Or.inl ⟨_, rfl, rfl⟩) rfl ?_
        refine hxa_aload_n (by rfl) rfl ?_
        refine hxa_iconst (by rfl) rfl ?_
        have nA13_12 : (A13.1 367 12).toInt = (A.1 367 12).toInt := congrArg Int32.toInt (frA13_0.trans (frA11_0.trans (frA9_0.trans rfl)))
        have nA13_37 : (A13.1 367 37).toInt = (A.1 367 37).toInt := congrArg Int32.toInt (frA13_4.trans (frA11_4.trans (frA9_4.trans rfl)))
        refine hxa_call0 (by rfl) (by rfl) (by rfl) (by rfl) (by rfl) (by rfl) (hX148q4 (d := d + 3) hA13 (Int32.ofNat 4)) ?_
        rintro _ A15 ⟨hA15, frA15_0, frA15_1, frA15_2, frA15_3, frA15_4, frA15_5, aeA15, rfl, fA15⟩
        have ttA15_12 : (A15.1 367 12).toInt = (A.1 367 12).toInt := congrArg Int32.toInt (frA15_0.trans (frA13_0.trans (frA11_0.trans (frA9_0.trans rfl))))
        have ttA15_19 : (A15.1 367 19).toInt = (A.1 367 19).toInt := congrArg Int32.toInt (frA15_1.trans (frA13_1.trans (frA11_1.trans (frA9_1.trans rfl))))
        have ttA15_20 : (A15.1 367 20).toInt = (A.1 367 20).toInt := congrArg Int32.toInt (frA15_2.trans (frA13_2.trans (frA11_2.trans (frA9_2.trans rfl))))
        have ttA15_31 : (A15.1 367 31).toInt = (A.1 367 31).toInt := congrArg Int32.toInt (frA15_3.trans (frA13_3.trans (frA11_3.trans (frA9_3.trans rfl))))
        have ttA15_37 : (A15.1 367 37).toInt = (A.1 367 37).toInt := congrArg Int32.toInt (frA15_4.trans (frA13_4.trans (frA11_4.trans (frA9_4.trans rfl))))
        obtain ⟨fbA15_367_11, fbA15_367_11u⟩ := hA15.f (i := 367) (k := 11) (by rfl)
        obtain ⟨fbA15_367_13, fbA15_367_13u⟩ := hA15.f (i := 367) (k := 13) (by rfl)
        refine hxa_iload_n (by rfl) rfl ?_
        refine hxa_bipush (by rfl) rfl ?_
        refine hxj_cgt (by rfl) rfl hk_23 (fun q16 => ?_) (fun q16 => ?_)
        ·
          refine hxa_aload_n (by rfl) rfl ?_
          refine hxa_get (v := .ref 380) (by rfl) (by rfl) (by rfl) rfl ?_
          refine hxa_aload_n (by rfl) rfl ?_
          refine hxj_getK (by rfl) (by rfl) (by rfl) (frA15_1.trans (frA13_1.trans (frA11_1.trans (frA9_1.trans rfl)))) ?_
          refine hxa_dup2IR (by rfl) ?_
          refine hxj_iald (by rfl) (by rfl) rfl (by omega) (by omega) (fun z17 ez17 => ?_)
          refine hxa_iconst (by rfl) rfl ?_
          refine hxj_iaddU (by rfl) (fun z18 => ?_)
          refine hxj_iast (by rfl) (by rfl) rfl (by omega) (by omega) hA15 (hbokN (by rfl)) (by rfl) (by rfl) (fun A19 hA19 eA19 fA19 gA19 => ?_)
          refine hxa_goto (by rfl) ?_
          have nA19_11 : (A19.1 367 11).toInt = (A15.1 367 11).toInt := congrArg Int32.toInt (hkA eA19 rfl)
          have nA19_12 : (A19.1 367 12).toInt = (A.1 367 12).toInt := congrArg Int32.toInt (hkA eA19 (frA15_0.trans (frA13_0.trans (frA11_0.trans (frA9_0.trans rfl)))))
          have nA19_13 : (A19.1 367 13).toInt = (A15.1 367 13).toInt := congrArg Int32.toInt (hkA eA19 rfl)
          have nA19_20 : (A19.1 367 20).toInt = (A.1 367 20).toInt := congrArg Int32.toInt (hkA eA19 (frA15_2.trans (frA13_2.trans (frA11_2.trans (frA9_2.trans rfl)))))
          have nA19_31 : (A19.1 367 31).toInt = (A.1 367 31).toInt := congrArg Int32.toInt (hkA eA19 (frA15_3.trans (frA13_3.trans (frA11_3.trans (frA9_3.trans rfl)))))
          have nA19_37 : (A19.1 367 37).toInt = (A.1 367 37).toInt := congrArg Int32.toInt (hkA eA19 (frA15_4.trans (frA13_4.trans (frA11_4.trans (frA9_4.trans rfl)))))
          have hvz : hVr 0 A19 := hVr.cg hv ((hkA eA19 (frA15_3.trans (frA13_3.trans (frA11_3.trans (frA9_3.trans rfl)))))) ((hkA eA19 (frA15_4.trans (frA13_4.trans (frA11_4.trans (frA9_4.trans rfl)))))) (fun c q1 q2 => hlw ((hafA fA19 (by first | decide | omega) (hafL aeA15 (hafL aeA13 (hafL aeA11 (hafL aeA9 rfl)))))) ((hafA fA19 (by first | decide | omega) (hafL aeA15 (hafL aeA13 (hafL aeA11 (hafL aeA9 rfl)))))) ((hafA fA19 (by first | decide | omega) (hafL aeA15 (hafL aeA13 (hafL aeA11 (hafL aeA9 rfl)))))) ((hafA fA19 (by first | decide | omega) (hafL aeA15 (hafL aeA13 (hafL aeA11 (hafL aeA9 rfl)))))) ((hafA fA19 (by first | decide | omega) (hafL aeA15 (hafL aeA13 (hafL aeA11 (hafL aeA9 rfl)))))) ((hafA fA19 (by first | decide | omega) (hafL aeA15 (hafL aeA13 (hafL aeA11 (hafL aeA9 rfl)))))) ((hafA fA19 (by first | decide | omega) (hafL aeA15 (hafL aeA13 (hafL aeA11 (hafL aeA9 rfl)))))) ((hafA fA19 (by first | decide | omega) (hafL aeA15 (hafL aeA13 (hafL aeA11 (hafL aeA9 rfl)))))) ((hafA fA19 (by first | decide | omega) (hafL aeA15 (hafL aeA13 (hafL aeA11 (hafL aeA9 rfl)))))) c q1 q2)
          have hnz : (A19.1 367 20).toInt = (A19.2.1 376 0).toInt := by rw [(show A19.2.1 376 = A.2.1 376 from (hafA fA19 (by first | decide | omega) (hafL aeA15 (hafL aeA13 (hafL aeA11 (hafL aeA9 rfl)))))), ← hn]; omega
          exact hxa_return (by rfl) rfl (hP _ _ ⟨hA19, (hkA eA19 (frA15_1.trans (frA13_1.trans (frA11_1.trans (frA9_1.trans rfl))))), rfl, ⟨by omega, by omega, by omega, by omega, by omega, by omega, hvz, hnz⟩⟩)
        ·
          refine hxa_aload_n (by rfl) rfl ?_
          refine hxa_get (v := .ref 381) (by rfl) (by rfl) (by rfl) rfl ?_
          refine hxa_bipush (by rfl) rfl ?_
          refine hxa_aload_n (by rfl) rfl ?_
          refine hxj_getK (by rfl) (by rfl) (by rfl) (frA15_1.trans (frA13_1.trans (frA11_1.trans (frA9_1.trans rfl)))) ?_
          refine hxj_imul (by rfl) hk_24 rfl (by omega) (by omega) (fun z20 ez20 => ?_)
          refine hxa_iload_n (by rfl) rfl ?_
          refine hxj_iadd (by rfl) rfl rfl (by omega) (by omega) (fun z21 ez21 => ?_)
          refine hxa_iload_n (by rfl) rfl ?_
          refine hxj_iast (by rfl) (by rfl) rfl (by omega) (by omega) hA15 (hbokN (by rfl)) (by rfl) (by rfl) (fun A22 hA22 eA22 fA22 gA22 => ?_)
          refine hxa_aload_n (by rfl) rfl ?_
          refine hxa_get (v := .ref 380) (by rfl) (by rfl) (by rfl) rfl ?_
          refine hxa_aload_n (by rfl) rfl ?_
          refine hxj_getK (by rfl) (by rfl) (by rfl) (hkA eA22 (frA15_1.trans (frA13_1.trans (frA11_1.trans (frA9_1.trans rfl))))) ?_
          refine hxa_dup2IR (by rfl) ?_
          refine hxj_iald (by rfl) (by rfl) rfl (by omega) (by omega) (fun z23 ez23 => ?_)
          refine hxa_iconst (by rfl) rfl ?_
          refine hxj_iaddU (by rfl) (fun z24 => ?_)
          refine hxj_iast (by rfl) (by rfl) rfl (by omega) (by omega) hA22 (hbokN (by rfl)) (by rfl) (by rfl) (fun A25 hA25 eA25 fA25 gA25 => ?_)
          refine hxa_goto (by rfl) ?_
          have nA25_11 : (A25.1 367 11).toInt = (A15.1 367 11).toInt := congrArg Int32.toInt (hkA eA25 (hkA eA22 rfl))
          have nA25_12 : (A25.1 367 12).toInt = (A.1 367 12).toInt := congrArg Int32.toInt (hkA eA25 (hkA eA22 (frA15_0.trans (frA13_0.trans (frA11_0.trans (frA9_0.trans rfl))))))
          have nA25_13 : (A25.1 367 13).toInt = (A15.1 367 13).toInt := congrArg Int32.toInt (hkA eA25 (hkA eA22 rfl))
          have nA25_20 : (A25.1 367 20).toInt = (A.1 367 20).toInt := congrArg Int32.toInt (hkA eA25 (hkA eA22 (frA15_2.trans (frA13_2.trans (frA11_2.trans (frA9_2.trans rfl))))))
          have nA25_31 : (A25.1 367 31).toInt = (A.1 367 31).toInt := congrArg Int32.toInt (hkA eA25 (hkA eA22 (frA15_3.trans (frA13_3.trans (frA11_3.trans (frA9_3.trans rfl))))))
          have nA25_37 : (A25.1 367 37).toInt = (A.1 367 37).toInt := congrArg Int32.toInt (hkA eA25 (hkA eA22 (frA15_4.trans (frA13_4.trans (frA11_4.trans (frA9_4.trans rfl))))))
          have hvz : hVr 0 A25 := hVr.cg hv ((hkA eA25 (hkA eA22 (frA15_3.trans (frA13_3.trans (frA11_3.trans (frA9_3.trans rfl))))))) ((hkA eA25 (hkA eA22 (frA15_4.trans (frA13_4.trans (frA11_4.trans (frA9_4.trans rfl))))))) (fun c q1 q2 => hlw ((hafA fA25 (by first | decide | omega) (hafA fA22 (by first | decide | omega) (hafL aeA15 (hafL aeA13 (hafL aeA11 (hafL aeA9 rfl))))))) ((hafA fA25 (by first | decide | omega) (hafA fA22 (by first | decide | omega) (hafL aeA15 (hafL aeA13 (hafL aeA11 (hafL aeA9 rfl))))))) ((hafA fA25 (by first | decide | omega) (hafA fA22 (by first | decide | omega) (hafL aeA15 (hafL aeA13 (hafL aeA11 (hafL aeA9 rfl))))))) ((hafA fA25 (by first | decide | omega) (hafA fA22 (by first | decide | omega) (hafL aeA15 (hafL aeA13 (hafL aeA11 (hafL aeA9 rfl))))))) ((hafA fA25 (by first | decide | omega) (hafA fA22 (by first | decide | omega) (hafL aeA15 (hafL aeA13 (hafL aeA11 (hafL aeA9 rfl))))))) ((hafA fA25 (by first | decide | omega) (hafA fA22 (by first | decide | omega) (hafL aeA15 (hafL aeA13 (hafL aeA11 (hafL aeA9 rfl))))))) ((hafA fA25 (by first | decide | omega) (hafA fA22 (by first | decide | omega) (hafL aeA15 (hafL aeA13 (hafL aeA11 (hafL aeA9 rfl))))))) ((hafA fA25 (by first | decide | omega) (hafA fA22 (by first | decide | omega) (hafL aeA15 (hafL aeA13 (hafL aeA11 (hafL aeA9 rfl))))))) ((hafA fA25 (by first | decide | omega) (hafA fA22 (by first | decide | omega) (hafL aeA15 (hafL aeA13 (hafL aeA11 (hafL aeA9 rfl))))))) c q1 q2)
          have hnz : (A25.1 367 20).toInt = (A25.2.1 376 0).toInt := by rw [(show A25.2.1 376 = A.2.1 376 from (hafA fA25 (by first | decide | omega) (hafA fA22 (by first | decide | omega) (hafL aeA15 (hafL aeA13 (hafL aeA11 (hafL aeA9 rfl))))))), ← hn]; omega
          exact hxa_return (by rfl) rfl (hP _ _ ⟨hA25, (hkA eA25 (hkA eA22 (frA15_1.trans (frA13_1.trans (frA11_1.trans (frA9_1.trans rfl)))))), rfl, ⟨by omega, by omega, by omega, by omega, by omega, by omega, hvz, hnz⟩⟩)
      ·
        have nA9_12 : (A9.1 367 12).toInt = (A.1 367 12).toInt := congrArg Int32.toInt (frA9_0.trans rfl)
        have nA9_20 : (A9.1 367 20).toInt = (A.1 367 20).toInt := congrArg Int32.toInt (frA9_2.trans rfl)
        have nA9_31 : (A9.1 367 31).toInt = (A.1 367 31).toInt := congrArg Int32.toInt (frA9_3.trans rfl)
        have nA9_37 : (A9.1 367 37).toInt = (A.1 367 37).toInt := congrArg Int32.toInt (frA9_4.trans rfl)
        have hvz : hVr 0 A9 := hVr.cg hv ((frA9_3.trans rfl)) ((frA9_4.trans rfl)) (fun c q1 q2 => hlw ((hafL aeA9 rfl)) ((hafL aeA9 rfl)) ((hafL aeA9 rfl)) ((hafL aeA9 rfl)) ((hafL aeA9 rfl)) ((hafL aeA9 rfl)) ((hafL aeA9 rfl)) ((hafL aeA9 rfl)) ((hafL aeA9 rfl)) c q1 q2)
        have hnz : (A9.1 367 20).toInt = (A9.2.1 376 0).toInt := by rw [(show A9.2.1 376 = A.2.1 376 from (hafL aeA9 rfl)), ← hn]; omega
        exact hxa_return (by rfl) rfl (hP _ _ ⟨hA9, (frA9_1.trans rfl), rfl, ⟨by omega, by omega, by omega, by omega, by omega, by omega, hvz, hnz⟩⟩)
    ·
      by_cases q26 : z1.toInt = 22
      ·
        refine hxa_tabIn (by rfl) (by omega) (by omega) (by rw [q26]; rfl) (tgt := 206) (by rfl) ?_
        refine hxa_aload_n (by rfl) rfl ?_
        refine hxa_get (v := .ref 371) (by rfl) (by rfl) (by rfl) rfl ?_
        refine hxa_aload_n (by rfl) rfl ?_
        refine hxj_getK (by rfl) (by rfl) (by rfl) rfl ?_
        refine hxj_ialdK (by rfl) (by rfl) rfl (by omega) (by omega) ez1 ?_
        refine hxa_bipush (by rfl) rfl ?_
        refine hxj_isub (by rfl) rfl hk_22 (by omega) (by omega) (fun z27 ez27 => ?_)
        refine hxa_s1 (by rfl) (Or.inl ⟨_, rfl, rfl⟩) rfl ?_
        refine hxa_iload_n (by rfl) rfl ?_
        refine hxj_zlt (by rfl) rfl (fun q28 => False.elim (by omega)) (fun q28 => ?_)
        refine hxa_aload_n (by rfl) rfl ?_
        refine hxa_get (v := .ref 371) (by rfl) (by rfl) (by rfl) rfl ?_
        refine hxa_aload_n (by rfl) rfl ?_
        refine hxj_getK (by rfl) (by rfl) (by rfl) rfl ?_
        refine hxj_ialdK (by rfl) (by rfl) rfl (by omega) (by omega) ez1 ?_
        refine hxa_bipush (by rfl) rfl ?_
        refine hxj_cle (by rfl) rfl hk_25 (fun q29 => ?_) (fun q29 => False.elim (by omega))
        refine hxa_aload_n (by rfl) rfl ?_
        refine hxj_getK (by rfl) (by rfl) (by rfl) rfl ?_
        refine hxj_zle (by rfl) rfl (fun q30 => ?_) (fun q30 => False.elim (by omega))
        refine hxa_aload_n (by rfl) rfl ?_
        refine hxa_call0 (by rfl) (by rfl) (by rfl) (by rfl) (by rfl) (by rfl) (hX147q4 (d := d + 4) hA ) ?_
        rintro _ A31 ⟨hA31, frA31_0, frA31_1, frA31_2, frA31_3, frA31_4, frA31_5, aeA31, rfl, fA31⟩
        have ttA31_12 : (A31.1 367 12).toInt = (A.1 367 12).toInt := congrArg Int32.toInt (frA31_0.trans rfl)
        have ttA31_19 : (A31.1 367 19).toInt = (A.1 367 19).toInt := congrArg Int32.toInt (frA31_1.trans rfl)
        have ttA31_20 : (A31.1 367 20).toInt = (A.1 367 20).toInt := congrArg Int32.toInt (frA31_2.trans rfl)
        have ttA31_31 : (A31.1 367 31).toInt = (A.1 367 31).toInt := congrArg Int32.toInt (frA31_3.trans rfl)
        have ttA31_37 : (A31.1 367 37).toInt = (A.1 367 37).toInt := congrArg Int32.toInt (frA31_4.trans rfl)
        obtain ⟨fbA31_367_11, fbA31_367_11u⟩ := hA31.f (i := 367) (k := 11) (by rfl)
        obtain ⟨fbA31_367_13, fbA31_367_13u⟩ := hA31.f (i := 367) (k := 13) (by rfl)
        refine hxa_aload_n (by rfl) rfl ?_
        refine hxa_iload_n (by rfl) rfl ?_
        have nA31_12 : (A31.1 367 12).toInt = (A.1 367 12).toInt := congrArg Int32.toInt (frA31_0.trans rfl)
        have nA31_20 : (A31.1 367 20).toInt = (A.1 367 20).toInt := congrArg Int32.toInt (frA31_2.trans rfl)
        have nA31_31 : (A31.1 367 31).toInt = (A.1 367 31).toInt := congrArg Int32.toInt (frA31_3.trans rfl)
        have nA31_37 : (A31.1 367 37).toInt = (A.1 367 37).toInt := congrArg Int32.toInt (frA31_4.trans rfl)
        have hv9 : hVr 0 A31 := hVr.cg hv (show _ from (frA31_3.trans rfl)) (show _ from (frA31_4.trans rfl)) (fun c q1 q2 => hlw ((hafL aeA31 rfl)) ((hafL aeA31 rfl)) ((hafL aeA31 rfl)) ((hafL aeA31 rfl)) ((hafL aeA31 rfl)) ((hafL aeA31 rfl)) ((hafL aeA31 rfl)) ((hafL aeA31 rfl)) ((hafL aeA31 rfl)) c q1 q2)
        refine hxa_call0 (by rfl) (by rfl) (by rfl) (by rfl) (by rfl) (by rfl) (hX157q4 (d := d + 0) hA31 hv9 (by omega) (by omega) (by omega) (by omega) (by omega) (by omega) (by omega) z27 (by omega) (by omega) (by rw [(show A31.1 367 19 = (A.1 367 19) from (frA31_1.trans rfl))]; omega) (by rw [(show A31.1 367 19 = (A.1 367 19) from (frA31_1.trans rfl))]; omega)) ?_
        rintro _ A32 ⟨hA32, frA32_0, frA32_1, afA32_376, rfl, fA32⟩
        have ttA32_19 : (A32.1 367 19).toInt = (A.1 367 19).toInt := congrArg Int32.toInt (frA32_0.trans (frA31_1.trans rfl))
        have ttA32_20 : (A32.1 367 20).toInt = (A.1 367 20).toInt := congrArg Int32.toInt (frA32_1.trans (frA31_2.trans rfl))
        obtain ⟨fbA32_367_11, fbA32_367_11u⟩ := hA32.f (i := 367) (k := 11) (by rfl)
        obtain ⟨fbA32_367_12, fbA32_367_12u⟩ := hA32.f (i := 367) (k := 12) (by rfl)
        obtain ⟨fbA32_367_13, fbA32_367_13u⟩ := hA32.f (i := 367) (k := 13) (by rfl)
        obtain ⟨fbA32_367_37, fbA32_367_37u⟩ := hA32.f (i := 367) (k := 37) (by rfl)
        obtain ⟨fbA32_367_31, fbA32_367_31u⟩ := hA32.f (i := 367) (k := 31) (by rfl)
        have nA32_20 : (A32.1 367 20).toInt = (A.1 367 20).toInt := congrArg Int32.toInt (frA32_1.trans (frA31_2.trans rfl))
        have hnz : (A32.1 367 20).toInt = (A32.2.1 376 0).toInt := by rw [(show A32.2.1 376 = A.2.1 376 from (afA32_376.trans (hafL aeA31 rfl))), ← hn]; omega
        exact hxa_return (by rfl) rfl (hP _ _ ⟨hA32, (frA32_0.trans (frA31_1.trans rfl)), rfl, ⟨by omega, by omega, by omega, by omega, by omega, by omega, fA32.2.2.2.2.2.2, hnz⟩⟩)
      ·
        by_cases q33 : z1.toInt = 23
        ·
          refine hxa_tabIn (by rfl) (by omega) (by omega) (by rw [q33]; rfl) (tgt := 206) (by rfl) ?_
          refine hxa_aload_n (by rfl) rfl ?_
          refine hxa_get (v := .ref 371) (by rfl) (by rfl) (by rfl) rfl ?_
          refine hxa_aload_n (by rfl) rfl ?_
          refine hxj_getK (by rfl) (by rfl) (by rfl) rfl ?_
          refine hxj_ialdK (by rfl) (by rfl) rfl (by omega) (by omega) ez1 ?_
          refine hxa_bipush (by rfl) rfl ?_
          refine hxj_isub (by rfl) rfl hk_22 (by omega) (by omega) (fun z34 ez34 => ?_)
          refine hxa_s1 (by rfl) (Or.inl ⟨_, rfl, rfl⟩) rfl ?_
          refine hxa_iload_n (by rfl) rfl ?_
          refine hxj_zlt (by rfl) rfl (fun q35 => False.elim (by omega)) (fun q35 => ?_)
          refine hxa_aload_n (by rfl) rfl ?_
          refine hxa_get (v := .ref 371) (by rfl) (by rfl) (by rfl) rfl ?_
          refine hxa_aload_n (by rfl) rfl ?_
          refine hxj_getK (by rfl) (by rfl) (by rfl) rfl ?_
          refine hxj_ialdK (by rfl) (by rfl) rfl (by omega) (by omega) ez1 ?_
          refine hxa_bipush (by rfl) rfl ?_
          refine hxj_cle (by rfl) rfl hk_25 (fun q36 => ?_) (fun q36 => False.elim (by omega))
          refine hxa_aload_n (by rfl) rfl ?_
          refine hxj_getK (by rfl) (by rfl) (by rfl) rfl ?_
          refine hxj_zle (by rfl) rfl (fun q37 => ?_) (fun q37 => False.elim (by omega))
          refine hxa_aload_n (by rfl) rfl ?_
          refine hxa_call0 (by rfl) (by rfl) (by rfl) (by rfl) (by rfl) (by rfl) (hX147q4 (d := d + 4) hA ) ?_
          rintro _ A38 ⟨hA38, frA38_0, frA38_1, frA38_2, frA38_3, frA38_4, frA38_5, aeA38, rfl, fA38⟩
          have ttA38_12 : (A38.1 367 12).toInt = (A.1 367 12).toInt := congrArg Int32.toInt (frA38_0.trans rfl)
          have ttA38_19 : (A38.1 367 19).toInt = (A.1 367 19).toInt := congrArg Int32.toInt (frA38_1.trans rfl)
          have ttA38_20 : (A38.1 367 20).toInt = (A.1 367 20).toInt := congrArg Int32.toInt (frA38_2.trans rfl)
          have ttA38_31 : (A38.1 367 31).toInt = (A.1 367 31).toInt := congrArg Int32.toInt (frA38_3.trans rfl)
          have ttA38_37 : (A38.1 367 37).toInt = (A.1 367 37).toInt := congrArg Int32.toInt (frA38_4.trans rfl)
          obtain ⟨fbA38_367_11, fbA38_367_11u⟩ := hA38.f (i := 367) (k := 11) (by rfl)
          obtain ⟨fbA38_367_13, fbA38_367_13u⟩ := hA38.f (i := 367) (k := 13) (by rfl)
          refine hxa_aload_n (by rfl) rfl ?_
          refine hxa_iload_n (by rfl) rfl ?_
          have nA38_12 : (A38.1 367 12).toInt = (A.1 367 12).toInt := congrArg Int32.toInt (frA38_0.trans rfl)
          have nA38_20 : (A38.1 367 20).toInt = (A.1 367 20).toInt := congrArg Int32.toInt (frA38_2.trans rfl)
          have nA38_31 : (A38.1 367 31).toInt = (A.1 367 31).toInt := congrArg Int32.toInt (frA38_3.trans rfl)
          have nA38_37 : (A38.1 367 37).toInt = (A.1 367 37).toInt := congrArg Int32.toInt (frA38_4.trans rfl)
          have hv9 : hVr 0 A38 := hVr.cg hv (show _ from (frA38_3.trans rfl)) (show _ from (frA38_4.trans rfl)) (fun c q1 q2 => hlw ((hafL aeA38 rfl)) ((hafL aeA38 rfl)) ((hafL aeA38 rfl)) ((hafL aeA38 rfl)) ((hafL aeA38 rfl)) ((hafL aeA38 rfl)) ((hafL aeA38 rfl)) ((hafL aeA38 rfl)) ((hafL aeA38 rfl)) c q1 q2)
          refine hxa_call0 (by rfl) (by rfl) (by rfl) (by rfl) (by rfl) (by rfl) (hX157q4 (d := d + 0) hA38 hv9 (by omega) (by omega) (by omega) (by omega) (by omega) (by omega) (by omega) z34 (by omega) (by omega) (by rw [(show A38.1 367 19 = (A.1 367 19) from (frA38_1.trans rfl))]; omega) (by rw [(show A38.1 367 19 = (A.1 367 19) from (frA38_1.trans rfl))]; omega)) ?_
          rintro _ A39 ⟨hA39, frA39_0, frA39_1, afA39_376, rfl, fA39⟩
          have ttA39_19 : (A39.1 367 19).toInt = (A.1 367 19).toInt := congrArg Int32.toInt (frA39_0.trans (frA38_1.trans rfl))
          have ttA39_20 : (A39.1 367 20).toInt = (A.1 367 20).toInt := congrArg Int32.toInt (frA39_1.trans (frA38_2.trans rfl))
          obtain ⟨fbA39_367_11, fbA39_367_11u⟩ := hA39.f (i := 367) (k := 11) (by rfl)
          obtain ⟨fbA39_367_12, fbA39_367_12u⟩ := hA39.f (i := 367) (k := 12) (by rfl)
          obtain ⟨fbA39_367_13, fbA39_367_13u⟩ := hA39.f (i := 367) (k := 13) (by rfl)
          obtain ⟨fbA39_367_37, fbA39_367_37u⟩ := hA39.f (i := 367) (k := 37) (by rfl)
          obtain ⟨fbA39_367_31, fbA39_367_31u⟩ := hA39.f (i := 367) (k := 31) (by rfl)
          have nA39_20 : (A39.1 367 20).toInt = (A.1 367 20).toInt := congrArg Int32.toInt (frA39_1.trans (frA38_2.trans rfl))
          have hnz : (A39.1 367 20).toInt = (A39.2.1 376 0).toInt := by rw [(show A39.2.1 376 = A.2.1 376 from (afA39_376.trans (hafL aeA38 rfl))), ← hn]; omega
          exact hxa_return (by rfl) rfl (hP _ _ ⟨hA39, (frA39_0.trans (frA38_1.trans rfl)), rfl, ⟨by omega, by omega, by omega, by omega, by omega, by omega, fA39.2.2.2.2.2.2, hnz⟩⟩)
        ·
          by_cases q40 : z1.toInt = 24
          ·
            refine hxa_tabIn (by rfl) (by omega) (by omega) (by rw [q40]; rfl) (tgt := 206) (by rfl) ?_
            refine hxa_aload_n (by rfl) rfl ?_
            refine hxa_get (v := .ref 371) (by rfl) (by rfl) (by rfl) rfl ?_
            refine hxa_aload_n (by rfl) rfl ?_
            refine hxj_getK (by rfl) (by rfl) (by rfl) rfl ?_
            refine hxj_ialdK (by rfl) (by rfl) rfl (by omega) (by omega) ez1 ?_
            refine hxa_bipush (by rfl) rfl ?_
            refine hxj_isub (by rfl) rfl hk_22 (by omega) (by omega) (fun z41 ez41 => ?_)
            refine hxa_s1 (by rfl) (Or.inl ⟨_, rfl, rfl⟩) rfl ?_
            refine hxa_iload_n (by rfl) rfl ?_
            refine hxj_zlt (by rfl) rfl (fun q42 => False.elim (by omega)) (fun q42 => ?_)
            refine hxa_aload_n (by rfl) rfl ?_
            refine hxa_get (v := .ref 371) (by rfl) (by rfl) (by rfl) rfl ?_
            refine hxa_aload_n (by rfl) rfl ?_
            refine hxj_getK (by rfl) (by rfl) (by rfl) rfl ?_
            refine hxj_ialdK (by rfl) (by rfl) rfl (by omega) (by omega) ez1 ?_
            refine hxa_bipush (by rfl) rfl ?_
            refine hxj_cle (by rfl) rfl hk_25 (fun q43 => ?_) (fun q43 => False.elim (by omega))
            refine hxa_aload_n (by rfl) rfl ?_
            refine hxj_getK (by rfl) (by rfl) (by rfl) rfl ?_
            refine hxj_zle (by rfl) rfl (fun q44 => ?_) (fun q44 => False.elim (by omega))
            refine hxa_aload_n (by rfl) rfl ?_
            refine hxa_call0 (by rfl) (by rfl) (by rfl) (by rfl) (by rfl) (by rfl) (hX147q4 (d := d + 4) hA ) ?_
            rintro _ A45 ⟨hA45, frA45_0, frA45_1, frA45_2, frA45_3, frA45_4, frA45_5, aeA45, rfl, fA45⟩
            have ttA45_12 : (A45.1 367 12).toInt = (A.1 367 12).toInt := congrArg Int32.toInt (frA45_0.trans rfl)
            have ttA45_19 : (A45.1 367 19).toInt = (A.1 367 19).toInt := congrArg Int32.toInt (frA45_1.trans rfl)
            have ttA45_20 : (A45.1 367 20).toInt = (A.1 367 20).toInt := congrArg Int32.toInt (frA45_2.trans rfl)
            have ttA45_31 : (A45.1 367 31).toInt = (A.1 367 31).toInt := congrArg Int32.toInt (frA45_3.trans rfl)
            have ttA45_37 : (A45.1 367 37).toInt = (A.1 367 37).toInt := congrArg Int32.toInt (frA45_4.trans rfl)
            obtain ⟨fbA45_367_11, fbA45_367_11u⟩ := hA45.f (i := 367) (k := 11) (by rfl)
            obtain ⟨fbA45_367_13, fbA45_367_13u⟩ := hA45.f (i := 367) (k := 13) (by rfl)
            refine hxa_aload_n (by rfl) rfl ?_
            refine hxa_iload_n (by rfl) rfl ?_
            have nA45_12 : (A45.1 367 12).toInt = (A.1 367 12).toInt := congrArg Int32.toInt (frA45_0.trans rfl)
            have nA45_20 : (A45.1 367 20).toInt = (A.1 367 20).toInt := congrArg Int32.toInt (frA45_2.trans rfl)
            have nA45_31 : (A45.1 367 31).toInt = (A.1 367 31).toInt := congrArg Int32.toInt (frA45_3.trans rfl)
            have nA45_37 : (A45.1 367 37).toInt = (A.1 367 37).toInt := congrArg Int32.toInt (frA45_4.trans rfl)
            have hv9 : hVr 0 A45 := hVr.cg hv (show _ from (frA45_3.trans rfl)) (show _ from (frA45_4.trans rfl)) (fun c q1 q2 => hlw ((hafL aeA45 rfl)) ((hafL aeA45 rfl)) ((hafL aeA45 rfl)) ((hafL aeA45 rfl)) ((hafL aeA45 rfl)) ((hafL aeA45 rfl)) ((hafL aeA45 rfl)) ((hafL aeA45 rfl)) ((hafL aeA45 rfl)) c q1 q2)
            refine hxa_call0 (by rfl) (by rfl) (by rfl) (by rfl) (by rfl) (by rfl) (hX157q4 (d := d + 0) hA45 hv9 (by omega) (by omega) (by omega) (by omega) (by omega) (by omega) (by omega) z41 (by omega) (by omega) (by rw [(show A45.1 367 19 = (A.1 367 19) from (frA45_1.trans rfl))]; omega) (by rw [(show A45.1 367 19 = (A.1 367 19) from (frA45_1.trans rfl))]; omega)) ?_
            rintro _ A46 ⟨hA46, frA46_0, frA46_1, afA46_376, rfl, fA46⟩
            have ttA46_19 : (A46.1 367 19).toInt = (A.1 367 19).toInt := congrArg Int32.toInt (frA46_0.trans (frA45_1.trans rfl))
            have ttA46_20 : (A46.1 367 20).toInt = (A.1 367 20).toInt := congrArg Int32.toInt (frA46_1.trans (frA45_2.trans rfl))
            obtain ⟨fbA46_367_11, fbA46_367_11u⟩ := hA46.f (i := 367) (k := 11) (by rfl)
            obtain ⟨fbA46_367_12, fbA46_367_12u⟩ := hA46.f (i := 367) (k := 12) (by rfl)
            obtain ⟨fbA46_367_13, fbA46_367_13u⟩ := hA46.f (i := 367) (k := 13) (by rfl)
            obtain ⟨fbA46_367_37, fbA46_367_37u⟩ := hA46.f (i := 367) (k := 37) (by rfl)
            obtain ⟨fbA46_367_31, fbA46_367_31u⟩ := hA46.f (i := 367) (k := 31) (by rfl)
            have nA46_20 : (A46.1 367 20).toInt = (A.1 367 20).toInt := congrArg Int32.toInt (frA46_1.trans (frA45_2.trans rfl))
            have hnz : (A46.1 367 20).toInt = (A46.2.1 376 0).toInt := by rw [(show A46.2.1 376 = A.2.1 376 from (afA46_376.trans (hafL aeA45 rfl))), ← hn]; omega
            exact hxa_return (by rfl) rfl (hP _ _ ⟨hA46, (frA46_0.trans (frA45_1.trans rfl)), rfl, ⟨by omega, by omega, by omega, by omega, by omega, by omega, fA46.2.2.2.2.2.2, hnz⟩⟩)
          ·
            by_cases q47 : z1.toInt = 25
            ·
              refine hxa_tabIn (by rfl) (by omega) (by omega) (by rw [q47]; rfl) (tgt := 206) (by rfl) ?_
              refine hxa_aload_n (by rfl) rfl ?_
              refine hxa_get (v := .ref 371) (by rfl) (by rfl) (by rfl) rfl ?_
              refine hxa_aload_n (by rfl) rfl ?_
              refine hxj_getK (by rfl) (by rfl) (by rfl) rfl ?_
              refine hxj_ialdK (by rfl) (by rfl) rfl (by omega) (by omega) ez1 ?_
              refine hxa_bipush (by rfl) rfl ?_
              refine hxj_isub (by rfl) rfl hk_22 (by omega) (by omega) (fun z48 ez48 => ?_)
              refine hxa_s1 (by rfl) (Or.inl ⟨_, rfl, rfl⟩) rfl ?_
              refine hxa_iload_n (by rfl) rfl ?_
              refine hxj_zlt (by rfl) rfl (fun q49 => False.elim (by omega)) (fun q49 => ?_)
              refine hxa_aload_n (by rfl) rfl ?_
              refine hxa_get (v := .ref 371) (by rfl) (by rfl) (by rfl) rfl ?_
              refine hxa_aload_n (by rfl) rfl ?_
              refine hxj_getK (by rfl) (by rfl) (by rfl) rfl ?_
              refine hxj_ialdK (by rfl) (by rfl) rfl (by omega) (by omega) ez1 ?_
              refine hxa_bipush (by rfl) rfl ?_
              refine hxj_cle (by rfl) rfl hk_25 (fun q50 => ?_) (fun q50 => False.elim (by omega))
              refine hxa_aload_n (by rfl) rfl ?_
              refine hxj_getK (by rfl) (by rfl) (by rfl) rfl ?_
              refine hxj_zle (by rfl) rfl (fun q51 => ?_) (fun q51 => False.elim (by omega))
              refine hxa_aload_n (by rfl) rfl ?_
              refine hxa_call0 (by rfl) (by rfl) (by rfl) (by rfl) (by rfl) (by rfl) (hX147q4 (d := d + 4) hA ) ?_
              rintro _ A52 ⟨hA52, frA52_0, frA52_1, frA52_2, frA52_3, frA52_4, frA52_5, aeA52, rfl, fA52⟩
              have ttA52_12 : (A52.1 367 12).toInt = (A.1 367 12).toInt := congrArg Int32.toInt (frA52_0.trans rfl)
              have ttA52_19 : (A52.1 367 19).toInt = (A.1 367 19).toInt := congrArg Int32.toInt (frA52_1.trans rfl)
              have ttA52_20 : (A52.1 367 20).toInt = (A.1 367 20).toInt := congrArg Int32.toInt (frA52_2.trans rfl)
              have ttA52_31 : (A52.1 367 31).toInt = (A.1 367 31).toInt := congrArg Int32.toInt (frA52_3.trans rfl)
              have ttA52_37 : (A52.1 367 37).toInt = (A.1 367 37).toInt := congrArg Int32.toInt (frA52_4.trans rfl)
              obtain ⟨fbA52_367_11, fbA52_367_11u⟩ := hA52.f (i := 367) (k := 11) (by rfl)
              obtain ⟨fbA52_367_13, fbA52_367_13u⟩ := hA52.f (i := 367) (k := 13) (by rfl)
              refine hxa_aload_n (by rfl) rfl ?_
              refine hxa_iload_n (by rfl) rfl ?_
              have nA52_12 : (A52.1 367 12).toInt = (A.1 367 12).toInt := congrArg Int32.toInt (frA52_0.trans rfl)
              have nA52_20 : (A52.1 367 20).toInt = (A.1 367 20).toInt := congrArg Int32.toInt (frA52_2.trans rfl)
              have nA52_31 : (A52.1 367 31).toInt = (A.1 367 31).toInt := congrArg Int32.toInt (frA52_3.trans rfl)
              have nA52_37 : (A52.1 367 37).toInt = (A.1 367 37).toInt := congrArg Int32.toInt (frA52_4.trans rfl)
              have hv9 : hVr 0 A52 := hVr.cg hv (show _ from (frA52_3.trans rfl)) (show _ from (frA52_4.trans rfl)) (fun c q1 q2 => hlw ((hafL aeA52 rfl)) ((hafL aeA52 rfl)) ((hafL aeA52 rfl)) ((hafL aeA52 rfl)) ((hafL aeA52 rfl)) ((hafL aeA52 rfl)) ((hafL aeA52 rfl)) ((hafL aeA52 rfl)) ((hafL aeA52 rfl)) c q1 q2)
              refine hxa_call0 (by rfl) (by rfl) (by rfl) (by rfl) (by rfl) (by rfl) (hX157q4 (d := d + 0) hA52 hv9 (by omega) (by omega) (by omega) (by omega) (by omega) (by omega) (by omega) z48 (by omega) (by omega) (by rw [(show A52.1 367 19 = (A.1 367 19) from (frA52_1.trans rfl))]; omega) (by rw [(show A52.1 367 19 = (A.1 367 19) from (frA52_1.trans rfl))]; omega)) ?_
              rintro _ A53 ⟨hA53, frA53_0, frA53_1, afA53_376, rfl, fA53⟩
              have ttA53_19 : (A53.1 367 19).toInt = (A.1 367 19).toInt := congrArg Int32.toInt (frA53_0.trans (frA52_1.trans rfl))
              have ttA53_20 : (A53.1 367 20).toInt = (A.1 367 20).toInt := congrArg Int32.toInt (frA53_1.trans (frA52_2.trans rfl))
              obtain ⟨fbA53_367_11, fbA53_367_11u⟩ := hA53.f (i := 367) (k := 11) (by rfl)
              obtain ⟨fbA53_367_12, fbA53_367_12u⟩ := hA53.f (i := 367) (k := 12) (by rfl)
              obtain ⟨fbA53_367_13, fbA53_367_13u⟩ := hA53.f (i := 367) (k := 13) (by rfl)
              obtain ⟨fbA53_367_37, fbA53_367_37u⟩ := hA53.f (i := 367) (k := 37) (by rfl)
              obtain ⟨fbA53_367_31, fbA53_367_31u⟩ := hA53.f (i := 367) (k := 31) (by rfl)
              have nA53_20 : (A53.1 367 20).toInt = (A.1 367 20).toInt := congrArg Int32.toInt (frA53_1.trans (frA52_2.trans rfl))
              have hnz : (A53.1 367 20).toInt = (A53.2.1 376 0).toInt := by rw [(show A53.2.1 376 = A.2.1 376 from (afA53_376.trans (hafL aeA52 rfl))), ← hn]; omega
              exact hxa_return (by rfl) rfl (hP _ _ ⟨hA53, (frA53_0.trans (frA52_1.trans rfl)), rfl, ⟨by omega, by omega, by omega, by omega, by omega, by omega, fA53.2.2.2.2.2.2, hnz⟩⟩)
            ·
              by_cases q54 : z1.toInt = 26
              ·
                refine hxa_tabIn (by rfl) (by omega) (by omega) (by rw [q54]; rfl) (tgt := 167) (by rfl) ?_
                refine hxa_aload_n (by rfl) rfl ?_
                refine hxa_get (v := .ref 382) (by rfl) (by rfl) (by rfl) rfl ?_
                refine hxa_aload_n (by rfl) rfl ?_
                refine hxj_getK (by rfl) (by rfl) (by rfl) rfl ?_
                refine hxa_aload_n (by rfl) rfl ?_
                refine hxa_iconst (by rfl) rfl ?_
                refine hxa_bipush (by rfl) rfl ?_
                refine hxa_call0 (by rfl) (by rfl) (by rfl) (by rfl) (by rfl) (by rfl) (hX153q4 (d := d + 2) hA (Int32.ofNat 1) (by omega) (by omega) (Int32.ofNat 99)) ?_
                rintro _ A55 ⟨hA55, frA55_0, frA55_1, frA55_2, frA55_3, frA55_4, frA55_5, aeA55, z56, rfl, fz56⟩
                have ttA55_12 : (A55.1 367 12).toInt = (A.1 367 12).toInt := congrArg Int32.toInt (frA55_0.trans rfl)
                have ttA55_19 : (A55.1 367 19).toInt = (A.1 367 19).toInt := congrArg Int32.toInt (frA55_1.trans rfl)
                have ttA55_20 : (A55.1 367 20).toInt = (A.1 367 20).toInt := congrArg Int32.toInt (frA55_2.trans rfl)
                have ttA55_31 : (A55.1 367 31).toInt = (A.1 367 31).toInt := congrArg Int32.toInt (frA55_3.trans rfl)
                have ttA55_37 : (A55.1 367 37).toInt = (A.1 367 37).toInt := congrArg Int32.toInt (frA55_4.trans rfl)
                obtain ⟨fbA55_367_11, fbA55_367_11u⟩ := hA55.f (i := 367) (k := 11) (by rfl)
                obtain ⟨fbA55_367_13, fbA55_367_13u⟩ := hA55.f (i := 367) (k := 13) (by rfl)
                refine hxj_iast (by rfl) (by rfl) rfl (by omega) (by omega) hA55 (hbokN (by rfl)) (by rfl) (by rfl) (fun A57 hA57 eA57 fA57 gA57 => ?_)
                refine hxa_goto (by rfl) ?_
                have nA57_11 : (A57.1 367 11).toInt = (A55.1 367 11).toInt := congrArg Int32.toInt (hkA eA57 rfl)
                have nA57_12 : (A57.1 367 12).toInt = (A.1 367 12).toInt := congrArg Int32.toInt (hkA eA57 (frA55_0.trans rfl))
                have nA57_13 : (A57.1 367 13).toInt = (A55.1 367 13).toInt := congrArg Int32.toInt (hkA eA57 rfl)
                have nA57_20 : (A57.1 367 20).toInt = (A.1 367 20).toInt := congrArg Int32.toInt (hkA eA57 (frA55_2.trans rfl))
                have nA57_31 : (A57.1 367 31).toInt = (A.1 367 31).toInt := congrArg Int32.toInt (hkA eA57 (frA55_3.trans rfl))
                have nA57_37 : (A57.1 367 37).toInt = (A.1 367 37).toInt := congrArg Int32.toInt (hkA eA57 (frA55_4.trans rfl))
                have hvz : hVr 0 A57 := hVr.cg hv ((hkA eA57 (frA55_3.trans rfl))) ((hkA eA57 (frA55_4.trans rfl))) (fun c q1 q2 => hlw ((hafA fA57 (by first | decide | omega) (hafL aeA55 rfl))) ((hafA fA57 (by first | decide | omega) (hafL aeA55 rfl))) ((hafA fA57 (by first | decide | omega) (hafL aeA55 rfl))) ((hafA fA57 (by first | decide | omega) (hafL aeA55 rfl))) ((hafA fA57 (by first | decide | omega) (hafL aeA55 rfl))) ((hafA fA57 (by first | decide | omega) (hafL aeA55 rfl))) ((hafA fA57 (by first | decide | omega) (hafL aeA55 rfl))) ((hafA fA57 (by first | decide | omega) (hafL aeA55 rfl))) ((hafA fA57 (by first | decide | omega) (hafL aeA55 rfl))) c q1 q2)
                have hnz : (A57.1 367 20).toInt = (A57.2.1 376 0).toInt := by rw [(show A57.2.1 376 = A.2.1 376 from (hafA fA57 (by first | decide | omega) (hafL aeA55 rfl))), ← hn]; omega
                exact hxa_return (by rfl) rfl (hP _ _ ⟨hA57, (hkA eA57 (frA55_1.trans rfl)), rfl, ⟨by omega, by omega, by omega, by omega, by omega, by omega, hvz, hnz⟩⟩)
              ·
                by_cases q58 : z1.toInt = 27
                ·
                  refine hxa_tabIn (by rfl) (by omega) (by omega) (by rw [q58]; rfl) (tgt := 186) (by rfl) ?_
                  refine hxa_aload_n (by rfl) rfl ?_
                  refine hxa_get (v := .ref 383) (by rfl) (by rfl) (by rfl) rfl ?_
                  refine hxa_aload_n (by rfl) rfl ?_
                  refine hxj_getK (by rfl) (by rfl) (by rfl) rfl ?_
                  refine hxa_aload_n (by rfl) rfl ?_
                  refine hxa_iconst (by rfl) rfl ?_
                  refine hxa_sipush (by rfl) rfl ?_
                  refine hxa_call0 (by rfl) (by rfl) (by rfl) (by rfl) (by rfl) (by rfl) (hX153q4 (d := d + 2) hA (Int32.ofNat 0) (by omega) (by omega) (Int32.ofNat 9999)) ?_
                  rintro _ A59 ⟨hA59, frA59_0, frA59_1, frA59_2, frA59_3, frA59_4, frA59_5, aeA59, z60, rfl, fz60⟩
                  have ttA59_12 : (A59.1 367 12).toInt = (A.1 367 12).toInt := congrArg Int32.toInt (frA59_0.trans rfl)
                  have ttA59_19 : (A59.1 367 19).toInt = (A.1 367 19).toInt := congrArg Int32.toInt (frA59_1.trans rfl)
                  have ttA59_20 : (A59.1 367 20).toInt = (A.1 367 20).toInt := congrArg Int32.toInt (frA59_2.trans rfl)
                  have ttA59_31 : (A59.1 367 31).toInt = (A.1 367 31).toInt := congrArg Int32.toInt (frA59_3.trans rfl)
                  have ttA59_37 : (A59.1 367 37).toInt = (A.1 367 37).toInt := congrArg Int32.toInt (frA59_4.trans rfl)
                  obtain ⟨fbA59_367_11, fbA59_367_11u⟩ := hA59.f (i := 367) (k := 11) (by rfl)
                  obtain ⟨fbA59_367_13, fbA59_367_13u⟩ := hA59.f (i := 367) (k := 13) (by rfl)
                  refine hxj_iast (by rfl) (by rfl) rfl (by omega) (by omega) hA59 (hbokN (by rfl)) (by rfl) (by rfl) (fun A61 hA61 eA61 fA61 gA61 => ?_)
                  refine hxa_goto (by rfl) ?_
                  have nA61_11 : (A61.1 367 11).toInt = (A59.1 367 11).toInt := congrArg Int32.toInt (hkA eA61 rfl)
                  have nA61_12 : (A61.1 367 12).toInt = (A.1 367 12).toInt := congrArg Int32.toInt (hkA eA61 (frA59_0.trans rfl))
                  have nA61_13 : (A61.1 367 13).toInt = (A59.1 367 13).toInt := congrArg Int32.toInt (hkA eA61 rfl)
                  have nA61_20 : (A61.1 367 20).toInt = (A.1 367 20).toInt := congrArg Int32.toInt (hkA eA61 (frA59_2.trans rfl))
                  have nA61_31 : (A61.1 367 31).toInt = (A.1 367 31).toInt := congrArg Int32.toInt (hkA eA61 (frA59_3.trans rfl))
                  have nA61_37 : (A61.1 367 37).toInt = (A.1 367 37).toInt := congrArg Int32.toInt (hkA eA61 (frA59_4.trans rfl))
                  have hvz : hVr 0 A61 := hVr.cg hv ((hkA eA61 (frA59_3.trans rfl))) ((hkA eA61 (frA59_4.trans rfl))) (fun c q1 q2 => hlw ((hafA fA61 (by first | decide | omega) (hafL aeA59 rfl))) ((hafA fA61 (by first | decide | omega) (hafL aeA59 rfl))) ((hafA fA61 (by first | decide | omega) (hafL aeA59 rfl))) ((hafA fA61 (by first | decide | omega) (hafL aeA59 rfl))) ((hafA fA61 (by first | decide | omega) (hafL aeA59 rfl))) ((hafA fA61 (by first | decide | omega) (hafL aeA59 rfl))) ((hafA fA61 (by first | decide | omega) (hafL aeA59 rfl))) ((hafA fA61 (by first | decide | omega) (hafL aeA59 rfl))) ((hafA fA61 (by first | decide | omega) (hafL aeA59 rfl))) c q1 q2)
                  have hnz : (A61.1 367 20).toInt = (A61.2.1 376 0).toInt := by rw [(show A61.2.1 376 = A.2.1 376 from (hafA fA61 (by first | decide | omega) (hafL aeA59 rfl))), ← hn]; omega
                  exact hxa_return (by rfl) rfl (hP _ _ ⟨hA61, (hkA eA61 (frA59_1.trans rfl)), rfl, ⟨by omega, by omega, by omega, by omega, by omega, by omega, hvz, hnz⟩⟩)
                ·
                  refine hxa_tabOut (by rfl) (by omega) (tgt := 206) (by rfl) ?_
                  refine hxa_aload_n (by rfl) rfl ?_
                  refine hxa_get (v := .ref 371) (by rfl) (by rfl) (by rfl) rfl ?_
                  refine hxa_aload_n (by rfl) rfl ?_
                  refine hxj_getK (by rfl) (by rfl) (by rfl) rfl ?_
                  refine hxj_ialdK (by rfl) (by rfl) rfl (by omega) (by omega) ez1 ?_
                  refine hxa_bipush (by rfl) rfl ?_
                  refine hxj_isub (by rfl) rfl hk_22 (by omega) (by omega) (fun z62 ez62 => ?_)
                  refine hxa_s1 (by rfl) (Or.inl ⟨_, rfl, rfl⟩) rfl ?_
                  refine hxa_iload_n (by rfl) rfl ?_
                  refine hxj_zlt (by rfl) rfl (fun q63 => ?_) (fun q63 => ?_)
                  ·
                    refine hxa_aload_n (by rfl) rfl ?_
                    refine hxa_iconst (by rfl) rfl ?_
                    refine hxa_call0 (by rfl) (by rfl) (by rfl) (by rfl) (by rfl) (by rfl) (hX145q4 (d := d + 5) hA (Int32.ofNat 1) (by omega) (by omega)) ?_
                    rintro _ A64 ⟨hA64, frA64_0, frA64_1, frA64_2, frA64_3, frA64_4, frA64_5, aeA64, rfl, fA64⟩
                    have ttA64_12 : (A64.1 367 12).toInt = (A.1 367 12).toInt := congrArg Int32.toInt (frA64_0.trans rfl)
                    have ttA64_19 : (A64.1 367 19).toInt = (A.1 367 19).toInt := congrArg Int32.toInt (frA64_1.trans rfl)
                    have ttA64_20 : (A64.1 367 20).toInt = (A.1 367 20).toInt := congrArg Int32.toInt (frA64_2.trans rfl)
                    have ttA64_31 : (A64.1 367 31).toInt = (A.1 367 31).toInt := congrArg Int32.toInt (frA64_3.trans rfl)
                    have ttA64_37 : (A64.1 367 37).toInt = (A.1 367 37).toInt := congrArg Int32.toInt (frA64_4.trans rfl)
                    obtain ⟨fbA64_367_11, fbA64_367_11u⟩ := hA64.f (i := 367) (k := 11) (by rfl)
                    obtain ⟨fbA64_367_13, fbA64_367_13u⟩ := hA64.f (i := 367) (k := 13) (by rfl)
                    refine hxa_aload_n (by rfl) rfl ?_
                    refine hxj_getK (by rfl) (by rfl) (by rfl) rfl ?_
                    refine hxj_zle (by rfl) rfl (fun q65 => False.elim (by omega)) (fun q65 => ?_)
                    have nA64_12 : (A64.1 367 12).toInt = (A.1 367 12).toInt := congrArg Int32.toInt (frA64_0.trans rfl)
                    have nA64_20 : (A64.1 367 20).toInt = (A.1 367 20).toInt := congrArg Int32.toInt (frA64_2.trans rfl)
                    have nA64_31 : (A64.1 367 31).toInt = (A.1 367 31).toInt := congrArg Int32.toInt (frA64_3.trans rfl)
                    have nA64_37 : (A64.1 367 37).toInt = (A.1 367 37).toInt := congrArg Int32.toInt (frA64_4.trans rfl)
                    have hvz : hVr 0 A64 := hVr.cg hv ((frA64_3.trans rfl)) ((frA64_4.trans rfl)) (fun c q1 q2 => hlw ((hafL aeA64 rfl)) ((hafL aeA64 rfl)) ((hafL aeA64 rfl)) ((hafL aeA64 rfl)) ((hafL aeA64 rfl)) ((hafL aeA64 rfl)) ((hafL aeA64 rfl)) ((hafL aeA64 rfl)) ((hafL aeA64 rfl)) c q1 q2)
                    have hnz : (A64.1 367 20).toInt = (A64.2.1 376 0).toInt := by rw [(show A64.2.1 376 = A.2.1 376 from (hafL aeA64 rfl)), ← hn]; omega
                    exact hxa_return (by rfl) rfl (hP _ _ ⟨hA64, (frA64_1.trans rfl), rfl, ⟨by omega, by omega, by omega, by omega, by omega, by omega, hvz, hnz⟩⟩)
                  ·
                    refine hxa_aload_n (by rfl) rfl ?_
                    refine hxa_get (v := .ref 371) (by rfl) (by rfl) (by rfl) rfl ?_
                    refine hxa_aload_n (by rfl) rfl ?_
                    refine hxj_getK (by rfl) (by rfl) (by rfl) rfl ?_
                    refine hxj_ialdK (by rfl) (by rfl) rfl (by omega) (by omega) ez1 ?_
                    refine hxa_bipush (by rfl) rfl ?_
                    refine hxj_cle (by rfl) rfl hk_25 (fun q66 => ?_) (fun q66 => ?_)
                    ·
                      refine hxa_aload_n (by rfl) rfl ?_
                      refine hxj_getK (by rfl) (by rfl) (by rfl) rfl ?_
                      refine hxj_zle (by rfl) rfl (fun q67 => ?_) (fun q67 => False.elim (by omega))
                      refine hxa_aload_n (by rfl) rfl ?_
                      refine hxa_call0 (by rfl) (by rfl) (by rfl) (by rfl) (by rfl) (by rfl) (hX147q4 (d := d + 4) hA ) ?_
                      rintro _ A68 ⟨hA68, frA68_0, frA68_1, frA68_2, frA68_3, frA68_4, frA68_5, aeA68, rfl, fA68⟩
                      have ttA68_12 : (A68.1 367 12).toInt = (A.1 367 12).toInt := congrArg Int32.toInt (frA68_0.trans rfl)
                      have ttA68_19 : (A68.1 367 19).toInt = (A.1 367 19).toInt := congrArg Int32.toInt (frA68_1.trans rfl)
                      have ttA68_20 : (A68.1 367 20).toInt = (A.1 367 20).toInt := congrArg Int32.toInt (frA68_2.trans rfl)
                      have ttA68_31 : (A68.1 367 31).toInt = (A.1 367 31).toInt := congrArg Int32.toInt (frA68_3.trans rfl)
                      have ttA68_37 : (A68.1 367 37).toInt = (A.1 367 37).toInt := congrArg Int32.toInt (frA68_4.trans rfl)
                      obtain ⟨fbA68_367_11, fbA68_367_11u⟩ := hA68.f (i := 367) (k := 11) (by rfl)
                      obtain ⟨fbA68_367_13, fbA68_367_13u⟩ := hA68.f (i := 367) (k := 13) (by rfl)
                      refine hxa_aload_n (by rfl) rfl ?_
                      refine hxa_iload_n (by rfl) rfl ?_
                      have nA68_12 : (A68.1 367 12).toInt = (A.1 367 12).toInt := congrArg Int32.toInt (frA68_0.trans rfl)
                      have nA68_20 : (A68.1 367 20).toInt = (A.1 367 20).toInt := congrArg Int32.toInt (frA68_2.trans rfl)
                      have nA68_31 : (A68.1 367 31).toInt = (A.1 367 31).toInt := congrArg Int32.toInt (frA68_3.trans rfl)
                      have nA68_37 : (A68.1 367 37).toInt = (A.1 367 37).toInt := congrArg Int32.toInt (frA68_4.trans rfl)
                      have hv9 : hVr 0 A68 := hVr.cg hv (show _ from (frA68_3.trans rfl)) (show _ from (frA68_4.trans rfl)) (fun c q1 q2 => hlw ((hafL aeA68 rfl)) ((hafL aeA68 rfl)) ((hafL aeA68 rfl)) ((hafL aeA68 rfl)) ((hafL aeA68 rfl)) ((hafL aeA68 rfl)) ((hafL aeA68 rfl)) ((hafL aeA68 rfl)) ((hafL aeA68 rfl)) c q1 q2)
                      refine hxa_call0 (by rfl) (by rfl) (by rfl) (by rfl) (by rfl) (by rfl) (hX157q4 (d := d + 0) hA68 hv9 (by omega) (by omega) (by omega) (by omega) (by omega) (by omega) (by omega) z62 (by omega) (by omega) (by rw [(show A68.1 367 19 = (A.1 367 19) from (frA68_1.trans rfl))]; omega) (by rw [(show A68.1 367 19 = (A.1 367 19) from (frA68_1.trans rfl))]; omega)) ?_
                      rintro _ A69 ⟨hA69, frA69_0, frA69_1, afA69_376, rfl, fA69⟩
                      have ttA69_19 : (A69.1 367 19).toInt = (A.1 367 19).toInt := congrArg Int32.toInt (frA69_0.trans (frA68_1.trans rfl))
                      have ttA69_20 : (A69.1 367 20).toInt = (A.1 367 20).toInt := congrArg Int32.toInt (frA69_1.trans (frA68_2.trans rfl))
                      obtain ⟨fbA69_367_11, fbA69_367_11u⟩ := hA69.f (i := 367) (k := 11) (by rfl)
                      obtain ⟨fbA69_367_12, fbA69_367_12u⟩ := hA69.f (i := 367) (k := 12) (by rfl)
                      obtain ⟨fbA69_367_13, fbA69_367_13u⟩ := hA69.f (i := 367) (k := 13) (by rfl)
                      obtain ⟨fbA69_367_37, fbA69_367_37u⟩ := hA69.f (i := 367) (k := 37) (by rfl)
                      obtain ⟨fbA69_367_31, fbA69_367_31u⟩ := hA69.f (i := 367) (k := 31) (by rfl)
                      have nA69_20 : (A69.1 367 20).toInt = (A.1 367 20).toInt := congrArg Int32.toInt (frA69_1.trans (frA68_2.trans rfl))
                      have hnz : (A69.1 367 20).toInt = (A69.2.1 376 0).toInt := by rw [(show A69.2.1 376 = A.2.1 376 from (afA69_376.trans (hafL aeA68 rfl))), ← hn]; omega
                      exact hxa_return (by rfl) rfl (hP _ _ ⟨hA69, (frA69_0.trans (frA68_1.trans rfl)), rfl, ⟨by omega, by omega, by omega, by omega, by omega, by omega, fA69.2.2.2.2.2.2, hnz⟩⟩)
                    ·
                      refine hxa_aload_n (by rfl) rfl ?_
                      refine hxa_iconst (by rfl) rfl ?_
                      refine hxa_call0 (by rfl) (by rfl) (by rfl) (by rfl) (by rfl) (by rfl) (hX145q4 (d := d + 5) hA (Int32.ofNat 1) (by omega) (by omega)) ?_
                      rintro _ A70 ⟨hA70, frA70_0, frA70_1, frA70_2, frA70_3, frA70_4, frA70_5, aeA70, rfl, fA70⟩
                      have ttA70_12 : (A70.1 367 12).toInt = (A.1 367 12).toInt := congrArg Int32.toInt (frA70_0.trans rfl)
                      have ttA70_19 : (A70.1 367 19).toInt = (A.1 367 19).toInt := congrArg Int32.toInt (frA70_1.trans rfl)
                      have ttA70_20 : (A70.1 367 20).toInt = (A.1 367 20).toInt := congrArg Int32.toInt (frA70_2.trans rfl)
                      have ttA70_31 : (A70.1 367 31).toInt = (A.1 367 31).toInt := congrArg Int32.toInt (frA70_3.trans rfl)
                      have ttA70_37 : (A70.1 367 37).toInt = (A.1 367 37).toInt := congrArg Int32.toInt (frA70_4.trans rfl)
                      obtain ⟨fbA70_367_11, fbA70_367_11u⟩ := hA70.f (i := 367) (k := 11) (by rfl)
                      obtain ⟨fbA70_367_13, fbA70_367_13u⟩ := hA70.f (i := 367) (k := 13) (by rfl)
                      refine hxa_aload_n (by rfl) rfl ?_
                      refine hxj_getK (by rfl) (by rfl) (by rfl) rfl ?_
                      refine hxj_zle (by rfl) rfl (fun q71 => False.elim (by omega)) (fun q71 => ?_)
                      have nA70_12 : (A70.1 367 12).toInt = (A.1 367 12).toInt := congrArg Int32.toInt (frA70_0.trans rfl)
                      have nA70_20 : (A70.1 367 20).toInt = (A.1 367 20).toInt := congrArg Int32.toInt (frA70_2.trans rfl)
                      have nA70_31 : (A70.1 367 31).toInt = (A.1 367 31).toInt := congrArg Int32.toInt (frA70_3.trans rfl)
                      have nA70_37 : (A70.1 367 37).toInt = (A.1 367 37).toInt := congrArg Int32.toInt (frA70_4.trans rfl)
                      have hvz : hVr 0 A70 := hVr.cg hv ((frA70_3.trans rfl)) ((frA70_4.trans rfl)) (fun c q1 q2 => hlw ((hafL aeA70 rfl)) ((hafL aeA70 rfl)) ((hafL aeA70 rfl)) ((hafL aeA70 rfl)) ((hafL aeA70 rfl)) ((hafL aeA70 rfl)) ((hafL aeA70 rfl)) ((hafL aeA70 rfl)) ((hafL aeA70 rfl)) c q1 q2)
                      have hnz : (A70.1 367 20).toInt = (A70.2.1 376 0).toInt := by rw [(show A70.2.1 376 = A.2.1 376 from (hafL aeA70 rfl)), ← hn]; omega
                      exact hxa_return (by rfl) rfl (hP _ _ ⟨hA70, (frA70_1.trans rfl), rfl, ⟨by omega, by omega, by omega, by omega, by omega, by omega, hvz, hnz⟩⟩)
theorem hX154q4 {d : Nat} {Bn Br : Int} {A0 A : hs_A} (hA : hJ 4 Bn Br A0 A) (hv : hVr 0 A) (hn : (A.1 367 20).toInt = (A.2.1 376 0).toInt) (hf : (A.1 367 13).toInt = 0) (hb : 0 ≤ (A.1 367 31).toInt ∧ 4 * ((A.1 367 31).toInt - 0) ≤ (A.1 367 11).toInt) (hc : 0 ≤ (A.1 367 37).toInt ∧ (A.1 367 37).toInt ≤ 0 + (A.1 367 11).toInt) (ho : (A.1 367 12).toInt ≤ 6) (hl : (A0.1 367 18).toInt = 1) (fl0 : 0 ≤ (A.1 367 19).toInt) (fh0 : (A.1 367 19).toInt ≤ 0) : hxC (d + 7) 154 hm_m154 [.ref 368] A (fun r A' => hJ 4 Bn Br A0 A' ∧ A'.1 367 19 = A.1 367 19 ∧ r = none ∧ ((¬ (A'.1 367 13).toInt = 0 ∨ ((A.1 367 11).toInt + 1 ≤ (A'.1 367 11).toInt ∧ 4 * ((A'.1 367 31).toInt - 0) ≤ (A'.1 367 11).toInt ∧ (A'.1 367 37).toInt ≤ 0 + (A'.1 367 11).toInt ∧ (A'.1 367 12).toInt = (A.1 367 12).toInt)) ∧ (A.1 367 11).toInt ≤ (A'.1 367 11).toInt ∧ (A.1 367 31).toInt ≤ (A'.1 367 31).toInt ∧ (A'.1 367 31).toInt ≤ 103 ∧ (A.1 367 37).toInt ≤ (A'.1 367 37).toInt ∧ (A'.1 367 37).toInt ≤ 402 ∧ hVr 0 A' ∧ (A'.1 367 20).toInt = (A'.2.1 376 0).toInt)) := hxC.of (by rfl) (hY154q4 hA hv hn hf hb hc ho hl fl0 fh0 (fun r A' h => h))
