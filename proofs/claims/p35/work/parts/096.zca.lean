theorem hY71q10 {d : Nat} {Bn Br : Int} {A0 A : hs_A} (hA : hJ 10 Bn Br A0 A)  (a1 : Int32) (fl0 : 0 ≤ (A.1 0 1).toInt) (fh0 : (A.1 0 1).toInt ≤ 1996) {P : Option Value → hs_A → Prop} (hP : ∀ (r : Option Value) (A' : hs_A), (hJ 10 Bn Br A0 A' ∧ A'.1 367 2 = A.1 367 2 ∧ r = none ∧ ((A'.1 0 1).toInt = (A.1 0 1).toInt + 4)) → P r A') : hxa (d + 0) none hm_t71 0 [.ref 1, .int a1, .retAddr 0] [] A P := by
  have fb367_2 := hA.f (i := 367) (k := 2) (by rfl)
  refine hxa_bipush (by rfl) rfl ?_
  refine hxa_s1 (by rfl) (Or.inl ⟨_, rfl, rfl⟩) rfl ?_
  refine hxa_iload_n (by rfl) rfl ?_
  refine hxj_zlt (by rfl) hk_24 (fun q1 => False.elim (by omega)) (fun q1 => ?_)
  refine hxa_aload_n (by rfl) rfl ?_
  refine hxj_getK (by rfl) (by rfl) (by rfl) rfl ?_
  refine hxa_sipush (by rfl) rfl ?_
  refine hxj_cge (by rfl) rfl hk_2000 (fun q2 => False.elim (by omega)) (fun q2 => ?_)
  refine hxa_aload_n (by rfl) rfl ?_
  refine hxa_get (v := .ref 2) (by rfl) (by rfl) (by rfl) rfl ?_
  refine hxa_aload_n (by rfl) rfl ?_
  refine hxj_getK (by rfl) (by rfl) (by rfl) rfl ?_
  refine hxa_iload_n (by rfl) rfl ?_
  refine hxa_iload_n (by rfl) rfl ?_
  refine hxj_iushrU (by rfl) (fun z3 => ?_)
  refine hxa_i2b (by rfl) (hn_top (fun z4 _ => ?_))
  refine hxj_bast (by rfl) (by rfl) rfl (by omega) (by omega) hA (by rfl) (by rfl) (by rfl) (fun A5 hA5 eA5 fA5 gA5 => ?_)
  refine hxa_aload_n (by rfl) rfl ?_
  refine hxa_dupR (by rfl) ?_
  refine hxj_getK (by rfl) (by rfl) (by rfl) (hkA eA5 rfl) ?_
  refine hxa_iconst (by rfl) rfl ?_
  refine hxj_iadd (by rfl) rfl hk_1 (by omega) (by omega) (fun z6 ez6 => ?_)
  refine hxj_putI (by rfl) (by rfl) (by rfl) (by rfl) hA5 (hbok (by rfl) rfl (by omega) (by omega)) (by rfl) (by rfl) (fun A7 hA7 eA7 fA7 => ?_)
  refine hxj_iinc (by rfl) rfl hk_24 hk_4294967288 (by omega) (by omega) (fun _ => rfl) (fun z8 ez8 => ?_)
  refine hxa_goto (by rfl) ?_
  refine hxa_iload_n (by rfl) rfl ?_
  refine hxj_zlt (by rfl) rfl (fun q9 => False.elim (by omega)) (fun q9 => ?_)
  refine hxa_aload_n (by rfl) rfl ?_
  refine hxj_getK (by rfl) (by rfl) (by rfl) (hkS eA7) ?_
  refine hxa_sipush (by rfl) rfl ?_
  refine hxj_cge (by rfl) rfl hk_2000 (fun q10 => False.elim (by omega)) (fun q10 => ?_)
  refine hxa_aload_n (by rfl) rfl ?_
  refine hxa_get (v := .ref 2) (by rfl) (by rfl) (by rfl) rfl ?_
  refine hxa_aload_n (by rfl) rfl ?_
  refine hxj_getK (by rfl) (by rfl) (by rfl) (hkS eA7) ?_
  refine hxa_iload_n (by rfl) rfl ?_
  refine hxa_iload_n (by rfl) rfl ?_
  refine hxj_iushrU (by rfl) (fun z11 => ?_)
  refine hxa_i2b (by rfl) (hn_top (fun z12 _ => ?_))
  refine hxj_bast (by rfl) (by rfl) rfl (by omega) (by omega) hA7 (by rfl) (by rfl) (by rfl) (fun A13 hA13 eA13 fA13 gA13 => ?_)
  refine hxa_aload_n (by rfl) rfl ?_
  refine hxa_dupR (by rfl) ?_
  refine hxj_getK (by rfl) (by rfl) (by rfl) (hkA eA13 (hkS eA7)) ?_
  refine hxa_iconst (by rfl) rfl ?_
  refine hxj_iadd (by rfl) rfl hk_1 (by omega) (by omega) (fun z14 ez14 => ?_)
  refine hxj_putI (by rfl) (by rfl) (by rfl) (by rfl) hA13 (hbok (by rfl) rfl (by omega) (by omega)) (by rfl) (by rfl) (fun A15 hA15 eA15 fA15 => ?_)
  refine hxj_iinc (by rfl) rfl rfl hk_4294967288 (by omega) (by omega) (fun _ => rfl) (fun z16 ez16 => ?_)
  refine hxa_goto (by rfl) ?_
  refine hxa_iload_n (by rfl) rfl ?_
  refine hxj_zlt (by rfl) rfl (fun q17 => False.elim (by omega)) (fun q17 => ?_)
  refine hxa_aload_n (by rfl) rfl ?_
  refine hxj_getK (by rfl) (by rfl) (by rfl) (hkS eA15) ?_
  refine hxa_sipush (by rfl) rfl ?_
  refine hxj_cge (by rfl) rfl hk_2000 (fun q18 => False.elim (by omega)) (fun q18 => ?_)
  refine hxa_aload_n (by rfl) rfl ?_
  refine hxa_get (v := .ref 2) (by rfl) (by rfl) (by rfl) rfl ?_
  refine hxa_aload_n (by rfl) rfl ?_
  refine hxj_getK (by rfl) (by rfl) (by rfl) (hkS eA15) ?_
  refine hxa_iload_n (by rfl) rfl ?_
  refine hxa_iload_n (by rfl) rfl ?_
  refine hxj_iushrU (by rfl) (fun z19 => ?_)
  refine hxa_i2b (by rfl) (hn_top (fun z20 _ => ?_))
  refine hxj_bast (by rfl) (by rfl) rfl (by omega) (by omega) hA15 (by rfl) (by rfl) (by rfl) (fun A21 hA21 eA21 fA21 gA21 => ?_)
  refine hxa_aload_n (by rfl) rfl ?_
  refine hxa_dupR (by rfl) ?_
  refine hxj_getK (by rfl) (by rfl) (by rfl) (hkA eA21 (hkS eA15)) ?_
  refine hxa_iconst (by rfl) rfl ?_
  refine hxj_iadd (by rfl) rfl hk_1 (by omega) (by omega) (fun z22 ez22 => ?_)
  refine hxj_putI (by rfl) (by rfl) (by rfl) (by rfl) hA21 (hbok (by rfl) rfl (by omega) (by omega)) (by rfl) (by rfl) (fun A23 hA23 eA23 fA23 => ?_)
  refine hxj_iinc (by rfl) rfl rfl hk_4294967288 (by omega) (by omega) (fun _ => rfl) (fun z24 ez24 => ?_)
  refine hxa_goto (by rfl) ?_
  refine hxa_iload_n (by rfl) rfl ?_
  refine hxj_zlt (by rfl) rfl (fun q25 => False.elim (by omega)) (fun q25 => ?_)
  refine hxa_aload_n (by rfl) rfl ?_
  refine hxj_getK (by rfl) (by rfl) (by rfl) (hkS eA23) ?_
  refine hxa_sipush (by rfl) rfl ?_
  refine hxj_cge (by rfl) rfl hk_2000 (fun q26 => False.elim (by omega)) (fun q26 => ?_)
  refine hxa_aload_n (by rfl) rfl ?_
  refine hxa_get (v := .ref 2) (by rfl) (by rfl) (by rfl) rfl ?_
  refine hxa_aload_n (by rfl) rfl ?_
  refine hxj_getK (by rfl) (by rfl) (by rfl) (hkS eA23) ?_
  refine hxa_iload_n (by rfl) rfl ?_
  refine hxa_iload_n (by rfl) rfl ?_
  refine hxj_iushrU (by rfl) (fun z27 => ?_)
  refine hxa_i2b (by rfl) (hn_top (fun z28 _ => ?_))
  refine hxj_bast (by rfl) (by rfl) rfl (by omega) (by omega) hA23 (by rfl) (by rfl) (by rfl) (fun A29 hA29 eA29 fA29 gA29 => ?_)
  refine hxa_aload_n (by rfl) rfl ?_
  refine hxa_dupR (by rfl) ?_
  refine hxj_getK (by rfl) (by rfl) (by rfl) (hkA eA29 (hkS eA23)) ?_
  refine hxa_iconst (by rfl) rfl ?_
  refine hxj_iadd (by rfl) rfl hk_1 (by omega) (by omega) (fun z30 ez30 => ?_)
  refine hxj_putI (by rfl) (by rfl) (by rfl) (by rfl) hA29 (hbok (by rfl) rfl (by omega) (by omega)) (by rfl) (by rfl) (fun A31 hA31 eA31 fA31 => ?_)
  refine hxj_iinc (by rfl) rfl rfl hk_4294967288 (by omega) (by omega) (fun _ => rfl) (fun z32 ez32 => ?_)
  refine hxa_goto (by rfl) ?_
  refine hxa_iload_n (by rfl) rfl ?_
  refine hxj_zlt (by rfl) rfl (fun q33 => ?_) (fun q33 => False.elim (by omega))
  exact hxa_return (by rfl) rfl (hP _ _ ⟨hA31, (hkF eA31 (by first | decide | omega) (hkA eA29 (hkF eA23 (by first | decide | omega) (hkA eA21 (hkF eA15 (by first | decide | omega) (hkA eA13 (hkF eA7 (by first | decide | omega) (hkA eA5 rfl)))))))), rfl, by rw [(show A31.1 0 1 = z30 from (hkS eA31))]; omega⟩)
theorem hX71q10 {d : Nat} {Bn Br : Int} {A0 A : hs_A} (hA : hJ 10 Bn Br A0 A)  (a1 : Int32) (fl0 : 0 ≤ (A.1 0 1).toInt) (fh0 : (A.1 0 1).toInt ≤ 1996) : hxC (d + 1) 71 hm_m71 [.ref 1, .int a1] A (fun r A' => hJ 10 Bn Br A0 A' ∧ A'.1 367 2 = A.1 367 2 ∧ r = none ∧ ((A'.1 0 1).toInt = (A.1 0 1).toInt + 4)) := hxC.of (by rfl) (hY71q10 hA a1 fl0 fh0 (fun r A' h => h))
theorem hY134q10 {d : Nat} {Bn Br : Int} {A0 A : hs_A} (hA : hJ 10 Bn Br A0 A)  (a1 : Int32) (fl0 : 0 ≤ (A.1 367 2).toInt) (fh0 : (A.1 367 2).toInt ≤ 1996) {P : Option Value → hs_A → Prop} (hP : ∀ (r : Option Value) (A' : hs_A), (hJ 10 Bn Br A0 A' ∧ A'.1 0 1 = A.1 0 1 ∧ r = none ∧ ((A'.1 367 2).toInt = (A.1 367 2).toInt + 4)) → P r A') : hxa (d + 0) none hm_t134 0 [.ref 368, .int a1, .retAddr 0] [] A P := by
  have fb0_1 := hA.f (i := 0) (k := 1) (by rfl)
  refine hxa_bipush (by rfl) rfl ?_
  refine hxa_s1 (by rfl) (Or.inl ⟨_, rfl, rfl⟩) rfl ?_
  refine hxa_iload_n (by rfl) rfl ?_
  refine hxj_zlt (by rfl) hk_24 (fun q1 => False.elim (by omega)) (fun q1 => ?_)
  refine hxa_aload_n (by rfl) rfl ?_
  refine hxa_get (v := .ref 369) (by rfl) (by rfl) (by rfl) rfl ?_
  refine hxa_aload_n (by rfl) rfl ?_
  refine hxj_getK (by rfl) (by rfl) (by rfl) rfl ?_
  refine hxa_iload_n (by rfl) rfl ?_
  refine hxa_iload_n (by rfl) rfl ?_
  refine hxj_ishrU (by rfl) (fun z2 => ?_)
  refine hxa_i2b (by rfl) (hn_top (fun z3 _ => ?_))
  refine hxj_bast (by rfl) (by rfl) rfl (by omega) (by omega) hA (by rfl) (by rfl) (by rfl) (fun A4 hA4 eA4 fA4 gA4 => ?_)
  refine hxa_aload_n (by rfl) rfl ?_
  refine hxa_dupR (by rfl) ?_
  refine hxj_getK (by rfl) (by rfl) (by rfl) (hkA eA4 rfl) ?_
  refine hxa_iconst (by rfl) rfl ?_
  refine hxj_iadd (by rfl) rfl hk_1 (by omega) (by omega) (fun z5 ez5 => ?_)
  refine hxj_putI (by rfl) (by rfl) (by rfl) (by rfl) hA4 (hbok (by rfl) rfl (by omega) (by omega)) (by rfl) (by rfl) (fun A6 hA6 eA6 fA6 => ?_)
  refine hxj_iinc (by rfl) rfl hk_24 hk_4294967288 (by omega) (by omega) (fun _ => rfl) (fun z7 ez7 => ?_)
  refine hxa_goto (by rfl) ?_
  refine hxa_iload_n (by rfl) rfl ?_
  refine hxj_zlt (by rfl) rfl (fun q8 => False.elim (by omega)) (fun q8 => ?_)
  refine hxa_aload_n (by rfl) rfl ?_
  refine hxa_get (v := .ref 369) (by rfl) (by rfl) (by rfl) rfl ?_
  refine hxa_aload_n (by rfl) rfl ?_
  refine hxj_getK (by rfl) (by rfl) (by rfl) (hkS eA6) ?_
  refine hxa_iload_n (by rfl) rfl ?_
  refine hxa_iload_n (by rfl) rfl ?_
  refine hxj_ishrU (by rfl) (fun z9 => ?_)
  refine hxa_i2b (by rfl) (hn_top (fun z10 _ => ?_))
  refine hxj_bast (by rfl) (by rfl) rfl (by omega) (by omega) hA6 (by rfl) (by rfl) (by rfl) (fun A11 hA11 eA11 fA11 gA11 => ?_)
  refine hxa_aload_n (by rfl) rfl ?_
  refine hxa_dupR (by rfl) ?_
  refine hxj_getK (by rfl) (by rfl) (by rfl) (hkA eA11 (hkS eA6)) ?_
  refine hxa_iconst (by rfl) rfl ?_
  refine hxj_iadd (by rfl) rfl hk_1 (by omega) (by omega) (fun z12 ez12 => ?_)
  refine hxj_putI (by rfl) (by rfl) (by rfl) (by rfl) hA11 (hbok (by rfl) rfl (by omega) (by omega)) (by rfl) (by rfl) (fun A13 hA13 eA13 fA13 => ?_)
  refine hxj_iinc (by rfl) rfl rfl hk_4294967288 (by omega) (by omega) (fun _ => rfl) (fun z14 ez14 => ?_)
  refine hxa_goto (by rfl) ?_
  refine hxa_iload_n (by rfl) rfl ?_
  refine hxj_zlt (by rfl) rfl (fun q15 => False.elim (by omega)) (fun q15 => ?_)
  refine hxa_aload_n (by rfl) rfl ?_
  refine hxa_get (v := .ref 369) (by rfl) (by rfl) (by rfl) rfl ?_
  refine hxa_aload_n (by rfl) rfl ?_
  refine hxj_getK (by rfl) (by rfl) (by rfl) (hkS eA13) ?_
  refine hxa_iload_n (by rfl) rfl ?_
  refine hxa_iload_n (by rfl) rfl ?_
  refine hxj_ishrU (by rfl) (fun z16 => ?_)
  refine hxa_i2b (by rfl) (hn_top (fun z17 _ => ?_))
  refine hxj_bast (by rfl) (by rfl) rfl (by omega) (by omega) hA13 (by rfl) (by rfl) (by rfl) (fun A18 hA18 eA18 fA18 gA18 => ?_)
  refine hxa_aload_n (by rfl) rfl ?_
  refine hxa_dupR (by rfl) ?_
  refine hxj_getK (by rfl) (by rfl) (by rfl) (hkA eA18 (hkS eA13)) ?_
  refine hxa_iconst (by rfl) rfl ?_
  refine hxj_iadd (by rfl) rfl hk_1 (by omega) (by omega) (fun z19 ez19 => ?_)
  refine hxj_putI (by rfl) (by rfl) (by rfl) (by rfl) hA18 (hbok (by rfl) rfl (by omega) (by omega)) (by rfl) (by rfl) (fun A20 hA20 eA20 fA20 => ?_)
  refine hxj_iinc (by rfl) rfl rfl hk_4294967288 (by omega) (by omega) (fun _ => rfl) (fun z21 ez21 => ?_)
  refine hxa_goto (by rfl) ?_
  refine hxa_iload_n (by rfl) rfl ?_
  refine hxj_zlt (by rfl) rfl (fun q22 => False.elim (by omega)) (fun q22 => ?_)
  refine hxa_aload_n (by rfl) rfl ?_
  refine hxa_get (v := .ref 369) (by rfl) (by rfl) (by rfl) rfl ?_
  refine hxa_aload_n (by rfl) rfl ?_
  refine hxj_getK (by rfl) (by rfl) (by rfl) (hkS eA20) ?_
  refine hxa_iload_n (by rfl) rfl ?_
  refine hxa_iload_n (by rfl) rfl ?_
  refine hxj_ishrU (by rfl) (fun z23 => ?_)
  refine hxa_i2b (by rfl) (hn_top (fun z24 _ => ?_))
  refine hxj_bast (by rfl) (by rfl) rfl (by omega) (by omega) hA20 (by rfl) (by rfl) (by rfl) (fun A25 hA25 eA25 fA25 gA25 => ?_)
  refine hxa_aload_n (by rfl) rfl ?_
  refine hxa_dupR (by rfl) ?_
  refine hxj_getK (by rfl) (by rfl) (by rfl) (hkA eA25 (hkS eA20)) ?_
  refine hxa_iconst (by rfl) rfl ?_
  refine hxj_iadd (by rfl) rfl hk_1 (by omega) (by omega) (fun z26 ez26 => ?_)
  refine hxj_putI (by rfl) (by rfl) (by rfl) (by rfl) hA25 (hbok (by rfl) rfl (by omega) (by omega)) (by rfl) (by rfl) (fun A27 hA27 eA27 fA27 => ?_)
  refine hxj_iinc (by rfl) rfl rfl hk_4294967288 (by omega) (by omega) (fun _ => rfl) (fun z28 ez28 => ?_)
  refine hxa_goto (by rfl) ?_
  refine hxa_iload_n (by rfl) rfl ?_
  refine hxj_zlt (by rfl) rfl (fun q29 => ?_) (fun q29 => False.elim (by omega))
  exact hxa_return (by rfl) rfl (hP _ _ ⟨hA27, (hkF eA27 (by first | decide | omega) (hkA eA25 (hkF eA20 (by first | decide | omega) (hkA eA18 (hkF eA13 (by first | decide | omega) (hkA eA11 (hkF eA6 (by first | decide | omega) (hkA eA4 rfl)))))))), rfl, by rw [(show A27.1 367 2 = z26 from (hkS eA27))]; omega⟩)
theorem hX134q10 {d : Nat} {Bn Br : Int} {A0 A : hs_A} (hA : hJ 10 Bn Br A0 A)  (a1 : Int32) (fl0 : 0 ≤ (A.1 367 2).toInt) (fh0 : (A.1 367 2).toInt ≤ 1996) : hxC (d + 1) 134 hm_m134 [.ref 368, .int a1] A (fun r A' => hJ 10 Bn Br A0 A' ∧ A'.1 0 1 = A.1 0 1 ∧ r = none ∧ ((A'.1 367 2).toInt = (A.1 367 2).toInt + 4)) := hxC.of (by rfl) (hY134q10 hA a1 fl0 fh0 (fun r A' h => h))
theorem hY70q10 {d : Nat} {Bn Br : Int} {A0 A : hs_A} (hA : hJ 10 Bn Br A0 A)  (a1 : Int32) (a2 : Int32) (a3 : Int32) (a4 : Int32) (a5 : Int32) {P : Option Value → hs_A → Prop} (hP : ∀ (r : Option Value) (A' : hs_A), (hJ 10 Bn Br A0 A' ∧ A'.1 367 2 = A.1 367 2 ∧ ∃ z : Int32, r = some (.int z) ∧ ((z.toInt = -1 ∧ (A'.1 0 1).toInt = (A.1 0 1).toInt ∧ 1980 < (A.1 0 1).toInt) ∨ (z.toInt = (A.1 0 1).toInt + 20 ∧ (A'.1 0 1).toInt = (A.1 0 1).toInt + 20 ∧ (A.1 0 1).toInt ≤ 1980))) → P r A') : hxa (d + 1) (some (.int)) hm_t70 0 [.ref 1, .int a1, .int a2, .int a3, .int a4, .int a5] [] A P := by
  have k4294967295 := hk_4294967295
  have fb0_1 := hA.f (i := 0) (k := 1) (by rfl)
  have fb367_2 := hA.f (i := 367) (k := 2) (by rfl)
  refine hxa_aload_n (by rfl) rfl ?_
  refine hxj_getK (by rfl) (by rfl) (by rfl) rfl ?_
  refine hxa_sipush (by rfl) rfl ?_
  refine hxj_cle (by rfl) rfl hk_1980 (fun q1 => ?_) (fun q1 => ?_)
  ·
    refine hxa_aload_n (by rfl) rfl ?_
    refine hxa_iload_n (by rfl) rfl ?_
    refine hxa_call0 (by rfl) (by rfl) (by rfl) (by rfl) (by rfl) (by rfl) (hX71q10 (d := d + 0) hA a1 (by omega) (by omega)) ?_
    rintro _ A2 ⟨hA2, frA2_0, rfl, fA2⟩
    have fbA2_0_1 := hA2.f (i := 0) (k := 1) (by rfl)
    refine hxa_aload_n (by rfl) rfl ?_
    refine hxa_iload_n (by rfl) rfl ?_
    refine hxa_call0 (by rfl) (by rfl) (by rfl) (by rfl) (by rfl) (by rfl) (hX71q10 (d := d + 0) hA2 a2 (by omega) (by omega)) ?_
    rintro _ A3 ⟨hA3, frA3_0, rfl, fA3⟩
    have fbA3_0_1 := hA3.f (i := 0) (k := 1) (by rfl)
    refine hxa_aload_n (by rfl) rfl ?_
    refine hxa_iload_n (by rfl) rfl ?_
    refine hxa_call0 (by rfl) (by rfl) (by rfl) (by rfl) (by rfl) (by rfl) (hX71q10 (d := d + 0) hA3 a3 (by omega) (by omega)) ?_
    rintro _ A4 ⟨hA4, frA4_0, rfl, fA4⟩
    have fbA4_0_1 := hA4.f (i := 0) (k := 1) (by rfl)
    refine hxa_aload_n (by rfl) rfl ?_
    refine hxa_iload (by rfl) rfl ?_
    refine hxa_call0 (by rfl) (by rfl) (by rfl) (by rfl) (by rfl) (by rfl) (hX71q10 (d := d + 0) hA4 a4 (by omega) (by omega)) ?_
    rintro _ A5 ⟨hA5, frA5_0, rfl, fA5⟩
    have fbA5_0_1 := hA5.f (i := 0) (k := 1) (by rfl)
    refine hxa_aload_n (by rfl) rfl ?_
    refine hxa_iload (by rfl) rfl ?_
    refine hxa_call0 (by rfl) (by rfl) (by rfl) (by rfl) (by rfl) (by rfl) (hX71q10 (d := d + 0) hA5 a5 (by omega) (by omega)) ?_
    rintro _ A6 ⟨hA6, frA6_0, rfl, fA6⟩
    have fbA6_0_1 := hA6.f (i := 0) (k := 1) (by rfl)
    refine hxa_aload_n (by rfl) rfl ?_
    refine hxj_getK (by rfl) (by rfl) (by rfl) rfl ?_
    exact hxa_ireturn (by rfl) rfl (hP _ _ ⟨hA6, (frA6_0.trans (frA5_0.trans (frA4_0.trans (frA3_0.trans (frA2_0.trans rfl))))), _, rfl, by omega⟩)
  ·
    refine hxa_iconst (by rfl) rfl ?_
    exact hxa_ireturn (by rfl) rfl (hP _ _ ⟨hA, rfl, _, rfl, by omega⟩)
theorem hX70q10 {d : Nat} {Bn Br : Int} {A0 A : hs_A} (hA : hJ 10 Bn Br A0 A)  (a1 : Int32) (a2 : Int32) (a3 : Int32) (a4 : Int32) (a5 : Int32) : hxC (d + 2) 70 hm_m70 [.ref 1, .int a1, .int a2, .int a3, .int a4, .int a5] A (fun r A' => hJ 10 Bn Br A0 A' ∧ A'.1 367 2 = A.1 367 2 ∧ ∃ z : Int32, r = some (.int z) ∧ ((z.toInt = -1 ∧ (A'.1 0 1).toInt = (A.1 0 1).toInt ∧ 1980 < (A.1 0 1).toInt) ∨ (z.toInt = (A.1 0 1).toInt + 20 ∧ (A'.1 0 1).toInt = (A.1 0 1).toInt + 20 ∧ (A.1 0 1).toInt ≤ 1980))) := hxC.of (by rfl) (hY70q10 hA a1 a2 a3 a4 a5 (fun r A' h => h))
theorem hY133q10 {d : Nat} {Bn Br : Int} {A0 A : hs_A} (hA : hJ 10 Bn Br A0 A)  (a1 : Int32) (a2 : Int32) (a3 : Int32) (a4 : Int32) (a5 : Int32) {P : Option Value → hs_A → Prop} (hP : ∀ (r : Option Value) (A' : hs_A), (hJ 10 Bn Br A0 A' ∧ A'.1 0 1 = A.1 0 1 ∧ ∃ z : Int32, r = some (.int z) ∧ ((z.toInt = -1 ∧ (A'.1 367 2).toInt = (A.1 367 2).toInt ∧ 1980 < (A.1 367 2).toInt) ∨ (z.toInt = (A.1 367 2).toInt + 20 ∧ (A'.1 367 2).toInt = (A.1 367 2).toInt + 20 ∧ (A.1 367 2).toInt ≤ 1980))) → P r A') : hxa (d + 1) (some (.int)) hm_t133 0 [.ref 368, .int a1, .int a2, .int a3, .int a4, .int a5] [] A P := by
  have k4294967295 := hk_4294967295
  have fb0_1 := hA.f (i := 0) (k := 1) (by rfl)
  have fb367_2 := hA.f (i := 367) (k := 2) (by rfl)
  refine hxa_aload_n (by rfl) rfl ?_
  refine hxj_getK (by rfl) (by rfl) (by rfl) rfl ?_
  refine hxa_bipush (by rfl) rfl ?_
  refine hxj_iadd (by rfl) rfl hk_20 (by omega) (by omega) (fun z1 ez1 => ?_)
  refine hxa_sipush (by rfl) rfl ?_
  refine hxj_cle (by rfl) rfl hk_2000 (fun q2 => ?_) (fun q2 => ?_)
  ·
    refine hxa_aload_n (by rfl) rfl ?_
    refine hxa_iload_n (by rfl) rfl ?_
    refine hxa_call0 (by rfl) (by rfl) (by rfl) (by rfl) (by rfl) (by rfl) (hX134q10 (d := d + 0) hA a1 (by omega) (by omega)) ?_
    rintro _ A3 ⟨hA3, frA3_0, rfl, fA3⟩
    have fbA3_367_2 := hA3.f (i := 367) (k := 2) (by rfl)
    refine hxa_aload_n (by rfl) rfl ?_
    refine hxa_iload_n (by rfl) rfl ?_
    refine hxa_call0 (by rfl) (by rfl) (by rfl) (by rfl) (by rfl) (by rfl) (hX134q10 (d := d + 0) hA3 a2 (by omega) (by omega)) ?_
    rintro _ A4 ⟨hA4, frA4_0, rfl, fA4⟩
    have fbA4_367_2 := hA4.f (i := 367) (k := 2) (by rfl)
    refine hxa_aload_n (by rfl) rfl ?_
    refine hxa_iload_n (by rfl) rfl ?_
    refine hxa_call0 (by rfl) (by rfl) (by rfl) (by rfl) (by rfl) (by rfl) (hX134q10 (d := d + 0) hA4 a3 (by omega) (by omega)) ?_
    rintro _ A5 ⟨hA5, frA5_0, rfl, fA5⟩
    have fbA5_367_2 := hA5.f (i := 367) (k := 2) (by rfl)
    refine hxa_aload_n (by rfl) rfl ?_
    refine hxa_iload (by rfl) rfl ?_
    refine hxa_call0 (by rfl) (by rfl) (by rfl) (by rfl) (by rfl) (by rfl) (hX134q10 (d := d + 0) hA5 a4 (by omega) (by omega)) ?_
    rintro _ A6 ⟨hA6, frA6_0, rfl, fA6⟩
    have fbA6_367_2 := hA6.f (i := 367) (k := 2) (by rfl)
    refine hxa_aload_n (by rfl) rfl ?_
    refine hxa_iload (by rfl) rfl ?_
    refine hxa_call0 (by rfl) (by rfl) (by rfl) (by rfl) (by rfl) (by rfl) (hX134q10 (d := d + 0) hA6 a5 (by omega) (by omega)) ?_
    rintro _ A7 ⟨hA7, frA7_0, rfl, fA7⟩
    have fbA7_367_2 := hA7.f (i := 367) (k := 2) (by rfl)
    refine hxa_aload_n (by rfl) rfl ?_
    refine hxj_getK (by rfl) (by rfl) (by rfl) rfl ?_
    exact hxa_ireturn (by rfl) rfl (hP _ _ ⟨hA7, (frA7_0.trans (frA6_0.trans (frA5_0.trans (frA4_0.trans (frA3_0.trans rfl))))), _, rfl, by omega⟩)
  ·
    refine hxa_iconst (by rfl) rfl ?_
    exact hxa_ireturn (by rfl) rfl (hP _ _ ⟨hA, rfl, _, rfl, by omega⟩)
theorem hX133q10 {d : Nat} {Bn Br : Int} {A0 A : hs_A} (hA : hJ 10 Bn Br A0 A)  (a1 : Int32) (a2 : Int32) (a3 : Int32) (a4 : Int32) (a5 : Int32) : hxC (d + 2) 133 hm_m133 [.ref 368, .int a1, .int a2, .int a3, .int a4, .int a5] A (fun r A' => hJ 10 Bn Br A0 A' ∧ A'.1 0 1 = A.1 0 1 ∧ ∃ z : Int32, r = some (.int z) ∧ ((z.toInt = -1 ∧ (A'.1 367 2).toInt = (A.1 367 2).toInt ∧ 1980 < (A.1 367 2).toInt) ∨ (z.toInt = (A.1 367 2).toInt + 20 ∧ (A'.1 367 2).toInt = (A.1 367 2).toInt + 20 ∧ (A.1 367 2).toInt ≤ 1980))) := hxC.of (by rfl) (hY133q10 hA a1 a2 a3 a4 a5 (fun r A' h => h))
theorem hY72q10 {d : Nat} {Bn Br : Int} {A0 A : hs_A} (hA : hJ 10 Bn Br A0 A)  (a1 : Int32) {P : Option Value → hs_A → Prop} (hP : ∀ (r : Option Value) (A' : hs_A), (hJ 10 Bn Br A0 A' ∧ A'.1 367 2 = A.1 367 2 ∧ ∃ z : Int32, r = some (.int z) ∧ ((z.toInt = -1 ∧ (A'.1 0 1).toInt = (A.1 0 1).toInt ∧ (a1.toInt < 0 ∨ (A.1 0 1).toInt < a1.toInt)) ∨ (z.toInt = (A.1 0 1).toInt - a1.toInt ∧ (A'.1 0 1).toInt = (A.1 0 1).toInt - a1.toInt ∧ 0 ≤ a1.toInt ∧ a1.toInt ≤ (A.1 0 1).toInt))) → P r A') : hxa (d + 0) (some (.int)) hm_t72 0 [.ref 1, .int a1] [] A P := by
  have k4294967295 := hk_4294967295
  have fb0_1 := hA.f (i := 0) (k := 1) (by rfl)
  have fb367_2 := hA.f (i := 367) (k := 2) (by rfl)
  refine hxa_iload_n (by rfl) rfl ?_
  refine hxj_zlt (by rfl) rfl (fun q1 => ?_) (fun q1 => ?_)
  ·
    refine hxa_iconst (by rfl) rfl ?_
    exact hxa_ireturn (by rfl) rfl (hP _ _ ⟨hA, rfl, _, rfl, by omega⟩)
  ·
    refine hxa_iload_n (by rfl) rfl ?_
    refine hxa_aload_n (by rfl) rfl ?_
    refine hxj_getK (by rfl) (by rfl) (by rfl) rfl ?_
    have rga1 := hn_rng a1
    refine hxj_cle (by rfl) rfl rfl (fun q2 => ?_) (fun q2 => ?_)
    ·
      refine hxa_aload_n (by rfl) rfl ?_
      refine hxa_dupR (by rfl) ?_
      refine hxj_getK (by rfl) (by rfl) (by rfl) rfl ?_
      refine hxa_iload_n (by rfl) rfl ?_
      refine hxj_isub (by rfl) rfl rfl (by omega) (by omega) (fun z3 ez3 => ?_)
      refine hxj_putI (by rfl) (by rfl) (by rfl) (by rfl) hA (hbok (by rfl) rfl (by omega) (by omega)) (by rfl) (by rfl) (fun A4 hA4 eA4 fA4 => ?_)
      refine hxa_aload_n (by rfl) rfl ?_
      refine hxj_getK (by rfl) (by rfl) (by rfl) (hkS eA4) ?_
      exact hxa_ireturn (by rfl) rfl (hP _ _ ⟨hA4, (hkF eA4 (by first | decide | omega) rfl), _, rfl, by rw [(show A4.1 0 1 = z3 from (hkS eA4))]; omega⟩)
    ·
      refine hxa_iconst (by rfl) rfl ?_
      exact hxa_ireturn (by rfl) rfl (hP _ _ ⟨hA, rfl, _, rfl, by omega⟩)
theorem hX72q10 {d : Nat} {Bn Br : Int} {A0 A : hs_A} (hA : hJ 10 Bn Br A0 A)  (a1 : Int32) : hxC (d + 1) 72 hm_m72 [.ref 1, .int a1] A (fun r A' => hJ 10 Bn Br A0 A' ∧ A'.1 367 2 = A.1 367 2 ∧ ∃ z : Int32, r = some (.int z) ∧ ((z.toInt = -1 ∧ (A'.1 0 1).toInt = (A.1 0 1).toInt ∧ (a1.toInt < 0 ∨ (A.1 0 1).toInt < a1.toInt)) ∨ (z.toInt = (A.1 0 1).toInt - a1.toInt ∧ (A'.1 0 1).toInt = (A.1 0 1).toInt - a1.toInt ∧ 0 ≤ a1.toInt ∧ a1.toInt ≤ (A.1 0 1).toInt))) := hxC.of (by rfl) (hY72q10 hA a1 (fun r A' h => h))
theorem hY135q10 {d : Nat} {Bn Br : Int} {A0 A : hs_A} (hA : hJ 10 Bn Br A0 A)  (a1 : Int32) {P : Option Value → hs_A → Prop} (hP : ∀ (r : Option Value) (A' : hs_A), (hJ 10 Bn Br A0 A' ∧ A'.1 0 1 = A.1 0 1 ∧ ∃ z : Int32, r = some (.int z) ∧ ((z.toInt = -1 ∧ (A'.1 367 2).toInt = (A.1 367 2).toInt ∧ (a1.toInt < 0 ∨ (A.1 367 2).toInt < a1.toInt)) ∨ (z.toInt = (A.1 367 2).toInt - a1.toInt ∧ (A'.1 367 2).toInt = (A.1 367 2).toInt - a1.toInt ∧ 0 ≤ a1.toInt ∧ a1.toInt ≤ (A.1 367 2).toInt))) → P r A') : hxa (d + 0) (some (.int)) hm_t135 0 [.ref 368, .int a1] [] A P := by
  have k4294967295 := hk_4294967295
  have fb0_1 := hA.f (i := 0) (k := 1) (by rfl)
  have fb367_2 := hA.f (i := 367) (k := 2) (by rfl)
  refine hxa_iload_n (by rfl) rfl ?_
  refine hxj_zlt (by rfl) rfl (fun q1 => ?_) (fun q1 => ?_)
  ·
    refine hxa_iconst (by rfl) rfl ?_
    exact hxa_ireturn (by rfl) rfl (hP _ _ ⟨hA, rfl, _, rfl, by omega⟩)
  ·
    refine hxa_iload_n (by rfl) rfl ?_
    refine hxa_aload_n (by rfl) rfl ?_
    refine hxj_getK (by rfl) (by rfl) (by rfl) rfl ?_
    have rga1 := hn_rng a1
    refine hxj_cle (by rfl) rfl rfl (fun q2 => ?_) (fun q2 => ?_)
    ·
      refine hxa_aload_n (by rfl) rfl ?_
      refine hxa_dupR (by rfl) ?_
      refine hxj_getK (by rfl) (by rfl) (by rfl) rfl ?_
      refine hxa_iload_n (by rfl) rfl ?_
      refine hxj_isub (by rfl) rfl rfl (by omega) (by omega) (fun z3 ez3 => ?_)
      refine hxj_putI (by rfl) (by rfl) (by rfl) (by rfl) hA (hbok (by rfl) rfl (by omega) (by omega)) (by rfl) (by rfl) (fun A4 hA4 eA4 fA4 => ?_)
      refine hxa_aload_n (by rfl) rfl ?_
      refine hxj_getK (by rfl) (by rfl) (by rfl) (hkS eA4) ?_
      exact hxa_ireturn (by rfl) rfl (hP _ _ ⟨hA4, (hkF eA4 (by first | decide | omega) rfl), _, rfl, by rw [(show A4.1 367 2 = z3 from (hkS eA4))]; omega⟩)
    ·
      refine hxa_iconst (by rfl) rfl ?_
      exact hxa_ireturn (by rfl) rfl (hP _ _ ⟨hA, rfl, _, rfl, by omega⟩)
theorem hX135q10 {d : Nat} {Bn Br : Int} {A0 A : hs_A} (hA : hJ 10 Bn Br A0 A)  (a1 : Int32) : hxC (d + 1) 135 hm_m135 [.ref 368, .int a1] A (fun r A' => hJ 10 Bn Br A0 A' ∧ A'.1 0 1 = A.1 0 1 ∧ ∃ z : Int32, r = some (.int z) ∧ ((z.toInt = -1 ∧ (A'.1 367 2).toInt = (A.1 367 2).toInt ∧ (a1.toInt < 0 ∨ (A.1 367 2).toInt < a1.toInt)) ∨ (z.toInt = (A.1 367 2).toInt - a1.toInt ∧ (A'.1 367 2).toInt = (A.1 367 2).toInt - a1.toInt ∧ 0 ≤ a1.toInt ∧ a1.toInt ≤ (A.1 367 2).toInt))) := hxC.of (by rfl) (hY135q10 hA a1 (fun r A' h => h))
section HEND
variable {Bn Br : Int} {A0 A : hs_A}
theorem hVl.fr {A0 A : hs_A} (hz : hZ A0) (e18 : A.1 367 18 = A0.1 367 18) (fr : ∀ c, 383 ≤ c → c ≤ 391 → ∀ j, A.2.1 c j = A0.2.1 c j) : hVl (A.1 367 18).toInt A := by
  rw [e18]
  exact hz.2.2.2.1.mv hz.2.2.2.2.1 (fun c j hl => fr c (by unfold hlr at hl; omega) (by unfold hlr at hl; omega) j)
theorem hlaw9 {R : Nat → Bool} (h : (R 383 || (R 384 || (R 385 || (R 386 || (R 387 || (R 388 || (R 389 || (R 390 || R 391)))))))) = false) (c : Nat) (q1 : 383 ≤ c) (q2 : c ≤ 391) : R c = false := by
  simp only [Bool.or_eq_false_iff] at h
  have : c = 383 ∨ c = 384 ∨ c = 385 ∨ c = 386 ∨ c = 387 ∨ c = 388 ∨ c = 389 ∨ c = 390 ∨ c = 391 := by omega
  rcases this with rfl | rfl | rfl | rfl | rfl | rfl | rfl | rfl | rfl
  · exact h.1
  · exact h.2.1
  · exact h.2.2.1
  · exact h.2.2.2.1
  · exact h.2.2.2.2.1
  · exact h.2.2.2.2.2.1
  · exact h.2.2.2.2.2.2.1
  · exact h.2.2.2.2.2.2.2.1
  · exact h.2.2.2.2.2.2.2.2
theorem hJ.end1 (h : hJ 1 Bn Br A0 A) (h3 : A0.2.2.2 0 3 = 12) (h4 : A0.2.2.2 0 4 = 3) : hJ 0 Bn Br A A ∧ A.2.2.2 0 3 = 12 ∧ A.2.2.2 0 4 = 3 ∧ A.1 367 2 = A0.1 367 2 := by
  have fr := h.2.2.1
  have hz := h.2.2.2.1
  have e3 : A.2.2.2 0 3 = 12 := (fr.2.2.2 0 3 rfl).trans h3
  have e4 : A.2.2.2 0 4 = 3 := (fr.2.2.2 0 4 rfl).trans h4
  refine ⟨⟨h.1, h.2.1, ⟨fun _ _ _ => rfl, fun _ _ _ => rfl, fun _ => rfl, fun _ _ _ => rfl⟩, ⟨Or.inr ⟨e3, e4⟩, ?_, fun T hT j => ?_, hVl.fr hz (fr.1 367 18 rfl) (fun c q1 q2 => fr.2.1 c (hlaw9 (R := fun c => hr_a 1 c) rfl c q1 q2)), ?_⟩, True.intro⟩, e3, e4, fr.1 367 2 rfl⟩
  · rw [e3]
    intro j hj
    have q := hz.2.1 j hj
    rw [h3] at q
    rw [fr.2.1 14 rfl j]
    exact q
  · show hVs (A.2.1 (T + 5) j)
    rcases hT with rfl | rfl
    · exact h.2.2.2.2.2.1 j
    · rw [fr.2.1 16 rfl j]; exact hz.2.2.1 11 (Or.inr rfl) j
  · rw [fr.1 367 18 rfl]
    exact hz.2.2.2.2
theorem hJ.swap1 (h : hJ 0 Bn Br A A) (h3 : A.2.2.2 0 3 = 12) (h4 : A.2.2.2 0 4 = 3) (hp : hPg A 5) : hJ 0 Bn Br (A.1, A.2.1, A.2.2.1, hs_upN (hs_upN A.2.2.2 0 3 3) 0 4 12) (A.1, A.2.1, A.2.2.1, hs_upN (hs_upN A.2.2.2 0 3 3) 0 4 12) := by
  have hz := h.2.2.2.1
  have e3 : hs_upN (hs_upN A.2.2.2 0 3 3) 0 4 12 0 3 = 3 := by simp [hs_upN]
  have e4 : hs_upN (hs_upN A.2.2.2 0 3 3) 0 4 12 0 4 = 12 := by simp [hs_upN]
  have e5 : hs_upN (hs_upN A.2.2.2 0 3 3) 0 4 12 323 5 = A.2.2.2 323 5 := by simp [hs_upN]
  refine ⟨⟨h.1.1, h.1.2.1, by show hs_upN (hs_upN A.2.2.2 0 3 3) 0 4 12 323 5 = 7 ∨ _; rw [e5]; exact h.1.2.2⟩, h.2.1, ⟨fun _ _ _ => rfl, fun _ _ _ => rfl, fun _ => rfl, fun _ _ _ => rfl⟩, ⟨Or.inl ⟨e3, e4⟩, ?_, hz.2.2.1, ?_, hz.2.2.2.2⟩, True.intro⟩
  · show hPg _ (hs_upN (hs_upN A.2.2.2 0 3 3) 0 4 12 0 3 + 2)
    rw [e3]
    exact hp
  · intro a ha hb
    exact (hz.2.2.2.1 a ha hb).imp id (fun q => ⟨q.1, q.2.1, fun b h3 h4 => q.2.2 b h3 h4⟩)
theorem hJ.end2 (h : hJ 2 Bn Br A0 A) (h3 : A0.2.2.2 0 3 = 3) (h4 : A0.2.2.2 0 4 = 12) : hJ 0 Bn Br A A ∧ A.2.2.2 0 3 = 3 ∧ A.2.2.2 0 4 = 12 ∧ A.1 367 2 = A0.1 367 2 := by
  have fr := h.2.2.1
  have hz := h.2.2.2.1
  have e3 : A.2.2.2 0 3 = 3 := (fr.2.2.2 0 3 rfl).trans h3
  have e4 : A.2.2.2 0 4 = 12 := (fr.2.2.2 0 4 rfl).trans h4
  refine ⟨⟨h.1, h.2.1, ⟨fun _ _ _ => rfl, fun _ _ _ => rfl, fun _ => rfl, fun _ _ _ => rfl⟩, ⟨Or.inl ⟨e3, e4⟩, ?_, fun T hT j => ?_, hVl.fr hz (fr.1 367 18 rfl) (fun c q1 q2 => fr.2.1 c (hlaw9 (R := fun c => hr_a 2 c) rfl c q1 q2)), ?_⟩, True.intro⟩, e3, e4, fr.1 367 2 rfl⟩
  · rw [e3]
    intro j hj
    have q := hz.2.1 j hj
    rw [h3] at q
    rw [fr.2.1 5 rfl j]
    exact q
  · show hVs (A.2.1 (T + 5) j)
    rcases hT with rfl | rfl
    · rw [fr.2.1 7 rfl j]; exact hz.2.2.1 2 (Or.inl rfl) j
    · exact h.2.2.2.2.2.1 j
  · rw [fr.1 367 18 rfl]
    exact hz.2.2.2.2
theorem hJ.swap2 (h : hJ 0 Bn Br A A) (h3 : A.2.2.2 0 3 = 3) (h4 : A.2.2.2 0 4 = 12) (hp : hPg A 14) : hJ 0 Bn Br (A.1, A.2.1, A.2.2.1, hs_upN (hs_upN A.2.2.2 0 3 12) 0 4 3) (A.1, A.2.1, A.2.2.1, hs_upN (hs_upN A.2.2.2 0 3 12) 0 4 3) := by
  have hz := h.2.2.2.1
  have e3 : hs_upN (hs_upN A.2.2.2 0 3 12) 0 4 3 0 3 = 12 := by simp [hs_upN]
  have e4 : hs_upN (hs_upN A.2.2.2 0 3 12) 0 4 3 0 4 = 3 := by simp [hs_upN]
  have e5 : hs_upN (hs_upN A.2.2.2 0 3 12) 0 4 3 323 5 = A.2.2.2 323 5 := by simp [hs_upN]
  refine ⟨⟨h.1.1, h.1.2.1, by show hs_upN (hs_upN A.2.2.2 0 3 12) 0 4 3 323 5 = 7 ∨ _; rw [e5]; exact h.1.2.2⟩, h.2.1, ⟨fun _ _ _ => rfl, fun _ _ _ => rfl, fun _ => rfl, fun _ _ _ => rfl⟩, ⟨Or.inr ⟨e3, e4⟩, ?_, hz.2.2.1, ?_, hz.2.2.2.2⟩, True.intro⟩
  · show hPg _ (hs_upN (hs_upN A.2.2.2 0 3 12) 0 4 3 0 3 + 2)
    rw [e3]
    exact hp
  · intro a ha hb
    exact (hz.2.2.2.1 a ha hb).imp id (fun q => ⟨q.1, q.2.1, fun b h3 h4 => q.2.2 b h3 h4⟩)
theorem hJ.to10 (h : hJ 0 Bn Br A A) : hJ 10 Bn Br A A := ⟨h.1, h.2.1, ⟨fun _ _ _ => rfl, fun _ _ _ => rfl, fun _ => rfl, fun _ _ _ => rfl⟩, h.2.2.2.1, True.intro⟩
theorem hJ.end10 (h : hJ 10 Bn Br A0 A) : hJ 0 Bn Br A A ∧ A.2.2.2 0 3 = A0.2.2.2 0 3 ∧ A.2.2.2 0 4 = A0.2.2.2 0 4 := by
  have fr := h.2.2.1
  have hz := h.2.2.2.1
  refine ⟨⟨h.1, h.2.1, ⟨fun _ _ _ => rfl, fun _ _ _ => rfl, fun _ => rfl, fun _ _ _ => rfl⟩, hz.mv (fr.2.2.2 0 3 rfl) (fr.2.2.2 0 4 rfl) (fun j => ⟨fr.2.1 5 rfl j, fr.2.1 14 rfl j⟩) (fun j => ⟨fr.2.1 7 rfl j, fr.2.1 16 rfl j⟩) (hVl.fr hz (fr.1 367 18 rfl) (fun c q1 q2 => fr.2.1 c (hlaw9 (R := fun c => hr_a 10 c) rfl c q1 q2))) ?_, True.intro⟩, fr.2.2.2 0 3 rfl, fr.2.2.2 0 4 rfl⟩
  rw [fr.1 367 18 rfl]
  exact hz.2.2.2.2
/-- the model's copy of the tape: mode 3 -/
theorem hJ.to3 (h : hJ 0 Bn Br A A) : hJ 3 Bn Br A A := ⟨h.1, h.2.1, ⟨fun _ _ _ => rfl, fun _ _ _ => rfl, fun _ => rfl, fun _ _ _ => rfl⟩, h.2.2.2.1, True.intro⟩
theorem hJ.end3 (h : hJ 3 Bn Br A0 A) : hJ 0 Bn Br A A ∧ A.1 0 1 = A0.1 0 1 ∧ A.1 367 18 = A0.1 367 18 := by
  have fr := h.2.2.1
  have hz := h.2.2.2.1
  refine ⟨⟨h.1, h.2.1, ⟨fun _ _ _ => rfl, fun _ _ _ => rfl, fun _ => rfl, fun _ _ _ => rfl⟩, hz.mv (fr.2.2.2 0 3 rfl) (fr.2.2.2 0 4 rfl) (fun j => ⟨fr.2.1 5 rfl j, fr.2.1 14 rfl j⟩) (fun j => ⟨fr.2.1 7 rfl j, fr.2.1 16 rfl j⟩) (hVl.fr hz (fr.1 367 18 rfl) (fun c q1 q2 => fr.2.1 c (hlaw9 (R := fun c => hr_a 3 c) rfl c q1 q2))) ?_, True.intro⟩, fr.1 0 1 rfl, fr.1 367 18 rfl⟩
  rw [fr.1 367 18 rfl]
  exact hz.2.2.2.2
end HEND
theorem hY74q21 {d : Nat} {N : Int} {A : hs_A} (hA : hJ 0 N (N + 72) A A) (h3 : A.2.2.2 0 3 = 12) (h4 : A.2.2.2 0 4 = 3) (hp : hPg A 5)  {P : Option Value → hs_A → Prop} (hP : ∀ (r : Option Value) (A' : hs_A), (hJ 0 (N + 72) (N + 144) A' A' ∧ r = none ∧ (A'.1 0 1 = A.1 0 1 ∧ A'.1 367 2 = A.1 367 2)) → P r A') : hxa (d + 1) none hm_t74 0 [.ref 1, .retAddr 0] [] A P := by
  obtain ⟨T0, hT0, -, eT0⟩ := hA.T
  refine hxa_aload_n (by rfl) rfl ?_
  refine hxj_getT (by rfl) (by rfl) (by rfl) h3 ?_
  refine hxa_astore_n (by rfl) rfl ?_
  refine hxa_aload_n (by rfl) rfl ?_
  refine hxa_aload_n (by rfl) rfl ?_
  refine hxj_getT (by rfl) (by rfl) (by rfl) h4 ?_
  refine hxa_putR (i := 0) (by rfl) (by rfl) (by rfl) (by rfl) ?_
  refine hxa_aload_n (by rfl) rfl ?_
  refine hxa_aload_n (by rfl) rfl ?_
  refine hxa_putR (i := 0) (by rfl) (by rfl) (by rfl) (by rfl) ?_
  have hsw := hJ.swap1 hA h3 h4 hp
  obtain ⟨W5, eW5⟩ : ∃ W : hs_A, W = (A.1, A.2.1, A.2.2.1, hs_upN (hs_upN A.2.2.2 0 3 3) 0 4 12) := ⟨_, rfl⟩
  rw [← eW5] at hsw
  have w03 : W5.2.2.2 0 3 = 3 := by rw [eW5]; simp [hs_upN]
  have w1 : W5.1 = A.1 := by rw [eW5]
  show hxa _ _ _ _ _ _ (A.1, A.2.1, A.2.2.1, hs_upN (hs_upN A.2.2.2 0 3 3) 0 4 12) _
  rw [← eW5]
  obtain ⟨T5, hT5, eT5⟩ : ∃ T, hTT T ∧ W5.2.2.2 0 3 = T + 1 := ⟨2, Or.inl rfl, w03⟩
  refine hxa_aload_n (by rfl) rfl ?_
  refine hxa_get (v := .ref 27) (by rfl) (by rfl) (by rfl) rfl ?_
  refine hxa_aload_n (by rfl) rfl ?_
  refine hxj_getT (by rfl) (by rfl) (by rfl) eT5 ?_
  refine hxa_call0 (by rfl) (by rfl) (by rfl) (by rfl) (by rfl) (by rfl) (hX16 (d := d + 0) hsw hL26 hT5 eT5) ?_
  rintro _ A1 ⟨hA1, rfl⟩
  refine hxa_aload_n (by rfl) rfl ?_
  refine hxa_get (v := .ref 41) (by rfl) (by rfl) (by rfl) rfl ?_
  refine hxa_iconst (by rfl) rfl ?_
  refine hxj_putI (by rfl) (by rfl) (by rfl) (by rfl) hA1 (hbok (by rfl) hk_0 (by omega) (by omega)) (by rfl) (by rfl) (fun A2 hA2 eA2 fA2 => ?_)
  refine hxa_aload_n (by rfl) rfl ?_
  refine hxa_get (v := .ref 341) (by rfl) (by rfl) (by rfl) rfl ?_
  refine hxa_iconst (by rfl) rfl ?_
  refine hxj_putI (by rfl) (by rfl) (by rfl) (by rfl) hA2 (hbok (by rfl) hk_0 (by omega) (by omega)) (by rfl) (by rfl) (fun A3 hA3 eA3 fA3 => ?_)
  refine hxa_aload_n (by rfl) rfl ?_
  refine hxa_iconst (by rfl) rfl ?_
  refine hxj_putI (by rfl) (by rfl) (by rfl) (by rfl) hA3 (hbokN (by rfl)) (by rfl) (by rfl) (fun A4 hA4 eA4 fA4 => ?_)
  refine hxa_aload_n (by rfl) rfl ?_
  refine hxa_get (v := .ref 329) (by rfl) (by rfl) (by rfl) rfl ?_
  refine hxa_iconst (by rfl) rfl ?_
  refine hxj_putI (by rfl) (by rfl) (by rfl) (by rfl) hA4 (hbok (by rfl) hk_0 (by omega) (by omega)) (by rfl) (by rfl) (fun A5 hA5 eA5 fA5 => ?_)
  exact hxa_return (by rfl) rfl (hP _ _ ⟨(hJ.mono (hJ.self hA5) (by omega) (by omega)), rfl, ⟨(hA5.2.2.1.1 0 1 (by rfl)).trans (congrFun (congrFun w1 0) 1), (hA5.2.2.1.1 367 2 (by rfl)).trans (congrFun (congrFun w1 367) 2)⟩⟩)
theorem hX74q21 {d : Nat} {N : Int} {A : hs_A} (hA : hJ 0 N (N + 72) A A) (h3 : A.2.2.2 0 3 = 12) (h4 : A.2.2.2 0 4 = 3) (hp : hPg A 5)  : hxC (d + 2) 74 hm_m74 [.ref 1] A (fun r A' => hJ 0 (N + 72) (N + 144) A' A' ∧ r = none ∧ (A'.1 0 1 = A.1 0 1 ∧ A'.1 367 2 = A.1 367 2)) := hxC.of (by rfl) (hY74q21 hA h3 h4 hp (fun r A' h => h))
theorem hY74q22 {d : Nat} {N : Int} {A : hs_A} (hA : hJ 0 N (N + 72) A A) (h3 : A.2.2.2 0 3 = 3) (h4 : A.2.2.2 0 4 = 12) (hp : hPg A 14)  {P : Option Value → hs_A → Prop} (hP : ∀ (r : Option Value) (A' : hs_A), (hJ 0 (N + 72) (N + 144) A' A' ∧ r = none ∧ (A'.1 0 1 = A.1 0 1 ∧ A'.1 367 2 = A.1 367 2)) → P r A') : hxa (d + 1) none hm_t74 0 [.ref 1, .retAddr 0] [] A P := by
  obtain ⟨T0, hT0, -, eT0⟩ := hA.T
  refine hxa_aload_n (by rfl) rfl ?_
  refine hxj_getT (by rfl) (by rfl) (by rfl) h3 ?_
  refine hxa_astore_n (by rfl) rfl ?_
  refine hxa_aload_n (by rfl) rfl ?_
  refine hxa_aload_n (by rfl) rfl ?_
  refine hxj_getT (by rfl) (by rfl) (by rfl) h4 ?_
  refine hxa_putR (i := 0) (by rfl) (by rfl) (by rfl) (by rfl) ?_
  refine hxa_aload_n (by rfl) rfl ?_
  refine hxa_aload_n (by rfl) rfl ?_
  refine hxa_putR (i := 0) (by rfl) (by rfl) (by rfl) (by rfl) ?_
  have hsw := hJ.swap2 hA h3 h4 hp
  obtain ⟨W5, eW5⟩ : ∃ W : hs_A, W = (A.1, A.2.1, A.2.2.1, hs_upN (hs_upN A.2.2.2 0 3 12) 0 4 3) := ⟨_, rfl⟩
  rw [← eW5] at hsw
  have w03 : W5.2.2.2 0 3 = 12 := by rw [eW5]; simp [hs_upN]
  have w1 : W5.1 = A.1 := by rw [eW5]
  show hxa _ _ _ _ _ _ (A.1, A.2.1, A.2.2.1, hs_upN (hs_upN A.2.2.2 0 3 12) 0 4 3) _
  rw [← eW5]
  obtain ⟨T5, hT5, eT5⟩ : ∃ T, hTT T ∧ W5.2.2.2 0 3 = T + 1 := ⟨11, Or.inr rfl, w03⟩
  refine hxa_aload_n (by rfl) rfl ?_
  refine hxa_get (v := .ref 27) (by rfl) (by rfl) (by rfl) rfl ?_
  refine hxa_aload_n (by rfl) rfl ?_
  refine hxj_getT (by rfl) (by rfl) (by rfl) eT5 ?_
  refine hxa_call0 (by rfl) (by rfl) (by rfl) (by rfl) (by rfl) (by rfl) (hX16 (d := d + 0) hsw hL26 hT5 eT5) ?_
  rintro _ A1 ⟨hA1, rfl⟩
  refine hxa_aload_n (by rfl) rfl ?_
  refine hxa_get (v := .ref 41) (by rfl) (by rfl) (by rfl) rfl ?_
  refine hxa_iconst (by rfl) rfl ?_
  refine hxj_putI (by rfl) (by rfl) (by rfl) (by rfl) hA1 (hbok (by rfl) hk_0 (by omega) (by omega)) (by rfl) (by rfl) (fun A2 hA2 eA2 fA2 => ?_)
  refine hxa_aload_n (by rfl) rfl ?_
  refine hxa_get (v := .ref 341) (by rfl) (by rfl) (by rfl) rfl ?_
  refine hxa_iconst (by rfl) rfl ?_
  refine hxj_putI (by rfl) (by rfl) (by rfl) (by rfl) hA2 (hbok (by rfl) hk_0 (by omega) (by omega)) (by rfl) (by rfl) (fun A3 hA3 eA3 fA3 => ?_)
  refine hxa_aload_n (by rfl) rfl ?_
  refine hxa_iconst (by rfl) rfl ?_
  refine hxj_putI (by rfl) (by rfl) (by rfl) (by rfl) hA3 (hbokN (by rfl)) (by rfl) (by rfl) (fun A4 hA4 eA4 fA4 => ?_)
  refine hxa_aload_n (by rfl) rfl ?_
  refine hxa_get (v := .ref 329) (by rfl) (by rfl) (by rfl) rfl ?_
  refine hxa_iconst (by rfl) rfl ?_
  refine hxj_putI (by rfl) (by rfl) (by rfl) (by rfl) hA4 (hbok (by rfl) hk_0 (by omega) (by omega)) (by rfl) (by rfl) (fun A5 hA5 eA5 fA5 => ?_)
  exact hxa_return (by rfl) rfl (hP _ _ ⟨(hJ.mono (hJ.self hA5) (by omega) (by omega)), rfl, ⟨(hA5.2.2.1.1 0 1 (by rfl)).trans (congrFun (congrFun w1 0) 1), (hA5.2.2.1.1 367 2 (by rfl)).trans (congrFun (congrFun w1 367) 2)⟩⟩)
theorem hX74q22 {d : Nat} {N : Int} {A : hs_A} (hA : hJ 0 N (N + 72) A A) (h3 : A.2.2.2 0 3 = 3) (h4 : A.2.2.2 0 4 = 12) (hp : hPg A 14)  : hxC (d + 2) 74 hm_m74 [.ref 1] A (fun r A' => hJ 0 (N + 72) (N + 144) A' A' ∧ r = none ∧ (A'.1 0 1 = A.1 0 1 ∧ A'.1 367 2 = A.1 367 2)) := hxC.of (by rfl) (hY74q22 hA h3 h4 hp (fun r A' h => h))
theorem hY73q21 {d : Nat} {N : Int} {A : hs_A} (hA : hJ 0 N (N + 72) A A) (h3 : A.2.2.2 0 3 = 12) (h4 : A.2.2.2 0 4 = 3)  {P : Option Value → hs_A → Prop} (hP : ∀ (r : Option Value) (A' : hs_A), (hJ 0 (N + 72) (N + 144) A' A' ∧ ∃ z : Int32, r = some (.int z) ∧ ((A'.1 0 1).toInt = 0 ∧ A'.1 367 2 = A.1 367 2)) → P r A') : hxa (d + 25) (some (.int)) hm_t73 0 [.ref 1, .retAddr 0] [] A P := by
  refine hxa_aload_n (by rfl) rfl ?_
  refine hxa_get (v := .ref 21) (by rfl) (by rfl) (by rfl) rfl ?_
  refine hxa_aload_n (by rfl) rfl ?_
  refine hxj_getT (by rfl) (by rfl) (by rfl) h4 ?_
  refine hxa_aload_n (by rfl) rfl ?_
  refine hxa_get (v := .ref 2) (by rfl) (by rfl) (by rfl) rfl ?_
  refine hxa_aload_n (by rfl) rfl ?_
  refine hxj_getB (by rfl) (by rfl) (by rfl) hA (by rfl) (fun z1 ez1 fz1 gz1 => ?_)
  refine hxa_call0 (by rfl) (by rfl) (by rfl) (by rfl) (by rfl) (by rfl) (hX37q1 (d := d + 0) hA z1 (by omega) (by omega)) ?_
  rintro _ A2 ⟨hA2, z3, rfl, fz3⟩
  have hen := hJ.end1 hA2 h3 h4
  have h10 := hJ.to10 hen.1
  refine hxa_s1 (by rfl) (Or.inl ⟨_, rfl, rfl⟩) rfl ?_
  refine hxa_aload_n (by rfl) rfl ?_
  refine hxa_iconst (by rfl) rfl ?_
  refine hxj_putI (by rfl) (by rfl) (by rfl) (by rfl) h10 (hbok (by rfl) hk_0 (by omega) (by omega)) (by rfl) (by rfl) (fun A4 hA4 eA4 fA4 => ?_)
  refine hxa_aload_n (by rfl) rfl ?_
  refine hxa_aload_n (by rfl) rfl ?_
  refine hxa_get (v := .ref 21) (by rfl) (by rfl) (by rfl) rfl ?_
  refine hxj_getI (by rfl) (by rfl) (by rfl) (fun z5 ez5 => ?_)
  refine hxj_putI (by rfl) (by rfl) (by rfl) (by rfl) hA4 (hbokN (by rfl)) (by rfl) (by rfl) (fun A6 hA6 eA6 fA6 => ?_)
  refine hxa_iload_n (by rfl) rfl ?_
  refine hxj_zne (by rfl) rfl (fun q7 => ?_) (fun q7 => ?_)
  ·
    refine hxa_iload_n (by rfl) rfl ?_
    have he := hJ.end10 hA6
    exact hxa_ireturn (by rfl) rfl (hP _ _ ⟨(hJ.mono he.1 (by omega) (by omega)), _, rfl, ⟨by rw [(show A6.1 0 1 = (Int32.ofNat 0) from (hkF eA6 (by first | decide | omega) (hkS eA4)))]; decide, Eq.trans (hkF eA6 (by first | decide | omega) (hkF eA4 (by first | decide | omega) rfl)) hen.2.2.2⟩⟩)
  ·
    refine hxa_aload_n (by rfl) rfl ?_
    have he := hJ.end10 hA6
    have hpg : hPg A6 5 := fun j hj => by rw [hA6.2.2.1.2.1 5 (by rfl) j]; exact (fz3 (by omega)) j hj
    refine hxa_call0 (by rfl) (by rfl) (by rfl) (by rfl) (by rfl) (by rfl) (hX74q21 (d := d + 23) he.1 (he.2.1.trans hen.2.1) (he.2.2.trans hen.2.2.1) hpg) ?_
    rintro _ A8 ⟨hA8, rfl, fA8⟩
    refine hxa_iload_n (by rfl) rfl ?_
    exact hxa_ireturn (by rfl) rfl (hP _ _ ⟨(hJ.mono hA8 (by omega) (by omega)), _, rfl, ⟨by rw [(show A8.1 0 1 = (Int32.ofNat 0) from ((fA8.1).trans (hkF eA6 (by first | decide | omega) (hkS eA4))))]; decide, ((fA8.2).trans (Eq.trans (hkF eA6 (by first | decide | omega) (hkF eA4 (by first | decide | omega) rfl)) hen.2.2.2))⟩⟩)
theorem hX73q21 {d : Nat} {N : Int} {A : hs_A} (hA : hJ 0 N (N + 72) A A) (h3 : A.2.2.2 0 3 = 12) (h4 : A.2.2.2 0 4 = 3)  : hxC (d + 26) 73 hm_m73 [.ref 1] A (fun r A' => hJ 0 (N + 72) (N + 144) A' A' ∧ ∃ z : Int32, r = some (.int z) ∧ ((A'.1 0 1).toInt = 0 ∧ A'.1 367 2 = A.1 367 2)) := hxC.of (by rfl) (hY73q21 hA h3 h4 (fun r A' h => h))
theorem hY73q22 {d : Nat} {N : Int} {A : hs_A} (hA : hJ 0 N (N + 72) A A) (h3 : A.2.2.2 0 3 = 3) (h4 : A.2.2.2 0 4 = 12)  {P : Option Value → hs_A → Prop} (hP : ∀ (r : Option Value) (A' : hs_A), (hJ 0 (N + 72) (N + 144) A' A' ∧ ∃ z : Int32, r = some (.int z) ∧ ((A'.1 0 1).toInt = 0 ∧ A'.1 367 2 = A.1 367 2)) → P r A') : hxa (d + 25) (some (.int)) hm_t73 0 [.ref 1, .retAddr 0] [] A P := by
  refine hxa_aload_n (by rfl) rfl ?_
  refine hxa_get (v := .ref 21) (by rfl) (by rfl) (by rfl) rfl ?_
  refine hxa_aload_n (by rfl) rfl ?_
  refine hxj_getT (by rfl) (by rfl) (by rfl) h4 ?_
  refine hxa_aload_n (by rfl) rfl ?_
  refine hxa_get (v := .ref 2) (by rfl) (by rfl) (by rfl) rfl ?_
  refine hxa_aload_n (by rfl) rfl ?_
  refine hxj_getB (by rfl) (by rfl) (by rfl) hA (by rfl) (fun z1 ez1 fz1 gz1 => ?_)
  refine hxa_call0 (by rfl) (by rfl) (by rfl) (by rfl) (by rfl) (by rfl) (hX37q2 (d := d + 0) hA z1 (by omega) (by omega)) ?_
  rintro _ A2 ⟨hA2, z3, rfl, fz3⟩
  have hen := hJ.end2 hA2 h3 h4
  have h10 := hJ.to10 hen.1
  refine hxa_s1 (by rfl) (Or.inl ⟨_, rfl, rfl⟩) rfl ?_
  refine hxa_aload_n (by rfl) rfl ?_
  refine hxa_iconst (by rfl) rfl ?_
  refine hxj_putI (by rfl) (by rfl) (by rfl) (by rfl) h10 (hbok (by rfl) hk_0 (by omega) (by omega)) (by rfl) (by rfl) (fun A4 hA4 eA4 fA4 => ?_)
  refine hxa_aload_n (by rfl) rfl ?_
  refine hxa_aload_n (by rfl) rfl ?_
  refine hxa_get (v := .ref 21) (by rfl) (by rfl) (by rfl) rfl ?_
  refine hxj_getI (by rfl) (by rfl) (by rfl) (fun z5 ez5 => ?_)
  refine hxj_putI (by rfl) (by rfl) (by rfl) (by rfl) hA4 (hbokN (by rfl)) (by rfl) (by rfl) (fun A6 hA6 eA6 fA6 => ?_)
  refine hxa_iload_n (by rfl) rfl ?_
  refine hxj_zne (by rfl) rfl (fun q7 => ?_) (fun q7 => ?_)
  ·
    refine hxa_iload_n (by rfl) rfl ?_
    have he := hJ.end10 hA6
    exact hxa_ireturn (by rfl) rfl (hP _ _ ⟨(hJ.mono he.1 (by omega) (by omega)), _, rfl, ⟨by rw [(show A6.1 0 1 = (Int32.ofNat 0) from (hkF eA6 (by first | decide | omega) (hkS eA4)))]; decide, Eq.trans (hkF eA6 (by first | decide | omega) (hkF eA4 (by first | decide | omega) rfl)) hen.2.2.2⟩⟩)
  ·
    refine hxa_aload_n (by rfl) rfl ?_
    have he := hJ.end10 hA6
    have hpg : hPg A6 14 := fun j hj => by rw [hA6.2.2.1.2.1 14 (by rfl) j]; exact (fz3 (by omega)) j hj
    refine hxa_call0 (by rfl) (by rfl) (by rfl) (by rfl) (by rfl) (by rfl) (hX74q22 (d := d + 23) he.1 (he.2.1.trans hen.2.1) (he.2.2.trans hen.2.2.1) hpg) ?_
    rintro _ A8 ⟨hA8, rfl, fA8⟩
    refine hxa_iload_n (by rfl) rfl ?_
    exact hxa_ireturn (by rfl) rfl (hP _ _ ⟨(hJ.mono hA8 (by omega) (by omega)), _, rfl, ⟨by rw [(show A8.1 0 1 = (Int32.ofNat 0) from ((fA8.1).trans (hkF eA6 (by first | decide | omega) (hkS eA4))))]; decide, ((fA8.2).trans (Eq.trans (hkF eA6 (by first | decide | omega) (hkF eA4 (by first | decide | omega) rfl)) hen.2.2.2))⟩⟩)
theorem hX73q22 {d : Nat} {N : Int} {A : hs_A} (hA : hJ 0 N (N + 72) A A) (h3 : A.2.2.2 0 3 = 3) (h4 : A.2.2.2 0 4 = 12)  : hxC (d + 26) 73 hm_m73 [.ref 1] A (fun r A' => hJ 0 (N + 72) (N + 144) A' A' ∧ ∃ z : Int32, r = some (.int z) ∧ ((A'.1 0 1).toInt = 0 ∧ A'.1 367 2 = A.1 367 2)) := hxC.of (by rfl) (hY73q22 hA h3 h4 (fun r A' h => h))
theorem hY150q4_1 {d : Nat} {N : Int} {A : hs_A} (hA : hJ 0 N (N + 72) A A) (hN : N ≤ 900000) (hl : (A.1 367 18).toInt = 1)  {P : Option Value → hs_A → Prop} (hP : ∀ (r : Option Value) (A' : hs_A), (hJ 0 (N + 72) (N + 144) A' A' ∧ ∃ z : Int32, r = some (.int z) ∧ ((A'.1 367 2).toInt = 0 ∧ A'.1 0 1 = A.1 0 1)) → P r A') : hxa (d + 7) (some (.int)) hm_t150 0 [.ref 368, .retAddr 0] [] A P := by
  have k0 := hk_0
  have hA3 := hJ.to3 hA
  have L10 : ∀ (m10 : Nat) (x10_1 : Int32) (Ac10 : hs_A) (hAc10 : hJ 3 N (N + 72) A Ac10) (bx10_1 : 0 ≤ x10_1.toInt) (cx10_1 : x10_1.toInt ≤ 2000) (hm10 : 2000 - x10_1.toInt < (m10 : Int)), hxa (d + 7) (some (.int)) hm_t150 10 [.ref 368, .int x10_1] [] Ac10 P := by
    intro m10
    induction m10 with
    | zero => intro x10_1 Ac10 hAc10 bx10_1 cx10_1 hm10;  exact False.elim (by omega)
    | succ m10 ih10 =>
      intro x10_1 Ac10 hAc10 bx10_1 cx10_1 hm10
      refine hxa_iload_n (by rfl) rfl ?_
      refine hxa_aload_n (by rfl) rfl ?_
      refine hxj_getB (by rfl) (by rfl) (by rfl) hAc10 (by rfl) (fun z1 ez1 fz1 gz1 => ?_)
      refine hxj_cge (by rfl) rfl rfl (fun q2 => ?_) (fun q2 => ?_)
      ·
        refine hxa_aload_n (by rfl) rfl ?_
        refine hxa_iconst (by rfl) rfl ?_
        refine hxj_putI (by rfl) (by rfl) (by rfl) (by rfl) hAc10 (hbok (by rfl) hk_0 (by omega) (by omega)) (by rfl) (by rfl) (fun A3 hA3 eA3 fA3 => ?_)
        have he := hJ.end3 hA3
        exact hY150q4 (d := d) he.1 hN (by rw [he.2.2]; exact hl) (by rw [(show A3.1 367 2 = (Int32.ofNat 0) from (hkS eA3))]; decide) (.int x10_1) (fun r A2 h => hP r A2 ⟨h.1, h.2.imp (fun z w => ⟨w.1, w.2.1, w.2.2.trans he.2.1⟩)⟩)
      ·
        refine hxa_aload_n (by rfl) rfl ?_
        refine hxa_get (v := .ref 370) (by rfl) (by rfl) (by rfl) rfl ?_
        refine hxa_iload_n (by rfl) rfl ?_
        refine hxa_aload_n (by rfl) rfl ?_
        refine hxa_get (v := .ref 369) (by rfl) (by rfl) (by rfl) rfl ?_
        refine hxa_iload_n (by rfl) rfl ?_
        refine hxj_bald (by rfl) (by rfl) rfl (by omega) (by omega) (fun z4 ez4 => ?_)
        refine hxj_bast (by rfl) (by rfl) rfl (by omega) (by omega) hAc10 (by rfl) (by rfl) (by rfl) (fun A5 hA5 eA5 fA5 gA5 => ?_)
        refine hxj_iinc (by rfl) rfl rfl hk_1 (by omega) (by omega) (fun _ => rfl) (fun z6 ez6 => ?_)
        refine hxa_goto (by rfl) ?_
        exact ih10 z6 A5 hA5 (by omega) (by omega) (by omega)
  refine hxa_aload_n (by rfl) rfl ?_
  refine hxa_aload_n (by rfl) rfl ?_
  refine hxj_getB (by rfl) (by rfl) (by rfl) hA3 (by rfl) (fun z7 ez7 fz7 gz7 => ?_)
  refine hxj_putI (by rfl) (by rfl) (by rfl) (by rfl) hA3 (hbok (by rfl) rfl (by omega) (by omega)) (by rfl) (by rfl) (fun A8 hA8 eA8 fA8 => ?_)
  refine hxa_iconst (by rfl) rfl ?_
  refine hxa_s1 (by rfl) (Or.inl ⟨_, rfl, rfl⟩) rfl ?_
  exact L10 (Int.toNat (2000 - 0) + 1) (Int32.ofNat 0) A8 hA8 (by omega) (by omega) (by omega)
theorem hX150q4_1 {d : Nat} {N : Int} {A : hs_A} (hA : hJ 0 N (N + 72) A A) (hN : N ≤ 900000) (hl : (A.1 367 18).toInt = 1)  : hxC (d + 8) 150 hm_m150 [.ref 368] A (fun r A' => hJ 0 (N + 72) (N + 144) A' A' ∧ ∃ z : Int32, r = some (.int z) ∧ ((A'.1 367 2).toInt = 0 ∧ A'.1 0 1 = A.1 0 1)) := hxC.of (by rfl) (hY150q4_1 hA hN hl (fun r A' h => h))
theorem hY150q5_1 {d : Nat} {N : Int} {A : hs_A} (hA : hJ 0 N (N + 72) A A) (hN : N ≤ 900000) (hl : (A.1 367 18).toInt = 0)  {P : Option Value → hs_A → Prop} (hP : ∀ (r : Option Value) (A' : hs_A), (hJ 0 (N + 72) (N + 144) A' A' ∧ ∃ z : Int32, r = some (.int z) ∧ ((A'.1 367 2).toInt = 0 ∧ A'.1 0 1 = A.1 0 1)) → P r A') : hxa (d + 7) (some (.int)) hm_t150 0 [.ref 368, .retAddr 0] [] A P := by
  have k0 := hk_0
  have hA3 := hJ.to3 hA
  have L10 : ∀ (m10 : Nat) (x10_1 : Int32) (Ac10 : hs_A) (hAc10 : hJ 3 N (N + 72) A Ac10) (bx10_1 : 0 ≤ x10_1.toInt) (cx10_1 : x10_1.toInt ≤ 2000) (hm10 : 2000 - x10_1.toInt < (m10 : Int)), hxa (d + 7) (some (.int)) hm_t150 10 [.ref 368, .int x10_1] [] Ac10 P := by
    intro m10
    induction m10 with
    | zero => intro x10_1 Ac10 hAc10 bx10_1 cx10_1 hm10;  exact False.elim (by omega)
    | succ m10 ih10 =>
      intro x10_1 Ac10 hAc10 bx10_1 cx10_1 hm10
      refine hxa_iload_n (by rfl) rfl ?_
      refine hxa_aload_n (by rfl) rfl ?_
      refine hxj_getB (by rfl) (by rfl) (by rfl) hAc10 (by rfl) (fun z1 ez1 fz1 gz1 => ?_)
      refine hxj_cge (by rfl) rfl rfl (fun q2 => ?_) (fun q2 => ?_)
      ·
        refine hxa_aload_n (by rfl) rfl ?_
        refine hxa_iconst (by rfl) rfl ?_
        refine hxj_putI (by rfl) (by rfl) (by rfl) (by rfl) hAc10 (hbok (by rfl) hk_0 (by omega) (by omega)) (by rfl) (by rfl) (fun A3 hA3 eA3 fA3 => ?_)
        have he := hJ.end3 hA3
        exact hY150q5 (d := d) he.1 hN (by rw [he.2.2]; exact hl) (by rw [(show A3.1 367 2 = (Int32.ofNat 0) from (hkS eA3))]; decide) (.int x10_1) (fun r A2 h => hP r A2 ⟨h.1, h.2.imp (fun z w => ⟨w.1, w.2.1, w.2.2.trans he.2.1⟩)⟩)
      ·
        refine hxa_aload_n (by rfl) rfl ?_
        refine hxa_get (v := .ref 370) (by rfl) (by rfl) (by rfl) rfl ?_
        refine hxa_iload_n (by rfl) rfl ?_
        refine hxa_aload_n (by rfl) rfl ?_
        refine hxa_get (v := .ref 369) (by rfl) (by rfl) (by rfl) rfl ?_
        refine hxa_iload_n (by rfl) rfl ?_
        refine hxj_bald (by rfl) (by rfl) rfl (by omega) (by omega) (fun z4 ez4 => ?_)
        refine hxj_bast (by rfl) (by rfl) rfl (by omega) (by omega) hAc10 (by rfl) (by rfl) (by rfl) (fun A5 hA5 eA5 fA5 gA5 => ?_)
        refine hxj_iinc (by rfl) rfl rfl hk_1 (by omega) (by omega) (fun _ => rfl) (fun z6 ez6 => ?_)
        refine hxa_goto (by rfl) ?_
        exact ih10 z6 A5 hA5 (by omega) (by omega) (by omega)
  refine hxa_aload_n (by rfl) rfl ?_
  refine hxa_aload_n (by rfl) rfl ?_
  refine hxj_getB (by rfl) (by rfl) (by rfl) hA3 (by rfl) (fun z7 ez7 fz7 gz7 => ?_)
  refine hxj_putI (by rfl) (by rfl) (by rfl) (by rfl) hA3 (hbok (by rfl) rfl (by omega) (by omega)) (by rfl) (by rfl) (fun A8 hA8 eA8 fA8 => ?_)
  refine hxa_iconst (by rfl) rfl ?_
  refine hxa_s1 (by rfl) (Or.inl ⟨_, rfl, rfl⟩) rfl ?_
  exact L10 (Int.toNat (2000 - 0) + 1) (Int32.ofNat 0) A8 hA8 (by omega) (by omega) (by omega)
theorem hX150q5_1 {d : Nat} {N : Int} {A : hs_A} (hA : hJ 0 N (N + 72) A A) (hN : N ≤ 900000) (hl : (A.1 367 18).toInt = 0)  : hxC (d + 8) 150 hm_m150 [.ref 368] A (fun r A' => hJ 0 (N + 72) (N + 144) A' A' ∧ ∃ z : Int32, r = some (.int z) ∧ ((A'.1 367 2).toInt = 0 ∧ A'.1 0 1 = A.1 0 1)) := hxC.of (by rfl) (hY150q5_1 hA hN hl (fun r A' h => h))
/-! THE WORLD BEHIND THE CONSTRUCTORS, described -/
def hy_c0 : List (Option hc_C) := [some (.inr (9, [.ref 2, .int 0, .int (-1), .ref 3, .ref 12, .ref 21, .ref 27, .ref 34, .ref 41, .ref 323, .int 0, .ref 324, .ref 329, .ref 341, .ref 344, .ref 345, .ref 346])), some (.inl (0, List.replicate 2000 (.int 0))), some (.inr (5, [.ref 4, .ref 5, .ref 6, .ref 7, .int 0, .int 0, .int 6, .int 0])), some (.inl (1, [.int 0, .int 0, .int 0, .int 0, .int 0, .int 0, .int 0, .int 0, .int 0, .int 0])), some (.inl (1, [.int 0, .int 0, .int 0, .int 0, .int 0, .int 0, .int 0, .int 0, .int 0, .int 0])), some (.inl (1, List.replicate 24 (.int 0))), some (.inr (1, [.ref 8, .ref 9, .ref 10, .ref 11, .int 8, .int 0])), some (.inl (1, [.int 8, .int 7, .int 0, .int 7, .int 0, .int 7, .int 0, .int 7] ++ List.replicate 400 (.int 0))), some (.inl (1, [.int 0, .int 2, .int 4, .int 6])), some (.inl (1, [.int 0, .int 0, .int 0, .int 0])), some (.inl (1, List.replicate 16 (.int 0))), some (.inr (5, [.ref 13, .ref 14, .ref 15, .ref 16, .int 0, .int 0, .int 0, .int 0])), some (.inl (1, [.int 0, .int 0, .int 0, .int 0, .int 0, .int 0, .int 0, .int 0, .int 0, .int 0])), some (.inl (1, [.int 0, .int 0, .int 0, .int 0, .int 0, .int 0, .int 0, .int 0, .int 0, .int 0])), some (.inl (1, List.replicate 24 (.int 0))), some (.inr (1, [.ref 17, .ref 18, .ref 19, .ref 20, .int 0, .int 0])), some (.inl (1, List.replicate 408 (.int 0))), some (.inl (1, [.int 0, .int 0, .int 0, .int 0])), some (.inl (1, [.int 0, .int 0, .int 0, .int 0])), some (.inl (1, List.replicate 16 (.int 0))), some (.inr (4, [.ref 22, .ref 26, .ref 12, .int 0, .int 0, .int 0, .int 0, .int 0, .int 0])), some (.inr (6, [.ref 23, .ref 24, .ref 25, .int 0])), some (.inl (1, List.replicate 401 (.int 0))), some (.inl (2, List.replicate 401 (.long 0))), some (.inl (1, List.replicate 401 (.int 0))), some (.inl (2, [.long 0, .long 0, .long 0, .long 0, .long 0, .long 0, .long 0, .long 0, .long 0, .long 0])), some (.inr (2, [.ref 28, .ref 29, .ref 30, .ref 31, .ref 32, .ref 33, .int 0, .int 0, .int (-1), .int 0, .int 0])), some (.inl (1, [.int 0, .int 0, .int 0, .int 0, .int 0, .int 0, .int 0, .int 0, .int 0, .int 0])), some (.inl (1, [.int 0, .int 0, .int 0, .int 0, .int 0, .int 0, .int 0, .int 0, .int 0, .int 0])), some (.inl (1, [.int 0, .int 0, .int 0, .int 0, .int 0, .int 0, .int 0, .int 0, .int 0, .int 0])), some (.inl (1, [.int 0, .int 1, .int 2, .int 3, .int 4, .int 5, .int 6, .int 7, .int 8, .int 9])), some (.inl (1, [.int 0, .int 0, .int 0, .int 0, .int 0, .int 0, .int 0, .int 0, .int 0, .int 0]))]
def hy_c1 : List (Option hc_C) := [some (.inl (1, [.int 0, .int 0, .int 0, .int 0, .int 0, .int 0, .int 0, .int 0, .int 0, .int 0])), some (.inr (2, [.ref 35, .ref 36, .ref 37, .ref 38, .ref 39, .ref 40, .int 0, .int 0, .int (-1), .int 0, .int 0])), some (.inl (1, [.int 0, .int 0, .int 0, .int 0, .int 0, .int 0, .int 0, .int 0, .int 0, .int 0])), some (.inl (1, [.int 0, .int 0, .int 0, .int 0, .int 0, .int 0, .int 0, .int 0, .int 0, .int 0])), some (.inl (1, [.int 0, .int 0, .int 0, .int 0, .int 0, .int 0, .int 0, .int 0, .int 0, .int 0])), some (.inl (1, [.int 0, .int 0, .int 0, .int 0, .int 0, .int 0, .int 0, .int 0, .int 0, .int 0])), some (.inl (1, [.int 0, .int 0, .int 0, .int 0, .int 0, .int 0, .int 0, .int 0, .int 0, .int 0])), some (.inl (1, [.int 0, .int 0, .int 0, .int 0, .int 0, .int 0, .int 0, .int 0, .int 0, .int 0])), some (.inr (3, [.ref 42, .int 0, .int 0])), some (.inl (4, [.ref 43, .ref 50, .ref 57, .ref 64, .ref 71, .ref 78, .ref 85, .ref 92, .ref 99, .ref 106, .ref 113, .ref 120, .ref 127, .ref 134, .ref 141, .ref 148, .ref 155, .ref 162, .ref 169, .ref 176, .ref 183, .ref 190, .ref 197, .ref 204, .ref 211, .ref 218, .ref 225, .ref 232, .ref 239, .ref 246, .ref 253, .ref 260, .ref 267, .ref 274, .ref 281, .ref 288, .ref 295, .ref 302, .ref 309, .ref 316])), some (.inr (2, [.ref 44, .ref 45, .ref 46, .ref 47, .ref 48, .ref 49, .int 0, .int 0, .int (-1), .int 0, .int 0])), some (.inl (1, [.int 0, .int 0, .int 0, .int 0, .int 0, .int 0, .int 0, .int 0, .int 0, .int 0])), some (.inl (1, [.int 0, .int 0, .int 0, .int 0, .int 0, .int 0, .int 0, .int 0, .int 0, .int 0])), some (.inl (1, [.int 0, .int 0, .int 0, .int 0, .int 0, .int 0, .int 0, .int 0, .int 0, .int 0])), some (.inl (1, [.int 0, .int 0, .int 0, .int 0, .int 0, .int 0, .int 0, .int 0, .int 0, .int 0])), some (.inl (1, [.int 0, .int 0, .int 0, .int 0, .int 0, .int 0, .int 0, .int 0, .int 0, .int 0])), some (.inl (1, [.int 0, .int 0, .int 0, .int 0, .int 0, .int 0, .int 0, .int 0, .int 0, .int 0])), some (.inr (2, [.ref 51, .ref 52, .ref 53, .ref 54, .ref 55, .ref 56, .int 0, .int 0, .int (-1), .int 0, .int 0])), some (.inl (1, [.int 0, .int 0, .int 0, .int 0, .int 0, .int 0, .int 0, .int 0, .int 0, .int 0])), some (.inl (1, [.int 0, .int 0, .int 0, .int 0, .int 0, .int 0, .int 0, .int 0, .int 0, .int 0])), some (.inl (1, [.int 0, .int 0, .int 0, .int 0, .int 0, .int 0, .int 0, .int 0, .int 0, .int 0])), some (.inl (1, [.int 0, .int 0, .int 0, .int 0, .int 0, .int 0, .int 0, .int 0, .int 0, .int 0])), some (.inl (1, [.int 0, .int 0, .int 0, .int 0, .int 0, .int 0, .int 0, .int 0, .int 0, .int 0])), some (.inl (1, [.int 0, .int 0, .int 0, .int 0, .int 0, .int 0, .int 0, .int 0, .int 0, .int 0])), some (.inr (2, [.ref 58, .ref 59, .ref 60, .ref 61, .ref 62, .ref 63, .int 0, .int 0, .int (-1), .int 0, .int 0])), some (.inl (1, [.int 0, .int 0, .int 0, .int 0, .int 0, .int 0, .int 0, .int 0, .int 0, .int 0])), some (.inl (1, [.int 0, .int 0, .int 0, .int 0, .int 0, .int 0, .int 0, .int 0, .int 0, .int 0])), some (.inl (1, [.int 0, .int 0, .int 0, .int 0, .int 0, .int 0, .int 0, .int 0, .int 0, .int 0])), some (.inl (1, [.int 0, .int 0, .int 0, .int 0, .int 0, .int 0, .int 0, .int 0, .int 0, .int 0])), some (.inl (1, [.int 0, .int 0, .int 0, .int 0, .int 0, .int 0, .int 0, .int 0, .int 0, .int 0])), some (.inl (1, [.int 0, .int 0, .int 0, .int 0, .int 0, .int 0, .int 0, .int 0, .int 0, .int 0])), some (.inr (2, [.ref 65, .ref 66, .ref 67, .ref 68, .ref 69, .ref 70, .int 0, .int 0, .int (-1), .int 0, .int 0]))]
def hy_c2 : List (Option hc_C) := [some (.inl (1, [.int 0, .int 0, .int 0, .int 0, .int 0, .int 0, .int 0, .int 0, .int 0, .int 0])), some (.inl (1, [.int 0, .int 0, .int 0, .int 0, .int 0, .int 0, .int 0, .int 0, .int 0, .int 0])), some (.inl (1, [.int 0, .int 0, .int 0, .int 0, .int 0, .int 0, .int 0, .int 0, .int 0, .int 0])), some (.inl (1, [.int 0, .int 0, .int 0, .int 0, .int 0, .int 0, .int 0, .int 0, .int 0, .int 0])), some (.inl (1, [.int 0, .int 0, .int 0, .int 0, .int 0, .int 0, .int 0, .int 0, .int 0, .int 0])), some (.inl (1, [.int 0, .int 0, .int 0, .int 0, .int 0, .int 0, .int 0, .int 0, .int 0, .int 0])), some (.inr (2, [.ref 72, .ref 73, .ref 74, .ref 75, .ref 76, .ref 77, .int 0, .int 0, .int (-1), .int 0, .int 0])), some (.inl (1, [.int 0, .int 0, .int 0, .int 0, .int 0, .int 0, .int 0, .int 0, .int 0, .int 0])), some (.inl (1, [.int 0, .int 0, .int 0, .int 0, .int 0, .int 0, .int 0, .int 0, .int 0, .int 0])), some (.inl (1, [.int 0, .int 0, .int 0, .int 0, .int 0, .int 0, .int 0, .int 0, .int 0, .int 0])), some (.inl (1, [.int 0, .int 0, .int 0, .int 0, .int 0, .int 0, .int 0, .int 0, .int 0, .int 0])), some (.inl (1, [.int 0, .int 0, .int 0, .int 0, .int 0, .int 0, .int 0, .int 0, .int 0, .int 0])), some (.inl (1, [.int 0, .int 0, .int 0, .int 0, .int 0, .int 0, .int 0, .int 0, .int 0, .int 0])), some (.inr (2, [.ref 79, .ref 80, .ref 81, .ref 82, .ref 83, .ref 84, .int 0, .int 0, .int (-1), .int 0, .int 0])), some (.inl (1, [.int 0, .int 0, .int 0, .int 0, .int 0, .int 0, .int 0, .int 0, .int 0, .int 0])), some (.inl (1, [.int 0, .int 0, .int 0, .int 0, .int 0, .int 0, .int 0, .int 0, .int 0, .int 0])), some (.inl (1, [.int 0, .int 0, .int 0, .int 0, .int 0, .int 0, .int 0, .int 0, .int 0, .int 0])), some (.inl (1, [.int 0, .int 0, .int 0, .int 0, .int 0, .int 0, .int 0, .int 0, .int 0, .int 0])), some (.inl (1, [.int 0, .int 0, .int 0, .int 0, .int 0, .int 0, .int 0, .int 0, .int 0, .int 0])), some (.inl (1, [.int 0, .int 0, .int 0, .int 0, .int 0, .int 0, .int 0, .int 0, .int 0, .int 0])), some (.inr (2, [.ref 86, .ref 87, .ref 88, .ref 89, .ref 90, .ref 91, .int 0, .int 0, .int (-1), .int 0, .int 0])), some (.inl (1, [.int 0, .int 0, .int 0, .int 0, .int 0, .int 0, .int 0, .int 0, .int 0, .int 0])), some (.inl (1, [.int 0, .int 0, .int 0, .int 0, .int 0, .int 0, .int 0, .int 0, .int 0, .int 0])), some (.inl (1, [.int 0, .int 0, .int 0, .int 0, .int 0, .int 0, .int 0, .int 0, .int 0, .int 0])), some (.inl (1, [.int 0, .int 0, .int 0, .int 0, .int 0, .int 0, .int 0, .int 0, .int 0, .int 0])), some (.inl (1, [.int 0, .int 0, .int 0, .int 0, .int 0, .int 0, .int 0, .int 0, .int 0, .int 0])), some (.inl (1, [.int 0, .int 0, .int 0, .int 0, .int 0, .int 0, .int 0, .int 0, .int 0, .int 0])), some (.inr (2, [.ref 93, .ref 94, .ref 95, .ref 96, .ref 97, .ref 98, .int 0, .int 0, .int (-1), .int 0, .int 0])), some (.inl (1, [.int 0, .int 0, .int 0, .int 0, .int 0, .int 0, .int 0, .int 0, .int 0, .int 0])), some (.inl (1, [.int 0, .int 0, .int 0, .int 0, .int 0, .int 0, .int 0, .int 0, .int 0, .int 0])), some (.inl (1, [.int 0, .int 0, .int 0, .int 0, .int 0, .int 0, .int 0, .int 0, .int 0, .int 0])), some (.inl (1, [.int 0, .int 0, .int 0, .int 0, .int 0, .int 0, .int 0, .int 0, .int 0, .int 0]))]
def hy_c3 : List (Option hc_C) := [some (.inl (1, [.int 0, .int 0, .int 0, .int 0, .int 0, .int 0, .int 0, .int 0, .int 0, .int 0])), some (.inl (1, [.int 0, .int 0, .int 0, .int 0, .int 0, .int 0, .int 0, .int 0, .int 0, .int 0])), some (.inr (2, [.ref 100, .ref 101, .ref 102, .ref 103, .ref 104, .ref 105, .int 0, .int 0, .int (-1), .int 0, .int 0])), some (.inl (1, [.int 0, .int 0, .int 0, .int 0, .int 0, .int 0, .int 0, .int 0, .int 0, .int 0])), some (.inl (1, [.int 0, .int 0, .int 0, .int 0, .int 0, .int 0, .int 0, .int 0, .int 0, .int 0])), some (.inl (1, [.int 0, .int 0, .int 0, .int 0, .int 0, .int 0, .int 0, .int 0, .int 0, .int 0])), some (.inl (1, [.int 0, .int 0, .int 0, .int 0, .int 0, .int 0, .int 0, .int 0, .int 0, .int 0])), some (.inl (1, [.int 0, .int 0, .int 0, .int 0, .int 0, .int 0, .int 0, .int 0, .int 0, .int 0])), some (.inl (1, [.int 0, .int 0, .int 0, .int 0, .int 0, .int 0, .int 0, .int 0, .int 0, .int 0])), some (.inr (2, [.ref 107, .ref 108, .ref 109, .ref 110, .ref 111, .ref 112, .int 0, .int 0, .int (-1), .int 0, .int 0])), some (.inl (1, [.int 0, .int 0, .int 0, .int 0, .int 0, .int 0, .int 0, .int 0, .int 0, .int 0])), some (.inl (1, [.int 0, .int 0, .int 0, .int 0, .int 0, .int 0, .int 0, .int 0, .int 0, .int 0])), some (.inl (1, [.int 0, .int 0, .int 0, .int 0, .int 0, .int 0, .int 0, .int 0, .int 0, .int 0])), some (.inl (1, [.int 0, .int 0, .int 0, .int 0, .int 0, .int 0, .int 0, .int 0, .int 0, .int 0])), some (.inl (1, [.int 0, .int 0, .int 0, .int 0, .int 0, .int 0, .int 0, .int 0, .int 0, .int 0])), some (.inl (1, [.int 0, .int 0, .int 0, .int 0, .int 0, .int 0, .int 0, .int 0, .int 0, .int 0])), some (.inr (2, [.ref 114, .ref 115, .ref 116, .ref 117, .ref 118, .ref 119, .int 0, .int 0, .int (-1), .int 0, .int 0])), some (.inl (1, [.int 0, .int 0, .int 0, .int 0, .int 0, .int 0, .int 0, .int 0, .int 0, .int 0])), some (.inl (1, [.int 0, .int 0, .int 0, .int 0, .int 0, .int 0, .int 0, .int 0, .int 0, .int 0])), some (.inl (1, [.int 0, .int 0, .int 0, .int 0, .int 0, .int 0, .int 0, .int 0, .int 0, .int 0])), some (.inl (1, [.int 0, .int 0, .int 0, .int 0, .int 0, .int 0, .int 0, .int 0, .int 0, .int 0])), some (.inl (1, [.int 0, .int 0, .int 0, .int 0, .int 0, .int 0, .int 0, .int 0, .int 0, .int 0])), some (.inl (1, [.int 0, .int 0, .int 0, .int 0, .int 0, .int 0, .int 0, .int 0, .int 0, .int 0])), some (.inr (2, [.ref 121, .ref 122, .ref 123, .ref 124, .ref 125, .ref 126, .int 0, .int 0, .int (-1), .int 0, .int 0])), some (.inl (1, [.int 0, .int 0, .int 0, .int 0, .int 0, .int 0, .int 0, .int 0, .int 0, .int 0])), some (.inl (1, [.int 0, .int 0, .int 0, .int 0, .int 0, .int 0, .int 0, .int 0, .int 0, .int 0])), some (.inl (1, [.int 0, .int 0, .int 0, .int 0, .int 0, .int 0, .int 0, .int 0, .int 0, .int 0])), some (.inl (1, [.int 0, .int 0, .int 0, .int 0, .int 0, .int 0, .int 0, .int 0, .int 0, .int 0])), some (.inl (1, [.int 0, .int 0, .int 0, .int 0, .int 0, .int 0, .int 0, .int 0, .int 0, .int 0])), some (.inl (1, [.int 0, .int 0, .int 0, .int 0, .int 0, .int 0, .int 0, .int 0, .int 0, .int 0])), some (.inr (2, [.ref 128, .ref 129, .ref 130, .ref 131, .ref 132, .ref 133, .int 0, .int 0, .int (-1), .int 0, .int 0])), some (.inl (1, [.int 0, .int 0, .int 0, .int 0, .int 0, .int 0, .int 0, .int 0, .int 0, .int 0]))]
def hy_c4 : List (Option hc_C) := [some (.inl (1, [.int 0, .int 0, .int 0, .int 0, .int 0, .int 0, .int 0, .int 0, .int 0, .int 0])), some (.inl (1, [.int 0, .int 0, .int 0, .int 0, .int 0, .int 0, .int 0, .int 0, .int 0, .int 0])), some (.inl (1, [.int 0, .int 0, .int 0, .int 0, .int 0, .int 0, .int 0, .int 0, .int 0, .int 0])), some (.inl (1, [.int 0, .int 0, .int 0, .int 0, .int 0, .int 0, .int 0, .int 0, .int 0, .int 0])), some (.inl (1, [.int 0, .int 0, .int 0, .int 0, .int 0, .int 0, .int 0, .int 0, .int 0, .int 0])), some (.inr (2, [.ref 135, .ref 136, .ref 137, .ref 138, .ref 139, .ref 140, .int 0, .int 0, .int (-1), .int 0, .int 0])), some (.inl (1, [.int 0, .int 0, .int 0, .int 0, .int 0, .int 0, .int 0, .int 0, .int 0, .int 0])), some (.inl (1, [.int 0, .int 0, .int 0, .int 0, .int 0, .int 0, .int 0, .int 0, .int 0, .int 0])), some (.inl (1, [.int 0, .int 0, .int 0, .int 0, .int 0, .int 0, .int 0, .int 0, .int 0, .int 0])), some (.inl (1, [.int 0, .int 0, .int 0, .int 0, .int 0, .int 0, .int 0, .int 0, .int 0, .int 0])), some (.inl (1, [.int 0, .int 0, .int 0, .int 0, .int 0, .int 0, .int 0, .int 0, .int 0, .int 0])), some (.inl (1, [.int 0, .int 0, .int 0, .int 0, .int 0, .int 0, .int 0, .int 0, .int 0, .int 0])), some (.inr (2, [.ref 142, .ref 143, .ref 144, .ref 145, .ref 146, .ref 147, .int 0, .int 0, .int (-1), .int 0, .int 0])), some (.inl (1, [.int 0, .int 0, .int 0, .int 0, .int 0, .int 0, .int 0, .int 0, .int 0, .int 0])), some (.inl (1, [.int 0, .int 0, .int 0, .int 0, .int 0, .int 0, .int 0, .int 0, .int 0, .int 0])), some (.inl (1, [.int 0, .int 0, .int 0, .int 0, .int 0, .int 0, .int 0, .int 0, .int 0, .int 0])), some (.inl (1, [.int 0, .int 0, .int 0, .int 0, .int 0, .int 0, .int 0, .int 0, .int 0, .int 0])), some (.inl (1, [.int 0, .int 0, .int 0, .int 0, .int 0, .int 0, .int 0, .int 0, .int 0, .int 0])), some (.inl (1, [.int 0, .int 0, .int 0, .int 0, .int 0, .int 0, .int 0, .int 0, .int 0, .int 0])), some (.inr (2, [.ref 149, .ref 150, .ref 151, .ref 152, .ref 153, .ref 154, .int 0, .int 0, .int (-1), .int 0, .int 0])), some (.inl (1, [.int 0, .int 0, .int 0, .int 0, .int 0, .int 0, .int 0, .int 0, .int 0, .int 0])), some (.inl (1, [.int 0, .int 0, .int 0, .int 0, .int 0, .int 0, .int 0, .int 0, .int 0, .int 0])), some (.inl (1, [.int 0, .int 0, .int 0, .int 0, .int 0, .int 0, .int 0, .int 0, .int 0, .int 0])), some (.inl (1, [.int 0, .int 0, .int 0, .int 0, .int 0, .int 0, .int 0, .int 0, .int 0, .int 0])), some (.inl (1, [.int 0, .int 0, .int 0, .int 0, .int 0, .int 0, .int 0, .int 0, .int 0, .int 0])), some (.inl (1, [.int 0, .int 0, .int 0, .int 0, .int 0, .int 0, .int 0, .int 0, .int 0, .int 0])), some (.inr (2, [.ref 156, .ref 157, .ref 158, .ref 159, .ref 160, .ref 161, .int 0, .int 0, .int (-1), .int 0, .int 0])), some (.inl (1, [.int 0, .int 0, .int 0, .int 0, .int 0, .int 0, .int 0, .int 0, .int 0, .int 0])), some (.inl (1, [.int 0, .int 0, .int 0, .int 0, .int 0, .int 0, .int 0, .int 0, .int 0, .int 0])), some (.inl (1, [.int 0, .int 0, .int 0, .int 0, .int 0, .int 0, .int 0, .int 0, .int 0, .int 0])), some (.inl (1, [.int 0, .int 0, .int 0, .int 0, .int 0, .int 0, .int 0, .int 0, .int 0, .int 0])), some (.inl (1, [.int 0, .int 0, .int 0, .int 0, .int 0, .int 0, .int 0, .int 0, .int 0, .int 0]))]
def hy_c5 : List (Option hc_C) := [some (.inl (1, [.int 0, .int 0, .int 0, .int 0, .int 0, .int 0, .int 0, .int 0, .int 0, .int 0])), some (.inr (2, [.ref 163, .ref 164, .ref 165, .ref 166, .ref 167, .ref 168, .int 0, .int 0, .int (-1), .int 0, .int 0])), some (.inl (1, [.int 0, .int 0, .int 0, .int 0, .int 0, .int 0, .int 0, .int 0, .int 0, .int 0])), some (.inl (1, [.int 0, .int 0, .int 0, .int 0, .int 0, .int 0, .int 0, .int 0, .int 0, .int 0])), some (.inl (1, [.int 0, .int 0, .int 0, .int 0, .int 0, .int 0, .int 0, .int 0, .int 0, .int 0])), some (.inl (1, [.int 0, .int 0, .int 0, .int 0, .int 0, .int 0, .int 0, .int 0, .int 0, .int 0])), some (.inl (1, [.int 0, .int 0, .int 0, .int 0, .int 0, .int 0, .int 0, .int 0, .int 0, .int 0])), some (.inl (1, [.int 0, .int 0, .int 0, .int 0, .int 0, .int 0, .int 0, .int 0, .int 0, .int 0])), some (.inr (2, [.ref 170, .ref 171, .ref 172, .ref 173, .ref 174, .ref 175, .int 0, .int 0, .int (-1), .int 0, .int 0])), some (.inl (1, [.int 0, .int 0, .int 0, .int 0, .int 0, .int 0, .int 0, .int 0, .int 0, .int 0])), some (.inl (1, [.int 0, .int 0, .int 0, .int 0, .int 0, .int 0, .int 0, .int 0, .int 0, .int 0])), some (.inl (1, [.int 0, .int 0, .int 0, .int 0, .int 0, .int 0, .int 0, .int 0, .int 0, .int 0])), some (.inl (1, [.int 0, .int 0, .int 0, .int 0, .int 0, .int 0, .int 0, .int 0, .int 0, .int 0])), some (.inl (1, [.int 0, .int 0, .int 0, .int 0, .int 0, .int 0, .int 0, .int 0, .int 0, .int 0])), some (.inl (1, [.int 0, .int 0, .int 0, .int 0, .int 0, .int 0, .int 0, .int 0, .int 0, .int 0])), some (.inr (2, [.ref 177, .ref 178, .ref 179, .ref 180, .ref 181, .ref 182, .int 0, .int 0, .int (-1), .int 0, .int 0])), some (.inl (1, [.int 0, .int 0, .int 0, .int 0, .int 0, .int 0, .int 0, .int 0, .int 0, .int 0])), some (.inl (1, [.int 0, .int 0, .int 0, .int 0, .int 0, .int 0, .int 0, .int 0, .int 0, .int 0])), some (.inl (1, [.int 0, .int 0, .int 0, .int 0, .int 0, .int 0, .int 0, .int 0, .int 0, .int 0])), some (.inl (1, [.int 0, .int 0, .int 0, .int 0, .int 0, .int 0, .int 0, .int 0, .int 0, .int 0])), some (.inl (1, [.int 0, .int 0, .int 0, .int 0, .int 0, .int 0, .int 0, .int 0, .int 0, .int 0])), some (.inl (1, [.int 0, .int 0, .int 0, .int 0, .int 0, .int 0, .int 0, .int 0, .int 0, .int 0])), some (.inr (2, [.ref 184, .ref 185, .ref 186, .ref 187, .ref 188, .ref 189, .int 0, .int 0, .int (-1), .int 0, .int 0])), some (.inl (1, [.int 0, .int 0, .int 0, .int 0, .int 0, .int 0, .int 0, .int 0, .int 0, .int 0])), some (.inl (1, [.int 0, .int 0, .int 0, .int 0, .int 0, .int 0, .int 0, .int 0, .int 0, .int 0])), some (.inl (1, [.int 0, .int 0, .int 0, .int 0, .int 0, .int 0, .int 0, .int 0, .int 0, .int 0])), some (.inl (1, [.int 0, .int 0, .int 0, .int 0, .int 0, .int 0, .int 0, .int 0, .int 0, .int 0])), some (.inl (1, [.int 0, .int 0, .int 0, .int 0, .int 0, .int 0, .int 0, .int 0, .int 0, .int 0])), some (.inl (1, [.int 0, .int 0, .int 0, .int 0, .int 0, .int 0, .int 0, .int 0, .int 0, .int 0])), some (.inr (2, [.ref 191, .ref 192, .ref 193, .ref 194, .ref 195, .ref 196, .int 0, .int 0, .int (-1), .int 0, .int 0])), some (.inl (1, [.int 0, .int 0, .int 0, .int 0, .int 0, .int 0, .int 0, .int 0, .int 0, .int 0])), some (.inl (1, [.int 0, .int 0, .int 0, .int 0, .int 0, .int 0, .int 0, .int 0, .int 0, .int 0]))]
def hy_c6 : List (Option hc_C) := [some (.inl (1, [.int 0, .int 0, .int 0, .int 0, .int 0, .int 0, .int 0, .int 0, .int 0, .int 0])), some (.inl (1, [.int 0, .int 0, .int 0, .int 0, .int 0, .int 0, .int 0, .int 0, .int 0, .int 0])), some (.inl (1, [.int 0, .int 0, .int 0, .int 0, .int 0, .int 0, .int 0, .int 0, .int 0, .int 0])), some (.inl (1, [.int 0, .int 0, .int 0, .int 0, .int 0, .int 0, .int 0, .int 0, .int 0, .int 0])), some (.inr (2, [.ref 198, .ref 199, .ref 200, .ref 201, .ref 202, .ref 203, .int 0, .int 0, .int (-1), .int 0, .int 0])), some (.inl (1, [.int 0, .int 0, .int 0, .int 0, .int 0, .int 0, .int 0, .int 0, .int 0, .int 0])), some (.inl (1, [.int 0, .int 0, .int 0, .int 0, .int 0, .int 0, .int 0, .int 0, .int 0, .int 0])), some (.inl (1, [.int 0, .int 0, .int 0, .int 0, .int 0, .int 0, .int 0, .int 0, .int 0, .int 0])), some (.inl (1, [.int 0, .int 0, .int 0, .int 0, .int 0, .int 0, .int 0, .int 0, .int 0, .int 0])), some (.inl (1, [.int 0, .int 0, .int 0, .int 0, .int 0, .int 0, .int 0, .int 0, .int 0, .int 0])), some (.inl (1, [.int 0, .int 0, .int 0, .int 0, .int 0, .int 0, .int 0, .int 0, .int 0, .int 0])), some (.inr (2, [.ref 205, .ref 206, .ref 207, .ref 208, .ref 209, .ref 210, .int 0, .int 0, .int (-1), .int 0, .int 0])), some (.inl (1, [.int 0, .int 0, .int 0, .int 0, .int 0, .int 0, .int 0, .int 0, .int 0, .int 0])), some (.inl (1, [.int 0, .int 0, .int 0, .int 0, .int 0, .int 0, .int 0, .int 0, .int 0, .int 0])), some (.inl (1, [.int 0, .int 0, .int 0, .int 0, .int 0, .int 0, .int 0, .int 0, .int 0, .int 0])), some (.inl (1, [.int 0, .int 0, .int 0, .int 0, .int 0, .int 0, .int 0, .int 0, .int 0, .int 0])), some (.inl (1, [.int 0, .int 0, .int 0, .int 0, .int 0, .int 0, .int 0, .int 0, .int 0, .int 0])), some (.inl (1, [.int 0, .int 0, .int 0, .int 0, .int 0, .int 0, .int 0, .int 0, .int 0, .int 0])), some (.inr (2, [.ref 212, .ref 213, .ref 214, .ref 215, .ref 216, .ref 217, .int 0, .int 0, .int (-1), .int 0, .int 0])), some (.inl (1, [.int 0, .int 0, .int 0, .int 0, .int 0, .int 0, .int 0, .int 0, .int 0, .int 0])), some (.inl (1, [.int 0, .int 0, .int 0, .int 0, .int 0, .int 0, .int 0, .int 0, .int 0, .int 0])), some (.inl (1, [.int 0, .int 0, .int 0, .int 0, .int 0, .int 0, .int 0, .int 0, .int 0, .int 0])), some (.inl (1, [.int 0, .int 0, .int 0, .int 0, .int 0, .int 0, .int 0, .int 0, .int 0, .int 0])), some (.inl (1, [.int 0, .int 0, .int 0, .int 0, .int 0, .int 0, .int 0, .int 0, .int 0, .int 0])), some (.inl (1, [.int 0, .int 0, .int 0, .int 0, .int 0, .int 0, .int 0, .int 0, .int 0, .int 0])), some (.inr (2, [.ref 219, .ref 220, .ref 221, .ref 222, .ref 223, .ref 224, .int 0, .int 0, .int (-1), .int 0, .int 0])), some (.inl (1, [.int 0, .int 0, .int 0, .int 0, .int 0, .int 0, .int 0, .int 0, .int 0, .int 0])), some (.inl (1, [.int 0, .int 0, .int 0, .int 0, .int 0, .int 0, .int 0, .int 0, .int 0, .int 0])), some (.inl (1, [.int 0, .int 0, .int 0, .int 0, .int 0, .int 0, .int 0, .int 0, .int 0, .int 0])), some (.inl (1, [.int 0, .int 0, .int 0, .int 0, .int 0, .int 0, .int 0, .int 0, .int 0, .int 0])), some (.inl (1, [.int 0, .int 0, .int 0, .int 0, .int 0, .int 0, .int 0, .int 0, .int 0, .int 0])), some (.inl (1, [.int 0, .int 0, .int 0, .int 0, .int 0, .int 0, .int 0, .int 0, .int 0, .int 0]))]
def hy_c7 : List (Option hc_C) := [some (.inr (2, [.ref 226, .ref 227, .ref 228, .ref 229, .ref 230, .ref 231, .int 0, .int 0, .int (-1), .int 0, .int 0])), some (.inl (1, [.int 0, .int 0, .int 0, .int 0, .int 0, .int 0, .int 0, .int 0, .int 0, .int 0])), some (.inl (1, [.int 0, .int 0, .int 0, .int 0, .int 0, .int 0, .int 0, .int 0, .int 0, .int 0])), some (.inl (1, [.int 0, .int 0, .int 0, .int 0, .int 0, .int 0, .int 0, .int 0, .int 0, .int 0])), some (.inl (1, [.int 0, .int 0, .int 0, .int 0, .int 0, .int 0, .int 0, .int 0, .int 0, .int 0])), some (.inl (1, [.int 0, .int 0, .int 0, .int 0, .int 0, .int 0, .int 0, .int 0, .int 0, .int 0])), some (.inl (1, [.int 0, .int 0, .int 0, .int 0, .int 0, .int 0, .int 0, .int 0, .int 0, .int 0])), some (.inr (2, [.ref 233, .ref 234, .ref 235, .ref 236, .ref 237, .ref 238, .int 0, .int 0, .int (-1), .int 0, .int 0])), some (.inl (1, [.int 0, .int 0, .int 0, .int 0, .int 0, .int 0, .int 0, .int 0, .int 0, .int 0])), some (.inl (1, [.int 0, .int 0, .int 0, .int 0, .int 0, .int 0, .int 0, .int 0, .int 0, .int 0])), some (.inl (1, [.int 0, .int 0, .int 0, .int 0, .int 0, .int 0, .int 0, .int 0, .int 0, .int 0])), some (.inl (1, [.int 0, .int 0, .int 0, .int 0, .int 0, .int 0, .int 0, .int 0, .int 0, .int 0])), some (.inl (1, [.int 0, .int 0, .int 0, .int 0, .int 0, .int 0, .int 0, .int 0, .int 0, .int 0])), some (.inl (1, [.int 0, .int 0, .int 0, .int 0, .int 0, .int 0, .int 0, .int 0, .int 0, .int 0])), some (.inr (2, [.ref 240, .ref 241, .ref 242, .ref 243, .ref 244, .ref 245, .int 0, .int 0, .int (-1), .int 0, .int 0])), some (.inl (1, [.int 0, .int 0, .int 0, .int 0, .int 0, .int 0, .int 0, .int 0, .int 0, .int 0])), some (.inl (1, [.int 0, .int 0, .int 0, .int 0, .int 0, .int 0, .int 0, .int 0, .int 0, .int 0])), some (.inl (1, [.int 0, .int 0, .int 0, .int 0, .int 0, .int 0, .int 0, .int 0, .int 0, .int 0])), some (.inl (1, [.int 0, .int 0, .int 0, .int 0, .int 0, .int 0, .int 0, .int 0, .int 0, .int 0])), some (.inl (1, [.int 0, .int 0, .int 0, .int 0, .int 0, .int 0, .int 0, .int 0, .int 0, .int 0])), some (.inl (1, [.int 0, .int 0, .int 0, .int 0, .int 0, .int 0, .int 0, .int 0, .int 0, .int 0])), some (.inr (2, [.ref 247, .ref 248, .ref 249, .ref 250, .ref 251, .ref 252, .int 0, .int 0, .int (-1), .int 0, .int 0])), some (.inl (1, [.int 0, .int 0, .int 0, .int 0, .int 0, .int 0, .int 0, .int 0, .int 0, .int 0])), some (.inl (1, [.int 0, .int 0, .int 0, .int 0, .int 0, .int 0, .int 0, .int 0, .int 0, .int 0])), some (.inl (1, [.int 0, .int 0, .int 0, .int 0, .int 0, .int 0, .int 0, .int 0, .int 0, .int 0])), some (.inl (1, [.int 0, .int 0, .int 0, .int 0, .int 0, .int 0, .int 0, .int 0, .int 0, .int 0])), some (.inl (1, [.int 0, .int 0, .int 0, .int 0, .int 0, .int 0, .int 0, .int 0, .int 0, .int 0])), some (.inl (1, [.int 0, .int 0, .int 0, .int 0, .int 0, .int 0, .int 0, .int 0, .int 0, .int 0])), some (.inr (2, [.ref 254, .ref 255, .ref 256, .ref 257, .ref 258, .ref 259, .int 0, .int 0, .int (-1), .int 0, .int 0])), some (.inl (1, [.int 0, .int 0, .int 0, .int 0, .int 0, .int 0, .int 0, .int 0, .int 0, .int 0])), some (.inl (1, [.int 0, .int 0, .int 0, .int 0, .int 0, .int 0, .int 0, .int 0, .int 0, .int 0])), some (.inl (1, [.int 0, .int 0, .int 0, .int 0, .int 0, .int 0, .int 0, .int 0, .int 0, .int 0]))]
def hy_c8 : List (Option hc_C) := [some (.inl (1, [.int 0, .int 0, .int 0, .int 0, .int 0, .int 0, .int 0, .int 0, .int 0, .int 0])), some (.inl (1, [.int 0, .int 0, .int 0, .int 0, .int 0, .int 0, .int 0, .int 0, .int 0, .int 0])), some (.inl (1, [.int 0, .int 0, .int 0, .int 0, .int 0, .int 0, .int 0, .int 0, .int 0, .int 0])), some (.inr (2, [.ref 261, .ref 262, .ref 263, .ref 264, .ref 265, .ref 266, .int 0, .int 0, .int (-1), .int 0, .int 0])), some (.inl (1, [.int 0, .int 0, .int 0, .int 0, .int 0, .int 0, .int 0, .int 0, .int 0, .int 0])), some (.inl (1, [.int 0, .int 0, .int 0, .int 0, .int 0, .int 0, .int 0, .int 0, .int 0, .int 0])), some (.inl (1, [.int 0, .int 0, .int 0, .int 0, .int 0, .int 0, .int 0, .int 0, .int 0, .int 0])), some (.inl (1, [.int 0, .int 0, .int 0, .int 0, .int 0, .int 0, .int 0, .int 0, .int 0, .int 0])), some (.inl (1, [.int 0, .int 0, .int 0, .int 0, .int 0, .int 0, .int 0, .int 0, .int 0, .int 0])), some (.inl (1, [.int 0, .int 0, .int 0, .int 0, .int 0, .int 0, .int 0, .int 0, .int 0, .int 0])), some (.inr (2, [.ref 268, .ref 269, .ref 270, .ref 271, .ref 272, .ref 273, .int 0, .int 0, .int (-1), .int 0, .int 0])), some (.inl (1, [.int 0, .int 0, .int 0, .int 0, .int 0, .int 0, .int 0, .int 0, .int 0, .int 0])), some (.inl (1, [.int 0, .int 0, .int 0, .int 0, .int 0, .int 0, .int 0, .int 0, .int 0, .int 0])), some (.inl (1, [.int 0, .int 0, .int 0, .int 0, .int 0, .int 0, .int 0, .int 0, .int 0, .int 0])), some (.inl (1, [.int 0, .int 0, .int 0, .int 0, .int 0, .int 0, .int 0, .int 0, .int 0, .int 0])), some (.inl (1, [.int 0, .int 0, .int 0, .int 0, .int 0, .int 0, .int 0, .int 0, .int 0, .int 0])), some (.inl (1, [.int 0, .int 0, .int 0, .int 0, .int 0, .int 0, .int 0, .int 0, .int 0, .int 0])), some (.inr (2, [.ref 275, .ref 276, .ref 277, .ref 278, .ref 279, .ref 280, .int 0, .int 0, .int (-1), .int 0, .int 0])), some (.inl (1, [.int 0, .int 0, .int 0, .int 0, .int 0, .int 0, .int 0, .int 0, .int 0, .int 0])), some (.inl (1, [.int 0, .int 0, .int 0, .int 0, .int 0, .int 0, .int 0, .int 0, .int 0, .int 0])), some (.inl (1, [.int 0, .int 0, .int 0, .int 0, .int 0, .int 0, .int 0, .int 0, .int 0, .int 0])), some (.inl (1, [.int 0, .int 0, .int 0, .int 0, .int 0, .int 0, .int 0, .int 0, .int 0, .int 0])), some (.inl (1, [.int 0, .int 0, .int 0, .int 0, .int 0, .int 0, .int 0, .int 0, .int 0, .int 0])), some (.inl (1, [.int 0, .int 0, .int 0, .int 0, .int 0, .int 0, .int 0, .int 0, .int 0, .int 0])), some (.inr (2, [.ref 282, .ref 283, .ref 284, .ref 285, .ref 286, .ref 287, .int 0, .int 0, .int (-1), .int 0, .int 0])), some (.inl (1, [.int 0, .int 0, .int 0, .int 0, .int 0, .int 0, .int 0, .int 0, .int 0, .int 0])), some (.inl (1, [.int 0, .int 0, .int 0, .int 0, .int 0, .int 0, .int 0, .int 0, .int 0, .int 0])), some (.inl (1, [.int 0, .int 0, .int 0, .int 0, .int 0, .int 0, .int 0, .int 0, .int 0, .int 0])), some (.inl (1, [.int 0, .int 0, .int 0, .int 0, .int 0, .int 0, .int 0, .int 0, .int 0, .int 0])), some (.inl (1, [.int 0, .int 0, .int 0, .int 0, .int 0, .int 0, .int 0, .int 0, .int 0, .int 0])), some (.inl (1, [.int 0, .int 0, .int 0, .int 0, .int 0, .int 0, .int 0, .int 0, .int 0, .int 0])), some (.inr (2, [.ref 289, .ref 290, .ref 291, .ref 292, .ref 293, .ref 294, .int 0, .int 0, .int (-1), .int 0, .int 0]))]
def hy_c9 : List (Option hc_C) := [some (.inl (1, [.int 0, .int 0, .int 0, .int 0, .int 0, .int 0, .int 0, .int 0, .int 0, .int 0])), some (.inl (1, [.int 0, .int 0, .int 0, .int 0, .int 0, .int 0, .int 0, .int 0, .int 0, .int 0])), some (.inl (1, [.int 0, .int 0, .int 0, .int 0, .int 0, .int 0, .int 0, .int 0, .int 0, .int 0])), some (.inl (1, [.int 0, .int 0, .int 0, .int 0, .int 0, .int 0, .int 0, .int 0, .int 0, .int 0])), some (.inl (1, [.int 0, .int 0, .int 0, .int 0, .int 0, .int 0, .int 0, .int 0, .int 0, .int 0])), some (.inl (1, [.int 0, .int 0, .int 0, .int 0, .int 0, .int 0, .int 0, .int 0, .int 0, .int 0])), some (.inr (2, [.ref 296, .ref 297, .ref 298, .ref 299, .ref 300, .ref 301, .int 0, .int 0, .int (-1), .int 0, .int 0])), some (.inl (1, [.int 0, .int 0, .int 0, .int 0, .int 0, .int 0, .int 0, .int 0, .int 0, .int 0])), some (.inl (1, [.int 0, .int 0, .int 0, .int 0, .int 0, .int 0, .int 0, .int 0, .int 0, .int 0])), some (.inl (1, [.int 0, .int 0, .int 0, .int 0, .int 0, .int 0, .int 0, .int 0, .int 0, .int 0])), some (.inl (1, [.int 0, .int 0, .int 0, .int 0, .int 0, .int 0, .int 0, .int 0, .int 0, .int 0])), some (.inl (1, [.int 0, .int 0, .int 0, .int 0, .int 0, .int 0, .int 0, .int 0, .int 0, .int 0])), some (.inl (1, [.int 0, .int 0, .int 0, .int 0, .int 0, .int 0, .int 0, .int 0, .int 0, .int 0])), some (.inr (2, [.ref 303, .ref 304, .ref 305, .ref 306, .ref 307, .ref 308, .int 0, .int 0, .int (-1), .int 0, .int 0])), some (.inl (1, [.int 0, .int 0, .int 0, .int 0, .int 0, .int 0, .int 0, .int 0, .int 0, .int 0])), some (.inl (1, [.int 0, .int 0, .int 0, .int 0, .int 0, .int 0, .int 0, .int 0, .int 0, .int 0])), some (.inl (1, [.int 0, .int 0, .int 0, .int 0, .int 0, .int 0, .int 0, .int 0, .int 0, .int 0])), some (.inl (1, [.int 0, .int 0, .int 0, .int 0, .int 0, .int 0, .int 0, .int 0, .int 0, .int 0])), some (.inl (1, [.int 0, .int 0, .int 0, .int 0, .int 0, .int 0, .int 0, .int 0, .int 0, .int 0])), some (.inl (1, [.int 0, .int 0, .int 0, .int 0, .int 0, .int 0, .int 0, .int 0, .int 0, .int 0])), some (.inr (2, [.ref 310, .ref 311, .ref 312, .ref 313, .ref 314, .ref 315, .int 0, .int 0, .int (-1), .int 0, .int 0])), some (.inl (1, [.int 0, .int 0, .int 0, .int 0, .int 0, .int 0, .int 0, .int 0, .int 0, .int 0])), some (.inl (1, [.int 0, .int 0, .int 0, .int 0, .int 0, .int 0, .int 0, .int 0, .int 0, .int 0])), some (.inl (1, [.int 0, .int 0, .int 0, .int 0, .int 0, .int 0, .int 0, .int 0, .int 0, .int 0])), some (.inl (1, [.int 0, .int 0, .int 0, .int 0, .int 0, .int 0, .int 0, .int 0, .int 0, .int 0])), some (.inl (1, [.int 0, .int 0, .int 0, .int 0, .int 0, .int 0, .int 0, .int 0, .int 0, .int 0])), some (.inl (1, [.int 0, .int 0, .int 0, .int 0, .int 0, .int 0, .int 0, .int 0, .int 0, .int 0])), some (.inr (2, [.ref 317, .ref 318, .ref 319, .ref 320, .ref 321, .ref 322, .int 0, .int 0, .int (-1), .int 0, .int 0])), some (.inl (1, [.int 0, .int 0, .int 0, .int 0, .int 0, .int 0, .int 0, .int 0, .int 0, .int 0])), some (.inl (1, [.int 0, .int 0, .int 0, .int 0, .int 0, .int 0, .int 0, .int 0, .int 0, .int 0])), some (.inl (1, [.int 0, .int 0, .int 0, .int 0, .int 0, .int 0, .int 0, .int 0, .int 0, .int 0])), some (.inl (1, [.int 0, .int 0, .int 0, .int 0, .int 0, .int 0, .int 0, .int 0, .int 0, .int 0]))]
def hy_c10 : List (Option hc_C) := [some (.inl (1, [.int 0, .int 0, .int 0, .int 0, .int 0, .int 0, .int 0, .int 0, .int 0, .int 0])), some (.inl (1, [.int 0, .int 0, .int 0, .int 0, .int 0, .int 0, .int 0, .int 0, .int 0, .int 0])), some (.inl (4, [.ref 347, .ref 354, .ref 361])), some (.inr (0, [.ref 325, .ref 326, .ref 327, .ref 328, .int 0, .ref 7])), some (.inl (1, [.int 0, .int 0, .int 0, .int 0, .int 0, .int 0, .int 0, .int 0, .int 0])), some (.inl (1, [.int 0, .int 0, .int 0, .int 0, .int 0, .int 0, .int 0, .int 0, .int 0])), some (.inl (1, [.int 0, .int 0, .int 0, .int 0, .int 0, .int 0, .int 0, .int 0, .int 0])), some (.inl (1, [.int 0, .int 0, .int 0, .int 0, .int 0, .int 0, .int 0, .int 0, .int 0])), some (.inr (8, [.ref 330, .int 0])), some (.inl (5, [.ref 331, .ref 332, .ref 333, .ref 334, .ref 335, .ref 336, .ref 337, .ref 338, .ref 339, .ref 340])), some (.inl (1, List.replicate 256 (.int 0))), some (.inl (1, List.replicate 256 (.int 0))), some (.inl (1, List.replicate 256 (.int 0))), some (.inl (1, List.replicate 256 (.int 0))), some (.inl (1, List.replicate 256 (.int 0))), some (.inl (1, List.replicate 256 (.int 0))), some (.inl (1, List.replicate 256 (.int 0))), some (.inl (1, List.replicate 256 (.int 0))), some (.inl (1, List.replicate 256 (.int 0))), some (.inl (1, List.replicate 256 (.int 0))), some (.inr (7, [.ref 342, .ref 343, .int 0])), some (.inl (1, List.replicate 20 (.int 0))), some (.inl (1, List.replicate 20 (.int 0))), some (.inl (1, List.replicate 256 (.int 0))), some (.inl (1, List.replicate 256 (.int 0))), some (.inl (1, [.int 0, .int 0, .int 0])), some (.inr (2, [.ref 348, .ref 349, .ref 350, .ref 351, .ref 352, .ref 353, .int 0, .int 0, .int (-1), .int 0, .int 0])), some (.inl (1, [.int 0, .int 0, .int 0, .int 0, .int 0, .int 0, .int 0, .int 0, .int 0, .int 0])), some (.inl (1, [.int 0, .int 0, .int 0, .int 0, .int 0, .int 0, .int 0, .int 0, .int 0, .int 0])), some (.inl (1, [.int 0, .int 0, .int 0, .int 0, .int 0, .int 0, .int 0, .int 0, .int 0, .int 0])), some (.inl (1, [.int 0, .int 0, .int 0, .int 0, .int 0, .int 0, .int 0, .int 0, .int 0, .int 0])), some (.inl (1, [.int 0, .int 0, .int 0, .int 0, .int 0, .int 0, .int 0, .int 0, .int 0, .int 0]))]
def hy_c11 : List (Option hc_C) := [some (.inl (1, [.int 0, .int 0, .int 0, .int 0, .int 0, .int 0, .int 0, .int 0, .int 0, .int 0])), some (.inr (2, [.ref 355, .ref 356, .ref 357, .ref 358, .ref 359, .ref 360, .int 0, .int 0, .int (-1), .int 0, .int 0])), some (.inl (1, [.int 0, .int 0, .int 0, .int 0, .int 0, .int 0, .int 0, .int 0, .int 0, .int 0])), some (.inl (1, [.int 0, .int 0, .int 0, .int 0, .int 0, .int 0, .int 0, .int 0, .int 0, .int 0])), some (.inl (1, [.int 0, .int 0, .int 0, .int 0, .int 0, .int 0, .int 0, .int 0, .int 0, .int 0])), some (.inl (1, [.int 0, .int 0, .int 0, .int 0, .int 0, .int 0, .int 0, .int 0, .int 0, .int 0])), some (.inl (1, [.int 0, .int 0, .int 0, .int 0, .int 0, .int 0, .int 0, .int 0, .int 0, .int 0])), some (.inl (1, [.int 0, .int 0, .int 0, .int 0, .int 0, .int 0, .int 0, .int 0, .int 0, .int 0])), some (.inr (2, [.ref 362, .ref 363, .ref 364, .ref 365, .ref 366, .ref 367, .int 0, .int 0, .int (-1), .int 0, .int 0])), some (.inl (1, [.int 0, .int 0, .int 0, .int 0, .int 0, .int 0, .int 0, .int 0, .int 0, .int 0])), some (.inl (1, [.int 0, .int 0, .int 0, .int 0, .int 0, .int 0, .int 0, .int 0, .int 0, .int 0])), some (.inl (1, [.int 0, .int 0, .int 0, .int 0, .int 0, .int 0, .int 0, .int 0, .int 0, .int 0])), some (.inl (1, [.int 0, .int 0, .int 0, .int 0, .int 0, .int 0, .int 0, .int 0, .int 0, .int 0])), some (.inl (1, [.int 0, .int 0, .int 0, .int 0, .int 0, .int 0, .int 0, .int 0, .int 0, .int 0])), some (.inl (1, [.int 0, .int 0, .int 0, .int 0, .int 0, .int 0, .int 0, .int 0, .int 0, .int 0])), some (.inr (10, [.int 0, .ref 369, .int 0, .ref 370, .int 0, .ref 371, .ref 372, .ref 373, .ref 374, .ref 375, .int 0, .int 0, .int 0, .int 0, .int 0, .int 0, .int 0, .int (-1), .int 0, .int 0, .int 0, .ref 376, .ref 377, .ref 378, .ref 379, .ref 380, .ref 381, .ref 382, .ref 383, .ref 384, .ref 385, .int 0, .ref 386, .ref 387, .ref 388, .ref 389, .ref 390, .int 0, .ref 391, .ref 392, .ref 393, .int 0, .ref 394, .ref 395, .int 0, .ref 396, .ref 397, .int 0, .int 0, .ref 398, .ref 399, .int 0, .ref 400, .ref 401, .ref 402, .ref 403, .ref 404, .ref 405, .ref 406, .int 0, .ref 407, .ref 408, .ref 409, .ref 410])), some (.inl (0, List.replicate 2000 (.int 0))), some (.inl (0, List.replicate 2000 (.int 0))), some (.inl (1, List.replicate 403 (.int 0))), some (.inl (1, List.replicate 403 (.int 0))), some (.inl (1, List.replicate 403 (.int 0))), some (.inl (2, List.replicate 403 (.long 0))), some (.inl (2, [.long 4562600, .long 10206127, .long 5948362, .long 11055682, .long 173143, .long 85447, .long 4081083, .long 377761, .long 249, .long 399641, .long 107681, .long 90090, .long 168984, .long 2968, .long 316163, .long 12253591, .long 923, .long 8536420, .long 257011, .long 5863])), some (.inl (2, [.long 0, .long 0, .long 0, .long 0, .long 0, .long 0, .long 0, .long 0, .long 0, .long 0])), some (.inl (1, [.int 0, .int 0])), some (.inl (1, List.replicate 20 (.int 0))), some (.inl (1, List.replicate 20 (.int 0))), some (.inl (1, [.int 0, .int 0])), some (.inl (1, List.replicate 48 (.int 0))), some (.inl (1, [.int 6, .int 6])), some (.inl (1, [.int 0, .int 0])), some (.inl (1, [.int 0, .int 0, .int 0, .int 0, .int 0, .int 0, .int 0, .int 0]))]
def hy_c12 : List (Option hc_C) := [some (.inl (1, [.int 0, .int 0, .int 0, .int 0, .int 0, .int 0, .int 0, .int 0])), some (.inl (3, List.replicate 260 (.int 0))), some (.inl (1, List.replicate 260 (.int 0))), some (.inl (1, List.replicate 260 (.int 0))), some (.inl (1, List.replicate 260 (.int 0))), some (.inl (1, List.replicate 260 (.int 0))), some (.inl (1, List.replicate 840 (.int 0))), some (.inl (1, List.replicate 840 (.int 0))), some (.inl (1, List.replicate 64 (.int 0))), some (.inl (1, [.int 0, .int 0, .int 0, .int 0, .int 0, .int 0, .int 0, .int 0, .int 0])), some (.inl (1, List.replicate 400 (.int 0))), some (.inl (1, [.int 0, .int 0, .int 0, .int 0, .int 0, .int 0, .int 0, .int 0, .int 0, .int 0, .int 0, .int 0, .int 0, .int 0, .int 0, .int 0, .int 0, .int 0, .int 0, .int 0, .int 0, .int 0, .int 0, .int 0, .int 0, .int 0, .int 0, .int 0, .int 0, .int 0, .int 0, .int 0, .int 0, .int 0, .int 0, .int 0, .int 0, .int 0, .int 0, .int 0, .int 0, .int 0, .int 0, .int 0, .int 0, .int 0, .int 0, .int 0, .int 0, .int 0, .int 0, .int 0, .int 0, .int 0, .int 0, .int 0, .int 0, .int 0, .int 0, .int 0, .int 0, .int 0, .int 0, .int 0, .int 0, .int 0, .int 0, .int 0, .int 0, .int 0, .int 0, .int (-1), .int 0])), some (.inl (1, [.int 0, .int 0, .int 0, .int 0, .int 0, .int 0, .int 0, .int 0, .int 0, .int 0, .int 0, .int 0, .int 0, .int 0, .int 0, .int 0, .int 0, .int 0, .int 0, .int 0, .int 0, .int 0, .int 0, .int 0, .int 0, .int 0, .int 0, .int 0, .int 0, .int 0, .int 0, .int 0, .int 0, .int 0, .int 0, .int 0, .int 0, .int 0, .int 0, .int 0, .int 0, .int 0, .int 0, .int 0, .int 0, .int 0, .int 0, .int 0, .int 0, .int 0, .int 0, .int 0, .int 0, .int 0, .int 0, .int 0, .int 0, .int 0, .int 0, .int 0, .int 0, .int 0, .int 0, .int 0, .int 0, .int 0, .int 0, .int 0, .int 0, .int 0, .int 0, .int (-1), .int 0])), some (.inl (1, [.int 0, .int 0, .int 0, .int 0, .int 0, .int 0, .int 0, .int 0, .int 0, .int 0])), some (.inl (3, [.int 0, .int 0, .int 0, .int 0, .int 0, .int 0, .int 0, .int 0, .int 0, .int 0])), some (.inl (1, List.replicate 2920 (.int 0))), some (.inl (1, List.replicate 256 (.int 0))), some (.inl (3, List.replicate 256 (.int 0))), some (.inl (1, List.replicate 256 (.int 0))), some (.inl (1, List.replicate 24 (.int 0))), some (.inl (1, [.int 0, .int 0, .int 0])), some (.inl (1, [.int 0, .int 0, .int 0, .int 0, .int 0, .int 0, .int 0, .int 0, .int 0, .int 0])), some (.inl (1, List.replicate 20 (.int 0))), some (.inl (1, List.replicate 20 (.int 0))), some (.inl (3, [.int 0, .int 0, .int 0])), some (.inl (1, List.replicate 219 (.int 0))), none, none, none, none, none, none]
def hy_ov : List (List (Option (List Int32))) := [[none, none, none, none, none, none, none, some [8, 7, 0, 7, 0, 7, 0, 7], some [0, 2, 4, 6], none, none, none, none, none, none, none, none, none, none, none, none, none, none, none, none, none, none, none, none, none, some [0, 1, 2, 3, 4, 5, 6, 7, 8, 9], none], [none, none, none, none, none, none, none, none, none, none, none, none, none, none, none, none, none, none, none, none, none, none, none, none, none, none, none, none, none, none, none, none], [none, none, none, none, none, none, none, none, none, none, none, none, none, none, none, none, none, none, none, none, none, none, none, none, none, none, none, none, none, none, none, none], [none, none, none, none, none, none, none, none, none, none, none, none, none, none, none, none, none, none, none, none, none, none, none, none, none, none, none, none, none, none, none, none], [none, none, none, none, none, none, none, none, none, none, none, none, none, none, none, none, none, none, none, none, none, none, none, none, none, none, none, none, none, none, none, none], [none, none, none, none, none, none, none, none, none, none, none, none, none, none, none, none, none, none, none, none, none, none, none, none, none, none, none, none, none, none, none, none], [none, none, none, none, none, none, none, none, none, none, none, none, none, none, none, none, none, none, none, none, none, none, none, none, none, none, none, none, none, none, none, none], [none, none, none, none, none, none, none, none, none, none, none, none, none, none, none, none, none, none, none, none, none, none, none, none, none, none, none, none, none, none, none, none], [none, none, none, none, none, none, none, none, none, none, none, none, none, none, none, none, none, none, none, none, none, none, none, none, none, none, none, none, none, none, none, none], [none, none, none, none, none, none, none, none, none, none, none, none, none, none, none, none, none, none, none, none, none, none, none, none, none, none, none, none, none, none, none, none], [none, none, none, none, none, none, none, none, none, none, none, none, none, none, none, none, none, none, none, none, none, none, none, none, none, none, none, none, none, none, none, none], [none, none, none, none, none, none, none, none, none, none, none, none, none, none, none, none, none, none, none, none, none, none, none, none, none, none, none, none, none, some [6, 6], none, none], [none, none, none, none, none, none, none, none, none, none, none, some [0, 0, 0, 0, 0, 0, 0, 0, 0, 0, 0, 0, 0, 0, 0, 0, 0, 0, 0, 0, 0, 0, 0, 0, 0, 0, 0, 0, 0, 0, 0, 0, 0, 0, 0, 0, 0, 0, 0, 0, 0, 0, 0, 0, 0, 0, 0, 0, 0, 0, 0, 0, 0, 0, 0, 0, 0, 0, 0, 0, 0, 0, 0, 0, 0, 0, 0, 0, 0, 0, 0, -1], some [0, 0, 0, 0, 0, 0, 0, 0, 0, 0, 0, 0, 0, 0, 0, 0, 0, 0, 0, 0, 0, 0, 0, 0, 0, 0, 0, 0, 0, 0, 0, 0, 0, 0, 0, 0, 0, 0, 0, 0, 0, 0, 0, 0, 0, 0, 0, 0, 0, 0, 0, 0, 0, 0, 0, 0, 0, 0, 0, 0, 0, 0, 0, 0, 0, 0, 0, 0, 0, 0, 0, -1], none, none, none, none, none, none, none, none, none, none, none, none, none, none, none, none, none, none, none]]
def hy_ol : List (List (Option (List Int64))) := [[none, none, none, none, none, none, none, none, none, none, none, none, none, none, none, none, none, none, none, none, none, none, none, none, none, none, none, none, none, none, none, none], [none, none, none, none, none, none, none, none, none, none, none, none, none, none, none, none, none, none, none, none, none, none, none, none, none, none, none, none, none, none, none, none], [none, none, none, none, none, none, none, none, none, none, none, none, none, none, none, none, none, none, none, none, none, none, none, none, none, none, none, none, none, none, none, none], [none, none, none, none, none, none, none, none, none, none, none, none, none, none, none, none, none, none, none, none, none, none, none, none, none, none, none, none, none, none, none, none], [none, none, none, none, none, none, none, none, none, none, none, none, none, none, none, none, none, none, none, none, none, none, none, none, none, none, none, none, none, none, none, none], [none, none, none, none, none, none, none, none, none, none, none, none, none, none, none, none, none, none, none, none, none, none, none, none, none, none, none, none, none, none, none, none], [none, none, none, none, none, none, none, none, none, none, none, none, none, none, none, none, none, none, none, none, none, none, none, none, none, none, none, none, none, none, none, none], [none, none, none, none, none, none, none, none, none, none, none, none, none, none, none, none, none, none, none, none, none, none, none, none, none, none, none, none, none, none, none, none], [none, none, none, none, none, none, none, none, none, none, none, none, none, none, none, none, none, none, none, none, none, none, none, none, none, none, none, none, none, none, none, none], [none, none, none, none, none, none, none, none, none, none, none, none, none, none, none, none, none, none, none, none, none, none, none, none, none, none, none, none, none, none, none, none], [none, none, none, none, none, none, none, none, none, none, none, none, none, none, none, none, none, none, none, none, none, none, none, none, none, none, none, none, none, none, none, none], [none, none, none, none, none, none, none, none, none, none, none, none, none, none, none, none, none, none, none, none, none, none, some [4562600, 10206127, 5948362, 11055682, 173143, 85447, 4081083, 377761, 249, 399641, 107681, 90090, 168984, 2968, 316163, 12253591, 923, 8536420, 257011, 5863], none, none, none, none, none, none, none, none, none], [none, none, none, none, none, none, none, none, none, none, none, none, none, none, none, none, none, none, none, none, none, none, none, none, none, none, none, none, none, none, none, none]]
def hy_hp : hc_H := [hy_c0, hy_c1, hy_c2, hy_c3, hy_c4, hy_c5, hy_c6, hy_c7, hy_c8, hy_c9, hy_c10, hy_c11, hy_c12]
noncomputable def hy_1 (i k : Nat) : Int32 := match hc_get hy_hp i with
  | some (.inr o) => (match hc_nth o.2 k with
    | some (.int x) => x
    | _ => 0)
  | _ => 0
noncomputable def hy_2 (i j : Nat) : Int32 := match hc_get hy_ov i with
  | some l => (match hc_nth l j with
    | some x => x
    | none => 0)
  | none => 0
noncomputable def hy_3 (i j : Nat) : Int64 := match hc_get hy_ol i with
  | some l => (match hc_nth l j with
    | some x => x
    | none => 0)
  | none => 0
noncomputable def hy_4 (i k : Nat) : Nat := match hc_get hy_hp i with
  | some (.inr o) => (match hc_nth o.2 k with
    | some (.ref x) => x
    | _ => 0)
  | _ => 0
noncomputable def hy_A : hs_A := (hy_1, hy_2, hy_3, hy_4)
def hy_V (a b : Value) : Bool := match a, b with
  | .int x, .int y => decide (x = y)
  | .long x, .long y => decide (x = y)
  | .ref x, .ref y => Nat.beq x y
  | _, _ => false
theorem hy_V_ok {a b : Value} (h : hy_V a b = true) : a = b := by
  unfold hy_V at h
  split at h
  next x y => exact congrArg Value.int (of_decide_eq_true h)
  next x y => exact congrArg Value.long (of_decide_eq_true h)
  next x y => exact congrArg Value.ref (Nat.eq_of_beq_eq_true h)
  · cases h
noncomputable def hy_L (l : List Value) : List Value → Bool := List.rec (motive := fun _ => List Value → Bool) (fun m => match m with
  | [] => true
  | _ => false) (fun a _ ih m => match m with
  | [] => false
  | b :: m => match hy_V a b with
    | true => ih m
    | false => false) l
theorem hy_L_ok : ∀ l m : List Value, hy_L l m = true → l = m
  | [], [], _ => rfl
  | [], b :: m, h => by cases h
  | a :: l, [], h => by cases h
  | a :: l, b :: m, h => by
    have h' : (match hy_V a b with
      | true => hy_L l m
      | false => false) = true := h
    cases q : hy_V a b with
    | false => rw [q] at h'; cases h'
    | true =>
      rw [q] at h'
      rw [hy_V_ok q, hy_L_ok l m h']
noncomputable def hy_C (a : Option hc_C) (b : hc_C) : Bool := match a, b with
  | some (.inl x), .inl y => Nat.beq x.1 y.1 && hy_L x.2 y.2
  | some (.inr x), .inr y => Nat.beq x.1 y.1 && hy_L x.2 y.2
  | _, _ => false
theorem hy_C_ok {a : Option hc_C} {b : hc_C} (h : hy_C a b = true) : a = some b := by
  match a, b, h with
  | some (.inl (x1, x2)), .inl (y1, y2), h =>
    have h' := Bool.and_eq_true_iff.mp h
    have e1 : x1 = y1 := Nat.eq_of_beq_eq_true h'.1
    have e2 : x2 = y2 := hy_L_ok _ _ h'.2
    rw [e1, e2]
  | some (.inr (x1, x2)), .inr (y1, y2), h =>
    have h' := Bool.and_eq_true_iff.mp h
    have e1 : x1 = y1 := Nat.eq_of_beq_eq_true h'.1
    have e2 : x2 = y2 := hy_L_ok _ _ h'.2
    rw [e1, e2]
noncomputable def hy_ck (i : Nat) : Bool := match hc_get hs_sh i with
  | none => true
  | some sh => hy_C (hc_get hy_hp i) (hs_cell hy_A i sh)
set_option maxRecDepth 1000000 in
theorem hy_ck_all : (List.range 416).all hy_ck = true := by decide +kernel
theorem hy_out {α : Type} {t : List (List (Option α))} (ht : t.length = 13) {i : Nat} (hi : 416 ≤ i) : hc_get t i = none := by
  unfold hc_get
  have : hc_nth t (i / 32) = none := by
    rw [hc_nth_eq]
    exact List.getElem?_eq_none (by omega)
  rw [this]
theorem hy_Rep : hs_Rep hy_hp hy_A := by
  intro i sh h
  by_cases hi : i < 416
  · have := List.all_eq_true.mp hy_ck_all i (List.mem_range.mpr hi)
    unfold hy_ck at this
    rw [h] at this
    exact hy_C_ok this
  · rw [hy_out (by rfl) (by omega)] at h
    cases h
def hy_okb (b : Option (Int × Int)) (x : Int32) : Bool := match b with
  | none => true
  | some q => decide (q.1 ≤ x.toInt) && decide (x.toInt ≤ q.2)
theorem hy_okb_ok {b : Option (Int × Int)} {x : Int32} (h : hy_okb b x = true) : hb_ok b x := by
  cases b with
  | none => exact True.intro
  | some q =>
    have h' := Bool.and_eq_true_iff.mp h
    exact ⟨of_decide_eq_true h'.1, of_decide_eq_true h'.2⟩
set_option maxRecDepth 1000000 in
theorem hy_f_all : (List.range 416).all (fun i => (List.range 64).all (fun k => hy_okb (hb_f i k) (hy_1 i k))) = true := by decide +kernel
theorem hy_ft_len : (hb_ft.all fun q => Nat.ble q.length 64) = true := by decide +kernel
theorem hy_f (i k : Nat) : hb_ok (hb_f i k) (hy_1 i k) := by
  by_cases hi : i < 416
  · by_cases hk : k < 64
    · exact hy_okb_ok (List.all_eq_true.mp (List.all_eq_true.mp hy_f_all i (List.mem_range.mpr hi)) k (List.mem_range.mpr hk))
    · refine hbokN ?_
      unfold hb_f
      split
      · rfl
      next sh _ =>
        split
        · rfl
        · split
          · rfl
          next q hq' =>
            have hm : q ∈ hb_ft := by
              rw [hc_nth_eq] at hq'
              exact List.mem_of_getElem? hq'
            have hl := List.all_eq_true.mp hy_ft_len q hm
            have hl' := Nat.le_of_ble_eq_true hl
            have : hc_nth q k = none := by
              rw [hc_nth_eq]
              exact List.getElem?_eq_none (by omega)
            rw [this]
  · refine hbokN ?_
    unfold hb_f
    rw [hy_out (by rfl) (by omega)]
noncomputable def hy_aok (i : Nat) : Bool := match hb_a i with
  | none => true
  | some q => (decide (q.1 ≤ 0) && decide (0 ≤ q.2)) && (List.range 500).all (fun j => hy_okb (some q) (hy_2 i j))
set_option maxRecDepth 1000000 in
theorem hy_a_all : (List.range 416).all hy_aok = true := by decide +kernel
theorem hy_ov_len : (hy_ov.all fun q => q.all fun l => match l with
  | some l => Nat.ble l.length 100
  | none => true) = true := by decide +kernel
theorem hy_0 {i j : Nat} (hj : 100 ≤ j) : hy_2 i j = 0 := by
  unfold hy_2
  cases q : hc_get hy_ov i with
  | none => rfl
  | some l =>
    have hl : l.length ≤ 100 := by
      unfold hc_get at q
      split at q
      · cases q
      next ch h1 =>
        split at q
        · cases q
        next y h2 =>
          subst q
          rw [hc_nth_eq] at h1 h2
          have a1 := List.all_eq_true.mp hy_ov_len ch (List.mem_of_getElem? h1)
          have a2 := List.all_eq_true.mp a1 _ (List.mem_of_getElem? h2)
          exact Nat.le_of_ble_eq_true a2
    have : hc_nth l j = none := by
      rw [hc_nth_eq]
      exact List.getElem?_eq_none (by omega)
    show (match hc_nth l j with
      | some x => x
      | none => 0) = 0
    rw [this]
theorem hy_a (i j : Nat) : hb_ok (hb_a i) (hy_2 i j) := by
  by_cases hi : i < 416
  · have h1 := List.all_eq_true.mp hy_a_all i (List.mem_range.mpr hi)
    unfold hy_aok at h1
    cases q : hb_a i with
    | none => exact True.intro
    | some b =>
      rw [q] at h1
      have h1' := Bool.and_eq_true_iff.mp h1
      by_cases hj : j < 500
      · exact hy_okb_ok (List.all_eq_true.mp h1'.2 j (List.mem_range.mpr hj))
      · rw [hy_0 (by omega)]
        have h0 := Bool.and_eq_true_iff.mp h1'.1
        have z : (0 : Int32).toInt = 0 := by decide
        exact ⟨by rw [z]; exact of_decide_eq_true h0.1, by rw [z]; exact of_decide_eq_true h0.2⟩
  · refine hbokN ?_
    unfold hb_a
    exact hy_out (by rfl) (by omega)
set_option maxRecDepth 1000000 in
theorem hy_h40 : (List.range 40).all (fun u => decide ((hy_2 399 (73 * u + 70)).toInt = 0)) = true := by decide +kernel
set_option maxRecDepth 1000000 in
theorem hy_h3 : (List.range 3).all (fun u => decide ((hy_2 409 (73 * u + 70)).toInt = 0)) = true := by decide +kernel
set_option maxRecDepth 1000000 in
theorem hy_st : (List.range 416).all (fun j => decide (hy_2 7 j &&& 7 = 1 → 0 ≤ (hy_2 7 j).toInt) && decide (hy_2 16 j &&& 7 = 1 → 0 ≤ (hy_2 16 j).toInt)) = true := by decide +kernel
set_option maxRecDepth 1000000 in
theorem hy_pg : (List.range 24).all (fun j => decide ((hy_2 5 j).toInt = 0)) = true := by decide +kernel
theorem hy_J : hJ 0 0 72 hy_A hy_A := by
  have hsteps : ∀ T, hTT T → ∀ j, hVs (hy_2 (T + 5) j) := by
    intro T hT j
    by_cases hj : j < 416
    · have q := Bool.and_eq_true_iff.mp (List.all_eq_true.mp hy_st j (List.mem_range.mpr hj))
      rcases hT with rfl | rfl
      · have w : hy_2 7 j &&& 7 = 1 → 0 ≤ (hy_2 7 j).toInt := of_decide_eq_true q.1
        exact w
      · have w : hy_2 16 j &&& 7 = 1 → 0 ≤ (hy_2 16 j).toInt := of_decide_eq_true q.2
        exact w
    · have e : hy_2 (T + 5) j = 0 := hy_0 (by omega)
      rw [e]
      intro z
      exact absurd z (by decide)
  refine ⟨⟨hy_f, hy_a, Or.inl (by rfl)⟩, ⟨?_, ?_, fun u hu => ?_, fun u hu => ?_⟩, ⟨fun _ _ _ => rfl, fun _ _ _ => rfl, fun _ => rfl, fun _ _ _ => rfl⟩, ⟨Or.inl ⟨rfl, rfl⟩, fun j hj => ?_, hsteps, ?_, ?_⟩, True.intro⟩
  · have : (hy_2 396 70).toInt = 0 := by decide +kernel
    show 0 ≤ (hy_2 396 70).toInt ∧ (hy_2 396 70).toInt ≤ 72
    omega
  · have : (hy_2 395 70).toInt = 0 := by decide +kernel
    show 0 ≤ (hy_2 395 70).toInt ∧ (hy_2 395 70).toInt ≤ 0
    omega
  · have : (hy_2 399 (73 * u + 70)).toInt = 0 := of_decide_eq_true (List.all_eq_true.mp hy_h40 u (List.mem_range.mpr hu))
    show 0 ≤ (hy_2 399 (73 * u + 70)).toInt ∧ (hy_2 399 (73 * u + 70)).toInt ≤ 0
    omega
  · have : (hy_2 409 (73 * u + 70)).toInt = 0 := of_decide_eq_true (List.all_eq_true.mp hy_h3 u (List.mem_range.mpr hu))
    show 0 ≤ (hy_2 409 (73 * u + 70)).toInt ∧ (hy_2 409 (73 * u + 70)).toInt ≤ 0
    omega
  · have : (hy_2 5 j).toInt = 0 := of_decide_eq_true (List.all_eq_true.mp hy_pg j (List.mem_range.mpr hj))
    show 0 ≤ (hy_2 5 j).toInt ∧ (hy_2 5 j).toInt ≤ 255
    omega
  · intro a ha hb
    have e : (hy_1 367 18).toInt = 0 := by decide +kernel
    have ha' : a < 4 := by
      have hb2 : (a : Int) < 4 * (hy_1 367 18).toInt + 4 := hb
      omega
    left
    show (hy_2 383 a).toInt = (hy_2 384 a).toInt
    have : a = 0 ∨ a = 1 ∨ a = 2 ∨ a = 3 := by omega
    rcases this with rfl | rfl | rfl | rfl <;> decide +kernel
  · have e : (hy_1 367 18).toInt = 0 := by decide +kernel
    show 0 ≤ (hy_1 367 18).toInt ∧ (hy_1 367 18).toInt ≤ 1
    omega
theorem hy_t : (hy_A.1 0 1).toInt = (hy_A.1 367 2).toInt := by decide +kernel
/-! THE LAW by worlds: from here it comes to its end, with 1 on the pile -/
noncomputable def hlx (LS : Nat × (Nat → Option Int32)) (d pc : Nat) (l st : List Value) (A : hs_A) : Prop := ∀ h, hs_Rep h A → ∃ (F n : Nat) (l' : List Value) (h' : hc_H), ∀ g, F ≤ g → hc_steps LS hm_pg (hx_call g d) (some .boolean) hm_law n (pc, l, st, hs_n, h, 410, 24060) = some (1479, l', [.int 1], hs_n, h', 410, 24060)
section HLW
variable {LS : Nat × (Nat → Option Int32)} {d pc len r1 r2 : Nat} {l st : List Value} {A : hs_A}
theorem hlx_step {h h' : hc_H} {pc' : Nat} {l1 st1 : List Value} (F1 : Nat) (hs : ∀ g, F1 ≤ g → hc_step1 LS hm_pg (hx_call g d) (some .boolean) hm_law (pc, l, st, hs_n, h, 410, 24060) = some (.inl (pc', l1, st1, hs_n, h', 410, 24060))) (k : ∃ (F n : Nat) (l' : List Value) (h2 : hc_H), ∀ g, F ≤ g → hc_steps LS hm_pg (hx_call g d) (some .boolean) hm_law n (pc', l1, st1, hs_n, h', 410, 24060) = some (1479, l', [.int 1], hs_n, h2, 410, 24060)) : ∃ (F n : Nat) (l' : List Value) (h2 : hc_H), ∀ g, F ≤ g → hc_steps LS hm_pg (hx_call g d) (some .boolean) hm_law n (pc, l, st, hs_n, h, 410, 24060) = some (1479, l', [.int 1], hs_n, h2, 410, 24060) := by
  obtain ⟨F, n, l', h2, q⟩ := k
  refine ⟨F + F1, n + 1, l', h2, fun g hg => ?_⟩
  show (match hc_step1 LS hm_pg (hx_call g d) (some .boolean) hm_law (pc, l, st, hs_n, h, 410, 24060) with
    | some (.inl S') => hc_steps LS hm_pg (hx_call g d) (some .boolean) hm_law n S'
    | _ => none) = _
  rw [hs g (by omega)]
  exact q g (by omega)
theorem hlx_end {l : List Value} : hlx LS d 1479 l [.int 1] A := fun h _ => ⟨0, 0, l, h, fun _ _ => rfl⟩
theorem hlx_iconst {z : Int} {v : Int32} (hI : hc_get hm_law pc = some (.iconst z, len, r1, r2)) (hv : Int32.ofNat r1 = v) (k : hlx LS d (pc + 1) l (.int v :: st) A) : hlx LS d pc l st A := fun h hR => hlx_step 0 (fun g _ => by
  unfold hc_step1
  simp only [hI]
  subst hv
  rfl) (k h hR)
theorem hlx_bipush {z : Int} {v : Int32} (hI : hc_get hm_law pc = some (.bipush z, len, r1, r2)) (hv : Int32.ofNat r1 = v) (k : hlx LS d (pc + 2) l (.int v :: st) A) : hlx LS d pc l st A := fun h hR => hlx_step 0 (fun g _ => by
  unfold hc_step1
  simp only [hI]
  subst hv
  rfl) (k h hR)
theorem hlx_iload_n {z : Fin 4} {x : Int32} (hI : hc_get hm_law pc = some (.iload_n z, len, r1, r2)) (hl : hc_nth l r1 = some (.int x)) (k : hlx LS d (pc + 1) l (.int x :: st) A) : hlx LS d pc l st A := fun h hR => hlx_step 0 (fun g _ => by
  unfold hc_step1
  simp only [hI]
  show hi_iload_n r1 pc l st hs_n h 410 24060 = _
  unfold hi_iload_n
  rw [hl]
  rfl) (k h hR)
theorem hlx_aload_n {z : Fin 4} {x : Nat} (hI : hc_get hm_law pc = some (.aload_n z, len, r1, r2)) (hl : hc_nth l r1 = some (.ref x)) (k : hlx LS d (pc + 1) l (.ref x :: st) A) : hlx LS d pc l st A := fun h hR => hlx_step 0 (fun g _ => by
  unfold hc_step1
  simp only [hI]
  show hi_aload_n r1 pc l st hs_n h 410 24060 = _
  unfold hi_aload_n
  rw [hl]
  rfl) (k h hR)
theorem hlx_iadd {x y : Int32} (hI : hc_get hm_law pc = some (.iadd, len, r1, r2))  (k : hlx LS d (pc + 1) l (.int (x + y) :: st) A) : hlx LS d pc l (.int y :: .int x :: st) A := fun h hR => hlx_step 0 (fun g _ => by
  unfold hc_step1
  simp only [hI]
  rfl) (k h hR)
theorem hlx_isub {x y : Int32} (hI : hc_get hm_law pc = some (.isub, len, r1, r2))  (k : hlx LS d (pc + 1) l (.int (x - y) :: st) A) : hlx LS d pc l (.int y :: .int x :: st) A := fun h hR => hlx_step 0 (fun g _ => by
  unfold hc_step1
  simp only [hI]
  rfl) (k h hR)
theorem hlx_iand {x y : Int32} (hI : hc_get hm_law pc = some (.iand, len, r1, r2))  (k : hlx LS d (pc + 1) l (.int (x &&& y) :: st) A) : hlx LS d pc l (.int y :: .int x :: st) A := fun h hR => hlx_step 0 (fun g _ => by
  unfold hc_step1
  simp only [hI]
  rfl) (k h hR)
theorem hlx_goto {off : Int} (hI : hc_get hm_law pc = some (.goto off, len, r1, r2))  (k : hlx LS d r1 l st A) : hlx LS d pc l st A := fun h hR => hlx_step 0 (fun g _ => by
  unfold hc_step1
  simp only [hI]
  rfl) (k h hR)
theorem hlx_popI {x : Int32} (hI : hc_get hm_law pc = some (.pop, len, r1, r2))  (k : hlx LS d (pc + 1) l st A) : hlx LS d pc l (.int x :: st) A := fun h hR => hlx_step 0 (fun g _ => by
  unfold hc_step1
  simp only [hI]
  rfl) (k h hR)
theorem hlx_sld {j x : Int32} (hI : hc_get hm_law pc = some (.iaload, len, r1, r2)) (h0 : 0 ≤ j.toInt) (h1 : j.toInt < LS.1) (hx : LS.2 j.toNatClampNeg = some x) (k : hlx LS d (pc + 1) l (.int x :: st) A) : hlx LS d pc l (.int j :: .ref 0 :: st) A := fun h hR => hlx_step 0 (fun g _ => by
  unfold hc_step1
  simp only [hI]
  show (match decide (j < 0) || Nat.ble LS.1 j.toNatClampNeg with
    | true => none
    | false => match LS.2 j.toNatClampNeg with
      | some x => hc_nx (pc + 1) l (.int x :: st) hs_n h 410 24060
      | none => hc_nx (pc + 1) l (.float (UInt32.ofNat j.toNatClampNeg) :: st) hs_n h 410 24060) = _
  have c := hn_cn h0
  have b : Nat.ble LS.1 j.toNatClampNeg = false := by
    cases q : Nat.ble LS.1 j.toNatClampNeg with
    | false => rfl
    | true => have := Nat.le_of_ble_eq_true q; omega
  rw [decide_eq_false (hn_ix0 rfl h0), b, hx]
  rfl) (k h hR)
theorem hlx_slen (hI : hc_get hm_law pc = some (.arraylength, len, r1, r2)) (h0 : ¬ LS.1 = 0) (k : hlx LS d (pc + 1) l (.int (Int32.ofNat LS.1) :: st) A) : hlx LS d pc l (.ref 0 :: st) A := fun h hR => hlx_step 0 (fun g _ => by
  unfold hc_step1
  simp only [hI]
  show hi_arraylength LS pc l (.ref 0 :: st) hs_n h 410 24060 = _
  unfold hi_arraylength
  have b : Nat.beq LS.1 0 = false := by
    cases q : Nat.beq LS.1 0 with
    | false => rfl
    | true => exact absurd (Nat.eq_of_beq_eq_true q) h0
  rw [b]
  rfl) (k h hR)
theorem hlx_iinc {z : Nat} {w : Int} {x : Int32} {l' : List Value} (hI : hc_get hm_law pc = some (.iinc z w, len, r1, r2)) (hx : hc_nth l r1 = some (.int x)) (hl : hc_s1 l r1 (.int (x + Int32.ofNat r2)) = some l') (k : hlx LS d (pc + 3) l' st A) : hlx LS d pc l st A := fun h hR => hlx_step 0 (fun g _ => by
  unfold hc_step1
  simp only [hI]
  show hi_iinc r1 r2 pc l st hs_n h 410 24060 = _
  unfold hi_iinc
  rw [hx]
  dsimp only
  rw [hl]
  rfl) (k h hR)
theorem hlx_icmp {op : Jvm.ClassFile.Cond} {off : Int} {x y : Int32} (hI : hc_get hm_law pc = some (.if_icmp op off, len, r1, r2)) (kt : hc_cmp op x y = true → hlx LS d r1 l st A) (kf : hc_cmp op x y = false → hlx LS d (pc + 3) l st A) : hlx LS d pc l (.int y :: .int x :: st) A := fun h hR => by
  cases hb : hc_cmp op x y with
  | true =>
    refine hlx_step 0 (fun g _ => ?_) (kt hb h hR)
    unfold hc_step1
    simp only [hI]
    show hi_if_icmp op r1 pc l (.int y :: .int x :: st) hs_n h 410 24060 = _
    unfold hi_if_icmp
    dsimp only
    rw [hb]
    rfl
  | false =>
    refine hlx_step 0 (fun g _ => ?_) (kf hb h hR)
    unfold hc_step1
    simp only [hI]
    show hi_if_icmp op r1 pc l (.int y :: .int x :: st) hs_n h 410 24060 = _
    unfold hi_if_icmp
    dsimp only
    rw [hb]
    rfl
theorem hlx_if {op : Jvm.ClassFile.Cond} {off : Int} {x : Int32} (hI : hc_get hm_law pc = some (.ifCond op off, len, r1, r2)) (kt : hc_cmp op x 0 = true → hlx LS d r1 l st A) (kf : hc_cmp op x 0 = false → hlx LS d (pc + 3) l st A) : hlx LS d pc l (.int x :: st) A := fun h hR => by
  cases hb : hc_cmp op x 0 with
  | true =>
    refine hlx_step 0 (fun g _ => ?_) (kt hb h hR)
    unfold hc_step1
    simp only [hI]
    show hi_ifCond LS op r1 pc l (.int x :: st) hs_n h 410 24060 = _
    unfold hi_ifCond
    dsimp only
    rw [hb]
    rfl
  | false =>
    refine hlx_step 0 (fun g _ => ?_) (kf hb h hR)
    unfold hc_step1
    simp only [hI]
    show hi_ifCond LS op r1 pc l (.int x :: st) hs_n h 410 24060 = _
    unfold hi_ifCond
    dsimp only
    rw [hb]
    rfl
theorem hlx_tabOut {dflt lo hi : Int} {offs : Array Int} {x : Int32} (hI : hc_get hm_law pc = some (.tableswitch dflt lo hi offs, len, r1, r2)) (hx : x.toInt < lo ∨ hi < x.toInt) {tgt : Nat} (ht : (pc : Int) + dflt = (tgt : Int)) (k : hlx LS d tgt l st A) : hlx LS d pc l (.int x :: st) A := fun h hR => hlx_step 0 (fun g _ => by
  unfold hc_step1
  simp only [hI]
  show hi_tableswitch LS dflt lo hi offs pc l (.int x :: st) hs_n h 410 24060 = _
  unfold hi_tableswitch
  dsimp only
  have h1 : (decide (x.toInt < lo) || decide (hi < x.toInt)) = true := by simp [hx]
  rw [h1]
  dsimp only
  rw [ht, decide_eq_true (by omega : (0 : Int) ≤ (tgt : Int))]
  rfl) (k h hR)
theorem hlx_tabIn {dflt lo hi off : Int} {offs : Array Int} {x : Int32} (hI : hc_get hm_law pc = some (.tableswitch dflt lo hi offs, len, r1, r2)) (h1 : ¬ x.toInt < lo) (h2 : ¬ hi < x.toInt) (ho : offs.toList[(x.toInt - lo).toNat]? = some off) {tgt : Nat} (ht : (pc : Int) + off = (tgt : Int)) (k : hlx LS d tgt l st A) : hlx LS d pc l (.int x :: st) A := fun h hR => hlx_step 0 (fun g _ => by
  unfold hc_step1
  simp only [hI]
  show hi_tableswitch LS dflt lo hi offs pc l (.int x :: st) hs_n h 410 24060 = _
  unfold hi_tableswitch
  dsimp only
  have h3 : (decide (x.toInt < lo) || decide (hi < x.toInt)) = false := by simp [h1, h2]
  rw [h3]
  dsimp only
  rw [hc_nth_eq, ho]
  dsimp only
  rw [ht, decide_eq_true (by omega : (0 : Int) ≤ (tgt : Int))]
  rfl) (k h hR)
theorem hlx_call {z i ci : Nat} {ks : List Nat} {e : hc_M} {as rest : List Value} {P1 : Option Value → hs_A → Prop} (hI : hc_get hm_law pc = some (.invokevirtual z, len, r1, 0)) (he : hc_get hm_pg r1 = some e) (hpop : hc_pop e.2.2.2.2.2.1 st [] = some (as, .ref (i + 1) :: rest)) (hs : hc_get hs_sh i = some (3, ci, ks)) (hoc : e.2.2.2.2.1 = ci) (hcat : Nat.ble (hc_cat rest) 8 = true) (hC : hxC d r1 e (.ref (i + 1) :: as) A P1) (k : ∀ (r : Option Value) (A' : hs_A), P1 r A' → hlx LS d (pc + 3) l (hc_app r rest) A') : hlx LS d pc l st A := fun h hR => by
  obtain ⟨F, r, h', hcall, A', hR', hP1⟩ := hC h hR
  refine hlx_step F (fun g hg => ?_) (k r A' hP1 h' hR')
  unfold hc_step1
  simp only [hI]
  show hc_inv0 hm_pg (hx_call g d) r1 pc l st hs_n h 410 24060 = _
  unfold hc_inv0
  rw [he]
  dsimp only
  rw [hpop]
  dsimp only
  rw [hR i _ hs, hs_cell3, hoc, hc_objS]
  dsimp only
  rw [hcat]
  dsimp only
  rw [hcall g hg]
  rfl
end HLW
/-! THE READING as a prefix automaton over the tokens: K their kinds, V their ints, E whether two names are the same.
    A state: where (0 a statement; 1-4 a house's name, wants, age, end; 5-7 sends; 8, 9 grief; 10, 11 seed; 12 a law's =; 13 a branch; 14 a unit is wanted; 15 behind a unit),
    the ifs, the context (0 left of <, 1 right of it, 2 behind then, 3 the last term), the depth, the tokens of the houses' names (the last first), its own name's token, the sends, the late fault (code and token). -/
abbrev hq_S : Type := Nat × Nat × Nat × Nat × List Nat × Nat × Nat × Option (Nat × Nat)
section HQ
variable (K V : Nat → Int) (E : Nat → Nat → Bool)
def hq_late (c t : Nat) (o : Option (Nat × Nat)) : Option (Nat × Nat) := match o with
  | none => some (c, t)
  | some x => some x
/-- an int within bounds, else WRONG is noted -/
def hq_rng (lo hi : Int) (t : Nat) (o : Option (Nat × Nat)) : Option (Nat × Nat) := if lo ≤ V t ∧ V t ≤ hi then o else hq_late 5 t o
def hq_go (t : Nat) (s : hq_S) : hq_S ⊕ Nat := if t < 400 then .inl s else .inr 2
/-- a token of kind k is wanted -/
def hq_must (k : Int) (t : Nat) (s : hq_S) : hq_S ⊕ Nat := if K t = k then hq_go t s else .inr 1
def hq_unit (t : Nat) (ifs ctx dp : Nat) (r : List Nat × Nat × Nat × Option (Nat × Nat)) : hq_S ⊕ Nat :=
  if K t = 21 ∨ (11 ≤ K t ∧ K t ≤ 19) then hq_go t (15, ifs, ctx, dp, r)
  else if K t = 31 then (if dp < 6 then hq_go t (14, ifs, ctx, dp + 1, r) else .inr 2)
  else .inr 1
def hq_out (t : Nat) (ifs ctx : Nat) (r : List Nat × Nat × Nat × Option (Nat × Nat)) : hq_S ⊕ Nat := match ctx with
  | 0 => hq_must K 30 t (14, ifs, 1, 0, r)
  | 1 => hq_must K 9 t (14, ifs, 2, 0, r)
  | 2 => hq_must K 10 t (13, ifs, 0, 0, r)
  | _ => hq_must K 24 t (0, 0, 0, 0, r)
def hq_dl (t : Nat) (s : hq_S) : hq_S ⊕ Nat := match s with
  | (0, _, _, _, ns, nm, sn, o) =>
    if K t = 22 then .inr 0
    else if K t = 0 then (if ns.length < 10 then hq_go t (1, 0, 0, 0, ns, nm, sn, o) else .inr 2)
    else if K t = 1 then (if sn < 8 then hq_go t (5, 0, 0, 0, ns, nm, sn, o) else .inr 2)
    else if K t = 6 then hq_go t (8, 0, 0, 0, ns, nm, sn, o)
    else if K t = 7 then hq_go t (10, 0, 0, 0, ns, nm, sn, o)
    else if 2 ≤ K t ∧ K t ≤ 5 then hq_go t (12, 0, 0, 0, ns, nm, sn, o)
    else .inr 1
  | (1, _, _, _, ns, _, sn, o) => hq_must K 20 t (2, 0, 0, 0, ns, t, sn, if ns.any (fun u => E u t) then hq_late 3 t o else o)
  | (2, _, _, _, ns, nm, sn, o) => hq_must K 21 t (3, 0, 0, 0, ns, nm, sn, hq_rng V 0 255 t o)
  | (3, _, _, _, ns, nm, sn, o) => hq_must K 21 t (4, 0, 0, 0, ns, nm, sn, hq_rng V 0 99 t o)
  | (4, _, _, _, ns, nm, sn, o) => hq_must K 24 t (0, 0, 0, 0, nm :: ns, nm, sn, o)
  | (5, _, _, _, ns, nm, sn, o) => hq_must K 21 t (6, 0, 0, 0, ns, nm, sn, hq_rng V 0 23 t o)
  | (6, _, _, _, ns, nm, sn, o) => hq_must K 21 t (7, 0, 0, 0, ns, nm, sn, hq_rng V 0 255 t o)
  | (7, _, _, _, ns, nm, sn, o) => hq_must K 24 t (0, 0, 0, 0, ns, nm, sn + 1, o)
  | (8, _, _, _, ns, nm, sn, o) => hq_must K 21 t (9, 0, 0, 0, ns, nm, sn, hq_rng V 1 99 t o)
  | (9, _, _, _, ns, nm, sn, o) => hq_must K 24 t (0, 0, 0, 0, ns, nm, sn, o)
  | (10, _, _, _, ns, nm, sn, o) => hq_must K 21 t (11, 0, 0, 0, ns, nm, sn, hq_rng V 0 9999 t o)
  | (11, _, _, _, ns, nm, sn, o) => hq_must K 24 t (0, 0, 0, 0, ns, nm, sn, o)
  | (12, _, _, _, ns, nm, sn, o) => hq_must K 25 t (13, 0, 0, 0, ns, nm, sn, o)
  | (13, ifs, _, _, r) =>
    if K t = 8 then (if ifs < 4 then hq_go t (14, ifs + 1, 0, 0, r) else .inr 2)
    else hq_unit K t ifs 3 0 r
  | (14, ifs, ctx, dp, r) => hq_unit K t ifs ctx dp r
  | (_, ifs, ctx, dp, r) =>
    if 26 ≤ K t ∧ K t ≤ 29 then hq_go t (14, ifs, ctx, dp, r)
    else match dp with
      | 0 => hq_out K t ifs ctx r
      | dp + 1 => hq_must K 32 t (15, ifs, ctx, dp, r)
def hq_q : Nat → Option hq_S
  | 0 => some (0, 0, 0, 0, [], 0, 0, none)
  | t + 1 => match hq_q t with
    | none => none
    | some s => match hq_dl K V E t s with
      | .inl s' => some s'
      | .inr _ => none
/-- at token t the reading ends, with k (0: the end of the text at a statement) -/
def hq_f (t k : Nat) : Prop := ∃ s, hq_q K V E t = some s ∧ hq_dl K V E t s = .inr k
theorem hq_dead {t : Nat} (h : hq_q K V E t = none) : ∀ n, hq_q K V E (t + n) = none
  | 0 => h
  | n + 1 => by
    show (match hq_q K V E (t + n) with
      | none => none
      | some s => match hq_dl K V E (t + n) s with
        | .inl s' => some s'
        | .inr _ => none) = none
    rw [hq_dead h n]
theorem hq_next {t : Nat} {s s' : hq_S} (h : hq_q K V E t = some s) (hd : hq_dl K V E t s = .inl s') : hq_q K V E (t + 1) = some s' := by
  show (match hq_q K V E t with
    | none => none
    | some s => match hq_dl K V E t s with
      | .inl s' => some s'
      | .inr _ => none) = some s'
  rw [h]
  dsimp only
  rw [hd]
theorem hq_f_dead {t k : Nat} (h : hq_f K V E t k) : hq_q K V E (t + 1) = none := by
  obtain ⟨s, h1, h2⟩ := h
  show (match hq_q K V E t with
    | none => none
    | some s => match hq_dl K V E t s with
      | .inl s' => some s'
      | .inr _ => none) = none
  rw [h1]
  dsimp only
  rw [h2]
theorem hq_f_one {t k t' k' : Nat} (h : hq_f K V E t k) (h' : hq_f K V E t' k') : t = t' ∧ k = k' := by
  have key : ∀ {a ka b kb : Nat}, hq_f K V E a ka → hq_f K V E b kb → ¬ a < b := by
    intro a ka b kb ha hb hlt
    obtain ⟨s, h1, -⟩ := hb
    have := hq_dead K V E (hq_f_dead K V E ha) (b - (a + 1))
    rw [show a + 1 + (b - (a + 1)) = b by omega, h1] at this
    cases this
  have e : t = t' := by
    have h1 := key h h'
    have h2 := key h' h
    omega
  subst e
  obtain ⟨s, h1, h2⟩ := h
  obtain ⟨s', h3, h4⟩ := h'
  rw [h1] at h3
  cases h3
  rw [h2] at h4
  cases h4
  exact ⟨rfl, rfl⟩
theorem hq_le {t : Nat} : ∀ {s : hq_S}, hq_q K V E t = some s → t ≤ 400 := by
  intro s h
  match t, h with
  | 0, _ => omega
  | t + 1, h =>
    have h' : (match hq_q K V E t with
      | none => none
      | some s => match hq_dl K V E t s with
        | .inl s' => some s'
        | .inr _ => none) = some s := h
    split at h'
    · cases h'
    next s1 hs1 =>
      split at h'
      next s2 hd =>
        have hgo : ∀ {s3 s4 : hq_S}, hq_go t s3 = .inl s4 → t < 400 := by
          intro s3 s4 hg
          unfold hq_go at hg
          split at hg
          · assumption
          · cases hg
        have hmu : ∀ {k : Int} {s3 s4 : hq_S}, hq_must K k t s3 = .inl s4 → t < 400 := by
          intro k s3 s4 hg
          unfold hq_must at hg
          split at hg
          · exact hgo hg
          · cases hg
        have hun : ∀ {a b c : Nat} {r : List Nat × Nat × Nat × Option (Nat × Nat)} {s4 : hq_S}, hq_unit K t a b c r = .inl s4 → t < 400 := by
          intro a b c r s4 hg
          unfold hq_unit at hg
          split at hg
          · exact hgo hg
          · split at hg
            · split at hg
              · exact hgo hg
              · cases hg
            · cases hg
        have hou : ∀ {a b : Nat} {r : List Nat × Nat × Nat × Option (Nat × Nat)} {s4 : hq_S}, hq_out K t a b r = .inl s4 → t < 400 := by
          intro a b r s4 hg
          unfold hq_out at hg
          split at hg <;> exact hmu hg
        have : t < 400 := by
          unfold hq_dl at hd
          split at hd
          · repeat' split at hd
            all_goals first | (cases hd; done) | exact hgo hd
          all_goals first | exact hmu hd | skip
          · repeat' split at hd
            all_goals first | (cases hd; done) | exact hgo hd | exact hun hd
          · exact hun hd
          · repeat' split at hd
            all_goals first | exact hgo hd | exact hou hd | exact hmu hd
        omega
      · cases h'
end HQ
