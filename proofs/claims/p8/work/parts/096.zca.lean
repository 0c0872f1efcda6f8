theorem hY71q10 {d : Nat} {Bn Br : Int} {A0 A : hs_A} (hA : hJ 10 Bn Br A0 A)  (a1 : Int32) (fl0 : 0 ≤ (A.1 0 1).toInt) (fh0 : (A.1 0 1).toInt ≤ 1996) {P : Option Value → hs_A → Prop} (hP : ∀ (r : Option Value) (A' : hs_A), (hJ 10 Bn Br A0 A' ∧ A'.1 367 2 = A.1 367 2 ∧ r = none ∧ ((A'.1 0 1).toInt = (A.1 0 1).toInt + 4)) → P r A') : hxa (d + 0) none hm_t71 0 [.ref 1, .int a1, .retAddr 0] [] A P := by
  have fb367_2 := hA.f (i := 367) (k := 2) (by rfl)
  refine hxa_bipush (by rfl) rfl ?_
  refine hxa_s1 (by rfl) (Or.inl ⟨_, rfl, rfl⟩) rfl ?_
  refine hxa_iload_n (by rfl) rfl ?_
  refine hxj_zlt (by rfl) hk_24 (fun q1 => False.elim (by omega)) (fun q1 => ?_)
  refine hxa_aload_n (by rfl) rfl ?_
  refine hxj_getK (by rfl) (by rfl) (by rfl) rfl ?_
  refine hxa_sipush (by rfl) rfl ?_
  refine hxj_cge (by rfl) rfl hk_2000 (fun q2 => False.elim (by omega)) (fun q2 => ?_)
  refine hxa_aload_n (by rfl) rfl ?_
  refine hxa_get (v := .ref 2) (by rfl) (by rfl) (by rfl) rfl ?_
  refine hxa_aload_n (by rfl) rfl ?_
  refine hxj_getK (by rfl) (by rfl) (by rfl) rfl ?_
  refine hxa_iload_n (by rfl) rfl ?_
  refine hxa_iload_n (by rfl) rfl ?_
  refine hxj_iushrU (by rfl) (fun z3 => ?_)
  refine hxa_i2b (by rfl) (hn_top (fun z4 _ => ?_))
  refine hxj_bast (by rfl) (by rfl) rfl (by omega) (by omega) hA (by rfl) (by rfl) (by rfl) (fun A5 hA5 eA5 fA5 gA5 => ?_)
  refine hxa_aload_n (by rfl) rfl ?_
  refine hxa_dupR (by rfl) ?_
  refine hxj_getK (by rfl) (by rfl) (by rfl) (hkA eA5 rfl) ?_
  refine hxa_iconst (by rfl) rfl ?_
  refine hxj_iadd (by rfl) rfl hk_1 (by omega) (by omega) (fun z6 ez6 => ?_)
  refine hxj_putI (by rfl) (by rfl) (by rfl) (by rfl) hA5 (hbok (by rfl) rfl (by omega) (by omega)) (by rfl) (by rfl) (fun A7 hA7 eA7 fA7 => ?_)
  refine hxj_iinc (by rfl) rfl hk_24 hk_4294967288 (by omega) (by omega) (fun _ => rfl) (fun z8 ez8 => ?_)
  refine hxa_goto (by rfl) ?_
  refine hxa_iload_n (by rfl) rfl ?_
  refine hxj_zlt (by rfl) rfl (fun q9 => False.elim (by omega)) (fun q9 => ?_)
  refine hxa_aload_n (by rfl) rfl ?_
  refine hxj_getK (by rfl) (by rfl) (by rfl) (hkS eA7) ?_
  refine hxa_sipush (by rfl) rfl ?_
  refine hxj_cge (by rfl) rfl hk_2000 (fun q10 => False.elim (by omega)) (fun q10 => ?_)
  refine hxa_aload_n (by rfl) rfl ?_
  refine hxa_get (v := .ref 2) (by rfl) (by rfl) (by rfl) rfl ?_
  refine hxa_aload_n (by rfl) rfl ?_
  refine hxj_getK (by rfl) (by rfl) (by rfl) (hkS eA7) ?_
  refine hxa_iload_n (by rfl) rfl ?_
  refine hxa_iload_n (by rfl) rfl ?_
  refine hxj_iushrU (by rfl) (fun z11 => ?_)
  refine hxa_i2b (by rfl) (hn_top (fun z12 _ => ?_))
  refine hxj_bast (by rfl) (by rfl) rfl (by omega) (by omega) hA7 (by rfl) (by rfl) (by rfl) (fun A13 hA13 eA13 fA13 gA13 => ?_)
  refine hxa_aload_n (by rfl) rfl ?_
  refine hxa_dupR (by rfl) ?_
  refine hxj_getK (by rfl) (by rfl) (by rfl) (hkA eA13 (hkS eA7)) ?_
  refine hxa_iconst (by rfl) rfl ?_
  refine hxj_iadd (by rfl) rfl hk_1 (by omega) (by omega) (fun z14 ez14 => ?_)
  refine hxj_putI (by rfl) (by rfl) (by rfl) (by rfl) hA13 (hbok (by rfl) rfl (by omega) (by omega)) (by rfl) (by rfl) (fun A15 hA15 eA15 fA15 => ?_)
  refine hxj_iinc (by rfl) rfl rfl hk_4294967288 (by omega) (by omega) (fun _ => rfl) (fun z16 ez16 => ?_)
  refine hxa_goto (by rfl) ?_
  refine hxa_iload_n (by rfl) rfl ?_
  refine hxj_zlt (by rfl) rfl (fun q17 => False.elim (by omega)) (fun q17 => ?_)
  refine hxa_aload_n (by rfl) rfl ?_
  refine hxj_getK (by rfl) (by rfl) (by rfl) (hkS eA15) ?_
  refine hxa_sipush (by rfl) rfl ?_
  refine hxj_cge (by rfl) rfl hk_2000 (fun q18 => False.elim (by omega)) (fun q18 => ?_)
  refine hxa_aload_n (by rfl) rfl ?_
  refine hxa_get (v := .ref 2) (by rfl) (by rfl) (by rfl) rfl ?_
  refine hxa_aload_n (by rfl) rfl ?_
  refine hxj_getK (by rfl) (by rfl) (by rfl) (hkS eA15) ?_
  refine hxa_iload_n (by rfl) rfl ?_
  refine hxa_iload_n (by rfl) rfl ?_
  refine hxj_iushrU (by rfl) (fun z19 => ?_)
  refine hxa_i2b (by rfl) (hn_top (fun z20 _ => ?_))
  refine hxj_bast (by rfl) (by rfl) rfl (by omega) (by omega) hA15 (by rfl) (by rfl) (by rfl) (fun A21 hA21 eA21 fA21 gA21 => ?_)
  refine hxa_aload_n (by rfl) rfl ?_
  refine hxa_dupR (by rfl) ?_
  refine hxj_getK (by rfl) (by rfl) (by rfl) (hkA eA21 (hkS eA15)) ?_
  refine hxa_iconst (by rfl) rfl ?_
  refine hxj_iadd (by rfl) rfl hk_1 (by omega) (by omega) (fun z22 ez22 => ?_)
  refine hxj_putI (by rfl) (by rfl) (by rfl) (by rfl) hA21 (hbok (by rfl) rfl (by omega) (by omega)) (by rfl) (by rfl) (fun A23 hA23 eA23 fA23 => ?_)
  refine hxj_iinc (by rfl) rfl rfl hk_4294967288 (by omega) (by omega) (fun _ => rfl) (fun z24 ez24 => ?_)
  refine hxa_goto (by rfl) ?_
  refine hxa_iload_n (by rfl) rfl ?_
  refine hxj_zlt (by rfl) rfl (fun q25 => False.elim (by omega)) (fun q25 => ?_)
  refine hxa_aload_n (by rfl) rfl ?_
  refine hxj_getK (by rfl) (by rfl) (by rfl) (hkS eA23) ?_
  refine hxa_sipush (by rfl) rfl ?_
  refine hxj_cge (by rfl) rfl hk_2000 (fun q26 => False.elim (by omega)) (fun q26 => ?_)
  refine hxa_aload_n (by rfl) rfl ?_
  refine hxa_get (v := .ref 2) (by rfl) (by rfl) (by rfl) rfl ?_
  refine hxa_aload_n (by rfl) rfl ?_
  refine hxj_getK (by rfl) (by rfl) (by rfl) (hkS eA23) ?_
  refine hxa_iload_n (by rfl) rfl ?_
  refine hxa_iload_n (by rfl) rfl ?_
  refine hxj_iushrU (by rfl) (fun z27 => ?_)
  refine hxa_i2b (by rfl) (hn_top (fun z28 _ => ?_))
  refine hxj_bast (by rfl) (by rfl) rfl (by omega) (by omega) hA23 (by rfl) (by rfl) (by rfl) (fun A29 hA29 eA29 fA29 gA29 => ?_)
  refine hxa_aload_n (by rfl) rfl ?_
  refine hxa_dupR (by rfl) ?_
  refine hxj_getK (by rfl) (by rfl) (by rfl) (hkA eA29 (hkS eA23)) ?_
  refine hxa_iconst (by rfl) rfl ?_
  refine hxj_iadd (by rfl) rfl hk_1 (by omega) (by omega) (fun z30 ez30 => ?_)
  refine hxj_putI (by rfl) (by rfl) (by rfl) (by rfl) hA29 (hbok (by rfl) rfl (by omega) (by omega)) (by rfl) (by rfl) (fun A31 hA31 eA31 fA31 => ?_)
  refine hxj_iinc (by rfl) rfl rfl hk_4294967288 (by omega) (by omega) (fun _ => rfl) (fun z32 ez32 => ?_)
  refine hxa_goto (by rfl) ?_
  refine hxa_iload_n (by rfl) rfl ?_
  refine hxj_zlt (by rfl) rfl (fun q33 => ?_) (fun q33 => False.elim (by omega))
  exact hxa_return (by rfl) rfl (hP _ _ ⟨hA31, (hkF eA31 (by first | decide | omega) (hkA eA29 (hkF eA23 (by first | decide | omega) (hkA eA21 (hkF eA15 (by first | decide | omega) (hkA eA13 (hkF eA7 (by first | decide | omega) (hkA eA5 rfl)))))))), rfl, by rw [(show A31.1 0 1 = z30 from (hkS eA31))]; omega⟩)
theorem hX71q10 {d : Nat} {Bn Br : Int} {A0 A : hs_A} (hA : hJ 10 Bn Br A0 A)  (a1 : Int32) (fl0 : 0 ≤ (A.1 0 1).toInt) (fh0 : (A.1 0 1).toInt ≤ 1996) : hxC (d + 1) 71 hm_m71 [.ref 1, .int a1] A (fun r A' => hJ 10 Bn Br A0 A' ∧ A'.1 367 2 = A.1 367 2 ∧ r = none ∧ ((A'.1 0 1).toInt = (A.1 0 1).toInt + 4)) := hxC.of (by rfl) (hY71q10 hA a1 fl0 fh0 (fun r A' h => h))
theorem hY134q10 {d : Nat} {Bn Br : Int} {A0 A : hs_A} (hA : hJ 10 Bn Br A0 A)  (a1 : Int32) (fl0 : 0 ≤ (A.1 367 2).toInt) (fh0 : (A.1 367 2).toInt ≤ 1996) {P : Option Value → hs_A → Prop} (hP : ∀ (r : Option Value) (A' : hs_A), (hJ 10 Bn Br A0 A' ∧ A'.1 0 1 = A.1 0 1 ∧ r = none ∧ ((A'.1 367 2).toInt = (A.1 367 2).toInt + 4)) → P r A') : hxa (d + 0) none hm_t134 0 [.ref 368, .int a1, .retAddr 0] [] A P := by
  have fb0_1 := hA.f (i := 0) (k := 1) (by rfl)
  refine hxa_bipush (by rfl) rfl ?_
  refine hxa_s1 (by rfl) (Or.inl ⟨_, rfl, rfl⟩) rfl ?_
  refine hxa_iload_n (by rfl) rfl ?_
  refine hxj_zlt (by rfl) hk_24 (fun q1 => False.elim (by omega)) (fun q1 => ?_)
  refine hxa_aload_n (by rfl) rfl ?_
  refine hxa_get (v := .ref 369) (by rfl) (by rfl) (by rfl) rfl ?_
  refine hxa_aload_n (by rfl) rfl ?_
  refine hxj_getK (by rfl) (by rfl) (by rfl) rfl ?_
  refine hxa_iload_n (by rfl) rfl ?_
  refine hxa_iload_n (by rfl) rfl ?_
  refine hxj_ishrU (by rfl) (fun z2 => ?_)
  refine hxa_i2b (by rfl) (hn_top (fun z3 _ => ?_))
  refine hxj_bast (by rfl) (by rfl) rfl (by omega) (by omega) hA (by rfl) (by rfl) (by rfl) (fun A4 hA4 eA4 fA4 gA4 => ?_)
  refine hxa_aload_n (by rfl) rfl ?_
  refine hxa_dupR (by rfl) ?_
  refine hxj_getK (by rfl) (by rfl) (by rfl) (hkA eA4 rfl) ?_
  refine hxa_iconst (by rfl) rfl ?_
  refine hxj_iadd (by rfl) rfl hk_1 (by omega) (by omega) (fun z5 ez5 => ?_)
  refine hxj_putI (by rfl) (by rfl) (by rfl) (by rfl) hA4 (hbok (by rfl) rfl (by omega) (by omega)) (by rfl) (by rfl) (fun A6 hA6 eA6 fA6 => ?_)
  refine hxj_iinc (by rfl) rfl hk_24 hk_4294967288 (by omega) (by omega) (fun _ => rfl) (fun z7 ez7 => ?_)
  refine hxa_goto (by rfl) ?_
  refine hxa_iload_n (by rfl) rfl ?_
  refine hxj_zlt (by rfl) rfl (fun q8 => False.elim (by omega)) (fun q8 => ?_)
  refine hxa_aload_n (by rfl) rfl ?_
  refine hxa_get (v := .ref 369) (by rfl) (by rfl) (by rfl) rfl ?_
  refine hxa_aload_n (by rfl) rfl ?_
  refine hxj_getK (by rfl) (by rfl) (by rfl) (hkS eA6) ?_
  refine hxa_iload_n (by rfl) rfl ?_
  refine hxa_iload_n (by rfl) rfl ?_
  refine hxj_ishrU (by rfl) (fun z9 => ?_)
  refine hxa_i2b (by rfl) (hn_top (fun z10 _ => ?_))
  refine hxj_bast (by rfl) (by rfl) rfl (by omega) (by omega) hA6 (by rfl) (by rfl) (by rfl) (fun A11 hA11 eA11 fA11 gA11 => ?_)
  refine hxa_aload_n (by rfl) rfl ?_
  refine hxa_dupR (by rfl) ?_
  refine hxj_getK (by rfl) (by rfl) (by rfl) (hkA eA11 (hkS eA6)) ?_
  refine hxa_iconst (by rfl) rfl ?_
  refine hxj_iadd (by rfl) rfl hk_1 (by omega) (by omega) (fun z12 ez12 => ?_)
  refine hxj_putI (by rfl) (by rfl) (by rfl) (by rfl) hA11 (hbok (by rfl) rfl (by omega) (by omega)) (by rfl) (by rfl) (fun A13 hA13 eA13 fA13 => ?_)
  refine hxj_iinc (by rfl) rfl rfl hk_4294967288 (by omega) (by omega) (fun _ => rfl) (fun z14 ez14 => ?_)
  refine hxa_goto (by rfl) ?_
  refine hxa_iload_n (by rfl) rfl ?_
  refine hxj_zlt (by rfl) rfl (fun q15 => False.elim (by omega)) (fun q15 => ?_)
  refine hxa_aload_n (by rfl) rfl ?_
  refine hxa_get (v := .ref 369) (by rfl) (by rfl) (by rfl) rfl ?_
  refine hxa_aload_n (by rfl) rfl ?_
  refine hxj_getK (by rfl) (by rfl) (by rfl) (hkS eA13) ?_
  refine hxa_iload_n (by rfl) rfl ?_
  refine hxa_iload_n (by rfl) rfl ?_
  refine hxj_ishrU (by rfl) (fun z16 => ?_)
  refine hxa_i2b (by rfl) (hn_top (fun z17 _ => ?_))
  refine hxj_bast (by rfl) (by rfl) rfl (by omega) (by omega) hA13 (by rfl) (by rfl) (by rfl) (fun A18 hA18 eA18 fA18 gA18 => ?_)
  refine hxa_aload_n (by rfl) rfl ?_
  refine hxa_dupR (by rfl) ?_
  refine hxj_getK (by rfl) (by rfl) (by rfl) (hkA eA18 (hkS eA13)) ?_
  refine hxa_iconst (by rfl) rfl ?_
  refine hxj_iadd (by rfl) rfl hk_1 (by omega) (by omega) (fun z19 ez19 => ?_)
  refine hxj_putI (by rfl) (by rfl) (by rfl) (by rfl) hA18 (hbok (by rfl) rfl (by omega) (by omega)) (by rfl) (by rfl) (fun A20 hA20 eA20 fA20 => ?_)
  refine hxj_iinc (by rfl) rfl rfl hk_4294967288 (by omega) (by omega) (fun _ => rfl) (fun z21 ez21 => ?_)
  refine hxa_goto (by rfl) ?_
  refine hxa_iload_n (by rfl) rfl ?_
  refine hxj_zlt (by rfl) rfl (fun q22 => False.elim (by omega)) (fun q22 => ?_)
  refine hxa_aload_n (by rfl) rfl ?_
  refine hxa_get (v := .ref 369) (by rfl) (by rfl) (by rfl) rfl ?_
  refine hxa_aload_n (by rfl) rfl ?_
  refine hxj_getK (by rfl) (by rfl) (by rfl) (hkS eA20) ?_
  refine hxa_iload_n (by rfl) rfl ?_
  refine hxa_iload_n (by rfl) rfl ?_
  refine hxj_ishrU (by rfl) (fun z23 => ?_)
  refine hxa_i2b (by rfl) (hn_top (fun z24 _ => ?_))
  refine hxj_bast (by rfl) (by rfl) rfl (by omega) (by omega) hA20 (by rfl) (by rfl) (by rfl) (fun A25 hA25 eA25 fA25 gA25 => ?_)
  refine hxa_aload_n (by rfl) rfl ?_
  refine hxa_dupR (by rfl) ?_
  refine hxj_getK (by rfl) (by rfl) (by rfl) (hkA eA25 (hkS eA20)) ?_
  refine hxa_iconst (by rfl) rfl ?_
  refine hxj_iadd (by rfl) rfl hk_1 (by omega) (by omega) (fun z26 ez26 => ?_)
  refine hxj_putI (by rfl) (by rfl) (by rfl) (by rfl) hA25 (hbok (by rfl) rfl (by omega) (by omega)) (by rfl) (by rfl) (fun A27 hA27 eA27 fA27 => ?_)
  refine hxj_iinc (by rfl) rfl rfl hk_4294967288 (by omega) (by omega) (fun _ => rfl) (fun z28 ez28 => ?_)
  refine hxa_goto (by rfl) ?_
  refine hxa_iload_n (by rfl) rfl ?_
  refine hxj_zlt (by rfl) rfl (fun q29 => ?_) (fun q29 => False.elim (by omega))
  exact hxa_return (by rfl) rfl (hP _ _ ⟨hA27, (hkF eA27 (by first | decide | omega) (hkA eA25 (hkF eA20 (by first | decide | omega) (hkA eA18 (hkF eA13 (by first | decide | omega) (hkA eA11 (hkF eA6 (by first | decide | omega) (hkA eA4 rfl)))))))), rfl, by rw [(show A27.1 367 2 = z26 from (hkS eA27))]; omega⟩)
theorem hX134q10 {d : Nat} {Bn Br : Int} {A0 A : hs_A} (hA : hJ 10 Bn Br A0 A)  (a1 : Int32) (fl0 : 0 ≤ (A.1 367 2).toInt) (fh0 : (A.1 367 2).toInt ≤ 1996) : hxC (d + 1) 134 hm_m134 [.ref 368, .int a1] A (fun r A' => hJ 10 Bn Br A0 A' ∧ A'.1 0 1 = A.1 0 1 ∧ r = none ∧ ((A'.1 367 2).toInt = (A.1 367 2).toInt + 4)) := hxC.of (by rfl) (hY134q10 hA a1 fl0 fh0 (fun r A' h => h))
theorem hY70q10 {d : Nat} {Bn Br : Int} {A0 A : hs_A} (hA : hJ 10 Bn Br A0 A)  (a1 : Int32) (a2 : Int32) (a3 : Int32) (a4 : Int32) (a5 : Int32) {P : Option Value → hs_A → Prop} (hP : ∀ (r : Option Value) (A' : hs_A), (hJ 10 Bn Br A0 A' ∧ A'.1 367 2 = A.1 367 2 ∧ ∃ z : Int32, r = some (.int z) ∧ ((z.toInt = -1 ∧ (A'.1 0 1).toInt = (A.1 0 1).toInt ∧ 1980 < (A.1 0 1).toInt) ∨ (z.toInt = (A.1 0 1).toInt + 20 ∧ (A'.1 0 1).toInt = (A.1 0 1).toInt + 20 ∧ (A.1 0 1).toInt ≤ 1980))) → P r A') : hxa (d + 1) (some (.int)) hm_t70 0 [.ref 1, .int a1, .int a2, .int a3, .int a4, .int a5] [] A P := by
  have k4294967295 := hk_4294967295
  have fb0_1 := hA.f (i := 0) (k := 1) (by rfl)
  have fb367_2 := hA.f (i := 367) (k := 2) (by rfl)
  refine hxa_aload_n (by rfl) rfl ?_
  refine hxj_getK (by rfl) (by rfl) (by rfl) rfl ?_
  refine hxa_sipush (by rfl) rfl ?_
  refine hxj_cle (by rfl) rfl hk_1980 (fun q1 => ?_) (fun q1 => ?_)
  ·
    refine hxa_aload_n (by rfl) rfl ?_
    refine hxa_iload_n (by rfl) rfl ?_
    refine hxa_call0 (by rfl) (by rfl) (by rfl) (by rfl) (by rfl) (by rfl) (hX71q10 (d := d + 0) hA a1 (by omega) (by omega)) ?_
    rintro _ A2 ⟨hA2, frA2_0, rfl, fA2⟩
    have fbA2_0_1 := hA2.f (i := 0) (k := 1) (by rfl)
    refine hxa_aload_n (by rfl) rfl ?_
    refine hxa_iload_n (by rfl) rfl ?_
    refine hxa_call0 (by rfl) (by rfl) (by rfl) (by rfl) (by rfl) (by rfl) (hX71q10 (d := d + 0) hA2 a2 (by omega) (by omega)) ?_
    rintro _ A3 ⟨hA3, frA3_0, rfl, fA3⟩
    have fbA3_0_1 := hA3.f (i := 0) (k := 1) (by rfl)
    refine hxa_aload_n (by rfl) rfl ?_
    refine hxa_iload_n (by rfl) rfl ?_
    refine hxa_call0 (by rfl) (by rfl) (by rfl) (by rfl) (by rfl) (by rfl) (hX71q10 (d := d + 0) hA3 a3 (by omega) (by omega)) ?_
    rintro _ A4 ⟨hA4, frA4_0, rfl, fA4⟩
    have fbA4_0_1 := hA4.f (i := 0) (k := 1) (by rfl)
    refine hxa_aload_n (by rfl) rfl ?_
    refine hxa_iload (by rfl) rfl ?_
    refine hxa_call0 (by rfl) (by rfl) (by rfl) (by rfl) (by rfl) (by rfl) (hX71q10 (d := d + 0) hA4 a4 (by omega) (by omega)) ?_
    rintro _ A5 ⟨hA5, frA5_0, rfl, fA5⟩
    have fbA5_0_1 := hA5.f (i := 0) (k := 1) (by rfl)
    refine hxa_aload_n (by rfl) rfl ?_
    refine hxa_iload (by rfl) rfl ?_
    refine hxa_call0 (by rfl) (by rfl) (by rfl) (by rfl) (by rfl) (by rfl) (hX71q10 (d := d + 0) hA5 a5 (by omega) (by omega)) ?_
    rintro _ A6 ⟨hA6, frA6_0, rfl, fA6⟩
    have fbA6_0_1 := hA6.f (i := 0) (k := 1) (by rfl)
    refine hxa_aload_n (by rfl) rfl ?_
    refine hxj_getK (by rfl) (by rfl) (by rfl) rfl ?_
    exact hxa_ireturn (by rfl) rfl (hP _ _ ⟨hA6, (frA6_0.trans (frA5_0.trans (frA4_0.trans (frA3_0.trans (frA2_0.trans rfl))))), _, rfl, by omega⟩)
  ·
    refine hxa_iconst (by rfl) rfl ?_
    exact hxa_ireturn (by rfl) rfl (hP _ _ ⟨hA, rfl, _, rfl, by omega⟩)
theorem hX70q10 {d : Nat} {Bn Br : Int} {A0 A : hs_A} (hA : hJ 10 Bn Br A0 A)  (a1 : Int32) (a2 : Int32) (a3 : Int32) (a4 : Int32) (a5 : Int32) : hxC (d + 2) 70 hm_m70 [.ref 1, .int a1, .int a2, .int a3, .int a4, .int a5] A (fun r A' => hJ 10 Bn Br A0 A' ∧ A'.1 367 2 = A.1 367 2 ∧ ∃ z : Int32, r = some (.int z) ∧ ((z.toInt = -1 ∧ (A'.1 0 1).toInt = (A.1 0 1).toInt ∧ 1980 < (A.1 0 1).toInt) ∨ (z.toInt = (A.1 0 1).toInt + 20 ∧ (A'.1 0 1).toInt = (A.1 0 1).toInt + 20 ∧ (A.1 0 1).toInt ≤ 1980))) := hxC.of (by rfl) (hY70q10 hA a1 a2 a3 a4 a5 (fun r A' h => h))
theorem hY133q10 {d : Nat} {Bn Br : Int} {A0 A : hs_A} (hA : hJ 10 Bn Br A0 A)  (a1 : Int32) (a2 : Int32) (a3 : Int32) (a4 : Int32) (a5 : Int32) {P : Option Value → hs_A → Prop} (hP : ∀ (r : Option Value) (A' : hs_A), (hJ 10 Bn Br A0 A' ∧ A'.1 0 1 = A.1 0 1 ∧ ∃ z : Int32, r = some (.int z) ∧ ((z.toInt = -1 ∧ (A'.1 367 2).toInt = (A.1 367 2).toInt ∧ 1980 < (A.1 367 2).toInt) ∨ (z.toInt = (A.1 367 2).toInt + 20 ∧ (A'.1 367 2).toInt = (A.1 367 2).toInt + 20 ∧ (A.1 367 2).toInt ≤ 1980))) → P r A') : hxa (d + 1) (some (.int)) hm_t133 0 [.ref 368, .int a1, .int a2, .int a3, .int a4, .int a5] [] A P := by
  have k4294967295 := hk_4294967295
  have fb0_1 := hA.f (i := 0) (k := 1) (by rfl)
  have fb367_2 := hA.f (i := 367) (k := 2) (by rfl)
  refine hxa_aload_n (by rfl) rfl ?_
  refine hxj_getK (by rfl) (by rfl) (by rfl) rfl ?_
  refine hxa_bipush (by rfl) rfl ?_
  refine hxj_iadd (by rfl) rfl hk_20 (by omega) (by omega) (fun z1 ez1 => ?_)
  refine hxa_sipush (by rfl) rfl ?_
  refine hxj_cle (by rfl) rfl hk_2000 (fun q2 => ?_) (fun q2 => ?_)
  ·
    refine hxa_aload_n (by rfl) rfl ?_
    refine hxa_iload_n (by rfl) rfl ?_
    refine hxa_call0 (by rfl) (by rfl) (by rfl) (by rfl) (by rfl) (by rfl) (hX134q10 (d := d + 0) hA a1 (by omega) (by omega)) ?_
    rintro _ A3 ⟨hA3, frA3_0, rfl, fA3⟩
    have fbA3_367_2 := hA3.f (i := 367) (k := 2) (by rfl)
    refine hxa_aload_n (by rfl) rfl ?_
    refine hxa_iload_n (by rfl) rfl ?_
    refine hxa_call0 (by rfl) (by rfl) (by rfl) (by rfl) (by rfl) (by rfl) (hX134q10 (d := d + 0) hA3 a2 (by omega) (by omega)) ?_
    rintro _ A4 ⟨hA4, frA4_0, rfl, fA4⟩
    have fbA4_367_2 := hA4.f (i := 367) (k := 2) (by rfl)
    refine hxa_aload_n (by rfl) rfl ?_
    refine hxa_iload_n (by rfl) rfl ?_
    refine hxa_call0 (by rfl) (by rfl) (by rfl) (by rfl) (by rfl) (by rfl) (hX134q10 (d := d + 0) hA4 a3 (by omega) (by omega)) ?_
    rintro _ A5 ⟨hA5, frA5_0, rfl, fA5⟩
    have fbA5_367_2 := hA5.f (i := 367) (k := 2) (by rfl)
    refine hxa_aload_n (by rfl) rfl ?_
    refine hxa_iload (by rfl) rfl ?_
    refine hxa_call0 (by rfl) (by rfl) (by rfl) (by rfl) (by rfl) (by rfl) (hX134q10 (d := d + 0) hA5 a4 (by omega) (by omega)) ?_
    rintro _ A6 ⟨hA6, frA6_0, rfl, fA6⟩
    have fbA6_367_2 := hA6.f (i := 367) (k := 2) (by rfl)
    refine hxa_aload_n (by rfl) rfl ?_
    refine hxa_iload (by rfl) rfl ?_
    refine hxa_call0 (by rfl) (by rfl) (by rfl) (by rfl) (by rfl) (by rfl) (hX134q10 (d := d + 0) hA6 a5 (by omega) (by omega)) ?_
    rintro _ A7 ⟨hA7, frA7_0, rfl, fA7⟩
    have fbA7_367_2 := hA7.f (i := 367) (k := 2) (by rfl)
    refine hxa_aload_n (by rfl) rfl ?_
    refine hxj_getK (by rfl) (by rfl) (by rfl) rfl ?_
    exact hxa_ireturn (by rfl) rfl (hP _ _ ⟨hA7, (frA7_0.trans (frA6_0.trans (frA5_0.trans (frA4_0.trans (frA3_0.trans rfl))))), _, rfl, by omega⟩)
  ·
    refine hxa_iconst (by rfl) rfl ?_
    exact hxa_ireturn (by rfl) rfl (hP _ _ ⟨hA, rfl, _, rfl, by omega⟩)
theorem hX133q10 {d : Nat} {Bn Br : Int} {A0 A : hs_A} (hA : hJ 10 Bn Br A0 A)  (a1 : Int32) (a2 : Int32) (a3 : Int32) (a4 : Int32) (a5 : Int32) : hxC (d + 2) 133 hm_m133 [.ref 368, .int a1, .int a2, .int a3, .int a4, .int a5] A (fun r A' => hJ 10 Bn Br A0 A' ∧ A'.1 0 1 = A.1 0 1 ∧ ∃ z : Int32, r = some (.int z) ∧ ((z.toInt = -1 ∧ (A'.1 367 2).toInt = (A.1 367 2).toInt ∧ 1980 < (A.1 367 2).toInt) ∨ (z.toInt = (A.1 367 2).toInt + 20 ∧ (A'.1 367 2).toInt = (A.1 367 2).toInt + 20 ∧ (A.1 367 2).toInt ≤ 1980))) := hxC.of (by rfl) (hY133q10 hA a1 a2 a3 a4 a5 (fun r A' h => h))
theorem hY72q10 {d : Nat} {Bn Br : Int} {A0 A : hs_A} (hA : hJ 10 Bn Br A0 A)  (a1 : Int32) {P : Option Value → hs_A → Prop} (hP : ∀ (r : Option Value) (A' : hs_A), (hJ 10 Bn Br A0 A' ∧ A'.1 367 2 = A.1 367 2 ∧ ∃ z : Int32, r = some (.int z) ∧ ((z.toInt = -1 ∧ (A'.1 0 1).toInt = (A.1 0 1).toInt ∧ (a1.toInt < 0 ∨ (A.1 0 1).toInt < a1.toInt)) ∨ (z.toInt = (A.1 0 1).toInt - a1.toInt ∧ (A'.1 0 1).toInt = (A.1 0 1).toInt - a1.toInt ∧ 0 ≤ a1.toInt ∧ a1.toInt ≤ (A.1 0 1).toInt))) → P r A') : hxa (d + 0) (some (.int)) hm_t72 0 [.ref 1, .int a1] [] A P := by
  have k4294967295 := hk_4294967295
  have fb0_1 := hA.f (i := 0) (k := 1) (by rfl)
  have fb367_2 := hA.f (i := 367) (k := 2) (by rfl)
  refine hxa_iload_n (by rfl) rfl ?_
  refine hxj_zlt (by rfl) rfl (fun q1 => ?_) (fun q1 => ?_)
  ·
    refine hxa_iconst (by rfl) rfl ?_
    exact hxa_ireturn (by rfl) rfl (hP _ _ ⟨hA, rfl, _, rfl, by omega⟩)
  ·
    refine hxa_iload_n (by rfl) rfl ?_
    refine hxa_aload_n (by rfl) rfl ?_
    refine hxj_getK (by rfl) (by rfl) (by rfl) rfl ?_
    have rga1 := hn_rng a1
    refine hxj_cle (by rfl) rfl rfl (fun q2 => ?_) (fun q2 => ?_)
    ·
      refine hxa_aload_n (by rfl) rfl ?_
      refine hxa_dupR (by rfl) ?_
      refine hxj_getK (by rfl) (by rfl) (by rfl) rfl ?_
      refine hxa_iload_n (by rfl) rfl ?_
      refine hxj_isub (by rfl) rfl rfl (by omega) (by omega) (fun z3 ez3 => ?_)
      refine hxj_putI (by rfl) (by rfl) (by rfl) (by rfl) hA (hbok (by rfl) rfl (by omega) (by omega)) (by rfl) (by rfl) (fun A4 hA4 eA4 fA4 => ?_)
      refine hxa_aload_n (by rfl) rfl ?_
      refine hxj_getK (by rfl) (by rfl) (by rfl) (hkS eA4) ?_
      exact hxa_ireturn (by rfl) rfl (hP _ _ ⟨hA4, (hkF eA4 (by first | decide | omega) rfl), _, rfl, by rw [(show A4.1 0 1 = z3 from (hkS eA4))]; omega⟩)
    ·
      refine hxa_iconst (by rfl) rfl ?_
      exact hxa_ireturn (by rfl) rfl (hP _ _ ⟨hA, rfl, _, rfl, by omega⟩)
theorem hX72q10 {d : Nat} {Bn Br : Int} {A0 A : hs_A} (hA : hJ 10 Bn Br A0 A)  (a1 : Int32) : hxC (d + 1) 72 hm_m72 [.ref 1, .int a1] A (fun r A' => hJ 10 Bn Br A0 A' ∧ A'.1 367 2 = A.1 367 2 ∧ ∃ z : Int32, r = some (.int z) ∧ ((z.toInt = -1 ∧ (A'.1 0 1).toInt = (A.1 0 1).toInt ∧ (a1.toInt < 0 ∨ (A.1 0 1).toInt < a1.toInt)) ∨ (z.toInt = (A.1 0 1).toInt - a1.toInt ∧ (A'.1 0 1).toInt = (A.1 0 1).toInt - a1.toInt ∧ 0 ≤ a1.toInt ∧ a1.toInt ≤ (A.1 0 1).toInt))) := hxC.of (by rfl) (hY72q10 hA a1 (fun r A' h => h))
theorem hY135q10 {d : Nat} {Bn Br : Int} {A0 A : hs_A} (hA : hJ 10 Bn Br A0 A)  (a1 : Int32) {P : Option Value → hs_A → Prop} (hP : ∀ (r : Option Value) (A' : hs_A), (hJ 10 Bn Br A0 A' ∧ A'.1 0 1 = A.1 0 1 ∧ ∃ z : Int32, r = some (.int z) ∧ ((z.toInt = -1 ∧ (A'.1 367 2).toInt = (A.1 367 2).toInt ∧ (a1.toInt < 0 ∨ (A.1 367 2).toInt < a1.toInt)) ∨ (z.toInt = (A.1 367 2).toInt - a1.toInt ∧ (A'.1 367 2).toInt = (A.1 367 2).toInt - a1.toInt ∧ 0 ≤ a1.toInt ∧ a1.toInt ≤ (A.1 367 2).toInt))) → P r A') : hxa (d + 0) (some (.int)) hm_t135 0 [.ref 368, .int a1] [] A P := by
  have k4294967295 := hk_4294967295
  have fb0_1 := hA.f (i := 0) (k := 1) (by rfl)
  have fb367_2 := hA.f (i := 367) (k := 2) (by rfl)
  refine hxa_iload_n (by rfl) rfl ?_
  refine hxj_zlt (by rfl) rfl (fun q1 => ?_) (fun q1 => ?_)
  ·
    refine hxa_iconst (by rfl) rfl ?_
    exact hxa_ireturn (by rfl) rfl (hP _ _ ⟨hA, rfl, _, rfl, by omega⟩)
  ·
    refine hxa_iload_n (by rfl) rfl ?_
    refine hxa_aload_n (by rfl) rfl ?_
    refine hxj_getK (by rfl) (by rfl) (by rfl) rfl ?_
    have rga1 := hn_rng a1
    refine hxj_cle (by rfl) rfl rfl (fun q2 => ?_) (fun q2 => ?_)
    ·
      refine hxa_aload_n (by rfl) rfl ?_
      refine hxa_dupR (by rfl) ?_
      refine hxj_getK (by rfl) (by rfl) (by rfl) rfl ?_
      refine hxa_iload_n (by rfl) rfl ?_
      refine hxj_isub (by rfl) rfl rfl (by omega) (by omega) (fun z3 ez3 => ?_)
      refine hxj_putI (by rfl) (by rfl) (by rfl) (by rfl) hA (hbok (by rfl) rfl (by omega) (by omega)) (by rfl) (by rfl) (fun A4 hA4 eA4 fA4 => ?_)
      refine hxa_aload_n (by rfl) rfl ?_
      refine hxj_getK (by rfl) (by rfl) (by rfl) (hkS eA4) ?_
      exact hxa_ireturn (by rfl) rfl (hP _ _ ⟨hA4, (hkF eA4 (by first | decide | omega) rfl), _, rfl, by rw [(show A4.1 367 2 = z3 from (hkS eA4))]; omega⟩)
    ·
      refine hxa_iconst (by rfl) rfl ?_
      exact hxa_ireturn (by rfl) rfl (hP _ _ ⟨hA, rfl, _, rfl, by omega⟩)
theorem hX135q10 {d : Nat} {Bn Br : Int} {A0 A : hs_A} (hA : hJ 10 Bn Br A0 A)  (a1 : Int32) : hxC (d + 1) 135 hm_m135 [.ref 368, .int a1] A (fun r A' => hJ 10 Bn Br A0 A' ∧ A'.1 0 1 = A.1 0 1 ∧ ∃ z : Int32, r = some (.int z) ∧ ((z.toInt = -1 ∧ (A'.1 367 2).toInt = (A.1 367 2).toInt ∧ (a1.toInt < 0 ∨ (A.1 367 2).toInt < a1.toInt)) ∨ (z.toInt = (A.1 367 2).toInt - a1.toInt ∧ (A'.1 367 2).toInt = (A.1 367 2).toInt - a1.toInt ∧ 0 ≤ a1.toInt ∧ a1.toInt ≤ (A.1 367 2).toInt))) := hxC.of (by rfl) (hY135q10 hA a1 (fun r A' h => h))
