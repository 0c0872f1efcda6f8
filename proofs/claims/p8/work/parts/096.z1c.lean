theorem hY41q1 {d : Nat} {Bn Br : Int} {A0 A : hs_A} (hA : hJ 1 Bn Br A0 A)   {P : Option Value → hs_A → Prop} (hP : ∀ (r : Option Value) (A' : hs_A), (hJ 1 Bn Br A0 A' ∧ A'.1 2 4 = A.1 2 4 ∧ A'.1 20 4 = A.1 20 4 ∧ A'.1 20 7 = A.1 20 7 ∧ ∃ z : Int32, r = some (.int z) ∧ ((0 ≤ z.toInt ∧ z.toInt ≤ 1))) → P r A') : hxa (d + 0) (some (.boolean)) hm_t41 0 [.ref 21] [] A P := by
  have k0 := hk_0
  have k1 := hk_1
  have fb2_4 := hA.f (i := 2) (k := 4) (by rfl)
  refine hxa_aload_n (by rfl) rfl ?_
  refine hxj_getB (by rfl) (by rfl) (by rfl) hA (by rfl) (fun z1 ez1 fz1 gz1 => ?_)
  refine hxa_sipush (by rfl) rfl ?_
  refine hxj_clt (by rfl) rfl hk_400 (fun q2 => ?_) (fun q2 => ?_)
  ·
    refine hxa_aload_n (by rfl) rfl ?_
    refine hxa_dupR (by rfl) ?_
    refine hxj_getK (by rfl) (by rfl) (by rfl) ez1 ?_
    refine hxa_iconst (by rfl) rfl ?_
    refine hxj_iadd (by rfl) rfl hk_1 (by omega) (by omega) (fun z3 ez3 => ?_)
    refine hxj_putI (by rfl) (by rfl) (by rfl) (by rfl) hA (hbok (by rfl) rfl (by omega) (by omega)) (by rfl) (by rfl) (fun A4 hA4 eA4 fA4 => ?_)
    refine hxa_iconst (by rfl) rfl ?_
    exact hxa_ireturn (by rfl) (by rfl) (hP _ _ ⟨hA4, (hkF eA4 (by first | decide | omega) rfl), (hkF eA4 (by first | decide | omega) rfl), (hkF eA4 (by first | decide | omega) rfl), _, rfl, by omega⟩)
  ·
    refine hxa_aload_n (by rfl) rfl ?_
    refine hxa_iconst (by rfl) rfl ?_
    refine hxj_putI (by rfl) (by rfl) (by rfl) (by rfl) hA (hbokN (by rfl)) (by rfl) (by rfl) (fun A5 hA5 eA5 fA5 => ?_)
    refine hxa_aload_n (by rfl) rfl ?_
    refine hxa_aload_n (by rfl) rfl ?_
    refine hxa_get (v := .ref 22) (by rfl) (by rfl) (by rfl) rfl ?_
    refine hxa_get (v := .ref 25) (by rfl) (by rfl) (by rfl) rfl ?_
    refine hxa_sipush (by rfl) rfl ?_
    refine hxj_iald (by rfl) (by rfl) hk_400 (by omega) (by omega) (fun z6 ez6 => ?_)
    refine hxj_putI (by rfl) (by rfl) (by rfl) (by rfl) hA5 (hbokN (by rfl)) (by rfl) (by rfl) (fun A7 hA7 eA7 fA7 => ?_)
    refine hxa_iconst (by rfl) rfl ?_
    exact hxa_ireturn (by rfl) (by rfl) (hP _ _ ⟨hA7, (hkF eA7 (by first | decide | omega) (hkF eA5 (by first | decide | omega) rfl)), (hkF eA7 (by first | decide | omega) (hkF eA5 (by first | decide | omega) rfl)), (hkF eA7 (by first | decide | omega) (hkF eA5 (by first | decide | omega) rfl)), _, rfl, by omega⟩)
theorem hX41q1 {d : Nat} {Bn Br : Int} {A0 A : hs_A} (hA : hJ 1 Bn Br A0 A)   : hxC (d + 1) 41 hm_m41 [.ref 21] A (fun r A' => hJ 1 Bn Br A0 A' ∧ A'.1 2 4 = A.1 2 4 ∧ A'.1 20 4 = A.1 20 4 ∧ A'.1 20 7 = A.1 20 7 ∧ ∃ z : Int32, r = some (.int z) ∧ ((0 ≤ z.toInt ∧ z.toInt ≤ 1))) := hxC.of (by rfl) (hY41q1 hA  (fun r A' h => h))
theorem hY42q1 {d : Nat} {Bn Br : Int} {A0 A : hs_A} (hA : hJ 1 Bn Br A0 A)  (a1 : Int32) {P : Option Value → hs_A → Prop} (hP : ∀ (r : Option Value) (A' : hs_A), (hJ 1 Bn Br A0 A' ∧ A'.1 2 4 = A.1 2 4 ∧ A'.1 20 4 = A.1 20 4 ∧ A'.1 20 7 = A.1 20 7 ∧ ∃ z : Int32, r = some (.int z) ∧ ((0 ≤ z.toInt ∧ z.toInt ≤ 1))) → P r A') : hxa (d + 1) (some (.boolean)) hm_t42 0 [.ref 21, .int a1] [] A P := by
  have k1 := hk_1
  have fb2_4 := hA.f (i := 2) (k := 4) (by rfl)
  refine hxa_aload_n (by rfl) rfl ?_
  refine hxa_call0 (by rfl) (by rfl) (by rfl) (by rfl) (by rfl) (by rfl) (hX38q1 (d := d + 0) hA ) ?_
  rintro _ _ ⟨rfl, z1, rfl⟩
  refine hxa_iload_n (by rfl) rfl ?_
  refine hxj_cne (by rfl) rfl rfl (fun q2 => ?_) (fun q2 => ?_)
  ·
    refine hxa_aload_n (by rfl) rfl ?_
    refine hxa_iconst (by rfl) rfl ?_
    refine hxa_call0 (by rfl) (by rfl) (by rfl) (by rfl) (by rfl) (by rfl) (hX39q1 (d := d + 0) hA (Int32.ofNat 1)) ?_
    rintro _ A3 ⟨hA3, frA3_0, frA3_1, frA3_2, frA3_3, z4, rfl, fz4⟩
    exact hxa_ireturn (by rfl) (hn_fitB (by omega) (by omega)) (hP _ _ ⟨hA3, (frA3_0.trans rfl), (frA3_1.trans rfl), (frA3_2.trans rfl), _, rfl, by omega⟩)
  ·
    refine hxa_aload_n (by rfl) rfl ?_
    refine hxa_call0 (by rfl) (by rfl) (by rfl) (by rfl) (by rfl) (by rfl) (hX41q1 (d := d + 0) hA ) ?_
    rintro _ A5 ⟨hA5, frA5_0, frA5_1, frA5_2, z6, rfl, fz6⟩
    refine hxa_goto (by rfl) ?_
    exact hxa_ireturn (by rfl) (hn_fitB (by omega) (by omega)) (hP _ _ ⟨hA5, (frA5_0.trans rfl), (frA5_1.trans rfl), (frA5_2.trans rfl), _, rfl, by omega⟩)
theorem hX42q1 {d : Nat} {Bn Br : Int} {A0 A : hs_A} (hA : hJ 1 Bn Br A0 A)  (a1 : Int32) : hxC (d + 2) 42 hm_m42 [.ref 21, .int a1] A (fun r A' => hJ 1 Bn Br A0 A' ∧ A'.1 2 4 = A.1 2 4 ∧ A'.1 20 4 = A.1 20 4 ∧ A'.1 20 7 = A.1 20 7 ∧ ∃ z : Int32, r = some (.int z) ∧ ((0 ≤ z.toInt ∧ z.toInt ≤ 1))) := hxC.of (by rfl) (hY42q1 hA a1 (fun r A' h => h))
theorem hY43q1 {d : Nat} {Bn Br : Int} {A0 A : hs_A} (hA : hJ 1 Bn Br A0 A)  (a1 : Int32) (a2 : Int32) {P : Option Value → hs_A → Prop} (hP : ∀ (r : Option Value) (A' : hs_A), (hJ 1 Bn Br A0 A' ∧ A'.1 2 4 = A.1 2 4 ∧ ∃ z : Int32, r = some (.int z) ∧ (z.toInt = 0 ∨ (z.toInt = 1 ∧ (¬ (A'.1 20 7).toInt = 0 ∨ (a1.toInt ≤ (A'.1 20 4).toInt ∧ (A'.1 20 4).toInt ≤ a2.toInt))))) → P r A') : hxa (d + 1) (some (.boolean)) hm_t43 0 [.ref 21, .int a1, .int a2] [] A P := by
  have k1 := hk_1
  have k5 := hk_5
  have fb2_4 := hA.f (i := 2) (k := 4) (by rfl)
  refine hxa_aload_n (by rfl) rfl ?_
  refine hxa_call0 (by rfl) (by rfl) (by rfl) (by rfl) (by rfl) (by rfl) (hX38q1 (d := d + 0) hA ) ?_
  rintro _ _ ⟨rfl, z1, rfl⟩
  refine hxa_bipush (by rfl) rfl ?_
  refine hxj_ceq (by rfl) rfl hk_21 (fun q2 => ?_) (fun q2 => ?_)
  ·
    refine hxa_aload_n (by rfl) rfl ?_
    refine hxa_aload_n (by rfl) rfl ?_
    refine hxa_get (v := .ref 22) (by rfl) (by rfl) (by rfl) rfl ?_
    refine hxa_get (v := .ref 24) (by rfl) (by rfl) (by rfl) rfl ?_
    refine hxa_aload_n (by rfl) rfl ?_
    refine hxj_getB (by rfl) (by rfl) (by rfl) hA (by rfl) (fun z3 ez3 fz3 gz3 => ?_)
    refine hxj_lald (by rfl) (by rfl) rfl (by omega) (by omega) (fun j4 ej4 => ?_)
    refine hxa_l2i (by rfl) (hn_top (fun z5 _ => ?_))
    refine hxj_putI (by rfl) (by rfl) (by rfl) (by rfl) hA (hbokN (by rfl)) (by rfl) (by rfl) (fun A6 hA6 eA6 fA6 => ?_)
    refine hxa_aload_n (by rfl) rfl ?_
    refine hxj_getK (by rfl) (by rfl) (by rfl) (hkS eA6) ?_
    refine hxa_iload_n (by rfl) rfl ?_
    refine hxa_iload_n (by rfl) rfl ?_
    refine hxa_call2 (by rfl) (by decide) (by rfl) (by rfl) (by rfl) (hX78 (d := d + 0)  z5 a1 a2) ?_
    rintro _ _ ⟨rfl, z7, rfl, fz7⟩
    rcases fz7 with fz7 | fz7
    ·
      refine hxj_zne (by rfl) rfl (fun q8 => ?_) (fun q8 => False.elim (by omega))
      refine hxa_aload_n (by rfl) rfl ?_
      refine hxa_call0 (by rfl) (by rfl) (by rfl) (by rfl) (by rfl) (by rfl) (hX41q1 (d := d + 0) hA6 ) ?_
      rintro _ A9 ⟨hA9, frA9_0, frA9_1, frA9_2, z10, rfl, fz10⟩
      exact hxa_ireturn (by rfl) (hn_fitB (by omega) (by omega)) (hP _ _ ⟨hA9, (frA9_0.trans (hkF eA6 (by first | decide | omega) rfl)), _, rfl, by first | omega | (rw [(show A9.1 20 4 = z5 from (frA9_1.trans (hkS eA6)))]; omega)⟩)
    ·
      refine hxj_zne (by rfl) rfl (fun q11 => False.elim (by omega)) (fun q11 => ?_)
      refine hxa_aload_n (by rfl) rfl ?_
      refine hxa_iconst (by rfl) rfl ?_
      refine hxa_call0 (by rfl) (by rfl) (by rfl) (by rfl) (by rfl) (by rfl) (hX40q1 (d := d + 0) hA6 (Int32.ofNat 5) (by omega) (by omega)) ?_
      rintro _ A12 ⟨hA12, frA12_0, frA12_1, frA12_2, rfl, fA12⟩
      refine hxa_aload_n (by rfl) rfl ?_
      refine hxa_call0 (by rfl) (by rfl) (by rfl) (by rfl) (by rfl) (by rfl) (hX41q1 (d := d + 0) hA12 ) ?_
      rintro _ A13 ⟨hA13, frA13_0, frA13_1, frA13_2, z14, rfl, fz14⟩
      exact hxa_ireturn (by rfl) (hn_fitB (by omega) (by omega)) (hP _ _ ⟨hA13, (frA13_0.trans (frA12_0.trans (hkF eA6 (by first | decide | omega) rfl))), _, rfl, by first | omega | (rw [(show A13.1 20 4 = z5 from (frA13_1.trans (frA12_1.trans (hkS eA6))))]; omega) | (rw [(show A13.1 20 7 = (A12.1 20 7) from (frA13_2.trans rfl))]; omega)⟩)
  ·
    refine hxa_aload_n (by rfl) rfl ?_
    refine hxa_iconst (by rfl) rfl ?_
    refine hxa_call0 (by rfl) (by rfl) (by rfl) (by rfl) (by rfl) (by rfl) (hX39q1 (d := d + 0) hA (Int32.ofNat 1)) ?_
    rintro _ A15 ⟨hA15, frA15_0, frA15_1, frA15_2, frA15_3, z16, rfl, fz16⟩
    exact hxa_ireturn (by rfl) (hn_fitB (by omega) (by omega)) (hP _ _ ⟨hA15, (frA15_0.trans rfl), _, rfl, by first | omega⟩)
theorem hX43q1 {d : Nat} {Bn Br : Int} {A0 A : hs_A} (hA : hJ 1 Bn Br A0 A)  (a1 : Int32) (a2 : Int32) : hxC (d + 2) 43 hm_m43 [.ref 21, .int a1, .int a2] A (fun r A' => hJ 1 Bn Br A0 A' ∧ A'.1 2 4 = A.1 2 4 ∧ ∃ z : Int32, r = some (.int z) ∧ (z.toInt = 0 ∨ (z.toInt = 1 ∧ (¬ (A'.1 20 7).toInt = 0 ∨ (a1.toInt ≤ (A'.1 20 4).toInt ∧ (A'.1 20 4).toInt ≤ a2.toInt))))) := hxC.of (by rfl) (hY43q1 hA a1 a2 (fun r A' h => h))
theorem hY44q1 {d : Nat} {Bn Br : Int} {A0 A : hs_A} (hA : hJ 1 Bn Br A0 A)  (fl0 : 0 ≤ (A.1 2 4).toInt) (fh0 : (A.1 2 4).toInt ≤ 9) {P : Option Value → hs_A → Prop} (hP : ∀ (r : Option Value) (A' : hs_A), (hJ 1 Bn Br A0 A' ∧ ∃ z : Int32, r = some (.int z) ∧ ((0 ≤ z.toInt ∧ z.toInt ≤ 1))) → P r A') : hxa (d + 1) (some (.boolean)) hm_t44 0 [.ref 21, .retAddr 0, .retAddr 0, .retAddr 0] [] A P := by
  have k0 := hk_0
  have k1 := hk_1
  have k3 := hk_3
  have L30 : ∀ (m30 : Nat) (x30_1 : Int64) (x30_3 : Int32) (Ac30 : hs_A) (hAc30 : hJ 1 Bn Br A0 Ac30) (ek30_0 : Ac30.1 2 4 = (A.1 2 4)) (bx30_3 : 0 ≤ x30_3.toInt) (cx30_3 : x30_3.toInt ≤ 9) (hm30 : 9 - x30_3.toInt < (m30 : Int)), hxa (d + 1) (some (.boolean)) hm_t44 30 [.ref 21, .long x30_1, .double 0, .int x30_3] [] Ac30 P := by
    intro m30
    induction m30 with
    | zero => intro x30_1 x30_3 Ac30 hAc30 ek30_0 bx30_3 cx30_3 hm30;  exact False.elim (by omega)
    | succ m30 ih30 =>
      intro x30_1 x30_3 Ac30 hAc30 ek30_0 bx30_3 cx30_3 hm30
      refine hxa_iload_n (by rfl) rfl ?_
      refine hxa_aload_n (by rfl) rfl ?_
      refine hxj_getT (by rfl) (by rfl) (by rfl) hAc30.rt1 ?_
      refine hxj_getK (by rfl) (by rfl) (by rfl) ek30_0 ?_
      refine hxj_cge (by rfl) rfl rfl (fun q1 => ?_) (fun q1 => ?_)
      ·
        refine hxa_aload_n (by rfl) rfl ?_
        refine hxa_get (v := .ref 26) (by rfl) (by rfl) (by rfl) rfl ?_
        refine hxa_aload_n (by rfl) rfl ?_
        refine hxj_getT (by rfl) (by rfl) (by rfl) hAc30.rt1 ?_
        refine hxj_getK (by rfl) (by rfl) (by rfl) ek30_0 ?_
        refine hxa_lload_n (by rfl) rfl ?_
        refine hxj_last (by rfl) (by rfl) rfl (by omega) (by omega) hAc30 (by omega) (fun A2 hA2 eA2 fA2 => ?_)
        refine hxa_aload_n (by rfl) rfl ?_
        refine hxa_call0 (by rfl) (by rfl) (by rfl) (by rfl) (by rfl) (by rfl) (hX41q1 (d := d + 0) hA2 ) ?_
        rintro _ A3 ⟨hA3, frA3_0, frA3_1, frA3_2, z4, rfl, fz4⟩
        exact hxa_ireturn (by rfl) (hn_fitB (by omega) (by omega)) (hP _ _ ⟨hA3, _, rfl, by omega⟩)
      ·
        refine hxa_aload_n (by rfl) rfl ?_
        refine hxa_get (v := .ref 26) (by rfl) (by rfl) (by rfl) rfl ?_
        refine hxa_iload_n (by rfl) rfl ?_
        refine hxj_lald (by rfl) (by rfl) rfl (by omega) (by omega) (fun j5 ej5 => ?_)
        refine hxa_lload_n (by rfl) rfl ?_
        refine hxa_lcmp (by rfl) (hn_top (fun z6 _ => ?_))
        refine hxj_zne (by rfl) rfl (fun q7 => ?_) (fun q7 => ?_)
        ·
          refine hxj_iinc (by rfl) rfl rfl hk_1 (by omega) (by omega) (fun _ => rfl) (fun z8 ez8 => ?_)
          refine hxa_goto (by rfl) ?_
          exact ih30 x30_1 z8 Ac30 hAc30 ek30_0 (by omega) (by omega) (by omega)
        ·
          refine hxa_aload_n (by rfl) rfl ?_
          refine hxa_iconst (by rfl) rfl ?_
          refine hxa_call0 (by rfl) (by rfl) (by rfl) (by rfl) (by rfl) (by rfl) (hX40q1 (d := d + 0) hAc30 (Int32.ofNat 3) (by omega) (by omega)) ?_
          rintro _ A9 ⟨hA9, frA9_0, frA9_1, frA9_2, rfl, fA9⟩
          refine hxj_iinc (by rfl) rfl rfl hk_1 (by omega) (by omega) (fun _ => rfl) (fun z10 ez10 => ?_)
          refine hxa_goto (by rfl) ?_
          exact ih30 x30_1 z10 A9 hA9 (frA9_0.trans ek30_0) (by omega) (by omega) (by omega)
  refine hxa_aload_n (by rfl) rfl ?_
  refine hxa_call0 (by rfl) (by rfl) (by rfl) (by rfl) (by rfl) (by rfl) (hX38q1 (d := d + 0) hA ) ?_
  rintro _ _ ⟨rfl, z11, rfl⟩
  refine hxa_bipush (by rfl) rfl ?_
  refine hxj_ceq (by rfl) rfl hk_20 (fun q12 => ?_) (fun q12 => ?_)
  ·
    refine hxa_aload_n (by rfl) rfl ?_
    refine hxa_get (v := .ref 22) (by rfl) (by rfl) (by rfl) rfl ?_
    refine hxa_get (v := .ref 24) (by rfl) (by rfl) (by rfl) rfl ?_
    refine hxa_aload_n (by rfl) rfl ?_
    refine hxj_getB (by rfl) (by rfl) (by rfl) hA (by rfl) (fun z13 ez13 fz13 gz13 => ?_)
    refine hxj_lald (by rfl) (by rfl) rfl (by omega) (by omega) (fun j14 ej14 => ?_)
    refine hxa_lstore_n (by rfl) rfl ?_
    refine hxa_iconst (by rfl) rfl ?_
    refine hxa_s1 (by rfl) (Or.inl ⟨_, rfl, rfl⟩) rfl ?_
    exact L30 (Int.toNat (9 - 0) + 1) j14 (Int32.ofNat 0) A hA rfl (by omega) (by omega) (by omega)
  ·
    refine hxa_aload_n (by rfl) rfl ?_
    refine hxa_iconst (by rfl) rfl ?_
    refine hxa_call0 (by rfl) (by rfl) (by rfl) (by rfl) (by rfl) (by rfl) (hX39q1 (d := d + 0) hA (Int32.ofNat 1)) ?_
    rintro _ A15 ⟨hA15, frA15_0, frA15_1, frA15_2, frA15_3, z16, rfl, fz16⟩
    exact hxa_ireturn (by rfl) (hn_fitB (by omega) (by omega)) (hP _ _ ⟨hA15, _, rfl, by omega⟩)
theorem hX44q1 {d : Nat} {Bn Br : Int} {A0 A : hs_A} (hA : hJ 1 Bn Br A0 A)  (fl0 : 0 ≤ (A.1 2 4).toInt) (fh0 : (A.1 2 4).toInt ≤ 9) : hxC (d + 2) 44 hm_m44 [.ref 21] A (fun r A' => hJ 1 Bn Br A0 A' ∧ ∃ z : Int32, r = some (.int z) ∧ ((0 ≤ z.toInt ∧ z.toInt ≤ 1))) := hxC.of (by rfl) (hY44q1 hA fl0 fh0 (fun r A' h => h))
theorem hY9q1 {d : Nat} {Bn Br : Int} {A0 A : hs_A} (hA : hJ 1 Bn Br A0 A)   {P : Option Value → hs_A → Prop} (hP : ∀ (r : Option Value) (A' : hs_A), (hJ 1 Bn Br A0 A' ∧ ∃ z : Int32, r = some (.int z)) → P r A') : hxa (d + 0) (some (.int)) hm_t9 0 [.ref 7] [] A P := by
  refine hxa_aload_n (by rfl) rfl ?_
  refine hxa_iconst (by rfl) rfl ?_
  refine hxj_putI (by rfl) (by rfl) (by rfl) (by rfl) hA (hbokN (by rfl)) (by rfl) (by rfl) (fun A1 hA1 eA1 fA1 => ?_)
  refine hxa_aload_n (by rfl) rfl ?_
  refine hxj_getB (by rfl) (by rfl) (by rfl) hA1 (by rfl) (fun z2 ez2 fz2 gz2 => ?_)
  exact hxa_ireturn (by rfl) rfl (hP _ _ ⟨hA1, _, rfl⟩)
theorem hX9q1 {d : Nat} {Bn Br : Int} {A0 A : hs_A} (hA : hJ 1 Bn Br A0 A)   : hxC (d + 1) 9 hm_m9 [.ref 7] A (fun r A' => hJ 1 Bn Br A0 A' ∧ ∃ z : Int32, r = some (.int z)) := hxC.of (by rfl) (hY9q1 hA  (fun r A' h => h))
theorem hY10q1 {d : Nat} {Bn Br : Int} {A0 A : hs_A} (hA : hJ 1 Bn Br A0 A)  (a1 : Int32) (p1 : 0 ≤ a1.toInt) (q1 : a1.toInt ≤ 3) (a2 : Int32) {P : Option Value → hs_A → Prop} (hP : ∀ (r : Option Value) (A' : hs_A), (hJ 1 Bn Br A0 A' ∧ r = none) → P r A') : hxa (d + 0) none hm_t10 0 [.ref 7, .int a1, .int a2] [] A P := by
  refine hxa_aload_n (by rfl) rfl ?_
  refine hxa_get (v := .ref 9) (by rfl) (by rfl) (by rfl) rfl ?_
  refine hxa_iload_n (by rfl) rfl ?_
  refine hxa_iload_n (by rfl) rfl ?_
  refine hxj_iast (by rfl) (by rfl) rfl (by omega) (by omega) hA (hbokN (by rfl)) (by rfl) (by rfl) (fun A1 hA1 eA1 fA1 gA1 => ?_)
  refine hxa_aload_n (by rfl) rfl ?_
  refine hxa_get (v := .ref 10) (by rfl) (by rfl) (by rfl) rfl ?_
  refine hxa_iload_n (by rfl) rfl ?_
  refine hxa_aload_n (by rfl) rfl ?_
  refine hxj_getI (by rfl) (by rfl) (by rfl) (fun z2 ez2 => ?_)
  refine hxj_iast (by rfl) (by rfl) rfl (by omega) (by omega) hA1 (hbokN (by rfl)) (by rfl) (by rfl) (fun A3 hA3 eA3 fA3 gA3 => ?_)
  exact hxa_return (by rfl) rfl (hP _ _ ⟨hA3, rfl⟩)
theorem hX10q1 {d : Nat} {Bn Br : Int} {A0 A : hs_A} (hA : hJ 1 Bn Br A0 A)  (a1 : Int32) (p1 : 0 ≤ a1.toInt) (q1 : a1.toInt ≤ 3) (a2 : Int32) : hxC (d + 1) 10 hm_m10 [.ref 7, .int a1, .int a2] A (fun r A' => hJ 1 Bn Br A0 A' ∧ r = none) := hxC.of (by rfl) (hY10q1 hA a1 p1 q1 a2 (fun r A' h => h))
theorem hY12q1 {d : Nat} {Bn Br : Int} {A0 A : hs_A} (hA : hJ 1 Bn Br A0 A)  (a1 : Int32) (p1 : 0 ≤ a1.toInt) (q1 : a1.toInt ≤ 7) (a2 : Int32) (x0 : ¬ a1.toInt = 1 ∨ (0 ≤ a2.toInt ∧ a2.toInt ≤ 8)) {P : Option Value → hs_A → Prop} (hP : ∀ (r : Option Value) (A' : hs_A), (hJ 1 Bn Br A0 A' ∧ ∃ z : Int32, r = some (.int z)) → P r A') : hxa (d + 0) (some (.int)) hm_t12 0 [.ref 7, .int a1, .int a2] [] A P := by
  have L17 : ∀ (Ac17 : hs_A) (hAc17 : hJ 1 Bn Br A0 Ac17), hxa (d + 0) (some (.int)) hm_t12 17 [.ref 7, .int a1, .int a2] [] Ac17 P := by
    intro Ac17 hAc17
    refine hxa_aload_n (by rfl) rfl ?_
    refine hxj_getB (by rfl) (by rfl) (by rfl) hAc17 (by rfl) (fun z1 ez1 fz1 gz1 => ?_)
    refine hxa_sipush (by rfl) rfl ?_
    refine hxj_cge (by rfl) rfl hk_408 (fun q2 => ?_) (fun q2 => ?_)
    ·
      refine hxa_aload_n (by rfl) rfl ?_
      refine hxj_getK (by rfl) (by rfl) (by rfl) ez1 ?_
      refine hxa_iconst (by rfl) rfl ?_
      refine hxj_isub (by rfl) rfl hk_1 (by omega) (by omega) (fun z3 ez3 => ?_)
      exact hxa_ireturn (by rfl) rfl (hP _ _ ⟨hAc17, _, rfl⟩)
    ·
      refine hxa_aload_n (by rfl) rfl ?_
      refine hxa_get (v := .ref 8) (by rfl) (by rfl) (by rfl) rfl ?_
      refine hxa_aload_n (by rfl) rfl ?_
      refine hxj_getK (by rfl) (by rfl) (by rfl) ez1 ?_
      refine hxa_iload_n (by rfl) rfl ?_
      refine hxa_iconst (by rfl) rfl ?_
      refine hxa_ishl (by rfl) (hn_top (fun z4 ez4 => ?_))
      refine hxa_iload_n (by rfl) rfl ?_
      refine hxa_ior (by rfl) (hn_top (fun z5 ez5 => ?_))
      refine hxj_iastV1 (by rfl) rfl (by omega) (by omega) hAc17 (hVadd ez4 ez5 (by omega) (by omega) (by omega)) (fun A6 hA6 eA6 fA6 gA6 => ?_)
      refine hxa_aload_n (by rfl) rfl ?_
      refine hxa_dupR (by rfl) ?_
      refine hxj_getK (by rfl) (by rfl) (by rfl) (hkA eA6 ez1) ?_
      refine hxa_iconst (by rfl) rfl ?_
      refine hxj_iadd (by rfl) rfl hk_1 (by omega) (by omega) (fun z7 ez7 => ?_)
      refine hxj_putI (by rfl) (by rfl) (by rfl) (by rfl) hA6 (hbok (by rfl) rfl (by omega) (by omega)) (by rfl) (by rfl) (fun A8 hA8 eA8 fA8 => ?_)
      refine hxa_aload_n (by rfl) rfl ?_
      refine hxj_getK (by rfl) (by rfl) (by rfl) (hkS eA8) ?_
      refine hxa_iconst (by rfl) rfl ?_
      refine hxj_isub (by rfl) rfl hk_1 (by omega) (by omega) (fun z9 ez9 => ?_)
      exact hxa_ireturn (by rfl) rfl (hP _ _ ⟨hA8, _, rfl⟩)
  refine hxa_iload_n (by rfl) rfl ?_
  refine hxa_iconst (by rfl) rfl ?_
  refine hxj_cne (by rfl) rfl hk_1 (fun q10 => ?_) (fun q10 => ?_)
  ·
    exact L17 A hA
  ·
    refine hxa_aload_n (by rfl) rfl ?_
    refine hxa_dupR (by rfl) ?_
    refine hxj_getI (by rfl) (by rfl) (by rfl) (fun z11 ez11 => ?_)
    refine hxa_iconst (by rfl) rfl ?_
    refine hxa_iload_n (by rfl) rfl ?_
    refine hxj_ishlU (by rfl) (fun z12 => ?_)
    refine hxj_iorU (by rfl) (fun z13 => ?_)
    refine hxj_putI (by rfl) (by rfl) (by rfl) (by rfl) hA (hbokN (by rfl)) (by rfl) (by rfl) (fun A14 hA14 eA14 fA14 => ?_)
    exact L17 A14 hA14
theorem hX12q1 {d : Nat} {Bn Br : Int} {A0 A : hs_A} (hA : hJ 1 Bn Br A0 A)  (a1 : Int32) (p1 : 0 ≤ a1.toInt) (q1 : a1.toInt ≤ 7) (a2 : Int32) (x0 : ¬ a1.toInt = 1 ∨ (0 ≤ a2.toInt ∧ a2.toInt ≤ 8)) : hxC (d + 1) 12 hm_m12 [.ref 7, .int a1, .int a2] A (fun r A' => hJ 1 Bn Br A0 A' ∧ ∃ z : Int32, r = some (.int z)) := hxC.of (by rfl) (hY12q1 hA a1 p1 q1 a2 x0 (fun r A' h => h))
theorem hY13q1 {d : Nat} {Bn Br : Int} {A0 A : hs_A} (hA : hJ 1 Bn Br A0 A)  (a1 : Int32) {P : Option Value → hs_A → Prop} (hP : ∀ (r : Option Value) (A' : hs_A), (hJ 1 Bn Br A0 A' ∧ r = none) → P r A') : hxa (d + 0) none hm_t13 0 [.ref 7, .int a1] [] A P := by
  have k6 := hk_6
  refine hxa_iload_n (by rfl) rfl ?_
  refine hxj_zlt (by rfl) rfl (fun q1 => ?_) (fun q1 => ?_)
  ·
    exact hxa_return (by rfl) rfl (hP _ _ ⟨hA, rfl⟩)
  ·
    refine hxa_iload_n (by rfl) rfl ?_
    refine hxa_aload_n (by rfl) rfl ?_
    refine hxj_getB (by rfl) (by rfl) (by rfl) hA (by rfl) (fun z2 ez2 fz2 gz2 => ?_)
    have rga1 := hn_rng a1
    refine hxj_cge (by rfl) rfl rfl (fun q3 => ?_) (fun q3 => ?_)
    ·
      exact hxa_return (by rfl) rfl (hP _ _ ⟨hA, rfl⟩)
    ·
      refine hxa_aload_n (by rfl) rfl ?_
      refine hxa_get (v := .ref 8) (by rfl) (by rfl) (by rfl) rfl ?_
      refine hxa_iload_n (by rfl) rfl ?_
      refine hxa_aload_n (by rfl) rfl ?_
      refine hxj_getK (by rfl) (by rfl) (by rfl) ez2 ?_
      refine hxa_iconst (by rfl) rfl ?_
      refine hxa_ishl (by rfl) (hn_top (fun z4 ez4 => ?_))
      refine hxa_bipush (by rfl) rfl ?_
      refine hxa_ior (by rfl) (hn_top (fun z5 ez5 => ?_))
      refine hxj_iastV1 (by rfl) rfl (by omega) (by omega) hA (hVadd ez4 ez5 (by omega) (by omega) (by omega)) (fun A6 hA6 eA6 fA6 gA6 => ?_)
      exact hxa_return (by rfl) rfl (hP _ _ ⟨hA6, rfl⟩)
theorem hX13q1 {d : Nat} {Bn Br : Int} {A0 A : hs_A} (hA : hJ 1 Bn Br A0 A)  (a1 : Int32) : hxC (d + 1) 13 hm_m13 [.ref 7, .int a1] A (fun r A' => hJ 1 Bn Br A0 A' ∧ r = none) := hxC.of (by rfl) (hY13q1 hA a1 (fun r A' h => h))
theorem hY55q1 {d : Nat} {Bn Br : Int} {A0 A : hs_A} (hA : hJ 1 Bn Br A0 A)  (a1 : Int32) (a2 : Int32) {P : Option Value → hs_A → Prop} (hP : ∀ (r : Option Value) (A' : hs_A), (hJ 1 Bn Br A0 A' ∧ r = none) → P r A') : hxa (d + 0) none hm_t55 0 [.ref 3, .int a1, .int a2] [] A P := by
  refine hxa_aload_n (by rfl) rfl ?_
  refine hxj_getB (by rfl) (by rfl) (by rfl) hA (by rfl) (fun z1 ez1 fz1 gz1 => ?_)
  refine hxa_bipush (by rfl) rfl ?_
  refine hxj_cge (by rfl) rfl hk_10 (fun q2 => ?_) (fun q2 => ?_)
  ·
    exact hxa_return (by rfl) rfl (hP _ _ ⟨hA, rfl⟩)
  ·
    refine hxa_aload_n (by rfl) rfl ?_
    refine hxa_get (v := .ref 4) (by rfl) (by rfl) (by rfl) rfl ?_
    refine hxa_aload_n (by rfl) rfl ?_
    refine hxj_getK (by rfl) (by rfl) (by rfl) ez1 ?_
    refine hxa_iload_n (by rfl) rfl ?_
    refine hxj_iast (by rfl) (by rfl) rfl (by omega) (by omega) hA (hbokN (by rfl)) (by rfl) (by rfl) (fun A3 hA3 eA3 fA3 gA3 => ?_)
    refine hxa_aload_n (by rfl) rfl ?_
    refine hxa_get (v := .ref 5) (by rfl) (by rfl) (by rfl) rfl ?_
    refine hxa_aload_n (by rfl) rfl ?_
    refine hxj_getK (by rfl) (by rfl) (by rfl) (hkA eA3 ez1) ?_
    refine hxa_iload_n (by rfl) rfl ?_
    refine hxj_iast (by rfl) (by rfl) rfl (by omega) (by omega) hA3 (hbokN (by rfl)) (by rfl) (by rfl) (fun A4 hA4 eA4 fA4 gA4 => ?_)
    refine hxa_aload_n (by rfl) rfl ?_
    refine hxa_dupR (by rfl) ?_
    refine hxj_getK (by rfl) (by rfl) (by rfl) (hkA eA4 (hkA eA3 ez1)) ?_
    refine hxa_iconst (by rfl) rfl ?_
    refine hxj_iadd (by rfl) rfl hk_1 (by omega) (by omega) (fun z5 ez5 => ?_)
    refine hxj_putI (by rfl) (by rfl) (by rfl) (by rfl) hA4 (hbok (by rfl) rfl (by omega) (by omega)) (by rfl) (by rfl) (fun A6 hA6 eA6 fA6 => ?_)
    exact hxa_return (by rfl) rfl (hP _ _ ⟨hA6, rfl⟩)
theorem hX55q1 {d : Nat} {Bn Br : Int} {A0 A : hs_A} (hA : hJ 1 Bn Br A0 A)  (a1 : Int32) (a2 : Int32) : hxC (d + 1) 55 hm_m55 [.ref 3, .int a1, .int a2] A (fun r A' => hJ 1 Bn Br A0 A' ∧ r = none) := hxC.of (by rfl) (hY55q1 hA a1 a2 (fun r A' h => h))
theorem hY56q1 {d : Nat} {Bn Br : Int} {A0 A : hs_A} (hA : hJ 1 Bn Br A0 A)  (a1 : Int32) (a2 : Int32) (x0 : ¬ (A.1 20 7).toInt = 0 ∨ (0 ≤ a2.toInt ∧ a2.toInt ≤ 255)) {P : Option Value → hs_A → Prop} (hP : ∀ (r : Option Value) (A' : hs_A), (hJ 1 Bn Br A0 A' ∧ r = none) → P r A') : hxa (d + 1) none hm_t56 0 [.ref 3, .int a1, .int a2] [] A P := by
  have k0 := hk_0
  have k23 := hk_23
  refine hxa_iload_n (by rfl) rfl ?_
  refine hxa_iconst (by rfl) rfl ?_
  refine hxa_bipush (by rfl) rfl ?_
  refine hxa_call2 (by rfl) (by decide) (by rfl) (by rfl) (by rfl) (hX78 (d := d + 0)  a1 (Int32.ofNat 0) (Int32.ofNat 23)) ?_
  rintro _ _ ⟨rfl, z1, rfl, fz1⟩
  rcases fz1 with fz1 | fz1
  ·
    refine hxj_zeq (by rfl) rfl (fun q2 => False.elim (by omega)) (fun q2 => ?_)
    refine hxa_aload_n (by rfl) rfl ?_
    refine hxa_get (v := .ref 6) (by rfl) (by rfl) (by rfl) rfl ?_
    refine hxa_iload_n (by rfl) rfl ?_
    refine hxa_iload_n (by rfl) rfl ?_
    refine hxj_iastP1 (by rfl) rfl (by omega) (by omega) rfl hA x0 (fun A3 hA3 eA3 fA3 gA3 => ?_)
    refine hxa_aload_n (by rfl) rfl ?_
    refine hxa_dupR (by rfl) ?_
    refine hxj_getI (by rfl) (by rfl) (by rfl) (fun z4 ez4 => ?_)
    refine hxa_iconst (by rfl) rfl ?_
    refine hxj_iaddU (by rfl) (fun z5 => ?_)
    refine hxj_putI (by rfl) (by rfl) (by rfl) (by rfl) hA3 (hbokN (by rfl)) (by rfl) (by rfl) (fun A6 hA6 eA6 fA6 => ?_)
    exact hxa_return (by rfl) rfl (hP _ _ ⟨hA6, rfl⟩)
  ·
    refine hxj_zeq (by rfl) rfl (fun q7 => ?_) (fun q7 => False.elim (by omega))
    refine hxa_aload_n (by rfl) rfl ?_
    refine hxa_dupR (by rfl) ?_
    refine hxj_getI (by rfl) (by rfl) (by rfl) (fun z8 ez8 => ?_)
    refine hxa_iconst (by rfl) rfl ?_
    refine hxj_iaddU (by rfl) (fun z9 => ?_)
    refine hxj_putI (by rfl) (by rfl) (by rfl) (by rfl) hA (hbokN (by rfl)) (by rfl) (by rfl) (fun A10 hA10 eA10 fA10 => ?_)
    exact hxa_return (by rfl) rfl (hP _ _ ⟨hA10, rfl⟩)
theorem hX56q1 {d : Nat} {Bn Br : Int} {A0 A : hs_A} (hA : hJ 1 Bn Br A0 A)  (a1 : Int32) (a2 : Int32) (x0 : ¬ (A.1 20 7).toInt = 0 ∨ (0 ≤ a2.toInt ∧ a2.toInt ≤ 255)) : hxC (d + 2) 56 hm_m56 [.ref 3, .int a1, .int a2] A (fun r A' => hJ 1 Bn Br A0 A' ∧ r = none) := hxC.of (by rfl) (hY56q1 hA a1 a2 x0 (fun r A' h => h))
theorem hY45q1 {d : Nat} {Bn Br : Int} {A0 A : hs_A} (hA : hJ 1 Bn Br A0 A)   {P : Option Value → hs_A → Prop} (hP : ∀ (r : Option Value) (A' : hs_A), (hJ 1 Bn Br A0 A' ∧ ∃ z : Int32, r = some (.int z) ∧ ((0 ≤ z.toInt ∧ z.toInt ≤ 1))) → P r A') : hxa (d + 2) (some (.boolean)) hm_t45 0 [.ref 21, .retAddr 0] [] A P := by
  have k0 := hk_0
  have k1 := hk_1
  have k2 := hk_2
  have k24 := hk_24
  have k255 := hk_255
  have k99 := hk_99
  refine hxa_aload_n (by rfl) rfl ?_
  refine hxj_getT (by rfl) (by rfl) (by rfl) hA.rt1 ?_
  refine hxj_getB (by rfl) (by rfl) (by rfl) hA (by rfl) (fun z1 ez1 fz1 gz1 => ?_)
  refine hxa_bipush (by rfl) rfl ?_
  refine hxj_clt (by rfl) rfl hk_10 (fun q2 => ?_) (fun q2 => ?_)
  ·
    refine hxa_aload_n (by rfl) rfl ?_
    refine hxa_call0 (by rfl) (by rfl) (by rfl) (by rfl) (by rfl) (by rfl) (hX41q1 (d := d + 1) hA ) ?_
    rintro _ A3 ⟨hA3, frA3_0, frA3_1, frA3_2, z4, rfl, fz4⟩
    refine hxj_zeq (by rfl) rfl (fun q5 => ?_) (fun q5 => ?_)
    ·
      refine hxa_iconst (by rfl) rfl ?_
      exact hxa_ireturn (by rfl) (by rfl) (hP _ _ ⟨hA3, _, rfl, by omega⟩)
    ·
      refine hxa_aload_n (by rfl) rfl ?_
      refine hxa_call0 (by rfl) (by rfl) (by rfl) (by rfl) (by rfl) (by rfl) (hX44q1 (d := d + 0) hA3 (by rw [(show A3.1 2 4 = z1 from (frA3_0.trans ez1))]; omega) (by rw [(show A3.1 2 4 = z1 from (frA3_0.trans ez1))]; omega)) ?_
      rintro _ A6 ⟨hA6, z7, rfl, fz7⟩
      refine hxj_zeq (by rfl) rfl (fun q8 => ?_) (fun q8 => ?_)
      ·
        refine hxa_iconst (by rfl) rfl ?_
        exact hxa_ireturn (by rfl) (by rfl) (hP _ _ ⟨hA6, _, rfl, by omega⟩)
      ·
        refine hxa_aload_n (by rfl) rfl ?_
        refine hxa_iconst (by rfl) rfl ?_
        refine hxa_sipush (by rfl) rfl ?_
        refine hxa_call0 (by rfl) (by rfl) (by rfl) (by rfl) (by rfl) (by rfl) (hX43q1 (d := d + 0) hA6 (Int32.ofNat 0) (Int32.ofNat 255)) ?_
        rintro _ A9 ⟨hA9, frA9_0, z10, rfl, fz10⟩
        refine hxj_zne (by rfl) rfl (fun q11 => ?_) (fun q11 => ?_)
        ·
          refine hxa_aload_n (by rfl) rfl ?_
          refine hxj_getK (by rfl) (by rfl) (by rfl) rfl ?_
          refine hxa_s1 (by rfl) (Or.inl ⟨_, rfl, rfl⟩) rfl ?_
          refine hxa_aload_n (by rfl) rfl ?_
          refine hxa_iconst (by rfl) rfl ?_
          refine hxa_bipush (by rfl) rfl ?_
          refine hxa_call0 (by rfl) (by rfl) (by rfl) (by rfl) (by rfl) (by rfl) (hX43q1 (d := d + 0) hA9 (Int32.ofNat 0) (Int32.ofNat 99)) ?_
          rintro _ A12 ⟨hA12, frA12_0, z13, rfl, fz13⟩
          refine hxj_zeq (by rfl) rfl (fun q14 => ?_) (fun q14 => ?_)
          ·
            refine hxa_iconst (by rfl) rfl ?_
            exact hxa_ireturn (by rfl) (by rfl) (hP _ _ ⟨hA12, _, rfl, by omega⟩)
          ·
            refine hxa_aload_n (by rfl) rfl ?_
            refine hxa_bipush (by rfl) rfl ?_
            refine hxa_call0 (by rfl) (by rfl) (by rfl) (by rfl) (by rfl) (by rfl) (hX42q1 (d := d + 0) hA12 (Int32.ofNat 24)) ?_
            rintro _ A15 ⟨hA15, frA15_0, frA15_1, frA15_2, z16, rfl, fz16⟩
            refine hxj_zne (by rfl) rfl (fun q17 => ?_) (fun q17 => ?_)
            ·
              refine hxa_aload_n (by rfl) rfl ?_
              refine hxj_getT (by rfl) (by rfl) (by rfl) hA15.rt1 ?_
              refine hxa_iload_n (by rfl) rfl ?_
              refine hxa_aload_n (by rfl) rfl ?_
              refine hxj_getK (by rfl) (by rfl) (by rfl) (frA15_1.trans rfl) ?_
              refine hxa_call0 (by rfl) (by rfl) (by rfl) (by rfl) (by rfl) (by rfl) (hX55q1 (d := d + 1) hA15 (A9.1 20 4) (A12.1 20 4)) ?_
              rintro _ A18 ⟨hA18, rfl⟩
              refine hxa_iconst (by rfl) rfl ?_
              exact hxa_ireturn (by rfl) (by rfl) (hP _ _ ⟨hA18, _, rfl, by omega⟩)
            ·
              refine hxa_iconst (by rfl) rfl ?_
              exact hxa_ireturn (by rfl) (by rfl) (hP _ _ ⟨hA15, _, rfl, by omega⟩)
        ·
          refine hxa_iconst (by rfl) rfl ?_
          exact hxa_ireturn (by rfl) (by rfl) (hP _ _ ⟨hA9, _, rfl, by omega⟩)
  ·
    refine hxa_aload_n (by rfl) rfl ?_
    refine hxa_iconst (by rfl) rfl ?_
    refine hxa_call0 (by rfl) (by rfl) (by rfl) (by rfl) (by rfl) (by rfl) (hX39q1 (d := d + 1) hA (Int32.ofNat 2)) ?_
    rintro _ A19 ⟨hA19, frA19_0, frA19_1, frA19_2, frA19_3, z20, rfl, fz20⟩
    exact hxa_ireturn (by rfl) (hn_fitB (by omega) (by omega)) (hP _ _ ⟨hA19, _, rfl, by omega⟩)
theorem hX45q1 {d : Nat} {Bn Br : Int} {A0 A : hs_A} (hA : hJ 1 Bn Br A0 A)   : hxC (d + 3) 45 hm_m45 [.ref 21] A (fun r A' => hJ 1 Bn Br A0 A' ∧ ∃ z : Int32, r = some (.int z) ∧ ((0 ≤ z.toInt ∧ z.toInt ≤ 1))) := hxC.of (by rfl) (hY45q1 hA  (fun r A' h => h))
theorem hY46q1 {d : Nat} {Bn Br : Int} {A0 A : hs_A} (hA : hJ 1 Bn Br A0 A)   {P : Option Value → hs_A → Prop} (hP : ∀ (r : Option Value) (A' : hs_A), (hJ 1 Bn Br A0 A' ∧ ∃ z : Int32, r = some (.int z) ∧ ((0 ≤ z.toInt ∧ z.toInt ≤ 1))) → P r A') : hxa (d + 2) (some (.boolean)) hm_t46 0 [.ref 21, .retAddr 0] [] A P := by
  have k0 := hk_0
  have k1 := hk_1
  have k2 := hk_2
  have k23 := hk_23
  have k24 := hk_24
  have k255 := hk_255
  refine hxa_aload_n (by rfl) rfl ?_
  refine hxj_getT (by rfl) (by rfl) (by rfl) hA.rt1 ?_
  refine hxj_getI (by rfl) (by rfl) (by rfl) (fun z1 ez1 => ?_)
  refine hxa_bipush (by rfl) rfl ?_
  refine hxj_clt (by rfl) rfl hk_8 (fun q2 => ?_) (fun q2 => ?_)
  ·
    refine hxa_aload_n (by rfl) rfl ?_
    refine hxa_call0 (by rfl) (by rfl) (by rfl) (by rfl) (by rfl) (by rfl) (hX41q1 (d := d + 1) hA ) ?_
    rintro _ A3 ⟨hA3, frA3_0, frA3_1, frA3_2, z4, rfl, fz4⟩
    refine hxj_zeq (by rfl) rfl (fun q5 => ?_) (fun q5 => ?_)
    ·
      refine hxa_iconst (by rfl) rfl ?_
      exact hxa_ireturn (by rfl) (by rfl) (hP _ _ ⟨hA3, _, rfl, by omega⟩)
    ·
      refine hxa_aload_n (by rfl) rfl ?_
      refine hxa_iconst (by rfl) rfl ?_
      refine hxa_bipush (by rfl) rfl ?_
      refine hxa_call0 (by rfl) (by rfl) (by rfl) (by rfl) (by rfl) (by rfl) (hX43q1 (d := d + 0) hA3 (Int32.ofNat 0) (Int32.ofNat 23)) ?_
      rintro _ A6 ⟨hA6, frA6_0, z7, rfl, fz7⟩
      refine hxj_zne (by rfl) rfl (fun q8 => ?_) (fun q8 => ?_)
      ·
        refine hxa_aload_n (by rfl) rfl ?_
        refine hxj_getK (by rfl) (by rfl) (by rfl) rfl ?_
        refine hxa_s1 (by rfl) (Or.inl ⟨_, rfl, rfl⟩) rfl ?_
        refine hxa_aload_n (by rfl) rfl ?_
        refine hxa_iconst (by rfl) rfl ?_
        refine hxa_sipush (by rfl) rfl ?_
        refine hxa_call0 (by rfl) (by rfl) (by rfl) (by rfl) (by rfl) (by rfl) (hX43q1 (d := d + 0) hA6 (Int32.ofNat 0) (Int32.ofNat 255)) ?_
        rintro _ A9 ⟨hA9, frA9_0, z10, rfl, fz10⟩
        refine hxj_zeq (by rfl) rfl (fun q11 => ?_) (fun q11 => ?_)
        ·
          refine hxa_iconst (by rfl) rfl ?_
          exact hxa_ireturn (by rfl) (by rfl) (hP _ _ ⟨hA9, _, rfl, by omega⟩)
        ·
          refine hxa_aload_n (by rfl) rfl ?_
          refine hxa_bipush (by rfl) rfl ?_
          refine hxa_call0 (by rfl) (by rfl) (by rfl) (by rfl) (by rfl) (by rfl) (hX42q1 (d := d + 0) hA9 (Int32.ofNat 24)) ?_
          rintro _ A12 ⟨hA12, frA12_0, frA12_1, frA12_2, z13, rfl, fz13⟩
          refine hxj_zne (by rfl) rfl (fun q14 => ?_) (fun q14 => ?_)
          ·
            refine hxa_aload_n (by rfl) rfl ?_
            refine hxj_getT (by rfl) (by rfl) (by rfl) hA12.rt1 ?_
            refine hxa_iload_n (by rfl) rfl ?_
            refine hxa_aload_n (by rfl) rfl ?_
            refine hxj_getK (by rfl) (by rfl) (by rfl) (frA12_1.trans rfl) ?_
            refine hxa_call0 (by rfl) (by rfl) (by rfl) (by rfl) (by rfl) (by rfl) (hX56q1 (d := d + 0) hA12 (A6.1 20 4) (A9.1 20 4) (by rw [(show A12.1 20 7 = (A9.1 20 7) from (frA12_2.trans rfl))]; omega)) ?_
            rintro _ A15 ⟨hA15, rfl⟩
            refine hxa_iconst (by rfl) rfl ?_
            exact hxa_ireturn (by rfl) (by rfl) (hP _ _ ⟨hA15, _, rfl, by omega⟩)
          ·
            refine hxa_iconst (by rfl) rfl ?_
            exact hxa_ireturn (by rfl) (by rfl) (hP _ _ ⟨hA12, _, rfl, by omega⟩)
      ·
        refine hxa_iconst (by rfl) rfl ?_
        exact hxa_ireturn (by rfl) (by rfl) (hP _ _ ⟨hA6, _, rfl, by omega⟩)
  ·
    refine hxa_aload_n (by rfl) rfl ?_
    refine hxa_iconst (by rfl) rfl ?_
    refine hxa_call0 (by rfl) (by rfl) (by rfl) (by rfl) (by rfl) (by rfl) (hX39q1 (d := d + 1) hA (Int32.ofNat 2)) ?_
    rintro _ A16 ⟨hA16, frA16_0, frA16_1, frA16_2, frA16_3, z17, rfl, fz17⟩
    exact hxa_ireturn (by rfl) (hn_fitB (by omega) (by omega)) (hP _ _ ⟨hA16, _, rfl, by omega⟩)
theorem hX46q1 {d : Nat} {Bn Br : Int} {A0 A : hs_A} (hA : hJ 1 Bn Br A0 A)   : hxC (d + 3) 46 hm_m46 [.ref 21] A (fun r A' => hJ 1 Bn Br A0 A' ∧ ∃ z : Int32, r = some (.int z) ∧ ((0 ≤ z.toInt ∧ z.toInt ≤ 1))) := hxC.of (by rfl) (hY46q1 hA  (fun r A' h => h))
theorem hY47q1 {d : Nat} {Bn Br : Int} {A0 A : hs_A} (hA : hJ 1 Bn Br A0 A)   {P : Option Value → hs_A → Prop} (hP : ∀ (r : Option Value) (A' : hs_A), (hJ 1 Bn Br A0 A' ∧ ∃ z : Int32, r = some (.int z) ∧ ((0 ≤ z.toInt ∧ z.toInt ≤ 1))) → P r A') : hxa (d + 2) (some (.boolean)) hm_t47 0 [.ref 21] [] A P := by
  have k0 := hk_0
  have k1 := hk_1
  have k24 := hk_24
  have k99 := hk_99
  refine hxa_aload_n (by rfl) rfl ?_
  refine hxa_call0 (by rfl) (by rfl) (by rfl) (by rfl) (by rfl) (by rfl) (hX41q1 (d := d + 1) hA ) ?_
  rintro _ A1 ⟨hA1, frA1_0, frA1_1, frA1_2, z2, rfl, fz2⟩
  refine hxj_zeq (by rfl) rfl (fun q3 => ?_) (fun q3 => ?_)
  ·
    refine hxa_iconst (by rfl) rfl ?_
    exact hxa_ireturn (by rfl) (by rfl) (hP _ _ ⟨hA1, _, rfl, by omega⟩)
  ·
    refine hxa_aload_n (by rfl) rfl ?_
    refine hxa_iconst (by rfl) rfl ?_
    refine hxa_bipush (by rfl) rfl ?_
    refine hxa_call0 (by rfl) (by rfl) (by rfl) (by rfl) (by rfl) (by rfl) (hX43q1 (d := d + 0) hA1 (Int32.ofNat 1) (Int32.ofNat 99)) ?_
    rintro _ A4 ⟨hA4, frA4_0, z5, rfl, fz5⟩
    refine hxj_zeq (by rfl) rfl (fun q6 => ?_) (fun q6 => ?_)
    ·
      refine hxa_iconst (by rfl) rfl ?_
      exact hxa_ireturn (by rfl) (by rfl) (hP _ _ ⟨hA4, _, rfl, by omega⟩)
    ·
      refine hxa_aload_n (by rfl) rfl ?_
      refine hxa_bipush (by rfl) rfl ?_
      refine hxa_call0 (by rfl) (by rfl) (by rfl) (by rfl) (by rfl) (by rfl) (hX42q1 (d := d + 0) hA4 (Int32.ofNat 24)) ?_
      rintro _ A7 ⟨hA7, frA7_0, frA7_1, frA7_2, z8, rfl, fz8⟩
      refine hxj_zne (by rfl) rfl (fun q9 => ?_) (fun q9 => ?_)
      ·
        refine hxa_aload_n (by rfl) rfl ?_
        refine hxj_getT (by rfl) (by rfl) (by rfl) hA7.rt1 ?_
        refine hxa_aload_n (by rfl) rfl ?_
        refine hxj_getK (by rfl) (by rfl) (by rfl) (frA7_1.trans rfl) ?_
        refine hxj_putI (by rfl) (by rfl) (by rfl) (by rfl) hA7 (hbokN (by rfl)) (by rfl) (by rfl) (fun A10 hA10 eA10 fA10 => ?_)
        refine hxa_iconst (by rfl) rfl ?_
        exact hxa_ireturn (by rfl) (by rfl) (hP _ _ ⟨hA10, _, rfl, by omega⟩)
      ·
        refine hxa_iconst (by rfl) rfl ?_
        exact hxa_ireturn (by rfl) (by rfl) (hP _ _ ⟨hA7, _, rfl, by omega⟩)
theorem hX47q1 {d : Nat} {Bn Br : Int} {A0 A : hs_A} (hA : hJ 1 Bn Br A0 A)   : hxC (d + 3) 47 hm_m47 [.ref 21] A (fun r A' => hJ 1 Bn Br A0 A' ∧ ∃ z : Int32, r = some (.int z) ∧ ((0 ≤ z.toInt ∧ z.toInt ≤ 1))) := hxC.of (by rfl) (hY47q1 hA  (fun r A' h => h))
theorem hY48q1 {d : Nat} {Bn Br : Int} {A0 A : hs_A} (hA : hJ 1 Bn Br A0 A)   {P : Option Value → hs_A → Prop} (hP : ∀ (r : Option Value) (A' : hs_A), (hJ 1 Bn Br A0 A' ∧ ∃ z : Int32, r = some (.int z) ∧ ((0 ≤ z.toInt ∧ z.toInt ≤ 1))) → P r A') : hxa (d + 2) (some (.boolean)) hm_t48 0 [.ref 21] [] A P := by
  have k0 := hk_0
  have k1 := hk_1
  have k24 := hk_24
  have k9999 := hk_9999
  refine hxa_aload_n (by rfl) rfl ?_
  refine hxa_call0 (by rfl) (by rfl) (by rfl) (by rfl) (by rfl) (by rfl) (hX41q1 (d := d + 1) hA ) ?_
  rintro _ A1 ⟨hA1, frA1_0, frA1_1, frA1_2, z2, rfl, fz2⟩
  refine hxj_zeq (by rfl) rfl (fun q3 => ?_) (fun q3 => ?_)
  ·
    refine hxa_iconst (by rfl) rfl ?_
    exact hxa_ireturn (by rfl) (by rfl) (hP _ _ ⟨hA1, _, rfl, by omega⟩)
  ·
    refine hxa_aload_n (by rfl) rfl ?_
    refine hxa_iconst (by rfl) rfl ?_
    refine hxa_sipush (by rfl) rfl ?_
    refine hxa_call0 (by rfl) (by rfl) (by rfl) (by rfl) (by rfl) (by rfl) (hX43q1 (d := d + 0) hA1 (Int32.ofNat 0) (Int32.ofNat 9999)) ?_
    rintro _ A4 ⟨hA4, frA4_0, z5, rfl, fz5⟩
    refine hxj_zeq (by rfl) rfl (fun q6 => ?_) (fun q6 => ?_)
    ·
      refine hxa_iconst (by rfl) rfl ?_
      exact hxa_ireturn (by rfl) (by rfl) (hP _ _ ⟨hA4, _, rfl, by omega⟩)
    ·
      refine hxa_aload_n (by rfl) rfl ?_
      refine hxa_bipush (by rfl) rfl ?_
      refine hxa_call0 (by rfl) (by rfl) (by rfl) (by rfl) (by rfl) (by rfl) (hX42q1 (d := d + 0) hA4 (Int32.ofNat 24)) ?_
      rintro _ A7 ⟨hA7, frA7_0, frA7_1, frA7_2, z8, rfl, fz8⟩
      refine hxj_zne (by rfl) rfl (fun q9 => ?_) (fun q9 => ?_)
      ·
        refine hxa_aload_n (by rfl) rfl ?_
        refine hxj_getT (by rfl) (by rfl) (by rfl) hA7.rt1 ?_
        refine hxa_aload_n (by rfl) rfl ?_
        refine hxj_getK (by rfl) (by rfl) (by rfl) (frA7_1.trans rfl) ?_
        refine hxj_putI (by rfl) (by rfl) (by rfl) (by rfl) hA7 (hbokN (by rfl)) (by rfl) (by rfl) (fun A10 hA10 eA10 fA10 => ?_)
        refine hxa_iconst (by rfl) rfl ?_
        exact hxa_ireturn (by rfl) (by rfl) (hP _ _ ⟨hA10, _, rfl, by omega⟩)
      ·
        refine hxa_iconst (by rfl) rfl ?_
        exact hxa_ireturn (by rfl) (by rfl) (hP _ _ ⟨hA7, _, rfl, by omega⟩)
theorem hX48q1 {d : Nat} {Bn Br : Int} {A0 A : hs_A} (hA : hJ 1 Bn Br A0 A)   : hxC (d + 3) 48 hm_m48 [.ref 21] A (fun r A' => hJ 1 Bn Br A0 A' ∧ ∃ z : Int32, r = some (.int z) ∧ ((0 ≤ z.toInt ∧ z.toInt ≤ 1))) := hxC.of (by rfl) (hY48q1 hA  (fun r A' h => h))
theorem hY52q1_6 {d : Nat} {Bn Br : Int} {A0 A : hs_A} (hA : hJ 1 Bn Br A0 A)  (a1 : Int32) (p1 : 6 ≤ a1.toInt) (q1 : a1.toInt ≤ 6) {P : Option Value → hs_A → Prop} (hP : ∀ (r : Option Value) (A' : hs_A), (hJ 1 Bn Br A0 A' ∧ ∃ z : Int32, r = some (.int z) ∧ ((0 ≤ z.toInt ∧ z.toInt ≤ 1))) → P r A') : hxa (d + 2) (some (.boolean)) hm_t52 0 [.ref 21, .int a1, .retAddr 0] [] A P := by
  have k0 := hk_0
  have k1 := hk_1
  have k11 := hk_11
  have k19 := hk_19
  have k2 := hk_2
  refine hxa_aload_n (by rfl) rfl ?_
  refine hxa_call0 (by rfl) (by rfl) (by rfl) (by rfl) (by rfl) (by rfl) (hX38q1 (d := d + 1) hA ) ?_
  rintro _ _ ⟨rfl, z1, rfl⟩
  refine hxa_s1 (by rfl) (Or.inl ⟨_, rfl, rfl⟩) rfl ?_
  refine hxa_iload_n (by rfl) rfl ?_
  refine hxa_bipush (by rfl) rfl ?_
  refine hxj_cne (by rfl) rfl hk_21 (fun q2 => ?_) (fun q2 => ?_)
  ·
    refine hxa_iload_n (by rfl) rfl ?_
    refine hxa_bipush (by rfl) rfl ?_
    refine hxa_bipush (by rfl) rfl ?_
    refine hxa_call2 (by rfl) (by decide) (by rfl) (by rfl) (by rfl) (hX78 (d := d + 1)  z1 (Int32.ofNat 11) (Int32.ofNat 19)) ?_
    rintro _ _ ⟨rfl, z3, rfl, fz3⟩
    rcases fz3 with fz3 | fz3
    ·
      refine hxj_zeq (by rfl) rfl (fun q4 => False.elim (by omega)) (fun q4 => ?_)
      refine hxa_aload_n (by rfl) rfl ?_
      refine hxj_getT (by rfl) (by rfl) (by rfl) hA.rt1 ?_
      refine hxa_get (v := .ref 7) (by rfl) (by rfl) (by rfl) rfl ?_
      refine hxa_iconst (by rfl) rfl ?_
      refine hxa_iload_n (by rfl) rfl ?_
      refine hxa_bipush (by rfl) rfl ?_
      refine hxj_isub (by rfl) rfl hk_11 (by omega) (by omega) (fun z5 ez5 => ?_)
      refine hxa_call0 (by rfl) (by rfl) (by rfl) (by rfl) (by rfl) (by rfl) (hX12q1 (d := d + 1) hA (Int32.ofNat 1) (by omega) (by omega) z5 (by omega)) ?_
      rintro _ A6 ⟨hA6, z7, rfl⟩
      refine hxa_popI (by rfl) ?_
      refine hxa_aload_n (by rfl) rfl ?_
      refine hxa_call0 (by rfl) (by rfl) (by rfl) (by rfl) (by rfl) (by rfl) (hX41q1 (d := d + 1) hA6 ) ?_
      rintro _ A8 ⟨hA8, frA8_0, frA8_1, frA8_2, z9, rfl, fz9⟩
      exact hxa_ireturn (by rfl) (hn_fitB (by omega) (by omega)) (hP _ _ ⟨hA8, _, rfl, by omega⟩)
    ·
      refine hxj_zeq (by rfl) rfl (fun q10 => ?_) (fun q10 => False.elim (by omega))
      refine hxa_iload_n (by rfl) rfl ?_
      refine hxa_bipush (by rfl) rfl ?_
      refine hxj_ceq (by rfl) rfl hk_31 (fun q11 => ?_) (fun q11 => ?_)
      ·
        refine hxa_iload_n (by rfl) rfl ?_
        refine hxa_bipush (by rfl) rfl ?_
        refine hxj_clt (by rfl) rfl hk_6 (fun q12 => False.elim (by omega)) (fun q12 => ?_)
        refine hxa_aload_n (by rfl) rfl ?_
        refine hxa_iconst (by rfl) rfl ?_
        refine hxa_call0 (by rfl) (by rfl) (by rfl) (by rfl) (by rfl) (by rfl) (hX39q1 (d := d + 1) hA (Int32.ofNat 2)) ?_
        rintro _ A13 ⟨hA13, frA13_0, frA13_1, frA13_2, frA13_3, z14, rfl, fz14⟩
        exact hxa_ireturn (by rfl) (hn_fitB (by omega) (by omega)) (hP _ _ ⟨hA13, _, rfl, by omega⟩)
      ·
        refine hxa_aload_n (by rfl) rfl ?_
        refine hxa_iconst (by rfl) rfl ?_
        refine hxa_call0 (by rfl) (by rfl) (by rfl) (by rfl) (by rfl) (by rfl) (hX39q1 (d := d + 1) hA (Int32.ofNat 1)) ?_
        rintro _ A15 ⟨hA15, frA15_0, frA15_1, frA15_2, frA15_3, z16, rfl, fz16⟩
        exact hxa_ireturn (by rfl) (hn_fitB (by omega) (by omega)) (hP _ _ ⟨hA15, _, rfl, by omega⟩)
  ·
    refine hxa_aload_n (by rfl) rfl ?_
    refine hxj_getT (by rfl) (by rfl) (by rfl) hA.rt1 ?_
    refine hxa_get (v := .ref 7) (by rfl) (by rfl) (by rfl) rfl ?_
    refine hxa_iconst (by rfl) rfl ?_
    refine hxa_aload_n (by rfl) rfl ?_
    refine hxa_get (v := .ref 22) (by rfl) (by rfl) (by rfl) rfl ?_
    refine hxa_get (v := .ref 24) (by rfl) (by rfl) (by rfl) rfl ?_
    refine hxa_aload_n (by rfl) rfl ?_
    refine hxj_getB (by rfl) (by rfl) (by rfl) hA (by rfl) (fun z17 ez17 fz17 gz17 => ?_)
    refine hxj_lald (by rfl) (by rfl) rfl (by omega) (by omega) (fun j18 ej18 => ?_)
    refine hxa_l2i (by rfl) (hn_top (fun z19 _ => ?_))
    refine hxa_call0 (by rfl) (by rfl) (by rfl) (by rfl) (by rfl) (by rfl) (hX12q1 (d := d + 1) hA (Int32.ofNat 0) (by omega) (by omega) z19 (by omega)) ?_
    rintro _ A20 ⟨hA20, z21, rfl⟩
    refine hxa_popI (by rfl) ?_
    refine hxa_aload_n (by rfl) rfl ?_
    refine hxa_call0 (by rfl) (by rfl) (by rfl) (by rfl) (by rfl) (by rfl) (hX41q1 (d := d + 1) hA20 ) ?_
    rintro _ A22 ⟨hA22, frA22_0, frA22_1, frA22_2, z23, rfl, fz23⟩
    exact hxa_ireturn (by rfl) (hn_fitB (by omega) (by omega)) (hP _ _ ⟨hA22, _, rfl, by omega⟩)
theorem hX52q1_6 {d : Nat} {Bn Br : Int} {A0 A : hs_A} (hA : hJ 1 Bn Br A0 A)  (a1 : Int32) (p1 : 6 ≤ a1.toInt) (q1 : a1.toInt ≤ 6) : hxC (d + 3) 52 hm_m52 [.ref 21, .int a1] A (fun r A' => hJ 1 Bn Br A0 A' ∧ ∃ z : Int32, r = some (.int z) ∧ ((0 ≤ z.toInt ∧ z.toInt ≤ 1))) := hxC.of (by rfl) (hY52q1_6 hA a1 p1 q1 (fun r A' h => h))
theorem hY51q1_6 {d : Nat} {Bn Br : Int} {A0 A : hs_A} (hA : hJ 1 Bn Br A0 A)  (a1 : Int32) (p1 : 6 ≤ a1.toInt) (q1 : a1.toInt ≤ 6) {P : Option Value → hs_A → Prop} (hP : ∀ (r : Option Value) (A' : hs_A), (hJ 1 Bn Br A0 A' ∧ ∃ z : Int32, r = some (.int z) ∧ ((0 ≤ z.toInt ∧ z.toInt ≤ 1))) → P r A') : hxa (d + 3) (some (.boolean)) hm_t51 0 [.ref 21, .int a1, .retAddr 0, .retAddr 0, .retAddr 0] [] A P := by
  have k0 := hk_0
  have k1 := hk_1
  have k4 := hk_4
  have k5 := hk_5
  have L8 : ∀ (m8 : Nat) (x8_2 : Int32) (x8_3 : Int32) (x8_4 : Value) (Ac8 : hs_A) (hAc8 : hJ 1 Bn Br A0 Ac8) (bx8_2 : 0 ≤ x8_2.toInt) (cx8_2 : x8_2.toInt ≤ 1) (bx8_3 : 0 ≤ x8_3.toInt) (cx8_3 : x8_3.toInt ≤ 400) (hm8 : 400 - x8_3.toInt < (m8 : Int)), hxa (d + 3) (some (.boolean)) hm_t51 8 [.ref 21, .int a1, .int x8_2, .int x8_3, x8_4] [] Ac8 P := by
    intro m8
    induction m8 with
    | zero => intro x8_2 x8_3 x8_4 Ac8 hAc8 bx8_2 cx8_2 bx8_3 cx8_3 hm8;  exact False.elim (by omega)
    | succ m8 ih8 =>
      intro x8_2 x8_3 x8_4 Ac8 hAc8 bx8_2 cx8_2 bx8_3 cx8_3 hm8
      have L61 : ∀ (x61_4 : Int32) (y61_0 : Int32) (Ac61 : hs_A) (hAc61 : hJ 1 Bn Br A0 Ac61) (bx61_4 : 28 ≤ x61_4.toInt) (cx61_4 : x61_4.toInt ≤ 29) (by61_0 : 0 ≤ y61_0.toInt) (cy61_0 : y61_0.toInt ≤ 1) (bx8_2 : 1 ≤ x8_2.toInt) (cx8_3 : x8_3.toInt ≤ 399), hxa (d + 3) (some (.boolean)) hm_t51 61 [.ref 21, .int a1, .int x8_2, .int x8_3, .int x61_4] [.int y61_0] Ac61 P := by
        intro x61_4 y61_0 Ac61 hAc61 bx61_4 cx61_4 by61_0 cy61_0 bx8_2 cx8_3
        refine hxa_s1 (by rfl) (Or.inl ⟨_, rfl, rfl⟩) rfl ?_
        refine hxa_aload_n (by rfl) rfl ?_
        refine hxj_getT (by rfl) (by rfl) (by rfl) hAc61.rt1 ?_
        refine hxa_get (v := .ref 7) (by rfl) (by rfl) (by rfl) rfl ?_
        refine hxa_iload (by rfl) rfl ?_
        refine hxa_bipush (by rfl) rfl ?_
        refine hxj_cne (by rfl) rfl hk_28 (fun q1 => ?_) (fun q1 => ?_)
        ·
          refine hxa_iconst (by rfl) rfl ?_
          refine hxa_iconst (by rfl) rfl ?_
          refine hxa_call0 (by rfl) (by rfl) (by rfl) (by rfl) (by rfl) (by rfl) (hX12q1 (d := d + 2) hAc61 (Int32.ofNat 5) (by omega) (by omega) (Int32.ofNat 0) (by omega)) ?_
          rintro _ A2 ⟨hA2, z3, rfl⟩
          refine hxa_popI (by rfl) ?_
          refine hxj_iinc (by rfl) rfl rfl hk_1 (by omega) (by omega) (fun _ => rfl) (fun z4 ez4 => ?_)
          refine hxa_goto (by rfl) ?_
          exact ih8 y61_0 z4 (.int x61_4) A2 hA2 (by omega) (by omega) (by omega) (by omega) (by omega)
        ·
          refine hxa_iconst (by rfl) rfl ?_
          refine hxa_goto (by rfl) ?_
          refine hxa_iconst (by rfl) rfl ?_
          refine hxa_call0 (by rfl) (by rfl) (by rfl) (by rfl) (by rfl) (by rfl) (hX12q1 (d := d + 2) hAc61 (Int32.ofNat 4) (by omega) (by omega) (Int32.ofNat 0) (by omega)) ?_
          rintro _ A5 ⟨hA5, z6, rfl⟩
          refine hxa_popI (by rfl) ?_
          refine hxj_iinc (by rfl) rfl rfl hk_1 (by omega) (by omega) (fun _ => rfl) (fun z7 ez7 => ?_)
          refine hxa_goto (by rfl) ?_
          exact ih8 y61_0 z7 (.int x61_4) A5 hA5 (by omega) (by omega) (by omega) (by omega) (by omega)
      refine hxa_iload_n (by rfl) rfl ?_
      refine hxa_sipush (by rfl) rfl ?_
      refine hxj_cge (by rfl) rfl hk_400 (fun q8 => ?_) (fun q8 => ?_)
      ·
        refine hxa_iload_n (by rfl) rfl ?_
        exact hxa_ireturn (by rfl) (hn_fitB (by omega) (by omega)) (hP _ _ ⟨hAc8, _, rfl, by omega⟩)
      ·
        refine hxa_iload_n (by rfl) rfl ?_
        refine hxj_zeq (by rfl) rfl (fun q9 => ?_) (fun q9 => ?_)
        ·
          refine hxa_iload_n (by rfl) rfl ?_
          exact hxa_ireturn (by rfl) (hn_fitB (by omega) (by omega)) (hP _ _ ⟨hAc8, _, rfl, by omega⟩)
        ·
          refine hxa_aload_n (by rfl) rfl ?_
          refine hxa_call0 (by rfl) (by rfl) (by rfl) (by rfl) (by rfl) (by rfl) (hX38q1 (d := d + 2) hAc8 ) ?_
          rintro _ _ ⟨rfl, z10, rfl⟩
          refine hxa_s1 (by rfl) (Or.inr ⟨_, rfl, rfl⟩) rfl ?_
          refine hxa_iload (by rfl) rfl ?_
          refine hxa_bipush (by rfl) rfl ?_
          refine hxj_ceq (by rfl) rfl hk_28 (fun q11 => ?_) (fun q11 => ?_)
          ·
            refine hxa_aload_n (by rfl) rfl ?_
            refine hxa_call0 (by rfl) (by rfl) (by rfl) (by rfl) (by rfl) (by rfl) (hX41q1 (d := d + 2) hAc8 ) ?_
            rintro _ A12 ⟨hA12, frA12_0, frA12_1, frA12_2, z13, rfl, fz13⟩
            refine hxj_zeq (by rfl) rfl (fun q14 => ?_) (fun q14 => ?_)
            ·
              refine hxa_iconst (by rfl) rfl ?_
              exact L61 z10 (Int32.ofNat 0) A12 hA12 (by omega) (by omega) (by omega) (by omega) (by omega) (by omega)
            ·
              refine hxa_aload_n (by rfl) rfl ?_
              refine hxa_iload_n (by rfl) rfl ?_
              refine hxa_call0 (by rfl) (by rfl) (by rfl) (by rfl) (by rfl) (by rfl) (hX52q1_6 (d := d + 0) hA12 a1 (by omega) (by omega)) ?_
              rintro _ A15 ⟨hA15, z16, rfl, fz16⟩
              refine hxj_zeq (by rfl) rfl (fun q17 => ?_) (fun q17 => ?_)
              ·
                refine hxa_iconst (by rfl) rfl ?_
                exact L61 z10 (Int32.ofNat 0) A15 hA15 (by omega) (by omega) (by omega) (by omega) (by omega) (by omega)
              ·
                refine hxa_iconst (by rfl) rfl ?_
                refine hxa_goto (by rfl) ?_
                exact L61 z10 (Int32.ofNat 1) A15 hA15 (by omega) (by omega) (by omega) (by omega) (by omega) (by omega)
          ·
            refine hxa_iload (by rfl) rfl ?_
            refine hxa_bipush (by rfl) rfl ?_
            refine hxj_ceq (by rfl) rfl hk_29 (fun q18 => ?_) (fun q18 => ?_)
            ·
              refine hxa_aload_n (by rfl) rfl ?_
              refine hxa_call0 (by rfl) (by rfl) (by rfl) (by rfl) (by rfl) (by rfl) (hX41q1 (d := d + 2) hAc8 ) ?_
              rintro _ A19 ⟨hA19, frA19_0, frA19_1, frA19_2, z20, rfl, fz20⟩
              refine hxj_zeq (by rfl) rfl (fun q21 => ?_) (fun q21 => ?_)
              ·
                refine hxa_iconst (by rfl) rfl ?_
                exact L61 z10 (Int32.ofNat 0) A19 hA19 (by omega) (by omega) (by omega) (by omega) (by omega) (by omega)
              ·
                refine hxa_aload_n (by rfl) rfl ?_
                refine hxa_iload_n (by rfl) rfl ?_
                refine hxa_call0 (by rfl) (by rfl) (by rfl) (by rfl) (by rfl) (by rfl) (hX52q1_6 (d := d + 0) hA19 a1 (by omega) (by omega)) ?_
                rintro _ A22 ⟨hA22, z23, rfl, fz23⟩
                refine hxj_zeq (by rfl) rfl (fun q24 => ?_) (fun q24 => ?_)
                ·
                  refine hxa_iconst (by rfl) rfl ?_
                  exact L61 z10 (Int32.ofNat 0) A22 hA22 (by omega) (by omega) (by omega) (by omega) (by omega) (by omega)
                ·
                  refine hxa_iconst (by rfl) rfl ?_
                  refine hxa_goto (by rfl) ?_
                  exact L61 z10 (Int32.ofNat 1) A22 hA22 (by omega) (by omega) (by omega) (by omega) (by omega) (by omega)
            ·
              refine hxa_iconst (by rfl) rfl ?_
              exact hxa_ireturn (by rfl) (by rfl) (hP _ _ ⟨hAc8, _, rfl, by omega⟩)
  refine hxa_aload_n (by rfl) rfl ?_
  refine hxa_iload_n (by rfl) rfl ?_
  refine hxa_call0 (by rfl) (by rfl) (by rfl) (by rfl) (by rfl) (by rfl) (hX52q1_6 (d := d + 0) hA a1 (by omega) (by omega)) ?_
  rintro _ A25 ⟨hA25, z26, rfl, fz26⟩
  refine hxa_s1 (by rfl) (Or.inl ⟨_, rfl, rfl⟩) rfl ?_
  refine hxa_iconst (by rfl) rfl ?_
  refine hxa_s1 (by rfl) (Or.inl ⟨_, rfl, rfl⟩) rfl ?_
  exact L8 (Int.toNat (400 - 0) + 1) z26 (Int32.ofNat 0) (.retAddr 0) A25 hA25 (by omega) (by omega) (by omega) (by omega) (by omega)
theorem hX51q1_6 {d : Nat} {Bn Br : Int} {A0 A : hs_A} (hA : hJ 1 Bn Br A0 A)  (a1 : Int32) (p1 : 6 ≤ a1.toInt) (q1 : a1.toInt ≤ 6) : hxC (d + 4) 51 hm_m51 [.ref 21, .int a1] A (fun r A' => hJ 1 Bn Br A0 A' ∧ ∃ z : Int32, r = some (.int z) ∧ ((0 ≤ z.toInt ∧ z.toInt ≤ 1))) := hxC.of (by rfl) (hY51q1_6 hA a1 p1 q1 (fun r A' h => h))
