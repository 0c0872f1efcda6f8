theorem hY47q2 {d : Nat} {Bn Br : Int} {A0 A : hs_A} (hA : hJ 2 Bn Br A0 A)   {P : Option Value → hs_A → Prop} (hP : ∀ (r : Option Value) (A' : hs_A), (hJ 2 Bn Br A0 A' ∧ ∃ z : Int32, r = some (.int z) ∧ ((0 ≤ z.toInt ∧ z.toInt ≤ 1))) → P r A') : hxa (d + 2) (some (.boolean)) hm_t47 0 [.ref 21] [] A P := by
  have k0 := hk_0
  have k1 := hk_1
  have k24 := hk_24
  have k99 := hk_99
  refine hxa_aload_n (by rfl) rfl ?_
  refine hxa_call0 (by rfl) (by rfl) (by rfl) (by rfl) (by rfl) (by rfl) (hX41q2 (d := d + 1) hA ) ?_
  rintro _ A1 ⟨hA1, frA1_0, frA1_1, frA1_2, z2, rfl, fz2⟩
  refine hxj_zeq (by rfl) rfl (fun q3 => ?_) (fun q3 => ?_)
  ·
    refine hxa_iconst (by rfl) rfl ?_
    exact hxa_ireturn (by rfl) (by rfl) (hP _ _ ⟨hA1, _, rfl, by omega⟩)
  ·
    refine hxa_aload_n (by rfl) rfl ?_
    refine hxa_iconst (by rfl) rfl ?_
    refine hxa_bipush (by rfl) rfl ?_
    refine hxa_call0 (by rfl) (by rfl) (by rfl) (by rfl) (by rfl) (by rfl) (hX43q2 (d := d + 0) hA1 (Int32.ofNat 1) (Int32.ofNat 99)) ?_
    rintro _ A4 ⟨hA4, frA4_0, z5, rfl, fz5⟩
    refine hxj_zeq (by rfl) rfl (fun q6 => ?_) (fun q6 => ?_)
    ·
      refine hxa_iconst (by rfl) rfl ?_
      exact hxa_ireturn (by rfl) (by rfl) (hP _ _ ⟨hA4, _, rfl, by omega⟩)
    ·
      refine hxa_aload_n (by rfl) rfl ?_
      refine hxa_bipush (by rfl) rfl ?_
      refine hxa_call0 (by rfl) (by rfl) (by rfl) (by rfl) (by rfl) (by rfl) (hX42q2 (d := d + 0) hA4 (Int32.ofNat 24)) ?_
      rintro _ A7 ⟨hA7, frA7_0, frA7_1, frA7_2, z8, rfl, fz8⟩
      refine hxj_zne (by rfl) rfl (fun q9 => ?_) (fun q9 => ?_)
      ·
        refine hxa_aload_n (by rfl) rfl ?_
        refine hxj_getT (by rfl) (by rfl) (by rfl) hA7.rt2 ?_
        refine hxa_aload_n (by rfl) rfl ?_
        refine hxj_getK (by rfl) (by rfl) (by rfl) (frA7_1.trans rfl) ?_
        refine hxj_putI (by rfl) (by rfl) (by rfl) (by rfl) hA7 (hbokN (by rfl)) (by rfl) (by rfl) (fun A10 hA10 eA10 fA10 => ?_)
        refine hxa_iconst (by rfl) rfl ?_
        exact hxa_ireturn (by rfl) (by rfl) (hP _ _ ⟨hA10, _, rfl, by omega⟩)
      ·
        refine hxa_iconst (by rfl) rfl ?_
        exact hxa_ireturn (by rfl) (by rfl) (hP _ _ ⟨hA7, _, rfl, by omega⟩)
theorem hX47q2 {d : Nat} {Bn Br : Int} {A0 A : hs_A} (hA : hJ 2 Bn Br A0 A)   : hxC (d + 3) 47 hm_m47 [.ref 21] A (fun r A' => hJ 2 Bn Br A0 A' ∧ ∃ z : Int32, r = some (.int z) ∧ ((0 ≤ z.toInt ∧ z.toInt ≤ 1))) := hxC.of (by rfl) (hY47q2 hA  (fun r A' h => h))
theorem hY48q2 {d : Nat} {Bn Br : Int} {A0 A : hs_A} (hA : hJ 2 Bn Br A0 A)   {P : Option Value → hs_A → Prop} (hP : ∀ (r : Option Value) (A' : hs_A), (hJ 2 Bn Br A0 A' ∧ ∃ z : Int32, r = some (.int z) ∧ ((0 ≤ z.toInt ∧ z.toInt ≤ 1))) → P r A') : hxa (d + 2) (some (.boolean)) hm_t48 0 [.ref 21] [] A P := by
  have k0 := hk_0
  have k1 := hk_1
  have k24 := hk_24
  have k9999 := hk_9999
  refine hxa_aload_n (by rfl) rfl ?_
  refine hxa_call0 (by rfl) (by rfl) (by rfl) (by rfl) (by rfl) (by rfl) (hX41q2 (d := d + 1) hA ) ?_
  rintro _ A1 ⟨hA1, frA1_0, frA1_1, frA1_2, z2, rfl, fz2⟩
  refine hxj_zeq (by rfl) rfl (fun q3 => ?_) (fun q3 => ?_)
  ·
    refine hxa_iconst (by rfl) rfl ?_
    exact hxa_ireturn (by rfl) (by rfl) (hP _ _ ⟨hA1, _, rfl, by omega⟩)
  ·
    refine hxa_aload_n (by rfl) rfl ?_
    refine hxa_iconst (by rfl) rfl ?_
    refine hxa_sipush (by rfl) rfl ?_
    refine hxa_call0 (by rfl) (by rfl) (by rfl) (by rfl) (by rfl) (by rfl) (hX43q2 (d := d + 0) hA1 (Int32.ofNat 0) (Int32.ofNat 9999)) ?_
    rintro _ A4 ⟨hA4, frA4_0, z5, rfl, fz5⟩
    refine hxj_zeq (by rfl) rfl (fun q6 => ?_) (fun q6 => ?_)
    ·
      refine hxa_iconst (by rfl) rfl ?_
      exact hxa_ireturn (by rfl) (by rfl) (hP _ _ ⟨hA4, _, rfl, by omega⟩)
    ·
      refine hxa_aload_n (by rfl) rfl ?_
      refine hxa_bipush (by rfl) rfl ?_
      refine hxa_call0 (by rfl) (by rfl) (by rfl) (by rfl) (by rfl) (by rfl) (hX42q2 (d := d + 0) hA4 (Int32.ofNat 24)) ?_
      rintro _ A7 ⟨hA7, frA7_0, frA7_1, frA7_2, z8, rfl, fz8⟩
      refine hxj_zne (by rfl) rfl (fun q9 => ?_) (fun q9 => ?_)
      ·
        refine hxa_aload_n (by rfl) rfl ?_
        refine hxj_getT (by rfl) (by rfl) (by rfl) hA7.rt2 ?_
        refine hxa_aload_n (by rfl) rfl ?_
        refine hxj_getK (by rfl) (by rfl) (by rfl) (frA7_1.trans rfl) ?_
        refine hxj_putI (by rfl) (by rfl) (by rfl) (by rfl) hA7 (hbokN (by rfl)) (by rfl) (by rfl) (fun A10 hA10 eA10 fA10 => ?_)
        refine hxa_iconst (by rfl) rfl ?_
        exact hxa_ireturn (by rfl) (by rfl) (hP _ _ ⟨hA10, _, rfl, by omega⟩)
      ·
        refine hxa_iconst (by rfl) rfl ?_
        exact hxa_ireturn (by rfl) (by rfl) (hP _ _ ⟨hA7, _, rfl, by omega⟩)
theorem hX48q2 {d : Nat} {Bn Br : Int} {A0 A : hs_A} (hA : hJ 2 Bn Br A0 A)   : hxC (d + 3) 48 hm_m48 [.ref 21] A (fun r A' => hJ 2 Bn Br A0 A' ∧ ∃ z : Int32, r = some (.int z) ∧ ((0 ≤ z.toInt ∧ z.toInt ≤ 1))) := hxC.of (by rfl) (hY48q2 hA  (fun r A' h => h))
theorem hY52q2_6 {d : Nat} {Bn Br : Int} {A0 A : hs_A} (hA : hJ 2 Bn Br A0 A)  (a1 : Int32) (p1 : 6 ≤ a1.toInt) (q1 : a1.toInt ≤ 6) {P : Option Value → hs_A → Prop} (hP : ∀ (r : Option Value) (A' : hs_A), (hJ 2 Bn Br A0 A' ∧ ∃ z : Int32, r = some (.int z) ∧ ((0 ≤ z.toInt ∧ z.toInt ≤ 1))) → P r A') : hxa (d + 2) (some (.boolean)) hm_t52 0 [.ref 21, .int a1, .retAddr 0] [] A P := by
  have k0 := hk_0
  have k1 := hk_1
  have k11 := hk_11
  have k19 := hk_19
  have k2 := hk_2
  refine hxa_aload_n (by rfl) rfl ?_
  refine hxa_call0 (by rfl) (by rfl) (by rfl) (by rfl) (by rfl) (by rfl) (hX38q2 (d := d + 1) hA ) ?_
  rintro _ _ ⟨rfl, z1, rfl⟩
  refine hxa_s1 (by rfl) (Or.inl ⟨_, rfl, rfl⟩) rfl ?_
  refine hxa_iload_n (by rfl) rfl ?_
  refine hxa_bipush (by rfl) rfl ?_
  refine hxj_cne (by rfl) rfl hk_21 (fun q2 => ?_) (fun q2 => ?_)
  ·
    refine hxa_iload_n (by rfl) rfl ?_
    refine hxa_bipush (by rfl) rfl ?_
    refine hxa_bipush (by rfl) rfl ?_
    refine hxa_call2 (by rfl) (by decide) (by rfl) (by rfl) (by rfl) (hX78 (d := d + 1)  z1 (Int32.ofNat 11) (Int32.ofNat 19)) ?_
    rintro _ _ ⟨rfl, z3, rfl, fz3⟩
    rcases fz3 with fz3 | fz3
    ·
      refine hxj_zeq (by rfl) rfl (fun q4 => False.elim (by omega)) (fun q4 => ?_)
      refine hxa_aload_n (by rfl) rfl ?_
      refine hxj_getT (by rfl) (by rfl) (by rfl) hA.rt2 ?_
      refine hxa_get (v := .ref 16) (by rfl) (by rfl) (by rfl) rfl ?_
      refine hxa_iconst (by rfl) rfl ?_
      refine hxa_iload_n (by rfl) rfl ?_
      refine hxa_bipush (by rfl) rfl ?_
      refine hxj_isub (by rfl) rfl hk_11 (by omega) (by omega) (fun z5 ez5 => ?_)
      refine hxa_call0 (by rfl) (by rfl) (by rfl) (by rfl) (by rfl) (by rfl) (hX12q2 (d := d + 1) hA (Int32.ofNat 1) (by omega) (by omega) z5 (by omega)) ?_
      rintro _ A6 ⟨hA6, z7, rfl⟩
      refine hxa_popI (by rfl) ?_
      refine hxa_aload_n (by rfl) rfl ?_
      refine hxa_call0 (by rfl) (by rfl) (by rfl) (by rfl) (by rfl) (by rfl) (hX41q2 (d := d + 1) hA6 ) ?_
      rintro _ A8 ⟨hA8, frA8_0, frA8_1, frA8_2, z9, rfl, fz9⟩
      exact hxa_ireturn (by rfl) (hn_fitB (by omega) (by omega)) (hP _ _ ⟨hA8, _, rfl, by omega⟩)
    ·
      refine hxj_zeq (by rfl) rfl (fun q10 => ?_) (fun q10 => False.elim (by omega))
      refine hxa_iload_n (by rfl) rfl ?_
      refine hxa_bipush (by rfl) rfl ?_
      refine hxj_ceq (by rfl) rfl hk_31 (fun q11 => ?_) (fun q11 => ?_)
      ·
        refine hxa_iload_n (by rfl) rfl ?_
        refine hxa_bipush (by rfl) rfl ?_
        refine hxj_clt (by rfl) rfl hk_6 (fun q12 => False.elim (by omega)) (fun q12 => ?_)
        refine hxa_aload_n (by rfl) rfl ?_
        refine hxa_iconst (by rfl) rfl ?_
        refine hxa_call0 (by rfl) (by rfl) (by rfl) (by rfl) (by rfl) (by rfl) (hX39q2 (d := d + 1) hA (Int32.ofNat 2)) ?_
        rintro _ A13 ⟨hA13, frA13_0, frA13_1, frA13_2, frA13_3, z14, rfl, fz14⟩
        exact hxa_ireturn (by rfl) (hn_fitB (by omega) (by omega)) (hP _ _ ⟨hA13, _, rfl, by omega⟩)
      ·
        refine hxa_aload_n (by rfl) rfl ?_
        refine hxa_iconst (by rfl) rfl ?_
        refine hxa_call0 (by rfl) (by rfl) (by rfl) (by rfl) (by rfl) (by rfl) (hX39q2 (d := d + 1) hA (Int32.ofNat 1)) ?_
        rintro _ A15 ⟨hA15, frA15_0, frA15_1, frA15_2, frA15_3, z16, rfl, fz16⟩
        exact hxa_ireturn (by rfl) (hn_fitB (by omega) (by omega)) (hP _ _ ⟨hA15, _, rfl, by omega⟩)
  ·
    refine hxa_aload_n (by rfl) rfl ?_
    refine hxj_getT (by rfl) (by rfl) (by rfl) hA.rt2 ?_
    refine hxa_get (v := .ref 16) (by rfl) (by rfl) (by rfl) rfl ?_
    refine hxa_iconst (by rfl) rfl ?_
    refine hxa_aload_n (by rfl) rfl ?_
    refine hxa_get (v := .ref 22) (by rfl) (by rfl) (by rfl) rfl ?_
    refine hxa_get (v := .ref 24) (by rfl) (by rfl) (by rfl) rfl ?_
    refine hxa_aload_n (by rfl) rfl ?_
    refine hxj_getB (by rfl) (by rfl) (by rfl) hA (by rfl) (fun z17 ez17 fz17 gz17 => ?_)
    refine hxj_lald (by rfl) (by rfl) rfl (by omega) (by omega) (fun j18 ej18 => ?_)
    refine hxa_l2i (by rfl) (hn_top (fun z19 _ => ?_))
    refine hxa_call0 (by rfl) (by rfl) (by rfl) (by rfl) (by rfl) (by rfl) (hX12q2 (d := d + 1) hA (Int32.ofNat 0) (by omega) (by omega) z19 (by omega)) ?_
    rintro _ A20 ⟨hA20, z21, rfl⟩
    refine hxa_popI (by rfl) ?_
    refine hxa_aload_n (by rfl) rfl ?_
    refine hxa_call0 (by rfl) (by rfl) (by rfl) (by rfl) (by rfl) (by rfl) (hX41q2 (d := d + 1) hA20 ) ?_
    rintro _ A22 ⟨hA22, frA22_0, frA22_1, frA22_2, z23, rfl, fz23⟩
    exact hxa_ireturn (by rfl) (hn_fitB (by omega) (by omega)) (hP _ _ ⟨hA22, _, rfl, by omega⟩)
theorem hX52q2_6 {d : Nat} {Bn Br : Int} {A0 A : hs_A} (hA : hJ 2 Bn Br A0 A)  (a1 : Int32) (p1 : 6 ≤ a1.toInt) (q1 : a1.toInt ≤ 6) : hxC (d + 3) 52 hm_m52 [.ref 21, .int a1] A (fun r A' => hJ 2 Bn Br A0 A' ∧ ∃ z : Int32, r = some (.int z) ∧ ((0 ≤ z.toInt ∧ z.toInt ≤ 1))) := hxC.of (by rfl) (hY52q2_6 hA a1 p1 q1 (fun r A' h => h))
theorem hY51q2_6 {d : Nat} {Bn Br : Int} {A0 A : hs_A} (hA : hJ 2 Bn Br A0 A)  (a1 : Int32) (p1 : 6 ≤ a1.toInt) (q1 : a1.toInt ≤ 6) {P : Option Value → hs_A → Prop} (hP : ∀ (r : Option Value) (A' : hs_A), (hJ 2 Bn Br A0 A' ∧ ∃ z : Int32, r = some (.int z) ∧ ((0 ≤ z.toInt ∧ z.toInt ≤ 1))) → P r A') : hxa (d + 3) (some (.boolean)) hm_t51 0 [.ref 21, .int a1, .retAddr 0, .retAddr 0, .retAddr 0] [] A P := by
  have k0 := hk_0
  have k1 := hk_1
  have k4 := hk_4
  have k5 := hk_5
  have L8 : ∀ (m8 : Nat) (x8_2 : Int32) (x8_3 : Int32) (x8_4 : Value) (Ac8 : hs_A) (hAc8 : hJ 2 Bn Br A0 Ac8) (bx8_2 : 0 ≤ x8_2.toInt) (cx8_2 : x8_2.toInt ≤ 1) (bx8_3 : 0 ≤ x8_3.toInt) (cx8_3 : x8_3.toInt ≤ 400) (hm8 : 400 - x8_3.toInt < (m8 : Int)), hxa (d + 3) (some (.boolean)) hm_t51 8 [.ref 21, .int a1, .int x8_2, .int x8_3, x8_4] [] Ac8 P := by
    intro m8
    induction m8 with
    | zero => intro x8_2 x8_3 x8_4 Ac8 hAc8 bx8_2 cx8_2 bx8_3 cx8_3 hm8;  exact False.elim (by omega)
    | succ m8 ih8 =>
      intro x8_2 x8_3 x8_4 Ac8 hAc8 bx8_2 cx8_2 bx8_3 cx8_3 hm8
      have L61 : ∀ (x61_4 : Int32) (y61_0 : Int32) (Ac61 : hs_A) (hAc61 : hJ 2 Bn Br A0 Ac61) (bx61_4 : 28 ≤ x61_4.toInt) (cx61_4 : x61_4.toInt ≤ 29) (by61_0 : 0 ≤ y61_0.toInt) (cy61_0 : y61_0.toInt ≤ 1) (bx8_2 : 1 ≤ x8_2.toInt) (cx8_3 : x8_3.toInt ≤ 399), hxa (d + 3) (some (.boolean)) hm_t51 61 [.ref 21, .int a1, .int x8_2, .int x8_3, .int x61_4] [.int y61_0] Ac61 P := by
        intro x61_4 y61_0 Ac61 hAc61 bx61_4 cx61_4 by61_0 cy61_0 bx8_2 cx8_3
        refine hxa_s1 (by rfl) (Or.inl ⟨_, rfl, rfl⟩) rfl ?_
        refine hxa_aload_n (by rfl) rfl ?_
        refine hxj_getT (by rfl) (by rfl) (by rfl) hAc61.rt2 ?_
        refine hxa_get (v := .ref 16) (by rfl) (by rfl) (by rfl) rfl ?_
        refine hxa_iload (by rfl) rfl ?_
        refine hxa_bipush (by rfl) rfl ?_
        refine hxj_cne (by rfl) rfl hk_28 (fun q1 => ?_) (fun q1 => ?_)
        ·
          refine hxa_iconst (by rfl) rfl ?_
          refine hxa_iconst (by rfl) rfl ?_
          refine hxa_call0 (by rfl) (by rfl) (by rfl) (by rfl) (by rfl) (by rfl) (hX12q2 (d := d + 2) hAc61 (Int32.ofNat 5) (by omega) (by omega) (Int32.ofNat 0) (by omega)) ?_
          rintro _ A2 ⟨hA2, z3, rfl⟩
          refine hxa_popI (by rfl) ?_
          refine hxj_iinc (by rfl) rfl rfl hk_1 (by omega) (by omega) (fun _ => rfl) (fun z4 ez4 => ?_)
          refine hxa_goto (by rfl) ?_
          exact ih8 y61_0 z4 (.int x61_4) A2 hA2 (by omega) (by omega) (by omega) (by omega) (by omega)
        ·
          refine hxa_iconst (by rfl) rfl ?_
          refine hxa_goto (by rfl) ?_
          refine hxa_iconst (by rfl) rfl ?_
          refine hxa_call0 (by rfl) (by rfl) (by rfl) (by rfl) (by rfl) (by rfl) (hX12q2 (d := d + 2) hAc61 (Int32.ofNat 4) (by omega) (by omega) (Int32.ofNat 0) (by omega)) ?_
          rintro _ A5 ⟨hA5, z6, rfl⟩
          refine hxa_popI (by rfl) ?_
          refine hxj_iinc (by rfl) rfl rfl hk_1 (by omega) (by omega) (fun _ => rfl) (fun z7 ez7 => ?_)
          refine hxa_goto (by rfl) ?_
          exact ih8 y61_0 z7 (.int x61_4) A5 hA5 (by omega) (by omega) (by omega) (by omega) (by omega)
      refine hxa_iload_n (by rfl) rfl ?_
      refine hxa_sipush (by rfl) rfl ?_
      refine hxj_cge (by rfl) rfl hk_400 (fun q8 => ?_) (fun q8 => ?_)
      ·
        refine hxa_iload_n (by rfl) rfl ?_
        exact hxa_ireturn (by rfl) (hn_fitB (by omega) (by omega)) (hP _ _ ⟨hAc8, _, rfl, by omega⟩)
      ·
        refine hxa_iload_n (by rfl) rfl ?_
        refine hxj_zeq (by rfl) rfl (fun q9 => ?_) (fun q9 => ?_)
        ·
          refine hxa_iload_n (by rfl) rfl ?_
          exact hxa_ireturn (by rfl) (hn_fitB (by omega) (by omega)) (hP _ _ ⟨hAc8, _, rfl, by omega⟩)
        ·
          refine hxa_aload_n (by rfl) rfl ?_
          refine hxa_call0 (by rfl) (by rfl) (by rfl) (by rfl) (by rfl) (by rfl) (hX38q2 (d := d + 2) hAc8 ) ?_
          rintro _ _ ⟨rfl, z10, rfl⟩
          refine hxa_s1 (by rfl) (Or.inr ⟨_, rfl, rfl⟩) rfl ?_
          refine hxa_iload (by rfl) rfl ?_
          refine hxa_bipush (by rfl) rfl ?_
          refine hxj_ceq (by rfl) rfl hk_28 (fun q11 => ?_) (fun q11 => ?_)
          ·
            refine hxa_aload_n (by rfl) rfl ?_
            refine hxa_call0 (by rfl) (by rfl) (by rfl) (by rfl) (by rfl) (by rfl) (hX41q2 (d := d + 2) hAc8 ) ?_
            rintro _ A12 ⟨hA12, frA12_0, frA12_1, frA12_2, z13, rfl, fz13⟩
            refine hxj_zeq (by rfl) rfl (fun q14 => ?_) (fun q14 => ?_)
            ·
              refine hxa_iconst (by rfl) rfl ?_
              exact L61 z10 (Int32.ofNat 0) A12 hA12 (by omega) (by omega) (by omega) (by omega) (by omega) (by omega)
            ·
              refine hxa_aload_n (by rfl) rfl ?_
              refine hxa_iload_n (by rfl) rfl ?_
              refine hxa_call0 (by rfl) (by rfl) (by rfl) (by rfl) (by rfl) (by rfl) (hX52q2_6 (d := d + 0) hA12 a1 (by omega) (by omega)) ?_
              rintro _ A15 ⟨hA15, z16, rfl, fz16⟩
              refine hxj_zeq (by rfl) rfl (fun q17 => ?_) (fun q17 => ?_)
              ·
                refine hxa_iconst (by rfl) rfl ?_
                exact L61 z10 (Int32.ofNat 0) A15 hA15 (by omega) (by omega) (by omega) (by omega) (by omega) (by omega)
              ·
                refine hxa_iconst (by rfl) rfl ?_
                refine hxa_goto (by rfl) ?_
                exact L61 z10 (Int32.ofNat 1) A15 hA15 (by omega) (by omega) (by omega) (by omega) (by omega) (by omega)
          ·
            refine hxa_iload (by rfl) rfl ?_
            refine hxa_bipush (by rfl) rfl ?_
            refine hxj_ceq (by rfl) rfl hk_29 (fun q18 => ?_) (fun q18 => ?_)
            ·
              refine hxa_aload_n (by rfl) rfl ?_
              refine hxa_call0 (by rfl) (by rfl) (by rfl) (by rfl) (by rfl) (by rfl) (hX41q2 (d := d + 2) hAc8 ) ?_
              rintro _ A19 ⟨hA19, frA19_0, frA19_1, frA19_2, z20, rfl, fz20⟩
              refine hxj_zeq (by rfl) rfl (fun q21 => ?_) (fun q21 => ?_)
              ·
                refine hxa_iconst (by rfl) rfl ?_
                exact L61 z10 (Int32.ofNat 0) A19 hA19 (by omega) (by omega) (by omega) (by omega) (by omega) (by omega)
              ·
                refine hxa_aload_n (by rfl) rfl ?_
                refine hxa_iload_n (by rfl) rfl ?_
                refine hxa_call0 (by rfl) (by rfl) (by rfl) (by rfl) (by rfl) (by rfl) (hX52q2_6 (d := d + 0) hA19 a1 (by omega) (by omega)) ?_
                rintro _ A22 ⟨hA22, z23, rfl, fz23⟩
                refine hxj_zeq (by rfl) rfl (fun q24 => ?_) (fun q24 => ?_)
                ·
                  refine hxa_iconst (by rfl) rfl ?_
                  exact L61 z10 (Int32.ofNat 0) A22 hA22 (by omega) (by omega) (by omega) (by omega) (by omega) (by omega)
                ·
                  refine hxa_iconst (by rfl) rfl ?_
                  refine hxa_goto (by rfl) ?_
                  exact L61 z10 (Int32.ofNat 1) A22 hA22 (by omega) (by omega) (by omega) (by omega) (by omega) (by omega)
            ·
              refine hxa_iconst (by rfl) rfl ?_
              exact hxa_ireturn (by rfl) (by rfl) (hP _ _ ⟨hAc8, _, rfl, by omega⟩)
  refine hxa_aload_n (by rfl) rfl ?_
  refine hxa_iload_n (by rfl) rfl ?_
  refine hxa_call0 (by rfl) (by rfl) (by rfl) (by rfl) (by rfl) (by rfl) (hX52q2_6 (d := d + 0) hA a1 (by omega) (by omega)) ?_
  rintro _ A25 ⟨hA25, z26, rfl, fz26⟩
  refine hxa_s1 (by rfl) (Or.inl ⟨_, rfl, rfl⟩) rfl ?_
  refine hxa_iconst (by rfl) rfl ?_
  refine hxa_s1 (by rfl) (Or.inl ⟨_, rfl, rfl⟩) rfl ?_
  exact L8 (Int.toNat (400 - 0) + 1) z26 (Int32.ofNat 0) (.retAddr 0) A25 hA25 (by omega) (by omega) (by omega) (by omega) (by omega)
theorem hX51q2_6 {d : Nat} {Bn Br : Int} {A0 A : hs_A} (hA : hJ 2 Bn Br A0 A)  (a1 : Int32) (p1 : 6 ≤ a1.toInt) (q1 : a1.toInt ≤ 6) : hxC (d + 4) 51 hm_m51 [.ref 21, .int a1] A (fun r A' => hJ 2 Bn Br A0 A' ∧ ∃ z : Int32, r = some (.int z) ∧ ((0 ≤ z.toInt ∧ z.toInt ≤ 1))) := hxC.of (by rfl) (hY51q2_6 hA a1 p1 q1 (fun r A' h => h))
theorem hY50q2_6 {d : Nat} {Bn Br : Int} {A0 A : hs_A} (hA : hJ 2 Bn Br A0 A)  (a1 : Int32) (p1 : 6 ≤ a1.toInt) (q1 : a1.toInt ≤ 6) {P : Option Value → hs_A → Prop} (hP : ∀ (r : Option Value) (A' : hs_A), (hJ 2 Bn Br A0 A' ∧ ∃ z : Int32, r = some (.int z) ∧ ((0 ≤ z.toInt ∧ z.toInt ≤ 1))) → P r A') : hxa (d + 4) (some (.boolean)) hm_t50 0 [.ref 21, .int a1, .retAddr 0, .retAddr 0, .retAddr 0] [] A P := by
  have k0 := hk_0
  have k1 := hk_1
  have k2 := hk_2
  have k3 := hk_3
  have L8 : ∀ (m8 : Nat) (x8_2 : Int32) (x8_3 : Int32) (x8_4 : Value) (Ac8 : hs_A) (hAc8 : hJ 2 Bn Br A0 Ac8) (bx8_2 : 0 ≤ x8_2.toInt) (cx8_2 : x8_2.toInt ≤ 1) (bx8_3 : 0 ≤ x8_3.toInt) (cx8_3 : x8_3.toInt ≤ 400) (hm8 : 400 - x8_3.toInt < (m8 : Int)), hxa (d + 4) (some (.boolean)) hm_t50 8 [.ref 21, .int a1, .int x8_2, .int x8_3, x8_4] [] Ac8 P := by
    intro m8
    induction m8 with
    | zero => intro x8_2 x8_3 x8_4 Ac8 hAc8 bx8_2 cx8_2 bx8_3 cx8_3 hm8;  exact False.elim (by omega)
    | succ m8 ih8 =>
      intro x8_2 x8_3 x8_4 Ac8 hAc8 bx8_2 cx8_2 bx8_3 cx8_3 hm8
      have L61 : ∀ (x61_4 : Int32) (y61_0 : Int32) (Ac61 : hs_A) (hAc61 : hJ 2 Bn Br A0 Ac61) (bx61_4 : 26 ≤ x61_4.toInt) (cx61_4 : x61_4.toInt ≤ 27) (by61_0 : 0 ≤ y61_0.toInt) (cy61_0 : y61_0.toInt ≤ 1) (bx8_2 : 1 ≤ x8_2.toInt) (cx8_3 : x8_3.toInt ≤ 399), hxa (d + 4) (some (.boolean)) hm_t50 61 [.ref 21, .int a1, .int x8_2, .int x8_3, .int x61_4] [.int y61_0] Ac61 P := by
        intro x61_4 y61_0 Ac61 hAc61 bx61_4 cx61_4 by61_0 cy61_0 bx8_2 cx8_3
        refine hxa_s1 (by rfl) (Or.inl ⟨_, rfl, rfl⟩) rfl ?_
        refine hxa_aload_n (by rfl) rfl ?_
        refine hxj_getT (by rfl) (by rfl) (by rfl) hAc61.rt2 ?_
        refine hxa_get (v := .ref 16) (by rfl) (by rfl) (by rfl) rfl ?_
        refine hxa_iload (by rfl) rfl ?_
        refine hxa_bipush (by rfl) rfl ?_
        refine hxj_cne (by rfl) rfl hk_26 (fun q1 => ?_) (fun q1 => ?_)
        ·
          refine hxa_iconst (by rfl) rfl ?_
          refine hxa_iconst (by rfl) rfl ?_
          refine hxa_call0 (by rfl) (by rfl) (by rfl) (by rfl) (by rfl) (by rfl) (hX12q2 (d := d + 3) hAc61 (Int32.ofNat 3) (by omega) (by omega) (Int32.ofNat 0) (by omega)) ?_
          rintro _ A2 ⟨hA2, z3, rfl⟩
          refine hxa_popI (by rfl) ?_
          refine hxj_iinc (by rfl) rfl rfl hk_1 (by omega) (by omega) (fun _ => rfl) (fun z4 ez4 => ?_)
          refine hxa_goto (by rfl) ?_
          exact ih8 y61_0 z4 (.int x61_4) A2 hA2 (by omega) (by omega) (by omega) (by omega) (by omega)
        ·
          refine hxa_iconst (by rfl) rfl ?_
          refine hxa_goto (by rfl) ?_
          refine hxa_iconst (by rfl) rfl ?_
          refine hxa_call0 (by rfl) (by rfl) (by rfl) (by rfl) (by rfl) (by rfl) (hX12q2 (d := d + 3) hAc61 (Int32.ofNat 2) (by omega) (by omega) (Int32.ofNat 0) (by omega)) ?_
          rintro _ A5 ⟨hA5, z6, rfl⟩
          refine hxa_popI (by rfl) ?_
          refine hxj_iinc (by rfl) rfl rfl hk_1 (by omega) (by omega) (fun _ => rfl) (fun z7 ez7 => ?_)
          refine hxa_goto (by rfl) ?_
          exact ih8 y61_0 z7 (.int x61_4) A5 hA5 (by omega) (by omega) (by omega) (by omega) (by omega)
      refine hxa_iload_n (by rfl) rfl ?_
      refine hxa_sipush (by rfl) rfl ?_
      refine hxj_cge (by rfl) rfl hk_400 (fun q8 => ?_) (fun q8 => ?_)
      ·
        refine hxa_iload_n (by rfl) rfl ?_
        exact hxa_ireturn (by rfl) (hn_fitB (by omega) (by omega)) (hP _ _ ⟨hAc8, _, rfl, by omega⟩)
      ·
        refine hxa_iload_n (by rfl) rfl ?_
        refine hxj_zeq (by rfl) rfl (fun q9 => ?_) (fun q9 => ?_)
        ·
          refine hxa_iload_n (by rfl) rfl ?_
          exact hxa_ireturn (by rfl) (hn_fitB (by omega) (by omega)) (hP _ _ ⟨hAc8, _, rfl, by omega⟩)
        ·
          refine hxa_aload_n (by rfl) rfl ?_
          refine hxa_call0 (by rfl) (by rfl) (by rfl) (by rfl) (by rfl) (by rfl) (hX38q2 (d := d + 3) hAc8 ) ?_
          rintro _ _ ⟨rfl, z10, rfl⟩
          refine hxa_s1 (by rfl) (Or.inr ⟨_, rfl, rfl⟩) rfl ?_
          refine hxa_iload (by rfl) rfl ?_
          refine hxa_bipush (by rfl) rfl ?_
          refine hxj_ceq (by rfl) rfl hk_26 (fun q11 => ?_) (fun q11 => ?_)
          ·
            refine hxa_aload_n (by rfl) rfl ?_
            refine hxa_call0 (by rfl) (by rfl) (by rfl) (by rfl) (by rfl) (by rfl) (hX41q2 (d := d + 3) hAc8 ) ?_
            rintro _ A12 ⟨hA12, frA12_0, frA12_1, frA12_2, z13, rfl, fz13⟩
            refine hxj_zeq (by rfl) rfl (fun q14 => ?_) (fun q14 => ?_)
            ·
              refine hxa_iconst (by rfl) rfl ?_
              exact L61 z10 (Int32.ofNat 0) A12 hA12 (by omega) (by omega) (by omega) (by omega) (by omega) (by omega)
            ·
              refine hxa_aload_n (by rfl) rfl ?_
              refine hxa_iload_n (by rfl) rfl ?_
              refine hxa_call0 (by rfl) (by rfl) (by rfl) (by rfl) (by rfl) (by rfl) (hX51q2_6 (d := d + 0) hA12 a1 (by omega) (by omega)) ?_
              rintro _ A15 ⟨hA15, z16, rfl, fz16⟩
              refine hxj_zeq (by rfl) rfl (fun q17 => ?_) (fun q17 => ?_)
              ·
                refine hxa_iconst (by rfl) rfl ?_
                exact L61 z10 (Int32.ofNat 0) A15 hA15 (by omega) (by omega) (by omega) (by omega) (by omega) (by omega)
              ·
                refine hxa_iconst (by rfl) rfl ?_
                refine hxa_goto (by rfl) ?_
                exact L61 z10 (Int32.ofNat 1) A15 hA15 (by omega) (by omega) (by omega) (by omega) (by omega) (by omega)
          ·
            refine hxa_iload (by rfl) rfl ?_
            refine hxa_bipush (by rfl) rfl ?_
            refine hxj_ceq (by rfl) rfl hk_27 (fun q18 => ?_) (fun q18 => ?_)
            ·
              refine hxa_aload_n (by rfl) rfl ?_
              refine hxa_call0 (by rfl) (by rfl) (by rfl) (by rfl) (by rfl) (by rfl) (hX41q2 (d := d + 3) hAc8 ) ?_
              rintro _ A19 ⟨hA19, frA19_0, frA19_1, frA19_2, z20, rfl, fz20⟩
              refine hxj_zeq (by rfl) rfl (fun q21 => ?_) (fun q21 => ?_)
              ·
                refine hxa_iconst (by rfl) rfl ?_
                exact L61 z10 (Int32.ofNat 0) A19 hA19 (by omega) (by omega) (by omega) (by omega) (by omega) (by omega)
              ·
                refine hxa_aload_n (by rfl) rfl ?_
                refine hxa_iload_n (by rfl) rfl ?_
                refine hxa_call0 (by rfl) (by rfl) (by rfl) (by rfl) (by rfl) (by rfl) (hX51q2_6 (d := d + 0) hA19 a1 (by omega) (by omega)) ?_
                rintro _ A22 ⟨hA22, z23, rfl, fz23⟩
                refine hxj_zeq (by rfl) rfl (fun q24 => ?_) (fun q24 => ?_)
                ·
                  refine hxa_iconst (by rfl) rfl ?_
                  exact L61 z10 (Int32.ofNat 0) A22 hA22 (by omega) (by omega) (by omega) (by omega) (by omega) (by omega)
                ·
                  refine hxa_iconst (by rfl) rfl ?_
                  refine hxa_goto (by rfl) ?_
                  exact L61 z10 (Int32.ofNat 1) A22 hA22 (by omega) (by omega) (by omega) (by omega) (by omega) (by omega)
            ·
              refine hxa_iconst (by rfl) rfl ?_
              exact hxa_ireturn (by rfl) (by rfl) (hP _ _ ⟨hAc8, _, rfl, by omega⟩)
  refine hxa_aload_n (by rfl) rfl ?_
  refine hxa_iload_n (by rfl) rfl ?_
  refine hxa_call0 (by rfl) (by rfl) (by rfl) (by rfl) (by rfl) (by rfl) (hX51q2_6 (d := d + 0) hA a1 (by omega) (by omega)) ?_
  rintro _ A25 ⟨hA25, z26, rfl, fz26⟩
  refine hxa_s1 (by rfl) (Or.inl ⟨_, rfl, rfl⟩) rfl ?_
  refine hxa_iconst (by rfl) rfl ?_
  refine hxa_s1 (by rfl) (Or.inl ⟨_, rfl, rfl⟩) rfl ?_
  exact L8 (Int.toNat (400 - 0) + 1) z26 (Int32.ofNat 0) (.retAddr 0) A25 hA25 (by omega) (by omega) (by omega) (by omega) (by omega)
theorem hX50q2_6 {d : Nat} {Bn Br : Int} {A0 A : hs_A} (hA : hJ 2 Bn Br A0 A)  (a1 : Int32) (p1 : 6 ≤ a1.toInt) (q1 : a1.toInt ≤ 6) : hxC (d + 5) 50 hm_m50 [.ref 21, .int a1] A (fun r A' => hJ 2 Bn Br A0 A' ∧ ∃ z : Int32, r = some (.int z) ∧ ((0 ≤ z.toInt ∧ z.toInt ≤ 1))) := hxC.of (by rfl) (hY50q2_6 hA a1 p1 q1 (fun r A' h => h))
theorem hY52q2_5 {d : Nat} {Bn Br : Int} {A0 A : hs_A} (hA : hJ 2 Bn Br A0 A)  (a1 : Int32) (p1 : 5 ≤ a1.toInt) (q1 : a1.toInt ≤ 5) {P : Option Value → hs_A → Prop} (hP : ∀ (r : Option Value) (A' : hs_A), (hJ 2 Bn Br A0 A' ∧ ∃ z : Int32, r = some (.int z) ∧ ((0 ≤ z.toInt ∧ z.toInt ≤ 1))) → P r A') : hxa (d + 5) (some (.boolean)) hm_t52 0 [.ref 21, .int a1, .retAddr 0] [] A P := by
  have k0 := hk_0
  have k1 := hk_1
  have k11 := hk_11
  have k19 := hk_19
  have k32 := hk_32
  refine hxa_aload_n (by rfl) rfl ?_
  refine hxa_call0 (by rfl) (by rfl) (by rfl) (by rfl) (by rfl) (by rfl) (hX38q2 (d := d + 4) hA ) ?_
  rintro _ _ ⟨rfl, z1, rfl⟩
  refine hxa_s1 (by rfl) (Or.inl ⟨_, rfl, rfl⟩) rfl ?_
  refine hxa_iload_n (by rfl) rfl ?_
  refine hxa_bipush (by rfl) rfl ?_
  refine hxj_cne (by rfl) rfl hk_21 (fun q2 => ?_) (fun q2 => ?_)
  ·
    refine hxa_iload_n (by rfl) rfl ?_
    refine hxa_bipush (by rfl) rfl ?_
    refine hxa_bipush (by rfl) rfl ?_
    refine hxa_call2 (by rfl) (by decide) (by rfl) (by rfl) (by rfl) (hX78 (d := d + 4)  z1 (Int32.ofNat 11) (Int32.ofNat 19)) ?_
    rintro _ _ ⟨rfl, z3, rfl, fz3⟩
    rcases fz3 with fz3 | fz3
    ·
      refine hxj_zeq (by rfl) rfl (fun q4 => False.elim (by omega)) (fun q4 => ?_)
      refine hxa_aload_n (by rfl) rfl ?_
      refine hxj_getT (by rfl) (by rfl) (by rfl) hA.rt2 ?_
      refine hxa_get (v := .ref 16) (by rfl) (by rfl) (by rfl) rfl ?_
      refine hxa_iconst (by rfl) rfl ?_
      refine hxa_iload_n (by rfl) rfl ?_
      refine hxa_bipush (by rfl) rfl ?_
      refine hxj_isub (by rfl) rfl hk_11 (by omega) (by omega) (fun z5 ez5 => ?_)
      refine hxa_call0 (by rfl) (by rfl) (by rfl) (by rfl) (by rfl) (by rfl) (hX12q2 (d := d + 4) hA (Int32.ofNat 1) (by omega) (by omega) z5 (by omega)) ?_
      rintro _ A6 ⟨hA6, z7, rfl⟩
      refine hxa_popI (by rfl) ?_
      refine hxa_aload_n (by rfl) rfl ?_
      refine hxa_call0 (by rfl) (by rfl) (by rfl) (by rfl) (by rfl) (by rfl) (hX41q2 (d := d + 4) hA6 ) ?_
      rintro _ A8 ⟨hA8, frA8_0, frA8_1, frA8_2, z9, rfl, fz9⟩
      exact hxa_ireturn (by rfl) (hn_fitB (by omega) (by omega)) (hP _ _ ⟨hA8, _, rfl, by omega⟩)
    ·
      refine hxj_zeq (by rfl) rfl (fun q10 => ?_) (fun q10 => False.elim (by omega))
      refine hxa_iload_n (by rfl) rfl ?_
      refine hxa_bipush (by rfl) rfl ?_
      refine hxj_ceq (by rfl) rfl hk_31 (fun q11 => ?_) (fun q11 => ?_)
      ·
        refine hxa_iload_n (by rfl) rfl ?_
        refine hxa_bipush (by rfl) rfl ?_
        refine hxj_clt (by rfl) rfl hk_6 (fun q12 => ?_) (fun q12 => False.elim (by omega))
        refine hxa_aload_n (by rfl) rfl ?_
        refine hxa_call0 (by rfl) (by rfl) (by rfl) (by rfl) (by rfl) (by rfl) (hX41q2 (d := d + 4) hA ) ?_
        rintro _ A13 ⟨hA13, frA13_0, frA13_1, frA13_2, z14, rfl, fz14⟩
        refine hxj_zeq (by rfl) rfl (fun q15 => ?_) (fun q15 => ?_)
        ·
          refine hxa_iconst (by rfl) rfl ?_
          exact hxa_ireturn (by rfl) (by rfl) (hP _ _ ⟨hA13, _, rfl, by omega⟩)
        ·
          refine hxa_aload_n (by rfl) rfl ?_
          refine hxa_iload_n (by rfl) rfl ?_
          refine hxa_iconst (by rfl) rfl ?_
          refine hxj_iadd (by rfl) rfl hk_1 (by omega) (by omega) (fun z16 ez16 => ?_)
          refine hxa_call0 (by rfl) (by rfl) (by rfl) (by rfl) (by rfl) (by rfl) (hX50q2_6 (d := d + 0) hA13 z16 (by omega) (by omega)) ?_
          rintro _ A17 ⟨hA17, z18, rfl, fz18⟩
          refine hxj_zeq (by rfl) rfl (fun q19 => ?_) (fun q19 => ?_)
          ·
            refine hxa_iconst (by rfl) rfl ?_
            exact hxa_ireturn (by rfl) (by rfl) (hP _ _ ⟨hA17, _, rfl, by omega⟩)
          ·
            refine hxa_aload_n (by rfl) rfl ?_
            refine hxa_bipush (by rfl) rfl ?_
            refine hxa_call0 (by rfl) (by rfl) (by rfl) (by rfl) (by rfl) (by rfl) (hX42q2 (d := d + 3) hA17 (Int32.ofNat 32)) ?_
            rintro _ A20 ⟨hA20, frA20_0, frA20_1, frA20_2, z21, rfl, fz21⟩
            refine hxj_zeq (by rfl) rfl (fun q22 => ?_) (fun q22 => ?_)
            ·
              refine hxa_iconst (by rfl) rfl ?_
              exact hxa_ireturn (by rfl) (by rfl) (hP _ _ ⟨hA20, _, rfl, by omega⟩)
            ·
              refine hxa_iconst (by rfl) rfl ?_
              refine hxa_goto (by rfl) ?_
              exact hxa_ireturn (by rfl) (by rfl) (hP _ _ ⟨hA20, _, rfl, by omega⟩)
      ·
        refine hxa_aload_n (by rfl) rfl ?_
        refine hxa_iconst (by rfl) rfl ?_
        refine hxa_call0 (by rfl) (by rfl) (by rfl) (by rfl) (by rfl) (by rfl) (hX39q2 (d := d + 4) hA (Int32.ofNat 1)) ?_
        rintro _ A23 ⟨hA23, frA23_0, frA23_1, frA23_2, frA23_3, z24, rfl, fz24⟩
        exact hxa_ireturn (by rfl) (hn_fitB (by omega) (by omega)) (hP _ _ ⟨hA23, _, rfl, by omega⟩)
  ·
    refine hxa_aload_n (by rfl) rfl ?_
    refine hxj_getT (by rfl) (by rfl) (by rfl) hA.rt2 ?_
    refine hxa_get (v := .ref 16) (by rfl) (by rfl) (by rfl) rfl ?_
    refine hxa_iconst (by rfl) rfl ?_
    refine hxa_aload_n (by rfl) rfl ?_
    refine hxa_get (v := .ref 22) (by rfl) (by rfl) (by rfl) rfl ?_
    refine hxa_get (v := .ref 24) (by rfl) (by rfl) (by rfl) rfl ?_
    refine hxa_aload_n (by rfl) rfl ?_
    refine hxj_getB (by rfl) (by rfl) (by rfl) hA (by rfl) (fun z25 ez25 fz25 gz25 => ?_)
    refine hxj_lald (by rfl) (by rfl) rfl (by omega) (by omega) (fun j26 ej26 => ?_)
    refine hxa_l2i (by rfl) (hn_top (fun z27 _ => ?_))
    refine hxa_call0 (by rfl) (by rfl) (by rfl) (by rfl) (by rfl) (by rfl) (hX12q2 (d := d + 4) hA (Int32.ofNat 0) (by omega) (by omega) z27 (by omega)) ?_
    rintro _ A28 ⟨hA28, z29, rfl⟩
    refine hxa_popI (by rfl) ?_
    refine hxa_aload_n (by rfl) rfl ?_
    refine hxa_call0 (by rfl) (by rfl) (by rfl) (by rfl) (by rfl) (by rfl) (hX41q2 (d := d + 4) hA28 ) ?_
    rintro _ A30 ⟨hA30, frA30_0, frA30_1, frA30_2, z31, rfl, fz31⟩
    exact hxa_ireturn (by rfl) (hn_fitB (by omega) (by omega)) (hP _ _ ⟨hA30, _, rfl, by omega⟩)
theorem hX52q2_5 {d : Nat} {Bn Br : Int} {A0 A : hs_A} (hA : hJ 2 Bn Br A0 A)  (a1 : Int32) (p1 : 5 ≤ a1.toInt) (q1 : a1.toInt ≤ 5) : hxC (d + 6) 52 hm_m52 [.ref 21, .int a1] A (fun r A' => hJ 2 Bn Br A0 A' ∧ ∃ z : Int32, r = some (.int z) ∧ ((0 ≤ z.toInt ∧ z.toInt ≤ 1))) := hxC.of (by rfl) (hY52q2_5 hA a1 p1 q1 (fun r A' h => h))
theorem hY51q2_5 {d : Nat} {Bn Br : Int} {A0 A : hs_A} (hA : hJ 2 Bn Br A0 A)  (a1 : Int32) (p1 : 5 ≤ a1.toInt) (q1 : a1.toInt ≤ 5) {P : Option Value → hs_A → Prop} (hP : ∀ (r : Option Value) (A' : hs_A), (hJ 2 Bn Br A0 A' ∧ ∃ z : Int32, r = some (.int z) ∧ ((0 ≤ z.toInt ∧ z.toInt ≤ 1))) → P r A') : hxa (d + 6) (some (.boolean)) hm_t51 0 [.ref 21, .int a1, .retAddr 0, .retAddr 0, .retAddr 0] [] A P := by
  have k0 := hk_0
  have k1 := hk_1
  have k4 := hk_4
  have k5 := hk_5
  have L8 : ∀ (m8 : Nat) (x8_2 : Int32) (x8_3 : Int32) (x8_4 : Value) (Ac8 : hs_A) (hAc8 : hJ 2 Bn Br A0 Ac8) (bx8_2 : 0 ≤ x8_2.toInt) (cx8_2 : x8_2.toInt ≤ 1) (bx8_3 : 0 ≤ x8_3.toInt) (cx8_3 : x8_3.toInt ≤ 400) (hm8 : 400 - x8_3.toInt < (m8 : Int)), hxa (d + 6) (some (.boolean)) hm_t51 8 [.ref 21, .int a1, .int x8_2, .int x8_3, x8_4] [] Ac8 P := by
    intro m8
    induction m8 with
    | zero => intro x8_2 x8_3 x8_4 Ac8 hAc8 bx8_2 cx8_2 bx8_3 cx8_3 hm8;  exact False.elim (by omega)
    | succ m8 ih8 =>
      intro x8_2 x8_3 x8_4 Ac8 hAc8 bx8_2 cx8_2 bx8_3 cx8_3 hm8
      have L61 : ∀ (x61_4 : Int32) (y61_0 : Int32) (Ac61 : hs_A) (hAc61 : hJ 2 Bn Br A0 Ac61) (bx61_4 : 28 ≤ x61_4.toInt) (cx61_4 : x61_4.toInt ≤ 29) (by61_0 : 0 ≤ y61_0.toInt) (cy61_0 : y61_0.toInt ≤ 1) (bx8_2 : 1 ≤ x8_2.toInt) (cx8_3 : x8_3.toInt ≤ 399), hxa (d + 6) (some (.boolean)) hm_t51 61 [.ref 21, .int a1, .int x8_2, .int x8_3, .int x61_4] [.int y61_0] Ac61 P := by
        intro x61_4 y61_0 Ac61 hAc61 bx61_4 cx61_4 by61_0 cy61_0 bx8_2 cx8_3
        refine hxa_s1 (by rfl) (Or.inl ⟨_, rfl, rfl⟩) rfl ?_
        refine hxa_aload_n (by rfl) rfl ?_
        refine hxj_getT (by rfl) (by rfl) (by rfl) hAc61.rt2 ?_
        refine hxa_get (v := .ref 16) (by rfl) (by rfl) (by rfl) rfl ?_
        refine hxa_iload (by rfl) rfl ?_
        refine hxa_bipush (by rfl) rfl ?_
        refine hxj_cne (by rfl) rfl hk_28 (fun q1 => ?_) (fun q1 => ?_)
        ·
          refine hxa_iconst (by rfl) rfl ?_
          refine hxa_iconst (by rfl) rfl ?_
          refine hxa_call0 (by rfl) (by rfl) (by rfl) (by rfl) (by rfl) (by rfl) (hX12q2 (d := d + 5) hAc61 (Int32.ofNat 5) (by omega) (by omega) (Int32.ofNat 0) (by omega)) ?_
          rintro _ A2 ⟨hA2, z3, rfl⟩
          refine hxa_popI (by rfl) ?_
          refine hxj_iinc (by rfl) rfl rfl hk_1 (by omega) (by omega) (fun _ => rfl) (fun z4 ez4 => ?_)
          refine hxa_goto (by rfl) ?_
          exact ih8 y61_0 z4 (.int x61_4) A2 hA2 (by omega) (by omega) (by omega) (by omega) (by omega)
        ·
          refine hxa_iconst (by rfl) rfl ?_
          refine hxa_goto (by rfl) ?_
          refine hxa_iconst (by rfl) rfl ?_
          refine hxa_call0 (by rfl) (by rfl) (by rfl) (by rfl) (by rfl) (by rfl) (hX12q2 (d := d + 5) hAc61 (Int32.ofNat 4) (by omega) (by omega) (Int32.ofNat 0) (by omega)) ?_
          rintro _ A5 ⟨hA5, z6, rfl⟩
          refine hxa_popI (by rfl) ?_
          refine hxj_iinc (by rfl) rfl rfl hk_1 (by omega) (by omega) (fun _ => rfl) (fun z7 ez7 => ?_)
          refine hxa_goto (by rfl) ?_
          exact ih8 y61_0 z7 (.int x61_4) A5 hA5 (by omega) (by omega) (by omega) (by omega) (by omega)
      refine hxa_iload_n (by rfl) rfl ?_
      refine hxa_sipush (by rfl) rfl ?_
      refine hxj_cge (by rfl) rfl hk_400 (fun q8 => ?_) (fun q8 => ?_)
      ·
        refine hxa_iload_n (by rfl) rfl ?_
        exact hxa_ireturn (by rfl) (hn_fitB (by omega) (by omega)) (hP _ _ ⟨hAc8, _, rfl, by omega⟩)
      ·
        refine hxa_iload_n (by rfl) rfl ?_
        refine hxj_zeq (by rfl) rfl (fun q9 => ?_) (fun q9 => ?_)
        ·
          refine hxa_iload_n (by rfl) rfl ?_
          exact hxa_ireturn (by rfl) (hn_fitB (by omega) (by omega)) (hP _ _ ⟨hAc8, _, rfl, by omega⟩)
        ·
          refine hxa_aload_n (by rfl) rfl ?_
          refine hxa_call0 (by rfl) (by rfl) (by rfl) (by rfl) (by rfl) (by rfl) (hX38q2 (d := d + 5) hAc8 ) ?_
          rintro _ _ ⟨rfl, z10, rfl⟩
          refine hxa_s1 (by rfl) (Or.inr ⟨_, rfl, rfl⟩) rfl ?_
          refine hxa_iload (by rfl) rfl ?_
          refine hxa_bipush (by rfl) rfl ?_
          refine hxj_ceq (by rfl) rfl hk_28 (fun q11 => ?_) (fun q11 => ?_)
          ·
            refine hxa_aload_n (by rfl) rfl ?_
            refine hxa_call0 (by rfl) (by rfl) (by rfl) (by rfl) (by rfl) (by rfl) (hX41q2 (d := d + 5) hAc8 ) ?_
            rintro _ A12 ⟨hA12, frA12_0, frA12_1, frA12_2, z13, rfl, fz13⟩
            refine hxj_zeq (by rfl) rfl (fun q14 => ?_) (fun q14 => ?_)
            ·
              refine hxa_iconst (by rfl) rfl ?_
              exact L61 z10 (Int32.ofNat 0) A12 hA12 (by omega) (by omega) (by omega) (by omega) (by omega) (by omega)
            ·
              refine hxa_aload_n (by rfl) rfl ?_
              refine hxa_iload_n (by rfl) rfl ?_
              refine hxa_call0 (by rfl) (by rfl) (by rfl) (by rfl) (by rfl) (by rfl) (hX52q2_5 (d := d + 0) hA12 a1 (by omega) (by omega)) ?_
              rintro _ A15 ⟨hA15, z16, rfl, fz16⟩
              refine hxj_zeq (by rfl) rfl (fun q17 => ?_) (fun q17 => ?_)
              ·
                refine hxa_iconst (by rfl) rfl ?_
                exact L61 z10 (Int32.ofNat 0) A15 hA15 (by omega) (by omega) (by omega) (by omega) (by omega) (by omega)
              ·
                refine hxa_iconst (by rfl) rfl ?_
                refine hxa_goto (by rfl) ?_
                exact L61 z10 (Int32.ofNat 1) A15 hA15 (by omega) (by omega) (by omega) (by omega) (by omega) (by omega)
          ·
            refine hxa_iload (by rfl) rfl ?_
            refine hxa_bipush (by rfl) rfl ?_
            refine hxj_ceq (by rfl) rfl hk_29 (fun q18 => ?_) (fun q18 => ?_)
            ·
              refine hxa_aload_n (by rfl) rfl ?_
              refine hxa_call0 (by rfl) (by rfl) (by rfl) (by rfl) (by rfl) (by rfl) (hX41q2 (d := d + 5) hAc8 ) ?_
              rintro _ A19 ⟨hA19, frA19_0, frA19_1, frA19_2, z20, rfl, fz20⟩
              refine hxj_zeq (by rfl) rfl (fun q21 => ?_) (fun q21 => ?_)
              ·
                refine hxa_iconst (by rfl) rfl ?_
                exact L61 z10 (Int32.ofNat 0) A19 hA19 (by omega) (by omega) (by omega) (by omega) (by omega) (by omega)
              ·
                refine hxa_aload_n (by rfl) rfl ?_
                refine hxa_iload_n (by rfl) rfl ?_
                refine hxa_call0 (by rfl) (by rfl) (by rfl) (by rfl) (by rfl) (by rfl) (hX52q2_5 (d := d + 0) hA19 a1 (by omega) (by omega)) ?_
                rintro _ A22 ⟨hA22, z23, rfl, fz23⟩
                refine hxj_zeq (by rfl) rfl (fun q24 => ?_) (fun q24 => ?_)
                ·
                  refine hxa_iconst (by rfl) rfl ?_
                  exact L61 z10 (Int32.ofNat 0) A22 hA22 (by omega) (by omega) (by omega) (by omega) (by omega) (by omega)
                ·
                  refine hxa_iconst (by rfl) rfl ?_
                  refine hxa_goto (by rfl) ?_
                  exact L61 z10 (Int32.ofNat 1) A22 hA22 (by omega) (by omega) (by omega) (by omega) (by omega) (by omega)
            ·
              refine hxa_iconst (by rfl) rfl ?_
              exact hxa_ireturn (by rfl) (by rfl) (hP _ _ ⟨hAc8, _, rfl, by omega⟩)
  refine hxa_aload_n (by rfl) rfl ?_
  refine hxa_iload_n (by rfl) rfl ?_
  refine hxa_call0 (by rfl) (by rfl) (by rfl) (by rfl) (by rfl) (by rfl) (hX52q2_5 (d := d + 0) hA a1 (by omega) (by omega)) ?_
  rintro _ A25 ⟨hA25, z26, rfl, fz26⟩
  refine hxa_s1 (by rfl) (Or.inl ⟨_, rfl, rfl⟩) rfl ?_
  refine hxa_iconst (by rfl) rfl ?_
  refine hxa_s1 (by rfl) (Or.inl ⟨_, rfl, rfl⟩) rfl ?_
  exact L8 (Int.toNat (400 - 0) + 1) z26 (Int32.ofNat 0) (.retAddr 0) A25 hA25 (by omega) (by omega) (by omega) (by omega) (by omega)
theorem hX51q2_5 {d : Nat} {Bn Br : Int} {A0 A : hs_A} (hA : hJ 2 Bn Br A0 A)  (a1 : Int32) (p1 : 5 ≤ a1.toInt) (q1 : a1.toInt ≤ 5) : hxC (d + 7) 51 hm_m51 [.ref 21, .int a1] A (fun r A' => hJ 2 Bn Br A0 A' ∧ ∃ z : Int32, r = some (.int z) ∧ ((0 ≤ z.toInt ∧ z.toInt ≤ 1))) := hxC.of (by rfl) (hY51q2_5 hA a1 p1 q1 (fun r A' h => h))
theorem hY50q2_5 {d : Nat} {Bn Br : Int} {A0 A : hs_A} (hA : hJ 2 Bn Br A0 A)  (a1 : Int32) (p1 : 5 ≤ a1.toInt) (q1 : a1.toInt ≤ 5) {P : Option Value → hs_A → Prop} (hP : ∀ (r : Option Value) (A' : hs_A), (hJ 2 Bn Br A0 A' ∧ ∃ z : Int32, r = some (.int z) ∧ ((0 ≤ z.toInt ∧ z.toInt ≤ 1))) → P r A') : hxa (d + 7) (some (.boolean)) hm_t50 0 [.ref 21, .int a1, .retAddr 0, .retAddr 0, .retAddr 0] [] A P := by
  have k0 := hk_0
  have k1 := hk_1
  have k2 := hk_2
  have k3 := hk_3
  have L8 : ∀ (m8 : Nat) (x8_2 : Int32) (x8_3 : Int32) (x8_4 : Value) (Ac8 : hs_A) (hAc8 : hJ 2 Bn Br A0 Ac8) (bx8_2 : 0 ≤ x8_2.toInt) (cx8_2 : x8_2.toInt ≤ 1) (bx8_3 : 0 ≤ x8_3.toInt) (cx8_3 : x8_3.toInt ≤ 400) (hm8 : 400 - x8_3.toInt < (m8 : Int)), hxa (d + 7) (some (.boolean)) hm_t50 8 [.ref 21, .int a1, .int x8_2, .int x8_3, x8_4] [] Ac8 P := by
    intro m8
    induction m8 with
    | zero => intro x8_2 x8_3 x8_4 Ac8 hAc8 bx8_2 cx8_2 bx8_3 cx8_3 hm8;  exact False.elim (by omega)
    | succ m8 ih8 =>
      intro x8_2 x8_3 x8_4 Ac8 hAc8 bx8_2 cx8_2 bx8_3 cx8_3 hm8
      have L61 : ∀ (x61_4 : Int32) (y61_0 : Int32) (Ac61 : hs_A) (hAc61 : hJ 2 Bn Br A0 Ac61) (bx61_4 : 26 ≤ x61_4.toInt) (cx61_4 : x61_4.toInt ≤ 27) (by61_0 : 0 ≤ y61_0.toInt) (cy61_0 : y61_0.toInt ≤ 1) (bx8_2 : 1 ≤ x8_2.toInt) (cx8_3 : x8_3.toInt ≤ 399), hxa (d + 7) (some (.boolean)) hm_t50 61 [.ref 21, .int a1, .int x8_2, .int x8_3, .int x61_4] [.int y61_0] Ac61 P := by
        intro x61_4 y61_0 Ac61 hAc61 bx61_4 cx61_4 by61_0 cy61_0 bx8_2 cx8_3
        refine hxa_s1 (by rfl) (Or.inl ⟨_, rfl, rfl⟩) rfl ?_
        refine hxa_aload_n (by rfl) rfl ?_
        refine hxj_getT (by rfl) (by rfl) (by rfl) hAc61.rt2 ?_
        refine hxa_get (v := .ref 16) (by rfl) (by rfl) (by rfl) rfl ?_
        refine hxa_iload (by rfl) rfl ?_
        refine hxa_bipush (by rfl) rfl ?_
        refine hxj_cne (by rfl) rfl hk_26 (fun q1 => ?_) (fun q1 => ?_)
        ·
          refine hxa_iconst (by rfl) rfl ?_
          refine hxa_iconst (by rfl) rfl ?_
          refine hxa_call0 (by rfl) (by rfl) (by rfl) (by rfl) (by rfl) (by rfl) (hX12q2 (d := d + 6) hAc61 (Int32.ofNat 3) (by omega) (by omega) (Int32.ofNat 0) (by omega)) ?_
          rintro _ A2 ⟨hA2, z3, rfl⟩
          refine hxa_popI (by rfl) ?_
          refine hxj_iinc (by rfl) rfl rfl hk_1 (by omega) (by omega) (fun _ => rfl) (fun z4 ez4 => ?_)
          refine hxa_goto (by rfl) ?_
          exact ih8 y61_0 z4 (.int x61_4) A2 hA2 (by omega) (by omega) (by omega) (by omega) (by omega)
        ·
          refine hxa_iconst (by rfl) rfl ?_
          refine hxa_goto (by rfl) ?_
          refine hxa_iconst (by rfl) rfl ?_
          refine hxa_call0 (by rfl) (by rfl) (by rfl) (by rfl) (by rfl) (by rfl) (hX12q2 (d := d + 6) hAc61 (Int32.ofNat 2) (by omega) (by omega) (Int32.ofNat 0) (by omega)) ?_
          rintro _ A5 ⟨hA5, z6, rfl⟩
          refine hxa_popI (by rfl) ?_
          refine hxj_iinc (by rfl) rfl rfl hk_1 (by omega) (by omega) (fun _ => rfl) (fun z7 ez7 => ?_)
          refine hxa_goto (by rfl) ?_
          exact ih8 y61_0 z7 (.int x61_4) A5 hA5 (by omega) (by omega) (by omega) (by omega) (by omega)
      refine hxa_iload_n (by rfl) rfl ?_
      refine hxa_sipush (by rfl) rfl ?_
      refine hxj_cge (by rfl) rfl hk_400 (fun q8 => ?_) (fun q8 => ?_)
      ·
        refine hxa_iload_n (by rfl) rfl ?_
        exact hxa_ireturn (by rfl) (hn_fitB (by omega) (by omega)) (hP _ _ ⟨hAc8, _, rfl, by omega⟩)
      ·
        refine hxa_iload_n (by rfl) rfl ?_
        refine hxj_zeq (by rfl) rfl (fun q9 => ?_) (fun q9 => ?_)
        ·
          refine hxa_iload_n (by rfl) rfl ?_
          exact hxa_ireturn (by rfl) (hn_fitB (by omega) (by omega)) (hP _ _ ⟨hAc8, _, rfl, by omega⟩)
        ·
          refine hxa_aload_n (by rfl) rfl ?_
          refine hxa_call0 (by rfl) (by rfl) (by rfl) (by rfl) (by rfl) (by rfl) (hX38q2 (d := d + 6) hAc8 ) ?_
          rintro _ _ ⟨rfl, z10, rfl⟩
          refine hxa_s1 (by rfl) (Or.inr ⟨_, rfl, rfl⟩) rfl ?_
          refine hxa_iload (by rfl) rfl ?_
          refine hxa_bipush (by rfl) rfl ?_
          refine hxj_ceq (by rfl) rfl hk_26 (fun q11 => ?_) (fun q11 => ?_)
          ·
            refine hxa_aload_n (by rfl) rfl ?_
            refine hxa_call0 (by rfl) (by rfl) (by rfl) (by rfl) (by rfl) (by rfl) (hX41q2 (d := d + 6) hAc8 ) ?_
            rintro _ A12 ⟨hA12, frA12_0, frA12_1, frA12_2, z13, rfl, fz13⟩
            refine hxj_zeq (by rfl) rfl (fun q14 => ?_) (fun q14 => ?_)
            ·
              refine hxa_iconst (by rfl) rfl ?_
              exact L61 z10 (Int32.ofNat 0) A12 hA12 (by omega) (by omega) (by omega) (by omega) (by omega) (by omega)
            ·
              refine hxa_aload_n (by rfl) rfl ?_
              refine hxa_iload_n (by rfl) rfl ?_
              refine hxa_call0 (by rfl) (by rfl) (by rfl) (by rfl) (by rfl) (by rfl) (hX51q2_5 (d := d + 0) hA12 a1 (by omega) (by omega)) ?_
              rintro _ A15 ⟨hA15, z16, rfl, fz16⟩
              refine hxj_zeq (by rfl) rfl (fun q17 => ?_) (fun q17 => ?_)
              ·
                refine hxa_iconst (by rfl) rfl ?_
                exact L61 z10 (Int32.ofNat 0) A15 hA15 (by omega) (by omega) (by omega) (by omega) (by omega) (by omega)
              ·
                refine hxa_iconst (by rfl) rfl ?_
                refine hxa_goto (by rfl) ?_
                exact L61 z10 (Int32.ofNat 1) A15 hA15 (by omega) (by omega) (by omega) (by omega) (by omega) (by omega)
          ·
            refine hxa_iload (by rfl) rfl ?_
            refine hxa_bipush (by rfl) rfl ?_
            refine hxj_ceq (by rfl) rfl hk_27 (fun q18 => ?_) (fun q18 => ?_)
            ·
              refine hxa_aload_n (by rfl) rfl ?_
              refine hxa_call0 (by rfl) (by rfl) (by rfl) (by rfl) (by rfl) (by rfl) (hX41q2 (d := d + 6) hAc8 ) ?_
              rintro _ A19 ⟨hA19, frA19_0, frA19_1, frA19_2, z20, rfl, fz20⟩
              refine hxj_zeq (by rfl) rfl (fun q21 => ?_) (fun q21 => ?_)
              ·
                refine hxa_iconst (by rfl) rfl ?_
                exact L61 z10 (Int32.ofNat 0) A19 hA19 (by omega) (by omega) (by omega) (by omega) (by omega) (by omega)
              ·
                refine hxa_aload_n (by rfl) rfl ?_
                refine hxa_iload_n (by rfl) rfl ?_
                refine hxa_call0 (by rfl) (by rfl) (by rfl) (by rfl) (by rfl) (by rfl) (hX51q2_5 (d := d + 0) hA19 a1 (by omega) (by omega)) ?_
                rintro _ A22 ⟨hA22, z23, rfl, fz23⟩
                refine hxj_zeq (by rfl) rfl (fun q24 => ?_) (fun q24 => ?_)
                ·
                  refine hxa_iconst (by rfl) rfl ?_
                  exact L61 z10 (Int32.ofNat 0) A22 hA22 (by omega) (by omega) (by omega) (by omega) (by omega) (by omega)
                ·
                  refine hxa_iconst (by rfl) rfl ?_
                  refine hxa_goto (by rfl) ?_
                  exact L61 z10 (Int32.ofNat 1) A22 hA22 (by omega) (by omega) (by omega) (by omega) (by omega) (by omega)
            ·
              refine hxa_iconst (by rfl) rfl ?_
              exact hxa_ireturn (by rfl) (by rfl) (hP _ _ ⟨hAc8, _, rfl, by omega⟩)
  refine hxa_aload_n (by rfl) rfl ?_
  refine hxa_iload_n (by rfl) rfl ?_
  refine hxa_call0 (by rfl) (by rfl) (by rfl) (by rfl) (by rfl) (by rfl) (hX51q2_5 (d := d + 0) hA a1 (by omega) (by omega)) ?_
  rintro _ A25 ⟨hA25, z26, rfl, fz26⟩
  refine hxa_s1 (by rfl) (Or.inl ⟨_, rfl, rfl⟩) rfl ?_
  refine hxa_iconst (by rfl) rfl ?_
  refine hxa_s1 (by rfl) (Or.inl ⟨_, rfl, rfl⟩) rfl ?_
  exact L8 (Int.toNat (400 - 0) + 1) z26 (Int32.ofNat 0) (.retAddr 0) A25 hA25 (by omega) (by omega) (by omega) (by omega) (by omega)
theorem hX50q2_5 {d : Nat} {Bn Br : Int} {A0 A : hs_A} (hA : hJ 2 Bn Br A0 A)  (a1 : Int32) (p1 : 5 ≤ a1.toInt) (q1 : a1.toInt ≤ 5) : hxC (d + 8) 50 hm_m50 [.ref 21, .int a1] A (fun r A' => hJ 2 Bn Br A0 A' ∧ ∃ z : Int32, r = some (.int z) ∧ ((0 ≤ z.toInt ∧ z.toInt ≤ 1))) := hxC.of (by rfl) (hY50q2_5 hA a1 p1 q1 (fun r A' h => h))
theorem hY52q2_4 {d : Nat} {Bn Br : Int} {A0 A : hs_A} (hA : hJ 2 Bn Br A0 A)  (a1 : Int32) (p1 : 4 ≤ a1.toInt) (q1 : a1.toInt ≤ 4) {P : Option Value → hs_A → Prop} (hP : ∀ (r : Option Value) (A' : hs_A), (hJ 2 Bn Br A0 A' ∧ ∃ z : Int32, r = some (.int z) ∧ ((0 ≤ z.toInt ∧ z.toInt ≤ 1))) → P r A') : hxa (d + 8) (some (.boolean)) hm_t52 0 [.ref 21, .int a1, .retAddr 0] [] A P := by
  have k0 := hk_0
  have k1 := hk_1
  have k11 := hk_11
  have k19 := hk_19
  have k32 := hk_32
  refine hxa_aload_n (by rfl) rfl ?_
  refine hxa_call0 (by rfl) (by rfl) (by rfl) (by rfl) (by rfl) (by rfl) (hX38q2 (d := d + 7) hA ) ?_
  rintro _ _ ⟨rfl, z1, rfl⟩
  refine hxa_s1 (by rfl) (Or.inl ⟨_, rfl, rfl⟩) rfl ?_
  refine hxa_iload_n (by rfl) rfl ?_
  refine hxa_bipush (by rfl) rfl ?_
  refine hxj_cne (by rfl) rfl hk_21 (fun q2 => ?_) (fun q2 => ?_)
  ·
    refine hxa_iload_n (by rfl) rfl ?_
    refine hxa_bipush (by rfl) rfl ?_
    refine hxa_bipush (by rfl) rfl ?_
    refine hxa_call2 (by rfl) (by decide) (by rfl) (by rfl) (by rfl) (hX78 (d := d + 7)  z1 (Int32.ofNat 11) (Int32.ofNat 19)) ?_
    rintro _ _ ⟨rfl, z3, rfl, fz3⟩
    rcases fz3 with fz3 | fz3
    ·
      refine hxj_zeq (by rfl) rfl (fun q4 => False.elim (by omega)) (fun q4 => ?_)
      refine hxa_aload_n (by rfl) rfl ?_
      refine hxj_getT (by rfl) (by rfl) (by rfl) hA.rt2 ?_
      refine hxa_get (v := .ref 16) (by rfl) (by rfl) (by rfl) rfl ?_
      refine hxa_iconst (by rfl) rfl ?_
      refine hxa_iload_n (by rfl) rfl ?_
      refine hxa_bipush (by rfl) rfl ?_
      refine hxj_isub (by rfl) rfl hk_11 (by omega) (by omega) (fun z5 ez5 => ?_)
      refine hxa_call0 (by rfl) (by rfl) (by rfl) (by rfl) (by rfl) (by rfl) (hX12q2 (d := d + 7) hA (Int32.ofNat 1) (by omega) (by omega) z5 (by omega)) ?_
      rintro _ A6 ⟨hA6, z7, rfl⟩
      refine hxa_popI (by rfl) ?_
      refine hxa_aload_n (by rfl) rfl ?_
      refine hxa_call0 (by rfl) (by rfl) (by rfl) (by rfl) (by rfl) (by rfl) (hX41q2 (d := d + 7) hA6 ) ?_
      rintro _ A8 ⟨hA8, frA8_0, frA8_1, frA8_2, z9, rfl, fz9⟩
      exact hxa_ireturn (by rfl) (hn_fitB (by omega) (by omega)) (hP _ _ ⟨hA8, _, rfl, by omega⟩)
    ·
      refine hxj_zeq (by rfl) rfl (fun q10 => ?_) (fun q10 => False.elim (by omega))
      refine hxa_iload_n (by rfl) rfl ?_
      refine hxa_bipush (by rfl) rfl ?_
      refine hxj_ceq (by rfl) rfl hk_31 (fun q11 => ?_) (fun q11 => ?_)
      ·
        refine hxa_iload_n (by rfl) rfl ?_
        refine hxa_bipush (by rfl) rfl ?_
        refine hxj_clt (by rfl) rfl hk_6 (fun q12 => ?_) (fun q12 => False.elim (by omega))
        refine hxa_aload_n (by rfl) rfl ?_
        refine hxa_call0 (by rfl) (by rfl) (by rfl) (by rfl) (by rfl) (by rfl) (hX41q2 (d := d + 7) hA ) ?_
        rintro _ A13 ⟨hA13, frA13_0, frA13_1, frA13_2, z14, rfl, fz14⟩
        refine hxj_zeq (by rfl) rfl (fun q15 => ?_) (fun q15 => ?_)
        ·
          refine hxa_iconst (by rfl) rfl ?_
          exact hxa_ireturn (by rfl) (by rfl) (hP _ _ ⟨hA13, _, rfl, by omega⟩)
        ·
          refine hxa_aload_n (by rfl) rfl ?_
          refine hxa_iload_n (by rfl) rfl ?_
          refine hxa_iconst (by rfl) rfl ?_
          refine hxj_iadd (by rfl) rfl hk_1 (by omega) (by omega) (fun z16 ez16 => ?_)
          refine hxa_call0 (by rfl) (by rfl) (by rfl) (by rfl) (by rfl) (by rfl) (hX50q2_5 (d := d + 0) hA13 z16 (by omega) (by omega)) ?_
          rintro _ A17 ⟨hA17, z18, rfl, fz18⟩
          refine hxj_zeq (by rfl) rfl (fun q19 => ?_) (fun q19 => ?_)
          ·
            refine hxa_iconst (by rfl) rfl ?_
            exact hxa_ireturn (by rfl) (by rfl) (hP _ _ ⟨hA17, _, rfl, by omega⟩)
          ·
            refine hxa_aload_n (by rfl) rfl ?_
            refine hxa_bipush (by rfl) rfl ?_
            refine hxa_call0 (by rfl) (by rfl) (by rfl) (by rfl) (by rfl) (by rfl) (hX42q2 (d := d + 6) hA17 (Int32.ofNat 32)) ?_
            rintro _ A20 ⟨hA20, frA20_0, frA20_1, frA20_2, z21, rfl, fz21⟩
            refine hxj_zeq (by rfl) rfl (fun q22 => ?_) (fun q22 => ?_)
            ·
              refine hxa_iconst (by rfl) rfl ?_
              exact hxa_ireturn (by rfl) (by rfl) (hP _ _ ⟨hA20, _, rfl, by omega⟩)
            ·
              refine hxa_iconst (by rfl) rfl ?_
              refine hxa_goto (by rfl) ?_
              exact hxa_ireturn (by rfl) (by rfl) (hP _ _ ⟨hA20, _, rfl, by omega⟩)
      ·
        refine hxa_aload_n (by rfl) rfl ?_
        refine hxa_iconst (by rfl) rfl ?_
        refine hxa_call0 (by rfl) (by rfl) (by rfl) (by rfl) (by rfl) (by rfl) (hX39q2 (d := d + 7) hA (Int32.ofNat 1)) ?_
        rintro _ A23 ⟨hA23, frA23_0, frA23_1, frA23_2, frA23_3, z24, rfl, fz24⟩
        exact hxa_ireturn (by rfl) (hn_fitB (by omega) (by omega)) (hP _ _ ⟨hA23, _, rfl, by omega⟩)
  ·
    refine hxa_aload_n (by rfl) rfl ?_
    refine hxj_getT (by rfl) (by rfl) (by rfl) hA.rt2 ?_
    refine hxa_get (v := .ref 16) (by rfl) (by rfl) (by rfl) rfl ?_
    refine hxa_iconst (by rfl) rfl ?_
    refine hxa_aload_n (by rfl) rfl ?_
    refine hxa_get (v := .ref 22) (by rfl) (by rfl) (by rfl) rfl ?_
    refine hxa_get (v := .ref 24) (by rfl) (by rfl) (by rfl) rfl ?_
    refine hxa_aload_n (by rfl) rfl ?_
    refine hxj_getB (by rfl) (by rfl) (by rfl) hA (by rfl) (fun z25 ez25 fz25 gz25 => ?_)
    refine hxj_lald (by rfl) (by rfl) rfl (by omega) (by omega) (fun j26 ej26 => ?_)
    refine hxa_l2i (by rfl) (hn_top (fun z27 _ => ?_))
    refine hxa_call0 (by rfl) (by rfl) (by rfl) (by rfl) (by rfl) (by rfl) (hX12q2 (d := d + 7) hA (Int32.ofNat 0) (by omega) (by omega) z27 (by omega)) ?_
    rintro _ A28 ⟨hA28, z29, rfl⟩
    refine hxa_popI (by rfl) ?_
    refine hxa_aload_n (by rfl) rfl ?_
    refine hxa_call0 (by rfl) (by rfl) (by rfl) (by rfl) (by rfl) (by rfl) (hX41q2 (d := d + 7) hA28 ) ?_
    rintro _ A30 ⟨hA30, frA30_0, frA30_1, frA30_2, z31, rfl, fz31⟩
    exact hxa_ireturn (by rfl) (hn_fitB (by omega) (by omega)) (hP _ _ ⟨hA30, _, rfl, by omega⟩)
theorem hX52q2_4 {d : Nat} {Bn Br : Int} {A0 A : hs_A} (hA : hJ 2 Bn Br A0 A)  (a1 : Int32) (p1 : 4 ≤ a1.toInt) (q1 : a1.toInt ≤ 4) : hxC (d + 9) 52 hm_m52 [.ref 21, .int a1] A (fun r A' => hJ 2 Bn Br A0 A' ∧ ∃ z : Int32, r = some (.int z) ∧ ((0 ≤ z.toInt ∧ z.toInt ≤ 1))) := hxC.of (by rfl) (hY52q2_4 hA a1 p1 q1 (fun r A' h => h))
theorem hY51q2_4 {d : Nat} {Bn Br : Int} {A0 A : hs_A} (hA : hJ 2 Bn Br A0 A)  (a1 : Int32) (p1 : 4 ≤ a1.toInt) (q1 : a1.toInt ≤ 4) {P : Option Value → hs_A → Prop} (hP : ∀ (r : Option Value) (A' : hs_A), (hJ 2 Bn Br A0 A' ∧ ∃ z : Int32, r = some (.int z) ∧ ((0 ≤ z.toInt ∧ z.toInt ≤ 1))) → P r A') : hxa (d + 9) (some (.boolean)) hm_t51 0 [.ref 21, .int a1, .retAddr 0, .retAddr 0, .retAddr 0] [] A P := by
  have k0 := hk_0
  have k1 := hk_1
  have k4 := hk_4
  have k5 := hk_5
  have L8 : ∀ (m8 : Nat) (x8_2 : Int32) (x8_3 : Int32) (x8_4 : Value) (Ac8 : hs_A) (hAc8 : hJ 2 Bn Br A0 Ac8) (bx8_2 : 0 ≤ x8_2.toInt) (cx8_2 : x8_2.toInt ≤ 1) (bx8_3 : 0 ≤ x8_3.toInt) (cx8_3 : x8_3.toInt ≤ 400) (hm8 : 400 - x8_3.toInt < (m8 : Int)), hxa (d + 9) (some (.boolean)) hm_t51 8 [.ref 21, .int a1, .int x8_2, .int x8_3, x8_4] [] Ac8 P := by
    intro m8
    induction m8 with
    | zero => intro x8_2 x8_3 x8_4 Ac8 hAc8 bx8_2 cx8_2 bx8_3 cx8_3 hm8;  exact False.elim (by omega)
    | succ m8 ih8 =>
      intro x8_2 x8_3 x8_4 Ac8 hAc8 bx8_2 cx8_2 bx8_3 cx8_3 hm8
      have L61 : ∀ (x61_4 : Int32) (y61_0 : Int32) (Ac61 : hs_A) (hAc61 : hJ 2 Bn Br A0 Ac61) (bx61_4 : 28 ≤ x61_4.toInt) (cx61_4 : x61_4.toInt ≤ 29) (by61_0 : 0 ≤ y61_0.toInt) (cy61_0 : y61_0.toInt ≤ 1) (bx8_2 : 1 ≤ x8_2.toInt) (cx8_3 : x8_3.toInt ≤ 399), hxa (d + 9) (some (.boolean)) hm_t51 61 [.ref 21, .int a1, .int x8_2, .int x8_3, .int x61_4] [.int y61_0] Ac61 P := by
        intro x61_4 y61_0 Ac61 hAc61 bx61_4 cx61_4 by61_0 cy61_0 bx8_2 cx8_3
        refine hxa_s1 (by rfl) (Or.inl ⟨_, rfl, rfl⟩) rfl ?_
        refine hxa_aload_n (by rfl) rfl ?_
        refine hxj_getT (by rfl) (by rfl) (by rfl) hAc61.rt2 ?_
        refine hxa_get (v := .ref 16) (by rfl) (by rfl) (by rfl) rfl ?_
        refine hxa_iload (by rfl) rfl ?_
        refine hxa_bipush (by rfl) rfl ?_
        refine hxj_cne (by rfl) rfl hk_28 (fun q1 => ?_) (fun q1 => ?_)
        ·
          refine hxa_iconst (by rfl) rfl ?_
          refine hxa_iconst (by rfl) rfl ?_
          refine hxa_call0 (by rfl) (by rfl) (by rfl) (by rfl) (by rfl) (by rfl) (hX12q2 (d := d + 8) hAc61 (Int32.ofNat 5) (by omega) (by omega) (Int32.ofNat 0) (by omega)) ?_
          rintro _ A2 ⟨hA2, z3, rfl⟩
          refine hxa_popI (by rfl) ?_
          refine hxj_iinc (by rfl) rfl rfl hk_1 (by omega) (by omega) (fun _ => rfl) (fun z4 ez4 => ?_)
          refine hxa_goto (by rfl) ?_
          exact ih8 y61_0 z4 (.int x61_4) A2 hA2 (by omega) (by omega) (by omega) (by omega) (by omega)
        ·
          refine hxa_iconst (by rfl) rfl ?_
          refine hxa_goto (by rfl) ?_
          refine hxa_iconst (by rfl) rfl ?_
          refine hxa_call0 (by rfl) (by rfl) (by rfl) (by rfl) (by rfl) (by rfl) (hX12q2 (d := d + 8) hAc61 (Int32.ofNat 4) (by omega) (by omega) (Int32.ofNat 0) (by omega)) ?_
          rintro _ A5 ⟨hA5, z6, rfl⟩
          refine hxa_popI (by rfl) ?_
          refine hxj_iinc (by rfl) rfl rfl hk_1 (by omega) (by omega) (fun _ => rfl) (fun z7 ez7 => ?_)
          refine hxa_goto (by rfl) ?_
          exact ih8 y61_0 z7 (.int x61_4) A5 hA5 (by omega) (by omega) (by omega) (by omega) (by omega)
      refine hxa_iload_n (by rfl) rfl ?_
      refine hxa_sipush (by rfl) rfl ?_
      refine hxj_cge (by rfl) rfl hk_400 (fun q8 => ?_) (fun q8 => ?_)
      ·
        refine hxa_iload_n (by rfl) rfl ?_
        exact hxa_ireturn (by rfl) (hn_fitB (by omega) (by omega)) (hP _ _ ⟨hAc8, _, rfl, by omega⟩)
      ·
        refine hxa_iload_n (by rfl) rfl ?_
        refine hxj_zeq (by rfl) rfl (fun q9 => ?_) (fun q9 => ?_)
        ·
          refine hxa_iload_n (by rfl) rfl ?_
          exact hxa_ireturn (by rfl) (hn_fitB (by omega) (by omega)) (hP _ _ ⟨hAc8, _, rfl, by omega⟩)
        ·
          refine hxa_aload_n (by rfl) rfl ?_
          refine hxa_call0 (by rfl) (by rfl) (by rfl) (by rfl) (by rfl) (by rfl) (hX38q2 (d := d + 8) hAc8 ) ?_
          rintro _ _ ⟨rfl, z10, rfl⟩
          refine hxa_s1 (by rfl) (Or.inr ⟨_, rfl, rfl⟩) rfl ?_
          refine hxa_iload (by rfl) rfl ?_
          refine hxa_bipush (by rfl) rfl ?_
          refine hxj_ceq (by rfl) rfl hk_28 (fun q11 => ?_) (fun q11 => ?_)
          ·
            refine hxa_aload_n (by rfl) rfl ?_
            refine hxa_call0 (by rfl) (by rfl) (by rfl) (by rfl) (by rfl) (by rfl) (hX41q2 (d := d + 8) hAc8 ) ?_
            rintro _ A12 ⟨hA12, frA12_0, frA12_1, frA12_2, z13, rfl, fz13⟩
            refine hxj_zeq (by rfl) rfl (fun q14 => ?_) (fun q14 => ?_)
            ·
              refine hxa_iconst (by rfl) rfl ?_
              exact L61 z10 (Int32.ofNat 0) A12 hA12 (by omega) (by omega) (by omega) (by omega) (by omega) (by omega)
            ·
              refine hxa_aload_n (by rfl) rfl ?_
              refine hxa_iload_n (by rfl) rfl ?_
              refine hxa_call0 (by rfl) (by rfl) (by rfl) (by rfl) (by rfl) (by rfl) (hX52q2_4 (d := d + 0) hA12 a1 (by omega) (by omega)) ?_
              rintro _ A15 ⟨hA15, z16, rfl, fz16⟩
              refine hxj_zeq (by rfl) rfl (fun q17 => ?_) (fun q17 => ?_)
              ·
                refine hxa_iconst (by rfl) rfl ?_
                exact L61 z10 (Int32.ofNat 0) A15 hA15 (by omega) (by omega) (by omega) (by omega) (by omega) (by omega)
              ·
                refine hxa_iconst (by rfl) rfl ?_
                refine hxa_goto (by rfl) ?_
                exact L61 z10 (Int32.ofNat 1) A15 hA15 (by omega) (by omega) (by omega) (by omega) (by omega) (by omega)
          ·
            refine hxa_iload (by rfl) rfl ?_
            refine hxa_bipush (by rfl) rfl ?_
            refine hxj_ceq (by rfl) rfl hk_29 (fun q18 => ?_) (fun q18 => ?_)
            ·
              refine hxa_aload_n (by rfl) rfl ?_
              refine hxa_call0 (by rfl) (by rfl) (by rfl) (by rfl) (by rfl) (by rfl) (hX41q2 (d := d + 8) hAc8 ) ?_
              rintro _ A19 ⟨hA19, frA19_0, frA19_1, frA19_2, z20, rfl, fz20⟩
              refine hxj_zeq (by rfl) rfl (fun q21 => ?_) (fun q21 => ?_)
              ·
                refine hxa_iconst (by rfl) rfl ?_
                exact L61 z10 (Int32.ofNat 0) A19 hA19 (by omega) (by omega) (by omega) (by omega) (by omega) (by omega)
              ·
                refine hxa_aload_n (by rfl) rfl ?_
                refine hxa_iload_n (by rfl) rfl ?_
                refine hxa_call0 (by rfl) (by rfl) (by rfl) (by rfl) (by rfl) (by rfl) (hX52q2_4 (d := d + 0) hA19 a1 (by omega) (by omega)) ?_
                rintro _ A22 ⟨hA22, z23, rfl, fz23⟩
                refine hxj_zeq (by rfl) rfl (fun q24 => ?_) (fun q24 => ?_)
                ·
                  refine hxa_iconst (by rfl) rfl ?_
                  exact L61 z10 (Int32.ofNat 0) A22 hA22 (by omega) (by omega) (by omega) (by omega) (by omega) (by omega)
                ·
                  refine hxa_iconst (by rfl) rfl ?_
                  refine hxa_goto (by rfl) ?_
                  exact L61 z10 (Int32.ofNat 1) A22 hA22 (by omega) (by omega) (by omega) (by omega) (by omega) (by omega)
            ·
              refine hxa_iconst (by rfl) rfl ?_
              exact hxa_ireturn (by rfl) (by rfl) (hP _ _ ⟨hAc8, _, rfl, by omega⟩)
  refine hxa_aload_n (by rfl) rfl ?_
  refine hxa_iload_n (by rfl) rfl ?_
  refine hxa_call0 (by rfl) (by rfl) (by rfl) (by rfl) (by rfl) (by rfl) (hX52q2_4 (d := d + 0) hA a1 (by omega) (by omega)) ?_
  rintro _ A25 ⟨hA25, z26, rfl, fz26⟩
  refine hxa_s1 (by rfl) (Or.inl ⟨_, rfl, rfl⟩) rfl ?_
  refine hxa_iconst (by rfl) rfl ?_
  refine hxa_s1 (by rfl) (Or.inl ⟨_, rfl, rfl⟩) rfl ?_
  exact L8 (Int.toNat (400 - 0) + 1) z26 (Int32.ofNat 0) (.retAddr 0) A25 hA25 (by omega) (by omega) (by omega) (by omega) (by omega)
theorem hX51q2_4 {d : Nat} {Bn Br : Int} {A0 A : hs_A} (hA : hJ 2 Bn Br A0 A)  (a1 : Int32) (p1 : 4 ≤ a1.toInt) (q1 : a1.toInt ≤ 4) : hxC (d + 10) 51 hm_m51 [.ref 21, .int a1] A (fun r A' => hJ 2 Bn Br A0 A' ∧ ∃ z : Int32, r = some (.int z) ∧ ((0 ≤ z.toInt ∧ z.toInt ≤ 1))) := hxC.of (by rfl) (hY51q2_4 hA a1 p1 q1 (fun r A' h => h))
theorem hY50q2_4 {d : Nat} {Bn Br : Int} {A0 A : hs_A} (hA : hJ 2 Bn Br A0 A)  (a1 : Int32) (p1 : 4 ≤ a1.toInt) (q1 : a1.toInt ≤ 4) {P : Option Value → hs_A → Prop} (hP : ∀ (r : Option Value) (A' : hs_A), (hJ 2 Bn Br A0 A' ∧ ∃ z : Int32, r = some (.int z) ∧ ((0 ≤ z.toInt ∧ z.toInt ≤ 1))) → P r A') : hxa (d + 10) (some (.boolean)) hm_t50 0 [.ref 21, .int a1, .retAddr 0, .retAddr 0, .retAddr 0] [] A P := by
  have k0 := hk_0
  have k1 := hk_1
  have k2 := hk_2
  have k3 := hk_3
  have L8 : ∀ (m8 : Nat) (x8_2 : Int32) (x8_3 : Int32) (x8_4 : Value) (Ac8 : hs_A) (hAc8 : hJ 2 Bn Br A0 Ac8) (bx8_2 : 0 ≤ x8_2.toInt) (cx8_2 : x8_2.toInt ≤ 1) (bx8_3 : 0 ≤ x8_3.toInt) (cx8_3 : x8_3.toInt ≤ 400) (hm8 : 400 - x8_3.toInt < (m8 : Int)), hxa (d + 10) (some (.boolean)) hm_t50 8 [.ref 21, .int a1, .int x8_2, .int x8_3, x8_4] [] Ac8 P := by
    intro m8
    induction m8 with
    | zero => intro x8_2 x8_3 x8_4 Ac8 hAc8 bx8_2 cx8_2 bx8_3 cx8_3 hm8;  exact False.elim (by omega)
    | succ m8 ih8 =>
      intro x8_2 x8_3 x8_4 Ac8 hAc8 bx8_2 cx8_2 bx8_3 cx8_3 hm8
      have L61 : ∀ (x61_4 : Int32) (y61_0 : Int32) (Ac61 : hs_A) (hAc61 : hJ 2 Bn Br A0 Ac61) (bx61_4 : 26 ≤ x61_4.toInt) (cx61_4 : x61_4.toInt ≤ 27) (by61_0 : 0 ≤ y61_0.toInt) (cy61_0 : y61_0.toInt ≤ 1) (bx8_2 : 1 ≤ x8_2.toInt) (cx8_3 : x8_3.toInt ≤ 399), hxa (d + 10) (some (.boolean)) hm_t50 61 [.ref 21, .int a1, .int x8_2, .int x8_3, .int x61_4] [.int y61_0] Ac61 P := by
        intro x61_4 y61_0 Ac61 hAc61 bx61_4 cx61_4 by61_0 cy61_0 bx8_2 cx8_3
        refine hxa_s1 (by rfl) (Or.inl ⟨_, rfl, rfl⟩) rfl ?_
        refine hxa_aload_n (by rfl) rfl ?_
        refine hxj_getT (by rfl) (by rfl) (by rfl) hAc61.rt2 ?_
        refine hxa_get (v := .ref 16) (by rfl) (by rfl) (by rfl) rfl ?_
        refine hxa_iload (by rfl) rfl ?_
        refine hxa_bipush (by rfl) rfl ?_
        refine hxj_cne (by rfl) rfl hk_26 (fun q1 => ?_) (fun q1 => ?_)
        ·
          refine hxa_iconst (by rfl) rfl ?_
          refine hxa_iconst (by rfl) rfl ?_
          refine hxa_call0 (by rfl) (by rfl) (by rfl) (by rfl) (by rfl) (by rfl) (hX12q2 (d := d + 9) hAc61 (Int32.ofNat 3) (by omega) (by omega) (Int32.ofNat 0) (by omega)) ?_
          rintro _ A2 ⟨hA2, z3, rfl⟩
          refine hxa_popI (by rfl) ?_
          refine hxj_iinc (by rfl) rfl rfl hk_1 (by omega) (by omega) (fun _ => rfl) (fun z4 ez4 => ?_)
          refine hxa_goto (by rfl) ?_
          exact ih8 y61_0 z4 (.int x61_4) A2 hA2 (by omega) (by omega) (by omega) (by omega) (by omega)
        ·
          refine hxa_iconst (by rfl) rfl ?_
          refine hxa_goto (by rfl) ?_
          refine hxa_iconst (by rfl) rfl ?_
          refine hxa_call0 (by rfl) (by rfl) (by rfl) (by rfl) (by rfl) (by rfl) (hX12q2 (d := d + 9) hAc61 (Int32.ofNat 2) (by omega) (by omega) (Int32.ofNat 0) (by omega)) ?_
          rintro _ A5 ⟨hA5, z6, rfl⟩
          refine hxa_popI (by rfl) ?_
          refine hxj_iinc (by rfl) rfl rfl hk_1 (by omega) (by omega) (fun _ => rfl) (fun z7 ez7 => ?_)
          refine hxa_goto (by rfl) ?_
          exact ih8 y61_0 z7 (.int x61_4) A5 hA5 (by omega) (by omega) (by omega) (by omega) (by omega)
      refine hxa_iload_n (by rfl) rfl ?_
      refine hxa_sipush (by rfl) rfl ?_
      refine hxj_cge (by rfl) rfl hk_400 (fun q8 => ?_) (fun q8 => ?_)
      ·
        refine hxa_iload_n (by rfl) rfl ?_
        exact hxa_ireturn (by rfl) (hn_fitB (by omega) (by omega)) (hP _ _ ⟨hAc8, _, rfl, by omega⟩)
      ·
        refine hxa_iload_n (by rfl) rfl ?_
        refine hxj_zeq (by rfl) rfl (fun q9 => ?_) (fun q9 => ?_)
        ·
          refine hxa_iload_n (by rfl) rfl ?_
          exact hxa_ireturn (by rfl) (hn_fitB (by omega) (by omega)) (hP _ _ ⟨hAc8, _, rfl, by omega⟩)
        ·
          refine hxa_aload_n (by rfl) rfl ?_
          refine hxa_call0 (by rfl) (by rfl) (by rfl) (by rfl) (by rfl) (by rfl) (hX38q2 (d := d + 9) hAc8 ) ?_
          rintro _ _ ⟨rfl, z10, rfl⟩
          refine hxa_s1 (by rfl) (Or.inr ⟨_, rfl, rfl⟩) rfl ?_
          refine hxa_iload (by rfl) rfl ?_
          refine hxa_bipush (by rfl) rfl ?_
          refine hxj_ceq (by rfl) rfl hk_26 (fun q11 => ?_) (fun q11 => ?_)
          ·
            refine hxa_aload_n (by rfl) rfl ?_
            refine hxa_call0 (by rfl) (by rfl) (by rfl) (by rfl) (by rfl) (by rfl) (hX41q2 (d := d + 9) hAc8 ) ?_
            rintro _ A12 ⟨hA12, frA12_0, frA12_1, frA12_2, z13, rfl, fz13⟩
            refine hxj_zeq (by rfl) rfl (fun q14 => ?_) (fun q14 => ?_)
            ·
              refine hxa_iconst (by rfl) rfl ?_
              exact L61 z10 (Int32.ofNat 0) A12 hA12 (by omega) (by omega) (by omega) (by omega) (by omega) (by omega)
            ·
              refine hxa_aload_n (by rfl) rfl ?_
              refine hxa_iload_n (by rfl) rfl ?_
              refine hxa_call0 (by rfl) (by rfl) (by rfl) (by rfl) (by rfl) (by rfl) (hX51q2_4 (d := d + 0) hA12 a1 (by omega) (by omega)) ?_
              rintro _ A15 ⟨hA15, z16, rfl, fz16⟩
              refine hxj_zeq (by rfl) rfl (fun q17 => ?_) (fun q17 => ?_)
              ·
                refine hxa_iconst (by rfl) rfl ?_
                exact L61 z10 (Int32.ofNat 0) A15 hA15 (by omega) (by omega) (by omega) (by omega) (by omega) (by omega)
              ·
                refine hxa_iconst (by rfl) rfl ?_
                refine hxa_goto (by rfl) ?_
                exact L61 z10 (Int32.ofNat 1) A15 hA15 (by omega) (by omega) (by omega) (by omega) (by omega) (by omega)
          ·
            refine hxa_iload (by rfl) rfl ?_
            refine hxa_bipush (by rfl) rfl ?_
            refine hxj_ceq (by rfl) rfl hk_27 (fun q18 => ?_) (fun q18 => ?_)
            ·
              refine hxa_aload_n (by rfl) rfl ?_
              refine hxa_call0 (by rfl) (by rfl) (by rfl) (by rfl) (by rfl) (by rfl) (hX41q2 (d := d + 9) hAc8 ) ?_
              rintro _ A19 ⟨hA19, frA19_0, frA19_1, frA19_2, z20, rfl, fz20⟩
              refine hxj_zeq (by rfl) rfl (fun q21 => ?_) (fun q21 => ?_)
              ·
                refine hxa_iconst (by rfl) rfl ?_
                exact L61 z10 (Int32.ofNat 0) A19 hA19 (by omega) (by omega) (by omega) (by omega) (by omega) (by omega)
              ·
                refine hxa_aload_n (by rfl) rfl ?_
                refine hxa_iload_n (by rfl) rfl ?_
                refine hxa_call0 (by rfl) (by rfl) (by rfl) (by rfl) (by rfl) (by rfl) (hX51q2_4 (d := d + 0) hA19 a1 (by omega) (by omega)) ?_
                rintro _ A22 ⟨hA22, z23, rfl, fz23⟩
                refine hxj_zeq (by rfl) rfl (fun q24 => ?_) (fun q24 => ?_)
                ·
                  refine hxa_iconst (by rfl) rfl ?_
                  exact L61 z10 (Int32.ofNat 0) A22 hA22 (by omega) (by omega) (by omega) (by omega) (by omega) (by omega)
                ·
                  refine hxa_iconst (by rfl) rfl ?_
                  refine hxa_goto (by rfl) ?_
                  exact L61 z10 (Int32.ofNat 1) A22 hA22 (by omega) (by omega) (by omega) (by omega) (by omega) (by omega)
            ·
              refine hxa_iconst (by rfl) rfl ?_
              exact hxa_ireturn (by rfl) (by rfl) (hP _ _ ⟨hAc8, _, rfl, by omega⟩)
  refine hxa_aload_n (by rfl) rfl ?_
  refine hxa_iload_n (by rfl) rfl ?_
  refine hxa_call0 (by rfl) (by rfl) (by rfl) (by rfl) (by rfl) (by rfl) (hX51q2_4 (d := d + 0) hA a1 (by omega) (by omega)) ?_
  rintro _ A25 ⟨hA25, z26, rfl, fz26⟩
  refine hxa_s1 (by rfl) (Or.inl ⟨_, rfl, rfl⟩) rfl ?_
  refine hxa_iconst (by rfl) rfl ?_
  refine hxa_s1 (by rfl) (Or.inl ⟨_, rfl, rfl⟩) rfl ?_
  exact L8 (Int.toNat (400 - 0) + 1) z26 (Int32.ofNat 0) (.retAddr 0) A25 hA25 (by omega) (by omega) (by omega) (by omega) (by omega)
theorem hX50q2_4 {d : Nat} {Bn Br : Int} {A0 A : hs_A} (hA : hJ 2 Bn Br A0 A)  (a1 : Int32) (p1 : 4 ≤ a1.toInt) (q1 : a1.toInt ≤ 4) : hxC (d + 11) 50 hm_m50 [.ref 21, .int a1] A (fun r A' => hJ 2 Bn Br A0 A' ∧ ∃ z : Int32, r = some (.int z) ∧ ((0 ≤ z.toInt ∧ z.toInt ≤ 1))) := hxC.of (by rfl) (hY50q2_4 hA a1 p1 q1 (fun r A' h => h))
theorem hY52q2_3 {d : Nat} {Bn Br : Int} {A0 A : hs_A} (hA : hJ 2 Bn Br A0 A)  (a1 : Int32) (p1 : 3 ≤ a1.toInt) (q1 : a1.toInt ≤ 3) {P : Option Value → hs_A → Prop} (hP : ∀ (r : Option Value) (A' : hs_A), (hJ 2 Bn Br A0 A' ∧ ∃ z : Int32, r = some (.int z) ∧ ((0 ≤ z.toInt ∧ z.toInt ≤ 1))) → P r A') : hxa (d + 11) (some (.boolean)) hm_t52 0 [.ref 21, .int a1, .retAddr 0] [] A P := by
  have k0 := hk_0
  have k1 := hk_1
  have k11 := hk_11
  have k19 := hk_19
  have k32 := hk_32
  refine hxa_aload_n (by rfl) rfl ?_
  refine hxa_call0 (by rfl) (by rfl) (by rfl) (by rfl) (by rfl) (by rfl) (hX38q2 (d := d + 10) hA ) ?_
  rintro _ _ ⟨rfl, z1, rfl⟩
  refine hxa_s1 (by rfl) (Or.inl ⟨_, rfl, rfl⟩) rfl ?_
  refine hxa_iload_n (by rfl) rfl ?_
  refine hxa_bipush (by rfl) rfl ?_
  refine hxj_cne (by rfl) rfl hk_21 (fun q2 => ?_) (fun q2 => ?_)
  ·
    refine hxa_iload_n (by rfl) rfl ?_
    refine hxa_bipush (by rfl) rfl ?_
    refine hxa_bipush (by rfl) rfl ?_
    refine hxa_call2 (by rfl) (by decide) (by rfl) (by rfl) (by rfl) (hX78 (d := d + 10)  z1 (Int32.ofNat 11) (Int32.ofNat 19)) ?_
    rintro _ _ ⟨rfl, z3, rfl, fz3⟩
    rcases fz3 with fz3 | fz3
    ·
      refine hxj_zeq (by rfl) rfl (fun q4 => False.elim (by omega)) (fun q4 => ?_)
      refine hxa_aload_n (by rfl) rfl ?_
      refine hxj_getT (by rfl) (by rfl) (by rfl) hA.rt2 ?_
      refine hxa_get (v := .ref 16) (by rfl) (by rfl) (by rfl) rfl ?_
      refine hxa_iconst (by rfl) rfl ?_
      refine hxa_iload_n (by rfl) rfl ?_
      refine hxa_bipush (by rfl) rfl ?_
      refine hxj_isub (by rfl) rfl hk_11 (by omega) (by omega) (fun z5 ez5 => ?_)
      refine hxa_call0 (by rfl) (by rfl) (by rfl) (by rfl) (by rfl) (by rfl) (hX12q2 (d := d + 10) hA (Int32.ofNat 1) (by omega) (by omega) z5 (by omega)) ?_
      rintro _ A6 ⟨hA6, z7, rfl⟩
      refine hxa_popI (by rfl) ?_
      refine hxa_aload_n (by rfl) rfl ?_
      refine hxa_call0 (by rfl) (by rfl) (by rfl) (by rfl) (by rfl) (by rfl) (hX41q2 (d := d + 10) hA6 ) ?_
      rintro _ A8 ⟨hA8, frA8_0, frA8_1, frA8_2, z9, rfl, fz9⟩
      exact hxa_ireturn (by rfl) (hn_fitB (by omega) (by omega)) (hP _ _ ⟨hA8, _, rfl, by omega⟩)
    ·
      refine hxj_zeq (by rfl) rfl (fun q10 => ?_) (fun q10 => False.elim (by omega))
      refine hxa_iload_n (by rfl) rfl ?_
      refine hxa_bipush (by rfl) rfl ?_
      refine hxj_ceq (by rfl) rfl hk_31 (fun q11 => ?_) (fun q11 => ?_)
      ·
        refine hxa_iload_n (by rfl) rfl ?_
        refine hxa_bipush (by rfl) rfl ?_
        refine hxj_clt (by rfl) rfl hk_6 (fun q12 => ?_) (fun q12 => False.elim (by omega))
        refine hxa_aload_n (by rfl) rfl ?_
        refine hxa_call0 (by rfl) (by rfl) (by rfl) (by rfl) (by rfl) (by rfl) (hX41q2 (d := d + 10) hA ) ?_
        rintro _ A13 ⟨hA13, frA13_0, frA13_1, frA13_2, z14, rfl, fz14⟩
        refine hxj_zeq (by rfl) rfl (fun q15 => ?_) (fun q15 => ?_)
        ·
          refine hxa_iconst (by rfl) rfl ?_
          exact hxa_ireturn (by rfl) (by rfl) (hP _ _ ⟨hA13, _, rfl, by omega⟩)
        ·
          refine hxa_aload_n (by rfl) rfl ?_
          refine hxa_iload_n (by rfl) rfl ?_
          refine hxa_iconst (by rfl) rfl ?_
          refine hxj_iadd (by rfl) rfl hk_1 (by omega) (by omega) (fun z16 ez16 => ?_)
          refine hxa_call0 (by rfl) (by rfl) (by rfl) (by rfl) (by rfl) (by rfl) (hX50q2_4 (d := d + 0) hA13 z16 (by omega) (by omega)) ?_
          rintro _ A17 ⟨hA17, z18, rfl, fz18⟩
          refine hxj_zeq (by rfl) rfl (fun q19 => ?_) (fun q19 => ?_)
          ·
            refine hxa_iconst (by rfl) rfl ?_
            exact hxa_ireturn (by rfl) (by rfl) (hP _ _ ⟨hA17, _, rfl, by omega⟩)
          ·
            refine hxa_aload_n (by rfl) rfl ?_
            refine hxa_bipush (by rfl) rfl ?_
            refine hxa_call0 (by rfl) (by rfl) (by rfl) (by rfl) (by rfl) (by rfl) (hX42q2 (d := d + 9) hA17 (Int32.ofNat 32)) ?_
            rintro _ A20 ⟨hA20, frA20_0, frA20_1, frA20_2, z21, rfl, fz21⟩
            refine hxj_zeq (by rfl) rfl (fun q22 => ?_) (fun q22 => ?_)
            ·
              refine hxa_iconst (by rfl) rfl ?_
              exact hxa_ireturn (by rfl) (by rfl) (hP _ _ ⟨hA20, _, rfl, by omega⟩)
            ·
              refine hxa_iconst (by rfl) rfl ?_
              refine hxa_goto (by rfl) ?_
              exact hxa_ireturn (by rfl) (by rfl) (hP _ _ ⟨hA20, _, rfl, by omega⟩)
      ·
        refine hxa_aload_n (by rfl) rfl ?_
        refine hxa_iconst (by rfl) rfl ?_
        refine hxa_call0 (by rfl) (by rfl) (by rfl) (by rfl) (by rfl) (by rfl) (hX39q2 (d := d + 10) hA (Int32.ofNat 1)) ?_
        rintro _ A23 ⟨hA23, frA23_0, frA23_1, frA23_2, frA23_3, z24, rfl, fz24⟩
        exact hxa_ireturn (by rfl) (hn_fitB (by omega) (by omega)) (hP _ _ ⟨hA23, _, rfl, by omega⟩)
  ·
    refine hxa_aload_n (by rfl) rfl ?_
    refine hxj_getT (by rfl) (by rfl) (by rfl) hA.rt2 ?_
    refine hxa_get (v := .ref 16) (by rfl) (by rfl) (by rfl) rfl ?_
    refine hxa_iconst (by rfl) rfl ?_
    refine hxa_aload_n (by rfl) rfl ?_
    refine hxa_get (v := .ref 22) (by rfl) (by rfl) (by rfl) rfl ?_
    refine hxa_get (v := .ref 24) (by rfl) (by rfl) (by rfl) rfl ?_
    refine hxa_aload_n (by rfl) rfl ?_
    refine hxj_getB (by rfl) (by rfl) (by rfl) hA (by rfl) (fun z25 ez25 fz25 gz25 => ?_)
    refine hxj_lald (by rfl) (by rfl) rfl (by omega) (by omega) (fun j26 ej26 => ?_)
    refine hxa_l2i (by rfl) (hn_top (fun z27 _ => ?_))
    refine hxa_call0 (by rfl) (by rfl) (by rfl) (by rfl) (by rfl) (by rfl) (hX12q2 (d := d + 10) hA (Int32.ofNat 0) (by omega) (by omega) z27 (by omega)) ?_
    rintro _ A28 ⟨hA28, z29, rfl⟩
    refine hxa_popI (by rfl) ?_
    refine hxa_aload_n (by rfl) rfl ?_
    refine hxa_call0 (by rfl) (by rfl) (by rfl) (by rfl) (by rfl) (by rfl) (hX41q2 (d := d + 10) hA28 ) ?_
    rintro _ A30 ⟨hA30, frA30_0, frA30_1, frA30_2, z31, rfl, fz31⟩
    exact hxa_ireturn (by rfl) (hn_fitB (by omega) (by omega)) (hP _ _ ⟨hA30, _, rfl, by omega⟩)
theorem hX52q2_3 {d : Nat} {Bn Br : Int} {A0 A : hs_A} (hA : hJ 2 Bn Br A0 A)  (a1 : Int32) (p1 : 3 ≤ a1.toInt) (q1 : a1.toInt ≤ 3) : hxC (d + 12) 52 hm_m52 [.ref 21, .int a1] A (fun r A' => hJ 2 Bn Br A0 A' ∧ ∃ z : Int32, r = some (.int z) ∧ ((0 ≤ z.toInt ∧ z.toInt ≤ 1))) := hxC.of (by rfl) (hY52q2_3 hA a1 p1 q1 (fun r A' h => h))
theorem hY51q2_3 {d : Nat} {Bn Br : Int} {A0 A : hs_A} (hA : hJ 2 Bn Br A0 A)  (a1 : Int32) (p1 : 3 ≤ a1.toInt) (q1 : a1.toInt ≤ 3) {P : Option Value → hs_A → Prop} (hP : ∀ (r : Option Value) (A' : hs_A), (hJ 2 Bn Br A0 A' ∧ ∃ z : Int32, r = some (.int z) ∧ ((0 ≤ z.toInt ∧ z.toInt ≤ 1))) → P r A') : hxa (d + 12) (some (.boolean)) hm_t51 0 [.ref 21, .int a1, .retAddr 0, .retAddr 0, .retAddr 0] [] A P := by
  have k0 := hk_0
  have k1 := hk_1
  have k4 := hk_4
  have k5 := hk_5
  have L8 : ∀ (m8 : Nat) (x8_2 : Int32) (x8_3 : Int32) (x8_4 : Value) (Ac8 : hs_A) (hAc8 : hJ 2 Bn Br A0 Ac8) (bx8_2 : 0 ≤ x8_2.toInt) (cx8_2 : x8_2.toInt ≤ 1) (bx8_3 : 0 ≤ x8_3.toInt) (cx8_3 : x8_3.toInt ≤ 400) (hm8 : 400 - x8_3.toInt < (m8 : Int)), hxa (d + 12) (some (.boolean)) hm_t51 8 [.ref 21, .int a1, .int x8_2, .int x8_3, x8_4] [] Ac8 P := by
    intro m8
    induction m8 with
    | zero => intro x8_2 x8_3 x8_4 Ac8 hAc8 bx8_2 cx8_2 bx8_3 cx8_3 hm8;  exact False.elim (by omega)
    | succ m8 ih8 =>
      intro x8_2 x8_3 x8_4 Ac8 hAc8 bx8_2 cx8_2 bx8_3 cx8_3 hm8
      have L61 : ∀ (x61_4 : Int32) (y61_0 : Int32) (Ac61 : hs_A) (hAc61 : hJ 2 Bn Br A0 Ac61) (bx61_4 : 28 ≤ x61_4.toInt) (cx61_4 : x61_4.toInt ≤ 29) (by61_0 : 0 ≤ y61_0.toInt) (cy61_0 : y61_0.toInt ≤ 1) (bx8_2 : 1 ≤ x8_2.toInt) (cx8_3 : x8_3.toInt ≤ 399), hxa (d + 12) (some (.boolean)) hm_t51 61 [.ref 21, .int a1, .int x8_2, .int x8_3, .int x61_4] [.int y61_0] Ac61 P := by
        intro x61_4 y61_0 Ac61 hAc61 bx61_4 cx61_4 by61_0 cy61_0 bx8_2 cx8_3
        refine hxa_s1 (by rfl) (Or.inl ⟨_, rfl, rfl⟩) rfl ?_
        refine hxa_aload_n (by rfl) rfl ?_
        refine hxj_getT (by rfl) (by rfl) (by rfl) hAc61.rt2 ?_
        refine hxa_get (v := .ref 16) (by rfl) (by rfl) (by rfl) rfl ?_
        refine hxa_iload (by rfl) rfl ?_
        refine hxa_bipush (by rfl) rfl ?_
        refine hxj_cne (by rfl) rfl hk_28 (fun q1 => ?_) (fun q1 => ?_)
        ·
          refine hxa_iconst (by rfl) rfl ?_
          refine hxa_iconst (by rfl) rfl ?_
          refine hxa_call0 (by rfl) (by rfl) (by rfl) (by rfl) (by rfl) (by rfl) (hX12q2 (d := d + 11) hAc61 (Int32.ofNat 5) (by omega) (by omega) (Int32.ofNat 0) (by omega)) ?_
          rintro _ A2 ⟨hA2, z3, rfl⟩
          refine hxa_popI (by rfl) ?_
          refine hxj_iinc (by rfl) rfl rfl hk_1 (by omega) (by omega) (fun _ => rfl) (fun z4 ez4 => ?_)
          refine hxa_goto (by rfl) ?_
          exact ih8 y61_0 z4 (.int x61_4) A2 hA2 (by omega) (by omega) (by omega) (by omega) (by omega)
        ·
          refine hxa_iconst (by rfl) rfl ?_
          refine hxa_goto (by rfl) ?_
          refine hxa_iconst (by rfl) rfl ?_
          refine hxa_call0 (by rfl) (by rfl) (by rfl) (by rfl) (by rfl) (by rfl) (hX12q2 (d := d + 11) hAc61 (Int32.ofNat 4) (by omega) (by omega) (Int32.ofNat 0) (by omega)) ?_
          rintro _ A5 ⟨hA5, z6, rfl⟩
          refine hxa_popI (by rfl) ?_
          refine hxj_iinc (by rfl) rfl rfl hk_1 (by omega) (by omega) (fun _ => rfl) (fun z7 ez7 => ?_)
          refine hxa_goto (by rfl) ?_
          exact ih8 y61_0 z7 (.int x61_4) A5 hA5 (by omega) (by omega) (by omega) (by omega) (by omega)
      refine hxa_iload_n (by rfl) rfl ?_
      refine hxa_sipush (by rfl) rfl ?_
      refine hxj_cge (by rfl) rfl hk_400 (fun q8 => ?_) (fun q8 => ?_)
      ·
        refine hxa_iload_n (by rfl) rfl ?_
        exact hxa_ireturn (by rfl) (hn_fitB (by omega) (by omega)) (hP _ _ ⟨hAc8, _, rfl, by omega⟩)
      ·
        refine hxa_iload_n (by rfl) rfl ?_
        refine hxj_zeq (by rfl) rfl (fun q9 => ?_) (fun q9 => ?_)
        ·
          refine hxa_iload_n (by rfl) rfl ?_
          exact hxa_ireturn (by rfl) (hn_fitB (by omega) (by omega)) (hP _ _ ⟨hAc8, _, rfl, by omega⟩)
        ·
          refine hxa_aload_n (by rfl) rfl ?_
          refine hxa_call0 (by rfl) (by rfl) (by rfl) (by rfl) (by rfl) (by rfl) (hX38q2 (d := d + 11) hAc8 ) ?_
          rintro _ _ ⟨rfl, z10, rfl⟩
          refine hxa_s1 (by rfl) (Or.inr ⟨_, rfl, rfl⟩) rfl ?_
          refine hxa_iload (by rfl) rfl ?_
          refine hxa_bipush (by rfl) rfl ?_
          refine hxj_ceq (by rfl) rfl hk_28 (fun q11 => ?_) (fun q11 => ?_)
          ·
            refine hxa_aload_n (by rfl) rfl ?_
            refine hxa_call0 (by rfl) (by rfl) (by rfl) (by rfl) (by rfl) (by rfl) (hX41q2 (d := d + 11) hAc8 ) ?_
            rintro _ A12 ⟨hA12, frA12_0, frA12_1, frA12_2, z13, rfl, fz13⟩
            refine hxj_zeq (by rfl) rfl (fun q14 => ?_) (fun q14 => ?_)
            ·
              refine hxa_iconst (by rfl) rfl ?_
              exact L61 z10 (Int32.ofNat 0) A12 hA12 (by omega) (by omega) (by omega) (by omega) (by omega) (by omega)
            ·
              refine hxa_aload_n (by rfl) rfl ?_
              refine hxa_iload_n (by rfl) rfl ?_
              refine hxa_call0 (by rfl) (by rfl) (by rfl) (by rfl) (by rfl) (by rfl) (hX52q2_3 (d := d + 0) hA12 a1 (by omega) (by omega)) ?_
              rintro _ A15 ⟨hA15, z16, rfl, fz16⟩
              refine hxj_zeq (by rfl) rfl (fun q17 => ?_) (fun q17 => ?_)
              ·
                refine hxa_iconst (by rfl) rfl ?_
                exact L61 z10 (Int32.ofNat 0) A15 hA15 (by omega) (by omega) (by omega) (by omega) (by omega) (by omega)
              ·
                refine hxa_iconst (by rfl) rfl ?_
                refine hxa_goto (by rfl) ?_
                exact L61 z10 (Int32.ofNat 1) A15 hA15 (by omega) (by omega) (by omega) (by omega) (by omega) (by omega)
          ·
            refine hxa_iload (by rfl) rfl ?_
            refine hxa_bipush (by rfl) rfl ?_
            refine hxj_ceq (by rfl) rfl hk_29 (fun q18 => ?_) (fun q18 => ?_)
            ·
              refine hxa_aload_n (by rfl) rfl ?_
              refine hxa_call0 (by rfl) (by rfl) (by rfl) (by rfl) (by rfl) (by rfl) (hX41q2 (d := d + 11) hAc8 ) ?_
              rintro _ A19 ⟨hA19, frA19_0, frA19_1, frA19_2, z20, rfl, fz20⟩
              refine hxj_zeq (by rfl) rfl (fun q21 => ?_) (fun q21 => ?_)
              ·
                refine hxa_iconst (by rfl) rfl ?_
                exact L61 z10 (Int32.ofNat 0) A19 hA19 (by omega) (by omega) (by omega) (by omega) (by omega) (by omega)
              ·
                refine hxa_aload_n (by rfl) rfl ?_
                refine hxa_iload_n (by rfl) rfl ?_
                refine hxa_call0 (by rfl) (by rfl) (by rfl) (by rfl) (by rfl) (by rfl) (hX52q2_3 (d := d + 0) hA19 a1 (by omega) (by omega)) ?_
                rintro _ A22 ⟨hA22, z23, rfl, fz23⟩
                refine hxj_zeq (by rfl) rfl (fun q24 => ?_) (fun q24 => ?_)
                ·
                  refine hxa_iconst (by rfl) rfl ?_
                  exact L61 z10 (Int32.ofNat 0) A22 hA22 (by omega) (by omega) (by omega) (by omega) (by omega) (by omega)
                ·
                  refine hxa_iconst (by rfl) rfl ?_
                  refine hxa_goto (by rfl) ?_
                  exact L61 z10 (Int32.ofNat 1) A22 hA22 (by omega) (by omega) (by omega) (by omega) (by omega) (by omega)
            ·
              refine hxa_iconst (by rfl) rfl ?_
              exact hxa_ireturn (by rfl) (by rfl) (hP _ _ ⟨hAc8, _, rfl, by omega⟩)
  refine hxa_aload_n (by rfl) rfl ?_
  refine hxa_iload_n (by rfl) rfl ?_
  refine hxa_call0 (by rfl) (by rfl) (by rfl) (by rfl) (by rfl) (by rfl) (hX52q2_3 (d := d + 0) hA a1 (by omega) (by omega)) ?_
  rintro _ A25 ⟨hA25, z26, rfl, fz26⟩
  refine hxa_s1 (by rfl) (Or.inl ⟨_, rfl, rfl⟩) rfl ?_
  refine hxa_iconst (by rfl) rfl ?_
  refine hxa_s1 (by rfl) (Or.inl ⟨_, rfl, rfl⟩) rfl ?_
  exact L8 (Int.toNat (400 - 0) + 1) z26 (Int32.ofNat 0) (.retAddr 0) A25 hA25 (by omega) (by omega) (by omega) (by omega) (by omega)
theorem hX51q2_3 {d : Nat} {Bn Br : Int} {A0 A : hs_A} (hA : hJ 2 Bn Br A0 A)  (a1 : Int32) (p1 : 3 ≤ a1.toInt) (q1 : a1.toInt ≤ 3) : hxC (d + 13) 51 hm_m51 [.ref 21, .int a1] A (fun r A' => hJ 2 Bn Br A0 A' ∧ ∃ z : Int32, r = some (.int z) ∧ ((0 ≤ z.toInt ∧ z.toInt ≤ 1))) := hxC.of (by rfl) (hY51q2_3 hA a1 p1 q1 (fun r A' h => h))
theorem hY50q2_3 {d : Nat} {Bn Br : Int} {A0 A : hs_A} (hA : hJ 2 Bn Br A0 A)  (a1 : Int32) (p1 : 3 ≤ a1.toInt) (q1 : a1.toInt ≤ 3) {P : Option Value → hs_A → Prop} (hP : ∀ (r : Option Value) (A' : hs_A), (hJ 2 Bn Br A0 A' ∧ ∃ z : Int32, r = some (.int z) ∧ ((0 ≤ z.toInt ∧ z.toInt ≤ 1))) → P r A') : hxa (d + 13) (some (.boolean)) hm_t50 0 [.ref 21, .int a1, .retAddr 0, .retAddr 0, .retAddr 0] [] A P := by
  have k0 := hk_0
  have k1 := hk_1
  have k2 := hk_2
  have k3 := hk_3
  have L8 : ∀ (m8 : Nat) (x8_2 : Int32) (x8_3 : Int32) (x8_4 : Value) (Ac8 : hs_A) (hAc8 : hJ 2 Bn Br A0 Ac8) (bx8_2 : 0 ≤ x8_2.toInt) (cx8_2 : x8_2.toInt ≤ 1) (bx8_3 : 0 ≤ x8_3.toInt) (cx8_3 : x8_3.toInt ≤ 400) (hm8 : 400 - x8_3.toInt < (m8 : Int)), hxa (d + 13) (some (.boolean)) hm_t50 8 [.ref 21, .int a1, .int x8_2, .int x8_3, x8_4] [] Ac8 P := by
    intro m8
    induction m8 with
    | zero => intro x8_2 x8_3 x8_4 Ac8 hAc8 bx8_2 cx8_2 bx8_3 cx8_3 hm8;  exact False.elim (by omega)
    | succ m8 ih8 =>
      intro x8_2 x8_3 x8_4 Ac8 hAc8 bx8_2 cx8_2 bx8_3 cx8_3 hm8
      have L61 : ∀ (x61_4 : Int32) (y61_0 : Int32) (Ac61 : hs_A) (hAc61 : hJ 2 Bn Br A0 Ac61) (bx61_4 : 26 ≤ x61_4.toInt) (cx61_4 : x61_4.toInt ≤ 27) (by61_0 : 0 ≤ y61_0.toInt) (cy61_0 : y61_0.toInt ≤ 1) (bx8_2 : 1 ≤ x8_2.toInt) (cx8_3 : x8_3.toInt ≤ 399), hxa (d + 13) (some (.boolean)) hm_t50 61 [.ref 21, .int a1, .int x8_2, .int x8_3, .int x61_4] [.int y61_0] Ac61 P := by
        intro x61_4 y61_0 Ac61 hAc61 bx61_4 cx61_4 by61_0 cy61_0 bx8_2 cx8_3
        refine hxa_s1 (by rfl) (Or.inl ⟨_, rfl, rfl⟩) rfl ?_
        refine hxa_aload_n (by rfl) rfl ?_
        refine hxj_getT (by rfl) (by rfl) (by rfl) hAc61.rt2 ?_
        refine hxa_get (v := .ref 16) (by rfl) (by rfl) (by rfl) rfl ?_
        refine hxa_iload (by rfl) rfl ?_
        refine hxa_bipush (by rfl) rfl ?_
        refine hxj_cne (by rfl) rfl hk_26 (fun q1 => ?_) (fun q1 => ?_)
        ·
          refine hxa_iconst (by rfl) rfl ?_
          refine hxa_iconst (by rfl) rfl ?_
          refine hxa_call0 (by rfl) (by rfl) (by rfl) (by rfl) (by rfl) (by rfl) (hX12q2 (d := d + 12) hAc61 (Int32.ofNat 3) (by omega) (by omega) (Int32.ofNat 0) (by omega)) ?_
          rintro _ A2 ⟨hA2, z3, rfl⟩
          refine hxa_popI (by rfl) ?_
          refine hxj_iinc (by rfl) rfl rfl hk_1 (by omega) (by omega) (fun _ => rfl) (fun z4 ez4 => ?_)
          refine hxa_goto (by rfl) ?_
          exact ih8 y61_0 z4 (.int x61_4) A2 hA2 (by omega) (by omega) (by omega) (by omega) (by omega)
        ·
          refine hxa_iconst (by rfl) rfl ?_
          refine hxa_goto (by rfl) ?_
          refine hxa_iconst (by rfl) rfl ?_
          refine hxa_call0 (by rfl) (by rfl) (by rfl) (by rfl) (by rfl) (by rfl) (hX12q2 (d := d + 12) hAc61 (Int32.ofNat 2) (by omega) (by omega) (Int32.ofNat 0) (by omega)) ?_
          rintro _ A5 ⟨hA5, z6, rfl⟩
          refine hxa_popI (by rfl) ?_
          refine hxj_iinc (by rfl) rfl rfl hk_1 (by omega) (by omega) (fun _ => rfl) (fun z7 ez7 => ?_)
          refine hxa_goto (by rfl) ?_
          exact ih8 y61_0 z7 (.int x61_4) A5 hA5 (by omega) (by omega) (by omega) (by omega) (by omega)
      refine hxa_iload_n (by rfl) rfl ?_
      refine hxa_sipush (by rfl) rfl ?_
      refine hxj_cge (by rfl) rfl hk_400 (fun q8 => ?_) (fun q8 => ?_)
      ·
        refine hxa_iload_n (by rfl) rfl ?_
        exact hxa_ireturn (by rfl) (hn_fitB (by omega) (by omega)) (hP _ _ ⟨hAc8, _, rfl, by omega⟩)
      ·
        refine hxa_iload_n (by rfl) rfl ?_
        refine hxj_zeq (by rfl) rfl (fun q9 => ?_) (fun q9 => ?_)
        ·
          refine hxa_iload_n (by rfl) rfl ?_
          exact hxa_ireturn (by rfl) (hn_fitB (by omega) (by omega)) (hP _ _ ⟨hAc8, _, rfl, by omega⟩)
        ·
          refine hxa_aload_n (by rfl) rfl ?_
          refine hxa_call0 (by rfl) (by rfl) (by rfl) (by rfl) (by rfl) (by rfl) (hX38q2 (d := d + 12) hAc8 ) ?_
          rintro _ _ ⟨rfl, z10, rfl⟩
          refine hxa_s1 (by rfl) (Or.inr ⟨_, rfl, rfl⟩) rfl ?_
          refine hxa_iload (by rfl) rfl ?_
          refine hxa_bipush (by rfl) rfl ?_
          refine hxj_ceq (by rfl) rfl hk_26 (fun q11 => ?_) (fun q11 => ?_)
          ·
            refine hxa_aload_n (by rfl) rfl ?_
            refine hxa_call0 (by rfl) (by rfl) (by rfl) (by rfl) (by rfl) (by rfl) (hX41q2 (d := d + 12) hAc8 ) ?_
            rintro _ A12 ⟨hA12, frA12_0, frA12_1, frA12_2, z13, rfl, fz13⟩
            refine hxj_zeq (by rfl) rfl (fun q14 => ?_) (fun q14 => ?_)
            ·
              refine hxa_iconst (by rfl) rfl ?_
              exact L61 z10 (Int32.ofNat 0) A12 hA12 (by omega) (by omega) (by omega) (by omega) (by omega) (by omega)
            ·
              refine hxa_aload_n (by rfl) rfl ?_
              refine hxa_iload_n (by rfl) rfl ?_
              refine hxa_call0 (by rfl) (by rfl) (by rfl) (by rfl) (by rfl) (by rfl) (hX51q2_3 (d := d + 0) hA12 a1 (by omega) (by omega)) ?_
              rintro _ A15 ⟨hA15, z16, rfl, fz16⟩
              refine hxj_zeq (by rfl) rfl (fun q17 => ?_) (fun q17 => ?_)
              ·
                refine hxa_iconst (by rfl) rfl ?_
                exact L61 z10 (Int32.ofNat 0) A15 hA15 (by omega) (by omega) (by omega) (by omega) (by omega) (by omega)
              ·
                refine hxa_iconst (by rfl) rfl ?_
                refine hxa_goto (by rfl) ?_
                exact L61 z10 (Int32.ofNat 1) A15 hA15 (by omega) (by omega) (by omega) (by omega) (by omega) (by omega)
          ·
            refine hxa_iload (by rfl) rfl ?_
            refine hxa_bipush (by rfl) rfl ?_
            refine hxj_ceq (by rfl) rfl hk_27 (fun q18 => ?_) (fun q18 => ?_)
            ·
              refine hxa_aload_n (by rfl) rfl ?_
              refine hxa_call0 (by rfl) (by rfl) (by rfl) (by rfl) (by rfl) (by rfl) (hX41q2 (d := d + 12) hAc8 ) ?_
              rintro _ A19 ⟨hA19, frA19_0, frA19_1, frA19_2, z20, rfl, fz20⟩
              refine hxj_zeq (by rfl) rfl (fun q21 => ?_) (fun q21 => ?_)
              ·
                refine hxa_iconst (by rfl) rfl ?_
                exact L61 z10 (Int32.ofNat 0) A19 hA19 (by omega) (by omega) (by omega) (by omega) (by omega) (by omega)
              ·
                refine hxa_aload_n (by rfl) rfl ?_
                refine hxa_iload_n (by rfl) rfl ?_
                refine hxa_call0 (by rfl) (by rfl) (by rfl) (by rfl) (by rfl) (by rfl) (hX51q2_3 (d := d + 0) hA19 a1 (by omega) (by omega)) ?_
                rintro _ A22 ⟨hA22, z23, rfl, fz23⟩
                refine hxj_zeq (by rfl) rfl (fun q24 => ?_) (fun q24 => ?_)
                ·
                  refine hxa_iconst (by rfl) rfl ?_
                  exact L61 z10 (Int32.ofNat 0) A22 hA22 (by omega) (by omega) (by omega) (by omega) (by omega) (by omega)
                ·
                  refine hxa_iconst (by rfl) rfl ?_
                  refine hxa_goto (by rfl) ?_
                  exact L61 z10 (Int32.ofNat 1) A22 hA22 (by omega) (by omega) (by omega) (by omega) (by omega) (by omega)
            ·
              refine hxa_iconst (by rfl) rfl ?_
              exact hxa_ireturn (by rfl) (by rfl) (hP _ _ ⟨hAc8, _, rfl, by omega⟩)
  refine hxa_aload_n (by rfl) rfl ?_
  refine hxa_iload_n (by rfl) rfl ?_
  refine hxa_call0 (by rfl) (by rfl) (by rfl) (by rfl) (by rfl) (by rfl) (hX51q2_3 (d := d + 0) hA a1 (by omega) (by omega)) ?_
  rintro _ A25 ⟨hA25, z26, rfl, fz26⟩
  refine hxa_s1 (by rfl) (Or.inl ⟨_, rfl, rfl⟩) rfl ?_
  refine hxa_iconst (by rfl) rfl ?_
  refine hxa_s1 (by rfl) (Or.inl ⟨_, rfl, rfl⟩) rfl ?_
  exact L8 (Int.toNat (400 - 0) + 1) z26 (Int32.ofNat 0) (.retAddr 0) A25 hA25 (by omega) (by omega) (by omega) (by omega) (by omega)
theorem hX50q2_3 {d : Nat} {Bn Br : Int} {A0 A : hs_A} (hA : hJ 2 Bn Br A0 A)  (a1 : Int32) (p1 : 3 ≤ a1.toInt) (q1 : a1.toInt ≤ 3) : hxC (d + 14) 50 hm_m50 [.ref 21, .int a1] A (fun r A' => hJ 2 Bn Br A0 A' ∧ ∃ z : Int32, r = some (.int z) ∧ ((0 ≤ z.toInt ∧ z.toInt ≤ 1))) := hxC.of (by rfl) (hY50q2_3 hA a1 p1 q1 (fun r A' h => h))
theorem hY52q2_2 {d : Nat} {Bn Br : Int} {A0 A : hs_A} (hA : hJ 2 Bn Br A0 A)  (a1 : Int32) (p1 : 2 ≤ a1.toInt) (q1 : a1.toInt ≤ 2) {P : Option Value → hs_A → Prop} (hP : ∀ (r : Option Value) (A' : hs_A), (hJ 2 Bn Br A0 A' ∧ ∃ z : Int32, r = some (.int z) ∧ ((0 ≤ z.toInt ∧ z.toInt ≤ 1))) → P r A') : hxa (d + 14) (some (.boolean)) hm_t52 0 [.ref 21, .int a1, .retAddr 0] [] A P := by
  have k0 := hk_0
  have k1 := hk_1
  have k11 := hk_11
  have k19 := hk_19
  have k32 := hk_32
  refine hxa_aload_n (by rfl) rfl ?_
  refine hxa_call0 (by rfl) (by rfl) (by rfl) (by rfl) (by rfl) (by rfl) (hX38q2 (d := d + 13) hA ) ?_
  rintro _ _ ⟨rfl, z1, rfl⟩
  refine hxa_s1 (by rfl) (Or.inl ⟨_, rfl, rfl⟩) rfl ?_
  refine hxa_iload_n (by rfl) rfl ?_
  refine hxa_bipush (by rfl) rfl ?_
  refine hxj_cne (by rfl) rfl hk_21 (fun q2 => ?_) (fun q2 => ?_)
  ·
    refine hxa_iload_n (by rfl) rfl ?_
    refine hxa_bipush (by rfl) rfl ?_
    refine hxa_bipush (by rfl) rfl ?_
    refine hxa_call2 (by rfl) (by decide) (by rfl) (by rfl) (by rfl) (hX78 (d := d + 13)  z1 (Int32.ofNat 11) (Int32.ofNat 19)) ?_
    rintro _ _ ⟨rfl, z3, rfl, fz3⟩
    rcases fz3 with fz3 | fz3
    ·
      refine hxj_zeq (by rfl) rfl (fun q4 => False.elim (by omega)) (fun q4 => ?_)
      refine hxa_aload_n (by rfl) rfl ?_
      refine hxj_getT (by rfl) (by rfl) (by rfl) hA.rt2 ?_
      refine hxa_get (v := .ref 16) (by rfl) (by rfl) (by rfl) rfl ?_
      refine hxa_iconst (by rfl) rfl ?_
      refine hxa_iload_n (by rfl) rfl ?_
      refine hxa_bipush (by rfl) rfl ?_
      refine hxj_isub (by rfl) rfl hk_11 (by omega) (by omega) (fun z5 ez5 => ?_)
      refine hxa_call0 (by rfl) (by rfl) (by rfl) (by rfl) (by rfl) (by rfl) (hX12q2 (d := d + 13) hA (Int32.ofNat 1) (by omega) (by omega) z5 (by omega)) ?_
      rintro _ A6 ⟨hA6, z7, rfl⟩
      refine hxa_popI (by rfl) ?_
      refine hxa_aload_n (by rfl) rfl ?_
      refine hxa_call0 (by rfl) (by rfl) (by rfl) (by rfl) (by rfl) (by rfl) (hX41q2 (d := d + 13) hA6 ) ?_
      rintro _ A8 ⟨hA8, frA8_0, frA8_1, frA8_2, z9, rfl, fz9⟩
      exact hxa_ireturn (by rfl) (hn_fitB (by omega) (by omega)) (hP _ _ ⟨hA8, _, rfl, by omega⟩)
    ·
      refine hxj_zeq (by rfl) rfl (fun q10 => ?_) (fun q10 => False.elim (by omega))
      refine hxa_iload_n (by rfl) rfl ?_
      refine hxa_bipush (by rfl) rfl ?_
      refine hxj_ceq (by rfl) rfl hk_31 (fun q11 => ?_) (fun q11 => ?_)
      ·
        refine hxa_iload_n (by rfl) rfl ?_
        refine hxa_bipush (by rfl) rfl ?_
        refine hxj_clt (by rfl) rfl hk_6 (fun q12 => ?_) (fun q12 => False.elim (by omega))
        refine hxa_aload_n (by rfl) rfl ?_
        refine hxa_call0 (by rfl) (by rfl) (by rfl) (by rfl) (by rfl) (by rfl) (hX41q2 (d := d + 13) hA ) ?_
        rintro _ A13 ⟨hA13, frA13_0, frA13_1, frA13_2, z14, rfl, fz14⟩
        refine hxj_zeq (by rfl) rfl (fun q15 => ?_) (fun q15 => ?_)
        ·
          refine hxa_iconst (by rfl) rfl ?_
          exact hxa_ireturn (by rfl) (by rfl) (hP _ _ ⟨hA13, _, rfl, by omega⟩)
        ·
          refine hxa_aload_n (by rfl) rfl ?_
          refine hxa_iload_n (by rfl) rfl ?_
          refine hxa_iconst (by rfl) rfl ?_
          refine hxj_iadd (by rfl) rfl hk_1 (by omega) (by omega) (fun z16 ez16 => ?_)
          refine hxa_call0 (by rfl) (by rfl) (by rfl) (by rfl) (by rfl) (by rfl) (hX50q2_3 (d := d + 0) hA13 z16 (by omega) (by omega)) ?_
          rintro _ A17 ⟨hA17, z18, rfl, fz18⟩
          refine hxj_zeq (by rfl) rfl (fun q19 => ?_) (fun q19 => ?_)
          ·
            refine hxa_iconst (by rfl) rfl ?_
            exact hxa_ireturn (by rfl) (by rfl) (hP _ _ ⟨hA17, _, rfl, by omega⟩)
          ·
            refine hxa_aload_n (by rfl) rfl ?_
            refine hxa_bipush (by rfl) rfl ?_
            refine hxa_call0 (by rfl) (by rfl) (by rfl) (by rfl) (by rfl) (by rfl) (hX42q2 (d := d + 12) hA17 (Int32.ofNat 32)) ?_
            rintro _ A20 ⟨hA20, frA20_0, frA20_1, frA20_2, z21, rfl, fz21⟩
            refine hxj_zeq (by rfl) rfl (fun q22 => ?_) (fun q22 => ?_)
            ·
              refine hxa_iconst (by rfl) rfl ?_
              exact hxa_ireturn (by rfl) (by rfl) (hP _ _ ⟨hA20, _, rfl, by omega⟩)
            ·
              refine hxa_iconst (by rfl) rfl ?_
              refine hxa_goto (by rfl) ?_
              exact hxa_ireturn (by rfl) (by rfl) (hP _ _ ⟨hA20, _, rfl, by omega⟩)
      ·
        refine hxa_aload_n (by rfl) rfl ?_
        refine hxa_iconst (by rfl) rfl ?_
        refine hxa_call0 (by rfl) (by rfl) (by rfl) (by rfl) (by rfl) (by rfl) (hX39q2 (d := d + 13) hA (Int32.ofNat 1)) ?_
        rintro _ A23 ⟨hA23, frA23_0, frA23_1, frA23_2, frA23_3, z24, rfl, fz24⟩
        exact hxa_ireturn (by rfl) (hn_fitB (by omega) (by omega)) (hP _ _ ⟨hA23, _, rfl, by omega⟩)
  ·
    refine hxa_aload_n (by rfl) rfl ?_
    refine hxj_getT (by rfl) (by rfl) (by rfl) hA.rt2 ?_
    refine hxa_get (v := .ref 16) (by rfl) (by rfl) (by rfl) rfl ?_
    refine hxa_iconst (by rfl) rfl ?_
    refine hxa_aload_n (by rfl) rfl ?_
    refine hxa_get (v := .ref 22) (by rfl) (by rfl) (by rfl) rfl ?_
    refine hxa_get (v := .ref 24) (by rfl) (by rfl) (by rfl) rfl ?_
    refine hxa_aload_n (by rfl) rfl ?_
    refine hxj_getB (by rfl) (by rfl) (by rfl) hA (by rfl) (fun z25 ez25 fz25 gz25 => ?_)
    refine hxj_lald (by rfl) (by rfl) rfl (by omega) (by omega) (fun j26 ej26 => ?_)
    refine hxa_l2i (by rfl) (hn_top (fun z27 _ => ?_))
    refine hxa_call0 (by rfl) (by rfl) (by rfl) (by rfl) (by rfl) (by rfl) (hX12q2 (d := d + 13) hA (Int32.ofNat 0) (by omega) (by omega) z27 (by omega)) ?_
    rintro _ A28 ⟨hA28, z29, rfl⟩
    refine hxa_popI (by rfl) ?_
    refine hxa_aload_n (by rfl) rfl ?_
    refine hxa_call0 (by rfl) (by rfl) (by rfl) (by rfl) (by rfl) (by rfl) (hX41q2 (d := d + 13) hA28 ) ?_
    rintro _ A30 ⟨hA30, frA30_0, frA30_1, frA30_2, z31, rfl, fz31⟩
    exact hxa_ireturn (by rfl) (hn_fitB (by omega) (by omega)) (hP _ _ ⟨hA30, _, rfl, by omega⟩)
theorem hX52q2_2 {d : Nat} {Bn Br : Int} {A0 A : hs_A} (hA : hJ 2 Bn Br A0 A)  (a1 : Int32) (p1 : 2 ≤ a1.toInt) (q1 : a1.toInt ≤ 2) : hxC (d + 15) 52 hm_m52 [.ref 21, .int a1] A (fun r A' => hJ 2 Bn Br A0 A' ∧ ∃ z : Int32, r = some (.int z) ∧ ((0 ≤ z.toInt ∧ z.toInt ≤ 1))) := hxC.of (by rfl) (hY52q2_2 hA a1 p1 q1 (fun r A' h => h))
theorem hY51q2_2 {d : Nat} {Bn Br : Int} {A0 A : hs_A} (hA : hJ 2 Bn Br A0 A)  (a1 : Int32) (p1 : 2 ≤ a1.toInt) (q1 : a1.toInt ≤ 2) {P : Option Value → hs_A → Prop} (hP : ∀ (r : Option Value) (A' : hs_A), (hJ 2 Bn Br A0 A' ∧ ∃ z : Int32, r = some (.int z) ∧ ((0 ≤ z.toInt ∧ z.toInt ≤ 1))) → P r A') : hxa (d + 15) (some (.boolean)) hm_t51 0 [.ref 21, .int a1, .retAddr 0, .retAddr 0, .retAddr 0] [] A P := by
  have k0 := hk_0
  have k1 := hk_1
  have k4 := hk_4
  have k5 := hk_5
  have L8 : ∀ (m8 : Nat) (x8_2 : Int32) (x8_3 : Int32) (x8_4 : Value) (Ac8 : hs_A) (hAc8 : hJ 2 Bn Br A0 Ac8) (bx8_2 : 0 ≤ x8_2.toInt) (cx8_2 : x8_2.toInt ≤ 1) (bx8_3 : 0 ≤ x8_3.toInt) (cx8_3 : x8_3.toInt ≤ 400) (hm8 : 400 - x8_3.toInt < (m8 : Int)), hxa (d + 15) (some (.boolean)) hm_t51 8 [.ref 21, .int a1, .int x8_2, .int x8_3, x8_4] [] Ac8 P := by
    intro m8
    induction m8 with
    | zero => intro x8_2 x8_3 x8_4 Ac8 hAc8 bx8_2 cx8_2 bx8_3 cx8_3 hm8;  exact False.elim (by omega)
    | succ m8 ih8 =>
      intro x8_2 x8_3 x8_4 Ac8 hAc8 bx8_2 cx8_2 bx8_3 cx8_3 hm8
      have L61 : ∀ (x61_4 : Int32) (y61_0 : Int32) (Ac61 : hs_A) (hAc61 : hJ 2 Bn Br A0 Ac61) (bx61_4 : 28 ≤ x61_4.toInt) (cx61_4 : x61_4.toInt ≤ 29) (by61_0 : 0 ≤ y61_0.toInt) (cy61_0 : y61_0.toInt ≤ 1) (bx8_2 : 1 ≤ x8_2.toInt) (cx8_3 : x8_3.toInt ≤ 399), hxa (d + 15) (some (.boolean)) hm_t51 61 [.ref 21, .int a1, .int x8_2, .int x8_3, .int x61_4] [.int y61_0] Ac61 P := by
        intro x61_4 y61_0 Ac61 hAc61 bx61_4 cx61_4 by61_0 cy61_0 bx8_2 cx8_3
        refine hxa_s1 (by rfl) (Or.inl ⟨_, rfl, rfl⟩) rfl ?_
        refine hxa_aload_n (by rfl) rfl ?_
        refine hxj_getT (by rfl) (by rfl) (by rfl) hAc61.rt2 ?_
        refine hxa_get (v := .ref 16) (by rfl) (by rfl) (by rfl) rfl ?_
        refine hxa_iload (by rfl) rfl ?_
        refine hxa_bipush (by rfl) rfl ?_
        refine hxj_cne (by rfl) rfl hk_28 (fun q1 => ?_) (fun q1 => ?_)
        ·
          refine hxa_iconst (by rfl) rfl ?_
          refine hxa_iconst (by rfl) rfl ?_
          refine hxa_call0 (by rfl) (by rfl) (by rfl) (by rfl) (by rfl) (by rfl) (hX12q2 (d := d + 14) hAc61 (Int32.ofNat 5) (by omega) (by omega) (Int32.ofNat 0) (by omega)) ?_
          rintro _ A2 ⟨hA2, z3, rfl⟩
          refine hxa_popI (by rfl) ?_
          refine hxj_iinc (by rfl) rfl rfl hk_1 (by omega) (by omega) (fun _ => rfl) (fun z4 ez4 => ?_)
          refine hxa_goto (by rfl) ?_
          exact ih8 y61_0 z4 (.int x61_4) A2 hA2 (by omega) (by omega) (by omega) (by omega) (by omega)
        ·
          refine hxa_iconst (by rfl) rfl ?_
          refine hxa_goto (by rfl) ?_
          refine hxa_iconst (by rfl) rfl ?_
          refine hxa_call0 (by rfl) (by rfl) (by rfl) (by rfl) (by rfl) (by rfl) (hX12q2 (d := d + 14) hAc61 (Int32.ofNat 4) (by omega) (by omega) (Int32.ofNat 0) (by omega)) ?_
          rintro _ A5 ⟨hA5, z6, rfl⟩
          refine hxa_popI (by rfl) ?_
          refine hxj_iinc (by rfl) rfl rfl hk_1 (by omega) (by omega) (fun _ => rfl) (fun z7 ez7 => ?_)
          refine hxa_goto (by rfl) ?_
          exact ih8 y61_0 z7 (.int x61_4) A5 hA5 (by omega) (by omega) (by omega) (by omega) (by omega)
      refine hxa_iload_n (by rfl) rfl ?_
      refine hxa_sipush (by rfl) rfl ?_
      refine hxj_cge (by rfl) rfl hk_400 (fun q8 => ?_) (fun q8 => ?_)
      ·
        refine hxa_iload_n (by rfl) rfl ?_
        exact hxa_ireturn (by rfl) (hn_fitB (by omega) (by omega)) (hP _ _ ⟨hAc8, _, rfl, by omega⟩)
      ·
        refine hxa_iload_n (by rfl) rfl ?_
        refine hxj_zeq (by rfl) rfl (fun q9 => ?_) (fun q9 => ?_)
        ·
          refine hxa_iload_n (by rfl) rfl ?_
          exact hxa_ireturn (by rfl) (hn_fitB (by omega) (by omega)) (hP _ _ ⟨hAc8, _, rfl, by omega⟩)
        ·
          refine hxa_aload_n (by rfl) rfl ?_
          refine hxa_call0 (by rfl) (by rfl) (by rfl) (by rfl) (by rfl) (by rfl) (hX38q2 (d := d + 14) hAc8 ) ?_
          rintro _ _ ⟨rfl, z10, rfl⟩
          refine hxa_s1 (by rfl) (Or.inr ⟨_, rfl, rfl⟩) rfl ?_
          refine hxa_iload (by rfl) rfl ?_
          refine hxa_bipush (by rfl) rfl ?_
          refine hxj_ceq (by rfl) rfl hk_28 (fun q11 => ?_) (fun q11 => ?_)
          ·
            refine hxa_aload_n (by rfl) rfl ?_
            refine hxa_call0 (by rfl) (by rfl) (by rfl) (by rfl) (by rfl) (by rfl) (hX41q2 (d := d + 14) hAc8 ) ?_
            rintro _ A12 ⟨hA12, frA12_0, frA12_1, frA12_2, z13, rfl, fz13⟩
            refine hxj_zeq (by rfl) rfl (fun q14 => ?_) (fun q14 => ?_)
            ·
              refine hxa_iconst (by rfl) rfl ?_
              exact L61 z10 (Int32.ofNat 0) A12 hA12 (by omega) (by omega) (by omega) (by omega) (by omega) (by omega)
            ·
              refine hxa_aload_n (by rfl) rfl ?_
              refine hxa_iload_n (by rfl) rfl ?_
              refine hxa_call0 (by rfl) (by rfl) (by rfl) (by rfl) (by rfl) (by rfl) (hX52q2_2 (d := d + 0) hA12 a1 (by omega) (by omega)) ?_
              rintro _ A15 ⟨hA15, z16, rfl, fz16⟩
              refine hxj_zeq (by rfl) rfl (fun q17 => ?_) (fun q17 => ?_)
              ·
                refine hxa_iconst (by rfl) rfl ?_
                exact L61 z10 (Int32.ofNat 0) A15 hA15 (by omega) (by omega) (by omega) (by omega) (by omega) (by omega)
              ·
                refine hxa_iconst (by rfl) rfl ?_
                refine hxa_goto (by rfl) ?_
                exact L61 z10 (Int32.ofNat 1) A15 hA15 (by omega) (by omega) (by omega) (by omega) (by omega) (by omega)
          ·
            refine hxa_iload (by rfl) rfl ?_
            refine hxa_bipush (by rfl) rfl ?_
            refine hxj_ceq (by rfl) rfl hk_29 (fun q18 => ?_) (fun q18 => ?_)
            ·
              refine hxa_aload_n (by rfl) rfl ?_
              refine hxa_call0 (by rfl) (by rfl) (by rfl) (by rfl) (by rfl) (by rfl) (hX41q2 (d := d + 14) hAc8 ) ?_
              rintro _ A19 ⟨hA19, frA19_0, frA19_1, frA19_2, z20, rfl, fz20⟩
              refine hxj_zeq (by rfl) rfl (fun q21 => ?_) (fun q21 => ?_)
              ·
                refine hxa_iconst (by rfl) rfl ?_
                exact L61 z10 (Int32.ofNat 0) A19 hA19 (by omega) (by omega) (by omega) (by omega) (by omega) (by omega)
              ·
                refine hxa_aload_n (by rfl) rfl ?_
                refine hxa_iload_n (by rfl) rfl ?_
                refine hxa_call0 (by rfl) (by rfl) (by rfl) (by rfl) (by rfl) (by rfl) (hX52q2_2 (d := d + 0) hA19 a1 (by omega) (by omega)) ?_
                rintro _ A22 ⟨hA22, z23, rfl, fz23⟩
                refine hxj_zeq (by rfl) rfl (fun q24 => ?_) (fun q24 => ?_)
                ·
                  refine hxa_iconst (by rfl) rfl ?_
                  exact L61 z10 (Int32.ofNat 0) A22 hA22 (by omega) (by omega) (by omega) (by omega) (by omega) (by omega)
                ·
                  refine hxa_iconst (by rfl) rfl ?_
                  refine hxa_goto (by rfl) ?_
                  exact L61 z10 (Int32.ofNat 1) A22 hA22 (by omega) (by omega) (by omega) (by omega) (by omega) (by omega)
            ·
              refine hxa_iconst (by rfl) rfl ?_
              exact hxa_ireturn (by rfl) (by rfl) (hP _ _ ⟨hAc8, _, rfl, by omega⟩)
  refine hxa_aload_n (by rfl) rfl ?_
  refine hxa_iload_n (by rfl) rfl ?_
  refine hxa_call0 (by rfl) (by rfl) (by rfl) (by rfl) (by rfl) (by rfl) (hX52q2_2 (d := d + 0) hA a1 (by omega) (by omega)) ?_
  rintro _ A25 ⟨hA25, z26, rfl, fz26⟩
  refine hxa_s1 (by rfl) (Or.inl ⟨_, rfl, rfl⟩) rfl ?_
  refine hxa_iconst (by rfl) rfl ?_
  refine hxa_s1 (by rfl) (Or.inl ⟨_, rfl, rfl⟩) rfl ?_
  exact L8 (Int.toNat (400 - 0) + 1) z26 (Int32.ofNat 0) (.retAddr 0) A25 hA25 (by omega) (by omega) (by omega) (by omega) (by omega)
theorem hX51q2_2 {d : Nat} {Bn Br : Int} {A0 A : hs_A} (hA : hJ 2 Bn Br A0 A)  (a1 : Int32) (p1 : 2 ≤ a1.toInt) (q1 : a1.toInt ≤ 2) : hxC (d + 16) 51 hm_m51 [.ref 21, .int a1] A (fun r A' => hJ 2 Bn Br A0 A' ∧ ∃ z : Int32, r = some (.int z) ∧ ((0 ≤ z.toInt ∧ z.toInt ≤ 1))) := hxC.of (by rfl) (hY51q2_2 hA a1 p1 q1 (fun r A' h => h))
theorem hY50q2_2 {d : Nat} {Bn Br : Int} {A0 A : hs_A} (hA : hJ 2 Bn Br A0 A)  (a1 : Int32) (p1 : 2 ≤ a1.toInt) (q1 : a1.toInt ≤ 2) {P : Option Value → hs_A → Prop} (hP : ∀ (r : Option Value) (A' : hs_A), (hJ 2 Bn Br A0 A' ∧ ∃ z : Int32, r = some (.int z) ∧ ((0 ≤ z.toInt ∧ z.toInt ≤ 1))) → P r A') : hxa (d + 16) (some (.boolean)) hm_t50 0 [.ref 21, .int a1, .retAddr 0, .retAddr 0, .retAddr 0] [] A P := by
  have k0 := hk_0
  have k1 := hk_1
  have k2 := hk_2
  have k3 := hk_3
  have L8 : ∀ (m8 : Nat) (x8_2 : Int32) (x8_3 : Int32) (x8_4 : Value) (Ac8 : hs_A) (hAc8 : hJ 2 Bn Br A0 Ac8) (bx8_2 : 0 ≤ x8_2.toInt) (cx8_2 : x8_2.toInt ≤ 1) (bx8_3 : 0 ≤ x8_3.toInt) (cx8_3 : x8_3.toInt ≤ 400) (hm8 : 400 - x8_3.toInt < (m8 : Int)), hxa (d + 16) (some (.boolean)) hm_t50 8 [.ref 21, .int a1, .int x8_2, .int x8_3, x8_4] [] Ac8 P := by
    intro m8
    induction m8 with
    | zero => intro x8_2 x8_3 x8_4 Ac8 hAc8 bx8_2 cx8_2 bx8_3 cx8_3 hm8;  exact False.elim (by omega)
    | succ m8 ih8 =>
      intro x8_2 x8_3 x8_4 Ac8 hAc8 bx8_2 cx8_2 bx8_3 cx8_3 hm8
      have L61 : ∀ (x61_4 : Int32) (y61_0 : Int32) (Ac61 : hs_A) (hAc61 : hJ 2 Bn Br A0 Ac61) (bx61_4 : 26 ≤ x61_4.toInt) (cx61_4 : x61_4.toInt ≤ 27) (by61_0 : 0 ≤ y61_0.toInt) (cy61_0 : y61_0.toInt ≤ 1) (bx8_2 : 1 ≤ x8_2.toInt) (cx8_3 : x8_3.toInt ≤ 399), hxa (d + 16) (some (.boolean)) hm_t50 61 [.ref 21, .int a1, .int x8_2, .int x8_3, .int x61_4] [.int y61_0] Ac61 P := by
        intro x61_4 y61_0 Ac61 hAc61 bx61_4 cx61_4 by61_0 cy61_0 bx8_2 cx8_3
        refine hxa_s1 (by rfl) (Or.inl ⟨_, rfl, rfl⟩) rfl ?_
        refine hxa_aload_n (by rfl) rfl ?_
        refine hxj_getT (by rfl) (by rfl) (by rfl) hAc61.rt2 ?_
        refine hxa_get (v := .ref 16) (by rfl) (by rfl) (by rfl) rfl ?_
        refine hxa_iload (by rfl) rfl ?_
        refine hxa_bipush (by rfl) rfl ?_
        refine hxj_cne (by rfl) rfl hk_26 (fun q1 => ?_) (fun q1 => ?_)
        ·
          refine hxa_iconst (by rfl) rfl ?_
          refine hxa_iconst (by rfl) rfl ?_
          refine hxa_call0 (by rfl) (by rfl) (by rfl) (by rfl) (by rfl) (by rfl) (hX12q2 (d := d + 15) hAc61 (Int32.ofNat 3) (by omega) (by omega) (Int32.ofNat 0) (by omega)) ?_
          rintro _ A2 ⟨hA2, z3, rfl⟩
          refine hxa_popI (by rfl) ?_
          refine hxj_iinc (by rfl) rfl rfl hk_1 (by omega) (by omega) (fun _ => rfl) (fun z4 ez4 => ?_)
          refine hxa_goto (by rfl) ?_
          exact ih8 y61_0 z4 (.int x61_4) A2 hA2 (by omega) (by omega) (by omega) (by omega) (by omega)
        ·
          refine hxa_iconst (by rfl) rfl ?_
          refine hxa_goto (by rfl) ?_
          refine hxa_iconst (by rfl) rfl ?_
          refine hxa_call0 (by rfl) (by rfl) (by rfl) (by rfl) (by rfl) (by rfl) (hX12q2 (d := d + 15) hAc61 (Int32.ofNat 2) (by omega) (by omega) (Int32.ofNat 0) (by omega)) ?_
          rintro _ A5 ⟨hA5, z6, rfl⟩
          refine hxa_popI (by rfl) ?_
          refine hxj_iinc (by rfl) rfl rfl hk_1 (by omega) (by omega) (fun _ => rfl) (fun z7 ez7 => ?_)
          refine hxa_goto (by rfl) ?_
          exact ih8 y61_0 z7 (.int x61_4) A5 hA5 (by omega) (by omega) (by omega) (by omega) (by omega)
      refine hxa_iload_n (by rfl) rfl ?_
      refine hxa_sipush (by rfl) rfl ?_
      refine hxj_cge (by rfl) rfl hk_400 (fun q8 => ?_) (fun q8 => ?_)
      ·
        refine hxa_iload_n (by rfl) rfl ?_
        exact hxa_ireturn (by rfl) (hn_fitB (by omega) (by omega)) (hP _ _ ⟨hAc8, _, rfl, by omega⟩)
      ·
        refine hxa_iload_n (by rfl) rfl ?_
        refine hxj_zeq (by rfl) rfl (fun q9 => ?_) (fun q9 => ?_)
        ·
          refine hxa_iload_n (by rfl) rfl ?_
          exact hxa_ireturn (by rfl) (hn_fitB (by omega) (by omega)) (hP _ _ ⟨hAc8, _, rfl, by omega⟩)
        ·
          refine hxa_aload_n (by rfl) rfl ?_
          refine hxa_call0 (by rfl) (by rfl) (by rfl) (by rfl) (by rfl) (by rfl) (hX38q2 (d := d + 15) hAc8 ) ?_
          rintro _ _ ⟨rfl, z10, rfl⟩
          refine hxa_s1 (by rfl) (Or.inr ⟨_, rfl, rfl⟩) rfl ?_
          refine hxa_iload (by rfl) rfl ?_
          refine hxa_bipush (by rfl) rfl ?_
          refine hxj_ceq (by rfl) rfl hk_26 (fun q11 => ?_) (fun q11 => ?_)
          ·
            refine hxa_aload_n (by rfl) rfl ?_
            refine hxa_call0 (by rfl) (by rfl) (by rfl) (by rfl) (by rfl) (by rfl) (hX41q2 (d := d + 15) hAc8 ) ?_
            rintro _ A12 ⟨hA12, frA12_0, frA12_1, frA12_2, z13, rfl, fz13⟩
            refine hxj_zeq (by rfl) rfl (fun q14 => ?_) (fun q14 => ?_)
            ·
              refine hxa_iconst (by rfl) rfl ?_
              exact L61 z10 (Int32.ofNat 0) A12 hA12 (by omega) (by omega) (by omega) (by omega) (by omega) (by omega)
            ·
              refine hxa_aload_n (by rfl) rfl ?_
              refine hxa_iload_n (by rfl) rfl ?_
              refine hxa_call0 (by rfl) (by rfl) (by rfl) (by rfl) (by rfl) (by rfl) (hX51q2_2 (d := d + 0) hA12 a1 (by omega) (by omega)) ?_
              rintro _ A15 ⟨hA15, z16, rfl, fz16⟩
              refine hxj_zeq (by rfl) rfl (fun q17 => ?_) (fun q17 => ?_)
              ·
                refine hxa_iconst (by rfl) rfl ?_
                exact L61 z10 (Int32.ofNat 0) A15 hA15 (by omega) (by omega) (by omega) (by omega) (by omega) (by omega)
              ·
                refine hxa_iconst (by rfl) rfl ?_
                refine hxa_goto (by rfl) ?_
                exact L61 z10 (Int32.ofNat 1) A15 hA15 (by omega) (by omega) (by omega) (by omega) (by omega) (by omega)
          ·
            refine hxa_iload (by rfl) rfl ?_
            refine hxa_bipush (by rfl) rfl ?_
            refine hxj_ceq (by rfl) rfl hk_27 (fun q18 => ?_) (fun q18 => ?_)
            ·
              refine hxa_aload_n (by rfl) rfl ?_
              refine hxa_call0 (by rfl) (by rfl) (by rfl) (by rfl) (by rfl) (by rfl) (hX41q2 (d := d + 15) hAc8 ) ?_
              rintro _ A19 ⟨hA19, frA19_0, frA19_1, frA19_2, z20, rfl, fz20⟩
              refine hxj_zeq (by rfl) rfl (fun q21 => ?_) (fun q21 => ?_)
              ·
                refine hxa_iconst (by rfl) rfl ?_
                exact L61 z10 (Int32.ofNat 0) A19 hA19 (by omega) (by omega) (by omega) (by omega) (by omega) (by omega)
              ·
                refine hxa_aload_n (by rfl) rfl ?_
                refine hxa_iload_n (by rfl) rfl ?_
                refine hxa_call0 (by rfl) (by rfl) (by rfl) (by rfl) (by rfl) (by rfl) (hX51q2_2 (d := d + 0) hA19 a1 (by omega) (by omega)) ?_
                rintro _ A22 ⟨hA22, z23, rfl, fz23⟩
                refine hxj_zeq (by rfl) rfl (fun q24 => ?_) (fun q24 => ?_)
                ·
                  refine hxa_iconst (by rfl) rfl ?_
                  exact L61 z10 (Int32.ofNat 0) A22 hA22 (by omega) (by omega) (by omega) (by omega) (by omega) (by omega)
                ·
                  refine hxa_iconst (by rfl) rfl ?_
                  refine hxa_goto (by rfl) ?_
                  exact L61 z10 (Int32.ofNat 1) A22 hA22 (by omega) (by omega) (by omega) (by omega) (by omega) (by omega)
            ·
              refine hxa_iconst (by rfl) rfl ?_
              exact hxa_ireturn (by rfl) (by rfl) (hP _ _ ⟨hAc8, _, rfl, by omega⟩)
  refine hxa_aload_n (by rfl) rfl ?_
  refine hxa_iload_n (by rfl) rfl ?_
  refine hxa_call0 (by rfl) (by rfl) (by rfl) (by rfl) (by rfl) (by rfl) (hX51q2_2 (d := d + 0) hA a1 (by omega) (by omega)) ?_
  rintro _ A25 ⟨hA25, z26, rfl, fz26⟩
  refine hxa_s1 (by rfl) (Or.inl ⟨_, rfl, rfl⟩) rfl ?_
  refine hxa_iconst (by rfl) rfl ?_
  refine hxa_s1 (by rfl) (Or.inl ⟨_, rfl, rfl⟩) rfl ?_
  exact L8 (Int.toNat (400 - 0) + 1) z26 (Int32.ofNat 0) (.retAddr 0) A25 hA25 (by omega) (by omega) (by omega) (by omega) (by omega)
theorem hX50q2_2 {d : Nat} {Bn Br : Int} {A0 A : hs_A} (hA : hJ 2 Bn Br A0 A)  (a1 : Int32) (p1 : 2 ≤ a1.toInt) (q1 : a1.toInt ≤ 2) : hxC (d + 17) 50 hm_m50 [.ref 21, .int a1] A (fun r A' => hJ 2 Bn Br A0 A' ∧ ∃ z : Int32, r = some (.int z) ∧ ((0 ≤ z.toInt ∧ z.toInt ≤ 1))) := hxC.of (by rfl) (hY50q2_2 hA a1 p1 q1 (fun r A' h => h))
theorem hY52q2_1 {d : Nat} {Bn Br : Int} {A0 A : hs_A} (hA : hJ 2 Bn Br A0 A)  (a1 : Int32) (p1 : 1 ≤ a1.toInt) (q1 : a1.toInt ≤ 1) {P : Option Value → hs_A → Prop} (hP : ∀ (r : Option Value) (A' : hs_A), (hJ 2 Bn Br A0 A' ∧ ∃ z : Int32, r = some (.int z) ∧ ((0 ≤ z.toInt ∧ z.toInt ≤ 1))) → P r A') : hxa (d + 17) (some (.boolean)) hm_t52 0 [.ref 21, .int a1, .retAddr 0] [] A P := by
  have k0 := hk_0
  have k1 := hk_1
  have k11 := hk_11
  have k19 := hk_19
  have k32 := hk_32
  refine hxa_aload_n (by rfl) rfl ?_
  refine hxa_call0 (by rfl) (by rfl) (by rfl) (by rfl) (by rfl) (by rfl) (hX38q2 (d := d + 16) hA ) ?_
  rintro _ _ ⟨rfl, z1, rfl⟩
  refine hxa_s1 (by rfl) (Or.inl ⟨_, rfl, rfl⟩) rfl ?_
  refine hxa_iload_n (by rfl) rfl ?_
  refine hxa_bipush (by rfl) rfl ?_
  refine hxj_cne (by rfl) rfl hk_21 (fun q2 => ?_) (fun q2 => ?_)
  ·
    refine hxa_iload_n (by rfl) rfl ?_
    refine hxa_bipush (by rfl) rfl ?_
    refine hxa_bipush (by rfl) rfl ?_
    refine hxa_call2 (by rfl) (by decide) (by rfl) (by rfl) (by rfl) (hX78 (d := d + 16)  z1 (Int32.ofNat 11) (Int32.ofNat 19)) ?_
    rintro _ _ ⟨rfl, z3, rfl, fz3⟩
    rcases fz3 with fz3 | fz3
    ·
      refine hxj_zeq (by rfl) rfl (fun q4 => False.elim (by omega)) (fun q4 => ?_)
      refine hxa_aload_n (by rfl) rfl ?_
      refine hxj_getT (by rfl) (by rfl) (by rfl) hA.rt2 ?_
      refine hxa_get (v := .ref 16) (by rfl) (by rfl) (by rfl) rfl ?_
      refine hxa_iconst (by rfl) rfl ?_
      refine hxa_iload_n (by rfl) rfl ?_
      refine hxa_bipush (by rfl) rfl ?_
      refine hxj_isub (by rfl) rfl hk_11 (by omega) (by omega) (fun z5 ez5 => ?_)
      refine hxa_call0 (by rfl) (by rfl) (by rfl) (by rfl) (by rfl) (by rfl) (hX12q2 (d := d + 16) hA (Int32.ofNat 1) (by omega) (by omega) z5 (by omega)) ?_
      rintro _ A6 ⟨hA6, z7, rfl⟩
      refine hxa_popI (by rfl) ?_
      refine hxa_aload_n (by rfl) rfl ?_
      refine hxa_call0 (by rfl) (by rfl) (by rfl) (by rfl) (by rfl) (by rfl) (hX41q2 (d := d + 16) hA6 ) ?_
      rintro _ A8 ⟨hA8, frA8_0, frA8_1, frA8_2, z9, rfl, fz9⟩
      exact hxa_ireturn (by rfl) (hn_fitB (by omega) (by omega)) (hP _ _ ⟨hA8, _, rfl, by omega⟩)
    ·
      refine hxj_zeq (by rfl) rfl (fun q10 => ?_) (fun q10 => False.elim (by omega))
      refine hxa_iload_n (by rfl) rfl ?_
      refine hxa_bipush (by rfl) rfl ?_
      refine hxj_ceq (by rfl) rfl hk_31 (fun q11 => ?_) (fun q11 => ?_)
      ·
        refine hxa_iload_n (by rfl) rfl ?_
        refine hxa_bipush (by rfl) rfl ?_
        refine hxj_clt (by rfl) rfl hk_6 (fun q12 => ?_) (fun q12 => False.elim (by omega))
        refine hxa_aload_n (by rfl) rfl ?_
        refine hxa_call0 (by rfl) (by rfl) (by rfl) (by rfl) (by rfl) (by rfl) (hX41q2 (d := d + 16) hA ) ?_
        rintro _ A13 ⟨hA13, frA13_0, frA13_1, frA13_2, z14, rfl, fz14⟩
        refine hxj_zeq (by rfl) rfl (fun q15 => ?_) (fun q15 => ?_)
        ·
          refine hxa_iconst (by rfl) rfl ?_
          exact hxa_ireturn (by rfl) (by rfl) (hP _ _ ⟨hA13, _, rfl, by omega⟩)
        ·
          refine hxa_aload_n (by rfl) rfl ?_
          refine hxa_iload_n (by rfl) rfl ?_
          refine hxa_iconst (by rfl) rfl ?_
          refine hxj_iadd (by rfl) rfl hk_1 (by omega) (by omega) (fun z16 ez16 => ?_)
          refine hxa_call0 (by rfl) (by rfl) (by rfl) (by rfl) (by rfl) (by rfl) (hX50q2_2 (d := d + 0) hA13 z16 (by omega) (by omega)) ?_
          rintro _ A17 ⟨hA17, z18, rfl, fz18⟩
          refine hxj_zeq (by rfl) rfl (fun q19 => ?_) (fun q19 => ?_)
          ·
            refine hxa_iconst (by rfl) rfl ?_
            exact hxa_ireturn (by rfl) (by rfl) (hP _ _ ⟨hA17, _, rfl, by omega⟩)
          ·
            refine hxa_aload_n (by rfl) rfl ?_
            refine hxa_bipush (by rfl) rfl ?_
            refine hxa_call0 (by rfl) (by rfl) (by rfl) (by rfl) (by rfl) (by rfl) (hX42q2 (d := d + 15) hA17 (Int32.ofNat 32)) ?_
            rintro _ A20 ⟨hA20, frA20_0, frA20_1, frA20_2, z21, rfl, fz21⟩
            refine hxj_zeq (by rfl) rfl (fun q22 => ?_) (fun q22 => ?_)
            ·
              refine hxa_iconst (by rfl) rfl ?_
              exact hxa_ireturn (by rfl) (by rfl) (hP _ _ ⟨hA20, _, rfl, by omega⟩)
            ·
              refine hxa_iconst (by rfl) rfl ?_
              refine hxa_goto (by rfl) ?_
              exact hxa_ireturn (by rfl) (by rfl) (hP _ _ ⟨hA20, _, rfl, by omega⟩)
      ·
        refine hxa_aload_n (by rfl) rfl ?_
        refine hxa_iconst (by rfl) rfl ?_
        refine hxa_call0 (by rfl) (by rfl) (by rfl) (by rfl) (by rfl) (by rfl) (hX39q2 (d := d + 16) hA (Int32.ofNat 1)) ?_
        rintro _ A23 ⟨hA23, frA23_0, frA23_1, frA23_2, frA23_3, z24, rfl, fz24⟩
        exact hxa_ireturn (by rfl) (hn_fitB (by omega) (by omega)) (hP _ _ ⟨hA23, _, rfl, by omega⟩)
  ·
    refine hxa_aload_n (by rfl) rfl ?_
    refine hxj_getT (by rfl) (by rfl) (by rfl) hA.rt2 ?_
    refine hxa_get (v := .ref 16) (by rfl) (by rfl) (by rfl) rfl ?_
    refine hxa_iconst (by rfl) rfl ?_
    refine hxa_aload_n (by rfl) rfl ?_
    refine hxa_get (v := .ref 22) (by rfl) (by rfl) (by rfl) rfl ?_
    refine hxa_get (v := .ref 24) (by rfl) (by rfl) (by rfl) rfl ?_
    refine hxa_aload_n (by rfl) rfl ?_
    refine hxj_getB (by rfl) (by rfl) (by rfl) hA (by rfl) (fun z25 ez25 fz25 gz25 => ?_)
    refine hxj_lald (by rfl) (by rfl) rfl (by omega) (by omega) (fun j26 ej26 => ?_)
    refine hxa_l2i (by rfl) (hn_top (fun z27 _ => ?_))
    refine hxa_call0 (by rfl) (by rfl) (by rfl) (by rfl) (by rfl) (by rfl) (hX12q2 (d := d + 16) hA (Int32.ofNat 0) (by omega) (by omega) z27 (by omega)) ?_
    rintro _ A28 ⟨hA28, z29, rfl⟩
    refine hxa_popI (by rfl) ?_
    refine hxa_aload_n (by rfl) rfl ?_
    refine hxa_call0 (by rfl) (by rfl) (by rfl) (by rfl) (by rfl) (by rfl) (hX41q2 (d := d + 16) hA28 ) ?_
    rintro _ A30 ⟨hA30, frA30_0, frA30_1, frA30_2, z31, rfl, fz31⟩
    exact hxa_ireturn (by rfl) (hn_fitB (by omega) (by omega)) (hP _ _ ⟨hA30, _, rfl, by omega⟩)
theorem hX52q2_1 {d : Nat} {Bn Br : Int} {A0 A : hs_A} (hA : hJ 2 Bn Br A0 A)  (a1 : Int32) (p1 : 1 ≤ a1.toInt) (q1 : a1.toInt ≤ 1) : hxC (d + 18) 52 hm_m52 [.ref 21, .int a1] A (fun r A' => hJ 2 Bn Br A0 A' ∧ ∃ z : Int32, r = some (.int z) ∧ ((0 ≤ z.toInt ∧ z.toInt ≤ 1))) := hxC.of (by rfl) (hY52q2_1 hA a1 p1 q1 (fun r A' h => h))
theorem hY51q2_1 {d : Nat} {Bn Br : Int} {A0 A : hs_A} (hA : hJ 2 Bn Br A0 A)  (a1 : Int32) (p1 : 1 ≤ a1.toInt) (q1 : a1.toInt ≤ 1) {P : Option Value → hs_A → Prop} (hP : ∀ (r : Option Value) (A' : hs_A), (hJ 2 Bn Br A0 A' ∧ ∃ z : Int32, r = some (.int z) ∧ ((0 ≤ z.toInt ∧ z.toInt ≤ 1))) → P r A') : hxa (d + 18) (some (.boolean)) hm_t51 0 [.ref 21, .int a1, .retAddr 0, .retAddr 0, .retAddr 0] [] A P := by
  have k0 := hk_0
  have k1 := hk_1
  have k4 := hk_4
  have k5 := hk_5
  have L8 : ∀ (m8 : Nat) (x8_2 : Int32) (x8_3 : Int32) (x8_4 : Value) (Ac8 : hs_A) (hAc8 : hJ 2 Bn Br A0 Ac8) (bx8_2 : 0 ≤ x8_2.toInt) (cx8_2 : x8_2.toInt ≤ 1) (bx8_3 : 0 ≤ x8_3.toInt) (cx8_3 : x8_3.toInt ≤ 400) (hm8 : 400 - x8_3.toInt < (m8 : Int)), hxa (d + 18) (some (.boolean)) hm_t51 8 [.ref 21, .int a1, .int x8_2, .int x8_3, x8_4] [] Ac8 P := by
    intro m8
    induction m8 with
    | zero => intro x8_2 x8_3 x8_4 Ac8 hAc8 bx8_2 cx8_2 bx8_3 cx8_3 hm8;  exact False.elim (by omega)
    | succ m8 ih8 =>
      intro x8_2 x8_3 x8_4 Ac8 hAc8 bx8_2 cx8_2 bx8_3 cx8_3 hm8
      have L61 : ∀ (x61_4 : Int32) (y61_0 : Int32) (Ac61 : hs_A) (hAc61 : hJ 2 Bn Br A0 Ac61) (bx61_4 : 28 ≤ x61_4.toInt) (cx61_4 : x61_4.toInt ≤ 29) (by61_0 : 0 ≤ y61_0.toInt) (cy61_0 : y61_0.toInt ≤ 1) (bx8_2 : 1 ≤ x8_2.toInt) (cx8_3 : x8_3.toInt ≤ 399), hxa (d + 18) (some (.boolean)) hm_t51 61 [.ref 21, .int a1, .int x8_2, .int x8_3, .int x61_4] [.int y61_0] Ac61 P := by
        intro x61_4 y61_0 Ac61 hAc61 bx61_4 cx61_4 by61_0 cy61_0 bx8_2 cx8_3
        refine hxa_s1 (by rfl) (Or.inl ⟨_, rfl, rfl⟩) rfl ?_
        refine hxa_aload_n (by rfl) rfl ?_
        refine hxj_getT (by rfl) (by rfl) (by rfl) hAc61.rt2 ?_
        refine hxa_get (v := .ref 16) (by rfl) (by rfl) (by rfl) rfl ?_
        refine hxa_iload (by rfl) rfl ?_
        refine hxa_bipush (by rfl) rfl ?_
        refine hxj_cne (by rfl) rfl hk_28 (fun q1 => ?_) (fun q1 => ?_)
        ·
          refine hxa_iconst (by rfl) rfl ?_
          refine hxa_iconst (by rfl) rfl ?_
          refine hxa_call0 (by rfl) (by rfl) (by rfl) (by rfl) (by rfl) (by rfl) (hX12q2 (d := d + 17) hAc61 (Int32.ofNat 5) (by omega) (by omega) (Int32.ofNat 0) (by omega)) ?_
          rintro _ A2 ⟨hA2, z3, rfl⟩
          refine hxa_popI (by rfl) ?_
          refine hxj_iinc (by rfl) rfl rfl hk_1 (by omega) (by omega) (fun _ => rfl) (fun z4 ez4 => ?_)
          refine hxa_goto (by rfl) ?_
          exact ih8 y61_0 z4 (.int x61_4) A2 hA2 (by omega) (by omega) (by omega) (by omega) (by omega)
        ·
          refine hxa_iconst (by rfl) rfl ?_
          refine hxa_goto (by rfl) ?_
          refine hxa_iconst (by rfl) rfl ?_
          refine hxa_call0 (by rfl) (by rfl) (by rfl) (by rfl) (by rfl) (by rfl) (hX12q2 (d := d + 17) hAc61 (Int32.ofNat 4) (by omega) (by omega) (Int32.ofNat 0) (by omega)) ?_
          rintro _ A5 ⟨hA5, z6, rfl⟩
          refine hxa_popI (by rfl) ?_
          refine hxj_iinc (by rfl) rfl rfl hk_1 (by omega) (by omega) (fun _ => rfl) (fun z7 ez7 => ?_)
          refine hxa_goto (by rfl) ?_
          exact ih8 y61_0 z7 (.int x61_4) A5 hA5 (by omega) (by omega) (by omega) (by omega) (by omega)
      refine hxa_iload_n (by rfl) rfl ?_
      refine hxa_sipush (by rfl) rfl ?_
      refine hxj_cge (by rfl) rfl hk_400 (fun q8 => ?_) (fun q8 => ?_)
      ·
        refine hxa_iload_n (by rfl) rfl ?_
        exact hxa_ireturn (by rfl) (hn_fitB (by omega) (by omega)) (hP _ _ ⟨hAc8, _, rfl, by omega⟩)
      ·
        refine hxa_iload_n (by rfl) rfl ?_
        refine hxj_zeq (by rfl) rfl (fun q9 => ?_) (fun q9 => ?_)
        ·
          refine hxa_iload_n (by rfl) rfl ?_
          exact hxa_ireturn (by rfl) (hn_fitB (by omega) (by omega)) (hP _ _ ⟨hAc8, _, rfl, by omega⟩)
        ·
          refine hxa_aload_n (by rfl) rfl ?_
          refine hxa_call0 (by rfl) (by rfl) (by rfl) (by rfl) (by rfl) (by rfl) (hX38q2 (d := d + 17) hAc8 ) ?_
          rintro _ _ ⟨rfl, z10, rfl⟩
          refine hxa_s1 (by rfl) (Or.inr ⟨_, rfl, rfl⟩) rfl ?_
          refine hxa_iload (by rfl) rfl ?_
          refine hxa_bipush (by rfl) rfl ?_
          refine hxj_ceq (by rfl) rfl hk_28 (fun q11 => ?_) (fun q11 => ?_)
          ·
            refine hxa_aload_n (by rfl) rfl ?_
            refine hxa_call0 (by rfl) (by rfl) (by rfl) (by rfl) (by rfl) (by rfl) (hX41q2 (d := d + 17) hAc8 ) ?_
            rintro _ A12 ⟨hA12, frA12_0, frA12_1, frA12_2, z13, rfl, fz13⟩
            refine hxj_zeq (by rfl) rfl (fun q14 => ?_) (fun q14 => ?_)
            ·
              refine hxa_iconst (by rfl) rfl ?_
              exact L61 z10 (Int32.ofNat 0) A12 hA12 (by omega) (by omega) (by omega) (by omega) (by omega) (by omega)
            ·
              refine hxa_aload_n (by rfl) rfl ?_
              refine hxa_iload_n (by rfl) rfl ?_
              refine hxa_call0 (by rfl) (by rfl) (by rfl) (by rfl) (by rfl) (by rfl) (hX52q2_1 (d := d + 0) hA12 a1 (by omega) (by omega)) ?_
              rintro _ A15 ⟨hA15, z16, rfl, fz16⟩
              refine hxj_zeq (by rfl) rfl (fun q17 => ?_) (fun q17 => ?_)
              ·
                refine hxa_iconst (by rfl) rfl ?_
                exact L61 z10 (Int32.ofNat 0) A15 hA15 (by omega) (by omega) (by omega) (by omega) (by omega) (by omega)
              ·
                refine hxa_iconst (by rfl) rfl ?_
                refine hxa_goto (by rfl) ?_
                exact L61 z10 (Int32.ofNat 1) A15 hA15 (by omega) (by omega) (by omega) (by omega) (by omega) (by omega)
          ·
            refine hxa_iload (by rfl) rfl ?_
            refine hxa_bipush (by rfl) rfl ?_
            refine hxj_ceq (by rfl) rfl hk_29 (fun q18 => ?_) (fun q18 => ?_)
            ·
              refine hxa_aload_n (by rfl) rfl ?_
              refine hxa_call0 (by rfl) (by rfl) (by rfl) (by rfl) (by rfl) (by rfl) (hX41q2 (d := d + 17) hAc8 ) ?_
              rintro _ A19 ⟨hA19, frA19_0, frA19_1, frA19_2, z20, rfl, fz20⟩
              refine hxj_zeq (by rfl) rfl (fun q21 => ?_) (fun q21 => ?_)
              ·
                refine hxa_iconst (by rfl) rfl ?_
                exact L61 z10 (Int32.ofNat 0) A19 hA19 (by omega) (by omega) (by omega) (by omega) (by omega) (by omega)
              ·
                refine hxa_aload_n (by rfl) rfl ?_
                refine hxa_iload_n (by rfl) rfl ?_
                refine hxa_call0 (by rfl) (by rfl) (by rfl) (by rfl) (by rfl) (by rfl) (hX52q2_1 (d := d + 0) hA19 a1 (by omega) (by omega)) ?_
                rintro _ A22 ⟨hA22, z23, rfl, fz23⟩
                refine hxj_zeq (by rfl) rfl (fun q24 => ?_) (fun q24 => ?_)
                ·
                  refine hxa_iconst (by rfl) rfl ?_
                  exact L61 z10 (Int32.ofNat 0) A22 hA22 (by omega) (by omega) (by omega) (by omega) (by omega) (by omega)
                ·
                  refine hxa_iconst (by rfl) rfl ?_
                  refine hxa_goto (by rfl) ?_
                  exact L61 z10 (Int32.ofNat 1) A22 hA22 (by omega) (by omega) (by omega) (by omega) (by omega) (by omega)
            ·
              refine hxa_iconst (by rfl) rfl ?_
              exact hxa_ireturn (by rfl) (by rfl) (hP _ _ ⟨hAc8, _, rfl, by omega⟩)
  refine hxa_aload_n (by rfl) rfl ?_
  refine hxa_iload_n (by rfl) rfl ?_
  refine hxa_call0 (by rfl) (by rfl) (by rfl) (by rfl) (by rfl) (by rfl) (hX52q2_1 (d := d + 0) hA a1 (by omega) (by omega)) ?_
  rintro _ A25 ⟨hA25, z26, rfl, fz26⟩
  refine hxa_s1 (by rfl) (Or.inl ⟨_, rfl, rfl⟩) rfl ?_
  refine hxa_iconst (by rfl) rfl ?_
  refine hxa_s1 (by rfl) (Or.inl ⟨_, rfl, rfl⟩) rfl ?_
  exact L8 (Int.toNat (400 - 0) + 1) z26 (Int32.ofNat 0) (.retAddr 0) A25 hA25 (by omega) (by omega) (by omega) (by omega) (by omega)
theorem hX51q2_1 {d : Nat} {Bn Br : Int} {A0 A : hs_A} (hA : hJ 2 Bn Br A0 A)  (a1 : Int32) (p1 : 1 ≤ a1.toInt) (q1 : a1.toInt ≤ 1) : hxC (d + 19) 51 hm_m51 [.ref 21, .int a1] A (fun r A' => hJ 2 Bn Br A0 A' ∧ ∃ z : Int32, r = some (.int z) ∧ ((0 ≤ z.toInt ∧ z.toInt ≤ 1))) := hxC.of (by rfl) (hY51q2_1 hA a1 p1 q1 (fun r A' h => h))
theorem hY50q2_1 {d : Nat} {Bn Br : Int} {A0 A : hs_A} (hA : hJ 2 Bn Br A0 A)  (a1 : Int32) (p1 : 1 ≤ a1.toInt) (q1 : a1.toInt ≤ 1) {P : Option Value → hs_A → Prop} (hP : ∀ (r : Option Value) (A' : hs_A), (hJ 2 Bn Br A0 A' ∧ ∃ z : Int32, r = some (.int z) ∧ ((0 ≤ z.toInt ∧ z.toInt ≤ 1))) → P r A') : hxa (d + 19) (some (.boolean)) hm_t50 0 [.ref 21, .int a1, .retAddr 0, .retAddr 0, .retAddr 0] [] A P := by
  have k0 := hk_0
  have k1 := hk_1
  have k2 := hk_2
  have k3 := hk_3
  have L8 : ∀ (m8 : Nat) (x8_2 : Int32) (x8_3 : Int32) (x8_4 : Value) (Ac8 : hs_A) (hAc8 : hJ 2 Bn Br A0 Ac8) (bx8_2 : 0 ≤ x8_2.toInt) (cx8_2 : x8_2.toInt ≤ 1) (bx8_3 : 0 ≤ x8_3.toInt) (cx8_3 : x8_3.toInt ≤ 400) (hm8 : 400 - x8_3.toInt < (m8 : Int)), hxa (d + 19) (some (.boolean)) hm_t50 8 [.ref 21, .int a1, .int x8_2, .int x8_3, x8_4] [] Ac8 P := by
    intro m8
    induction m8 with
    | zero => intro x8_2 x8_3 x8_4 Ac8 hAc8 bx8_2 cx8_2 bx8_3 cx8_3 hm8;  exact False.elim (by omega)
    | succ m8 ih8 =>
      intro x8_2 x8_3 x8_4 Ac8 hAc8 bx8_2 cx8_2 bx8_3 cx8_3 hm8
      have L61 : ∀ (x61_4 : Int32) (y61_0 : Int32) (Ac61 : hs_A) (hAc61 : hJ 2 Bn Br A0 Ac61) (bx61_4 : 26 ≤ x61_4.toInt) (cx61_4 : x61_4.toInt ≤ 27) (by61_0 : 0 ≤ y61_0.toInt) (cy61_0 : y61_0.toInt ≤ 1) (bx8_2 : 1 ≤ x8_2.toInt) (cx8_3 : x8_3.toInt ≤ 399), hxa (d + 19) (some (.boolean)) hm_t50 61 [.ref 21, .int a1, .int x8_2, .int x8_3, .int x61_4] [.int y61_0] Ac61 P := by
        intro x61_4 y61_0 Ac61 hAc61 bx61_4 cx61_4 by61_0 cy61_0 bx8_2 cx8_3
        refine hxa_s1 (by rfl) (Or.inl ⟨_, rfl, rfl⟩) rfl ?_
        refine hxa_aload_n (by rfl) rfl ?_
        refine hxj_getT (by rfl) (by rfl) (by rfl) hAc61.rt2 ?_
        refine hxa_get (v := .ref 16) (by rfl) (by rfl) (by rfl) rfl ?_
        refine hxa_iload (by rfl) rfl ?_
        refine hxa_bipush (by rfl) rfl ?_
        refine hxj_cne (by rfl) rfl hk_26 (fun q1 => ?_) (fun q1 => ?_)
        ·
          refine hxa_iconst (by rfl) rfl ?_
          refine hxa_iconst (by rfl) rfl ?_
          refine hxa_call0 (by rfl) (by rfl) (by rfl) (by rfl) (by rfl) (by rfl) (hX12q2 (d := d + 18) hAc61 (Int32.ofNat 3) (by omega) (by omega) (Int32.ofNat 0) (by omega)) ?_
          rintro _ A2 ⟨hA2, z3, rfl⟩
          refine hxa_popI (by rfl) ?_
          refine hxj_iinc (by rfl) rfl rfl hk_1 (by omega) (by omega) (fun _ => rfl) (fun z4 ez4 => ?_)
          refine hxa_goto (by rfl) ?_
          exact ih8 y61_0 z4 (.int x61_4) A2 hA2 (by omega) (by omega) (by omega) (by omega) (by omega)
        ·
          refine hxa_iconst (by rfl) rfl ?_
          refine hxa_goto (by rfl) ?_
          refine hxa_iconst (by rfl) rfl ?_
          refine hxa_call0 (by rfl) (by rfl) (by rfl) (by rfl) (by rfl) (by rfl) (hX12q2 (d := d + 18) hAc61 (Int32.ofNat 2) (by omega) (by omega) (Int32.ofNat 0) (by omega)) ?_
          rintro _ A5 ⟨hA5, z6, rfl⟩
          refine hxa_popI (by rfl) ?_
          refine hxj_iinc (by rfl) rfl rfl hk_1 (by omega) (by omega) (fun _ => rfl) (fun z7 ez7 => ?_)
          refine hxa_goto (by rfl) ?_
          exact ih8 y61_0 z7 (.int x61_4) A5 hA5 (by omega) (by omega) (by omega) (by omega) (by omega)
      refine hxa_iload_n (by rfl) rfl ?_
      refine hxa_sipush (by rfl) rfl ?_
      refine hxj_cge (by rfl) rfl hk_400 (fun q8 => ?_) (fun q8 => ?_)
      ·
        refine hxa_iload_n (by rfl) rfl ?_
        exact hxa_ireturn (by rfl) (hn_fitB (by omega) (by omega)) (hP _ _ ⟨hAc8, _, rfl, by omega⟩)
      ·
        refine hxa_iload_n (by rfl) rfl ?_
        refine hxj_zeq (by rfl) rfl (fun q9 => ?_) (fun q9 => ?_)
        ·
          refine hxa_iload_n (by rfl) rfl ?_
          exact hxa_ireturn (by rfl) (hn_fitB (by omega) (by omega)) (hP _ _ ⟨hAc8, _, rfl, by omega⟩)
        ·
          refine hxa_aload_n (by rfl) rfl ?_
          refine hxa_call0 (by rfl) (by rfl) (by rfl) (by rfl) (by rfl) (by rfl) (hX38q2 (d := d + 18) hAc8 ) ?_
          rintro _ _ ⟨rfl, z10, rfl⟩
          refine hxa_s1 (by rfl) (Or.inr ⟨_, rfl, rfl⟩) rfl ?_
          refine hxa_iload (by rfl) rfl ?_
          refine hxa_bipush (by rfl) rfl ?_
          refine hxj_ceq (by rfl) rfl hk_26 (fun q11 => ?_) (fun q11 => ?_)
          ·
            refine hxa_aload_n (by rfl) rfl ?_
            refine hxa_call0 (by rfl) (by rfl) (by rfl) (by rfl) (by rfl) (by rfl) (hX41q2 (d := d + 18) hAc8 ) ?_
            rintro _ A12 ⟨hA12, frA12_0, frA12_1, frA12_2, z13, rfl, fz13⟩
            refine hxj_zeq (by rfl) rfl (fun q14 => ?_) (fun q14 => ?_)
            ·
              refine hxa_iconst (by rfl) rfl ?_
              exact L61 z10 (Int32.ofNat 0) A12 hA12 (by omega) (by omega) (by omega) (by omega) (by omega) (by omega)
            ·
              refine hxa_aload_n (by rfl) rfl ?_
              refine hxa_iload_n (by rfl) rfl ?_
              refine hxa_call0 (by rfl) (by rfl) (by rfl) (by rfl) (by rfl) (by rfl) (hX51q2_1 (d := d + 0) hA12 a1 (by omega) (by omega)) ?_
              rintro _ A15 ⟨hA15, z16, rfl, fz16⟩
              refine hxj_zeq (by rfl) rfl (fun q17 => ?_) (fun q17 => ?_)
              ·
                refine hxa_iconst (by rfl) rfl ?_
                exact L61 z10 (Int32.ofNat 0) A15 hA15 (by omega) (by omega) (by omega) (by omega) (by omega) (by omega)
              ·
                refine hxa_iconst (by rfl) rfl ?_
                refine hxa_goto (by rfl) ?_
                exact L61 z10 (Int32.ofNat 1) A15 hA15 (by omega) (by omega) (by omega) (by omega) (by omega) (by omega)
          ·
            refine hxa_iload (by rfl) rfl ?_
            refine hxa_bipush (by rfl) rfl ?_
            refine hxj_ceq (by rfl) rfl hk_27 (fun q18 => ?_) (fun q18 => ?_)
            ·
              refine hxa_aload_n (by rfl) rfl ?_
              refine hxa_call0 (by rfl) (by rfl) (by rfl) (by rfl) (by rfl) (by rfl) (hX41q2 (d := d + 18) hAc8 ) ?_
              rintro _ A19 ⟨hA19, frA19_0, frA19_1, frA19_2, z20, rfl, fz20⟩
              refine hxj_zeq (by rfl) rfl (fun q21 => ?_) (fun q21 => ?_)
              ·
                refine hxa_iconst (by rfl) rfl ?_
                exact L61 z10 (Int32.ofNat 0) A19 hA19 (by omega) (by omega) (by omega) (by omega) (by omega) (by omega)
              ·
                refine hxa_aload_n (by rfl) rfl ?_
                refine hxa_iload_n (by rfl) rfl ?_
                refine hxa_call0 (by rfl) (by rfl) (by rfl) (by rfl) (by rfl) (by rfl) (hX51q2_1 (d := d + 0) hA19 a1 (by omega) (by omega)) ?_
                rintro _ A22 ⟨hA22, z23, rfl, fz23⟩
                refine hxj_zeq (by rfl) rfl (fun q24 => ?_) (fun q24 => ?_)
                ·
                  refine hxa_iconst (by rfl) rfl ?_
                  exact L61 z10 (Int32.ofNat 0) A22 hA22 (by omega) (by omega) (by omega) (by omega) (by omega) (by omega)
                ·
                  refine hxa_iconst (by rfl) rfl ?_
                  refine hxa_goto (by rfl) ?_
                  exact L61 z10 (Int32.ofNat 1) A22 hA22 (by omega) (by omega) (by omega) (by omega) (by omega) (by omega)
            ·
              refine hxa_iconst (by rfl) rfl ?_
              exact hxa_ireturn (by rfl) (by rfl) (hP _ _ ⟨hAc8, _, rfl, by omega⟩)
  refine hxa_aload_n (by rfl) rfl ?_
  refine hxa_iload_n (by rfl) rfl ?_
  refine hxa_call0 (by rfl) (by rfl) (by rfl) (by rfl) (by rfl) (by rfl) (hX51q2_1 (d := d + 0) hA a1 (by omega) (by omega)) ?_
  rintro _ A25 ⟨hA25, z26, rfl, fz26⟩
  refine hxa_s1 (by rfl) (Or.inl ⟨_, rfl, rfl⟩) rfl ?_
  refine hxa_iconst (by rfl) rfl ?_
  refine hxa_s1 (by rfl) (Or.inl ⟨_, rfl, rfl⟩) rfl ?_
  exact L8 (Int.toNat (400 - 0) + 1) z26 (Int32.ofNat 0) (.retAddr 0) A25 hA25 (by omega) (by omega) (by omega) (by omega) (by omega)
theorem hX50q2_1 {d : Nat} {Bn Br : Int} {A0 A : hs_A} (hA : hJ 2 Bn Br A0 A)  (a1 : Int32) (p1 : 1 ≤ a1.toInt) (q1 : a1.toInt ≤ 1) : hxC (d + 20) 50 hm_m50 [.ref 21, .int a1] A (fun r A' => hJ 2 Bn Br A0 A' ∧ ∃ z : Int32, r = some (.int z) ∧ ((0 ≤ z.toInt ∧ z.toInt ≤ 1))) := hxC.of (by rfl) (hY50q2_1 hA a1 p1 q1 (fun r A' h => h))
theorem hY52q2_0 {d : Nat} {Bn Br : Int} {A0 A : hs_A} (hA : hJ 2 Bn Br A0 A)  (a1 : Int32) (p1 : 0 ≤ a1.toInt) (q1 : a1.toInt ≤ 0) {P : Option Value → hs_A → Prop} (hP : ∀ (r : Option Value) (A' : hs_A), (hJ 2 Bn Br A0 A' ∧ ∃ z : Int32, r = some (.int z) ∧ ((0 ≤ z.toInt ∧ z.toInt ≤ 1))) → P r A') : hxa (d + 20) (some (.boolean)) hm_t52 0 [.ref 21, .int a1, .retAddr 0] [] A P := by
  have k0 := hk_0
  have k1 := hk_1
  have k11 := hk_11
  have k19 := hk_19
  have k32 := hk_32
  refine hxa_aload_n (by rfl) rfl ?_
  refine hxa_call0 (by rfl) (by rfl) (by rfl) (by rfl) (by rfl) (by rfl) (hX38q2 (d := d + 19) hA ) ?_
  rintro _ _ ⟨rfl, z1, rfl⟩
  refine hxa_s1 (by rfl) (Or.inl ⟨_, rfl, rfl⟩) rfl ?_
  refine hxa_iload_n (by rfl) rfl ?_
  refine hxa_bipush (by rfl) rfl ?_
  refine hxj_cne (by rfl) rfl hk_21 (fun q2 => ?_) (fun q2 => ?_)
  ·
    refine hxa_iload_n (by rfl) rfl ?_
    refine hxa_bipush (by rfl) rfl ?_
    refine hxa_bipush (by rfl) rfl ?_
    refine hxa_call2 (by rfl) (by decide) (by rfl) (by rfl) (by rfl) (hX78 (d := d + 19)  z1 (Int32.ofNat 11) (Int32.ofNat 19)) ?_
    rintro _ _ ⟨rfl, z3, rfl, fz3⟩
    rcases fz3 with fz3 | fz3
    ·
      refine hxj_zeq (by rfl) rfl (fun q4 => False.elim (by omega)) (fun q4 => ?_)
      refine hxa_aload_n (by rfl) rfl ?_
      refine hxj_getT (by rfl) (by rfl) (by rfl) hA.rt2 ?_
      refine hxa_get (v := .ref 16) (by rfl) (by rfl) (by rfl) rfl ?_
      refine hxa_iconst (by rfl) rfl ?_
      refine hxa_iload_n (by rfl) rfl ?_
      refine hxa_bipush (by rfl) rfl ?_
      refine hxj_isub (by rfl) rfl hk_11 (by omega) (by omega) (fun z5 ez5 => ?_)
      refine hxa_call0 (by rfl) (by rfl) (by rfl) (by rfl) (by rfl) (by rfl) (hX12q2 (d := d + 19) hA (Int32.ofNat 1) (by omega) (by omega) z5 (by omega)) ?_
      rintro _ A6 ⟨hA6, z7, rfl⟩
      refine hxa_popI (by rfl) ?_
      refine hxa_aload_n (by rfl) rfl ?_
      refine hxa_call0 (by rfl) (by rfl) (by rfl) (by rfl) (by rfl) (by rfl) (hX41q2 (d := d + 19) hA6 ) ?_
      rintro _ A8 ⟨hA8, frA8_0, frA8_1, frA8_2, z9, rfl, fz9⟩
      exact hxa_ireturn (by rfl) (hn_fitB (by omega) (by omega)) (hP _ _ ⟨hA8, _, rfl, by omega⟩)
    ·
      refine hxj_zeq (by rfl) rfl (fun q10 => ?_) (fun q10 => False.elim (by omega))
      refine hxa_iload_n (by rfl) rfl ?_
      refine hxa_bipush (by rfl) rfl ?_
      refine hxj_ceq (by rfl) rfl hk_31 (fun q11 => ?_) (fun q11 => ?_)
      ·
        refine hxa_iload_n (by rfl) rfl ?_
        refine hxa_bipush (by rfl) rfl ?_
        refine hxj_clt (by rfl) rfl hk_6 (fun q12 => ?_) (fun q12 => False.elim (by omega))
        refine hxa_aload_n (by rfl) rfl ?_
        refine hxa_call0 (by rfl) (by rfl) (by rfl) (by rfl) (by rfl) (by rfl) (hX41q2 (d := d + 19) hA ) ?_
        rintro _ A13 ⟨hA13, frA13_0, frA13_1, frA13_2, z14, rfl, fz14⟩
        refine hxj_zeq (by rfl) rfl (fun q15 => ?_) (fun q15 => ?_)
        ·
          refine hxa_iconst (by rfl) rfl ?_
          exact hxa_ireturn (by rfl) (by rfl) (hP _ _ ⟨hA13, _, rfl, by omega⟩)
        ·
          refine hxa_aload_n (by rfl) rfl ?_
          refine hxa_iload_n (by rfl) rfl ?_
          refine hxa_iconst (by rfl) rfl ?_
          refine hxj_iadd (by rfl) rfl hk_1 (by omega) (by omega) (fun z16 ez16 => ?_)
          refine hxa_call0 (by rfl) (by rfl) (by rfl) (by rfl) (by rfl) (by rfl) (hX50q2_1 (d := d + 0) hA13 z16 (by omega) (by omega)) ?_
          rintro _ A17 ⟨hA17, z18, rfl, fz18⟩
          refine hxj_zeq (by rfl) rfl (fun q19 => ?_) (fun q19 => ?_)
          ·
            refine hxa_iconst (by rfl) rfl ?_
            exact hxa_ireturn (by rfl) (by rfl) (hP _ _ ⟨hA17, _, rfl, by omega⟩)
          ·
            refine hxa_aload_n (by rfl) rfl ?_
            refine hxa_bipush (by rfl) rfl ?_
            refine hxa_call0 (by rfl) (by rfl) (by rfl) (by rfl) (by rfl) (by rfl) (hX42q2 (d := d + 18) hA17 (Int32.ofNat 32)) ?_
            rintro _ A20 ⟨hA20, frA20_0, frA20_1, frA20_2, z21, rfl, fz21⟩
            refine hxj_zeq (by rfl) rfl (fun q22 => ?_) (fun q22 => ?_)
            ·
              refine hxa_iconst (by rfl) rfl ?_
              exact hxa_ireturn (by rfl) (by rfl) (hP _ _ ⟨hA20, _, rfl, by omega⟩)
            ·
              refine hxa_iconst (by rfl) rfl ?_
              refine hxa_goto (by rfl) ?_
              exact hxa_ireturn (by rfl) (by rfl) (hP _ _ ⟨hA20, _, rfl, by omega⟩)
      ·
        refine hxa_aload_n (by rfl) rfl ?_
        refine hxa_iconst (by rfl) rfl ?_
        refine hxa_call0 (by rfl) (by rfl) (by rfl) (by rfl) (by rfl) (by rfl) (hX39q2 (d := d + 19) hA (Int32.ofNat 1)) ?_
        rintro _ A23 ⟨hA23, frA23_0, frA23_1, frA23_2, frA23_3, z24, rfl, fz24⟩
        exact hxa_ireturn (by rfl) (hn_fitB (by omega) (by omega)) (hP _ _ ⟨hA23, _, rfl, by omega⟩)
  ·
    refine hxa_aload_n (by rfl) rfl ?_
    refine hxj_getT (by rfl) (by rfl) (by rfl) hA.rt2 ?_
    refine hxa_get (v := .ref 16) (by rfl) (by rfl) (by rfl) rfl ?_
    refine hxa_iconst (by rfl) rfl ?_
    refine hxa_aload_n (by rfl) rfl ?_
    refine hxa_get (v := .ref 22) (by rfl) (by rfl) (by rfl) rfl ?_
    refine hxa_get (v := .ref 24) (by rfl) (by rfl) (by rfl) rfl ?_
    refine hxa_aload_n (by rfl) rfl ?_
    refine hxj_getB (by rfl) (by rfl) (by rfl) hA (by rfl) (fun z25 ez25 fz25 gz25 => ?_)
    refine hxj_lald (by rfl) (by rfl) rfl (by omega) (by omega) (fun j26 ej26 => ?_)
    refine hxa_l2i (by rfl) (hn_top (fun z27 _ => ?_))
    refine hxa_call0 (by rfl) (by rfl) (by rfl) (by rfl) (by rfl) (by rfl) (hX12q2 (d := d + 19) hA (Int32.ofNat 0) (by omega) (by omega) z27 (by omega)) ?_
    rintro _ A28 ⟨hA28, z29, rfl⟩
    refine hxa_popI (by rfl) ?_
    refine hxa_aload_n (by rfl) rfl ?_
    refine hxa_call0 (by rfl) (by rfl) (by rfl) (by rfl) (by rfl) (by rfl) (hX41q2 (d := d + 19) hA28 ) ?_
    rintro _ A30 ⟨hA30, frA30_0, frA30_1, frA30_2, z31, rfl, fz31⟩
    exact hxa_ireturn (by rfl) (hn_fitB (by omega) (by omega)) (hP _ _ ⟨hA30, _, rfl, by omega⟩)
theorem hX52q2_0 {d : Nat} {Bn Br : Int} {A0 A : hs_A} (hA : hJ 2 Bn Br A0 A)  (a1 : Int32) (p1 : 0 ≤ a1.toInt) (q1 : a1.toInt ≤ 0) : hxC (d + 21) 52 hm_m52 [.ref 21, .int a1] A (fun r A' => hJ 2 Bn Br A0 A' ∧ ∃ z : Int32, r = some (.int z) ∧ ((0 ≤ z.toInt ∧ z.toInt ≤ 1))) := hxC.of (by rfl) (hY52q2_0 hA a1 p1 q1 (fun r A' h => h))
theorem hY51q2_0 {d : Nat} {Bn Br : Int} {A0 A : hs_A} (hA : hJ 2 Bn Br A0 A)  (a1 : Int32) (p1 : 0 ≤ a1.toInt) (q1 : a1.toInt ≤ 0) {P : Option Value → hs_A → Prop} (hP : ∀ (r : Option Value) (A' : hs_A), (hJ 2 Bn Br A0 A' ∧ ∃ z : Int32, r = some (.int z) ∧ ((0 ≤ z.toInt ∧ z.toInt ≤ 1))) → P r A') : hxa (d + 21) (some (.boolean)) hm_t51 0 [.ref 21, .int a1, .retAddr 0, .retAddr 0, .retAddr 0] [] A P := by
  have k0 := hk_0
  have k1 := hk_1
  have k4 := hk_4
  have k5 := hk_5
  have L8 : ∀ (m8 : Nat) (x8_2 : Int32) (x8_3 : Int32) (x8_4 : Value) (Ac8 : hs_A) (hAc8 : hJ 2 Bn Br A0 Ac8) (bx8_2 : 0 ≤ x8_2.toInt) (cx8_2 : x8_2.toInt ≤ 1) (bx8_3 : 0 ≤ x8_3.toInt) (cx8_3 : x8_3.toInt ≤ 400) (hm8 : 400 - x8_3.toInt < (m8 : Int)), hxa (d + 21) (some (.boolean)) hm_t51 8 [.ref 21, .int a1, .int x8_2, .int x8_3, x8_4] [] Ac8 P := by
    intro m8
    induction m8 with
    | zero => intro x8_2 x8_3 x8_4 Ac8 hAc8 bx8_2 cx8_2 bx8_3 cx8_3 hm8;  exact False.elim (by omega)
    | succ m8 ih8 =>
      intro x8_2 x8_3 x8_4 Ac8 hAc8 bx8_2 cx8_2 bx8_3 cx8_3 hm8
      have L61 : ∀ (x61_4 : Int32) (y61_0 : Int32) (Ac61 : hs_A) (hAc61 : hJ 2 Bn Br A0 Ac61) (bx61_4 : 28 ≤ x61_4.toInt) (cx61_4 : x61_4.toInt ≤ 29) (by61_0 : 0 ≤ y61_0.toInt) (cy61_0 : y61_0.toInt ≤ 1) (bx8_2 : 1 ≤ x8_2.toInt) (cx8_3 : x8_3.toInt ≤ 399), hxa (d + 21) (some (.boolean)) hm_t51 61 [.ref 21, .int a1, .int x8_2, .int x8_3, .int x61_4] [.int y61_0] Ac61 P := by
        intro x61_4 y61_0 Ac61 hAc61 bx61_4 cx61_4 by61_0 cy61_0 bx8_2 cx8_3
        refine hxa_s1 (by rfl) (Or.inl ⟨_, rfl, rfl⟩) rfl ?_
        refine hxa_aload_n (by rfl) rfl ?_
        refine hxj_getT (by rfl) (by rfl) (by rfl) hAc61.rt2 ?_
        refine hxa_get (v := .ref 16) (by rfl) (by rfl) (by rfl) rfl ?_
        refine hxa_iload (by rfl) rfl ?_
        refine hxa_bipush (by rfl) rfl ?_
        refine hxj_cne (by rfl) rfl hk_28 (fun q1 => ?_) (fun q1 => ?_)
        ·
          refine hxa_iconst (by rfl) rfl ?_
          refine hxa_iconst (by rfl) rfl ?_
          refine hxa_call0 (by rfl) (by rfl) (by rfl) (by rfl) (by rfl) (by rfl) (hX12q2 (d := d + 20) hAc61 (Int32.ofNat 5) (by omega) (by omega) (Int32.ofNat 0) (by omega)) ?_
          rintro _ A2 ⟨hA2, z3, rfl⟩
          refine hxa_popI (by rfl) ?_
          refine hxj_iinc (by rfl) rfl rfl hk_1 (by omega) (by omega) (fun _ => rfl) (fun z4 ez4 => ?_)
          refine hxa_goto (by rfl) ?_
          exact ih8 y61_0 z4 (.int x61_4) A2 hA2 (by omega) (by omega) (by omega) (by omega) (by omega)
        ·
          refine hxa_iconst (by rfl) rfl ?_
          refine hxa_goto (by rfl) ?_
          refine hxa_iconst (by rfl) rfl ?_
          refine hxa_call0 (by rfl) (by rfl) (by rfl) (by rfl) (by rfl) (by rfl) (hX12q2 (d := d + 20) hAc61 (Int32.ofNat 4) (by omega) (by omega) (Int32.ofNat 0) (by omega)) ?_
          rintro _ A5 ⟨hA5, z6, rfl⟩
          refine hxa_popI (by rfl) ?_
          refine hxj_iinc (by rfl) rfl rfl hk_1 (by omega) (by omega) (fun _ => rfl) (fun z7 ez7 => ?_)
          refine hxa_goto (by rfl) ?_
          exact ih8 y61_0 z7 (.int x61_4) A5 hA5 (by omega) (by omega) (by omega) (by omega) (by omega)
      refine hxa_iload_n (by rfl) rfl ?_
      refine hxa_sipush (by rfl) rfl ?_
      refine hxj_cge (by rfl) rfl hk_400 (fun q8 => ?_) (fun q8 => ?_)
      ·
        refine hxa_iload_n (by rfl) rfl ?_
        exact hxa_ireturn (by rfl) (hn_fitB (by omega) (by omega)) (hP _ _ ⟨hAc8, _, rfl, by omega⟩)
      ·
        refine hxa_iload_n (by rfl) rfl ?_
        refine hxj_zeq (by rfl) rfl (fun q9 => ?_) (fun q9 => ?_)
        ·
          refine hxa_iload_n (by rfl) rfl ?_
          exact hxa_ireturn (by rfl) (hn_fitB (by omega) (by omega)) (hP _ _ ⟨hAc8, _, rfl, by omega⟩)
        ·
          refine hxa_aload_n (by rfl) rfl ?_
          refine hxa_call0 (by rfl) (by rfl) (by rfl) (by rfl) (by rfl) (by rfl) (hX38q2 (d := d + 20) hAc8 ) ?_
          rintro _ _ ⟨rfl, z10, rfl⟩
          refine hxa_s1 (by rfl) (Or.inr ⟨_, rfl, rfl⟩) rfl ?_
          refine hxa_iload (by rfl) rfl ?_
          refine hxa_bipush (by rfl) rfl ?_
          refine hxj_ceq (by rfl) rfl hk_28 (fun q11 => ?_) (fun q11 => ?_)
          ·
            refine hxa_aload_n (by rfl) rfl ?_
            refine hxa_call0 (by rfl) (by rfl) (by rfl) (by rfl) (by rfl) (by rfl) (hX41q2 (d := d + 20) hAc8 ) ?_
            rintro _ A12 ⟨hA12, frA12_0, frA12_1, frA12_2, z13, rfl, fz13⟩
            refine hxj_zeq (by rfl) rfl (fun q14 => ?_) (fun q14 => ?_)
            ·
              refine hxa_iconst (by rfl) rfl ?_
              exact L61 z10 (Int32.ofNat 0) A12 hA12 (by omega) (by omega) (by omega) (by omega) (by omega) (by omega)
            ·
              refine hxa_aload_n (by rfl) rfl ?_
              refine hxa_iload_n (by rfl) rfl ?_
              refine hxa_call0 (by rfl) (by rfl) (by rfl) (by rfl) (by rfl) (by rfl) (hX52q2_0 (d := d + 0) hA12 a1 (by omega) (by omega)) ?_
              rintro _ A15 ⟨hA15, z16, rfl, fz16⟩
              refine hxj_zeq (by rfl) rfl (fun q17 => ?_) (fun q17 => ?_)
              ·
                refine hxa_iconst (by rfl) rfl ?_
                exact L61 z10 (Int32.ofNat 0) A15 hA15 (by omega) (by omega) (by omega) (by omega) (by omega) (by omega)
              ·
                refine hxa_iconst (by rfl) rfl ?_
                refine hxa_goto (by rfl) ?_
                exact L61 z10 (Int32.ofNat 1) A15 hA15 (by omega) (by omega) (by omega) (by omega) (by omega) (by omega)
          ·
            refine hxa_iload (by rfl) rfl ?_
            refine hxa_bipush (by rfl) rfl ?_
            refine hxj_ceq (by rfl) rfl hk_29 (fun q18 => ?_) (fun q18 => ?_)
            ·
              refine hxa_aload_n (by rfl) rfl ?_
              refine hxa_call0 (by rfl) (by rfl) (by rfl) (by rfl) (by rfl) (by rfl) (hX41q2 (d := d + 20) hAc8 ) ?_
              rintro _ A19 ⟨hA19, frA19_0, frA19_1, frA19_2, z20, rfl, fz20⟩
              refine hxj_zeq (by rfl) rfl (fun q21 => ?_) (fun q21 => ?_)
              ·
                refine hxa_iconst (by rfl) rfl ?_
                exact L61 z10 (Int32.ofNat 0) A19 hA19 (by omega) (by omega) (by omega) (by omega) (by omega) (by omega)
              ·
                refine hxa_aload_n (by rfl) rfl ?_
                refine hxa_iload_n (by rfl) rfl ?_
                refine hxa_call0 (by rfl) (by rfl) (by rfl) (by rfl) (by rfl) (by rfl) (hX52q2_0 (d := d + 0) hA19 a1 (by omega) (by omega)) ?_
                rintro _ A22 ⟨hA22, z23, rfl, fz23⟩
                refine hxj_zeq (by rfl) rfl (fun q24 => ?_) (fun q24 => ?_)
                ·
                  refine hxa_iconst (by rfl) rfl ?_
                  exact L61 z10 (Int32.ofNat 0) A22 hA22 (by omega) (by omega) (by omega) (by omega) (by omega) (by omega)
                ·
                  refine hxa_iconst (by rfl) rfl ?_
                  refine hxa_goto (by rfl) ?_
                  exact L61 z10 (Int32.ofNat 1) A22 hA22 (by omega) (by omega) (by omega) (by omega) (by omega) (by omega)
            ·
              refine hxa_iconst (by rfl) rfl ?_
              exact hxa_ireturn (by rfl) (by rfl) (hP _ _ ⟨hAc8, _, rfl, by omega⟩)
  refine hxa_aload_n (by rfl) rfl ?_
  refine hxa_iload_n (by rfl) rfl ?_
  refine hxa_call0 (by rfl) (by rfl) (by rfl) (by rfl) (by rfl) (by rfl) (hX52q2_0 (d := d + 0) hA a1 (by omega) (by omega)) ?_
  rintro _ A25 ⟨hA25, z26, rfl, fz26⟩
  refine hxa_s1 (by rfl) (Or.inl ⟨_, rfl, rfl⟩) rfl ?_
  refine hxa_iconst (by rfl) rfl ?_
  refine hxa_s1 (by rfl) (Or.inl ⟨_, rfl, rfl⟩) rfl ?_
  exact L8 (Int.toNat (400 - 0) + 1) z26 (Int32.ofNat 0) (.retAddr 0) A25 hA25 (by omega) (by omega) (by omega) (by omega) (by omega)
theorem hX51q2_0 {d : Nat} {Bn Br : Int} {A0 A : hs_A} (hA : hJ 2 Bn Br A0 A)  (a1 : Int32) (p1 : 0 ≤ a1.toInt) (q1 : a1.toInt ≤ 0) : hxC (d + 22) 51 hm_m51 [.ref 21, .int a1] A (fun r A' => hJ 2 Bn Br A0 A' ∧ ∃ z : Int32, r = some (.int z) ∧ ((0 ≤ z.toInt ∧ z.toInt ≤ 1))) := hxC.of (by rfl) (hY51q2_0 hA a1 p1 q1 (fun r A' h => h))
