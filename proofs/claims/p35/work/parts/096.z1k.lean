theorem hY50q2_0 {d : Nat} {Bn Br : Int} {A0 A : hs_A} (hA : hJ 2 Bn Br A0 A)  (a1 : Int32) (p1 : 0 ≤ a1.toInt) (q1 : a1.toInt ≤ 0) {P : Option Value → hs_A → Prop} (hP : ∀ (r : Option Value) (A' : hs_A), (hJ 2 Bn Br A0 A' ∧ ∃ z : Int32, r = some (.int z) ∧ ((0 ≤ z.toInt ∧ z.toInt ≤ 1))) → P r A') : hxa (d + 22) (some (.boolean)) hm_t50 0 [.ref 21, .int a1, .retAddr 0, .retAddr 0, .retAddr 0] [] A P := by
  have k0 := hk_0
  have k1 := hk_1
  have k2 := hk_2
  have k3 := hk_3
  have L8 : ∀ (m8 : Nat) (x8_2 : Int32) (x8_3 : Int32) (x8_4 : Value) (Ac8 : hs_A) (hAc8 : hJ 2 Bn Br A0 Ac8) (bx8_2 : 0 ≤ x8_2.toInt) (cx8_2 : x8_2.toInt ≤ 1) (bx8_3 : 0 ≤ x8_3.toInt) (cx8_3 : x8_3.toInt ≤ 400) (hm8 : 400 - x8_3.toInt < (m8 : Int)), hxa (d + 22) (some (.boolean)) hm_t50 8 [.ref 21, .int a1, .int x8_2, .int x8_3, x8_4] [] Ac8 P := by
    intro m8
    induction m8 with
    | zero => intro x8_2 x8_3 x8_4 Ac8 hAc8 bx8_2 cx8_2 bx8_3 cx8_3 hm8;  exact False.elim (by omega)
    | succ m8 ih8 =>
      intro x8_2 x8_3 x8_4 Ac8 hAc8 bx8_2 cx8_2 bx8_3 cx8_3 hm8
      have L61 : ∀ (x61_4 : Int32) (y61_0 : Int32) (Ac61 : hs_A) (hAc61 : hJ 2 Bn Br A0 Ac61) (bx61_4 : 26 ≤ x61_4.toInt) (cx61_4 : x61_4.toInt ≤ 27) (by61_0 : 0 ≤ y61_0.toInt) (cy61_0 : y61_0.toInt ≤ 1) (bx8_2 : 1 ≤ x8_2.toInt) (cx8_3 : x8_3.toInt ≤ 399), hxa (d + 22) (some (.boolean)) hm_t50 61 [.ref 21, .int a1, .int x8_2, .int x8_3, .int x61_4] [.int y61_0] Ac61 P := by
        intro x61_4 y61_0 Ac61 hAc61 bx61_4 cx61_4 by61_0 cy61_0 bx8_2 cx8_3
        refine hxa_s1 (by rfl) (Or.inl ⟨_, rfl, rfl⟩) rfl ?_
        refine hxa_aload_n (by rfl) rfl ?_
        refine hxj_getT (by rfl) (by rfl) (by rfl) hAc61.rt2 ?_
        refine hxa_get (v := .ref 16) (by rfl) (by rfl) (by rfl) rfl ?_
        refine hxa_iload (by rfl) rfl ?_
        refine hxa_bipush (by rfl) rfl ?_
        refine hxj_cne (by rfl) rfl hk_26 (fun q1 => ?_) (fun q1 => ?_)
        ·
          refine hxa_iconst (by rfl) rfl ?_
          refine hxa_iconst (by rfl) rfl ?_
          refine hxa_call0 (by rfl) (by rfl) (by rfl) (by rfl) (by rfl) (by rfl) (hX12q2 (d := d + 21) hAc61 (Int32.ofNat 3) (by omega) (by omega) (Int32.ofNat 0) (by omega)) ?_
          rintro _ A2 ⟨hA2, z3, rfl⟩
          refine hxa_popI (by rfl) ?_
          refine hxj_iinc (by rfl) rfl rfl hk_1 (by omega) (by omega) (fun _ => rfl) (fun z4 ez4 => ?_)
          refine hxa_goto (by rfl) ?_
          exact ih8 y61_0 z4 (.int x61_4) A2 hA2 (by omega) (by omega) (by omega) (by omega) (by omega)
        ·
          refine hxa_iconst (by rfl) rfl ?_
          refine hxa_goto (by rfl) ?_
          refine hxa_iconst (by rfl) rfl ?_
          refine hxa_call0 (by rfl) (by rfl) (by rfl) (by rfl) (by rfl) (by rfl) (hX12q2 (d := d + 21) hAc61 (Int32.ofNat 2) (by omega) (by omega) (Int32.ofNat 0) (by omega)) ?_
          rintro _ A5 ⟨hA5, z6, rfl⟩
          refine hxa_popI (by rfl) ?_
          refine hxj_iinc (by rfl) rfl rfl hk_1 (by omega) (by omega) (fun _ => rfl) (fun z7 ez7 => ?_)
          refine hxa_goto (by rfl) ?_
          exact ih8 y61_0 z7 (.int x61_4) A5 hA5 (by omega) (by omega) (by omega) (by omega) (by omega)
      refine hxa_iload_n (by rfl) rfl ?_
      refine hxa_sipush (by rfl) rfl ?_
      refine hxj_cge (by rfl) rfl hk_400 (fun q8 => ?_) (fun q8 => ?_)
      ·
        refine hxa_iload_n (by rfl) rfl ?_
        exact hxa_ireturn (by rfl) (hn_fitB (by omega) (by omega)) (hP _ _ ⟨hAc8, _, rfl, by omega⟩)
      ·
        refine hxa_iload_n (by rfl) rfl ?_
        refine hxj_zeq (by rfl) rfl (fun q9 => ?_) (fun q9 => ?_)
        ·
          refine hxa_iload_n (by rfl) rfl ?_
          exact hxa_ireturn (by rfl) (hn_fitB (by omega) (by omega)) (hP _ _ ⟨hAc8, _, rfl, by omega⟩)
        ·
          refine hxa_aload_n (by rfl) rfl ?_
          refine hxa_call0 (by rfl) (by rfl) (by rfl) (by rfl) (by rfl) (by rfl) (hX38q2 (d := d + 21) hAc8 ) ?_
          rintro _ _ ⟨rfl, z10, rfl⟩
          refine hxa_s1 (by rfl) (Or.inr ⟨_, rfl, rfl⟩) rfl ?_
          refine hxa_iload (by rfl) rfl ?_
          refine hxa_bipush (by rfl) rfl ?_
          refine hxj_ceq (by rfl) rfl hk_26 (fun q11 => ?_) (fun q11 => ?_)
          ·
            refine hxa_aload_n (by rfl) rfl ?_
            refine hxa_call0 (by rfl) (by rfl) (by rfl) (by rfl) (by rfl) (by rfl) (hX41q2 (d := d + 21) hAc8 ) ?_
            rintro _ A12 ⟨hA12, frA12_0, frA12_1, frA12_2, z13, rfl, fz13⟩
            refine hxj_zeq (by rfl) rfl (fun q14 => ?_) (fun q14 => ?_)
            ·
              refine hxa_iconst (by rfl) rfl ?_
              exact L61 z10 (Int32.ofNat 0) A12 hA12 (by omega) (by omega) (by omega) (by omega) (by omega) (by omega)
            ·
              refine hxa_aload_n (by rfl) rfl ?_
              refine hxa_iload_n (by rfl) rfl ?_
              refine hxa_call0 (by rfl) (by rfl) (by rfl) (by rfl) (by rfl) (by rfl) (hX51q2_0 (d := d + 0) hA12 a1 (by omega) (by omega)) ?_
              rintro _ A15 ⟨hA15, z16, rfl, fz16⟩
              refine hxj_zeq (by rfl) rfl (fun q17 => ?_) (fun q17 => ?_)
              ·
                refine hxa_iconst (by rfl) rfl ?_
                exact L61 z10 (Int32.ofNat 0) A15 hA15 (by omega) (by omega) (by omega) (by omega) (by omega) (by omega)
              ·
                refine hxa_iconst (by rfl) rfl ?_
                refine hxa_goto (by rfl) ?_
                exact L61 z10 (Int32.ofNat 1) A15 hA15 (by omega) (by omega) (by omega) (by omega) (by omega) (by omega)
          ·
            refine hxa_iload (by rfl) rfl ?_
            refine hxa_bipush (by rfl) rfl ?_
            refine hxj_ceq (by rfl) rfl hk_27 (fun q18 => ?_) (fun q18 => ?_)
            ·
              refine hxa_aload_n (by rfl) rfl ?_
              refine hxa_call0 (by rfl) (by rfl) (by rfl) (by rfl) (by rfl) (by rfl) (hX41q2 (d := d + 21) hAc8 ) ?_
              rintro _ A19 ⟨hA19, frA19_0, frA19_1, frA19_2, z20, rfl, fz20⟩
              refine hxj_zeq (by rfl) rfl (fun q21 => ?_) (fun q21 => ?_)
              ·
                refine hxa_iconst (by rfl) rfl ?_
                exact L61 z10 (Int32.ofNat 0) A19 hA19 (by omega) (by omega) (by omega) (by omega) (by omega) (by omega)
              ·
                refine hxa_aload_n (by rfl) rfl ?_
                refine hxa_iload_n (by rfl) rfl ?_
                refine hxa_call0 (by rfl) (by rfl) (by rfl) (by rfl) (by rfl) (by rfl) (hX51q2_0 (d := d + 0) hA19 a1 (by omega) (by omega)) ?_
                rintro _ A22 ⟨hA22, z23, rfl, fz23⟩
                refine hxj_zeq (by rfl) rfl (fun q24 => ?_) (fun q24 => ?_)
                ·
                  refine hxa_iconst (by rfl) rfl ?_
                  exact L61 z10 (Int32.ofNat 0) A22 hA22 (by omega) (by omega) (by omega) (by omega) (by omega) (by omega)
                ·
                  refine hxa_iconst (by rfl) rfl ?_
                  refine hxa_goto (by rfl) ?_
                  exact L61 z10 (Int32.ofNat 1) A22 hA22 (by omega) (by omega) (by omega) (by omega) (by omega) (by omega)
            ·
              refine hxa_iconst (by rfl) rfl ?_
              exact hxa_ireturn (by rfl) (by rfl) (hP _ _ ⟨hAc8, _, rfl, by omega⟩)
  refine hxa_aload_n (by rfl) rfl ?_
  refine hxa_iload_n (by rfl) rfl ?_
  refine hxa_call0 (by rfl) (by rfl) (by rfl) (by rfl) (by rfl) (by rfl) (hX51q2_0 (d := d + 0) hA a1 (by omega) (by omega)) ?_
  rintro _ A25 ⟨hA25, z26, rfl, fz26⟩
  refine hxa_s1 (by rfl) (Or.inl ⟨_, rfl, rfl⟩) rfl ?_
  refine hxa_iconst (by rfl) rfl ?_
  refine hxa_s1 (by rfl) (Or.inl ⟨_, rfl, rfl⟩) rfl ?_
  exact L8 (Int.toNat (400 - 0) + 1) z26 (Int32.ofNat 0) (.retAddr 0) A25 hA25 (by omega) (by omega) (by omega) (by omega) (by omega)
theorem hX50q2_0 {d : Nat} {Bn Br : Int} {A0 A : hs_A} (hA : hJ 2 Bn Br A0 A)  (a1 : Int32) (p1 : 0 ≤ a1.toInt) (q1 : a1.toInt ≤ 0) : hxC (d + 23) 50 hm_m50 [.ref 21, .int a1] A (fun r A' => hJ 2 Bn Br A0 A' ∧ ∃ z : Int32, r = some (.int z) ∧ ((0 ≤ z.toInt ∧ z.toInt ≤ 1))) := hxC.of (by rfl) (hY50q2_0 hA a1 p1 q1 (fun r A' h => h))
theorem hY49q2 {d : Nat} {Bn Br : Int} {A0 A : hs_A} (hA : hJ 2 Bn Br A0 A)  (a1 : Int32) (p1 : 0 ≤ a1.toInt) (q1 : a1.toInt ≤ 3) {P : Option Value → hs_A → Prop} (hP : ∀ (r : Option Value) (A' : hs_A), (hJ 2 Bn Br A0 A' ∧ ∃ z : Int32, r = some (.int z) ∧ ((0 ≤ z.toInt ∧ z.toInt ≤ 1))) → P r A') : hxa (d + 23) (some (.boolean)) hm_t49 0 [.ref 21, .int a1, .retAddr 0, .retAddr 0, .retAddr 0, .retAddr 0] [] A P := by
  have k0 := hk_0
  have k1 := hk_1
  have k10 := hk_10
  have k2 := hk_2
  have k24 := hk_24
  have k25 := hk_25
  have k30 := hk_30
  have k6 := hk_6
  have k7 := hk_7
  have k9 := hk_9
  have L152 : ∀ (x152_3 : Int32) (x152_4 : Int32) (x152_5 : Value) (Ac152 : hs_A) (hAc152 : hJ 2 Bn Br A0 Ac152) (bx152_4 : 0 ≤ x152_4.toInt) (cx152_4 : x152_4.toInt ≤ 4), hxa (d + 23) (some (.boolean)) hm_t49 152 [.ref 21, .int a1, .ref 16, .int x152_3, .int x152_4, x152_5] [] Ac152 P := by
    intro x152_3 x152_4 x152_5 Ac152 hAc152 bx152_4 cx152_4
    refine hxa_aload_n (by rfl) rfl ?_
    refine hxa_iconst (by rfl) rfl ?_
    refine hxa_call0 (by rfl) (by rfl) (by rfl) (by rfl) (by rfl) (by rfl) (hX50q2_0 (d := d + 0) hAc152 (Int32.ofNat 0) (by omega) (by omega)) ?_
    rintro _ A1 ⟨hA1, z2, rfl, fz2⟩
    refine hxj_zeq (by rfl) rfl (fun q3 => ?_) (fun q3 => ?_)
    ·
      refine hxa_iconst (by rfl) rfl ?_
      exact hxa_ireturn (by rfl) (by rfl) (hP _ _ ⟨hA1, _, rfl, by omega⟩)
    ·
      refine hxa_aload_n (by rfl) rfl ?_
      refine hxa_bipush (by rfl) rfl ?_
      refine hxa_call0 (by rfl) (by rfl) (by rfl) (by rfl) (by rfl) (by rfl) (hX42q2 (d := d + 21) hA1 (Int32.ofNat 24)) ?_
      rintro _ A4 ⟨hA4, frA4_0, frA4_1, frA4_2, z5, rfl, fz5⟩
      refine hxj_zne (by rfl) rfl (fun q6 => ?_) (fun q6 => ?_)
      ·
        refine hxa_aload_n (by rfl) rfl ?_
        refine hxa_bipush (by rfl) rfl ?_
        refine hxa_iconst (by rfl) rfl ?_
        refine hxa_call0 (by rfl) (by rfl) (by rfl) (by rfl) (by rfl) (by rfl) (hX12q2 (d := d + 22) hA4 (Int32.ofNat 7) (by omega) (by omega) (Int32.ofNat 0) (by omega)) ?_
        rintro _ A7 ⟨hA7, z8, rfl⟩
        refine hxa_popI (by rfl) ?_
        refine hxa_aload_n (by rfl) rfl ?_
        refine hxa_iload_n (by rfl) rfl ?_
        refine hxa_iload_n (by rfl) rfl ?_
        refine hxa_call0 (by rfl) (by rfl) (by rfl) (by rfl) (by rfl) (by rfl) (hX10q2 (d := d + 22) hA7 a1 (by omega) (by omega) x152_3) ?_
        rintro _ A9 ⟨hA9, rfl⟩
        refine hxa_iconst (by rfl) rfl ?_
        exact hxa_ireturn (by rfl) (by rfl) (hP _ _ ⟨hA9, _, rfl, by omega⟩)
      ·
        refine hxa_iconst (by rfl) rfl ?_
        exact hxa_ireturn (by rfl) (by rfl) (hP _ _ ⟨hA4, _, rfl, by omega⟩)
  have L34 : ∀ (m34 : Nat) (x34_3 : Int32) (x34_4 : Int32) (x34_5 : Value) (Ac34 : hs_A) (hAc34 : hJ 2 Bn Br A0 Ac34) (bx34_4 : 0 ≤ x34_4.toInt) (cx34_4 : x34_4.toInt ≤ 4) (hm34 : 4 - x34_4.toInt < (m34 : Int)), hxa (d + 23) (some (.boolean)) hm_t49 34 [.ref 21, .int a1, .ref 16, .int x34_3, .int x34_4, x34_5] [] Ac34 P := by
    intro m34
    induction m34 with
    | zero => intro x34_3 x34_4 x34_5 Ac34 hAc34 bx34_4 cx34_4 hm34; have := hn_rng x34_3; exact False.elim (by omega)
    | succ m34 ih34 =>
      intro x34_3 x34_4 x34_5 Ac34 hAc34 bx34_4 cx34_4 hm34
      refine hxa_iload (by rfl) rfl ?_
      refine hxa_iconst (by rfl) rfl ?_
      refine hxj_cgt (by rfl) rfl hk_4 (fun q10 => False.elim (by omega)) (fun q10 => ?_)
      refine hxa_aload_n (by rfl) rfl ?_
      refine hxa_call0 (by rfl) (by rfl) (by rfl) (by rfl) (by rfl) (by rfl) (hX38q2 (d := d + 22) hAc34 ) ?_
      rintro _ _ ⟨rfl, z11, rfl⟩
      refine hxa_bipush (by rfl) rfl ?_
      refine hxj_cne (by rfl) rfl hk_8 (fun q12 => ?_) (fun q12 => ?_)
      ·
        exact L152 x34_3 x34_4 (x34_5) Ac34 hAc34 (by omega) (by omega)
      ·
        refine hxa_iload (by rfl) rfl ?_
        refine hxa_iconst (by rfl) rfl ?_
        refine hxj_cne (by rfl) rfl hk_4 (fun q13 => ?_) (fun q13 => ?_)
        ·
          refine hxa_aload_n (by rfl) rfl ?_
          refine hxa_call0 (by rfl) (by rfl) (by rfl) (by rfl) (by rfl) (by rfl) (hX41q2 (d := d + 22) hAc34 ) ?_
          rintro _ A14 ⟨hA14, frA14_0, frA14_1, frA14_2, z15, rfl, fz15⟩
          refine hxj_zeq (by rfl) rfl (fun q16 => ?_) (fun q16 => ?_)
          ·
            refine hxa_iconst (by rfl) rfl ?_
            exact hxa_ireturn (by rfl) (by rfl) (hP _ _ ⟨hA14, _, rfl, by omega⟩)
          ·
            refine hxa_aload_n (by rfl) rfl ?_
            refine hxa_iconst (by rfl) rfl ?_
            refine hxa_call0 (by rfl) (by rfl) (by rfl) (by rfl) (by rfl) (by rfl) (hX50q2_0 (d := d + 0) hA14 (Int32.ofNat 0) (by omega) (by omega)) ?_
            rintro _ A17 ⟨hA17, z18, rfl, fz18⟩
            refine hxj_zeq (by rfl) rfl (fun q19 => ?_) (fun q19 => ?_)
            ·
              refine hxa_iconst (by rfl) rfl ?_
              exact hxa_ireturn (by rfl) (by rfl) (hP _ _ ⟨hA17, _, rfl, by omega⟩)
            ·
              refine hxa_aload_n (by rfl) rfl ?_
              refine hxa_bipush (by rfl) rfl ?_
              refine hxa_call0 (by rfl) (by rfl) (by rfl) (by rfl) (by rfl) (by rfl) (hX42q2 (d := d + 21) hA17 (Int32.ofNat 30)) ?_
              rintro _ A20 ⟨hA20, frA20_0, frA20_1, frA20_2, z21, rfl, fz21⟩
              refine hxj_zeq (by rfl) rfl (fun q22 => ?_) (fun q22 => ?_)
              ·
                refine hxa_iconst (by rfl) rfl ?_
                exact hxa_ireturn (by rfl) (by rfl) (hP _ _ ⟨hA20, _, rfl, by omega⟩)
              ·
                refine hxa_aload_n (by rfl) rfl ?_
                refine hxa_iconst (by rfl) rfl ?_
                refine hxa_call0 (by rfl) (by rfl) (by rfl) (by rfl) (by rfl) (by rfl) (hX50q2_0 (d := d + 0) hA20 (Int32.ofNat 0) (by omega) (by omega)) ?_
                rintro _ A23 ⟨hA23, z24, rfl, fz24⟩
                refine hxj_zeq (by rfl) rfl (fun q25 => ?_) (fun q25 => ?_)
                ·
                  refine hxa_iconst (by rfl) rfl ?_
                  exact hxa_ireturn (by rfl) (by rfl) (hP _ _ ⟨hA23, _, rfl, by omega⟩)
                ·
                  refine hxa_aload_n (by rfl) rfl ?_
                  refine hxa_bipush (by rfl) rfl ?_
                  refine hxa_call0 (by rfl) (by rfl) (by rfl) (by rfl) (by rfl) (by rfl) (hX42q2 (d := d + 21) hA23 (Int32.ofNat 9)) ?_
                  rintro _ A26 ⟨hA26, frA26_0, frA26_1, frA26_2, z27, rfl, fz27⟩
                  refine hxj_zne (by rfl) rfl (fun q28 => ?_) (fun q28 => ?_)
                  ·
                    refine hxa_aload_n (by rfl) rfl ?_
                    refine hxa_bipush (by rfl) rfl ?_
                    refine hxa_iconst (by rfl) rfl ?_
                    refine hxa_call0 (by rfl) (by rfl) (by rfl) (by rfl) (by rfl) (by rfl) (hX12q2 (d := d + 22) hA26 (Int32.ofNat 6) (by omega) (by omega) (Int32.ofNat 0) (by omega)) ?_
                    rintro _ A29 ⟨hA29, z30, rfl⟩
                    refine hxa_s1 (by rfl) (Or.inr ⟨_, rfl, rfl⟩) rfl ?_
                    refine hxa_aload_n (by rfl) rfl ?_
                    refine hxa_iconst (by rfl) rfl ?_
                    refine hxa_call0 (by rfl) (by rfl) (by rfl) (by rfl) (by rfl) (by rfl) (hX50q2_0 (d := d + 0) hA29 (Int32.ofNat 0) (by omega) (by omega)) ?_
                    rintro _ A31 ⟨hA31, z32, rfl, fz32⟩
                    refine hxj_zeq (by rfl) rfl (fun q33 => ?_) (fun q33 => ?_)
                    ·
                      refine hxa_iconst (by rfl) rfl ?_
                      exact hxa_ireturn (by rfl) (by rfl) (hP _ _ ⟨hA31, _, rfl, by omega⟩)
                    ·
                      refine hxa_aload_n (by rfl) rfl ?_
                      refine hxa_bipush (by rfl) rfl ?_
                      refine hxa_call0 (by rfl) (by rfl) (by rfl) (by rfl) (by rfl) (by rfl) (hX42q2 (d := d + 21) hA31 (Int32.ofNat 10)) ?_
                      rintro _ A34 ⟨hA34, frA34_0, frA34_1, frA34_2, z35, rfl, fz35⟩
                      refine hxj_zne (by rfl) rfl (fun q36 => ?_) (fun q36 => ?_)
                      ·
                        refine hxa_aload_n (by rfl) rfl ?_
                        refine hxa_bipush (by rfl) rfl ?_
                        refine hxa_iconst (by rfl) rfl ?_
                        refine hxa_call0 (by rfl) (by rfl) (by rfl) (by rfl) (by rfl) (by rfl) (hX12q2 (d := d + 22) hA34 (Int32.ofNat 7) (by omega) (by omega) (Int32.ofNat 0) (by omega)) ?_
                        rintro _ A37 ⟨hA37, z38, rfl⟩
                        refine hxa_popI (by rfl) ?_
                        refine hxa_aload_n (by rfl) rfl ?_
                        refine hxa_iload (by rfl) rfl ?_
                        refine hxa_call0 (by rfl) (by rfl) (by rfl) (by rfl) (by rfl) (by rfl) (hX13q2 (d := d + 22) hA37 z30) ?_
                        rintro _ A39 ⟨hA39, rfl⟩
                        refine hxj_iinc (by rfl) rfl rfl hk_1 (by omega) (by omega) (fun _ => rfl) (fun z40 ez40 => ?_)
                        refine hxa_goto (by rfl) ?_
                        exact ih34 x34_3 z40 (.int z30) A39 hA39 (by omega) (by omega) (by omega)
                      ·
                        refine hxa_iconst (by rfl) rfl ?_
                        exact hxa_ireturn (by rfl) (by rfl) (hP _ _ ⟨hA34, _, rfl, by omega⟩)
                  ·
                    refine hxa_iconst (by rfl) rfl ?_
                    exact hxa_ireturn (by rfl) (by rfl) (hP _ _ ⟨hA26, _, rfl, by omega⟩)
        ·
          refine hxa_aload_n (by rfl) rfl ?_
          refine hxa_iconst (by rfl) rfl ?_
          refine hxa_call0 (by rfl) (by rfl) (by rfl) (by rfl) (by rfl) (by rfl) (hX39q2 (d := d + 22) hAc34 (Int32.ofNat 2)) ?_
          rintro _ A41 ⟨hA41, frA41_0, frA41_1, frA41_2, frA41_3, z42, rfl, fz42⟩
          exact hxa_ireturn (by rfl) (hn_fitB (by omega) (by omega)) (hP _ _ ⟨hA41, _, rfl, by omega⟩)
  refine hxa_aload_n (by rfl) rfl ?_
  refine hxj_getT (by rfl) (by rfl) (by rfl) hA.rt2 ?_
  refine hxa_get (v := .ref 16) (by rfl) (by rfl) (by rfl) rfl ?_
  refine hxa_astore_n (by rfl) rfl ?_
  refine hxa_aload_n (by rfl) rfl ?_
  refine hxa_call0 (by rfl) (by rfl) (by rfl) (by rfl) (by rfl) (by rfl) (hX41q2 (d := d + 22) hA ) ?_
  rintro _ A43 ⟨hA43, frA43_0, frA43_1, frA43_2, z44, rfl, fz44⟩
  refine hxj_zeq (by rfl) rfl (fun q45 => ?_) (fun q45 => ?_)
  ·
    refine hxa_iconst (by rfl) rfl ?_
    exact hxa_ireturn (by rfl) (by rfl) (hP _ _ ⟨hA43, _, rfl, by omega⟩)
  ·
    refine hxa_aload_n (by rfl) rfl ?_
    refine hxa_bipush (by rfl) rfl ?_
    refine hxa_call0 (by rfl) (by rfl) (by rfl) (by rfl) (by rfl) (by rfl) (hX42q2 (d := d + 21) hA43 (Int32.ofNat 25)) ?_
    rintro _ A46 ⟨hA46, frA46_0, frA46_1, frA46_2, z47, rfl, fz47⟩
    refine hxj_zne (by rfl) rfl (fun q48 => ?_) (fun q48 => ?_)
    ·
      refine hxa_aload_n (by rfl) rfl ?_
      refine hxa_call0 (by rfl) (by rfl) (by rfl) (by rfl) (by rfl) (by rfl) (hX9q2 (d := d + 22) hA46 ) ?_
      rintro _ A49 ⟨hA49, z50, rfl⟩
      refine hxa_s1 (by rfl) (Or.inl ⟨_, rfl, rfl⟩) rfl ?_
      refine hxa_iconst (by rfl) rfl ?_
      refine hxa_s1 (by rfl) (Or.inr ⟨_, rfl, rfl⟩) rfl ?_
      exact L34 (Int.toNat (4 - 0) + 1) z50 (Int32.ofNat 0) (.retAddr 0) A49 hA49 (by omega) (by omega) (by omega)
    ·
      refine hxa_iconst (by rfl) rfl ?_
      exact hxa_ireturn (by rfl) (by rfl) (hP _ _ ⟨hA46, _, rfl, by omega⟩)
theorem hX49q2 {d : Nat} {Bn Br : Int} {A0 A : hs_A} (hA : hJ 2 Bn Br A0 A)  (a1 : Int32) (p1 : 0 ≤ a1.toInt) (q1 : a1.toInt ≤ 3) : hxC (d + 24) 49 hm_m49 [.ref 21, .int a1] A (fun r A' => hJ 2 Bn Br A0 A' ∧ ∃ z : Int32, r = some (.int z) ∧ ((0 ≤ z.toInt ∧ z.toInt ≤ 1))) := hxC.of (by rfl) (hY49q2 hA a1 p1 q1 (fun r A' h => h))
theorem hY37q2 {d : Nat} {Bn Br : Int} {A : hs_A} (hA : hJ 0 Bn Br A A)  (a3 : Int32) (p3 : 0 ≤ a3.toInt) (q3 : a3.toInt ≤ 2000) {P : Option Value → hs_A → Prop} (hP : ∀ (r : Option Value) (A' : hs_A), (hJ 2 Bn Br A A' ∧ ∃ z : Int32, r = some (.int z) ∧ (z.toInt = 0 → hPg A' 14)) → P r A') : hxa (d + 24) (some (.int)) hm_t37 0 [.ref 21, .ref 12, .ref 2, .int a3, .retAddr 0, .retAddr 0, .retAddr 0] [] A P := by
  have k0 := hk_0
  have k1 := hk_1
  have L190 : ∀ (x190_4 : Int32) (x190_5 : Int32) (x190_6 : Value) (Ac190 : hs_A) (hAc190 : hJ 2 Bn Br A Ac190) (bx190_4 : 0 ≤ x190_4.toInt) (cx190_4 : x190_4.toInt ≤ 1) (bx190_5 : 0 ≤ x190_5.toInt) (cx190_5 : x190_5.toInt ≤ 401), hxa (d + 24) (some (.int)) hm_t37 190 [.ref 21, .ref 12, .ref 2, .int a3, .int x190_4, .int x190_5, x190_6] [] Ac190 P := by
    intro x190_4 x190_5 x190_6 Ac190 hAc190 bx190_4 cx190_4 bx190_5 cx190_5
    refine hxa_aload_n (by rfl) rfl ?_
    refine hxj_getI (by rfl) (by rfl) (by rfl) (fun z1 ez1 => ?_)
    refine hxj_zne (by rfl) rfl (fun q2 => ?_) (fun q2 => ?_)
    ·
      refine hxa_aload_n (by rfl) rfl ?_
      refine hxj_getK (by rfl) (by rfl) (by rfl) ez1 ?_
      exact hxa_ireturn (by rfl) rfl (hP _ _ ⟨hAc190, _, rfl, (fun hz => absurd hz (by omega))⟩)
    ·
      refine hxa_aload_n (by rfl) rfl ?_
      refine hxa_aload_n (by rfl) rfl ?_
      refine hxj_getI (by rfl) (by rfl) (by rfl) (fun z3 ez3 => ?_)
      refine hxj_putI (by rfl) (by rfl) (by rfl) (by rfl) hAc190 (hbokN (by rfl)) (by rfl) (by rfl) (fun A4 hA4 eA4 fA4 => ?_)
      refine hxa_aload_n (by rfl) rfl ?_
      refine hxa_aload_n (by rfl) rfl ?_
      refine hxj_getI (by rfl) (by rfl) (by rfl) (fun z5 ez5 => ?_)
      refine hxj_putI (by rfl) (by rfl) (by rfl) (by rfl) hA4 (hbokN (by rfl)) (by rfl) (by rfl) (fun A6 hA6 eA6 fA6 => ?_)
      refine hxa_aload_n (by rfl) rfl ?_
      refine hxj_getK (by rfl) (by rfl) (by rfl) (hkF eA6 (by first | decide | omega) (hkS eA4)) ?_
      exact hxa_ireturn (by rfl) rfl (hP _ _ ⟨hA6, _, rfl, (fun hz => (hA6.2.2.2.2.2.2).resolve_left (fun w => w (by rw [(show A6.1 20 7 = z3 from (hkF eA6 (by first | decide | omega) (hkF eA4 (by first | decide | omega) ez3)))]; exact hz)))⟩)
  have L52 : ∀ (m52 : Nat) (x52_4 : Int32) (x52_5 : Int32) (x52_6 : Value) (Ac52 : hs_A) (hAc52 : hJ 2 Bn Br A Ac52) (bx52_4 : 0 ≤ x52_4.toInt) (cx52_4 : x52_4.toInt ≤ 1) (bx52_5 : 0 ≤ x52_5.toInt) (cx52_5 : x52_5.toInt ≤ 401) (hm52 : 401 - x52_5.toInt < (m52 : Int)), hxa (d + 24) (some (.int)) hm_t37 52 [.ref 21, .ref 12, .ref 2, .int a3, .int x52_4, .int x52_5, x52_6] [] Ac52 P := by
    intro m52
    induction m52 with
    | zero => intro x52_4 x52_5 x52_6 Ac52 hAc52 bx52_4 cx52_4 bx52_5 cx52_5 hm52;  exact False.elim (by omega)
    | succ m52 ih52 =>
      intro x52_4 x52_5 x52_6 Ac52 hAc52 bx52_4 cx52_4 bx52_5 cx52_5 hm52
      refine hxa_iload (by rfl) rfl ?_
      refine hxa_sipush (by rfl) rfl ?_
      refine hxj_cgt (by rfl) rfl hk_400 (fun q7 => ?_) (fun q7 => ?_)
      ·
        exact L190 x52_4 x52_5 (x52_6) Ac52 hAc52 (by omega) (by omega) (by omega) (by omega)
      ·
        refine hxa_iload (by rfl) rfl ?_
        refine hxj_zeq (by rfl) rfl (fun q8 => ?_) (fun q8 => ?_)
        ·
          exact L190 x52_4 x52_5 (x52_6) Ac52 hAc52 (by omega) (by omega) (by omega) (by omega)
        ·
          refine hxa_aload_n (by rfl) rfl ?_
          refine hxa_call0 (by rfl) (by rfl) (by rfl) (by rfl) (by rfl) (by rfl) (hX38q2 (d := d + 23) hAc52 ) ?_
          rintro _ _ ⟨rfl, z9, rfl⟩
          refine hxa_bipush (by rfl) rfl ?_
          refine hxj_ceq (by rfl) rfl hk_22 (fun q10 => ?_) (fun q10 => ?_)
          ·
            exact L190 x52_4 x52_5 (x52_6) Ac52 hAc52 (by omega) (by omega) (by omega) (by omega)
          ·
            refine hxa_aload_n (by rfl) rfl ?_
            refine hxa_call0 (by rfl) (by rfl) (by rfl) (by rfl) (by rfl) (by rfl) (hX38q2 (d := d + 23) hAc52 ) ?_
            rintro _ _ ⟨rfl, z11, rfl⟩
            refine hxa_s1 (by rfl) (Or.inr ⟨_, rfl, rfl⟩) rfl ?_
            refine hxa_iload (by rfl) rfl ?_
            by_cases q12 : z11.toInt = 0
            ·
              refine hxa_tabIn (by rfl) (by omega) (by omega) (by rw [q12]; rfl) (tgt := 128) (by rfl) ?_
              refine hxa_aload_n (by rfl) rfl ?_
              refine hxa_call0 (by rfl) (by rfl) (by rfl) (by rfl) (by rfl) (by rfl) (hX45q2 (d := d + 21) hAc52 ) ?_
              rintro _ A13 ⟨hA13, z14, rfl, fz14⟩
              refine hxa_s1 (by rfl) (Or.inr ⟨_, rfl, rfl⟩) rfl ?_
              refine hxa_goto (by rfl) ?_
              refine hxj_iinc (by rfl) rfl rfl hk_1 (by omega) (by omega) (fun _ => rfl) (fun z15 ez15 => ?_)
              refine hxa_goto (by rfl) ?_
              exact ih52 z14 z15 (.int z11) A13 hA13 (by omega) (by omega) (by omega) (by omega) (by omega)
            ·
              by_cases q16 : z11.toInt = 1
              ·
                refine hxa_tabIn (by rfl) (by omega) (by omega) (by rw [q16]; rfl) (tgt := 137) (by rfl) ?_
                refine hxa_aload_n (by rfl) rfl ?_
                refine hxa_call0 (by rfl) (by rfl) (by rfl) (by rfl) (by rfl) (by rfl) (hX46q2 (d := d + 21) hAc52 ) ?_
                rintro _ A17 ⟨hA17, z18, rfl, fz18⟩
                refine hxa_s1 (by rfl) (Or.inr ⟨_, rfl, rfl⟩) rfl ?_
                refine hxa_goto (by rfl) ?_
                refine hxj_iinc (by rfl) rfl rfl hk_1 (by omega) (by omega) (fun _ => rfl) (fun z19 ez19 => ?_)
                refine hxa_goto (by rfl) ?_
                exact ih52 z18 z19 (.int z11) A17 hA17 (by omega) (by omega) (by omega) (by omega) (by omega)
              ·
                by_cases q20 : z11.toInt = 2
                ·
                  refine hxa_tabIn (by rfl) (by omega) (by omega) (by rw [q20]; rfl) (tgt := 146) (by rfl) ?_
                  refine hxa_aload_n (by rfl) rfl ?_
                  refine hxa_iload (by rfl) rfl ?_
                  refine hxa_iconst (by rfl) rfl ?_
                  refine hxj_isub (by rfl) rfl hk_2 (by omega) (by omega) (fun z21 ez21 => ?_)
                  refine hxa_call0 (by rfl) (by rfl) (by rfl) (by rfl) (by rfl) (by rfl) (hX49q2 (d := d + 0) hAc52 z21 (by omega) (by omega)) ?_
                  rintro _ A22 ⟨hA22, z23, rfl, fz23⟩
                  refine hxa_s1 (by rfl) (Or.inr ⟨_, rfl, rfl⟩) rfl ?_
                  refine hxa_goto (by rfl) ?_
                  refine hxj_iinc (by rfl) rfl rfl hk_1 (by omega) (by omega) (fun _ => rfl) (fun z24 ez24 => ?_)
                  refine hxa_goto (by rfl) ?_
                  exact ih52 z23 z24 (.int z11) A22 hA22 (by omega) (by omega) (by omega) (by omega) (by omega)
                ·
                  by_cases q25 : z11.toInt = 3
                  ·
                    refine hxa_tabIn (by rfl) (by omega) (by omega) (by rw [q25]; rfl) (tgt := 146) (by rfl) ?_
                    refine hxa_aload_n (by rfl) rfl ?_
                    refine hxa_iload (by rfl) rfl ?_
                    refine hxa_iconst (by rfl) rfl ?_
                    refine hxj_isub (by rfl) rfl hk_2 (by omega) (by omega) (fun z26 ez26 => ?_)
                    refine hxa_call0 (by rfl) (by rfl) (by rfl) (by rfl) (by rfl) (by rfl) (hX49q2 (d := d + 0) hAc52 z26 (by omega) (by omega)) ?_
                    rintro _ A27 ⟨hA27, z28, rfl, fz28⟩
                    refine hxa_s1 (by rfl) (Or.inr ⟨_, rfl, rfl⟩) rfl ?_
                    refine hxa_goto (by rfl) ?_
                    refine hxj_iinc (by rfl) rfl rfl hk_1 (by omega) (by omega) (fun _ => rfl) (fun z29 ez29 => ?_)
                    refine hxa_goto (by rfl) ?_
                    exact ih52 z28 z29 (.int z11) A27 hA27 (by omega) (by omega) (by omega) (by omega) (by omega)
                  ·
                    by_cases q30 : z11.toInt = 4
                    ·
                      refine hxa_tabIn (by rfl) (by omega) (by omega) (by rw [q30]; rfl) (tgt := 146) (by rfl) ?_
                      refine hxa_aload_n (by rfl) rfl ?_
                      refine hxa_iload (by rfl) rfl ?_
                      refine hxa_iconst (by rfl) rfl ?_
                      refine hxj_isub (by rfl) rfl hk_2 (by omega) (by omega) (fun z31 ez31 => ?_)
                      refine hxa_call0 (by rfl) (by rfl) (by rfl) (by rfl) (by rfl) (by rfl) (hX49q2 (d := d + 0) hAc52 z31 (by omega) (by omega)) ?_
                      rintro _ A32 ⟨hA32, z33, rfl, fz33⟩
                      refine hxa_s1 (by rfl) (Or.inr ⟨_, rfl, rfl⟩) rfl ?_
                      refine hxa_goto (by rfl) ?_
                      refine hxj_iinc (by rfl) rfl rfl hk_1 (by omega) (by omega) (fun _ => rfl) (fun z34 ez34 => ?_)
                      refine hxa_goto (by rfl) ?_
                      exact ih52 z33 z34 (.int z11) A32 hA32 (by omega) (by omega) (by omega) (by omega) (by omega)
                    ·
                      by_cases q35 : z11.toInt = 5
                      ·
                        refine hxa_tabIn (by rfl) (by omega) (by omega) (by rw [q35]; rfl) (tgt := 146) (by rfl) ?_
                        refine hxa_aload_n (by rfl) rfl ?_
                        refine hxa_iload (by rfl) rfl ?_
                        refine hxa_iconst (by rfl) rfl ?_
                        refine hxj_isub (by rfl) rfl hk_2 (by omega) (by omega) (fun z36 ez36 => ?_)
                        refine hxa_call0 (by rfl) (by rfl) (by rfl) (by rfl) (by rfl) (by rfl) (hX49q2 (d := d + 0) hAc52 z36 (by omega) (by omega)) ?_
                        rintro _ A37 ⟨hA37, z38, rfl, fz38⟩
                        refine hxa_s1 (by rfl) (Or.inr ⟨_, rfl, rfl⟩) rfl ?_
                        refine hxa_goto (by rfl) ?_
                        refine hxj_iinc (by rfl) rfl rfl hk_1 (by omega) (by omega) (fun _ => rfl) (fun z39 ez39 => ?_)
                        refine hxa_goto (by rfl) ?_
                        exact ih52 z38 z39 (.int z11) A37 hA37 (by omega) (by omega) (by omega) (by omega) (by omega)
                      ·
                        by_cases q40 : z11.toInt = 6
                        ·
                          refine hxa_tabIn (by rfl) (by omega) (by omega) (by rw [q40]; rfl) (tgt := 159) (by rfl) ?_
                          refine hxa_aload_n (by rfl) rfl ?_
                          refine hxa_call0 (by rfl) (by rfl) (by rfl) (by rfl) (by rfl) (by rfl) (hX47q2 (d := d + 21) hAc52 ) ?_
                          rintro _ A41 ⟨hA41, z42, rfl, fz42⟩
                          refine hxa_s1 (by rfl) (Or.inr ⟨_, rfl, rfl⟩) rfl ?_
                          refine hxa_goto (by rfl) ?_
                          refine hxj_iinc (by rfl) rfl rfl hk_1 (by omega) (by omega) (fun _ => rfl) (fun z43 ez43 => ?_)
                          refine hxa_goto (by rfl) ?_
                          exact ih52 z42 z43 (.int z11) A41 hA41 (by omega) (by omega) (by omega) (by omega) (by omega)
                        ·
                          by_cases q44 : z11.toInt = 7
                          ·
                            refine hxa_tabIn (by rfl) (by omega) (by omega) (by rw [q44]; rfl) (tgt := 168) (by rfl) ?_
                            refine hxa_aload_n (by rfl) rfl ?_
                            refine hxa_call0 (by rfl) (by rfl) (by rfl) (by rfl) (by rfl) (by rfl) (hX48q2 (d := d + 21) hAc52 ) ?_
                            rintro _ A45 ⟨hA45, z46, rfl, fz46⟩
                            refine hxa_s1 (by rfl) (Or.inr ⟨_, rfl, rfl⟩) rfl ?_
                            refine hxa_goto (by rfl) ?_
                            refine hxj_iinc (by rfl) rfl rfl hk_1 (by omega) (by omega) (fun _ => rfl) (fun z47 ez47 => ?_)
                            refine hxa_goto (by rfl) ?_
                            exact ih52 z46 z47 (.int z11) A45 hA45 (by omega) (by omega) (by omega) (by omega) (by omega)
                          ·
                            refine hxa_tabOut (by rfl) (by omega) (tgt := 177) (by rfl) ?_
                            refine hxa_aload_n (by rfl) rfl ?_
                            refine hxa_iconst (by rfl) rfl ?_
                            refine hxa_call0 (by rfl) (by rfl) (by rfl) (by rfl) (by rfl) (by rfl) (hX39q2 (d := d + 23) hAc52 (Int32.ofNat 1)) ?_
                            rintro _ A48 ⟨hA48, frA48_0, frA48_1, frA48_2, frA48_3, z49, rfl, fz49⟩
                            refine hxa_s1 (by rfl) (Or.inr ⟨_, rfl, rfl⟩) rfl ?_
                            refine hxj_iinc (by rfl) rfl rfl hk_1 (by omega) (by omega) (fun _ => rfl) (fun z50 ez50 => ?_)
                            refine hxa_goto (by rfl) ?_
                            exact ih52 z49 z50 (.int z11) A48 hA48 (by omega) (by omega) (by omega) (by omega) (by omega)
  refine hxa_aload_n (by rfl) rfl ?_
  refine hxa_aload_n (by rfl) rfl ?_
  refine hxj_putRT (Q := 9) (T := 11) (by rfl) (by exact Or.inr rfl) hA (by omega) (fun A51 hA51 eA51 => ?_)
  refine hxa_aload_n (by rfl) rfl ?_
  refine hxj_getT (by rfl) (by rfl) (by rfl) hA51.rt9 ?_
  refine hxa_call0 (by rfl) (by rfl) (by rfl) (by rfl) (by rfl) (by rfl) (hX54q7 (d := d + 21) hA51 ) ?_
  rintro _ A52 ⟨hA52, rfl⟩
  refine hxa_aload_n (by rfl) rfl ?_
  refine hxa_get (v := .ref 22) (by rfl) (by rfl) (by rfl) rfl ?_
  refine hxa_aload_n (by rfl) rfl ?_
  refine hxa_iload_n (by rfl) rfl ?_
  refine hxa_call0 (by rfl) (by rfl) (by rfl) (by rfl) (by rfl) (by rfl) (hX58q7 (d := d + 20) hA52 a3 (by omega) (by omega)) ?_
  rintro _ A53 ⟨hA53, rfl⟩
  refine hxa_aload_n (by rfl) rfl ?_
  refine hxa_iconst (by rfl) rfl ?_
  refine hxj_putI (by rfl) (by rfl) (by rfl) (by rfl) hA53 (hbok (by rfl) hk_0 (by omega) (by omega)) (by rfl) (by rfl) (fun A54 hA54 eA54 fA54 => ?_)
  refine hxa_aload_n (by rfl) rfl ?_
  refine hxa_iconst (by rfl) rfl ?_
  refine hxj_putI (by rfl) (by rfl) (by rfl) (by rfl) hA54 (hbokN (by rfl)) (by rfl) (by rfl) (fun A55 hA55 eA55 fA55 => ?_)
  refine hxa_aload_n (by rfl) rfl ?_
  refine hxa_iconst (by rfl) rfl ?_
  refine hxj_putI (by rfl) (by rfl) (by rfl) (by rfl) hA55 (hbokN (by rfl)) (by rfl) (by rfl) (fun A56 hA56 eA56 fA56 => ?_)
  refine hxa_aload_n (by rfl) rfl ?_
  refine hxa_iconst (by rfl) rfl ?_
  refine hxj_putI (by rfl) (by rfl) (by rfl) (by rfl) hA56 (hbokN (by rfl)) (by rfl) (by rfl) (fun A57 hA57 eA57 fA57 => ?_)
  have H58 := hA57.to2
  refine hxa_aload_n (by rfl) rfl ?_
  refine hxa_iconst (by rfl) rfl ?_
  refine hxj_putI (by rfl) (by rfl) (by rfl) (by rfl) H58 (hbokN (by rfl)) (by rfl) (by rfl) (fun A59 hA59 eA59 fA59 => ?_)
  refine hxa_iconst (by rfl) rfl ?_
  refine hxa_s1 (by rfl) (Or.inr ⟨_, rfl, rfl⟩) rfl ?_
  refine hxa_iconst (by rfl) rfl ?_
  refine hxa_s1 (by rfl) (Or.inr ⟨_, rfl, rfl⟩) rfl ?_
  exact L52 (Int.toNat (401 - 0) + 1) (Int32.ofNat 1) (Int32.ofNat 0) (.retAddr 0) A59 hA59 (by omega) (by omega) (by omega) (by omega) (by omega)
theorem hX37q2 {d : Nat} {Bn Br : Int} {A : hs_A} (hA : hJ 0 Bn Br A A)  (a3 : Int32) (p3 : 0 ≤ a3.toInt) (q3 : a3.toInt ≤ 2000) : hxC (d + 25) 37 hm_m37 [.ref 21, .ref 12, .ref 2, .int a3] A (fun r A' => hJ 2 Bn Br A A' ∧ ∃ z : Int32, r = some (.int z) ∧ (z.toInt = 0 → hPg A' 14)) := hxC.of (by rfl) (hY37q2 hA a3 p3 q3 (fun r A' h => h))
/-! THE MODEL'S READING: rows of its modes -/
theorem hafA {A A' : hs_A} {c c' j : Nat} {x : Int32} {B : Nat → Int32} (f : A'.2.1 = hs_up A.2.1 c' j x) (hne : ¬ c = c') (h : A.2.1 c = B) : A'.2.1 c = B := by
  rw [f, ← h]
  funext k
  exact hup2 (fun e => hne e.1)
theorem hafF {A A' : hs_A} {c : Nat} {B : Nat → Int32} (f : A'.2 = A.2) (h : A.2.1 c = B) : A'.2.1 c = B := by rw [f]; exact h
theorem hafL {A A' : hs_A} {c : Nat} {B : Nat → Int32} (f : A'.2.1 = A.2.1) (h : A.2.1 c = B) : A'.2.1 c = B := by rw [f]; exact h
section HEL
variable {b c j : Nat} {A A' A2 : hs_A} {x : Int32}
theorem helF {v : Int32} (f : A2.2 = A'.2) (h : A'.2.1 c b = v) : A2.2.1 c b = v := by rw [f]; exact h
theorem helE {v : Int32} (f : A2.2.1 = A'.2.1) (h : A'.2.1 c b = v) : A2.2.1 c b = v := by rw [f]; exact h
theorem helA {v : Int32} {c' : Nat} (f : A2.2.1 = hs_up A'.2.1 c' j x) (hne : ¬ c = c') (h : A'.2.1 c b = v) : A2.2.1 c b = v := by rw [f, hup2 (fun e => hne e.1)]; exact h
theorem helS (f : A2.2.1 = hs_up A'.2.1 c j x) : A2.2.1 c j = x := by rw [f, hup1]
theorem helX {v : Int32} (f : A2.2.1 c = A'.2.1 c) (h : A'.2.1 c b = v) : A2.2.1 c b = v := by rw [f]; exact h
end HEL
noncomputable def hby (A : hs_A) (a : Int32) : Int32 := if a.toInt < (A.1 367 4).toInt then A.2.1 369 a.toNatClampNeg &&& Int32.ofNat 255 else Int32.ofNat 0
theorem hby_c {A : hs_A} {a b : Int32} (h : a.toInt = b.toInt) : hby A a = hby A b := by rw [Int32.toInt_inj.mp h]
theorem hlrA {L l ej : Int} {c : Nat} {j : Int32} (hl : L = l) (hj : j.toInt = ej) (h0 : 0 ≤ ej) (h : ej < 4 * l ∨ 4 * l + 4 ≤ ej) (hc : c = 383 ∨ c = 384) : ¬ hlr L c j.toNatClampNeg := by
  subst hj
  have := hn_cn h0
  unfold hlr
  omega
theorem hlrB {L l ej : Int} {c : Nat} {j : Int32} (hl : L = l) (hj : j.toInt = ej) (h0 : 0 ≤ ej) (h : ej < 130 * l ∨ 130 * l + 130 ≤ ej) (hc : 385 ≤ c ∧ c ≤ 389) : ¬ hlr L c j.toNatClampNeg := by
  subst hj
  have := hn_cn h0
  unfold hlr
  omega
theorem hlrC {L l ej : Int} {c : Nat} {j : Int32} (hl : L = l) (hj : j.toInt = ej) (h0 : 0 ≤ ej) (h : ej < 420 * l ∨ 420 * l + 420 ≤ ej) (hc : c = 390 ∨ c = 391) : ¬ hlr L c j.toNatClampNeg := by
  subst hj
  have := hn_cn h0
  unfold hlr
  omega
section HPM
variable {d : Nat} {ret : Option FieldType} {tb : hc_K} {pc len r1 r2 : Nat} {l st : List Value} {A : hs_A} {P : Option Value → hs_A → Prop} {Q : Nat} {Bn Br : Int} {A0 : hs_A}
theorem hJ.setE {i j : Nat} {x : Int32} (h : hJ Q Bn Br A0 A) (hQ : Q = 4 ∨ Q = 5) (hi : 383 ≤ i ∧ i ≤ 391) (hne : ¬ hlr (A0.1 367 18).toInt i j) : hJ Q Bn Br A0 (A.1, hs_up A.2.1 i j x, A.2.2) := by
  have hm : hEm A0 A → hEm A0 (A.1, hs_up A.2.1 i j x, A.2.2) := fun w c k hl => by
    show hs_up A.2.1 i j x c k = _
    rw [hup2 (fun e => by obtain ⟨rfl, rfl⟩ := e; exact hne hl)]
    exact w c k hl
  have hi' : i = 383 ∨ i = 384 ∨ i = 385 ∨ i = 386 ∨ i = 387 ∨ i = 388 ∨ i = 389 ∨ i = 390 ∨ i = 391 := by omega
  have hb : hb_a i = none := by rcases hi' with rfl | rfl | rfl | rfl | rfl | rfl | rfl | rfl | rfl <;> rfl
  have hn : hq0 i = true := by rcases hi' with rfl | rfl | rfl | rfl | rfl | rfl | rfl | rfl | rfl <;> rfl
  rcases hQ with rfl | rfl
  · exact h.setG (hbokN hb) (by rcases hi' with rfl | rfl | rfl | rfl | rfl | rfl | rfl | rfl | rfl <;> rfl) hn (hm h.2.2.2.2)
  · exact h.setG (hbokN hb) (by rcases hi' with rfl | rfl | rfl | rfl | rfl | rfl | rfl | rfl | rfl <;> rfl) hn (hm h.2.2.2.2)
theorem hxj_iastE {i m : Nat} {j x : Int32} {ej : Int} (hI : hc_get tb pc = some (.iastore, len, r1, r2)) (hs : hc_get hs_sh i = some (0, 1, [m])) (hj : j.toInt = ej) (h0 : 0 ≤ ej) (h1 : ej < (m : Int)) (hA : hJ Q Bn Br A0 A) (hQ : (Q = 4 ∨ Q = 5) ∧ 383 ≤ i ∧ i ≤ 391) (hne : ¬ hlr (A0.1 367 18).toInt i j.toNatClampNeg) (k : ∀ A' : hs_A, hJ Q Bn Br A0 A' → A'.1 = A.1 → A'.2.1 = hs_up A.2.1 i j.toNatClampNeg x → A'.2.2 = A.2.2 → hxa d ret tb (pc + 1) l st A' P) : hxa d ret tb pc l (.int x :: .int j :: .ref (i + 1) :: st) A P := by
  subst hj
  exact hxa_iast hI hs (hn_ix h0 h1).1 (hn_ix h0 h1).2 (k _ (hA.setE hQ.1 hQ.2 hne) rfl rfl rfl)
theorem hxj_zastE {i m : Nat} {j x : Int32} {ej ex : Int} (hI : hc_get tb pc = some (.bastore, len, r1, r2)) (hs : hc_get hs_sh i = some (0, 3, [m])) (hj : j.toInt = ej) (h0 : 0 ≤ ej) (h1 : ej < (m : Int)) (hx0 : x.toInt = ex) (hx1 : 0 ≤ ex) (hx2 : ex ≤ 1) (hA : hJ Q Bn Br A0 A) (hQ : (Q = 4 ∨ Q = 5) ∧ 383 ≤ i ∧ i ≤ 391) (hne : ¬ hlr (A0.1 367 18).toInt i j.toNatClampNeg) (k : ∀ A' : hs_A, hJ Q Bn Br A0 A' → A'.1 = A.1 → A'.2.1 = hs_up A.2.1 i j.toNatClampNeg x → A'.2.2 = A.2.2 → hxa d ret tb (pc + 1) l st A' P) : hxa d ret tb pc l (.int x :: .int j :: .ref (i + 1) :: st) A P := by
  subst hj
  subst hx0
  exact hxa_zast hI (hn_01 hx1 hx2) hs (hn_ix h0 h1).1 (hn_ix h0 h1).2 (k _ (hA.setE hQ.1 hQ.2 hne) rfl rfl rfl)
theorem hxj_ialdK {i m : Nat} {j v : Int32} {ej : Int} (hI : hc_get tb pc = some (.iaload, len, r1, r2)) (hs : hc_get hs_sh i = some (0, 1, [m])) (hj : j.toInt = ej) (h0 : 0 ≤ ej) (h1 : ej < (m : Int)) (e : A.2.1 i j.toNatClampNeg = v) (k : hxa d ret tb (pc + 1) l (.int v :: st) A P) : hxa d ret tb pc l (.int j :: .ref (i + 1) :: st) A P := by
  subst hj
  subst e
  exact hxa_iald hI hs (hn_ix h0 h1).1 (hn_ix h0 h1).2 k
theorem hxj_bast {i m : Nat} {j x : Int32} {ej : Int} (hI : hc_get tb pc = some (.bastore, len, r1, r2)) (hs : hc_get hs_sh i = some (0, 0, [m])) (hj : j.toInt = ej) (h0 : 0 ≤ ej) (h1 : ej < (m : Int)) (hA : hJ Q Bn Br A0 A) (hb : hb_a i = none) (hr : hr_a Q i = true) (hn : hq Q i = true) (k : ∀ A' : hs_A, hJ Q Bn Br A0 A' → A'.1 = A.1 → A'.2.1 = hs_up A.2.1 i j.toNatClampNeg x.toInt8.toInt32 → A'.2.2 = A.2.2 → hxa d ret tb (pc + 1) l st A' P) : hxa d ret tb pc l (.int x :: .int j :: .ref (i + 1) :: st) A P := by
  subst hj
  exact hxa_bast hI hs (hn_ix h0 h1).1 (hn_ix h0 h1).2 (k _ (hA.setI (hbokN hb) hr hn) rfl rfl rfl)
theorem hpl {A A1 A2 : hs_A} {s k0 : Int} {j j' x x' k1 : Int32} (e1 : A1.2.1 = hs_up A.2.1 383 j.toNatClampNeg x) (e2 : A2.2.1 = hs_up A1.2.1 384 j'.toNatClampNeg x') (hx : x = x') (hj : j.toInt = 4 * s + k0) (hj' : j'.toInt = 4 * s + k0) (h0 : 0 ≤ 4 * s + k0) (hk : k1.toInt = k0 + 1) (u : ∀ a : Nat, 4 * s ≤ a → (a : Int) < 4 * s + k0 → (A.2.1 383 a).toInt = (A.2.1 384 a).toInt) : ∀ a : Nat, 4 * s ≤ a → (a : Int) < 4 * s + k1.toInt → (A2.2.1 383 a).toInt = (A2.2.1 384 a).toInt := by
  intro a h1 h2
  have c1 := hn_cn (j := j) (by omega)
  have c2 := hn_cn (j := j') (by omega)
  have ej : j.toNatClampNeg = j'.toNatClampNeg := by omega
  rw [e2, hup2 (a := 383) (by omega), e1]
  by_cases q : a = j.toNatClampNeg
  · subst q
    rw [hup1, ej, hup1, hx]
  · rw [hup2 (fun w => q w.2), hup2 (fun w => q (w.2.trans ej.symm)), hup2 (by omega)]
    exact u a h1 (by omega)
end HPM
theorem hY137 {d : Nat} {A : hs_A} (a1 : Int32) {P : Option Value → hs_A → Prop} (hP : ∀ (r : Option Value) (A' : hs_A), (A = A' ∧ ∃ z : Int32, r = some (.int z) ∧ ((z.toInt = 1 ∧ 48 ≤ a1.toInt ∧ a1.toInt ≤ 57) ∨ (z.toInt = 0))) → P r A') : hxa (d + 0) (some (.boolean)) hm_t137 0 [.int a1] [] A P := by
  have k0 := hk_0
  have k1 := hk_1
  refine hxa_iload_n (by rfl) rfl ?_
  refine hxa_bipush (by rfl) rfl ?_
  refine hxj_clt (by rfl) rfl hk_48 (fun q1 => ?_) (fun q1 => ?_)
  ·
    refine hxa_iconst (by rfl) rfl ?_
    exact hxa_ireturn (by rfl) (by rfl) (hP _ _ ⟨rfl, _, rfl, by omega⟩)
  ·
    refine hxa_iload_n (by rfl) rfl ?_
    refine hxa_bipush (by rfl) rfl ?_
    refine hxj_cgt (by rfl) rfl hk_57 (fun q2 => ?_) (fun q2 => ?_)
    ·
      refine hxa_iconst (by rfl) rfl ?_
      exact hxa_ireturn (by rfl) (by rfl) (hP _ _ ⟨rfl, _, rfl, by omega⟩)
    ·
      refine hxa_iconst (by rfl) rfl ?_
      refine hxa_goto (by rfl) ?_
      exact hxa_ireturn (by rfl) (by rfl) (hP _ _ ⟨rfl, _, rfl, by omega⟩)
theorem hX137 {d : Nat} {A : hs_A} (a1 : Int32) : hxC (d + 1) 137 hm_m137 [.int a1] A (fun r A' => A = A' ∧ ∃ z : Int32, r = some (.int z) ∧ ((z.toInt = 1 ∧ 48 ≤ a1.toInt ∧ a1.toInt ≤ 57) ∨ (z.toInt = 0))) := hxC.of (by rfl) (hY137 a1 (fun r A' h => h))
theorem hY138 {d : Nat} {A : hs_A} (a1 : Int32) {P : Option Value → hs_A → Prop} (hP : ∀ (r : Option Value) (A' : hs_A), (A = A' ∧ ∃ z : Int32, r = some (.int z) ∧ ((z.toInt = 1 ∧ 97 ≤ a1.toInt ∧ a1.toInt ≤ 122) ∨ (z.toInt = 0))) → P r A') : hxa (d + 0) (some (.boolean)) hm_t138 0 [.int a1] [] A P := by
  have k0 := hk_0
  have k1 := hk_1
  refine hxa_iload_n (by rfl) rfl ?_
  refine hxa_bipush (by rfl) rfl ?_
  refine hxj_clt (by rfl) rfl hk_97 (fun q1 => ?_) (fun q1 => ?_)
  ·
    refine hxa_iconst (by rfl) rfl ?_
    exact hxa_ireturn (by rfl) (by rfl) (hP _ _ ⟨rfl, _, rfl, by omega⟩)
  ·
    refine hxa_iload_n (by rfl) rfl ?_
    refine hxa_bipush (by rfl) rfl ?_
    refine hxj_cgt (by rfl) rfl hk_122 (fun q2 => ?_) (fun q2 => ?_)
    ·
      refine hxa_iconst (by rfl) rfl ?_
      exact hxa_ireturn (by rfl) (by rfl) (hP _ _ ⟨rfl, _, rfl, by omega⟩)
    ·
      refine hxa_iconst (by rfl) rfl ?_
      refine hxa_goto (by rfl) ?_
      exact hxa_ireturn (by rfl) (by rfl) (hP _ _ ⟨rfl, _, rfl, by omega⟩)
theorem hX138 {d : Nat} {A : hs_A} (a1 : Int32) : hxC (d + 1) 138 hm_m138 [.int a1] A (fun r A' => A = A' ∧ ∃ z : Int32, r = some (.int z) ∧ ((z.toInt = 1 ∧ 97 ≤ a1.toInt ∧ a1.toInt ≤ 122) ∨ (z.toInt = 0))) := hxC.of (by rfl) (hY138 a1 (fun r A' h => h))
theorem hY139 {d : Nat} {A : hs_A} (a1 : Int64) (a2 : Int32) {P : Option Value → hs_A → Prop} (hP : ∀ (r : Option Value) (A' : hs_A), (A = A' ∧ ∃ z : Int64, r = some (.long z)) → P r A') : hxa (d + 0) (some (.long)) hm_t139 0 [.long a1, .double 0, .int a2] [] A P := by
  refine hxa_iload_n (by rfl) rfl ?_
  refine hxj_zne (by rfl) rfl (fun q1 => ?_) (fun q1 => ?_)
  ·
    refine hxa_ldc2_w (by rfl) rfl ?_
    refine hxa_lload_n (by rfl) rfl ?_
    refine hxa_lmul (by rfl) ?_
    refine hxa_iload_n (by rfl) rfl ?_
    refine hxa_bipush (by rfl) rfl ?_
    refine hxj_isubU (by rfl) (fun z2 => ?_)
    refine hxa_iconst (by rfl) rfl ?_
    refine hxj_iaddU (by rfl) (fun z3 => ?_)
    refine hxa_i2l (by rfl) ?_
    refine hxa_ladd (by rfl) ?_
    exact hxa_lreturn (by rfl) rfl (hP _ _ ⟨rfl, _, rfl⟩)
  ·
    refine hxa_lload_n (by rfl) rfl ?_
    refine hxa_goto (by rfl) ?_
    exact hxa_lreturn (by rfl) rfl (hP _ _ ⟨rfl, _, rfl⟩)
theorem hX139 {d : Nat} {A : hs_A} (a1 : Int64) (a2 : Int32) : hxC (d + 1) 139 hm_m139 [.long a1, .int a2] A (fun r A' => A = A' ∧ ∃ z : Int64, r = some (.long z)) := hxC.of (by rfl) (hY139 a1 a2 (fun r A' h => h))
theorem hY145q4 {d : Nat} {Bn Br : Int} {A0 A : hs_A} (hA : hJ 4 Bn Br A0 A)  (a1 : Int32) (p1 : 1 ≤ a1.toInt) (q1 : a1.toInt ≤ 2) {P : Option Value → hs_A → Prop} (hP : ∀ (r : Option Value) (A' : hs_A), (hJ 4 Bn Br A0 A' ∧ A'.1 367 12 = A.1 367 12 ∧ A'.1 367 19 = A.1 367 19 ∧ A'.1 367 20 = A.1 367 20 ∧ A'.1 367 31 = A.1 367 31 ∧ A'.1 367 37 = A.1 367 37 ∧ A'.1 367 41 = A.1 367 41 ∧ A'.2.1 = A.2.1 ∧ r = none ∧ (¬ (A'.1 367 13).toInt = 0 ∧ (A'.1 367 11).toInt = (A.1 367 11).toInt)) → P r A') : hxa (d + 0) none hm_t145 0 [.ref 368, .int a1] [] A P := by
  have fb367_11 := hA.f (i := 367) (k := 11) (by rfl)
  have fb367_12 := hA.f (i := 367) (k := 12) (by rfl)
  have fb367_13 := hA.f (i := 367) (k := 13) (by rfl)
  have fb367_19 := hA.f (i := 367) (k := 19) (by rfl)
  have fb367_20 := hA.f (i := 367) (k := 20) (by rfl)
  have fb367_31 := hA.f (i := 367) (k := 31) (by rfl)
  have fb367_37 := hA.f (i := 367) (k := 37) (by rfl)
  have fb367_41 := hA.f (i := 367) (k := 41) (by rfl)
  refine hxa_aload_n (by rfl) rfl ?_
  refine hxj_getK (by rfl) (by rfl) (by rfl) rfl ?_
  refine hxj_zle (by rfl) rfl (fun q1 => ?_) (fun q1 => ?_)
  ·
    refine hxa_aload_n (by rfl) rfl ?_
    refine hxa_iload_n (by rfl) rfl ?_
    refine hxj_putI (by rfl) (by rfl) (by rfl) (by rfl) hA (hbok (by rfl) rfl (by omega) (by omega)) (by rfl) (by rfl) (fun A2 hA2 eA2 fA2 => ?_)
    refine hxa_aload_n (by rfl) rfl ?_
    refine hxa_aload_n (by rfl) rfl ?_
    refine hxa_get (v := .ref 372) (by rfl) (by rfl) (by rfl) rfl ?_
    refine hxa_aload_n (by rfl) rfl ?_
    refine hxj_getK (by rfl) (by rfl) (by rfl) (hkF eA2 (by first | decide | omega) rfl) ?_
    refine hxj_iald (by rfl) (by rfl) rfl (by omega) (by omega) (fun z3 ez3 => ?_)
    refine hxj_putI (by rfl) (by rfl) (by rfl) (by rfl) hA2 (hbokN (by rfl)) (by rfl) (by rfl) (fun A4 hA4 eA4 fA4 => ?_)
    exact hxa_return (by rfl) rfl (hP _ _ ⟨hA4, (hkF eA4 (by first | decide | omega) (hkF eA2 (by first | decide | omega) rfl)), (hkF eA4 (by first | decide | omega) (hkF eA2 (by first | decide | omega) rfl)), (hkF eA4 (by first | decide | omega) (hkF eA2 (by first | decide | omega) rfl)), (hkF eA4 (by first | decide | omega) (hkF eA2 (by first | decide | omega) rfl)), (hkF eA4 (by first | decide | omega) (hkF eA2 (by first | decide | omega) rfl)), (hkF eA4 (by first | decide | omega) (hkF eA2 (by first | decide | omega) rfl)), ((congrArg Prod.fst fA4).trans ((congrArg Prod.fst fA2).trans rfl)), rfl, by rw [(show A4.1 367 11 = (A.1 367 11) from (hkF eA4 (by first | decide | omega) (hkF eA2 (by first | decide | omega) rfl))), (show A4.1 367 13 = a1 from (hkF eA4 (by first | decide | omega) (hkS eA2)))]; omega⟩)
  ·
    exact hxa_return (by rfl) rfl (hP _ _ ⟨hA, rfl, rfl, rfl, rfl, rfl, rfl, rfl, rfl, by omega⟩)
theorem hX145q4 {d : Nat} {Bn Br : Int} {A0 A : hs_A} (hA : hJ 4 Bn Br A0 A)  (a1 : Int32) (p1 : 1 ≤ a1.toInt) (q1 : a1.toInt ≤ 2) : hxC (d + 1) 145 hm_m145 [.ref 368, .int a1] A (fun r A' => hJ 4 Bn Br A0 A' ∧ A'.1 367 12 = A.1 367 12 ∧ A'.1 367 19 = A.1 367 19 ∧ A'.1 367 20 = A.1 367 20 ∧ A'.1 367 31 = A.1 367 31 ∧ A'.1 367 37 = A.1 367 37 ∧ A'.1 367 41 = A.1 367 41 ∧ A'.2.1 = A.2.1 ∧ r = none ∧ (¬ (A'.1 367 13).toInt = 0 ∧ (A'.1 367 11).toInt = (A.1 367 11).toInt)) := hxC.of (by rfl) (hY145q4 hA a1 p1 q1 (fun r A' h => h))
theorem hY146q4 {d : Nat} {Bn Br : Int} {A0 A : hs_A} (hA : hJ 4 Bn Br A0 A)  (a1 : Int32) (a2 : Int32) (p2 : 0 ≤ a2.toInt) (q2 : a2.toInt ≤ 402) {P : Option Value → hs_A → Prop} (hP : ∀ (r : Option Value) (A' : hs_A), (hJ 4 Bn Br A0 A' ∧ A'.1 367 12 = A.1 367 12 ∧ A'.1 367 19 = A.1 367 19 ∧ A'.1 367 20 = A.1 367 20 ∧ A'.1 367 31 = A.1 367 31 ∧ A'.1 367 37 = A.1 367 37 ∧ A'.1 367 41 = A.1 367 41 ∧ A'.1 367 11 = A.1 367 11 ∧ A'.1 367 13 = A.1 367 13 ∧ A'.2.1 = A.2.1 ∧ r = none) → P r A') : hxa (d + 0) none hm_t146 0 [.ref 368, .int a1, .int a2, .retAddr 0] [] A P := by
  have fb367_11 := hA.f (i := 367) (k := 11) (by rfl)
  have fb367_12 := hA.f (i := 367) (k := 12) (by rfl)
  have fb367_13 := hA.f (i := 367) (k := 13) (by rfl)
  have fb367_19 := hA.f (i := 367) (k := 19) (by rfl)
  have fb367_20 := hA.f (i := 367) (k := 20) (by rfl)
  have fb367_31 := hA.f (i := 367) (k := 31) (by rfl)
  have fb367_37 := hA.f (i := 367) (k := 37) (by rfl)
  have fb367_41 := hA.f (i := 367) (k := 41) (by rfl)
  refine hxa_aload_n (by rfl) rfl ?_
  refine hxa_get (v := .ref 372) (by rfl) (by rfl) (by rfl) rfl ?_
  refine hxa_iload_n (by rfl) rfl ?_
  refine hxj_iald (by rfl) (by rfl) rfl (by omega) (by omega) (fun z1 ez1 => ?_)
  refine hxa_s1 (by rfl) (Or.inl ⟨_, rfl, rfl⟩) rfl ?_
  refine hxa_aload_n (by rfl) rfl ?_
  refine hxj_getK (by rfl) (by rfl) (by rfl) rfl ?_
  refine hxj_zgt (by rfl) rfl (fun q2 => ?_) (fun q2 => ?_)
  ·
    exact hxa_return (by rfl) rfl (hP _ _ ⟨hA, rfl, rfl, rfl, rfl, rfl, rfl, rfl, rfl, rfl, rfl⟩)
  ·
    refine hxa_aload_n (by rfl) rfl ?_
    refine hxj_getI (by rfl) (by rfl) (by rfl) (fun z3 ez3 => ?_)
    refine hxj_zeq (by rfl) rfl (fun q4 => ?_) (fun q4 => ?_)
    ·
      refine hxa_aload_n (by rfl) rfl ?_
      refine hxa_iload_n (by rfl) rfl ?_
      refine hxj_putI (by rfl) (by rfl) (by rfl) (by rfl) hA (hbokN (by rfl)) (by rfl) (by rfl) (fun A5 hA5 eA5 fA5 => ?_)
      refine hxa_aload_n (by rfl) rfl ?_
      refine hxa_iload_n (by rfl) rfl ?_
      refine hxj_putI (by rfl) (by rfl) (by rfl) (by rfl) hA5 (hbokN (by rfl)) (by rfl) (by rfl) (fun A6 hA6 eA6 fA6 => ?_)
      exact hxa_return (by rfl) rfl (hP _ _ ⟨hA6, (hkF eA6 (by first | decide | omega) (hkF eA5 (by first | decide | omega) rfl)), (hkF eA6 (by first | decide | omega) (hkF eA5 (by first | decide | omega) rfl)), (hkF eA6 (by first | decide | omega) (hkF eA5 (by first | decide | omega) rfl)), (hkF eA6 (by first | decide | omega) (hkF eA5 (by first | decide | omega) rfl)), (hkF eA6 (by first | decide | omega) (hkF eA5 (by first | decide | omega) rfl)), (hkF eA6 (by first | decide | omega) (hkF eA5 (by first | decide | omega) rfl)), (hkF eA6 (by first | decide | omega) (hkF eA5 (by first | decide | omega) rfl)), (hkF eA6 (by first | decide | omega) (hkF eA5 (by first | decide | omega) rfl)), ((congrArg Prod.fst fA6).trans ((congrArg Prod.fst fA5).trans rfl)), rfl⟩)
    ·
      refine hxa_iload_n (by rfl) rfl ?_
      refine hxa_aload_n (by rfl) rfl ?_
      refine hxj_getI (by rfl) (by rfl) (by rfl) (fun z7 ez7 => ?_)
      have rgz1 := hn_rng z1
      have rgz7 := hn_rng z7
      refine hxj_cgt (by rfl) rfl rfl (fun q8 => ?_) (fun q8 => ?_)
      ·
        exact hxa_return (by rfl) rfl (hP _ _ ⟨hA, rfl, rfl, rfl, rfl, rfl, rfl, rfl, rfl, rfl, rfl⟩)
      ·
        refine hxa_iload_n (by rfl) rfl ?_
        refine hxa_aload_n (by rfl) rfl ?_
        refine hxj_getK (by rfl) (by rfl) (by rfl) ez7 ?_
        refine hxj_cne (by rfl) rfl rfl (fun q9 => ?_) (fun q9 => ?_)
        ·
          refine hxa_aload_n (by rfl) rfl ?_
          refine hxa_iload_n (by rfl) rfl ?_
          refine hxj_putI (by rfl) (by rfl) (by rfl) (by rfl) hA (hbokN (by rfl)) (by rfl) (by rfl) (fun A10 hA10 eA10 fA10 => ?_)
          refine hxa_aload_n (by rfl) rfl ?_
          refine hxa_iload_n (by rfl) rfl ?_
          refine hxj_putI (by rfl) (by rfl) (by rfl) (by rfl) hA10 (hbokN (by rfl)) (by rfl) (by rfl) (fun A11 hA11 eA11 fA11 => ?_)
          exact hxa_return (by rfl) rfl (hP _ _ ⟨hA11, (hkF eA11 (by first | decide | omega) (hkF eA10 (by first | decide | omega) rfl)), (hkF eA11 (by first | decide | omega) (hkF eA10 (by first | decide | omega) rfl)), (hkF eA11 (by first | decide | omega) (hkF eA10 (by first | decide | omega) rfl)), (hkF eA11 (by first | decide | omega) (hkF eA10 (by first | decide | omega) rfl)), (hkF eA11 (by first | decide | omega) (hkF eA10 (by first | decide | omega) rfl)), (hkF eA11 (by first | decide | omega) (hkF eA10 (by first | decide | omega) rfl)), (hkF eA11 (by first | decide | omega) (hkF eA10 (by first | decide | omega) rfl)), (hkF eA11 (by first | decide | omega) (hkF eA10 (by first | decide | omega) rfl)), ((congrArg Prod.fst fA11).trans ((congrArg Prod.fst fA10).trans rfl)), rfl⟩)
        ·
          refine hxa_iload_n (by rfl) rfl ?_
          refine hxa_aload_n (by rfl) rfl ?_
          refine hxj_getK (by rfl) (by rfl) (by rfl) ez3 ?_
          have rga1 := hn_rng a1
          have rgz3 := hn_rng z3
          refine hxj_clt (by rfl) rfl rfl (fun q12 => ?_) (fun q12 => ?_)
          ·
            refine hxa_aload_n (by rfl) rfl ?_
            refine hxa_iload_n (by rfl) rfl ?_
            refine hxj_putI (by rfl) (by rfl) (by rfl) (by rfl) hA (hbokN (by rfl)) (by rfl) (by rfl) (fun A13 hA13 eA13 fA13 => ?_)
            refine hxa_aload_n (by rfl) rfl ?_
            refine hxa_iload_n (by rfl) rfl ?_
            refine hxj_putI (by rfl) (by rfl) (by rfl) (by rfl) hA13 (hbokN (by rfl)) (by rfl) (by rfl) (fun A14 hA14 eA14 fA14 => ?_)
            exact hxa_return (by rfl) rfl (hP _ _ ⟨hA14, (hkF eA14 (by first | decide | omega) (hkF eA13 (by first | decide | omega) rfl)), (hkF eA14 (by first | decide | omega) (hkF eA13 (by first | decide | omega) rfl)), (hkF eA14 (by first | decide | omega) (hkF eA13 (by first | decide | omega) rfl)), (hkF eA14 (by first | decide | omega) (hkF eA13 (by first | decide | omega) rfl)), (hkF eA14 (by first | decide | omega) (hkF eA13 (by first | decide | omega) rfl)), (hkF eA14 (by first | decide | omega) (hkF eA13 (by first | decide | omega) rfl)), (hkF eA14 (by first | decide | omega) (hkF eA13 (by first | decide | omega) rfl)), (hkF eA14 (by first | decide | omega) (hkF eA13 (by first | decide | omega) rfl)), ((congrArg Prod.fst fA14).trans ((congrArg Prod.fst fA13).trans rfl)), rfl⟩)
          ·
            exact hxa_return (by rfl) rfl (hP _ _ ⟨hA, rfl, rfl, rfl, rfl, rfl, rfl, rfl, rfl, rfl, rfl⟩)
theorem hX146q4 {d : Nat} {Bn Br : Int} {A0 A : hs_A} (hA : hJ 4 Bn Br A0 A)  (a1 : Int32) (a2 : Int32) (p2 : 0 ≤ a2.toInt) (q2 : a2.toInt ≤ 402) : hxC (d + 1) 146 hm_m146 [.ref 368, .int a1, .int a2] A (fun r A' => hJ 4 Bn Br A0 A' ∧ A'.1 367 12 = A.1 367 12 ∧ A'.1 367 19 = A.1 367 19 ∧ A'.1 367 20 = A.1 367 20 ∧ A'.1 367 31 = A.1 367 31 ∧ A'.1 367 37 = A.1 367 37 ∧ A'.1 367 41 = A.1 367 41 ∧ A'.1 367 11 = A.1 367 11 ∧ A'.1 367 13 = A.1 367 13 ∧ A'.2.1 = A.2.1 ∧ r = none) := hxC.of (by rfl) (hY146q4 hA a1 a2 p2 q2 (fun r A' h => h))
theorem hY147q4 {d : Nat} {Bn Br : Int} {A0 A : hs_A} (hA : hJ 4 Bn Br A0 A)   {P : Option Value → hs_A → Prop} (hP : ∀ (r : Option Value) (A' : hs_A), (hJ 4 Bn Br A0 A' ∧ A'.1 367 12 = A.1 367 12 ∧ A'.1 367 19 = A.1 367 19 ∧ A'.1 367 20 = A.1 367 20 ∧ A'.1 367 31 = A.1 367 31 ∧ A'.1 367 37 = A.1 367 37 ∧ A'.1 367 41 = A.1 367 41 ∧ A'.2.1 = A.2.1 ∧ r = none ∧ ((¬ (A'.1 367 13).toInt = 0 ∨ ((A.1 367 13).toInt = 0 ∧ (A'.1 367 11).toInt = (A.1 367 11).toInt + 1)) ∧ (A.1 367 11).toInt ≤ (A'.1 367 11).toInt ∧ (A'.1 367 11).toInt ≤ (A.1 367 11).toInt + 1)) → P r A') : hxa (d + 1) none hm_t147 0 [.ref 368] [] A P := by
  have k2 := hk_2
  have fb367_11 := hA.f (i := 367) (k := 11) (by rfl)
  have fb367_12 := hA.f (i := 367) (k := 12) (by rfl)
  have fb367_13 := hA.f (i := 367) (k := 13) (by rfl)
  have fb367_19 := hA.f (i := 367) (k := 19) (by rfl)
  have fb367_20 := hA.f (i := 367) (k := 20) (by rfl)
  have fb367_31 := hA.f (i := 367) (k := 31) (by rfl)
  have fb367_37 := hA.f (i := 367) (k := 37) (by rfl)
  have fb367_41 := hA.f (i := 367) (k := 41) (by rfl)
  refine hxa_aload_n (by rfl) rfl ?_
  refine hxj_getK (by rfl) (by rfl) (by rfl) rfl ?_
  refine hxa_sipush (by rfl) rfl ?_
  refine hxj_cne (by rfl) rfl hk_400 (fun q1 => ?_) (fun q1 => ?_)
  ·
    refine hxa_aload_n (by rfl) rfl ?_
    refine hxa_dupR (by rfl) ?_
    refine hxj_getK (by rfl) (by rfl) (by rfl) rfl ?_
    refine hxa_iconst (by rfl) rfl ?_
    refine hxj_iadd (by rfl) rfl hk_1 (by omega) (by omega) (fun z2 ez2 => ?_)
    refine hxj_putI (by rfl) (by rfl) (by rfl) (by rfl) hA (hbok (by rfl) rfl (by omega) (by omega)) (by rfl) (by rfl) (fun A3 hA3 eA3 fA3 => ?_)
    exact hxa_return (by rfl) rfl (hP _ _ ⟨hA3, (hkF eA3 (by first | decide | omega) rfl), (hkF eA3 (by first | decide | omega) rfl), (hkF eA3 (by first | decide | omega) rfl), (hkF eA3 (by first | decide | omega) rfl), (hkF eA3 (by first | decide | omega) rfl), (hkF eA3 (by first | decide | omega) rfl), ((congrArg Prod.fst fA3).trans rfl), rfl, by rw [(show A3.1 367 11 = z2 from (hkS eA3)), (show A3.1 367 13 = (A.1 367 13) from (hkF eA3 (by first | decide | omega) rfl))]; omega⟩)
  ·
    refine hxa_aload_n (by rfl) rfl ?_
    refine hxa_iconst (by rfl) rfl ?_
    refine hxa_call0 (by rfl) (by rfl) (by rfl) (by rfl) (by rfl) (by rfl) (hX145q4 (d := d + 0) hA (Int32.ofNat 2) (by omega) (by omega)) ?_
    rintro _ A4 ⟨hA4, frA4_0, frA4_1, frA4_2, frA4_3, frA4_4, frA4_5, aeA4, rfl, fA4⟩
    have ttA4_12 : (A4.1 367 12).toInt = (A.1 367 12).toInt := congrArg Int32.toInt (frA4_0.trans rfl)
    have ttA4_19 : (A4.1 367 19).toInt = (A.1 367 19).toInt := congrArg Int32.toInt (frA4_1.trans rfl)
    have ttA4_20 : (A4.1 367 20).toInt = (A.1 367 20).toInt := congrArg Int32.toInt (frA4_2.trans rfl)
    have ttA4_31 : (A4.1 367 31).toInt = (A.1 367 31).toInt := congrArg Int32.toInt (frA4_3.trans rfl)
    have ttA4_37 : (A4.1 367 37).toInt = (A.1 367 37).toInt := congrArg Int32.toInt (frA4_4.trans rfl)
    have ttA4_41 : (A4.1 367 41).toInt = (A.1 367 41).toInt := congrArg Int32.toInt (frA4_5.trans rfl)
    have fbA4_367_11 := hA4.f (i := 367) (k := 11) (by rfl)
    have fbA4_367_13 := hA4.f (i := 367) (k := 13) (by rfl)
    refine hxa_goto (by rfl) ?_
    exact hxa_return (by rfl) rfl (hP _ _ ⟨hA4, (frA4_0.trans rfl), (frA4_1.trans rfl), (frA4_2.trans rfl), (frA4_3.trans rfl), (frA4_4.trans rfl), (frA4_5.trans rfl), (aeA4.trans rfl), rfl, by omega⟩)
theorem hX147q4 {d : Nat} {Bn Br : Int} {A0 A : hs_A} (hA : hJ 4 Bn Br A0 A)   : hxC (d + 2) 147 hm_m147 [.ref 368] A (fun r A' => hJ 4 Bn Br A0 A' ∧ A'.1 367 12 = A.1 367 12 ∧ A'.1 367 19 = A.1 367 19 ∧ A'.1 367 20 = A.1 367 20 ∧ A'.1 367 31 = A.1 367 31 ∧ A'.1 367 37 = A.1 367 37 ∧ A'.1 367 41 = A.1 367 41 ∧ A'.2.1 = A.2.1 ∧ r = none ∧ ((¬ (A'.1 367 13).toInt = 0 ∨ ((A.1 367 13).toInt = 0 ∧ (A'.1 367 11).toInt = (A.1 367 11).toInt + 1)) ∧ (A.1 367 11).toInt ≤ (A'.1 367 11).toInt ∧ (A'.1 367 11).toInt ≤ (A.1 367 11).toInt + 1)) := hxC.of (by rfl) (hY147q4 hA  (fun r A' h => h))
theorem hY144q4 {d : Nat} {Bn Br : Int} {A0 A : hs_A} (hA : hJ 4 Bn Br A0 A)  (a1 : Int32) {P : Option Value → hs_A → Prop} (hP : ∀ (r : Option Value) (A' : hs_A), (A = A' ∧ ∃ z : Int32, r = some (.int z) ∧ ((z.toInt = 1 ∧ (A.1 367 13).toInt = 0 ∧ (A.2.1 370 (A.1 367 11).toNatClampNeg).toInt = a1.toInt) ∨ (z.toInt = 0 ∧ (¬ (A.1 367 13).toInt = 0 ∨ ¬ (A.2.1 370 (A.1 367 11).toNatClampNeg).toInt = a1.toInt)))) → P r A') : hxa (d + 0) (some (.boolean)) hm_t144 0 [.ref 368, .int a1] [] A P := by
  have k0 := hk_0
  have k1 := hk_1
  have fb367_11 := hA.f (i := 367) (k := 11) (by rfl)
  have fb367_13 := hA.f (i := 367) (k := 13) (by rfl)
  refine hxa_aload_n (by rfl) rfl ?_
  refine hxj_getK (by rfl) (by rfl) (by rfl) rfl ?_
  refine hxj_zne (by rfl) rfl (fun q1 => ?_) (fun q1 => ?_)
  ·
    refine hxa_iconst (by rfl) rfl ?_
    exact hxa_ireturn (by rfl) (by rfl) (hP _ _ ⟨rfl, _, rfl, by first | omega | (rw [hA]; omega)⟩)
  ·
    refine hxa_aload_n (by rfl) rfl ?_
    refine hxa_get (v := .ref 371) (by rfl) (by rfl) (by rfl) rfl ?_
    refine hxa_aload_n (by rfl) rfl ?_
    refine hxj_getK (by rfl) (by rfl) (by rfl) rfl ?_
    refine hxj_ialdB (by rfl) (by rfl) rfl (by omega) (by omega) hA (by rfl) (fun z2 ez2 fz2 gz2 => ?_)
    refine hxa_iload_n (by rfl) rfl ?_
    refine hxj_cne (by rfl) rfl rfl (fun q3 => ?_) (fun q3 => ?_)
    ·
      refine hxa_iconst (by rfl) rfl ?_
      exact hxa_ireturn (by rfl) (by rfl) (hP _ _ ⟨rfl, _, rfl, by first | omega | (rw [ez2]; omega)⟩)
    ·
      refine hxa_iconst (by rfl) rfl ?_
      refine hxa_goto (by rfl) ?_
      exact hxa_ireturn (by rfl) (by rfl) (hP _ _ ⟨rfl, _, rfl, by first | omega | (rw [ez2]; omega)⟩)
theorem hX144q4 {d : Nat} {Bn Br : Int} {A0 A : hs_A} (hA : hJ 4 Bn Br A0 A)  (a1 : Int32) : hxC (d + 1) 144 hm_m144 [.ref 368, .int a1] A (fun r A' => A = A' ∧ ∃ z : Int32, r = some (.int z) ∧ ((z.toInt = 1 ∧ (A.1 367 13).toInt = 0 ∧ (A.2.1 370 (A.1 367 11).toNatClampNeg).toInt = a1.toInt) ∨ (z.toInt = 0 ∧ (¬ (A.1 367 13).toInt = 0 ∨ ¬ (A.2.1 370 (A.1 367 11).toNatClampNeg).toInt = a1.toInt)))) := hxC.of (by rfl) (hY144q4 hA a1 (fun r A' h => h))
theorem hY148q4 {d : Nat} {Bn Br : Int} {A0 A : hs_A} (hA : hJ 4 Bn Br A0 A)  (a1 : Int32) {P : Option Value → hs_A → Prop} (hP : ∀ (r : Option Value) (A' : hs_A), (hJ 4 Bn Br A0 A' ∧ A'.1 367 12 = A.1 367 12 ∧ A'.1 367 19 = A.1 367 19 ∧ A'.1 367 20 = A.1 367 20 ∧ A'.1 367 31 = A.1 367 31 ∧ A'.1 367 37 = A.1 367 37 ∧ A'.1 367 41 = A.1 367 41 ∧ A'.2.1 = A.2.1 ∧ r = none ∧ ((¬ (A'.1 367 13).toInt = 0 ∨ ((A.1 367 13).toInt = 0 ∧ (A'.1 367 11).toInt = (A.1 367 11).toInt + 1)) ∧ (A.1 367 11).toInt ≤ (A'.1 367 11).toInt ∧ (A'.1 367 11).toInt ≤ (A.1 367 11).toInt + 1)) → P r A') : hxa (d + 2) none hm_t148 0 [.ref 368, .int a1] [] A P := by
  have k1 := hk_1
  have fb367_11 := hA.f (i := 367) (k := 11) (by rfl)
  have fb367_12 := hA.f (i := 367) (k := 12) (by rfl)
  have fb367_13 := hA.f (i := 367) (k := 13) (by rfl)
  have fb367_19 := hA.f (i := 367) (k := 19) (by rfl)
  have fb367_20 := hA.f (i := 367) (k := 20) (by rfl)
  have fb367_31 := hA.f (i := 367) (k := 31) (by rfl)
  have fb367_37 := hA.f (i := 367) (k := 37) (by rfl)
  have fb367_41 := hA.f (i := 367) (k := 41) (by rfl)
  refine hxa_aload_n (by rfl) rfl ?_
  refine hxa_iload_n (by rfl) rfl ?_
  refine hxa_call0 (by rfl) (by rfl) (by rfl) (by rfl) (by rfl) (by rfl) (hX144q4 (d := d + 1) hA a1) ?_
  rintro _ _ ⟨rfl, z1, rfl, fz1⟩
  rcases fz1 with fz1 | fz1
  ·
    refine hxj_zeq (by rfl) rfl (fun q2 => False.elim (by omega)) (fun q2 => ?_)
    refine hxa_aload_n (by rfl) rfl ?_
    refine hxa_call0 (by rfl) (by rfl) (by rfl) (by rfl) (by rfl) (by rfl) (hX147q4 (d := d + 0) hA ) ?_
    rintro _ A3 ⟨hA3, frA3_0, frA3_1, frA3_2, frA3_3, frA3_4, frA3_5, aeA3, rfl, fA3⟩
    have ttA3_12 : (A3.1 367 12).toInt = (A.1 367 12).toInt := congrArg Int32.toInt (frA3_0.trans rfl)
    have ttA3_19 : (A3.1 367 19).toInt = (A.1 367 19).toInt := congrArg Int32.toInt (frA3_1.trans rfl)
    have ttA3_20 : (A3.1 367 20).toInt = (A.1 367 20).toInt := congrArg Int32.toInt (frA3_2.trans rfl)
    have ttA3_31 : (A3.1 367 31).toInt = (A.1 367 31).toInt := congrArg Int32.toInt (frA3_3.trans rfl)
    have ttA3_37 : (A3.1 367 37).toInt = (A.1 367 37).toInt := congrArg Int32.toInt (frA3_4.trans rfl)
    have ttA3_41 : (A3.1 367 41).toInt = (A.1 367 41).toInt := congrArg Int32.toInt (frA3_5.trans rfl)
    have fbA3_367_11 := hA3.f (i := 367) (k := 11) (by rfl)
    have fbA3_367_13 := hA3.f (i := 367) (k := 13) (by rfl)
    refine hxa_goto (by rfl) ?_
    exact hxa_return (by rfl) rfl (hP _ _ ⟨hA3, (frA3_0.trans rfl), (frA3_1.trans rfl), (frA3_2.trans rfl), (frA3_3.trans rfl), (frA3_4.trans rfl), (frA3_5.trans rfl), (aeA3.trans rfl), rfl, by omega⟩)
  ·
    refine hxj_zeq (by rfl) rfl (fun q4 => ?_) (fun q4 => False.elim (by omega))
    refine hxa_aload_n (by rfl) rfl ?_
    refine hxa_iconst (by rfl) rfl ?_
    refine hxa_call0 (by rfl) (by rfl) (by rfl) (by rfl) (by rfl) (by rfl) (hX145q4 (d := d + 1) hA (Int32.ofNat 1) (by omega) (by omega)) ?_
    rintro _ A5 ⟨hA5, frA5_0, frA5_1, frA5_2, frA5_3, frA5_4, frA5_5, aeA5, rfl, fA5⟩
    have ttA5_12 : (A5.1 367 12).toInt = (A.1 367 12).toInt := congrArg Int32.toInt (frA5_0.trans rfl)
    have ttA5_19 : (A5.1 367 19).toInt = (A.1 367 19).toInt := congrArg Int32.toInt (frA5_1.trans rfl)
    have ttA5_20 : (A5.1 367 20).toInt = (A.1 367 20).toInt := congrArg Int32.toInt (frA5_2.trans rfl)
    have ttA5_31 : (A5.1 367 31).toInt = (A.1 367 31).toInt := congrArg Int32.toInt (frA5_3.trans rfl)
    have ttA5_37 : (A5.1 367 37).toInt = (A.1 367 37).toInt := congrArg Int32.toInt (frA5_4.trans rfl)
    have ttA5_41 : (A5.1 367 41).toInt = (A.1 367 41).toInt := congrArg Int32.toInt (frA5_5.trans rfl)
    have fbA5_367_11 := hA5.f (i := 367) (k := 11) (by rfl)
    have fbA5_367_13 := hA5.f (i := 367) (k := 13) (by rfl)
    exact hxa_return (by rfl) rfl (hP _ _ ⟨hA5, (frA5_0.trans rfl), (frA5_1.trans rfl), (frA5_2.trans rfl), (frA5_3.trans rfl), (frA5_4.trans rfl), (frA5_5.trans rfl), (aeA5.trans rfl), rfl, by omega⟩)
theorem hX148q4 {d : Nat} {Bn Br : Int} {A0 A : hs_A} (hA : hJ 4 Bn Br A0 A)  (a1 : Int32) : hxC (d + 3) 148 hm_m148 [.ref 368, .int a1] A (fun r A' => hJ 4 Bn Br A0 A' ∧ A'.1 367 12 = A.1 367 12 ∧ A'.1 367 19 = A.1 367 19 ∧ A'.1 367 20 = A.1 367 20 ∧ A'.1 367 31 = A.1 367 31 ∧ A'.1 367 37 = A.1 367 37 ∧ A'.1 367 41 = A.1 367 41 ∧ A'.2.1 = A.2.1 ∧ r = none ∧ ((¬ (A'.1 367 13).toInt = 0 ∨ ((A.1 367 13).toInt = 0 ∧ (A'.1 367 11).toInt = (A.1 367 11).toInt + 1)) ∧ (A.1 367 11).toInt ≤ (A'.1 367 11).toInt ∧ (A'.1 367 11).toInt ≤ (A.1 367 11).toInt + 1)) := hxC.of (by rfl) (hY148q4 hA a1 (fun r A' h => h))
theorem hY152q4 {d : Nat} {Bn Br : Int} {A0 A : hs_A} (hA : hJ 4 Bn Br A0 A)  (a1 : Int32) (a2 : Int32) {P : Option Value → hs_A → Prop} (hP : ∀ (r : Option Value) (A' : hs_A), (hJ 4 Bn Br A0 A' ∧ A'.1 367 12 = A.1 367 12 ∧ A'.1 367 19 = A.1 367 19 ∧ A'.1 367 20 = A.1 367 20 ∧ A'.1 367 31 = A.1 367 31 ∧ A'.1 367 37 = A.1 367 37 ∧ A'.1 367 41 = A.1 367 41 ∧ A'.2.1 = A.2.1 ∧ r = none ∧ ((¬ (A'.1 367 13).toInt = 0 ∨ ((A.1 367 13).toInt = 0 ∧ (A'.1 367 11).toInt = (A.1 367 11).toInt + 1 ∧ ¬ a1.toInt = a2.toInt)) ∧ (A.1 367 11).toInt ≤ (A'.1 367 11).toInt ∧ (A'.1 367 11).toInt ≤ (A.1 367 11).toInt + 1)) → P r A') : hxa (d + 2) none hm_t152 0 [.ref 368, .int a1, .int a2] [] A P := by
  have k2 := hk_2
  have fb367_11 := hA.f (i := 367) (k := 11) (by rfl)
  have fb367_12 := hA.f (i := 367) (k := 12) (by rfl)
  have fb367_13 := hA.f (i := 367) (k := 13) (by rfl)
  have fb367_19 := hA.f (i := 367) (k := 19) (by rfl)
  have fb367_20 := hA.f (i := 367) (k := 20) (by rfl)
  have fb367_31 := hA.f (i := 367) (k := 31) (by rfl)
  have fb367_37 := hA.f (i := 367) (k := 37) (by rfl)
  have fb367_41 := hA.f (i := 367) (k := 41) (by rfl)
  refine hxa_iload_n (by rfl) rfl ?_
  refine hxa_iload_n (by rfl) rfl ?_
  refine hxj_cne (by rfl) rfl rfl (fun q1 => ?_) (fun q1 => ?_)
  ·
    refine hxa_aload_n (by rfl) rfl ?_
    refine hxj_getK (by rfl) (by rfl) (by rfl) rfl ?_
    refine hxj_zne (by rfl) rfl (fun q2 => ?_) (fun q2 => ?_)
    ·
      exact hxa_return (by rfl) rfl (hP _ _ ⟨hA, rfl, rfl, rfl, rfl, rfl, rfl, rfl, rfl, by omega⟩)
    ·
      refine hxa_aload_n (by rfl) rfl ?_
      refine hxa_call0 (by rfl) (by rfl) (by rfl) (by rfl) (by rfl) (by rfl) (hX147q4 (d := d + 0) hA ) ?_
      rintro _ A3 ⟨hA3, frA3_0, frA3_1, frA3_2, frA3_3, frA3_4, frA3_5, aeA3, rfl, fA3⟩
      have ttA3_12 : (A3.1 367 12).toInt = (A.1 367 12).toInt := congrArg Int32.toInt (frA3_0.trans rfl)
      have ttA3_19 : (A3.1 367 19).toInt = (A.1 367 19).toInt := congrArg Int32.toInt (frA3_1.trans rfl)
      have ttA3_20 : (A3.1 367 20).toInt = (A.1 367 20).toInt := congrArg Int32.toInt (frA3_2.trans rfl)
      have ttA3_31 : (A3.1 367 31).toInt = (A.1 367 31).toInt := congrArg Int32.toInt (frA3_3.trans rfl)
      have ttA3_37 : (A3.1 367 37).toInt = (A.1 367 37).toInt := congrArg Int32.toInt (frA3_4.trans rfl)
      have ttA3_41 : (A3.1 367 41).toInt = (A.1 367 41).toInt := congrArg Int32.toInt (frA3_5.trans rfl)
      have fbA3_367_11 := hA3.f (i := 367) (k := 11) (by rfl)
      have fbA3_367_13 := hA3.f (i := 367) (k := 13) (by rfl)
      exact hxa_return (by rfl) rfl (hP _ _ ⟨hA3, (frA3_0.trans rfl), (frA3_1.trans rfl), (frA3_2.trans rfl), (frA3_3.trans rfl), (frA3_4.trans rfl), (frA3_5.trans rfl), (aeA3.trans rfl), rfl, by omega⟩)
  ·
    refine hxa_aload_n (by rfl) rfl ?_
    refine hxa_iconst (by rfl) rfl ?_
    refine hxa_call0 (by rfl) (by rfl) (by rfl) (by rfl) (by rfl) (by rfl) (hX145q4 (d := d + 1) hA (Int32.ofNat 2) (by omega) (by omega)) ?_
    rintro _ A4 ⟨hA4, frA4_0, frA4_1, frA4_2, frA4_3, frA4_4, frA4_5, aeA4, rfl, fA4⟩
    have ttA4_12 : (A4.1 367 12).toInt = (A.1 367 12).toInt := congrArg Int32.toInt (frA4_0.trans rfl)
    have ttA4_19 : (A4.1 367 19).toInt = (A.1 367 19).toInt := congrArg Int32.toInt (frA4_1.trans rfl)
    have ttA4_20 : (A4.1 367 20).toInt = (A.1 367 20).toInt := congrArg Int32.toInt (frA4_2.trans rfl)
    have ttA4_31 : (A4.1 367 31).toInt = (A.1 367 31).toInt := congrArg Int32.toInt (frA4_3.trans rfl)
    have ttA4_37 : (A4.1 367 37).toInt = (A.1 367 37).toInt := congrArg Int32.toInt (frA4_4.trans rfl)
    have ttA4_41 : (A4.1 367 41).toInt = (A.1 367 41).toInt := congrArg Int32.toInt (frA4_5.trans rfl)
    have fbA4_367_11 := hA4.f (i := 367) (k := 11) (by rfl)
    have fbA4_367_13 := hA4.f (i := 367) (k := 13) (by rfl)
    refine hxa_aload_n (by rfl) rfl ?_
    refine hxj_getK (by rfl) (by rfl) (by rfl) rfl ?_
    refine hxj_zne (by rfl) rfl (fun q5 => ?_) (fun q5 => ?_)
    ·
      exact hxa_return (by rfl) rfl (hP _ _ ⟨hA4, (frA4_0.trans rfl), (frA4_1.trans rfl), (frA4_2.trans rfl), (frA4_3.trans rfl), (frA4_4.trans rfl), (frA4_5.trans rfl), (aeA4.trans rfl), rfl, by omega⟩)
    ·
      refine hxa_aload_n (by rfl) rfl ?_
      refine hxa_call0 (by rfl) (by rfl) (by rfl) (by rfl) (by rfl) (by rfl) (hX147q4 (d := d + 0) hA4 ) ?_
      rintro _ A6 ⟨hA6, frA6_0, frA6_1, frA6_2, frA6_3, frA6_4, frA6_5, aeA6, rfl, fA6⟩
      have ttA6_12 : (A6.1 367 12).toInt = (A.1 367 12).toInt := congrArg Int32.toInt (frA6_0.trans (frA4_0.trans rfl))
      have ttA6_19 : (A6.1 367 19).toInt = (A.1 367 19).toInt := congrArg Int32.toInt (frA6_1.trans (frA4_1.trans rfl))
      have ttA6_20 : (A6.1 367 20).toInt = (A.1 367 20).toInt := congrArg Int32.toInt (frA6_2.trans (frA4_2.trans rfl))
      have ttA6_31 : (A6.1 367 31).toInt = (A.1 367 31).toInt := congrArg Int32.toInt (frA6_3.trans (frA4_3.trans rfl))
      have ttA6_37 : (A6.1 367 37).toInt = (A.1 367 37).toInt := congrArg Int32.toInt (frA6_4.trans (frA4_4.trans rfl))
      have ttA6_41 : (A6.1 367 41).toInt = (A.1 367 41).toInt := congrArg Int32.toInt (frA6_5.trans (frA4_5.trans rfl))
      have fbA6_367_11 := hA6.f (i := 367) (k := 11) (by rfl)
      have fbA6_367_13 := hA6.f (i := 367) (k := 13) (by rfl)
      exact hxa_return (by rfl) rfl (hP _ _ ⟨hA6, (frA6_0.trans (frA4_0.trans rfl)), (frA6_1.trans (frA4_1.trans rfl)), (frA6_2.trans (frA4_2.trans rfl)), (frA6_3.trans (frA4_3.trans rfl)), (frA6_4.trans (frA4_4.trans rfl)), (frA6_5.trans (frA4_5.trans rfl)), (aeA6.trans (aeA4.trans rfl)), rfl, by omega⟩)
theorem hX152q4 {d : Nat} {Bn Br : Int} {A0 A : hs_A} (hA : hJ 4 Bn Br A0 A)  (a1 : Int32) (a2 : Int32) : hxC (d + 3) 152 hm_m152 [.ref 368, .int a1, .int a2] A (fun r A' => hJ 4 Bn Br A0 A' ∧ A'.1 367 12 = A.1 367 12 ∧ A'.1 367 19 = A.1 367 19 ∧ A'.1 367 20 = A.1 367 20 ∧ A'.1 367 31 = A.1 367 31 ∧ A'.1 367 37 = A.1 367 37 ∧ A'.1 367 41 = A.1 367 41 ∧ A'.2.1 = A.2.1 ∧ r = none ∧ ((¬ (A'.1 367 13).toInt = 0 ∨ ((A.1 367 13).toInt = 0 ∧ (A'.1 367 11).toInt = (A.1 367 11).toInt + 1 ∧ ¬ a1.toInt = a2.toInt)) ∧ (A.1 367 11).toInt ≤ (A'.1 367 11).toInt ∧ (A'.1 367 11).toInt ≤ (A.1 367 11).toInt + 1)) := hxC.of (by rfl) (hY152q4 hA a1 a2 (fun r A' h => h))
theorem hY155q4 {d : Nat} {Bn Br : Int} {A0 A : hs_A} (hA : hJ 4 Bn Br A0 A)  (a1 : Int32) (p1 : 0 ≤ a1.toInt) (q1 : a1.toInt ≤ 9999) (a2 : Int32) {P : Option Value → hs_A → Prop} (hP : ∀ (r : Option Value) (A' : hs_A), (hJ 4 Bn Br A0 A' ∧ A'.1 367 12 = A.1 367 12 ∧ A'.1 367 19 = A.1 367 19 ∧ A'.1 367 20 = A.1 367 20 ∧ A'.1 367 31 = A.1 367 31 ∧ A'.1 367 37 = A.1 367 37 ∧ A'.1 367 41 = A.1 367 41 ∧ A'.2.1 = A.2.1 ∧ ∃ z : Int32, r = some (.int z) ∧ ((0 ≤ z.toInt ∧ z.toInt ≤ 9999) ∧ (¬ (A'.1 367 13).toInt = 0 ∨ ((A.1 367 13).toInt = 0 ∧ (A'.1 367 11).toInt = (A.1 367 11).toInt + 1)) ∧ (A.1 367 11).toInt ≤ (A'.1 367 11).toInt ∧ (A'.1 367 11).toInt ≤ (A.1 367 11).toInt + 1)) → P r A') : hxa (d + 2) (some (.int)) hm_t155 0 [.ref 368, .int a1, .int a2, .retAddr 0] [] A P := by
  have k1 := hk_1
  have k2 := hk_2
  have k5 := hk_5
  have fb367_11 := hA.f (i := 367) (k := 11) (by rfl)
  have fb367_12 := hA.f (i := 367) (k := 12) (by rfl)
  have fb367_13 := hA.f (i := 367) (k := 13) (by rfl)
  have fb367_19 := hA.f (i := 367) (k := 19) (by rfl)
  have fb367_20 := hA.f (i := 367) (k := 20) (by rfl)
  have fb367_31 := hA.f (i := 367) (k := 31) (by rfl)
  have fb367_37 := hA.f (i := 367) (k := 37) (by rfl)
  have fb367_41 := hA.f (i := 367) (k := 41) (by rfl)
  refine hxa_aload_n (by rfl) rfl ?_
  refine hxj_getK (by rfl) (by rfl) (by rfl) rfl ?_
  refine hxj_zgt (by rfl) rfl (fun q1 => ?_) (fun q1 => ?_)
  ·
    refine hxa_aload_n (by rfl) rfl ?_
    refine hxa_iconst (by rfl) rfl ?_
    refine hxa_call0 (by rfl) (by rfl) (by rfl) (by rfl) (by rfl) (by rfl) (hX145q4 (d := d + 1) hA (Int32.ofNat 1) (by omega) (by omega)) ?_
    rintro _ A2 ⟨hA2, frA2_0, frA2_1, frA2_2, frA2_3, frA2_4, frA2_5, aeA2, rfl, fA2⟩
    have ttA2_12 : (A2.1 367 12).toInt = (A.1 367 12).toInt := congrArg Int32.toInt (frA2_0.trans rfl)
    have ttA2_19 : (A2.1 367 19).toInt = (A.1 367 19).toInt := congrArg Int32.toInt (frA2_1.trans rfl)
    have ttA2_20 : (A2.1 367 20).toInt = (A.1 367 20).toInt := congrArg Int32.toInt (frA2_2.trans rfl)
    have ttA2_31 : (A2.1 367 31).toInt = (A.1 367 31).toInt := congrArg Int32.toInt (frA2_3.trans rfl)
    have ttA2_37 : (A2.1 367 37).toInt = (A.1 367 37).toInt := congrArg Int32.toInt (frA2_4.trans rfl)
    have ttA2_41 : (A2.1 367 41).toInt = (A.1 367 41).toInt := congrArg Int32.toInt (frA2_5.trans rfl)
    have fbA2_367_11 := hA2.f (i := 367) (k := 11) (by rfl)
    have fbA2_367_13 := hA2.f (i := 367) (k := 13) (by rfl)
    refine hxa_iload_n (by rfl) rfl ?_
    exact hxa_ireturn (by rfl) rfl (hP _ _ ⟨hA2, (frA2_0.trans rfl), (frA2_1.trans rfl), (frA2_2.trans rfl), (frA2_3.trans rfl), (frA2_4.trans rfl), (frA2_5.trans rfl), (aeA2.trans rfl), _, rfl, by omega⟩)
  ·
    refine hxa_aload_n (by rfl) rfl ?_
    refine hxa_iconst (by rfl) rfl ?_
    refine hxa_call0 (by rfl) (by rfl) (by rfl) (by rfl) (by rfl) (by rfl) (hX144q4 (d := d + 1) hA (Int32.ofNat 2)) ?_
    rintro _ _ ⟨rfl, z3, rfl, fz3⟩
    rcases fz3 with fz3 | fz3
    ·
      refine hxj_zne (by rfl) rfl (fun q4 => ?_) (fun q4 => False.elim (by omega))
      refine hxa_aload_n (by rfl) rfl ?_
      refine hxa_get (v := .ref 373) (by rfl) (by rfl) (by rfl) rfl ?_
      refine hxa_aload_n (by rfl) rfl ?_
      refine hxj_getK (by rfl) (by rfl) (by rfl) rfl ?_
      refine hxj_ialdB (by rfl) (by rfl) rfl (by omega) (by omega) hA (by rfl) (fun z5 ez5 fz5 gz5 => ?_)
      refine hxa_s1 (by rfl) (Or.inl ⟨_, rfl, rfl⟩) rfl ?_
      refine hxa_iload_n (by rfl) rfl ?_
      refine hxa_iload_n (by rfl) rfl ?_
      refine hxj_clt (by rfl) rfl rfl (fun q6 => ?_) (fun q6 => ?_)
      ·
        refine hxa_aload_n (by rfl) rfl ?_
        refine hxa_iconst (by rfl) rfl ?_
        refine hxa_aload_n (by rfl) rfl ?_
        refine hxj_getK (by rfl) (by rfl) (by rfl) rfl ?_
        refine hxa_call0 (by rfl) (by rfl) (by rfl) (by rfl) (by rfl) (by rfl) (hX146q4 (d := d + 1) hA (Int32.ofNat 5) (A.1 367 11) (by omega) (by omega)) ?_
        rintro _ A7 ⟨hA7, frA7_0, frA7_1, frA7_2, frA7_3, frA7_4, frA7_5, frA7_6, frA7_7, aeA7, rfl⟩
        have ttA7_12 : (A7.1 367 12).toInt = (A.1 367 12).toInt := congrArg Int32.toInt (frA7_0.trans rfl)
        have ttA7_19 : (A7.1 367 19).toInt = (A.1 367 19).toInt := congrArg Int32.toInt (frA7_1.trans rfl)
        have ttA7_20 : (A7.1 367 20).toInt = (A.1 367 20).toInt := congrArg Int32.toInt (frA7_2.trans rfl)
        have ttA7_31 : (A7.1 367 31).toInt = (A.1 367 31).toInt := congrArg Int32.toInt (frA7_3.trans rfl)
        have ttA7_37 : (A7.1 367 37).toInt = (A.1 367 37).toInt := congrArg Int32.toInt (frA7_4.trans rfl)
        have ttA7_41 : (A7.1 367 41).toInt = (A.1 367 41).toInt := congrArg Int32.toInt (frA7_5.trans rfl)
        have ttA7_11 : (A7.1 367 11).toInt = (A.1 367 11).toInt := congrArg Int32.toInt (frA7_6.trans rfl)
        have ttA7_13 : (A7.1 367 13).toInt = (A.1 367 13).toInt := congrArg Int32.toInt (frA7_7.trans rfl)
        refine hxa_aload_n (by rfl) rfl ?_
        refine hxa_call0 (by rfl) (by rfl) (by rfl) (by rfl) (by rfl) (by rfl) (hX147q4 (d := d + 0) hA7 ) ?_
        rintro _ A8 ⟨hA8, frA8_0, frA8_1, frA8_2, frA8_3, frA8_4, frA8_5, aeA8, rfl, fA8⟩
        have ttA8_12 : (A8.1 367 12).toInt = (A.1 367 12).toInt := congrArg Int32.toInt (frA8_0.trans (frA7_0.trans rfl))
        have ttA8_19 : (A8.1 367 19).toInt = (A.1 367 19).toInt := congrArg Int32.toInt (frA8_1.trans (frA7_1.trans rfl))
        have ttA8_20 : (A8.1 367 20).toInt = (A.1 367 20).toInt := congrArg Int32.toInt (frA8_2.trans (frA7_2.trans rfl))
        have ttA8_31 : (A8.1 367 31).toInt = (A.1 367 31).toInt := congrArg Int32.toInt (frA8_3.trans (frA7_3.trans rfl))
        have ttA8_37 : (A8.1 367 37).toInt = (A.1 367 37).toInt := congrArg Int32.toInt (frA8_4.trans (frA7_4.trans rfl))
        have ttA8_41 : (A8.1 367 41).toInt = (A.1 367 41).toInt := congrArg Int32.toInt (frA8_5.trans (frA7_5.trans rfl))
        have fbA8_367_11 := hA8.f (i := 367) (k := 11) (by rfl)
        have fbA8_367_13 := hA8.f (i := 367) (k := 13) (by rfl)
        refine hxa_iload_n (by rfl) rfl ?_
        exact hxa_ireturn (by rfl) rfl (hP _ _ ⟨hA8, (frA8_0.trans (frA7_0.trans rfl)), (frA8_1.trans (frA7_1.trans rfl)), (frA8_2.trans (frA7_2.trans rfl)), (frA8_3.trans (frA7_3.trans rfl)), (frA8_4.trans (frA7_4.trans rfl)), (frA8_5.trans (frA7_5.trans rfl)), (aeA8.trans (aeA7.trans rfl)), _, rfl, by omega⟩)
      ·
        refine hxa_iload_n (by rfl) rfl ?_
        refine hxa_iload_n (by rfl) rfl ?_
        have rga2 := hn_rng a2
        refine hxj_cle (by rfl) rfl rfl (fun q9 => ?_) (fun q9 => ?_)
        ·
          refine hxa_aload_n (by rfl) rfl ?_
          refine hxa_call0 (by rfl) (by rfl) (by rfl) (by rfl) (by rfl) (by rfl) (hX147q4 (d := d + 0) hA ) ?_
          rintro _ A10 ⟨hA10, frA10_0, frA10_1, frA10_2, frA10_3, frA10_4, frA10_5, aeA10, rfl, fA10⟩
          have ttA10_12 : (A10.1 367 12).toInt = (A.1 367 12).toInt := congrArg Int32.toInt (frA10_0.trans rfl)
          have ttA10_19 : (A10.1 367 19).toInt = (A.1 367 19).toInt := congrArg Int32.toInt (frA10_1.trans rfl)
          have ttA10_20 : (A10.1 367 20).toInt = (A.1 367 20).toInt := congrArg Int32.toInt (frA10_2.trans rfl)
          have ttA10_31 : (A10.1 367 31).toInt = (A.1 367 31).toInt := congrArg Int32.toInt (frA10_3.trans rfl)
          have ttA10_37 : (A10.1 367 37).toInt = (A.1 367 37).toInt := congrArg Int32.toInt (frA10_4.trans rfl)
          have ttA10_41 : (A10.1 367 41).toInt = (A.1 367 41).toInt := congrArg Int32.toInt (frA10_5.trans rfl)
          have fbA10_367_11 := hA10.f (i := 367) (k := 11) (by rfl)
          have fbA10_367_13 := hA10.f (i := 367) (k := 13) (by rfl)
          refine hxa_iload_n (by rfl) rfl ?_
          exact hxa_ireturn (by rfl) rfl (hP _ _ ⟨hA10, (frA10_0.trans rfl), (frA10_1.trans rfl), (frA10_2.trans rfl), (frA10_3.trans rfl), (frA10_4.trans rfl), (frA10_5.trans rfl), (aeA10.trans rfl), _, rfl, by omega⟩)
        ·
          refine hxa_aload_n (by rfl) rfl ?_
          refine hxa_iconst (by rfl) rfl ?_
          refine hxa_aload_n (by rfl) rfl ?_
          refine hxj_getK (by rfl) (by rfl) (by rfl) rfl ?_
          refine hxa_call0 (by rfl) (by rfl) (by rfl) (by rfl) (by rfl) (by rfl) (hX146q4 (d := d + 1) hA (Int32.ofNat 5) (A.1 367 11) (by omega) (by omega)) ?_
          rintro _ A11 ⟨hA11, frA11_0, frA11_1, frA11_2, frA11_3, frA11_4, frA11_5, frA11_6, frA11_7, aeA11, rfl⟩
          have ttA11_12 : (A11.1 367 12).toInt = (A.1 367 12).toInt := congrArg Int32.toInt (frA11_0.trans rfl)
          have ttA11_19 : (A11.1 367 19).toInt = (A.1 367 19).toInt := congrArg Int32.toInt (frA11_1.trans rfl)
          have ttA11_20 : (A11.1 367 20).toInt = (A.1 367 20).toInt := congrArg Int32.toInt (frA11_2.trans rfl)
          have ttA11_31 : (A11.1 367 31).toInt = (A.1 367 31).toInt := congrArg Int32.toInt (frA11_3.trans rfl)
          have ttA11_37 : (A11.1 367 37).toInt = (A.1 367 37).toInt := congrArg Int32.toInt (frA11_4.trans rfl)
          have ttA11_41 : (A11.1 367 41).toInt = (A.1 367 41).toInt := congrArg Int32.toInt (frA11_5.trans rfl)
          have ttA11_11 : (A11.1 367 11).toInt = (A.1 367 11).toInt := congrArg Int32.toInt (frA11_6.trans rfl)
          have ttA11_13 : (A11.1 367 13).toInt = (A.1 367 13).toInt := congrArg Int32.toInt (frA11_7.trans rfl)
          refine hxa_aload_n (by rfl) rfl ?_
          refine hxa_call0 (by rfl) (by rfl) (by rfl) (by rfl) (by rfl) (by rfl) (hX147q4 (d := d + 0) hA11 ) ?_
          rintro _ A12 ⟨hA12, frA12_0, frA12_1, frA12_2, frA12_3, frA12_4, frA12_5, aeA12, rfl, fA12⟩
          have ttA12_12 : (A12.1 367 12).toInt = (A.1 367 12).toInt := congrArg Int32.toInt (frA12_0.trans (frA11_0.trans rfl))
          have ttA12_19 : (A12.1 367 19).toInt = (A.1 367 19).toInt := congrArg Int32.toInt (frA12_1.trans (frA11_1.trans rfl))
          have ttA12_20 : (A12.1 367 20).toInt = (A.1 367 20).toInt := congrArg Int32.toInt (frA12_2.trans (frA11_2.trans rfl))
          have ttA12_31 : (A12.1 367 31).toInt = (A.1 367 31).toInt := congrArg Int32.toInt (frA12_3.trans (frA11_3.trans rfl))
          have ttA12_37 : (A12.1 367 37).toInt = (A.1 367 37).toInt := congrArg Int32.toInt (frA12_4.trans (frA11_4.trans rfl))
          have ttA12_41 : (A12.1 367 41).toInt = (A.1 367 41).toInt := congrArg Int32.toInt (frA12_5.trans (frA11_5.trans rfl))
          have fbA12_367_11 := hA12.f (i := 367) (k := 11) (by rfl)
          have fbA12_367_13 := hA12.f (i := 367) (k := 13) (by rfl)
          refine hxa_iload_n (by rfl) rfl ?_
          exact hxa_ireturn (by rfl) rfl (hP _ _ ⟨hA12, (frA12_0.trans (frA11_0.trans rfl)), (frA12_1.trans (frA11_1.trans rfl)), (frA12_2.trans (frA11_2.trans rfl)), (frA12_3.trans (frA11_3.trans rfl)), (frA12_4.trans (frA11_4.trans rfl)), (frA12_5.trans (frA11_5.trans rfl)), (aeA12.trans (aeA11.trans rfl)), _, rfl, by omega⟩)
    ·
      refine hxj_zne (by rfl) rfl (fun q13 => False.elim (by omega)) (fun q13 => ?_)
      refine hxa_aload_n (by rfl) rfl ?_
      refine hxa_iconst (by rfl) rfl ?_
      refine hxa_call0 (by rfl) (by rfl) (by rfl) (by rfl) (by rfl) (by rfl) (hX145q4 (d := d + 1) hA (Int32.ofNat 1) (by omega) (by omega)) ?_
      rintro _ A14 ⟨hA14, frA14_0, frA14_1, frA14_2, frA14_3, frA14_4, frA14_5, aeA14, rfl, fA14⟩
      have ttA14_12 : (A14.1 367 12).toInt = (A.1 367 12).toInt := congrArg Int32.toInt (frA14_0.trans rfl)
      have ttA14_19 : (A14.1 367 19).toInt = (A.1 367 19).toInt := congrArg Int32.toInt (frA14_1.trans rfl)
      have ttA14_20 : (A14.1 367 20).toInt = (A.1 367 20).toInt := congrArg Int32.toInt (frA14_2.trans rfl)
      have ttA14_31 : (A14.1 367 31).toInt = (A.1 367 31).toInt := congrArg Int32.toInt (frA14_3.trans rfl)
      have ttA14_37 : (A14.1 367 37).toInt = (A.1 367 37).toInt := congrArg Int32.toInt (frA14_4.trans rfl)
      have ttA14_41 : (A14.1 367 41).toInt = (A.1 367 41).toInt := congrArg Int32.toInt (frA14_5.trans rfl)
      have fbA14_367_11 := hA14.f (i := 367) (k := 11) (by rfl)
      have fbA14_367_13 := hA14.f (i := 367) (k := 13) (by rfl)
      refine hxa_iload_n (by rfl) rfl ?_
      exact hxa_ireturn (by rfl) rfl (hP _ _ ⟨hA14, (frA14_0.trans rfl), (frA14_1.trans rfl), (frA14_2.trans rfl), (frA14_3.trans rfl), (frA14_4.trans rfl), (frA14_5.trans rfl), (aeA14.trans rfl), _, rfl, by omega⟩)
theorem hX155q4 {d : Nat} {Bn Br : Int} {A0 A : hs_A} (hA : hJ 4 Bn Br A0 A)  (a1 : Int32) (p1 : 0 ≤ a1.toInt) (q1 : a1.toInt ≤ 9999) (a2 : Int32) : hxC (d + 3) 155 hm_m155 [.ref 368, .int a1, .int a2] A (fun r A' => hJ 4 Bn Br A0 A' ∧ A'.1 367 12 = A.1 367 12 ∧ A'.1 367 19 = A.1 367 19 ∧ A'.1 367 20 = A.1 367 20 ∧ A'.1 367 31 = A.1 367 31 ∧ A'.1 367 37 = A.1 367 37 ∧ A'.1 367 41 = A.1 367 41 ∧ A'.2.1 = A.2.1 ∧ ∃ z : Int32, r = some (.int z) ∧ ((0 ≤ z.toInt ∧ z.toInt ≤ 9999) ∧ (¬ (A'.1 367 13).toInt = 0 ∨ ((A.1 367 13).toInt = 0 ∧ (A'.1 367 11).toInt = (A.1 367 11).toInt + 1)) ∧ (A.1 367 11).toInt ≤ (A'.1 367 11).toInt ∧ (A'.1 367 11).toInt ≤ (A.1 367 11).toInt + 1)) := hxC.of (by rfl) (hY155q4 hA a1 p1 q1 a2 (fun r A' h => h))
theorem hY153q4 {d : Nat} {Bn Br : Int} {A0 A : hs_A} (hA : hJ 4 Bn Br A0 A)  (a1 : Int32) (p1 : 0 ≤ a1.toInt) (q1 : a1.toInt ≤ 9999) (a2 : Int32) {P : Option Value → hs_A → Prop} (hP : ∀ (r : Option Value) (A' : hs_A), (hJ 4 Bn Br A0 A' ∧ A'.1 367 12 = A.1 367 12 ∧ A'.1 367 19 = A.1 367 19 ∧ A'.1 367 20 = A.1 367 20 ∧ A'.1 367 31 = A.1 367 31 ∧ A'.1 367 37 = A.1 367 37 ∧ A'.1 367 41 = A.1 367 41 ∧ A'.2.1 = A.2.1 ∧ ∃ z : Int32, r = some (.int z) ∧ ((0 ≤ z.toInt ∧ z.toInt ≤ 9999) ∧ (¬ (A'.1 367 13).toInt = 0 ∨ ((A.1 367 13).toInt = 0 ∧ (A.1 367 11).toInt + 3 ≤ (A'.1 367 11).toInt)) ∧ (A.1 367 11).toInt ≤ (A'.1 367 11).toInt)) → P r A') : hxa (d + 3) (some (.int)) hm_t153 0 [.ref 368, .int a1, .int a2, .retAddr 0] [] A P := by
  have k4 := hk_4
  have fb367_11 := hA.f (i := 367) (k := 11) (by rfl)
  have fb367_12 := hA.f (i := 367) (k := 12) (by rfl)
  have fb367_13 := hA.f (i := 367) (k := 13) (by rfl)
  have fb367_19 := hA.f (i := 367) (k := 19) (by rfl)
  have fb367_20 := hA.f (i := 367) (k := 20) (by rfl)
  have fb367_31 := hA.f (i := 367) (k := 31) (by rfl)
  have fb367_37 := hA.f (i := 367) (k := 37) (by rfl)
  have fb367_41 := hA.f (i := 367) (k := 41) (by rfl)
  refine hxa_aload_n (by rfl) rfl ?_
  refine hxa_call0 (by rfl) (by rfl) (by rfl) (by rfl) (by rfl) (by rfl) (hX147q4 (d := d + 1) hA ) ?_
  rintro _ A1 ⟨hA1, frA1_0, frA1_1, frA1_2, frA1_3, frA1_4, frA1_5, aeA1, rfl, fA1⟩
  have ttA1_12 : (A1.1 367 12).toInt = (A.1 367 12).toInt := congrArg Int32.toInt (frA1_0.trans rfl)
  have ttA1_19 : (A1.1 367 19).toInt = (A.1 367 19).toInt := congrArg Int32.toInt (frA1_1.trans rfl)
  have ttA1_20 : (A1.1 367 20).toInt = (A.1 367 20).toInt := congrArg Int32.toInt (frA1_2.trans rfl)
  have ttA1_31 : (A1.1 367 31).toInt = (A.1 367 31).toInt := congrArg Int32.toInt (frA1_3.trans rfl)
  have ttA1_37 : (A1.1 367 37).toInt = (A.1 367 37).toInt := congrArg Int32.toInt (frA1_4.trans rfl)
  have ttA1_41 : (A1.1 367 41).toInt = (A.1 367 41).toInt := congrArg Int32.toInt (frA1_5.trans rfl)
  have fbA1_367_11 := hA1.f (i := 367) (k := 11) (by rfl)
  have fbA1_367_13 := hA1.f (i := 367) (k := 13) (by rfl)
  refine hxa_aload_n (by rfl) rfl ?_
  refine hxa_iload_n (by rfl) rfl ?_
  refine hxa_iload_n (by rfl) rfl ?_
  refine hxa_call0 (by rfl) (by rfl) (by rfl) (by rfl) (by rfl) (by rfl) (hX155q4 (d := d + 0) hA1 a1 (by omega) (by omega) a2) ?_
  rintro _ A2 ⟨hA2, frA2_0, frA2_1, frA2_2, frA2_3, frA2_4, frA2_5, aeA2, z3, rfl, fz3⟩
  have ttA2_12 : (A2.1 367 12).toInt = (A.1 367 12).toInt := congrArg Int32.toInt (frA2_0.trans (frA1_0.trans rfl))
  have ttA2_19 : (A2.1 367 19).toInt = (A.1 367 19).toInt := congrArg Int32.toInt (frA2_1.trans (frA1_1.trans rfl))
  have ttA2_20 : (A2.1 367 20).toInt = (A.1 367 20).toInt := congrArg Int32.toInt (frA2_2.trans (frA1_2.trans rfl))
  have ttA2_31 : (A2.1 367 31).toInt = (A.1 367 31).toInt := congrArg Int32.toInt (frA2_3.trans (frA1_3.trans rfl))
  have ttA2_37 : (A2.1 367 37).toInt = (A.1 367 37).toInt := congrArg Int32.toInt (frA2_4.trans (frA1_4.trans rfl))
  have ttA2_41 : (A2.1 367 41).toInt = (A.1 367 41).toInt := congrArg Int32.toInt (frA2_5.trans (frA1_5.trans rfl))
  have fbA2_367_11 := hA2.f (i := 367) (k := 11) (by rfl)
  have fbA2_367_13 := hA2.f (i := 367) (k := 13) (by rfl)
  refine hxa_s1 (by rfl) (Or.inl ⟨_, rfl, rfl⟩) rfl ?_
  refine hxa_aload_n (by rfl) rfl ?_
  refine hxa_iconst (by rfl) rfl ?_
  refine hxa_call0 (by rfl) (by rfl) (by rfl) (by rfl) (by rfl) (by rfl) (hX148q4 (d := d + 0) hA2 (Int32.ofNat 4)) ?_
  rintro _ A4 ⟨hA4, frA4_0, frA4_1, frA4_2, frA4_3, frA4_4, frA4_5, aeA4, rfl, fA4⟩
  have ttA4_12 : (A4.1 367 12).toInt = (A.1 367 12).toInt := congrArg Int32.toInt (frA4_0.trans (frA2_0.trans (frA1_0.trans rfl)))
  have ttA4_19 : (A4.1 367 19).toInt = (A.1 367 19).toInt := congrArg Int32.toInt (frA4_1.trans (frA2_1.trans (frA1_1.trans rfl)))
  have ttA4_20 : (A4.1 367 20).toInt = (A.1 367 20).toInt := congrArg Int32.toInt (frA4_2.trans (frA2_2.trans (frA1_2.trans rfl)))
  have ttA4_31 : (A4.1 367 31).toInt = (A.1 367 31).toInt := congrArg Int32.toInt (frA4_3.trans (frA2_3.trans (frA1_3.trans rfl)))
  have ttA4_37 : (A4.1 367 37).toInt = (A.1 367 37).toInt := congrArg Int32.toInt (frA4_4.trans (frA2_4.trans (frA1_4.trans rfl)))
  have ttA4_41 : (A4.1 367 41).toInt = (A.1 367 41).toInt := congrArg Int32.toInt (frA4_5.trans (frA2_5.trans (frA1_5.trans rfl)))
  have fbA4_367_11 := hA4.f (i := 367) (k := 11) (by rfl)
  have fbA4_367_13 := hA4.f (i := 367) (k := 13) (by rfl)
  refine hxa_iload_n (by rfl) rfl ?_
  exact hxa_ireturn (by rfl) rfl (hP _ _ ⟨hA4, (frA4_0.trans (frA2_0.trans (frA1_0.trans rfl))), (frA4_1.trans (frA2_1.trans (frA1_1.trans rfl))), (frA4_2.trans (frA2_2.trans (frA1_2.trans rfl))), (frA4_3.trans (frA2_3.trans (frA1_3.trans rfl))), (frA4_4.trans (frA2_4.trans (frA1_4.trans rfl))), (frA4_5.trans (frA2_5.trans (frA1_5.trans rfl))), (aeA4.trans (aeA2.trans (aeA1.trans rfl))), _, rfl, by omega⟩)
theorem hX153q4 {d : Nat} {Bn Br : Int} {A0 A : hs_A} (hA : hJ 4 Bn Br A0 A)  (a1 : Int32) (p1 : 0 ≤ a1.toInt) (q1 : a1.toInt ≤ 9999) (a2 : Int32) : hxC (d + 4) 153 hm_m153 [.ref 368, .int a1, .int a2] A (fun r A' => hJ 4 Bn Br A0 A' ∧ A'.1 367 12 = A.1 367 12 ∧ A'.1 367 19 = A.1 367 19 ∧ A'.1 367 20 = A.1 367 20 ∧ A'.1 367 31 = A.1 367 31 ∧ A'.1 367 37 = A.1 367 37 ∧ A'.1 367 41 = A.1 367 41 ∧ A'.2.1 = A.2.1 ∧ ∃ z : Int32, r = some (.int z) ∧ ((0 ≤ z.toInt ∧ z.toInt ≤ 9999) ∧ (¬ (A'.1 367 13).toInt = 0 ∨ ((A.1 367 13).toInt = 0 ∧ (A.1 367 11).toInt + 3 ≤ (A'.1 367 11).toInt)) ∧ (A.1 367 11).toInt ≤ (A'.1 367 11).toInt)) := hxC.of (by rfl) (hY153q4 hA a1 p1 q1 a2 (fun r A' h => h))
theorem hY136q4 {d : Nat} {Bn Br : Int} {A0 A : hs_A} (hA : hJ 4 Bn Br A0 A)  (a1 : Int32) (p1 : 0 ≤ a1.toInt) {P : Option Value → hs_A → Prop} (hP : ∀ (r : Option Value) (A' : hs_A), (A = A' ∧ ∃ z : Int32, r = some (.int z) ∧ (z = hby A a1 ∧ (z.toInt = 0 ∨ a1.toInt < 2000) ∧ 0 ≤ z.toInt ∧ z.toInt ≤ 255)) → P r A') : hxa (d + 0) (some (.int)) hm_t136 0 [.ref 368, .int a1] [] A P := by
  have k0 := hk_0
  have fb367_4 := hA.f (i := 367) (k := 4) (by rfl)
  refine hxa_iload_n (by rfl) rfl ?_
  refine hxa_aload_n (by rfl) rfl ?_
  refine hxj_getK (by rfl) (by rfl) (by rfl) rfl ?_
  have rga1 := hn_rng a1
  refine hxj_cge (by rfl) rfl rfl (fun q1 => ?_) (fun q1 => ?_)
  ·
    refine hxa_iconst (by rfl) rfl ?_
    exact hxa_ireturn (by rfl) rfl (hP _ _ ⟨rfl, _, rfl, ⟨by unfold hby; rw [if_neg (by omega)], by omega, by omega, by omega⟩⟩)
  ·
    refine hxa_aload_n (by rfl) rfl ?_
    refine hxa_get (v := .ref 370) (by rfl) (by rfl) (by rfl) rfl ?_
    refine hxa_iload_n (by rfl) rfl ?_
    refine hxj_bald (by rfl) (by rfl) rfl (by omega) (by omega) (fun z2 ez2 => ?_)
    refine hxa_sipush (by rfl) rfl ?_
    refine hxa_iand (by rfl) (hn_top (fun z3 ez3 => ?_))
    have fz3 : 0 ≤ z3.toInt ∧ z3.toInt ≤ 255 := by
      have q := hn_and (x := z2) (y := (Int32.ofNat 255)) (by rw [hk_255]; decide)
      rw [← ez3, hk_255] at q
      exact q
    refine hxa_goto (by rfl) ?_
    exact hxa_ireturn (by rfl) rfl (hP _ _ ⟨rfl, _, rfl, ⟨by unfold hby; rw [if_pos (by omega), ez2, ez3], by omega, by omega, by omega⟩⟩)
theorem hX136q4 {d : Nat} {Bn Br : Int} {A0 A : hs_A} (hA : hJ 4 Bn Br A0 A)  (a1 : Int32) (p1 : 0 ≤ a1.toInt) : hxC (d + 1) 136 hm_m136 [.ref 368, .int a1] A (fun r A' => A = A' ∧ ∃ z : Int32, r = some (.int z) ∧ (z = hby A a1 ∧ (z.toInt = 0 ∨ a1.toInt < 2000) ∧ 0 ≤ z.toInt ∧ z.toInt ≤ 255)) := hxC.of (by rfl) (hY136q4 hA a1 p1 (fun r A' h => h))
theorem hY141q4 {d : Nat} {Bn Br : Int} {A0 A : hs_A} (hA : hJ 4 Bn Br A0 A)  (a1 : Int32) (p1 : 0 ≤ a1.toInt) (q1 : a1.toInt ≤ 39) (a2 : Int32) (a3 : Int32) (p3 : 0 ≤ a3.toInt) (q3 : a3.toInt ≤ 9999) (a4 : Int64) (fl0 : 0 ≤ (A.1 367 10).toInt) (fh0 : (A.1 367 10).toInt ≤ 401) {P : Option Value → hs_A → Prop} (hP : ∀ (r : Option Value) (A' : hs_A), (hJ 4 Bn Br A0 A' ∧ r = none ∧ ((A'.1 367 10).toInt = (A.1 367 10).toInt + 1)) → P r A') : hxa (d + 0) none hm_t141 0 [.ref 368, .int a1, .int a2, .int a3, .long a4, .double 0] [] A P := by
  refine hxa_aload_n (by rfl) rfl ?_
  refine hxa_get (v := .ref 371) (by rfl) (by rfl) (by rfl) rfl ?_
  refine hxa_aload_n (by rfl) rfl ?_
  refine hxj_getK (by rfl) (by rfl) (by rfl) rfl ?_
  refine hxa_iload_n (by rfl) rfl ?_
  refine hxj_iast (by rfl) (by rfl) rfl (by omega) (by omega) hA (hbok (by rfl) rfl (by omega) (by omega)) (by rfl) (by rfl) (fun A1 hA1 eA1 fA1 gA1 => ?_)
  refine hxa_aload_n (by rfl) rfl ?_
  refine hxa_get (v := .ref 372) (by rfl) (by rfl) (by rfl) rfl ?_
  refine hxa_aload_n (by rfl) rfl ?_
  refine hxj_getK (by rfl) (by rfl) (by rfl) (hkA eA1 rfl) ?_
  refine hxa_iload_n (by rfl) rfl ?_
  refine hxj_iast (by rfl) (by rfl) rfl (by omega) (by omega) hA1 (hbokN (by rfl)) (by rfl) (by rfl) (fun A2 hA2 eA2 fA2 gA2 => ?_)
  refine hxa_aload_n (by rfl) rfl ?_
  refine hxa_get (v := .ref 373) (by rfl) (by rfl) (by rfl) rfl ?_
  refine hxa_aload_n (by rfl) rfl ?_
  refine hxj_getK (by rfl) (by rfl) (by rfl) (hkA eA2 (hkA eA1 rfl)) ?_
  refine hxa_iload_n (by rfl) rfl ?_
  refine hxj_iast (by rfl) (by rfl) rfl (by omega) (by omega) hA2 (hbok (by rfl) rfl (by omega) (by omega)) (by rfl) (by rfl) (fun A3 hA3 eA3 fA3 gA3 => ?_)
  refine hxa_aload_n (by rfl) rfl ?_
  refine hxa_get (v := .ref 374) (by rfl) (by rfl) (by rfl) rfl ?_
  refine hxa_aload_n (by rfl) rfl ?_
  refine hxj_getK (by rfl) (by rfl) (by rfl) (hkA eA3 (hkA eA2 (hkA eA1 rfl))) ?_
  refine hxa_lload (by rfl) rfl ?_
  refine hxj_last (by rfl) (by rfl) rfl (by omega) (by omega) hA3 (by omega) (fun A4 hA4 eA4 fA4 => ?_)
  refine hxa_aload_n (by rfl) rfl ?_
  refine hxa_dupR (by rfl) ?_
  refine hxj_getK (by rfl) (by rfl) (by rfl) (hkA eA4 (hkA eA3 (hkA eA2 (hkA eA1 rfl)))) ?_
  refine hxa_iconst (by rfl) rfl ?_
  refine hxj_iadd (by rfl) rfl hk_1 (by omega) (by omega) (fun z5 ez5 => ?_)
  refine hxj_putI (by rfl) (by rfl) (by rfl) (by rfl) hA4 (hbok (by rfl) rfl (by omega) (by omega)) (by rfl) (by rfl) (fun A6 hA6 eA6 fA6 => ?_)
  exact hxa_return (by rfl) rfl (hP _ _ ⟨hA6, rfl, by rw [(show A6.1 367 10 = z5 from (hkS eA6))]; omega⟩)
theorem hX141q4 {d : Nat} {Bn Br : Int} {A0 A : hs_A} (hA : hJ 4 Bn Br A0 A)  (a1 : Int32) (p1 : 0 ≤ a1.toInt) (q1 : a1.toInt ≤ 39) (a2 : Int32) (a3 : Int32) (p3 : 0 ≤ a3.toInt) (q3 : a3.toInt ≤ 9999) (a4 : Int64) (fl0 : 0 ≤ (A.1 367 10).toInt) (fh0 : (A.1 367 10).toInt ≤ 401) : hxC (d + 1) 141 hm_m141 [.ref 368, .int a1, .int a2, .int a3, .long a4] A (fun r A' => hJ 4 Bn Br A0 A' ∧ r = none ∧ ((A'.1 367 10).toInt = (A.1 367 10).toInt + 1)) := hxC.of (by rfl) (hY141q4 hA a1 p1 q1 a2 a3 p3 q3 a4 fl0 fh0 (fun r A' h => h))
theorem hY143q4 {d : Nat} {Bn Br : Int} {A0 A : hs_A} (hA : hJ 4 Bn Br A0 A)  (a1 : Int32) (a2 : Int32) (a3 : Int32) (fl0 : 0 ≤ (A.1 367 10).toInt) (fh0 : (A.1 367 10).toInt ≤ 401) {P : Option Value → hs_A → Prop} (hP : ∀ (r : Option Value) (A' : hs_A), (hJ 4 Bn Br A0 A' ∧ ∃ z : Int32, r = some (.int z) ∧ (z.toInt = 1 ∧ (A'.1 367 10).toInt = (A.1 367 10).toInt + 1)) → P r A') : hxa (d + 1) (some (.int)) hm_t143 0 [.ref 368, .int a1, .int a2, .int a3, .retAddr 0] [] A P := by
  have k0 := hk_0
  have k1 := hk_1
  have k10 := hk_10
  have k13 := hk_13
  have k15 := hk_15
  have k3 := hk_3
  have k4 := hk_4
  have k5 := hk_5
  have k6 := hk_6
  have k7 := hk_7
  have k8 := hk_8
  have k9 := hk_9
  have L85 : ∀ (x85_4 : Int32) (bx85_4 : 3 ≤ x85_4.toInt) (cx85_4 : x85_4.toInt ≤ 15), hxa (d + 1) (some (.int)) hm_t143 85 [.ref 368, .int a1, .int a2, .int a3, .int x85_4] [] A P := by
    intro x85_4 bx85_4 cx85_4
    refine hxa_iload_n (by rfl) rfl ?_
    refine hxa_bipush (by rfl) rfl ?_
    refine hxj_cne (by rfl) rfl hk_60 (fun q1 => ?_) (fun q1 => ?_)
    ·
      refine hxa_aload_n (by rfl) rfl ?_
      refine hxa_iload (by rfl) rfl ?_
      refine hxa_iload_n (by rfl) rfl ?_
      refine hxa_iconst (by rfl) rfl ?_
      refine hxa_lconst (by rfl) rfl ?_
      refine hxa_call0 (by rfl) (by rfl) (by rfl) (by rfl) (by rfl) (by rfl) (hX141q4 (d := d + 0) hA x85_4 (by omega) (by omega) a1 (Int32.ofNat 0) (by omega) (by omega) (Int64.ofNat 0) (by omega) (by omega)) ?_
      rintro _ A2 ⟨hA2, rfl, fA2⟩
      have fbA2_367_10 := hA2.f (i := 367) (k := 10) (by rfl)
      refine hxa_iconst (by rfl) rfl ?_
      exact hxa_ireturn (by rfl) rfl (hP _ _ ⟨hA2, _, rfl, by omega⟩)
    ·
      refine hxa_bipush (by rfl) rfl ?_
      refine hxa_s1 (by rfl) (Or.inr ⟨_, rfl, rfl⟩) rfl ?_
      refine hxa_aload_n (by rfl) rfl ?_
      refine hxa_iload (by rfl) rfl ?_
      refine hxa_iload_n (by rfl) rfl ?_
      refine hxa_iconst (by rfl) rfl ?_
      refine hxa_lconst (by rfl) rfl ?_
      refine hxa_call0 (by rfl) (by rfl) (by rfl) (by rfl) (by rfl) (by rfl) (hX141q4 (d := d + 0) hA (Int32.ofNat 13) (by omega) (by omega) a1 (Int32.ofNat 0) (by omega) (by omega) (Int64.ofNat 0) (by omega) (by omega)) ?_
      rintro _ A3 ⟨hA3, rfl, fA3⟩
      have fbA3_367_10 := hA3.f (i := 367) (k := 10) (by rfl)
      refine hxa_iconst (by rfl) rfl ?_
      exact hxa_ireturn (by rfl) rfl (hP _ _ ⟨hA3, _, rfl, by omega⟩)
  have L55 : ∀ (x55_4 : Int32) (bx55_4 : 3 ≤ x55_4.toInt) (cx55_4 : x55_4.toInt ≤ 8), hxa (d + 1) (some (.int)) hm_t143 55 [.ref 368, .int a1, .int a2, .int a3, .int x55_4] [] A P := by
    intro x55_4 bx55_4 cx55_4
    refine hxa_iload_n (by rfl) rfl ?_
    refine hxa_bipush (by rfl) rfl ?_
    refine hxj_cne (by rfl) rfl hk_45 (fun q4 => ?_) (fun q4 => ?_)
    ·
      refine hxa_iload_n (by rfl) rfl ?_
      refine hxa_bipush (by rfl) rfl ?_
      refine hxj_cne (by rfl) rfl hk_42 (fun q5 => ?_) (fun q5 => ?_)
      ·
        refine hxa_iload_n (by rfl) rfl ?_
        refine hxa_bipush (by rfl) rfl ?_
        refine hxj_cne (by rfl) rfl hk_47 (fun q6 => ?_) (fun q6 => ?_)
        ·
          exact L85 x55_4 (by omega) (by omega)
        ·
          refine hxa_bipush (by rfl) rfl ?_
          refine hxa_s1 (by rfl) (Or.inr ⟨_, rfl, rfl⟩) rfl ?_
          exact L85 (Int32.ofNat 15) (by omega) (by omega)
      ·
        refine hxa_bipush (by rfl) rfl ?_
        refine hxa_s1 (by rfl) (Or.inr ⟨_, rfl, rfl⟩) rfl ?_
        refine hxa_iload_n (by rfl) rfl ?_
        refine hxa_bipush (by rfl) rfl ?_
        refine hxj_cne (by rfl) rfl hk_47 (fun q7 => ?_) (fun q7 => False.elim (by omega))
        exact L85 (Int32.ofNat 10) (by omega) (by omega)
    ·
      refine hxa_bipush (by rfl) rfl ?_
      refine hxa_s1 (by rfl) (Or.inr ⟨_, rfl, rfl⟩) rfl ?_
      refine hxa_iload_n (by rfl) rfl ?_
      refine hxa_bipush (by rfl) rfl ?_
      refine hxj_cne (by rfl) rfl hk_42 (fun q8 => ?_) (fun q8 => False.elim (by omega))
      refine hxa_iload_n (by rfl) rfl ?_
      refine hxa_bipush (by rfl) rfl ?_
      refine hxj_cne (by rfl) rfl hk_47 (fun q9 => ?_) (fun q9 => False.elim (by omega))
      exact L85 (Int32.ofNat 9) (by omega) (by omega)
  refine hxa_iload_n (by rfl) rfl ?_
  refine hxa_bipush (by rfl) rfl ?_
  refine hxj_cne (by rfl) rfl hk_59 (fun q10 => ?_) (fun q10 => ?_)
  ·
    refine hxa_iload_n (by rfl) rfl ?_
    refine hxa_bipush (by rfl) rfl ?_
    refine hxj_cne (by rfl) rfl hk_61 (fun q11 => ?_) (fun q11 => ?_)
    ·
      refine hxa_iload_n (by rfl) rfl ?_
      refine hxa_bipush (by rfl) rfl ?_
      refine hxj_cne (by rfl) rfl hk_40 (fun q12 => ?_) (fun q12 => ?_)
      ·
        refine hxa_iload_n (by rfl) rfl ?_
        refine hxa_bipush (by rfl) rfl ?_
        refine hxj_cne (by rfl) rfl hk_41 (fun q13 => ?_) (fun q13 => ?_)
        ·
          refine hxa_iconst (by rfl) rfl ?_
          refine hxa_s1 (by rfl) (Or.inr ⟨_, rfl, rfl⟩) rfl ?_
          refine hxa_iload_n (by rfl) rfl ?_
          refine hxa_bipush (by rfl) rfl ?_
          refine hxj_cne (by rfl) rfl hk_43 (fun q14 => ?_) (fun q14 => ?_)
          ·
            exact L55 (Int32.ofNat 3) (by omega) (by omega)
          ·
            refine hxa_bipush (by rfl) rfl ?_
            refine hxa_s1 (by rfl) (Or.inr ⟨_, rfl, rfl⟩) rfl ?_
            exact L55 (Int32.ofNat 8) (by omega) (by omega)
        ·
          refine hxa_bipush (by rfl) rfl ?_
          refine hxa_goto (by rfl) ?_
          refine hxa_s1 (by rfl) (Or.inr ⟨_, rfl, rfl⟩) rfl ?_
          refine hxa_iload_n (by rfl) rfl ?_
          refine hxa_bipush (by rfl) rfl ?_
          refine hxj_cne (by rfl) rfl hk_43 (fun q15 => ?_) (fun q15 => False.elim (by omega))
          exact L55 (Int32.ofNat 7) (by omega) (by omega)
      ·
        refine hxa_bipush (by rfl) rfl ?_
        refine hxa_goto (by rfl) ?_
        refine hxa_s1 (by rfl) (Or.inr ⟨_, rfl, rfl⟩) rfl ?_
        refine hxa_iload_n (by rfl) rfl ?_
        refine hxa_bipush (by rfl) rfl ?_
        refine hxj_cne (by rfl) rfl hk_43 (fun q16 => ?_) (fun q16 => False.elim (by omega))
        exact L55 (Int32.ofNat 6) (by omega) (by omega)
    ·
      refine hxa_iconst (by rfl) rfl ?_
      refine hxa_goto (by rfl) ?_
      refine hxa_s1 (by rfl) (Or.inr ⟨_, rfl, rfl⟩) rfl ?_
      refine hxa_iload_n (by rfl) rfl ?_
      refine hxa_bipush (by rfl) rfl ?_
      refine hxj_cne (by rfl) rfl hk_43 (fun q17 => ?_) (fun q17 => False.elim (by omega))
      exact L55 (Int32.ofNat 5) (by omega) (by omega)
  ·
    refine hxa_iconst (by rfl) rfl ?_
    refine hxa_goto (by rfl) ?_
    refine hxa_s1 (by rfl) (Or.inr ⟨_, rfl, rfl⟩) rfl ?_
    refine hxa_iload_n (by rfl) rfl ?_
    refine hxa_bipush (by rfl) rfl ?_
    refine hxj_cne (by rfl) rfl hk_43 (fun q18 => ?_) (fun q18 => False.elim (by omega))
    exact L55 (Int32.ofNat 4) (by omega) (by omega)
theorem hX143q4 {d : Nat} {Bn Br : Int} {A0 A : hs_A} (hA : hJ 4 Bn Br A0 A)  (a1 : Int32) (a2 : Int32) (a3 : Int32) (fl0 : 0 ≤ (A.1 367 10).toInt) (fh0 : (A.1 367 10).toInt ≤ 401) : hxC (d + 2) 143 hm_m143 [.ref 368, .int a1, .int a2, .int a3] A (fun r A' => hJ 4 Bn Br A0 A' ∧ ∃ z : Int32, r = some (.int z) ∧ (z.toInt = 1 ∧ (A'.1 367 10).toInt = (A.1 367 10).toInt + 1)) := hxC.of (by rfl) (hY143q4 hA a1 a2 a3 fl0 fh0 (fun r A' h => h))
