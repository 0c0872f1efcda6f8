theorem hY51q1_1 {d : Nat} {Bn Br : Int} {A0 A : hs_A} (hA : hJ 1 Bn Br A0 A)  (a1 : Int32) (p1 : 1 ≤ a1.toInt) (q1 : a1.toInt ≤ 1) {P : Option Value → hs_A → Prop} (hP : ∀ (r : Option Value) (A' : hs_A), (hJ 1 Bn Br A0 A' ∧ ∃ z : Int32, r = some (.int z) ∧ ((0 ≤ z.toInt ∧ z.toInt ≤ 1))) → P r A') : hxa (d + 18) (some (.boolean)) hm_t51 0 [.ref 21, .int a1, .retAddr 0, .retAddr 0, .retAddr 0] [] A P := by
  have k0 := hk_0
  have k1 := hk_1
  have k4 := hk_4
  have k5 := hk_5
  have L8 : ∀ (m8 : Nat) (x8_2 : Int32) (x8_3 : Int32) (x8_4 : Value) (Ac8 : hs_A) (hAc8 : hJ 1 Bn Br A0 Ac8) (bx8_2 : 0 ≤ x8_2.toInt) (cx8_2 : x8_2.toInt ≤ 1) (bx8_3 : 0 ≤ x8_3.toInt) (cx8_3 : x8_3.toInt ≤ 400) (hm8 : 400 - x8_3.toInt < (m8 : Int)), hxa (d + 18) (some (.boolean)) hm_t51 8 [.ref 21, .int a1, .int x8_2, .int x8_3, x8_4] [] Ac8 P := by
    intro m8
    induction m8 with
    | zero => intro x8_2 x8_3 x8_4 Ac8 hAc8 bx8_2 cx8_2 bx8_3 cx8_3 hm8;  exact False.elim (by omega)
    | succ m8 ih8 =>
      intro x8_2 x8_3 x8_4 Ac8 hAc8 bx8_2 cx8_2 bx8_3 cx8_3 hm8
      have L61 : ∀ (x61_4 : Int32) (y61_0 : Int32) (Ac61 : hs_A) (hAc61 : hJ 1 Bn Br A0 Ac61) (bx61_4 : 28 ≤ x61_4.toInt) (cx61_4 : x61_4.toInt ≤ 29) (by61_0 : 0 ≤ y61_0.toInt) (cy61_0 : y61_0.toInt ≤ 1) (bx8_2 : 1 ≤ x8_2.toInt) (cx8_3 : x8_3.toInt ≤ 399), hxa (d + 18) (some (.boolean)) hm_t51 61 [.ref 21, .int a1, .int x8_2, .int x8_3, .int x61_4] [.int y61_0] Ac61 P := by
        intro x61_4 y61_0 Ac61 hAc61 bx61_4 cx61_4 by61_0 cy61_0 bx8_2 cx8_3
        refine hxa_s1 (by rfl) (Or.inl ⟨_, rfl, rfl⟩) rfl ?_
        refine hxa_aload_n (by rfl) rfl ?_
        refine hxj_getT (by rfl) (by rfl) (by rfl) hAc61.rt1 ?_
        refine hxa_get (v := .ref 7) (by rfl) (by rfl) (by rfl) rfl ?_
        refine hxa_iload (by rfl) rfl ?_
        refine hxa_bipush (by rfl) rfl ?_
        refine hxj_cne (by rfl) rfl hk_28 (fun q1 => ?_) (fun q1 => ?_)
        ·
          refine hxa_iconst (by rfl) rfl ?_
          refine hxa_iconst (by rfl) rfl ?_
          refine hxa_call0 (by rfl) (by rfl) (by rfl) (by rfl) (by rfl) (by rfl) (hX12q1 (d := d + 17) hAc61 (Int32.ofNat 5) (by omega) (by omega) (Int32.ofNat 0) (by omega)) ?_
          rintro _ A2 ⟨hA2, z3, rfl⟩
          refine hxa_popI (by rfl) ?_
          refine hxj_iinc (by rfl) rfl rfl hk_1 (by omega) (by omega) (fun _ => rfl) (fun z4 ez4 => ?_)
          refine hxa_goto (by rfl) ?_
          exact ih8 y61_0 z4 (.int x61_4) A2 hA2 (by omega) (by omega) (by omega) (by omega) (by omega)
        ·
          refine hxa_iconst (by rfl) rfl ?_
          refine hxa_goto (by rfl) ?_
          refine hxa_iconst (by rfl) rfl ?_
          refine hxa_call0 (by rfl) (by rfl) (by rfl) (by rfl) (by rfl) (by rfl) (hX12q1 (d := d + 17) hAc61 (Int32.ofNat 4) (by omega) (by omega) (Int32.ofNat 0) (by omega)) ?_
          rintro _ A5 ⟨hA5, z6, rfl⟩
          refine hxa_popI (by rfl) ?_
          refine hxj_iinc (by rfl) rfl rfl hk_1 (by omega) (by omega) (fun _ => rfl) (fun z7 ez7 => ?_)
          refine hxa_goto (by rfl) ?_
          exact ih8 y61_0 z7 (.int x61_4) A5 hA5 (by omega) (by omega) (by omega) (by omega) (by omega)
      refine hxa_iload_n (by rfl) rfl ?_
      refine hxa_sipush (by rfl) rfl ?_
      refine hxj_cge (by rfl) rfl hk_400 (fun q8 => ?_) (fun q8 => ?_)
      ·
        refine hxa_iload_n (by rfl) rfl ?_
        exact hxa_ireturn (by rfl) (hn_fitB (by omega) (by omega)) (hP _ _ ⟨hAc8, _, rfl, by omega⟩)
      ·
        refine hxa_iload_n (by rfl) rfl ?_
        refine hxj_zeq (by rfl) rfl (fun q9 => ?_) (fun q9 => ?_)
        ·
          refine hxa_iload_n (by rfl) rfl ?_
          exact hxa_ireturn (by rfl) (hn_fitB (by omega) (by omega)) (hP _ _ ⟨hAc8, _, rfl, by omega⟩)
        ·
          refine hxa_aload_n (by rfl) rfl ?_
          refine hxa_call0 (by rfl) (by rfl) (by rfl) (by rfl) (by rfl) (by rfl) (hX38q1 (d := d + 17) hAc8 ) ?_
          rintro _ _ ⟨rfl, z10, rfl⟩
          refine hxa_s1 (by rfl) (Or.inr ⟨_, rfl, rfl⟩) rfl ?_
          refine hxa_iload (by rfl) rfl ?_
          refine hxa_bipush (by rfl) rfl ?_
          refine hxj_ceq (by rfl) rfl hk_28 (fun q11 => ?_) (fun q11 => ?_)
          ·
            refine hxa_aload_n (by rfl) rfl ?_
            refine hxa_call0 (by rfl) (by rfl) (by rfl) (by rfl) (by rfl) (by rfl) (hX41q1 (d := d + 17) hAc8 ) ?_
            rintro _ A12 ⟨hA12, frA12_0, frA12_1, frA12_2, z13, rfl, fz13⟩
            refine hxj_zeq (by rfl) rfl (fun q14 => ?_) (fun q14 => ?_)
            ·
              refine hxa_iconst (by rfl) rfl ?_
              exact L61 z10 (Int32.ofNat 0) A12 hA12 (by omega) (by omega) (by omega) (by omega) (by omega) (by omega)
            ·
              refine hxa_aload_n (by rfl) rfl ?_
              refine hxa_iload_n (by rfl) rfl ?_
              refine hxa_call0 (by rfl) (by rfl) (by rfl) (by rfl) (by rfl) (by rfl) (hX52q1_1 (d := d + 0) hA12 a1 (by omega) (by omega)) ?_
              rintro _ A15 ⟨hA15, z16, rfl, fz16⟩
              refine hxj_zeq (by rfl) rfl (fun q17 => ?_) (fun q17 => ?_)
              ·
                refine hxa_iconst (by rfl) rfl ?_
                exact L61 z10 (Int32.ofNat 0) A15 hA15 (by omega) (by omega) (by omega) (by omega) (by omega) (by omega)
              ·
                refine hxa_iconst (by rfl) rfl ?_
                refine hxa_goto (by rfl) ?_
                exact L61 z10 (Int32.ofNat 1) A15 hA15 (by omega) (by omega) (by omega) (by omega) (by omega) (by omega)
          ·
            refine hxa_iload (by rfl) rfl ?_
            refine hxa_bipush (by rfl) rfl ?_
            refine hxj_ceq (by rfl) rfl hk_29 (fun q18 => ?_) (fun q18 => ?_)
            ·
              refine hxa_aload_n (by rfl) rfl ?_
              refine hxa_call0 (by rfl) (by rfl) (by rfl) (by rfl) (by rfl) (by rfl) (hX41q1 (d := d + 17) hAc8 ) ?_
              rintro _ A19 ⟨hA19, frA19_0, frA19_1, frA19_2, z20, rfl, fz20⟩
              refine hxj_zeq (by rfl) rfl (fun q21 => ?_) (fun q21 => ?_)
              ·
                refine hxa_iconst (by rfl) rfl ?_
                exact L61 z10 (Int32.ofNat 0) A19 hA19 (by omega) (by omega) (by omega) (by omega) (by omega) (by omega)
              ·
                refine hxa_aload_n (by rfl) rfl ?_
                refine hxa_iload_n (by rfl) rfl ?_
                refine hxa_call0 (by rfl) (by rfl) (by rfl) (by rfl) (by rfl) (by rfl) (hX52q1_1 (d := d + 0) hA19 a1 (by omega) (by omega)) ?_
                rintro _ A22 ⟨hA22, z23, rfl, fz23⟩
                refine hxj_zeq (by rfl) rfl (fun q24 => ?_) (fun q24 => ?_)
                ·
                  refine hxa_iconst (by rfl) rfl ?_
                  exact L61 z10 (Int32.ofNat 0) A22 hA22 (by omega) (by omega) (by omega) (by omega) (by omega) (by omega)
                ·
                  refine hxa_iconst (by rfl) rfl ?_
                  refine hxa_goto (by rfl) ?_
                  exact L61 z10 (Int32.ofNat 1) A22 hA22 (by omega) (by omega) (by omega) (by omega) (by omega) (by omega)
            ·
              refine hxa_iconst (by rfl) rfl ?_
              exact hxa_ireturn (by rfl) (by rfl) (hP _ _ ⟨hAc8, _, rfl, by omega⟩)
  refine hxa_aload_n (by rfl) rfl ?_
  refine hxa_iload_n (by rfl) rfl ?_
  refine hxa_call0 (by rfl) (by rfl) (by rfl) (by rfl) (by rfl) (by rfl) (hX52q1_1 (d := d + 0) hA a1 (by omega) (by omega)) ?_
  rintro _ A25 ⟨hA25, z26, rfl, fz26⟩
  refine hxa_s1 (by rfl) (Or.inl ⟨_, rfl, rfl⟩) rfl ?_
  refine hxa_iconst (by rfl) rfl ?_
  refine hxa_s1 (by rfl) (Or.inl ⟨_, rfl, rfl⟩) rfl ?_
  exact L8 (Int.toNat (400 - 0) + 1) z26 (Int32.ofNat 0) (.retAddr 0) A25 hA25 (by omega) (by omega) (by omega) (by omega) (by omega)
theorem hX51q1_1 {d : Nat} {Bn Br : Int} {A0 A : hs_A} (hA : hJ 1 Bn Br A0 A)  (a1 : Int32) (p1 : 1 ≤ a1.toInt) (q1 : a1.toInt ≤ 1) : hxC (d + 19) 51 hm_m51 [.ref 21, .int a1] A (fun r A' => hJ 1 Bn Br A0 A' ∧ ∃ z : Int32, r = some (.int z) ∧ ((0 ≤ z.toInt ∧ z.toInt ≤ 1))) := hxC.of (by rfl) (hY51q1_1 hA a1 p1 q1 (fun r A' h => h))
theorem hY50q1_1 {d : Nat} {Bn Br : Int} {A0 A : hs_A} (hA : hJ 1 Bn Br A0 A)  (a1 : Int32) (p1 : 1 ≤ a1.toInt) (q1 : a1.toInt ≤ 1) {P : Option Value → hs_A → Prop} (hP : ∀ (r : Option Value) (A' : hs_A), (hJ 1 Bn Br A0 A' ∧ ∃ z : Int32, r = some (.int z) ∧ ((0 ≤ z.toInt ∧ z.toInt ≤ 1))) → P r A') : hxa (d + 19) (some (.boolean)) hm_t50 0 [.ref 21, .int a1, .retAddr 0, .retAddr 0, .retAddr 0] [] A P := by
  have k0 := hk_0
  have k1 := hk_1
  have k2 := hk_2
  have k3 := hk_3
  have L8 : ∀ (m8 : Nat) (x8_2 : Int32) (x8_3 : Int32) (x8_4 : Value) (Ac8 : hs_A) (hAc8 : hJ 1 Bn Br A0 Ac8) (bx8_2 : 0 ≤ x8_2.toInt) (cx8_2 : x8_2.toInt ≤ 1) (bx8_3 : 0 ≤ x8_3.toInt) (cx8_3 : x8_3.toInt ≤ 400) (hm8 : 400 - x8_3.toInt < (m8 : Int)), hxa (d + 19) (some (.boolean)) hm_t50 8 [.ref 21, .int a1, .int x8_2, .int x8_3, x8_4] [] Ac8 P := by
    intro m8
    induction m8 with
    | zero => intro x8_2 x8_3 x8_4 Ac8 hAc8 bx8_2 cx8_2 bx8_3 cx8_3 hm8;  exact False.elim (by omega)
    | succ m8 ih8 =>
      intro x8_2 x8_3 x8_4 Ac8 hAc8 bx8_2 cx8_2 bx8_3 cx8_3 hm8
      have L61 : ∀ (x61_4 : Int32) (y61_0 : Int32) (Ac61 : hs_A) (hAc61 : hJ 1 Bn Br A0 Ac61) (bx61_4 : 26 ≤ x61_4.toInt) (cx61_4 : x61_4.toInt ≤ 27) (by61_0 : 0 ≤ y61_0.toInt) (cy61_0 : y61_0.toInt ≤ 1) (bx8_2 : 1 ≤ x8_2.toInt) (cx8_3 : x8_3.toInt ≤ 399), hxa (d + 19) (some (.boolean)) hm_t50 61 [.ref 21, .int a1, .int x8_2, .int x8_3, .int x61_4] [.int y61_0] Ac61 P := by
        intro x61_4 y61_0 Ac61 hAc61 bx61_4 cx61_4 by61_0 cy61_0 bx8_2 cx8_3
        refine hxa_s1 (by rfl) (Or.inl ⟨_, rfl, rfl⟩) rfl ?_
        refine hxa_aload_n (by rfl) rfl ?_
        refine hxj_getT (by rfl) (by rfl) (by rfl) hAc61.rt1 ?_
        refine hxa_get (v := .ref 7) (by rfl) (by rfl) (by rfl) rfl ?_
        refine hxa_iload (by rfl) rfl ?_
        refine hxa_bipush (by rfl) rfl ?_
        refine hxj_cne (by rfl) rfl hk_26 (fun q1 => ?_) (fun q1 => ?_)
        ·
          refine hxa_iconst (by rfl) rfl ?_
          refine hxa_iconst (by rfl) rfl ?_
          refine hxa_call0 (by rfl) (by rfl) (by rfl) (by rfl) (by rfl) (by rfl) (hX12q1 (d := d + 18) hAc61 (Int32.ofNat 3) (by omega) (by omega) (Int32.ofNat 0) (by omega)) ?_
          rintro _ A2 ⟨hA2, z3, rfl⟩
          refine hxa_popI (by rfl) ?_
          refine hxj_iinc (by rfl) rfl rfl hk_1 (by omega) (by omega) (fun _ => rfl) (fun z4 ez4 => ?_)
          refine hxa_goto (by rfl) ?_
          exact ih8 y61_0 z4 (.int x61_4) A2 hA2 (by omega) (by omega) (by omega) (by omega) (by omega)
        ·
          refine hxa_iconst (by rfl) rfl ?_
          refine hxa_goto (by rfl) ?_
          refine hxa_iconst (by rfl) rfl ?_
          refine hxa_call0 (by rfl) (by rfl) (by rfl) (by rfl) (by rfl) (by rfl) (hX12q1 (d := d + 18) hAc61 (Int32.ofNat 2) (by omega) (by omega) (Int32.ofNat 0) (by omega)) ?_
          rintro _ A5 ⟨hA5, z6, rfl⟩
          refine hxa_popI (by rfl) ?_
          refine hxj_iinc (by rfl) rfl rfl hk_1 (by omega) (by omega) (fun _ => rfl) (fun z7 ez7 => ?_)
          refine hxa_goto (by rfl) ?_
          exact ih8 y61_0 z7 (.int x61_4) A5 hA5 (by omega) (by omega) (by omega) (by omega) (by omega)
      refine hxa_iload_n (by rfl) rfl ?_
      refine hxa_sipush (by rfl) rfl ?_
      refine hxj_cge (by rfl) rfl hk_400 (fun q8 => ?_) (fun q8 => ?_)
      ·
        refine hxa_iload_n (by rfl) rfl ?_
        exact hxa_ireturn (by rfl) (hn_fitB (by omega) (by omega)) (hP _ _ ⟨hAc8, _, rfl, by omega⟩)
      ·
        refine hxa_iload_n (by rfl) rfl ?_
        refine hxj_zeq (by rfl) rfl (fun q9 => ?_) (fun q9 => ?_)
        ·
          refine hxa_iload_n (by rfl) rfl ?_
          exact hxa_ireturn (by rfl) (hn_fitB (by omega) (by omega)) (hP _ _ ⟨hAc8, _, rfl, by omega⟩)
        ·
          refine hxa_aload_n (by rfl) rfl ?_
          refine hxa_call0 (by rfl) (by rfl) (by rfl) (by rfl) (by rfl) (by rfl) (hX38q1 (d := d + 18) hAc8 ) ?_
          rintro _ _ ⟨rfl, z10, rfl⟩
          refine hxa_s1 (by rfl) (Or.inr ⟨_, rfl, rfl⟩) rfl ?_
          refine hxa_iload (by rfl) rfl ?_
          refine hxa_bipush (by rfl) rfl ?_
          refine hxj_ceq (by rfl) rfl hk_26 (fun q11 => ?_) (fun q11 => ?_)
          ·
            refine hxa_aload_n (by rfl) rfl ?_
            refine hxa_call0 (by rfl) (by rfl) (by rfl) (by rfl) (by rfl) (by rfl) (hX41q1 (d := d + 18) hAc8 ) ?_
            rintro _ A12 ⟨hA12, frA12_0, frA12_1, frA12_2, z13, rfl, fz13⟩
            refine hxj_zeq (by rfl) rfl (fun q14 => ?_) (fun q14 => ?_)
            ·
              refine hxa_iconst (by rfl) rfl ?_
              exact L61 z10 (Int32.ofNat 0) A12 hA12 (by omega) (by omega) (by omega) (by omega) (by omega) (by omega)
            ·
              refine hxa_aload_n (by rfl) rfl ?_
              refine hxa_iload_n (by rfl) rfl ?_
              refine hxa_call0 (by rfl) (by rfl) (by rfl) (by rfl) (by rfl) (by rfl) (hX51q1_1 (d := d + 0) hA12 a1 (by omega) (by omega)) ?_
              rintro _ A15 ⟨hA15, z16, rfl, fz16⟩
              refine hxj_zeq (by rfl) rfl (fun q17 => ?_) (fun q17 => ?_)
              ·
                refine hxa_iconst (by rfl) rfl ?_
                exact L61 z10 (Int32.ofNat 0) A15 hA15 (by omega) (by omega) (by omega) (by omega) (by omega) (by omega)
              ·
                refine hxa_iconst (by rfl) rfl ?_
                refine hxa_goto (by rfl) ?_
                exact L61 z10 (Int32.ofNat 1) A15 hA15 (by omega) (by omega) (by omega) (by omega) (by omega) (by omega)
          ·
            refine hxa_iload (by rfl) rfl ?_
            refine hxa_bipush (by rfl) rfl ?_
            refine hxj_ceq (by rfl) rfl hk_27 (fun q18 => ?_) (fun q18 => ?_)
            ·
              refine hxa_aload_n (by rfl) rfl ?_
              refine hxa_call0 (by rfl) (by rfl) (by rfl) (by rfl) (by rfl) (by rfl) (hX41q1 (d := d + 18) hAc8 ) ?_
              rintro _ A19 ⟨hA19, frA19_0, frA19_1, frA19_2, z20, rfl, fz20⟩
              refine hxj_zeq (by rfl) rfl (fun q21 => ?_) (fun q21 => ?_)
              ·
                refine hxa_iconst (by rfl) rfl ?_
                exact L61 z10 (Int32.ofNat 0) A19 hA19 (by omega) (by omega) (by omega) (by omega) (by omega) (by omega)
              ·
                refine hxa_aload_n (by rfl) rfl ?_
                refine hxa_iload_n (by rfl) rfl ?_
                refine hxa_call0 (by rfl) (by rfl) (by rfl) (by rfl) (by rfl) (by rfl) (hX51q1_1 (d := d + 0) hA19 a1 (by omega) (by omega)) ?_
                rintro _ A22 ⟨hA22, z23, rfl, fz23⟩
                refine hxj_zeq (by rfl) rfl (fun q24 => ?_) (fun q24 => ?_)
                ·
                  refine hxa_iconst (by rfl) rfl ?_
                  exact L61 z10 (Int32.ofNat 0) A22 hA22 (by omega) (by omega) (by omega) (by omega) (by omega) (by omega)
                ·
                  refine hxa_iconst (by rfl) rfl ?_
                  refine hxa_goto (by rfl) ?_
                  exact L61 z10 (Int32.ofNat 1) A22 hA22 (by omega) (by omega) (by omega) (by omega) (by omega) (by omega)
            ·
              refine hxa_iconst (by rfl) rfl ?_
              exact hxa_ireturn (by rfl) (by rfl) (hP _ _ ⟨hAc8, _, rfl, by omega⟩)
  refine hxa_aload_n (by rfl) rfl ?_
  refine hxa_iload_n (by rfl) rfl ?_
  refine hxa_call0 (by rfl) (by rfl) (by rfl) (by rfl) (by rfl) (by rfl) (hX51q1_1 (d := d + 0) hA a1 (by omega) (by omega)) ?_
  rintro _ A25 ⟨hA25, z26, rfl, fz26⟩
  refine hxa_s1 (by rfl) (Or.inl ⟨_, rfl, rfl⟩) rfl ?_
  refine hxa_iconst (by rfl) rfl ?_
  refine hxa_s1 (by rfl) (Or.inl ⟨_, rfl, rfl⟩) rfl ?_
  exact L8 (Int.toNat (400 - 0) + 1) z26 (Int32.ofNat 0) (.retAddr 0) A25 hA25 (by omega) (by omega) (by omega) (by omega) (by omega)
theorem hX50q1_1 {d : Nat} {Bn Br : Int} {A0 A : hs_A} (hA : hJ 1 Bn Br A0 A)  (a1 : Int32) (p1 : 1 ≤ a1.toInt) (q1 : a1.toInt ≤ 1) : hxC (d + 20) 50 hm_m50 [.ref 21, .int a1] A (fun r A' => hJ 1 Bn Br A0 A' ∧ ∃ z : Int32, r = some (.int z) ∧ ((0 ≤ z.toInt ∧ z.toInt ≤ 1))) := hxC.of (by rfl) (hY50q1_1 hA a1 p1 q1 (fun r A' h => h))
theorem hY52q1_0 {d : Nat} {Bn Br : Int} {A0 A : hs_A} (hA : hJ 1 Bn Br A0 A)  (a1 : Int32) (p1 : 0 ≤ a1.toInt) (q1 : a1.toInt ≤ 0) {P : Option Value → hs_A → Prop} (hP : ∀ (r : Option Value) (A' : hs_A), (hJ 1 Bn Br A0 A' ∧ ∃ z : Int32, r = some (.int z) ∧ ((0 ≤ z.toInt ∧ z.toInt ≤ 1))) → P r A') : hxa (d + 20) (some (.boolean)) hm_t52 0 [.ref 21, .int a1, .retAddr 0] [] A P := by
  have k0 := hk_0
  have k1 := hk_1
  have k11 := hk_11
  have k19 := hk_19
  have k32 := hk_32
  refine hxa_aload_n (by rfl) rfl ?_
  refine hxa_call0 (by rfl) (by rfl) (by rfl) (by rfl) (by rfl) (by rfl) (hX38q1 (d := d + 19) hA ) ?_
  rintro _ _ ⟨rfl, z1, rfl⟩
  refine hxa_s1 (by rfl) (Or.inl ⟨_, rfl, rfl⟩) rfl ?_
  refine hxa_iload_n (by rfl) rfl ?_
  refine hxa_bipush (by rfl) rfl ?_
  refine hxj_cne (by rfl) rfl hk_21 (fun q2 => ?_) (fun q2 => ?_)
  ·
    refine hxa_iload_n (by rfl) rfl ?_
    refine hxa_bipush (by rfl) rfl ?_
    refine hxa_bipush (by rfl) rfl ?_
    refine hxa_call2 (by rfl) (by decide) (by rfl) (by rfl) (by rfl) (hX78 (d := d + 19)  z1 (Int32.ofNat 11) (Int32.ofNat 19)) ?_
    rintro _ _ ⟨rfl, z3, rfl, fz3⟩
    rcases fz3 with fz3 | fz3
    ·
      refine hxj_zeq (by rfl) rfl (fun q4 => False.elim (by omega)) (fun q4 => ?_)
      refine hxa_aload_n (by rfl) rfl ?_
      refine hxj_getT (by rfl) (by rfl) (by rfl) hA.rt1 ?_
      refine hxa_get (v := .ref 7) (by rfl) (by rfl) (by rfl) rfl ?_
      refine hxa_iconst (by rfl) rfl ?_
      refine hxa_iload_n (by rfl) rfl ?_
      refine hxa_bipush (by rfl) rfl ?_
      refine hxj_isub (by rfl) rfl hk_11 (by omega) (by omega) (fun z5 ez5 => ?_)
      refine hxa_call0 (by rfl) (by rfl) (by rfl) (by rfl) (by rfl) (by rfl) (hX12q1 (d := d + 19) hA (Int32.ofNat 1) (by omega) (by omega) z5 (by omega)) ?_
      rintro _ A6 ⟨hA6, z7, rfl⟩
      refine hxa_popI (by rfl) ?_
      refine hxa_aload_n (by rfl) rfl ?_
      refine hxa_call0 (by rfl) (by rfl) (by rfl) (by rfl) (by rfl) (by rfl) (hX41q1 (d := d + 19) hA6 ) ?_
      rintro _ A8 ⟨hA8, frA8_0, frA8_1, frA8_2, z9, rfl, fz9⟩
      exact hxa_ireturn (by rfl) (hn_fitB (by omega) (by omega)) (hP _ _ ⟨hA8, _, rfl, by omega⟩)
    ·
      refine hxj_zeq (by rfl) rfl (fun q10 => ?_) (fun q10 => False.elim (by omega))
      refine hxa_iload_n (by rfl) rfl ?_
      refine hxa_bipush (by rfl) rfl ?_
      refine hxj_ceq (by rfl) rfl hk_31 (fun q11 => ?_) (fun q11 => ?_)
      ·
        refine hxa_iload_n (by rfl) rfl ?_
        refine hxa_bipush (by rfl) rfl ?_
        refine hxj_clt (by rfl) rfl hk_6 (fun q12 => ?_) (fun q12 => False.elim (by omega))
        refine hxa_aload_n (by rfl) rfl ?_
        refine hxa_call0 (by rfl) (by rfl) (by rfl) (by rfl) (by rfl) (by rfl) (hX41q1 (d := d + 19) hA ) ?_
        rintro _ A13 ⟨hA13, frA13_0, frA13_1, frA13_2, z14, rfl, fz14⟩
        refine hxj_zeq (by rfl) rfl (fun q15 => ?_) (fun q15 => ?_)
        ·
          refine hxa_iconst (by rfl) rfl ?_
          exact hxa_ireturn (by rfl) (by rfl) (hP _ _ ⟨hA13, _, rfl, by omega⟩)
        ·
          refine hxa_aload_n (by rfl) rfl ?_
          refine hxa_iload_n (by rfl) rfl ?_
          refine hxa_iconst (by rfl) rfl ?_
          refine hxj_iadd (by rfl) rfl hk_1 (by omega) (by omega) (fun z16 ez16 => ?_)
          refine hxa_call0 (by rfl) (by rfl) (by rfl) (by rfl) (by rfl) (by rfl) (hX50q1_1 (d := d + 0) hA13 z16 (by omega) (by omega)) ?_
          rintro _ A17 ⟨hA17, z18, rfl, fz18⟩
          refine hxj_zeq (by rfl) rfl (fun q19 => ?_) (fun q19 => ?_)
          ·
            refine hxa_iconst (by rfl) rfl ?_
            exact hxa_ireturn (by rfl) (by rfl) (hP _ _ ⟨hA17, _, rfl, by omega⟩)
          ·
            refine hxa_aload_n (by rfl) rfl ?_
            refine hxa_bipush (by rfl) rfl ?_
            refine hxa_call0 (by rfl) (by rfl) (by rfl) (by rfl) (by rfl) (by rfl) (hX42q1 (d := d + 18) hA17 (Int32.ofNat 32)) ?_
            rintro _ A20 ⟨hA20, frA20_0, frA20_1, frA20_2, z21, rfl, fz21⟩
            refine hxj_zeq (by rfl) rfl (fun q22 => ?_) (fun q22 => ?_)
            ·
              refine hxa_iconst (by rfl) rfl ?_
              exact hxa_ireturn (by rfl) (by rfl) (hP _ _ ⟨hA20, _, rfl, by omega⟩)
            ·
              refine hxa_iconst (by rfl) rfl ?_
              refine hxa_goto (by rfl) ?_
              exact hxa_ireturn (by rfl) (by rfl) (hP _ _ ⟨hA20, _, rfl, by omega⟩)
      ·
        refine hxa_aload_n (by rfl) rfl ?_
        refine hxa_iconst (by rfl) rfl ?_
        refine hxa_call0 (by rfl) (by rfl) (by rfl) (by rfl) (by rfl) (by rfl) (hX39q1 (d := d + 19) hA (Int32.ofNat 1)) ?_
        rintro _ A23 ⟨hA23, frA23_0, frA23_1, frA23_2, frA23_3, z24, rfl, fz24⟩
        exact hxa_ireturn (by rfl) (hn_fitB (by omega) (by omega)) (hP _ _ ⟨hA23, _, rfl, by omega⟩)
  ·
    refine hxa_aload_n (by rfl) rfl ?_
    refine hxj_getT (by rfl) (by rfl) (by rfl) hA.rt1 ?_
    refine hxa_get (v := .ref 7) (by rfl) (by rfl) (by rfl) rfl ?_
    refine hxa_iconst (by rfl) rfl ?_
    refine hxa_aload_n (by rfl) rfl ?_
    refine hxa_get (v := .ref 22) (by rfl) (by rfl) (by rfl) rfl ?_
    refine hxa_get (v := .ref 24) (by rfl) (by rfl) (by rfl) rfl ?_
    refine hxa_aload_n (by rfl) rfl ?_
    refine hxj_getB (by rfl) (by rfl) (by rfl) hA (by rfl) (fun z25 ez25 fz25 gz25 => ?_)
    refine hxj_lald (by rfl) (by rfl) rfl (by omega) (by omega) (fun j26 ej26 => ?_)
    refine hxa_l2i (by rfl) (hn_top (fun z27 _ => ?_))
    refine hxa_call0 (by rfl) (by rfl) (by rfl) (by rfl) (by rfl) (by rfl) (hX12q1 (d := d + 19) hA (Int32.ofNat 0) (by omega) (by omega) z27 (by omega)) ?_
    rintro _ A28 ⟨hA28, z29, rfl⟩
    refine hxa_popI (by rfl) ?_
    refine hxa_aload_n (by rfl) rfl ?_
    refine hxa_call0 (by rfl) (by rfl) (by rfl) (by rfl) (by rfl) (by rfl) (hX41q1 (d := d + 19) hA28 ) ?_
    rintro _ A30 ⟨hA30, frA30_0, frA30_1, frA30_2, z31, rfl, fz31⟩
    exact hxa_ireturn (by rfl) (hn_fitB (by omega) (by omega)) (hP _ _ ⟨hA30, _, rfl, by omega⟩)
theorem hX52q1_0 {d : Nat} {Bn Br : Int} {A0 A : hs_A} (hA : hJ 1 Bn Br A0 A)  (a1 : Int32) (p1 : 0 ≤ a1.toInt) (q1 : a1.toInt ≤ 0) : hxC (d + 21) 52 hm_m52 [.ref 21, .int a1] A (fun r A' => hJ 1 Bn Br A0 A' ∧ ∃ z : Int32, r = some (.int z) ∧ ((0 ≤ z.toInt ∧ z.toInt ≤ 1))) := hxC.of (by rfl) (hY52q1_0 hA a1 p1 q1 (fun r A' h => h))
theorem hY51q1_0 {d : Nat} {Bn Br : Int} {A0 A : hs_A} (hA : hJ 1 Bn Br A0 A)  (a1 : Int32) (p1 : 0 ≤ a1.toInt) (q1 : a1.toInt ≤ 0) {P : Option Value → hs_A → Prop} (hP : ∀ (r : Option Value) (A' : hs_A), (hJ 1 Bn Br A0 A' ∧ ∃ z : Int32, r = some (.int z) ∧ ((0 ≤ z.toInt ∧ z.toInt ≤ 1))) → P r A') : hxa (d + 21) (some (.boolean)) hm_t51 0 [.ref 21, .int a1, .retAddr 0, .retAddr 0, .retAddr 0] [] A P := by
  have k0 := hk_0
  have k1 := hk_1
  have k4 := hk_4
  have k5 := hk_5
  have L8 : ∀ (m8 : Nat) (x8_2 : Int32) (x8_3 : Int32) (x8_4 : Value) (Ac8 : hs_A) (hAc8 : hJ 1 Bn Br A0 Ac8) (bx8_2 : 0 ≤ x8_2.toInt) (cx8_2 : x8_2.toInt ≤ 1) (bx8_3 : 0 ≤ x8_3.toInt) (cx8_3 : x8_3.toInt ≤ 400) (hm8 : 400 - x8_3.toInt < (m8 : Int)), hxa (d + 21) (some (.boolean)) hm_t51 8 [.ref 21, .int a1, .int x8_2, .int x8_3, x8_4] [] Ac8 P := by
    intro m8
    induction m8 with
    | zero => intro x8_2 x8_3 x8_4 Ac8 hAc8 bx8_2 cx8_2 bx8_3 cx8_3 hm8;  exact False.elim (by omega)
    | succ m8 ih8 =>
      intro x8_2 x8_3 x8_4 Ac8 hAc8 bx8_2 cx8_2 bx8_3 cx8_3 hm8
      have L61 : ∀ (x61_4 : Int32) (y61_0 : Int32) (Ac61 : hs_A) (hAc61 : hJ 1 Bn Br A0 Ac61) (bx61_4 : 28 ≤ x61_4.toInt) (cx61_4 : x61_4.toInt ≤ 29) (by61_0 : 0 ≤ y61_0.toInt) (cy61_0 : y61_0.toInt ≤ 1) (bx8_2 : 1 ≤ x8_2.toInt) (cx8_3 : x8_3.toInt ≤ 399), hxa (d + 21) (some (.boolean)) hm_t51 61 [.ref 21, .int a1, .int x8_2, .int x8_3, .int x61_4] [.int y61_0] Ac61 P := by
        intro x61_4 y61_0 Ac61 hAc61 bx61_4 cx61_4 by61_0 cy61_0 bx8_2 cx8_3
        refine hxa_s1 (by rfl) (Or.inl ⟨_, rfl, rfl⟩) rfl ?_
        refine hxa_aload_n (by rfl) rfl ?_
        refine hxj_getT (by rfl) (by rfl) (by rfl) hAc61.rt1 ?_
        refine hxa_get (v := .ref 7) (by rfl) (by rfl) (by rfl) rfl ?_
        refine hxa_iload (by rfl) rfl ?_
        refine hxa_bipush (by rfl) rfl ?_
        refine hxj_cne (by rfl) rfl hk_28 (fun q1 => ?_) (fun q1 => ?_)
        ·
          refine hxa_iconst (by rfl) rfl ?_
          refine hxa_iconst (by rfl) rfl ?_
          refine hxa_call0 (by rfl) (by rfl) (by rfl) (by rfl) (by rfl) (by rfl) (hX12q1 (d := d + 20) hAc61 (Int32.ofNat 5) (by omega) (by omega) (Int32.ofNat 0) (by omega)) ?_
          rintro _ A2 ⟨hA2, z3, rfl⟩
          refine hxa_popI (by rfl) ?_
          refine hxj_iinc (by rfl) rfl rfl hk_1 (by omega) (by omega) (fun _ => rfl) (fun z4 ez4 => ?_)
          refine hxa_goto (by rfl) ?_
          exact ih8 y61_0 z4 (.int x61_4) A2 hA2 (by omega) (by omega) (by omega) (by omega) (by omega)
        ·
          refine hxa_iconst (by rfl) rfl ?_
          refine hxa_goto (by rfl) ?_
          refine hxa_iconst (by rfl) rfl ?_
          refine hxa_call0 (by rfl) (by rfl) (by rfl) (by rfl) (by rfl) (by rfl) (hX12q1 (d := d + 20) hAc61 (Int32.ofNat 4) (by omega) (by omega) (Int32.ofNat 0) (by omega)) ?_
          rintro _ A5 ⟨hA5, z6, rfl⟩
          refine hxa_popI (by rfl) ?_
          refine hxj_iinc (by rfl) rfl rfl hk_1 (by omega) (by omega) (fun _ => rfl) (fun z7 ez7 => ?_)
          refine hxa_goto (by rfl) ?_
          exact ih8 y61_0 z7 (.int x61_4) A5 hA5 (by omega) (by omega) (by omega) (by omega) (by omega)
      refine hxa_iload_n (by rfl) rfl ?_
      refine hxa_sipush (by rfl) rfl ?_
      refine hxj_cge (by rfl) rfl hk_400 (fun q8 => ?_) (fun q8 => ?_)
      ·
        refine hxa_iload_n (by rfl) rfl ?_
        exact hxa_ireturn (by rfl) (hn_fitB (by omega) (by omega)) (hP _ _ ⟨hAc8, _, rfl, by omega⟩)
      ·
        refine hxa_iload_n (by rfl) rfl ?_
        refine hxj_zeq (by rfl) rfl (fun q9 => ?_) (fun q9 => ?_)
        ·
          refine hxa_iload_n (by rfl) rfl ?_
          exact hxa_ireturn (by rfl) (hn_fitB (by omega) (by omega)) (hP _ _ ⟨hAc8, _, rfl, by omega⟩)
        ·
          refine hxa_aload_n (by rfl) rfl ?_
          refine hxa_call0 (by rfl) (by rfl) (by rfl) (by rfl) (by rfl) (by rfl) (hX38q1 (d := d + 20) hAc8 ) ?_
          rintro _ _ ⟨rfl, z10, rfl⟩
          refine hxa_s1 (by rfl) (Or.inr ⟨_, rfl, rfl⟩) rfl ?_
          refine hxa_iload (by rfl) rfl ?_
          refine hxa_bipush (by rfl) rfl ?_
          refine hxj_ceq (by rfl) rfl hk_28 (fun q11 => ?_) (fun q11 => ?_)
          ·
            refine hxa_aload_n (by rfl) rfl ?_
            refine hxa_call0 (by rfl) (by rfl) (by rfl) (by rfl) (by rfl) (by rfl) (hX41q1 (d := d + 20) hAc8 ) ?_
            rintro _ A12 ⟨hA12, frA12_0, frA12_1, frA12_2, z13, rfl, fz13⟩
            refine hxj_zeq (by rfl) rfl (fun q14 => ?_) (fun q14 => ?_)
            ·
              refine hxa_iconst (by rfl) rfl ?_
              exact L61 z10 (Int32.ofNat 0) A12 hA12 (by omega) (by omega) (by omega) (by omega) (by omega) (by omega)
            ·
              refine hxa_aload_n (by rfl) rfl ?_
              refine hxa_iload_n (by rfl) rfl ?_
              refine hxa_call0 (by rfl) (by rfl) (by rfl) (by rfl) (by rfl) (by rfl) (hX52q1_0 (d := d + 0) hA12 a1 (by omega) (by omega)) ?_
              rintro _ A15 ⟨hA15, z16, rfl, fz16⟩
              refine hxj_zeq (by rfl) rfl (fun q17 => ?_) (fun q17 => ?_)
              ·
                refine hxa_iconst (by rfl) rfl ?_
                exact L61 z10 (Int32.ofNat 0) A15 hA15 (by omega) (by omega) (by omega) (by omega) (by omega) (by omega)
              ·
                refine hxa_iconst (by rfl) rfl ?_
                refine hxa_goto (by rfl) ?_
                exact L61 z10 (Int32.ofNat 1) A15 hA15 (by omega) (by omega) (by omega) (by omega) (by omega) (by omega)
          ·
            refine hxa_iload (by rfl) rfl ?_
            refine hxa_bipush (by rfl) rfl ?_
            refine hxj_ceq (by rfl) rfl hk_29 (fun q18 => ?_) (fun q18 => ?_)
            ·
              refine hxa_aload_n (by rfl) rfl ?_
              refine hxa_call0 (by rfl) (by rfl) (by rfl) (by rfl) (by rfl) (by rfl) (hX41q1 (d := d + 20) hAc8 ) ?_
              rintro _ A19 ⟨hA19, frA19_0, frA19_1, frA19_2, z20, rfl, fz20⟩
              refine hxj_zeq (by rfl) rfl (fun q21 => ?_) (fun q21 => ?_)
              ·
                refine hxa_iconst (by rfl) rfl ?_
                exact L61 z10 (Int32.ofNat 0) A19 hA19 (by omega) (by omega) (by omega) (by omega) (by omega) (by omega)
              ·
                refine hxa_aload_n (by rfl) rfl ?_
                refine hxa_iload_n (by rfl) rfl ?_
                refine hxa_call0 (by rfl) (by rfl) (by rfl) (by rfl) (by rfl) (by rfl) (hX52q1_0 (d := d + 0) hA19 a1 (by omega) (by omega)) ?_
                rintro _ A22 ⟨hA22, z23, rfl, fz23⟩
                refine hxj_zeq (by rfl) rfl (fun q24 => ?_) (fun q24 => ?_)
                ·
                  refine hxa_iconst (by rfl) rfl ?_
                  exact L61 z10 (Int32.ofNat 0) A22 hA22 (by omega) (by omega) (by omega) (by omega) (by omega) (by omega)
                ·
                  refine hxa_iconst (by rfl) rfl ?_
                  refine hxa_goto (by rfl) ?_
                  exact L61 z10 (Int32.ofNat 1) A22 hA22 (by omega) (by omega) (by omega) (by omega) (by omega) (by omega)
            ·
              refine hxa_iconst (by rfl) rfl ?_
              exact hxa_ireturn (by rfl) (by rfl) (hP _ _ ⟨hAc8, _, rfl, by omega⟩)
  refine hxa_aload_n (by rfl) rfl ?_
  refine hxa_iload_n (by rfl) rfl ?_
  refine hxa_call0 (by rfl) (by rfl) (by rfl) (by rfl) (by rfl) (by rfl) (hX52q1_0 (d := d + 0) hA a1 (by omega) (by omega)) ?_
  rintro _ A25 ⟨hA25, z26, rfl, fz26⟩
  refine hxa_s1 (by rfl) (Or.inl ⟨_, rfl, rfl⟩) rfl ?_
  refine hxa_iconst (by rfl) rfl ?_
  refine hxa_s1 (by rfl) (Or.inl ⟨_, rfl, rfl⟩) rfl ?_
  exact L8 (Int.toNat (400 - 0) + 1) z26 (Int32.ofNat 0) (.retAddr 0) A25 hA25 (by omega) (by omega) (by omega) (by omega) (by omega)
theorem hX51q1_0 {d : Nat} {Bn Br : Int} {A0 A : hs_A} (hA : hJ 1 Bn Br A0 A)  (a1 : Int32) (p1 : 0 ≤ a1.toInt) (q1 : a1.toInt ≤ 0) : hxC (d + 22) 51 hm_m51 [.ref 21, .int a1] A (fun r A' => hJ 1 Bn Br A0 A' ∧ ∃ z : Int32, r = some (.int z) ∧ ((0 ≤ z.toInt ∧ z.toInt ≤ 1))) := hxC.of (by rfl) (hY51q1_0 hA a1 p1 q1 (fun r A' h => h))
theorem hY50q1_0 {d : Nat} {Bn Br : Int} {A0 A : hs_A} (hA : hJ 1 Bn Br A0 A)  (a1 : Int32) (p1 : 0 ≤ a1.toInt) (q1 : a1.toInt ≤ 0) {P : Option Value → hs_A → Prop} (hP : ∀ (r : Option Value) (A' : hs_A), (hJ 1 Bn Br A0 A' ∧ ∃ z : Int32, r = some (.int z) ∧ ((0 ≤ z.toInt ∧ z.toInt ≤ 1))) → P r A') : hxa (d + 22) (some (.boolean)) hm_t50 0 [.ref 21, .int a1, .retAddr 0, .retAddr 0, .retAddr 0] [] A P := by
  have k0 := hk_0
  have k1 := hk_1
  have k2 := hk_2
  have k3 := hk_3
  have L8 : ∀ (m8 : Nat) (x8_2 : Int32) (x8_3 : Int32) (x8_4 : Value) (Ac8 : hs_A) (hAc8 : hJ 1 Bn Br A0 Ac8) (bx8_2 : 0 ≤ x8_2.toInt) (cx8_2 : x8_2.toInt ≤ 1) (bx8_3 : 0 ≤ x8_3.toInt) (cx8_3 : x8_3.toInt ≤ 400) (hm8 : 400 - x8_3.toInt < (m8 : Int)), hxa (d + 22) (some (.boolean)) hm_t50 8 [.ref 21, .int a1, .int x8_2, .int x8_3, x8_4] [] Ac8 P := by
    intro m8
    induction m8 with
    | zero => intro x8_2 x8_3 x8_4 Ac8 hAc8 bx8_2 cx8_2 bx8_3 cx8_3 hm8;  exact False.elim (by omega)
    | succ m8 ih8 =>
      intro x8_2 x8_3 x8_4 Ac8 hAc8 bx8_2 cx8_2 bx8_3 cx8_3 hm8
      have L61 : ∀ (x61_4 : Int32) (y61_0 : Int32) (Ac61 : hs_A) (hAc61 : hJ 1 Bn Br A0 Ac61) (bx61_4 : 26 ≤ x61_4.toInt) (cx61_4 : x61_4.toInt ≤ 27) (by61_0 : 0 ≤ y61_0.toInt) (cy61_0 : y61_0.toInt ≤ 1) (bx8_2 : 1 ≤ x8_2.toInt) (cx8_3 : x8_3.toInt ≤ 399), hxa (d + 22) (some (.boolean)) hm_t50 61 [.ref 21, .int a1, .int x8_2, .int x8_3, .int x61_4] [.int y61_0] Ac61 P := by
        intro x61_4 y61_0 Ac61 hAc61 bx61_4 cx61_4 by61_0 cy61_0 bx8_2 cx8_3
        refine hxa_s1 (by rfl) (Or.inl ⟨_, rfl, rfl⟩) rfl ?_
        refine hxa_aload_n (by rfl) rfl ?_
        refine hxj_getT (by rfl) (by rfl) (by rfl) hAc61.rt1 ?_
        refine hxa_get (v := .ref 7) (by rfl) (by rfl) (by rfl) rfl ?_
        refine hxa_iload (by rfl) rfl ?_
        refine hxa_bipush (by rfl) rfl ?_
        refine hxj_cne (by rfl) rfl hk_26 (fun q1 => ?_) (fun q1 => ?_)
        ·
          refine hxa_iconst (by rfl) rfl ?_
          refine hxa_iconst (by rfl) rfl ?_
          refine hxa_call0 (by rfl) (by rfl) (by rfl) (by rfl) (by rfl) (by rfl) (hX12q1 (d := d + 21) hAc61 (Int32.ofNat 3) (by omega) (by omega) (Int32.ofNat 0) (by omega)) ?_
          rintro _ A2 ⟨hA2, z3, rfl⟩
          refine hxa_popI (by rfl) ?_
          refine hxj_iinc (by rfl) rfl rfl hk_1 (by omega) (by omega) (fun _ => rfl) (fun z4 ez4 => ?_)
          refine hxa_goto (by rfl) ?_
          exact ih8 y61_0 z4 (.int x61_4) A2 hA2 (by omega) (by omega) (by omega) (by omega) (by omega)
        ·
          refine hxa_iconst (by rfl) rfl ?_
          refine hxa_goto (by rfl) ?_
          refine hxa_iconst (by rfl) rfl ?_
          refine hxa_call0 (by rfl) (by rfl) (by rfl) (by rfl) (by rfl) (by rfl) (hX12q1 (d := d + 21) hAc61 (Int32.ofNat 2) (by omega) (by omega) (Int32.ofNat 0) (by omega)) ?_
          rintro _ A5 ⟨hA5, z6, rfl⟩
          refine hxa_popI (by rfl) ?_
          refine hxj_iinc (by rfl) rfl rfl hk_1 (by omega) (by omega) (fun _ => rfl) (fun z7 ez7 => ?_)
          refine hxa_goto (by rfl) ?_
          exact ih8 y61_0 z7 (.int x61_4) A5 hA5 (by omega) (by omega) (by omega) (by omega) (by omega)
      refine hxa_iload_n (by rfl) rfl ?_
      refine hxa_sipush (by rfl) rfl ?_
      refine hxj_cge (by rfl) rfl hk_400 (fun q8 => ?_) (fun q8 => ?_)
      ·
        refine hxa_iload_n (by rfl) rfl ?_
        exact hxa_ireturn (by rfl) (hn_fitB (by omega) (by omega)) (hP _ _ ⟨hAc8, _, rfl, by omega⟩)
      ·
        refine hxa_iload_n (by rfl) rfl ?_
        refine hxj_zeq (by rfl) rfl (fun q9 => ?_) (fun q9 => ?_)
        ·
          refine hxa_iload_n (by rfl) rfl ?_
          exact hxa_ireturn (by rfl) (hn_fitB (by omega) (by omega)) (hP _ _ ⟨hAc8, _, rfl, by omega⟩)
        ·
          refine hxa_aload_n (by rfl) rfl ?_
          refine hxa_call0 (by rfl) (by rfl) (by rfl) (by rfl) (by rfl) (by rfl) (hX38q1 (d := d + 21) hAc8 ) ?_
          rintro _ _ ⟨rfl, z10, rfl⟩
          refine hxa_s1 (by rfl) (Or.inr ⟨_, rfl, rfl⟩) rfl ?_
          refine hxa_iload (by rfl) rfl ?_
          refine hxa_bipush (by rfl) rfl ?_
          refine hxj_ceq (by rfl) rfl hk_26 (fun q11 => ?_) (fun q11 => ?_)
          ·
            refine hxa_aload_n (by rfl) rfl ?_
            refine hxa_call0 (by rfl) (by rfl) (by rfl) (by rfl) (by rfl) (by rfl) (hX41q1 (d := d + 21) hAc8 ) ?_
            rintro _ A12 ⟨hA12, frA12_0, frA12_1, frA12_2, z13, rfl, fz13⟩
            refine hxj_zeq (by rfl) rfl (fun q14 => ?_) (fun q14 => ?_)
            ·
              refine hxa_iconst (by rfl) rfl ?_
              exact L61 z10 (Int32.ofNat 0) A12 hA12 (by omega) (by omega) (by omega) (by omega) (by omega) (by omega)
            ·
              refine hxa_aload_n (by rfl) rfl ?_
              refine hxa_iload_n (by rfl) rfl ?_
              refine hxa_call0 (by rfl) (by rfl) (by rfl) (by rfl) (by rfl) (by rfl) (hX51q1_0 (d := d + 0) hA12 a1 (by omega) (by omega)) ?_
              rintro _ A15 ⟨hA15, z16, rfl, fz16⟩
              refine hxj_zeq (by rfl) rfl (fun q17 => ?_) (fun q17 => ?_)
              ·
                refine hxa_iconst (by rfl) rfl ?_
                exact L61 z10 (Int32.ofNat 0) A15 hA15 (by omega) (by omega) (by omega) (by omega) (by omega) (by omega)
              ·
                refine hxa_iconst (by rfl) rfl ?_
                refine hxa_goto (by rfl) ?_
                exact L61 z10 (Int32.ofNat 1) A15 hA15 (by omega) (by omega) (by omega) (by omega) (by omega) (by omega)
          ·
            refine hxa_iload (by rfl) rfl ?_
            refine hxa_bipush (by rfl) rfl ?_
            refine hxj_ceq (by rfl) rfl hk_27 (fun q18 => ?_) (fun q18 => ?_)
            ·
              refine hxa_aload_n (by rfl) rfl ?_
              refine hxa_call0 (by rfl) (by rfl) (by rfl) (by rfl) (by rfl) (by rfl) (hX41q1 (d := d + 21) hAc8 ) ?_
              rintro _ A19 ⟨hA19, frA19_0, frA19_1, frA19_2, z20, rfl, fz20⟩
              refine hxj_zeq (by rfl) rfl (fun q21 => ?_) (fun q21 => ?_)
              ·
                refine hxa_iconst (by rfl) rfl ?_
                exact L61 z10 (Int32.ofNat 0) A19 hA19 (by omega) (by omega) (by omega) (by omega) (by omega) (by omega)
              ·
                refine hxa_aload_n (by rfl) rfl ?_
                refine hxa_iload_n (by rfl) rfl ?_
                refine hxa_call0 (by rfl) (by rfl) (by rfl) (by rfl) (by rfl) (by rfl) (hX51q1_0 (d := d + 0) hA19 a1 (by omega) (by omega)) ?_
                rintro _ A22 ⟨hA22, z23, rfl, fz23⟩
                refine hxj_zeq (by rfl) rfl (fun q24 => ?_) (fun q24 => ?_)
                ·
                  refine hxa_iconst (by rfl) rfl ?_
                  exact L61 z10 (Int32.ofNat 0) A22 hA22 (by omega) (by omega) (by omega) (by omega) (by omega) (by omega)
                ·
                  refine hxa_iconst (by rfl) rfl ?_
                  refine hxa_goto (by rfl) ?_
                  exact L61 z10 (Int32.ofNat 1) A22 hA22 (by omega) (by omega) (by omega) (by omega) (by omega) (by omega)
            ·
              refine hxa_iconst (by rfl) rfl ?_
              exact hxa_ireturn (by rfl) (by rfl) (hP _ _ ⟨hAc8, _, rfl, by omega⟩)
  refine hxa_aload_n (by rfl) rfl ?_
  refine hxa_iload_n (by rfl) rfl ?_
  refine hxa_call0 (by rfl) (by rfl) (by rfl) (by rfl) (by rfl) (by rfl) (hX51q1_0 (d := d + 0) hA a1 (by omega) (by omega)) ?_
  rintro _ A25 ⟨hA25, z26, rfl, fz26⟩
  refine hxa_s1 (by rfl) (Or.inl ⟨_, rfl, rfl⟩) rfl ?_
  refine hxa_iconst (by rfl) rfl ?_
  refine hxa_s1 (by rfl) (Or.inl ⟨_, rfl, rfl⟩) rfl ?_
  exact L8 (Int.toNat (400 - 0) + 1) z26 (Int32.ofNat 0) (.retAddr 0) A25 hA25 (by omega) (by omega) (by omega) (by omega) (by omega)
theorem hX50q1_0 {d : Nat} {Bn Br : Int} {A0 A : hs_A} (hA : hJ 1 Bn Br A0 A)  (a1 : Int32) (p1 : 0 ≤ a1.toInt) (q1 : a1.toInt ≤ 0) : hxC (d + 23) 50 hm_m50 [.ref 21, .int a1] A (fun r A' => hJ 1 Bn Br A0 A' ∧ ∃ z : Int32, r = some (.int z) ∧ ((0 ≤ z.toInt ∧ z.toInt ≤ 1))) := hxC.of (by rfl) (hY50q1_0 hA a1 p1 q1 (fun r A' h => h))
theorem hY49q1 {d : Nat} {Bn Br : Int} {A0 A : hs_A} (hA : hJ 1 Bn Br A0 A)  (a1 : Int32) (p1 : 0 ≤ a1.toInt) (q1 : a1.toInt ≤ 3) {P : Option Value → hs_A → Prop} (hP : ∀ (r : Option Value) (A' : hs_A), (hJ 1 Bn Br A0 A' ∧ ∃ z : Int32, r = some (.int z) ∧ ((0 ≤ z.toInt ∧ z.toInt ≤ 1))) → P r A') : hxa (d + 23) (some (.boolean)) hm_t49 0 [.ref 21, .int a1, .retAddr 0, .retAddr 0, .retAddr 0, .retAddr 0] [] A P := by
  have k0 := hk_0
  have k1 := hk_1
  have k10 := hk_10
  have k2 := hk_2
  have k24 := hk_24
  have k25 := hk_25
  have k30 := hk_30
  have k6 := hk_6
  have k7 := hk_7
  have k9 := hk_9
  have L152 : ∀ (x152_3 : Int32) (x152_4 : Int32) (x152_5 : Value) (Ac152 : hs_A) (hAc152 : hJ 1 Bn Br A0 Ac152) (bx152_4 : 0 ≤ x152_4.toInt) (cx152_4 : x152_4.toInt ≤ 4), hxa (d + 23) (some (.boolean)) hm_t49 152 [.ref 21, .int a1, .ref 7, .int x152_3, .int x152_4, x152_5] [] Ac152 P := by
    intro x152_3 x152_4 x152_5 Ac152 hAc152 bx152_4 cx152_4
    refine hxa_aload_n (by rfl) rfl ?_
    refine hxa_iconst (by rfl) rfl ?_
    refine hxa_call0 (by rfl) (by rfl) (by rfl) (by rfl) (by rfl) (by rfl) (hX50q1_0 (d := d + 0) hAc152 (Int32.ofNat 0) (by omega) (by omega)) ?_
    rintro _ A1 ⟨hA1, z2, rfl, fz2⟩
    refine hxj_zeq (by rfl) rfl (fun q3 => ?_) (fun q3 => ?_)
    ·
      refine hxa_iconst (by rfl) rfl ?_
      exact hxa_ireturn (by rfl) (by rfl) (hP _ _ ⟨hA1, _, rfl, by omega⟩)
    ·
      refine hxa_aload_n (by rfl) rfl ?_
      refine hxa_bipush (by rfl) rfl ?_
      refine hxa_call0 (by rfl) (by rfl) (by rfl) (by rfl) (by rfl) (by rfl) (hX42q1 (d := d + 21) hA1 (Int32.ofNat 24)) ?_
      rintro _ A4 ⟨hA4, frA4_0, frA4_1, frA4_2, z5, rfl, fz5⟩
      refine hxj_zne (by rfl) rfl (fun q6 => ?_) (fun q6 => ?_)
      ·
        refine hxa_aload_n (by rfl) rfl ?_
        refine hxa_bipush (by rfl) rfl ?_
        refine hxa_iconst (by rfl) rfl ?_
        refine hxa_call0 (by rfl) (by rfl) (by rfl) (by rfl) (by rfl) (by rfl) (hX12q1 (d := d + 22) hA4 (Int32.ofNat 7) (by omega) (by omega) (Int32.ofNat 0) (by omega)) ?_
        rintro _ A7 ⟨hA7, z8, rfl⟩
        refine hxa_popI (by rfl) ?_
        refine hxa_aload_n (by rfl) rfl ?_
        refine hxa_iload_n (by rfl) rfl ?_
        refine hxa_iload_n (by rfl) rfl ?_
        refine hxa_call0 (by rfl) (by rfl) (by rfl) (by rfl) (by rfl) (by rfl) (hX10q1 (d := d + 22) hA7 a1 (by omega) (by omega) x152_3) ?_
        rintro _ A9 ⟨hA9, rfl⟩
        refine hxa_iconst (by rfl) rfl ?_
        exact hxa_ireturn (by rfl) (by rfl) (hP _ _ ⟨hA9, _, rfl, by omega⟩)
      ·
        refine hxa_iconst (by rfl) rfl ?_
        exact hxa_ireturn (by rfl) (by rfl) (hP _ _ ⟨hA4, _, rfl, by omega⟩)
  have L34 : ∀ (m34 : Nat) (x34_3 : Int32) (x34_4 : Int32) (x34_5 : Value) (Ac34 : hs_A) (hAc34 : hJ 1 Bn Br A0 Ac34) (bx34_4 : 0 ≤ x34_4.toInt) (cx34_4 : x34_4.toInt ≤ 4) (hm34 : 4 - x34_4.toInt < (m34 : Int)), hxa (d + 23) (some (.boolean)) hm_t49 34 [.ref 21, .int a1, .ref 7, .int x34_3, .int x34_4, x34_5] [] Ac34 P := by
    intro m34
    induction m34 with
    | zero => intro x34_3 x34_4 x34_5 Ac34 hAc34 bx34_4 cx34_4 hm34; have := hn_rng x34_3; exact False.elim (by omega)
    | succ m34 ih34 =>
      intro x34_3 x34_4 x34_5 Ac34 hAc34 bx34_4 cx34_4 hm34
      refine hxa_iload (by rfl) rfl ?_
      refine hxa_iconst (by rfl) rfl ?_
      refine hxj_cgt (by rfl) rfl hk_4 (fun q10 => False.elim (by omega)) (fun q10 => ?_)
      refine hxa_aload_n (by rfl) rfl ?_
      refine hxa_call0 (by rfl) (by rfl) (by rfl) (by rfl) (by rfl) (by rfl) (hX38q1 (d := d + 22) hAc34 ) ?_
      rintro _ _ ⟨rfl, z11, rfl⟩
      refine hxa_bipush (by rfl) rfl ?_
      refine hxj_cne (by rfl) rfl hk_8 (fun q12 => ?_) (fun q12 => ?_)
      ·
        exact L152 x34_3 x34_4 (x34_5) Ac34 hAc34 (by omega) (by omega)
      ·
        refine hxa_iload (by rfl) rfl ?_
        refine hxa_iconst (by rfl) rfl ?_
        refine hxj_cne (by rfl) rfl hk_4 (fun q13 => ?_) (fun q13 => ?_)
        ·
          refine hxa_aload_n (by rfl) rfl ?_
          refine hxa_call0 (by rfl) (by rfl) (by rfl) (by rfl) (by rfl) (by rfl) (hX41q1 (d := d + 22) hAc34 ) ?_
          rintro _ A14 ⟨hA14, frA14_0, frA14_1, frA14_2, z15, rfl, fz15⟩
          refine hxj_zeq (by rfl) rfl (fun q16 => ?_) (fun q16 => ?_)
          ·
            refine hxa_iconst (by rfl) rfl ?_
            exact hxa_ireturn (by rfl) (by rfl) (hP _ _ ⟨hA14, _, rfl, by omega⟩)
          ·
            refine hxa_aload_n (by rfl) rfl ?_
            refine hxa_iconst (by rfl) rfl ?_
            refine hxa_call0 (by rfl) (by rfl) (by rfl) (by rfl) (by rfl) (by rfl) (hX50q1_0 (d := d + 0) hA14 (Int32.ofNat 0) (by omega) (by omega)) ?_
            rintro _ A17 ⟨hA17, z18, rfl, fz18⟩
            refine hxj_zeq (by rfl) rfl (fun q19 => ?_) (fun q19 => ?_)
            ·
              refine hxa_iconst (by rfl) rfl ?_
              exact hxa_ireturn (by rfl) (by rfl) (hP _ _ ⟨hA17, _, rfl, by omega⟩)
            ·
              refine hxa_aload_n (by rfl) rfl ?_
              refine hxa_bipush (by rfl) rfl ?_
              refine hxa_call0 (by rfl) (by rfl) (by rfl) (by rfl) (by rfl) (by rfl) (hX42q1 (d := d + 21) hA17 (Int32.ofNat 30)) ?_
              rintro _ A20 ⟨hA20, frA20_0, frA20_1, frA20_2, z21, rfl, fz21⟩
              refine hxj_zeq (by rfl) rfl (fun q22 => ?_) (fun q22 => ?_)
              ·
                refine hxa_iconst (by rfl) rfl ?_
                exact hxa_ireturn (by rfl) (by rfl) (hP _ _ ⟨hA20, _, rfl, by omega⟩)
              ·
                refine hxa_aload_n (by rfl) rfl ?_
                refine hxa_iconst (by rfl) rfl ?_
                refine hxa_call0 (by rfl) (by rfl) (by rfl) (by rfl) (by rfl) (by rfl) (hX50q1_0 (d := d + 0) hA20 (Int32.ofNat 0) (by omega) (by omega)) ?_
                rintro _ A23 ⟨hA23, z24, rfl, fz24⟩
                refine hxj_zeq (by rfl) rfl (fun q25 => ?_) (fun q25 => ?_)
                ·
                  refine hxa_iconst (by rfl) rfl ?_
                  exact hxa_ireturn (by rfl) (by rfl) (hP _ _ ⟨hA23, _, rfl, by omega⟩)
                ·
                  refine hxa_aload_n (by rfl) rfl ?_
                  refine hxa_bipush (by rfl) rfl ?_
                  refine hxa_call0 (by rfl) (by rfl) (by rfl) (by rfl) (by rfl) (by rfl) (hX42q1 (d := d + 21) hA23 (Int32.ofNat 9)) ?_
                  rintro _ A26 ⟨hA26, frA26_0, frA26_1, frA26_2, z27, rfl, fz27⟩
                  refine hxj_zne (by rfl) rfl (fun q28 => ?_) (fun q28 => ?_)
                  ·
                    refine hxa_aload_n (by rfl) rfl ?_
                    refine hxa_bipush (by rfl) rfl ?_
                    refine hxa_iconst (by rfl) rfl ?_
                    refine hxa_call0 (by rfl) (by rfl) (by rfl) (by rfl) (by rfl) (by rfl) (hX12q1 (d := d + 22) hA26 (Int32.ofNat 6) (by omega) (by omega) (Int32.ofNat 0) (by omega)) ?_
                    rintro _ A29 ⟨hA29, z30, rfl⟩
                    refine hxa_s1 (by rfl) (Or.inr ⟨_, rfl, rfl⟩) rfl ?_
                    refine hxa_aload_n (by rfl) rfl ?_
                    refine hxa_iconst (by rfl) rfl ?_
                    refine hxa_call0 (by rfl) (by rfl) (by rfl) (by rfl) (by rfl) (by rfl) (hX50q1_0 (d := d + 0) hA29 (Int32.ofNat 0) (by omega) (by omega)) ?_
                    rintro _ A31 ⟨hA31, z32, rfl, fz32⟩
                    refine hxj_zeq (by rfl) rfl (fun q33 => ?_) (fun q33 => ?_)
                    ·
                      refine hxa_iconst (by rfl) rfl ?_
                      exact hxa_ireturn (by rfl) (by rfl) (hP _ _ ⟨hA31, _, rfl, by omega⟩)
                    ·
                      refine hxa_aload_n (by rfl) rfl ?_
                      refine hxa_bipush (by rfl) rfl ?_
                      refine hxa_call0 (by rfl) (by rfl) (by rfl) (by rfl) (by rfl) (by rfl) (hX42q1 (d := d + 21) hA31 (Int32.ofNat 10)) ?_
                      rintro _ A34 ⟨hA34, frA34_0, frA34_1, frA34_2, z35, rfl, fz35⟩
                      refine hxj_zne (by rfl) rfl (fun q36 => ?_) (fun q36 => ?_)
                      ·
                        refine hxa_aload_n (by rfl) rfl ?_
                        refine hxa_bipush (by rfl) rfl ?_
                        refine hxa_iconst (by rfl) rfl ?_
                        refine hxa_call0 (by rfl) (by rfl) (by rfl) (by rfl) (by rfl) (by rfl) (hX12q1 (d := d + 22) hA34 (Int32.ofNat 7) (by omega) (by omega) (Int32.ofNat 0) (by omega)) ?_
                        rintro _ A37 ⟨hA37, z38, rfl⟩
                        refine hxa_popI (by rfl) ?_
                        refine hxa_aload_n (by rfl) rfl ?_
                        refine hxa_iload (by rfl) rfl ?_
                        refine hxa_call0 (by rfl) (by rfl) (by rfl) (by rfl) (by rfl) (by rfl) (hX13q1 (d := d + 22) hA37 z30) ?_
                        rintro _ A39 ⟨hA39, rfl⟩
                        refine hxj_iinc (by rfl) rfl rfl hk_1 (by omega) (by omega) (fun _ => rfl) (fun z40 ez40 => ?_)
                        refine hxa_goto (by rfl) ?_
                        exact ih34 x34_3 z40 (.int z30) A39 hA39 (by omega) (by omega) (by omega)
                      ·
                        refine hxa_iconst (by rfl) rfl ?_
                        exact hxa_ireturn (by rfl) (by rfl) (hP _ _ ⟨hA34, _, rfl, by omega⟩)
                  ·
                    refine hxa_iconst (by rfl) rfl ?_
                    exact hxa_ireturn (by rfl) (by rfl) (hP _ _ ⟨hA26, _, rfl, by omega⟩)
        ·
          refine hxa_aload_n (by rfl) rfl ?_
          refine hxa_iconst (by rfl) rfl ?_
          refine hxa_call0 (by rfl) (by rfl) (by rfl) (by rfl) (by rfl) (by rfl) (hX39q1 (d := d + 22) hAc34 (Int32.ofNat 2)) ?_
          rintro _ A41 ⟨hA41, frA41_0, frA41_1, frA41_2, frA41_3, z42, rfl, fz42⟩
          exact hxa_ireturn (by rfl) (hn_fitB (by omega) (by omega)) (hP _ _ ⟨hA41, _, rfl, by omega⟩)
  refine hxa_aload_n (by rfl) rfl ?_
  refine hxj_getT (by rfl) (by rfl) (by rfl) hA.rt1 ?_
  refine hxa_get (v := .ref 7) (by rfl) (by rfl) (by rfl) rfl ?_
  refine hxa_astore_n (by rfl) rfl ?_
  refine hxa_aload_n (by rfl) rfl ?_
  refine hxa_call0 (by rfl) (by rfl) (by rfl) (by rfl) (by rfl) (by rfl) (hX41q1 (d := d + 22) hA ) ?_
  rintro _ A43 ⟨hA43, frA43_0, frA43_1, frA43_2, z44, rfl, fz44⟩
  refine hxj_zeq (by rfl) rfl (fun q45 => ?_) (fun q45 => ?_)
  ·
    refine hxa_iconst (by rfl) rfl ?_
    exact hxa_ireturn (by rfl) (by rfl) (hP _ _ ⟨hA43, _, rfl, by omega⟩)
  ·
    refine hxa_aload_n (by rfl) rfl ?_
    refine hxa_bipush (by rfl) rfl ?_
    refine hxa_call0 (by rfl) (by rfl) (by rfl) (by rfl) (by rfl) (by rfl) (hX42q1 (d := d + 21) hA43 (Int32.ofNat 25)) ?_
    rintro _ A46 ⟨hA46, frA46_0, frA46_1, frA46_2, z47, rfl, fz47⟩
    refine hxj_zne (by rfl) rfl (fun q48 => ?_) (fun q48 => ?_)
    ·
      refine hxa_aload_n (by rfl) rfl ?_
      refine hxa_call0 (by rfl) (by rfl) (by rfl) (by rfl) (by rfl) (by rfl) (hX9q1 (d := d + 22) hA46 ) ?_
      rintro _ A49 ⟨hA49, z50, rfl⟩
      refine hxa_s1 (by rfl) (Or.inl ⟨_, rfl, rfl⟩) rfl ?_
      refine hxa_iconst (by rfl) rfl ?_
      refine hxa_s1 (by rfl) (Or.inr ⟨_, rfl, rfl⟩) rfl ?_
      exact L34 (Int.toNat (4 - 0) + 1) z50 (Int32.ofNat 0) (.retAddr 0) A49 hA49 (by omega) (by omega) (by omega)
    ·
      refine hxa_iconst (by rfl) rfl ?_
      exact hxa_ireturn (by rfl) (by rfl) (hP _ _ ⟨hA46, _, rfl, by omega⟩)
theorem hX49q1 {d : Nat} {Bn Br : Int} {A0 A : hs_A} (hA : hJ 1 Bn Br A0 A)  (a1 : Int32) (p1 : 0 ≤ a1.toInt) (q1 : a1.toInt ≤ 3) : hxC (d + 24) 49 hm_m49 [.ref 21, .int a1] A (fun r A' => hJ 1 Bn Br A0 A' ∧ ∃ z : Int32, r = some (.int z) ∧ ((0 ≤ z.toInt ∧ z.toInt ≤ 1))) := hxC.of (by rfl) (hY49q1 hA a1 p1 q1 (fun r A' h => h))
