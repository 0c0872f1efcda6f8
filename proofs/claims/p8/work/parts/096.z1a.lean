theorem hY12q6 {d : Nat} {Bn Br : Int} {A0 A : hs_A} (hA : hJ 6 Bn Br A0 A)  (a1 : Int32) (p1 : 0 ≤ a1.toInt) (q1 : a1.toInt ≤ 7) (a2 : Int32) (x0 : ¬ a1.toInt = 1 ∨ (0 ≤ a2.toInt ∧ a2.toInt ≤ 8)) {P : Option Value → hs_A → Prop} (hP : ∀ (r : Option Value) (A' : hs_A), (hJ 6 Bn Br A0 A' ∧ ∃ z : Int32, r = some (.int z)) → P r A') : hxa (d + 0) (some (.int)) hm_t12 0 [.ref 7, .int a1, .int a2] [] A P := by
  have L17 : ∀ (Ac17 : hs_A) (hAc17 : hJ 6 Bn Br A0 Ac17), hxa (d + 0) (some (.int)) hm_t12 17 [.ref 7, .int a1, .int a2] [] Ac17 P := by
    intro Ac17 hAc17
    refine hxa_aload_n (by rfl) rfl ?_
    refine hxj_getB (by rfl) (by rfl) (by rfl) hAc17 (by rfl) (fun z1 ez1 fz1 gz1 => ?_)
    refine hxa_sipush (by rfl) rfl ?_
    refine hxj_cge (by rfl) rfl hk_408 (fun q2 => ?_) (fun q2 => ?_)
    ·
      refine hxa_aload_n (by rfl) rfl ?_
      refine hxj_getK (by rfl) (by rfl) (by rfl) ez1 ?_
      refine hxa_iconst (by rfl) rfl ?_
      refine hxj_isub (by rfl) rfl hk_1 (by omega) (by omega) (fun z3 ez3 => ?_)
      exact hxa_ireturn (by rfl) rfl (hP _ _ ⟨hAc17, _, rfl⟩)
    ·
      refine hxa_aload_n (by rfl) rfl ?_
      refine hxa_get (v := .ref 8) (by rfl) (by rfl) (by rfl) rfl ?_
      refine hxa_aload_n (by rfl) rfl ?_
      refine hxj_getK (by rfl) (by rfl) (by rfl) ez1 ?_
      refine hxa_iload_n (by rfl) rfl ?_
      refine hxa_iconst (by rfl) rfl ?_
      refine hxa_ishl (by rfl) (hn_top (fun z4 ez4 => ?_))
      refine hxa_iload_n (by rfl) rfl ?_
      refine hxa_ior (by rfl) (hn_top (fun z5 ez5 => ?_))
      refine hxj_iastV6 (by rfl) rfl (by omega) (by omega) hAc17 (hVadd ez4 ez5 (by omega) (by omega) (by omega)) (fun A6 hA6 eA6 fA6 gA6 => ?_)
      refine hxa_aload_n (by rfl) rfl ?_
      refine hxa_dupR (by rfl) ?_
      refine hxj_getK (by rfl) (by rfl) (by rfl) (hkA eA6 ez1) ?_
      refine hxa_iconst (by rfl) rfl ?_
      refine hxj_iadd (by rfl) rfl hk_1 (by omega) (by omega) (fun z7 ez7 => ?_)
      refine hxj_putI (by rfl) (by rfl) (by rfl) (by rfl) hA6 (hbok (by rfl) rfl (by omega) (by omega)) (by rfl) (by rfl) (fun A8 hA8 eA8 fA8 => ?_)
      refine hxa_aload_n (by rfl) rfl ?_
      refine hxj_getK (by rfl) (by rfl) (by rfl) (hkS eA8) ?_
      refine hxa_iconst (by rfl) rfl ?_
      refine hxj_isub (by rfl) rfl hk_1 (by omega) (by omega) (fun z9 ez9 => ?_)
      exact hxa_ireturn (by rfl) rfl (hP _ _ ⟨hA8, _, rfl⟩)
  refine hxa_iload_n (by rfl) rfl ?_
  refine hxa_iconst (by rfl) rfl ?_
  refine hxj_cne (by rfl) rfl hk_1 (fun q10 => ?_) (fun q10 => ?_)
  ·
    exact L17 A hA
  ·
    refine hxa_aload_n (by rfl) rfl ?_
    refine hxa_dupR (by rfl) ?_
    refine hxj_getI (by rfl) (by rfl) (by rfl) (fun z11 ez11 => ?_)
    refine hxa_iconst (by rfl) rfl ?_
    refine hxa_iload_n (by rfl) rfl ?_
    refine hxj_ishlU (by rfl) (fun z12 => ?_)
    refine hxj_iorU (by rfl) (fun z13 => ?_)
    refine hxj_putI (by rfl) (by rfl) (by rfl) (by rfl) hA (hbokN (by rfl)) (by rfl) (by rfl) (fun A14 hA14 eA14 fA14 => ?_)
    exact L17 A14 hA14
theorem hX12q6 {d : Nat} {Bn Br : Int} {A0 A : hs_A} (hA : hJ 6 Bn Br A0 A)  (a1 : Int32) (p1 : 0 ≤ a1.toInt) (q1 : a1.toInt ≤ 7) (a2 : Int32) (x0 : ¬ a1.toInt = 1 ∨ (0 ≤ a2.toInt ∧ a2.toInt ≤ 8)) : hxC (d + 1) 12 hm_m12 [.ref 7, .int a1, .int a2] A (fun r A' => hJ 6 Bn Br A0 A' ∧ ∃ z : Int32, r = some (.int z)) := hxC.of (by rfl) (hY12q6 hA a1 p1 q1 a2 x0 (fun r A' h => h))
theorem hY10q6 {d : Nat} {Bn Br : Int} {A0 A : hs_A} (hA : hJ 6 Bn Br A0 A)  (a1 : Int32) (p1 : 0 ≤ a1.toInt) (q1 : a1.toInt ≤ 3) (a2 : Int32) {P : Option Value → hs_A → Prop} (hP : ∀ (r : Option Value) (A' : hs_A), (hJ 6 Bn Br A0 A' ∧ r = none) → P r A') : hxa (d + 0) none hm_t10 0 [.ref 7, .int a1, .int a2] [] A P := by
  refine hxa_aload_n (by rfl) rfl ?_
  refine hxa_get (v := .ref 9) (by rfl) (by rfl) (by rfl) rfl ?_
  refine hxa_iload_n (by rfl) rfl ?_
  refine hxa_iload_n (by rfl) rfl ?_
  refine hxj_iast (by rfl) (by rfl) rfl (by omega) (by omega) hA (hbokN (by rfl)) (by rfl) (by rfl) (fun A1 hA1 eA1 fA1 gA1 => ?_)
  refine hxa_aload_n (by rfl) rfl ?_
  refine hxa_get (v := .ref 10) (by rfl) (by rfl) (by rfl) rfl ?_
  refine hxa_iload_n (by rfl) rfl ?_
  refine hxa_aload_n (by rfl) rfl ?_
  refine hxj_getI (by rfl) (by rfl) (by rfl) (fun z2 ez2 => ?_)
  refine hxj_iast (by rfl) (by rfl) rfl (by omega) (by omega) hA1 (hbokN (by rfl)) (by rfl) (by rfl) (fun A3 hA3 eA3 fA3 gA3 => ?_)
  exact hxa_return (by rfl) rfl (hP _ _ ⟨hA3, rfl⟩)
theorem hX10q6 {d : Nat} {Bn Br : Int} {A0 A : hs_A} (hA : hJ 6 Bn Br A0 A)  (a1 : Int32) (p1 : 0 ≤ a1.toInt) (q1 : a1.toInt ≤ 3) (a2 : Int32) : hxC (d + 1) 10 hm_m10 [.ref 7, .int a1, .int a2] A (fun r A' => hJ 6 Bn Br A0 A' ∧ r = none) := hxC.of (by rfl) (hY10q6 hA a1 p1 q1 a2 (fun r A' h => h))
theorem hY8q6 {d : Nat} {Bn Br : Int} {A0 A : hs_A} (hA : hJ 6 Bn Br A0 A)   {P : Option Value → hs_A → Prop} (hP : ∀ (r : Option Value) (A' : hs_A), (hJ 6 Bn Br A0 A' ∧ r = none) → P r A') : hxa (d + 1) none hm_t8 0 [.ref 7, .retAddr 0, .retAddr 0] [] A P := by
  have k0 := hk_0
  have k1 := hk_1
  have k7 := hk_7
  have L7 : ∀ (m7 : Nat) (x7_1 : Int32) (x7_2 : Value) (Ac7 : hs_A) (hAc7 : hJ 6 Bn Br A0 Ac7) (bx7_1 : 0 ≤ x7_1.toInt) (cx7_1 : x7_1.toInt ≤ 4) (hm7 : 4 - x7_1.toInt < (m7 : Int)), hxa (d + 1) none hm_t8 7 [.ref 7, .int x7_1, x7_2] [] Ac7 P := by
    intro m7
    induction m7 with
    | zero => intro x7_1 x7_2 Ac7 hAc7 bx7_1 cx7_1 hm7;  exact False.elim (by omega)
    | succ m7 ih7 =>
      intro x7_1 x7_2 Ac7 hAc7 bx7_1 cx7_1 hm7
      have L33 : ∀ (x33_2 : Int32) (y33_1 : Int32) (y33_2 : Int32) (Ac33 : hs_A) (hAc33 : hJ 6 Bn Br A0 Ac33) (bx33_2 : 0 ≤ x33_2.toInt) (cx33_2 : x33_2.toInt ≤ 408) (by33_1 : 0 ≤ y33_1.toInt) (cy33_1 : y33_1.toInt ≤ 0) (by33_2 : 0 ≤ y33_2.toInt) (cy33_2 : y33_2.toInt ≤ 1) (cx7_1 : x7_1.toInt ≤ 3), hxa (d + 1) none hm_t8 33 [.ref 7, .int x7_1, .int x33_2] [.int y33_2, .int y33_1, .ref 7] Ac33 P := by
        intro x33_2 y33_1 y33_2 Ac33 hAc33 bx33_2 cx33_2 by33_1 cy33_1 by33_2 cy33_2 cx7_1
        refine hxa_call0 (by rfl) (by rfl) (by rfl) (by rfl) (by rfl) (by rfl) (hX12q6 (d := d + 0) hAc33 y33_1 (by omega) (by omega) y33_2 (by omega)) ?_
        rintro _ A1 ⟨hA1, z2, rfl⟩
        refine hxa_popI (by rfl) ?_
        refine hxa_aload_n (by rfl) rfl ?_
        refine hxa_bipush (by rfl) rfl ?_
        refine hxa_iconst (by rfl) rfl ?_
        refine hxa_call0 (by rfl) (by rfl) (by rfl) (by rfl) (by rfl) (by rfl) (hX12q6 (d := d + 0) hA1 (Int32.ofNat 7) (by omega) (by omega) (Int32.ofNat 0) (by omega)) ?_
        rintro _ A3 ⟨hA3, z4, rfl⟩
        refine hxa_popI (by rfl) ?_
        refine hxa_aload_n (by rfl) rfl ?_
        refine hxa_iload_n (by rfl) rfl ?_
        refine hxa_iload_n (by rfl) rfl ?_
        refine hxa_call0 (by rfl) (by rfl) (by rfl) (by rfl) (by rfl) (by rfl) (hX10q6 (d := d + 0) hA3 x7_1 (by omega) (by omega) x33_2) ?_
        rintro _ A5 ⟨hA5, rfl⟩
        refine hxj_iinc (by rfl) rfl rfl hk_1 (by omega) (by omega) (fun _ => rfl) (fun z6 ez6 => ?_)
        refine hxa_goto (by rfl) ?_
        exact ih7 z6 (.int x33_2) A5 hA5 (by omega) (by omega) (by omega)
      refine hxa_iload_n (by rfl) rfl ?_
      refine hxa_iconst (by rfl) rfl ?_
      refine hxj_cge (by rfl) rfl hk_4 (fun q7 => ?_) (fun q7 => ?_)
      ·
        exact hxa_return (by rfl) rfl (hP _ _ ⟨hAc7, rfl⟩)
      ·
        refine hxa_aload_n (by rfl) rfl ?_
        refine hxj_getB (by rfl) (by rfl) (by rfl) hAc7 (by rfl) (fun z8 ez8 fz8 gz8 => ?_)
        refine hxa_s1 (by rfl) (Or.inl ⟨_, rfl, rfl⟩) rfl ?_
        refine hxa_aload_n (by rfl) rfl ?_
        refine hxa_iconst (by rfl) rfl ?_
        refine hxj_putI (by rfl) (by rfl) (by rfl) (by rfl) hAc7 (hbokN (by rfl)) (by rfl) (by rfl) (fun A9 hA9 eA9 fA9 => ?_)
        refine hxa_aload_n (by rfl) rfl ?_
        refine hxa_iconst (by rfl) rfl ?_
        refine hxa_iload_n (by rfl) rfl ?_
        refine hxj_zne (by rfl) rfl (fun q10 => ?_) (fun q10 => ?_)
        ·
          refine hxa_iconst (by rfl) rfl ?_
          exact L33 z8 (Int32.ofNat 0) (Int32.ofNat 0) A9 hA9 (by omega) (by omega) (by omega) (by omega) (by omega) (by omega) (by omega)
        ·
          refine hxa_iconst (by rfl) rfl ?_
          refine hxa_goto (by rfl) ?_
          exact L33 z8 (Int32.ofNat 0) (Int32.ofNat 1) A9 hA9 (by omega) (by omega) (by omega) (by omega) (by omega) (by omega) (by omega)
  refine hxa_aload_n (by rfl) rfl ?_
  refine hxa_iconst (by rfl) rfl ?_
  refine hxj_putI (by rfl) (by rfl) (by rfl) (by rfl) hA (hbok (by rfl) hk_0 (by omega) (by omega)) (by rfl) (by rfl) (fun A11 hA11 eA11 fA11 => ?_)
  refine hxa_iconst (by rfl) rfl ?_
  refine hxa_s1 (by rfl) (Or.inl ⟨_, rfl, rfl⟩) rfl ?_
  exact L7 (Int.toNat (4 - 0) + 1) (Int32.ofNat 0) (.retAddr 0) A11 hA11 (by omega) (by omega) (by omega)
theorem hX8q6 {d : Nat} {Bn Br : Int} {A0 A : hs_A} (hA : hJ 6 Bn Br A0 A)   : hxC (d + 2) 8 hm_m8 [.ref 7] A (fun r A' => hJ 6 Bn Br A0 A' ∧ r = none) := hxC.of (by rfl) (hY8q6 hA  (fun r A' h => h))
theorem hY54q6 {d : Nat} {Bn Br : Int} {A0 A : hs_A} (hA : hJ 8 Bn Br A0 A)   {P : Option Value → hs_A → Prop} (hP : ∀ (r : Option Value) (A' : hs_A), (hJ 6 Bn Br A0 A' ∧ r = none) → P r A') : hxa (d + 2) none hm_t54 0 [.ref 3] [] A P := by
  refine hxa_aload_n (by rfl) rfl ?_
  refine hxa_get (v := .ref 6) (by rfl) (by rfl) (by rfl) rfl ?_
  refine hxa_iconst (by rfl) rfl ?_
  refine hxa_call2 (by rfl) (by decide) (by rfl) (by rfl) (by rfl) (hX246z (d := d + 1) hA (C := 5) (by rfl) (by omega) (hbokN (by rfl)) (by rfl) (by rfl)) ?_
  rintro _ A1 ⟨⟨gA1, zA1⟩, rfl⟩
  have hA1 := gA1.to6 (fun j hj => by rw [zA1 j hj]; decide)
  refine hxa_aload_n (by rfl) rfl ?_
  refine hxa_get (v := .ref 7) (by rfl) (by rfl) (by rfl) rfl ?_
  refine hxa_call0 (by rfl) (by rfl) (by rfl) (by rfl) (by rfl) (by rfl) (hX8q6 (d := d + 0) hA1 ) ?_
  rintro _ A2 ⟨hA2, rfl⟩
  refine hxa_aload_n (by rfl) rfl ?_
  refine hxa_iconst (by rfl) rfl ?_
  refine hxj_putI (by rfl) (by rfl) (by rfl) (by rfl) hA2 (hbok (by rfl) hk_0 (by omega) (by omega)) (by rfl) (by rfl) (fun A3 hA3 eA3 fA3 => ?_)
  refine hxa_aload_n (by rfl) rfl ?_
  refine hxa_iconst (by rfl) rfl ?_
  refine hxj_putI (by rfl) (by rfl) (by rfl) (by rfl) hA3 (hbokN (by rfl)) (by rfl) (by rfl) (fun A4 hA4 eA4 fA4 => ?_)
  refine hxa_aload_n (by rfl) rfl ?_
  refine hxa_bipush (by rfl) rfl ?_
  refine hxj_putI (by rfl) (by rfl) (by rfl) (by rfl) hA4 (hbokN (by rfl)) (by rfl) (by rfl) (fun A5 hA5 eA5 fA5 => ?_)
  refine hxa_aload_n (by rfl) rfl ?_
  refine hxa_iconst (by rfl) rfl ?_
  refine hxj_putI (by rfl) (by rfl) (by rfl) (by rfl) hA5 (hbokN (by rfl)) (by rfl) (by rfl) (fun A6 hA6 eA6 fA6 => ?_)
  exact hxa_return (by rfl) rfl (hP _ _ ⟨hA6, rfl⟩)
theorem hX54q6 {d : Nat} {Bn Br : Int} {A0 A : hs_A} (hA : hJ 8 Bn Br A0 A)   : hxC (d + 3) 54 hm_m54 [.ref 3] A (fun r A' => hJ 6 Bn Br A0 A' ∧ r = none) := hxC.of (by rfl) (hY54q6 hA  (fun r A' h => h))
theorem hY59q6 {d : Nat} {Bn Br : Int} {A0 A : hs_A} (hA : hJ 6 Bn Br A0 A)  (a2 : Int32) (p2 : 0 ≤ a2.toInt) (q2 : a2.toInt ≤ 2000) (a3 : Int32) (p3 : 0 ≤ a3.toInt) (q3 : a3.toInt ≤ 2000) {P : Option Value → hs_A → Prop} (hP : ∀ (r : Option Value) (A' : hs_A), (A = A' ∧ ∃ z : Int32, r = some (.int z) ∧ ((0 ≤ z.toInt ∧ z.toInt ≤ 2000))) → P r A') : hxa (d + 0) (some (.int)) hm_t59 0 [.ref 2, .int a2, .int a3, .retAddr 0, .retAddr 0] [] A P := by
  have L2 : ∀ (m2 : Nat) (x2_3 : Int32) (x2_4 : Value) (bx2_3 : 0 ≤ x2_3.toInt) (cx2_3 : x2_3.toInt ≤ 2000) (hm2 : 2000 - x2_3.toInt < (m2 : Int)), hxa (d + 0) (some (.int)) hm_t59 2 [.ref 2, .int a2, .int a3, .int x2_3, x2_4] [] A P := by
    intro m2
    induction m2 with
    | zero => intro x2_3 x2_4 bx2_3 cx2_3 hm2;  exact False.elim (by omega)
    | succ m2 ih2 =>
      intro x2_3 x2_4 bx2_3 cx2_3 hm2
      refine hxa_iload_n (by rfl) rfl ?_
      refine hxa_iload_n (by rfl) rfl ?_
      refine hxj_cge (by rfl) rfl rfl (fun q1 => ?_) (fun q1 => ?_)
      ·
        refine hxa_iload_n (by rfl) rfl ?_
        exact hxa_ireturn (by rfl) rfl (hP _ _ ⟨rfl, _, rfl, by omega⟩)
      ·
        refine hxa_aload_n (by rfl) rfl ?_
        refine hxa_iload_n (by rfl) rfl ?_
        refine hxj_bald (by rfl) (by rfl) rfl (by omega) (by omega) (fun z2 ez2 => ?_)
        refine hxa_s1 (by rfl) (Or.inr ⟨_, rfl, rfl⟩) rfl ?_
        refine hxa_iload (by rfl) rfl ?_
        refine hxa_bipush (by rfl) rfl ?_
        refine hxj_ceq (by rfl) rfl hk_9 (fun q3 => ?_) (fun q3 => ?_)
        ·
          refine hxj_iinc (by rfl) rfl rfl hk_1 (by omega) (by omega) (fun _ => rfl) (fun z4 ez4 => ?_)
          refine hxa_goto (by rfl) ?_
          exact ih2 z4 (.int z2) (by omega) (by omega) (by omega)
        ·
          refine hxa_iload (by rfl) rfl ?_
          refine hxa_bipush (by rfl) rfl ?_
          refine hxj_ceq (by rfl) rfl hk_10 (fun q5 => ?_) (fun q5 => ?_)
          ·
            refine hxj_iinc (by rfl) rfl rfl hk_1 (by omega) (by omega) (fun _ => rfl) (fun z6 ez6 => ?_)
            refine hxa_goto (by rfl) ?_
            exact ih2 z6 (.int z2) (by omega) (by omega) (by omega)
          ·
            refine hxa_iload (by rfl) rfl ?_
            refine hxa_bipush (by rfl) rfl ?_
            refine hxj_ceq (by rfl) rfl hk_13 (fun q7 => ?_) (fun q7 => ?_)
            ·
              refine hxj_iinc (by rfl) rfl rfl hk_1 (by omega) (by omega) (fun _ => rfl) (fun z8 ez8 => ?_)
              refine hxa_goto (by rfl) ?_
              exact ih2 z8 (.int z2) (by omega) (by omega) (by omega)
            ·
              refine hxa_iload (by rfl) rfl ?_
              refine hxa_bipush (by rfl) rfl ?_
              refine hxj_ceq (by rfl) rfl hk_32 (fun q9 => ?_) (fun q9 => ?_)
              ·
                refine hxj_iinc (by rfl) rfl rfl hk_1 (by omega) (by omega) (fun _ => rfl) (fun z10 ez10 => ?_)
                refine hxa_goto (by rfl) ?_
                exact ih2 z10 (.int z2) (by omega) (by omega) (by omega)
              ·
                refine hxa_iload_n (by rfl) rfl ?_
                exact hxa_ireturn (by rfl) rfl (hP _ _ ⟨rfl, _, rfl, by omega⟩)
  refine hxa_iload_n (by rfl) rfl ?_
  refine hxa_s1 (by rfl) (Or.inl ⟨_, rfl, rfl⟩) rfl ?_
  exact L2 (Int.toNat (2000 - a2.toInt) + 1) a2 (.retAddr 0) (by omega) (by omega) (by omega)
theorem hX59q6 {d : Nat} {Bn Br : Int} {A0 A : hs_A} (hA : hJ 6 Bn Br A0 A)  (a2 : Int32) (p2 : 0 ≤ a2.toInt) (q2 : a2.toInt ≤ 2000) (a3 : Int32) (p3 : 0 ≤ a3.toInt) (q3 : a3.toInt ≤ 2000) : hxC (d + 1) 59 hm_m59 [.ref 2, .int a2, .int a3] A (fun r A' => A = A' ∧ ∃ z : Int32, r = some (.int z) ∧ ((0 ≤ z.toInt ∧ z.toInt ≤ 2000))) := hxC.of (by rfl) (hY59q6 hA a2 p2 q2 a3 p3 q3 (fun r A' h => h))
theorem hY62q6 {d : Nat} {Bn Br : Int} {A0 A : hs_A} (hA : hJ 6 Bn Br A0 A)  (a2 : Int32) (p2 : 0 ≤ a2.toInt) (q2 : a2.toInt ≤ 2000) (a3 : Int32) (p3 : 0 ≤ a3.toInt) (q3 : a3.toInt ≤ 2000) {P : Option Value → hs_A → Prop} (hP : ∀ (r : Option Value) (A' : hs_A), (A = A' ∧ ∃ z : Int32, r = some (.int z)) → P r A') : hxa (d + 0) (some (.int)) hm_t62 0 [.ref 2, .int a2, .int a3, .retAddr 0, .retAddr 0, .retAddr 0, .retAddr 0, .retAddr 0] [] A P := by
  have k0 := hk_0
  have k1 := hk_1
  have k4294967295 := hk_4294967295
  have L11 : ∀ (m11 : Nat) (x11_3 : Int32) (x11_4 : Int32) (x11_5 : Int32) (x11_6 : Int32) (x11_7 : Value) (bx11_4 : 0 ≤ x11_4.toInt) (cx11_4 : x11_4.toInt ≤ 2102) (bx11_5 : 0 ≤ x11_5.toInt) (cx11_5 : x11_5.toInt ≤ 1) (bx11_6 : 0 ≤ x11_6.toInt) (cx11_6 : x11_6.toInt ≤ 255) (u11_0 : x11_4.toInt ≤ 2000 + x11_6.toInt) (hm11 : 255 - x11_6.toInt < (m11 : Int)), hxa (d + 0) (some (.int)) hm_t62 11 [.ref 2, .int a2, .int a3, .int x11_3, .int x11_4, .int x11_5, .int x11_6, x11_7] [] A P := by
    intro m11
    induction m11 with
    | zero => intro x11_3 x11_4 x11_5 x11_6 x11_7 bx11_4 cx11_4 bx11_5 cx11_5 bx11_6 cx11_6 u11_0 hm11; have := hn_rng x11_3; exact False.elim (by omega)
    | succ m11 ih11 =>
      intro x11_3 x11_4 x11_5 x11_6 x11_7 bx11_4 cx11_4 bx11_5 cx11_5 bx11_6 cx11_6 u11_0 hm11
      refine hxa_iload (by rfl) rfl ?_
      refine hxa_ldcS (k := 1) (by rfl) rfl ?_
      refine hxj_strLen (by rfl) (by rfl) (fun z1 ez1 => ?_)
      refine hxj_cge (by rfl) rfl rfl (fun q2 => ?_) (fun q2 => ?_)
      ·
        refine hxa_iconst (by rfl) rfl ?_
        exact hxa_ireturn (by rfl) rfl (hP _ _ ⟨rfl, _, rfl⟩)
      ·
        refine hxa_ldcS (k := 1) (by rfl) rfl ?_
        refine hxa_iload (by rfl) rfl ?_
        refine hxj_strChar (by rfl) (by rfl) rfl (by omega) (by omega) (fun z3 => ?_)
        refine hxa_s1 (by rfl) (Or.inr ⟨_, rfl, rfl⟩) rfl ?_
        refine hxa_iload (by rfl) rfl ?_
        refine hxa_bipush (by rfl) rfl ?_
        refine hxj_ceq (by rfl) rfl hk_32 (fun q4 => ?_) (fun q4 => ?_)
        ·
          refine hxa_iload (by rfl) rfl ?_
          refine hxj_zeq (by rfl) rfl (fun q5 => ?_) (fun q5 => ?_)
          ·
            refine hxj_iincU (by rfl) rfl (fun _ => rfl) (fun z6 => ?_)
            refine hxa_iload_n (by rfl) rfl ?_
            refine hxa_s1 (by rfl) (Or.inr ⟨_, rfl, rfl⟩) rfl ?_
            refine hxa_iconst (by rfl) rfl ?_
            refine hxa_s1 (by rfl) (Or.inr ⟨_, rfl, rfl⟩) rfl ?_
            refine hxj_iinc (by rfl) rfl rfl hk_1 (by omega) (by omega) (fun _ => rfl) (fun z7 ez7 => ?_)
            refine hxa_goto (by rfl) ?_
            exact ih11 z6 a2 (Int32.ofNat 1) z7 (.int z3) (by omega) (by omega) (by omega) (by omega) (by omega) (by omega) (by omega) (by omega)
          ·
            refine hxa_iload (by rfl) rfl ?_
            refine hxa_iload_n (by rfl) rfl ?_
            refine hxj_cne (by rfl) rfl rfl (fun q8 => ?_) (fun q8 => ?_)
            ·
              refine hxj_iincU (by rfl) rfl (fun _ => rfl) (fun z9 => ?_)
              refine hxa_iload_n (by rfl) rfl ?_
              refine hxa_s1 (by rfl) (Or.inr ⟨_, rfl, rfl⟩) rfl ?_
              refine hxa_iconst (by rfl) rfl ?_
              refine hxa_s1 (by rfl) (Or.inr ⟨_, rfl, rfl⟩) rfl ?_
              refine hxj_iinc (by rfl) rfl rfl hk_1 (by omega) (by omega) (fun _ => rfl) (fun z10 ez10 => ?_)
              refine hxa_goto (by rfl) ?_
              exact ih11 z9 a2 (Int32.ofNat 1) z10 (.int z3) (by omega) (by omega) (by omega) (by omega) (by omega) (by omega) (by omega) (by omega)
            ·
              refine hxa_iload_n (by rfl) rfl ?_
              exact hxa_ireturn (by rfl) rfl (hP _ _ ⟨rfl, _, rfl⟩)
        ·
          refine hxa_iload (by rfl) rfl ?_
          refine hxj_zeq (by rfl) rfl (fun q11 => ?_) (fun q11 => ?_)
          ·
            refine hxa_iconst (by rfl) rfl ?_
            refine hxa_s1 (by rfl) (Or.inr ⟨_, rfl, rfl⟩) rfl ?_
            refine hxj_iinc (by rfl) rfl rfl hk_1 (by omega) (by omega) (fun _ => rfl) (fun z12 ez12 => ?_)
            refine hxa_goto (by rfl) ?_
            refine hxj_iinc (by rfl) rfl rfl hk_1 (by omega) (by omega) (fun _ => rfl) (fun z13 ez13 => ?_)
            refine hxa_goto (by rfl) ?_
            exact ih11 x11_3 z12 (Int32.ofNat 0) z13 (.int z3) (by omega) (by omega) (by omega) (by omega) (by omega) (by omega) (by omega) (by omega)
          ·
            refine hxa_iload (by rfl) rfl ?_
            refine hxa_iload_n (by rfl) rfl ?_
            refine hxj_cge (by rfl) rfl rfl (fun q14 => ?_) (fun q14 => ?_)
            ·
              refine hxa_iconst (by rfl) rfl ?_
              refine hxa_s1 (by rfl) (Or.inr ⟨_, rfl, rfl⟩) rfl ?_
              refine hxj_iinc (by rfl) rfl rfl hk_1 (by omega) (by omega) (fun _ => rfl) (fun z15 ez15 => ?_)
              refine hxa_goto (by rfl) ?_
              refine hxj_iinc (by rfl) rfl rfl hk_1 (by omega) (by omega) (fun _ => rfl) (fun z16 ez16 => ?_)
              refine hxa_goto (by rfl) ?_
              exact ih11 x11_3 z15 (Int32.ofNat 0) z16 (.int z3) (by omega) (by omega) (by omega) (by omega) (by omega) (by omega) (by omega) (by omega)
            ·
              refine hxa_aload_n (by rfl) rfl ?_
              refine hxa_iload (by rfl) rfl ?_
              refine hxj_bald (by rfl) (by rfl) rfl (by omega) (by omega) (fun z17 ez17 => ?_)
              refine hxa_iload (by rfl) rfl ?_
              refine hxj_cne (by rfl) rfl rfl (fun q18 => ?_) (fun q18 => ?_)
              ·
                refine hxa_iconst (by rfl) rfl ?_
                refine hxa_s1 (by rfl) (Or.inr ⟨_, rfl, rfl⟩) rfl ?_
                refine hxj_iinc (by rfl) rfl rfl hk_1 (by omega) (by omega) (fun _ => rfl) (fun z19 ez19 => ?_)
                refine hxa_goto (by rfl) ?_
                refine hxj_iinc (by rfl) rfl rfl hk_1 (by omega) (by omega) (fun _ => rfl) (fun z20 ez20 => ?_)
                refine hxa_goto (by rfl) ?_
                exact ih11 x11_3 z19 (Int32.ofNat 0) z20 (.int z3) (by omega) (by omega) (by omega) (by omega) (by omega) (by omega) (by omega) (by omega)
              ·
                refine hxa_iconst (by rfl) rfl ?_
                refine hxa_goto (by rfl) ?_
                refine hxa_s1 (by rfl) (Or.inr ⟨_, rfl, rfl⟩) rfl ?_
                refine hxj_iinc (by rfl) rfl rfl hk_1 (by omega) (by omega) (fun _ => rfl) (fun z21 ez21 => ?_)
                refine hxa_goto (by rfl) ?_
                refine hxj_iinc (by rfl) rfl rfl hk_1 (by omega) (by omega) (fun _ => rfl) (fun z22 ez22 => ?_)
                refine hxa_goto (by rfl) ?_
                exact ih11 x11_3 z21 (Int32.ofNat 1) z22 (.int z3) (by omega) (by omega) (by omega) (by omega) (by omega) (by omega) (by omega) (by omega)
  refine hxa_iconst (by rfl) rfl ?_
  refine hxa_s1 (by rfl) (Or.inl ⟨_, rfl, rfl⟩) rfl ?_
  refine hxa_iload_n (by rfl) rfl ?_
  refine hxa_s1 (by rfl) (Or.inr ⟨_, rfl, rfl⟩) rfl ?_
  refine hxa_iconst (by rfl) rfl ?_
  refine hxa_s1 (by rfl) (Or.inr ⟨_, rfl, rfl⟩) rfl ?_
  refine hxa_iconst (by rfl) rfl ?_
  refine hxa_s1 (by rfl) (Or.inr ⟨_, rfl, rfl⟩) rfl ?_
  exact L11 (Int.toNat (255 - 0) + 1) (Int32.ofNat 0) a2 (Int32.ofNat 1) (Int32.ofNat 0) (.retAddr 0) (by omega) (by omega) (by omega) (by omega) (by omega) (by omega) (by omega) (by omega)
theorem hX62q6 {d : Nat} {Bn Br : Int} {A0 A : hs_A} (hA : hJ 6 Bn Br A0 A)  (a2 : Int32) (p2 : 0 ≤ a2.toInt) (q2 : a2.toInt ≤ 2000) (a3 : Int32) (p3 : 0 ≤ a3.toInt) (q3 : a3.toInt ≤ 2000) : hxC (d + 1) 62 hm_m62 [.ref 2, .int a2, .int a3] A (fun r A' => A = A' ∧ ∃ z : Int32, r = some (.int z)) := hxC.of (by rfl) (hY62q6 hA a2 p2 q2 a3 p3 q3 (fun r A' h => h))
theorem hY63q6 {d : Nat} {Bn Br : Int} {A0 A : hs_A} (hA : hJ 6 Bn Br A0 A)  (a2 : Int32) (p2 : 0 ≤ a2.toInt) (q2 : a2.toInt ≤ 1999) (a3 : Int32) (p3 : 0 ≤ a3.toInt) (q3 : a3.toInt ≤ 2000) (fl0 : 0 ≤ (A.1 21 3).toInt) (fh0 : (A.1 21 3).toInt ≤ 400) {P : Option Value → hs_A → Prop} (hP : ∀ (r : Option Value) (A' : hs_A), (hJ 6 Bn Br A0 A' ∧ A'.1 21 3 = A.1 21 3 ∧ ∃ z : Int32, r = some (.int z) ∧ ((0 ≤ z.toInt ∧ z.toInt ≤ 2000))) → P r A') : hxa (d + 0) (some (.int)) hm_t63 0 [.ref 22, .ref 2, .int a2, .int a3, .retAddr 0] [] A P := by
  have L65 : ∀ (x65_4 : Int32) (Ac65 : hs_A) (hAc65 : hJ 6 Bn Br A0 Ac65) (ek65_0 : Ac65.1 21 3 = (A.1 21 3)) (bx65_4 : 0 ≤ x65_4.toInt) (cx65_4 : x65_4.toInt ≤ 2000), hxa (d + 0) (some (.int)) hm_t63 65 [.ref 22, .ref 2, .int a2, .int a3, .int x65_4] [] Ac65 P := by
    intro x65_4 Ac65 hAc65 ek65_0 bx65_4 cx65_4
    refine hxa_aload_n (by rfl) rfl ?_
    refine hxa_get (v := .ref 23) (by rfl) (by rfl) (by rfl) rfl ?_
    refine hxa_aload_n (by rfl) rfl ?_
    refine hxj_getK (by rfl) (by rfl) (by rfl) ek65_0 ?_
    refine hxa_iload (by rfl) rfl ?_
    refine hxa_iload_n (by rfl) rfl ?_
    refine hxj_isub (by rfl) rfl rfl (by omega) (by omega) (fun z1 ez1 => ?_)
    refine hxa_iconst (by rfl) rfl ?_
    refine hxj_cle (by rfl) rfl hk_4 (fun q2 => ?_) (fun q2 => ?_)
    ·
      refine hxa_bipush (by rfl) rfl ?_
      refine hxj_iast (by rfl) (by rfl) rfl (by omega) (by omega) hAc65 (hbokN (by rfl)) (by rfl) (by rfl) (fun A3 hA3 eA3 fA3 gA3 => ?_)
      refine hxa_iload (by rfl) rfl ?_
      exact hxa_ireturn (by rfl) rfl (hP _ _ ⟨hA3, (hkA eA3 ek65_0), _, rfl, by omega⟩)
    ·
      refine hxa_bipush (by rfl) rfl ?_
      refine hxa_goto (by rfl) ?_
      refine hxj_iast (by rfl) (by rfl) rfl (by omega) (by omega) hAc65 (hbokN (by rfl)) (by rfl) (by rfl) (fun A4 hA4 eA4 fA4 gA4 => ?_)
      refine hxa_iload (by rfl) rfl ?_
      exact hxa_ireturn (by rfl) rfl (hP _ _ ⟨hA4, (hkA eA4 ek65_0), _, rfl, by omega⟩)
  have L3 : ∀ (m3 : Nat) (x3_4 : Int32) (Ac3 : hs_A) (hAc3 : hJ 6 Bn Br A0 Ac3) (ek3_0 : Ac3.1 21 3 = (A.1 21 3)) (bx3_4 : 0 ≤ x3_4.toInt) (cx3_4 : x3_4.toInt ≤ 2000) (hm3 : 2000 - x3_4.toInt < (m3 : Int)), hxa (d + 0) (some (.int)) hm_t63 3 [.ref 22, .ref 2, .int a2, .int a3, .int x3_4] [] Ac3 P := by
    intro m3
    induction m3 with
    | zero => intro x3_4 Ac3 hAc3 ek3_0 bx3_4 cx3_4 hm3;  exact False.elim (by omega)
    | succ m3 ih3 =>
      intro x3_4 Ac3 hAc3 ek3_0 bx3_4 cx3_4 hm3
      refine hxa_iload (by rfl) rfl ?_
      refine hxa_iload_n (by rfl) rfl ?_
      refine hxj_cge (by rfl) rfl rfl (fun q5 => ?_) (fun q5 => ?_)
      ·
        exact L65 x3_4 Ac3 hAc3 ek3_0 (by omega) (by omega)
      ·
        refine hxa_aload_n (by rfl) rfl ?_
        refine hxa_iload (by rfl) rfl ?_
        refine hxj_bald (by rfl) (by rfl) rfl (by omega) (by omega) (fun z6 ez6 => ?_)
        refine hxa_bipush (by rfl) rfl ?_
        refine hxj_clt (by rfl) rfl hk_48 (fun q7 => ?_) (fun q7 => ?_)
        ·
          exact L65 x3_4 Ac3 hAc3 ek3_0 (by omega) (by omega)
        ·
          refine hxa_aload_n (by rfl) rfl ?_
          refine hxa_iload (by rfl) rfl ?_
          refine hxj_bald (by rfl) (by rfl) rfl (by omega) (by omega) (fun z8 ez8 => ?_)
          refine hxa_bipush (by rfl) rfl ?_
          refine hxj_cgt (by rfl) rfl hk_57 (fun q9 => ?_) (fun q9 => ?_)
          ·
            exact L65 x3_4 Ac3 hAc3 ek3_0 (by omega) (by omega)
          ·
            refine hxa_aload_n (by rfl) rfl ?_
            refine hxa_get (v := .ref 24) (by rfl) (by rfl) (by rfl) rfl ?_
            refine hxa_aload_n (by rfl) rfl ?_
            refine hxj_getK (by rfl) (by rfl) (by rfl) ek3_0 ?_
            refine hxa_aload_n (by rfl) rfl ?_
            refine hxa_get (v := .ref 24) (by rfl) (by rfl) (by rfl) rfl ?_
            refine hxa_aload_n (by rfl) rfl ?_
            refine hxj_getK (by rfl) (by rfl) (by rfl) ek3_0 ?_
            refine hxj_lald (by rfl) (by rfl) rfl (by omega) (by omega) (fun j10 ej10 => ?_)
            refine hxa_ldc2_w (by rfl) rfl ?_
            refine hxa_lmul (by rfl) ?_
            refine hxa_aload_n (by rfl) rfl ?_
            refine hxa_iload (by rfl) rfl ?_
            refine hxj_bald (by rfl) (by rfl) rfl (by omega) (by omega) (fun z11 ez11 => ?_)
            refine hxa_i2l (by rfl) ?_
            refine hxa_ladd (by rfl) ?_
            refine hxa_ldc2_w (by rfl) rfl ?_
            refine hxa_lsub (by rfl) ?_
            refine hxj_last (by rfl) (by rfl) rfl (by omega) (by omega) hAc3 (by omega) (fun A12 hA12 eA12 fA12 => ?_)
            refine hxj_iinc (by rfl) rfl rfl hk_1 (by omega) (by omega) (fun _ => rfl) (fun z13 ez13 => ?_)
            refine hxa_goto (by rfl) ?_
            exact ih3 z13 A12 hA12 (hkA eA12 ek3_0) (by omega) (by omega) (by omega)
  refine hxa_iload_n (by rfl) rfl ?_
  refine hxa_s1 (by rfl) (Or.inr ⟨_, rfl, rfl⟩) rfl ?_
  exact L3 (Int.toNat (2000 - a2.toInt) + 1) a2 A hA rfl (by omega) (by omega) (by omega)
theorem hX63q6 {d : Nat} {Bn Br : Int} {A0 A : hs_A} (hA : hJ 6 Bn Br A0 A)  (a2 : Int32) (p2 : 0 ≤ a2.toInt) (q2 : a2.toInt ≤ 1999) (a3 : Int32) (p3 : 0 ≤ a3.toInt) (q3 : a3.toInt ≤ 2000) (fl0 : 0 ≤ (A.1 21 3).toInt) (fh0 : (A.1 21 3).toInt ≤ 400) : hxC (d + 1) 63 hm_m63 [.ref 22, .ref 2, .int a2, .int a3] A (fun r A' => hJ 6 Bn Br A0 A' ∧ A'.1 21 3 = A.1 21 3 ∧ ∃ z : Int32, r = some (.int z) ∧ ((0 ≤ z.toInt ∧ z.toInt ≤ 2000))) := hxC.of (by rfl) (hY63q6 hA a2 p2 q2 a3 p3 q3 fl0 fh0 (fun r A' h => h))
theorem hY61q6 {d : Nat} {Bn Br : Int} {A0 A : hs_A} (hA : hJ 6 Bn Br A0 A)  (a2 : Int32) (p2 : 0 ≤ a2.toInt) (q2 : a2.toInt ≤ 1999) (a3 : Int32) (p3 : 0 ≤ a3.toInt) (q3 : a3.toInt ≤ 2000) (fl0 : 0 ≤ (A.1 21 3).toInt) (fh0 : (A.1 21 3).toInt ≤ 400) {P : Option Value → hs_A → Prop} (hP : ∀ (r : Option Value) (A' : hs_A), (hJ 6 Bn Br A0 A' ∧ A'.1 21 3 = A.1 21 3 ∧ ∃ z : Int32, r = some (.int z) ∧ ((0 ≤ z.toInt ∧ z.toInt ≤ 2000))) → P r A') : hxa (d + 1) (some (.int)) hm_t61 0 [.ref 22, .ref 2, .int a2, .int a3, .retAddr 0, .retAddr 0] [] A P := by
  have L64 : ∀ (x64_4 : Int32) (Ac64 : hs_A) (hAc64 : hJ 6 Bn Br A0 Ac64) (ek64_0 : Ac64.1 21 3 = (A.1 21 3)) (bx64_4 : 0 ≤ x64_4.toInt) (cx64_4 : x64_4.toInt ≤ 2000), hxa (d + 1) (some (.int)) hm_t61 64 [.ref 22, .ref 2, .int a2, .int a3, .int x64_4, .retAddr 0] [] Ac64 P := by
    intro x64_4 Ac64 hAc64 ek64_0 bx64_4 cx64_4
    refine hxa_iload (by rfl) rfl ?_
    refine hxa_iload_n (by rfl) rfl ?_
    refine hxj_isub (by rfl) rfl rfl (by omega) (by omega) (fun z1 ez1 => ?_)
    refine hxa_bipush (by rfl) rfl ?_
    refine hxj_cle (by rfl) rfl hk_8 (fun q2 => ?_) (fun q2 => ?_)
    ·
      refine hxa_aload_n (by rfl) rfl ?_
      refine hxa_iload_n (by rfl) rfl ?_
      refine hxa_iload (by rfl) rfl ?_
      refine hxa_call2 (by rfl) (by decide) (by rfl) (by rfl) (by rfl) (hX62q6 (d := d + 0) hAc64 a2 (by omega) (by omega) x64_4 (by omega) (by omega)) ?_
      rintro _ _ ⟨rfl, z3, rfl⟩
      refine hxa_s1 (by rfl) (Or.inr ⟨_, rfl, rfl⟩) rfl ?_
      refine hxa_aload_n (by rfl) rfl ?_
      refine hxa_get (v := .ref 23) (by rfl) (by rfl) (by rfl) rfl ?_
      refine hxa_aload_n (by rfl) rfl ?_
      refine hxj_getK (by rfl) (by rfl) (by rfl) ek64_0 ?_
      refine hxa_iload (by rfl) rfl ?_
      refine hxa_iconst (by rfl) rfl ?_
      refine hxj_cne (by rfl) rfl hk_4294967295 (fun q4 => ?_) (fun q4 => ?_)
      ·
        refine hxa_iload (by rfl) rfl ?_
        refine hxj_iast (by rfl) (by rfl) rfl (by omega) (by omega) hAc64 (hbokN (by rfl)) (by rfl) (by rfl) (fun A5 hA5 eA5 fA5 gA5 => ?_)
        refine hxa_iload (by rfl) rfl ?_
        exact hxa_ireturn (by rfl) rfl (hP _ _ ⟨hA5, (hkA eA5 ek64_0), _, rfl, by omega⟩)
      ·
        refine hxa_bipush (by rfl) rfl ?_
        refine hxa_goto (by rfl) ?_
        refine hxj_iast (by rfl) (by rfl) rfl (by omega) (by omega) hAc64 (hbokN (by rfl)) (by rfl) (by rfl) (fun A6 hA6 eA6 fA6 gA6 => ?_)
        refine hxa_iload (by rfl) rfl ?_
        exact hxa_ireturn (by rfl) rfl (hP _ _ ⟨hA6, (hkA eA6 ek64_0), _, rfl, by omega⟩)
    ·
      refine hxa_aload_n (by rfl) rfl ?_
      refine hxa_get (v := .ref 23) (by rfl) (by rfl) (by rfl) rfl ?_
      refine hxa_aload_n (by rfl) rfl ?_
      refine hxj_getK (by rfl) (by rfl) (by rfl) ek64_0 ?_
      refine hxa_bipush (by rfl) rfl ?_
      refine hxj_iast (by rfl) (by rfl) rfl (by omega) (by omega) hAc64 (hbokN (by rfl)) (by rfl) (by rfl) (fun A7 hA7 eA7 fA7 gA7 => ?_)
      refine hxa_goto (by rfl) ?_
      refine hxa_iload (by rfl) rfl ?_
      exact hxa_ireturn (by rfl) rfl (hP _ _ ⟨hA7, (hkA eA7 ek64_0), _, rfl, by omega⟩)
  have L3 : ∀ (m3 : Nat) (x3_4 : Int32) (Ac3 : hs_A) (hAc3 : hJ 6 Bn Br A0 Ac3) (ek3_0 : Ac3.1 21 3 = (A.1 21 3)) (bx3_4 : 0 ≤ x3_4.toInt) (cx3_4 : x3_4.toInt ≤ 2000) (hm3 : 2000 - x3_4.toInt < (m3 : Int)), hxa (d + 1) (some (.int)) hm_t61 3 [.ref 22, .ref 2, .int a2, .int a3, .int x3_4, .retAddr 0] [] Ac3 P := by
    intro m3
    induction m3 with
    | zero => intro x3_4 Ac3 hAc3 ek3_0 bx3_4 cx3_4 hm3;  exact False.elim (by omega)
    | succ m3 ih3 =>
      intro x3_4 Ac3 hAc3 ek3_0 bx3_4 cx3_4 hm3
      refine hxa_iload (by rfl) rfl ?_
      refine hxa_iload_n (by rfl) rfl ?_
      refine hxj_cge (by rfl) rfl rfl (fun q8 => ?_) (fun q8 => ?_)
      ·
        exact L64 x3_4 Ac3 hAc3 ek3_0 (by omega) (by omega)
      ·
        refine hxa_aload_n (by rfl) rfl ?_
        refine hxa_iload (by rfl) rfl ?_
        refine hxj_bald (by rfl) (by rfl) rfl (by omega) (by omega) (fun z9 ez9 => ?_)
        refine hxa_bipush (by rfl) rfl ?_
        refine hxj_clt (by rfl) rfl hk_97 (fun q10 => ?_) (fun q10 => ?_)
        ·
          exact L64 x3_4 Ac3 hAc3 ek3_0 (by omega) (by omega)
        ·
          refine hxa_aload_n (by rfl) rfl ?_
          refine hxa_iload (by rfl) rfl ?_
          refine hxj_bald (by rfl) (by rfl) rfl (by omega) (by omega) (fun z11 ez11 => ?_)
          refine hxa_bipush (by rfl) rfl ?_
          refine hxj_cgt (by rfl) rfl hk_122 (fun q12 => ?_) (fun q12 => ?_)
          ·
            exact L64 x3_4 Ac3 hAc3 ek3_0 (by omega) (by omega)
          ·
            refine hxa_aload_n (by rfl) rfl ?_
            refine hxa_get (v := .ref 24) (by rfl) (by rfl) (by rfl) rfl ?_
            refine hxa_aload_n (by rfl) rfl ?_
            refine hxj_getK (by rfl) (by rfl) (by rfl) ek3_0 ?_
            refine hxa_aload_n (by rfl) rfl ?_
            refine hxa_get (v := .ref 24) (by rfl) (by rfl) (by rfl) rfl ?_
            refine hxa_aload_n (by rfl) rfl ?_
            refine hxj_getK (by rfl) (by rfl) (by rfl) ek3_0 ?_
            refine hxj_lald (by rfl) (by rfl) rfl (by omega) (by omega) (fun j13 ej13 => ?_)
            refine hxa_iconst (by rfl) rfl ?_
            refine hxa_lshl (by rfl) ?_
            refine hxa_aload_n (by rfl) rfl ?_
            refine hxa_iload (by rfl) rfl ?_
            refine hxj_bald (by rfl) (by rfl) rfl (by omega) (by omega) (fun z14 ez14 => ?_)
            refine hxa_bipush (by rfl) rfl ?_
            refine hxj_isubU (by rfl) (fun z15 => ?_)
            refine hxa_iconst (by rfl) rfl ?_
            refine hxj_iaddU (by rfl) (fun z16 => ?_)
            refine hxa_i2l (by rfl) ?_
            refine hxa_lor (by rfl) ?_
            refine hxj_last (by rfl) (by rfl) rfl (by omega) (by omega) hAc3 (by omega) (fun A17 hA17 eA17 fA17 => ?_)
            refine hxj_iinc (by rfl) rfl rfl hk_1 (by omega) (by omega) (fun _ => rfl) (fun z18 ez18 => ?_)
            refine hxa_goto (by rfl) ?_
            exact ih3 z18 A17 hA17 (hkA eA17 ek3_0) (by omega) (by omega) (by omega)
  refine hxa_iload_n (by rfl) rfl ?_
  refine hxa_s1 (by rfl) (Or.inr ⟨_, rfl, rfl⟩) rfl ?_
  exact L3 (Int.toNat (2000 - a2.toInt) + 1) a2 A hA rfl (by omega) (by omega) (by omega)
theorem hX61q6 {d : Nat} {Bn Br : Int} {A0 A : hs_A} (hA : hJ 6 Bn Br A0 A)  (a2 : Int32) (p2 : 0 ≤ a2.toInt) (q2 : a2.toInt ≤ 1999) (a3 : Int32) (p3 : 0 ≤ a3.toInt) (q3 : a3.toInt ≤ 2000) (fl0 : 0 ≤ (A.1 21 3).toInt) (fh0 : (A.1 21 3).toInt ≤ 400) : hxC (d + 2) 61 hm_m61 [.ref 22, .ref 2, .int a2, .int a3] A (fun r A' => hJ 6 Bn Br A0 A' ∧ A'.1 21 3 = A.1 21 3 ∧ ∃ z : Int32, r = some (.int z) ∧ ((0 ≤ z.toInt ∧ z.toInt ≤ 2000))) := hxC.of (by rfl) (hY61q6 hA a2 p2 q2 a3 p3 q3 fl0 fh0 (fun r A' h => h))
theorem hY60q6 {d : Nat} {Bn Br : Int} {A0 A : hs_A} (hA : hJ 6 Bn Br A0 A)  (a2 : Int32) (p2 : 0 ≤ a2.toInt) (q2 : a2.toInt ≤ 2000) (a3 : Int32) (p3 : 0 ≤ a3.toInt) (q3 : a3.toInt ≤ 2000) (fl0 : 0 ≤ (A.1 21 3).toInt) (fh0 : (A.1 21 3).toInt ≤ 400) {P : Option Value → hs_A → Prop} (hP : ∀ (r : Option Value) (A' : hs_A), (hJ 6 Bn Br A0 A' ∧ A'.1 21 3 = A.1 21 3 ∧ ∃ z : Int32, r = some (.int z) ∧ ((0 ≤ z.toInt ∧ z.toInt ≤ 2000))) → P r A') : hxa (d + 2) (some (.int)) hm_t60 0 [.ref 22, .ref 2, .int a2, .int a3, .retAddr 0] [] A P := by
  have k4294967295 := hk_4294967295
  have L95 : ∀ (y95_0 : Int32) (Ac95 : hs_A) (hAc95 : hJ 6 Bn Br A0 Ac95) (ek95_0 : Ac95.1 21 3 = (A.1 21 3)) (by95_0 : -1 ≤ y95_0.toInt) (cy95_0 : y95_0.toInt ≤ 8) (ca2 : a2.toInt ≤ 1999) (ba3 : 1 ≤ a3.toInt), hxa (d + 2) (some (.int)) hm_t60 95 [.ref 22, .ref 2, .int a2, .int a3, .retAddr 0] [.int y95_0] Ac95 P := by
    intro y95_0 Ac95 hAc95 ek95_0 by95_0 cy95_0 ca2 ba3
    refine hxa_s1 (by rfl) (Or.inr ⟨_, rfl, rfl⟩) rfl ?_
    refine hxa_aload_n (by rfl) rfl ?_
    refine hxa_get (v := .ref 23) (by rfl) (by rfl) (by rfl) rfl ?_
    refine hxa_aload_n (by rfl) rfl ?_
    refine hxj_getK (by rfl) (by rfl) (by rfl) ek95_0 ?_
    refine hxa_iload (by rfl) rfl ?_
    refine hxa_iconst (by rfl) rfl ?_
    refine hxj_cne (by rfl) rfl hk_4294967295 (fun q1 => ?_) (fun q1 => ?_)
    ·
      refine hxa_bipush (by rfl) rfl ?_
      refine hxa_iload (by rfl) rfl ?_
      refine hxj_iadd (by rfl) hk_24 rfl (by omega) (by omega) (fun z2 ez2 => ?_)
      refine hxj_iast (by rfl) (by rfl) rfl (by omega) (by omega) hAc95 (hbokN (by rfl)) (by rfl) (by rfl) (fun A3 hA3 eA3 fA3 gA3 => ?_)
      refine hxa_iload_n (by rfl) rfl ?_
      refine hxa_iconst (by rfl) rfl ?_
      refine hxj_iadd (by rfl) rfl hk_1 (by omega) (by omega) (fun z4 ez4 => ?_)
      exact hxa_ireturn (by rfl) rfl (hP _ _ ⟨hA3, (hkA eA3 ek95_0), _, rfl, by omega⟩)
    ·
      refine hxa_bipush (by rfl) rfl ?_
      refine hxa_goto (by rfl) ?_
      refine hxj_iast (by rfl) (by rfl) rfl (by omega) (by omega) hAc95 (hbokN (by rfl)) (by rfl) (by rfl) (fun A5 hA5 eA5 fA5 gA5 => ?_)
      refine hxa_iload_n (by rfl) rfl ?_
      refine hxa_iconst (by rfl) rfl ?_
      refine hxj_iadd (by rfl) rfl hk_1 (by omega) (by omega) (fun z6 ez6 => ?_)
      exact hxa_ireturn (by rfl) rfl (hP _ _ ⟨hA5, (hkA eA5 ek95_0), _, rfl, by omega⟩)
  have L52 : ∀ (Ac52 : hs_A) (hAc52 : hJ 6 Bn Br A0 Ac52) (ek52_0 : Ac52.1 21 3 = (A.1 21 3)) (ca2 : a2.toInt ≤ 1999) (ba3 : 1 ≤ a3.toInt), hxa (d + 2) (some (.int)) hm_t60 52 [.ref 22, .ref 2, .int a2, .int a3, .retAddr 0] [] Ac52 P := by
    intro Ac52 hAc52 ek52_0 ca2 ba3
    refine hxa_aload_n (by rfl) rfl ?_
    refine hxa_iload_n (by rfl) rfl ?_
    refine hxj_bald (by rfl) (by rfl) rfl (by omega) (by omega) (fun z7 ez7 => ?_)
    refine hxa_bipush (by rfl) rfl ?_
    refine hxj_clt (by rfl) rfl hk_48 (fun q8 => ?_) (fun q8 => ?_)
    ·
      refine hxa_aload_n (by rfl) rfl ?_
      refine hxa_iload_n (by rfl) rfl ?_
      refine hxj_bald (by rfl) (by rfl) rfl (by omega) (by omega) (fun z9 ez9 => ?_)
      refine hxj_zge (by rfl) rfl (fun q10 => ?_) (fun q10 => ?_)
      ·
        refine hxa_ldcS (k := 0) (by rfl) rfl ?_
        refine hxa_aload_n (by rfl) rfl ?_
        refine hxa_iload_n (by rfl) rfl ?_
        refine hxj_bald (by rfl) (by rfl) rfl (by omega) (by omega) (fun z11 ez11 => ?_)
        refine hxa_i2c (by rfl) (hn_top (fun z12 _ => ?_))
        refine hxj_strIdx (by rfl) (by rfl) (fun z13 ez13 fz13 => ?_)
        exact L95 z13 Ac52 hAc52 ek52_0 (by omega) (by omega) (by omega) (by omega)
      ·
        refine hxa_iconst (by rfl) rfl ?_
        refine hxa_goto (by rfl) ?_
        exact L95 (Int32.ofNat 4294967295) Ac52 hAc52 ek52_0 (by omega) (by omega) (by omega) (by omega)
    ·
      refine hxa_aload_n (by rfl) rfl ?_
      refine hxa_iload_n (by rfl) rfl ?_
      refine hxj_bald (by rfl) (by rfl) rfl (by omega) (by omega) (fun z14 ez14 => ?_)
      refine hxa_bipush (by rfl) rfl ?_
      refine hxj_cgt (by rfl) rfl hk_57 (fun q15 => ?_) (fun q15 => ?_)
      ·
        refine hxa_aload_n (by rfl) rfl ?_
        refine hxa_iload_n (by rfl) rfl ?_
        refine hxj_bald (by rfl) (by rfl) rfl (by omega) (by omega) (fun z16 ez16 => ?_)
        refine hxj_zge (by rfl) rfl (fun q17 => ?_) (fun q17 => ?_)
        ·
          refine hxa_ldcS (k := 0) (by rfl) rfl ?_
          refine hxa_aload_n (by rfl) rfl ?_
          refine hxa_iload_n (by rfl) rfl ?_
          refine hxj_bald (by rfl) (by rfl) rfl (by omega) (by omega) (fun z18 ez18 => ?_)
          refine hxa_i2c (by rfl) (hn_top (fun z19 _ => ?_))
          refine hxj_strIdx (by rfl) (by rfl) (fun z20 ez20 fz20 => ?_)
          exact L95 z20 Ac52 hAc52 ek52_0 (by omega) (by omega) (by omega) (by omega)
        ·
          refine hxa_iconst (by rfl) rfl ?_
          refine hxa_goto (by rfl) ?_
          exact L95 (Int32.ofNat 4294967295) Ac52 hAc52 ek52_0 (by omega) (by omega) (by omega) (by omega)
      ·
        refine hxa_aload_n (by rfl) rfl ?_
        refine hxa_aload_n (by rfl) rfl ?_
        refine hxa_iload_n (by rfl) rfl ?_
        refine hxa_iload_n (by rfl) rfl ?_
        refine hxa_call0 (by rfl) (by rfl) (by rfl) (by rfl) (by rfl) (by rfl) (hX63q6 (d := d + 1) hAc52 a2 (by omega) (by omega) a3 (by omega) (by omega) (by rw [(show Ac52.1 21 3 = (A.1 21 3) from ek52_0)]; omega) (by rw [(show Ac52.1 21 3 = (A.1 21 3) from ek52_0)]; omega)) ?_
        rintro _ A21 ⟨hA21, frA21_0, z22, rfl, fz22⟩
        exact hxa_ireturn (by rfl) rfl (hP _ _ ⟨hA21, (frA21_0.trans ek52_0), _, rfl, by omega⟩)
  refine hxa_aload_n (by rfl) rfl ?_
  refine hxa_get (v := .ref 24) (by rfl) (by rfl) (by rfl) rfl ?_
  refine hxa_aload_n (by rfl) rfl ?_
  refine hxj_getK (by rfl) (by rfl) (by rfl) rfl ?_
  refine hxa_lconst (by rfl) rfl ?_
  refine hxj_last (by rfl) (by rfl) rfl (by omega) (by omega) hA (by omega) (fun A23 hA23 eA23 fA23 => ?_)
  refine hxa_iload_n (by rfl) rfl ?_
  refine hxa_iload_n (by rfl) rfl ?_
  refine hxj_clt (by rfl) rfl rfl (fun q24 => ?_) (fun q24 => ?_)
  ·
    refine hxa_aload_n (by rfl) rfl ?_
    refine hxa_iload_n (by rfl) rfl ?_
    refine hxj_bald (by rfl) (by rfl) rfl (by omega) (by omega) (fun z25 ez25 => ?_)
    refine hxa_bipush (by rfl) rfl ?_
    refine hxj_clt (by rfl) rfl hk_97 (fun q26 => ?_) (fun q26 => ?_)
    ·
      exact L52 A23 hA23 (hkA eA23 rfl) (by omega) (by omega)
    ·
      refine hxa_aload_n (by rfl) rfl ?_
      refine hxa_iload_n (by rfl) rfl ?_
      refine hxj_bald (by rfl) (by rfl) rfl (by omega) (by omega) (fun z27 ez27 => ?_)
      refine hxa_bipush (by rfl) rfl ?_
      refine hxj_cgt (by rfl) rfl hk_122 (fun q28 => ?_) (fun q28 => ?_)
      ·
        exact L52 A23 hA23 (hkA eA23 rfl) (by omega) (by omega)
      ·
        refine hxa_aload_n (by rfl) rfl ?_
        refine hxa_aload_n (by rfl) rfl ?_
        refine hxa_iload_n (by rfl) rfl ?_
        refine hxa_iload_n (by rfl) rfl ?_
        refine hxa_call0 (by rfl) (by rfl) (by rfl) (by rfl) (by rfl) (by rfl) (hX61q6 (d := d + 0) hA23 a2 (by omega) (by omega) a3 (by omega) (by omega) (by rw [(show A23.1 21 3 = (A.1 21 3) from (hkA eA23 rfl))]; omega) (by rw [(show A23.1 21 3 = (A.1 21 3) from (hkA eA23 rfl))]; omega)) ?_
        rintro _ A29 ⟨hA29, frA29_0, z30, rfl, fz30⟩
        exact hxa_ireturn (by rfl) rfl (hP _ _ ⟨hA29, (frA29_0.trans (hkA eA23 rfl)), _, rfl, by omega⟩)
  ·
    refine hxa_aload_n (by rfl) rfl ?_
    refine hxa_get (v := .ref 23) (by rfl) (by rfl) (by rfl) rfl ?_
    refine hxa_aload_n (by rfl) rfl ?_
    refine hxj_getK (by rfl) (by rfl) (by rfl) (hkA eA23 rfl) ?_
    refine hxa_bipush (by rfl) rfl ?_
    refine hxj_iast (by rfl) (by rfl) rfl (by omega) (by omega) hA23 (hbokN (by rfl)) (by rfl) (by rfl) (fun A31 hA31 eA31 fA31 gA31 => ?_)
    refine hxa_iload_n (by rfl) rfl ?_
    exact hxa_ireturn (by rfl) rfl (hP _ _ ⟨hA31, (hkA eA31 (hkA eA23 rfl)), _, rfl, by omega⟩)
theorem hX60q6 {d : Nat} {Bn Br : Int} {A0 A : hs_A} (hA : hJ 6 Bn Br A0 A)  (a2 : Int32) (p2 : 0 ≤ a2.toInt) (q2 : a2.toInt ≤ 2000) (a3 : Int32) (p3 : 0 ≤ a3.toInt) (q3 : a3.toInt ≤ 2000) (fl0 : 0 ≤ (A.1 21 3).toInt) (fh0 : (A.1 21 3).toInt ≤ 400) : hxC (d + 3) 60 hm_m60 [.ref 22, .ref 2, .int a2, .int a3] A (fun r A' => hJ 6 Bn Br A0 A' ∧ A'.1 21 3 = A.1 21 3 ∧ ∃ z : Int32, r = some (.int z) ∧ ((0 ≤ z.toInt ∧ z.toInt ≤ 2000))) := hxC.of (by rfl) (hY60q6 hA a2 p2 q2 a3 p3 q3 fl0 fh0 (fun r A' h => h))
theorem hY58q6 {d : Nat} {Bn Br : Int} {A0 A : hs_A} (hA : hJ 6 Bn Br A0 A)  (a2 : Int32) (p2 : 0 ≤ a2.toInt) (q2 : a2.toInt ≤ 2000) {P : Option Value → hs_A → Prop} (hP : ∀ (r : Option Value) (A' : hs_A), (hJ 6 Bn Br A0 A' ∧ r = none) → P r A') : hxa (d + 3) none hm_t58 0 [.ref 22, .ref 2, .int a2, .retAddr 0, .retAddr 0] [] A P := by
  have k0 := hk_0
  have L10 : ∀ (m10 : Nat) (x10_3 : Int32) (x10_4 : Int32) (Ac10 : hs_A) (hAc10 : hJ 6 Bn Br A0 Ac10) (bx10_3 : 0 ≤ x10_3.toInt) (cx10_3 : x10_3.toInt ≤ 2000) (bx10_4 : 0 ≤ x10_4.toInt) (cx10_4 : x10_4.toInt ≤ 2001) (hm10 : 2001 - x10_4.toInt < (m10 : Int)), hxa (d + 3) none hm_t58 10 [.ref 22, .ref 2, .int a2, .int x10_3, .int x10_4] [] Ac10 P := by
    intro m10
    induction m10 with
    | zero => intro x10_3 x10_4 Ac10 hAc10 bx10_3 cx10_3 bx10_4 cx10_4 hm10;  exact False.elim (by omega)
    | succ m10 ih10 =>
      intro x10_3 x10_4 Ac10 hAc10 bx10_3 cx10_3 bx10_4 cx10_4 hm10
      refine hxa_iload (by rfl) rfl ?_
      refine hxa_iload_n (by rfl) rfl ?_
      refine hxj_cgt (by rfl) rfl rfl (fun q1 => ?_) (fun q1 => ?_)
      ·
        exact hxa_return (by rfl) rfl (hP _ _ ⟨hAc10, rfl⟩)
      ·
        refine hxa_aload_n (by rfl) rfl ?_
        refine hxj_getB (by rfl) (by rfl) (by rfl) hAc10 (by rfl) (fun z2 ez2 fz2 gz2 => ?_)
        refine hxa_sipush (by rfl) rfl ?_
        refine hxj_cgt (by rfl) rfl hk_400 (fun q3 => ?_) (fun q3 => ?_)
        ·
          exact hxa_return (by rfl) rfl (hP _ _ ⟨hAc10, rfl⟩)
        ·
          refine hxa_aload_n (by rfl) rfl ?_
          refine hxa_iload_n (by rfl) rfl ?_
          refine hxa_iload_n (by rfl) rfl ?_
          refine hxa_call2 (by rfl) (by decide) (by rfl) (by rfl) (by rfl) (hX59q6 (d := d + 2) hAc10 x10_3 (by omega) (by omega) a2 (by omega) (by omega)) ?_
          rintro _ _ ⟨rfl, z4, rfl, fz4⟩
          refine hxa_s1 (by rfl) (Or.inl ⟨_, rfl, rfl⟩) rfl ?_
          refine hxa_aload_n (by rfl) rfl ?_
          refine hxa_get (v := .ref 25) (by rfl) (by rfl) (by rfl) rfl ?_
          refine hxa_aload_n (by rfl) rfl ?_
          refine hxj_getK (by rfl) (by rfl) (by rfl) ez2 ?_
          refine hxa_iload_n (by rfl) rfl ?_
          refine hxj_iast (by rfl) (by rfl) rfl (by omega) (by omega) hAc10 (hbokN (by rfl)) (by rfl) (by rfl) (fun A5 hA5 eA5 fA5 gA5 => ?_)
          refine hxa_aload_n (by rfl) rfl ?_
          refine hxa_aload_n (by rfl) rfl ?_
          refine hxa_iload_n (by rfl) rfl ?_
          refine hxa_iload_n (by rfl) rfl ?_
          refine hxa_call0 (by rfl) (by rfl) (by rfl) (by rfl) (by rfl) (by rfl) (hX60q6 (d := d + 0) hA5 z4 (by omega) (by omega) a2 (by omega) (by omega) (by rw [(show A5.1 21 3 = z2 from (hkA eA5 ez2))]; omega) (by rw [(show A5.1 21 3 = z2 from (hkA eA5 ez2))]; omega)) ?_
          rintro _ A6 ⟨hA6, frA6_0, z7, rfl, fz7⟩
          refine hxa_s1 (by rfl) (Or.inl ⟨_, rfl, rfl⟩) rfl ?_
          refine hxa_aload_n (by rfl) rfl ?_
          refine hxa_dupR (by rfl) ?_
          refine hxj_getK (by rfl) (by rfl) (by rfl) (frA6_0.trans (hkA eA5 ez2)) ?_
          refine hxa_iconst (by rfl) rfl ?_
          refine hxj_iadd (by rfl) rfl hk_1 (by omega) (by omega) (fun z8 ez8 => ?_)
          refine hxj_putI (by rfl) (by rfl) (by rfl) (by rfl) hA6 (hbok (by rfl) rfl (by omega) (by omega)) (by rfl) (by rfl) (fun A9 hA9 eA9 fA9 => ?_)
          refine hxa_aload_n (by rfl) rfl ?_
          refine hxa_get (v := .ref 23) (by rfl) (by rfl) (by rfl) rfl ?_
          refine hxa_aload_n (by rfl) rfl ?_
          refine hxj_getK (by rfl) (by rfl) (by rfl) (hkS eA9) ?_
          refine hxa_iconst (by rfl) rfl ?_
          refine hxj_isub (by rfl) rfl hk_1 (by omega) (by omega) (fun z10 ez10 => ?_)
          refine hxj_iald (by rfl) (by rfl) rfl (by omega) (by omega) (fun z11 ez11 => ?_)
          refine hxa_bipush (by rfl) rfl ?_
          refine hxj_ceq (by rfl) rfl hk_22 (fun q12 => ?_) (fun q12 => ?_)
          ·
            exact hxa_return (by rfl) rfl (hP _ _ ⟨hA9, rfl⟩)
          ·
            refine hxa_aload_n (by rfl) rfl ?_
            refine hxa_get (v := .ref 23) (by rfl) (by rfl) (by rfl) rfl ?_
            refine hxa_aload_n (by rfl) rfl ?_
            refine hxj_getK (by rfl) (by rfl) (by rfl) (hkS eA9) ?_
            refine hxa_iconst (by rfl) rfl ?_
            refine hxj_isub (by rfl) rfl hk_1 (by omega) (by omega) (fun z13 ez13 => ?_)
            refine hxj_iald (by rfl) (by rfl) rfl (by omega) (by omega) (fun z14 ez14 => ?_)
            refine hxa_bipush (by rfl) rfl ?_
            refine hxj_cne (by rfl) rfl hk_23 (fun q15 => ?_) (fun q15 => ?_)
            ·
              refine hxj_iinc (by rfl) rfl rfl hk_1 (by omega) (by omega) (fun _ => rfl) (fun z16 ez16 => ?_)
              refine hxa_goto (by rfl) ?_
              exact ih10 z7 z16 A9 hA9 (by omega) (by omega) (by omega) (by omega) (by omega)
            ·
              exact hxa_return (by rfl) rfl (hP _ _ ⟨hA9, rfl⟩)
  refine hxa_aload_n (by rfl) rfl ?_
  refine hxa_iconst (by rfl) rfl ?_
  refine hxj_putI (by rfl) (by rfl) (by rfl) (by rfl) hA (hbok (by rfl) hk_0 (by omega) (by omega)) (by rfl) (by rfl) (fun A17 hA17 eA17 fA17 => ?_)
  refine hxa_iconst (by rfl) rfl ?_
  refine hxa_s1 (by rfl) (Or.inl ⟨_, rfl, rfl⟩) rfl ?_
  refine hxa_iconst (by rfl) rfl ?_
  refine hxa_s1 (by rfl) (Or.inr ⟨_, rfl, rfl⟩) rfl ?_
  exact L10 (Int.toNat (2001 - 0) + 1) (Int32.ofNat 0) (Int32.ofNat 0) A17 hA17 (by omega) (by omega) (by omega) (by omega) (by omega)
theorem hX58q6 {d : Nat} {Bn Br : Int} {A0 A : hs_A} (hA : hJ 6 Bn Br A0 A)  (a2 : Int32) (p2 : 0 ≤ a2.toInt) (q2 : a2.toInt ≤ 2000) : hxC (d + 4) 58 hm_m58 [.ref 22, .ref 2, .int a2] A (fun r A' => hJ 6 Bn Br A0 A' ∧ r = none) := hxC.of (by rfl) (hY58q6 hA a2 p2 q2 (fun r A' h => h))
theorem hY12q7 {d : Nat} {Bn Br : Int} {A0 A : hs_A} (hA : hJ 7 Bn Br A0 A)  (a1 : Int32) (p1 : 0 ≤ a1.toInt) (q1 : a1.toInt ≤ 7) (a2 : Int32) (x0 : ¬ a1.toInt = 1 ∨ (0 ≤ a2.toInt ∧ a2.toInt ≤ 8)) {P : Option Value → hs_A → Prop} (hP : ∀ (r : Option Value) (A' : hs_A), (hJ 7 Bn Br A0 A' ∧ ∃ z : Int32, r = some (.int z)) → P r A') : hxa (d + 0) (some (.int)) hm_t12 0 [.ref 16, .int a1, .int a2] [] A P := by
  have L17 : ∀ (Ac17 : hs_A) (hAc17 : hJ 7 Bn Br A0 Ac17), hxa (d + 0) (some (.int)) hm_t12 17 [.ref 16, .int a1, .int a2] [] Ac17 P := by
    intro Ac17 hAc17
    refine hxa_aload_n (by rfl) rfl ?_
    refine hxj_getB (by rfl) (by rfl) (by rfl) hAc17 (by rfl) (fun z1 ez1 fz1 gz1 => ?_)
    refine hxa_sipush (by rfl) rfl ?_
    refine hxj_cge (by rfl) rfl hk_408 (fun q2 => ?_) (fun q2 => ?_)
    ·
      refine hxa_aload_n (by rfl) rfl ?_
      refine hxj_getK (by rfl) (by rfl) (by rfl) ez1 ?_
      refine hxa_iconst (by rfl) rfl ?_
      refine hxj_isub (by rfl) rfl hk_1 (by omega) (by omega) (fun z3 ez3 => ?_)
      exact hxa_ireturn (by rfl) rfl (hP _ _ ⟨hAc17, _, rfl⟩)
    ·
      refine hxa_aload_n (by rfl) rfl ?_
      refine hxa_get (v := .ref 17) (by rfl) (by rfl) (by rfl) rfl ?_
      refine hxa_aload_n (by rfl) rfl ?_
      refine hxj_getK (by rfl) (by rfl) (by rfl) ez1 ?_
      refine hxa_iload_n (by rfl) rfl ?_
      refine hxa_iconst (by rfl) rfl ?_
      refine hxa_ishl (by rfl) (hn_top (fun z4 ez4 => ?_))
      refine hxa_iload_n (by rfl) rfl ?_
      refine hxa_ior (by rfl) (hn_top (fun z5 ez5 => ?_))
      refine hxj_iastV7 (by rfl) rfl (by omega) (by omega) hAc17 (hVadd ez4 ez5 (by omega) (by omega) (by omega)) (fun A6 hA6 eA6 fA6 gA6 => ?_)
      refine hxa_aload_n (by rfl) rfl ?_
      refine hxa_dupR (by rfl) ?_
      refine hxj_getK (by rfl) (by rfl) (by rfl) (hkA eA6 ez1) ?_
      refine hxa_iconst (by rfl) rfl ?_
      refine hxj_iadd (by rfl) rfl hk_1 (by omega) (by omega) (fun z7 ez7 => ?_)
      refine hxj_putI (by rfl) (by rfl) (by rfl) (by rfl) hA6 (hbok (by rfl) rfl (by omega) (by omega)) (by rfl) (by rfl) (fun A8 hA8 eA8 fA8 => ?_)
      refine hxa_aload_n (by rfl) rfl ?_
      refine hxj_getK (by rfl) (by rfl) (by rfl) (hkS eA8) ?_
      refine hxa_iconst (by rfl) rfl ?_
      refine hxj_isub (by rfl) rfl hk_1 (by omega) (by omega) (fun z9 ez9 => ?_)
      exact hxa_ireturn (by rfl) rfl (hP _ _ ⟨hA8, _, rfl⟩)
  refine hxa_iload_n (by rfl) rfl ?_
  refine hxa_iconst (by rfl) rfl ?_
  refine hxj_cne (by rfl) rfl hk_1 (fun q10 => ?_) (fun q10 => ?_)
  ·
    exact L17 A hA
  ·
    refine hxa_aload_n (by rfl) rfl ?_
    refine hxa_dupR (by rfl) ?_
    refine hxj_getI (by rfl) (by rfl) (by rfl) (fun z11 ez11 => ?_)
    refine hxa_iconst (by rfl) rfl ?_
    refine hxa_iload_n (by rfl) rfl ?_
    refine hxj_ishlU (by rfl) (fun z12 => ?_)
    refine hxj_iorU (by rfl) (fun z13 => ?_)
    refine hxj_putI (by rfl) (by rfl) (by rfl) (by rfl) hA (hbokN (by rfl)) (by rfl) (by rfl) (fun A14 hA14 eA14 fA14 => ?_)
    exact L17 A14 hA14
theorem hX12q7 {d : Nat} {Bn Br : Int} {A0 A : hs_A} (hA : hJ 7 Bn Br A0 A)  (a1 : Int32) (p1 : 0 ≤ a1.toInt) (q1 : a1.toInt ≤ 7) (a2 : Int32) (x0 : ¬ a1.toInt = 1 ∨ (0 ≤ a2.toInt ∧ a2.toInt ≤ 8)) : hxC (d + 1) 12 hm_m12 [.ref 16, .int a1, .int a2] A (fun r A' => hJ 7 Bn Br A0 A' ∧ ∃ z : Int32, r = some (.int z)) := hxC.of (by rfl) (hY12q7 hA a1 p1 q1 a2 x0 (fun r A' h => h))
