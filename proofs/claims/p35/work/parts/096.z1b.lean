theorem hY10q7 {d : Nat} {Bn Br : Int} {A0 A : hs_A} (hA : hJ 7 Bn Br A0 A)  (a1 : Int32) (p1 : 0 ≤ a1.toInt) (q1 : a1.toInt ≤ 3) (a2 : Int32) {P : Option Value → hs_A → Prop} (hP : ∀ (r : Option Value) (A' : hs_A), (hJ 7 Bn Br A0 A' ∧ r = none) → P r A') : hxa (d + 0) none hm_t10 0 [.ref 16, .int a1, .int a2] [] A P := by
  refine hxa_aload_n (by rfl) rfl ?_
  refine hxa_get (v := .ref 18) (by rfl) (by rfl) (by rfl) rfl ?_
  refine hxa_iload_n (by rfl) rfl ?_
  refine hxa_iload_n (by rfl) rfl ?_
  refine hxj_iast (by rfl) (by rfl) rfl (by omega) (by omega) hA (hbokN (by rfl)) (by rfl) (by rfl) (fun A1 hA1 eA1 fA1 gA1 => ?_)
  refine hxa_aload_n (by rfl) rfl ?_
  refine hxa_get (v := .ref 19) (by rfl) (by rfl) (by rfl) rfl ?_
  refine hxa_iload_n (by rfl) rfl ?_
  refine hxa_aload_n (by rfl) rfl ?_
  refine hxj_getI (by rfl) (by rfl) (by rfl) (fun z2 ez2 => ?_)
  refine hxj_iast (by rfl) (by rfl) rfl (by omega) (by omega) hA1 (hbokN (by rfl)) (by rfl) (by rfl) (fun A3 hA3 eA3 fA3 gA3 => ?_)
  exact hxa_return (by rfl) rfl (hP _ _ ⟨hA3, rfl⟩)
theorem hX10q7 {d : Nat} {Bn Br : Int} {A0 A : hs_A} (hA : hJ 7 Bn Br A0 A)  (a1 : Int32) (p1 : 0 ≤ a1.toInt) (q1 : a1.toInt ≤ 3) (a2 : Int32) : hxC (d + 1) 10 hm_m10 [.ref 16, .int a1, .int a2] A (fun r A' => hJ 7 Bn Br A0 A' ∧ r = none) := hxC.of (by rfl) (hY10q7 hA a1 p1 q1 a2 (fun r A' h => h))
theorem hY8q7 {d : Nat} {Bn Br : Int} {A0 A : hs_A} (hA : hJ 7 Bn Br A0 A)   {P : Option Value → hs_A → Prop} (hP : ∀ (r : Option Value) (A' : hs_A), (hJ 7 Bn Br A0 A' ∧ r = none) → P r A') : hxa (d + 1) none hm_t8 0 [.ref 16, .retAddr 0, .retAddr 0] [] A P := by
  have k0 := hk_0
  have k1 := hk_1
  have k7 := hk_7
  have L7 : ∀ (m7 : Nat) (x7_1 : Int32) (x7_2 : Value) (Ac7 : hs_A) (hAc7 : hJ 7 Bn Br A0 Ac7) (bx7_1 : 0 ≤ x7_1.toInt) (cx7_1 : x7_1.toInt ≤ 4) (hm7 : 4 - x7_1.toInt < (m7 : Int)), hxa (d + 1) none hm_t8 7 [.ref 16, .int x7_1, x7_2] [] Ac7 P := by
    intro m7
    induction m7 with
    | zero => intro x7_1 x7_2 Ac7 hAc7 bx7_1 cx7_1 hm7;  exact False.elim (by omega)
    | succ m7 ih7 =>
      intro x7_1 x7_2 Ac7 hAc7 bx7_1 cx7_1 hm7
      have L33 : ∀ (x33_2 : Int32) (y33_1 : Int32) (y33_2 : Int32) (Ac33 : hs_A) (hAc33 : hJ 7 Bn Br A0 Ac33) (bx33_2 : 0 ≤ x33_2.toInt) (cx33_2 : x33_2.toInt ≤ 408) (by33_1 : 0 ≤ y33_1.toInt) (cy33_1 : y33_1.toInt ≤ 0) (by33_2 : 0 ≤ y33_2.toInt) (cy33_2 : y33_2.toInt ≤ 1) (cx7_1 : x7_1.toInt ≤ 3), hxa (d + 1) none hm_t8 33 [.ref 16, .int x7_1, .int x33_2] [.int y33_2, .int y33_1, .ref 16] Ac33 P := by
        intro x33_2 y33_1 y33_2 Ac33 hAc33 bx33_2 cx33_2 by33_1 cy33_1 by33_2 cy33_2 cx7_1
        refine hxa_call0 (by rfl) (by rfl) (by rfl) (by rfl) (by rfl) (by rfl) (hX12q7 (d := d + 0) hAc33 y33_1 (by omega) (by omega) y33_2 (by omega)) ?_
        rintro _ A1 ⟨hA1, z2, rfl⟩
        refine hxa_popI (by rfl) ?_
        refine hxa_aload_n (by rfl) rfl ?_
        refine hxa_bipush (by rfl) rfl ?_
        refine hxa_iconst (by rfl) rfl ?_
        refine hxa_call0 (by rfl) (by rfl) (by rfl) (by rfl) (by rfl) (by rfl) (hX12q7 (d := d + 0) hA1 (Int32.ofNat 7) (by omega) (by omega) (Int32.ofNat 0) (by omega)) ?_
        rintro _ A3 ⟨hA3, z4, rfl⟩
        refine hxa_popI (by rfl) ?_
        refine hxa_aload_n (by rfl) rfl ?_
        refine hxa_iload_n (by rfl) rfl ?_
        refine hxa_iload_n (by rfl) rfl ?_
        refine hxa_call0 (by rfl) (by rfl) (by rfl) (by rfl) (by rfl) (by rfl) (hX10q7 (d := d + 0) hA3 x7_1 (by omega) (by omega) x33_2) ?_
        rintro _ A5 ⟨hA5, rfl⟩
        refine hxj_iinc (by rfl) rfl rfl hk_1 (by omega) (by omega) (fun _ => rfl) (fun z6 ez6 => ?_)
        refine hxa_goto (by rfl) ?_
        exact ih7 z6 (.int x33_2) A5 hA5 (by omega) (by omega) (by omega)
      refine hxa_iload_n (by rfl) rfl ?_
      refine hxa_iconst (by rfl) rfl ?_
      refine hxj_cge (by rfl) rfl hk_4 (fun q7 => ?_) (fun q7 => ?_)
      ·
        exact hxa_return (by rfl) rfl (hP _ _ ⟨hAc7, rfl⟩)
      ·
        refine hxa_aload_n (by rfl) rfl ?_
        refine hxj_getB (by rfl) (by rfl) (by rfl) hAc7 (by rfl) (fun z8 ez8 fz8 gz8 => ?_)
        refine hxa_s1 (by rfl) (Or.inl ⟨_, rfl, rfl⟩) rfl ?_
        refine hxa_aload_n (by rfl) rfl ?_
        refine hxa_iconst (by rfl) rfl ?_
        refine hxj_putI (by rfl) (by rfl) (by rfl) (by rfl) hAc7 (hbokN (by rfl)) (by rfl) (by rfl) (fun A9 hA9 eA9 fA9 => ?_)
        refine hxa_aload_n (by rfl) rfl ?_
        refine hxa_iconst (by rfl) rfl ?_
        refine hxa_iload_n (by rfl) rfl ?_
        refine hxj_zne (by rfl) rfl (fun q10 => ?_) (fun q10 => ?_)
        ·
          refine hxa_iconst (by rfl) rfl ?_
          exact L33 z8 (Int32.ofNat 0) (Int32.ofNat 0) A9 hA9 (by omega) (by omega) (by omega) (by omega) (by omega) (by omega) (by omega)
        ·
          refine hxa_iconst (by rfl) rfl ?_
          refine hxa_goto (by rfl) ?_
          exact L33 z8 (Int32.ofNat 0) (Int32.ofNat 1) A9 hA9 (by omega) (by omega) (by omega) (by omega) (by omega) (by omega) (by omega)
  refine hxa_aload_n (by rfl) rfl ?_
  refine hxa_iconst (by rfl) rfl ?_
  refine hxj_putI (by rfl) (by rfl) (by rfl) (by rfl) hA (hbok (by rfl) hk_0 (by omega) (by omega)) (by rfl) (by rfl) (fun A11 hA11 eA11 fA11 => ?_)
  refine hxa_iconst (by rfl) rfl ?_
  refine hxa_s1 (by rfl) (Or.inl ⟨_, rfl, rfl⟩) rfl ?_
  exact L7 (Int.toNat (4 - 0) + 1) (Int32.ofNat 0) (.retAddr 0) A11 hA11 (by omega) (by omega) (by omega)
theorem hX8q7 {d : Nat} {Bn Br : Int} {A0 A : hs_A} (hA : hJ 7 Bn Br A0 A)   : hxC (d + 2) 8 hm_m8 [.ref 16] A (fun r A' => hJ 7 Bn Br A0 A' ∧ r = none) := hxC.of (by rfl) (hY8q7 hA  (fun r A' h => h))
theorem hY54q7 {d : Nat} {Bn Br : Int} {A0 A : hs_A} (hA : hJ 9 Bn Br A0 A)   {P : Option Value → hs_A → Prop} (hP : ∀ (r : Option Value) (A' : hs_A), (hJ 7 Bn Br A0 A' ∧ r = none) → P r A') : hxa (d + 2) none hm_t54 0 [.ref 12] [] A P := by
  refine hxa_aload_n (by rfl) rfl ?_
  refine hxa_get (v := .ref 15) (by rfl) (by rfl) (by rfl) rfl ?_
  refine hxa_iconst (by rfl) rfl ?_
  refine hxa_call2 (by rfl) (by decide) (by rfl) (by rfl) (by rfl) (hX246z (d := d + 1) hA (C := 14) (by rfl) (by omega) (hbokN (by rfl)) (by rfl) (by rfl)) ?_
  rintro _ A1 ⟨⟨gA1, zA1⟩, rfl⟩
  have hA1 := gA1.to7 (fun j hj => by rw [zA1 j hj]; decide)
  refine hxa_aload_n (by rfl) rfl ?_
  refine hxa_get (v := .ref 16) (by rfl) (by rfl) (by rfl) rfl ?_
  refine hxa_call0 (by rfl) (by rfl) (by rfl) (by rfl) (by rfl) (by rfl) (hX8q7 (d := d + 0) hA1 ) ?_
  rintro _ A2 ⟨hA2, rfl⟩
  refine hxa_aload_n (by rfl) rfl ?_
  refine hxa_iconst (by rfl) rfl ?_
  refine hxj_putI (by rfl) (by rfl) (by rfl) (by rfl) hA2 (hbok (by rfl) hk_0 (by omega) (by omega)) (by rfl) (by rfl) (fun A3 hA3 eA3 fA3 => ?_)
  refine hxa_aload_n (by rfl) rfl ?_
  refine hxa_iconst (by rfl) rfl ?_
  refine hxj_putI (by rfl) (by rfl) (by rfl) (by rfl) hA3 (hbokN (by rfl)) (by rfl) (by rfl) (fun A4 hA4 eA4 fA4 => ?_)
  refine hxa_aload_n (by rfl) rfl ?_
  refine hxa_bipush (by rfl) rfl ?_
  refine hxj_putI (by rfl) (by rfl) (by rfl) (by rfl) hA4 (hbokN (by rfl)) (by rfl) (by rfl) (fun A5 hA5 eA5 fA5 => ?_)
  refine hxa_aload_n (by rfl) rfl ?_
  refine hxa_iconst (by rfl) rfl ?_
  refine hxj_putI (by rfl) (by rfl) (by rfl) (by rfl) hA5 (hbokN (by rfl)) (by rfl) (by rfl) (fun A6 hA6 eA6 fA6 => ?_)
  exact hxa_return (by rfl) rfl (hP _ _ ⟨hA6, rfl⟩)
theorem hX54q7 {d : Nat} {Bn Br : Int} {A0 A : hs_A} (hA : hJ 9 Bn Br A0 A)   : hxC (d + 3) 54 hm_m54 [.ref 12] A (fun r A' => hJ 7 Bn Br A0 A' ∧ r = none) := hxC.of (by rfl) (hY54q7 hA  (fun r A' h => h))
theorem hY59q7 {d : Nat} {Bn Br : Int} {A0 A : hs_A} (hA : hJ 7 Bn Br A0 A)  (a2 : Int32) (p2 : 0 ≤ a2.toInt) (q2 : a2.toInt ≤ 2000) (a3 : Int32) (p3 : 0 ≤ a3.toInt) (q3 : a3.toInt ≤ 2000) {P : Option Value → hs_A → Prop} (hP : ∀ (r : Option Value) (A' : hs_A), (A = A' ∧ ∃ z : Int32, r = some (.int z) ∧ ((0 ≤ z.toInt ∧ z.toInt ≤ 2000))) → P r A') : hxa (d + 0) (some (.int)) hm_t59 0 [.ref 2, .int a2, .int a3, .retAddr 0, .retAddr 0] [] A P := by
  have L2 : ∀ (m2 : Nat) (x2_3 : Int32) (x2_4 : Value) (bx2_3 : 0 ≤ x2_3.toInt) (cx2_3 : x2_3.toInt ≤ 2000) (hm2 : 2000 - x2_3.toInt < (m2 : Int)), hxa (d + 0) (some (.int)) hm_t59 2 [.ref 2, .int a2, .int a3, .int x2_3, x2_4] [] A P := by
    intro m2
    induction m2 with
    | zero => intro x2_3 x2_4 bx2_3 cx2_3 hm2;  exact False.elim (by omega)
    | succ m2 ih2 =>
      intro x2_3 x2_4 bx2_3 cx2_3 hm2
      refine hxa_iload_n (by rfl) rfl ?_
      refine hxa_iload_n (by rfl) rfl ?_
      refine hxj_cge (by rfl) rfl rfl (fun q1 => ?_) (fun q1 => ?_)
      ·
        refine hxa_iload_n (by rfl) rfl ?_
        exact hxa_ireturn (by rfl) rfl (hP _ _ ⟨rfl, _, rfl, by omega⟩)
      ·
        refine hxa_aload_n (by rfl) rfl ?_
        refine hxa_iload_n (by rfl) rfl ?_
        refine hxj_bald (by rfl) (by rfl) rfl (by omega) (by omega) (fun z2 ez2 => ?_)
        refine hxa_s1 (by rfl) (Or.inr ⟨_, rfl, rfl⟩) rfl ?_
        refine hxa_iload (by rfl) rfl ?_
        refine hxa_bipush (by rfl) rfl ?_
        refine hxj_ceq (by rfl) rfl hk_9 (fun q3 => ?_) (fun q3 => ?_)
        ·
          refine hxj_iinc (by rfl) rfl rfl hk_1 (by omega) (by omega) (fun _ => rfl) (fun z4 ez4 => ?_)
          refine hxa_goto (by rfl) ?_
          exact ih2 z4 (.int z2) (by omega) (by omega) (by omega)
        ·
          refine hxa_iload (by rfl) rfl ?_
          refine hxa_bipush (by rfl) rfl ?_
          refine hxj_ceq (by rfl) rfl hk_10 (fun q5 => ?_) (fun q5 => ?_)
          ·
            refine hxj_iinc (by rfl) rfl rfl hk_1 (by omega) (by omega) (fun _ => rfl) (fun z6 ez6 => ?_)
            refine hxa_goto (by rfl) ?_
            exact ih2 z6 (.int z2) (by omega) (by omega) (by omega)
          ·
            refine hxa_iload (by rfl) rfl ?_
            refine hxa_bipush (by rfl) rfl ?_
            refine hxj_ceq (by rfl) rfl hk_13 (fun q7 => ?_) (fun q7 => ?_)
            ·
              refine hxj_iinc (by rfl) rfl rfl hk_1 (by omega) (by omega) (fun _ => rfl) (fun z8 ez8 => ?_)
              refine hxa_goto (by rfl) ?_
              exact ih2 z8 (.int z2) (by omega) (by omega) (by omega)
            ·
              refine hxa_iload (by rfl) rfl ?_
              refine hxa_bipush (by rfl) rfl ?_
              refine hxj_ceq (by rfl) rfl hk_32 (fun q9 => ?_) (fun q9 => ?_)
              ·
                refine hxj_iinc (by rfl) rfl rfl hk_1 (by omega) (by omega) (fun _ => rfl) (fun z10 ez10 => ?_)
                refine hxa_goto (by rfl) ?_
                exact ih2 z10 (.int z2) (by omega) (by omega) (by omega)
              ·
                refine hxa_iload_n (by rfl) rfl ?_
                exact hxa_ireturn (by rfl) rfl (hP _ _ ⟨rfl, _, rfl, by omega⟩)
  refine hxa_iload_n (by rfl) rfl ?_
  refine hxa_s1 (by rfl) (Or.inl ⟨_, rfl, rfl⟩) rfl ?_
  exact L2 (Int.toNat (2000 - a2.toInt) + 1) a2 (.retAddr 0) (by omega) (by omega) (by omega)
theorem hX59q7 {d : Nat} {Bn Br : Int} {A0 A : hs_A} (hA : hJ 7 Bn Br A0 A)  (a2 : Int32) (p2 : 0 ≤ a2.toInt) (q2 : a2.toInt ≤ 2000) (a3 : Int32) (p3 : 0 ≤ a3.toInt) (q3 : a3.toInt ≤ 2000) : hxC (d + 1) 59 hm_m59 [.ref 2, .int a2, .int a3] A (fun r A' => A = A' ∧ ∃ z : Int32, r = some (.int z) ∧ ((0 ≤ z.toInt ∧ z.toInt ≤ 2000))) := hxC.of (by rfl) (hY59q7 hA a2 p2 q2 a3 p3 q3 (fun r A' h => h))
theorem hY62q7 {d : Nat} {Bn Br : Int} {A0 A : hs_A} (hA : hJ 7 Bn Br A0 A)  (a2 : Int32) (p2 : 0 ≤ a2.toInt) (q2 : a2.toInt ≤ 2000) (a3 : Int32) (p3 : 0 ≤ a3.toInt) (q3 : a3.toInt ≤ 2000) {P : Option Value → hs_A → Prop} (hP : ∀ (r : Option Value) (A' : hs_A), (A = A' ∧ ∃ z : Int32, r = some (.int z)) → P r A') : hxa (d + 0) (some (.int)) hm_t62 0 [.ref 2, .int a2, .int a3, .retAddr 0, .retAddr 0, .retAddr 0, .retAddr 0, .retAddr 0] [] A P := by
  have k0 := hk_0
  have k1 := hk_1
  have k4294967295 := hk_4294967295
  have L11 : ∀ (m11 : Nat) (x11_3 : Int32) (x11_4 : Int32) (x11_5 : Int32) (x11_6 : Int32) (x11_7 : Value) (bx11_4 : 0 ≤ x11_4.toInt) (cx11_4 : x11_4.toInt ≤ 2102) (bx11_5 : 0 ≤ x11_5.toInt) (cx11_5 : x11_5.toInt ≤ 1) (bx11_6 : 0 ≤ x11_6.toInt) (cx11_6 : x11_6.toInt ≤ 255) (u11_0 : x11_4.toInt ≤ 2000 + x11_6.toInt) (hm11 : 255 - x11_6.toInt < (m11 : Int)), hxa (d + 0) (some (.int)) hm_t62 11 [.ref 2, .int a2, .int a3, .int x11_3, .int x11_4, .int x11_5, .int x11_6, x11_7] [] A P := by
    intro m11
    induction m11 with
    | zero => intro x11_3 x11_4 x11_5 x11_6 x11_7 bx11_4 cx11_4 bx11_5 cx11_5 bx11_6 cx11_6 u11_0 hm11; have := hn_rng x11_3; exact False.elim (by omega)
    | succ m11 ih11 =>
      intro x11_3 x11_4 x11_5 x11_6 x11_7 bx11_4 cx11_4 bx11_5 cx11_5 bx11_6 cx11_6 u11_0 hm11
      refine hxa_iload (by rfl) rfl ?_
      refine hxa_ldcS (k := 1) (by rfl) rfl ?_
      refine hxj_strLen (by rfl) (by rfl) (fun z1 ez1 => ?_)
      refine hxj_cge (by rfl) rfl rfl (fun q2 => ?_) (fun q2 => ?_)
      ·
        refine hxa_iconst (by rfl) rfl ?_
        exact hxa_ireturn (by rfl) rfl (hP _ _ ⟨rfl, _, rfl⟩)
      ·
        refine hxa_ldcS (k := 1) (by rfl) rfl ?_
        refine hxa_iload (by rfl) rfl ?_
        refine hxj_strChar (by rfl) (by rfl) rfl (by omega) (by omega) (fun z3 => ?_)
        refine hxa_s1 (by rfl) (Or.inr ⟨_, rfl, rfl⟩) rfl ?_
        refine hxa_iload (by rfl) rfl ?_
        refine hxa_bipush (by rfl) rfl ?_
        refine hxj_ceq (by rfl) rfl hk_32 (fun q4 => ?_) (fun q4 => ?_)
        ·
          refine hxa_iload (by rfl) rfl ?_
          refine hxj_zeq (by rfl) rfl (fun q5 => ?_) (fun q5 => ?_)
          ·
            refine hxj_iincU (by rfl) rfl (fun _ => rfl) (fun z6 => ?_)
            refine hxa_iload_n (by rfl) rfl ?_
            refine hxa_s1 (by rfl) (Or.inr ⟨_, rfl, rfl⟩) rfl ?_
            refine hxa_iconst (by rfl) rfl ?_
            refine hxa_s1 (by rfl) (Or.inr ⟨_, rfl, rfl⟩) rfl ?_
            refine hxj_iinc (by rfl) rfl rfl hk_1 (by omega) (by omega) (fun _ => rfl) (fun z7 ez7 => ?_)
            refine hxa_goto (by rfl) ?_
            exact ih11 z6 a2 (Int32.ofNat 1) z7 (.int z3) (by omega) (by omega) (by omega) (by omega) (by omega) (by omega) (by omega) (by omega)
          ·
            refine hxa_iload (by rfl) rfl ?_
            refine hxa_iload_n (by rfl) rfl ?_
            refine hxj_cne (by rfl) rfl rfl (fun q8 => ?_) (fun q8 => ?_)
            ·
              refine hxj_iincU (by rfl) rfl (fun _ => rfl) (fun z9 => ?_)
              refine hxa_iload_n (by rfl) rfl ?_
              refine hxa_s1 (by rfl) (Or.inr ⟨_, rfl, rfl⟩) rfl ?_
              refine hxa_iconst (by rfl) rfl ?_
              refine hxa_s1 (by rfl) (Or.inr ⟨_, rfl, rfl⟩) rfl ?_
              refine hxj_iinc (by rfl) rfl rfl hk_1 (by omega) (by omega) (fun _ => rfl) (fun z10 ez10 => ?_)
              refine hxa_goto (by rfl) ?_
              exact ih11 z9 a2 (Int32.ofNat 1) z10 (.int z3) (by omega) (by omega) (by omega) (by omega) (by omega) (by omega) (by omega) (by omega)
            ·
              refine hxa_iload_n (by rfl) rfl ?_
              exact hxa_ireturn (by rfl) rfl (hP _ _ ⟨rfl, _, rfl⟩)
        ·
          refine hxa_iload (by rfl) rfl ?_
          refine hxj_zeq (by rfl) rfl (fun q11 => ?_) (fun q11 => ?_)
          ·
            refine hxa_iconst (by rfl) rfl ?_
            refine hxa_s1 (by rfl) (Or.inr ⟨_, rfl, rfl⟩) rfl ?_
            refine hxj_iinc (by rfl) rfl rfl hk_1 (by omega) (by omega) (fun _ => rfl) (fun z12 ez12 => ?_)
            refine hxa_goto (by rfl) ?_
            refine hxj_iinc (by rfl) rfl rfl hk_1 (by omega) (by omega) (fun _ => rfl) (fun z13 ez13 => ?_)
            refine hxa_goto (by rfl) ?_
            exact ih11 x11_3 z12 (Int32.ofNat 0) z13 (.int z3) (by omega) (by omega) (by omega) (by omega) (by omega) (by omega) (by omega) (by omega)
          ·
            refine hxa_iload (by rfl) rfl ?_
            refine hxa_iload_n (by rfl) rfl ?_
            refine hxj_cge (by rfl) rfl rfl (fun q14 => ?_) (fun q14 => ?_)
            ·
              refine hxa_iconst (by rfl) rfl ?_
              refine hxa_s1 (by rfl) (Or.inr ⟨_, rfl, rfl⟩) rfl ?_
              refine hxj_iinc (by rfl) rfl rfl hk_1 (by omega) (by omega) (fun _ => rfl) (fun z15 ez15 => ?_)
              refine hxa_goto (by rfl) ?_
              refine hxj_iinc (by rfl) rfl rfl hk_1 (by omega) (by omega) (fun _ => rfl) (fun z16 ez16 => ?_)
              refine hxa_goto (by rfl) ?_
              exact ih11 x11_3 z15 (Int32.ofNat 0) z16 (.int z3) (by omega) (by omega) (by omega) (by omega) (by omega) (by omega) (by omega) (by omega)
            ·
              refine hxa_aload_n (by rfl) rfl ?_
              refine hxa_iload (by rfl) rfl ?_
              refine hxj_bald (by rfl) (by rfl) rfl (by omega) (by omega) (fun z17 ez17 => ?_)
              refine hxa_iload (by rfl) rfl ?_
              refine hxj_cne (by rfl) rfl rfl (fun q18 => ?_) (fun q18 => ?_)
              ·
                refine hxa_iconst (by rfl) rfl ?_
                refine hxa_s1 (by rfl) (Or.inr ⟨_, rfl, rfl⟩) rfl ?_
                refine hxj_iinc (by rfl) rfl rfl hk_1 (by omega) (by omega) (fun _ => rfl) (fun z19 ez19 => ?_)
                refine hxa_goto (by rfl) ?_
                refine hxj_iinc (by rfl) rfl rfl hk_1 (by omega) (by omega) (fun _ => rfl) (fun z20 ez20 => ?_)
                refine hxa_goto (by rfl) ?_
                exact ih11 x11_3 z19 (Int32.ofNat 0) z20 (.int z3) (by omega) (by omega) (by omega) (by omega) (by omega) (by omega) (by omega) (by omega)
              ·
                refine hxa_iconst (by rfl) rfl ?_
                refine hxa_goto (by rfl) ?_
                refine hxa_s1 (by rfl) (Or.inr ⟨_, rfl, rfl⟩) rfl ?_
                refine hxj_iinc (by rfl) rfl rfl hk_1 (by omega) (by omega) (fun _ => rfl) (fun z21 ez21 => ?_)
                refine hxa_goto (by rfl) ?_
                refine hxj_iinc (by rfl) rfl rfl hk_1 (by omega) (by omega) (fun _ => rfl) (fun z22 ez22 => ?_)
                refine hxa_goto (by rfl) ?_
                exact ih11 x11_3 z21 (Int32.ofNat 1) z22 (.int z3) (by omega) (by omega) (by omega) (by omega) (by omega) (by omega) (by omega) (by omega)
  refine hxa_iconst (by rfl) rfl ?_
  refine hxa_s1 (by rfl) (Or.inl ⟨_, rfl, rfl⟩) rfl ?_
  refine hxa_iload_n (by rfl) rfl ?_
  refine hxa_s1 (by rfl) (Or.inr ⟨_, rfl, rfl⟩) rfl ?_
  refine hxa_iconst (by rfl) rfl ?_
  refine hxa_s1 (by rfl) (Or.inr ⟨_, rfl, rfl⟩) rfl ?_
  refine hxa_iconst (by rfl) rfl ?_
  refine hxa_s1 (by rfl) (Or.inr ⟨_, rfl, rfl⟩) rfl ?_
  exact L11 (Int.toNat (255 - 0) + 1) (Int32.ofNat 0) a2 (Int32.ofNat 1) (Int32.ofNat 0) (.retAddr 0) (by omega) (by omega) (by omega) (by omega) (by omega) (by omega) (by omega) (by omega)
theorem hX62q7 {d : Nat} {Bn Br : Int} {A0 A : hs_A} (hA : hJ 7 Bn Br A0 A)  (a2 : Int32) (p2 : 0 ≤ a2.toInt) (q2 : a2.toInt ≤ 2000) (a3 : Int32) (p3 : 0 ≤ a3.toInt) (q3 : a3.toInt ≤ 2000) : hxC (d + 1) 62 hm_m62 [.ref 2, .int a2, .int a3] A (fun r A' => A = A' ∧ ∃ z : Int32, r = some (.int z)) := hxC.of (by rfl) (hY62q7 hA a2 p2 q2 a3 p3 q3 (fun r A' h => h))
theorem hY63q7 {d : Nat} {Bn Br : Int} {A0 A : hs_A} (hA : hJ 7 Bn Br A0 A)  (a2 : Int32) (p2 : 0 ≤ a2.toInt) (q2 : a2.toInt ≤ 1999) (a3 : Int32) (p3 : 0 ≤ a3.toInt) (q3 : a3.toInt ≤ 2000) (fl0 : 0 ≤ (A.1 21 3).toInt) (fh0 : (A.1 21 3).toInt ≤ 400) {P : Option Value → hs_A → Prop} (hP : ∀ (r : Option Value) (A' : hs_A), (hJ 7 Bn Br A0 A' ∧ A'.1 21 3 = A.1 21 3 ∧ ∃ z : Int32, r = some (.int z) ∧ ((0 ≤ z.toInt ∧ z.toInt ≤ 2000))) → P r A') : hxa (d + 0) (some (.int)) hm_t63 0 [.ref 22, .ref 2, .int a2, .int a3, .retAddr 0] [] A P := by
  have L65 : ∀ (x65_4 : Int32) (Ac65 : hs_A) (hAc65 : hJ 7 Bn Br A0 Ac65) (ek65_0 : Ac65.1 21 3 = (A.1 21 3)) (bx65_4 : 0 ≤ x65_4.toInt) (cx65_4 : x65_4.toInt ≤ 2000), hxa (d + 0) (some (.int)) hm_t63 65 [.ref 22, .ref 2, .int a2, .int a3, .int x65_4] [] Ac65 P := by
    intro x65_4 Ac65 hAc65 ek65_0 bx65_4 cx65_4
    refine hxa_aload_n (by rfl) rfl ?_
    refine hxa_get (v := .ref 23) (by rfl) (by rfl) (by rfl) rfl ?_
    refine hxa_aload_n (by rfl) rfl ?_
    refine hxj_getK (by rfl) (by rfl) (by rfl) ek65_0 ?_
    refine hxa_iload (by rfl) rfl ?_
    refine hxa_iload_n (by rfl) rfl ?_
    refine hxj_isub (by rfl) rfl rfl (by omega) (by omega) (fun z1 ez1 => ?_)
    refine hxa_iconst (by rfl) rfl ?_
    refine hxj_cle (by rfl) rfl hk_4 (fun q2 => ?_) (fun q2 => ?_)
    ·
      refine hxa_bipush (by rfl) rfl ?_
      refine hxj_iast (by rfl) (by rfl) rfl (by omega) (by omega) hAc65 (hbokN (by rfl)) (by rfl) (by rfl) (fun A3 hA3 eA3 fA3 gA3 => ?_)
      refine hxa_iload (by rfl) rfl ?_
      exact hxa_ireturn (by rfl) rfl (hP _ _ ⟨hA3, (hkA eA3 ek65_0), _, rfl, by omega⟩)
    ·
      refine hxa_bipush (by rfl) rfl ?_
      refine hxa_goto (by rfl) ?_
      refine hxj_iast (by rfl) (by rfl) rfl (by omega) (by omega) hAc65 (hbokN (by rfl)) (by rfl) (by rfl) (fun A4 hA4 eA4 fA4 gA4 => ?_)
      refine hxa_iload (by rfl) rfl ?_
      exact hxa_ireturn (by rfl) rfl (hP _ _ ⟨hA4, (hkA eA4 ek65_0), _, rfl, by omega⟩)
  have L3 : ∀ (m3 : Nat) (x3_4 : Int32) (Ac3 : hs_A) (hAc3 : hJ 7 Bn Br A0 Ac3) (ek3_0 : Ac3.1 21 3 = (A.1 21 3)) (bx3_4 : 0 ≤ x3_4.toInt) (cx3_4 : x3_4.toInt ≤ 2000) (hm3 : 2000 - x3_4.toInt < (m3 : Int)), hxa (d + 0) (some (.int)) hm_t63 3 [.ref 22, .ref 2, .int a2, .int a3, .int x3_4] [] Ac3 P := by
    intro m3
    induction m3 with
    | zero => intro x3_4 Ac3 hAc3 ek3_0 bx3_4 cx3_4 hm3;  exact False.elim (by omega)
    | succ m3 ih3 =>
      intro x3_4 Ac3 hAc3 ek3_0 bx3_4 cx3_4 hm3
      refine hxa_iload (by rfl) rfl ?_
      refine hxa_iload_n (by rfl) rfl ?_
      refine hxj_cge (by rfl) rfl rfl (fun q5 => ?_) (fun q5 => ?_)
      ·
        exact L65 x3_4 Ac3 hAc3 ek3_0 (by omega) (by omega)
      ·
        refine hxa_aload_n (by rfl) rfl ?_
        refine hxa_iload (by rfl) rfl ?_
        refine hxj_bald (by rfl) (by rfl) rfl (by omega) (by omega) (fun z6 ez6 => ?_)
        refine hxa_bipush (by rfl) rfl ?_
        refine hxj_clt (by rfl) rfl hk_48 (fun q7 => ?_) (fun q7 => ?_)
        ·
          exact L65 x3_4 Ac3 hAc3 ek3_0 (by omega) (by omega)
        ·
          refine hxa_aload_n (by rfl) rfl ?_
          refine hxa_iload (by rfl) rfl ?_
          refine hxj_bald (by rfl) (by rfl) rfl (by omega) (by omega) (fun z8 ez8 => ?_)
          refine hxa_bipush (by rfl) rfl ?_
          refine hxj_cgt (by rfl) rfl hk_57 (fun q9 => ?_) (fun q9 => ?_)
          ·
            exact L65 x3_4 Ac3 hAc3 ek3_0 (by omega) (by omega)
          ·
            refine hxa_aload_n (by rfl) rfl ?_
            refine hxa_get (v := .ref 24) (by rfl) (by rfl) (by rfl) rfl ?_
            refine hxa_aload_n (by rfl) rfl ?_
            refine hxj_getK (by rfl) (by rfl) (by rfl) ek3_0 ?_
            refine hxa_aload_n (by rfl) rfl ?_
            refine hxa_get (v := .ref 24) (by rfl) (by rfl) (by rfl) rfl ?_
            refine hxa_aload_n (by rfl) rfl ?_
            refine hxj_getK (by rfl) (by rfl) (by rfl) ek3_0 ?_
            refine hxj_lald (by rfl) (by rfl) rfl (by omega) (by omega) (fun j10 ej10 => ?_)
            refine hxa_ldc2_w (by rfl) rfl ?_
            refine hxa_lmul (by rfl) ?_
            refine hxa_aload_n (by rfl) rfl ?_
            refine hxa_iload (by rfl) rfl ?_
            refine hxj_bald (by rfl) (by rfl) rfl (by omega) (by omega) (fun z11 ez11 => ?_)
            refine hxa_i2l (by rfl) ?_
            refine hxa_ladd (by rfl) ?_
            refine hxa_ldc2_w (by rfl) rfl ?_
            refine hxa_lsub (by rfl) ?_
            refine hxj_last (by rfl) (by rfl) rfl (by omega) (by omega) hAc3 (by omega) (fun A12 hA12 eA12 fA12 => ?_)
            refine hxj_iinc (by rfl) rfl rfl hk_1 (by omega) (by omega) (fun _ => rfl) (fun z13 ez13 => ?_)
            refine hxa_goto (by rfl) ?_
            exact ih3 z13 A12 hA12 (hkA eA12 ek3_0) (by omega) (by omega) (by omega)
  refine hxa_iload_n (by rfl) rfl ?_
  refine hxa_s1 (by rfl) (Or.inr ⟨_, rfl, rfl⟩) rfl ?_
  exact L3 (Int.toNat (2000 - a2.toInt) + 1) a2 A hA rfl (by omega) (by omega) (by omega)
theorem hX63q7 {d : Nat} {Bn Br : Int} {A0 A : hs_A} (hA : hJ 7 Bn Br A0 A)  (a2 : Int32) (p2 : 0 ≤ a2.toInt) (q2 : a2.toInt ≤ 1999) (a3 : Int32) (p3 : 0 ≤ a3.toInt) (q3 : a3.toInt ≤ 2000) (fl0 : 0 ≤ (A.1 21 3).toInt) (fh0 : (A.1 21 3).toInt ≤ 400) : hxC (d + 1) 63 hm_m63 [.ref 22, .ref 2, .int a2, .int a3] A (fun r A' => hJ 7 Bn Br A0 A' ∧ A'.1 21 3 = A.1 21 3 ∧ ∃ z : Int32, r = some (.int z) ∧ ((0 ≤ z.toInt ∧ z.toInt ≤ 2000))) := hxC.of (by rfl) (hY63q7 hA a2 p2 q2 a3 p3 q3 fl0 fh0 (fun r A' h => h))
theorem hY61q7 {d : Nat} {Bn Br : Int} {A0 A : hs_A} (hA : hJ 7 Bn Br A0 A)  (a2 : Int32) (p2 : 0 ≤ a2.toInt) (q2 : a2.toInt ≤ 1999) (a3 : Int32) (p3 : 0 ≤ a3.toInt) (q3 : a3.toInt ≤ 2000) (fl0 : 0 ≤ (A.1 21 3).toInt) (fh0 : (A.1 21 3).toInt ≤ 400) {P : Option Value → hs_A → Prop} (hP : ∀ (r : Option Value) (A' : hs_A), (hJ 7 Bn Br A0 A' ∧ A'.1 21 3 = A.1 21 3 ∧ ∃ z : Int32, r = some (.int z) ∧ ((0 ≤ z.toInt ∧ z.toInt ≤ 2000))) → P r A') : hxa (d + 1) (some (.int)) hm_t61 0 [.ref 22, .ref 2, .int a2, .int a3, .retAddr 0, .retAddr 0] [] A P := by
  have L64 : ∀ (x64_4 : Int32) (Ac64 : hs_A) (hAc64 : hJ 7 Bn Br A0 Ac64) (ek64_0 : Ac64.1 21 3 = (A.1 21 3)) (bx64_4 : 0 ≤ x64_4.toInt) (cx64_4 : x64_4.toInt ≤ 2000), hxa (d + 1) (some (.int)) hm_t61 64 [.ref 22, .ref 2, .int a2, .int a3, .int x64_4, .retAddr 0] [] Ac64 P := by
    intro x64_4 Ac64 hAc64 ek64_0 bx64_4 cx64_4
    refine hxa_iload (by rfl) rfl ?_
    refine hxa_iload_n (by rfl) rfl ?_
    refine hxj_isub (by rfl) rfl rfl (by omega) (by omega) (fun z1 ez1 => ?_)
    refine hxa_bipush (by rfl) rfl ?_
    refine hxj_cle (by rfl) rfl hk_8 (fun q2 => ?_) (fun q2 => ?_)
    ·
      refine hxa_aload_n (by rfl) rfl ?_
      refine hxa_iload_n (by rfl) rfl ?_
      refine hxa_iload (by rfl) rfl ?_
      refine hxa_call2 (by rfl) (by decide) (by rfl) (by rfl) (by rfl) (hX62q7 (d := d + 0) hAc64 a2 (by omega) (by omega) x64_4 (by omega) (by omega)) ?_
      rintro _ _ ⟨rfl, z3, rfl⟩
      refine hxa_s1 (by rfl) (Or.inr ⟨_, rfl, rfl⟩) rfl ?_
      refine hxa_aload_n (by rfl) rfl ?_
      refine hxa_get (v := .ref 23) (by rfl) (by rfl) (by rfl) rfl ?_
      refine hxa_aload_n (by rfl) rfl ?_
      refine hxj_getK (by rfl) (by rfl) (by rfl) ek64_0 ?_
      refine hxa_iload (by rfl) rfl ?_
      refine hxa_iconst (by rfl) rfl ?_
      refine hxj_cne (by rfl) rfl hk_4294967295 (fun q4 => ?_) (fun q4 => ?_)
      ·
        refine hxa_iload (by rfl) rfl ?_
        refine hxj_iast (by rfl) (by rfl) rfl (by omega) (by omega) hAc64 (hbokN (by rfl)) (by rfl) (by rfl) (fun A5 hA5 eA5 fA5 gA5 => ?_)
        refine hxa_iload (by rfl) rfl ?_
        exact hxa_ireturn (by rfl) rfl (hP _ _ ⟨hA5, (hkA eA5 ek64_0), _, rfl, by omega⟩)
      ·
        refine hxa_bipush (by rfl) rfl ?_
        refine hxa_goto (by rfl) ?_
        refine hxj_iast (by rfl) (by rfl) rfl (by omega) (by omega) hAc64 (hbokN (by rfl)) (by rfl) (by rfl) (fun A6 hA6 eA6 fA6 gA6 => ?_)
        refine hxa_iload (by rfl) rfl ?_
        exact hxa_ireturn (by rfl) rfl (hP _ _ ⟨hA6, (hkA eA6 ek64_0), _, rfl, by omega⟩)
    ·
      refine hxa_aload_n (by rfl) rfl ?_
      refine hxa_get (v := .ref 23) (by rfl) (by rfl) (by rfl) rfl ?_
      refine hxa_aload_n (by rfl) rfl ?_
      refine hxj_getK (by rfl) (by rfl) (by rfl) ek64_0 ?_
      refine hxa_bipush (by rfl) rfl ?_
      refine hxj_iast (by rfl) (by rfl) rfl (by omega) (by omega) hAc64 (hbokN (by rfl)) (by rfl) (by rfl) (fun A7 hA7 eA7 fA7 gA7 => ?_)
      refine hxa_goto (by rfl) ?_
      refine hxa_iload (by rfl) rfl ?_
      exact hxa_ireturn (by rfl) rfl (hP _ _ ⟨hA7, (hkA eA7 ek64_0), _, rfl, by omega⟩)
  have L3 : ∀ (m3 : Nat) (x3_4 : Int32) (Ac3 : hs_A) (hAc3 : hJ 7 Bn Br A0 Ac3) (ek3_0 : Ac3.1 21 3 = (A.1 21 3)) (bx3_4 : 0 ≤ x3_4.toInt) (cx3_4 : x3_4.toInt ≤ 2000) (hm3 : 2000 - x3_4.toInt < (m3 : Int)), hxa (d + 1) (some (.int)) hm_t61 3 [.ref 22, .ref 2, .int a2, .int a3, .int x3_4, .retAddr 0] [] Ac3 P := by
    intro m3
    induction m3 with
    | zero => intro x3_4 Ac3 hAc3 ek3_0 bx3_4 cx3_4 hm3;  exact False.elim (by omega)
    | succ m3 ih3 =>
      intro x3_4 Ac3 hAc3 ek3_0 bx3_4 cx3_4 hm3
      refine hxa_iload (by rfl) rfl ?_
      refine hxa_iload_n (by rfl) rfl ?_
      refine hxj_cge (by rfl) rfl rfl (fun q8 => ?_) (fun q8 => ?_)
      ·
        exact L64 x3_4 Ac3 hAc3 ek3_0 (by omega) (by omega)
      ·
        refine hxa_aload_n (by rfl) rfl ?_
        refine hxa_iload (by rfl) rfl ?_
        refine hxj_bald (by rfl) (by rfl) rfl (by omega) (by omega) (fun z9 ez9 => ?_)
        refine hxa_bipush (by rfl) rfl ?_
        refine hxj_clt (by rfl) rfl hk_97 (fun q10 => ?_) (fun q10 => ?_)
        ·
          exact L64 x3_4 Ac3 hAc3 ek3_0 (by omega) (by omega)
        ·
          refine hxa_aload_n (by rfl) rfl ?_
          refine hxa_iload (by rfl) rfl ?_
          refine hxj_bald (by rfl) (by rfl) rfl (by omega) (by omega) (fun z11 ez11 => ?_)
          refine hxa_bipush (by rfl) rfl ?_
          refine hxj_cgt (by rfl) rfl hk_122 (fun q12 => ?_) (fun q12 => ?_)
          ·
            exact L64 x3_4 Ac3 hAc3 ek3_0 (by omega) (by omega)
          ·
            refine hxa_aload_n (by rfl) rfl ?_
            refine hxa_get (v := .ref 24) (by rfl) (by rfl) (by rfl) rfl ?_
            refine hxa_aload_n (by rfl) rfl ?_
            refine hxj_getK (by rfl) (by rfl) (by rfl) ek3_0 ?_
            refine hxa_aload_n (by rfl) rfl ?_
            refine hxa_get (v := .ref 24) (by rfl) (by rfl) (by rfl) rfl ?_
            refine hxa_aload_n (by rfl) rfl ?_
            refine hxj_getK (by rfl) (by rfl) (by rfl) ek3_0 ?_
            refine hxj_lald (by rfl) (by rfl) rfl (by omega) (by omega) (fun j13 ej13 => ?_)
            refine hxa_iconst (by rfl) rfl ?_
            refine hxa_lshl (by rfl) ?_
            refine hxa_aload_n (by rfl) rfl ?_
            refine hxa_iload (by rfl) rfl ?_
            refine hxj_bald (by rfl) (by rfl) rfl (by omega) (by omega) (fun z14 ez14 => ?_)
            refine hxa_bipush (by rfl) rfl ?_
            refine hxj_isubU (by rfl) (fun z15 => ?_)
            refine hxa_iconst (by rfl) rfl ?_
            refine hxj_iaddU (by rfl) (fun z16 => ?_)
            refine hxa_i2l (by rfl) ?_
            refine hxa_lor (by rfl) ?_
            refine hxj_last (by rfl) (by rfl) rfl (by omega) (by omega) hAc3 (by omega) (fun A17 hA17 eA17 fA17 => ?_)
            refine hxj_iinc (by rfl) rfl rfl hk_1 (by omega) (by omega) (fun _ => rfl) (fun z18 ez18 => ?_)
            refine hxa_goto (by rfl) ?_
            exact ih3 z18 A17 hA17 (hkA eA17 ek3_0) (by omega) (by omega) (by omega)
  refine hxa_iload_n (by rfl) rfl ?_
  refine hxa_s1 (by rfl) (Or.inr ⟨_, rfl, rfl⟩) rfl ?_
  exact L3 (Int.toNat (2000 - a2.toInt) + 1) a2 A hA rfl (by omega) (by omega) (by omega)
theorem hX61q7 {d : Nat} {Bn Br : Int} {A0 A : hs_A} (hA : hJ 7 Bn Br A0 A)  (a2 : Int32) (p2 : 0 ≤ a2.toInt) (q2 : a2.toInt ≤ 1999) (a3 : Int32) (p3 : 0 ≤ a3.toInt) (q3 : a3.toInt ≤ 2000) (fl0 : 0 ≤ (A.1 21 3).toInt) (fh0 : (A.1 21 3).toInt ≤ 400) : hxC (d + 2) 61 hm_m61 [.ref 22, .ref 2, .int a2, .int a3] A (fun r A' => hJ 7 Bn Br A0 A' ∧ A'.1 21 3 = A.1 21 3 ∧ ∃ z : Int32, r = some (.int z) ∧ ((0 ≤ z.toInt ∧ z.toInt ≤ 2000))) := hxC.of (by rfl) (hY61q7 hA a2 p2 q2 a3 p3 q3 fl0 fh0 (fun r A' h => h))
theorem hY60q7 {d : Nat} {Bn Br : Int} {A0 A : hs_A} (hA : hJ 7 Bn Br A0 A)  (a2 : Int32) (p2 : 0 ≤ a2.toInt) (q2 : a2.toInt ≤ 2000) (a3 : Int32) (p3 : 0 ≤ a3.toInt) (q3 : a3.toInt ≤ 2000) (fl0 : 0 ≤ (A.1 21 3).toInt) (fh0 : (A.1 21 3).toInt ≤ 400) {P : Option Value → hs_A → Prop} (hP : ∀ (r : Option Value) (A' : hs_A), (hJ 7 Bn Br A0 A' ∧ A'.1 21 3 = A.1 21 3 ∧ ∃ z : Int32, r = some (.int z) ∧ ((0 ≤ z.toInt ∧ z.toInt ≤ 2000))) → P r A') : hxa (d + 2) (some (.int)) hm_t60 0 [.ref 22, .ref 2, .int a2, .int a3, .retAddr 0] [] A P := by
  have k4294967295 := hk_4294967295
  have L95 : ∀ (y95_0 : Int32) (Ac95 : hs_A) (hAc95 : hJ 7 Bn Br A0 Ac95) (ek95_0 : Ac95.1 21 3 = (A.1 21 3)) (by95_0 : -1 ≤ y95_0.toInt) (cy95_0 : y95_0.toInt ≤ 8) (ca2 : a2.toInt ≤ 1999) (ba3 : 1 ≤ a3.toInt), hxa (d + 2) (some (.int)) hm_t60 95 [.ref 22, .ref 2, .int a2, .int a3, .retAddr 0] [.int y95_0] Ac95 P := by
    intro y95_0 Ac95 hAc95 ek95_0 by95_0 cy95_0 ca2 ba3
    refine hxa_s1 (by rfl) (Or.inr ⟨_, rfl, rfl⟩) rfl ?_
    refine hxa_aload_n (by rfl) rfl ?_
    refine hxa_get (v := .ref 23) (by rfl) (by rfl) (by rfl) rfl ?_
    refine hxa_aload_n (by rfl) rfl ?_
    refine hxj_getK (by rfl) (by rfl) (by rfl) ek95_0 ?_
    refine hxa_iload (by rfl) rfl ?_
    refine hxa_iconst (by rfl) rfl ?_
    refine hxj_cne (by rfl) rfl hk_4294967295 (fun q1 => ?_) (fun q1 => ?_)
    ·
      refine hxa_bipush (by rfl) rfl ?_
      refine hxa_iload (by rfl) rfl ?_
      refine hxj_iadd (by rfl) hk_24 rfl (by omega) (by omega) (fun z2 ez2 => ?_)
      refine hxj_iast (by rfl) (by rfl) rfl (by omega) (by omega) hAc95 (hbokN (by rfl)) (by rfl) (by rfl) (fun A3 hA3 eA3 fA3 gA3 => ?_)
      refine hxa_iload_n (by rfl) rfl ?_
      refine hxa_iconst (by rfl) rfl ?_
      refine hxj_iadd (by rfl) rfl hk_1 (by omega) (by omega) (fun z4 ez4 => ?_)
      exact hxa_ireturn (by rfl) rfl (hP _ _ ⟨hA3, (hkA eA3 ek95_0), _, rfl, by omega⟩)
    ·
      refine hxa_bipush (by rfl) rfl ?_
      refine hxa_goto (by rfl) ?_
      refine hxj_iast (by rfl) (by rfl) rfl (by omega) (by omega) hAc95 (hbokN (by rfl)) (by rfl) (by rfl) (fun A5 hA5 eA5 fA5 gA5 => ?_)
      refine hxa_iload_n (by rfl) rfl ?_
      refine hxa_iconst (by rfl) rfl ?_
      refine hxj_iadd (by rfl) rfl hk_1 (by omega) (by omega) (fun z6 ez6 => ?_)
      exact hxa_ireturn (by rfl) rfl (hP _ _ ⟨hA5, (hkA eA5 ek95_0), _, rfl, by omega⟩)
  have L52 : ∀ (Ac52 : hs_A) (hAc52 : hJ 7 Bn Br A0 Ac52) (ek52_0 : Ac52.1 21 3 = (A.1 21 3)) (ca2 : a2.toInt ≤ 1999) (ba3 : 1 ≤ a3.toInt), hxa (d + 2) (some (.int)) hm_t60 52 [.ref 22, .ref 2, .int a2, .int a3, .retAddr 0] [] Ac52 P := by
    intro Ac52 hAc52 ek52_0 ca2 ba3
    refine hxa_aload_n (by rfl) rfl ?_
    refine hxa_iload_n (by rfl) rfl ?_
    refine hxj_bald (by rfl) (by rfl) rfl (by omega) (by omega) (fun z7 ez7 => ?_)
    refine hxa_bipush (by rfl) rfl ?_
    refine hxj_clt (by rfl) rfl hk_48 (fun q8 => ?_) (fun q8 => ?_)
    ·
      refine hxa_aload_n (by rfl) rfl ?_
      refine hxa_iload_n (by rfl) rfl ?_
      refine hxj_bald (by rfl) (by rfl) rfl (by omega) (by omega) (fun z9 ez9 => ?_)
      refine hxj_zge (by rfl) rfl (fun q10 => ?_) (fun q10 => ?_)
      ·
        refine hxa_ldcS (k := 0) (by rfl) rfl ?_
        refine hxa_aload_n (by rfl) rfl ?_
        refine hxa_iload_n (by rfl) rfl ?_
        refine hxj_bald (by rfl) (by rfl) rfl (by omega) (by omega) (fun z11 ez11 => ?_)
        refine hxa_i2c (by rfl) (hn_top (fun z12 _ => ?_))
        refine hxj_strIdx (by rfl) (by rfl) (fun z13 ez13 fz13 => ?_)
        exact L95 z13 Ac52 hAc52 ek52_0 (by omega) (by omega) (by omega) (by omega)
      ·
        refine hxa_iconst (by rfl) rfl ?_
        refine hxa_goto (by rfl) ?_
        exact L95 (Int32.ofNat 4294967295) Ac52 hAc52 ek52_0 (by omega) (by omega) (by omega) (by omega)
    ·
      refine hxa_aload_n (by rfl) rfl ?_
      refine hxa_iload_n (by rfl) rfl ?_
      refine hxj_bald (by rfl) (by rfl) rfl (by omega) (by omega) (fun z14 ez14 => ?_)
      refine hxa_bipush (by rfl) rfl ?_
      refine hxj_cgt (by rfl) rfl hk_57 (fun q15 => ?_) (fun q15 => ?_)
      ·
        refine hxa_aload_n (by rfl) rfl ?_
        refine hxa_iload_n (by rfl) rfl ?_
        refine hxj_bald (by rfl) (by rfl) rfl (by omega) (by omega) (fun z16 ez16 => ?_)
        refine hxj_zge (by rfl) rfl (fun q17 => ?_) (fun q17 => ?_)
        ·
          refine hxa_ldcS (k := 0) (by rfl) rfl ?_
          refine hxa_aload_n (by rfl) rfl ?_
          refine hxa_iload_n (by rfl) rfl ?_
          refine hxj_bald (by rfl) (by rfl) rfl (by omega) (by omega) (fun z18 ez18 => ?_)
          refine hxa_i2c (by rfl) (hn_top (fun z19 _ => ?_))
          refine hxj_strIdx (by rfl) (by rfl) (fun z20 ez20 fz20 => ?_)
          exact L95 z20 Ac52 hAc52 ek52_0 (by omega) (by omega) (by omega) (by omega)
        ·
          refine hxa_iconst (by rfl) rfl ?_
          refine hxa_goto (by rfl) ?_
          exact L95 (Int32.ofNat 4294967295) Ac52 hAc52 ek52_0 (by omega) (by omega) (by omega) (by omega)
      ·
        refine hxa_aload_n (by rfl) rfl ?_
        refine hxa_aload_n (by rfl) rfl ?_
        refine hxa_iload_n (by rfl) rfl ?_
        refine hxa_iload_n (by rfl) rfl ?_
        refine hxa_call0 (by rfl) (by rfl) (by rfl) (by rfl) (by rfl) (by rfl) (hX63q7 (d := d + 1) hAc52 a2 (by omega) (by omega) a3 (by omega) (by omega) (by rw [(show Ac52.1 21 3 = (A.1 21 3) from ek52_0)]; omega) (by rw [(show Ac52.1 21 3 = (A.1 21 3) from ek52_0)]; omega)) ?_
        rintro _ A21 ⟨hA21, frA21_0, z22, rfl, fz22⟩
        exact hxa_ireturn (by rfl) rfl (hP _ _ ⟨hA21, (frA21_0.trans ek52_0), _, rfl, by omega⟩)
  refine hxa_aload_n (by rfl) rfl ?_
  refine hxa_get (v := .ref 24) (by rfl) (by rfl) (by rfl) rfl ?_
  refine hxa_aload_n (by rfl) rfl ?_
  refine hxj_getK (by rfl) (by rfl) (by rfl) rfl ?_
  refine hxa_lconst (by rfl) rfl ?_
  refine hxj_last (by rfl) (by rfl) rfl (by omega) (by omega) hA (by omega) (fun A23 hA23 eA23 fA23 => ?_)
  refine hxa_iload_n (by rfl) rfl ?_
  refine hxa_iload_n (by rfl) rfl ?_
  refine hxj_clt (by rfl) rfl rfl (fun q24 => ?_) (fun q24 => ?_)
  ·
    refine hxa_aload_n (by rfl) rfl ?_
    refine hxa_iload_n (by rfl) rfl ?_
    refine hxj_bald (by rfl) (by rfl) rfl (by omega) (by omega) (fun z25 ez25 => ?_)
    refine hxa_bipush (by rfl) rfl ?_
    refine hxj_clt (by rfl) rfl hk_97 (fun q26 => ?_) (fun q26 => ?_)
    ·
      exact L52 A23 hA23 (hkA eA23 rfl) (by omega) (by omega)
    ·
      refine hxa_aload_n (by rfl) rfl ?_
      refine hxa_iload_n (by rfl) rfl ?_
      refine hxj_bald (by rfl) (by rfl) rfl (by omega) (by omega) (fun z27 ez27 => ?_)
      refine hxa_bipush (by rfl) rfl ?_
      refine hxj_cgt (by rfl) rfl hk_122 (fun q28 => ?_) (fun q28 => ?_)
      ·
        exact L52 A23 hA23 (hkA eA23 rfl) (by omega) (by omega)
      ·
        refine hxa_aload_n (by rfl) rfl ?_
        refine hxa_aload_n (by rfl) rfl ?_
        refine hxa_iload_n (by rfl) rfl ?_
        refine hxa_iload_n (by rfl) rfl ?_
        refine hxa_call0 (by rfl) (by rfl) (by rfl) (by rfl) (by rfl) (by rfl) (hX61q7 (d := d + 0) hA23 a2 (by omega) (by omega) a3 (by omega) (by omega) (by rw [(show A23.1 21 3 = (A.1 21 3) from (hkA eA23 rfl))]; omega) (by rw [(show A23.1 21 3 = (A.1 21 3) from (hkA eA23 rfl))]; omega)) ?_
        rintro _ A29 ⟨hA29, frA29_0, z30, rfl, fz30⟩
        exact hxa_ireturn (by rfl) rfl (hP _ _ ⟨hA29, (frA29_0.trans (hkA eA23 rfl)), _, rfl, by omega⟩)
  ·
    refine hxa_aload_n (by rfl) rfl ?_
    refine hxa_get (v := .ref 23) (by rfl) (by rfl) (by rfl) rfl ?_
    refine hxa_aload_n (by rfl) rfl ?_
    refine hxj_getK (by rfl) (by rfl) (by rfl) (hkA eA23 rfl) ?_
    refine hxa_bipush (by rfl) rfl ?_
    refine hxj_iast (by rfl) (by rfl) rfl (by omega) (by omega) hA23 (hbokN (by rfl)) (by rfl) (by rfl) (fun A31 hA31 eA31 fA31 gA31 => ?_)
    refine hxa_iload_n (by rfl) rfl ?_
    exact hxa_ireturn (by rfl) rfl (hP _ _ ⟨hA31, (hkA eA31 (hkA eA23 rfl)), _, rfl, by omega⟩)
theorem hX60q7 {d : Nat} {Bn Br : Int} {A0 A : hs_A} (hA : hJ 7 Bn Br A0 A)  (a2 : Int32) (p2 : 0 ≤ a2.toInt) (q2 : a2.toInt ≤ 2000) (a3 : Int32) (p3 : 0 ≤ a3.toInt) (q3 : a3.toInt ≤ 2000) (fl0 : 0 ≤ (A.1 21 3).toInt) (fh0 : (A.1 21 3).toInt ≤ 400) : hxC (d + 3) 60 hm_m60 [.ref 22, .ref 2, .int a2, .int a3] A (fun r A' => hJ 7 Bn Br A0 A' ∧ A'.1 21 3 = A.1 21 3 ∧ ∃ z : Int32, r = some (.int z) ∧ ((0 ≤ z.toInt ∧ z.toInt ≤ 2000))) := hxC.of (by rfl) (hY60q7 hA a2 p2 q2 a3 p3 q3 fl0 fh0 (fun r A' h => h))
theorem hY58q7 {d : Nat} {Bn Br : Int} {A0 A : hs_A} (hA : hJ 7 Bn Br A0 A)  (a2 : Int32) (p2 : 0 ≤ a2.toInt) (q2 : a2.toInt ≤ 2000) {P : Option Value → hs_A → Prop} (hP : ∀ (r : Option Value) (A' : hs_A), (hJ 7 Bn Br A0 A' ∧ r = none) → P r A') : hxa (d + 3) none hm_t58 0 [.ref 22, .ref 2, .int a2, .retAddr 0, .retAddr 0] [] A P := by
  have k0 := hk_0
  have L10 : ∀ (m10 : Nat) (x10_3 : Int32) (x10_4 : Int32) (Ac10 : hs_A) (hAc10 : hJ 7 Bn Br A0 Ac10) (bx10_3 : 0 ≤ x10_3.toInt) (cx10_3 : x10_3.toInt ≤ 2000) (bx10_4 : 0 ≤ x10_4.toInt) (cx10_4 : x10_4.toInt ≤ 2001) (hm10 : 2001 - x10_4.toInt < (m10 : Int)), hxa (d + 3) none hm_t58 10 [.ref 22, .ref 2, .int a2, .int x10_3, .int x10_4] [] Ac10 P := by
    intro m10
    induction m10 with
    | zero => intro x10_3 x10_4 Ac10 hAc10 bx10_3 cx10_3 bx10_4 cx10_4 hm10;  exact False.elim (by omega)
    | succ m10 ih10 =>
      intro x10_3 x10_4 Ac10 hAc10 bx10_3 cx10_3 bx10_4 cx10_4 hm10
      refine hxa_iload (by rfl) rfl ?_
      refine hxa_iload_n (by rfl) rfl ?_
      refine hxj_cgt (by rfl) rfl rfl (fun q1 => ?_) (fun q1 => ?_)
      ·
        exact hxa_return (by rfl) rfl (hP _ _ ⟨hAc10, rfl⟩)
      ·
        refine hxa_aload_n (by rfl) rfl ?_
        refine hxj_getB (by rfl) (by rfl) (by rfl) hAc10 (by rfl) (fun z2 ez2 fz2 gz2 => ?_)
        refine hxa_sipush (by rfl) rfl ?_
        refine hxj_cgt (by rfl) rfl hk_400 (fun q3 => ?_) (fun q3 => ?_)
        ·
          exact hxa_return (by rfl) rfl (hP _ _ ⟨hAc10, rfl⟩)
        ·
          refine hxa_aload_n (by rfl) rfl ?_
          refine hxa_iload_n (by rfl) rfl ?_
          refine hxa_iload_n (by rfl) rfl ?_
          refine hxa_call2 (by rfl) (by decide) (by rfl) (by rfl) (by rfl) (hX59q7 (d := d + 2) hAc10 x10_3 (by omega) (by omega) a2 (by omega) (by omega)) ?_
          rintro _ _ ⟨rfl, z4, rfl, fz4⟩
          refine hxa_s1 (by rfl) (Or.inl ⟨_, rfl, rfl⟩) rfl ?_
          refine hxa_aload_n (by rfl) rfl ?_
          refine hxa_get (v := .ref 25) (by rfl) (by rfl) (by rfl) rfl ?_
          refine hxa_aload_n (by rfl) rfl ?_
          refine hxj_getK (by rfl) (by rfl) (by rfl) ez2 ?_
          refine hxa_iload_n (by rfl) rfl ?_
          refine hxj_iast (by rfl) (by rfl) rfl (by omega) (by omega) hAc10 (hbokN (by rfl)) (by rfl) (by rfl) (fun A5 hA5 eA5 fA5 gA5 => ?_)
          refine hxa_aload_n (by rfl) rfl ?_
          refine hxa_aload_n (by rfl) rfl ?_
          refine hxa_iload_n (by rfl) rfl ?_
          refine hxa_iload_n (by rfl) rfl ?_
          refine hxa_call0 (by rfl) (by rfl) (by rfl) (by rfl) (by rfl) (by rfl) (hX60q7 (d := d + 0) hA5 z4 (by omega) (by omega) a2 (by omega) (by omega) (by rw [(show A5.1 21 3 = z2 from (hkA eA5 ez2))]; omega) (by rw [(show A5.1 21 3 = z2 from (hkA eA5 ez2))]; omega)) ?_
          rintro _ A6 ⟨hA6, frA6_0, z7, rfl, fz7⟩
          refine hxa_s1 (by rfl) (Or.inl ⟨_, rfl, rfl⟩) rfl ?_
          refine hxa_aload_n (by rfl) rfl ?_
          refine hxa_dupR (by rfl) ?_
          refine hxj_getK (by rfl) (by rfl) (by rfl) (frA6_0.trans (hkA eA5 ez2)) ?_
          refine hxa_iconst (by rfl) rfl ?_
          refine hxj_iadd (by rfl) rfl hk_1 (by omega) (by omega) (fun z8 ez8 => ?_)
          refine hxj_putI (by rfl) (by rfl) (by rfl) (by rfl) hA6 (hbok (by rfl) rfl (by omega) (by omega)) (by rfl) (by rfl) (fun A9 hA9 eA9 fA9 => ?_)
          refine hxa_aload_n (by rfl) rfl ?_
          refine hxa_get (v := .ref 23) (by rfl) (by rfl) (by rfl) rfl ?_
          refine hxa_aload_n (by rfl) rfl ?_
          refine hxj_getK (by rfl) (by rfl) (by rfl) (hkS eA9) ?_
          refine hxa_iconst (by rfl) rfl ?_
          refine hxj_isub (by rfl) rfl hk_1 (by omega) (by omega) (fun z10 ez10 => ?_)
          refine hxj_iald (by rfl) (by rfl) rfl (by omega) (by omega) (fun z11 ez11 => ?_)
          refine hxa_bipush (by rfl) rfl ?_
          refine hxj_ceq (by rfl) rfl hk_22 (fun q12 => ?_) (fun q12 => ?_)
          ·
            exact hxa_return (by rfl) rfl (hP _ _ ⟨hA9, rfl⟩)
          ·
            refine hxa_aload_n (by rfl) rfl ?_
            refine hxa_get (v := .ref 23) (by rfl) (by rfl) (by rfl) rfl ?_
            refine hxa_aload_n (by rfl) rfl ?_
            refine hxj_getK (by rfl) (by rfl) (by rfl) (hkS eA9) ?_
            refine hxa_iconst (by rfl) rfl ?_
            refine hxj_isub (by rfl) rfl hk_1 (by omega) (by omega) (fun z13 ez13 => ?_)
            refine hxj_iald (by rfl) (by rfl) rfl (by omega) (by omega) (fun z14 ez14 => ?_)
            refine hxa_bipush (by rfl) rfl ?_
            refine hxj_cne (by rfl) rfl hk_23 (fun q15 => ?_) (fun q15 => ?_)
            ·
              refine hxj_iinc (by rfl) rfl rfl hk_1 (by omega) (by omega) (fun _ => rfl) (fun z16 ez16 => ?_)
              refine hxa_goto (by rfl) ?_
              exact ih10 z7 z16 A9 hA9 (by omega) (by omega) (by omega) (by omega) (by omega)
            ·
              exact hxa_return (by rfl) rfl (hP _ _ ⟨hA9, rfl⟩)
  refine hxa_aload_n (by rfl) rfl ?_
  refine hxa_iconst (by rfl) rfl ?_
  refine hxj_putI (by rfl) (by rfl) (by rfl) (by rfl) hA (hbok (by rfl) hk_0 (by omega) (by omega)) (by rfl) (by rfl) (fun A17 hA17 eA17 fA17 => ?_)
  refine hxa_iconst (by rfl) rfl ?_
  refine hxa_s1 (by rfl) (Or.inl ⟨_, rfl, rfl⟩) rfl ?_
  refine hxa_iconst (by rfl) rfl ?_
  refine hxa_s1 (by rfl) (Or.inr ⟨_, rfl, rfl⟩) rfl ?_
  exact L10 (Int.toNat (2001 - 0) + 1) (Int32.ofNat 0) (Int32.ofNat 0) A17 hA17 (by omega) (by omega) (by omega) (by omega) (by omega)
theorem hX58q7 {d : Nat} {Bn Br : Int} {A0 A : hs_A} (hA : hJ 7 Bn Br A0 A)  (a2 : Int32) (p2 : 0 ≤ a2.toInt) (q2 : a2.toInt ≤ 2000) : hxC (d + 4) 58 hm_m58 [.ref 22, .ref 2, .int a2] A (fun r A' => hJ 7 Bn Br A0 A' ∧ r = none) := hxC.of (by rfl) (hY58q7 hA a2 p2 q2 (fun r A' h => h))
theorem hY38q1 {d : Nat} {Bn Br : Int} {A0 A : hs_A} (hA : hJ 1 Bn Br A0 A)   {P : Option Value → hs_A → Prop} (hP : ∀ (r : Option Value) (A' : hs_A), (A = A' ∧ ∃ z : Int32, r = some (.int z)) → P r A') : hxa (d + 0) (some (.int)) hm_t38 0 [.ref 21] [] A P := by
  have k22 := hk_22
  refine hxa_aload_n (by rfl) rfl ?_
  refine hxj_getB (by rfl) (by rfl) (by rfl) hA (by rfl) (fun z1 ez1 fz1 gz1 => ?_)
  refine hxa_aload_n (by rfl) rfl ?_
  refine hxa_get (v := .ref 22) (by rfl) (by rfl) (by rfl) rfl ?_
  refine hxj_getB (by rfl) (by rfl) (by rfl) hA (by rfl) (fun z2 ez2 fz2 gz2 => ?_)
  refine hxj_cge (by rfl) rfl rfl (fun q3 => ?_) (fun q3 => ?_)
  ·
    refine hxa_bipush (by rfl) rfl ?_
    exact hxa_ireturn (by rfl) rfl (hP _ _ ⟨rfl, _, rfl⟩)
  ·
    refine hxa_aload_n (by rfl) rfl ?_
    refine hxa_get (v := .ref 22) (by rfl) (by rfl) (by rfl) rfl ?_
    refine hxa_get (v := .ref 23) (by rfl) (by rfl) (by rfl) rfl ?_
    refine hxa_aload_n (by rfl) rfl ?_
    refine hxj_getK (by rfl) (by rfl) (by rfl) ez1 ?_
    refine hxj_iald (by rfl) (by rfl) rfl (by omega) (by omega) (fun z4 ez4 => ?_)
    refine hxa_goto (by rfl) ?_
    exact hxa_ireturn (by rfl) rfl (hP _ _ ⟨rfl, _, rfl⟩)
theorem hX38q1 {d : Nat} {Bn Br : Int} {A0 A : hs_A} (hA : hJ 1 Bn Br A0 A)   : hxC (d + 1) 38 hm_m38 [.ref 21] A (fun r A' => A = A' ∧ ∃ z : Int32, r = some (.int z)) := hxC.of (by rfl) (hY38q1 hA  (fun r A' h => h))
theorem hY39q1 {d : Nat} {Bn Br : Int} {A0 A : hs_A} (hA : hJ 1 Bn Br A0 A)  (a1 : Int32) {P : Option Value → hs_A → Prop} (hP : ∀ (r : Option Value) (A' : hs_A), (hJ 1 Bn Br A0 A' ∧ A'.1 2 4 = A.1 2 4 ∧ A'.1 20 4 = A.1 20 4 ∧ A'.1 20 7 = A.1 20 7 ∧ A'.1 20 3 = A.1 20 3 ∧ ∃ z : Int32, r = some (.int z) ∧ ((z.toInt = 0))) → P r A') : hxa (d + 0) (some (.boolean)) hm_t39 0 [.ref 21, .int a1] [] A P := by
  have k0 := hk_0
  have fb2_4 := hA.f (i := 2) (k := 4) (by rfl)
  have fb20_3 := hA.f (i := 20) (k := 3) (by rfl)
  refine hxa_aload_n (by rfl) rfl ?_
  refine hxa_iload_n (by rfl) rfl ?_
  refine hxj_putI (by rfl) (by rfl) (by rfl) (by rfl) hA (hbokN (by rfl)) (by rfl) (by rfl) (fun A1 hA1 eA1 fA1 => ?_)
  refine hxa_aload_n (by rfl) rfl ?_
  refine hxa_aload_n (by rfl) rfl ?_
  refine hxj_getK (by rfl) (by rfl) (by rfl) (hkF eA1 (by first | decide | omega) rfl) ?_
  refine hxa_sipush (by rfl) rfl ?_
  refine hxj_cgt (by rfl) rfl hk_400 (fun q2 => False.elim (by omega)) (fun q2 => ?_)
  refine hxa_aload_n (by rfl) rfl ?_
  refine hxa_get (v := .ref 22) (by rfl) (by rfl) (by rfl) rfl ?_
  refine hxa_get (v := .ref 25) (by rfl) (by rfl) (by rfl) rfl ?_
  refine hxa_aload_n (by rfl) rfl ?_
  refine hxj_getK (by rfl) (by rfl) (by rfl) (hkF eA1 (by first | decide | omega) rfl) ?_
  refine hxj_iald (by rfl) (by rfl) rfl (by omega) (by omega) (fun z3 ez3 => ?_)
  refine hxa_goto (by rfl) ?_
  refine hxj_putI (by rfl) (by rfl) (by rfl) (by rfl) hA1 (hbokN (by rfl)) (by rfl) (by rfl) (fun A4 hA4 eA4 fA4 => ?_)
  refine hxa_iconst (by rfl) rfl ?_
  exact hxa_ireturn (by rfl) (by rfl) (hP _ _ ⟨hA4, (hkF eA4 (by first | decide | omega) (hkF eA1 (by first | decide | omega) rfl)), (hkF eA4 (by first | decide | omega) (hkF eA1 (by first | decide | omega) rfl)), (hkF eA4 (by first | decide | omega) (hkF eA1 (by first | decide | omega) rfl)), (hkF eA4 (by first | decide | omega) (hkF eA1 (by first | decide | omega) rfl)), _, rfl, by omega⟩)
theorem hX39q1 {d : Nat} {Bn Br : Int} {A0 A : hs_A} (hA : hJ 1 Bn Br A0 A)  (a1 : Int32) : hxC (d + 1) 39 hm_m39 [.ref 21, .int a1] A (fun r A' => hJ 1 Bn Br A0 A' ∧ A'.1 2 4 = A.1 2 4 ∧ A'.1 20 4 = A.1 20 4 ∧ A'.1 20 7 = A.1 20 7 ∧ A'.1 20 3 = A.1 20 3 ∧ ∃ z : Int32, r = some (.int z) ∧ ((z.toInt = 0))) := hxC.of (by rfl) (hY39q1 hA a1 (fun r A' h => h))
theorem hY40q1 {d : Nat} {Bn Br : Int} {A0 A : hs_A} (hA : hJ 1 Bn Br A0 A)  (a1 : Int32) (p1 : 1 ≤ a1.toInt) (q1 : a1.toInt ≤ 9) {P : Option Value → hs_A → Prop} (hP : ∀ (r : Option Value) (A' : hs_A), (hJ 1 Bn Br A0 A' ∧ A'.1 2 4 = A.1 2 4 ∧ A'.1 20 4 = A.1 20 4 ∧ A'.1 20 3 = A.1 20 3 ∧ r = none ∧ (¬ (A'.1 20 7).toInt = 0)) → P r A') : hxa (d + 0) none hm_t40 0 [.ref 21, .int a1] [] A P := by
  have fb2_4 := hA.f (i := 2) (k := 4) (by rfl)
  have fb20_3 := hA.f (i := 20) (k := 3) (by rfl)
  refine hxa_aload_n (by rfl) rfl ?_
  refine hxj_getI (by rfl) (by rfl) (by rfl) (fun z1 ez1 => ?_)
  refine hxj_zne (by rfl) rfl (fun q2 => ?_) (fun q2 => ?_)
  ·
    exact hxa_return (by rfl) rfl (hP _ _ ⟨hA, rfl, rfl, rfl, rfl, by rw [(show A.1 20 7 = z1 from ez1)]; omega⟩)
  ·
    refine hxa_aload_n (by rfl) rfl ?_
    refine hxj_getK (by rfl) (by rfl) (by rfl) rfl ?_
    refine hxa_sipush (by rfl) rfl ?_
    refine hxj_cgt (by rfl) rfl hk_400 (fun q3 => False.elim (by omega)) (fun q3 => ?_)
    refine hxa_aload_n (by rfl) rfl ?_
    refine hxa_iload_n (by rfl) rfl ?_
    refine hxj_putLate1 (by rfl) rfl hA (by omega) (fun A4 hA4 eA4 fA4 => ?_)
    refine hxa_aload_n (by rfl) rfl ?_
    refine hxa_aload_n (by rfl) rfl ?_
    refine hxa_get (v := .ref 22) (by rfl) (by rfl) (by rfl) rfl ?_
    refine hxa_get (v := .ref 25) (by rfl) (by rfl) (by rfl) rfl ?_
    refine hxa_aload_n (by rfl) rfl ?_
    refine hxj_getK (by rfl) (by rfl) (by rfl) (hkF eA4 (by first | decide | omega) rfl) ?_
    refine hxj_iald (by rfl) (by rfl) rfl (by omega) (by omega) (fun z5 ez5 => ?_)
    refine hxj_putI (by rfl) (by rfl) (by rfl) (by rfl) hA4 (hbokN (by rfl)) (by rfl) (by rfl) (fun A6 hA6 eA6 fA6 => ?_)
    exact hxa_return (by rfl) rfl (hP _ _ ⟨hA6, (hkF eA6 (by first | decide | omega) (hkF eA4 (by first | decide | omega) rfl)), (hkF eA6 (by first | decide | omega) (hkF eA4 (by first | decide | omega) rfl)), (hkF eA6 (by first | decide | omega) (hkF eA4 (by first | decide | omega) rfl)), rfl, by rw [(show A6.1 20 7 = a1 from (hkF eA6 (by first | decide | omega) (hkS eA4)))]; omega⟩)
theorem hX40q1 {d : Nat} {Bn Br : Int} {A0 A : hs_A} (hA : hJ 1 Bn Br A0 A)  (a1 : Int32) (p1 : 1 ≤ a1.toInt) (q1 : a1.toInt ≤ 9) : hxC (d + 1) 40 hm_m40 [.ref 21, .int a1] A (fun r A' => hJ 1 Bn Br A0 A' ∧ A'.1 2 4 = A.1 2 4 ∧ A'.1 20 4 = A.1 20 4 ∧ A'.1 20 3 = A.1 20 3 ∧ r = none ∧ (¬ (A'.1 20 7).toInt = 0)) := hxC.of (by rfl) (hY40q1 hA a1 p1 q1 (fun r A' h => h))
theorem hY41q1 {d : Nat} {Bn Br : Int} {A0 A : hs_A} (hA : hJ 1 Bn Br A0 A)   {P : Option Value → hs_A → Prop} (hP : ∀ (r : Option Value) (A' : hs_A), (hJ 1 Bn Br A0 A' ∧ A'.1 2 4 = A.1 2 4 ∧ A'.1 20 4 = A.1 20 4 ∧ A'.1 20 7 = A.1 20 7 ∧ ∃ z : Int32, r = some (.int z) ∧ ((0 ≤ z.toInt ∧ z.toInt ≤ 1))) → P r A') : hxa (d + 0) (some (.boolean)) hm_t41 0 [.ref 21] [] A P := by
  have k0 := hk_0
  have k1 := hk_1
  have fb2_4 := hA.f (i := 2) (k := 4) (by rfl)
  refine hxa_aload_n (by rfl) rfl ?_
  refine hxj_getB (by rfl) (by rfl) (by rfl) hA (by rfl) (fun z1 ez1 fz1 gz1 => ?_)
  refine hxa_sipush (by rfl) rfl ?_
  refine hxj_clt (by rfl) rfl hk_400 (fun q2 => ?_) (fun q2 => ?_)
  ·
    refine hxa_aload_n (by rfl) rfl ?_
    refine hxa_dupR (by rfl) ?_
    refine hxj_getK (by rfl) (by rfl) (by rfl) ez1 ?_
    refine hxa_iconst (by rfl) rfl ?_
    refine hxj_iadd (by rfl) rfl hk_1 (by omega) (by omega) (fun z3 ez3 => ?_)
    refine hxj_putI (by rfl) (by rfl) (by rfl) (by rfl) hA (hbok (by rfl) rfl (by omega) (by omega)) (by rfl) (by rfl) (fun A4 hA4 eA4 fA4 => ?_)
    refine hxa_iconst (by rfl) rfl ?_
    exact hxa_ireturn (by rfl) (by rfl) (hP _ _ ⟨hA4, (hkF eA4 (by first | decide | omega) rfl), (hkF eA4 (by first | decide | omega) rfl), (hkF eA4 (by first | decide | omega) rfl), _, rfl, by omega⟩)
  ·
    refine hxa_aload_n (by rfl) rfl ?_
    refine hxa_iconst (by rfl) rfl ?_
    refine hxj_putI (by rfl) (by rfl) (by rfl) (by rfl) hA (hbokN (by rfl)) (by rfl) (by rfl) (fun A5 hA5 eA5 fA5 => ?_)
    refine hxa_aload_n (by rfl) rfl ?_
    refine hxa_aload_n (by rfl) rfl ?_
    refine hxa_get (v := .ref 22) (by rfl) (by rfl) (by rfl) rfl ?_
    refine hxa_get (v := .ref 25) (by rfl) (by rfl) (by rfl) rfl ?_
    refine hxa_sipush (by rfl) rfl ?_
    refine hxj_iald (by rfl) (by rfl) hk_400 (by omega) (by omega) (fun z6 ez6 => ?_)
    refine hxj_putI (by rfl) (by rfl) (by rfl) (by rfl) hA5 (hbokN (by rfl)) (by rfl) (by rfl) (fun A7 hA7 eA7 fA7 => ?_)
    refine hxa_iconst (by rfl) rfl ?_
    exact hxa_ireturn (by rfl) (by rfl) (hP _ _ ⟨hA7, (hkF eA7 (by first | decide | omega) (hkF eA5 (by first | decide | omega) rfl)), (hkF eA7 (by first | decide | omega) (hkF eA5 (by first | decide | omega) rfl)), (hkF eA7 (by first | decide | omega) (hkF eA5 (by first | decide | omega) rfl)), _, rfl, by omega⟩)
theorem hX41q1 {d : Nat} {Bn Br : Int} {A0 A : hs_A} (hA : hJ 1 Bn Br A0 A)   : hxC (d + 1) 41 hm_m41 [.ref 21] A (fun r A' => hJ 1 Bn Br A0 A' ∧ A'.1 2 4 = A.1 2 4 ∧ A'.1 20 4 = A.1 20 4 ∧ A'.1 20 7 = A.1 20 7 ∧ ∃ z : Int32, r = some (.int z) ∧ ((0 ≤ z.toInt ∧ z.toInt ≤ 1))) := hxC.of (by rfl) (hY41q1 hA  (fun r A' h => h))
theorem hY42q1 {d : Nat} {Bn Br : Int} {A0 A : hs_A} (hA : hJ 1 Bn Br A0 A)  (a1 : Int32) {P : Option Value → hs_A → Prop} (hP : ∀ (r : Option Value) (A' : hs_A), (hJ 1 Bn Br A0 A' ∧ A'.1 2 4 = A.1 2 4 ∧ A'.1 20 4 = A.1 20 4 ∧ A'.1 20 7 = A.1 20 7 ∧ ∃ z : Int32, r = some (.int z) ∧ ((0 ≤ z.toInt ∧ z.toInt ≤ 1))) → P r A') : hxa (d + 1) (some (.boolean)) hm_t42 0 [.ref 21, .int a1] [] A P := by
  have k1 := hk_1
  have fb2_4 := hA.f (i := 2) (k := 4) (by rfl)
  refine hxa_aload_n (by rfl) rfl ?_
  refine hxa_call0 (by rfl) (by rfl) (by rfl) (by rfl) (by rfl) (by rfl) (hX38q1 (d := d + 0) hA ) ?_
  rintro _ _ ⟨rfl, z1, rfl⟩
  refine hxa_iload_n (by rfl) rfl ?_
  refine hxj_cne (by rfl) rfl rfl (fun q2 => ?_) (fun q2 => ?_)
  ·
    refine hxa_aload_n (by rfl) rfl ?_
    refine hxa_iconst (by rfl) rfl ?_
    refine hxa_call0 (by rfl) (by rfl) (by rfl) (by rfl) (by rfl) (by rfl) (hX39q1 (d := d + 0) hA (Int32.ofNat 1)) ?_
    rintro _ A3 ⟨hA3, frA3_0, frA3_1, frA3_2, frA3_3, z4, rfl, fz4⟩
    exact hxa_ireturn (by rfl) (hn_fitB (by omega) (by omega)) (hP _ _ ⟨hA3, (frA3_0.trans rfl), (frA3_1.trans rfl), (frA3_2.trans rfl), _, rfl, by omega⟩)
  ·
    refine hxa_aload_n (by rfl) rfl ?_
    refine hxa_call0 (by rfl) (by rfl) (by rfl) (by rfl) (by rfl) (by rfl) (hX41q1 (d := d + 0) hA ) ?_
    rintro _ A5 ⟨hA5, frA5_0, frA5_1, frA5_2, z6, rfl, fz6⟩
    refine hxa_goto (by rfl) ?_
    exact hxa_ireturn (by rfl) (hn_fitB (by omega) (by omega)) (hP _ _ ⟨hA5, (frA5_0.trans rfl), (frA5_1.trans rfl), (frA5_2.trans rfl), _, rfl, by omega⟩)
theorem hX42q1 {d : Nat} {Bn Br : Int} {A0 A : hs_A} (hA : hJ 1 Bn Br A0 A)  (a1 : Int32) : hxC (d + 2) 42 hm_m42 [.ref 21, .int a1] A (fun r A' => hJ 1 Bn Br A0 A' ∧ A'.1 2 4 = A.1 2 4 ∧ A'.1 20 4 = A.1 20 4 ∧ A'.1 20 7 = A.1 20 7 ∧ ∃ z : Int32, r = some (.int z) ∧ ((0 ≤ z.toInt ∧ z.toInt ≤ 1))) := hxC.of (by rfl) (hY42q1 hA a1 (fun r A' h => h))
theorem hY43q1 {d : Nat} {Bn Br : Int} {A0 A : hs_A} (hA : hJ 1 Bn Br A0 A)  (a1 : Int32) (a2 : Int32) {P : Option Value → hs_A → Prop} (hP : ∀ (r : Option Value) (A' : hs_A), (hJ 1 Bn Br A0 A' ∧ A'.1 2 4 = A.1 2 4 ∧ ∃ z : Int32, r = some (.int z) ∧ (z.toInt = 0 ∨ (z.toInt = 1 ∧ (¬ (A'.1 20 7).toInt = 0 ∨ (a1.toInt ≤ (A'.1 20 4).toInt ∧ (A'.1 20 4).toInt ≤ a2.toInt))))) → P r A') : hxa (d + 1) (some (.boolean)) hm_t43 0 [.ref 21, .int a1, .int a2] [] A P := by
  have k1 := hk_1
  have k5 := hk_5
  have fb2_4 := hA.f (i := 2) (k := 4) (by rfl)
  refine hxa_aload_n (by rfl) rfl ?_
  refine hxa_call0 (by rfl) (by rfl) (by rfl) (by rfl) (by rfl) (by rfl) (hX38q1 (d := d + 0) hA ) ?_
  rintro _ _ ⟨rfl, z1, rfl⟩
  refine hxa_bipush (by rfl) rfl ?_
  refine hxj_ceq (by rfl) rfl hk_21 (fun q2 => ?_) (fun q2 => ?_)
  ·
    refine hxa_aload_n (by rfl) rfl ?_
    refine hxa_aload_n (by rfl) rfl ?_
    refine hxa_get (v := .ref 22) (by rfl) (by rfl) (by rfl) rfl ?_
    refine hxa_get (v := .ref 24) (by rfl) (by rfl) (by rfl) rfl ?_
    refine hxa_aload_n (by rfl) rfl ?_
    refine hxj_getB (by rfl) (by rfl) (by rfl) hA (by rfl) (fun z3 ez3 fz3 gz3 => ?_)
    refine hxj_lald (by rfl) (by rfl) rfl (by omega) (by omega) (fun j4 ej4 => ?_)
    refine hxa_l2i (by rfl) (hn_top (fun z5 _ => ?_))
    refine hxj_putI (by rfl) (by rfl) (by rfl) (by rfl) hA (hbokN (by rfl)) (by rfl) (by rfl) (fun A6 hA6 eA6 fA6 => ?_)
    refine hxa_aload_n (by rfl) rfl ?_
    refine hxj_getK (by rfl) (by rfl) (by rfl) (hkS eA6) ?_
    refine hxa_iload_n (by rfl) rfl ?_
    refine hxa_iload_n (by rfl) rfl ?_
    refine hxa_call2 (by rfl) (by decide) (by rfl) (by rfl) (by rfl) (hX78 (d := d + 0)  z5 a1 a2) ?_
    rintro _ _ ⟨rfl, z7, rfl, fz7⟩
    rcases fz7 with fz7 | fz7
    ·
      refine hxj_zne (by rfl) rfl (fun q8 => ?_) (fun q8 => False.elim (by omega))
      refine hxa_aload_n (by rfl) rfl ?_
      refine hxa_call0 (by rfl) (by rfl) (by rfl) (by rfl) (by rfl) (by rfl) (hX41q1 (d := d + 0) hA6 ) ?_
      rintro _ A9 ⟨hA9, frA9_0, frA9_1, frA9_2, z10, rfl, fz10⟩
      exact hxa_ireturn (by rfl) (hn_fitB (by omega) (by omega)) (hP _ _ ⟨hA9, (frA9_0.trans (hkF eA6 (by first | decide | omega) rfl)), _, rfl, by first | omega | (rw [(show A9.1 20 4 = z5 from (frA9_1.trans (hkS eA6)))]; omega)⟩)
    ·
      refine hxj_zne (by rfl) rfl (fun q11 => False.elim (by omega)) (fun q11 => ?_)
      refine hxa_aload_n (by rfl) rfl ?_
      refine hxa_iconst (by rfl) rfl ?_
      refine hxa_call0 (by rfl) (by rfl) (by rfl) (by rfl) (by rfl) (by rfl) (hX40q1 (d := d + 0) hA6 (Int32.ofNat 5) (by omega) (by omega)) ?_
      rintro _ A12 ⟨hA12, frA12_0, frA12_1, frA12_2, rfl, fA12⟩
      refine hxa_aload_n (by rfl) rfl ?_
      refine hxa_call0 (by rfl) (by rfl) (by rfl) (by rfl) (by rfl) (by rfl) (hX41q1 (d := d + 0) hA12 ) ?_
      rintro _ A13 ⟨hA13, frA13_0, frA13_1, frA13_2, z14, rfl, fz14⟩
      exact hxa_ireturn (by rfl) (hn_fitB (by omega) (by omega)) (hP _ _ ⟨hA13, (frA13_0.trans (frA12_0.trans (hkF eA6 (by first | decide | omega) rfl))), _, rfl, by first | omega | (rw [(show A13.1 20 4 = z5 from (frA13_1.trans (frA12_1.trans (hkS eA6))))]; omega) | (rw [(show A13.1 20 7 = (A12.1 20 7) from (frA13_2.trans rfl))]; omega)⟩)
  ·
    refine hxa_aload_n (by rfl) rfl ?_
    refine hxa_iconst (by rfl) rfl ?_
    refine hxa_call0 (by rfl) (by rfl) (by rfl) (by rfl) (by rfl) (by rfl) (hX39q1 (d := d + 0) hA (Int32.ofNat 1)) ?_
    rintro _ A15 ⟨hA15, frA15_0, frA15_1, frA15_2, frA15_3, z16, rfl, fz16⟩
    exact hxa_ireturn (by rfl) (hn_fitB (by omega) (by omega)) (hP _ _ ⟨hA15, (frA15_0.trans rfl), _, rfl, by first | omega⟩)
theorem hX43q1 {d : Nat} {Bn Br : Int} {A0 A : hs_A} (hA : hJ 1 Bn Br A0 A)  (a1 : Int32) (a2 : Int32) : hxC (d + 2) 43 hm_m43 [.ref 21, .int a1, .int a2] A (fun r A' => hJ 1 Bn Br A0 A' ∧ A'.1 2 4 = A.1 2 4 ∧ ∃ z : Int32, r = some (.int z) ∧ (z.toInt = 0 ∨ (z.toInt = 1 ∧ (¬ (A'.1 20 7).toInt = 0 ∨ (a1.toInt ≤ (A'.1 20 4).toInt ∧ (A'.1 20 4).toInt ≤ a2.toInt))))) := hxC.of (by rfl) (hY43q1 hA a1 a2 (fun r A' h => h))
theorem hY44q1 {d : Nat} {Bn Br : Int} {A0 A : hs_A} (hA : hJ 1 Bn Br A0 A)  (fl0 : 0 ≤ (A.1 2 4).toInt) (fh0 : (A.1 2 4).toInt ≤ 9) {P : Option Value → hs_A → Prop} (hP : ∀ (r : Option Value) (A' : hs_A), (hJ 1 Bn Br A0 A' ∧ ∃ z : Int32, r = some (.int z) ∧ ((0 ≤ z.toInt ∧ z.toInt ≤ 1))) → P r A') : hxa (d + 1) (some (.boolean)) hm_t44 0 [.ref 21, .retAddr 0, .retAddr 0, .retAddr 0] [] A P := by
  have k0 := hk_0
  have k1 := hk_1
  have k3 := hk_3
  have L30 : ∀ (m30 : Nat) (x30_1 : Int64) (x30_3 : Int32) (Ac30 : hs_A) (hAc30 : hJ 1 Bn Br A0 Ac30) (ek30_0 : Ac30.1 2 4 = (A.1 2 4)) (bx30_3 : 0 ≤ x30_3.toInt) (cx30_3 : x30_3.toInt ≤ 9) (hm30 : 9 - x30_3.toInt < (m30 : Int)), hxa (d + 1) (some (.boolean)) hm_t44 30 [.ref 21, .long x30_1, .double 0, .int x30_3] [] Ac30 P := by
    intro m30
    induction m30 with
    | zero => intro x30_1 x30_3 Ac30 hAc30 ek30_0 bx30_3 cx30_3 hm30;  exact False.elim (by omega)
    | succ m30 ih30 =>
      intro x30_1 x30_3 Ac30 hAc30 ek30_0 bx30_3 cx30_3 hm30
      refine hxa_iload_n (by rfl) rfl ?_
      refine hxa_aload_n (by rfl) rfl ?_
      refine hxj_getT (by rfl) (by rfl) (by rfl) hAc30.rt1 ?_
      refine hxj_getK (by rfl) (by rfl) (by rfl) ek30_0 ?_
      refine hxj_cge (by rfl) rfl rfl (fun q1 => ?_) (fun q1 => ?_)
      ·
        refine hxa_aload_n (by rfl) rfl ?_
        refine hxa_get (v := .ref 26) (by rfl) (by rfl) (by rfl) rfl ?_
        refine hxa_aload_n (by rfl) rfl ?_
        refine hxj_getT (by rfl) (by rfl) (by rfl) hAc30.rt1 ?_
        refine hxj_getK (by rfl) (by rfl) (by rfl) ek30_0 ?_
        refine hxa_lload_n (by rfl) rfl ?_
        refine hxj_last (by rfl) (by rfl) rfl (by omega) (by omega) hAc30 (by omega) (fun A2 hA2 eA2 fA2 => ?_)
        refine hxa_aload_n (by rfl) rfl ?_
        refine hxa_call0 (by rfl) (by rfl) (by rfl) (by rfl) (by rfl) (by rfl) (hX41q1 (d := d + 0) hA2 ) ?_
        rintro _ A3 ⟨hA3, frA3_0, frA3_1, frA3_2, z4, rfl, fz4⟩
        exact hxa_ireturn (by rfl) (hn_fitB (by omega) (by omega)) (hP _ _ ⟨hA3, _, rfl, by omega⟩)
      ·
        refine hxa_aload_n (by rfl) rfl ?_
        refine hxa_get (v := .ref 26) (by rfl) (by rfl) (by rfl) rfl ?_
        refine hxa_iload_n (by rfl) rfl ?_
        refine hxj_lald (by rfl) (by rfl) rfl (by omega) (by omega) (fun j5 ej5 => ?_)
        refine hxa_lload_n (by rfl) rfl ?_
        refine hxa_lcmp (by rfl) (hn_top (fun z6 _ => ?_))
        refine hxj_zne (by rfl) rfl (fun q7 => ?_) (fun q7 => ?_)
        ·
          refine hxj_iinc (by rfl) rfl rfl hk_1 (by omega) (by omega) (fun _ => rfl) (fun z8 ez8 => ?_)
          refine hxa_goto (by rfl) ?_
          exact ih30 x30_1 z8 Ac30 hAc30 ek30_0 (by omega) (by omega) (by omega)
        ·
          refine hxa_aload_n (by rfl) rfl ?_
          refine hxa_iconst (by rfl) rfl ?_
          refine hxa_call0 (by rfl) (by rfl) (by rfl) (by rfl) (by rfl) (by rfl) (hX40q1 (d := d + 0) hAc30 (Int32.ofNat 3) (by omega) (by omega)) ?_
          rintro _ A9 ⟨hA9, frA9_0, frA9_1, frA9_2, rfl, fA9⟩
          refine hxj_iinc (by rfl) rfl rfl hk_1 (by omega) (by omega) (fun _ => rfl) (fun z10 ez10 => ?_)
          refine hxa_goto (by rfl) ?_
          exact ih30 x30_1 z10 A9 hA9 (frA9_0.trans ek30_0) (by omega) (by omega) (by omega)
  refine hxa_aload_n (by rfl) rfl ?_
  refine hxa_call0 (by rfl) (by rfl) (by rfl) (by rfl) (by rfl) (by rfl) (hX38q1 (d := d + 0) hA ) ?_
  rintro _ _ ⟨rfl, z11, rfl⟩
  refine hxa_bipush (by rfl) rfl ?_
  refine hxj_ceq (by rfl) rfl hk_20 (fun q12 => ?_) (fun q12 => ?_)
  ·
    refine hxa_aload_n (by rfl) rfl ?_
    refine hxa_get (v := .ref 22) (by rfl) (by rfl) (by rfl) rfl ?_
    refine hxa_get (v := .ref 24) (by rfl) (by rfl) (by rfl) rfl ?_
    refine hxa_aload_n (by rfl) rfl ?_
    refine hxj_getB (by rfl) (by rfl) (by rfl) hA (by rfl) (fun z13 ez13 fz13 gz13 => ?_)
    refine hxj_lald (by rfl) (by rfl) rfl (by omega) (by omega) (fun j14 ej14 => ?_)
    refine hxa_lstore_n (by rfl) rfl ?_
    refine hxa_iconst (by rfl) rfl ?_
    refine hxa_s1 (by rfl) (Or.inl ⟨_, rfl, rfl⟩) rfl ?_
    exact L30 (Int.toNat (9 - 0) + 1) j14 (Int32.ofNat 0) A hA rfl (by omega) (by omega) (by omega)
  ·
    refine hxa_aload_n (by rfl) rfl ?_
    refine hxa_iconst (by rfl) rfl ?_
    refine hxa_call0 (by rfl) (by rfl) (by rfl) (by rfl) (by rfl) (by rfl) (hX39q1 (d := d + 0) hA (Int32.ofNat 1)) ?_
    rintro _ A15 ⟨hA15, frA15_0, frA15_1, frA15_2, frA15_3, z16, rfl, fz16⟩
    exact hxa_ireturn (by rfl) (hn_fitB (by omega) (by omega)) (hP _ _ ⟨hA15, _, rfl, by omega⟩)
theorem hX44q1 {d : Nat} {Bn Br : Int} {A0 A : hs_A} (hA : hJ 1 Bn Br A0 A)  (fl0 : 0 ≤ (A.1 2 4).toInt) (fh0 : (A.1 2 4).toInt ≤ 9) : hxC (d + 2) 44 hm_m44 [.ref 21] A (fun r A' => hJ 1 Bn Br A0 A' ∧ ∃ z : Int32, r = some (.int z) ∧ ((0 ≤ z.toInt ∧ z.toInt ≤ 1))) := hxC.of (by rfl) (hY44q1 hA fl0 fh0 (fun r A' h => h))
theorem hY9q1 {d : Nat} {Bn Br : Int} {A0 A : hs_A} (hA : hJ 1 Bn Br A0 A)   {P : Option Value → hs_A → Prop} (hP : ∀ (r : Option Value) (A' : hs_A), (hJ 1 Bn Br A0 A' ∧ ∃ z : Int32, r = some (.int z)) → P r A') : hxa (d + 0) (some (.int)) hm_t9 0 [.ref 7] [] A P := by
  refine hxa_aload_n (by rfl) rfl ?_
  refine hxa_iconst (by rfl) rfl ?_
  refine hxj_putI (by rfl) (by rfl) (by rfl) (by rfl) hA (hbokN (by rfl)) (by rfl) (by rfl) (fun A1 hA1 eA1 fA1 => ?_)
  refine hxa_aload_n (by rfl) rfl ?_
  refine hxj_getB (by rfl) (by rfl) (by rfl) hA1 (by rfl) (fun z2 ez2 fz2 gz2 => ?_)
  exact hxa_ireturn (by rfl) rfl (hP _ _ ⟨hA1, _, rfl⟩)
theorem hX9q1 {d : Nat} {Bn Br : Int} {A0 A : hs_A} (hA : hJ 1 Bn Br A0 A)   : hxC (d + 1) 9 hm_m9 [.ref 7] A (fun r A' => hJ 1 Bn Br A0 A' ∧ ∃ z : Int32, r = some (.int z)) := hxC.of (by rfl) (hY9q1 hA  (fun r A' h => h))
theorem hY10q1 {d : Nat} {Bn Br : Int} {A0 A : hs_A} (hA : hJ 1 Bn Br A0 A)  (a1 : Int32) (p1 : 0 ≤ a1.toInt) (q1 : a1.toInt ≤ 3) (a2 : Int32) {P : Option Value → hs_A → Prop} (hP : ∀ (r : Option Value) (A' : hs_A), (hJ 1 Bn Br A0 A' ∧ r = none) → P r A') : hxa (d + 0) none hm_t10 0 [.ref 7, .int a1, .int a2] [] A P := by
  refine hxa_aload_n (by rfl) rfl ?_
  refine hxa_get (v := .ref 9) (by rfl) (by rfl) (by rfl) rfl ?_
  refine hxa_iload_n (by rfl) rfl ?_
  refine hxa_iload_n (by rfl) rfl ?_
  refine hxj_iast (by rfl) (by rfl) rfl (by omega) (by omega) hA (hbokN (by rfl)) (by rfl) (by rfl) (fun A1 hA1 eA1 fA1 gA1 => ?_)
  refine hxa_aload_n (by rfl) rfl ?_
  refine hxa_get (v := .ref 10) (by rfl) (by rfl) (by rfl) rfl ?_
  refine hxa_iload_n (by rfl) rfl ?_
  refine hxa_aload_n (by rfl) rfl ?_
  refine hxj_getI (by rfl) (by rfl) (by rfl) (fun z2 ez2 => ?_)
  refine hxj_iast (by rfl) (by rfl) rfl (by omega) (by omega) hA1 (hbokN (by rfl)) (by rfl) (by rfl) (fun A3 hA3 eA3 fA3 gA3 => ?_)
  exact hxa_return (by rfl) rfl (hP _ _ ⟨hA3, rfl⟩)
theorem hX10q1 {d : Nat} {Bn Br : Int} {A0 A : hs_A} (hA : hJ 1 Bn Br A0 A)  (a1 : Int32) (p1 : 0 ≤ a1.toInt) (q1 : a1.toInt ≤ 3) (a2 : Int32) : hxC (d + 1) 10 hm_m10 [.ref 7, .int a1, .int a2] A (fun r A' => hJ 1 Bn Br A0 A' ∧ r = none) := hxC.of (by rfl) (hY10q1 hA a1 p1 q1 a2 (fun r A' h => h))
theorem hY12q1 {d : Nat} {Bn Br : Int} {A0 A : hs_A} (hA : hJ 1 Bn Br A0 A)  (a1 : Int32) (p1 : 0 ≤ a1.toInt) (q1 : a1.toInt ≤ 7) (a2 : Int32) (x0 : ¬ a1.toInt = 1 ∨ (0 ≤ a2.toInt ∧ a2.toInt ≤ 8)) {P : Option Value → hs_A → Prop} (hP : ∀ (r : Option Value) (A' : hs_A), (hJ 1 Bn Br A0 A' ∧ ∃ z : Int32, r = some (.int z)) → P r A') : hxa (d + 0) (some (.int)) hm_t12 0 [.ref 7, .int a1, .int a2] [] A P := by
  have L17 : ∀ (Ac17 : hs_A) (hAc17 : hJ 1 Bn Br A0 Ac17), hxa (d + 0) (some (.int)) hm_t12 17 [.ref 7, .int a1, .int a2] [] Ac17 P := by
    intro Ac17 hAc17
    refine hxa_aload_n (by rfl) rfl ?_
    refine hxj_getB (by rfl) (by rfl) (by rfl) hAc17 (by rfl) (fun z1 ez1 fz1 gz1 => ?_)
    refine hxa_sipush (by rfl) rfl ?_
    refine hxj_cge (by rfl) rfl hk_408 (fun q2 => ?_) (fun q2 => ?_)
    ·
      refine hxa_aload_n (by rfl) rfl ?_
      refine hxj_getK (by rfl) (by rfl) (by rfl) ez1 ?_
      refine hxa_iconst (by rfl) rfl ?_
      refine hxj_isub (by rfl) rfl hk_1 (by omega) (by omega) (fun z3 ez3 => ?_)
      exact hxa_ireturn (by rfl) rfl (hP _ _ ⟨hAc17, _, rfl⟩)
    ·
      refine hxa_aload_n (by rfl) rfl ?_
      refine hxa_get (v := .ref 8) (by rfl) (by rfl) (by rfl) rfl ?_
      refine hxa_aload_n (by rfl) rfl ?_
      refine hxj_getK (by rfl) (by rfl) (by rfl) ez1 ?_
      refine hxa_iload_n (by rfl) rfl ?_
      refine hxa_iconst (by rfl) rfl ?_
      refine hxa_ishl (by rfl) (hn_top (fun z4 ez4 => ?_))
      refine hxa_iload_n (by rfl) rfl ?_
      refine hxa_ior (by rfl) (hn_top (fun z5 ez5 => ?_))
      refine hxj_iastV1 (by rfl) rfl (by omega) (by omega) hAc17 (hVadd ez4 ez5 (by omega) (by omega) (by omega)) (fun A6 hA6 eA6 fA6 gA6 => ?_)
      refine hxa_aload_n (by rfl) rfl ?_
      refine hxa_dupR (by rfl) ?_
      refine hxj_getK (by rfl) (by rfl) (by rfl) (hkA eA6 ez1) ?_
      refine hxa_iconst (by rfl) rfl ?_
      refine hxj_iadd (by rfl) rfl hk_1 (by omega) (by omega) (fun z7 ez7 => ?_)
      refine hxj_putI (by rfl) (by rfl) (by rfl) (by rfl) hA6 (hbok (by rfl) rfl (by omega) (by omega)) (by rfl) (by rfl) (fun A8 hA8 eA8 fA8 => ?_)
      refine hxa_aload_n (by rfl) rfl ?_
      refine hxj_getK (by rfl) (by rfl) (by rfl) (hkS eA8) ?_
      refine hxa_iconst (by rfl) rfl ?_
      refine hxj_isub (by rfl) rfl hk_1 (by omega) (by omega) (fun z9 ez9 => ?_)
      exact hxa_ireturn (by rfl) rfl (hP _ _ ⟨hA8, _, rfl⟩)
  refine hxa_iload_n (by rfl) rfl ?_
  refine hxa_iconst (by rfl) rfl ?_
  refine hxj_cne (by rfl) rfl hk_1 (fun q10 => ?_) (fun q10 => ?_)
  ·
    exact L17 A hA
  ·
    refine hxa_aload_n (by rfl) rfl ?_
    refine hxa_dupR (by rfl) ?_
    refine hxj_getI (by rfl) (by rfl) (by rfl) (fun z11 ez11 => ?_)
    refine hxa_iconst (by rfl) rfl ?_
    refine hxa_iload_n (by rfl) rfl ?_
    refine hxj_ishlU (by rfl) (fun z12 => ?_)
    refine hxj_iorU (by rfl) (fun z13 => ?_)
    refine hxj_putI (by rfl) (by rfl) (by rfl) (by rfl) hA (hbokN (by rfl)) (by rfl) (by rfl) (fun A14 hA14 eA14 fA14 => ?_)
    exact L17 A14 hA14
theorem hX12q1 {d : Nat} {Bn Br : Int} {A0 A : hs_A} (hA : hJ 1 Bn Br A0 A)  (a1 : Int32) (p1 : 0 ≤ a1.toInt) (q1 : a1.toInt ≤ 7) (a2 : Int32) (x0 : ¬ a1.toInt = 1 ∨ (0 ≤ a2.toInt ∧ a2.toInt ≤ 8)) : hxC (d + 1) 12 hm_m12 [.ref 7, .int a1, .int a2] A (fun r A' => hJ 1 Bn Br A0 A' ∧ ∃ z : Int32, r = some (.int z)) := hxC.of (by rfl) (hY12q1 hA a1 p1 q1 a2 x0 (fun r A' h => h))
theorem hY13q1 {d : Nat} {Bn Br : Int} {A0 A : hs_A} (hA : hJ 1 Bn Br A0 A)  (a1 : Int32) {P : Option Value → hs_A → Prop} (hP : ∀ (r : Option Value) (A' : hs_A), (hJ 1 Bn Br A0 A' ∧ r = none) → P r A') : hxa (d + 0) none hm_t13 0 [.ref 7, .int a1] [] A P := by
  have k6 := hk_6
  refine hxa_iload_n (by rfl) rfl ?_
  refine hxj_zlt (by rfl) rfl (fun q1 => ?_) (fun q1 => ?_)
  ·
    exact hxa_return (by rfl) rfl (hP _ _ ⟨hA, rfl⟩)
  ·
    refine hxa_iload_n (by rfl) rfl ?_
    refine hxa_aload_n (by rfl) rfl ?_
    refine hxj_getB (by rfl) (by rfl) (by rfl) hA (by rfl) (fun z2 ez2 fz2 gz2 => ?_)
    have rga1 := hn_rng a1
    refine hxj_cge (by rfl) rfl rfl (fun q3 => ?_) (fun q3 => ?_)
    ·
      exact hxa_return (by rfl) rfl (hP _ _ ⟨hA, rfl⟩)
    ·
      refine hxa_aload_n (by rfl) rfl ?_
      refine hxa_get (v := .ref 8) (by rfl) (by rfl) (by rfl) rfl ?_
      refine hxa_iload_n (by rfl) rfl ?_
      refine hxa_aload_n (by rfl) rfl ?_
      refine hxj_getK (by rfl) (by rfl) (by rfl) ez2 ?_
      refine hxa_iconst (by rfl) rfl ?_
      refine hxa_ishl (by rfl) (hn_top (fun z4 ez4 => ?_))
      refine hxa_bipush (by rfl) rfl ?_
      refine hxa_ior (by rfl) (hn_top (fun z5 ez5 => ?_))
      refine hxj_iastV1 (by rfl) rfl (by omega) (by omega) hA (hVadd ez4 ez5 (by omega) (by omega) (by omega)) (fun A6 hA6 eA6 fA6 gA6 => ?_)
      exact hxa_return (by rfl) rfl (hP _ _ ⟨hA6, rfl⟩)
theorem hX13q1 {d : Nat} {Bn Br : Int} {A0 A : hs_A} (hA : hJ 1 Bn Br A0 A)  (a1 : Int32) : hxC (d + 1) 13 hm_m13 [.ref 7, .int a1] A (fun r A' => hJ 1 Bn Br A0 A' ∧ r = none) := hxC.of (by rfl) (hY13q1 hA a1 (fun r A' h => h))
theorem hY55q1 {d : Nat} {Bn Br : Int} {A0 A : hs_A} (hA : hJ 1 Bn Br A0 A)  (a1 : Int32) (a2 : Int32) {P : Option Value → hs_A → Prop} (hP : ∀ (r : Option Value) (A' : hs_A), (hJ 1 Bn Br A0 A' ∧ r = none) → P r A') : hxa (d + 0) none hm_t55 0 [.ref 3, .int a1, .int a2] [] A P := by
  refine hxa_aload_n (by rfl) rfl ?_
  refine hxj_getB (by rfl) (by rfl) (by rfl) hA (by rfl) (fun z1 ez1 fz1 gz1 => ?_)
  refine hxa_bipush (by rfl) rfl ?_
  refine hxj_cge (by rfl) rfl hk_10 (fun q2 => ?_) (fun q2 => ?_)
  ·
    exact hxa_return (by rfl) rfl (hP _ _ ⟨hA, rfl⟩)
  ·
    refine hxa_aload_n (by rfl) rfl ?_
    refine hxa_get (v := .ref 4) (by rfl) (by rfl) (by rfl) rfl ?_
    refine hxa_aload_n (by rfl) rfl ?_
    refine hxj_getK (by rfl) (by rfl) (by rfl) ez1 ?_
    refine hxa_iload_n (by rfl) rfl ?_
    refine hxj_iast (by rfl) (by rfl) rfl (by omega) (by omega) hA (hbokN (by rfl)) (by rfl) (by rfl) (fun A3 hA3 eA3 fA3 gA3 => ?_)
    refine hxa_aload_n (by rfl) rfl ?_
    refine hxa_get (v := .ref 5) (by rfl) (by rfl) (by rfl) rfl ?_
    refine hxa_aload_n (by rfl) rfl ?_
    refine hxj_getK (by rfl) (by rfl) (by rfl) (hkA eA3 ez1) ?_
    refine hxa_iload_n (by rfl) rfl ?_
    refine hxj_iast (by rfl) (by rfl) rfl (by omega) (by omega) hA3 (hbokN (by rfl)) (by rfl) (by rfl) (fun A4 hA4 eA4 fA4 gA4 => ?_)
    refine hxa_aload_n (by rfl) rfl ?_
    refine hxa_dupR (by rfl) ?_
    refine hxj_getK (by rfl) (by rfl) (by rfl) (hkA eA4 (hkA eA3 ez1)) ?_
    refine hxa_iconst (by rfl) rfl ?_
    refine hxj_iadd (by rfl) rfl hk_1 (by omega) (by omega) (fun z5 ez5 => ?_)
    refine hxj_putI (by rfl) (by rfl) (by rfl) (by rfl) hA4 (hbok (by rfl) rfl (by omega) (by omega)) (by rfl) (by rfl) (fun A6 hA6 eA6 fA6 => ?_)
    exact hxa_return (by rfl) rfl (hP _ _ ⟨hA6, rfl⟩)
theorem hX55q1 {d : Nat} {Bn Br : Int} {A0 A : hs_A} (hA : hJ 1 Bn Br A0 A)  (a1 : Int32) (a2 : Int32) : hxC (d + 1) 55 hm_m55 [.ref 3, .int a1, .int a2] A (fun r A' => hJ 1 Bn Br A0 A' ∧ r = none) := hxC.of (by rfl) (hY55q1 hA a1 a2 (fun r A' h => h))
theorem hY56q1 {d : Nat} {Bn Br : Int} {A0 A : hs_A} (hA : hJ 1 Bn Br A0 A)  (a1 : Int32) (a2 : Int32) (x0 : ¬ (A.1 20 7).toInt = 0 ∨ (0 ≤ a2.toInt ∧ a2.toInt ≤ 255)) {P : Option Value → hs_A → Prop} (hP : ∀ (r : Option Value) (A' : hs_A), (hJ 1 Bn Br A0 A' ∧ r = none) → P r A') : hxa (d + 1) none hm_t56 0 [.ref 3, .int a1, .int a2] [] A P := by
  have k0 := hk_0
  have k23 := hk_23
  refine hxa_iload_n (by rfl) rfl ?_
  refine hxa_iconst (by rfl) rfl ?_
  refine hxa_bipush (by rfl) rfl ?_
  refine hxa_call2 (by rfl) (by decide) (by rfl) (by rfl) (by rfl) (hX78 (d := d + 0)  a1 (Int32.ofNat 0) (Int32.ofNat 23)) ?_
  rintro _ _ ⟨rfl, z1, rfl, fz1⟩
  rcases fz1 with fz1 | fz1
  ·
    refine hxj_zeq (by rfl) rfl (fun q2 => False.elim (by omega)) (fun q2 => ?_)
    refine hxa_aload_n (by rfl) rfl ?_
    refine hxa_get (v := .ref 6) (by rfl) (by rfl) (by rfl) rfl ?_
    refine hxa_iload_n (by rfl) rfl ?_
    refine hxa_iload_n (by rfl) rfl ?_
    refine hxj_iastP1 (by rfl) rfl (by omega) (by omega) rfl hA x0 (fun A3 hA3 eA3 fA3 gA3 => ?_)
    refine hxa_aload_n (by rfl) rfl ?_
    refine hxa_dupR (by rfl) ?_
    refine hxj_getI (by rfl) (by rfl) (by rfl) (fun z4 ez4 => ?_)
    refine hxa_iconst (by rfl) rfl ?_
    refine hxj_iaddU (by rfl) (fun z5 => ?_)
    refine hxj_putI (by rfl) (by rfl) (by rfl) (by rfl) hA3 (hbokN (by rfl)) (by rfl) (by rfl) (fun A6 hA6 eA6 fA6 => ?_)
    exact hxa_return (by rfl) rfl (hP _ _ ⟨hA6, rfl⟩)
  ·
    refine hxj_zeq (by rfl) rfl (fun q7 => ?_) (fun q7 => False.elim (by omega))
    refine hxa_aload_n (by rfl) rfl ?_
    refine hxa_dupR (by rfl) ?_
    refine hxj_getI (by rfl) (by rfl) (by rfl) (fun z8 ez8 => ?_)
    refine hxa_iconst (by rfl) rfl ?_
    refine hxj_iaddU (by rfl) (fun z9 => ?_)
    refine hxj_putI (by rfl) (by rfl) (by rfl) (by rfl) hA (hbokN (by rfl)) (by rfl) (by rfl) (fun A10 hA10 eA10 fA10 => ?_)
    exact hxa_return (by rfl) rfl (hP _ _ ⟨hA10, rfl⟩)
theorem hX56q1 {d : Nat} {Bn Br : Int} {A0 A : hs_A} (hA : hJ 1 Bn Br A0 A)  (a1 : Int32) (a2 : Int32) (x0 : ¬ (A.1 20 7).toInt = 0 ∨ (0 ≤ a2.toInt ∧ a2.toInt ≤ 255)) : hxC (d + 2) 56 hm_m56 [.ref 3, .int a1, .int a2] A (fun r A' => hJ 1 Bn Br A0 A' ∧ r = none) := hxC.of (by rfl) (hY56q1 hA a1 a2 x0 (fun r A' h => h))
theorem hY45q1 {d : Nat} {Bn Br : Int} {A0 A : hs_A} (hA : hJ 1 Bn Br A0 A)   {P : Option Value → hs_A → Prop} (hP : ∀ (r : Option Value) (A' : hs_A), (hJ 1 Bn Br A0 A' ∧ ∃ z : Int32, r = some (.int z) ∧ ((0 ≤ z.toInt ∧ z.toInt ≤ 1))) → P r A') : hxa (d + 2) (some (.boolean)) hm_t45 0 [.ref 21, .retAddr 0] [] A P := by
  have k0 := hk_0
  have k1 := hk_1
  have k2 := hk_2
  have k24 := hk_24
  have k255 := hk_255
  have k99 := hk_99
  refine hxa_aload_n (by rfl) rfl ?_
  refine hxj_getT (by rfl) (by rfl) (by rfl) hA.rt1 ?_
  refine hxj_getB (by rfl) (by rfl) (by rfl) hA (by rfl) (fun z1 ez1 fz1 gz1 => ?_)
  refine hxa_bipush (by rfl) rfl ?_
  refine hxj_clt (by rfl) rfl hk_10 (fun q2 => ?_) (fun q2 => ?_)
  ·
    refine hxa_aload_n (by rfl) rfl ?_
    refine hxa_call0 (by rfl) (by rfl) (by rfl) (by rfl) (by rfl) (by rfl) (hX41q1 (d := d + 1) hA ) ?_
    rintro _ A3 ⟨hA3, frA3_0, frA3_1, frA3_2, z4, rfl, fz4⟩
    refine hxj_zeq (by rfl) rfl (fun q5 => ?_) (fun q5 => ?_)
    ·
      refine hxa_iconst (by rfl) rfl ?_
      exact hxa_ireturn (by rfl) (by rfl) (hP _ _ ⟨hA3, _, rfl, by omega⟩)
    ·
      refine hxa_aload_n (by rfl) rfl ?_
      refine hxa_call0 (by rfl) (by rfl) (by rfl) (by rfl) (by rfl) (by rfl) (hX44q1 (d := d + 0) hA3 (by rw [(show A3.1 2 4 = z1 from (frA3_0.trans ez1))]; omega) (by rw [(show A3.1 2 4 = z1 from (frA3_0.trans ez1))]; omega)) ?_
      rintro _ A6 ⟨hA6, z7, rfl, fz7⟩
      refine hxj_zeq (by rfl) rfl (fun q8 => ?_) (fun q8 => ?_)
      ·
        refine hxa_iconst (by rfl) rfl ?_
        exact hxa_ireturn (by rfl) (by rfl) (hP _ _ ⟨hA6, _, rfl, by omega⟩)
      ·
        refine hxa_aload_n (by rfl) rfl ?_
        refine hxa_iconst (by rfl) rfl ?_
        refine hxa_sipush (by rfl) rfl ?_
        refine hxa_call0 (by rfl) (by rfl) (by rfl) (by rfl) (by rfl) (by rfl) (hX43q1 (d := d + 0) hA6 (Int32.ofNat 0) (Int32.ofNat 255)) ?_
        rintro _ A9 ⟨hA9, frA9_0, z10, rfl, fz10⟩
        refine hxj_zne (by rfl) rfl (fun q11 => ?_) (fun q11 => ?_)
        ·
          refine hxa_aload_n (by rfl) rfl ?_
          refine hxj_getK (by rfl) (by rfl) (by rfl) rfl ?_
          refine hxa_s1 (by rfl) (Or.inl ⟨_, rfl, rfl⟩) rfl ?_
          refine hxa_aload_n (by rfl) rfl ?_
          refine hxa_iconst (by rfl) rfl ?_
          refine hxa_bipush (by rfl) rfl ?_
          refine hxa_call0 (by rfl) (by rfl) (by rfl) (by rfl) (by rfl) (by rfl) (hX43q1 (d := d + 0) hA9 (Int32.ofNat 0) (Int32.ofNat 99)) ?_
          rintro _ A12 ⟨hA12, frA12_0, z13, rfl, fz13⟩
          refine hxj_zeq (by rfl) rfl (fun q14 => ?_) (fun q14 => ?_)
          ·
            refine hxa_iconst (by rfl) rfl ?_
            exact hxa_ireturn (by rfl) (by rfl) (hP _ _ ⟨hA12, _, rfl, by omega⟩)
          ·
            refine hxa_aload_n (by rfl) rfl ?_
            refine hxa_bipush (by rfl) rfl ?_
            refine hxa_call0 (by rfl) (by rfl) (by rfl) (by rfl) (by rfl) (by rfl) (hX42q1 (d := d + 0) hA12 (Int32.ofNat 24)) ?_
            rintro _ A15 ⟨hA15, frA15_0, frA15_1, frA15_2, z16, rfl, fz16⟩
            refine hxj_zne (by rfl) rfl (fun q17 => ?_) (fun q17 => ?_)
            ·
              refine hxa_aload_n (by rfl) rfl ?_
              refine hxj_getT (by rfl) (by rfl) (by rfl) hA15.rt1 ?_
              refine hxa_iload_n (by rfl) rfl ?_
              refine hxa_aload_n (by rfl) rfl ?_
              refine hxj_getK (by rfl) (by rfl) (by rfl) (frA15_1.trans rfl) ?_
              refine hxa_call0 (by rfl) (by rfl) (by rfl) (by rfl) (by rfl) (by rfl) (hX55q1 (d := d + 1) hA15 (A9.1 20 4) (A12.1 20 4)) ?_
              rintro _ A18 ⟨hA18, rfl⟩
              refine hxa_iconst (by rfl) rfl ?_
              exact hxa_ireturn (by rfl) (by rfl) (hP _ _ ⟨hA18, _, rfl, by omega⟩)
            ·
              refine hxa_iconst (by rfl) rfl ?_
              exact hxa_ireturn (by rfl) (by rfl) (hP _ _ ⟨hA15, _, rfl, by omega⟩)
        ·
          refine hxa_iconst (by rfl) rfl ?_
          exact hxa_ireturn (by rfl) (by rfl) (hP _ _ ⟨hA9, _, rfl, by omega⟩)
  ·
    refine hxa_aload_n (by rfl) rfl ?_
    refine hxa_iconst (by rfl) rfl ?_
    refine hxa_call0 (by rfl) (by rfl) (by rfl) (by rfl) (by rfl) (by rfl) (hX39q1 (d := d + 1) hA (Int32.ofNat 2)) ?_
    rintro _ A19 ⟨hA19, frA19_0, frA19_1, frA19_2, frA19_3, z20, rfl, fz20⟩
    exact hxa_ireturn (by rfl) (hn_fitB (by omega) (by omega)) (hP _ _ ⟨hA19, _, rfl, by omega⟩)
theorem hX45q1 {d : Nat} {Bn Br : Int} {A0 A : hs_A} (hA : hJ 1 Bn Br A0 A)   : hxC (d + 3) 45 hm_m45 [.ref 21] A (fun r A' => hJ 1 Bn Br A0 A' ∧ ∃ z : Int32, r = some (.int z) ∧ ((0 ≤ z.toInt ∧ z.toInt ≤ 1))) := hxC.of (by rfl) (hY45q1 hA  (fun r A' h => h))
theorem hY46q1 {d : Nat} {Bn Br : Int} {A0 A : hs_A} (hA : hJ 1 Bn Br A0 A)   {P : Option Value → hs_A → Prop} (hP : ∀ (r : Option Value) (A' : hs_A), (hJ 1 Bn Br A0 A' ∧ ∃ z : Int32, r = some (.int z) ∧ ((0 ≤ z.toInt ∧ z.toInt ≤ 1))) → P r A') : hxa (d + 2) (some (.boolean)) hm_t46 0 [.ref 21, .retAddr 0] [] A P := by
  have k0 := hk_0
  have k1 := hk_1
  have k2 := hk_2
  have k23 := hk_23
  have k24 := hk_24
  have k255 := hk_255
  refine hxa_aload_n (by rfl) rfl ?_
  refine hxj_getT (by rfl) (by rfl) (by rfl) hA.rt1 ?_
  refine hxj_getI (by rfl) (by rfl) (by rfl) (fun z1 ez1 => ?_)
  refine hxa_bipush (by rfl) rfl ?_
  refine hxj_clt (by rfl) rfl hk_8 (fun q2 => ?_) (fun q2 => ?_)
  ·
    refine hxa_aload_n (by rfl) rfl ?_
    refine hxa_call0 (by rfl) (by rfl) (by rfl) (by rfl) (by rfl) (by rfl) (hX41q1 (d := d + 1) hA ) ?_
    rintro _ A3 ⟨hA3, frA3_0, frA3_1, frA3_2, z4, rfl, fz4⟩
    refine hxj_zeq (by rfl) rfl (fun q5 => ?_) (fun q5 => ?_)
    ·
      refine hxa_iconst (by rfl) rfl ?_
      exact hxa_ireturn (by rfl) (by rfl) (hP _ _ ⟨hA3, _, rfl, by omega⟩)
    ·
      refine hxa_aload_n (by rfl) rfl ?_
      refine hxa_iconst (by rfl) rfl ?_
      refine hxa_bipush (by rfl) rfl ?_
      refine hxa_call0 (by rfl) (by rfl) (by rfl) (by rfl) (by rfl) (by rfl) (hX43q1 (d := d + 0) hA3 (Int32.ofNat 0) (Int32.ofNat 23)) ?_
      rintro _ A6 ⟨hA6, frA6_0, z7, rfl, fz7⟩
      refine hxj_zne (by rfl) rfl (fun q8 => ?_) (fun q8 => ?_)
      ·
        refine hxa_aload_n (by rfl) rfl ?_
        refine hxj_getK (by rfl) (by rfl) (by rfl) rfl ?_
        refine hxa_s1 (by rfl) (Or.inl ⟨_, rfl, rfl⟩) rfl ?_
        refine hxa_aload_n (by rfl) rfl ?_
        refine hxa_iconst (by rfl) rfl ?_
        refine hxa_sipush (by rfl) rfl ?_
        refine hxa_call0 (by rfl) (by rfl) (by rfl) (by rfl) (by rfl) (by rfl) (hX43q1 (d := d + 0) hA6 (Int32.ofNat 0) (Int32.ofNat 255)) ?_
        rintro _ A9 ⟨hA9, frA9_0, z10, rfl, fz10⟩
        refine hxj_zeq (by rfl) rfl (fun q11 => ?_) (fun q11 => ?_)
        ·
          refine hxa_iconst (by rfl) rfl ?_
          exact hxa_ireturn (by rfl) (by rfl) (hP _ _ ⟨hA9, _, rfl, by omega⟩)
        ·
          refine hxa_aload_n (by rfl) rfl ?_
          refine hxa_bipush (by rfl) rfl ?_
          refine hxa_call0 (by rfl) (by rfl) (by rfl) (by rfl) (by rfl) (by rfl) (hX42q1 (d := d + 0) hA9 (Int32.ofNat 24)) ?_
          rintro _ A12 ⟨hA12, frA12_0, frA12_1, frA12_2, z13, rfl, fz13⟩
          refine hxj_zne (by rfl) rfl (fun q14 => ?_) (fun q14 => ?_)
          ·
            refine hxa_aload_n (by rfl) rfl ?_
            refine hxj_getT (by rfl) (by rfl) (by rfl) hA12.rt1 ?_
            refine hxa_iload_n (by rfl) rfl ?_
            refine hxa_aload_n (by rfl) rfl ?_
            refine hxj_getK (by rfl) (by rfl) (by rfl) (frA12_1.trans rfl) ?_
            refine hxa_call0 (by rfl) (by rfl) (by rfl) (by rfl) (by rfl) (by rfl) (hX56q1 (d := d + 0) hA12 (A6.1 20 4) (A9.1 20 4) (by rw [(show A12.1 20 7 = (A9.1 20 7) from (frA12_2.trans rfl))]; omega)) ?_
            rintro _ A15 ⟨hA15, rfl⟩
            refine hxa_iconst (by rfl) rfl ?_
            exact hxa_ireturn (by rfl) (by rfl) (hP _ _ ⟨hA15, _, rfl, by omega⟩)
          ·
            refine hxa_iconst (by rfl) rfl ?_
            exact hxa_ireturn (by rfl) (by rfl) (hP _ _ ⟨hA12, _, rfl, by omega⟩)
      ·
        refine hxa_iconst (by rfl) rfl ?_
        exact hxa_ireturn (by rfl) (by rfl) (hP _ _ ⟨hA6, _, rfl, by omega⟩)
  ·
    refine hxa_aload_n (by rfl) rfl ?_
    refine hxa_iconst (by rfl) rfl ?_
    refine hxa_call0 (by rfl) (by rfl) (by rfl) (by rfl) (by rfl) (by rfl) (hX39q1 (d := d + 1) hA (Int32.ofNat 2)) ?_
    rintro _ A16 ⟨hA16, frA16_0, frA16_1, frA16_2, frA16_3, z17, rfl, fz17⟩
    exact hxa_ireturn (by rfl) (hn_fitB (by omega) (by omega)) (hP _ _ ⟨hA16, _, rfl, by omega⟩)
theorem hX46q1 {d : Nat} {Bn Br : Int} {A0 A : hs_A} (hA : hJ 1 Bn Br A0 A)   : hxC (d + 3) 46 hm_m46 [.ref 21] A (fun r A' => hJ 1 Bn Br A0 A' ∧ ∃ z : Int32, r = some (.int z) ∧ ((0 ≤ z.toInt ∧ z.toInt ≤ 1))) := hxC.of (by rfl) (hY46q1 hA  (fun r A' h => h))
theorem hY47q1 {d : Nat} {Bn Br : Int} {A0 A : hs_A} (hA : hJ 1 Bn Br A0 A)   {P : Option Value → hs_A → Prop} (hP : ∀ (r : Option Value) (A' : hs_A), (hJ 1 Bn Br A0 A' ∧ ∃ z : Int32, r = some (.int z) ∧ ((0 ≤ z.toInt ∧ z.toInt ≤ 1))) → P r A') : hxa (d + 2) (some (.boolean)) hm_t47 0 [.ref 21] [] A P := by
  have k0 := hk_0
  have k1 := hk_1
  have k24 := hk_24
  have k99 := hk_99
  refine hxa_aload_n (by rfl) rfl ?_
  refine hxa_call0 (by rfl) (by rfl) (by rfl) (by rfl) (by rfl) (by rfl) (hX41q1 (d := d + 1) hA ) ?_
  rintro _ A1 ⟨hA1, frA1_0, frA1_1, frA1_2, z2, rfl, fz2⟩
  refine hxj_zeq (by rfl) rfl (fun q3 => ?_) (fun q3 => ?_)
  ·
    refine hxa_iconst (by rfl) rfl ?_
    exact hxa_ireturn (by rfl) (by rfl) (hP _ _ ⟨hA1, _, rfl, by omega⟩)
  ·
    refine hxa_aload_n (by rfl) rfl ?_
    refine hxa_iconst (by rfl) rfl ?_
    refine hxa_bipush (by rfl) rfl ?_
    refine hxa_call0 (by rfl) (by rfl) (by rfl) (by rfl) (by rfl) (by rfl) (hX43q1 (d := d + 0) hA1 (Int32.ofNat 1) (Int32.ofNat 99)) ?_
    rintro _ A4 ⟨hA4, frA4_0, z5, rfl, fz5⟩
    refine hxj_zeq (by rfl) rfl (fun q6 => ?_) (fun q6 => ?_)
    ·
      refine hxa_iconst (by rfl) rfl ?_
      exact hxa_ireturn (by rfl) (by rfl) (hP _ _ ⟨hA4, _, rfl, by omega⟩)
    ·
      refine hxa_aload_n (by rfl) rfl ?_
      refine hxa_bipush (by rfl) rfl ?_
      refine hxa_call0 (by rfl) (by rfl) (by rfl) (by rfl) (by rfl) (by rfl) (hX42q1 (d := d + 0) hA4 (Int32.ofNat 24)) ?_
      rintro _ A7 ⟨hA7, frA7_0, frA7_1, frA7_2, z8, rfl, fz8⟩
      refine hxj_zne (by rfl) rfl (fun q9 => ?_) (fun q9 => ?_)
      ·
        refine hxa_aload_n (by rfl) rfl ?_
        refine hxj_getT (by rfl) (by rfl) (by rfl) hA7.rt1 ?_
        refine hxa_aload_n (by rfl) rfl ?_
        refine hxj_getK (by rfl) (by rfl) (by rfl) (frA7_1.trans rfl) ?_
        refine hxj_putI (by rfl) (by rfl) (by rfl) (by rfl) hA7 (hbokN (by rfl)) (by rfl) (by rfl) (fun A10 hA10 eA10 fA10 => ?_)
        refine hxa_iconst (by rfl) rfl ?_
        exact hxa_ireturn (by rfl) (by rfl) (hP _ _ ⟨hA10, _, rfl, by omega⟩)
      ·
        refine hxa_iconst (by rfl) rfl ?_
        exact hxa_ireturn (by rfl) (by rfl) (hP _ _ ⟨hA7, _, rfl, by omega⟩)
theorem hX47q1 {d : Nat} {Bn Br : Int} {A0 A : hs_A} (hA : hJ 1 Bn Br A0 A)   : hxC (d + 3) 47 hm_m47 [.ref 21] A (fun r A' => hJ 1 Bn Br A0 A' ∧ ∃ z : Int32, r = some (.int z) ∧ ((0 ≤ z.toInt ∧ z.toInt ≤ 1))) := hxC.of (by rfl) (hY47q1 hA  (fun r A' h => h))
theorem hY48q1 {d : Nat} {Bn Br : Int} {A0 A : hs_A} (hA : hJ 1 Bn Br A0 A)   {P : Option Value → hs_A → Prop} (hP : ∀ (r : Option Value) (A' : hs_A), (hJ 1 Bn Br A0 A' ∧ ∃ z : Int32, r = some (.int z) ∧ ((0 ≤ z.toInt ∧ z.toInt ≤ 1))) → P r A') : hxa (d + 2) (some (.boolean)) hm_t48 0 [.ref 21] [] A P := by
  have k0 := hk_0
  have k1 := hk_1
  have k24 := hk_24
  have k9999 := hk_9999
  refine hxa_aload_n (by rfl) rfl ?_
  refine hxa_call0 (by rfl) (by rfl) (by rfl) (by rfl) (by rfl) (by rfl) (hX41q1 (d := d + 1) hA ) ?_
  rintro _ A1 ⟨hA1, frA1_0, frA1_1, frA1_2, z2, rfl, fz2⟩
  refine hxj_zeq (by rfl) rfl (fun q3 => ?_) (fun q3 => ?_)
  ·
    refine hxa_iconst (by rfl) rfl ?_
    exact hxa_ireturn (by rfl) (by rfl) (hP _ _ ⟨hA1, _, rfl, by omega⟩)
  ·
    refine hxa_aload_n (by rfl) rfl ?_
    refine hxa_iconst (by rfl) rfl ?_
    refine hxa_sipush (by rfl) rfl ?_
    refine hxa_call0 (by rfl) (by rfl) (by rfl) (by rfl) (by rfl) (by rfl) (hX43q1 (d := d + 0) hA1 (Int32.ofNat 0) (Int32.ofNat 9999)) ?_
    rintro _ A4 ⟨hA4, frA4_0, z5, rfl, fz5⟩
    refine hxj_zeq (by rfl) rfl (fun q6 => ?_) (fun q6 => ?_)
    ·
      refine hxa_iconst (by rfl) rfl ?_
      exact hxa_ireturn (by rfl) (by rfl) (hP _ _ ⟨hA4, _, rfl, by omega⟩)
    ·
      refine hxa_aload_n (by rfl) rfl ?_
      refine hxa_bipush (by rfl) rfl ?_
      refine hxa_call0 (by rfl) (by rfl) (by rfl) (by rfl) (by rfl) (by rfl) (hX42q1 (d := d + 0) hA4 (Int32.ofNat 24)) ?_
      rintro _ A7 ⟨hA7, frA7_0, frA7_1, frA7_2, z8, rfl, fz8⟩
      refine hxj_zne (by rfl) rfl (fun q9 => ?_) (fun q9 => ?_)
      ·
        refine hxa_aload_n (by rfl) rfl ?_
        refine hxj_getT (by rfl) (by rfl) (by rfl) hA7.rt1 ?_
        refine hxa_aload_n (by rfl) rfl ?_
        refine hxj_getK (by rfl) (by rfl) (by rfl) (frA7_1.trans rfl) ?_
        refine hxj_putI (by rfl) (by rfl) (by rfl) (by rfl) hA7 (hbokN (by rfl)) (by rfl) (by rfl) (fun A10 hA10 eA10 fA10 => ?_)
        refine hxa_iconst (by rfl) rfl ?_
        exact hxa_ireturn (by rfl) (by rfl) (hP _ _ ⟨hA10, _, rfl, by omega⟩)
      ·
        refine hxa_iconst (by rfl) rfl ?_
        exact hxa_ireturn (by rfl) (by rfl) (hP _ _ ⟨hA7, _, rfl, by omega⟩)
theorem hX48q1 {d : Nat} {Bn Br : Int} {A0 A : hs_A} (hA : hJ 1 Bn Br A0 A)   : hxC (d + 3) 48 hm_m48 [.ref 21] A (fun r A' => hJ 1 Bn Br A0 A' ∧ ∃ z : Int32, r = some (.int z) ∧ ((0 ≤ z.toInt ∧ z.toInt ≤ 1))) := hxC.of (by rfl) (hY48q1 hA  (fun r A' h => h))
theorem hY52q1_6 {d : Nat} {Bn Br : Int} {A0 A : hs_A} (hA : hJ 1 Bn Br A0 A)  (a1 : Int32) (p1 : 6 ≤ a1.toInt) (q1 : a1.toInt ≤ 6) {P : Option Value → hs_A → Prop} (hP : ∀ (r : Option Value) (A' : hs_A), (hJ 1 Bn Br A0 A' ∧ ∃ z : Int32, r = some (.int z) ∧ ((0 ≤ z.toInt ∧ z.toInt ≤ 1))) → P r A') : hxa (d + 2) (some (.boolean)) hm_t52 0 [.ref 21, .int a1, .retAddr 0] [] A P := by
  have k0 := hk_0
  have k1 := hk_1
  have k11 := hk_11
  have k19 := hk_19
  have k2 := hk_2
  refine hxa_aload_n (by rfl) rfl ?_
  refine hxa_call0 (by rfl) (by rfl) (by rfl) (by rfl) (by rfl) (by rfl) (hX38q1 (d := d + 1) hA ) ?_
  rintro _ _ ⟨rfl, z1, rfl⟩
  refine hxa_s1 (by rfl) (Or.inl ⟨_, rfl, rfl⟩) rfl ?_
  refine hxa_iload_n (by rfl) rfl ?_
  refine hxa_bipush (by rfl) rfl ?_
  refine hxj_cne (by rfl) rfl hk_21 (fun q2 => ?_) (fun q2 => ?_)
  ·
    refine hxa_iload_n (by rfl) rfl ?_
    refine hxa_bipush (by rfl) rfl ?_
    refine hxa_bipush (by rfl) rfl ?_
    refine hxa_call2 (by rfl) (by decide) (by rfl) (by rfl) (by rfl) (hX78 (d := d + 1)  z1 (Int32.ofNat 11) (Int32.ofNat 19)) ?_
    rintro _ _ ⟨rfl, z3, rfl, fz3⟩
    rcases fz3 with fz3 | fz3
    ·
      refine hxj_zeq (by rfl) rfl (fun q4 => False.elim (by omega)) (fun q4 => ?_)
      refine hxa_aload_n (by rfl) rfl ?_
      refine hxj_getT (by rfl) (by rfl) (by rfl) hA.rt1 ?_
      refine hxa_get (v := .ref 7) (by rfl) (by rfl) (by rfl) rfl ?_
      refine hxa_iconst (by rfl) rfl ?_
      refine hxa_iload_n (by rfl) rfl ?_
      refine hxa_bipush (by rfl) rfl ?_
      refine hxj_isub (by rfl) rfl hk_11 (by omega) (by omega) (fun z5 ez5 => ?_)
      refine hxa_call0 (by rfl) (by rfl) (by rfl) (by rfl) (by rfl) (by rfl) (hX12q1 (d := d + 1) hA (Int32.ofNat 1) (by omega) (by omega) z5 (by omega)) ?_
      rintro _ A6 ⟨hA6, z7, rfl⟩
      refine hxa_popI (by rfl) ?_
      refine hxa_aload_n (by rfl) rfl ?_
      refine hxa_call0 (by rfl) (by rfl) (by rfl) (by rfl) (by rfl) (by rfl) (hX41q1 (d := d + 1) hA6 ) ?_
      rintro _ A8 ⟨hA8, frA8_0, frA8_1, frA8_2, z9, rfl, fz9⟩
      exact hxa_ireturn (by rfl) (hn_fitB (by omega) (by omega)) (hP _ _ ⟨hA8, _, rfl, by omega⟩)
    ·
      refine hxj_zeq (by rfl) rfl (fun q10 => ?_) (fun q10 => False.elim (by omega))
      refine hxa_iload_n (by rfl) rfl ?_
      refine hxa_bipush (by rfl) rfl ?_
      refine hxj_ceq (by rfl) rfl hk_31 (fun q11 => ?_) (fun q11 => ?_)
      ·
        refine hxa_iload_n (by rfl) rfl ?_
        refine hxa_bipush (by rfl) rfl ?_
        refine hxj_clt (by rfl) rfl hk_6 (fun q12 => False.elim (by omega)) (fun q12 => ?_)
        refine hxa_aload_n (by rfl) rfl ?_
        refine hxa_iconst (by rfl) rfl ?_
        refine hxa_call0 (by rfl) (by rfl) (by rfl) (by rfl) (by rfl) (by rfl) (hX39q1 (d := d + 1) hA (Int32.ofNat 2)) ?_
        rintro _ A13 ⟨hA13, frA13_0, frA13_1, frA13_2, frA13_3, z14, rfl, fz14⟩
        exact hxa_ireturn (by rfl) (hn_fitB (by omega) (by omega)) (hP _ _ ⟨hA13, _, rfl, by omega⟩)
      ·
        refine hxa_aload_n (by rfl) rfl ?_
        refine hxa_iconst (by rfl) rfl ?_
        refine hxa_call0 (by rfl) (by rfl) (by rfl) (by rfl) (by rfl) (by rfl) (hX39q1 (d := d + 1) hA (Int32.ofNat 1)) ?_
        rintro _ A15 ⟨hA15, frA15_0, frA15_1, frA15_2, frA15_3, z16, rfl, fz16⟩
        exact hxa_ireturn (by rfl) (hn_fitB (by omega) (by omega)) (hP _ _ ⟨hA15, _, rfl, by omega⟩)
  ·
    refine hxa_aload_n (by rfl) rfl ?_
    refine hxj_getT (by rfl) (by rfl) (by rfl) hA.rt1 ?_
    refine hxa_get (v := .ref 7) (by rfl) (by rfl) (by rfl) rfl ?_
    refine hxa_iconst (by rfl) rfl ?_
    refine hxa_aload_n (by rfl) rfl ?_
    refine hxa_get (v := .ref 22) (by rfl) (by rfl) (by rfl) rfl ?_
    refine hxa_get (v := .ref 24) (by rfl) (by rfl) (by rfl) rfl ?_
    refine hxa_aload_n (by rfl) rfl ?_
    refine hxj_getB (by rfl) (by rfl) (by rfl) hA (by rfl) (fun z17 ez17 fz17 gz17 => ?_)
    refine hxj_lald (by rfl) (by rfl) rfl (by omega) (by omega) (fun j18 ej18 => ?_)
    refine hxa_l2i (by rfl) (hn_top (fun z19 _ => ?_))
    refine hxa_call0 (by rfl) (by rfl) (by rfl) (by rfl) (by rfl) (by rfl) (hX12q1 (d := d + 1) hA (Int32.ofNat 0) (by omega) (by omega) z19 (by omega)) ?_
    rintro _ A20 ⟨hA20, z21, rfl⟩
    refine hxa_popI (by rfl) ?_
    refine hxa_aload_n (by rfl) rfl ?_
    refine hxa_call0 (by rfl) (by rfl) (by rfl) (by rfl) (by rfl) (by rfl) (hX41q1 (d := d + 1) hA20 ) ?_
    rintro _ A22 ⟨hA22, frA22_0, frA22_1, frA22_2, z23, rfl, fz23⟩
    exact hxa_ireturn (by rfl) (hn_fitB (by omega) (by omega)) (hP _ _ ⟨hA22, _, rfl, by omega⟩)
theorem hX52q1_6 {d : Nat} {Bn Br : Int} {A0 A : hs_A} (hA : hJ 1 Bn Br A0 A)  (a1 : Int32) (p1 : 6 ≤ a1.toInt) (q1 : a1.toInt ≤ 6) : hxC (d + 3) 52 hm_m52 [.ref 21, .int a1] A (fun r A' => hJ 1 Bn Br A0 A' ∧ ∃ z : Int32, r = some (.int z) ∧ ((0 ≤ z.toInt ∧ z.toInt ≤ 1))) := hxC.of (by rfl) (hY52q1_6 hA a1 p1 q1 (fun r A' h => h))
theorem hY51q1_6 {d : Nat} {Bn Br : Int} {A0 A : hs_A} (hA : hJ 1 Bn Br A0 A)  (a1 : Int32) (p1 : 6 ≤ a1.toInt) (q1 : a1.toInt ≤ 6) {P : Option Value → hs_A → Prop} (hP : ∀ (r : Option Value) (A' : hs_A), (hJ 1 Bn Br A0 A' ∧ ∃ z : Int32, r = some (.int z) ∧ ((0 ≤ z.toInt ∧ z.toInt ≤ 1))) → P r A') : hxa (d + 3) (some (.boolean)) hm_t51 0 [.ref 21, .int a1, .retAddr 0, .retAddr 0, .retAddr 0] [] A P := by
  have k0 := hk_0
  have k1 := hk_1
  have k4 := hk_4
  have k5 := hk_5
  have L8 : ∀ (m8 : Nat) (x8_2 : Int32) (x8_3 : Int32) (x8_4 : Value) (Ac8 : hs_A) (hAc8 : hJ 1 Bn Br A0 Ac8) (bx8_2 : 0 ≤ x8_2.toInt) (cx8_2 : x8_2.toInt ≤ 1) (bx8_3 : 0 ≤ x8_3.toInt) (cx8_3 : x8_3.toInt ≤ 400) (hm8 : 400 - x8_3.toInt < (m8 : Int)), hxa (d + 3) (some (.boolean)) hm_t51 8 [.ref 21, .int a1, .int x8_2, .int x8_3, x8_4] [] Ac8 P := by
    intro m8
    induction m8 with
    | zero => intro x8_2 x8_3 x8_4 Ac8 hAc8 bx8_2 cx8_2 bx8_3 cx8_3 hm8;  exact False.elim (by omega)
    | succ m8 ih8 =>
      intro x8_2 x8_3 x8_4 Ac8 hAc8 bx8_2 cx8_2 bx8_3 cx8_3 hm8
      have L61 : ∀ (x61_4 : Int32) (y61_0 : Int32) (Ac61 : hs_A) (hAc61 : hJ 1 Bn Br A0 Ac61) (bx61_4 : 28 ≤ x61_4.toInt) (cx61_4 : x61_4.toInt ≤ 29) (by61_0 : 0 ≤ y61_0.toInt) (cy61_0 : y61_0.toInt ≤ 1) (bx8_2 : 1 ≤ x8_2.toInt) (cx8_3 : x8_3.toInt ≤ 399), hxa (d + 3) (some (.boolean)) hm_t51 61 [.ref 21, .int a1, .int x8_2, .int x8_3, .int x61_4] [.int y61_0] Ac61 P := by
        intro x61_4 y61_0 Ac61 hAc61 bx61_4 cx61_4 by61_0 cy61_0 bx8_2 cx8_3
        refine hxa_s1 (by rfl) (Or.inl ⟨_, rfl, rfl⟩) rfl ?_
        refine hxa_aload_n (by rfl) rfl ?_
        refine hxj_getT (by rfl) (by rfl) (by rfl) hAc61.rt1 ?_
        refine hxa_get (v := .ref 7) (by rfl) (by rfl) (by rfl) rfl ?_
        refine hxa_iload (by rfl) rfl ?_
        refine hxa_bipush (by rfl) rfl ?_
        refine hxj_cne (by rfl) rfl hk_28 (fun q1 => ?_) (fun q1 => ?_)
        ·
          refine hxa_iconst (by rfl) rfl ?_
          refine hxa_iconst (by rfl) rfl ?_
          refine hxa_call0 (by rfl) (by rfl) (by rfl) (by rfl) (by rfl) (by rfl) (hX12q1 (d := d + 2) hAc61 (Int32.ofNat 5) (by omega) (by omega) (Int32.ofNat 0) (by omega)) ?_
          rintro _ A2 ⟨hA2, z3, rfl⟩
          refine hxa_popI (by rfl) ?_
          refine hxj_iinc (by rfl) rfl rfl hk_1 (by omega) (by omega) (fun _ => rfl) (fun z4 ez4 => ?_)
          refine hxa_goto (by rfl) ?_
          exact ih8 y61_0 z4 (.int x61_4) A2 hA2 (by omega) (by omega) (by omega) (by omega) (by omega)
        ·
          refine hxa_iconst (by rfl) rfl ?_
          refine hxa_goto (by rfl) ?_
          refine hxa_iconst (by rfl) rfl ?_
          refine hxa_call0 (by rfl) (by rfl) (by rfl) (by rfl) (by rfl) (by rfl) (hX12q1 (d := d + 2) hAc61 (Int32.ofNat 4) (by omega) (by omega) (Int32.ofNat 0) (by omega)) ?_
          rintro _ A5 ⟨hA5, z6, rfl⟩
          refine hxa_popI (by rfl) ?_
          refine hxj_iinc (by rfl) rfl rfl hk_1 (by omega) (by omega) (fun _ => rfl) (fun z7 ez7 => ?_)
          refine hxa_goto (by rfl) ?_
          exact ih8 y61_0 z7 (.int x61_4) A5 hA5 (by omega) (by omega) (by omega) (by omega) (by omega)
      refine hxa_iload_n (by rfl) rfl ?_
      refine hxa_sipush (by rfl) rfl ?_
      refine hxj_cge (by rfl) rfl hk_400 (fun q8 => ?_) (fun q8 => ?_)
      ·
        refine hxa_iload_n (by rfl) rfl ?_
        exact hxa_ireturn (by rfl) (hn_fitB (by omega) (by omega)) (hP _ _ ⟨hAc8, _, rfl, by omega⟩)
      ·
        refine hxa_iload_n (by rfl) rfl ?_
        refine hxj_zeq (by rfl) rfl (fun q9 => ?_) (fun q9 => ?_)
        ·
          refine hxa_iload_n (by rfl) rfl ?_
          exact hxa_ireturn (by rfl) (hn_fitB (by omega) (by omega)) (hP _ _ ⟨hAc8, _, rfl, by omega⟩)
        ·
          refine hxa_aload_n (by rfl) rfl ?_
          refine hxa_call0 (by rfl) (by rfl) (by rfl) (by rfl) (by rfl) (by rfl) (hX38q1 (d := d + 2) hAc8 ) ?_
          rintro _ _ ⟨rfl, z10, rfl⟩
          refine hxa_s1 (by rfl) (Or.inr ⟨_, rfl, rfl⟩) rfl ?_
          refine hxa_iload (by rfl) rfl ?_
          refine hxa_bipush (by rfl) rfl ?_
          refine hxj_ceq (by rfl) rfl hk_28 (fun q11 => ?_) (fun q11 => ?_)
          ·
            refine hxa_aload_n (by rfl) rfl ?_
            refine hxa_call0 (by rfl) (by rfl) (by rfl) (by rfl) (by rfl) (by rfl) (hX41q1 (d := d + 2) hAc8 ) ?_
            rintro _ A12 ⟨hA12, frA12_0, frA12_1, frA12_2, z13, rfl, fz13⟩
            refine hxj_zeq (by rfl) rfl (fun q14 => ?_) (fun q14 => ?_)
            ·
              refine hxa_iconst (by rfl) rfl ?_
              exact L61 z10 (Int32.ofNat 0) A12 hA12 (by omega) (by omega) (by omega) (by omega) (by omega) (by omega)
            ·
              refine hxa_aload_n (by rfl) rfl ?_
              refine hxa_iload_n (by rfl) rfl ?_
              refine hxa_call0 (by rfl) (by rfl) (by rfl) (by rfl) (by rfl) (by rfl) (hX52q1_6 (d := d + 0) hA12 a1 (by omega) (by omega)) ?_
              rintro _ A15 ⟨hA15, z16, rfl, fz16⟩
              refine hxj_zeq (by rfl) rfl (fun q17 => ?_) (fun q17 => ?_)
              ·
                refine hxa_iconst (by rfl) rfl ?_
                exact L61 z10 (Int32.ofNat 0) A15 hA15 (by omega) (by omega) (by omega) (by omega) (by omega) (by omega)
              ·
                refine hxa_iconst (by rfl) rfl ?_
                refine hxa_goto (by rfl) ?_
                exact L61 z10 (Int32.ofNat 1) A15 hA15 (by omega) (by omega) (by omega) (by omega) (by omega) (by omega)
          ·
            refine hxa_iload (by rfl) rfl ?_
            refine hxa_bipush (by rfl) rfl ?_
            refine hxj_ceq (by rfl) rfl hk_29 (fun q18 => ?_) (fun q18 => ?_)
            ·
              refine hxa_aload_n (by rfl) rfl ?_
              refine hxa_call0 (by rfl) (by rfl) (by rfl) (by rfl) (by rfl) (by rfl) (hX41q1 (d := d + 2) hAc8 ) ?_
              rintro _ A19 ⟨hA19, frA19_0, frA19_1, frA19_2, z20, rfl, fz20⟩
              refine hxj_zeq (by rfl) rfl (fun q21 => ?_) (fun q21 => ?_)
              ·
                refine hxa_iconst (by rfl) rfl ?_
                exact L61 z10 (Int32.ofNat 0) A19 hA19 (by omega) (by omega) (by omega) (by omega) (by omega) (by omega)
              ·
                refine hxa_aload_n (by rfl) rfl ?_
                refine hxa_iload_n (by rfl) rfl ?_
                refine hxa_call0 (by rfl) (by rfl) (by rfl) (by rfl) (by rfl) (by rfl) (hX52q1_6 (d := d + 0) hA19 a1 (by omega) (by omega)) ?_
                rintro _ A22 ⟨hA22, z23, rfl, fz23⟩
                refine hxj_zeq (by rfl) rfl (fun q24 => ?_) (fun q24 => ?_)
                ·
                  refine hxa_iconst (by rfl) rfl ?_
                  exact L61 z10 (Int32.ofNat 0) A22 hA22 (by omega) (by omega) (by omega) (by omega) (by omega) (by omega)
                ·
                  refine hxa_iconst (by rfl) rfl ?_
                  refine hxa_goto (by rfl) ?_
                  exact L61 z10 (Int32.ofNat 1) A22 hA22 (by omega) (by omega) (by omega) (by omega) (by omega) (by omega)
            ·
              refine hxa_iconst (by rfl) rfl ?_
              exact hxa_ireturn (by rfl) (by rfl) (hP _ _ ⟨hAc8, _, rfl, by omega⟩)
  refine hxa_aload_n (by rfl) rfl ?_
  refine hxa_iload_n (by rfl) rfl ?_
  refine hxa_call0 (by rfl) (by rfl) (by rfl) (by rfl) (by rfl) (by rfl) (hX52q1_6 (d := d + 0) hA a1 (by omega) (by omega)) ?_
  rintro _ A25 ⟨hA25, z26, rfl, fz26⟩
  refine hxa_s1 (by rfl) (Or.inl ⟨_, rfl, rfl⟩) rfl ?_
  refine hxa_iconst (by rfl) rfl ?_
  refine hxa_s1 (by rfl) (Or.inl ⟨_, rfl, rfl⟩) rfl ?_
  exact L8 (Int.toNat (400 - 0) + 1) z26 (Int32.ofNat 0) (.retAddr 0) A25 hA25 (by omega) (by omega) (by omega) (by omega) (by omega)
theorem hX51q1_6 {d : Nat} {Bn Br : Int} {A0 A : hs_A} (hA : hJ 1 Bn Br A0 A)  (a1 : Int32) (p1 : 6 ≤ a1.toInt) (q1 : a1.toInt ≤ 6) : hxC (d + 4) 51 hm_m51 [.ref 21, .int a1] A (fun r A' => hJ 1 Bn Br A0 A' ∧ ∃ z : Int32, r = some (.int z) ∧ ((0 ≤ z.toInt ∧ z.toInt ≤ 1))) := hxC.of (by rfl) (hY51q1_6 hA a1 p1 q1 (fun r A' h => h))
theorem hY50q1_6 {d : Nat} {Bn Br : Int} {A0 A : hs_A} (hA : hJ 1 Bn Br A0 A)  (a1 : Int32) (p1 : 6 ≤ a1.toInt) (q1 : a1.toInt ≤ 6) {P : Option Value → hs_A → Prop} (hP : ∀ (r : Option Value) (A' : hs_A), (hJ 1 Bn Br A0 A' ∧ ∃ z : Int32, r = some (.int z) ∧ ((0 ≤ z.toInt ∧ z.toInt ≤ 1))) → P r A') : hxa (d + 4) (some (.boolean)) hm_t50 0 [.ref 21, .int a1, .retAddr 0, .retAddr 0, .retAddr 0] [] A P := by
  have k0 := hk_0
  have k1 := hk_1
  have k2 := hk_2
  have k3 := hk_3
  have L8 : ∀ (m8 : Nat) (x8_2 : Int32) (x8_3 : Int32) (x8_4 : Value) (Ac8 : hs_A) (hAc8 : hJ 1 Bn Br A0 Ac8) (bx8_2 : 0 ≤ x8_2.toInt) (cx8_2 : x8_2.toInt ≤ 1) (bx8_3 : 0 ≤ x8_3.toInt) (cx8_3 : x8_3.toInt ≤ 400) (hm8 : 400 - x8_3.toInt < (m8 : Int)), hxa (d + 4) (some (.boolean)) hm_t50 8 [.ref 21, .int a1, .int x8_2, .int x8_3, x8_4] [] Ac8 P := by
    intro m8
    induction m8 with
    | zero => intro x8_2 x8_3 x8_4 Ac8 hAc8 bx8_2 cx8_2 bx8_3 cx8_3 hm8;  exact False.elim (by omega)
    | succ m8 ih8 =>
      intro x8_2 x8_3 x8_4 Ac8 hAc8 bx8_2 cx8_2 bx8_3 cx8_3 hm8
      have L61 : ∀ (x61_4 : Int32) (y61_0 : Int32) (Ac61 : hs_A) (hAc61 : hJ 1 Bn Br A0 Ac61) (bx61_4 : 26 ≤ x61_4.toInt) (cx61_4 : x61_4.toInt ≤ 27) (by61_0 : 0 ≤ y61_0.toInt) (cy61_0 : y61_0.toInt ≤ 1) (bx8_2 : 1 ≤ x8_2.toInt) (cx8_3 : x8_3.toInt ≤ 399), hxa (d + 4) (some (.boolean)) hm_t50 61 [.ref 21, .int a1, .int x8_2, .int x8_3, .int x61_4] [.int y61_0] Ac61 P := by
        intro x61_4 y61_0 Ac61 hAc61 bx61_4 cx61_4 by61_0 cy61_0 bx8_2 cx8_3
        refine hxa_s1 (by rfl) (Or.inl ⟨_, rfl, rfl⟩) rfl ?_
        refine hxa_aload_n (by rfl) rfl ?_
        refine hxj_getT (by rfl) (by rfl) (by rfl) hAc61.rt1 ?_
        refine hxa_get (v := .ref 7) (by rfl) (by rfl) (by rfl) rfl ?_
        refine hxa_iload (by rfl) rfl ?_
        refine hxa_bipush (by rfl) rfl ?_
        refine hxj_cne (by rfl) rfl hk_26 (fun q1 => ?_) (fun q1 => ?_)
        ·
          refine hxa_iconst (by rfl) rfl ?_
          refine hxa_iconst (by rfl) rfl ?_
          refine hxa_call0 (by rfl) (by rfl) (by rfl) (by rfl) (by rfl) (by rfl) (hX12q1 (d := d + 3) hAc61 (Int32.ofNat 3) (by omega) (by omega) (Int32.ofNat 0) (by omega)) ?_
          rintro _ A2 ⟨hA2, z3, rfl⟩
          refine hxa_popI (by rfl) ?_
          refine hxj_iinc (by rfl) rfl rfl hk_1 (by omega) (by omega) (fun _ => rfl) (fun z4 ez4 => ?_)
          refine hxa_goto (by rfl) ?_
          exact ih8 y61_0 z4 (.int x61_4) A2 hA2 (by omega) (by omega) (by omega) (by omega) (by omega)
        ·
          refine hxa_iconst (by rfl) rfl ?_
          refine hxa_goto (by rfl) ?_
          refine hxa_iconst (by rfl) rfl ?_
          refine hxa_call0 (by rfl) (by rfl) (by rfl) (by rfl) (by rfl) (by rfl) (hX12q1 (d := d + 3) hAc61 (Int32.ofNat 2) (by omega) (by omega) (Int32.ofNat 0) (by omega)) ?_
          rintro _ A5 ⟨hA5, z6, rfl⟩
          refine hxa_popI (by rfl) ?_
          refine hxj_iinc (by rfl) rfl rfl hk_1 (by omega) (by omega) (fun _ => rfl) (fun z7 ez7 => ?_)
          refine hxa_goto (by rfl) ?_
          exact ih8 y61_0 z7 (.int x61_4) A5 hA5 (by omega) (by omega) (by omega) (by omega) (by omega)
      refine hxa_iload_n (by rfl) rfl ?_
      refine hxa_sipush (by rfl) rfl ?_
      refine hxj_cge (by rfl) rfl hk_400 (fun q8 => ?_) (fun q8 => ?_)
      ·
        refine hxa_iload_n (by rfl) rfl ?_
        exact hxa_ireturn (by rfl) (hn_fitB (by omega) (by omega)) (hP _ _ ⟨hAc8, _, rfl, by omega⟩)
      ·
        refine hxa_iload_n (by rfl) rfl ?_
        refine hxj_zeq (by rfl) rfl (fun q9 => ?_) (fun q9 => ?_)
        ·
          refine hxa_iload_n (by rfl) rfl ?_
          exact hxa_ireturn (by rfl) (hn_fitB (by omega) (by omega)) (hP _ _ ⟨hAc8, _, rfl, by omega⟩)
        ·
          refine hxa_aload_n (by rfl) rfl ?_
          refine hxa_call0 (by rfl) (by rfl) (by rfl) (by rfl) (by rfl) (by rfl) (hX38q1 (d := d + 3) hAc8 ) ?_
          rintro _ _ ⟨rfl, z10, rfl⟩
          refine hxa_s1 (by rfl) (Or.inr ⟨_, rfl, rfl⟩) rfl ?_
          refine hxa_iload (by rfl) rfl ?_
          refine hxa_bipush (by rfl) rfl ?_
          refine hxj_ceq (by rfl) rfl hk_26 (fun q11 => ?_) (fun q11 => ?_)
          ·
            refine hxa_aload_n (by rfl) rfl ?_
            refine hxa_call0 (by rfl) (by rfl) (by rfl) (by rfl) (by rfl) (by rfl) (hX41q1 (d := d + 3) hAc8 ) ?_
            rintro _ A12 ⟨hA12, frA12_0, frA12_1, frA12_2, z13, rfl, fz13⟩
            refine hxj_zeq (by rfl) rfl (fun q14 => ?_) (fun q14 => ?_)
            ·
              refine hxa_iconst (by rfl) rfl ?_
              exact L61 z10 (Int32.ofNat 0) A12 hA12 (by omega) (by omega) (by omega) (by omega) (by omega) (by omega)
            ·
              refine hxa_aload_n (by rfl) rfl ?_
              refine hxa_iload_n (by rfl) rfl ?_
              refine hxa_call0 (by rfl) (by rfl) (by rfl) (by rfl) (by rfl) (by rfl) (hX51q1_6 (d := d + 0) hA12 a1 (by omega) (by omega)) ?_
              rintro _ A15 ⟨hA15, z16, rfl, fz16⟩
              refine hxj_zeq (by rfl) rfl (fun q17 => ?_) (fun q17 => ?_)
              ·
                refine hxa_iconst (by rfl) rfl ?_
                exact L61 z10 (Int32.ofNat 0) A15 hA15 (by omega) (by omega) (by omega) (by omega) (by omega) (by omega)
              ·
                refine hxa_iconst (by rfl) rfl ?_
                refine hxa_goto (by rfl) ?_
                exact L61 z10 (Int32.ofNat 1) A15 hA15 (by omega) (by omega) (by omega) (by omega) (by omega) (by omega)
          ·
            refine hxa_iload (by rfl) rfl ?_
            refine hxa_bipush (by rfl) rfl ?_
            refine hxj_ceq (by rfl) rfl hk_27 (fun q18 => ?_) (fun q18 => ?_)
            ·
              refine hxa_aload_n (by rfl) rfl ?_
              refine hxa_call0 (by rfl) (by rfl) (by rfl) (by rfl) (by rfl) (by rfl) (hX41q1 (d := d + 3) hAc8 ) ?_
              rintro _ A19 ⟨hA19, frA19_0, frA19_1, frA19_2, z20, rfl, fz20⟩
              refine hxj_zeq (by rfl) rfl (fun q21 => ?_) (fun q21 => ?_)
              ·
                refine hxa_iconst (by rfl) rfl ?_
                exact L61 z10 (Int32.ofNat 0) A19 hA19 (by omega) (by omega) (by omega) (by omega) (by omega) (by omega)
              ·
                refine hxa_aload_n (by rfl) rfl ?_
                refine hxa_iload_n (by rfl) rfl ?_
                refine hxa_call0 (by rfl) (by rfl) (by rfl) (by rfl) (by rfl) (by rfl) (hX51q1_6 (d := d + 0) hA19 a1 (by omega) (by omega)) ?_
                rintro _ A22 ⟨hA22, z23, rfl, fz23⟩
                refine hxj_zeq (by rfl) rfl (fun q24 => ?_) (fun q24 => ?_)
                ·
                  refine hxa_iconst (by rfl) rfl ?_
                  exact L61 z10 (Int32.ofNat 0) A22 hA22 (by omega) (by omega) (by omega) (by omega) (by omega) (by omega)
                ·
                  refine hxa_iconst (by rfl) rfl ?_
                  refine hxa_goto (by rfl) ?_
                  exact L61 z10 (Int32.ofNat 1) A22 hA22 (by omega) (by omega) (by omega) (by omega) (by omega) (by omega)
            ·
              refine hxa_iconst (by rfl) rfl ?_
              exact hxa_ireturn (by rfl) (by rfl) (hP _ _ ⟨hAc8, _, rfl, by omega⟩)
  refine hxa_aload_n (by rfl) rfl ?_
  refine hxa_iload_n (by rfl) rfl ?_
  refine hxa_call0 (by rfl) (by rfl) (by rfl) (by rfl) (by rfl) (by rfl) (hX51q1_6 (d := d + 0) hA a1 (by omega) (by omega)) ?_
  rintro _ A25 ⟨hA25, z26, rfl, fz26⟩
  refine hxa_s1 (by rfl) (Or.inl ⟨_, rfl, rfl⟩) rfl ?_
  refine hxa_iconst (by rfl) rfl ?_
  refine hxa_s1 (by rfl) (Or.inl ⟨_, rfl, rfl⟩) rfl ?_
  exact L8 (Int.toNat (400 - 0) + 1) z26 (Int32.ofNat 0) (.retAddr 0) A25 hA25 (by omega) (by omega) (by omega) (by omega) (by omega)
theorem hX50q1_6 {d : Nat} {Bn Br : Int} {A0 A : hs_A} (hA : hJ 1 Bn Br A0 A)  (a1 : Int32) (p1 : 6 ≤ a1.toInt) (q1 : a1.toInt ≤ 6) : hxC (d + 5) 50 hm_m50 [.ref 21, .int a1] A (fun r A' => hJ 1 Bn Br A0 A' ∧ ∃ z : Int32, r = some (.int z) ∧ ((0 ≤ z.toInt ∧ z.toInt ≤ 1))) := hxC.of (by rfl) (hY50q1_6 hA a1 p1 q1 (fun r A' h => h))
theorem hY52q1_5 {d : Nat} {Bn Br : Int} {A0 A : hs_A} (hA : hJ 1 Bn Br A0 A)  (a1 : Int32) (p1 : 5 ≤ a1.toInt) (q1 : a1.toInt ≤ 5) {P : Option Value → hs_A → Prop} (hP : ∀ (r : Option Value) (A' : hs_A), (hJ 1 Bn Br A0 A' ∧ ∃ z : Int32, r = some (.int z) ∧ ((0 ≤ z.toInt ∧ z.toInt ≤ 1))) → P r A') : hxa (d + 5) (some (.boolean)) hm_t52 0 [.ref 21, .int a1, .retAddr 0] [] A P := by
  have k0 := hk_0
  have k1 := hk_1
  have k11 := hk_11
  have k19 := hk_19
  have k32 := hk_32
  refine hxa_aload_n (by rfl) rfl ?_
  refine hxa_call0 (by rfl) (by rfl) (by rfl) (by rfl) (by rfl) (by rfl) (hX38q1 (d := d + 4) hA ) ?_
  rintro _ _ ⟨rfl, z1, rfl⟩
  refine hxa_s1 (by rfl) (Or.inl ⟨_, rfl, rfl⟩) rfl ?_
  refine hxa_iload_n (by rfl) rfl ?_
  refine hxa_bipush (by rfl) rfl ?_
  refine hxj_cne (by rfl) rfl hk_21 (fun q2 => ?_) (fun q2 => ?_)
  ·
    refine hxa_iload_n (by rfl) rfl ?_
    refine hxa_bipush (by rfl) rfl ?_
    refine hxa_bipush (by rfl) rfl ?_
    refine hxa_call2 (by rfl) (by decide) (by rfl) (by rfl) (by rfl) (hX78 (d := d + 4)  z1 (Int32.ofNat 11) (Int32.ofNat 19)) ?_
    rintro _ _ ⟨rfl, z3, rfl, fz3⟩
    rcases fz3 with fz3 | fz3
    ·
      refine hxj_zeq (by rfl) rfl (fun q4 => False.elim (by omega)) (fun q4 => ?_)
      refine hxa_aload_n (by rfl) rfl ?_
      refine hxj_getT (by rfl) (by rfl) (by rfl) hA.rt1 ?_
      refine hxa_get (v := .ref 7) (by rfl) (by rfl) (by rfl) rfl ?_
      refine hxa_iconst (by rfl) rfl ?_
      refine hxa_iload_n (by rfl) rfl ?_
      refine hxa_bipush (by rfl) rfl ?_
      refine hxj_isub (by rfl) rfl hk_11 (by omega) (by omega) (fun z5 ez5 => ?_)
      refine hxa_call0 (by rfl) (by rfl) (by rfl) (by rfl) (by rfl) (by rfl) (hX12q1 (d := d + 4) hA (Int32.ofNat 1) (by omega) (by omega) z5 (by omega)) ?_
      rintro _ A6 ⟨hA6, z7, rfl⟩
      refine hxa_popI (by rfl) ?_
      refine hxa_aload_n (by rfl) rfl ?_
      refine hxa_call0 (by rfl) (by rfl) (by rfl) (by rfl) (by rfl) (by rfl) (hX41q1 (d := d + 4) hA6 ) ?_
      rintro _ A8 ⟨hA8, frA8_0, frA8_1, frA8_2, z9, rfl, fz9⟩
      exact hxa_ireturn (by rfl) (hn_fitB (by omega) (by omega)) (hP _ _ ⟨hA8, _, rfl, by omega⟩)
    ·
      refine hxj_zeq (by rfl) rfl (fun q10 => ?_) (fun q10 => False.elim (by omega))
      refine hxa_iload_n (by rfl) rfl ?_
      refine hxa_bipush (by rfl) rfl ?_
      refine hxj_ceq (by rfl) rfl hk_31 (fun q11 => ?_) (fun q11 => ?_)
      ·
        refine hxa_iload_n (by rfl) rfl ?_
        refine hxa_bipush (by rfl) rfl ?_
        refine hxj_clt (by rfl) rfl hk_6 (fun q12 => ?_) (fun q12 => False.elim (by omega))
        refine hxa_aload_n (by rfl) rfl ?_
        refine hxa_call0 (by rfl) (by rfl) (by rfl) (by rfl) (by rfl) (by rfl) (hX41q1 (d := d + 4) hA ) ?_
        rintro _ A13 ⟨hA13, frA13_0, frA13_1, frA13_2, z14, rfl, fz14⟩
        refine hxj_zeq (by rfl) rfl (fun q15 => ?_) (fun q15 => ?_)
        ·
          refine hxa_iconst (by rfl) rfl ?_
          exact hxa_ireturn (by rfl) (by rfl) (hP _ _ ⟨hA13, _, rfl, by omega⟩)
        ·
          refine hxa_aload_n (by rfl) rfl ?_
          refine hxa_iload_n (by rfl) rfl ?_
          refine hxa_iconst (by rfl) rfl ?_
          refine hxj_iadd (by rfl) rfl hk_1 (by omega) (by omega) (fun z16 ez16 => ?_)
          refine hxa_call0 (by rfl) (by rfl) (by rfl) (by rfl) (by rfl) (by rfl) (hX50q1_6 (d := d + 0) hA13 z16 (by omega) (by omega)) ?_
          rintro _ A17 ⟨hA17, z18, rfl, fz18⟩
          refine hxj_zeq (by rfl) rfl (fun q19 => ?_) (fun q19 => ?_)
          ·
            refine hxa_iconst (by rfl) rfl ?_
            exact hxa_ireturn (by rfl) (by rfl) (hP _ _ ⟨hA17, _, rfl, by omega⟩)
          ·
            refine hxa_aload_n (by rfl) rfl ?_
            refine hxa_bipush (by rfl) rfl ?_
            refine hxa_call0 (by rfl) (by rfl) (by rfl) (by rfl) (by rfl) (by rfl) (hX42q1 (d := d + 3) hA17 (Int32.ofNat 32)) ?_
            rintro _ A20 ⟨hA20, frA20_0, frA20_1, frA20_2, z21, rfl, fz21⟩
            refine hxj_zeq (by rfl) rfl (fun q22 => ?_) (fun q22 => ?_)
            ·
              refine hxa_iconst (by rfl) rfl ?_
              exact hxa_ireturn (by rfl) (by rfl) (hP _ _ ⟨hA20, _, rfl, by omega⟩)
            ·
              refine hxa_iconst (by rfl) rfl ?_
              refine hxa_goto (by rfl) ?_
              exact hxa_ireturn (by rfl) (by rfl) (hP _ _ ⟨hA20, _, rfl, by omega⟩)
      ·
        refine hxa_aload_n (by rfl) rfl ?_
        refine hxa_iconst (by rfl) rfl ?_
        refine hxa_call0 (by rfl) (by rfl) (by rfl) (by rfl) (by rfl) (by rfl) (hX39q1 (d := d + 4) hA (Int32.ofNat 1)) ?_
        rintro _ A23 ⟨hA23, frA23_0, frA23_1, frA23_2, frA23_3, z24, rfl, fz24⟩
        exact hxa_ireturn (by rfl) (hn_fitB (by omega) (by omega)) (hP _ _ ⟨hA23, _, rfl, by omega⟩)
  ·
    refine hxa_aload_n (by rfl) rfl ?_
    refine hxj_getT (by rfl) (by rfl) (by rfl) hA.rt1 ?_
    refine hxa_get (v := .ref 7) (by rfl) (by rfl) (by rfl) rfl ?_
    refine hxa_iconst (by rfl) rfl ?_
    refine hxa_aload_n (by rfl) rfl ?_
    refine hxa_get (v := .ref 22) (by rfl) (by rfl) (by rfl) rfl ?_
    refine hxa_get (v := .ref 24) (by rfl) (by rfl) (by rfl) rfl ?_
    refine hxa_aload_n (by rfl) rfl ?_
    refine hxj_getB (by rfl) (by rfl) (by rfl) hA (by rfl) (fun z25 ez25 fz25 gz25 => ?_)
    refine hxj_lald (by rfl) (by rfl) rfl (by omega) (by omega) (fun j26 ej26 => ?_)
    refine hxa_l2i (by rfl) (hn_top (fun z27 _ => ?_))
    refine hxa_call0 (by rfl) (by rfl) (by rfl) (by rfl) (by rfl) (by rfl) (hX12q1 (d := d + 4) hA (Int32.ofNat 0) (by omega) (by omega) z27 (by omega)) ?_
    rintro _ A28 ⟨hA28, z29, rfl⟩
    refine hxa_popI (by rfl) ?_
    refine hxa_aload_n (by rfl) rfl ?_
    refine hxa_call0 (by rfl) (by rfl) (by rfl) (by rfl) (by rfl) (by rfl) (hX41q1 (d := d + 4) hA28 ) ?_
    rintro _ A30 ⟨hA30, frA30_0, frA30_1, frA30_2, z31, rfl, fz31⟩
    exact hxa_ireturn (by rfl) (hn_fitB (by omega) (by omega)) (hP _ _ ⟨hA30, _, rfl, by omega⟩)
theorem hX52q1_5 {d : Nat} {Bn Br : Int} {A0 A : hs_A} (hA : hJ 1 Bn Br A0 A)  (a1 : Int32) (p1 : 5 ≤ a1.toInt) (q1 : a1.toInt ≤ 5) : hxC (d + 6) 52 hm_m52 [.ref 21, .int a1] A (fun r A' => hJ 1 Bn Br A0 A' ∧ ∃ z : Int32, r = some (.int z) ∧ ((0 ≤ z.toInt ∧ z.toInt ≤ 1))) := hxC.of (by rfl) (hY52q1_5 hA a1 p1 q1 (fun r A' h => h))
theorem hY51q1_5 {d : Nat} {Bn Br : Int} {A0 A : hs_A} (hA : hJ 1 Bn Br A0 A)  (a1 : Int32) (p1 : 5 ≤ a1.toInt) (q1 : a1.toInt ≤ 5) {P : Option Value → hs_A → Prop} (hP : ∀ (r : Option Value) (A' : hs_A), (hJ 1 Bn Br A0 A' ∧ ∃ z : Int32, r = some (.int z) ∧ ((0 ≤ z.toInt ∧ z.toInt ≤ 1))) → P r A') : hxa (d + 6) (some (.boolean)) hm_t51 0 [.ref 21, .int a1, .retAddr 0, .retAddr 0, .retAddr 0] [] A P := by
  have k0 := hk_0
  have k1 := hk_1
  have k4 := hk_4
  have k5 := hk_5
  have L8 : ∀ (m8 : Nat) (x8_2 : Int32) (x8_3 : Int32) (x8_4 : Value) (Ac8 : hs_A) (hAc8 : hJ 1 Bn Br A0 Ac8) (bx8_2 : 0 ≤ x8_2.toInt) (cx8_2 : x8_2.toInt ≤ 1) (bx8_3 : 0 ≤ x8_3.toInt) (cx8_3 : x8_3.toInt ≤ 400) (hm8 : 400 - x8_3.toInt < (m8 : Int)), hxa (d + 6) (some (.boolean)) hm_t51 8 [.ref 21, .int a1, .int x8_2, .int x8_3, x8_4] [] Ac8 P := by
    intro m8
    induction m8 with
    | zero => intro x8_2 x8_3 x8_4 Ac8 hAc8 bx8_2 cx8_2 bx8_3 cx8_3 hm8;  exact False.elim (by omega)
    | succ m8 ih8 =>
      intro x8_2 x8_3 x8_4 Ac8 hAc8 bx8_2 cx8_2 bx8_3 cx8_3 hm8
      have L61 : ∀ (x61_4 : Int32) (y61_0 : Int32) (Ac61 : hs_A) (hAc61 : hJ 1 Bn Br A0 Ac61) (bx61_4 : 28 ≤ x61_4.toInt) (cx61_4 : x61_4.toInt ≤ 29) (by61_0 : 0 ≤ y61_0.toInt) (cy61_0 : y61_0.toInt ≤ 1) (bx8_2 : 1 ≤ x8_2.toInt) (cx8_3 : x8_3.toInt ≤ 399), hxa (d + 6) (some (.boolean)) hm_t51 61 [.ref 21, .int a1, .int x8_2, .int x8_3, .int x61_4] [.int y61_0] Ac61 P := by
        intro x61_4 y61_0 Ac61 hAc61 bx61_4 cx61_4 by61_0 cy61_0 bx8_2 cx8_3
        refine hxa_s1 (by rfl) (Or.inl ⟨_, rfl, rfl⟩) rfl ?_
        refine hxa_aload_n (by rfl) rfl ?_
        refine hxj_getT (by rfl) (by rfl) (by rfl) hAc61.rt1 ?_
        refine hxa_get (v := .ref 7) (by rfl) (by rfl) (by rfl) rfl ?_
        refine hxa_iload (by rfl) rfl ?_
        refine hxa_bipush (by rfl) rfl ?_
        refine hxj_cne (by rfl) rfl hk_28 (fun q1 => ?_) (fun q1 => ?_)
        ·
          refine hxa_iconst (by rfl) rfl ?_
          refine hxa_iconst (by rfl) rfl ?_
          refine hxa_call0 (by rfl) (by rfl) (by rfl) (by rfl) (by rfl) (by rfl) (hX12q1 (d := d + 5) hAc61 (Int32.ofNat 5) (by omega) (by omega) (Int32.ofNat 0) (by omega)) ?_
          rintro _ A2 ⟨hA2, z3, rfl⟩
          refine hxa_popI (by rfl) ?_
          refine hxj_iinc (by rfl) rfl rfl hk_1 (by omega) (by omega) (fun _ => rfl) (fun z4 ez4 => ?_)
          refine hxa_goto (by rfl) ?_
          exact ih8 y61_0 z4 (.int x61_4) A2 hA2 (by omega) (by omega) (by omega) (by omega) (by omega)
        ·
          refine hxa_iconst (by rfl) rfl ?_
          refine hxa_goto (by rfl) ?_
          refine hxa_iconst (by rfl) rfl ?_
          refine hxa_call0 (by rfl) (by rfl) (by rfl) (by rfl) (by rfl) (by rfl) (hX12q1 (d := d + 5) hAc61 (Int32.ofNat 4) (by omega) (by omega) (Int32.ofNat 0) (by omega)) ?_
          rintro _ A5 ⟨hA5, z6, rfl⟩
          refine hxa_popI (by rfl) ?_
          refine hxj_iinc (by rfl) rfl rfl hk_1 (by omega) (by omega) (fun _ => rfl) (fun z7 ez7 => ?_)
          refine hxa_goto (by rfl) ?_
          exact ih8 y61_0 z7 (.int x61_4) A5 hA5 (by omega) (by omega) (by omega) (by omega) (by omega)
      refine hxa_iload_n (by rfl) rfl ?_
      refine hxa_sipush (by rfl) rfl ?_
      refine hxj_cge (by rfl) rfl hk_400 (fun q8 => ?_) (fun q8 => ?_)
      ·
        refine hxa_iload_n (by rfl) rfl ?_
        exact hxa_ireturn (by rfl) (hn_fitB (by omega) (by omega)) (hP _ _ ⟨hAc8, _, rfl, by omega⟩)
      ·
        refine hxa_iload_n (by rfl) rfl ?_
        refine hxj_zeq (by rfl) rfl (fun q9 => ?_) (fun q9 => ?_)
        ·
          refine hxa_iload_n (by rfl) rfl ?_
          exact hxa_ireturn (by rfl) (hn_fitB (by omega) (by omega)) (hP _ _ ⟨hAc8, _, rfl, by omega⟩)
        ·
          refine hxa_aload_n (by rfl) rfl ?_
          refine hxa_call0 (by rfl) (by rfl) (by rfl) (by rfl) (by rfl) (by rfl) (hX38q1 (d := d + 5) hAc8 ) ?_
          rintro _ _ ⟨rfl, z10, rfl⟩
          refine hxa_s1 (by rfl) (Or.inr ⟨_, rfl, rfl⟩) rfl ?_
          refine hxa_iload (by rfl) rfl ?_
          refine hxa_bipush (by rfl) rfl ?_
          refine hxj_ceq (by rfl) rfl hk_28 (fun q11 => ?_) (fun q11 => ?_)
          ·
            refine hxa_aload_n (by rfl) rfl ?_
            refine hxa_call0 (by rfl) (by rfl) (by rfl) (by rfl) (by rfl) (by rfl) (hX41q1 (d := d + 5) hAc8 ) ?_
            rintro _ A12 ⟨hA12, frA12_0, frA12_1, frA12_2, z13, rfl, fz13⟩
            refine hxj_zeq (by rfl) rfl (fun q14 => ?_) (fun q14 => ?_)
            ·
              refine hxa_iconst (by rfl) rfl ?_
              exact L61 z10 (Int32.ofNat 0) A12 hA12 (by omega) (by omega) (by omega) (by omega) (by omega) (by omega)
            ·
              refine hxa_aload_n (by rfl) rfl ?_
              refine hxa_iload_n (by rfl) rfl ?_
              refine hxa_call0 (by rfl) (by rfl) (by rfl) (by rfl) (by rfl) (by rfl) (hX52q1_5 (d := d + 0) hA12 a1 (by omega) (by omega)) ?_
              rintro _ A15 ⟨hA15, z16, rfl, fz16⟩
              refine hxj_zeq (by rfl) rfl (fun q17 => ?_) (fun q17 => ?_)
              ·
                refine hxa_iconst (by rfl) rfl ?_
                exact L61 z10 (Int32.ofNat 0) A15 hA15 (by omega) (by omega) (by omega) (by omega) (by omega) (by omega)
              ·
                refine hxa_iconst (by rfl) rfl ?_
                refine hxa_goto (by rfl) ?_
                exact L61 z10 (Int32.ofNat 1) A15 hA15 (by omega) (by omega) (by omega) (by omega) (by omega) (by omega)
          ·
            refine hxa_iload (by rfl) rfl ?_
            refine hxa_bipush (by rfl) rfl ?_
            refine hxj_ceq (by rfl) rfl hk_29 (fun q18 => ?_) (fun q18 => ?_)
            ·
              refine hxa_aload_n (by rfl) rfl ?_
              refine hxa_call0 (by rfl) (by rfl) (by rfl) (by rfl) (by rfl) (by rfl) (hX41q1 (d := d + 5) hAc8 ) ?_
              rintro _ A19 ⟨hA19, frA19_0, frA19_1, frA19_2, z20, rfl, fz20⟩
              refine hxj_zeq (by rfl) rfl (fun q21 => ?_) (fun q21 => ?_)
              ·
                refine hxa_iconst (by rfl) rfl ?_
                exact L61 z10 (Int32.ofNat 0) A19 hA19 (by omega) (by omega) (by omega) (by omega) (by omega) (by omega)
              ·
                refine hxa_aload_n (by rfl) rfl ?_
                refine hxa_iload_n (by rfl) rfl ?_
                refine hxa_call0 (by rfl) (by rfl) (by rfl) (by rfl) (by rfl) (by rfl) (hX52q1_5 (d := d + 0) hA19 a1 (by omega) (by omega)) ?_
                rintro _ A22 ⟨hA22, z23, rfl, fz23⟩
                refine hxj_zeq (by rfl) rfl (fun q24 => ?_) (fun q24 => ?_)
                ·
                  refine hxa_iconst (by rfl) rfl ?_
                  exact L61 z10 (Int32.ofNat 0) A22 hA22 (by omega) (by omega) (by omega) (by omega) (by omega) (by omega)
                ·
                  refine hxa_iconst (by rfl) rfl ?_
                  refine hxa_goto (by rfl) ?_
                  exact L61 z10 (Int32.ofNat 1) A22 hA22 (by omega) (by omega) (by omega) (by omega) (by omega) (by omega)
            ·
              refine hxa_iconst (by rfl) rfl ?_
              exact hxa_ireturn (by rfl) (by rfl) (hP _ _ ⟨hAc8, _, rfl, by omega⟩)
  refine hxa_aload_n (by rfl) rfl ?_
  refine hxa_iload_n (by rfl) rfl ?_
  refine hxa_call0 (by rfl) (by rfl) (by rfl) (by rfl) (by rfl) (by rfl) (hX52q1_5 (d := d + 0) hA a1 (by omega) (by omega)) ?_
  rintro _ A25 ⟨hA25, z26, rfl, fz26⟩
  refine hxa_s1 (by rfl) (Or.inl ⟨_, rfl, rfl⟩) rfl ?_
  refine hxa_iconst (by rfl) rfl ?_
  refine hxa_s1 (by rfl) (Or.inl ⟨_, rfl, rfl⟩) rfl ?_
  exact L8 (Int.toNat (400 - 0) + 1) z26 (Int32.ofNat 0) (.retAddr 0) A25 hA25 (by omega) (by omega) (by omega) (by omega) (by omega)
theorem hX51q1_5 {d : Nat} {Bn Br : Int} {A0 A : hs_A} (hA : hJ 1 Bn Br A0 A)  (a1 : Int32) (p1 : 5 ≤ a1.toInt) (q1 : a1.toInt ≤ 5) : hxC (d + 7) 51 hm_m51 [.ref 21, .int a1] A (fun r A' => hJ 1 Bn Br A0 A' ∧ ∃ z : Int32, r = some (.int z) ∧ ((0 ≤ z.toInt ∧ z.toInt ≤ 1))) := hxC.of (by rfl) (hY51q1_5 hA a1 p1 q1 (fun r A' h => h))
theorem hY50q1_5 {d : Nat} {Bn Br : Int} {A0 A : hs_A} (hA : hJ 1 Bn Br A0 A)  (a1 : Int32) (p1 : 5 ≤ a1.toInt) (q1 : a1.toInt ≤ 5) {P : Option Value → hs_A → Prop} (hP : ∀ (r : Option Value) (A' : hs_A), (hJ 1 Bn Br A0 A' ∧ ∃ z : Int32, r = some (.int z) ∧ ((0 ≤ z.toInt ∧ z.toInt ≤ 1))) → P r A') : hxa (d + 7) (some (.boolean)) hm_t50 0 [.ref 21, .int a1, .retAddr 0, .retAddr 0, .retAddr 0] [] A P := by
  have k0 := hk_0
  have k1 := hk_1
  have k2 := hk_2
  have k3 := hk_3
  have L8 : ∀ (m8 : Nat) (x8_2 : Int32) (x8_3 : Int32) (x8_4 : Value) (Ac8 : hs_A) (hAc8 : hJ 1 Bn Br A0 Ac8) (bx8_2 : 0 ≤ x8_2.toInt) (cx8_2 : x8_2.toInt ≤ 1) (bx8_3 : 0 ≤ x8_3.toInt) (cx8_3 : x8_3.toInt ≤ 400) (hm8 : 400 - x8_3.toInt < (m8 : Int)), hxa (d + 7) (some (.boolean)) hm_t50 8 [.ref 21, .int a1, .int x8_2, .int x8_3, x8_4] [] Ac8 P := by
    intro m8
    induction m8 with
    | zero => intro x8_2 x8_3 x8_4 Ac8 hAc8 bx8_2 cx8_2 bx8_3 cx8_3 hm8;  exact False.elim (by omega)
    | succ m8 ih8 =>
      intro x8_2 x8_3 x8_4 Ac8 hAc8 bx8_2 cx8_2 bx8_3 cx8_3 hm8
      have L61 : ∀ (x61_4 : Int32) (y61_0 : Int32) (Ac61 : hs_A) (hAc61 : hJ 1 Bn Br A0 Ac61) (bx61_4 : 26 ≤ x61_4.toInt) (cx61_4 : x61_4.toInt ≤ 27) (by61_0 : 0 ≤ y61_0.toInt) (cy61_0 : y61_0.toInt ≤ 1) (bx8_2 : 1 ≤ x8_2.toInt) (cx8_3 : x8_3.toInt ≤ 399), hxa (d + 7) (some (.boolean)) hm_t50 61 [.ref 21, .int a1, .int x8_2, .int x8_3, .int x61_4] [.int y61_0] Ac61 P := by
        intro x61_4 y61_0 Ac61 hAc61 bx61_4 cx61_4 by61_0 cy61_0 bx8_2 cx8_3
        refine hxa_s1 (by rfl) (Or.inl ⟨_, rfl, rfl⟩) rfl ?_
        refine hxa_aload_n (by rfl) rfl ?_
        refine hxj_getT (by rfl) (by rfl) (by rfl) hAc61.rt1 ?_
        refine hxa_get (v := .ref 7) (by rfl) (by rfl) (by rfl) rfl ?_
        refine hxa_iload (by rfl) rfl ?_
        refine hxa_bipush (by rfl) rfl ?_
        refine hxj_cne (by rfl) rfl hk_26 (fun q1 => ?_) (fun q1 => ?_)
        ·
          refine hxa_iconst (by rfl) rfl ?_
          refine hxa_iconst (by rfl) rfl ?_
          refine hxa_call0 (by rfl) (by rfl) (by rfl) (by rfl) (by rfl) (by rfl) (hX12q1 (d := d + 6) hAc61 (Int32.ofNat 3) (by omega) (by omega) (Int32.ofNat 0) (by omega)) ?_
          rintro _ A2 ⟨hA2, z3, rfl⟩
          refine hxa_popI (by rfl) ?_
          refine hxj_iinc (by rfl) rfl rfl hk_1 (by omega) (by omega) (fun _ => rfl) (fun z4 ez4 => ?_)
          refine hxa_goto (by rfl) ?_
          exact ih8 y61_0 z4 (.int x61_4) A2 hA2 (by omega) (by omega) (by omega) (by omega) (by omega)
        ·
          refine hxa_iconst (by rfl) rfl ?_
          refine hxa_goto (by rfl) ?_
          refine hxa_iconst (by rfl) rfl ?_
          refine hxa_call0 (by rfl) (by rfl) (by rfl) (by rfl) (by rfl) (by rfl) (hX12q1 (d := d + 6) hAc61 (Int32.ofNat 2) (by omega) (by omega) (Int32.ofNat 0) (by omega)) ?_
          rintro _ A5 ⟨hA5, z6, rfl⟩
          refine hxa_popI (by rfl) ?_
          refine hxj_iinc (by rfl) rfl rfl hk_1 (by omega) (by omega) (fun _ => rfl) (fun z7 ez7 => ?_)
          refine hxa_goto (by rfl) ?_
          exact ih8 y61_0 z7 (.int x61_4) A5 hA5 (by omega) (by omega) (by omega) (by omega) (by omega)
      refine hxa_iload_n (by rfl) rfl ?_
      refine hxa_sipush (by rfl) rfl ?_
      refine hxj_cge (by rfl) rfl hk_400 (fun q8 => ?_) (fun q8 => ?_)
      ·
        refine hxa_iload_n (by rfl) rfl ?_
        exact hxa_ireturn (by rfl) (hn_fitB (by omega) (by omega)) (hP _ _ ⟨hAc8, _, rfl, by omega⟩)
      ·
        refine hxa_iload_n (by rfl) rfl ?_
        refine hxj_zeq (by rfl) rfl (fun q9 => ?_) (fun q9 => ?_)
        ·
          refine hxa_iload_n (by rfl) rfl ?_
          exact hxa_ireturn (by rfl) (hn_fitB (by omega) (by omega)) (hP _ _ ⟨hAc8, _, rfl, by omega⟩)
        ·
          refine hxa_aload_n (by rfl) rfl ?_
          refine hxa_call0 (by rfl) (by rfl) (by rfl) (by rfl) (by rfl) (by rfl) (hX38q1 (d := d + 6) hAc8 ) ?_
          rintro _ _ ⟨rfl, z10, rfl⟩
          refine hxa_s1 (by rfl) (Or.inr ⟨_, rfl, rfl⟩) rfl ?_
          refine hxa_iload (by rfl) rfl ?_
          refine hxa_bipush (by rfl) rfl ?_
          refine hxj_ceq (by rfl) rfl hk_26 (fun q11 => ?_) (fun q11 => ?_)
          ·
            refine hxa_aload_n (by rfl) rfl ?_
            refine hxa_call0 (by rfl) (by rfl) (by rfl) (by rfl) (by rfl) (by rfl) (hX41q1 (d := d + 6) hAc8 ) ?_
            rintro _ A12 ⟨hA12, frA12_0, frA12_1, frA12_2, z13, rfl, fz13⟩
            refine hxj_zeq (by rfl) rfl (fun q14 => ?_) (fun q14 => ?_)
            ·
              refine hxa_iconst (by rfl) rfl ?_
              exact L61 z10 (Int32.ofNat 0) A12 hA12 (by omega) (by omega) (by omega) (by omega) (by omega) (by omega)
            ·
              refine hxa_aload_n (by rfl) rfl ?_
              refine hxa_iload_n (by rfl) rfl ?_
              refine hxa_call0 (by rfl) (by rfl) (by rfl) (by rfl) (by rfl) (by rfl) (hX51q1_5 (d := d + 0) hA12 a1 (by omega) (by omega)) ?_
              rintro _ A15 ⟨hA15, z16, rfl, fz16⟩
              refine hxj_zeq (by rfl) rfl (fun q17 => ?_) (fun q17 => ?_)
              ·
                refine hxa_iconst (by rfl) rfl ?_
                exact L61 z10 (Int32.ofNat 0) A15 hA15 (by omega) (by omega) (by omega) (by omega) (by omega) (by omega)
              ·
                refine hxa_iconst (by rfl) rfl ?_
                refine hxa_goto (by rfl) ?_
                exact L61 z10 (Int32.ofNat 1) A15 hA15 (by omega) (by omega) (by omega) (by omega) (by omega) (by omega)
          ·
            refine hxa_iload (by rfl) rfl ?_
            refine hxa_bipush (by rfl) rfl ?_
            refine hxj_ceq (by rfl) rfl hk_27 (fun q18 => ?_) (fun q18 => ?_)
            ·
              refine hxa_aload_n (by rfl) rfl ?_
              refine hxa_call0 (by rfl) (by rfl) (by rfl) (by rfl) (by rfl) (by rfl) (hX41q1 (d := d + 6) hAc8 ) ?_
              rintro _ A19 ⟨hA19, frA19_0, frA19_1, frA19_2, z20, rfl, fz20⟩
              refine hxj_zeq (by rfl) rfl (fun q21 => ?_) (fun q21 => ?_)
              ·
                refine hxa_iconst (by rfl) rfl ?_
                exact L61 z10 (Int32.ofNat 0) A19 hA19 (by omega) (by omega) (by omega) (by omega) (by omega) (by omega)
              ·
                refine hxa_aload_n (by rfl) rfl ?_
                refine hxa_iload_n (by rfl) rfl ?_
                refine hxa_call0 (by rfl) (by rfl) (by rfl) (by rfl) (by rfl) (by rfl) (hX51q1_5 (d := d + 0) hA19 a1 (by omega) (by omega)) ?_
                rintro _ A22 ⟨hA22, z23, rfl, fz23⟩
                refine hxj_zeq (by rfl) rfl (fun q24 => ?_) (fun q24 => ?_)
                ·
                  refine hxa_iconst (by rfl) rfl ?_
                  exact L61 z10 (Int32.ofNat 0) A22 hA22 (by omega) (by omega) (by omega) (by omega) (by omega) (by omega)
                ·
                  refine hxa_iconst (by rfl) rfl ?_
                  refine hxa_goto (by rfl) ?_
                  exact L61 z10 (Int32.ofNat 1) A22 hA22 (by omega) (by omega) (by omega) (by omega) (by omega) (by omega)
            ·
              refine hxa_iconst (by rfl) rfl ?_
              exact hxa_ireturn (by rfl) (by rfl) (hP _ _ ⟨hAc8, _, rfl, by omega⟩)
  refine hxa_aload_n (by rfl) rfl ?_
  refine hxa_iload_n (by rfl) rfl ?_
  refine hxa_call0 (by rfl) (by rfl) (by rfl) (by rfl) (by rfl) (by rfl) (hX51q1_5 (d := d + 0) hA a1 (by omega) (by omega)) ?_
  rintro _ A25 ⟨hA25, z26, rfl, fz26⟩
  refine hxa_s1 (by rfl) (Or.inl ⟨_, rfl, rfl⟩) rfl ?_
  refine hxa_iconst (by rfl) rfl ?_
  refine hxa_s1 (by rfl) (Or.inl ⟨_, rfl, rfl⟩) rfl ?_
  exact L8 (Int.toNat (400 - 0) + 1) z26 (Int32.ofNat 0) (.retAddr 0) A25 hA25 (by omega) (by omega) (by omega) (by omega) (by omega)
theorem hX50q1_5 {d : Nat} {Bn Br : Int} {A0 A : hs_A} (hA : hJ 1 Bn Br A0 A)  (a1 : Int32) (p1 : 5 ≤ a1.toInt) (q1 : a1.toInt ≤ 5) : hxC (d + 8) 50 hm_m50 [.ref 21, .int a1] A (fun r A' => hJ 1 Bn Br A0 A' ∧ ∃ z : Int32, r = some (.int z) ∧ ((0 ≤ z.toInt ∧ z.toInt ≤ 1))) := hxC.of (by rfl) (hY50q1_5 hA a1 p1 q1 (fun r A' h => h))
theorem hY52q1_4 {d : Nat} {Bn Br : Int} {A0 A : hs_A} (hA : hJ 1 Bn Br A0 A)  (a1 : Int32) (p1 : 4 ≤ a1.toInt) (q1 : a1.toInt ≤ 4) {P : Option Value → hs_A → Prop} (hP : ∀ (r : Option Value) (A' : hs_A), (hJ 1 Bn Br A0 A' ∧ ∃ z : Int32, r = some (.int z) ∧ ((0 ≤ z.toInt ∧ z.toInt ≤ 1))) → P r A') : hxa (d + 8) (some (.boolean)) hm_t52 0 [.ref 21, .int a1, .retAddr 0] [] A P := by
  have k0 := hk_0
  have k1 := hk_1
  have k11 := hk_11
  have k19 := hk_19
  have k32 := hk_32
  refine hxa_aload_n (by rfl) rfl ?_
  refine hxa_call0 (by rfl) (by rfl) (by rfl) (by rfl) (by rfl) (by rfl) (hX38q1 (d := d + 7) hA ) ?_
  rintro _ _ ⟨rfl, z1, rfl⟩
  refine hxa_s1 (by rfl) (Or.inl ⟨_, rfl, rfl⟩) rfl ?_
  refine hxa_iload_n (by rfl) rfl ?_
  refine hxa_bipush (by rfl) rfl ?_
  refine hxj_cne (by rfl) rfl hk_21 (fun q2 => ?_) (fun q2 => ?_)
  ·
    refine hxa_iload_n (by rfl) rfl ?_
    refine hxa_bipush (by rfl) rfl ?_
    refine hxa_bipush (by rfl) rfl ?_
    refine hxa_call2 (by rfl) (by decide) (by rfl) (by rfl) (by rfl) (hX78 (d := d + 7)  z1 (Int32.ofNat 11) (Int32.ofNat 19)) ?_
    rintro _ _ ⟨rfl, z3, rfl, fz3⟩
    rcases fz3 with fz3 | fz3
    ·
      refine hxj_zeq (by rfl) rfl (fun q4 => False.elim (by omega)) (fun q4 => ?_)
      refine hxa_aload_n (by rfl) rfl ?_
      refine hxj_getT (by rfl) (by rfl) (by rfl) hA.rt1 ?_
      refine hxa_get (v := .ref 7) (by rfl) (by rfl) (by rfl) rfl ?_
      refine hxa_iconst (by rfl) rfl ?_
      refine hxa_iload_n (by rfl) rfl ?_
      refine hxa_bipush (by rfl) rfl ?_
      refine hxj_isub (by rfl) rfl hk_11 (by omega) (by omega) (fun z5 ez5 => ?_)
      refine hxa_call0 (by rfl) (by rfl) (by rfl) (by rfl) (by rfl) (by rfl) (hX12q1 (d := d + 7) hA (Int32.ofNat 1) (by omega) (by omega) z5 (by omega)) ?_
      rintro _ A6 ⟨hA6, z7, rfl⟩
      refine hxa_popI (by rfl) ?_
      refine hxa_aload_n (by rfl) rfl ?_
      refine hxa_call0 (by rfl) (by rfl) (by rfl) (by rfl) (by rfl) (by rfl) (hX41q1 (d := d + 7) hA6 ) ?_
      rintro _ A8 ⟨hA8, frA8_0, frA8_1, frA8_2, z9, rfl, fz9⟩
      exact hxa_ireturn (by rfl) (hn_fitB (by omega) (by omega)) (hP _ _ ⟨hA8, _, rfl, by omega⟩)
    ·
      refine hxj_zeq (by rfl) rfl (fun q10 => ?_) (fun q10 => False.elim (by omega))
      refine hxa_iload_n (by rfl) rfl ?_
      refine hxa_bipush (by rfl) rfl ?_
      refine hxj_ceq (by rfl) rfl hk_31 (fun q11 => ?_) (fun q11 => ?_)
      ·
        refine hxa_iload_n (by rfl) rfl ?_
        refine hxa_bipush (by rfl) rfl ?_
        refine hxj_clt (by rfl) rfl hk_6 (fun q12 => ?_) (fun q12 => False.elim (by omega))
        refine hxa_aload_n (by rfl) rfl ?_
        refine hxa_call0 (by rfl) (by rfl) (by rfl) (by rfl) (by rfl) (by rfl) (hX41q1 (d := d + 7) hA ) ?_
        rintro _ A13 ⟨hA13, frA13_0, frA13_1, frA13_2, z14, rfl, fz14⟩
        refine hxj_zeq (by rfl) rfl (fun q15 => ?_) (fun q15 => ?_)
        ·
          refine hxa_iconst (by rfl) rfl ?_
          exact hxa_ireturn (by rfl) (by rfl) (hP _ _ ⟨hA13, _, rfl, by omega⟩)
        ·
          refine hxa_aload_n (by rfl) rfl ?_
          refine hxa_iload_n (by rfl) rfl ?_
          refine hxa_iconst (by rfl) rfl ?_
          refine hxj_iadd (by rfl) rfl hk_1 (by omega) (by omega) (fun z16 ez16 => ?_)
          refine hxa_call0 (by rfl) (by rfl) (by rfl) (by rfl) (by rfl) (by rfl) (hX50q1_5 (d := d + 0) hA13 z16 (by omega) (by omega)) ?_
          rintro _ A17 ⟨hA17, z18, rfl, fz18⟩
          refine hxj_zeq (by rfl) rfl (fun q19 => ?_) (fun q19 => ?_)
          ·
            refine hxa_iconst (by rfl) rfl ?_
            exact hxa_ireturn (by rfl) (by rfl) (hP _ _ ⟨hA17, _, rfl, by omega⟩)
          ·
            refine hxa_aload_n (by rfl) rfl ?_
            refine hxa_bipush (by rfl) rfl ?_
            refine hxa_call0 (by rfl) (by rfl) (by rfl) (by rfl) (by rfl) (by rfl) (hX42q1 (d := d + 6) hA17 (Int32.ofNat 32)) ?_
            rintro _ A20 ⟨hA20, frA20_0, frA20_1, frA20_2, z21, rfl, fz21⟩
            refine hxj_zeq (by rfl) rfl (fun q22 => ?_) (fun q22 => ?_)
            ·
              refine hxa_iconst (by rfl) rfl ?_
              exact hxa_ireturn (by rfl) (by rfl) (hP _ _ ⟨hA20, _, rfl, by omega⟩)
            ·
              refine hxa_iconst (by rfl) rfl ?_
              refine hxa_goto (by rfl) ?_
              exact hxa_ireturn (by rfl) (by rfl) (hP _ _ ⟨hA20, _, rfl, by omega⟩)
      ·
        refine hxa_aload_n (by rfl) rfl ?_
        refine hxa_iconst (by rfl) rfl ?_
        refine hxa_call0 (by rfl) (by rfl) (by rfl) (by rfl) (by rfl) (by rfl) (hX39q1 (d := d + 7) hA (Int32.ofNat 1)) ?_
        rintro _ A23 ⟨hA23, frA23_0, frA23_1, frA23_2, frA23_3, z24, rfl, fz24⟩
        exact hxa_ireturn (by rfl) (hn_fitB (by omega) (by omega)) (hP _ _ ⟨hA23, _, rfl, by omega⟩)
  ·
    refine hxa_aload_n (by rfl) rfl ?_
    refine hxj_getT (by rfl) (by rfl) (by rfl) hA.rt1 ?_
    refine hxa_get (v := .ref 7) (by rfl) (by rfl) (by rfl) rfl ?_
    refine hxa_iconst (by rfl) rfl ?_
    refine hxa_aload_n (by rfl) rfl ?_
    refine hxa_get (v := .ref 22) (by rfl) (by rfl) (by rfl) rfl ?_
    refine hxa_get (v := .ref 24) (by rfl) (by rfl) (by rfl) rfl ?_
    refine hxa_aload_n (by rfl) rfl ?_
    refine hxj_getB (by rfl) (by rfl) (by rfl) hA (by rfl) (fun z25 ez25 fz25 gz25 => ?_)
    refine hxj_lald (by rfl) (by rfl) rfl (by omega) (by omega) (fun j26 ej26 => ?_)
    refine hxa_l2i (by rfl) (hn_top (fun z27 _ => ?_))
    refine hxa_call0 (by rfl) (by rfl) (by rfl) (by rfl) (by rfl) (by rfl) (hX12q1 (d := d + 7) hA (Int32.ofNat 0) (by omega) (by omega) z27 (by omega)) ?_
    rintro _ A28 ⟨hA28, z29, rfl⟩
    refine hxa_popI (by rfl) ?_
    refine hxa_aload_n (by rfl) rfl ?_
    refine hxa_call0 (by rfl) (by rfl) (by rfl) (by rfl) (by rfl) (by rfl) (hX41q1 (d := d + 7) hA28 ) ?_
    rintro _ A30 ⟨hA30, frA30_0, frA30_1, frA30_2, z31, rfl, fz31⟩
    exact hxa_ireturn (by rfl) (hn_fitB (by omega) (by omega)) (hP _ _ ⟨hA30, _, rfl, by omega⟩)
theorem hX52q1_4 {d : Nat} {Bn Br : Int} {A0 A : hs_A} (hA : hJ 1 Bn Br A0 A)  (a1 : Int32) (p1 : 4 ≤ a1.toInt) (q1 : a1.toInt ≤ 4) : hxC (d + 9) 52 hm_m52 [.ref 21, .int a1] A (fun r A' => hJ 1 Bn Br A0 A' ∧ ∃ z : Int32, r = some (.int z) ∧ ((0 ≤ z.toInt ∧ z.toInt ≤ 1))) := hxC.of (by rfl) (hY52q1_4 hA a1 p1 q1 (fun r A' h => h))
theorem hY51q1_4 {d : Nat} {Bn Br : Int} {A0 A : hs_A} (hA : hJ 1 Bn Br A0 A)  (a1 : Int32) (p1 : 4 ≤ a1.toInt) (q1 : a1.toInt ≤ 4) {P : Option Value → hs_A → Prop} (hP : ∀ (r : Option Value) (A' : hs_A), (hJ 1 Bn Br A0 A' ∧ ∃ z : Int32, r = some (.int z) ∧ ((0 ≤ z.toInt ∧ z.toInt ≤ 1))) → P r A') : hxa (d + 9) (some (.boolean)) hm_t51 0 [.ref 21, .int a1, .retAddr 0, .retAddr 0, .retAddr 0] [] A P := by
  have k0 := hk_0
  have k1 := hk_1
  have k4 := hk_4
  have k5 := hk_5
  have L8 : ∀ (m8 : Nat) (x8_2 : Int32) (x8_3 : Int32) (x8_4 : Value) (Ac8 : hs_A) (hAc8 : hJ 1 Bn Br A0 Ac8) (bx8_2 : 0 ≤ x8_2.toInt) (cx8_2 : x8_2.toInt ≤ 1) (bx8_3 : 0 ≤ x8_3.toInt) (cx8_3 : x8_3.toInt ≤ 400) (hm8 : 400 - x8_3.toInt < (m8 : Int)), hxa (d + 9) (some (.boolean)) hm_t51 8 [.ref 21, .int a1, .int x8_2, .int x8_3, x8_4] [] Ac8 P := by
    intro m8
    induction m8 with
    | zero => intro x8_2 x8_3 x8_4 Ac8 hAc8 bx8_2 cx8_2 bx8_3 cx8_3 hm8;  exact False.elim (by omega)
    | succ m8 ih8 =>
      intro x8_2 x8_3 x8_4 Ac8 hAc8 bx8_2 cx8_2 bx8_3 cx8_3 hm8
      have L61 : ∀ (x61_4 : Int32) (y61_0 : Int32) (Ac61 : hs_A) (hAc61 : hJ 1 Bn Br A0 Ac61) (bx61_4 : 28 ≤ x61_4.toInt) (cx61_4 : x61_4.toInt ≤ 29) (by61_0 : 0 ≤ y61_0.toInt) (cy61_0 : y61_0.toInt ≤ 1) (bx8_2 : 1 ≤ x8_2.toInt) (cx8_3 : x8_3.toInt ≤ 399), hxa (d + 9) (some (.boolean)) hm_t51 61 [.ref 21, .int a1, .int x8_2, .int x8_3, .int x61_4] [.int y61_0] Ac61 P := by
        intro x61_4 y61_0 Ac61 hAc61 bx61_4 cx61_4 by61_0 cy61_0 bx8_2 cx8_3
        refine hxa_s1 (by rfl) (Or.inl ⟨_, rfl, rfl⟩) rfl ?_
        refine hxa_aload_n (by rfl) rfl ?_
        refine hxj_getT (by rfl) (by rfl) (by rfl) hAc61.rt1 ?_
        refine hxa_get (v := .ref 7) (by rfl) (by rfl) (by rfl) rfl ?_
        refine hxa_iload (by rfl) rfl ?_
        refine hxa_bipush (by rfl) rfl ?_
        refine hxj_cne (by rfl) rfl hk_28 (fun q1 => ?_) (fun q1 => ?_)
        ·
          refine hxa_iconst (by rfl) rfl ?_
          refine hxa_iconst (by rfl) rfl ?_
          refine hxa_call0 (by rfl) (by rfl) (by rfl) (by rfl) (by rfl) (by rfl) (hX12q1 (d := d + 8) hAc61 (Int32.ofNat 5) (by omega) (by omega) (Int32.ofNat 0) (by omega)) ?_
          rintro _ A2 ⟨hA2, z3, rfl⟩
          refine hxa_popI (by rfl) ?_
          refine hxj_iinc (by rfl) rfl rfl hk_1 (by omega) (by omega) (fun _ => rfl) (fun z4 ez4 => ?_)
          refine hxa_goto (by rfl) ?_
          exact ih8 y61_0 z4 (.int x61_4) A2 hA2 (by omega) (by omega) (by omega) (by omega) (by omega)
        ·
          refine hxa_iconst (by rfl) rfl ?_
          refine hxa_goto (by rfl) ?_
          refine hxa_iconst (by rfl) rfl ?_
          refine hxa_call0 (by rfl) (by rfl) (by rfl) (by rfl) (by rfl) (by rfl) (hX12q1 (d := d + 8) hAc61 (Int32.ofNat 4) (by omega) (by omega) (Int32.ofNat 0) (by omega)) ?_
          rintro _ A5 ⟨hA5, z6, rfl⟩
          refine hxa_popI (by rfl) ?_
          refine hxj_iinc (by rfl) rfl rfl hk_1 (by omega) (by omega) (fun _ => rfl) (fun z7 ez7 => ?_)
          refine hxa_goto (by rfl) ?_
          exact ih8 y61_0 z7 (.int x61_4) A5 hA5 (by omega) (by omega) (by omega) (by omega) (by omega)
      refine hxa_iload_n (by rfl) rfl ?_
      refine hxa_sipush (by rfl) rfl ?_
      refine hxj_cge (by rfl) rfl hk_400 (fun q8 => ?_) (fun q8 => ?_)
      ·
        refine hxa_iload_n (by rfl) rfl ?_
        exact hxa_ireturn (by rfl) (hn_fitB (by omega) (by omega)) (hP _ _ ⟨hAc8, _, rfl, by omega⟩)
      ·
        refine hxa_iload_n (by rfl) rfl ?_
        refine hxj_zeq (by rfl) rfl (fun q9 => ?_) (fun q9 => ?_)
        ·
          refine hxa_iload_n (by rfl) rfl ?_
          exact hxa_ireturn (by rfl) (hn_fitB (by omega) (by omega)) (hP _ _ ⟨hAc8, _, rfl, by omega⟩)
        ·
          refine hxa_aload_n (by rfl) rfl ?_
          refine hxa_call0 (by rfl) (by rfl) (by rfl) (by rfl) (by rfl) (by rfl) (hX38q1 (d := d + 8) hAc8 ) ?_
          rintro _ _ ⟨rfl, z10, rfl⟩
          refine hxa_s1 (by rfl) (Or.inr ⟨_, rfl, rfl⟩) rfl ?_
          refine hxa_iload (by rfl) rfl ?_
          refine hxa_bipush (by rfl) rfl ?_
          refine hxj_ceq (by rfl) rfl hk_28 (fun q11 => ?_) (fun q11 => ?_)
          ·
            refine hxa_aload_n (by rfl) rfl ?_
            refine hxa_call0 (by rfl) (by rfl) (by rfl) (by rfl) (by rfl) (by rfl) (hX41q1 (d := d + 8) hAc8 ) ?_
            rintro _ A12 ⟨hA12, frA12_0, frA12_1, frA12_2, z13, rfl, fz13⟩
            refine hxj_zeq (by rfl) rfl (fun q14 => ?_) (fun q14 => ?_)
            ·
              refine hxa_iconst (by rfl) rfl ?_
              exact L61 z10 (Int32.ofNat 0) A12 hA12 (by omega) (by omega) (by omega) (by omega) (by omega) (by omega)
            ·
              refine hxa_aload_n (by rfl) rfl ?_
              refine hxa_iload_n (by rfl) rfl ?_
              refine hxa_call0 (by rfl) (by rfl) (by rfl) (by rfl) (by rfl) (by rfl) (hX52q1_4 (d := d + 0) hA12 a1 (by omega) (by omega)) ?_
              rintro _ A15 ⟨hA15, z16, rfl, fz16⟩
              refine hxj_zeq (by rfl) rfl (fun q17 => ?_) (fun q17 => ?_)
              ·
                refine hxa_iconst (by rfl) rfl ?_
                exact L61 z10 (Int32.ofNat 0) A15 hA15 (by omega) (by omega) (by omega) (by omega) (by omega) (by omega)
              ·
                refine hxa_iconst (by rfl) rfl ?_
                refine hxa_goto (by rfl) ?_
                exact L61 z10 (Int32.ofNat 1) A15 hA15 (by omega) (by omega) (by omega) (by omega) (by omega) (by omega)
          ·
            refine hxa_iload (by rfl) rfl ?_
            refine hxa_bipush (by rfl) rfl ?_
            refine hxj_ceq (by rfl) rfl hk_29 (fun q18 => ?_) (fun q18 => ?_)
            ·
              refine hxa_aload_n (by rfl) rfl ?_
              refine hxa_call0 (by rfl) (by rfl) (by rfl) (by rfl) (by rfl) (by rfl) (hX41q1 (d := d + 8) hAc8 ) ?_
              rintro _ A19 ⟨hA19, frA19_0, frA19_1, frA19_2, z20, rfl, fz20⟩
              refine hxj_zeq (by rfl) rfl (fun q21 => ?_) (fun q21 => ?_)
              ·
                refine hxa_iconst (by rfl) rfl ?_
                exact L61 z10 (Int32.ofNat 0) A19 hA19 (by omega) (by omega) (by omega) (by omega) (by omega) (by omega)
              ·
                refine hxa_aload_n (by rfl) rfl ?_
                refine hxa_iload_n (by rfl) rfl ?_
                refine hxa_call0 (by rfl) (by rfl) (by rfl) (by rfl) (by rfl) (by rfl) (hX52q1_4 (d := d + 0) hA19 a1 (by omega) (by omega)) ?_
                rintro _ A22 ⟨hA22, z23, rfl, fz23⟩
                refine hxj_zeq (by rfl) rfl (fun q24 => ?_) (fun q24 => ?_)
                ·
                  refine hxa_iconst (by rfl) rfl ?_
                  exact L61 z10 (Int32.ofNat 0) A22 hA22 (by omega) (by omega) (by omega) (by omega) (by omega) (by omega)
                ·
                  refine hxa_iconst (by rfl) rfl ?_
                  refine hxa_goto (by rfl) ?_
                  exact L61 z10 (Int32.ofNat 1) A22 hA22 (by omega) (by omega) (by omega) (by omega) (by omega) (by omega)
            ·
              refine hxa_iconst (by rfl) rfl ?_
              exact hxa_ireturn (by rfl) (by rfl) (hP _ _ ⟨hAc8, _, rfl, by omega⟩)
  refine hxa_aload_n (by rfl) rfl ?_
  refine hxa_iload_n (by rfl) rfl ?_
  refine hxa_call0 (by rfl) (by rfl) (by rfl) (by rfl) (by rfl) (by rfl) (hX52q1_4 (d := d + 0) hA a1 (by omega) (by omega)) ?_
  rintro _ A25 ⟨hA25, z26, rfl, fz26⟩
  refine hxa_s1 (by rfl) (Or.inl ⟨_, rfl, rfl⟩) rfl ?_
  refine hxa_iconst (by rfl) rfl ?_
  refine hxa_s1 (by rfl) (Or.inl ⟨_, rfl, rfl⟩) rfl ?_
  exact L8 (Int.toNat (400 - 0) + 1) z26 (Int32.ofNat 0) (.retAddr 0) A25 hA25 (by omega) (by omega) (by omega) (by omega) (by omega)
theorem hX51q1_4 {d : Nat} {Bn Br : Int} {A0 A : hs_A} (hA : hJ 1 Bn Br A0 A)  (a1 : Int32) (p1 : 4 ≤ a1.toInt) (q1 : a1.toInt ≤ 4) : hxC (d + 10) 51 hm_m51 [.ref 21, .int a1] A (fun r A' => hJ 1 Bn Br A0 A' ∧ ∃ z : Int32, r = some (.int z) ∧ ((0 ≤ z.toInt ∧ z.toInt ≤ 1))) := hxC.of (by rfl) (hY51q1_4 hA a1 p1 q1 (fun r A' h => h))
theorem hY50q1_4 {d : Nat} {Bn Br : Int} {A0 A : hs_A} (hA : hJ 1 Bn Br A0 A)  (a1 : Int32) (p1 : 4 ≤ a1.toInt) (q1 : a1.toInt ≤ 4) {P : Option Value → hs_A → Prop} (hP : ∀ (r : Option Value) (A' : hs_A), (hJ 1 Bn Br A0 A' ∧ ∃ z : Int32, r = some (.int z) ∧ ((0 ≤ z.toInt ∧ z.toInt ≤ 1))) → P r A') : hxa (d + 10) (some (.boolean)) hm_t50 0 [.ref 21, .int a1, .retAddr 0, .retAddr 0, .retAddr 0] [] A P := by
  have k0 := hk_0
  have k1 := hk_1
  have k2 := hk_2
  have k3 := hk_3
  have L8 : ∀ (m8 : Nat) (x8_2 : Int32) (x8_3 : Int32) (x8_4 : Value) (Ac8 : hs_A) (hAc8 : hJ 1 Bn Br A0 Ac8) (bx8_2 : 0 ≤ x8_2.toInt) (cx8_2 : x8_2.toInt ≤ 1) (bx8_3 : 0 ≤ x8_3.toInt) (cx8_3 : x8_3.toInt ≤ 400) (hm8 : 400 - x8_3.toInt < (m8 : Int)), hxa (d + 10) (some (.boolean)) hm_t50 8 [.ref 21, .int a1, .int x8_2, .int x8_3, x8_4] [] Ac8 P := by
    intro m8
    induction m8 with
    | zero => intro x8_2 x8_3 x8_4 Ac8 hAc8 bx8_2 cx8_2 bx8_3 cx8_3 hm8;  exact False.elim (by omega)
    | succ m8 ih8 =>
      intro x8_2 x8_3 x8_4 Ac8 hAc8 bx8_2 cx8_2 bx8_3 cx8_3 hm8
      have L61 : ∀ (x61_4 : Int32) (y61_0 : Int32) (Ac61 : hs_A) (hAc61 : hJ 1 Bn Br A0 Ac61) (bx61_4 : 26 ≤ x61_4.toInt) (cx61_4 : x61_4.toInt ≤ 27) (by61_0 : 0 ≤ y61_0.toInt) (cy61_0 : y61_0.toInt ≤ 1) (bx8_2 : 1 ≤ x8_2.toInt) (cx8_3 : x8_3.toInt ≤ 399), hxa (d + 10) (some (.boolean)) hm_t50 61 [.ref 21, .int a1, .int x8_2, .int x8_3, .int x61_4] [.int y61_0] Ac61 P := by
        intro x61_4 y61_0 Ac61 hAc61 bx61_4 cx61_4 by61_0 cy61_0 bx8_2 cx8_3
        refine hxa_s1 (by rfl) (Or.inl ⟨_, rfl, rfl⟩) rfl ?_
        refine hxa_aload_n (by rfl) rfl ?_
        refine hxj_getT (by rfl) (by rfl) (by rfl) hAc61.rt1 ?_
        refine hxa_get (v := .ref 7) (by rfl) (by rfl) (by rfl) rfl ?_
        refine hxa_iload (by rfl) rfl ?_
        refine hxa_bipush (by rfl) rfl ?_
        refine hxj_cne (by rfl) rfl hk_26 (fun q1 => ?_) (fun q1 => ?_)
        ·
          refine hxa_iconst (by rfl) rfl ?_
          refine hxa_iconst (by rfl) rfl ?_
          refine hxa_call0 (by rfl) (by rfl) (by rfl) (by rfl) (by rfl) (by rfl) (hX12q1 (d := d + 9) hAc61 (Int32.ofNat 3) (by omega) (by omega) (Int32.ofNat 0) (by omega)) ?_
          rintro _ A2 ⟨hA2, z3, rfl⟩
          refine hxa_popI (by rfl) ?_
          refine hxj_iinc (by rfl) rfl rfl hk_1 (by omega) (by omega) (fun _ => rfl) (fun z4 ez4 => ?_)
          refine hxa_goto (by rfl) ?_
          exact ih8 y61_0 z4 (.int x61_4) A2 hA2 (by omega) (by omega) (by omega) (by omega) (by omega)
        ·
          refine hxa_iconst (by rfl) rfl ?_
          refine hxa_goto (by rfl) ?_
          refine hxa_iconst (by rfl) rfl ?_
          refine hxa_call0 (by rfl) (by rfl) (by rfl) (by rfl) (by rfl) (by rfl) (hX12q1 (d := d + 9) hAc61 (Int32.ofNat 2) (by omega) (by omega) (Int32.ofNat 0) (by omega)) ?_
          rintro _ A5 ⟨hA5, z6, rfl⟩
          refine hxa_popI (by rfl) ?_
          refine hxj_iinc (by rfl) rfl rfl hk_1 (by omega) (by omega) (fun _ => rfl) (fun z7 ez7 => ?_)
          refine hxa_goto (by rfl) ?_
          exact ih8 y61_0 z7 (.int x61_4) A5 hA5 (by omega) (by omega) (by omega) (by omega) (by omega)
      refine hxa_iload_n (by rfl) rfl ?_
      refine hxa_sipush (by rfl) rfl ?_
      refine hxj_cge (by rfl) rfl hk_400 (fun q8 => ?_) (fun q8 => ?_)
      ·
        refine hxa_iload_n (by rfl) rfl ?_
        exact hxa_ireturn (by rfl) (hn_fitB (by omega) (by omega)) (hP _ _ ⟨hAc8, _, rfl, by omega⟩)
      ·
        refine hxa_iload_n (by rfl) rfl ?_
        refine hxj_zeq (by rfl) rfl (fun q9 => ?_) (fun q9 => ?_)
        ·
          refine hxa_iload_n (by rfl) rfl ?_
          exact hxa_ireturn (by rfl) (hn_fitB (by omega) (by omega)) (hP _ _ ⟨hAc8, _, rfl, by omega⟩)
        ·
          refine hxa_aload_n (by rfl) rfl ?_
          refine hxa_call0 (by rfl) (by rfl) (by rfl) (by rfl) (by rfl) (by rfl) (hX38q1 (d := d + 9) hAc8 ) ?_
          rintro _ _ ⟨rfl, z10, rfl⟩
          refine hxa_s1 (by rfl) (Or.inr ⟨_, rfl, rfl⟩) rfl ?_
          refine hxa_iload (by rfl) rfl ?_
          refine hxa_bipush (by rfl) rfl ?_
          refine hxj_ceq (by rfl) rfl hk_26 (fun q11 => ?_) (fun q11 => ?_)
          ·
            refine hxa_aload_n (by rfl) rfl ?_
            refine hxa_call0 (by rfl) (by rfl) (by rfl) (by rfl) (by rfl) (by rfl) (hX41q1 (d := d + 9) hAc8 ) ?_
            rintro _ A12 ⟨hA12, frA12_0, frA12_1, frA12_2, z13, rfl, fz13⟩
            refine hxj_zeq (by rfl) rfl (fun q14 => ?_) (fun q14 => ?_)
            ·
              refine hxa_iconst (by rfl) rfl ?_
              exact L61 z10 (Int32.ofNat 0) A12 hA12 (by omega) (by omega) (by omega) (by omega) (by omega) (by omega)
            ·
              refine hxa_aload_n (by rfl) rfl ?_
              refine hxa_iload_n (by rfl) rfl ?_
              refine hxa_call0 (by rfl) (by rfl) (by rfl) (by rfl) (by rfl) (by rfl) (hX51q1_4 (d := d + 0) hA12 a1 (by omega) (by omega)) ?_
              rintro _ A15 ⟨hA15, z16, rfl, fz16⟩
              refine hxj_zeq (by rfl) rfl (fun q17 => ?_) (fun q17 => ?_)
              ·
                refine hxa_iconst (by rfl) rfl ?_
                exact L61 z10 (Int32.ofNat 0) A15 hA15 (by omega) (by omega) (by omega) (by omega) (by omega) (by omega)
              ·
                refine hxa_iconst (by rfl) rfl ?_
                refine hxa_goto (by rfl) ?_
                exact L61 z10 (Int32.ofNat 1) A15 hA15 (by omega) (by omega) (by omega) (by omega) (by omega) (by omega)
          ·
            refine hxa_iload (by rfl) rfl ?_
            refine hxa_bipush (by rfl) rfl ?_
            refine hxj_ceq (by rfl) rfl hk_27 (fun q18 => ?_) (fun q18 => ?_)
            ·
              refine hxa_aload_n (by rfl) rfl ?_
              refine hxa_call0 (by rfl) (by rfl) (by rfl) (by rfl) (by rfl) (by rfl) (hX41q1 (d := d + 9) hAc8 ) ?_
              rintro _ A19 ⟨hA19, frA19_0, frA19_1, frA19_2, z20, rfl, fz20⟩
              refine hxj_zeq (by rfl) rfl (fun q21 => ?_) (fun q21 => ?_)
              ·
                refine hxa_iconst (by rfl) rfl ?_
                exact L61 z10 (Int32.ofNat 0) A19 hA19 (by omega) (by omega) (by omega) (by omega) (by omega) (by omega)
              ·
                refine hxa_aload_n (by rfl) rfl ?_
                refine hxa_iload_n (by rfl) rfl ?_
                refine hxa_call0 (by rfl) (by rfl) (by rfl) (by rfl) (by rfl) (by rfl) (hX51q1_4 (d := d + 0) hA19 a1 (by omega) (by omega)) ?_
                rintro _ A22 ⟨hA22, z23, rfl, fz23⟩
                refine hxj_zeq (by rfl) rfl (fun q24 => ?_) (fun q24 => ?_)
                ·
                  refine hxa_iconst (by rfl) rfl ?_
                  exact L61 z10 (Int32.ofNat 0) A22 hA22 (by omega) (by omega) (by omega) (by omega) (by omega) (by omega)
                ·
                  refine hxa_iconst (by rfl) rfl ?_
                  refine hxa_goto (by rfl) ?_
                  exact L61 z10 (Int32.ofNat 1) A22 hA22 (by omega) (by omega) (by omega) (by omega) (by omega) (by omega)
            ·
              refine hxa_iconst (by rfl) rfl ?_
              exact hxa_ireturn (by rfl) (by rfl) (hP _ _ ⟨hAc8, _, rfl, by omega⟩)
  refine hxa_aload_n (by rfl) rfl ?_
  refine hxa_iload_n (by rfl) rfl ?_
  refine hxa_call0 (by rfl) (by rfl) (by rfl) (by rfl) (by rfl) (by rfl) (hX51q1_4 (d := d + 0) hA a1 (by omega) (by omega)) ?_
  rintro _ A25 ⟨hA25, z26, rfl, fz26⟩
  refine hxa_s1 (by rfl) (Or.inl ⟨_, rfl, rfl⟩) rfl ?_
  refine hxa_iconst (by rfl) rfl ?_
  refine hxa_s1 (by rfl) (Or.inl ⟨_, rfl, rfl⟩) rfl ?_
  exact L8 (Int.toNat (400 - 0) + 1) z26 (Int32.ofNat 0) (.retAddr 0) A25 hA25 (by omega) (by omega) (by omega) (by omega) (by omega)
theorem hX50q1_4 {d : Nat} {Bn Br : Int} {A0 A : hs_A} (hA : hJ 1 Bn Br A0 A)  (a1 : Int32) (p1 : 4 ≤ a1.toInt) (q1 : a1.toInt ≤ 4) : hxC (d + 11) 50 hm_m50 [.ref 21, .int a1] A (fun r A' => hJ 1 Bn Br A0 A' ∧ ∃ z : Int32, r = some (.int z) ∧ ((0 ≤ z.toInt ∧ z.toInt ≤ 1))) := hxC.of (by rfl) (hY50q1_4 hA a1 p1 q1 (fun r A' h => h))
