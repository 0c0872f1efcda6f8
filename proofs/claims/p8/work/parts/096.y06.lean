theorem hY122 {d : Nat} {Bn Br : Int} {A0 A : hs_A} (hA : hJ 0 Bn Br A0 A)  (a1 : Int32) (a2 : Int32) {P : Option Value → hs_A → Prop} (hP : ∀ (r : Option Value) (A' : hs_A), (hJ 0 Bn Br A0 A' ∧ ∃ z : Int32, r = some (.int z)) → P r A') : hxa (d + 1) (some (.int)) hm_t122 0 [.ref 1, .int a1, .int a2] [] A P := by
  have k4294967295 := hk_4294967295
  refine hxa_aload_n (by rfl) rfl ?_
  refine hxa_iload_n (by rfl) rfl ?_
  refine hxa_call0 (by rfl) (by rfl) (by rfl) (by rfl) (by rfl) (by rfl) (hX76 (d := d + 0) hA a1) ?_
  rintro _ _ ⟨rfl, z1, rfl, fz1⟩
  rcases fz1 with fz1 | fz1
  ·
    refine hxj_zeq (by rfl) rfl (fun q2 => False.elim (by omega)) (fun q2 => ?_)
    refine hxa_iload_n (by rfl) rfl ?_
    refine hxa_call2 (by rfl) (by decide) (by rfl) (by rfl) (by rfl) (hX77 (d := d + 0)  a2) ?_
    rintro _ _ ⟨rfl, z3, rfl, fz3⟩
    rcases fz3 with fz3 | fz3
    ·
      refine hxj_zne (by rfl) rfl (fun q4 => ?_) (fun q4 => False.elim (by omega))
      refine hxa_aload_n (by rfl) rfl ?_
      refine hxa_get (v := .ref 341) (by rfl) (by rfl) (by rfl) rfl ?_
      refine hxa_iload_n (by rfl) rfl ?_
      refine hxa_iload_n (by rfl) rfl ?_
      refine hxa_call0 (by rfl) (by rfl) (by rfl) (by rfl) (by rfl) (by rfl) (hX65 (d := d + 0) hA a1 (by omega) (by omega) a2) ?_
      rintro _ A5 ⟨hA5, z6, rfl⟩
      exact hxa_ireturn (by rfl) rfl (hP _ _ ⟨hA5, _, rfl⟩)
    ·
      refine hxj_zne (by rfl) rfl (fun q7 => False.elim (by omega)) (fun q7 => ?_)
      refine hxa_iconst (by rfl) rfl ?_
      exact hxa_ireturn (by rfl) rfl (hP _ _ ⟨hA, _, rfl⟩)
  ·
    refine hxj_zeq (by rfl) rfl (fun q8 => ?_) (fun q8 => False.elim (by omega))
    refine hxa_iconst (by rfl) rfl ?_
    exact hxa_ireturn (by rfl) rfl (hP _ _ ⟨hA, _, rfl⟩)
theorem hX122 {d : Nat} {Bn Br : Int} {A0 A : hs_A} (hA : hJ 0 Bn Br A0 A)  (a1 : Int32) (a2 : Int32) : hxC (d + 2) 122 hm_m122 [.ref 1, .int a1, .int a2] A (fun r A' => hJ 0 Bn Br A0 A' ∧ ∃ z : Int32, r = some (.int z)) := hxC.of (by rfl) (hY122 hA a1 a2 (fun r A' h => h))
theorem hY123 {d : Nat} {Bn Br : Int} {A0 A : hs_A} (hA : hJ 0 Bn Br A0 A)   {P : Option Value → hs_A → Prop} (hP : ∀ (r : Option Value) (A' : hs_A), (hJ 0 Bn Br A0 A' ∧ ∃ z : Int32, r = some (.int z)) → P r A') : hxa (d + 0) (some (.int)) hm_t123 0 [.ref 1, .retAddr 0] [] A P := by
  refine hxa_aload_n (by rfl) rfl ?_
  refine hxa_get (v := .ref 341) (by rfl) (by rfl) (by rfl) rfl ?_
  refine hxj_getB (by rfl) (by rfl) (by rfl) hA (by rfl) (fun z1 ez1 fz1 gz1 => ?_)
  refine hxa_s1 (by rfl) (Or.inl ⟨_, rfl, rfl⟩) rfl ?_
  refine hxa_aload_n (by rfl) rfl ?_
  refine hxa_get (v := .ref 341) (by rfl) (by rfl) (by rfl) rfl ?_
  refine hxa_iconst (by rfl) rfl ?_
  refine hxj_putI (by rfl) (by rfl) (by rfl) (by rfl) hA (hbok (by rfl) hk_0 (by omega) (by omega)) (by rfl) (by rfl) (fun A2 hA2 eA2 fA2 => ?_)
  refine hxa_iload_n (by rfl) rfl ?_
  exact hxa_ireturn (by rfl) rfl (hP _ _ ⟨hA2, _, rfl⟩)
theorem hX123 {d : Nat} {Bn Br : Int} {A0 A : hs_A} (hA : hJ 0 Bn Br A0 A)   : hxC (d + 1) 123 hm_m123 [.ref 1] A (fun r A' => hJ 0 Bn Br A0 A' ∧ ∃ z : Int32, r = some (.int z)) := hxC.of (by rfl) (hY123 hA  (fun r A' h => h))
theorem hY124 {d : Nat} {Bn Br : Int} {A0 A : hs_A} (hA : hJ 0 Bn Br A0 A)  (a1 : Int32) {P : Option Value → hs_A → Prop} (hP : ∀ (r : Option Value) (A' : hs_A), (hJ 0 Bn Br A0 A' ∧ ∃ z : Int32, r = some (.int z) ∧ ((0 ≤ z.toInt ∧ z.toInt ≤ 256))) → P r A') : hxa (d + 6) (some (.int)) hm_t124 0 [.ref 1, .int a1, .retAddr 0, .retAddr 0, .retAddr 0, .retAddr 0, .retAddr 0] [] A P := by
  have k0 := hk_0
  have k256 := hk_256
  have L28 : ∀ (m28 : Nat) (x28_2 : Int32) (x28_3 : Int32) (x28_4 : Value) (x28_5 : Value) (x28_6 : Value) (Ac28 : hs_A) (hx28_4 : hc_two (some x28_4) = false) (hx28_5 : hc_two (some x28_5) = false) (hAc28 : hJ 0 Bn Br A0 Ac28) (bx28_2 : 0 ≤ x28_2.toInt) (cx28_2 : x28_2.toInt ≤ 256) (bx28_3 : 0 ≤ x28_3.toInt) (cx28_3 : x28_3.toInt ≤ 20) (hm28 : 20 - x28_3.toInt < (m28 : Int)), hxa (d + 6) (some (.int)) hm_t124 28 [.ref 1, .int a1, .int x28_2, .int x28_3, x28_4, x28_5, x28_6] [] Ac28 P := by
    intro m28
    induction m28 with
    | zero => intro x28_2 x28_3 x28_4 x28_5 x28_6 Ac28 hx28_4 hx28_5 hAc28 bx28_2 cx28_2 bx28_3 cx28_3 hm28;  exact False.elim (by omega)
    | succ m28 ih28 =>
      intro x28_2 x28_3 x28_4 x28_5 x28_6 Ac28 hx28_4 hx28_5 hAc28 bx28_2 cx28_2 bx28_3 cx28_3 hm28
      have L60 : ∀ (m60 : Nat) (x60_4 : Nat) (x60_5 : Int32) (x60_6 : Int32) (Ac60 : hs_A) (hx60_4 : hRR x60_4) (hAc60 : hJ 0 Bn Br A0 Ac60) (bx60_5 : 0 ≤ x60_5.toInt) (cx60_5 : x60_5.toInt ≤ 256) (bx60_6 : 0 ≤ x60_6.toInt) (cx60_6 : x60_6.toInt ≤ 256) (cx28_3 : x28_3.toInt ≤ 19) (ba1 : 1 ≤ a1.toInt) (u60_0 : x60_5.toInt ≤ x60_6.toInt) (hm60 : 256 - x60_6.toInt < (m60 : Int)), hxa (d + 6) (some (.int)) hm_t124 60 [.ref 1, .int a1, .int x28_2, .int x28_3, .ref (x60_4 + 1), .int x60_5, .int x60_6] [] Ac60 P := by
        intro m60
        induction m60 with
        | zero => intro x60_4 x60_5 x60_6 Ac60 hx60_4 hAc60 bx60_5 cx60_5 bx60_6 cx60_6 cx28_3 ba1 u60_0 hm60;  exact False.elim (by omega)
        | succ m60 ih60 =>
          intro x60_4 x60_5 x60_6 Ac60 hx60_4 hAc60 bx60_5 cx60_5 bx60_6 cx60_6 cx28_3 ba1 u60_0 hm60
          refine hxa_iload (by rfl) rfl ?_
          refine hxa_iload_n (by rfl) rfl ?_
          refine hxj_cge (by rfl) rfl rfl (fun q1 => ?_) (fun q1 => ?_)
          ·
            refine hxa_iload (by rfl) rfl ?_
            refine hxa_s1 (by rfl) (Or.inl ⟨_, rfl, rfl⟩) rfl ?_
            refine hxj_iinc (by rfl) rfl rfl hk_1 (by omega) (by omega) (fun _ => rfl) (fun z2 ez2 => ?_)
            refine hxa_goto (by rfl) ?_
            exact ih28 x60_5 z2 (.ref (x60_4 + 1)) (.int x60_5) (.int x60_6) Ac60 rfl rfl hAc60 (by omega) (by omega) (by omega) (by omega) (by omega)
          ·
            refine hxa_aload (by rfl) rfl ?_
            refine hxa_aload_n (by rfl) rfl ?_
            refine hxa_get (v := .ref 344) (by rfl) (by rfl) (by rfl) rfl ?_
            refine hxa_iload (by rfl) rfl ?_
            refine hxj_ialdB (by rfl) (by rfl) rfl (by omega) (by omega) hAc60 (by rfl) (fun z3 ez3 fz3 gz3 => ?_)
            refine hxj_iald (by rfl) (hsR hx60_4) rfl (by omega) (by omega) (fun z4 ez4 => ?_)
            refine hxa_aload_n (by rfl) rfl ?_
            refine hxa_get (v := .ref 341) (by rfl) (by rfl) (by rfl) rfl ?_
            refine hxa_get (v := .ref 343) (by rfl) (by rfl) (by rfl) rfl ?_
            refine hxa_iload_n (by rfl) rfl ?_
            refine hxj_iald (by rfl) (by rfl) rfl (by omega) (by omega) (fun z5 ez5 => ?_)
            refine hxj_cne (by rfl) rfl rfl (fun q6 => ?_) (fun q6 => ?_)
            ·
              refine hxj_iinc (by rfl) rfl rfl hk_1 (by omega) (by omega) (fun _ => rfl) (fun z7 ez7 => ?_)
              refine hxa_goto (by rfl) ?_
              exact ih60 x60_4 x60_5 z7 Ac60 hx60_4 hAc60 (by omega) (by omega) (by omega) (by omega) (by omega) (by omega) (by omega) (by omega)
            ·
              refine hxa_aload_n (by rfl) rfl ?_
              refine hxa_get (v := .ref 344) (by rfl) (by rfl) (by rfl) rfl ?_
              refine hxa_iload (by rfl) rfl ?_
              refine hxa_aload_n (by rfl) rfl ?_
              refine hxa_get (v := .ref 344) (by rfl) (by rfl) (by rfl) rfl ?_
              refine hxa_iload (by rfl) rfl ?_
              refine hxj_ialdB (by rfl) (by rfl) rfl (by omega) (by omega) hAc60 (by rfl) (fun z8 ez8 fz8 gz8 => ?_)
              refine hxj_iast (by rfl) (by rfl) rfl (by omega) (by omega) hAc60 (hbok (by rfl) rfl (by omega) (by omega)) (by rfl) (by rfl) (fun A9 hA9 eA9 fA9 gA9 => ?_)
              refine hxj_iinc (by rfl) rfl rfl hk_1 (by omega) (by omega) (fun _ => rfl) (fun z10 ez10 => ?_)
              refine hxj_iinc (by rfl) rfl rfl hk_1 (by omega) (by omega) (fun _ => rfl) (fun z11 ez11 => ?_)
              refine hxa_goto (by rfl) ?_
              exact ih60 x60_4 z10 z11 A9 hx60_4 hA9 (by omega) (by omega) (by omega) (by omega) (by omega) (by omega) (by omega) (by omega)
      refine hxa_iload_n (by rfl) rfl ?_
      refine hxa_iload_n (by rfl) rfl ?_
      have rga1 := hn_rng a1
      refine hxj_cge (by rfl) rfl rfl (fun q12 => ?_) (fun q12 => ?_)
      ·
        refine hxa_iload_n (by rfl) rfl ?_
        exact hxa_ireturn (by rfl) rfl (hP _ _ ⟨hAc28, _, rfl, by omega⟩)
      ·
        refine hxa_iload_n (by rfl) rfl ?_
        refine hxa_bipush (by rfl) rfl ?_
        refine hxj_cge (by rfl) rfl hk_20 (fun q13 => ?_) (fun q13 => ?_)
        ·
          refine hxa_iload_n (by rfl) rfl ?_
          exact hxa_ireturn (by rfl) rfl (hP _ _ ⟨hAc28, _, rfl, by omega⟩)
        ·
          refine hxa_aload_n (by rfl) rfl ?_
          refine hxa_aload_n (by rfl) rfl ?_
          refine hxa_get (v := .ref 341) (by rfl) (by rfl) (by rfl) rfl ?_
          refine hxa_get (v := .ref 342) (by rfl) (by rfl) (by rfl) rfl ?_
          refine hxa_iload_n (by rfl) rfl ?_
          refine hxj_ialdB (by rfl) (by rfl) rfl (by omega) (by omega) hAc28 (by rfl) (fun z14 ez14 fz14 gz14 => ?_)
          refine hxa_call0 (by rfl) (by rfl) (by rfl) (by rfl) (by rfl) (by rfl) (hX89 (d := d + 0) hAc28 z14 (by omega) (by omega)) ?_
          rintro _ A15 ⟨hA15, R16, rfl, hR16⟩
          refine hxa_astore (by rfl) rfl ?_
          refine hxa_iconst (by rfl) rfl ?_
          refine hxa_s1 (by rfl) (Or.inr ⟨_, rfl, rfl⟩) rfl ?_
          refine hxa_iconst (by rfl) rfl ?_
          refine hxa_s1 (by rfl) (Or.inr ⟨_, rfl, rfl⟩) rfl ?_
          exact L60 (Int.toNat (256 - 0) + 1) R16 (Int32.ofNat 0) (Int32.ofNat 0) A15 hR16 hA15 (by omega) (by omega) (by omega) (by omega) (by omega) (by omega) (by omega) (by omega)
  have L2 : ∀ (m2 : Nat) (x2_2 : Int32) (Ac2 : hs_A) (hAc2 : hJ 0 Bn Br A0 Ac2) (bx2_2 : 0 ≤ x2_2.toInt) (cx2_2 : x2_2.toInt ≤ 256) (hm2 : 256 - x2_2.toInt < (m2 : Int)), hxa (d + 6) (some (.int)) hm_t124 2 [.ref 1, .int a1, .int x2_2, .retAddr 0, .retAddr 0, .retAddr 0, .retAddr 0] [] Ac2 P := by
    intro m2
    induction m2 with
    | zero => intro x2_2 Ac2 hAc2 bx2_2 cx2_2 hm2;  exact False.elim (by omega)
    | succ m2 ih2 =>
      intro x2_2 Ac2 hAc2 bx2_2 cx2_2 hm2
      refine hxa_iload_n (by rfl) rfl ?_
      refine hxa_sipush (by rfl) rfl ?_
      refine hxj_cge (by rfl) rfl hk_256 (fun q17 => ?_) (fun q17 => ?_)
      ·
        refine hxa_sipush (by rfl) rfl ?_
        refine hxa_s1 (by rfl) (Or.inl ⟨_, rfl, rfl⟩) rfl ?_
        refine hxa_iconst (by rfl) rfl ?_
        refine hxa_s1 (by rfl) (Or.inl ⟨_, rfl, rfl⟩) rfl ?_
        exact L28 (Int.toNat (20 - 0) + 1) (Int32.ofNat 256) (Int32.ofNat 0) (.retAddr 0) (.retAddr 0) (.retAddr 0) Ac2 rfl rfl hAc2 (by omega) (by omega) (by omega) (by omega) (by omega)
      ·
        refine hxa_aload_n (by rfl) rfl ?_
        refine hxa_get (v := .ref 344) (by rfl) (by rfl) (by rfl) rfl ?_
        refine hxa_iload_n (by rfl) rfl ?_
        refine hxa_iload_n (by rfl) rfl ?_
        refine hxj_iast (by rfl) (by rfl) rfl (by omega) (by omega) hAc2 (hbok (by rfl) rfl (by omega) (by omega)) (by rfl) (by rfl) (fun A18 hA18 eA18 fA18 gA18 => ?_)
        refine hxj_iinc (by rfl) rfl rfl hk_1 (by omega) (by omega) (fun _ => rfl) (fun z19 ez19 => ?_)
        refine hxa_goto (by rfl) ?_
        exact ih2 z19 A18 hA18 (by omega) (by omega) (by omega)
  refine hxa_iconst (by rfl) rfl ?_
  refine hxa_s1 (by rfl) (Or.inl ⟨_, rfl, rfl⟩) rfl ?_
  exact L2 (Int.toNat (256 - 0) + 1) (Int32.ofNat 0) A hA (by omega) (by omega) (by omega)
theorem hX124 {d : Nat} {Bn Br : Int} {A0 A : hs_A} (hA : hJ 0 Bn Br A0 A)  (a1 : Int32) : hxC (d + 7) 124 hm_m124 [.ref 1, .int a1] A (fun r A' => hJ 0 Bn Br A0 A' ∧ ∃ z : Int32, r = some (.int z) ∧ ((0 ≤ z.toInt ∧ z.toInt ≤ 256))) := hxC.of (by rfl) (hY124 hA a1 (fun r A' h => h))
theorem hY125 {d : Nat} {Bn Br : Int} {A0 A : hs_A} (hA : hJ 0 Bn Br A0 A)  (a1 : Int32) (a2 : Int32) {P : Option Value → hs_A → Prop} (hP : ∀ (r : Option Value) (A' : hs_A), (hJ 0 Bn Br A0 A' ∧ ∃ z : Int32, r = some (.int z)) → P r A') : hxa (d + 7) (some (.int)) hm_t125 0 [.ref 1, .int a1, .int a2, .retAddr 0, .retAddr 0, .retAddr 0, .retAddr 0] [] A P := by
  have k0 := hk_0
  have k255 := hk_255
  have k3 := hk_3
  have k4294967294 := hk_4294967294
  have k4294967295 := hk_4294967295
  have L56 : ∀ (m56 : Nat) (x56_3 : Int32) (x56_4 : Int32) (x56_5 : Int32) (x56_6 : Int32) (Ac56 : hs_A) (hAc56 : hJ 0 Bn Br A0 Ac56) (bx56_3 : 1 ≤ x56_3.toInt) (cx56_3 : x56_3.toInt ≤ 256) (bx56_4 : 0 ≤ x56_4.toInt) (cx56_4 : x56_4.toInt ≤ 255) (bx56_5 : 0 ≤ x56_5.toInt) (cx56_5 : x56_5.toInt ≤ 255) (bx56_6 : 0 ≤ x56_6.toInt) (cx56_6 : x56_6.toInt ≤ 256) (ba1 : 0 ≤ a1.toInt) (ca1 : a1.toInt ≤ 20) (ba2 : 1 ≤ a2.toInt) (ca2 : a2.toInt ≤ 3) (hm56 : 256 - x56_6.toInt < (m56 : Int)), hxa (d + 7) (some (.int)) hm_t125 56 [.ref 1, .int a1, .int a2, .int x56_3, .int x56_4, .int x56_5, .int x56_6] [] Ac56 P := by
    intro m56
    induction m56 with
    | zero => intro x56_3 x56_4 x56_5 x56_6 Ac56 hAc56 bx56_3 cx56_3 bx56_4 cx56_4 bx56_5 cx56_5 bx56_6 cx56_6 ba1 ca1 ba2 ca2 hm56;  exact False.elim (by omega)
    | succ m56 ih56 =>
      intro x56_3 x56_4 x56_5 x56_6 Ac56 hAc56 bx56_3 cx56_3 bx56_4 cx56_4 bx56_5 cx56_5 bx56_6 cx56_6 ba1 ca1 ba2 ca2 hm56
      refine hxa_iload (by rfl) rfl ?_
      refine hxa_iload_n (by rfl) rfl ?_
      refine hxj_cge (by rfl) rfl rfl (fun q1 => ?_) (fun q1 => ?_)
      ·
        refine hxa_iload_n (by rfl) rfl ?_
        refine hxa_iconst (by rfl) rfl ?_
        refine hxj_cne (by rfl) rfl hk_1 (fun q2 => ?_) (fun q2 => ?_)
        ·
          refine hxa_iload_n (by rfl) rfl ?_
          refine hxa_iconst (by rfl) rfl ?_
          refine hxj_cne (by rfl) rfl hk_2 (fun q3 => ?_) (fun q3 => ?_)
          ·
            refine hxa_sipush (by rfl) rfl ?_
            refine hxa_iload (by rfl) rfl ?_
            refine hxa_iconst (by rfl) rfl ?_
            refine hxj_ixorU (by rfl) (fun z4 => ?_)
            refine hxj_iandL (by rfl) hk_255 (by omega) (fun z5 ez5 fz5 => ?_)
            exact hxa_ireturn (by rfl) rfl (hP _ _ ⟨hAc56, _, rfl⟩)
          ·
            refine hxa_iload (by rfl) rfl ?_
            refine hxa_goto (by rfl) ?_
            exact hxa_ireturn (by rfl) rfl (hP _ _ ⟨hAc56, _, rfl⟩)
        ·
          refine hxa_aload_n (by rfl) rfl ?_
          refine hxa_get (v := .ref 344) (by rfl) (by rfl) (by rfl) rfl ?_
          refine hxa_iconst (by rfl) rfl ?_
          refine hxj_ialdB (by rfl) (by rfl) hk_0 (by omega) (by omega) hAc56 (by rfl) (fun z6 ez6 fz6 gz6 => ?_)
          exact hxa_ireturn (by rfl) rfl (hP _ _ ⟨hAc56, _, rfl⟩)
      ·
        refine hxa_iload (by rfl) rfl ?_
        refine hxa_aload_n (by rfl) rfl ?_
        refine hxa_get (v := .ref 344) (by rfl) (by rfl) (by rfl) rfl ?_
        refine hxa_iload (by rfl) rfl ?_
        refine hxj_ialdB (by rfl) (by rfl) rfl (by omega) (by omega) hAc56 (by rfl) (fun z7 ez7 fz7 gz7 => ?_)
        refine hxj_iandR (by rfl) rfl (by omega) (fun z8 ez8 fz8 => ?_)
        refine hxa_s1 (by rfl) (Or.inr ⟨_, rfl, rfl⟩) rfl ?_
        refine hxa_iload (by rfl) rfl ?_
        refine hxa_aload_n (by rfl) rfl ?_
        refine hxa_get (v := .ref 344) (by rfl) (by rfl) (by rfl) rfl ?_
        refine hxa_iload (by rfl) rfl ?_
        refine hxj_ialdB (by rfl) (by rfl) rfl (by omega) (by omega) hAc56 (by rfl) (fun z9 ez9 fz9 gz9 => ?_)
        refine hxj_ior255 (by rfl) rfl rfl (by omega) (by omega) (by omega) (by omega) (fun z10 ez10 fz10 => ?_)
        refine hxa_s1 (by rfl) (Or.inr ⟨_, rfl, rfl⟩) rfl ?_
        refine hxj_iinc (by rfl) rfl rfl hk_1 (by omega) (by omega) (fun _ => rfl) (fun z11 ez11 => ?_)
        refine hxa_goto (by rfl) ?_
        exact ih56 x56_3 z8 z10 z11 Ac56 hAc56 (by omega) (by omega) (by omega) (by omega) (by omega) (by omega) (by omega) (by omega) (by omega) (by omega) (by omega) (by omega) (by omega)
  refine hxa_iload_n (by rfl) rfl ?_
  refine hxa_iconst (by rfl) rfl ?_
  refine hxa_aload_n (by rfl) rfl ?_
  refine hxa_get (v := .ref 341) (by rfl) (by rfl) (by rfl) rfl ?_
  refine hxj_getB (by rfl) (by rfl) (by rfl) hA (by rfl) (fun z12 ez12 fz12 gz12 => ?_)
  refine hxa_call2 (by rfl) (by decide) (by rfl) (by rfl) (by rfl) (hX78 (d := d + 6)  a1 (Int32.ofNat 0) z12) ?_
  rintro _ _ ⟨rfl, z13, rfl, fz13⟩
  rcases fz13 with fz13 | fz13
  ·
    refine hxj_zeq (by rfl) rfl (fun q14 => False.elim (by omega)) (fun q14 => ?_)
    refine hxa_iload_n (by rfl) rfl ?_
    refine hxa_iconst (by rfl) rfl ?_
    refine hxa_iconst (by rfl) rfl ?_
    refine hxa_call2 (by rfl) (by decide) (by rfl) (by rfl) (by rfl) (hX78 (d := d + 6)  a2 (Int32.ofNat 0) (Int32.ofNat 3)) ?_
    rintro _ _ ⟨rfl, z15, rfl, fz15⟩
    rcases fz15 with fz15 | fz15
    ·
      refine hxj_zne (by rfl) rfl (fun q16 => ?_) (fun q16 => False.elim (by omega))
      refine hxa_aload_n (by rfl) rfl ?_
      refine hxa_iload_n (by rfl) rfl ?_
      refine hxa_call0 (by rfl) (by rfl) (by rfl) (by rfl) (by rfl) (by rfl) (hX124 (d := d + 0) hA a1) ?_
      rintro _ A17 ⟨hA17, z18, rfl, fz18⟩
      refine hxa_s1 (by rfl) (Or.inl ⟨_, rfl, rfl⟩) rfl ?_
      refine hxa_iload_n (by rfl) rfl ?_
      refine hxj_zne (by rfl) rfl (fun q19 => ?_) (fun q19 => ?_)
      ·
        refine hxa_iload_n (by rfl) rfl ?_
        refine hxj_zne (by rfl) rfl (fun q20 => ?_) (fun q20 => ?_)
        ·
          refine hxa_sipush (by rfl) rfl ?_
          refine hxa_s1 (by rfl) (Or.inr ⟨_, rfl, rfl⟩) rfl ?_
          refine hxa_iconst (by rfl) rfl ?_
          refine hxa_s1 (by rfl) (Or.inr ⟨_, rfl, rfl⟩) rfl ?_
          refine hxa_iconst (by rfl) rfl ?_
          refine hxa_s1 (by rfl) (Or.inr ⟨_, rfl, rfl⟩) rfl ?_
          exact L56 (Int.toNat (256 - 0) + 1) z18 (Int32.ofNat 255) (Int32.ofNat 0) (Int32.ofNat 0) A17 hA17 (by omega) (by omega) (by omega) (by omega) (by omega) (by omega) (by omega) (by omega) (by omega) (by omega) (by omega) (by omega) (by omega)
        ·
          refine hxa_bipush (by rfl) rfl ?_
          exact hxa_ireturn (by rfl) rfl (hP _ _ ⟨hA17, _, rfl⟩)
      ·
        refine hxa_iload_n (by rfl) rfl ?_
        exact hxa_ireturn (by rfl) rfl (hP _ _ ⟨hA17, _, rfl⟩)
    ·
      refine hxj_zne (by rfl) rfl (fun q21 => False.elim (by omega)) (fun q21 => ?_)
      refine hxa_iconst (by rfl) rfl ?_
      exact hxa_ireturn (by rfl) rfl (hP _ _ ⟨hA, _, rfl⟩)
  ·
    refine hxj_zeq (by rfl) rfl (fun q22 => ?_) (fun q22 => False.elim (by omega))
    refine hxa_iconst (by rfl) rfl ?_
    exact hxa_ireturn (by rfl) rfl (hP _ _ ⟨hA, _, rfl⟩)
theorem hX125 {d : Nat} {Bn Br : Int} {A0 A : hs_A} (hA : hJ 0 Bn Br A0 A)  (a1 : Int32) (a2 : Int32) : hxC (d + 8) 125 hm_m125 [.ref 1, .int a1, .int a2] A (fun r A' => hJ 0 Bn Br A0 A' ∧ ∃ z : Int32, r = some (.int z)) := hxC.of (by rfl) (hY125 hA a1 a2 (fun r A' h => h))
theorem hY127 {d : Nat} {Bn Br : Int} {A0 A : hs_A} (hA : hJ 0 Bn Br A0 A)  {R : Nat} (hR : hRR R) (a2 : Int32) (p2 : 0 ≤ a2.toInt) (q2 : a2.toInt ≤ 256) {P : Option Value → hs_A → Prop} (hP : ∀ (r : Option Value) (A' : hs_A), (hJ 0 Bn Br A0 A' ∧ ∃ z : Int32, r = some (.int z)) → P r A') : hxa (d + 1) (some (.int)) hm_t127 0 [.ref 1, .ref (R + 1), .int a2, .retAddr 0, .retAddr 0, .retAddr 0] [] A P := by
  have k0 := hk_0
  have L13 : ∀ (m13 : Nat) (x13_3 : Int32) (x13_4 : Int32) (x13_5 : Value) (Ac13 : hs_A) (hAc13 : hJ 0 Bn Br A0 Ac13) (bx13_3 : 0 ≤ x13_3.toInt) (bx13_4 : 0 ≤ x13_4.toInt) (cx13_4 : x13_4.toInt ≤ 256) (hm13 : 256 - x13_4.toInt < (m13 : Int)), hxa (d + 1) (some (.int)) hm_t127 13 [.ref 1, .ref (R + 1), .int a2, .int x13_3, .int x13_4, x13_5] [] Ac13 P := by
    intro m13
    induction m13 with
    | zero => intro x13_3 x13_4 x13_5 Ac13 hAc13 bx13_3 bx13_4 cx13_4 hm13; have := hn_rng x13_3; exact False.elim (by omega)
    | succ m13 ih13 =>
      intro x13_3 x13_4 x13_5 Ac13 hAc13 bx13_3 bx13_4 cx13_4 hm13
      refine hxa_iload (by rfl) rfl ?_
      refine hxa_iload_n (by rfl) rfl ?_
      refine hxj_cge (by rfl) rfl rfl (fun q1 => ?_) (fun q1 => ?_)
      ·
        refine hxa_iload_n (by rfl) rfl ?_
        exact hxa_ireturn (by rfl) rfl (hP _ _ ⟨hAc13, _, rfl⟩)
      ·
        refine hxa_aload_n (by rfl) rfl ?_
        refine hxa_aload_n (by rfl) rfl ?_
        refine hxa_get (v := .ref 344) (by rfl) (by rfl) (by rfl) rfl ?_
        refine hxa_iload (by rfl) rfl ?_
        refine hxj_ialdB (by rfl) (by rfl) rfl (by omega) (by omega) hAc13 (by rfl) (fun z2 ez2 fz2 gz2 => ?_)
        refine hxj_iald (by rfl) (hsR hR) rfl (by omega) (by omega) (fun z3 ez3 => ?_)
        refine hxa_sipush (by rfl) rfl ?_
        refine hxj_iandR (by rfl) hk_255 (by omega) (fun z4 ez4 fz4 => ?_)
        refine hxa_s1 (by rfl) (Or.inr ⟨_, rfl, rfl⟩) rfl ?_
        refine hxa_aload_n (by rfl) rfl ?_
        refine hxa_get (v := .ref 345) (by rfl) (by rfl) (by rfl) rfl ?_
        refine hxa_iload (by rfl) rfl ?_
        refine hxa_dup2IR (by rfl) ?_
        refine hxj_iald (by rfl) (by rfl) rfl (by omega) (by omega) (fun z5 ez5 => ?_)
        refine hxa_iconst (by rfl) rfl ?_
        refine hxj_iaddU (by rfl) (fun z6 => ?_)
        refine hxj_iast (by rfl) (by rfl) rfl (by omega) (by omega) hAc13 (hbokN (by rfl)) (by rfl) (by rfl) (fun A7 hA7 eA7 fA7 gA7 => ?_)
        refine hxa_iload_n (by rfl) rfl ?_
        refine hxa_aload_n (by rfl) rfl ?_
        refine hxa_get (v := .ref 345) (by rfl) (by rfl) (by rfl) rfl ?_
        refine hxa_iload (by rfl) rfl ?_
        refine hxj_iald (by rfl) (by rfl) rfl (by omega) (by omega) (fun z8 ez8 => ?_)
        refine hxa_call2 (by rfl) (by decide) (by rfl) (by rfl) (by rfl) (hX244 (d := d + 0)  x13_3 z8) ?_
        rintro _ _ ⟨rfl, z9, rfl, fz9⟩
        refine hxa_s1 (by rfl) (Or.inl ⟨_, rfl, rfl⟩) rfl ?_
        refine hxj_iinc (by rfl) rfl rfl hk_1 (by omega) (by omega) (fun _ => rfl) (fun z10 ez10 => ?_)
        refine hxa_goto (by rfl) ?_
        exact ih13 z9 z10 (.int z4) A7 hA7 (by omega) (by omega) (by omega) (by omega)
  refine hxa_aload_n (by rfl) rfl ?_
  refine hxa_get (v := .ref 345) (by rfl) (by rfl) (by rfl) rfl ?_
  refine hxa_iconst (by rfl) rfl ?_
  refine hxa_call2 (by rfl) (by decide) (by rfl) (by rfl) (by rfl) (hX246 (d := d + 0) hA (C := 344) (by rfl) (by omega) (hbokN (by rfl)) (by rfl) (by rfl)) ?_
  rintro _ A11 ⟨hA11, rfl⟩
  refine hxa_iconst (by rfl) rfl ?_
  refine hxa_s1 (by rfl) (Or.inl ⟨_, rfl, rfl⟩) rfl ?_
  refine hxa_iconst (by rfl) rfl ?_
  refine hxa_s1 (by rfl) (Or.inr ⟨_, rfl, rfl⟩) rfl ?_
  exact L13 (Int.toNat (256 - 0) + 1) (Int32.ofNat 0) (Int32.ofNat 0) (.retAddr 0) A11 hA11 (by omega) (by omega) (by omega) (by omega)
theorem hX127 {d : Nat} {Bn Br : Int} {A0 A : hs_A} (hA : hJ 0 Bn Br A0 A)  {R : Nat} (hR : hRR R) (a2 : Int32) (p2 : 0 ≤ a2.toInt) (q2 : a2.toInt ≤ 256) : hxC (d + 2) 127 hm_m127 [.ref 1, .ref (R + 1), .int a2] A (fun r A' => hJ 0 Bn Br A0 A' ∧ ∃ z : Int32, r = some (.int z)) := hxC.of (by rfl) (hY127 hA hR a2 p2 q2 (fun r A' h => h))
theorem hY126 {d : Nat} {Bn Br : Int} {A0 A : hs_A} (hA : hJ 0 Bn Br A0 A)  (a1 : Int32) {P : Option Value → hs_A → Prop} (hP : ∀ (r : Option Value) (A' : hs_A), (hJ 0 Bn Br A0 A' ∧ ∃ z : Int32, r = some (.int z)) → P r A') : hxa (d + 7) (some (.int)) hm_t126 0 [.ref 1, .int a1, .retAddr 0, .retAddr 0, .retAddr 0, .retAddr 0, .retAddr 0] [] A P := by
  have k0 := hk_0
  have k257 := hk_257
  have k4294967294 := hk_4294967294
  have k4294967295 := hk_4294967295
  obtain ⟨T0, hT0, -, eT0⟩ := hA.T
  have L34 : ∀ (m34 : Nat) (x34_2 : Int32) (x34_3 : Int32) (x34_4 : Int32) (x34_5 : Int32) (x34_6 : Value) (Ac34 : hs_A) (hAc34 : hJ 0 Bn Br A0 Ac34) (bx34_2 : 0 ≤ x34_2.toInt) (cx34_2 : x34_2.toInt ≤ 256) (bx34_3 : -2 ≤ x34_3.toInt) (cx34_3 : x34_3.toInt ≤ 9) (cx34_4 : x34_4.toInt ≤ 257) (bx34_5 : 0 ≤ x34_5.toInt) (cx34_5 : x34_5.toInt ≤ 10) (ba1 : 0 ≤ a1.toInt) (ca1 : a1.toInt ≤ 20) (hm34 : 10 - x34_5.toInt < (m34 : Int)), hxa (d + 7) (some (.int)) hm_t126 34 [.ref 1, .int a1, .int x34_2, .int x34_3, .int x34_4, .int x34_5, x34_6] [] Ac34 P := by
    intro m34
    induction m34 with
    | zero => intro x34_2 x34_3 x34_4 x34_5 x34_6 Ac34 hAc34 bx34_2 cx34_2 bx34_3 cx34_3 cx34_4 bx34_5 cx34_5 ba1 ca1 hm34; have := hn_rng x34_4; exact False.elim (by omega)
    | succ m34 ih34 =>
      intro x34_2 x34_3 x34_4 x34_5 x34_6 Ac34 hAc34 bx34_2 cx34_2 bx34_3 cx34_3 cx34_4 bx34_5 cx34_5 ba1 ca1 hm34
      refine hxa_iload (by rfl) rfl ?_
      refine hxa_aload_n (by rfl) rfl ?_
      refine hxj_getT (by rfl) (by rfl) (by rfl) (hAc34.Tw eT0) ?_
      refine hxj_getB (by rfl) (hsT hT0) (by rfl) hAc34 (hbT_4 hT0) (fun z1 ez1 fz1 gz1 => ?_)
      refine hxj_cge (by rfl) rfl rfl (fun q2 => ?_) (fun q2 => ?_)
      ·
        refine hxa_iload_n (by rfl) rfl ?_
        exact hxa_ireturn (by rfl) rfl (hP _ _ ⟨hAc34, _, rfl⟩)
      ·
        refine hxa_iload_n (by rfl) rfl ?_
        refine hxj_zle (by rfl) rfl (fun q3 => ?_) (fun q3 => ?_)
        ·
          refine hxa_iload_n (by rfl) rfl ?_
          exact hxa_ireturn (by rfl) rfl (hP _ _ ⟨hAc34, _, rfl⟩)
        ·
          refine hxa_aload_n (by rfl) rfl ?_
          refine hxa_aload_n (by rfl) rfl ?_
          refine hxa_iload (by rfl) rfl ?_
          refine hxa_call0 (by rfl) (by rfl) (by rfl) (by rfl) (by rfl) (by rfl) (hX89 (d := d + 1) hAc34 x34_5 (by omega) (by omega)) ?_
          rintro _ A4 ⟨hA4, R5, rfl, hR5⟩
          refine hxa_iload_n (by rfl) rfl ?_
          refine hxa_call0 (by rfl) (by rfl) (by rfl) (by rfl) (by rfl) (by rfl) (hX127 (d := d + 5) hA4 hR5 x34_2 (by omega) (by omega)) ?_
          rintro _ A6 ⟨hA6, z7, rfl⟩
          refine hxa_s1 (by rfl) (Or.inr ⟨_, rfl, rfl⟩) rfl ?_
          refine hxa_iload (by rfl) rfl ?_
          refine hxa_iload (by rfl) rfl ?_
          have rgz7 := hn_rng z7
          have rgx34_4 := hn_rng x34_4
          refine hxj_cge (by rfl) rfl rfl (fun q8 => ?_) (fun q8 => ?_)
          ·
            refine hxj_iinc (by rfl) rfl rfl hk_1 (by omega) (by omega) (fun _ => rfl) (fun z9 ez9 => ?_)
            refine hxa_goto (by rfl) ?_
            exact ih34 x34_2 x34_3 x34_4 z9 (.int z7) A6 hA6 (by omega) (by omega) (by omega) (by omega) (by omega) (by omega) (by omega) (by omega) (by omega) (by omega)
          ·
            refine hxa_iload (by rfl) rfl ?_
            refine hxa_s1 (by rfl) (Or.inr ⟨_, rfl, rfl⟩) rfl ?_
            refine hxa_iload (by rfl) rfl ?_
            refine hxa_s1 (by rfl) (Or.inl ⟨_, rfl, rfl⟩) rfl ?_
            refine hxj_iinc (by rfl) rfl rfl hk_1 (by omega) (by omega) (fun _ => rfl) (fun z10 ez10 => ?_)
            refine hxa_goto (by rfl) ?_
            exact ih34 x34_2 x34_5 z7 z10 (.int z7) A6 hA6 (by omega) (by omega) (by omega) (by omega) (by omega) (by omega) (by omega) (by omega) (by omega) (by omega)
  refine hxa_iload_n (by rfl) rfl ?_
  refine hxa_iconst (by rfl) rfl ?_
  refine hxa_aload_n (by rfl) rfl ?_
  refine hxa_get (v := .ref 341) (by rfl) (by rfl) (by rfl) rfl ?_
  refine hxj_getB (by rfl) (by rfl) (by rfl) hA (by rfl) (fun z11 ez11 fz11 gz11 => ?_)
  refine hxa_call2 (by rfl) (by decide) (by rfl) (by rfl) (by rfl) (hX78 (d := d + 6)  a1 (Int32.ofNat 0) z11) ?_
  rintro _ _ ⟨rfl, z12, rfl, fz12⟩
  rcases fz12 with fz12 | fz12
  ·
    refine hxj_zne (by rfl) rfl (fun q13 => ?_) (fun q13 => False.elim (by omega))
    refine hxa_aload_n (by rfl) rfl ?_
    refine hxa_iload_n (by rfl) rfl ?_
    refine hxa_call0 (by rfl) (by rfl) (by rfl) (by rfl) (by rfl) (by rfl) (hX124 (d := d + 0) hA a1) ?_
    rintro _ A14 ⟨hA14, z15, rfl, fz15⟩
    refine hxa_s1 (by rfl) (Or.inl ⟨_, rfl, rfl⟩) rfl ?_
    refine hxa_bipush (by rfl) rfl ?_
    refine hxa_s1 (by rfl) (Or.inl ⟨_, rfl, rfl⟩) rfl ?_
    refine hxa_sipush (by rfl) rfl ?_
    refine hxa_s1 (by rfl) (Or.inr ⟨_, rfl, rfl⟩) rfl ?_
    refine hxa_iconst (by rfl) rfl ?_
    refine hxa_s1 (by rfl) (Or.inr ⟨_, rfl, rfl⟩) rfl ?_
    exact L34 (Int.toNat (10 - 0) + 1) z15 (Int32.ofNat 4294967294) (Int32.ofNat 257) (Int32.ofNat 0) (.retAddr 0) A14 hA14 (by omega) (by omega) (by omega) (by omega) (by omega) (by omega) (by omega) (by omega) (by omega) (by omega)
  ·
    refine hxj_zne (by rfl) rfl (fun q16 => False.elim (by omega)) (fun q16 => ?_)
    refine hxa_iconst (by rfl) rfl ?_
    exact hxa_ireturn (by rfl) rfl (hP _ _ ⟨hA, _, rfl⟩)
theorem hX126 {d : Nat} {Bn Br : Int} {A0 A : hs_A} (hA : hJ 0 Bn Br A0 A)  (a1 : Int32) : hxC (d + 8) 126 hm_m126 [.ref 1, .int a1] A (fun r A' => hJ 0 Bn Br A0 A' ∧ ∃ z : Int32, r = some (.int z)) := hxC.of (by rfl) (hY126 hA a1 (fun r A' h => h))
theorem hY128 {d : Nat} {Bn Br : Int} {A0 A : hs_A} (hA : hJ 0 Bn Br A0 A)  (a1 : Int32) {P : Option Value → hs_A → Prop} (hP : ∀ (r : Option Value) (A' : hs_A), (hJ 0 Bn Br A0 A' ∧ ∃ z : Int32, r = some (.int z) ∧ ((0 ≤ z.toInt ∧ z.toInt ≤ 1))) → P r A') : hxa (d + 1) (some (.boolean)) hm_t128 0 [.ref 1, .int a1] [] A P := by
  have k0 := hk_0
  have k1 := hk_1
  have k2 := hk_2
  refine hxa_iload_n (by rfl) rfl ?_
  refine hxa_iconst (by rfl) rfl ?_
  refine hxa_iconst (by rfl) rfl ?_
  refine hxa_call2 (by rfl) (by decide) (by rfl) (by rfl) (by rfl) (hX78 (d := d + 0)  a1 (Int32.ofNat 0) (Int32.ofNat 2)) ?_
  rintro _ _ ⟨rfl, z1, rfl, fz1⟩
  rcases fz1 with fz1 | fz1
  ·
    refine hxj_zne (by rfl) rfl (fun q2 => ?_) (fun q2 => False.elim (by omega))
    refine hxa_aload_n (by rfl) rfl ?_
    refine hxa_get (v := .ref 323) (by rfl) (by rfl) (by rfl) rfl ?_
    refine hxa_iload_n (by rfl) rfl ?_
    obtain ⟨L3, hL3, eL3⟩ := haa_slots (j := a1) rfl (by omega) (by omega)
    refine hxa_aald (by rfl) (Or.inl rfl) (by rfl) (hn_ix0 rfl (by omega)) eL3 ?_
    refine hxa_aload_n (by rfl) rfl ?_
    refine hxa_get (v := .ref 27) (by rfl) (by rfl) (by rfl) rfl ?_
    refine hxa_call0 (by rfl) (by rfl) (by rfl) (hsL hL3) (by rfl) (by rfl) (hX17 (d := d + 0) hA hL3 hL26) ?_
    rintro _ A4 ⟨hA4, rfl⟩
    refine hxa_aload_n (by rfl) rfl ?_
    refine hxa_dupR (by rfl) ?_
    refine hxj_getI (by rfl) (by rfl) (by rfl) (fun z5 ez5 => ?_)
    refine hxa_iconst (by rfl) rfl ?_
    refine hxa_iload_n (by rfl) rfl ?_
    refine hxj_ishl1 (by rfl) rfl rfl (by omega) (by omega) (fun z6 ez6 fz6 => ?_)
    refine hxj_iorU (by rfl) (fun z7 => ?_)
    refine hxj_putI (by rfl) (by rfl) (by rfl) (by rfl) hA4 (hbokN (by rfl)) (by rfl) (by rfl) (fun A8 hA8 eA8 fA8 => ?_)
    refine hxa_iconst (by rfl) rfl ?_
    exact hxa_ireturn (by rfl) (by rfl) (hP _ _ ⟨hA8, _, rfl, by omega⟩)
  ·
    refine hxj_zne (by rfl) rfl (fun q9 => False.elim (by omega)) (fun q9 => ?_)
    refine hxa_iconst (by rfl) rfl ?_
    exact hxa_ireturn (by rfl) (by rfl) (hP _ _ ⟨hA, _, rfl, by omega⟩)
theorem hX128 {d : Nat} {Bn Br : Int} {A0 A : hs_A} (hA : hJ 0 Bn Br A0 A)  (a1 : Int32) : hxC (d + 2) 128 hm_m128 [.ref 1, .int a1] A (fun r A' => hJ 0 Bn Br A0 A' ∧ ∃ z : Int32, r = some (.int z) ∧ ((0 ≤ z.toInt ∧ z.toInt ≤ 1))) := hxC.of (by rfl) (hY128 hA a1 (fun r A' h => h))
theorem hY129 {d : Nat} {Bn Br : Int} {A0 A : hs_A} (hA : hJ 0 Bn Br A0 A)  (a1 : Int32) {P : Option Value → hs_A → Prop} (hP : ∀ (r : Option Value) (A' : hs_A), (hJ 0 Bn Br A0 A' ∧ ∃ z : Int32, r = some (.int z) ∧ ((0 ≤ z.toInt ∧ z.toInt ≤ 1))) → P r A') : hxa (d + 1) (some (.boolean)) hm_t129 0 [.ref 1, .int a1] [] A P := by
  have k0 := hk_0
  have k1 := hk_1
  have k2 := hk_2
  refine hxa_iload_n (by rfl) rfl ?_
  refine hxa_iconst (by rfl) rfl ?_
  refine hxa_iconst (by rfl) rfl ?_
  refine hxa_call2 (by rfl) (by decide) (by rfl) (by rfl) (by rfl) (hX78 (d := d + 0)  a1 (Int32.ofNat 0) (Int32.ofNat 2)) ?_
  rintro _ _ ⟨rfl, z1, rfl, fz1⟩
  rcases fz1 with fz1 | fz1
  ·
    refine hxj_zeq (by rfl) rfl (fun q2 => False.elim (by omega)) (fun q2 => ?_)
    refine hxa_aload_n (by rfl) rfl ?_
    refine hxj_getI (by rfl) (by rfl) (by rfl) (fun z3 ez3 => ?_)
    refine hxa_iload_n (by rfl) rfl ?_
    refine hxj_ishrU (by rfl) (fun z4 => ?_)
    refine hxa_iconst (by rfl) rfl ?_
    refine hxj_iandR (by rfl) hk_1 (by omega) (fun z5 ez5 fz5 => ?_)
    refine hxj_zne (by rfl) rfl (fun q6 => ?_) (fun q6 => ?_)
    ·
      refine hxa_aload_n (by rfl) rfl ?_
      refine hxa_get (v := .ref 27) (by rfl) (by rfl) (by rfl) rfl ?_
      refine hxa_aload_n (by rfl) rfl ?_
      refine hxa_get (v := .ref 323) (by rfl) (by rfl) (by rfl) rfl ?_
      refine hxa_iload_n (by rfl) rfl ?_
      obtain ⟨L7, hL7, eL7⟩ := haa_slots (j := a1) rfl (by omega) (by omega)
      refine hxa_aald (by rfl) (Or.inl rfl) (by rfl) (hn_ix0 rfl (by omega)) eL7 ?_
      refine hxa_call0 (by rfl) (by rfl) (by rfl) (by rfl) (by rfl) (by rfl) (hX17 (d := d + 0) hA hL26 hL7) ?_
      rintro _ A8 ⟨hA8, rfl⟩
      refine hxa_aload_n (by rfl) rfl ?_
      refine hxa_get (v := .ref 41) (by rfl) (by rfl) (by rfl) rfl ?_
      refine hxa_iconst (by rfl) rfl ?_
      refine hxj_putI (by rfl) (by rfl) (by rfl) (by rfl) hA8 (hbok (by rfl) hk_0 (by omega) (by omega)) (by rfl) (by rfl) (fun A9 hA9 eA9 fA9 => ?_)
      refine hxa_aload_n (by rfl) rfl ?_
      refine hxa_get (v := .ref 329) (by rfl) (by rfl) (by rfl) rfl ?_
      refine hxa_iconst (by rfl) rfl ?_
      refine hxj_putI (by rfl) (by rfl) (by rfl) (by rfl) hA9 (hbok (by rfl) hk_0 (by omega) (by omega)) (by rfl) (by rfl) (fun A10 hA10 eA10 fA10 => ?_)
      refine hxa_iconst (by rfl) rfl ?_
      exact hxa_ireturn (by rfl) (by rfl) (hP _ _ ⟨hA10, _, rfl, by omega⟩)
    ·
      refine hxa_iconst (by rfl) rfl ?_
      exact hxa_ireturn (by rfl) (by rfl) (hP _ _ ⟨hA, _, rfl, by omega⟩)
  ·
    refine hxj_zeq (by rfl) rfl (fun q11 => ?_) (fun q11 => False.elim (by omega))
    refine hxa_iconst (by rfl) rfl ?_
    exact hxa_ireturn (by rfl) (by rfl) (hP _ _ ⟨hA, _, rfl, by omega⟩)
theorem hX129 {d : Nat} {Bn Br : Int} {A0 A : hs_A} (hA : hJ 0 Bn Br A0 A)  (a1 : Int32) : hxC (d + 2) 129 hm_m129 [.ref 1, .int a1] A (fun r A' => hJ 0 Bn Br A0 A' ∧ ∃ z : Int32, r = some (.int z) ∧ ((0 ≤ z.toInt ∧ z.toInt ≤ 1))) := hxC.of (by rfl) (hY129 hA a1 (fun r A' h => h))
theorem hY131 {d : Nat} {Bn Br : Int} {A0 A : hs_A} (hA : hJ 0 Bn Br A0 A)  {C1 : Nat} (hC1 : hc_get hs_sh C1 = some (0, 1, [10])) {P : Option Value → hs_A → Prop} (hP : ∀ (r : Option Value) (A' : hs_A), (A = A' ∧ ∃ z : Int32, r = some (.int z)) → P r A') : hxa (d + 1) (some (.int)) hm_t131 0 [.ref 1, .ref (C1 + 1), .retAddr 0, .retAddr 0] [] A P := by
  have k0 := hk_0
  obtain ⟨T0, hT0, -, eT0⟩ := hA.T
  have L4 : ∀ (m4 : Nat) (x4_2 : Int32) (x4_3 : Int32) (bx4_3 : 0 ≤ x4_3.toInt) (cx4_3 : x4_3.toInt ≤ 10) (hm4 : 10 - x4_3.toInt < (m4 : Int)), hxa (d + 1) (some (.int)) hm_t131 4 [.ref 1, .ref (C1 + 1), .int x4_2, .int x4_3] [] A P := by
    intro m4
    induction m4 with
    | zero => intro x4_2 x4_3 bx4_3 cx4_3 hm4; have := hn_rng x4_2; exact False.elim (by omega)
    | succ m4 ih4 =>
      intro x4_2 x4_3 bx4_3 cx4_3 hm4
      refine hxa_iload_n (by rfl) rfl ?_
      refine hxa_aload_n (by rfl) rfl ?_
      refine hxj_getT (by rfl) (by rfl) (by rfl) (hA.Tw eT0) ?_
      refine hxj_getB (by rfl) (hsT hT0) (by rfl) hA (hbT_4 hT0) (fun z1 ez1 fz1 gz1 => ?_)
      refine hxj_cge (by rfl) rfl rfl (fun q2 => ?_) (fun q2 => ?_)
      ·
        refine hxa_iload_n (by rfl) rfl ?_
        exact hxa_ireturn (by rfl) rfl (hP _ _ ⟨rfl, _, rfl⟩)
      ·
        refine hxa_iload_n (by rfl) rfl ?_
        refine hxa_aload_n (by rfl) rfl ?_
        refine hxa_iload_n (by rfl) rfl ?_
        refine hxj_iald (by rfl) hC1 rfl (by omega) (by omega) (fun z3 ez3 => ?_)
        refine hxa_call2 (by rfl) (by decide) (by rfl) (by rfl) (by rfl) (hX242 (d := d + 0)  z3) ?_
        rintro _ _ ⟨rfl, z4, rfl, fz4⟩
        refine hxj_iaddU (by rfl) (fun z5 => ?_)
        refine hxa_s1 (by rfl) (Or.inl ⟨_, rfl, rfl⟩) rfl ?_
        refine hxj_iinc (by rfl) rfl rfl hk_1 (by omega) (by omega) (fun _ => rfl) (fun z6 ez6 => ?_)
        refine hxa_goto (by rfl) ?_
        exact ih4 z5 z6 (by omega) (by omega) (by omega)
  refine hxa_iconst (by rfl) rfl ?_
  refine hxa_s1 (by rfl) (Or.inl ⟨_, rfl, rfl⟩) rfl ?_
  refine hxa_iconst (by rfl) rfl ?_
  refine hxa_s1 (by rfl) (Or.inl ⟨_, rfl, rfl⟩) rfl ?_
  exact L4 (Int.toNat (10 - 0) + 1) (Int32.ofNat 0) (Int32.ofNat 0) (by omega) (by omega) (by omega)
theorem hX131 {d : Nat} {Bn Br : Int} {A0 A : hs_A} (hA : hJ 0 Bn Br A0 A)  {C1 : Nat} (hC1 : hc_get hs_sh C1 = some (0, 1, [10])) : hxC (d + 2) 131 hm_m131 [.ref 1, .ref (C1 + 1)] A (fun r A' => A = A' ∧ ∃ z : Int32, r = some (.int z)) := hxC.of (by rfl) (hY131 hA hC1 (fun r A' h => h))
theorem hY130 {d : Nat} {Bn Br : Int} {A0 A : hs_A} (hA : hJ 0 Bn Br A0 A)  (a1 : Int32) {P : Option Value → hs_A → Prop} (hP : ∀ (r : Option Value) (A' : hs_A), (A = A' ∧ ∃ z : Int32, r = some (.int z)) → P r A') : hxa (d + 2) (some (.int)) hm_t130 0 [.ref 1, .int a1] [] A P := by
  have k4294967295 := hk_4294967295
  obtain ⟨T0, hT0, -, eT0⟩ := hA.T
  refine hxa_iload_n (by rfl) rfl ?_
  by_cases q1 : a1.toInt = 0
  ·
    refine hxa_tabIn (by rfl) (by omega) (by omega) (by rw [q1]; rfl) (tgt := 88) (by rfl) ?_
    refine hxa_aload_n (by rfl) rfl ?_
    refine hxj_getT (by rfl) (by rfl) (by rfl) (hA.Tw eT0) ?_
    refine hxj_getB (by rfl) (hsT hT0) (by rfl) hA (hbT_4 hT0) (fun z2 ez2 fz2 gz2 => ?_)
    exact hxa_ireturn (by rfl) rfl (hP _ _ ⟨rfl, _, rfl⟩)
  ·
    by_cases q3 : a1.toInt = 1
    ·
      refine hxa_tabIn (by rfl) (by omega) (by omega) (by rw [q3]; rfl) (tgt := 96) (by rfl) ?_
      refine hxa_aload_n (by rfl) rfl ?_
      refine hxj_getT (by rfl) (by rfl) (by rfl) (hA.Tw eT0) ?_
      refine hxj_getI (by rfl) (hsT hT0) (by rfl) (fun z4 ez4 => ?_)
      exact hxa_ireturn (by rfl) rfl (hP _ _ ⟨rfl, _, rfl⟩)
    ·
      by_cases q5 : a1.toInt = 2
      ·
        refine hxa_tabIn (by rfl) (by omega) (by omega) (by rw [q5]; rfl) (tgt := 104) (by rfl) ?_
        refine hxa_aload_n (by rfl) rfl ?_
        refine hxa_get (v := .ref 27) (by rfl) (by rfl) (by rfl) rfl ?_
        refine hxj_getI (by rfl) (by rfl) (by rfl) (fun z6 ez6 => ?_)
        exact hxa_ireturn (by rfl) rfl (hP _ _ ⟨rfl, _, rfl⟩)
      ·
        by_cases q7 : a1.toInt = 3
        ·
          refine hxa_tabIn (by rfl) (by omega) (by omega) (by rw [q7]; rfl) (tgt := 112) (by rfl) ?_
          refine hxa_aload_n (by rfl) rfl ?_
          refine hxa_get (v := .ref 27) (by rfl) (by rfl) (by rfl) rfl ?_
          refine hxj_getI (by rfl) (by rfl) (by rfl) (fun z8 ez8 => ?_)
          refine hxa_bipush (by rfl) rfl ?_
          refine hxj_iremU (by rfl) hk_24 (by omega) (fun z9 => ?_)
          exact hxa_ireturn (by rfl) rfl (hP _ _ ⟨rfl, _, rfl⟩)
        ·
          by_cases q10 : a1.toInt = 4
          ·
            refine hxa_tabIn (by rfl) (by omega) (by omega) (by rw [q10]; rfl) (tgt := 123) (by rfl) ?_
            refine hxa_aload_n (by rfl) rfl ?_
            refine hxa_get (v := .ref 27) (by rfl) (by rfl) (by rfl) rfl ?_
            refine hxa_aload_n (by rfl) rfl ?_
            refine hxj_getT (by rfl) (by rfl) (by rfl) (hA.Tw eT0) ?_
            refine hxa_call0 (by rfl) (by rfl) (by rfl) (by rfl) (by rfl) (by rfl) (hX22 (d := d + 0) hA hL26 hT0 eT0) ?_
            rintro _ _ ⟨rfl, z11, rfl, fz11⟩
            exact hxa_ireturn (by rfl) rfl (hP _ _ ⟨rfl, _, rfl⟩)
          ·
            by_cases q12 : a1.toInt = 5
            ·
              refine hxa_tabIn (by rfl) (by omega) (by omega) (by rw [q12]; rfl) (tgt := 135) (by rfl) ?_
              refine hxa_aload_n (by rfl) rfl ?_
              refine hxa_get (v := .ref 27) (by rfl) (by rfl) (by rfl) rfl ?_
              refine hxj_getI (by rfl) (by rfl) (by rfl) (fun z13 ez13 => ?_)
              exact hxa_ireturn (by rfl) rfl (hP _ _ ⟨rfl, _, rfl⟩)
            ·
              by_cases q14 : a1.toInt = 6
              ·
                refine hxa_tabIn (by rfl) (by omega) (by omega) (by rw [q14]; rfl) (tgt := 143) (by rfl) ?_
                refine hxa_aload_n (by rfl) rfl ?_
                refine hxa_get (v := .ref 27) (by rfl) (by rfl) (by rfl) rfl ?_
                refine hxa_call0 (by rfl) (by rfl) (by rfl) (by rfl) (by rfl) (by rfl) (hX29 (d := d + 1) hA hL26) ?_
                rintro _ _ ⟨rfl, z15, rfl⟩
                exact hxa_ireturn (by rfl) rfl (hP _ _ ⟨rfl, _, rfl⟩)
              ·
                by_cases q16 : a1.toInt = 7
                ·
                  refine hxa_tabIn (by rfl) (by omega) (by omega) (by rw [q16]; rfl) (tgt := 151) (by rfl) ?_
                  refine hxa_aload_n (by rfl) rfl ?_
                  refine hxa_get (v := .ref 27) (by rfl) (by rfl) (by rfl) rfl ?_
                  refine hxa_call0 (by rfl) (by rfl) (by rfl) (by rfl) (by rfl) (by rfl) (hX30 (d := d + 0) hA hL26) ?_
                  rintro _ _ ⟨rfl, z17, rfl⟩
                  exact hxa_ireturn (by rfl) rfl (hP _ _ ⟨rfl, _, rfl⟩)
                ·
                  by_cases q18 : a1.toInt = 8
                  ·
                    refine hxa_tabIn (by rfl) (by omega) (by omega) (by rw [q18]; rfl) (tgt := 159) (by rfl) ?_
                    refine hxa_aload_n (by rfl) rfl ?_
                    refine hxa_get (v := .ref 27) (by rfl) (by rfl) (by rfl) rfl ?_
                    refine hxa_call0 (by rfl) (by rfl) (by rfl) (by rfl) (by rfl) (by rfl) (hX31 (d := d + 1) hA hL26) ?_
                    rintro _ _ ⟨rfl, z19, rfl⟩
                    exact hxa_ireturn (by rfl) rfl (hP _ _ ⟨rfl, _, rfl⟩)
                  ·
                    by_cases q20 : a1.toInt = 9
                    ·
                      refine hxa_tabIn (by rfl) (by omega) (by omega) (by rw [q20]; rfl) (tgt := 167) (by rfl) ?_
                      refine hxa_aload_n (by rfl) rfl ?_
                      refine hxj_getB (by rfl) (by rfl) (by rfl) hA (by rfl) (fun z21 ez21 fz21 gz21 => ?_)
                      exact hxa_ireturn (by rfl) rfl (hP _ _ ⟨rfl, _, rfl⟩)
                    ·
                      by_cases q22 : a1.toInt = 10
                      ·
                        refine hxa_tabIn (by rfl) (by omega) (by omega) (by rw [q22]; rfl) (tgt := 172) (by rfl) ?_
                        refine hxa_aload_n (by rfl) rfl ?_
                        refine hxa_get (v := .ref 41) (by rfl) (by rfl) (by rfl) rfl ?_
                        refine hxj_getB (by rfl) (by rfl) (by rfl) hA (by rfl) (fun z23 ez23 fz23 gz23 => ?_)
                        exact hxa_ireturn (by rfl) rfl (hP _ _ ⟨rfl, _, rfl⟩)
                      ·
                        by_cases q24 : a1.toInt = 11
                        ·
                          refine hxa_tabIn (by rfl) (by omega) (by omega) (by rw [q24]; rfl) (tgt := 180) (by rfl) ?_
                          refine hxa_aload_n (by rfl) rfl ?_
                          refine hxa_get (v := .ref 341) (by rfl) (by rfl) (by rfl) rfl ?_
                          refine hxj_getB (by rfl) (by rfl) (by rfl) hA (by rfl) (fun z25 ez25 fz25 gz25 => ?_)
                          exact hxa_ireturn (by rfl) rfl (hP _ _ ⟨rfl, _, rfl⟩)
                        ·
                          by_cases q26 : a1.toInt = 12
                          ·
                            refine hxa_tabIn (by rfl) (by omega) (by omega) (by rw [q26]; rfl) (tgt := 188) (by rfl) ?_
                            refine hxa_aload_n (by rfl) rfl ?_
                            refine hxj_getI (by rfl) (by rfl) (by rfl) (fun z27 ez27 => ?_)
                            refine hxa_call2 (by rfl) (by decide) (by rfl) (by rfl) (by rfl) (hX242 (d := d + 1)  z27) ?_
                            rintro _ _ ⟨rfl, z28, rfl, fz28⟩
                            exact hxa_ireturn (by rfl) rfl (hP _ _ ⟨rfl, _, rfl⟩)
                          ·
                            by_cases q29 : a1.toInt = 13
                            ·
                              refine hxa_tabIn (by rfl) (by omega) (by omega) (by rw [q29]; rfl) (tgt := 196) (by rfl) ?_
                              refine hxa_aload_n (by rfl) rfl ?_
                              refine hxa_get (v := .ref 27) (by rfl) (by rfl) (by rfl) rfl ?_
                              refine hxj_getI (by rfl) (by rfl) (by rfl) (fun z30 ez30 => ?_)
                              exact hxa_ireturn (by rfl) rfl (hP _ _ ⟨rfl, _, rfl⟩)
                            ·
                              by_cases q31 : a1.toInt = 14
                              ·
                                refine hxa_tabIn (by rfl) (by omega) (by omega) (by rw [q31]; rfl) (tgt := 204) (by rfl) ?_
                                refine hxa_aload_n (by rfl) rfl ?_
                                refine hxa_aload_n (by rfl) rfl ?_
                                refine hxa_get (v := .ref 27) (by rfl) (by rfl) (by rfl) rfl ?_
                                refine hxa_get (v := .ref 30) (by rfl) (by rfl) (by rfl) rfl ?_
                                refine hxa_call0 (by rfl) (by rfl) (by rfl) (by rfl) (by rfl) (by rfl) (hX131 (d := d + 0) hA (C1 := 29) (by rfl)) ?_
                                rintro _ _ ⟨rfl, z32, rfl⟩
                                exact hxa_ireturn (by rfl) rfl (hP _ _ ⟨rfl, _, rfl⟩)
                              ·
                                by_cases q33 : a1.toInt = 15
                                ·
                                  refine hxa_tabIn (by rfl) (by omega) (by omega) (by rw [q33]; rfl) (tgt := 216) (by rfl) ?_
                                  refine hxa_aload_n (by rfl) rfl ?_
                                  refine hxa_get (v := .ref 27) (by rfl) (by rfl) (by rfl) rfl ?_
                                  refine hxj_getI (by rfl) (by rfl) (by rfl) (fun z34 ez34 => ?_)
                                  refine hxa_aload_n (by rfl) rfl ?_
                                  refine hxa_get (v := .ref 27) (by rfl) (by rfl) (by rfl) rfl ?_
                                  refine hxa_call0 (by rfl) (by rfl) (by rfl) (by rfl) (by rfl) (by rfl) (hX29 (d := d + 1) hA hL26) ?_
                                  rintro _ _ ⟨rfl, z35, rfl⟩
                                  refine hxa_iconst (by rfl) rfl ?_
                                  refine hxj_ixorU (by rfl) (fun z36 => ?_)
                                  refine hxj_iandU (by rfl) (fun z37 => ?_)
                                  exact hxa_ireturn (by rfl) rfl (hP _ _ ⟨rfl, _, rfl⟩)
                                ·
                                  by_cases q38 : a1.toInt = 16
                                  ·
                                    refine hxa_tabIn (by rfl) (by omega) (by omega) (by rw [q38]; rfl) (tgt := 234) (by rfl) ?_
                                    refine hxa_aload_n (by rfl) rfl ?_
                                    refine hxa_aload_n (by rfl) rfl ?_
                                    refine hxa_get (v := .ref 27) (by rfl) (by rfl) (by rfl) rfl ?_
                                    refine hxa_get (v := .ref 32) (by rfl) (by rfl) (by rfl) rfl ?_
                                    refine hxa_call0 (by rfl) (by rfl) (by rfl) (by rfl) (by rfl) (by rfl) (hX131 (d := d + 0) hA (C1 := 31) (by rfl)) ?_
                                    rintro _ _ ⟨rfl, z39, rfl⟩
                                    exact hxa_ireturn (by rfl) rfl (hP _ _ ⟨rfl, _, rfl⟩)
                                  ·
                                    by_cases q40 : a1.toInt = 17
                                    ·
                                      refine hxa_tabIn (by rfl) (by omega) (by omega) (by rw [q40]; rfl) (tgt := 246) (by rfl) ?_
                                      refine hxa_aload_n (by rfl) rfl ?_
                                      refine hxa_get (v := .ref 27) (by rfl) (by rfl) (by rfl) rfl ?_
                                      refine hxa_call0 (by rfl) (by rfl) (by rfl) (by rfl) (by rfl) (by rfl) (hX32 (d := d + 1) hA hL26) ?_
                                      rintro _ _ ⟨rfl, z41, rfl⟩
                                      exact hxa_ireturn (by rfl) rfl (hP _ _ ⟨rfl, _, rfl⟩)
                                    ·
                                      refine hxa_tabOut (by rfl) (by omega) (tgt := 254) (by rfl) ?_
                                      refine hxa_iconst (by rfl) rfl ?_
                                      exact hxa_ireturn (by rfl) rfl (hP _ _ ⟨rfl, _, rfl⟩)
theorem hX130 {d : Nat} {Bn Br : Int} {A0 A : hs_A} (hA : hJ 0 Bn Br A0 A)  (a1 : Int32) : hxC (d + 3) 130 hm_m130 [.ref 1, .int a1] A (fun r A' => A = A' ∧ ∃ z : Int32, r = some (.int z)) := hxC.of (by rfl) (hY130 hA a1 (fun r A' h => h))
theorem hY169 {d : Nat} {Bn Br : Int} {A0 A : hs_A} (hA : hJ 0 Bn Br A0 A)   {P : Option Value → hs_A → Prop} (hP : ∀ (r : Option Value) (A' : hs_A), (hJ 0 Bn Br A0 A' ∧ r = none) → P r A') : hxa (d + 0) none hm_t169 0 [.ref 368, .retAddr 0] [] A P := by
  have k0 := hk_0
  have hB0 := hA.pos
  have L23 : ∀ (m23 : Nat) (x23_1 : Int32) (Ac23 : hs_A) (hAc23 : hJ 0 Bn Br A0 Ac23) (bx23_1 : 0 ≤ x23_1.toInt) (cx23_1 : x23_1.toInt ≤ 10) (hm23 : 10 - x23_1.toInt < (m23 : Int)), hxa (d + 0) none hm_t169 23 [.ref 368, .int x23_1] [] Ac23 P := by
    intro m23
    induction m23 with
    | zero => intro x23_1 Ac23 hAc23 bx23_1 cx23_1 hm23;  exact False.elim (by omega)
    | succ m23 ih23 =>
      intro x23_1 Ac23 hAc23 bx23_1 cx23_1 hm23
      refine hxa_iload_n (by rfl) rfl ?_
      refine hxa_aload_n (by rfl) rfl ?_
      refine hxa_get (v := .ref 377) (by rfl) (by rfl) (by rfl) rfl ?_
      refine hxa_aload_n (by rfl) rfl ?_
      refine hxj_getB (by rfl) (by rfl) (by rfl) hAc23 (by rfl) (fun z1 ez1 fz1 gz1 => ?_)
      refine hxj_ialdB (by rfl) (by rfl) rfl (by omega) (by omega) hAc23 (by rfl) (fun z2 ez2 fz2 gz2 => ?_)
      refine hxj_cge (by rfl) rfl rfl (fun q3 => ?_) (fun q3 => ?_)
      ·
        refine hxa_aload_n (by rfl) rfl ?_
        refine hxa_get (v := .ref 397) (by rfl) (by rfl) (by rfl) rfl ?_
        refine hxa_bipush (by rfl) rfl ?_
        refine hxa_iconst (by rfl) rfl ?_
        refine hxj_iast396 (by rfl) hk_71 (by omega) (by omega) hk_4294967295 hAc23 (by omega) (fun A4 hA4 eA4 fA4 gA4 => ?_)
        refine hxa_aload_n (by rfl) rfl ?_
        refine hxa_aload_n (by rfl) rfl ?_
        refine hxa_get (v := .ref 383) (by rfl) (by rfl) (by rfl) rfl ?_
        refine hxa_aload_n (by rfl) rfl ?_
        refine hxj_getK (by rfl) (by rfl) (by rfl) (hkA eA4 ez1) ?_
        refine hxj_iald (by rfl) (by rfl) rfl (by omega) (by omega) (fun z5 ez5 => ?_)
        refine hxj_putI (by rfl) (by rfl) (by rfl) (by rfl) hA4 (hbokN (by rfl)) (by rfl) (by rfl) (fun A6 hA6 eA6 fA6 => ?_)
        refine hxa_aload_n (by rfl) rfl ?_
        refine hxa_iconst (by rfl) rfl ?_
        refine hxj_putI (by rfl) (by rfl) (by rfl) (by rfl) hA6 (hbokN (by rfl)) (by rfl) (by rfl) (fun A7 hA7 eA7 fA7 => ?_)
        exact hxa_return (by rfl) rfl (hP _ _ ⟨hA7, rfl⟩)
      ·
        refine hxa_aload_n (by rfl) rfl ?_
        refine hxa_get (v := .ref 397) (by rfl) (by rfl) (by rfl) rfl ?_
        refine hxa_iload_n (by rfl) rfl ?_
        refine hxa_aload_n (by rfl) rfl ?_
        refine hxa_get (v := .ref 378) (by rfl) (by rfl) (by rfl) rfl ?_
        refine hxa_bipush (by rfl) rfl ?_
        refine hxa_aload_n (by rfl) rfl ?_
        refine hxj_getK (by rfl) (by rfl) (by rfl) ez1 ?_
        refine hxj_imul (by rfl) hk_10 rfl (by omega) (by omega) (fun z8 ez8 => ?_)
        refine hxa_iload_n (by rfl) rfl ?_
        refine hxj_iadd (by rfl) rfl rfl (by omega) (by omega) (fun z9 ez9 => ?_)
        refine hxj_iald (by rfl) (by rfl) rfl (by omega) (by omega) (fun z10 ez10 => ?_)
        refine hxj_iast396 (by rfl) rfl (by omega) (by omega) rfl hAc23 (by omega) (fun A11 hA11 eA11 fA11 gA11 => ?_)
        refine hxa_aload_n (by rfl) rfl ?_
        refine hxa_get (v := .ref 397) (by rfl) (by rfl) (by rfl) rfl ?_
        refine hxa_bipush (by rfl) rfl ?_
        refine hxa_iload_n (by rfl) rfl ?_
        refine hxj_iadd (by rfl) hk_10 rfl (by omega) (by omega) (fun z12 ez12 => ?_)
        refine hxa_aload_n (by rfl) rfl ?_
        refine hxa_get (v := .ref 379) (by rfl) (by rfl) (by rfl) rfl ?_
        refine hxa_bipush (by rfl) rfl ?_
        refine hxa_aload_n (by rfl) rfl ?_
        refine hxj_getK (by rfl) (by rfl) (by rfl) (hkA eA11 ez1) ?_
        refine hxj_imul (by rfl) hk_10 rfl (by omega) (by omega) (fun z13 ez13 => ?_)
        refine hxa_iload_n (by rfl) rfl ?_
        refine hxj_iadd (by rfl) rfl rfl (by omega) (by omega) (fun z14 ez14 => ?_)
        refine hxj_iald (by rfl) (by rfl) rfl (by omega) (by omega) (fun z15 ez15 => ?_)
        refine hxj_iast396 (by rfl) rfl (by omega) (by omega) rfl hA11 (by omega) (fun A16 hA16 eA16 fA16 gA16 => ?_)
        refine hxa_aload_n (by rfl) rfl ?_
        refine hxa_get (v := .ref 397) (by rfl) (by rfl) (by rfl) rfl ?_
        refine hxa_bipush (by rfl) rfl ?_
        refine hxa_iload_n (by rfl) rfl ?_
        refine hxj_iadd (by rfl) hk_20 rfl (by omega) (by omega) (fun z17 ez17 => ?_)
        refine hxa_iload_n (by rfl) rfl ?_
        refine hxj_iast396 (by rfl) rfl (by omega) (by omega) rfl hA16 (by omega) (fun A18 hA18 eA18 fA18 gA18 => ?_)
        refine hxa_aload_n (by rfl) rfl ?_
        refine hxa_get (v := .ref 397) (by rfl) (by rfl) (by rfl) rfl ?_
        refine hxa_bipush (by rfl) rfl ?_
        refine hxa_iload_n (by rfl) rfl ?_
        refine hxj_iadd (by rfl) hk_50 rfl (by omega) (by omega) (fun z19 ez19 => ?_)
        refine hxa_iconst (by rfl) rfl ?_
        refine hxj_iast396 (by rfl) rfl (by omega) (by omega) hk_1 hA18 (by omega) (fun A20 hA20 eA20 fA20 gA20 => ?_)
        refine hxj_iinc (by rfl) rfl rfl hk_1 (by omega) (by omega) (fun _ => rfl) (fun z21 ez21 => ?_)
        refine hxa_goto (by rfl) ?_
        exact ih23 z21 A20 hA20 (by omega) (by omega) (by omega)
  have L2 : ∀ (m2 : Nat) (x2_1 : Int32) (Ac2 : hs_A) (hAc2 : hJ 0 Bn Br A0 Ac2) (bx2_1 : 0 ≤ x2_1.toInt) (cx2_1 : x2_1.toInt ≤ 73) (hm2 : 73 - x2_1.toInt < (m2 : Int)), hxa (d + 0) none hm_t169 2 [.ref 368, .int x2_1] [] Ac2 P := by
    intro m2
    induction m2 with
    | zero => intro x2_1 Ac2 hAc2 bx2_1 cx2_1 hm2;  exact False.elim (by omega)
    | succ m2 ih2 =>
      intro x2_1 Ac2 hAc2 bx2_1 cx2_1 hm2
      refine hxa_iload_n (by rfl) rfl ?_
      refine hxa_bipush (by rfl) rfl ?_
      refine hxj_cge (by rfl) rfl hk_73 (fun q22 => ?_) (fun q22 => ?_)
      ·
        refine hxa_iconst (by rfl) rfl ?_
        refine hxa_s1 (by rfl) (Or.inl ⟨_, rfl, rfl⟩) rfl ?_
        exact L23 (Int.toNat (10 - 0) + 1) (Int32.ofNat 0) Ac2 hAc2 (by omega) (by omega) (by omega)
      ·
        refine hxa_aload_n (by rfl) rfl ?_
        refine hxa_get (v := .ref 397) (by rfl) (by rfl) (by rfl) rfl ?_
        refine hxa_iload_n (by rfl) rfl ?_
        refine hxa_iconst (by rfl) rfl ?_
        refine hxj_iast396 (by rfl) rfl (by omega) (by omega) hk_0 hAc2 (by omega) (fun A23 hA23 eA23 fA23 gA23 => ?_)
        refine hxj_iinc (by rfl) rfl rfl hk_1 (by omega) (by omega) (fun _ => rfl) (fun z24 ez24 => ?_)
        refine hxa_goto (by rfl) ?_
        exact ih2 z24 A23 hA23 (by omega) (by omega) (by omega)
  refine hxa_iconst (by rfl) rfl ?_
  refine hxa_s1 (by rfl) (Or.inl ⟨_, rfl, rfl⟩) rfl ?_
  exact L2 (Int.toNat (73 - 0) + 1) (Int32.ofNat 0) A hA (by omega) (by omega) (by omega)
theorem hX169 {d : Nat} {Bn Br : Int} {A0 A : hs_A} (hA : hJ 0 Bn Br A0 A)   : hxC (d + 1) 169 hm_m169 [.ref 368] A (fun r A' => hJ 0 Bn Br A0 A' ∧ r = none) := hxC.of (by rfl) (hY169 hA  (fun r A' h => h))
