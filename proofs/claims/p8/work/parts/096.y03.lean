theorem hY88 {d : Nat} {Bn Br : Int} {A0 A : hs_A} (hA : hJ 0 Bn Br A0 A)   {P : Option Value → hs_A → Prop} (hP : ∀ (r : Option Value) (A' : hs_A), (hJ 0 Bn Br A0 A' ∧ ∃ z : Int32, r = some (.int z) ∧ ((0 ≤ z.toInt ∧ z.toInt ≤ 1))) → P r A') : hxa (d + 2) (some (.boolean)) hm_t88 0 [.ref 1] [] A P := by
  refine hxa_aload_n (by rfl) rfl ?_
  refine hxa_get (v := .ref 329) (by rfl) (by rfl) (by rfl) rfl ?_
  refine hxa_iconst (by rfl) rfl ?_
  refine hxj_putI (by rfl) (by rfl) (by rfl) (by rfl) hA (hbok (by rfl) hk_0 (by omega) (by omega)) (by rfl) (by rfl) (fun A1 hA1 eA1 fA1 => ?_)
  refine hxa_aload_n (by rfl) rfl ?_
  refine hxa_get (v := .ref 41) (by rfl) (by rfl) (by rfl) rfl ?_
  refine hxa_aload_n (by rfl) rfl ?_
  refine hxa_get (v := .ref 27) (by rfl) (by rfl) (by rfl) rfl ?_
  refine hxa_call0 (by rfl) (by rfl) (by rfl) (by rfl) (by rfl) (by rfl) (hX35 (d := d + 0) hA1 hL26) ?_
  rintro _ A2 ⟨hA2, z3, rfl, fz3⟩
  exact hxa_ireturn (by rfl) (hn_fitB (by omega) (by omega)) (hP _ _ ⟨hA2, _, rfl, by omega⟩)
theorem hX88 {d : Nat} {Bn Br : Int} {A0 A : hs_A} (hA : hJ 0 Bn Br A0 A)   : hxC (d + 3) 88 hm_m88 [.ref 1] A (fun r A' => hJ 0 Bn Br A0 A' ∧ ∃ z : Int32, r = some (.int z) ∧ ((0 ≤ z.toInt ∧ z.toInt ≤ 1))) := hxC.of (by rfl) (hY88 hA  (fun r A' h => h))
theorem hY89 {d : Nat} {Bn Br : Int} {A0 A : hs_A} (hA : hJ 0 Bn Br A0 A)  (a1 : Int32) (p1 : 0 ≤ a1.toInt) (q1 : a1.toInt ≤ 9) {P : Option Value → hs_A → Prop} (hP : ∀ (r : Option Value) (A' : hs_A), (hJ 0 Bn Br A0 A' ∧ ∃ R : Nat, r = some (.ref (R + 1)) ∧ hRR R) → P r A') : hxa (d + 5) (some ((.array .int))) hm_t89 0 [.ref 1, .int a1] [] A P := by
  obtain ⟨T0, hT0, -, eT0⟩ := hA.T
  refine hxa_aload_n (by rfl) rfl ?_
  refine hxa_get (v := .ref 329) (by rfl) (by rfl) (by rfl) rfl ?_
  refine hxa_iload_n (by rfl) rfl ?_
  refine hxa_aload_n (by rfl) rfl ?_
  refine hxj_getT (by rfl) (by rfl) (by rfl) (hA.Tw eT0) ?_
  refine hxa_aload_n (by rfl) rfl ?_
  refine hxa_get (v := .ref 27) (by rfl) (by rfl) (by rfl) rfl ?_
  refine hxa_aload_n (by rfl) rfl ?_
  refine hxa_get (v := .ref 324) (by rfl) (by rfl) (by rfl) rfl ?_
  refine hxa_call0 (by rfl) (by rfl) (by rfl) (by rfl) (by rfl) (by rfl) (hX67 (d := d + 0) hA a1 (by omega) (by omega) hT0 eT0 hL26) ?_
  rintro _ A1 ⟨hA1, R2, rfl, hR2⟩
  exact hxa_areturn (by rfl) rfl (hP _ _ ⟨hA1, _, rfl, hR2⟩)
theorem hX89 {d : Nat} {Bn Br : Int} {A0 A : hs_A} (hA : hJ 0 Bn Br A0 A)  (a1 : Int32) (p1 : 0 ≤ a1.toInt) (q1 : a1.toInt ≤ 9) : hxC (d + 6) 89 hm_m89 [.ref 1, .int a1] A (fun r A' => hJ 0 Bn Br A0 A' ∧ ∃ R : Nat, r = some (.ref (R + 1)) ∧ hRR R) := hxC.of (by rfl) (hY89 hA a1 p1 q1 (fun r A' h => h))
theorem hY90 {d : Nat} {Bn Br : Int} {A0 A : hs_A} (hA : hJ 0 Bn Br A0 A)  (a1 : Int32) (p1 : 0 ≤ a1.toInt) (q1 : a1.toInt ≤ 9) (a2 : Int32) {P : Option Value → hs_A → Prop} (hP : ∀ (r : Option Value) (A' : hs_A), (hJ 0 Bn Br A0 A' ∧ ∃ z : Int32, r = some (.int z) ∧ ((0 ≤ z.toInt ∧ z.toInt ≤ 255))) → P r A') : hxa (d + 3) (some (.int)) hm_t90 0 [.ref 1, .int a1, .int a2, .retAddr 0, .retAddr 0] [] A P := by
  have k0 := hk_0
  have k1 := hk_1
  have k255 := hk_255
  obtain ⟨T0, hT0, -, eT0⟩ := hA.T
  have L22 : ∀ (m22 : Nat) (x22_3 : Int32) (x22_4 : Int32) (Ac22 : hs_A) (hAc22 : hJ 0 Bn Br A0 Ac22) (bx22_3 : 0 ≤ x22_3.toInt) (cx22_3 : x22_3.toInt ≤ 255) (bx22_4 : 1 ≤ x22_4.toInt) (cx22_4 : x22_4.toInt ≤ 10) (hm22 : 10 - x22_4.toInt < (m22 : Int)), hxa (d + 3) (some (.int)) hm_t90 22 [.ref 1, .int a1, .int a2, .int x22_3, .int x22_4] [] Ac22 P := by
    intro m22
    induction m22 with
    | zero => intro x22_3 x22_4 Ac22 hAc22 bx22_3 cx22_3 bx22_4 cx22_4 hm22;  exact False.elim (by omega)
    | succ m22 ih22 =>
      intro x22_3 x22_4 Ac22 hAc22 bx22_3 cx22_3 bx22_4 cx22_4 hm22
      refine hxa_iload (by rfl) rfl ?_
      refine hxa_iload_n (by rfl) rfl ?_
      refine hxj_cgt (by rfl) rfl rfl (fun q1 => ?_) (fun q1 => ?_)
      ·
        refine hxa_iload_n (by rfl) rfl ?_
        exact hxa_ireturn (by rfl) rfl (hP _ _ ⟨hAc22, _, rfl, by omega⟩)
      ·
        refine hxa_aload_n (by rfl) rfl ?_
        refine hxa_get (v := .ref 324) (by rfl) (by rfl) (by rfl) rfl ?_
        refine hxa_aload_n (by rfl) rfl ?_
        refine hxj_getT (by rfl) (by rfl) (by rfl) (hAc22.Tw eT0) ?_
        refine hxa_aload_n (by rfl) rfl ?_
        refine hxa_get (v := .ref 27) (by rfl) (by rfl) (by rfl) rfl ?_
        refine hxa_iload (by rfl) rfl ?_
        refine hxa_aload_n (by rfl) rfl ?_
        refine hxa_get (v := .ref 27) (by rfl) (by rfl) (by rfl) rfl ?_
        refine hxj_getI (by rfl) (by rfl) (by rfl) (fun z2 ez2 => ?_)
        refine hxa_iload_n (by rfl) rfl ?_
        refine hxj_iaddU (by rfl) (fun z3 => ?_)
        refine hxa_iload (by rfl) rfl ?_
        refine hxj_iaddU (by rfl) (fun z4 => ?_)
        refine hxa_call0 (by rfl) (by rfl) (by rfl) (by rfl) (by rfl) (by rfl) (hX1 (d := d + 1) hAc22 hT0 eT0 hL26 x22_4 (by omega) (by omega) z4) ?_
        rintro _ A5 ⟨hA5, rfl⟩
        refine hxa_aload_n (by rfl) rfl ?_
        refine hxa_get (v := .ref 324) (by rfl) (by rfl) (by rfl) rfl ?_
        refine hxa_iload_n (by rfl) rfl ?_
        refine hxa_call0 (by rfl) (by rfl) (by rfl) (by rfl) (by rfl) (by rfl) (hX5 (d := d + 0) hA5 x22_3) ?_
        rintro _ A6 ⟨hA6, z7, rfl, fz7⟩
        refine hxa_s1 (by rfl) (Or.inl ⟨_, rfl, rfl⟩) rfl ?_
        refine hxj_iinc (by rfl) rfl rfl hk_1 (by omega) (by omega) (fun _ => rfl) (fun z8 ez8 => ?_)
        refine hxa_goto (by rfl) ?_
        exact ih22 z7 z8 A6 hA6 (by omega) (by omega) (by omega) (by omega) (by omega)
  refine hxa_aload_n (by rfl) rfl ?_
  refine hxa_get (v := .ref 27) (by rfl) (by rfl) (by rfl) rfl ?_
  refine hxa_iload_n (by rfl) rfl ?_
  refine hxa_call0 (by rfl) (by rfl) (by rfl) (by rfl) (by rfl) (by rfl) (hX20 (d := d + 0) hA hL26 a1) ?_
  rintro _ _ ⟨rfl, z9, rfl⟩
  refine hxa_bipush (by rfl) rfl ?_
  refine hxj_ceq (by rfl) rfl hk_4294967294 (fun q10 => ?_) (fun q10 => ?_)
  ·
    refine hxa_sipush (by rfl) rfl ?_
    refine hxa_s1 (by rfl) (Or.inl ⟨_, rfl, rfl⟩) rfl ?_
    refine hxa_iconst (by rfl) rfl ?_
    refine hxa_s1 (by rfl) (Or.inr ⟨_, rfl, rfl⟩) rfl ?_
    exact L22 (Int.toNat (10 - 1) + 1) (Int32.ofNat 255) (Int32.ofNat 1) A hA (by omega) (by omega) (by omega) (by omega) (by omega)
  ·
    refine hxa_iconst (by rfl) rfl ?_
    exact hxa_ireturn (by rfl) rfl (hP _ _ ⟨hA, _, rfl, by omega⟩)
theorem hX90 {d : Nat} {Bn Br : Int} {A0 A : hs_A} (hA : hJ 0 Bn Br A0 A)  (a1 : Int32) (p1 : 0 ≤ a1.toInt) (q1 : a1.toInt ≤ 9) (a2 : Int32) : hxC (d + 4) 90 hm_m90 [.ref 1, .int a1, .int a2] A (fun r A' => hJ 0 Bn Br A0 A' ∧ ∃ z : Int32, r = some (.int z) ∧ ((0 ≤ z.toInt ∧ z.toInt ≤ 255))) := hxC.of (by rfl) (hY90 hA a1 p1 q1 a2 (fun r A' h => h))
theorem hY91 {d : Nat} {Bn Br : Int} {A0 A : hs_A} (hA : hJ 0 Bn Br A0 A)  (a1 : Int32) (a2 : Int32) {P : Option Value → hs_A → Prop} (hP : ∀ (r : Option Value) (A' : hs_A), (hJ 0 Bn Br A0 A' ∧ ∃ z : Int32, r = some (.int z)) → P r A') : hxa (d + 6) (some (.int)) hm_t91 0 [.ref 1, .int a1, .int a2] [] A P := by
  have k4294967295 := hk_4294967295
  refine hxa_aload_n (by rfl) rfl ?_
  refine hxa_iload_n (by rfl) rfl ?_
  refine hxa_call0 (by rfl) (by rfl) (by rfl) (by rfl) (by rfl) (by rfl) (hX76 (d := d + 5) hA a1) ?_
  rintro _ _ ⟨rfl, z1, rfl, fz1⟩
  rcases fz1 with fz1 | fz1
  ·
    refine hxj_zeq (by rfl) rfl (fun q2 => False.elim (by omega)) (fun q2 => ?_)
    refine hxa_iload_n (by rfl) rfl ?_
    refine hxa_call2 (by rfl) (by decide) (by rfl) (by rfl) (by rfl) (hX77 (d := d + 5)  a2) ?_
    rintro _ _ ⟨rfl, z3, rfl, fz3⟩
    rcases fz3 with fz3 | fz3
    ·
      refine hxj_zne (by rfl) rfl (fun q4 => ?_) (fun q4 => False.elim (by omega))
      refine hxa_aload_n (by rfl) rfl ?_
      refine hxa_iload_n (by rfl) rfl ?_
      refine hxa_call0 (by rfl) (by rfl) (by rfl) (by rfl) (by rfl) (by rfl) (hX89 (d := d + 0) hA a1 (by omega) (by omega)) ?_
      rintro _ A5 ⟨hA5, R6, rfl, hR6⟩
      refine hxa_iload_n (by rfl) rfl ?_
      refine hxj_iald (by rfl) (hsR hR6) rfl (by omega) (by omega) (fun z7 ez7 => ?_)
      exact hxa_ireturn (by rfl) rfl (hP _ _ ⟨hA5, _, rfl⟩)
    ·
      refine hxj_zne (by rfl) rfl (fun q8 => False.elim (by omega)) (fun q8 => ?_)
      refine hxa_iconst (by rfl) rfl ?_
      exact hxa_ireturn (by rfl) rfl (hP _ _ ⟨hA, _, rfl⟩)
  ·
    refine hxj_zeq (by rfl) rfl (fun q9 => ?_) (fun q9 => False.elim (by omega))
    refine hxa_iconst (by rfl) rfl ?_
    exact hxa_ireturn (by rfl) rfl (hP _ _ ⟨hA, _, rfl⟩)
theorem hX91 {d : Nat} {Bn Br : Int} {A0 A : hs_A} (hA : hJ 0 Bn Br A0 A)  (a1 : Int32) (a2 : Int32) : hxC (d + 7) 91 hm_m91 [.ref 1, .int a1, .int a2] A (fun r A' => hJ 0 Bn Br A0 A' ∧ ∃ z : Int32, r = some (.int z)) := hxC.of (by rfl) (hY91 hA a1 a2 (fun r A' h => h))
theorem hY92 {d : Nat} {Bn Br : Int} {A0 A : hs_A} (hA : hJ 0 Bn Br A0 A)  (a1 : Int32) {P : Option Value → hs_A → Prop} (hP : ∀ (r : Option Value) (A' : hs_A), (hJ 0 Bn Br A0 A' ∧ ∃ z : Int32, r = some (.int z)) → P r A') : hxa (d + 6) (some (.int)) hm_t92 0 [.ref 1, .int a1, .retAddr 0, .retAddr 0] [] A P := by
  have k4294967294 := hk_4294967294
  have k4294967295 := hk_4294967295
  obtain ⟨T0, hT0, -, eT0⟩ := hA.T
  have L19 : ∀ (m19 : Nat) (x19_2 : Int32) (x19_3 : Value) (Ac19 : hs_A) (hAc19 : hJ 0 Bn Br A0 Ac19) (bx19_2 : -1 ≤ x19_2.toInt) (cx19_2 : x19_2.toInt ≤ 9) (ba1 : 0 ≤ a1.toInt) (ca1 : a1.toInt ≤ 255) (hm19 : x19_2.toInt - (-1) < (m19 : Int)), hxa (d + 6) (some (.int)) hm_t92 19 [.ref 1, .int a1, .int x19_2, x19_3] [] Ac19 P := by
    intro m19
    induction m19 with
    | zero => intro x19_2 x19_3 Ac19 hAc19 bx19_2 cx19_2 ba1 ca1 hm19;  exact False.elim (by omega)
    | succ m19 ih19 =>
      intro x19_2 x19_3 Ac19 hAc19 bx19_2 cx19_2 ba1 ca1 hm19
      refine hxa_iload_n (by rfl) rfl ?_
      refine hxj_zlt (by rfl) rfl (fun q1 => ?_) (fun q1 => ?_)
      ·
        refine hxa_bipush (by rfl) rfl ?_
        exact hxa_ireturn (by rfl) rfl (hP _ _ ⟨hAc19, _, rfl⟩)
      ·
        refine hxa_aload_n (by rfl) rfl ?_
        refine hxa_iload_n (by rfl) rfl ?_
        refine hxa_call0 (by rfl) (by rfl) (by rfl) (by rfl) (by rfl) (by rfl) (hX89 (d := d + 0) hAc19 x19_2 (by omega) (by omega)) ?_
        rintro _ A2 ⟨hA2, R3, rfl, hR3⟩
        refine hxa_astore_n (by rfl) rfl ?_
        refine hxa_aload_n (by rfl) rfl ?_
        refine hxa_iload_n (by rfl) rfl ?_
        refine hxj_iald (by rfl) (hsR hR3) rfl (by omega) (by omega) (fun z4 ez4 => ?_)
        refine hxa_aload_n (by rfl) rfl ?_
        refine hxa_iconst (by rfl) rfl ?_
        refine hxj_iald (by rfl) (hsR hR3) hk_0 (by omega) (by omega) (fun z5 ez5 => ?_)
        refine hxj_ceq (by rfl) rfl rfl (fun q6 => ?_) (fun q6 => ?_)
        ·
          refine hxj_iinc (by rfl) rfl rfl hk_4294967295 (by omega) (by omega) (fun _ => rfl) (fun z7 ez7 => ?_)
          refine hxa_goto (by rfl) ?_
          exact ih19 z7 (.ref (R3 + 1)) A2 hA2 (by omega) (by omega) (by omega) (by omega) (by omega)
        ·
          refine hxa_iload_n (by rfl) rfl ?_
          exact hxa_ireturn (by rfl) rfl (hP _ _ ⟨hA2, _, rfl⟩)
  refine hxa_iload_n (by rfl) rfl ?_
  refine hxa_call2 (by rfl) (by decide) (by rfl) (by rfl) (by rfl) (hX77 (d := d + 5)  a1) ?_
  rintro _ _ ⟨rfl, z8, rfl, fz8⟩
  rcases fz8 with fz8 | fz8
  ·
    refine hxj_zne (by rfl) rfl (fun q9 => ?_) (fun q9 => False.elim (by omega))
    refine hxa_aload_n (by rfl) rfl ?_
    refine hxj_getT (by rfl) (by rfl) (by rfl) (hA.Tw eT0) ?_
    refine hxj_getB (by rfl) (hsT hT0) (by rfl) hA (hbT_4 hT0) (fun z10 ez10 fz10 gz10 => ?_)
    refine hxa_iconst (by rfl) rfl ?_
    refine hxj_isub (by rfl) rfl hk_1 (by omega) (by omega) (fun z11 ez11 => ?_)
    refine hxa_s1 (by rfl) (Or.inl ⟨_, rfl, rfl⟩) rfl ?_
    exact L19 (Int.toNat (z11.toInt - (-1)) + 1) z11 (.retAddr 0) A hA (by omega) (by omega) (by omega) (by omega) (by omega)
  ·
    refine hxj_zne (by rfl) rfl (fun q12 => False.elim (by omega)) (fun q12 => ?_)
    refine hxa_iconst (by rfl) rfl ?_
    exact hxa_ireturn (by rfl) rfl (hP _ _ ⟨hA, _, rfl⟩)
theorem hX92 {d : Nat} {Bn Br : Int} {A0 A : hs_A} (hA : hJ 0 Bn Br A0 A)  (a1 : Int32) : hxC (d + 7) 92 hm_m92 [.ref 1, .int a1] A (fun r A' => hJ 0 Bn Br A0 A' ∧ ∃ z : Int32, r = some (.int z)) := hxC.of (by rfl) (hY92 hA a1 (fun r A' h => h))
theorem hY93 {d : Nat} {Bn Br : Int} {A0 A : hs_A} (hA : hJ 0 Bn Br A0 A)  (a1 : Int32) {P : Option Value → hs_A → Prop} (hP : ∀ (r : Option Value) (A' : hs_A), (hJ 0 Bn Br A0 A' ∧ ∃ z : Int32, r = some (.int z)) → P r A') : hxa (d + 6) (some (.int)) hm_t93 0 [.ref 1, .int a1, .retAddr 0, .retAddr 0, .retAddr 0, .retAddr 0, .retAddr 0] [] A P := by
  have k0 := hk_0
  have k4294967294 := hk_4294967294
  have k4294967295 := hk_4294967295
  have k9 := hk_9
  have L37 : ∀ (m37 : Nat) (x37_2 : Nat) (x37_3 : Int32) (x37_4 : Int32) (x37_5 : Int32) (x37_6 : Int32) (Ac37 : hs_A) (hx37_2 : hRR x37_2) (hAc37 : hJ 0 Bn Br A0 Ac37) (bx37_4 : -2 ≤ x37_4.toInt) (cx37_4 : x37_4.toInt ≤ 255) (bx37_5 : 0 ≤ x37_5.toInt) (cx37_5 : x37_5.toInt ≤ 9) (bx37_6 : 0 ≤ x37_6.toInt) (cx37_6 : x37_6.toInt ≤ 256) (ba1 : 0 ≤ a1.toInt) (ca1 : a1.toInt ≤ 9) (hm37 : 256 - x37_6.toInt < (m37 : Int)), hxa (d + 6) (some (.int)) hm_t93 37 [.ref 1, .int a1, .ref (x37_2 + 1), .int x37_3, .int x37_4, .int x37_5, .int x37_6] [] Ac37 P := by
    intro m37
    induction m37 with
    | zero => intro x37_2 x37_3 x37_4 x37_5 x37_6 Ac37 hx37_2 hAc37 bx37_4 cx37_4 bx37_5 cx37_5 bx37_6 cx37_6 ba1 ca1 hm37; have := hn_rng x37_3; exact False.elim (by omega)
    | succ m37 ih37 =>
      intro x37_2 x37_3 x37_4 x37_5 x37_6 Ac37 hx37_2 hAc37 bx37_4 cx37_4 bx37_5 cx37_5 bx37_6 cx37_6 ba1 ca1 hm37
      refine hxa_iload (by rfl) rfl ?_
      refine hxa_sipush (by rfl) rfl ?_
      refine hxj_cge (by rfl) rfl hk_256 (fun q1 => ?_) (fun q1 => ?_)
      ·
        refine hxa_iload (by rfl) rfl ?_
        exact hxa_ireturn (by rfl) rfl (hP _ _ ⟨hAc37, _, rfl⟩)
      ·
        refine hxa_aload_n (by rfl) rfl ?_
        refine hxa_iload (by rfl) rfl ?_
        refine hxj_iald (by rfl) (hsR hx37_2) rfl (by omega) (by omega) (fun z2 ez2 => ?_)
        refine hxa_iload_n (by rfl) rfl ?_
        refine hxj_iandU (by rfl) (fun z3 => ?_)
        refine hxa_iload_n (by rfl) rfl ?_
        refine hxj_cne (by rfl) rfl rfl (fun q4 => ?_) (fun q4 => ?_)
        ·
          refine hxj_iinc (by rfl) rfl rfl hk_1 (by omega) (by omega) (fun _ => rfl) (fun z5 ez5 => ?_)
          refine hxa_goto (by rfl) ?_
          exact ih37 x37_2 x37_3 x37_4 x37_5 z5 Ac37 hx37_2 hAc37 (by omega) (by omega) (by omega) (by omega) (by omega) (by omega) (by omega) (by omega) (by omega)
        ·
          refine hxa_iload (by rfl) rfl ?_
          refine hxa_call2 (by rfl) (by decide) (by rfl) (by rfl) (by rfl) (hX242 (d := d + 5)  x37_6) ?_
          rintro _ _ ⟨rfl, z6, rfl, fz6⟩
          refine hxa_iload (by rfl) rfl ?_
          refine hxj_cge (by rfl) rfl rfl (fun q7 => ?_) (fun q7 => ?_)
          ·
            refine hxj_iinc (by rfl) rfl rfl hk_1 (by omega) (by omega) (fun _ => rfl) (fun z8 ez8 => ?_)
            refine hxa_goto (by rfl) ?_
            exact ih37 x37_2 x37_3 x37_4 x37_5 z8 Ac37 hx37_2 hAc37 (by omega) (by omega) (by omega) (by omega) (by omega) (by omega) (by omega) (by omega) (by omega)
          ·
            refine hxa_iload (by rfl) rfl ?_
            refine hxa_s1 (by rfl) (Or.inr ⟨_, rfl, rfl⟩) rfl ?_
            refine hxa_iload (by rfl) rfl ?_
            refine hxa_call2 (by rfl) (by decide) (by rfl) (by rfl) (by rfl) (hX242 (d := d + 5)  x37_6) ?_
            rintro _ _ ⟨rfl, z9, rfl, fz9⟩
            refine hxa_s1 (by rfl) (Or.inr ⟨_, rfl, rfl⟩) rfl ?_
            refine hxj_iinc (by rfl) rfl rfl hk_1 (by omega) (by omega) (fun _ => rfl) (fun z10 ez10 => ?_)
            refine hxa_goto (by rfl) ?_
            exact ih37 x37_2 x37_3 x37_6 z9 z10 Ac37 hx37_2 hAc37 (by omega) (by omega) (by omega) (by omega) (by omega) (by omega) (by omega) (by omega) (by omega)
  refine hxa_aload_n (by rfl) rfl ?_
  refine hxa_iload_n (by rfl) rfl ?_
  refine hxa_call0 (by rfl) (by rfl) (by rfl) (by rfl) (by rfl) (by rfl) (hX76 (d := d + 5) hA a1) ?_
  rintro _ _ ⟨rfl, z11, rfl, fz11⟩
  rcases fz11 with fz11 | fz11
  ·
    refine hxj_zne (by rfl) rfl (fun q12 => ?_) (fun q12 => False.elim (by omega))
    refine hxa_aload_n (by rfl) rfl ?_
    refine hxa_iload_n (by rfl) rfl ?_
    refine hxa_call0 (by rfl) (by rfl) (by rfl) (by rfl) (by rfl) (by rfl) (hX89 (d := d + 0) hA a1 (by omega) (by omega)) ?_
    rintro _ A13 ⟨hA13, R14, rfl, hR14⟩
    refine hxa_astore_n (by rfl) rfl ?_
    refine hxa_aload_n (by rfl) rfl ?_
    refine hxa_get (v := .ref 27) (by rfl) (by rfl) (by rfl) rfl ?_
    refine hxa_get (v := .ref 28) (by rfl) (by rfl) (by rfl) rfl ?_
    refine hxa_iload_n (by rfl) rfl ?_
    refine hxj_iald (by rfl) (by rfl) rfl (by omega) (by omega) (fun z15 ez15 => ?_)
    refine hxa_s1 (by rfl) (Or.inl ⟨_, rfl, rfl⟩) rfl ?_
    refine hxa_bipush (by rfl) rfl ?_
    refine hxa_s1 (by rfl) (Or.inr ⟨_, rfl, rfl⟩) rfl ?_
    refine hxa_bipush (by rfl) rfl ?_
    refine hxa_s1 (by rfl) (Or.inr ⟨_, rfl, rfl⟩) rfl ?_
    refine hxa_iconst (by rfl) rfl ?_
    refine hxa_s1 (by rfl) (Or.inr ⟨_, rfl, rfl⟩) rfl ?_
    exact L37 (Int.toNat (256 - 0) + 1) R14 z15 (Int32.ofNat 4294967294) (Int32.ofNat 9) (Int32.ofNat 0) A13 hR14 hA13 (by omega) (by omega) (by omega) (by omega) (by omega) (by omega) (by omega) (by omega) (by omega)
  ·
    refine hxj_zne (by rfl) rfl (fun q16 => False.elim (by omega)) (fun q16 => ?_)
    refine hxa_iconst (by rfl) rfl ?_
    exact hxa_ireturn (by rfl) rfl (hP _ _ ⟨hA, _, rfl⟩)
theorem hX93 {d : Nat} {Bn Br : Int} {A0 A : hs_A} (hA : hJ 0 Bn Br A0 A)  (a1 : Int32) : hxC (d + 7) 93 hm_m93 [.ref 1, .int a1] A (fun r A' => hJ 0 Bn Br A0 A' ∧ ∃ z : Int32, r = some (.int z)) := hxC.of (by rfl) (hY93 hA a1 (fun r A' h => h))
theorem hY94 {d : Nat} {Bn Br : Int} {A0 A : hs_A} (hA : hJ 0 Bn Br A0 A)  (a1 : Int32) {P : Option Value → hs_A → Prop} (hP : ∀ (r : Option Value) (A' : hs_A), (hJ 0 Bn Br A0 A' ∧ ∃ z : Int32, r = some (.int z)) → P r A') : hxa (d + 6) (some (.int)) hm_t94 0 [.ref 1, .int a1, .retAddr 0, .retAddr 0, .retAddr 0, .retAddr 0] [] A P := by
  have k0 := hk_0
  have k4294967295 := hk_4294967295
  have L29 : ∀ (m29 : Nat) (x29_2 : Nat) (x29_3 : Int32) (x29_4 : Int32) (x29_5 : Value) (Ac29 : hs_A) (hx29_2 : hRR x29_2) (hAc29 : hJ 0 Bn Br A0 Ac29) (bx29_4 : 0 ≤ x29_4.toInt) (cx29_4 : x29_4.toInt ≤ 256) (ba1 : 0 ≤ a1.toInt) (ca1 : a1.toInt ≤ 9) (hm29 : 256 - x29_4.toInt < (m29 : Int)), hxa (d + 6) (some (.int)) hm_t94 29 [.ref 1, .int a1, .ref (x29_2 + 1), .int x29_3, .int x29_4, x29_5] [] Ac29 P := by
    intro m29
    induction m29 with
    | zero => intro x29_2 x29_3 x29_4 x29_5 Ac29 hx29_2 hAc29 bx29_4 cx29_4 ba1 ca1 hm29; have := hn_rng x29_3; exact False.elim (by omega)
    | succ m29 ih29 =>
      intro x29_2 x29_3 x29_4 x29_5 Ac29 hx29_2 hAc29 bx29_4 cx29_4 ba1 ca1 hm29
      refine hxa_iload (by rfl) rfl ?_
      refine hxa_sipush (by rfl) rfl ?_
      refine hxj_cge (by rfl) rfl hk_256 (fun q1 => ?_) (fun q1 => ?_)
      ·
        refine hxa_iload_n (by rfl) rfl ?_
        exact hxa_ireturn (by rfl) rfl (hP _ _ ⟨hAc29, _, rfl⟩)
      ·
        refine hxa_aload_n (by rfl) rfl ?_
        refine hxa_iload (by rfl) rfl ?_
        refine hxj_iald (by rfl) (hsR hx29_2) rfl (by omega) (by omega) (fun z2 ez2 => ?_)
        refine hxa_sipush (by rfl) rfl ?_
        refine hxj_iandR (by rfl) hk_255 (by omega) (fun z3 ez3 fz3 => ?_)
        refine hxa_s1 (by rfl) (Or.inr ⟨_, rfl, rfl⟩) rfl ?_
        refine hxa_aload_n (by rfl) rfl ?_
        refine hxa_get (v := .ref 345) (by rfl) (by rfl) (by rfl) rfl ?_
        refine hxa_iload (by rfl) rfl ?_
        refine hxj_iald (by rfl) (by rfl) rfl (by omega) (by omega) (fun z4 ez4 => ?_)
        refine hxj_zne (by rfl) rfl (fun q5 => ?_) (fun q5 => ?_)
        ·
          refine hxa_aload_n (by rfl) rfl ?_
          refine hxa_get (v := .ref 345) (by rfl) (by rfl) (by rfl) rfl ?_
          refine hxa_iload (by rfl) rfl ?_
          refine hxa_dup2IR (by rfl) ?_
          refine hxj_iald (by rfl) (by rfl) rfl (by omega) (by omega) (fun z6 ez6 => ?_)
          refine hxa_iconst (by rfl) rfl ?_
          refine hxj_iaddU (by rfl) (fun z7 => ?_)
          refine hxj_iast (by rfl) (by rfl) rfl (by omega) (by omega) hAc29 (hbokN (by rfl)) (by rfl) (by rfl) (fun A8 hA8 eA8 fA8 gA8 => ?_)
          refine hxj_iinc (by rfl) rfl rfl hk_1 (by omega) (by omega) (fun _ => rfl) (fun z9 ez9 => ?_)
          refine hxa_goto (by rfl) ?_
          exact ih29 x29_2 x29_3 z9 (.int z3) A8 hx29_2 hA8 (by omega) (by omega) (by omega) (by omega) (by omega)
        ·
          refine hxj_iincU (by rfl) rfl (fun _ => rfl) (fun z10 => ?_)
          refine hxa_aload_n (by rfl) rfl ?_
          refine hxa_get (v := .ref 345) (by rfl) (by rfl) (by rfl) rfl ?_
          refine hxa_iload (by rfl) rfl ?_
          refine hxa_dup2IR (by rfl) ?_
          refine hxj_iald (by rfl) (by rfl) rfl (by omega) (by omega) (fun z11 ez11 => ?_)
          refine hxa_iconst (by rfl) rfl ?_
          refine hxj_iaddU (by rfl) (fun z12 => ?_)
          refine hxj_iast (by rfl) (by rfl) rfl (by omega) (by omega) hAc29 (hbokN (by rfl)) (by rfl) (by rfl) (fun A13 hA13 eA13 fA13 gA13 => ?_)
          refine hxj_iinc (by rfl) rfl rfl hk_1 (by omega) (by omega) (fun _ => rfl) (fun z14 ez14 => ?_)
          refine hxa_goto (by rfl) ?_
          exact ih29 x29_2 z10 z14 (.int z3) A13 hx29_2 hA13 (by omega) (by omega) (by omega) (by omega) (by omega)
  refine hxa_aload_n (by rfl) rfl ?_
  refine hxa_iload_n (by rfl) rfl ?_
  refine hxa_call0 (by rfl) (by rfl) (by rfl) (by rfl) (by rfl) (by rfl) (hX76 (d := d + 5) hA a1) ?_
  rintro _ _ ⟨rfl, z15, rfl, fz15⟩
  rcases fz15 with fz15 | fz15
  ·
    refine hxj_zne (by rfl) rfl (fun q16 => ?_) (fun q16 => False.elim (by omega))
    refine hxa_aload_n (by rfl) rfl ?_
    refine hxa_iload_n (by rfl) rfl ?_
    refine hxa_call0 (by rfl) (by rfl) (by rfl) (by rfl) (by rfl) (by rfl) (hX89 (d := d + 0) hA a1 (by omega) (by omega)) ?_
    rintro _ A17 ⟨hA17, R18, rfl, hR18⟩
    refine hxa_astore_n (by rfl) rfl ?_
    refine hxa_aload_n (by rfl) rfl ?_
    refine hxa_get (v := .ref 345) (by rfl) (by rfl) (by rfl) rfl ?_
    refine hxa_iconst (by rfl) rfl ?_
    refine hxa_call2 (by rfl) (by decide) (by rfl) (by rfl) (by rfl) (hX246 (d := d + 5) hA17 (C := 344) (by rfl) (by omega) (hbokN (by rfl)) (by rfl) (by rfl)) ?_
    rintro _ A19 ⟨hA19, rfl⟩
    refine hxa_iconst (by rfl) rfl ?_
    refine hxa_s1 (by rfl) (Or.inl ⟨_, rfl, rfl⟩) rfl ?_
    refine hxa_iconst (by rfl) rfl ?_
    refine hxa_s1 (by rfl) (Or.inr ⟨_, rfl, rfl⟩) rfl ?_
    exact L29 (Int.toNat (256 - 0) + 1) R18 (Int32.ofNat 0) (Int32.ofNat 0) (.retAddr 0) A19 hR18 hA19 (by omega) (by omega) (by omega) (by omega) (by omega)
  ·
    refine hxj_zne (by rfl) rfl (fun q20 => False.elim (by omega)) (fun q20 => ?_)
    refine hxa_iconst (by rfl) rfl ?_
    exact hxa_ireturn (by rfl) rfl (hP _ _ ⟨hA, _, rfl⟩)
theorem hX94 {d : Nat} {Bn Br : Int} {A0 A : hs_A} (hA : hJ 0 Bn Br A0 A)  (a1 : Int32) : hxC (d + 7) 94 hm_m94 [.ref 1, .int a1] A (fun r A' => hJ 0 Bn Br A0 A' ∧ ∃ z : Int32, r = some (.int z)) := hxC.of (by rfl) (hY94 hA a1 (fun r A' h => h))
theorem hY96 {d : Nat} {Bn Br : Int} {A0 A : hs_A} (hA : hJ 0 Bn Br A0 A)  {R : Nat} (hR : hRR R) (a2 : Int32) {P : Option Value → hs_A → Prop} (hP : ∀ (r : Option Value) (A' : hs_A), (hJ 0 Bn Br A0 A' ∧ ∃ z : Int32, r = some (.int z) ∧ ((0 ≤ z.toInt ∧ z.toInt ≤ 256))) → P r A') : hxa (d + 1) (some (.int)) hm_t96 0 [.ref 1, .ref (R + 1), .int a2, .retAddr 0, .retAddr 0, .retAddr 0, .retAddr 0] [] A P := by
  have k0 := hk_0
  have k1 := hk_1
  have L5 : ∀ (m5 : Nat) (x5_3 : Int32) (x5_4 : Int32) (x5_5 : Value) (x5_6 : Value) (Ac5 : hs_A) (hx5_5 : hc_two (some x5_5) = false) (hAc5 : hJ 0 Bn Br A0 Ac5) (bx5_3 : 0 ≤ x5_3.toInt) (cx5_3 : x5_3.toInt ≤ 256) (bx5_4 : 0 ≤ x5_4.toInt) (cx5_4 : x5_4.toInt ≤ 256) (u5_0 : x5_3.toInt ≤ x5_4.toInt) (hm5 : 256 - x5_4.toInt < (m5 : Int)), hxa (d + 1) (some (.int)) hm_t96 5 [.ref 1, .ref (R + 1), .int a2, .int x5_3, .int x5_4, x5_5, x5_6] [] Ac5 P := by
    intro m5
    induction m5 with
    | zero => intro x5_3 x5_4 x5_5 x5_6 Ac5 hx5_5 hAc5 bx5_3 cx5_3 bx5_4 cx5_4 u5_0 hm5;  exact False.elim (by omega)
    | succ m5 ih5 =>
      intro x5_3 x5_4 x5_5 x5_6 Ac5 hx5_5 hAc5 bx5_3 cx5_3 bx5_4 cx5_4 u5_0 hm5
      have L19 : ∀ (m19 : Nat) (x19_5 : Int32) (x19_6 : Int32) (bx19_5 : 0 ≤ x19_5.toInt) (cx19_5 : x19_5.toInt ≤ 1) (bx19_6 : 0 ≤ x19_6.toInt) (cx19_6 : x19_6.toInt ≤ 256) (cx5_4 : x5_4.toInt ≤ 255) (hm19 : 256 - x19_6.toInt < (m19 : Int)), hxa (d + 1) (some (.int)) hm_t96 19 [.ref 1, .ref (R + 1), .int a2, .int x5_3, .int x5_4, .int x19_5, .int x19_6] [] Ac5 P := by
        intro m19
        induction m19 with
        | zero => intro x19_5 x19_6 bx19_5 cx19_5 bx19_6 cx19_6 cx5_4 hm19;  exact False.elim (by omega)
        | succ m19 ih19 =>
          intro x19_5 x19_6 bx19_5 cx19_5 bx19_6 cx19_6 cx5_4 hm19
          refine hxa_iload (by rfl) rfl ?_
          refine hxa_iload_n (by rfl) rfl ?_
          refine hxj_cge (by rfl) rfl rfl (fun q1 => ?_) (fun q1 => ?_)
          ·
            refine hxa_iload (by rfl) rfl ?_
            refine hxj_zeq (by rfl) rfl (fun q2 => ?_) (fun q2 => ?_)
            ·
              refine hxj_iinc (by rfl) rfl rfl hk_1 (by omega) (by omega) (fun _ => rfl) (fun z3 ez3 => ?_)
              refine hxa_goto (by rfl) ?_
              exact ih5 x5_3 z3 (.int x19_5) (.int x19_6) Ac5 rfl hAc5 (by omega) (by omega) (by omega) (by omega) (by omega) (by omega)
            ·
              refine hxa_aload_n (by rfl) rfl ?_
              refine hxa_get (v := .ref 344) (by rfl) (by rfl) (by rfl) rfl ?_
              refine hxa_iload_n (by rfl) rfl ?_
              refine hxa_iload (by rfl) rfl ?_
              refine hxj_iast (by rfl) (by rfl) rfl (by omega) (by omega) hAc5 (hbok (by rfl) rfl (by omega) (by omega)) (by rfl) (by rfl) (fun A4 hA4 eA4 fA4 gA4 => ?_)
              refine hxj_iinc (by rfl) rfl rfl hk_1 (by omega) (by omega) (fun _ => rfl) (fun z5 ez5 => ?_)
              refine hxj_iinc (by rfl) rfl rfl hk_1 (by omega) (by omega) (fun _ => rfl) (fun z6 ez6 => ?_)
              refine hxa_goto (by rfl) ?_
              exact ih5 z5 z6 (.int x19_5) (.int x19_6) A4 rfl hA4 (by omega) (by omega) (by omega) (by omega) (by omega) (by omega)
          ·
            refine hxa_iload (by rfl) rfl ?_
            refine hxj_zeq (by rfl) rfl (fun q7 => ?_) (fun q7 => ?_)
            ·
              refine hxa_iload (by rfl) rfl ?_
              refine hxj_zeq (by rfl) rfl (fun q8 => ?_) (fun q8 => False.elim (by omega))
              refine hxj_iinc (by rfl) rfl rfl hk_1 (by omega) (by omega) (fun _ => rfl) (fun z9 ez9 => ?_)
              refine hxa_goto (by rfl) ?_
              exact ih5 x5_3 z9 (.int x19_5) (.int x19_6) Ac5 rfl hAc5 (by omega) (by omega) (by omega) (by omega) (by omega) (by omega)
            ·
              refine hxa_aload_n (by rfl) rfl ?_
              refine hxa_iload (by rfl) rfl ?_
              refine hxj_iald (by rfl) (hsR hR) rfl (by omega) (by omega) (fun z10 ez10 => ?_)
              refine hxa_aload_n (by rfl) rfl ?_
              refine hxa_aload_n (by rfl) rfl ?_
              refine hxa_get (v := .ref 344) (by rfl) (by rfl) (by rfl) rfl ?_
              refine hxa_iload (by rfl) rfl ?_
              refine hxj_ialdB (by rfl) (by rfl) rfl (by omega) (by omega) hAc5 (by rfl) (fun z11 ez11 fz11 gz11 => ?_)
              refine hxj_iald (by rfl) (hsR hR) rfl (by omega) (by omega) (fun z12 ez12 => ?_)
              refine hxj_ixorU (by rfl) (fun z13 => ?_)
              refine hxa_call2 (by rfl) (by decide) (by rfl) (by rfl) (by rfl) (hX242 (d := d + 0)  z13) ?_
              rintro _ _ ⟨rfl, z14, rfl, fz14⟩
              refine hxa_iload_n (by rfl) rfl ?_
              have rgz14 := hn_rng z14
              have rga2 := hn_rng a2
              refine hxj_clt (by rfl) rfl rfl (fun q15 => ?_) (fun q15 => ?_)
              ·
                refine hxa_iconst (by rfl) rfl ?_
                refine hxa_s1 (by rfl) (Or.inr ⟨_, rfl, rfl⟩) rfl ?_
                refine hxj_iinc (by rfl) rfl rfl hk_1 (by omega) (by omega) (fun _ => rfl) (fun z16 ez16 => ?_)
                refine hxa_goto (by rfl) ?_
                exact ih19 (Int32.ofNat 0) z16 (by omega) (by omega) (by omega) (by omega) (by omega) (by omega)
              ·
                refine hxa_iconst (by rfl) rfl ?_
                refine hxa_goto (by rfl) ?_
                refine hxa_s1 (by rfl) (Or.inr ⟨_, rfl, rfl⟩) rfl ?_
                refine hxj_iinc (by rfl) rfl rfl hk_1 (by omega) (by omega) (fun _ => rfl) (fun z17 ez17 => ?_)
                refine hxa_goto (by rfl) ?_
                exact ih19 (Int32.ofNat 1) z17 (by omega) (by omega) (by omega) (by omega) (by omega) (by omega)
      refine hxa_iload (by rfl) rfl ?_
      refine hxa_sipush (by rfl) rfl ?_
      refine hxj_cge (by rfl) rfl hk_256 (fun q18 => ?_) (fun q18 => ?_)
      ·
        refine hxa_iload_n (by rfl) rfl ?_
        exact hxa_ireturn (by rfl) rfl (hP _ _ ⟨hAc5, _, rfl, by omega⟩)
      ·
        refine hxa_iconst (by rfl) rfl ?_
        refine hxa_s1 (by rfl) (Or.inr ⟨_, rfl, rfl⟩) rfl ?_
        refine hxa_iconst (by rfl) rfl ?_
        refine hxa_s1 (by rfl) (Or.inr ⟨_, rfl, rfl⟩) rfl ?_
        exact L19 (Int.toNat (256 - 0) + 1) (Int32.ofNat 1) (Int32.ofNat 0) (by omega) (by omega) (by omega) (by omega) (by omega) (by omega)
  refine hxa_iconst (by rfl) rfl ?_
  refine hxa_s1 (by rfl) (Or.inl ⟨_, rfl, rfl⟩) rfl ?_
  refine hxa_iconst (by rfl) rfl ?_
  refine hxa_s1 (by rfl) (Or.inr ⟨_, rfl, rfl⟩) rfl ?_
  exact L5 (Int.toNat (256 - 0) + 1) (Int32.ofNat 0) (Int32.ofNat 0) (.retAddr 0) (.retAddr 0) A rfl hA (by omega) (by omega) (by omega) (by omega) (by omega) (by omega)
theorem hX96 {d : Nat} {Bn Br : Int} {A0 A : hs_A} (hA : hJ 0 Bn Br A0 A)  {R : Nat} (hR : hRR R) (a2 : Int32) : hxC (d + 2) 96 hm_m96 [.ref 1, .ref (R + 1), .int a2] A (fun r A' => hJ 0 Bn Br A0 A' ∧ ∃ z : Int32, r = some (.int z) ∧ ((0 ≤ z.toInt ∧ z.toInt ≤ 256))) := hxC.of (by rfl) (hY96 hA hR a2 (fun r A' h => h))
theorem hY95 {d : Nat} {Bn Br : Int} {A0 A : hs_A} (hA : hJ 0 Bn Br A0 A)  (a1 : Int32) (a2 : Int32) (a3 : Int32) {P : Option Value → hs_A → Prop} (hP : ∀ (r : Option Value) (A' : hs_A), (hJ 0 Bn Br A0 A' ∧ ∃ z : Int32, r = some (.int z)) → P r A') : hxa (d + 6) (some (.int)) hm_t95 0 [.ref 1, .int a1, .int a2, .int a3, .retAddr 0] [] A P := by
  have k1 := hk_1
  have k4294967295 := hk_4294967295
  have k8 := hk_8
  refine hxa_aload_n (by rfl) rfl ?_
  refine hxa_iload_n (by rfl) rfl ?_
  refine hxa_call0 (by rfl) (by rfl) (by rfl) (by rfl) (by rfl) (by rfl) (hX76 (d := d + 5) hA a1) ?_
  rintro _ _ ⟨rfl, z1, rfl, fz1⟩
  rcases fz1 with fz1 | fz1
  ·
    refine hxj_zeq (by rfl) rfl (fun q2 => False.elim (by omega)) (fun q2 => ?_)
    refine hxa_iload_n (by rfl) rfl ?_
    refine hxa_iconst (by rfl) rfl ?_
    refine hxa_bipush (by rfl) rfl ?_
    refine hxa_call2 (by rfl) (by decide) (by rfl) (by rfl) (by rfl) (hX78 (d := d + 5)  a2 (Int32.ofNat 1) (Int32.ofNat 8)) ?_
    rintro _ _ ⟨rfl, z3, rfl, fz3⟩
    rcases fz3 with fz3 | fz3
    ·
      refine hxj_zeq (by rfl) rfl (fun q4 => False.elim (by omega)) (fun q4 => ?_)
      refine hxa_iload_n (by rfl) rfl ?_
      refine hxa_iconst (by rfl) rfl ?_
      refine hxj_cge (by rfl) rfl hk_4294967295 (fun q5 => ?_) (fun q5 => ?_)
      ·
        refine hxa_aload_n (by rfl) rfl ?_
        refine hxa_aload_n (by rfl) rfl ?_
        refine hxa_iload_n (by rfl) rfl ?_
        refine hxa_call0 (by rfl) (by rfl) (by rfl) (by rfl) (by rfl) (by rfl) (hX89 (d := d + 0) hA a1 (by omega) (by omega)) ?_
        rintro _ A6 ⟨hA6, R7, rfl, hR7⟩
        refine hxa_iload_n (by rfl) rfl ?_
        refine hxa_call0 (by rfl) (by rfl) (by rfl) (by rfl) (by rfl) (by rfl) (hX96 (d := d + 4) hA6 hR7 a2) ?_
        rintro _ A8 ⟨hA8, z9, rfl, fz9⟩
        refine hxa_s1 (by rfl) (Or.inr ⟨_, rfl, rfl⟩) rfl ?_
        refine hxa_iload_n (by rfl) rfl ?_
        refine hxa_iconst (by rfl) rfl ?_
        refine hxj_cne (by rfl) rfl hk_4294967295 (fun q10 => ?_) (fun q10 => ?_)
        ·
          refine hxa_iload_n (by rfl) rfl ?_
          refine hxa_iload (by rfl) rfl ?_
          have rga3 := hn_rng a3
          refine hxj_cge (by rfl) rfl rfl (fun q11 => ?_) (fun q11 => ?_)
          ·
            refine hxa_iconst (by rfl) rfl ?_
            exact hxa_ireturn (by rfl) rfl (hP _ _ ⟨hA8, _, rfl⟩)
          ·
            refine hxa_aload_n (by rfl) rfl ?_
            refine hxa_get (v := .ref 344) (by rfl) (by rfl) (by rfl) rfl ?_
            refine hxa_iload_n (by rfl) rfl ?_
            refine hxj_ialdB (by rfl) (by rfl) rfl (by omega) (by omega) hA8 (by rfl) (fun z12 ez12 fz12 gz12 => ?_)
            refine hxa_goto (by rfl) ?_
            exact hxa_ireturn (by rfl) rfl (hP _ _ ⟨hA8, _, rfl⟩)
        ·
          refine hxa_iload (by rfl) rfl ?_
          exact hxa_ireturn (by rfl) rfl (hP _ _ ⟨hA8, _, rfl⟩)
      ·
        refine hxa_iconst (by rfl) rfl ?_
        exact hxa_ireturn (by rfl) rfl (hP _ _ ⟨hA, _, rfl⟩)
    ·
      refine hxj_zeq (by rfl) rfl (fun q13 => ?_) (fun q13 => False.elim (by omega))
      refine hxa_iconst (by rfl) rfl ?_
      exact hxa_ireturn (by rfl) rfl (hP _ _ ⟨hA, _, rfl⟩)
  ·
    refine hxj_zeq (by rfl) rfl (fun q14 => ?_) (fun q14 => False.elim (by omega))
    refine hxa_iconst (by rfl) rfl ?_
    exact hxa_ireturn (by rfl) rfl (hP _ _ ⟨hA, _, rfl⟩)
theorem hX95 {d : Nat} {Bn Br : Int} {A0 A : hs_A} (hA : hJ 0 Bn Br A0 A)  (a1 : Int32) (a2 : Int32) (a3 : Int32) : hxC (d + 7) 95 hm_m95 [.ref 1, .int a1, .int a2, .int a3] A (fun r A' => hJ 0 Bn Br A0 A' ∧ ∃ z : Int32, r = some (.int z)) := hxC.of (by rfl) (hY95 hA a1 a2 a3 (fun r A' h => h))
theorem hY97 {d : Nat} {Bn Br : Int} {A0 A : hs_A} (hA : hJ 0 Bn Br A0 A)  (a1 : Int32) {P : Option Value → hs_A → Prop} (hP : ∀ (r : Option Value) (A' : hs_A), (hJ 0 Bn Br A0 A' ∧ ∃ z : Int32, r = some (.int z)) → P r A') : hxa (d + 6) (some (.int)) hm_t97 0 [.ref 1, .int a1, .retAddr 0, .retAddr 0, .retAddr 0] [] A P := by
  have k0 := hk_0
  have k4294967295 := hk_4294967295
  have L21 : ∀ (m21 : Nat) (x21_2 : Nat) (x21_3 : Int32) (x21_4 : Int32) (Ac21 : hs_A) (hx21_2 : hRR x21_2) (hAc21 : hJ 0 Bn Br A0 Ac21) (bx21_3 : 0 ≤ x21_3.toInt) (cx21_3 : x21_3.toInt ≤ 255) (bx21_4 : 0 ≤ x21_4.toInt) (cx21_4 : x21_4.toInt ≤ 8) (ba1 : 0 ≤ a1.toInt) (ca1 : a1.toInt ≤ 9) (hm21 : 8 - x21_4.toInt < (m21 : Int)), hxa (d + 6) (some (.int)) hm_t97 21 [.ref 1, .int a1, .ref (x21_2 + 1), .int x21_3, .int x21_4] [] Ac21 P := by
    intro m21
    induction m21 with
    | zero => intro x21_2 x21_3 x21_4 Ac21 hx21_2 hAc21 bx21_3 cx21_3 bx21_4 cx21_4 ba1 ca1 hm21;  exact False.elim (by omega)
    | succ m21 ih21 =>
      intro x21_2 x21_3 x21_4 Ac21 hx21_2 hAc21 bx21_3 cx21_3 bx21_4 cx21_4 ba1 ca1 hm21
      refine hxa_iload (by rfl) rfl ?_
      refine hxa_bipush (by rfl) rfl ?_
      refine hxj_cge (by rfl) rfl hk_8 (fun q1 => ?_) (fun q1 => ?_)
      ·
        refine hxa_iload_n (by rfl) rfl ?_
        exact hxa_ireturn (by rfl) rfl (hP _ _ ⟨hAc21, _, rfl⟩)
      ·
        refine hxa_aload_n (by rfl) rfl ?_
        refine hxa_iconst (by rfl) rfl ?_
        refine hxa_iload (by rfl) rfl ?_
        refine hxj_ishl1 (by rfl) rfl rfl (by omega) (by omega) (fun z2 ez2 fz2 => ?_)
        refine hxj_iald (by rfl) (hsR hx21_2) rfl (by omega) (by omega) (fun z3 ez3 => ?_)
        refine hxa_aload_n (by rfl) rfl ?_
        refine hxa_iconst (by rfl) rfl ?_
        refine hxj_iald (by rfl) (hsR hx21_2) hk_0 (by omega) (by omega) (fun z4 ez4 => ?_)
        refine hxj_cne (by rfl) rfl rfl (fun q5 => ?_) (fun q5 => ?_)
        ·
          refine hxj_iinc (by rfl) rfl rfl hk_1 (by omega) (by omega) (fun _ => rfl) (fun z6 ez6 => ?_)
          refine hxa_goto (by rfl) ?_
          exact ih21 x21_2 x21_3 z6 Ac21 hx21_2 hAc21 (by omega) (by omega) (by omega) (by omega) (by omega) (by omega) (by omega)
        ·
          refine hxa_iload_n (by rfl) rfl ?_
          refine hxa_iconst (by rfl) rfl ?_
          refine hxa_iload (by rfl) rfl ?_
          refine hxj_ishl1 (by rfl) rfl rfl (by omega) (by omega) (fun z7 ez7 fz7 => ?_)
          refine hxj_ior255 (by rfl) rfl rfl (by omega) (by omega) (by omega) (by omega) (fun z8 ez8 fz8 => ?_)
          refine hxa_s1 (by rfl) (Or.inl ⟨_, rfl, rfl⟩) rfl ?_
          refine hxj_iinc (by rfl) rfl rfl hk_1 (by omega) (by omega) (fun _ => rfl) (fun z9 ez9 => ?_)
          refine hxa_goto (by rfl) ?_
          exact ih21 x21_2 z8 z9 Ac21 hx21_2 hAc21 (by omega) (by omega) (by omega) (by omega) (by omega) (by omega) (by omega)
  refine hxa_aload_n (by rfl) rfl ?_
  refine hxa_iload_n (by rfl) rfl ?_
  refine hxa_call0 (by rfl) (by rfl) (by rfl) (by rfl) (by rfl) (by rfl) (hX76 (d := d + 5) hA a1) ?_
  rintro _ _ ⟨rfl, z10, rfl, fz10⟩
  rcases fz10 with fz10 | fz10
  ·
    refine hxj_zne (by rfl) rfl (fun q11 => ?_) (fun q11 => False.elim (by omega))
    refine hxa_aload_n (by rfl) rfl ?_
    refine hxa_iload_n (by rfl) rfl ?_
    refine hxa_call0 (by rfl) (by rfl) (by rfl) (by rfl) (by rfl) (by rfl) (hX89 (d := d + 0) hA a1 (by omega) (by omega)) ?_
    rintro _ A12 ⟨hA12, R13, rfl, hR13⟩
    refine hxa_astore_n (by rfl) rfl ?_
    refine hxa_iconst (by rfl) rfl ?_
    refine hxa_s1 (by rfl) (Or.inl ⟨_, rfl, rfl⟩) rfl ?_
    refine hxa_iconst (by rfl) rfl ?_
    refine hxa_s1 (by rfl) (Or.inr ⟨_, rfl, rfl⟩) rfl ?_
    exact L21 (Int.toNat (8 - 0) + 1) R13 (Int32.ofNat 0) (Int32.ofNat 0) A12 hR13 hA12 (by omega) (by omega) (by omega) (by omega) (by omega) (by omega) (by omega)
  ·
    refine hxj_zne (by rfl) rfl (fun q14 => False.elim (by omega)) (fun q14 => ?_)
    refine hxa_iconst (by rfl) rfl ?_
    exact hxa_ireturn (by rfl) rfl (hP _ _ ⟨hA, _, rfl⟩)
theorem hX97 {d : Nat} {Bn Br : Int} {A0 A : hs_A} (hA : hJ 0 Bn Br A0 A)  (a1 : Int32) : hxC (d + 7) 97 hm_m97 [.ref 1, .int a1] A (fun r A' => hJ 0 Bn Br A0 A' ∧ ∃ z : Int32, r = some (.int z)) := hxC.of (by rfl) (hY97 hA a1 (fun r A' h => h))
theorem hY98 {d : Nat} {Bn Br : Int} {A0 A : hs_A} (hA : hJ 0 Bn Br A0 A)  (a1 : Int32) (a2 : Int32) (a3 : Int32) {P : Option Value → hs_A → Prop} (hP : ∀ (r : Option Value) (A' : hs_A), (hJ 0 Bn Br A0 A' ∧ ∃ z : Int32, r = some (.int z)) → P r A') : hxa (d + 6) (some (.int)) hm_t98 0 [.ref 1, .int a1, .int a2, .int a3, .retAddr 0] [] A P := by
  have k4294967295 := hk_4294967295
  refine hxa_aload_n (by rfl) rfl ?_
  refine hxa_iload_n (by rfl) rfl ?_
  refine hxa_call0 (by rfl) (by rfl) (by rfl) (by rfl) (by rfl) (by rfl) (hX76 (d := d + 5) hA a1) ?_
  rintro _ _ ⟨rfl, z1, rfl, fz1⟩
  rcases fz1 with fz1 | fz1
  ·
    refine hxj_zeq (by rfl) rfl (fun q2 => False.elim (by omega)) (fun q2 => ?_)
    refine hxa_iload_n (by rfl) rfl ?_
    refine hxa_call2 (by rfl) (by decide) (by rfl) (by rfl) (by rfl) (hX77 (d := d + 5)  a2) ?_
    rintro _ _ ⟨rfl, z3, rfl, fz3⟩
    rcases fz3 with fz3 | fz3
    ·
      refine hxj_zeq (by rfl) rfl (fun q4 => False.elim (by omega)) (fun q4 => ?_)
      refine hxa_iload_n (by rfl) rfl ?_
      refine hxa_call2 (by rfl) (by decide) (by rfl) (by rfl) (by rfl) (hX77 (d := d + 5)  a3) ?_
      rintro _ _ ⟨rfl, z5, rfl, fz5⟩
      rcases fz5 with fz5 | fz5
      ·
        refine hxj_zne (by rfl) rfl (fun q6 => ?_) (fun q6 => False.elim (by omega))
        refine hxa_aload_n (by rfl) rfl ?_
        refine hxa_iload_n (by rfl) rfl ?_
        refine hxa_call0 (by rfl) (by rfl) (by rfl) (by rfl) (by rfl) (by rfl) (hX89 (d := d + 0) hA a1 (by omega) (by omega)) ?_
        rintro _ A7 ⟨hA7, R8, rfl, hR8⟩
        refine hxa_astore (by rfl) rfl ?_
        refine hxa_aload (by rfl) rfl ?_
        refine hxa_iload_n (by rfl) rfl ?_
        refine hxj_iald (by rfl) (hsR hR8) rfl (by omega) (by omega) (fun z9 ez9 => ?_)
        refine hxa_aload (by rfl) rfl ?_
        refine hxa_iload_n (by rfl) rfl ?_
        refine hxj_iald (by rfl) (hsR hR8) rfl (by omega) (by omega) (fun z10 ez10 => ?_)
        refine hxj_ixorU (by rfl) (fun z11 => ?_)
        refine hxa_call2 (by rfl) (by decide) (by rfl) (by rfl) (by rfl) (hX242 (d := d + 5)  z11) ?_
        rintro _ _ ⟨rfl, z12, rfl, fz12⟩
        exact hxa_ireturn (by rfl) rfl (hP _ _ ⟨hA7, _, rfl⟩)
      ·
        refine hxj_zne (by rfl) rfl (fun q13 => False.elim (by omega)) (fun q13 => ?_)
        refine hxa_iconst (by rfl) rfl ?_
        exact hxa_ireturn (by rfl) rfl (hP _ _ ⟨hA, _, rfl⟩)
    ·
      refine hxj_zeq (by rfl) rfl (fun q14 => ?_) (fun q14 => False.elim (by omega))
      refine hxa_iconst (by rfl) rfl ?_
      exact hxa_ireturn (by rfl) rfl (hP _ _ ⟨hA, _, rfl⟩)
  ·
    refine hxj_zeq (by rfl) rfl (fun q15 => ?_) (fun q15 => False.elim (by omega))
    refine hxa_iconst (by rfl) rfl ?_
    exact hxa_ireturn (by rfl) rfl (hP _ _ ⟨hA, _, rfl⟩)
theorem hX98 {d : Nat} {Bn Br : Int} {A0 A : hs_A} (hA : hJ 0 Bn Br A0 A)  (a1 : Int32) (a2 : Int32) (a3 : Int32) : hxC (d + 7) 98 hm_m98 [.ref 1, .int a1, .int a2, .int a3] A (fun r A' => hJ 0 Bn Br A0 A' ∧ ∃ z : Int32, r = some (.int z)) := hxC.of (by rfl) (hY98 hA a1 a2 a3 (fun r A' h => h))
theorem hY99 {d : Nat} {Bn Br : Int} {A0 A : hs_A} (hA : hJ 0 Bn Br A0 A)  (a1 : Int32) (a2 : Int32) {P : Option Value → hs_A → Prop} (hP : ∀ (r : Option Value) (A' : hs_A), (hJ 0 Bn Br A0 A' ∧ ∃ z : Int32, r = some (.int z)) → P r A') : hxa (d + 6) (some (.int)) hm_t99 0 [.ref 1, .int a1, .int a2, .retAddr 0, .retAddr 0, .retAddr 0, .retAddr 0, .retAddr 0, .retAddr 0, .retAddr 0] [] A P := by
  have k0 := hk_0
  have k2 := hk_2
  have k4294967295 := hk_4294967295
  have L37 : ∀ (m37 : Nat) (x37_3 : Nat) (x37_4 : Int32) (x37_5 : Int32) (x37_6 : Int32) (x37_7 : Int32) (x37_8 : Value) (x37_9 : Value) (Ac37 : hs_A) (hx37_3 : hRR x37_3) (hx37_8 : hc_two (some x37_8) = false) (hAc37 : hJ 0 Bn Br A0 Ac37) (bx37_4 : -1 ≤ x37_4.toInt) (bx37_5 : 0 ≤ x37_5.toInt) (cx37_5 : x37_5.toInt ≤ 255) (bx37_6 : 0 ≤ x37_6.toInt) (cx37_6 : x37_6.toInt ≤ 255) (bx37_7 : 0 ≤ x37_7.toInt) (cx37_7 : x37_7.toInt ≤ 256) (ba1 : 0 ≤ a1.toInt) (ca1 : a1.toInt ≤ 9) (ba2 : 0 ≤ a2.toInt) (ca2 : a2.toInt ≤ 2) (hm37 : 256 - x37_7.toInt < (m37 : Int)), hxa (d + 6) (some (.int)) hm_t99 37 [.ref 1, .int a1, .int a2, .ref (x37_3 + 1), .int x37_4, .int x37_5, .int x37_6, .int x37_7, x37_8, x37_9] [] Ac37 P := by
    intro m37
    induction m37 with
    | zero => intro x37_3 x37_4 x37_5 x37_6 x37_7 x37_8 x37_9 Ac37 hx37_3 hx37_8 hAc37 bx37_4 bx37_5 cx37_5 bx37_6 cx37_6 bx37_7 cx37_7 ba1 ca1 ba2 ca2 hm37; have := hn_rng x37_4; exact False.elim (by omega)
    | succ m37 ih37 =>
      intro x37_3 x37_4 x37_5 x37_6 x37_7 x37_8 x37_9 Ac37 hx37_3 hx37_8 hAc37 bx37_4 bx37_5 cx37_5 bx37_6 cx37_6 bx37_7 cx37_7 ba1 ca1 ba2 ca2 hm37
      have L58 : ∀ (m58 : Nat) (x58_4 : Int32) (x58_5 : Int32) (x58_6 : Int32) (x58_8 : Int32) (x58_9 : Value) (bx58_4 : -1 ≤ x58_4.toInt) (bx58_5 : 0 ≤ x58_5.toInt) (cx58_5 : x58_5.toInt ≤ 255) (bx58_6 : 0 ≤ x58_6.toInt) (cx58_6 : x58_6.toInt ≤ 255) (bx58_8 : 1 ≤ x58_8.toInt) (cx58_8 : x58_8.toInt ≤ 256) (cx37_4 : x37_4.toInt ≤ 7) (cx37_7 : x37_7.toInt ≤ 255) (hm58 : 256 - x58_8.toInt < (m58 : Int)), hxa (d + 6) (some (.int)) hm_t99 58 [.ref 1, .int a1, .int a2, .ref (x37_3 + 1), .int x58_4, .int x58_5, .int x58_6, .int x37_7, .int x58_8, x58_9] [] Ac37 P := by
        intro m58
        induction m58 with
        | zero => intro x58_4 x58_5 x58_6 x58_8 x58_9 bx58_4 bx58_5 cx58_5 bx58_6 cx58_6 bx58_8 cx58_8 cx37_4 cx37_7 hm58; have := hn_rng x58_4; exact False.elim (by omega)
        | succ m58 ih58 =>
          intro x58_4 x58_5 x58_6 x58_8 x58_9 bx58_4 bx58_5 cx58_5 bx58_6 cx58_6 bx58_8 cx58_8 cx37_4 cx37_7 hm58
          refine hxa_iload (by rfl) rfl ?_
          refine hxa_sipush (by rfl) rfl ?_
          refine hxj_cge (by rfl) rfl hk_256 (fun q1 => ?_) (fun q1 => ?_)
          ·
            refine hxj_iinc (by rfl) rfl rfl hk_1 (by omega) (by omega) (fun _ => rfl) (fun z2 ez2 => ?_)
            refine hxa_goto (by rfl) ?_
            exact ih37 x37_3 x58_4 x58_5 x58_6 z2 (.int x58_8) (x58_9) Ac37 hx37_3 rfl hAc37 (by omega) (by omega) (by omega) (by omega) (by omega) (by omega) (by omega) (by omega) (by omega) (by omega) (by omega) (by omega)
          ·
            refine hxa_aload_n (by rfl) rfl ?_
            refine hxa_iload (by rfl) rfl ?_
            refine hxj_iald (by rfl) (hsR hx37_3) rfl (by omega) (by omega) (fun z3 ez3 => ?_)
            refine hxa_aload_n (by rfl) rfl ?_
            refine hxa_iload (by rfl) rfl ?_
            refine hxj_iald (by rfl) (hsR hx37_3) rfl (by omega) (by omega) (fun z4 ez4 => ?_)
            refine hxj_ixorU (by rfl) (fun z5 => ?_)
            refine hxa_call2 (by rfl) (by decide) (by rfl) (by rfl) (by rfl) (hX242 (d := d + 5)  z5) ?_
            rintro _ _ ⟨rfl, z6, rfl, fz6⟩
            refine hxa_s1 (by rfl) (Or.inr ⟨_, rfl, rfl⟩) rfl ?_
            refine hxa_iload (by rfl) rfl ?_
            refine hxa_iload (by rfl) rfl ?_
            have rgz6 := hn_rng z6
            have rgx58_4 := hn_rng x58_4
            refine hxj_cle (by rfl) rfl rfl (fun q7 => ?_) (fun q7 => ?_)
            ·
              refine hxj_iinc (by rfl) rfl rfl hk_1 (by omega) (by omega) (fun _ => rfl) (fun z8 ez8 => ?_)
              refine hxa_goto (by rfl) ?_
              exact ih58 x58_4 x58_5 x58_6 z8 (.int z6) (by omega) (by omega) (by omega) (by omega) (by omega) (by omega) (by omega) (by omega) (by omega) (by omega)
            ·
              refine hxa_iload (by rfl) rfl ?_
              refine hxa_s1 (by rfl) (Or.inr ⟨_, rfl, rfl⟩) rfl ?_
              refine hxa_iload (by rfl) rfl ?_
              refine hxa_s1 (by rfl) (Or.inr ⟨_, rfl, rfl⟩) rfl ?_
              refine hxa_iload (by rfl) rfl ?_
              refine hxa_s1 (by rfl) (Or.inr ⟨_, rfl, rfl⟩) rfl ?_
              refine hxj_iinc (by rfl) rfl rfl hk_1 (by omega) (by omega) (fun _ => rfl) (fun z9 ez9 => ?_)
              refine hxa_goto (by rfl) ?_
              exact ih58 z6 x37_7 x58_8 z9 (.int z6) (by omega) (by omega) (by omega) (by omega) (by omega) (by omega) (by omega) (by omega) (by omega) (by omega)
      refine hxa_iload (by rfl) rfl ?_
      refine hxa_sipush (by rfl) rfl ?_
      refine hxj_cge (by rfl) rfl hk_256 (fun q10 => ?_) (fun q10 => ?_)
      ·
        refine hxa_iload_n (by rfl) rfl ?_
        refine hxj_zne (by rfl) rfl (fun q11 => ?_) (fun q11 => ?_)
        ·
          refine hxa_iload_n (by rfl) rfl ?_
          refine hxa_iconst (by rfl) rfl ?_
          refine hxj_cne (by rfl) rfl hk_1 (fun q12 => ?_) (fun q12 => ?_)
          ·
            refine hxa_iload (by rfl) rfl ?_
            exact hxa_ireturn (by rfl) rfl (hP _ _ ⟨hAc37, _, rfl⟩)
          ·
            refine hxa_iload (by rfl) rfl ?_
            refine hxa_goto (by rfl) ?_
            exact hxa_ireturn (by rfl) rfl (hP _ _ ⟨hAc37, _, rfl⟩)
        ·
          refine hxa_iload (by rfl) rfl ?_
          exact hxa_ireturn (by rfl) rfl (hP _ _ ⟨hAc37, _, rfl⟩)
      ·
        refine hxa_iload (by rfl) rfl ?_
        refine hxa_bipush (by rfl) rfl ?_
        refine hxj_cge (by rfl) rfl hk_8 (fun q13 => ?_) (fun q13 => ?_)
        ·
          refine hxa_iload_n (by rfl) rfl ?_
          refine hxj_zne (by rfl) rfl (fun q14 => ?_) (fun q14 => ?_)
          ·
            refine hxa_iload_n (by rfl) rfl ?_
            refine hxa_iconst (by rfl) rfl ?_
            refine hxj_cne (by rfl) rfl hk_1 (fun q15 => ?_) (fun q15 => ?_)
            ·
              refine hxa_iload (by rfl) rfl ?_
              exact hxa_ireturn (by rfl) rfl (hP _ _ ⟨hAc37, _, rfl⟩)
            ·
              refine hxa_iload (by rfl) rfl ?_
              refine hxa_goto (by rfl) ?_
              exact hxa_ireturn (by rfl) rfl (hP _ _ ⟨hAc37, _, rfl⟩)
          ·
            refine hxa_iload (by rfl) rfl ?_
            exact hxa_ireturn (by rfl) rfl (hP _ _ ⟨hAc37, _, rfl⟩)
        ·
          refine hxa_iload (by rfl) rfl ?_
          refine hxa_iconst (by rfl) rfl ?_
          refine hxj_iadd (by rfl) rfl hk_1 (by omega) (by omega) (fun z16 ez16 => ?_)
          refine hxa_s1 (by rfl) (Or.inr ⟨_, rfl, rfl⟩) rfl ?_
          exact L58 (Int.toNat (256 - z16.toInt) + 1) x37_4 x37_5 x37_6 z16 (x37_9) (by omega) (by omega) (by omega) (by omega) (by omega) (by omega) (by omega) (by omega) (by omega) (by omega)
  refine hxa_aload_n (by rfl) rfl ?_
  refine hxa_iload_n (by rfl) rfl ?_
  refine hxa_call0 (by rfl) (by rfl) (by rfl) (by rfl) (by rfl) (by rfl) (hX76 (d := d + 5) hA a1) ?_
  rintro _ _ ⟨rfl, z17, rfl, fz17⟩
  rcases fz17 with fz17 | fz17
  ·
    refine hxj_zeq (by rfl) rfl (fun q18 => False.elim (by omega)) (fun q18 => ?_)
    refine hxa_iload_n (by rfl) rfl ?_
    refine hxa_iconst (by rfl) rfl ?_
    refine hxa_iconst (by rfl) rfl ?_
    refine hxa_call2 (by rfl) (by decide) (by rfl) (by rfl) (by rfl) (hX78 (d := d + 5)  a2 (Int32.ofNat 0) (Int32.ofNat 2)) ?_
    rintro _ _ ⟨rfl, z19, rfl, fz19⟩
    rcases fz19 with fz19 | fz19
    ·
      refine hxj_zne (by rfl) rfl (fun q20 => ?_) (fun q20 => False.elim (by omega))
      refine hxa_aload_n (by rfl) rfl ?_
      refine hxa_iload_n (by rfl) rfl ?_
      refine hxa_call0 (by rfl) (by rfl) (by rfl) (by rfl) (by rfl) (by rfl) (hX89 (d := d + 0) hA a1 (by omega) (by omega)) ?_
      rintro _ A21 ⟨hA21, R22, rfl, hR22⟩
      refine hxa_astore_n (by rfl) rfl ?_
      refine hxa_iconst (by rfl) rfl ?_
      refine hxa_s1 (by rfl) (Or.inr ⟨_, rfl, rfl⟩) rfl ?_
      refine hxa_iconst (by rfl) rfl ?_
      refine hxa_s1 (by rfl) (Or.inr ⟨_, rfl, rfl⟩) rfl ?_
      refine hxa_iconst (by rfl) rfl ?_
      refine hxa_s1 (by rfl) (Or.inr ⟨_, rfl, rfl⟩) rfl ?_
      refine hxa_iconst (by rfl) rfl ?_
      refine hxa_s1 (by rfl) (Or.inr ⟨_, rfl, rfl⟩) rfl ?_
      exact L37 (Int.toNat (256 - 0) + 1) R22 (Int32.ofNat 4294967295) (Int32.ofNat 0) (Int32.ofNat 0) (Int32.ofNat 0) (.retAddr 0) (.retAddr 0) A21 hR22 rfl hA21 (by omega) (by omega) (by omega) (by omega) (by omega) (by omega) (by omega) (by omega) (by omega) (by omega) (by omega) (by omega)
    ·
      refine hxj_zne (by rfl) rfl (fun q23 => False.elim (by omega)) (fun q23 => ?_)
      refine hxa_iconst (by rfl) rfl ?_
      exact hxa_ireturn (by rfl) rfl (hP _ _ ⟨hA, _, rfl⟩)
  ·
    refine hxj_zeq (by rfl) rfl (fun q24 => ?_) (fun q24 => False.elim (by omega))
    refine hxa_iconst (by rfl) rfl ?_
    exact hxa_ireturn (by rfl) rfl (hP _ _ ⟨hA, _, rfl⟩)
theorem hX99 {d : Nat} {Bn Br : Int} {A0 A : hs_A} (hA : hJ 0 Bn Br A0 A)  (a1 : Int32) (a2 : Int32) : hxC (d + 7) 99 hm_m99 [.ref 1, .int a1, .int a2] A (fun r A' => hJ 0 Bn Br A0 A' ∧ ∃ z : Int32, r = some (.int z)) := hxC.of (by rfl) (hY99 hA a1 a2 (fun r A' h => h))
