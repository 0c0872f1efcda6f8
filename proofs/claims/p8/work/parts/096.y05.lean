theorem hY110 {d : Nat} {Bn Br : Int} {A0 A : hs_A} (hA : hJ 0 Bn Br A0 A)  (a1 : Int32) {P : Option Value → hs_A → Prop} (hP : ∀ (r : Option Value) (A' : hs_A), (hJ 0 Bn Br A0 A' ∧ ∃ z : Int32, r = some (.int z)) → P r A') : hxa (d + 5) (some (.int)) hm_t110 0 [.ref 1, .int a1] [] A P := by
  have k0 := hk_0
  have k4294967295 := hk_4294967295
  have k72 := hk_72
  refine hxa_iload_n (by rfl) rfl ?_
  refine hxa_iconst (by rfl) rfl ?_
  refine hxa_bipush (by rfl) rfl ?_
  refine hxa_call2 (by rfl) (by decide) (by rfl) (by rfl) (by rfl) (hX78 (d := d + 4)  a1 (Int32.ofNat 0) (Int32.ofNat 72)) ?_
  rintro _ _ ⟨rfl, z1, rfl, fz1⟩
  rcases fz1 with fz1 | fz1
  ·
    refine hxj_zne (by rfl) rfl (fun q2 => ?_) (fun q2 => False.elim (by omega))
    refine hxa_aload_n (by rfl) rfl ?_
    refine hxa_iload_n (by rfl) rfl ?_
    refine hxa_iconst (by rfl) rfl ?_
    refine hxa_iconst (by rfl) rfl ?_
    refine hxa_call0 (by rfl) (by rfl) (by rfl) (by rfl) (by rfl) (by rfl) (hX107 (d := d + 0) hA a1 (Int32.ofNat 0) (by omega) (by omega) (Int32.ofNat 0)) ?_
    rintro _ A3 ⟨hA3, rfl⟩
    refine hxa_aload_n (by rfl) rfl ?_
    refine hxa_get (v := .ref 34) (by rfl) (by rfl) (by rfl) rfl ?_
    refine hxa_call0 (by rfl) (by rfl) (by rfl) (by rfl) (by rfl) (by rfl) (hX31 (d := d + 4) hA3 hL33) ?_
    rintro _ _ ⟨rfl, z4, rfl⟩
    refine hxa_call2 (by rfl) (by decide) (by rfl) (by rfl) (by rfl) (hX242 (d := d + 4)  z4) ?_
    rintro _ _ ⟨rfl, z5, rfl, fz5⟩
    exact hxa_ireturn (by rfl) rfl (hP _ _ ⟨hA3, _, rfl⟩)
  ·
    refine hxj_zne (by rfl) rfl (fun q6 => False.elim (by omega)) (fun q6 => ?_)
    refine hxa_iconst (by rfl) rfl ?_
    exact hxa_ireturn (by rfl) rfl (hP _ _ ⟨hA, _, rfl⟩)
theorem hX110 {d : Nat} {Bn Br : Int} {A0 A : hs_A} (hA : hJ 0 Bn Br A0 A)  (a1 : Int32) : hxC (d + 6) 110 hm_m110 [.ref 1, .int a1] A (fun r A' => hJ 0 Bn Br A0 A' ∧ ∃ z : Int32, r = some (.int z)) := hxC.of (by rfl) (hY110 hA a1 (fun r A' h => h))
theorem hY111 {d : Nat} {Bn Br : Int} {A0 A : hs_A} (hA : hJ 0 Bn Br A0 A)  (a1 : Int32) {P : Option Value → hs_A → Prop} (hP : ∀ (r : Option Value) (A' : hs_A), (A = A' ∧ ∃ z : Int32, r = some (.int z)) → P r A') : hxa (d + 0) (some (.int)) hm_t111 0 [.ref 1, .int a1, .retAddr 0] [] A P := by
  have k0 := hk_0
  have k4294967295 := hk_4294967295
  obtain ⟨T0, hT0, -, eT0⟩ := hA.T
  have L2 : ∀ (m2 : Nat) (x2_2 : Int32) (bx2_2 : 0 ≤ x2_2.toInt) (cx2_2 : x2_2.toInt ≤ 10) (hm2 : 10 - x2_2.toInt < (m2 : Int)), hxa (d + 0) (some (.int)) hm_t111 2 [.ref 1, .int a1, .int x2_2] [] A P := by
    intro m2
    induction m2 with
    | zero => intro x2_2 bx2_2 cx2_2 hm2;  exact False.elim (by omega)
    | succ m2 ih2 =>
      intro x2_2 bx2_2 cx2_2 hm2
      refine hxa_iload_n (by rfl) rfl ?_
      refine hxa_aload_n (by rfl) rfl ?_
      refine hxj_getT (by rfl) (by rfl) (by rfl) (hA.Tw eT0) ?_
      refine hxj_getB (by rfl) (hsT hT0) (by rfl) hA (hbT_4 hT0) (fun z1 ez1 fz1 gz1 => ?_)
      refine hxj_cge (by rfl) rfl rfl (fun q2 => ?_) (fun q2 => ?_)
      ·
        refine hxa_iconst (by rfl) rfl ?_
        exact hxa_ireturn (by rfl) rfl (hP _ _ ⟨rfl, _, rfl⟩)
      ·
        refine hxa_aload_n (by rfl) rfl ?_
        refine hxa_get (v := .ref 27) (by rfl) (by rfl) (by rfl) rfl ?_
        refine hxa_get (v := .ref 31) (by rfl) (by rfl) (by rfl) rfl ?_
        refine hxa_iload_n (by rfl) rfl ?_
        refine hxj_iald (by rfl) (by rfl) rfl (by omega) (by omega) (fun z3 ez3 => ?_)
        refine hxa_iload_n (by rfl) rfl ?_
        refine hxj_cne (by rfl) rfl rfl (fun q4 => ?_) (fun q4 => ?_)
        ·
          refine hxj_iinc (by rfl) rfl rfl hk_1 (by omega) (by omega) (fun _ => rfl) (fun z5 ez5 => ?_)
          refine hxa_goto (by rfl) ?_
          exact ih2 z5 (by omega) (by omega) (by omega)
        ·
          refine hxa_iload_n (by rfl) rfl ?_
          exact hxa_ireturn (by rfl) rfl (hP _ _ ⟨rfl, _, rfl⟩)
  refine hxa_iconst (by rfl) rfl ?_
  refine hxa_s1 (by rfl) (Or.inl ⟨_, rfl, rfl⟩) rfl ?_
  exact L2 (Int.toNat (10 - 0) + 1) (Int32.ofNat 0) (by omega) (by omega) (by omega)
theorem hX111 {d : Nat} {Bn Br : Int} {A0 A : hs_A} (hA : hJ 0 Bn Br A0 A)  (a1 : Int32) : hxC (d + 1) 111 hm_m111 [.ref 1, .int a1] A (fun r A' => A = A' ∧ ∃ z : Int32, r = some (.int z)) := hxC.of (by rfl) (hY111 hA a1 (fun r A' h => h))
theorem hY112 {d : Nat} {Bn Br : Int} {A0 A : hs_A} (hA : hJ 0 Bn Br A0 A)  (a1 : Int32) {P : Option Value → hs_A → Prop} (hP : ∀ (r : Option Value) (A' : hs_A), (hJ 0 Bn Br A0 A' ∧ ∃ z : Int32, r = some (.int z)) → P r A') : hxa (d + 4) (some (.int)) hm_t112 0 [.ref 1, .int a1, .retAddr 0] [] A P := by
  have k1 := hk_1
  have k4294967294 := hk_4294967294
  have k4294967295 := hk_4294967295
  obtain ⟨T0, hT0, -, eT0⟩ := hA.T
  have L23 : ∀ (m23 : Nat) (x23_2 : Int32) (Ac23 : hs_A) (hAc23 : hJ 0 Bn Br A0 Ac23) (bx23_2 : 1 ≤ x23_2.toInt) (cx23_2 : x23_2.toInt ≤ 73) (ba1 : 0 ≤ a1.toInt) (ca1 : a1.toInt ≤ 9) (hm23 : 73 - x23_2.toInt < (m23 : Int)), hxa (d + 4) (some (.int)) hm_t112 23 [.ref 1, .int a1, .int x23_2] [] Ac23 P := by
    intro m23
    induction m23 with
    | zero => intro x23_2 Ac23 hAc23 bx23_2 cx23_2 ba1 ca1 hm23;  exact False.elim (by omega)
    | succ m23 ih23 =>
      intro x23_2 Ac23 hAc23 bx23_2 cx23_2 ba1 ca1 hm23
      refine hxa_iload_n (by rfl) rfl ?_
      refine hxa_bipush (by rfl) rfl ?_
      refine hxj_cgt (by rfl) rfl hk_72 (fun q1 => ?_) (fun q1 => ?_)
      ·
        refine hxa_bipush (by rfl) rfl ?_
        exact hxa_ireturn (by rfl) rfl (hP _ _ ⟨hAc23, _, rfl⟩)
      ·
        refine hxa_aload_n (by rfl) rfl ?_
        refine hxa_get (v := .ref 34) (by rfl) (by rfl) (by rfl) rfl ?_
        refine hxa_aload_n (by rfl) rfl ?_
        refine hxj_getT (by rfl) (by rfl) (by rfl) (hAc23.Tw eT0) ?_
        refine hxa_aload_n (by rfl) rfl ?_
        refine hxa_get (v := .ref 324) (by rfl) (by rfl) (by rfl) rfl ?_
        refine hxa_iconst (by rfl) rfl ?_
        refine hxa_aload_n (by rfl) rfl ?_
        refine hxj_getT (by rfl) (by rfl) (by rfl) (hAc23.Tw eT0) ?_
        refine hxj_getI (by rfl) (hsT hT0) (by rfl) (fun z2 ez2 => ?_)
        refine hxa_call0 (by rfl) (by rfl) (by rfl) (by rfl) (by rfl) (by rfl) (hX26 (d := d + 0) hAc23 hL33 hT0 eT0 (Int32.ofNat 1) (by omega) (by omega) z2) ?_
        rintro _ A3 ⟨hA3, rfl⟩
        refine hxa_aload_n (by rfl) rfl ?_
        refine hxa_get (v := .ref 34) (by rfl) (by rfl) (by rfl) rfl ?_
        refine hxa_get (v := .ref 39) (by rfl) (by rfl) (by rfl) rfl ?_
        refine hxa_iload_n (by rfl) rfl ?_
        refine hxj_ialdB (by rfl) (by rfl) rfl (by omega) (by omega) hA3 (by rfl) (fun z4 ez4 fz4 gz4 => ?_)
        refine hxj_zeq (by rfl) rfl (fun q5 => ?_) (fun q5 => ?_)
        ·
          refine hxj_iinc (by rfl) rfl rfl hk_1 (by omega) (by omega) (fun _ => rfl) (fun z6 ez6 => ?_)
          refine hxa_goto (by rfl) ?_
          exact ih23 z6 A3 hA3 (by omega) (by omega) (by omega) (by omega) (by omega)
        ·
          refine hxa_iload_n (by rfl) rfl ?_
          exact hxa_ireturn (by rfl) rfl (hP _ _ ⟨hA3, _, rfl⟩)
  refine hxa_aload_n (by rfl) rfl ?_
  refine hxa_iload_n (by rfl) rfl ?_
  refine hxa_call0 (by rfl) (by rfl) (by rfl) (by rfl) (by rfl) (by rfl) (hX76 (d := d + 3) hA a1) ?_
  rintro _ _ ⟨rfl, z7, rfl, fz7⟩
  rcases fz7 with fz7 | fz7
  ·
    refine hxj_zne (by rfl) rfl (fun q8 => ?_) (fun q8 => False.elim (by omega))
    refine hxa_aload_n (by rfl) rfl ?_
    refine hxa_get (v := .ref 34) (by rfl) (by rfl) (by rfl) rfl ?_
    refine hxa_aload_n (by rfl) rfl ?_
    refine hxa_get (v := .ref 27) (by rfl) (by rfl) (by rfl) rfl ?_
    refine hxa_call0 (by rfl) (by rfl) (by rfl) (by rfl) (by rfl) (by rfl) (hX17 (d := d + 3) hA hL33 hL26) ?_
    rintro _ A9 ⟨hA9, rfl⟩
    refine hxa_iconst (by rfl) rfl ?_
    refine hxa_s1 (by rfl) (Or.inl ⟨_, rfl, rfl⟩) rfl ?_
    exact L23 (Int.toNat (73 - 1) + 1) (Int32.ofNat 1) A9 hA9 (by omega) (by omega) (by omega) (by omega) (by omega)
  ·
    refine hxj_zne (by rfl) rfl (fun q10 => False.elim (by omega)) (fun q10 => ?_)
    refine hxa_iconst (by rfl) rfl ?_
    exact hxa_ireturn (by rfl) rfl (hP _ _ ⟨hA, _, rfl⟩)
theorem hX112 {d : Nat} {Bn Br : Int} {A0 A : hs_A} (hA : hJ 0 Bn Br A0 A)  (a1 : Int32) : hxC (d + 5) 112 hm_m112 [.ref 1, .int a1] A (fun r A' => hJ 0 Bn Br A0 A' ∧ ∃ z : Int32, r = some (.int z)) := hxC.of (by rfl) (hY112 hA a1 (fun r A' h => h))
theorem hY113 {d : Nat} {Bn Br : Int} {A0 A : hs_A} (hA : hJ 0 Bn Br A0 A)  (a1 : Int32) (a2 : Int32) (a3 : Int32) {P : Option Value → hs_A → Prop} (hP : ∀ (r : Option Value) (A' : hs_A), (hJ 0 Bn Br A0 A' ∧ ∃ z : Int32, r = some (.int z)) → P r A') : hxa (d + 5) (some (.int)) hm_t113 0 [.ref 1, .int a1, .int a2, .int a3] [] A P := by
  have k0 := hk_0
  have k1 := hk_1
  have k2 := hk_2
  have k4294967295 := hk_4294967295
  have k72 := hk_72
  obtain ⟨T0, hT0, -, eT0⟩ := hA.T
  refine hxa_iload_n (by rfl) rfl ?_
  refine hxa_iconst (by rfl) rfl ?_
  refine hxa_bipush (by rfl) rfl ?_
  refine hxa_call2 (by rfl) (by decide) (by rfl) (by rfl) (by rfl) (hX78 (d := d + 4)  a2 (Int32.ofNat 0) (Int32.ofNat 72)) ?_
  rintro _ _ ⟨rfl, z1, rfl, fz1⟩
  rcases fz1 with fz1 | fz1
  ·
    refine hxj_zeq (by rfl) rfl (fun q2 => False.elim (by omega)) (fun q2 => ?_)
    refine hxa_iload_n (by rfl) rfl ?_
    refine hxa_iconst (by rfl) rfl ?_
    refine hxa_iconst (by rfl) rfl ?_
    refine hxa_call2 (by rfl) (by decide) (by rfl) (by rfl) (by rfl) (hX78 (d := d + 4)  a3 (Int32.ofNat 0) (Int32.ofNat 2)) ?_
    rintro _ _ ⟨rfl, z3, rfl, fz3⟩
    rcases fz3 with fz3 | fz3
    ·
      refine hxj_zne (by rfl) rfl (fun q4 => ?_) (fun q4 => False.elim (by omega))
      refine hxa_iload_n (by rfl) rfl ?_
      refine hxa_iconst (by rfl) rfl ?_
      refine hxj_ceq (by rfl) rfl hk_2 (fun q5 => ?_) (fun q5 => ?_)
      ·
        refine hxa_aload_n (by rfl) rfl ?_
        refine hxa_iload_n (by rfl) rfl ?_
        refine hxa_iconst (by rfl) rfl ?_
        refine hxa_aload_n (by rfl) rfl ?_
        refine hxj_getT (by rfl) (by rfl) (by rfl) (hA.Tw eT0) ?_
        refine hxj_getI (by rfl) (hsT hT0) (by rfl) (fun z6 ez6 => ?_)
        refine hxa_call0 (by rfl) (by rfl) (by rfl) (by rfl) (by rfl) (by rfl) (hX107 (d := d + 0) hA a2 (Int32.ofNat 1) (by omega) (by omega) z6) ?_
        rintro _ A7 ⟨hA7, rfl⟩
        refine hxa_iload_n (by rfl) rfl ?_
        refine hxa_iconst (by rfl) rfl ?_
        refine hxj_cne (by rfl) rfl hk_2 (fun q8 => False.elim (by omega)) (fun q8 => ?_)
        refine hxa_aload_n (by rfl) rfl ?_
        refine hxa_get (v := .ref 34) (by rfl) (by rfl) (by rfl) rfl ?_
        refine hxa_call0 (by rfl) (by rfl) (by rfl) (by rfl) (by rfl) (by rfl) (hX30 (d := d + 3) hA7 hL33) ?_
        rintro _ _ ⟨rfl, z9, rfl⟩
        refine hxa_call2 (by rfl) (by decide) (by rfl) (by rfl) (by rfl) (hX242 (d := d + 4)  z9) ?_
        rintro _ _ ⟨rfl, z10, rfl, fz10⟩
        exact hxa_ireturn (by rfl) rfl (hP _ _ ⟨hA7, _, rfl⟩)
      ·
        refine hxa_aload_n (by rfl) rfl ?_
        refine hxa_iload_n (by rfl) rfl ?_
        refine hxa_call0 (by rfl) (by rfl) (by rfl) (by rfl) (by rfl) (by rfl) (hX76 (d := d + 4) hA a1) ?_
        rintro _ _ ⟨rfl, z11, rfl, fz11⟩
        rcases fz11 with fz11 | fz11
        ·
          refine hxj_zne (by rfl) rfl (fun q12 => ?_) (fun q12 => False.elim (by omega))
          refine hxa_aload_n (by rfl) rfl ?_
          refine hxa_iload_n (by rfl) rfl ?_
          refine hxa_iconst (by rfl) rfl ?_
          refine hxa_aload_n (by rfl) rfl ?_
          refine hxj_getT (by rfl) (by rfl) (by rfl) (hA.Tw eT0) ?_
          refine hxj_getI (by rfl) (hsT hT0) (by rfl) (fun z13 ez13 => ?_)
          refine hxa_call0 (by rfl) (by rfl) (by rfl) (by rfl) (by rfl) (by rfl) (hX107 (d := d + 0) hA a2 (Int32.ofNat 1) (by omega) (by omega) z13) ?_
          rintro _ A14 ⟨hA14, rfl⟩
          refine hxa_iload_n (by rfl) rfl ?_
          refine hxa_iconst (by rfl) rfl ?_
          refine hxj_cne (by rfl) rfl hk_2 (fun q15 => ?_) (fun q15 => False.elim (by omega))
          refine hxa_iload_n (by rfl) rfl ?_
          refine hxj_zne (by rfl) rfl (fun q16 => ?_) (fun q16 => ?_)
          ·
            refine hxa_aload_n (by rfl) rfl ?_
            refine hxa_get (v := .ref 34) (by rfl) (by rfl) (by rfl) rfl ?_
            refine hxa_get (v := .ref 37) (by rfl) (by rfl) (by rfl) rfl ?_
            refine hxa_iload_n (by rfl) rfl ?_
            refine hxj_iald (by rfl) (by rfl) rfl (by omega) (by omega) (fun z17 ez17 => ?_)
            refine hxa_call2 (by rfl) (by decide) (by rfl) (by rfl) (by rfl) (hX242 (d := d + 4)  z17) ?_
            rintro _ _ ⟨rfl, z18, rfl, fz18⟩
            exact hxa_ireturn (by rfl) rfl (hP _ _ ⟨hA14, _, rfl⟩)
          ·
            refine hxa_aload_n (by rfl) rfl ?_
            refine hxa_get (v := .ref 34) (by rfl) (by rfl) (by rfl) rfl ?_
            refine hxa_get (v := .ref 39) (by rfl) (by rfl) (by rfl) rfl ?_
            refine hxa_iload_n (by rfl) rfl ?_
            refine hxj_ialdB (by rfl) (by rfl) rfl (by omega) (by omega) hA14 (by rfl) (fun z19 ez19 fz19 gz19 => ?_)
            refine hxa_goto (by rfl) ?_
            exact hxa_ireturn (by rfl) rfl (hP _ _ ⟨hA14, _, rfl⟩)
        ·
          refine hxj_zne (by rfl) rfl (fun q20 => False.elim (by omega)) (fun q20 => ?_)
          refine hxa_iconst (by rfl) rfl ?_
          exact hxa_ireturn (by rfl) rfl (hP _ _ ⟨hA, _, rfl⟩)
    ·
      refine hxj_zne (by rfl) rfl (fun q21 => False.elim (by omega)) (fun q21 => ?_)
      refine hxa_iconst (by rfl) rfl ?_
      exact hxa_ireturn (by rfl) rfl (hP _ _ ⟨hA, _, rfl⟩)
  ·
    refine hxj_zeq (by rfl) rfl (fun q22 => ?_) (fun q22 => False.elim (by omega))
    refine hxa_iconst (by rfl) rfl ?_
    exact hxa_ireturn (by rfl) rfl (hP _ _ ⟨hA, _, rfl⟩)
theorem hX113 {d : Nat} {Bn Br : Int} {A0 A : hs_A} (hA : hJ 0 Bn Br A0 A)  (a1 : Int32) (a2 : Int32) (a3 : Int32) : hxC (d + 6) 113 hm_m113 [.ref 1, .int a1, .int a2, .int a3] A (fun r A' => hJ 0 Bn Br A0 A' ∧ ∃ z : Int32, r = some (.int z)) := hxC.of (by rfl) (hY113 hA a1 a2 a3 (fun r A' h => h))
theorem hY114 {d : Nat} {Bn Br : Int} {A0 A : hs_A} (hA : hJ 0 Bn Br A0 A)  (a1 : Int32) (a2 : Int32) {P : Option Value → hs_A → Prop} (hP : ∀ (r : Option Value) (A' : hs_A), (hJ 0 Bn Br A0 A' ∧ ∃ z : Int32, r = some (.int z)) → P r A') : hxa (d + 4) (some (.int)) hm_t114 0 [.ref 1, .int a1, .int a2, .retAddr 0, .retAddr 0] [] A P := by
  have k0 := hk_0
  have k1 := hk_1
  have k4294967295 := hk_4294967295
  have k72 := hk_72
  obtain ⟨T0, hT0, -, eT0⟩ := hA.T
  have L36 : ∀ (m36 : Nat) (x36_3 : Int32) (x36_4 : Int32) (Ac36 : hs_A) (hAc36 : hJ 0 Bn Br A0 Ac36) (bx36_4 : 0 ≤ x36_4.toInt) (cx36_4 : x36_4.toInt ≤ 72) (ba1 : 0 ≤ a1.toInt) (ca1 : a1.toInt ≤ 9) (ba2 : 1 ≤ a2.toInt) (ca2 : a2.toInt ≤ 72) (hm36 : 72 - x36_4.toInt < (m36 : Int)), hxa (d + 4) (some (.int)) hm_t114 36 [.ref 1, .int a1, .int a2, .int x36_3, .int x36_4] [] Ac36 P := by
    intro m36
    induction m36 with
    | zero => intro x36_3 x36_4 Ac36 hAc36 bx36_4 cx36_4 ba1 ca1 ba2 ca2 hm36; have := hn_rng x36_3; exact False.elim (by omega)
    | succ m36 ih36 =>
      intro x36_3 x36_4 Ac36 hAc36 bx36_4 cx36_4 ba1 ca1 ba2 ca2 hm36
      refine hxa_iload (by rfl) rfl ?_
      refine hxa_iload_n (by rfl) rfl ?_
      refine hxj_cge (by rfl) rfl rfl (fun q1 => ?_) (fun q1 => ?_)
      ·
        refine hxa_iload_n (by rfl) rfl ?_
        exact hxa_ireturn (by rfl) rfl (hP _ _ ⟨hAc36, _, rfl⟩)
      ·
        refine hxa_aload_n (by rfl) rfl ?_
        refine hxa_get (v := .ref 34) (by rfl) (by rfl) (by rfl) rfl ?_
        refine hxa_aload_n (by rfl) rfl ?_
        refine hxj_getT (by rfl) (by rfl) (by rfl) (hAc36.Tw eT0) ?_
        refine hxa_aload_n (by rfl) rfl ?_
        refine hxa_get (v := .ref 324) (by rfl) (by rfl) (by rfl) rfl ?_
        refine hxa_iconst (by rfl) rfl ?_
        refine hxa_iconst (by rfl) rfl ?_
        refine hxa_call0 (by rfl) (by rfl) (by rfl) (by rfl) (by rfl) (by rfl) (hX26 (d := d + 0) hAc36 hL33 hT0 eT0 (Int32.ofNat 0) (by omega) (by omega) (Int32.ofNat 0)) ?_
        rintro _ A2 ⟨hA2, rfl⟩
        refine hxa_aload_n (by rfl) rfl ?_
        refine hxa_get (v := .ref 34) (by rfl) (by rfl) (by rfl) rfl ?_
        refine hxa_get (v := .ref 39) (by rfl) (by rfl) (by rfl) rfl ?_
        refine hxa_iload_n (by rfl) rfl ?_
        refine hxj_ialdB (by rfl) (by rfl) rfl (by omega) (by omega) hA2 (by rfl) (fun z3 ez3 fz3 gz3 => ?_)
        refine hxj_zne (by rfl) rfl (fun q4 => ?_) (fun q4 => ?_)
        ·
          refine hxj_iinc (by rfl) rfl rfl hk_1 (by omega) (by omega) (fun _ => rfl) (fun z5 ez5 => ?_)
          refine hxa_goto (by rfl) ?_
          exact ih36 x36_3 z5 A2 hA2 (by omega) (by omega) (by omega) (by omega) (by omega) (by omega) (by omega)
        ·
          refine hxj_iincU (by rfl) rfl (fun _ => rfl) (fun z6 => ?_)
          refine hxj_iinc (by rfl) rfl rfl hk_1 (by omega) (by omega) (fun _ => rfl) (fun z7 ez7 => ?_)
          refine hxa_goto (by rfl) ?_
          exact ih36 z6 z7 A2 hA2 (by omega) (by omega) (by omega) (by omega) (by omega) (by omega) (by omega)
  refine hxa_aload_n (by rfl) rfl ?_
  refine hxa_iload_n (by rfl) rfl ?_
  refine hxa_call0 (by rfl) (by rfl) (by rfl) (by rfl) (by rfl) (by rfl) (hX76 (d := d + 3) hA a1) ?_
  rintro _ _ ⟨rfl, z8, rfl, fz8⟩
  rcases fz8 with fz8 | fz8
  ·
    refine hxj_zeq (by rfl) rfl (fun q9 => False.elim (by omega)) (fun q9 => ?_)
    refine hxa_iload_n (by rfl) rfl ?_
    refine hxa_iconst (by rfl) rfl ?_
    refine hxa_bipush (by rfl) rfl ?_
    refine hxa_call2 (by rfl) (by decide) (by rfl) (by rfl) (by rfl) (hX78 (d := d + 3)  a2 (Int32.ofNat 1) (Int32.ofNat 72)) ?_
    rintro _ _ ⟨rfl, z10, rfl, fz10⟩
    rcases fz10 with fz10 | fz10
    ·
      refine hxj_zne (by rfl) rfl (fun q11 => ?_) (fun q11 => False.elim (by omega))
      refine hxa_iconst (by rfl) rfl ?_
      refine hxa_s1 (by rfl) (Or.inl ⟨_, rfl, rfl⟩) rfl ?_
      refine hxa_aload_n (by rfl) rfl ?_
      refine hxa_get (v := .ref 34) (by rfl) (by rfl) (by rfl) rfl ?_
      refine hxa_aload_n (by rfl) rfl ?_
      refine hxa_get (v := .ref 27) (by rfl) (by rfl) (by rfl) rfl ?_
      refine hxa_call0 (by rfl) (by rfl) (by rfl) (by rfl) (by rfl) (by rfl) (hX17 (d := d + 3) hA hL33 hL26) ?_
      rintro _ A12 ⟨hA12, rfl⟩
      refine hxa_iconst (by rfl) rfl ?_
      refine hxa_s1 (by rfl) (Or.inr ⟨_, rfl, rfl⟩) rfl ?_
      exact L36 (Int.toNat (72 - 0) + 1) (Int32.ofNat 0) (Int32.ofNat 0) A12 hA12 (by omega) (by omega) (by omega) (by omega) (by omega) (by omega) (by omega)
    ·
      refine hxj_zne (by rfl) rfl (fun q13 => False.elim (by omega)) (fun q13 => ?_)
      refine hxa_iconst (by rfl) rfl ?_
      exact hxa_ireturn (by rfl) rfl (hP _ _ ⟨hA, _, rfl⟩)
  ·
    refine hxj_zeq (by rfl) rfl (fun q14 => ?_) (fun q14 => False.elim (by omega))
    refine hxa_iconst (by rfl) rfl ?_
    exact hxa_ireturn (by rfl) rfl (hP _ _ ⟨hA, _, rfl⟩)
theorem hX114 {d : Nat} {Bn Br : Int} {A0 A : hs_A} (hA : hJ 0 Bn Br A0 A)  (a1 : Int32) (a2 : Int32) : hxC (d + 5) 114 hm_m114 [.ref 1, .int a1, .int a2] A (fun r A' => hJ 0 Bn Br A0 A' ∧ ∃ z : Int32, r = some (.int z)) := hxC.of (by rfl) (hY114 hA a1 a2 (fun r A' h => h))
theorem hY115 {d : Nat} {Bn Br : Int} {A0 A : hs_A} (hA : hJ 0 Bn Br A0 A)  (a1 : Int32) {P : Option Value → hs_A → Prop} (hP : ∀ (r : Option Value) (A' : hs_A), (hJ 0 Bn Br A0 A' ∧ ∃ z : Int32, r = some (.int z)) → P r A') : hxa (d + 5) (some (.int)) hm_t115 0 [.ref 1, .int a1] [] A P := by
  have k0 := hk_0
  have k1 := hk_1
  have k4294967295 := hk_4294967295
  have k72 := hk_72
  obtain ⟨T0, hT0, -, eT0⟩ := hA.T
  refine hxa_iload_n (by rfl) rfl ?_
  refine hxa_iconst (by rfl) rfl ?_
  refine hxa_bipush (by rfl) rfl ?_
  refine hxa_call2 (by rfl) (by decide) (by rfl) (by rfl) (by rfl) (hX78 (d := d + 4)  a1 (Int32.ofNat 0) (Int32.ofNat 72)) ?_
  rintro _ _ ⟨rfl, z1, rfl, fz1⟩
  rcases fz1 with fz1 | fz1
  ·
    refine hxj_zne (by rfl) rfl (fun q2 => ?_) (fun q2 => False.elim (by omega))
    refine hxa_aload_n (by rfl) rfl ?_
    refine hxa_iload_n (by rfl) rfl ?_
    refine hxa_iconst (by rfl) rfl ?_
    refine hxa_aload_n (by rfl) rfl ?_
    refine hxj_getT (by rfl) (by rfl) (by rfl) (hA.Tw eT0) ?_
    refine hxj_getI (by rfl) (hsT hT0) (by rfl) (fun z3 ez3 => ?_)
    refine hxa_call0 (by rfl) (by rfl) (by rfl) (by rfl) (by rfl) (by rfl) (hX107 (d := d + 0) hA a1 (Int32.ofNat 1) (by omega) (by omega) z3) ?_
    rintro _ A4 ⟨hA4, rfl⟩
    refine hxa_aload_n (by rfl) rfl ?_
    refine hxa_get (v := .ref 34) (by rfl) (by rfl) (by rfl) rfl ?_
    refine hxa_call0 (by rfl) (by rfl) (by rfl) (by rfl) (by rfl) (by rfl) (hX29 (d := d + 4) hA4 hL33) ?_
    rintro _ _ ⟨rfl, z5, rfl⟩
    refine hxa_call2 (by rfl) (by decide) (by rfl) (by rfl) (by rfl) (hX242 (d := d + 4)  z5) ?_
    rintro _ _ ⟨rfl, z6, rfl, fz6⟩
    exact hxa_ireturn (by rfl) rfl (hP _ _ ⟨hA4, _, rfl⟩)
  ·
    refine hxj_zne (by rfl) rfl (fun q7 => False.elim (by omega)) (fun q7 => ?_)
    refine hxa_iconst (by rfl) rfl ?_
    exact hxa_ireturn (by rfl) rfl (hP _ _ ⟨hA, _, rfl⟩)
theorem hX115 {d : Nat} {Bn Br : Int} {A0 A : hs_A} (hA : hJ 0 Bn Br A0 A)  (a1 : Int32) : hxC (d + 6) 115 hm_m115 [.ref 1, .int a1] A (fun r A' => hJ 0 Bn Br A0 A' ∧ ∃ z : Int32, r = some (.int z)) := hxC.of (by rfl) (hY115 hA a1 (fun r A' h => h))
theorem hY116 {d : Nat} {Bn Br : Int} {A0 A : hs_A} (hA : hJ 0 Bn Br A0 A)  (a1 : Int32) {P : Option Value → hs_A → Prop} (hP : ∀ (r : Option Value) (A' : hs_A), (A = A' ∧ ∃ z : Int32, r = some (.int z)) → P r A') : hxa (d + 1) (some (.int)) hm_t116 0 [.ref 1, .int a1, .retAddr 0, .retAddr 0, .retAddr 0, .retAddr 0, .retAddr 0] [] A P := by
  have k0 := hk_0
  have k1 := hk_1
  have k4294967294 := hk_4294967294
  have k4294967295 := hk_4294967295
  obtain ⟨T0, hT0, -, eT0⟩ := hA.T
  have L19 : ∀ (m19 : Nat) (x19_2 : Int32) (x19_3 : Int32) (x19_4 : Int32) (x19_5 : Value) (x19_6 : Value) (hx19_5 : hc_two (some x19_5) = false) (bx19_2 : 0 ≤ x19_2.toInt) (cx19_2 : x19_2.toInt ≤ 8) (bx19_3 : -2 ≤ x19_3.toInt) (cx19_3 : x19_3.toInt ≤ 255) (bx19_4 : 0 ≤ x19_4.toInt) (cx19_4 : x19_4.toInt ≤ 10) (ba1 : 0 ≤ a1.toInt) (ca1 : a1.toInt ≤ 1) (hm19 : 10 - x19_4.toInt < (m19 : Int)), hxa (d + 1) (some (.int)) hm_t116 19 [.ref 1, .int a1, .int x19_2, .int x19_3, .int x19_4, x19_5, x19_6] [] A P := by
    intro m19
    induction m19 with
    | zero => intro x19_2 x19_3 x19_4 x19_5 x19_6 hx19_5 bx19_2 cx19_2 bx19_3 cx19_3 bx19_4 cx19_4 ba1 ca1 hm19;  exact False.elim (by omega)
    | succ m19 ih19 =>
      intro x19_2 x19_3 x19_4 x19_5 x19_6 hx19_5 bx19_2 cx19_2 bx19_3 cx19_3 bx19_4 cx19_4 ba1 ca1 hm19
      have L34 : ∀ (m34 : Nat) (x34_2 : Int32) (x34_3 : Int32) (x34_5 : Int32) (x34_6 : Value) (bx34_2 : 0 ≤ x34_2.toInt) (cx34_2 : x34_2.toInt ≤ 8) (bx34_3 : -2 ≤ x34_3.toInt) (cx34_3 : x34_3.toInt ≤ 255) (bx34_5 : 0 ≤ x34_5.toInt) (cx34_5 : x34_5.toInt ≤ 10) (cx19_4 : x19_4.toInt ≤ 9) (hm34 : 10 - x34_5.toInt < (m34 : Int)), hxa (d + 1) (some (.int)) hm_t116 34 [.ref 1, .int a1, .int x34_2, .int x34_3, .int x19_4, .int x34_5, x34_6] [] A P := by
        intro m34
        induction m34 with
        | zero => intro x34_2 x34_3 x34_5 x34_6 bx34_2 cx34_2 bx34_3 cx34_3 bx34_5 cx34_5 cx19_4 hm34;  exact False.elim (by omega)
        | succ m34 ih34 =>
          intro x34_2 x34_3 x34_5 x34_6 bx34_2 cx34_2 bx34_3 cx34_3 bx34_5 cx34_5 cx19_4 hm34
          refine hxa_iload (by rfl) rfl ?_
          refine hxa_aload_n (by rfl) rfl ?_
          refine hxj_getT (by rfl) (by rfl) (by rfl) (hA.Tw eT0) ?_
          refine hxj_getB (by rfl) (hsT hT0) (by rfl) hA (hbT_4 hT0) (fun z1 ez1 fz1 gz1 => ?_)
          refine hxj_cge (by rfl) rfl rfl (fun q2 => ?_) (fun q2 => ?_)
          ·
            refine hxj_iinc (by rfl) rfl rfl hk_1 (by omega) (by omega) (fun _ => rfl) (fun z3 ez3 => ?_)
            refine hxa_goto (by rfl) ?_
            exact ih19 x34_2 x34_3 z3 (.int x34_5) (x34_6) rfl (by omega) (by omega) (by omega) (by omega) (by omega) (by omega) (by omega) (by omega) (by omega)
          ·
            refine hxa_aload_n (by rfl) rfl ?_
            refine hxa_get (v := .ref 27) (by rfl) (by rfl) (by rfl) rfl ?_
            refine hxa_get (v := .ref 32) (by rfl) (by rfl) (by rfl) rfl ?_
            refine hxa_iload (by rfl) rfl ?_
            refine hxj_ialdB (by rfl) (by rfl) rfl (by omega) (by omega) hA (by rfl) (fun z4 ez4 fz4 gz4 => ?_)
            refine hxa_aload_n (by rfl) rfl ?_
            refine hxa_get (v := .ref 27) (by rfl) (by rfl) (by rfl) rfl ?_
            refine hxa_iload (by rfl) rfl ?_
            refine hxa_call0 (by rfl) (by rfl) (by rfl) (by rfl) (by rfl) (by rfl) (hX21 (d := d + 0) hA hL26 x34_5 (by omega) (by omega)) ?_
            rintro _ _ ⟨rfl, z5, rfl⟩
            refine hxj_iandL (by rfl) rfl (by omega) (fun z6 ez6 fz6 => ?_)
            refine hxa_call2 (by rfl) (by decide) (by rfl) (by rfl) (by rfl) (hX242 (d := d + 0)  z6) ?_
            rintro _ _ ⟨rfl, z7, rfl, fz7⟩
            refine hxa_s1 (by rfl) (Or.inr ⟨_, rfl, rfl⟩) rfl ?_
            refine hxa_iload (by rfl) rfl ?_
            refine hxa_iload (by rfl) rfl ?_
            refine hxj_ceq (by rfl) rfl rfl (fun q8 => ?_) (fun q8 => ?_)
            ·
              refine hxj_iinc (by rfl) rfl rfl hk_1 (by omega) (by omega) (fun _ => rfl) (fun z9 ez9 => ?_)
              refine hxa_goto (by rfl) ?_
              exact ih34 x34_2 x34_3 z9 (.int z7) (by omega) (by omega) (by omega) (by omega) (by omega) (by omega) (by omega) (by omega)
            ·
              refine hxa_iload (by rfl) rfl ?_
              refine hxa_iload_n (by rfl) rfl ?_
              refine hxj_cle (by rfl) rfl rfl (fun q10 => ?_) (fun q10 => ?_)
              ·
                refine hxj_iinc (by rfl) rfl rfl hk_1 (by omega) (by omega) (fun _ => rfl) (fun z11 ez11 => ?_)
                refine hxa_goto (by rfl) ?_
                exact ih34 x34_2 x34_3 z11 (.int z7) (by omega) (by omega) (by omega) (by omega) (by omega) (by omega) (by omega) (by omega)
              ·
                refine hxa_iload (by rfl) rfl ?_
                refine hxa_s1 (by rfl) (Or.inl ⟨_, rfl, rfl⟩) rfl ?_
                refine hxa_bipush (by rfl) rfl ?_
                refine hxa_iload (by rfl) rfl ?_
                refine hxj_imul (by rfl) hk_10 rfl (by omega) (by omega) (fun z12 ez12 => ?_)
                refine hxa_iload (by rfl) rfl ?_
                refine hxj_iadd (by rfl) rfl rfl (by omega) (by omega) (fun z13 ez13 => ?_)
                refine hxa_s1 (by rfl) (Or.inl ⟨_, rfl, rfl⟩) rfl ?_
                refine hxj_iinc (by rfl) rfl rfl hk_1 (by omega) (by omega) (fun _ => rfl) (fun z14 ez14 => ?_)
                refine hxa_goto (by rfl) ?_
                exact ih34 z7 z13 z14 (.int z7) (by omega) (by omega) (by omega) (by omega) (by omega) (by omega) (by omega) (by omega)
      refine hxa_iload (by rfl) rfl ?_
      refine hxa_aload_n (by rfl) rfl ?_
      refine hxj_getT (by rfl) (by rfl) (by rfl) (hA.Tw eT0) ?_
      refine hxj_getB (by rfl) (hsT hT0) (by rfl) hA (hbT_4 hT0) (fun z15 ez15 fz15 gz15 => ?_)
      refine hxj_cge (by rfl) rfl rfl (fun q16 => ?_) (fun q16 => ?_)
      ·
        refine hxa_iload_n (by rfl) rfl ?_
        refine hxj_zeq (by rfl) rfl (fun q17 => ?_) (fun q17 => ?_)
        ·
          refine hxa_iload_n (by rfl) rfl ?_
          refine hxa_goto (by rfl) ?_
          exact hxa_ireturn (by rfl) rfl (hP _ _ ⟨rfl, _, rfl⟩)
        ·
          refine hxa_iload_n (by rfl) rfl ?_
          refine hxa_bipush (by rfl) rfl ?_
          refine hxj_cne (by rfl) rfl hk_4294967294 (fun q18 => ?_) (fun q18 => ?_)
          ·
            refine hxa_iload_n (by rfl) rfl ?_
            exact hxa_ireturn (by rfl) rfl (hP _ _ ⟨rfl, _, rfl⟩)
          ·
            refine hxa_iload_n (by rfl) rfl ?_
            refine hxa_goto (by rfl) ?_
            exact hxa_ireturn (by rfl) rfl (hP _ _ ⟨rfl, _, rfl⟩)
      ·
        refine hxa_iconst (by rfl) rfl ?_
        refine hxa_s1 (by rfl) (Or.inr ⟨_, rfl, rfl⟩) rfl ?_
        exact L34 (Int.toNat (10 - 0) + 1) x19_2 x19_3 (Int32.ofNat 0) (x19_6) (by omega) (by omega) (by omega) (by omega) (by omega) (by omega) (by omega) (by omega)
  refine hxa_iload_n (by rfl) rfl ?_
  refine hxa_iconst (by rfl) rfl ?_
  refine hxa_iconst (by rfl) rfl ?_
  refine hxa_call2 (by rfl) (by decide) (by rfl) (by rfl) (by rfl) (hX78 (d := d + 0)  a1 (Int32.ofNat 0) (Int32.ofNat 1)) ?_
  rintro _ _ ⟨rfl, z19, rfl, fz19⟩
  rcases fz19 with fz19 | fz19
  ·
    refine hxj_zne (by rfl) rfl (fun q20 => ?_) (fun q20 => False.elim (by omega))
    refine hxa_iconst (by rfl) rfl ?_
    refine hxa_s1 (by rfl) (Or.inl ⟨_, rfl, rfl⟩) rfl ?_
    refine hxa_bipush (by rfl) rfl ?_
    refine hxa_s1 (by rfl) (Or.inl ⟨_, rfl, rfl⟩) rfl ?_
    refine hxa_iconst (by rfl) rfl ?_
    refine hxa_s1 (by rfl) (Or.inr ⟨_, rfl, rfl⟩) rfl ?_
    exact L19 (Int.toNat (10 - 0) + 1) (Int32.ofNat 0) (Int32.ofNat 4294967294) (Int32.ofNat 0) (.retAddr 0) (.retAddr 0) rfl (by omega) (by omega) (by omega) (by omega) (by omega) (by omega) (by omega) (by omega) (by omega)
  ·
    refine hxj_zne (by rfl) rfl (fun q21 => False.elim (by omega)) (fun q21 => ?_)
    refine hxa_iconst (by rfl) rfl ?_
    exact hxa_ireturn (by rfl) rfl (hP _ _ ⟨rfl, _, rfl⟩)
theorem hX116 {d : Nat} {Bn Br : Int} {A0 A : hs_A} (hA : hJ 0 Bn Br A0 A)  (a1 : Int32) : hxC (d + 2) 116 hm_m116 [.ref 1, .int a1] A (fun r A' => A = A' ∧ ∃ z : Int32, r = some (.int z)) := hxC.of (by rfl) (hY116 hA a1 (fun r A' h => h))
theorem hY117 {d : Nat} {Bn Br : Int} {A0 A : hs_A} (hA : hJ 0 Bn Br A0 A)  (a1 : Int32) {P : Option Value → hs_A → Prop} (hP : ∀ (r : Option Value) (A' : hs_A), (A = A' ∧ ∃ z : Int32, r = some (.int z)) → P r A') : hxa (d + 1) (some (.int)) hm_t117 0 [.ref 1, .int a1] [] A P := by
  have k4294967295 := hk_4294967295
  refine hxa_aload_n (by rfl) rfl ?_
  refine hxa_iload_n (by rfl) rfl ?_
  refine hxa_call0 (by rfl) (by rfl) (by rfl) (by rfl) (by rfl) (by rfl) (hX76 (d := d + 0) hA a1) ?_
  rintro _ _ ⟨rfl, z1, rfl, fz1⟩
  rcases fz1 with fz1 | fz1
  ·
    refine hxj_zeq (by rfl) rfl (fun q2 => False.elim (by omega)) (fun q2 => ?_)
    refine hxa_aload_n (by rfl) rfl ?_
    refine hxa_get (v := .ref 27) (by rfl) (by rfl) (by rfl) rfl ?_
    refine hxa_iload_n (by rfl) rfl ?_
    refine hxa_call0 (by rfl) (by rfl) (by rfl) (by rfl) (by rfl) (by rfl) (hX21 (d := d + 0) hA hL26 a1 (by omega) (by omega)) ?_
    rintro _ _ ⟨rfl, z3, rfl⟩
    refine hxa_goto (by rfl) ?_
    exact hxa_ireturn (by rfl) rfl (hP _ _ ⟨rfl, _, rfl⟩)
  ·
    refine hxj_zeq (by rfl) rfl (fun q4 => ?_) (fun q4 => False.elim (by omega))
    refine hxa_iconst (by rfl) rfl ?_
    exact hxa_ireturn (by rfl) rfl (hP _ _ ⟨rfl, _, rfl⟩)
theorem hX117 {d : Nat} {Bn Br : Int} {A0 A : hs_A} (hA : hJ 0 Bn Br A0 A)  (a1 : Int32) : hxC (d + 2) 117 hm_m117 [.ref 1, .int a1] A (fun r A' => A = A' ∧ ∃ z : Int32, r = some (.int z)) := hxC.of (by rfl) (hY117 hA a1 (fun r A' h => h))
theorem hY119 {d : Nat} {Bn Br : Int} {A0 A : hs_A} (hA : hJ 0 Bn Br A0 A)  (a1 : Int32) (p1 : 0 ≤ a1.toInt) (q1 : a1.toInt ≤ 9) (a2 : Int32) (p2 : 0 ≤ a2.toInt) (q2 : a2.toInt ≤ 9) {P : Option Value → hs_A → Prop} (hP : ∀ (r : Option Value) (A' : hs_A), (hJ 0 Bn Br A0 A' ∧ ∃ z : Int32, r = some (.int z)) → P r A') : hxa (d + 4) (some (.int)) hm_t119 0 [.ref 1, .int a1, .int a2, .retAddr 0] [] A P := by
  have k0 := hk_0
  obtain ⟨T0, hT0, -, eT0⟩ := hA.T
  have L22 : ∀ (m22 : Nat) (x22_3 : Int32) (Ac22 : hs_A) (hAc22 : hJ 0 Bn Br A0 Ac22) (bx22_3 : 0 ≤ x22_3.toInt) (cx22_3 : x22_3.toInt ≤ 48) (hm22 : 48 - x22_3.toInt < (m22 : Int)), hxa (d + 4) (some (.int)) hm_t119 22 [.ref 1, .int a1, .int a2, .int x22_3] [] Ac22 P := by
    intro m22
    induction m22 with
    | zero => intro x22_3 Ac22 hAc22 bx22_3 cx22_3 hm22;  exact False.elim (by omega)
    | succ m22 ih22 =>
      intro x22_3 Ac22 hAc22 bx22_3 cx22_3 hm22
      refine hxa_iload_n (by rfl) rfl ?_
      refine hxa_bipush (by rfl) rfl ?_
      refine hxj_cge (by rfl) rfl hk_48 (fun q1 => ?_) (fun q1 => ?_)
      ·
        refine hxa_aload_n (by rfl) rfl ?_
        refine hxa_get (v := .ref 34) (by rfl) (by rfl) (by rfl) rfl ?_
        refine hxa_call0 (by rfl) (by rfl) (by rfl) (by rfl) (by rfl) (by rfl) (hX30 (d := d + 2) hAc22 hL33) ?_
        rintro _ _ ⟨rfl, z2, rfl⟩
        refine hxa_call2 (by rfl) (by decide) (by rfl) (by rfl) (by rfl) (hX242 (d := d + 3)  z2) ?_
        rintro _ _ ⟨rfl, z3, rfl, fz3⟩
        exact hxa_ireturn (by rfl) rfl (hP _ _ ⟨hAc22, _, rfl⟩)
      ·
        refine hxa_aload_n (by rfl) rfl ?_
        refine hxa_get (v := .ref 34) (by rfl) (by rfl) (by rfl) rfl ?_
        refine hxa_aload_n (by rfl) rfl ?_
        refine hxj_getT (by rfl) (by rfl) (by rfl) (hAc22.Tw eT0) ?_
        refine hxa_aload_n (by rfl) rfl ?_
        refine hxa_get (v := .ref 324) (by rfl) (by rfl) (by rfl) rfl ?_
        refine hxa_iconst (by rfl) rfl ?_
        refine hxa_iconst (by rfl) rfl ?_
        refine hxa_call0 (by rfl) (by rfl) (by rfl) (by rfl) (by rfl) (by rfl) (hX26 (d := d + 0) hAc22 hL33 hT0 eT0 (Int32.ofNat 0) (by omega) (by omega) (Int32.ofNat 0)) ?_
        rintro _ A4 ⟨hA4, rfl⟩
        refine hxj_iinc (by rfl) rfl rfl hk_1 (by omega) (by omega) (fun _ => rfl) (fun z5 ez5 => ?_)
        refine hxa_goto (by rfl) ?_
        exact ih22 z5 A4 hA4 (by omega) (by omega) (by omega)
  refine hxa_aload_n (by rfl) rfl ?_
  refine hxa_get (v := .ref 34) (by rfl) (by rfl) (by rfl) rfl ?_
  refine hxa_aload_n (by rfl) rfl ?_
  refine hxa_get (v := .ref 27) (by rfl) (by rfl) (by rfl) rfl ?_
  refine hxa_call0 (by rfl) (by rfl) (by rfl) (by rfl) (by rfl) (by rfl) (hX17 (d := d + 3) hA hL33 hL26) ?_
  rintro _ A6 ⟨hA6, rfl⟩
  refine hxa_aload_n (by rfl) rfl ?_
  refine hxa_get (v := .ref 34) (by rfl) (by rfl) (by rfl) rfl ?_
  refine hxa_iload_n (by rfl) rfl ?_
  refine hxa_iload_n (by rfl) rfl ?_
  refine hxa_call0 (by rfl) (by rfl) (by rfl) (by rfl) (by rfl) (by rfl) (hX24 (d := d + 2) hA6 hL33 a1 (by omega) (by omega) a2 (by omega) (by omega)) ?_
  rintro _ A7 ⟨hA7, rfl⟩
  refine hxa_iconst (by rfl) rfl ?_
  refine hxa_s1 (by rfl) (Or.inl ⟨_, rfl, rfl⟩) rfl ?_
  exact L22 (Int.toNat (48 - 0) + 1) (Int32.ofNat 0) A7 hA7 (by omega) (by omega) (by omega)
theorem hX119 {d : Nat} {Bn Br : Int} {A0 A : hs_A} (hA : hJ 0 Bn Br A0 A)  (a1 : Int32) (p1 : 0 ≤ a1.toInt) (q1 : a1.toInt ≤ 9) (a2 : Int32) (p2 : 0 ≤ a2.toInt) (q2 : a2.toInt ≤ 9) : hxC (d + 5) 119 hm_m119 [.ref 1, .int a1, .int a2] A (fun r A' => hJ 0 Bn Br A0 A' ∧ ∃ z : Int32, r = some (.int z)) := hxC.of (by rfl) (hY119 hA a1 p1 q1 a2 p2 q2 (fun r A' h => h))
theorem hY118 {d : Nat} {Bn Br : Int} {A0 A : hs_A} (hA : hJ 0 Bn Br A0 A)  (a1 : Int32) {P : Option Value → hs_A → Prop} (hP : ∀ (r : Option Value) (A' : hs_A), (hJ 0 Bn Br A0 A' ∧ ∃ z : Int32, r = some (.int z)) → P r A') : hxa (d + 5) (some (.int)) hm_t118 0 [.ref 1, .int a1, .retAddr 0, .retAddr 0, .retAddr 0, .retAddr 0, .retAddr 0] [] A P := by
  have k0 := hk_0
  have k1 := hk_1
  have k4294967294 := hk_4294967294
  have k4294967295 := hk_4294967295
  obtain ⟨T0, hT0, -, eT0⟩ := hA.T
  have L24 : ∀ (m24 : Nat) (x24_2 : Int32) (x24_3 : Int32) (x24_4 : Int32) (x24_5 : Value) (x24_6 : Value) (Ac24 : hs_A) (hx24_5 : hc_two (some x24_5) = false) (hAc24 : hJ 0 Bn Br A0 Ac24) (bx24_3 : -2 ≤ x24_3.toInt) (cx24_3 : x24_3.toInt ≤ 255) (bx24_4 : 0 ≤ x24_4.toInt) (cx24_4 : x24_4.toInt ≤ 10) (ba1 : 0 ≤ a1.toInt) (ca1 : a1.toInt ≤ 1) (hm24 : 10 - x24_4.toInt < (m24 : Int)), hxa (d + 5) (some (.int)) hm_t118 24 [.ref 1, .int a1, .int x24_2, .int x24_3, .int x24_4, x24_5, x24_6] [] Ac24 P := by
    intro m24
    induction m24 with
    | zero => intro x24_2 x24_3 x24_4 x24_5 x24_6 Ac24 hx24_5 hAc24 bx24_3 cx24_3 bx24_4 cx24_4 ba1 ca1 hm24; have := hn_rng x24_2; exact False.elim (by omega)
    | succ m24 ih24 =>
      intro x24_2 x24_3 x24_4 x24_5 x24_6 Ac24 hx24_5 hAc24 bx24_3 cx24_3 bx24_4 cx24_4 ba1 ca1 hm24
      have L42 : ∀ (m42 : Nat) (x42_2 : Int32) (x42_3 : Int32) (x42_5 : Int32) (x42_6 : Value) (Ac42 : hs_A) (hAc42 : hJ 0 Bn Br A0 Ac42) (bx42_3 : -2 ≤ x42_3.toInt) (cx42_3 : x42_3.toInt ≤ 255) (bx42_5 : 1 ≤ x42_5.toInt) (cx42_5 : x42_5.toInt ≤ 10) (cx24_4 : x24_4.toInt ≤ 9) (hm42 : 10 - x42_5.toInt < (m42 : Int)), hxa (d + 5) (some (.int)) hm_t118 42 [.ref 1, .int a1, .int x42_2, .int x42_3, .int x24_4, .int x42_5, x42_6] [] Ac42 P := by
        intro m42
        induction m42 with
        | zero => intro x42_2 x42_3 x42_5 x42_6 Ac42 hAc42 bx42_3 cx42_3 bx42_5 cx42_5 cx24_4 hm42; have := hn_rng x42_2; exact False.elim (by omega)
        | succ m42 ih42 =>
          intro x42_2 x42_3 x42_5 x42_6 Ac42 hAc42 bx42_3 cx42_3 bx42_5 cx42_5 cx24_4 hm42
          refine hxa_iload (by rfl) rfl ?_
          refine hxa_aload_n (by rfl) rfl ?_
          refine hxj_getT (by rfl) (by rfl) (by rfl) (hAc42.Tw eT0) ?_
          refine hxj_getB (by rfl) (hsT hT0) (by rfl) hAc42 (hbT_4 hT0) (fun z1 ez1 fz1 gz1 => ?_)
          refine hxj_cge (by rfl) rfl rfl (fun q2 => ?_) (fun q2 => ?_)
          ·
            refine hxj_iinc (by rfl) rfl rfl hk_1 (by omega) (by omega) (fun _ => rfl) (fun z3 ez3 => ?_)
            refine hxa_goto (by rfl) ?_
            exact ih24 x42_2 x42_3 z3 (.int x42_5) (x42_6) Ac42 rfl hAc42 (by omega) (by omega) (by omega) (by omega) (by omega) (by omega) (by omega)
          ·
            refine hxa_iload_n (by rfl) rfl ?_
            refine hxa_aload_n (by rfl) rfl ?_
            refine hxj_getT (by rfl) (by rfl) (by rfl) (hAc42.Tw eT0) ?_
            refine hxj_getK (by rfl) (hsT hT0) (by rfl) ez1 ?_
            have rgx42_2 := hn_rng x42_2
            refine hxj_cge (by rfl) rfl rfl (fun q4 => ?_) (fun q4 => ?_)
            ·
              refine hxj_iinc (by rfl) rfl rfl hk_1 (by omega) (by omega) (fun _ => rfl) (fun z5 ez5 => ?_)
              refine hxa_goto (by rfl) ?_
              exact ih24 x42_2 x42_3 z5 (.int x42_5) (x42_6) Ac42 rfl hAc42 (by omega) (by omega) (by omega) (by omega) (by omega) (by omega) (by omega)
            ·
              refine hxa_aload_n (by rfl) rfl ?_
              refine hxa_iload (by rfl) rfl ?_
              refine hxa_iload (by rfl) rfl ?_
              refine hxa_call0 (by rfl) (by rfl) (by rfl) (by rfl) (by rfl) (by rfl) (hX119 (d := d + 0) hAc42 x24_4 (by omega) (by omega) x42_5 (by omega) (by omega)) ?_
              rintro _ A6 ⟨hA6, z7, rfl⟩
              refine hxa_s1 (by rfl) (Or.inr ⟨_, rfl, rfl⟩) rfl ?_
              refine hxa_iload (by rfl) rfl ?_
              refine hxa_iload_n (by rfl) rfl ?_
              have rgz7 := hn_rng z7
              refine hxj_cle (by rfl) rfl rfl (fun q8 => ?_) (fun q8 => ?_)
              ·
                refine hxj_iinc (by rfl) rfl rfl hk_1 (by omega) (by omega) (fun _ => rfl) (fun z9 ez9 => ?_)
                refine hxa_goto (by rfl) ?_
                exact ih42 x42_2 x42_3 z9 (.int z7) A6 hA6 (by omega) (by omega) (by omega) (by omega) (by omega) (by omega)
              ·
                refine hxa_iload (by rfl) rfl ?_
                refine hxa_s1 (by rfl) (Or.inl ⟨_, rfl, rfl⟩) rfl ?_
                refine hxa_bipush (by rfl) rfl ?_
                refine hxa_iload (by rfl) rfl ?_
                refine hxj_imul (by rfl) hk_10 rfl (by omega) (by omega) (fun z10 ez10 => ?_)
                refine hxa_iload (by rfl) rfl ?_
                refine hxj_iadd (by rfl) rfl rfl (by omega) (by omega) (fun z11 ez11 => ?_)
                refine hxa_s1 (by rfl) (Or.inl ⟨_, rfl, rfl⟩) rfl ?_
                refine hxj_iinc (by rfl) rfl rfl hk_1 (by omega) (by omega) (fun _ => rfl) (fun z12 ez12 => ?_)
                refine hxa_goto (by rfl) ?_
                exact ih42 z7 z11 z12 (.int z7) A6 hA6 (by omega) (by omega) (by omega) (by omega) (by omega) (by omega)
      refine hxa_iload (by rfl) rfl ?_
      refine hxa_aload_n (by rfl) rfl ?_
      refine hxj_getT (by rfl) (by rfl) (by rfl) (hAc24.Tw eT0) ?_
      refine hxj_getB (by rfl) (hsT hT0) (by rfl) hAc24 (hbT_4 hT0) (fun z13 ez13 fz13 gz13 => ?_)
      refine hxj_cge (by rfl) rfl rfl (fun q14 => ?_) (fun q14 => ?_)
      ·
        refine hxa_iload_n (by rfl) rfl ?_
        refine hxj_zeq (by rfl) rfl (fun q15 => ?_) (fun q15 => ?_)
        ·
          refine hxa_iload_n (by rfl) rfl ?_
          refine hxa_goto (by rfl) ?_
          exact hxa_ireturn (by rfl) rfl (hP _ _ ⟨hAc24, _, rfl⟩)
        ·
          refine hxa_iload_n (by rfl) rfl ?_
          refine hxa_bipush (by rfl) rfl ?_
          refine hxj_cne (by rfl) rfl hk_4294967294 (fun q16 => ?_) (fun q16 => ?_)
          ·
            refine hxa_iload_n (by rfl) rfl ?_
            exact hxa_ireturn (by rfl) rfl (hP _ _ ⟨hAc24, _, rfl⟩)
          ·
            refine hxa_iload_n (by rfl) rfl ?_
            refine hxa_goto (by rfl) ?_
            exact hxa_ireturn (by rfl) rfl (hP _ _ ⟨hAc24, _, rfl⟩)
      ·
        refine hxa_iload (by rfl) rfl ?_
        refine hxa_iconst (by rfl) rfl ?_
        refine hxj_iadd (by rfl) rfl hk_1 (by omega) (by omega) (fun z17 ez17 => ?_)
        refine hxa_s1 (by rfl) (Or.inr ⟨_, rfl, rfl⟩) rfl ?_
        exact L42 (Int.toNat (10 - z17.toInt) + 1) x24_2 x24_3 z17 (x24_6) Ac24 hAc24 (by omega) (by omega) (by omega) (by omega) (by omega) (by omega)
  refine hxa_iload_n (by rfl) rfl ?_
  refine hxa_iconst (by rfl) rfl ?_
  refine hxa_iconst (by rfl) rfl ?_
  refine hxa_call2 (by rfl) (by decide) (by rfl) (by rfl) (by rfl) (hX78 (d := d + 4)  a1 (Int32.ofNat 0) (Int32.ofNat 1)) ?_
  rintro _ _ ⟨rfl, z18, rfl, fz18⟩
  rcases fz18 with fz18 | fz18
  ·
    refine hxj_zne (by rfl) rfl (fun q19 => ?_) (fun q19 => False.elim (by omega))
    refine hxa_aload_n (by rfl) rfl ?_
    refine hxa_iconst (by rfl) rfl ?_
    refine hxa_iconst (by rfl) rfl ?_
    refine hxa_call0 (by rfl) (by rfl) (by rfl) (by rfl) (by rfl) (by rfl) (hX119 (d := d + 0) hA (Int32.ofNat 0) (by omega) (by omega) (Int32.ofNat 0) (by omega) (by omega)) ?_
    rintro _ A20 ⟨hA20, z21, rfl⟩
    refine hxa_s1 (by rfl) (Or.inl ⟨_, rfl, rfl⟩) rfl ?_
    refine hxa_bipush (by rfl) rfl ?_
    refine hxa_s1 (by rfl) (Or.inl ⟨_, rfl, rfl⟩) rfl ?_
    refine hxa_iconst (by rfl) rfl ?_
    refine hxa_s1 (by rfl) (Or.inr ⟨_, rfl, rfl⟩) rfl ?_
    exact L24 (Int.toNat (10 - 0) + 1) z21 (Int32.ofNat 4294967294) (Int32.ofNat 0) (.retAddr 0) (.retAddr 0) A20 rfl hA20 (by omega) (by omega) (by omega) (by omega) (by omega) (by omega) (by omega)
  ·
    refine hxj_zne (by rfl) rfl (fun q22 => False.elim (by omega)) (fun q22 => ?_)
    refine hxa_iconst (by rfl) rfl ?_
    exact hxa_ireturn (by rfl) rfl (hP _ _ ⟨hA, _, rfl⟩)
theorem hX118 {d : Nat} {Bn Br : Int} {A0 A : hs_A} (hA : hJ 0 Bn Br A0 A)  (a1 : Int32) : hxC (d + 6) 118 hm_m118 [.ref 1, .int a1] A (fun r A' => hJ 0 Bn Br A0 A' ∧ ∃ z : Int32, r = some (.int z)) := hxC.of (by rfl) (hY118 hA a1 (fun r A' h => h))
theorem hY120 {d : Nat} {Bn Br : Int} {A0 A : hs_A} (hA : hJ 0 Bn Br A0 A)  (a1 : Int32) {P : Option Value → hs_A → Prop} (hP : ∀ (r : Option Value) (A' : hs_A), (A = A' ∧ ∃ z : Int32, r = some (.int z)) → P r A') : hxa (d + 1) (some (.int)) hm_t120 0 [.ref 1, .int a1, .retAddr 0, .retAddr 0] [] A P := by
  have k0 := hk_0
  have k4294967295 := hk_4294967295
  have L14 : ∀ (m14 : Nat) (x14_2 : Int32) (x14_3 : Int32) (bx14_3 : 0 ≤ x14_3.toInt) (cx14_3 : x14_3.toInt ≤ 10) (ba1 : 0 ≤ a1.toInt) (ca1 : a1.toInt ≤ 9) (hm14 : 10 - x14_3.toInt < (m14 : Int)), hxa (d + 1) (some (.int)) hm_t120 14 [.ref 1, .int a1, .int x14_2, .int x14_3] [] A P := by
    intro m14
    induction m14 with
    | zero => intro x14_2 x14_3 bx14_3 cx14_3 ba1 ca1 hm14; have := hn_rng x14_2; exact False.elim (by omega)
    | succ m14 ih14 =>
      intro x14_2 x14_3 bx14_3 cx14_3 ba1 ca1 hm14
      refine hxa_iload_n (by rfl) rfl ?_
      refine hxa_iload_n (by rfl) rfl ?_
      refine hxj_cgt (by rfl) rfl rfl (fun q1 => ?_) (fun q1 => ?_)
      ·
        refine hxa_iload_n (by rfl) rfl ?_
        exact hxa_ireturn (by rfl) rfl (hP _ _ ⟨rfl, _, rfl⟩)
      ·
        refine hxa_aload_n (by rfl) rfl ?_
        refine hxa_get (v := .ref 27) (by rfl) (by rfl) (by rfl) rfl ?_
        refine hxa_iload_n (by rfl) rfl ?_
        refine hxa_call0 (by rfl) (by rfl) (by rfl) (by rfl) (by rfl) (by rfl) (hX18 (d := d + 0) hA hL26 x14_3) ?_
        rintro _ _ ⟨rfl, z2, rfl, fz2⟩
        refine hxj_zne (by rfl) rfl (fun q3 => ?_) (fun q3 => ?_)
        ·
          refine hxj_iinc (by rfl) rfl rfl hk_1 (by omega) (by omega) (fun _ => rfl) (fun z4 ez4 => ?_)
          refine hxa_goto (by rfl) ?_
          exact ih14 x14_2 z4 (by omega) (by omega) (by omega) (by omega) (by omega)
        ·
          refine hxj_iincU (by rfl) rfl (fun _ => rfl) (fun z5 => ?_)
          refine hxj_iinc (by rfl) rfl rfl hk_1 (by omega) (by omega) (fun _ => rfl) (fun z6 ez6 => ?_)
          refine hxa_goto (by rfl) ?_
          exact ih14 z5 z6 (by omega) (by omega) (by omega) (by omega) (by omega)
  refine hxa_aload_n (by rfl) rfl ?_
  refine hxa_iload_n (by rfl) rfl ?_
  refine hxa_call0 (by rfl) (by rfl) (by rfl) (by rfl) (by rfl) (by rfl) (hX76 (d := d + 0) hA a1) ?_
  rintro _ _ ⟨rfl, z7, rfl, fz7⟩
  rcases fz7 with fz7 | fz7
  ·
    refine hxj_zne (by rfl) rfl (fun q8 => ?_) (fun q8 => False.elim (by omega))
    refine hxa_iconst (by rfl) rfl ?_
    refine hxa_s1 (by rfl) (Or.inl ⟨_, rfl, rfl⟩) rfl ?_
    refine hxa_iconst (by rfl) rfl ?_
    refine hxa_s1 (by rfl) (Or.inl ⟨_, rfl, rfl⟩) rfl ?_
    exact L14 (Int.toNat (10 - 0) + 1) (Int32.ofNat 0) (Int32.ofNat 0) (by omega) (by omega) (by omega) (by omega) (by omega)
  ·
    refine hxj_zne (by rfl) rfl (fun q9 => False.elim (by omega)) (fun q9 => ?_)
    refine hxa_iconst (by rfl) rfl ?_
    exact hxa_ireturn (by rfl) rfl (hP _ _ ⟨rfl, _, rfl⟩)
theorem hX120 {d : Nat} {Bn Br : Int} {A0 A : hs_A} (hA : hJ 0 Bn Br A0 A)  (a1 : Int32) : hxC (d + 2) 120 hm_m120 [.ref 1, .int a1] A (fun r A' => A = A' ∧ ∃ z : Int32, r = some (.int z)) := hxC.of (by rfl) (hY120 hA a1 (fun r A' h => h))
theorem hY121 {d : Nat} {Bn Br : Int} {A0 A : hs_A} (hA : hJ 0 Bn Br A0 A)  (a1 : Int32) (a2 : Int32) (a3 : Int32) {P : Option Value → hs_A → Prop} (hP : ∀ (r : Option Value) (A' : hs_A), (hJ 0 Bn Br A0 A' ∧ ∃ z : Int32, r = some (.int z)) → P r A') : hxa (d + 5) (some (.int)) hm_t121 0 [.ref 1, .int a1, .int a2, .int a3, .retAddr 0, .retAddr 0] [] A P := by
  have k0 := hk_0
  have k1 := hk_1
  have k20 := hk_20
  have k4294967295 := hk_4294967295
  have k72 := hk_72
  obtain ⟨T0, hT0, -, eT0⟩ := hA.T
  have L36 : ∀ (m36 : Nat) (x36_4 : Int32) (x36_5 : Int32) (Ac36 : hs_A) (hAc36 : hJ 0 Bn Br A0 Ac36) (bx36_5 : 0 ≤ x36_5.toInt) (cx36_5 : x36_5.toInt ≤ 20) (ba1 : 0 ≤ a1.toInt) (ca1 : a1.toInt ≤ 9) (ba2 : 0 ≤ a2.toInt) (ca2 : a2.toInt ≤ 72) (ba3 : 1 ≤ a3.toInt) (ca3 : a3.toInt ≤ 20) (hm36 : 20 - x36_5.toInt < (m36 : Int)), hxa (d + 5) (some (.int)) hm_t121 36 [.ref 1, .int a1, .int a2, .int a3, .int x36_4, .int x36_5] [] Ac36 P := by
    intro m36
    induction m36 with
    | zero => intro x36_4 x36_5 Ac36 hAc36 bx36_5 cx36_5 ba1 ca1 ba2 ca2 ba3 ca3 hm36; have := hn_rng x36_4; exact False.elim (by omega)
    | succ m36 ih36 =>
      intro x36_4 x36_5 Ac36 hAc36 bx36_5 cx36_5 ba1 ca1 ba2 ca2 ba3 ca3 hm36
      refine hxa_iload (by rfl) rfl ?_
      refine hxa_iload_n (by rfl) rfl ?_
      refine hxj_cge (by rfl) rfl rfl (fun q1 => ?_) (fun q1 => ?_)
      ·
        refine hxa_iload (by rfl) rfl ?_
        exact hxa_ireturn (by rfl) rfl (hP _ _ ⟨hAc36, _, rfl⟩)
      ·
        refine hxa_aload_n (by rfl) rfl ?_
        refine hxa_iload_n (by rfl) rfl ?_
        refine hxa_iconst (by rfl) rfl ?_
        refine hxa_aload_n (by rfl) rfl ?_
        refine hxj_getT (by rfl) (by rfl) (by rfl) (hAc36.Tw eT0) ?_
        refine hxj_getI (by rfl) (hsT hT0) (by rfl) (fun z2 ez2 => ?_)
        refine hxa_iload (by rfl) rfl ?_
        refine hxj_iaddU (by rfl) (fun z3 => ?_)
        refine hxa_call0 (by rfl) (by rfl) (by rfl) (by rfl) (by rfl) (by rfl) (hX107 (d := d + 0) hAc36 a2 (Int32.ofNat 1) (by omega) (by omega) z3) ?_
        rintro _ A4 ⟨hA4, rfl⟩
        refine hxa_aload_n (by rfl) rfl ?_
        refine hxa_get (v := .ref 34) (by rfl) (by rfl) (by rfl) rfl ?_
        refine hxa_iload_n (by rfl) rfl ?_
        refine hxa_call0 (by rfl) (by rfl) (by rfl) (by rfl) (by rfl) (by rfl) (hX21 (d := d + 4) hA4 hL33 a1 (by omega) (by omega)) ?_
        rintro _ _ ⟨rfl, z5, rfl⟩
        refine hxj_zne (by rfl) rfl (fun q6 => ?_) (fun q6 => ?_)
        ·
          refine hxj_iinc (by rfl) rfl rfl hk_1 (by omega) (by omega) (fun _ => rfl) (fun z7 ez7 => ?_)
          refine hxa_goto (by rfl) ?_
          exact ih36 x36_4 z7 A4 hA4 (by omega) (by omega) (by omega) (by omega) (by omega) (by omega) (by omega) (by omega) (by omega)
        ·
          refine hxj_iincU (by rfl) rfl (fun _ => rfl) (fun z8 => ?_)
          refine hxj_iinc (by rfl) rfl rfl hk_1 (by omega) (by omega) (fun _ => rfl) (fun z9 ez9 => ?_)
          refine hxa_goto (by rfl) ?_
          exact ih36 z8 z9 A4 hA4 (by omega) (by omega) (by omega) (by omega) (by omega) (by omega) (by omega) (by omega) (by omega)
  refine hxa_aload_n (by rfl) rfl ?_
  refine hxa_iload_n (by rfl) rfl ?_
  refine hxa_call0 (by rfl) (by rfl) (by rfl) (by rfl) (by rfl) (by rfl) (hX76 (d := d + 4) hA a1) ?_
  rintro _ _ ⟨rfl, z10, rfl, fz10⟩
  rcases fz10 with fz10 | fz10
  ·
    refine hxj_zeq (by rfl) rfl (fun q11 => False.elim (by omega)) (fun q11 => ?_)
    refine hxa_iload_n (by rfl) rfl ?_
    refine hxa_iconst (by rfl) rfl ?_
    refine hxa_bipush (by rfl) rfl ?_
    refine hxa_call2 (by rfl) (by decide) (by rfl) (by rfl) (by rfl) (hX78 (d := d + 4)  a2 (Int32.ofNat 0) (Int32.ofNat 72)) ?_
    rintro _ _ ⟨rfl, z12, rfl, fz12⟩
    rcases fz12 with fz12 | fz12
    ·
      refine hxj_zeq (by rfl) rfl (fun q13 => False.elim (by omega)) (fun q13 => ?_)
      refine hxa_iload_n (by rfl) rfl ?_
      refine hxa_iconst (by rfl) rfl ?_
      refine hxa_bipush (by rfl) rfl ?_
      refine hxa_call2 (by rfl) (by decide) (by rfl) (by rfl) (by rfl) (hX78 (d := d + 4)  a3 (Int32.ofNat 1) (Int32.ofNat 20)) ?_
      rintro _ _ ⟨rfl, z14, rfl, fz14⟩
      rcases fz14 with fz14 | fz14
      ·
        refine hxj_zne (by rfl) rfl (fun q15 => ?_) (fun q15 => False.elim (by omega))
        refine hxa_iconst (by rfl) rfl ?_
        refine hxa_s1 (by rfl) (Or.inr ⟨_, rfl, rfl⟩) rfl ?_
        refine hxa_iconst (by rfl) rfl ?_
        refine hxa_s1 (by rfl) (Or.inr ⟨_, rfl, rfl⟩) rfl ?_
        exact L36 (Int.toNat (20 - 0) + 1) (Int32.ofNat 0) (Int32.ofNat 0) A hA (by omega) (by omega) (by omega) (by omega) (by omega) (by omega) (by omega) (by omega) (by omega)
      ·
        refine hxj_zne (by rfl) rfl (fun q16 => False.elim (by omega)) (fun q16 => ?_)
        refine hxa_iconst (by rfl) rfl ?_
        exact hxa_ireturn (by rfl) rfl (hP _ _ ⟨hA, _, rfl⟩)
    ·
      refine hxj_zeq (by rfl) rfl (fun q17 => ?_) (fun q17 => False.elim (by omega))
      refine hxa_iconst (by rfl) rfl ?_
      exact hxa_ireturn (by rfl) rfl (hP _ _ ⟨hA, _, rfl⟩)
  ·
    refine hxj_zeq (by rfl) rfl (fun q18 => ?_) (fun q18 => False.elim (by omega))
    refine hxa_iconst (by rfl) rfl ?_
    exact hxa_ireturn (by rfl) rfl (hP _ _ ⟨hA, _, rfl⟩)
theorem hX121 {d : Nat} {Bn Br : Int} {A0 A : hs_A} (hA : hJ 0 Bn Br A0 A)  (a1 : Int32) (a2 : Int32) (a3 : Int32) : hxC (d + 6) 121 hm_m121 [.ref 1, .int a1, .int a2, .int a3] A (fun r A' => hJ 0 Bn Br A0 A' ∧ ∃ z : Int32, r = some (.int z)) := hxC.of (by rfl) (hY121 hA a1 a2 a3 (fun r A' h => h))
