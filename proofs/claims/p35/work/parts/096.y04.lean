theorem hY100 {d : Nat} {Bn Br : Int} {A0 A : hs_A} (hA : hJ 0 Bn Br A0 A)  (a1 : Int32) (a2 : Int32) {P : Option Value → hs_A → Prop} (hP : ∀ (r : Option Value) (A' : hs_A), (hJ 0 Bn Br A0 A' ∧ ∃ z : Int32, r = some (.int z)) → P r A') : hxa (d + 6) (some (.int)) hm_t100 0 [.ref 1, .int a1, .int a2, .retAddr 0, .retAddr 0, .retAddr 0, .retAddr 0] [] A P := by
  have k0 := hk_0
  have k4294967295 := hk_4294967295
  have L42 : ∀ (m42 : Nat) (x42_3 : Nat) (x42_4 : Nat) (x42_5 : Int32) (x42_6 : Int32) (Ac42 : hs_A) (hx42_3 : hRR x42_3) (hx42_4 : hRR x42_4) (hAc42 : hJ 0 Bn Br A0 Ac42) (bx42_6 : 0 ≤ x42_6.toInt) (cx42_6 : x42_6.toInt ≤ 256) (ba1 : 0 ≤ a1.toInt) (ca1 : a1.toInt ≤ 9) (ba2 : 0 ≤ a2.toInt) (ca2 : a2.toInt ≤ 9) (hm42 : 256 - x42_6.toInt < (m42 : Int)), hxa (d + 6) (some (.int)) hm_t100 42 [.ref 1, .int a1, .int a2, .ref (x42_3 + 1), .ref (x42_4 + 1), .int x42_5, .int x42_6] [] Ac42 P := by
    intro m42
    induction m42 with
    | zero => intro x42_3 x42_4 x42_5 x42_6 Ac42 hx42_3 hx42_4 hAc42 bx42_6 cx42_6 ba1 ca1 ba2 ca2 hm42; have := hn_rng x42_5; exact False.elim (by omega)
    | succ m42 ih42 =>
      intro x42_3 x42_4 x42_5 x42_6 Ac42 hx42_3 hx42_4 hAc42 bx42_6 cx42_6 ba1 ca1 ba2 ca2 hm42
      refine hxa_iload (by rfl) rfl ?_
      refine hxa_sipush (by rfl) rfl ?_
      refine hxj_cge (by rfl) rfl hk_256 (fun q1 => ?_) (fun q1 => ?_)
      ·
        refine hxa_iload (by rfl) rfl ?_
        exact hxa_ireturn (by rfl) rfl (hP _ _ ⟨hAc42, _, rfl⟩)
      ·
        refine hxa_aload_n (by rfl) rfl ?_
        refine hxa_iload (by rfl) rfl ?_
        refine hxj_iald (by rfl) (hsR hx42_3) rfl (by omega) (by omega) (fun z2 ez2 => ?_)
        refine hxa_aload (by rfl) rfl ?_
        refine hxa_iload (by rfl) rfl ?_
        refine hxj_iald (by rfl) (hsR hx42_4) rfl (by omega) (by omega) (fun z3 ez3 => ?_)
        refine hxj_cne (by rfl) rfl rfl (fun q4 => ?_) (fun q4 => ?_)
        ·
          refine hxj_iinc (by rfl) rfl rfl hk_1 (by omega) (by omega) (fun _ => rfl) (fun z5 ez5 => ?_)
          refine hxa_goto (by rfl) ?_
          exact ih42 x42_3 x42_4 x42_5 z5 Ac42 hx42_3 hx42_4 hAc42 (by omega) (by omega) (by omega) (by omega) (by omega) (by omega) (by omega)
        ·
          refine hxj_iincU (by rfl) rfl (fun _ => rfl) (fun z6 => ?_)
          refine hxj_iinc (by rfl) rfl rfl hk_1 (by omega) (by omega) (fun _ => rfl) (fun z7 ez7 => ?_)
          refine hxa_goto (by rfl) ?_
          exact ih42 x42_3 x42_4 z6 z7 Ac42 hx42_3 hx42_4 hAc42 (by omega) (by omega) (by omega) (by omega) (by omega) (by omega) (by omega)
  refine hxa_aload_n (by rfl) rfl ?_
  refine hxa_iload_n (by rfl) rfl ?_
  refine hxa_call0 (by rfl) (by rfl) (by rfl) (by rfl) (by rfl) (by rfl) (hX76 (d := d + 5) hA a1) ?_
  rintro _ _ ⟨rfl, z8, rfl, fz8⟩
  rcases fz8 with fz8 | fz8
  ·
    refine hxj_zeq (by rfl) rfl (fun q9 => False.elim (by omega)) (fun q9 => ?_)
    refine hxa_aload_n (by rfl) rfl ?_
    refine hxa_iload_n (by rfl) rfl ?_
    refine hxa_call0 (by rfl) (by rfl) (by rfl) (by rfl) (by rfl) (by rfl) (hX76 (d := d + 5) hA a2) ?_
    rintro _ _ ⟨rfl, z10, rfl, fz10⟩
    rcases fz10 with fz10 | fz10
    ·
      refine hxj_zeq (by rfl) rfl (fun q11 => False.elim (by omega)) (fun q11 => ?_)
      refine hxa_iload_n (by rfl) rfl ?_
      refine hxa_iload_n (by rfl) rfl ?_
      refine hxj_cne (by rfl) rfl rfl (fun q12 => ?_) (fun q12 => ?_)
      ·
        refine hxa_aload_n (by rfl) rfl ?_
        refine hxa_iload_n (by rfl) rfl ?_
        refine hxa_call0 (by rfl) (by rfl) (by rfl) (by rfl) (by rfl) (by rfl) (hX89 (d := d + 0) hA a1 (by omega) (by omega)) ?_
        rintro _ A13 ⟨hA13, R14, rfl, hR14⟩
        refine hxa_astore_n (by rfl) rfl ?_
        refine hxa_aload_n (by rfl) rfl ?_
        refine hxa_iload_n (by rfl) rfl ?_
        refine hxa_call0 (by rfl) (by rfl) (by rfl) (by rfl) (by rfl) (by rfl) (hX89 (d := d + 0) hA13 a2 (by omega) (by omega)) ?_
        rintro _ A15 ⟨hA15, R16, rfl, hR16⟩
        refine hxa_astore (by rfl) rfl ?_
        refine hxa_iconst (by rfl) rfl ?_
        refine hxa_s1 (by rfl) (Or.inr ⟨_, rfl, rfl⟩) rfl ?_
        refine hxa_iconst (by rfl) rfl ?_
        refine hxa_s1 (by rfl) (Or.inr ⟨_, rfl, rfl⟩) rfl ?_
        exact L42 (Int.toNat (256 - 0) + 1) R14 R16 (Int32.ofNat 0) (Int32.ofNat 0) A15 hR14 hR16 hA15 (by omega) (by omega) (by omega) (by omega) (by omega) (by omega) (by omega)
      ·
        refine hxa_iconst (by rfl) rfl ?_
        exact hxa_ireturn (by rfl) rfl (hP _ _ ⟨hA, _, rfl⟩)
    ·
      refine hxj_zeq (by rfl) rfl (fun q17 => ?_) (fun q17 => False.elim (by omega))
      refine hxa_iconst (by rfl) rfl ?_
      exact hxa_ireturn (by rfl) rfl (hP _ _ ⟨hA, _, rfl⟩)
  ·
    refine hxj_zeq (by rfl) rfl (fun q18 => ?_) (fun q18 => False.elim (by omega))
    refine hxa_iconst (by rfl) rfl ?_
    exact hxa_ireturn (by rfl) rfl (hP _ _ ⟨hA, _, rfl⟩)
theorem hX100 {d : Nat} {Bn Br : Int} {A0 A : hs_A} (hA : hJ 0 Bn Br A0 A)  (a1 : Int32) (a2 : Int32) : hxC (d + 7) 100 hm_m100 [.ref 1, .int a1, .int a2] A (fun r A' => hJ 0 Bn Br A0 A' ∧ ∃ z : Int32, r = some (.int z)) := hxC.of (by rfl) (hY100 hA a1 a2 (fun r A' h => h))
theorem hY101 {d : Nat} {Bn Br : Int} {A0 A : hs_A} (hA : hJ 0 Bn Br A0 A)  (a1 : Int32) {P : Option Value → hs_A → Prop} (hP : ∀ (r : Option Value) (A' : hs_A), (hJ 0 Bn Br A0 A' ∧ ∃ z : Int32, r = some (.int z)) → P r A') : hxa (d + 6) (some (.int)) hm_t101 0 [.ref 1, .int a1, .retAddr 0, .retAddr 0] [] A P := by
  have k1 := hk_1
  have k4294967294 := hk_4294967294
  have k4294967295 := hk_4294967295
  have L18 : ∀ (m18 : Nat) (x18_2 : Nat) (x18_3 : Int32) (Ac18 : hs_A) (hx18_2 : hRR x18_2) (hAc18 : hJ 0 Bn Br A0 Ac18) (bx18_3 : 1 ≤ x18_3.toInt) (cx18_3 : x18_3.toInt ≤ 256) (ba1 : 0 ≤ a1.toInt) (ca1 : a1.toInt ≤ 9) (hm18 : 256 - x18_3.toInt < (m18 : Int)), hxa (d + 6) (some (.int)) hm_t101 18 [.ref 1, .int a1, .ref (x18_2 + 1), .int x18_3] [] Ac18 P := by
    intro m18
    induction m18 with
    | zero => intro x18_2 x18_3 Ac18 hx18_2 hAc18 bx18_3 cx18_3 ba1 ca1 hm18;  exact False.elim (by omega)
    | succ m18 ih18 =>
      intro x18_2 x18_3 Ac18 hx18_2 hAc18 bx18_3 cx18_3 ba1 ca1 hm18
      refine hxa_iload_n (by rfl) rfl ?_
      refine hxa_sipush (by rfl) rfl ?_
      refine hxj_cge (by rfl) rfl hk_256 (fun q1 => ?_) (fun q1 => ?_)
      ·
        refine hxa_bipush (by rfl) rfl ?_
        exact hxa_ireturn (by rfl) rfl (hP _ _ ⟨hAc18, _, rfl⟩)
      ·
        refine hxa_aload_n (by rfl) rfl ?_
        refine hxa_iload_n (by rfl) rfl ?_
        refine hxj_iald (by rfl) (hsR hx18_2) rfl (by omega) (by omega) (fun z2 ez2 => ?_)
        refine hxa_iload_n (by rfl) rfl ?_
        refine hxj_cne (by rfl) rfl rfl (fun q3 => ?_) (fun q3 => ?_)
        ·
          refine hxj_iinc (by rfl) rfl rfl hk_1 (by omega) (by omega) (fun _ => rfl) (fun z4 ez4 => ?_)
          refine hxa_goto (by rfl) ?_
          exact ih18 x18_2 z4 Ac18 hx18_2 hAc18 (by omega) (by omega) (by omega) (by omega) (by omega)
        ·
          refine hxa_iload_n (by rfl) rfl ?_
          exact hxa_ireturn (by rfl) rfl (hP _ _ ⟨hAc18, _, rfl⟩)
  refine hxa_aload_n (by rfl) rfl ?_
  refine hxa_iload_n (by rfl) rfl ?_
  refine hxa_call0 (by rfl) (by rfl) (by rfl) (by rfl) (by rfl) (by rfl) (hX76 (d := d + 5) hA a1) ?_
  rintro _ _ ⟨rfl, z5, rfl, fz5⟩
  rcases fz5 with fz5 | fz5
  ·
    refine hxj_zne (by rfl) rfl (fun q6 => ?_) (fun q6 => False.elim (by omega))
    refine hxa_aload_n (by rfl) rfl ?_
    refine hxa_iload_n (by rfl) rfl ?_
    refine hxa_call0 (by rfl) (by rfl) (by rfl) (by rfl) (by rfl) (by rfl) (hX89 (d := d + 0) hA a1 (by omega) (by omega)) ?_
    rintro _ A7 ⟨hA7, R8, rfl, hR8⟩
    refine hxa_astore_n (by rfl) rfl ?_
    refine hxa_iconst (by rfl) rfl ?_
    refine hxa_s1 (by rfl) (Or.inl ⟨_, rfl, rfl⟩) rfl ?_
    exact L18 (Int.toNat (256 - 1) + 1) R8 (Int32.ofNat 1) A7 hR8 hA7 (by omega) (by omega) (by omega) (by omega) (by omega)
  ·
    refine hxj_zne (by rfl) rfl (fun q9 => False.elim (by omega)) (fun q9 => ?_)
    refine hxa_iconst (by rfl) rfl ?_
    exact hxa_ireturn (by rfl) rfl (hP _ _ ⟨hA, _, rfl⟩)
theorem hX101 {d : Nat} {Bn Br : Int} {A0 A : hs_A} (hA : hJ 0 Bn Br A0 A)  (a1 : Int32) : hxC (d + 7) 101 hm_m101 [.ref 1, .int a1] A (fun r A' => hJ 0 Bn Br A0 A' ∧ ∃ z : Int32, r = some (.int z)) := hxC.of (by rfl) (hY101 hA a1 (fun r A' h => h))
theorem hY104 {d : Nat} {Bn Br : Int} {A0 A : hs_A} (hA : hJ 0 Bn Br A0 A)  (a1 : Int32) (a2 : Int32) {P : Option Value → hs_A → Prop} (hP : ∀ (r : Option Value) (A' : hs_A), (hJ 0 Bn Br A0 A' ∧ ∃ z : Int32, r = some (.int z) ∧ ((0 ≤ z.toInt ∧ z.toInt ≤ 1))) → P r A') : hxa (d + 0) (some (.boolean)) hm_t104 0 [.ref 1, .int a1, .int a2, .retAddr 0, .retAddr 0, .retAddr 0, .retAddr 0, .retAddr 0] [] A P := by
  have k0 := hk_0
  have k1 := hk_1
  have k23 := hk_23
  have L2 : ∀ (m2 : Nat) (x2_3 : Int32) (x2_4 : Value) (x2_5 : Value) (x2_6 : Value) (x2_7 : Value) (hx2_4 : hc_two (some x2_4) = false) (hx2_5 : hc_two (some x2_5) = false) (hx2_6 : hc_two (some x2_6) = false) (bx2_3 : 0 ≤ x2_3.toInt) (cx2_3 : x2_3.toInt ≤ 24) (hm2 : 24 - x2_3.toInt < (m2 : Int)), hxa (d + 0) (some (.boolean)) hm_t104 2 [.ref 1, .int a1, .int a2, .int x2_3, x2_4, x2_5, x2_6, x2_7] [] A P := by
    intro m2
    induction m2 with
    | zero => intro x2_3 x2_4 x2_5 x2_6 x2_7 hx2_4 hx2_5 hx2_6 bx2_3 cx2_3 hm2;  exact False.elim (by omega)
    | succ m2 ih2 =>
      intro x2_3 x2_4 x2_5 x2_6 x2_7 hx2_4 hx2_5 hx2_6 bx2_3 cx2_3 hm2
      have L35 : ∀ (m35 : Nat) (x35_4 : Int32) (x35_5 : Int32) (x35_6 : Value) (x35_7 : Value) (hx35_6 : hc_two (some x35_6) = false) (bx35_4 : 0 ≤ x35_4.toInt) (cx35_4 : x35_4.toInt ≤ 23) (bx35_5 : 0 ≤ x35_5.toInt) (cx35_5 : x35_5.toInt ≤ 24) (cx2_3 : x2_3.toInt ≤ 23) (hm35 : 24 - x35_5.toInt < (m35 : Int)), hxa (d + 0) (some (.boolean)) hm_t104 35 [.ref 1, .int a1, .int a2, .int x2_3, .int x35_4, .int x35_5, x35_6, x35_7] [] A P := by
        intro m35
        induction m35 with
        | zero => intro x35_4 x35_5 x35_6 x35_7 hx35_6 bx35_4 cx35_4 bx35_5 cx35_5 cx2_3 hm35;  exact False.elim (by omega)
        | succ m35 ih35 =>
          intro x35_4 x35_5 x35_6 x35_7 hx35_6 bx35_4 cx35_4 bx35_5 cx35_5 cx2_3 hm35
          have L72 : ∀ (m72 : Nat) (x72_6 : Int32) (x72_7 : Int32) (bx72_6 : 0 ≤ x72_6.toInt) (cx72_6 : x72_6.toInt ≤ 23) (bx72_7 : 0 ≤ x72_7.toInt) (cx72_7 : x72_7.toInt ≤ 24) (cx35_5 : x35_5.toInt ≤ 23) (hm72 : 24 - x72_7.toInt < (m72 : Int)), hxa (d + 0) (some (.boolean)) hm_t104 72 [.ref 1, .int a1, .int a2, .int x2_3, .int x35_4, .int x35_5, .int x72_6, .int x72_7] [] A P := by
            intro m72
            induction m72 with
            | zero => intro x72_6 x72_7 bx72_6 cx72_6 bx72_7 cx72_7 cx35_5 hm72;  exact False.elim (by omega)
            | succ m72 ih72 =>
              intro x72_6 x72_7 bx72_6 cx72_6 bx72_7 cx72_7 cx35_5 hm72
              refine hxa_iload (by rfl) rfl ?_
              refine hxa_iload (by rfl) rfl ?_
              refine hxj_cgt (by rfl) rfl rfl (fun q1 => ?_) (fun q1 => ?_)
              ·
                refine hxj_iinc (by rfl) rfl rfl hk_1 (by omega) (by omega) (fun _ => rfl) (fun z2 ez2 => ?_)
                refine hxa_goto (by rfl) ?_
                exact ih35 x35_4 z2 (.int x72_6) (.int x72_7) rfl (by omega) (by omega) (by omega) (by omega) (by omega) (by omega)
              ·
                refine hxa_aload_n (by rfl) rfl ?_
                refine hxa_get (v := .ref 345) (by rfl) (by rfl) (by rfl) rfl ?_
                refine hxa_iload_n (by rfl) rfl ?_
                refine hxj_iald (by rfl) (by rfl) rfl (by omega) (by omega) (fun z3 ez3 => ?_)
                refine hxa_aload_n (by rfl) rfl ?_
                refine hxa_get (v := .ref 345) (by rfl) (by rfl) (by rfl) rfl ?_
                refine hxa_iload (by rfl) rfl ?_
                refine hxj_iald (by rfl) (by rfl) rfl (by omega) (by omega) (fun z4 ez4 => ?_)
                refine hxj_iorU (by rfl) (fun z5 => ?_)
                refine hxa_aload_n (by rfl) rfl ?_
                refine hxa_get (v := .ref 345) (by rfl) (by rfl) (by rfl) rfl ?_
                refine hxa_iload (by rfl) rfl ?_
                refine hxj_iald (by rfl) (by rfl) rfl (by omega) (by omega) (fun z6 ez6 => ?_)
                refine hxj_iorU (by rfl) (fun z7 => ?_)
                refine hxa_iload_n (by rfl) rfl ?_
                refine hxj_cne (by rfl) rfl rfl (fun q8 => ?_) (fun q8 => ?_)
                ·
                  refine hxj_iinc (by rfl) rfl rfl hk_1 (by omega) (by omega) (fun _ => rfl) (fun z9 ez9 => ?_)
                  refine hxa_goto (by rfl) ?_
                  exact ih72 x72_6 z9 (by omega) (by omega) (by omega) (by omega) (by omega) (by omega)
                ·
                  refine hxa_aload_n (by rfl) rfl ?_
                  refine hxa_get (v := .ref 346) (by rfl) (by rfl) (by rfl) rfl ?_
                  refine hxa_iconst (by rfl) rfl ?_
                  refine hxa_iload_n (by rfl) rfl ?_
                  refine hxj_iast (by rfl) (by rfl) hk_0 (by omega) (by omega) hA (hbokN (by rfl)) (by rfl) (by rfl) (fun A10 hA10 eA10 fA10 gA10 => ?_)
                  refine hxa_aload_n (by rfl) rfl ?_
                  refine hxa_get (v := .ref 346) (by rfl) (by rfl) (by rfl) rfl ?_
                  refine hxa_iconst (by rfl) rfl ?_
                  refine hxa_iload (by rfl) rfl ?_
                  refine hxj_iast (by rfl) (by rfl) hk_1 (by omega) (by omega) hA10 (hbokN (by rfl)) (by rfl) (by rfl) (fun A11 hA11 eA11 fA11 gA11 => ?_)
                  refine hxa_aload_n (by rfl) rfl ?_
                  refine hxa_get (v := .ref 346) (by rfl) (by rfl) (by rfl) rfl ?_
                  refine hxa_iconst (by rfl) rfl ?_
                  refine hxa_iload (by rfl) rfl ?_
                  refine hxj_iast (by rfl) (by rfl) hk_2 (by omega) (by omega) hA11 (hbokN (by rfl)) (by rfl) (by rfl) (fun A12 hA12 eA12 fA12 gA12 => ?_)
                  refine hxa_iconst (by rfl) rfl ?_
                  exact hxa_ireturn (by rfl) (by rfl) (hP _ _ ⟨hA12, _, rfl, by omega⟩)
          refine hxa_iload (by rfl) rfl ?_
          refine hxa_iload (by rfl) rfl ?_
          refine hxj_cgt (by rfl) rfl rfl (fun q13 => ?_) (fun q13 => ?_)
          ·
            refine hxj_iinc (by rfl) rfl rfl hk_1 (by omega) (by omega) (fun _ => rfl) (fun z14 ez14 => ?_)
            refine hxa_goto (by rfl) ?_
            exact ih2 z14 (.int x35_4) (.int x35_5) (x35_6) (x35_7) rfl rfl hx35_6 (by omega) (by omega) (by omega)
          ·
            refine hxa_iload_n (by rfl) rfl ?_
            refine hxa_iconst (by rfl) rfl ?_
            refine hxj_cge (by rfl) rfl hk_3 (fun q15 => ?_) (fun q15 => ?_)
            ·
              refine hxa_bipush (by rfl) rfl ?_
              refine hxa_s1 (by rfl) (Or.inr ⟨_, rfl, rfl⟩) rfl ?_
              refine hxa_iload_n (by rfl) rfl ?_
              refine hxa_iconst (by rfl) rfl ?_
              refine hxj_cge (by rfl) rfl hk_3 (fun q16 => ?_) (fun q16 => False.elim (by omega))
              refine hxa_iload (by rfl) rfl ?_
              refine hxa_iconst (by rfl) rfl ?_
              refine hxj_iadd (by rfl) rfl hk_1 (by omega) (by omega) (fun z17 ez17 => ?_)
              refine hxa_s1 (by rfl) (Or.inr ⟨_, rfl, rfl⟩) rfl ?_
              exact L72 (Int.toNat (24 - z17.toInt) + 1) (Int32.ofNat 23) z17 (by omega) (by omega) (by omega) (by omega) (by omega) (by omega)
            ·
              refine hxa_iload (by rfl) rfl ?_
              refine hxa_goto (by rfl) ?_
              refine hxa_s1 (by rfl) (Or.inr ⟨_, rfl, rfl⟩) rfl ?_
              refine hxa_iload_n (by rfl) rfl ?_
              refine hxa_iconst (by rfl) rfl ?_
              refine hxj_cge (by rfl) rfl hk_3 (fun q18 => False.elim (by omega)) (fun q18 => ?_)
              refine hxa_iload (by rfl) rfl ?_
              refine hxa_goto (by rfl) ?_
              refine hxa_s1 (by rfl) (Or.inr ⟨_, rfl, rfl⟩) rfl ?_
              exact L72 (Int.toNat (24 - x35_5.toInt) + 1) x35_5 x35_5 (by omega) (by omega) (by omega) (by omega) (by omega) (by omega)
      refine hxa_iload_n (by rfl) rfl ?_
      refine hxa_bipush (by rfl) rfl ?_
      refine hxj_cge (by rfl) rfl hk_24 (fun q19 => ?_) (fun q19 => ?_)
      ·
        refine hxa_iconst (by rfl) rfl ?_
        exact hxa_ireturn (by rfl) (by rfl) (hP _ _ ⟨hA, _, rfl, by omega⟩)
      ·
        refine hxa_iload_n (by rfl) rfl ?_
        refine hxa_iconst (by rfl) rfl ?_
        refine hxj_cge (by rfl) rfl hk_2 (fun q20 => ?_) (fun q20 => ?_)
        ·
          refine hxa_bipush (by rfl) rfl ?_
          refine hxa_s1 (by rfl) (Or.inr ⟨_, rfl, rfl⟩) rfl ?_
          refine hxa_iload_n (by rfl) rfl ?_
          refine hxa_iconst (by rfl) rfl ?_
          refine hxj_cge (by rfl) rfl hk_2 (fun q21 => ?_) (fun q21 => False.elim (by omega))
          refine hxa_iload_n (by rfl) rfl ?_
          refine hxa_iconst (by rfl) rfl ?_
          refine hxj_iadd (by rfl) rfl hk_1 (by omega) (by omega) (fun z22 ez22 => ?_)
          refine hxa_s1 (by rfl) (Or.inr ⟨_, rfl, rfl⟩) rfl ?_
          exact L35 (Int.toNat (24 - z22.toInt) + 1) (Int32.ofNat 23) z22 (x2_6) (x2_7) hx2_6 (by omega) (by omega) (by omega) (by omega) (by omega) (by omega)
        ·
          refine hxa_iload_n (by rfl) rfl ?_
          refine hxa_goto (by rfl) ?_
          refine hxa_s1 (by rfl) (Or.inr ⟨_, rfl, rfl⟩) rfl ?_
          refine hxa_iload_n (by rfl) rfl ?_
          refine hxa_iconst (by rfl) rfl ?_
          refine hxj_cge (by rfl) rfl hk_2 (fun q23 => False.elim (by omega)) (fun q23 => ?_)
          refine hxa_iload_n (by rfl) rfl ?_
          refine hxa_goto (by rfl) ?_
          refine hxa_s1 (by rfl) (Or.inr ⟨_, rfl, rfl⟩) rfl ?_
          exact L35 (Int.toNat (24 - x2_3.toInt) + 1) x2_3 x2_3 (x2_6) (x2_7) hx2_6 (by omega) (by omega) (by omega) (by omega) (by omega) (by omega)
  refine hxa_iconst (by rfl) rfl ?_
  refine hxa_s1 (by rfl) (Or.inl ⟨_, rfl, rfl⟩) rfl ?_
  exact L2 (Int.toNat (24 - 0) + 1) (Int32.ofNat 0) (.retAddr 0) (.retAddr 0) (.retAddr 0) (.retAddr 0) rfl rfl rfl (by omega) (by omega) (by omega)
theorem hX104 {d : Nat} {Bn Br : Int} {A0 A : hs_A} (hA : hJ 0 Bn Br A0 A)  (a1 : Int32) (a2 : Int32) : hxC (d + 1) 104 hm_m104 [.ref 1, .int a1, .int a2] A (fun r A' => hJ 0 Bn Br A0 A' ∧ ∃ z : Int32, r = some (.int z) ∧ ((0 ≤ z.toInt ∧ z.toInt ≤ 1))) := hxC.of (by rfl) (hY104 hA a1 a2 (fun r A' h => h))
theorem hY103 {d : Nat} {Bn Br : Int} {A0 A : hs_A} (hA : hJ 0 Bn Br A0 A)  (a1 : Int32) (p1 : 0 ≤ a1.toInt) (q1 : a1.toInt ≤ 9) {P : Option Value → hs_A → Prop} (hP : ∀ (r : Option Value) (A' : hs_A), (hJ 0 Bn Br A0 A' ∧ ∃ z : Int32, r = some (.int z)) → P r A') : hxa (d + 4) (some (.int)) hm_t103 0 [.ref 1, .int a1, .retAddr 0, .retAddr 0] [] A P := by
  have k0 := hk_0
  have k1 := hk_1
  have k4294967294 := hk_4294967294
  have L45 : ∀ (m45 : Nat) (x45_2 : Int32) (x45_3 : Int32) (Ac45 : hs_A) (hAc45 : hJ 0 Bn Br A0 Ac45) (bx45_3 : 1 ≤ x45_3.toInt) (cx45_3 : x45_3.toInt ≤ 4) (hm45 : 4 - x45_3.toInt < (m45 : Int)), hxa (d + 4) (some (.int)) hm_t103 45 [.ref 1, .int a1, .int x45_2, .int x45_3] [] Ac45 P := by
    intro m45
    induction m45 with
    | zero => intro x45_2 x45_3 Ac45 hAc45 bx45_3 cx45_3 hm45; have := hn_rng x45_2; exact False.elim (by omega)
    | succ m45 ih45 =>
      intro x45_2 x45_3 Ac45 hAc45 bx45_3 cx45_3 hm45
      refine hxa_iload_n (by rfl) rfl ?_
      refine hxa_iconst (by rfl) rfl ?_
      refine hxj_cgt (by rfl) rfl hk_3 (fun q1 => ?_) (fun q1 => ?_)
      ·
        refine hxa_bipush (by rfl) rfl ?_
        exact hxa_ireturn (by rfl) rfl (hP _ _ ⟨hAc45, _, rfl⟩)
      ·
        refine hxa_aload_n (by rfl) rfl ?_
        refine hxa_iload_n (by rfl) rfl ?_
        refine hxa_iload_n (by rfl) rfl ?_
        refine hxa_call0 (by rfl) (by rfl) (by rfl) (by rfl) (by rfl) (by rfl) (hX104 (d := d + 3) hAc45 x45_3 x45_2) ?_
        rintro _ A2 ⟨hA2, z3, rfl, fz3⟩
        refine hxj_zeq (by rfl) rfl (fun q4 => ?_) (fun q4 => ?_)
        ·
          refine hxj_iinc (by rfl) rfl rfl hk_1 (by omega) (by omega) (fun _ => rfl) (fun z5 ez5 => ?_)
          refine hxa_goto (by rfl) ?_
          exact ih45 x45_2 z5 A2 hA2 (by omega) (by omega) (by omega)
        ·
          refine hxa_iload_n (by rfl) rfl ?_
          exact hxa_ireturn (by rfl) rfl (hP _ _ ⟨hA2, _, rfl⟩)
  have L17 : ∀ (m17 : Nat) (x17_2 : Int32) (x17_3 : Int32) (Ac17 : hs_A) (hAc17 : hJ 0 Bn Br A0 Ac17) (bx17_3 : 0 ≤ x17_3.toInt) (cx17_3 : x17_3.toInt ≤ 24) (hm17 : 24 - x17_3.toInt < (m17 : Int)), hxa (d + 4) (some (.int)) hm_t103 17 [.ref 1, .int a1, .int x17_2, .int x17_3] [] Ac17 P := by
    intro m17
    induction m17 with
    | zero => intro x17_2 x17_3 Ac17 hAc17 bx17_3 cx17_3 hm17; have := hn_rng x17_2; exact False.elim (by omega)
    | succ m17 ih17 =>
      intro x17_2 x17_3 Ac17 hAc17 bx17_3 cx17_3 hm17
      refine hxa_iload_n (by rfl) rfl ?_
      refine hxa_bipush (by rfl) rfl ?_
      refine hxj_cge (by rfl) rfl hk_24 (fun q6 => ?_) (fun q6 => ?_)
      ·
        refine hxa_iconst (by rfl) rfl ?_
        refine hxa_s1 (by rfl) (Or.inl ⟨_, rfl, rfl⟩) rfl ?_
        exact L45 (Int.toNat (4 - 1) + 1) x17_2 (Int32.ofNat 1) Ac17 hAc17 (by omega) (by omega) (by omega)
      ·
        refine hxa_aload_n (by rfl) rfl ?_
        refine hxa_get (v := .ref 345) (by rfl) (by rfl) (by rfl) rfl ?_
        refine hxa_iload_n (by rfl) rfl ?_
        refine hxa_aload_n (by rfl) rfl ?_
        refine hxa_iload_n (by rfl) rfl ?_
        refine hxa_iload_n (by rfl) rfl ?_
        refine hxa_call0 (by rfl) (by rfl) (by rfl) (by rfl) (by rfl) (by rfl) (hX90 (d := d + 0) hAc17 a1 (by omega) (by omega) x17_3) ?_
        rintro _ A7 ⟨hA7, z8, rfl, fz8⟩
        refine hxa_iload_n (by rfl) rfl ?_
        refine hxj_iandL (by rfl) rfl (by omega) (fun z9 ez9 fz9 => ?_)
        refine hxj_iast (by rfl) (by rfl) rfl (by omega) (by omega) hA7 (hbokN (by rfl)) (by rfl) (by rfl) (fun A10 hA10 eA10 fA10 gA10 => ?_)
        refine hxj_iinc (by rfl) rfl rfl hk_1 (by omega) (by omega) (fun _ => rfl) (fun z11 ez11 => ?_)
        refine hxa_goto (by rfl) ?_
        exact ih17 x17_2 z11 A10 hA10 (by omega) (by omega) (by omega)
  refine hxa_aload_n (by rfl) rfl ?_
  refine hxa_get (v := .ref 27) (by rfl) (by rfl) (by rfl) rfl ?_
  refine hxa_iload_n (by rfl) rfl ?_
  refine hxa_call0 (by rfl) (by rfl) (by rfl) (by rfl) (by rfl) (by rfl) (hX21 (d := d + 3) hA hL26 a1 (by omega) (by omega)) ?_
  rintro _ _ ⟨rfl, z12, rfl⟩
  refine hxa_s1 (by rfl) (Or.inl ⟨_, rfl, rfl⟩) rfl ?_
  refine hxa_iload_n (by rfl) rfl ?_
  refine hxj_zne (by rfl) rfl (fun q13 => ?_) (fun q13 => ?_)
  ·
    refine hxa_iconst (by rfl) rfl ?_
    refine hxa_s1 (by rfl) (Or.inl ⟨_, rfl, rfl⟩) rfl ?_
    exact L17 (Int.toNat (24 - 0) + 1) z12 (Int32.ofNat 0) A hA (by omega) (by omega) (by omega)
  ·
    refine hxa_iconst (by rfl) rfl ?_
    exact hxa_ireturn (by rfl) rfl (hP _ _ ⟨hA, _, rfl⟩)
theorem hX103 {d : Nat} {Bn Br : Int} {A0 A : hs_A} (hA : hJ 0 Bn Br A0 A)  (a1 : Int32) (p1 : 0 ≤ a1.toInt) (q1 : a1.toInt ≤ 9) : hxC (d + 5) 103 hm_m103 [.ref 1, .int a1] A (fun r A' => hJ 0 Bn Br A0 A' ∧ ∃ z : Int32, r = some (.int z)) := hxC.of (by rfl) (hY103 hA a1 p1 q1 (fun r A' h => h))
theorem hY102 {d : Nat} {Bn Br : Int} {A0 A : hs_A} (hA : hJ 0 Bn Br A0 A)  (a1 : Int32) (a2 : Int32) {P : Option Value → hs_A → Prop} (hP : ∀ (r : Option Value) (A' : hs_A), (hJ 0 Bn Br A0 A' ∧ ∃ z : Int32, r = some (.int z)) → P r A') : hxa (d + 5) (some (.int)) hm_t102 0 [.ref 1, .int a1, .int a2, .retAddr 0] [] A P := by
  have k2 := hk_2
  have k4294967295 := hk_4294967295
  refine hxa_aload_n (by rfl) rfl ?_
  refine hxa_iload_n (by rfl) rfl ?_
  refine hxa_call0 (by rfl) (by rfl) (by rfl) (by rfl) (by rfl) (by rfl) (hX76 (d := d + 4) hA a1) ?_
  rintro _ _ ⟨rfl, z1, rfl, fz1⟩
  rcases fz1 with fz1 | fz1
  ·
    refine hxj_zeq (by rfl) rfl (fun q2 => False.elim (by omega)) (fun q2 => ?_)
    refine hxa_iload_n (by rfl) rfl ?_
    refine hxa_iconst (by rfl) rfl ?_
    refine hxa_iconst (by rfl) rfl ?_
    refine hxa_call2 (by rfl) (by decide) (by rfl) (by rfl) (by rfl) (hX78 (d := d + 4)  a2 (Int32.ofNat 4294967295) (Int32.ofNat 2)) ?_
    rintro _ _ ⟨rfl, z3, rfl, fz3⟩
    rcases fz3 with fz3 | fz3
    ·
      refine hxj_zne (by rfl) rfl (fun q4 => ?_) (fun q4 => False.elim (by omega))
      refine hxa_aload_n (by rfl) rfl ?_
      refine hxa_iload_n (by rfl) rfl ?_
      refine hxa_call0 (by rfl) (by rfl) (by rfl) (by rfl) (by rfl) (by rfl) (hX103 (d := d + 0) hA a1 (by omega) (by omega)) ?_
      rintro _ A5 ⟨hA5, z6, rfl⟩
      refine hxa_s1 (by rfl) (Or.inl ⟨_, rfl, rfl⟩) rfl ?_
      refine hxa_iload_n (by rfl) rfl ?_
      refine hxa_bipush (by rfl) rfl ?_
      refine hxj_ceq (by rfl) rfl hk_4294967294 (fun q7 => ?_) (fun q7 => ?_)
      ·
        refine hxa_iload_n (by rfl) rfl ?_
        exact hxa_ireturn (by rfl) rfl (hP _ _ ⟨hA5, _, rfl⟩)
      ·
        refine hxa_iload_n (by rfl) rfl ?_
        refine hxa_iconst (by rfl) rfl ?_
        refine hxj_cne (by rfl) rfl hk_4294967295 (fun q8 => ?_) (fun q8 => ?_)
        ·
          refine hxa_iload_n (by rfl) rfl ?_
          refine hxa_iload_n (by rfl) rfl ?_
          have rgz6 := hn_rng z6
          refine hxj_cge (by rfl) rfl rfl (fun q9 => ?_) (fun q9 => ?_)
          ·
            refine hxa_iconst (by rfl) rfl ?_
            exact hxa_ireturn (by rfl) rfl (hP _ _ ⟨hA5, _, rfl⟩)
          ·
            refine hxa_aload_n (by rfl) rfl ?_
            refine hxa_get (v := .ref 346) (by rfl) (by rfl) (by rfl) rfl ?_
            refine hxa_iload_n (by rfl) rfl ?_
            refine hxj_iald (by rfl) (by rfl) rfl (by omega) (by omega) (fun z10 ez10 => ?_)
            refine hxa_goto (by rfl) ?_
            exact hxa_ireturn (by rfl) rfl (hP _ _ ⟨hA5, _, rfl⟩)
        ·
          refine hxa_iload_n (by rfl) rfl ?_
          exact hxa_ireturn (by rfl) rfl (hP _ _ ⟨hA5, _, rfl⟩)
    ·
      refine hxj_zne (by rfl) rfl (fun q11 => False.elim (by omega)) (fun q11 => ?_)
      refine hxa_iconst (by rfl) rfl ?_
      exact hxa_ireturn (by rfl) rfl (hP _ _ ⟨hA, _, rfl⟩)
  ·
    refine hxj_zeq (by rfl) rfl (fun q12 => ?_) (fun q12 => False.elim (by omega))
    refine hxa_iconst (by rfl) rfl ?_
    exact hxa_ireturn (by rfl) rfl (hP _ _ ⟨hA, _, rfl⟩)
theorem hX102 {d : Nat} {Bn Br : Int} {A0 A : hs_A} (hA : hJ 0 Bn Br A0 A)  (a1 : Int32) (a2 : Int32) : hxC (d + 6) 102 hm_m102 [.ref 1, .int a1, .int a2] A (fun r A' => hJ 0 Bn Br A0 A' ∧ ∃ z : Int32, r = some (.int z)) := hxC.of (by rfl) (hY102 hA a1 a2 (fun r A' h => h))
theorem hY105 {d : Nat} {Bn Br : Int} {A0 A : hs_A} (hA : hJ 0 Bn Br A0 A)  (a1 : Int32) (a2 : Int32) {P : Option Value → hs_A → Prop} (hP : ∀ (r : Option Value) (A' : hs_A), (hJ 0 Bn Br A0 A' ∧ ∃ z : Int32, r = some (.int z)) → P r A') : hxa (d + 4) (some (.int)) hm_t105 0 [.ref 1, .int a1, .int a2, .retAddr 0, .retAddr 0, .retAddr 0, .retAddr 0] [] A P := by
  have k0 := hk_0
  have k1 := hk_1
  have k4294967295 := hk_4294967295
  have L27 : ∀ (m27 : Nat) (x27_3 : Int32) (x27_4 : Int32) (x27_5 : Int32) (x27_6 : Value) (Ac27 : hs_A) (hAc27 : hJ 0 Bn Br A0 Ac27) (bx27_3 : 0 ≤ x27_3.toInt) (cx27_3 : x27_3.toInt ≤ 23) (bx27_4 : -1 ≤ x27_4.toInt) (cx27_4 : x27_4.toInt ≤ 8) (bx27_5 : 0 ≤ x27_5.toInt) (cx27_5 : x27_5.toInt ≤ 24) (ba1 : 0 ≤ a1.toInt) (ca1 : a1.toInt ≤ 9) (ba2 : 0 ≤ a2.toInt) (ca2 : a2.toInt ≤ 1) (hm27 : 24 - x27_5.toInt < (m27 : Int)), hxa (d + 4) (some (.int)) hm_t105 27 [.ref 1, .int a1, .int a2, .int x27_3, .int x27_4, .int x27_5, x27_6] [] Ac27 P := by
    intro m27
    induction m27 with
    | zero => intro x27_3 x27_4 x27_5 x27_6 Ac27 hAc27 bx27_3 cx27_3 bx27_4 cx27_4 bx27_5 cx27_5 ba1 ca1 ba2 ca2 hm27;  exact False.elim (by omega)
    | succ m27 ih27 =>
      intro x27_3 x27_4 x27_5 x27_6 Ac27 hAc27 bx27_3 cx27_3 bx27_4 cx27_4 bx27_5 cx27_5 ba1 ca1 ba2 ca2 hm27
      refine hxa_iload (by rfl) rfl ?_
      refine hxa_bipush (by rfl) rfl ?_
      refine hxj_cge (by rfl) rfl hk_24 (fun q1 => ?_) (fun q1 => ?_)
      ·
        refine hxa_iload_n (by rfl) rfl ?_
        refine hxj_zne (by rfl) rfl (fun q2 => ?_) (fun q2 => ?_)
        ·
          refine hxa_iload (by rfl) rfl ?_
          exact hxa_ireturn (by rfl) rfl (hP _ _ ⟨hAc27, _, rfl⟩)
        ·
          refine hxa_iload_n (by rfl) rfl ?_
          refine hxa_goto (by rfl) ?_
          exact hxa_ireturn (by rfl) rfl (hP _ _ ⟨hAc27, _, rfl⟩)
      ·
        refine hxa_aload_n (by rfl) rfl ?_
        refine hxa_iload_n (by rfl) rfl ?_
        refine hxa_iload (by rfl) rfl ?_
        refine hxa_call0 (by rfl) (by rfl) (by rfl) (by rfl) (by rfl) (by rfl) (hX90 (d := d + 0) hAc27 a1 (by omega) (by omega) x27_5) ?_
        rintro _ A3 ⟨hA3, z4, rfl, fz4⟩
        refine hxa_aload_n (by rfl) rfl ?_
        refine hxa_get (v := .ref 27) (by rfl) (by rfl) (by rfl) rfl ?_
        refine hxa_get (v := .ref 28) (by rfl) (by rfl) (by rfl) rfl ?_
        refine hxa_iload_n (by rfl) rfl ?_
        refine hxj_iald (by rfl) (by rfl) rfl (by omega) (by omega) (fun z5 ez5 => ?_)
        refine hxj_iandL (by rfl) rfl (by omega) (fun z6 ez6 fz6 => ?_)
        refine hxa_call2 (by rfl) (by decide) (by rfl) (by rfl) (by rfl) (hX242 (d := d + 3)  z6) ?_
        rintro _ _ ⟨rfl, z7, rfl, fz7⟩
        refine hxa_s1 (by rfl) (Or.inr ⟨_, rfl, rfl⟩) rfl ?_
        refine hxa_iload (by rfl) rfl ?_
        refine hxa_iload (by rfl) rfl ?_
        refine hxj_cle (by rfl) rfl rfl (fun q8 => ?_) (fun q8 => ?_)
        ·
          refine hxj_iinc (by rfl) rfl rfl hk_1 (by omega) (by omega) (fun _ => rfl) (fun z9 ez9 => ?_)
          refine hxa_goto (by rfl) ?_
          exact ih27 x27_3 x27_4 z9 (.int z7) A3 hA3 (by omega) (by omega) (by omega) (by omega) (by omega) (by omega) (by omega) (by omega) (by omega) (by omega) (by omega)
        ·
          refine hxa_iload (by rfl) rfl ?_
          refine hxa_s1 (by rfl) (Or.inr ⟨_, rfl, rfl⟩) rfl ?_
          refine hxa_iload (by rfl) rfl ?_
          refine hxa_s1 (by rfl) (Or.inl ⟨_, rfl, rfl⟩) rfl ?_
          refine hxj_iinc (by rfl) rfl rfl hk_1 (by omega) (by omega) (fun _ => rfl) (fun z10 ez10 => ?_)
          refine hxa_goto (by rfl) ?_
          exact ih27 x27_5 z7 z10 (.int z7) A3 hA3 (by omega) (by omega) (by omega) (by omega) (by omega) (by omega) (by omega) (by omega) (by omega) (by omega) (by omega)
  refine hxa_aload_n (by rfl) rfl ?_
  refine hxa_iload_n (by rfl) rfl ?_
  refine hxa_call0 (by rfl) (by rfl) (by rfl) (by rfl) (by rfl) (by rfl) (hX76 (d := d + 3) hA a1) ?_
  rintro _ _ ⟨rfl, z11, rfl, fz11⟩
  rcases fz11 with fz11 | fz11
  ·
    refine hxj_zeq (by rfl) rfl (fun q12 => False.elim (by omega)) (fun q12 => ?_)
    refine hxa_iload_n (by rfl) rfl ?_
    refine hxa_iconst (by rfl) rfl ?_
    refine hxa_iconst (by rfl) rfl ?_
    refine hxa_call2 (by rfl) (by decide) (by rfl) (by rfl) (by rfl) (hX78 (d := d + 3)  a2 (Int32.ofNat 0) (Int32.ofNat 1)) ?_
    rintro _ _ ⟨rfl, z13, rfl, fz13⟩
    rcases fz13 with fz13 | fz13
    ·
      refine hxj_zne (by rfl) rfl (fun q14 => ?_) (fun q14 => False.elim (by omega))
      refine hxa_iconst (by rfl) rfl ?_
      refine hxa_s1 (by rfl) (Or.inl ⟨_, rfl, rfl⟩) rfl ?_
      refine hxa_iconst (by rfl) rfl ?_
      refine hxa_s1 (by rfl) (Or.inr ⟨_, rfl, rfl⟩) rfl ?_
      refine hxa_iconst (by rfl) rfl ?_
      refine hxa_s1 (by rfl) (Or.inr ⟨_, rfl, rfl⟩) rfl ?_
      exact L27 (Int.toNat (24 - 0) + 1) (Int32.ofNat 0) (Int32.ofNat 4294967295) (Int32.ofNat 0) (.retAddr 0) A hA (by omega) (by omega) (by omega) (by omega) (by omega) (by omega) (by omega) (by omega) (by omega) (by omega) (by omega)
    ·
      refine hxj_zne (by rfl) rfl (fun q15 => False.elim (by omega)) (fun q15 => ?_)
      refine hxa_iconst (by rfl) rfl ?_
      exact hxa_ireturn (by rfl) rfl (hP _ _ ⟨hA, _, rfl⟩)
  ·
    refine hxj_zeq (by rfl) rfl (fun q16 => ?_) (fun q16 => False.elim (by omega))
    refine hxa_iconst (by rfl) rfl ?_
    exact hxa_ireturn (by rfl) rfl (hP _ _ ⟨hA, _, rfl⟩)
theorem hX105 {d : Nat} {Bn Br : Int} {A0 A : hs_A} (hA : hJ 0 Bn Br A0 A)  (a1 : Int32) (a2 : Int32) : hxC (d + 5) 105 hm_m105 [.ref 1, .int a1, .int a2] A (fun r A' => hJ 0 Bn Br A0 A' ∧ ∃ z : Int32, r = some (.int z)) := hxC.of (by rfl) (hY105 hA a1 a2 (fun r A' h => h))
theorem hY106 {d : Nat} {Bn Br : Int} {A0 A : hs_A} (hA : hJ 0 Bn Br A0 A)  (a1 : Int32) {P : Option Value → hs_A → Prop} (hP : ∀ (r : Option Value) (A' : hs_A), (A = A' ∧ ∃ z : Int32, r = some (.int z)) → P r A') : hxa (d + 3) (some (.int)) hm_t106 0 [.ref 1, .int a1] [] A P := by
  have k4294967295 := hk_4294967295
  refine hxa_aload_n (by rfl) rfl ?_
  refine hxa_iload_n (by rfl) rfl ?_
  refine hxa_call0 (by rfl) (by rfl) (by rfl) (by rfl) (by rfl) (by rfl) (hX76 (d := d + 2) hA a1) ?_
  rintro _ _ ⟨rfl, z1, rfl, fz1⟩
  rcases fz1 with fz1 | fz1
  ·
    refine hxj_zeq (by rfl) rfl (fun q2 => False.elim (by omega)) (fun q2 => ?_)
    refine hxa_aload_n (by rfl) rfl ?_
    refine hxa_get (v := .ref 27) (by rfl) (by rfl) (by rfl) rfl ?_
    refine hxa_iload_n (by rfl) rfl ?_
    refine hxa_call0 (by rfl) (by rfl) (by rfl) (by rfl) (by rfl) (by rfl) (hX20 (d := d + 0) hA hL26 a1) ?_
    rintro _ _ ⟨rfl, z3, rfl⟩
    refine hxa_goto (by rfl) ?_
    exact hxa_ireturn (by rfl) rfl (hP _ _ ⟨rfl, _, rfl⟩)
  ·
    refine hxj_zeq (by rfl) rfl (fun q4 => ?_) (fun q4 => False.elim (by omega))
    refine hxa_iconst (by rfl) rfl ?_
    exact hxa_ireturn (by rfl) rfl (hP _ _ ⟨rfl, _, rfl⟩)
theorem hX106 {d : Nat} {Bn Br : Int} {A0 A : hs_A} (hA : hJ 0 Bn Br A0 A)  (a1 : Int32) : hxC (d + 4) 106 hm_m106 [.ref 1, .int a1] A (fun r A' => A = A' ∧ ∃ z : Int32, r = some (.int z)) := hxC.of (by rfl) (hY106 hA a1 (fun r A' h => h))
theorem hY107 {d : Nat} {Bn Br : Int} {A0 A : hs_A} (hA : hJ 0 Bn Br A0 A)  (a1 : Int32) (a2 : Int32) (p2 : 0 ≤ a2.toInt) (q2 : a2.toInt ≤ 1) (a3 : Int32) {P : Option Value → hs_A → Prop} (hP : ∀ (r : Option Value) (A' : hs_A), (hJ 0 Bn Br A0 A' ∧ r = none) → P r A') : hxa (d + 4) none hm_t107 0 [.ref 1, .int a1, .int a2, .int a3, .retAddr 0] [] A P := by
  have k0 := hk_0
  obtain ⟨T0, hT0, -, eT0⟩ := hA.T
  have L14 : ∀ (m14 : Nat) (x14_4 : Int32) (Ac14 : hs_A) (hAc14 : hJ 0 Bn Br A0 Ac14) (bx14_4 : 0 ≤ x14_4.toInt) (hm14 : 2147483647 - x14_4.toInt < (m14 : Int)), hxa (d + 4) none hm_t107 14 [.ref 1, .int a1, .int a2, .int a3, .int x14_4] [] Ac14 P := by
    intro m14
    induction m14 with
    | zero => intro x14_4 Ac14 hAc14 bx14_4 hm14; have := hn_rng x14_4; exact False.elim (by omega)
    | succ m14 ih14 =>
      intro x14_4 Ac14 hAc14 bx14_4 hm14
      refine hxa_iload (by rfl) rfl ?_
      refine hxa_iload_n (by rfl) rfl ?_
      have rgx14_4 := hn_rng x14_4
      have rga1 := hn_rng a1
      refine hxj_cge (by rfl) rfl rfl (fun q1 => ?_) (fun q1 => ?_)
      ·
        exact hxa_return (by rfl) rfl (hP _ _ ⟨hAc14, rfl⟩)
      ·
        refine hxa_aload_n (by rfl) rfl ?_
        refine hxa_get (v := .ref 34) (by rfl) (by rfl) (by rfl) rfl ?_
        refine hxa_aload_n (by rfl) rfl ?_
        refine hxj_getT (by rfl) (by rfl) (by rfl) (hAc14.Tw eT0) ?_
        refine hxa_aload_n (by rfl) rfl ?_
        refine hxa_get (v := .ref 324) (by rfl) (by rfl) (by rfl) rfl ?_
        refine hxa_iload_n (by rfl) rfl ?_
        refine hxa_iload_n (by rfl) rfl ?_
        refine hxa_call0 (by rfl) (by rfl) (by rfl) (by rfl) (by rfl) (by rfl) (hX26 (d := d + 0) hAc14 hL33 hT0 eT0 a2 (by omega) (by omega) a3) ?_
        rintro _ A2 ⟨hA2, rfl⟩
        refine hxj_iinc (by rfl) rfl rfl hk_1 (by omega) (by omega) (fun _ => rfl) (fun z3 ez3 => ?_)
        refine hxa_goto (by rfl) ?_
        exact ih14 z3 A2 hA2 (by omega) (by omega)
  refine hxa_aload_n (by rfl) rfl ?_
  refine hxa_get (v := .ref 34) (by rfl) (by rfl) (by rfl) rfl ?_
  refine hxa_aload_n (by rfl) rfl ?_
  refine hxa_get (v := .ref 27) (by rfl) (by rfl) (by rfl) rfl ?_
  refine hxa_call0 (by rfl) (by rfl) (by rfl) (by rfl) (by rfl) (by rfl) (hX17 (d := d + 3) hA hL33 hL26) ?_
  rintro _ A4 ⟨hA4, rfl⟩
  refine hxa_iconst (by rfl) rfl ?_
  refine hxa_s1 (by rfl) (Or.inr ⟨_, rfl, rfl⟩) rfl ?_
  exact L14 (Int.toNat (2147483647 - 0) + 1) (Int32.ofNat 0) A4 hA4 (by omega) (by omega)
theorem hX107 {d : Nat} {Bn Br : Int} {A0 A : hs_A} (hA : hJ 0 Bn Br A0 A)  (a1 : Int32) (a2 : Int32) (p2 : 0 ≤ a2.toInt) (q2 : a2.toInt ≤ 1) (a3 : Int32) : hxC (d + 5) 107 hm_m107 [.ref 1, .int a1, .int a2, .int a3] A (fun r A' => hJ 0 Bn Br A0 A' ∧ r = none) := hxC.of (by rfl) (hY107 hA a1 a2 p2 q2 a3 (fun r A' h => h))
theorem hY109 {d : Nat} {Bn Br : Int} {A0 A : hs_A} (hA : hJ 0 Bn Br A0 A)  (a1 : Int32) {P : Option Value → hs_A → Prop} (hP : ∀ (r : Option Value) (A' : hs_A), (hJ 0 Bn Br A0 A' ∧ r = none) → P r A') : hxa (d + 4) none hm_t109 0 [.ref 1, .int a1, .retAddr 0, .retAddr 0] [] A P := by
  have k0 := hk_0
  obtain ⟨T0, hT0, -, eT0⟩ := hA.T
  have L21 : ∀ (m21 : Nat) (x21_2 : Int32) (x21_3 : Value) (Ac21 : hs_A) (hAc21 : hJ 0 Bn Br A0 Ac21) (bx21_2 : 0 ≤ x21_2.toInt) (hm21 : 2147483647 - x21_2.toInt < (m21 : Int)), hxa (d + 4) none hm_t109 21 [.ref 1, .int a1, .int x21_2, x21_3] [] Ac21 P := by
    intro m21
    induction m21 with
    | zero => intro x21_2 x21_3 Ac21 hAc21 bx21_2 hm21; have := hn_rng x21_2; exact False.elim (by omega)
    | succ m21 ih21 =>
      intro x21_2 x21_3 Ac21 hAc21 bx21_2 hm21
      have L45 : ∀ (m45 : Nat) (x45_3 : Int32) (Ac45 : hs_A) (hAc45 : hJ 0 Bn Br A0 Ac45) (bx45_3 : 0 ≤ x45_3.toInt) (cx45_3 : x45_3.toInt ≤ 10) (cx21_2 : x21_2.toInt ≤ 2147483646) (ba1 : 1 ≤ a1.toInt) (hm45 : 10 - x45_3.toInt < (m45 : Int)), hxa (d + 4) none hm_t109 45 [.ref 1, .int a1, .int x21_2, .int x45_3] [] Ac45 P := by
        intro m45
        induction m45 with
        | zero => intro x45_3 Ac45 hAc45 bx45_3 cx45_3 cx21_2 ba1 hm45;  exact False.elim (by omega)
        | succ m45 ih45 =>
          intro x45_3 Ac45 hAc45 bx45_3 cx45_3 cx21_2 ba1 hm45
          refine hxa_iload_n (by rfl) rfl ?_
          refine hxa_aload_n (by rfl) rfl ?_
          refine hxj_getT (by rfl) (by rfl) (by rfl) (hAc45.Tw eT0) ?_
          refine hxj_getB (by rfl) (hsT hT0) (by rfl) hAc45 (hbT_4 hT0) (fun z1 ez1 fz1 gz1 => ?_)
          refine hxj_cge (by rfl) rfl rfl (fun q2 => ?_) (fun q2 => ?_)
          ·
            refine hxj_iinc (by rfl) rfl rfl hk_1 (by omega) (by omega) (fun _ => rfl) (fun z3 ez3 => ?_)
            refine hxa_goto (by rfl) ?_
            exact ih21 z3 (.int x45_3) Ac45 hAc45 (by omega) (by omega)
          ·
            refine hxa_aload_n (by rfl) rfl ?_
            refine hxa_get (v := .ref 345) (by rfl) (by rfl) (by rfl) rfl ?_
            refine hxa_iload_n (by rfl) rfl ?_
            refine hxa_dup2IR (by rfl) ?_
            refine hxj_iald (by rfl) (by rfl) rfl (by omega) (by omega) (fun z4 ez4 => ?_)
            refine hxa_aload_n (by rfl) rfl ?_
            refine hxa_get (v := .ref 34) (by rfl) (by rfl) (by rfl) rfl ?_
            refine hxa_get (v := .ref 39) (by rfl) (by rfl) (by rfl) rfl ?_
            refine hxa_iload_n (by rfl) rfl ?_
            refine hxj_ialdB (by rfl) (by rfl) rfl (by omega) (by omega) hAc45 (by rfl) (fun z5 ez5 fz5 gz5 => ?_)
            refine hxa_call2 (by rfl) (by decide) (by rfl) (by rfl) (by rfl) (hX242 (d := d + 3)  z5) ?_
            rintro _ _ ⟨rfl, z6, rfl, fz6⟩
            refine hxj_iaddU (by rfl) (fun z7 => ?_)
            refine hxj_iast (by rfl) (by rfl) rfl (by omega) (by omega) hAc45 (hbokN (by rfl)) (by rfl) (by rfl) (fun A8 hA8 eA8 fA8 gA8 => ?_)
            refine hxj_iinc (by rfl) rfl rfl hk_1 (by omega) (by omega) (fun _ => rfl) (fun z9 ez9 => ?_)
            refine hxa_goto (by rfl) ?_
            exact ih45 z9 A8 hA8 (by omega) (by omega) (by omega) (by omega) (by omega)
      refine hxa_iload_n (by rfl) rfl ?_
      refine hxa_iload_n (by rfl) rfl ?_
      have rgx21_2 := hn_rng x21_2
      have rga1 := hn_rng a1
      refine hxj_cge (by rfl) rfl rfl (fun q10 => ?_) (fun q10 => ?_)
      ·
        exact hxa_return (by rfl) rfl (hP _ _ ⟨hAc21, rfl⟩)
      ·
        refine hxa_aload_n (by rfl) rfl ?_
        refine hxa_get (v := .ref 34) (by rfl) (by rfl) (by rfl) rfl ?_
        refine hxa_aload_n (by rfl) rfl ?_
        refine hxj_getT (by rfl) (by rfl) (by rfl) (hAc21.Tw eT0) ?_
        refine hxa_aload_n (by rfl) rfl ?_
        refine hxa_get (v := .ref 324) (by rfl) (by rfl) (by rfl) rfl ?_
        refine hxa_iconst (by rfl) rfl ?_
        refine hxa_iconst (by rfl) rfl ?_
        refine hxa_call0 (by rfl) (by rfl) (by rfl) (by rfl) (by rfl) (by rfl) (hX26 (d := d + 0) hAc21 hL33 hT0 eT0 (Int32.ofNat 0) (by omega) (by omega) (Int32.ofNat 0)) ?_
        rintro _ A11 ⟨hA11, rfl⟩
        refine hxa_iconst (by rfl) rfl ?_
        refine hxa_s1 (by rfl) (Or.inl ⟨_, rfl, rfl⟩) rfl ?_
        exact L45 (Int.toNat (10 - 0) + 1) (Int32.ofNat 0) A11 hA11 (by omega) (by omega) (by omega) (by omega) (by omega)
  refine hxa_aload_n (by rfl) rfl ?_
  refine hxa_get (v := .ref 345) (by rfl) (by rfl) (by rfl) rfl ?_
  refine hxa_iconst (by rfl) rfl ?_
  refine hxa_call2 (by rfl) (by decide) (by rfl) (by rfl) (by rfl) (hX246 (d := d + 3) hA (C := 344) (by rfl) (by omega) (hbokN (by rfl)) (by rfl) (by rfl)) ?_
  rintro _ A12 ⟨hA12, rfl⟩
  refine hxa_aload_n (by rfl) rfl ?_
  refine hxa_get (v := .ref 34) (by rfl) (by rfl) (by rfl) rfl ?_
  refine hxa_aload_n (by rfl) rfl ?_
  refine hxa_get (v := .ref 27) (by rfl) (by rfl) (by rfl) rfl ?_
  refine hxa_call0 (by rfl) (by rfl) (by rfl) (by rfl) (by rfl) (by rfl) (hX17 (d := d + 3) hA12 hL33 hL26) ?_
  rintro _ A13 ⟨hA13, rfl⟩
  refine hxa_iconst (by rfl) rfl ?_
  refine hxa_s1 (by rfl) (Or.inl ⟨_, rfl, rfl⟩) rfl ?_
  exact L21 (Int.toNat (2147483647 - 0) + 1) (Int32.ofNat 0) (.retAddr 0) A13 hA13 (by omega) (by omega)
theorem hX109 {d : Nat} {Bn Br : Int} {A0 A : hs_A} (hA : hJ 0 Bn Br A0 A)  (a1 : Int32) : hxC (d + 5) 109 hm_m109 [.ref 1, .int a1] A (fun r A' => hJ 0 Bn Br A0 A' ∧ r = none) := hxC.of (by rfl) (hY109 hA a1 (fun r A' h => h))
theorem hY108 {d : Nat} {Bn Br : Int} {A0 A : hs_A} (hA : hJ 0 Bn Br A0 A)  (a1 : Int32) (a2 : Int32) {P : Option Value → hs_A → Prop} (hP : ∀ (r : Option Value) (A' : hs_A), (hJ 0 Bn Br A0 A' ∧ ∃ z : Int32, r = some (.int z)) → P r A') : hxa (d + 5) (some (.int)) hm_t108 0 [.ref 1, .int a1, .int a2, .retAddr 0, .retAddr 0] [] A P := by
  have k0 := hk_0
  have k1 := hk_1
  have k4294967294 := hk_4294967294
  have k4294967295 := hk_4294967295
  have k72 := hk_72
  obtain ⟨T0, hT0, -, eT0⟩ := hA.T
  have L44 : ∀ (m44 : Nat) (x44_3 : Int32) (x44_4 : Int32) (Ac44 : hs_A) (hAc44 : hJ 0 Bn Br A0 Ac44) (bx44_3 : 0 ≤ x44_3.toInt) (cx44_3 : x44_3.toInt ≤ 9) (bx44_4 : 1 ≤ x44_4.toInt) (cx44_4 : x44_4.toInt ≤ 10) (ba1 : 1 ≤ a1.toInt) (ca1 : a1.toInt ≤ 72) (ba2 : 0 ≤ a2.toInt) (ca2 : a2.toInt ≤ 1) (hm44 : 10 - x44_4.toInt < (m44 : Int)), hxa (d + 5) (some (.int)) hm_t108 44 [.ref 1, .int a1, .int a2, .int x44_3, .int x44_4] [] Ac44 P := by
    intro m44
    induction m44 with
    | zero => intro x44_3 x44_4 Ac44 hAc44 bx44_3 cx44_3 bx44_4 cx44_4 ba1 ca1 ba2 ca2 hm44;  exact False.elim (by omega)
    | succ m44 ih44 =>
      intro x44_3 x44_4 Ac44 hAc44 bx44_3 cx44_3 bx44_4 cx44_4 ba1 ca1 ba2 ca2 hm44
      refine hxa_iload (by rfl) rfl ?_
      refine hxa_aload_n (by rfl) rfl ?_
      refine hxj_getT (by rfl) (by rfl) (by rfl) (hAc44.Tw eT0) ?_
      refine hxj_getB (by rfl) (hsT hT0) (by rfl) hAc44 (hbT_4 hT0) (fun z1 ez1 fz1 gz1 => ?_)
      refine hxj_cge (by rfl) rfl rfl (fun q2 => ?_) (fun q2 => ?_)
      ·
        refine hxa_iload_n (by rfl) rfl ?_
        refine hxj_zne (by rfl) rfl (fun q3 => ?_) (fun q3 => ?_)
        ·
          refine hxa_aload_n (by rfl) rfl ?_
          refine hxa_get (v := .ref 345) (by rfl) (by rfl) (by rfl) rfl ?_
          refine hxa_iload_n (by rfl) rfl ?_
          refine hxj_iald (by rfl) (by rfl) rfl (by omega) (by omega) (fun z4 ez4 => ?_)
          exact hxa_ireturn (by rfl) rfl (hP _ _ ⟨hAc44, _, rfl⟩)
        ·
          refine hxa_iload_n (by rfl) rfl ?_
          refine hxa_goto (by rfl) ?_
          exact hxa_ireturn (by rfl) rfl (hP _ _ ⟨hAc44, _, rfl⟩)
      ·
        refine hxa_aload_n (by rfl) rfl ?_
        refine hxa_get (v := .ref 345) (by rfl) (by rfl) (by rfl) rfl ?_
        refine hxa_iload (by rfl) rfl ?_
        refine hxj_iald (by rfl) (by rfl) rfl (by omega) (by omega) (fun z5 ez5 => ?_)
        refine hxa_aload_n (by rfl) rfl ?_
        refine hxa_get (v := .ref 345) (by rfl) (by rfl) (by rfl) rfl ?_
        refine hxa_iload_n (by rfl) rfl ?_
        refine hxj_iald (by rfl) (by rfl) rfl (by omega) (by omega) (fun z6 ez6 => ?_)
        have rgz5 := hn_rng z5
        have rgz6 := hn_rng z6
        refine hxj_cle (by rfl) rfl rfl (fun q7 => ?_) (fun q7 => ?_)
        ·
          refine hxj_iinc (by rfl) rfl rfl hk_1 (by omega) (by omega) (fun _ => rfl) (fun z8 ez8 => ?_)
          refine hxa_goto (by rfl) ?_
          exact ih44 x44_3 z8 Ac44 hAc44 (by omega) (by omega) (by omega) (by omega) (by omega) (by omega) (by omega) (by omega) (by omega)
        ·
          refine hxa_iload (by rfl) rfl ?_
          refine hxa_s1 (by rfl) (Or.inl ⟨_, rfl, rfl⟩) rfl ?_
          refine hxj_iinc (by rfl) rfl rfl hk_1 (by omega) (by omega) (fun _ => rfl) (fun z9 ez9 => ?_)
          refine hxa_goto (by rfl) ?_
          exact ih44 x44_4 z9 Ac44 hAc44 (by omega) (by omega) (by omega) (by omega) (by omega) (by omega) (by omega) (by omega) (by omega)
  refine hxa_iload_n (by rfl) rfl ?_
  refine hxa_iconst (by rfl) rfl ?_
  refine hxa_bipush (by rfl) rfl ?_
  refine hxa_call2 (by rfl) (by decide) (by rfl) (by rfl) (by rfl) (hX78 (d := d + 4)  a1 (Int32.ofNat 1) (Int32.ofNat 72)) ?_
  rintro _ _ ⟨rfl, z10, rfl, fz10⟩
  rcases fz10 with fz10 | fz10
  ·
    refine hxj_zeq (by rfl) rfl (fun q11 => False.elim (by omega)) (fun q11 => ?_)
    refine hxa_iload_n (by rfl) rfl ?_
    refine hxa_iconst (by rfl) rfl ?_
    refine hxa_iconst (by rfl) rfl ?_
    refine hxa_call2 (by rfl) (by decide) (by rfl) (by rfl) (by rfl) (hX78 (d := d + 4)  a2 (Int32.ofNat 0) (Int32.ofNat 1)) ?_
    rintro _ _ ⟨rfl, z12, rfl, fz12⟩
    rcases fz12 with fz12 | fz12
    ·
      refine hxj_zne (by rfl) rfl (fun q13 => ?_) (fun q13 => False.elim (by omega))
      refine hxa_aload_n (by rfl) rfl ?_
      refine hxj_getT (by rfl) (by rfl) (by rfl) (hA.Tw eT0) ?_
      refine hxj_getB (by rfl) (hsT hT0) (by rfl) hA (hbT_4 hT0) (fun z14 ez14 fz14 gz14 => ?_)
      refine hxj_zne (by rfl) rfl (fun q15 => ?_) (fun q15 => ?_)
      ·
        refine hxa_aload_n (by rfl) rfl ?_
        refine hxa_iload_n (by rfl) rfl ?_
        refine hxa_call0 (by rfl) (by rfl) (by rfl) (by rfl) (by rfl) (by rfl) (hX109 (d := d + 0) hA a1) ?_
        rintro _ A16 ⟨hA16, rfl⟩
        refine hxa_iconst (by rfl) rfl ?_
        refine hxa_s1 (by rfl) (Or.inl ⟨_, rfl, rfl⟩) rfl ?_
        refine hxa_iconst (by rfl) rfl ?_
        refine hxa_s1 (by rfl) (Or.inr ⟨_, rfl, rfl⟩) rfl ?_
        exact L44 (Int.toNat (10 - 1) + 1) (Int32.ofNat 0) (Int32.ofNat 1) A16 hA16 (by omega) (by omega) (by omega) (by omega) (by omega) (by omega) (by omega) (by omega) (by omega)
      ·
        refine hxa_bipush (by rfl) rfl ?_
        exact hxa_ireturn (by rfl) rfl (hP _ _ ⟨hA, _, rfl⟩)
    ·
      refine hxj_zne (by rfl) rfl (fun q17 => False.elim (by omega)) (fun q17 => ?_)
      refine hxa_iconst (by rfl) rfl ?_
      exact hxa_ireturn (by rfl) rfl (hP _ _ ⟨hA, _, rfl⟩)
  ·
    refine hxj_zeq (by rfl) rfl (fun q18 => ?_) (fun q18 => False.elim (by omega))
    refine hxa_iconst (by rfl) rfl ?_
    exact hxa_ireturn (by rfl) rfl (hP _ _ ⟨hA, _, rfl⟩)
theorem hX108 {d : Nat} {Bn Br : Int} {A0 A : hs_A} (hA : hJ 0 Bn Br A0 A)  (a1 : Int32) (a2 : Int32) : hxC (d + 6) 108 hm_m108 [.ref 1, .int a1, .int a2] A (fun r A' => hJ 0 Bn Br A0 A' ∧ ∃ z : Int32, r = some (.int z)) := hxC.of (by rfl) (hY108 hA a1 a2 (fun r A' h => h))
theorem hY110 {d : Nat} {Bn Br : Int} {A0 A : hs_A} (hA : hJ 0 Bn Br A0 A)  (a1 : Int32) {P : Option Value → hs_A → Prop} (hP : ∀ (r : Option Value) (A' : hs_A), (hJ 0 Bn Br A0 A' ∧ ∃ z : Int32, r = some (.int z)) → P r A') : hxa (d + 5) (some (.int)) hm_t110 0 [.ref 1, .int a1] [] A P := by
  have k0 := hk_0
  have k4294967295 := hk_4294967295
  have k72 := hk_72
  refine hxa_iload_n (by rfl) rfl ?_
  refine hxa_iconst (by rfl) rfl ?_
  refine hxa_bipush (by rfl) rfl ?_
  refine hxa_call2 (by rfl) (by decide) (by rfl) (by rfl) (by rfl) (hX78 (d := d + 4)  a1 (Int32.ofNat 0) (Int32.ofNat 72)) ?_
  rintro _ _ ⟨rfl, z1, rfl, fz1⟩
  rcases fz1 with fz1 | fz1
  ·
    refine hxj_zne (by rfl) rfl (fun q2 => ?_) (fun q2 => False.elim (by omega))
    refine hxa_aload_n (by rfl) rfl ?_
    refine hxa_iload_n (by rfl) rfl ?_
    refine hxa_iconst (by rfl) rfl ?_
    refine hxa_iconst (by rfl) rfl ?_
    refine hxa_call0 (by rfl) (by rfl) (by rfl) (by rfl) (by rfl) (by rfl) (hX107 (d := d + 0) hA a1 (Int32.ofNat 0) (by omega) (by omega) (Int32.ofNat 0)) ?_
    rintro _ A3 ⟨hA3, rfl⟩
    refine hxa_aload_n (by rfl) rfl ?_
    refine hxa_get (v := .ref 34) (by rfl) (by rfl) (by rfl) rfl ?_
    refine hxa_call0 (by rfl) (by rfl) (by rfl) (by rfl) (by rfl) (by rfl) (hX31 (d := d + 4) hA3 hL33) ?_
    rintro _ _ ⟨rfl, z4, rfl⟩
    refine hxa_call2 (by rfl) (by decide) (by rfl) (by rfl) (by rfl) (hX242 (d := d + 4)  z4) ?_
    rintro _ _ ⟨rfl, z5, rfl, fz5⟩
    exact hxa_ireturn (by rfl) rfl (hP _ _ ⟨hA3, _, rfl⟩)
  ·
    refine hxj_zne (by rfl) rfl (fun q6 => False.elim (by omega)) (fun q6 => ?_)
    refine hxa_iconst (by rfl) rfl ?_
    exact hxa_ireturn (by rfl) rfl (hP _ _ ⟨hA, _, rfl⟩)
theorem hX110 {d : Nat} {Bn Br : Int} {A0 A : hs_A} (hA : hJ 0 Bn Br A0 A)  (a1 : Int32) : hxC (d + 6) 110 hm_m110 [.ref 1, .int a1] A (fun r A' => hJ 0 Bn Br A0 A' ∧ ∃ z : Int32, r = some (.int z)) := hxC.of (by rfl) (hY110 hA a1 (fun r A' h => h))
theorem hY111 {d : Nat} {Bn Br : Int} {A0 A : hs_A} (hA : hJ 0 Bn Br A0 A)  (a1 : Int32) {P : Option Value → hs_A → Prop} (hP : ∀ (r : Option Value) (A' : hs_A), (A = A' ∧ ∃ z : Int32, r = some (.int z)) → P r A') : hxa (d + 0) (some (.int)) hm_t111 0 [.ref 1, .int a1, .retAddr 0] [] A P := by
  have k0 := hk_0
  have k4294967295 := hk_4294967295
  obtain ⟨T0, hT0, -, eT0⟩ := hA.T
  have L2 : ∀ (m2 : Nat) (x2_2 : Int32) (bx2_2 : 0 ≤ x2_2.toInt) (cx2_2 : x2_2.toInt ≤ 10) (hm2 : 10 - x2_2.toInt < (m2 : Int)), hxa (d + 0) (some (.int)) hm_t111 2 [.ref 1, .int a1, .int x2_2] [] A P := by
    intro m2
    induction m2 with
    | zero => intro x2_2 bx2_2 cx2_2 hm2;  exact False.elim (by omega)
    | succ m2 ih2 =>
      intro x2_2 bx2_2 cx2_2 hm2
      refine hxa_iload_n (by rfl) rfl ?_
      refine hxa_aload_n (by rfl) rfl ?_
      refine hxj_getT (by rfl) (by rfl) (by rfl) (hA.Tw eT0) ?_
      refine hxj_getB (by rfl) (hsT hT0) (by rfl) hA (hbT_4 hT0) (fun z1 ez1 fz1 gz1 => ?_)
      refine hxj_cge (by rfl) rfl rfl (fun q2 => ?_) (fun q2 => ?_)
      ·
        refine hxa_iconst (by rfl) rfl ?_
        exact hxa_ireturn (by rfl) rfl (hP _ _ ⟨rfl, _, rfl⟩)
      ·
        refine hxa_aload_n (by rfl) rfl ?_
        refine hxa_get (v := .ref 27) (by rfl) (by rfl) (by rfl) rfl ?_
        refine hxa_get (v := .ref 31) (by rfl) (by rfl) (by rfl) rfl ?_
        refine hxa_iload_n (by rfl) rfl ?_
        refine hxj_iald (by rfl) (by rfl) rfl (by omega) (by omega) (fun z3 ez3 => ?_)
        refine hxa_iload_n (by rfl) rfl ?_
        refine hxj_cne (by rfl) rfl rfl (fun q4 => ?_) (fun q4 => ?_)
        ·
          refine hxj_iinc (by rfl) rfl rfl hk_1 (by omega) (by omega) (fun _ => rfl) (fun z5 ez5 => ?_)
          refine hxa_goto (by rfl) ?_
          exact ih2 z5 (by omega) (by omega) (by omega)
        ·
          refine hxa_iload_n (by rfl) rfl ?_
          exact hxa_ireturn (by rfl) rfl (hP _ _ ⟨rfl, _, rfl⟩)
  refine hxa_iconst (by rfl) rfl ?_
  refine hxa_s1 (by rfl) (Or.inl ⟨_, rfl, rfl⟩) rfl ?_
  exact L2 (Int.toNat (10 - 0) + 1) (Int32.ofNat 0) (by omega) (by omega) (by omega)
theorem hX111 {d : Nat} {Bn Br : Int} {A0 A : hs_A} (hA : hJ 0 Bn Br A0 A)  (a1 : Int32) : hxC (d + 1) 111 hm_m111 [.ref 1, .int a1] A (fun r A' => A = A' ∧ ∃ z : Int32, r = some (.int z)) := hxC.of (by rfl) (hY111 hA a1 (fun r A' h => h))
theorem hY112 {d : Nat} {Bn Br : Int} {A0 A : hs_A} (hA : hJ 0 Bn Br A0 A)  (a1 : Int32) {P : Option Value → hs_A → Prop} (hP : ∀ (r : Option Value) (A' : hs_A), (hJ 0 Bn Br A0 A' ∧ ∃ z : Int32, r = some (.int z)) → P r A') : hxa (d + 4) (some (.int)) hm_t112 0 [.ref 1, .int a1, .retAddr 0] [] A P := by
  have k1 := hk_1
  have k4294967294 := hk_4294967294
  have k4294967295 := hk_4294967295
  obtain ⟨T0, hT0, -, eT0⟩ := hA.T
  have L23 : ∀ (m23 : Nat) (x23_2 : Int32) (Ac23 : hs_A) (hAc23 : hJ 0 Bn Br A0 Ac23) (bx23_2 : 1 ≤ x23_2.toInt) (cx23_2 : x23_2.toInt ≤ 73) (ba1 : 0 ≤ a1.toInt) (ca1 : a1.toInt ≤ 9) (hm23 : 73 - x23_2.toInt < (m23 : Int)), hxa (d + 4) (some (.int)) hm_t112 23 [.ref 1, .int a1, .int x23_2] [] Ac23 P := by
    intro m23
    induction m23 with
    | zero => intro x23_2 Ac23 hAc23 bx23_2 cx23_2 ba1 ca1 hm23;  exact False.elim (by omega)
    | succ m23 ih23 =>
      intro x23_2 Ac23 hAc23 bx23_2 cx23_2 ba1 ca1 hm23
      refine hxa_iload_n (by rfl) rfl ?_
      refine hxa_bipush (by rfl) rfl ?_
      refine hxj_cgt (by rfl) rfl hk_72 (fun q1 => ?_) (fun q1 => ?_)
      ·
        refine hxa_bipush (by rfl) rfl ?_
        exact hxa_ireturn (by rfl) rfl (hP _ _ ⟨hAc23, _, rfl⟩)
      ·
        refine hxa_aload_n (by rfl) rfl ?_
        refine hxa_get (v := .ref 34) (by rfl) (by rfl) (by rfl) rfl ?_
        refine hxa_aload_n (by rfl) rfl ?_
        refine hxj_getT (by rfl) (by rfl) (by rfl) (hAc23.Tw eT0) ?_
        refine hxa_aload_n (by rfl) rfl ?_
        refine hxa_get (v := .ref 324) (by rfl) (by rfl) (by rfl) rfl ?_
        refine hxa_iconst (by rfl) rfl ?_
        refine hxa_aload_n (by rfl) rfl ?_
        refine hxj_getT (by rfl) (by rfl) (by rfl) (hAc23.Tw eT0) ?_
        refine hxj_getI (by rfl) (hsT hT0) (by rfl) (fun z2 ez2 => ?_)
        refine hxa_call0 (by rfl) (by rfl) (by rfl) (by rfl) (by rfl) (by rfl) (hX26 (d := d + 0) hAc23 hL33 hT0 eT0 (Int32.ofNat 1) (by omega) (by omega) z2) ?_
        rintro _ A3 ⟨hA3, rfl⟩
        refine hxa_aload_n (by rfl) rfl ?_
        refine hxa_get (v := .ref 34) (by rfl) (by rfl) (by rfl) rfl ?_
        refine hxa_get (v := .ref 39) (by rfl) (by rfl) (by rfl) rfl ?_
        refine hxa_iload_n (by rfl) rfl ?_
        refine hxj_ialdB (by rfl) (by rfl) rfl (by omega) (by omega) hA3 (by rfl) (fun z4 ez4 fz4 gz4 => ?_)
        refine hxj_zeq (by rfl) rfl (fun q5 => ?_) (fun q5 => ?_)
        ·
          refine hxj_iinc (by rfl) rfl rfl hk_1 (by omega) (by omega) (fun _ => rfl) (fun z6 ez6 => ?_)
          refine hxa_goto (by rfl) ?_
          exact ih23 z6 A3 hA3 (by omega) (by omega) (by omega) (by omega) (by omega)
        ·
          refine hxa_iload_n (by rfl) rfl ?_
          exact hxa_ireturn (by rfl) rfl (hP _ _ ⟨hA3, _, rfl⟩)
  refine hxa_aload_n (by rfl) rfl ?_
  refine hxa_iload_n (by rfl) rfl ?_
  refine hxa_call0 (by rfl) (by rfl) (by rfl) (by rfl) (by rfl) (by rfl) (hX76 (d := d + 3) hA a1) ?_
  rintro _ _ ⟨rfl, z7, rfl, fz7⟩
  rcases fz7 with fz7 | fz7
  ·
    refine hxj_zne (by rfl) rfl (fun q8 => ?_) (fun q8 => False.elim (by omega))
    refine hxa_aload_n (by rfl) rfl ?_
    refine hxa_get (v := .ref 34) (by rfl) (by rfl) (by rfl) rfl ?_
    refine hxa_aload_n (by rfl) rfl ?_
    refine hxa_get (v := .ref 27) (by rfl) (by rfl) (by rfl) rfl ?_
    refine hxa_call0 (by rfl) (by rfl) (by rfl) (by rfl) (by rfl) (by rfl) (hX17 (d := d + 3) hA hL33 hL26) ?_
    rintro _ A9 ⟨hA9, rfl⟩
    refine hxa_iconst (by rfl) rfl ?_
    refine hxa_s1 (by rfl) (Or.inl ⟨_, rfl, rfl⟩) rfl ?_
    exact L23 (Int.toNat (73 - 1) + 1) (Int32.ofNat 1) A9 hA9 (by omega) (by omega) (by omega) (by omega) (by omega)
  ·
    refine hxj_zne (by rfl) rfl (fun q10 => False.elim (by omega)) (fun q10 => ?_)
    refine hxa_iconst (by rfl) rfl ?_
    exact hxa_ireturn (by rfl) rfl (hP _ _ ⟨hA, _, rfl⟩)
theorem hX112 {d : Nat} {Bn Br : Int} {A0 A : hs_A} (hA : hJ 0 Bn Br A0 A)  (a1 : Int32) : hxC (d + 5) 112 hm_m112 [.ref 1, .int a1] A (fun r A' => hJ 0 Bn Br A0 A' ∧ ∃ z : Int32, r = some (.int z)) := hxC.of (by rfl) (hY112 hA a1 (fun r A' h => h))
theorem hY113 {d : Nat} {Bn Br : Int} {A0 A : hs_A} (hA : hJ 0 Bn Br A0 A)  (a1 : Int32) (a2 : Int32) (a3 : Int32) {P : Option Value → hs_A → Prop} (hP : ∀ (r : Option Value) (A' : hs_A), (hJ 0 Bn Br A0 A' ∧ ∃ z : Int32, r = some (.int z)) → P r A') : hxa (d + 5) (some (.int)) hm_t113 0 [.ref 1, .int a1, .int a2, .int a3] [] A P := by
  have k0 := hk_0
  have k1 := hk_1
  have k2 := hk_2
  have k4294967295 := hk_4294967295
  have k72 := hk_72
  obtain ⟨T0, hT0, -, eT0⟩ := hA.T
  refine hxa_iload_n (by rfl) rfl ?_
  refine hxa_iconst (by rfl) rfl ?_
  refine hxa_bipush (by rfl) rfl ?_
  refine hxa_call2 (by rfl) (by decide) (by rfl) (by rfl) (by rfl) (hX78 (d := d + 4)  a2 (Int32.ofNat 0) (Int32.ofNat 72)) ?_
  rintro _ _ ⟨rfl, z1, rfl, fz1⟩
  rcases fz1 with fz1 | fz1
  ·
    refine hxj_zeq (by rfl) rfl (fun q2 => False.elim (by omega)) (fun q2 => ?_)
    refine hxa_iload_n (by rfl) rfl ?_
    refine hxa_iconst (by rfl) rfl ?_
    refine hxa_iconst (by rfl) rfl ?_
    refine hxa_call2 (by rfl) (by decide) (by rfl) (by rfl) (by rfl) (hX78 (d := d + 4)  a3 (Int32.ofNat 0) (Int32.ofNat 2)) ?_
    rintro _ _ ⟨rfl, z3, rfl, fz3⟩
    rcases fz3 with fz3 | fz3
    ·
      refine hxj_zne (by rfl) rfl (fun q4 => ?_) (fun q4 => False.elim (by omega))
      refine hxa_iload_n (by rfl) rfl ?_
      refine hxa_iconst (by rfl) rfl ?_
      refine hxj_ceq (by rfl) rfl hk_2 (fun q5 => ?_) (fun q5 => ?_)
      ·
        refine hxa_aload_n (by rfl) rfl ?_
        refine hxa_iload_n (by rfl) rfl ?_
        refine hxa_iconst (by rfl) rfl ?_
        refine hxa_aload_n (by rfl) rfl ?_
        refine hxj_getT (by rfl) (by rfl) (by rfl) (hA.Tw eT0) ?_
        refine hxj_getI (by rfl) (hsT hT0) (by rfl) (fun z6 ez6 => ?_)
        refine hxa_call0 (by rfl) (by rfl) (by rfl) (by rfl) (by rfl) (by rfl) (hX107 (d := d + 0) hA a2 (Int32.ofNat 1) (by omega) (by omega) z6) ?_
        rintro _ A7 ⟨hA7, rfl⟩
        refine hxa_iload_n (by rfl) rfl ?_
        refine hxa_iconst (by rfl) rfl ?_
        refine hxj_cne (by rfl) rfl hk_2 (fun q8 => False.elim (by omega)) (fun q8 => ?_)
        refine hxa_aload_n (by rfl) rfl ?_
        refine hxa_get (v := .ref 34) (by rfl) (by rfl) (by rfl) rfl ?_
        refine hxa_call0 (by rfl) (by rfl) (by rfl) (by rfl) (by rfl) (by rfl) (hX30 (d := d + 3) hA7 hL33) ?_
        rintro _ _ ⟨rfl, z9, rfl⟩
        refine hxa_call2 (by rfl) (by decide) (by rfl) (by rfl) (by rfl) (hX242 (d := d + 4)  z9) ?_
        rintro _ _ ⟨rfl, z10, rfl, fz10⟩
        exact hxa_ireturn (by rfl) rfl (hP _ _ ⟨hA7, _, rfl⟩)
      ·
        refine hxa_aload_n (by rfl) rfl ?_
        refine hxa_iload_n (by rfl) rfl ?_
        refine hxa_call0 (by rfl) (by rfl) (by rfl) (by rfl) (by rfl) (by rfl) (hX76 (d := d + 4) hA a1) ?_
        rintro _ _ ⟨rfl, z11, rfl, fz11⟩
        rcases fz11 with fz11 | fz11
        ·
          refine hxj_zne (by rfl) rfl (fun q12 => ?_) (fun q12 => False.elim (by omega))
          refine hxa_aload_n (by rfl) rfl ?_
          refine hxa_iload_n (by rfl) rfl ?_
          refine hxa_iconst (by rfl) rfl ?_
          refine hxa_aload_n (by rfl) rfl ?_
          refine hxj_getT (by rfl) (by rfl) (by rfl) (hA.Tw eT0) ?_
          refine hxj_getI (by rfl) (hsT hT0) (by rfl) (fun z13 ez13 => ?_)
          refine hxa_call0 (by rfl) (by rfl) (by rfl) (by rfl) (by rfl) (by rfl) (hX107 (d := d + 0) hA a2 (Int32.ofNat 1) (by omega) (by omega) z13) ?_
          rintro _ A14 ⟨hA14, rfl⟩
          refine hxa_iload_n (by rfl) rfl ?_
          refine hxa_iconst (by rfl) rfl ?_
          refine hxj_cne (by rfl) rfl hk_2 (fun q15 => ?_) (fun q15 => False.elim (by omega))
          refine hxa_iload_n (by rfl) rfl ?_
          refine hxj_zne (by rfl) rfl (fun q16 => ?_) (fun q16 => ?_)
          ·
            refine hxa_aload_n (by rfl) rfl ?_
            refine hxa_get (v := .ref 34) (by rfl) (by rfl) (by rfl) rfl ?_
            refine hxa_get (v := .ref 37) (by rfl) (by rfl) (by rfl) rfl ?_
            refine hxa_iload_n (by rfl) rfl ?_
            refine hxj_iald (by rfl) (by rfl) rfl (by omega) (by omega) (fun z17 ez17 => ?_)
            refine hxa_call2 (by rfl) (by decide) (by rfl) (by rfl) (by rfl) (hX242 (d := d + 4)  z17) ?_
            rintro _ _ ⟨rfl, z18, rfl, fz18⟩
            exact hxa_ireturn (by rfl) rfl (hP _ _ ⟨hA14, _, rfl⟩)
          ·
            refine hxa_aload_n (by rfl) rfl ?_
            refine hxa_get (v := .ref 34) (by rfl) (by rfl) (by rfl) rfl ?_
            refine hxa_get (v := .ref 39) (by rfl) (by rfl) (by rfl) rfl ?_
            refine hxa_iload_n (by rfl) rfl ?_
            refine hxj_ialdB (by rfl) (by rfl) rfl (by omega) (by omega) hA14 (by rfl) (fun z19 ez19 fz19 gz19 => ?_)
            refine hxa_goto (by rfl) ?_
            exact hxa_ireturn (by rfl) rfl (hP _ _ ⟨hA14, _, rfl⟩)
        ·
          refine hxj_zne (by rfl) rfl (fun q20 => False.elim (by omega)) (fun q20 => ?_)
          refine hxa_iconst (by rfl) rfl ?_
          exact hxa_ireturn (by rfl) rfl (hP _ _ ⟨hA, _, rfl⟩)
    ·
      refine hxj_zne (by rfl) rfl (fun q21 => False.elim (by omega)) (fun q21 => ?_)
      refine hxa_iconst (by rfl) rfl ?_
      exact hxa_ireturn (by rfl) rfl (hP _ _ ⟨hA, _, rfl⟩)
  ·
    refine hxj_zeq (by rfl) rfl (fun q22 => ?_) (fun q22 => False.elim (by omega))
    refine hxa_iconst (by rfl) rfl ?_
    exact hxa_ireturn (by rfl) rfl (hP _ _ ⟨hA, _, rfl⟩)
theorem hX113 {d : Nat} {Bn Br : Int} {A0 A : hs_A} (hA : hJ 0 Bn Br A0 A)  (a1 : Int32) (a2 : Int32) (a3 : Int32) : hxC (d + 6) 113 hm_m113 [.ref 1, .int a1, .int a2, .int a3] A (fun r A' => hJ 0 Bn Br A0 A' ∧ ∃ z : Int32, r = some (.int z)) := hxC.of (by rfl) (hY113 hA a1 a2 a3 (fun r A' h => h))
theorem hY114 {d : Nat} {Bn Br : Int} {A0 A : hs_A} (hA : hJ 0 Bn Br A0 A)  (a1 : Int32) (a2 : Int32) {P : Option Value → hs_A → Prop} (hP : ∀ (r : Option Value) (A' : hs_A), (hJ 0 Bn Br A0 A' ∧ ∃ z : Int32, r = some (.int z)) → P r A') : hxa (d + 4) (some (.int)) hm_t114 0 [.ref 1, .int a1, .int a2, .retAddr 0, .retAddr 0] [] A P := by
  have k0 := hk_0
  have k1 := hk_1
  have k4294967295 := hk_4294967295
  have k72 := hk_72
  obtain ⟨T0, hT0, -, eT0⟩ := hA.T
  have L36 : ∀ (m36 : Nat) (x36_3 : Int32) (x36_4 : Int32) (Ac36 : hs_A) (hAc36 : hJ 0 Bn Br A0 Ac36) (bx36_4 : 0 ≤ x36_4.toInt) (cx36_4 : x36_4.toInt ≤ 72) (ba1 : 0 ≤ a1.toInt) (ca1 : a1.toInt ≤ 9) (ba2 : 1 ≤ a2.toInt) (ca2 : a2.toInt ≤ 72) (hm36 : 72 - x36_4.toInt < (m36 : Int)), hxa (d + 4) (some (.int)) hm_t114 36 [.ref 1, .int a1, .int a2, .int x36_3, .int x36_4] [] Ac36 P := by
    intro m36
    induction m36 with
    | zero => intro x36_3 x36_4 Ac36 hAc36 bx36_4 cx36_4 ba1 ca1 ba2 ca2 hm36; have := hn_rng x36_3; exact False.elim (by omega)
    | succ m36 ih36 =>
      intro x36_3 x36_4 Ac36 hAc36 bx36_4 cx36_4 ba1 ca1 ba2 ca2 hm36
      refine hxa_iload (by rfl) rfl ?_
      refine hxa_iload_n (by rfl) rfl ?_
      refine hxj_cge (by rfl) rfl rfl (fun q1 => ?_) (fun q1 => ?_)
      ·
        refine hxa_iload_n (by rfl) rfl ?_
        exact hxa_ireturn (by rfl) rfl (hP _ _ ⟨hAc36, _, rfl⟩)
      ·
        refine hxa_aload_n (by rfl) rfl ?_
        refine hxa_get (v := .ref 34) (by rfl) (by rfl) (by rfl) rfl ?_
        refine hxa_aload_n (by rfl) rfl ?_
        refine hxj_getT (by rfl) (by rfl) (by rfl) (hAc36.Tw eT0) ?_
        refine hxa_aload_n (by rfl) rfl ?_
        refine hxa_get (v := .ref 324) (by rfl) (by rfl) (by rfl) rfl ?_
        refine hxa_iconst (by rfl) rfl ?_
        refine hxa_iconst (by rfl) rfl ?_
        refine hxa_call0 (by rfl) (by rfl) (by rfl) (by rfl) (by rfl) (by rfl) (hX26 (d := d + 0) hAc36 hL33 hT0 eT0 (Int32.ofNat 0) (by omega) (by omega) (Int32.ofNat 0)) ?_
        rintro _ A2 ⟨hA2, rfl⟩
        refine hxa_aload_n (by rfl) rfl ?_
        refine hxa_get (v := .ref 34) (by rfl) (by rfl) (by rfl) rfl ?_
        refine hxa_get (v := .ref 39) (by rfl) (by rfl) (by rfl) rfl ?_
        refine hxa_iload_n (by rfl) rfl ?_
        refine hxj_ialdB (by rfl) (by rfl) rfl (by omega) (by omega) hA2 (by rfl) (fun z3 ez3 fz3 gz3 => ?_)
        refine hxj_zne (by rfl) rfl (fun q4 => ?_) (fun q4 => ?_)
        ·
          refine hxj_iinc (by rfl) rfl rfl hk_1 (by omega) (by omega) (fun _ => rfl) (fun z5 ez5 => ?_)
          refine hxa_goto (by rfl) ?_
          exact ih36 x36_3 z5 A2 hA2 (by omega) (by omega) (by omega) (by omega) (by omega) (by omega) (by omega)
        ·
          refine hxj_iincU (by rfl) rfl (fun _ => rfl) (fun z6 => ?_)
          refine hxj_iinc (by rfl) rfl rfl hk_1 (by omega) (by omega) (fun _ => rfl) (fun z7 ez7 => ?_)
          refine hxa_goto (by rfl) ?_
          exact ih36 z6 z7 A2 hA2 (by omega) (by omega) (by omega) (by omega) (by omega) (by omega) (by omega)
  refine hxa_aload_n (by rfl) rfl ?_
  refine hxa_iload_n (by rfl) rfl ?_
  refine hxa_call0 (by rfl) (by rfl) (by rfl) (by rfl) (by rfl) (by rfl) (hX76 (d := d + 3) hA a1) ?_
  rintro _ _ ⟨rfl, z8, rfl, fz8⟩
  rcases fz8 with fz8 | fz8
  ·
    refine hxj_zeq (by rfl) rfl (fun q9 => False.elim (by omega)) (fun q9 => ?_)
    refine hxa_iload_n (by rfl) rfl ?_
    refine hxa_iconst (by rfl) rfl ?_
    refine hxa_bipush (by rfl) rfl ?_
    refine hxa_call2 (by rfl) (by decide) (by rfl) (by rfl) (by rfl) (hX78 (d := d + 3)  a2 (Int32.ofNat 1) (Int32.ofNat 72)) ?_
    rintro _ _ ⟨rfl, z10, rfl, fz10⟩
    rcases fz10 with fz10 | fz10
    ·
      refine hxj_zne (by rfl) rfl (fun q11 => ?_) (fun q11 => False.elim (by omega))
      refine hxa_iconst (by rfl) rfl ?_
      refine hxa_s1 (by rfl) (Or.inl ⟨_, rfl, rfl⟩) rfl ?_
      refine hxa_aload_n (by rfl) rfl ?_
      refine hxa_get (v := .ref 34) (by rfl) (by rfl) (by rfl) rfl ?_
      refine hxa_aload_n (by rfl) rfl ?_
      refine hxa_get (v := .ref 27) (by rfl) (by rfl) (by rfl) rfl ?_
      refine hxa_call0 (by rfl) (by rfl) (by rfl) (by rfl) (by rfl) (by rfl) (hX17 (d := d + 3) hA hL33 hL26) ?_
      rintro _ A12 ⟨hA12, rfl⟩
      refine hxa_iconst (by rfl) rfl ?_
      refine hxa_s1 (by rfl) (Or.inr ⟨_, rfl, rfl⟩) rfl ?_
      exact L36 (Int.toNat (72 - 0) + 1) (Int32.ofNat 0) (Int32.ofNat 0) A12 hA12 (by omega) (by omega) (by omega) (by omega) (by omega) (by omega) (by omega)
    ·
      refine hxj_zne (by rfl) rfl (fun q13 => False.elim (by omega)) (fun q13 => ?_)
      refine hxa_iconst (by rfl) rfl ?_
      exact hxa_ireturn (by rfl) rfl (hP _ _ ⟨hA, _, rfl⟩)
  ·
    refine hxj_zeq (by rfl) rfl (fun q14 => ?_) (fun q14 => False.elim (by omega))
    refine hxa_iconst (by rfl) rfl ?_
    exact hxa_ireturn (by rfl) rfl (hP _ _ ⟨hA, _, rfl⟩)
theorem hX114 {d : Nat} {Bn Br : Int} {A0 A : hs_A} (hA : hJ 0 Bn Br A0 A)  (a1 : Int32) (a2 : Int32) : hxC (d + 5) 114 hm_m114 [.ref 1, .int a1, .int a2] A (fun r A' => hJ 0 Bn Br A0 A' ∧ ∃ z : Int32, r = some (.int z)) := hxC.of (by rfl) (hY114 hA a1 a2 (fun r A' h => h))
theorem hY115 {d : Nat} {Bn Br : Int} {A0 A : hs_A} (hA : hJ 0 Bn Br A0 A)  (a1 : Int32) {P : Option Value → hs_A → Prop} (hP : ∀ (r : Option Value) (A' : hs_A), (hJ 0 Bn Br A0 A' ∧ ∃ z : Int32, r = some (.int z)) → P r A') : hxa (d + 5) (some (.int)) hm_t115 0 [.ref 1, .int a1] [] A P := by
  have k0 := hk_0
  have k1 := hk_1
  have k4294967295 := hk_4294967295
  have k72 := hk_72
  obtain ⟨T0, hT0, -, eT0⟩ := hA.T
  refine hxa_iload_n (by rfl) rfl ?_
  refine hxa_iconst (by rfl) rfl ?_
  refine hxa_bipush (by rfl) rfl ?_
  refine hxa_call2 (by rfl) (by decide) (by rfl) (by rfl) (by rfl) (hX78 (d := d + 4)  a1 (Int32.ofNat 0) (Int32.ofNat 72)) ?_
  rintro _ _ ⟨rfl, z1, rfl, fz1⟩
  rcases fz1 with fz1 | fz1
  ·
    refine hxj_zne (by rfl) rfl (fun q2 => ?_) (fun q2 => False.elim (by omega))
    refine hxa_aload_n (by rfl) rfl ?_
    refine hxa_iload_n (by rfl) rfl ?_
    refine hxa_iconst (by rfl) rfl ?_
    refine hxa_aload_n (by rfl) rfl ?_
    refine hxj_getT (by rfl) (by rfl) (by rfl) (hA.Tw eT0) ?_
    refine hxj_getI (by rfl) (hsT hT0) (by rfl) (fun z3 ez3 => ?_)
    refine hxa_call0 (by rfl) (by rfl) (by rfl) (by rfl) (by rfl) (by rfl) (hX107 (d := d + 0) hA a1 (Int32.ofNat 1) (by omega) (by omega) z3) ?_
    rintro _ A4 ⟨hA4, rfl⟩
    refine hxa_aload_n (by rfl) rfl ?_
    refine hxa_get (v := .ref 34) (by rfl) (by rfl) (by rfl) rfl ?_
    refine hxa_call0 (by rfl) (by rfl) (by rfl) (by rfl) (by rfl) (by rfl) (hX29 (d := d + 4) hA4 hL33) ?_
    rintro _ _ ⟨rfl, z5, rfl⟩
    refine hxa_call2 (by rfl) (by decide) (by rfl) (by rfl) (by rfl) (hX242 (d := d + 4)  z5) ?_
    rintro _ _ ⟨rfl, z6, rfl, fz6⟩
    exact hxa_ireturn (by rfl) rfl (hP _ _ ⟨hA4, _, rfl⟩)
  ·
    refine hxj_zne (by rfl) rfl (fun q7 => False.elim (by omega)) (fun q7 => ?_)
    refine hxa_iconst (by rfl) rfl ?_
    exact hxa_ireturn (by rfl) rfl (hP _ _ ⟨hA, _, rfl⟩)
theorem hX115 {d : Nat} {Bn Br : Int} {A0 A : hs_A} (hA : hJ 0 Bn Br A0 A)  (a1 : Int32) : hxC (d + 6) 115 hm_m115 [.ref 1, .int a1] A (fun r A' => hJ 0 Bn Br A0 A' ∧ ∃ z : Int32, r = some (.int z)) := hxC.of (by rfl) (hY115 hA a1 (fun r A' h => h))
theorem hY116 {d : Nat} {Bn Br : Int} {A0 A : hs_A} (hA : hJ 0 Bn Br A0 A)  (a1 : Int32) {P : Option Value → hs_A → Prop} (hP : ∀ (r : Option Value) (A' : hs_A), (A = A' ∧ ∃ z : Int32, r = some (.int z)) → P r A') : hxa (d + 1) (some (.int)) hm_t116 0 [.ref 1, .int a1, .retAddr 0, .retAddr 0, .retAddr 0, .retAddr 0, .retAddr 0] [] A P := by
  have k0 := hk_0
  have k1 := hk_1
  have k4294967294 := hk_4294967294
  have k4294967295 := hk_4294967295
  obtain ⟨T0, hT0, -, eT0⟩ := hA.T
  have L19 : ∀ (m19 : Nat) (x19_2 : Int32) (x19_3 : Int32) (x19_4 : Int32) (x19_5 : Value) (x19_6 : Value) (hx19_5 : hc_two (some x19_5) = false) (bx19_2 : 0 ≤ x19_2.toInt) (cx19_2 : x19_2.toInt ≤ 8) (bx19_3 : -2 ≤ x19_3.toInt) (cx19_3 : x19_3.toInt ≤ 255) (bx19_4 : 0 ≤ x19_4.toInt) (cx19_4 : x19_4.toInt ≤ 10) (ba1 : 0 ≤ a1.toInt) (ca1 : a1.toInt ≤ 1) (hm19 : 10 - x19_4.toInt < (m19 : Int)), hxa (d + 1) (some (.int)) hm_t116 19 [.ref 1, .int a1, .int x19_2, .int x19_3, .int x19_4, x19_5, x19_6] [] A P := by
    intro m19
    induction m19 with
    | zero => intro x19_2 x19_3 x19_4 x19_5 x19_6 hx19_5 bx19_2 cx19_2 bx19_3 cx19_3 bx19_4 cx19_4 ba1 ca1 hm19;  exact False.elim (by omega)
    | succ m19 ih19 =>
      intro x19_2 x19_3 x19_4 x19_5 x19_6 hx19_5 bx19_2 cx19_2 bx19_3 cx19_3 bx19_4 cx19_4 ba1 ca1 hm19
      have L34 : ∀ (m34 : Nat) (x34_2 : Int32) (x34_3 : Int32) (x34_5 : Int32) (x34_6 : Value) (bx34_2 : 0 ≤ x34_2.toInt) (cx34_2 : x34_2.toInt ≤ 8) (bx34_3 : -2 ≤ x34_3.toInt) (cx34_3 : x34_3.toInt ≤ 255) (bx34_5 : 0 ≤ x34_5.toInt) (cx34_5 : x34_5.toInt ≤ 10) (cx19_4 : x19_4.toInt ≤ 9) (hm34 : 10 - x34_5.toInt < (m34 : Int)), hxa (d + 1) (some (.int)) hm_t116 34 [.ref 1, .int a1, .int x34_2, .int x34_3, .int x19_4, .int x34_5, x34_6] [] A P := by
        intro m34
        induction m34 with
        | zero => intro x34_2 x34_3 x34_5 x34_6 bx34_2 cx34_2 bx34_3 cx34_3 bx34_5 cx34_5 cx19_4 hm34;  exact False.elim (by omega)
        | succ m34 ih34 =>
          intro x34_2 x34_3 x34_5 x34_6 bx34_2 cx34_2 bx34_3 cx34_3 bx34_5 cx34_5 cx19_4 hm34
          refine hxa_iload (by rfl) rfl ?_
          refine hxa_aload_n (by rfl) rfl ?_
          refine hxj_getT (by rfl) (by rfl) (by rfl) (hA.Tw eT0) ?_
          refine hxj_getB (by rfl) (hsT hT0) (by rfl) hA (hbT_4 hT0) (fun z1 ez1 fz1 gz1 => ?_)
          refine hxj_cge (by rfl) rfl rfl (fun q2 => ?_) (fun q2 => ?_)
          ·
            refine hxj_iinc (by rfl) rfl rfl hk_1 (by omega) (by omega) (fun _ => rfl) (fun z3 ez3 => ?_)
            refine hxa_goto (by rfl) ?_
            exact ih19 x34_2 x34_3 z3 (.int x34_5) (x34_6) rfl (by omega) (by omega) (by omega) (by omega) (by omega) (by omega) (by omega) (by omega) (by omega)
          ·
            refine hxa_aload_n (by rfl) rfl ?_
            refine hxa_get (v := .ref 27) (by rfl) (by rfl) (by rfl) rfl ?_
            refine hxa_get (v := .ref 32) (by rfl) (by rfl) (by rfl) rfl ?_
            refine hxa_iload (by rfl) rfl ?_
            refine hxj_ialdB (by rfl) (by rfl) rfl (by omega) (by omega) hA (by rfl) (fun z4 ez4 fz4 gz4 => ?_)
            refine hxa_aload_n (by rfl) rfl ?_
            refine hxa_get (v := .ref 27) (by rfl) (by rfl) (by rfl) rfl ?_
            refine hxa_iload (by rfl) rfl ?_
            refine hxa_call0 (by rfl) (by rfl) (by rfl) (by rfl) (by rfl) (by rfl) (hX21 (d := d + 0) hA hL26 x34_5 (by omega) (by omega)) ?_
            rintro _ _ ⟨rfl, z5, rfl⟩
            refine hxj_iandL (by rfl) rfl (by omega) (fun z6 ez6 fz6 => ?_)
            refine hxa_call2 (by rfl) (by decide) (by rfl) (by rfl) (by rfl) (hX242 (d := d + 0)  z6) ?_
            rintro _ _ ⟨rfl, z7, rfl, fz7⟩
            refine hxa_s1 (by rfl) (Or.inr ⟨_, rfl, rfl⟩) rfl ?_
            refine hxa_iload (by rfl) rfl ?_
            refine hxa_iload (by rfl) rfl ?_
            refine hxj_ceq (by rfl) rfl rfl (fun q8 => ?_) (fun q8 => ?_)
            ·
              refine hxj_iinc (by rfl) rfl rfl hk_1 (by omega) (by omega) (fun _ => rfl) (fun z9 ez9 => ?_)
              refine hxa_goto (by rfl) ?_
              exact ih34 x34_2 x34_3 z9 (.int z7) (by omega) (by omega) (by omega) (by omega) (by omega) (by omega) (by omega) (by omega)
            ·
              refine hxa_iload (by rfl) rfl ?_
              refine hxa_iload_n (by rfl) rfl ?_
              refine hxj_cle (by rfl) rfl rfl (fun q10 => ?_) (fun q10 => ?_)
              ·
                refine hxj_iinc (by rfl) rfl rfl hk_1 (by omega) (by omega) (fun _ => rfl) (fun z11 ez11 => ?_)
                refine hxa_goto (by rfl) ?_
                exact ih34 x34_2 x34_3 z11 (.int z7) (by omega) (by omega) (by omega) (by omega) (by omega) (by omega) (by omega) (by omega)
              ·
                refine hxa_iload (by rfl) rfl ?_
                refine hxa_s1 (by rfl) (Or.inl ⟨_, rfl, rfl⟩) rfl ?_
                refine hxa_bipush (by rfl) rfl ?_
                refine hxa_iload (by rfl) rfl ?_
                refine hxj_imul (by rfl) hk_10 rfl (by omega) (by omega) (fun z12 ez12 => ?_)
                refine hxa_iload (by rfl) rfl ?_
                refine hxj_iadd (by rfl) rfl rfl (by omega) (by omega) (fun z13 ez13 => ?_)
                refine hxa_s1 (by rfl) (Or.inl ⟨_, rfl, rfl⟩) rfl ?_
                refine hxj_iinc (by rfl) rfl rfl hk_1 (by omega) (by omega) (fun _ => rfl) (fun z14 ez14 => ?_)
                refine hxa_goto (by rfl) ?_
                exact ih34 z7 z13 z14 (.int z7) (by omega) (by omega) (by omega) (by omega) (by omega) (by omega) (by omega) (by omega)
      refine hxa_iload (by rfl) rfl ?_
      refine hxa_aload_n (by rfl) rfl ?_
      refine hxj_getT (by rfl) (by rfl) (by rfl) (hA.Tw eT0) ?_
      refine hxj_getB (by rfl) (hsT hT0) (by rfl) hA (hbT_4 hT0) (fun z15 ez15 fz15 gz15 => ?_)
      refine hxj_cge (by rfl) rfl rfl (fun q16 => ?_) (fun q16 => ?_)
      ·
        refine hxa_iload_n (by rfl) rfl ?_
        refine hxj_zeq (by rfl) rfl (fun q17 => ?_) (fun q17 => ?_)
        ·
          refine hxa_iload_n (by rfl) rfl ?_
          refine hxa_goto (by rfl) ?_
          exact hxa_ireturn (by rfl) rfl (hP _ _ ⟨rfl, _, rfl⟩)
        ·
          refine hxa_iload_n (by rfl) rfl ?_
          refine hxa_bipush (by rfl) rfl ?_
          refine hxj_cne (by rfl) rfl hk_4294967294 (fun q18 => ?_) (fun q18 => ?_)
          ·
            refine hxa_iload_n (by rfl) rfl ?_
            exact hxa_ireturn (by rfl) rfl (hP _ _ ⟨rfl, _, rfl⟩)
          ·
            refine hxa_iload_n (by rfl) rfl ?_
            refine hxa_goto (by rfl) ?_
            exact hxa_ireturn (by rfl) rfl (hP _ _ ⟨rfl, _, rfl⟩)
      ·
        refine hxa_iconst (by rfl) rfl ?_
        refine hxa_s1 (by rfl) (Or.inr ⟨_, rfl, rfl⟩) rfl ?_
        exact L34 (Int.toNat (10 - 0) + 1) x19_2 x19_3 (Int32.ofNat 0) (x19_6) (by omega) (by omega) (by omega) (by omega) (by omega) (by omega) (by omega) (by omega)
  refine hxa_iload_n (by rfl) rfl ?_
  refine hxa_iconst (by rfl) rfl ?_
  refine hxa_iconst (by rfl) rfl ?_
  refine hxa_call2 (by rfl) (by decide) (by rfl) (by rfl) (by rfl) (hX78 (d := d + 0)  a1 (Int32.ofNat 0) (Int32.ofNat 1)) ?_
  rintro _ _ ⟨rfl, z19, rfl, fz19⟩
  rcases fz19 with fz19 | fz19
  ·
    refine hxj_zne (by rfl) rfl (fun q20 => ?_) (fun q20 => False.elim (by omega))
    refine hxa_iconst (by rfl) rfl ?_
    refine hxa_s1 (by rfl) (Or.inl ⟨_, rfl, rfl⟩) rfl ?_
    refine hxa_bipush (by rfl) rfl ?_
    refine hxa_s1 (by rfl) (Or.inl ⟨_, rfl, rfl⟩) rfl ?_
    refine hxa_iconst (by rfl) rfl ?_
    refine hxa_s1 (by rfl) (Or.inr ⟨_, rfl, rfl⟩) rfl ?_
    exact L19 (Int.toNat (10 - 0) + 1) (Int32.ofNat 0) (Int32.ofNat 4294967294) (Int32.ofNat 0) (.retAddr 0) (.retAddr 0) rfl (by omega) (by omega) (by omega) (by omega) (by omega) (by omega) (by omega) (by omega) (by omega)
  ·
    refine hxj_zne (by rfl) rfl (fun q21 => False.elim (by omega)) (fun q21 => ?_)
    refine hxa_iconst (by rfl) rfl ?_
    exact hxa_ireturn (by rfl) rfl (hP _ _ ⟨rfl, _, rfl⟩)
theorem hX116 {d : Nat} {Bn Br : Int} {A0 A : hs_A} (hA : hJ 0 Bn Br A0 A)  (a1 : Int32) : hxC (d + 2) 116 hm_m116 [.ref 1, .int a1] A (fun r A' => A = A' ∧ ∃ z : Int32, r = some (.int z)) := hxC.of (by rfl) (hY116 hA a1 (fun r A' h => h))
theorem hY117 {d : Nat} {Bn Br : Int} {A0 A : hs_A} (hA : hJ 0 Bn Br A0 A)  (a1 : Int32) {P : Option Value → hs_A → Prop} (hP : ∀ (r : Option Value) (A' : hs_A), (A = A' ∧ ∃ z : Int32, r = some (.int z)) → P r A') : hxa (d + 1) (some (.int)) hm_t117 0 [.ref 1, .int a1] [] A P := by
  have k4294967295 := hk_4294967295
  refine hxa_aload_n (by rfl) rfl ?_
  refine hxa_iload_n (by rfl) rfl ?_
  refine hxa_call0 (by rfl) (by rfl) (by rfl) (by rfl) (by rfl) (by rfl) (hX76 (d := d + 0) hA a1) ?_
  rintro _ _ ⟨rfl, z1, rfl, fz1⟩
  rcases fz1 with fz1 | fz1
  ·
    refine hxj_zeq (by rfl) rfl (fun q2 => False.elim (by omega)) (fun q2 => ?_)
    refine hxa_aload_n (by rfl) rfl ?_
    refine hxa_get (v := .ref 27) (by rfl) (by rfl) (by rfl) rfl ?_
    refine hxa_iload_n (by rfl) rfl ?_
    refine hxa_call0 (by rfl) (by rfl) (by rfl) (by rfl) (by rfl) (by rfl) (hX21 (d := d + 0) hA hL26 a1 (by omega) (by omega)) ?_
    rintro _ _ ⟨rfl, z3, rfl⟩
    refine hxa_goto (by rfl) ?_
    exact hxa_ireturn (by rfl) rfl (hP _ _ ⟨rfl, _, rfl⟩)
  ·
    refine hxj_zeq (by rfl) rfl (fun q4 => ?_) (fun q4 => False.elim (by omega))
    refine hxa_iconst (by rfl) rfl ?_
    exact hxa_ireturn (by rfl) rfl (hP _ _ ⟨rfl, _, rfl⟩)
theorem hX117 {d : Nat} {Bn Br : Int} {A0 A : hs_A} (hA : hJ 0 Bn Br A0 A)  (a1 : Int32) : hxC (d + 2) 117 hm_m117 [.ref 1, .int a1] A (fun r A' => A = A' ∧ ∃ z : Int32, r = some (.int z)) := hxC.of (by rfl) (hY117 hA a1 (fun r A' h => h))
theorem hY119 {d : Nat} {Bn Br : Int} {A0 A : hs_A} (hA : hJ 0 Bn Br A0 A)  (a1 : Int32) (p1 : 0 ≤ a1.toInt) (q1 : a1.toInt ≤ 9) (a2 : Int32) (p2 : 0 ≤ a2.toInt) (q2 : a2.toInt ≤ 9) {P : Option Value → hs_A → Prop} (hP : ∀ (r : Option Value) (A' : hs_A), (hJ 0 Bn Br A0 A' ∧ ∃ z : Int32, r = some (.int z)) → P r A') : hxa (d + 4) (some (.int)) hm_t119 0 [.ref 1, .int a1, .int a2, .retAddr 0] [] A P := by
  have k0 := hk_0
  obtain ⟨T0, hT0, -, eT0⟩ := hA.T
  have L22 : ∀ (m22 : Nat) (x22_3 : Int32) (Ac22 : hs_A) (hAc22 : hJ 0 Bn Br A0 Ac22) (bx22_3 : 0 ≤ x22_3.toInt) (cx22_3 : x22_3.toInt ≤ 48) (hm22 : 48 - x22_3.toInt < (m22 : Int)), hxa (d + 4) (some (.int)) hm_t119 22 [.ref 1, .int a1, .int a2, .int x22_3] [] Ac22 P := by
    intro m22
    induction m22 with
    | zero => intro x22_3 Ac22 hAc22 bx22_3 cx22_3 hm22;  exact False.elim (by omega)
    | succ m22 ih22 =>
      intro x22_3 Ac22 hAc22 bx22_3 cx22_3 hm22
      refine hxa_iload_n (by rfl) rfl ?_
      refine hxa_bipush (by rfl) rfl ?_
      refine hxj_cge (by rfl) rfl hk_48 (fun q1 => ?_) (fun q1 => ?_)
      ·
        refine hxa_aload_n (by rfl) rfl ?_
        refine hxa_get (v := .ref 34) (by rfl) (by rfl) (by rfl) rfl ?_
        refine hxa_call0 (by rfl) (by rfl) (by rfl) (by rfl) (by rfl) (by rfl) (hX30 (d := d + 2) hAc22 hL33) ?_
        rintro _ _ ⟨rfl, z2, rfl⟩
        refine hxa_call2 (by rfl) (by decide) (by rfl) (by rfl) (by rfl) (hX242 (d := d + 3)  z2) ?_
        rintro _ _ ⟨rfl, z3, rfl, fz3⟩
        exact hxa_ireturn (by rfl) rfl (hP _ _ ⟨hAc22, _, rfl⟩)
      ·
        refine hxa_aload_n (by rfl) rfl ?_
        refine hxa_get (v := .ref 34) (by rfl) (by rfl) (by rfl) rfl ?_
        refine hxa_aload_n (by rfl) rfl ?_
        refine hxj_getT (by rfl) (by rfl) (by rfl) (hAc22.Tw eT0) ?_
        refine hxa_aload_n (by rfl) rfl ?_
        refine hxa_get (v := .ref 324) (by rfl) (by rfl) (by rfl) rfl ?_
        refine hxa_iconst (by rfl) rfl ?_
        refine hxa_iconst (by rfl) rfl ?_
        refine hxa_call0 (by rfl) (by rfl) (by rfl) (by rfl) (by rfl) (by rfl) (hX26 (d := d + 0) hAc22 hL33 hT0 eT0 (Int32.ofNat 0) (by omega) (by omega) (Int32.ofNat 0)) ?_
        rintro _ A4 ⟨hA4, rfl⟩
        refine hxj_iinc (by rfl) rfl rfl hk_1 (by omega) (by omega) (fun _ => rfl) (fun z5 ez5 => ?_)
        refine hxa_goto (by rfl) ?_
        exact ih22 z5 A4 hA4 (by omega) (by omega) (by omega)
  refine hxa_aload_n (by rfl) rfl ?_
  refine hxa_get (v := .ref 34) (by rfl) (by rfl) (by rfl) rfl ?_
  refine hxa_aload_n (by rfl) rfl ?_
  refine hxa_get (v := .ref 27) (by rfl) (by rfl) (by rfl) rfl ?_
  refine hxa_call0 (by rfl) (by rfl) (by rfl) (by rfl) (by rfl) (by rfl) (hX17 (d := d + 3) hA hL33 hL26) ?_
  rintro _ A6 ⟨hA6, rfl⟩
  refine hxa_aload_n (by rfl) rfl ?_
  refine hxa_get (v := .ref 34) (by rfl) (by rfl) (by rfl) rfl ?_
  refine hxa_iload_n (by rfl) rfl ?_
  refine hxa_iload_n (by rfl) rfl ?_
  refine hxa_call0 (by rfl) (by rfl) (by rfl) (by rfl) (by rfl) (by rfl) (hX24 (d := d + 2) hA6 hL33 a1 (by omega) (by omega) a2 (by omega) (by omega)) ?_
  rintro _ A7 ⟨hA7, rfl⟩
  refine hxa_iconst (by rfl) rfl ?_
  refine hxa_s1 (by rfl) (Or.inl ⟨_, rfl, rfl⟩) rfl ?_
  exact L22 (Int.toNat (48 - 0) + 1) (Int32.ofNat 0) A7 hA7 (by omega) (by omega) (by omega)
theorem hX119 {d : Nat} {Bn Br : Int} {A0 A : hs_A} (hA : hJ 0 Bn Br A0 A)  (a1 : Int32) (p1 : 0 ≤ a1.toInt) (q1 : a1.toInt ≤ 9) (a2 : Int32) (p2 : 0 ≤ a2.toInt) (q2 : a2.toInt ≤ 9) : hxC (d + 5) 119 hm_m119 [.ref 1, .int a1, .int a2] A (fun r A' => hJ 0 Bn Br A0 A' ∧ ∃ z : Int32, r = some (.int z)) := hxC.of (by rfl) (hY119 hA a1 p1 q1 a2 p2 q2 (fun r A' h => h))
theorem hY118 {d : Nat} {Bn Br : Int} {A0 A : hs_A} (hA : hJ 0 Bn Br A0 A)  (a1 : Int32) {P : Option Value → hs_A → Prop} (hP : ∀ (r : Option Value) (A' : hs_A), (hJ 0 Bn Br A0 A' ∧ ∃ z : Int32, r = some (.int z)) → P r A') : hxa (d + 5) (some (.int)) hm_t118 0 [.ref 1, .int a1, .retAddr 0, .retAddr 0, .retAddr 0, .retAddr 0, .retAddr 0] [] A P := by
  have k0 := hk_0
  have k1 := hk_1
  have k4294967294 := hk_4294967294
  have k4294967295 := hk_4294967295
  obtain ⟨T0, hT0, -, eT0⟩ := hA.T
  have L24 : ∀ (m24 : Nat) (x24_2 : Int32) (x24_3 : Int32) (x24_4 : Int32) (x24_5 : Value) (x24_6 : Value) (Ac24 : hs_A) (hx24_5 : hc_two (some x24_5) = false) (hAc24 : hJ 0 Bn Br A0 Ac24) (bx24_3 : -2 ≤ x24_3.toInt) (cx24_3 : x24_3.toInt ≤ 255) (bx24_4 : 0 ≤ x24_4.toInt) (cx24_4 : x24_4.toInt ≤ 10) (ba1 : 0 ≤ a1.toInt) (ca1 : a1.toInt ≤ 1) (hm24 : 10 - x24_4.toInt < (m24 : Int)), hxa (d + 5) (some (.int)) hm_t118 24 [.ref 1, .int a1, .int x24_2, .int x24_3, .int x24_4, x24_5, x24_6] [] Ac24 P := by
    intro m24
    induction m24 with
    | zero => intro x24_2 x24_3 x24_4 x24_5 x24_6 Ac24 hx24_5 hAc24 bx24_3 cx24_3 bx24_4 cx24_4 ba1 ca1 hm24; have := hn_rng x24_2; exact False.elim (by omega)
    | succ m24 ih24 =>
      intro x24_2 x24_3 x24_4 x24_5 x24_6 Ac24 hx24_5 hAc24 bx24_3 cx24_3 bx24_4 cx24_4 ba1 ca1 hm24
      have L42 : ∀ (m42 : Nat) (x42_2 : Int32) (x42_3 : Int32) (x42_5 : Int32) (x42_6 : Value) (Ac42 : hs_A) (hAc42 : hJ 0 Bn Br A0 Ac42) (bx42_3 : -2 ≤ x42_3.toInt) (cx42_3 : x42_3.toInt ≤ 255) (bx42_5 : 1 ≤ x42_5.toInt) (cx42_5 : x42_5.toInt ≤ 10) (cx24_4 : x24_4.toInt ≤ 9) (hm42 : 10 - x42_5.toInt < (m42 : Int)), hxa (d + 5) (some (.int)) hm_t118 42 [.ref 1, .int a1, .int x42_2, .int x42_3, .int x24_4, .int x42_5, x42_6] [] Ac42 P := by
        intro m42
        induction m42 with
        | zero => intro x42_2 x42_3 x42_5 x42_6 Ac42 hAc42 bx42_3 cx42_3 bx42_5 cx42_5 cx24_4 hm42; have := hn_rng x42_2; exact False.elim (by omega)
        | succ m42 ih42 =>
          intro x42_2 x42_3 x42_5 x42_6 Ac42 hAc42 bx42_3 cx42_3 bx42_5 cx42_5 cx24_4 hm42
          refine hxa_iload (by rfl) rfl ?_
          refine hxa_aload_n (by rfl) rfl ?_
          refine hxj_getT (by rfl) (by rfl) (by rfl) (hAc42.Tw eT0) ?_
          refine hxj_getB (by rfl) (hsT hT0) (by rfl) hAc42 (hbT_4 hT0) (fun z1 ez1 fz1 gz1 => ?_)
          refine hxj_cge (by rfl) rfl rfl (fun q2 => ?_) (fun q2 => ?_)
          ·
            refine hxj_iinc (by rfl) rfl rfl hk_1 (by omega) (by omega) (fun _ => rfl) (fun z3 ez3 => ?_)
            refine hxa_goto (by rfl) ?_
            exact ih24 x42_2 x42_3 z3 (.int x42_5) (x42_6) Ac42 rfl hAc42 (by omega) (by omega) (by omega) (by omega) (by omega) (by omega) (by omega)
          ·
            refine hxa_iload_n (by rfl) rfl ?_
            refine hxa_aload_n (by rfl) rfl ?_
            refine hxj_getT (by rfl) (by rfl) (by rfl) (hAc42.Tw eT0) ?_
            refine hxj_getK (by rfl) (hsT hT0) (by rfl) ez1 ?_
            have rgx42_2 := hn_rng x42_2
            refine hxj_cge (by rfl) rfl rfl (fun q4 => ?_) (fun q4 => ?_)
            ·
              refine hxj_iinc (by rfl) rfl rfl hk_1 (by omega) (by omega) (fun _ => rfl) (fun z5 ez5 => ?_)
              refine hxa_goto (by rfl) ?_
              exact ih24 x42_2 x42_3 z5 (.int x42_5) (x42_6) Ac42 rfl hAc42 (by omega) (by omega) (by omega) (by omega) (by omega) (by omega) (by omega)
            ·
              refine hxa_aload_n (by rfl) rfl ?_
              refine hxa_iload (by rfl) rfl ?_
              refine hxa_iload (by rfl) rfl ?_
              refine hxa_call0 (by rfl) (by rfl) (by rfl) (by rfl) (by rfl) (by rfl) (hX119 (d := d + 0) hAc42 x24_4 (by omega) (by omega) x42_5 (by omega) (by omega)) ?_
              rintro _ A6 ⟨hA6, z7, rfl⟩
              refine hxa_s1 (by rfl) (Or.inr ⟨_, rfl, rfl⟩) rfl ?_
              refine hxa_iload (by rfl) rfl ?_
              refine hxa_iload_n (by rfl) rfl ?_
              have rgz7 := hn_rng z7
              refine hxj_cle (by rfl) rfl rfl (fun q8 => ?_) (fun q8 => ?_)
              ·
                refine hxj_iinc (by rfl) rfl rfl hk_1 (by omega) (by omega) (fun _ => rfl) (fun z9 ez9 => ?_)
                refine hxa_goto (by rfl) ?_
                exact ih42 x42_2 x42_3 z9 (.int z7) A6 hA6 (by omega) (by omega) (by omega) (by omega) (by omega) (by omega)
              ·
                refine hxa_iload (by rfl) rfl ?_
                refine hxa_s1 (by rfl) (Or.inl ⟨_, rfl, rfl⟩) rfl ?_
                refine hxa_bipush (by rfl) rfl ?_
                refine hxa_iload (by rfl) rfl ?_
                refine hxj_imul (by rfl) hk_10 rfl (by omega) (by omega) (fun z10 ez10 => ?_)
                refine hxa_iload (by rfl) rfl ?_
                refine hxj_iadd (by rfl) rfl rfl (by omega) (by omega) (fun z11 ez11 => ?_)
                refine hxa_s1 (by rfl) (Or.inl ⟨_, rfl, rfl⟩) rfl ?_
                refine hxj_iinc (by rfl) rfl rfl hk_1 (by omega) (by omega) (fun _ => rfl) (fun z12 ez12 => ?_)
                refine hxa_goto (by rfl) ?_
                exact ih42 z7 z11 z12 (.int z7) A6 hA6 (by omega) (by omega) (by omega) (by omega) (by omega) (by omega)
      refine hxa_iload (by rfl) rfl ?_
      refine hxa_aload_n (by rfl) rfl ?_
      refine hxj_getT (by rfl) (by rfl) (by rfl) (hAc24.Tw eT0) ?_
      refine hxj_getB (by rfl) (hsT hT0) (by rfl) hAc24 (hbT_4 hT0) (fun z13 ez13 fz13 gz13 => ?_)
      refine hxj_cge (by rfl) rfl rfl (fun q14 => ?_) (fun q14 => ?_)
      ·
        refine hxa_iload_n (by rfl) rfl ?_
        refine hxj_zeq (by rfl) rfl (fun q15 => ?_) (fun q15 => ?_)
        ·
          refine hxa_iload_n (by rfl) rfl ?_
          refine hxa_goto (by rfl) ?_
          exact hxa_ireturn (by rfl) rfl (hP _ _ ⟨hAc24, _, rfl⟩)
        ·
          refine hxa_iload_n (by rfl) rfl ?_
          refine hxa_bipush (by rfl) rfl ?_
          refine hxj_cne (by rfl) rfl hk_4294967294 (fun q16 => ?_) (fun q16 => ?_)
          ·
            refine hxa_iload_n (by rfl) rfl ?_
            exact hxa_ireturn (by rfl) rfl (hP _ _ ⟨hAc24, _, rfl⟩)
          ·
            refine hxa_iload_n (by rfl) rfl ?_
            refine hxa_goto (by rfl) ?_
            exact hxa_ireturn (by rfl) rfl (hP _ _ ⟨hAc24, _, rfl⟩)
      ·
        refine hxa_iload (by rfl) rfl ?_
        refine hxa_iconst (by rfl) rfl ?_
        refine hxj_iadd (by rfl) rfl hk_1 (by omega) (by omega) (fun z17 ez17 => ?_)
        refine hxa_s1 (by rfl) (Or.inr ⟨_, rfl, rfl⟩) rfl ?_
        exact L42 (Int.toNat (10 - z17.toInt) + 1) x24_2 x24_3 z17 (x24_6) Ac24 hAc24 (by omega) (by omega) (by omega) (by omega) (by omega) (by omega)
  refine hxa_iload_n (by rfl) rfl ?_
  refine hxa_iconst (by rfl) rfl ?_
  refine hxa_iconst (by rfl) rfl ?_
  refine hxa_call2 (by rfl) (by decide) (by rfl) (by rfl) (by rfl) (hX78 (d := d + 4)  a1 (Int32.ofNat 0) (Int32.ofNat 1)) ?_
  rintro _ _ ⟨rfl, z18, rfl, fz18⟩
  rcases fz18 with fz18 | fz18
  ·
    refine hxj_zne (by rfl) rfl (fun q19 => ?_) (fun q19 => False.elim (by omega))
    refine hxa_aload_n (by rfl) rfl ?_
    refine hxa_iconst (by rfl) rfl ?_
    refine hxa_iconst (by rfl) rfl ?_
    refine hxa_call0 (by rfl) (by rfl) (by rfl) (by rfl) (by rfl) (by rfl) (hX119 (d := d + 0) hA (Int32.ofNat 0) (by omega) (by omega) (Int32.ofNat 0) (by omega) (by omega)) ?_
    rintro _ A20 ⟨hA20, z21, rfl⟩
    refine hxa_s1 (by rfl) (Or.inl ⟨_, rfl, rfl⟩) rfl ?_
    refine hxa_bipush (by rfl) rfl ?_
    refine hxa_s1 (by rfl) (Or.inl ⟨_, rfl, rfl⟩) rfl ?_
    refine hxa_iconst (by rfl) rfl ?_
    refine hxa_s1 (by rfl) (Or.inr ⟨_, rfl, rfl⟩) rfl ?_
    exact L24 (Int.toNat (10 - 0) + 1) z21 (Int32.ofNat 4294967294) (Int32.ofNat 0) (.retAddr 0) (.retAddr 0) A20 rfl hA20 (by omega) (by omega) (by omega) (by omega) (by omega) (by omega) (by omega)
  ·
    refine hxj_zne (by rfl) rfl (fun q22 => False.elim (by omega)) (fun q22 => ?_)
    refine hxa_iconst (by rfl) rfl ?_
    exact hxa_ireturn (by rfl) rfl (hP _ _ ⟨hA, _, rfl⟩)
theorem hX118 {d : Nat} {Bn Br : Int} {A0 A : hs_A} (hA : hJ 0 Bn Br A0 A)  (a1 : Int32) : hxC (d + 6) 118 hm_m118 [.ref 1, .int a1] A (fun r A' => hJ 0 Bn Br A0 A' ∧ ∃ z : Int32, r = some (.int z)) := hxC.of (by rfl) (hY118 hA a1 (fun r A' h => h))
theorem hY120 {d : Nat} {Bn Br : Int} {A0 A : hs_A} (hA : hJ 0 Bn Br A0 A)  (a1 : Int32) {P : Option Value → hs_A → Prop} (hP : ∀ (r : Option Value) (A' : hs_A), (A = A' ∧ ∃ z : Int32, r = some (.int z)) → P r A') : hxa (d + 1) (some (.int)) hm_t120 0 [.ref 1, .int a1, .retAddr 0, .retAddr 0] [] A P := by
  have k0 := hk_0
  have k4294967295 := hk_4294967295
  have L14 : ∀ (m14 : Nat) (x14_2 : Int32) (x14_3 : Int32) (bx14_3 : 0 ≤ x14_3.toInt) (cx14_3 : x14_3.toInt ≤ 10) (ba1 : 0 ≤ a1.toInt) (ca1 : a1.toInt ≤ 9) (hm14 : 10 - x14_3.toInt < (m14 : Int)), hxa (d + 1) (some (.int)) hm_t120 14 [.ref 1, .int a1, .int x14_2, .int x14_3] [] A P := by
    intro m14
    induction m14 with
    | zero => intro x14_2 x14_3 bx14_3 cx14_3 ba1 ca1 hm14; have := hn_rng x14_2; exact False.elim (by omega)
    | succ m14 ih14 =>
      intro x14_2 x14_3 bx14_3 cx14_3 ba1 ca1 hm14
      refine hxa_iload_n (by rfl) rfl ?_
      refine hxa_iload_n (by rfl) rfl ?_
      refine hxj_cgt (by rfl) rfl rfl (fun q1 => ?_) (fun q1 => ?_)
      ·
        refine hxa_iload_n (by rfl) rfl ?_
        exact hxa_ireturn (by rfl) rfl (hP _ _ ⟨rfl, _, rfl⟩)
      ·
        refine hxa_aload_n (by rfl) rfl ?_
        refine hxa_get (v := .ref 27) (by rfl) (by rfl) (by rfl) rfl ?_
        refine hxa_iload_n (by rfl) rfl ?_
        refine hxa_call0 (by rfl) (by rfl) (by rfl) (by rfl) (by rfl) (by rfl) (hX18 (d := d + 0) hA hL26 x14_3) ?_
        rintro _ _ ⟨rfl, z2, rfl, fz2⟩
        refine hxj_zne (by rfl) rfl (fun q3 => ?_) (fun q3 => ?_)
        ·
          refine hxj_iinc (by rfl) rfl rfl hk_1 (by omega) (by omega) (fun _ => rfl) (fun z4 ez4 => ?_)
          refine hxa_goto (by rfl) ?_
          exact ih14 x14_2 z4 (by omega) (by omega) (by omega) (by omega) (by omega)
        ·
          refine hxj_iincU (by rfl) rfl (fun _ => rfl) (fun z5 => ?_)
          refine hxj_iinc (by rfl) rfl rfl hk_1 (by omega) (by omega) (fun _ => rfl) (fun z6 ez6 => ?_)
          refine hxa_goto (by rfl) ?_
          exact ih14 z5 z6 (by omega) (by omega) (by omega) (by omega) (by omega)
  refine hxa_aload_n (by rfl) rfl ?_
  refine hxa_iload_n (by rfl) rfl ?_
  refine hxa_call0 (by rfl) (by rfl) (by rfl) (by rfl) (by rfl) (by rfl) (hX76 (d := d + 0) hA a1) ?_
  rintro _ _ ⟨rfl, z7, rfl, fz7⟩
  rcases fz7 with fz7 | fz7
  ·
    refine hxj_zne (by rfl) rfl (fun q8 => ?_) (fun q8 => False.elim (by omega))
    refine hxa_iconst (by rfl) rfl ?_
    refine hxa_s1 (by rfl) (Or.inl ⟨_, rfl, rfl⟩) rfl ?_
    refine hxa_iconst (by rfl) rfl ?_
    refine hxa_s1 (by rfl) (Or.inl ⟨_, rfl, rfl⟩) rfl ?_
    exact L14 (Int.toNat (10 - 0) + 1) (Int32.ofNat 0) (Int32.ofNat 0) (by omega) (by omega) (by omega) (by omega) (by omega)
  ·
    refine hxj_zne (by rfl) rfl (fun q9 => False.elim (by omega)) (fun q9 => ?_)
    refine hxa_iconst (by rfl) rfl ?_
    exact hxa_ireturn (by rfl) rfl (hP _ _ ⟨rfl, _, rfl⟩)
theorem hX120 {d : Nat} {Bn Br : Int} {A0 A : hs_A} (hA : hJ 0 Bn Br A0 A)  (a1 : Int32) : hxC (d + 2) 120 hm_m120 [.ref 1, .int a1] A (fun r A' => A = A' ∧ ∃ z : Int32, r = some (.int z)) := hxC.of (by rfl) (hY120 hA a1 (fun r A' h => h))
theorem hY121 {d : Nat} {Bn Br : Int} {A0 A : hs_A} (hA : hJ 0 Bn Br A0 A)  (a1 : Int32) (a2 : Int32) (a3 : Int32) {P : Option Value → hs_A → Prop} (hP : ∀ (r : Option Value) (A' : hs_A), (hJ 0 Bn Br A0 A' ∧ ∃ z : Int32, r = some (.int z)) → P r A') : hxa (d + 5) (some (.int)) hm_t121 0 [.ref 1, .int a1, .int a2, .int a3, .retAddr 0, .retAddr 0] [] A P := by
  have k0 := hk_0
  have k1 := hk_1
  have k20 := hk_20
  have k4294967295 := hk_4294967295
  have k72 := hk_72
  obtain ⟨T0, hT0, -, eT0⟩ := hA.T
  have L36 : ∀ (m36 : Nat) (x36_4 : Int32) (x36_5 : Int32) (Ac36 : hs_A) (hAc36 : hJ 0 Bn Br A0 Ac36) (bx36_5 : 0 ≤ x36_5.toInt) (cx36_5 : x36_5.toInt ≤ 20) (ba1 : 0 ≤ a1.toInt) (ca1 : a1.toInt ≤ 9) (ba2 : 0 ≤ a2.toInt) (ca2 : a2.toInt ≤ 72) (ba3 : 1 ≤ a3.toInt) (ca3 : a3.toInt ≤ 20) (hm36 : 20 - x36_5.toInt < (m36 : Int)), hxa (d + 5) (some (.int)) hm_t121 36 [.ref 1, .int a1, .int a2, .int a3, .int x36_4, .int x36_5] [] Ac36 P := by
    intro m36
    induction m36 with
    | zero => intro x36_4 x36_5 Ac36 hAc36 bx36_5 cx36_5 ba1 ca1 ba2 ca2 ba3 ca3 hm36; have := hn_rng x36_4; exact False.elim (by omega)
    | succ m36 ih36 =>
      intro x36_4 x36_5 Ac36 hAc36 bx36_5 cx36_5 ba1 ca1 ba2 ca2 ba3 ca3 hm36
      refine hxa_iload (by rfl) rfl ?_
      refine hxa_iload_n (by rfl) rfl ?_
      refine hxj_cge (by rfl) rfl rfl (fun q1 => ?_) (fun q1 => ?_)
      ·
        refine hxa_iload (by rfl) rfl ?_
        exact hxa_ireturn (by rfl) rfl (hP _ _ ⟨hAc36, _, rfl⟩)
      ·
        refine hxa_aload_n (by rfl) rfl ?_
        refine hxa_iload_n (by rfl) rfl ?_
        refine hxa_iconst (by rfl) rfl ?_
        refine hxa_aload_n (by rfl) rfl ?_
        refine hxj_getT (by rfl) (by rfl) (by rfl) (hAc36.Tw eT0) ?_
        refine hxj_getI (by rfl) (hsT hT0) (by rfl) (fun z2 ez2 => ?_)
        refine hxa_iload (by rfl) rfl ?_
        refine hxj_iaddU (by rfl) (fun z3 => ?_)
        refine hxa_call0 (by rfl) (by rfl) (by rfl) (by rfl) (by rfl) (by rfl) (hX107 (d := d + 0) hAc36 a2 (Int32.ofNat 1) (by omega) (by omega) z3) ?_
        rintro _ A4 ⟨hA4, rfl⟩
        refine hxa_aload_n (by rfl) rfl ?_
        refine hxa_get (v := .ref 34) (by rfl) (by rfl) (by rfl) rfl ?_
        refine hxa_iload_n (by rfl) rfl ?_
        refine hxa_call0 (by rfl) (by rfl) (by rfl) (by rfl) (by rfl) (by rfl) (hX21 (d := d + 4) hA4 hL33 a1 (by omega) (by omega)) ?_
        rintro _ _ ⟨rfl, z5, rfl⟩
        refine hxj_zne (by rfl) rfl (fun q6 => ?_) (fun q6 => ?_)
        ·
          refine hxj_iinc (by rfl) rfl rfl hk_1 (by omega) (by omega) (fun _ => rfl) (fun z7 ez7 => ?_)
          refine hxa_goto (by rfl) ?_
          exact ih36 x36_4 z7 A4 hA4 (by omega) (by omega) (by omega) (by omega) (by omega) (by omega) (by omega) (by omega) (by omega)
        ·
          refine hxj_iincU (by rfl) rfl (fun _ => rfl) (fun z8 => ?_)
          refine hxj_iinc (by rfl) rfl rfl hk_1 (by omega) (by omega) (fun _ => rfl) (fun z9 ez9 => ?_)
          refine hxa_goto (by rfl) ?_
          exact ih36 z8 z9 A4 hA4 (by omega) (by omega) (by omega) (by omega) (by omega) (by omega) (by omega) (by omega) (by omega)
  refine hxa_aload_n (by rfl) rfl ?_
  refine hxa_iload_n (by rfl) rfl ?_
  refine hxa_call0 (by rfl) (by rfl) (by rfl) (by rfl) (by rfl) (by rfl) (hX76 (d := d + 4) hA a1) ?_
  rintro _ _ ⟨rfl, z10, rfl, fz10⟩
  rcases fz10 with fz10 | fz10
  ·
    refine hxj_zeq (by rfl) rfl (fun q11 => False.elim (by omega)) (fun q11 => ?_)
    refine hxa_iload_n (by rfl) rfl ?_
    refine hxa_iconst (by rfl) rfl ?_
    refine hxa_bipush (by rfl) rfl ?_
    refine hxa_call2 (by rfl) (by decide) (by rfl) (by rfl) (by rfl) (hX78 (d := d + 4)  a2 (Int32.ofNat 0) (Int32.ofNat 72)) ?_
    rintro _ _ ⟨rfl, z12, rfl, fz12⟩
    rcases fz12 with fz12 | fz12
    ·
      refine hxj_zeq (by rfl) rfl (fun q13 => False.elim (by omega)) (fun q13 => ?_)
      refine hxa_iload_n (by rfl) rfl ?_
      refine hxa_iconst (by rfl) rfl ?_
      refine hxa_bipush (by rfl) rfl ?_
      refine hxa_call2 (by rfl) (by decide) (by rfl) (by rfl) (by rfl) (hX78 (d := d + 4)  a3 (Int32.ofNat 1) (Int32.ofNat 20)) ?_
      rintro _ _ ⟨rfl, z14, rfl, fz14⟩
      rcases fz14 with fz14 | fz14
      ·
        refine hxj_zne (by rfl) rfl (fun q15 => ?_) (fun q15 => False.elim (by omega))
        refine hxa_iconst (by rfl) rfl ?_
        refine hxa_s1 (by rfl) (Or.inr ⟨_, rfl, rfl⟩) rfl ?_
        refine hxa_iconst (by rfl) rfl ?_
        refine hxa_s1 (by rfl) (Or.inr ⟨_, rfl, rfl⟩) rfl ?_
        exact L36 (Int.toNat (20 - 0) + 1) (Int32.ofNat 0) (Int32.ofNat 0) A hA (by omega) (by omega) (by omega) (by omega) (by omega) (by omega) (by omega) (by omega) (by omega)
      ·
        refine hxj_zne (by rfl) rfl (fun q16 => False.elim (by omega)) (fun q16 => ?_)
        refine hxa_iconst (by rfl) rfl ?_
        exact hxa_ireturn (by rfl) rfl (hP _ _ ⟨hA, _, rfl⟩)
    ·
      refine hxj_zeq (by rfl) rfl (fun q17 => ?_) (fun q17 => False.elim (by omega))
      refine hxa_iconst (by rfl) rfl ?_
      exact hxa_ireturn (by rfl) rfl (hP _ _ ⟨hA, _, rfl⟩)
  ·
    refine hxj_zeq (by rfl) rfl (fun q18 => ?_) (fun q18 => False.elim (by omega))
    refine hxa_iconst (by rfl) rfl ?_
    exact hxa_ireturn (by rfl) rfl (hP _ _ ⟨hA, _, rfl⟩)
theorem hX121 {d : Nat} {Bn Br : Int} {A0 A : hs_A} (hA : hJ 0 Bn Br A0 A)  (a1 : Int32) (a2 : Int32) (a3 : Int32) : hxC (d + 6) 121 hm_m121 [.ref 1, .int a1, .int a2, .int a3] A (fun r A' => hJ 0 Bn Br A0 A' ∧ ∃ z : Int32, r = some (.int z)) := hxC.of (by rfl) (hY121 hA a1 a2 a3 (fun r A' h => h))
theorem hY122 {d : Nat} {Bn Br : Int} {A0 A : hs_A} (hA : hJ 0 Bn Br A0 A)  (a1 : Int32) (a2 : Int32) {P : Option Value → hs_A → Prop} (hP : ∀ (r : Option Value) (A' : hs_A), (hJ 0 Bn Br A0 A' ∧ ∃ z : Int32, r = some (.int z)) → P r A') : hxa (d + 1) (some (.int)) hm_t122 0 [.ref 1, .int a1, .int a2] [] A P := by
  have k4294967295 := hk_4294967295
  refine hxa_aload_n (by rfl) rfl ?_
  refine hxa_iload_n (by rfl) rfl ?_
  refine hxa_call0 (by rfl) (by rfl) (by rfl) (by rfl) (by rfl) (by rfl) (hX76 (d := d + 0) hA a1) ?_
  rintro _ _ ⟨rfl, z1, rfl, fz1⟩
  rcases fz1 with fz1 | fz1
  ·
    refine hxj_zeq (by rfl) rfl (fun q2 => False.elim (by omega)) (fun q2 => ?_)
    refine hxa_iload_n (by rfl) rfl ?_
    refine hxa_call2 (by rfl) (by decide) (by rfl) (by rfl) (by rfl) (hX77 (d := d + 0)  a2) ?_
    rintro _ _ ⟨rfl, z3, rfl, fz3⟩
    rcases fz3 with fz3 | fz3
    ·
      refine hxj_zne (by rfl) rfl (fun q4 => ?_) (fun q4 => False.elim (by omega))
      refine hxa_aload_n (by rfl) rfl ?_
      refine hxa_get (v := .ref 341) (by rfl) (by rfl) (by rfl) rfl ?_
      refine hxa_iload_n (by rfl) rfl ?_
      refine hxa_iload_n (by rfl) rfl ?_
      refine hxa_call0 (by rfl) (by rfl) (by rfl) (by rfl) (by rfl) (by rfl) (hX65 (d := d + 0) hA a1 (by omega) (by omega) a2) ?_
      rintro _ A5 ⟨hA5, z6, rfl⟩
      exact hxa_ireturn (by rfl) rfl (hP _ _ ⟨hA5, _, rfl⟩)
    ·
      refine hxj_zne (by rfl) rfl (fun q7 => False.elim (by omega)) (fun q7 => ?_)
      refine hxa_iconst (by rfl) rfl ?_
      exact hxa_ireturn (by rfl) rfl (hP _ _ ⟨hA, _, rfl⟩)
  ·
    refine hxj_zeq (by rfl) rfl (fun q8 => ?_) (fun q8 => False.elim (by omega))
    refine hxa_iconst (by rfl) rfl ?_
    exact hxa_ireturn (by rfl) rfl (hP _ _ ⟨hA, _, rfl⟩)
theorem hX122 {d : Nat} {Bn Br : Int} {A0 A : hs_A} (hA : hJ 0 Bn Br A0 A)  (a1 : Int32) (a2 : Int32) : hxC (d + 2) 122 hm_m122 [.ref 1, .int a1, .int a2] A (fun r A' => hJ 0 Bn Br A0 A' ∧ ∃ z : Int32, r = some (.int z)) := hxC.of (by rfl) (hY122 hA a1 a2 (fun r A' h => h))
theorem hY123 {d : Nat} {Bn Br : Int} {A0 A : hs_A} (hA : hJ 0 Bn Br A0 A)   {P : Option Value → hs_A → Prop} (hP : ∀ (r : Option Value) (A' : hs_A), (hJ 0 Bn Br A0 A' ∧ ∃ z : Int32, r = some (.int z)) → P r A') : hxa (d + 0) (some (.int)) hm_t123 0 [.ref 1, .retAddr 0] [] A P := by
  refine hxa_aload_n (by rfl) rfl ?_
  refine hxa_get (v := .ref 341) (by rfl) (by rfl) (by rfl) rfl ?_
  refine hxj_getB (by rfl) (by rfl) (by rfl) hA (by rfl) (fun z1 ez1 fz1 gz1 => ?_)
  refine hxa_s1 (by rfl) (Or.inl ⟨_, rfl, rfl⟩) rfl ?_
  refine hxa_aload_n (by rfl) rfl ?_
  refine hxa_get (v := .ref 341) (by rfl) (by rfl) (by rfl) rfl ?_
  refine hxa_iconst (by rfl) rfl ?_
  refine hxj_putI (by rfl) (by rfl) (by rfl) (by rfl) hA (hbok (by rfl) hk_0 (by omega) (by omega)) (by rfl) (by rfl) (fun A2 hA2 eA2 fA2 => ?_)
  refine hxa_iload_n (by rfl) rfl ?_
  exact hxa_ireturn (by rfl) rfl (hP _ _ ⟨hA2, _, rfl⟩)
theorem hX123 {d : Nat} {Bn Br : Int} {A0 A : hs_A} (hA : hJ 0 Bn Br A0 A)   : hxC (d + 1) 123 hm_m123 [.ref 1] A (fun r A' => hJ 0 Bn Br A0 A' ∧ ∃ z : Int32, r = some (.int z)) := hxC.of (by rfl) (hY123 hA  (fun r A' h => h))
theorem hY124 {d : Nat} {Bn Br : Int} {A0 A : hs_A} (hA : hJ 0 Bn Br A0 A)  (a1 : Int32) {P : Option Value → hs_A → Prop} (hP : ∀ (r : Option Value) (A' : hs_A), (hJ 0 Bn Br A0 A' ∧ ∃ z : Int32, r = some (.int z) ∧ ((0 ≤ z.toInt ∧ z.toInt ≤ 256))) → P r A') : hxa (d + 6) (some (.int)) hm_t124 0 [.ref 1, .int a1, .retAddr 0, .retAddr 0, .retAddr 0, .retAddr 0, .retAddr 0] [] A P := by
  have k0 := hk_0
  have k256 := hk_256
  have L28 : ∀ (m28 : Nat) (x28_2 : Int32) (x28_3 : Int32) (x28_4 : Value) (x28_5 : Value) (x28_6 : Value) (Ac28 : hs_A) (hx28_4 : hc_two (some x28_4) = false) (hx28_5 : hc_two (some x28_5) = false) (hAc28 : hJ 0 Bn Br A0 Ac28) (bx28_2 : 0 ≤ x28_2.toInt) (cx28_2 : x28_2.toInt ≤ 256) (bx28_3 : 0 ≤ x28_3.toInt) (cx28_3 : x28_3.toInt ≤ 20) (hm28 : 20 - x28_3.toInt < (m28 : Int)), hxa (d + 6) (some (.int)) hm_t124 28 [.ref 1, .int a1, .int x28_2, .int x28_3, x28_4, x28_5, x28_6] [] Ac28 P := by
    intro m28
    induction m28 with
    | zero => intro x28_2 x28_3 x28_4 x28_5 x28_6 Ac28 hx28_4 hx28_5 hAc28 bx28_2 cx28_2 bx28_3 cx28_3 hm28;  exact False.elim (by omega)
    | succ m28 ih28 =>
      intro x28_2 x28_3 x28_4 x28_5 x28_6 Ac28 hx28_4 hx28_5 hAc28 bx28_2 cx28_2 bx28_3 cx28_3 hm28
      have L60 : ∀ (m60 : Nat) (x60_4 : Nat) (x60_5 : Int32) (x60_6 : Int32) (Ac60 : hs_A) (hx60_4 : hRR x60_4) (hAc60 : hJ 0 Bn Br A0 Ac60) (bx60_5 : 0 ≤ x60_5.toInt) (cx60_5 : x60_5.toInt ≤ 256) (bx60_6 : 0 ≤ x60_6.toInt) (cx60_6 : x60_6.toInt ≤ 256) (cx28_3 : x28_3.toInt ≤ 19) (ba1 : 1 ≤ a1.toInt) (u60_0 : x60_5.toInt ≤ x60_6.toInt) (hm60 : 256 - x60_6.toInt < (m60 : Int)), hxa (d + 6) (some (.int)) hm_t124 60 [.ref 1, .int a1, .int x28_2, .int x28_3, .ref (x60_4 + 1), .int x60_5, .int x60_6] [] Ac60 P := by
        intro m60
        induction m60 with
        | zero => intro x60_4 x60_5 x60_6 Ac60 hx60_4 hAc60 bx60_5 cx60_5 bx60_6 cx60_6 cx28_3 ba1 u60_0 hm60;  exact False.elim (by omega)
        | succ m60 ih60 =>
          intro x60_4 x60_5 x60_6 Ac60 hx60_4 hAc60 bx60_5 cx60_5 bx60_6 cx60_6 cx28_3 ba1 u60_0 hm60
          refine hxa_iload (by rfl) rfl ?_
          refine hxa_iload_n (by rfl) rfl ?_
          refine hxj_cge (by rfl) rfl rfl (fun q1 => ?_) (fun q1 => ?_)
          ·
            refine hxa_iload (by rfl) rfl ?_
            refine hxa_s1 (by rfl) (Or.inl ⟨_, rfl, rfl⟩) rfl ?_
            refine hxj_iinc (by rfl) rfl rfl hk_1 (by omega) (by omega) (fun _ => rfl) (fun z2 ez2 => ?_)
            refine hxa_goto (by rfl) ?_
            exact ih28 x60_5 z2 (.ref (x60_4 + 1)) (.int x60_5) (.int x60_6) Ac60 rfl rfl hAc60 (by omega) (by omega) (by omega) (by omega) (by omega)
          ·
            refine hxa_aload (by rfl) rfl ?_
            refine hxa_aload_n (by rfl) rfl ?_
            refine hxa_get (v := .ref 344) (by rfl) (by rfl) (by rfl) rfl ?_
            refine hxa_iload (by rfl) rfl ?_
            refine hxj_ialdB (by rfl) (by rfl) rfl (by omega) (by omega) hAc60 (by rfl) (fun z3 ez3 fz3 gz3 => ?_)
            refine hxj_iald (by rfl) (hsR hx60_4) rfl (by omega) (by omega) (fun z4 ez4 => ?_)
            refine hxa_aload_n (by rfl) rfl ?_
            refine hxa_get (v := .ref 341) (by rfl) (by rfl) (by rfl) rfl ?_
            refine hxa_get (v := .ref 343) (by rfl) (by rfl) (by rfl) rfl ?_
            refine hxa_iload_n (by rfl) rfl ?_
            refine hxj_iald (by rfl) (by rfl) rfl (by omega) (by omega) (fun z5 ez5 => ?_)
            refine hxj_cne (by rfl) rfl rfl (fun q6 => ?_) (fun q6 => ?_)
            ·
              refine hxj_iinc (by rfl) rfl rfl hk_1 (by omega) (by omega) (fun _ => rfl) (fun z7 ez7 => ?_)
              refine hxa_goto (by rfl) ?_
              exact ih60 x60_4 x60_5 z7 Ac60 hx60_4 hAc60 (by omega) (by omega) (by omega) (by omega) (by omega) (by omega) (by omega) (by omega)
            ·
              refine hxa_aload_n (by rfl) rfl ?_
              refine hxa_get (v := .ref 344) (by rfl) (by rfl) (by rfl) rfl ?_
              refine hxa_iload (by rfl) rfl ?_
              refine hxa_aload_n (by rfl) rfl ?_
              refine hxa_get (v := .ref 344) (by rfl) (by rfl) (by rfl) rfl ?_
              refine hxa_iload (by rfl) rfl ?_
              refine hxj_ialdB (by rfl) (by rfl) rfl (by omega) (by omega) hAc60 (by rfl) (fun z8 ez8 fz8 gz8 => ?_)
              refine hxj_iast (by rfl) (by rfl) rfl (by omega) (by omega) hAc60 (hbok (by rfl) rfl (by omega) (by omega)) (by rfl) (by rfl) (fun A9 hA9 eA9 fA9 gA9 => ?_)
              refine hxj_iinc (by rfl) rfl rfl hk_1 (by omega) (by omega) (fun _ => rfl) (fun z10 ez10 => ?_)
              refine hxj_iinc (by rfl) rfl rfl hk_1 (by omega) (by omega) (fun _ => rfl) (fun z11 ez11 => ?_)
              refine hxa_goto (by rfl) ?_
              exact ih60 x60_4 z10 z11 A9 hx60_4 hA9 (by omega) (by omega) (by omega) (by omega) (by omega) (by omega) (by omega) (by omega)
      refine hxa_iload_n (by rfl) rfl ?_
      refine hxa_iload_n (by rfl) rfl ?_
      have rga1 := hn_rng a1
      refine hxj_cge (by rfl) rfl rfl (fun q12 => ?_) (fun q12 => ?_)
      ·
        refine hxa_iload_n (by rfl) rfl ?_
        exact hxa_ireturn (by rfl) rfl (hP _ _ ⟨hAc28, _, rfl, by omega⟩)
      ·
        refine hxa_iload_n (by rfl) rfl ?_
        refine hxa_bipush (by rfl) rfl ?_
        refine hxj_cge (by rfl) rfl hk_20 (fun q13 => ?_) (fun q13 => ?_)
        ·
          refine hxa_iload_n (by rfl) rfl ?_
          exact hxa_ireturn (by rfl) rfl (hP _ _ ⟨hAc28, _, rfl, by omega⟩)
        ·
          refine hxa_aload_n (by rfl) rfl ?_
          refine hxa_aload_n (by rfl) rfl ?_
          refine hxa_get (v := .ref 341) (by rfl) (by rfl) (by rfl) rfl ?_
          refine hxa_get (v := .ref 342) (by rfl) (by rfl) (by rfl) rfl ?_
          refine hxa_iload_n (by rfl) rfl ?_
          refine hxj_ialdB (by rfl) (by rfl) rfl (by omega) (by omega) hAc28 (by rfl) (fun z14 ez14 fz14 gz14 => ?_)
          refine hxa_call0 (by rfl) (by rfl) (by rfl) (by rfl) (by rfl) (by rfl) (hX89 (d := d + 0) hAc28 z14 (by omega) (by omega)) ?_
          rintro _ A15 ⟨hA15, R16, rfl, hR16⟩
          refine hxa_astore (by rfl) rfl ?_
          refine hxa_iconst (by rfl) rfl ?_
          refine hxa_s1 (by rfl) (Or.inr ⟨_, rfl, rfl⟩) rfl ?_
          refine hxa_iconst (by rfl) rfl ?_
          refine hxa_s1 (by rfl) (Or.inr ⟨_, rfl, rfl⟩) rfl ?_
          exact L60 (Int.toNat (256 - 0) + 1) R16 (Int32.ofNat 0) (Int32.ofNat 0) A15 hR16 hA15 (by omega) (by omega) (by omega) (by omega) (by omega) (by omega) (by omega) (by omega)
  have L2 : ∀ (m2 : Nat) (x2_2 : Int32) (Ac2 : hs_A) (hAc2 : hJ 0 Bn Br A0 Ac2) (bx2_2 : 0 ≤ x2_2.toInt) (cx2_2 : x2_2.toInt ≤ 256) (hm2 : 256 - x2_2.toInt < (m2 : Int)), hxa (d + 6) (some (.int)) hm_t124 2 [.ref 1, .int a1, .int x2_2, .retAddr 0, .retAddr 0, .retAddr 0, .retAddr 0] [] Ac2 P := by
    intro m2
    induction m2 with
    | zero => intro x2_2 Ac2 hAc2 bx2_2 cx2_2 hm2;  exact False.elim (by omega)
    | succ m2 ih2 =>
      intro x2_2 Ac2 hAc2 bx2_2 cx2_2 hm2
      refine hxa_iload_n (by rfl) rfl ?_
      refine hxa_sipush (by rfl) rfl ?_
      refine hxj_cge (by rfl) rfl hk_256 (fun q17 => ?_) (fun q17 => ?_)
      ·
        refine hxa_sipush (by rfl) rfl ?_
        refine hxa_s1 (by rfl) (Or.inl ⟨_, rfl, rfl⟩) rfl ?_
        refine hxa_iconst (by rfl) rfl ?_
        refine hxa_s1 (by rfl) (Or.inl ⟨_, rfl, rfl⟩) rfl ?_
        exact L28 (Int.toNat (20 - 0) + 1) (Int32.ofNat 256) (Int32.ofNat 0) (.retAddr 0) (.retAddr 0) (.retAddr 0) Ac2 rfl rfl hAc2 (by omega) (by omega) (by omega) (by omega) (by omega)
      ·
        refine hxa_aload_n (by rfl) rfl ?_
        refine hxa_get (v := .ref 344) (by rfl) (by rfl) (by rfl) rfl ?_
        refine hxa_iload_n (by rfl) rfl ?_
        refine hxa_iload_n (by rfl) rfl ?_
        refine hxj_iast (by rfl) (by rfl) rfl (by omega) (by omega) hAc2 (hbok (by rfl) rfl (by omega) (by omega)) (by rfl) (by rfl) (fun A18 hA18 eA18 fA18 gA18 => ?_)
        refine hxj_iinc (by rfl) rfl rfl hk_1 (by omega) (by omega) (fun _ => rfl) (fun z19 ez19 => ?_)
        refine hxa_goto (by rfl) ?_
        exact ih2 z19 A18 hA18 (by omega) (by omega) (by omega)
  refine hxa_iconst (by rfl) rfl ?_
  refine hxa_s1 (by rfl) (Or.inl ⟨_, rfl, rfl⟩) rfl ?_
  exact L2 (Int.toNat (256 - 0) + 1) (Int32.ofNat 0) A hA (by omega) (by omega) (by omega)
theorem hX124 {d : Nat} {Bn Br : Int} {A0 A : hs_A} (hA : hJ 0 Bn Br A0 A)  (a1 : Int32) : hxC (d + 7) 124 hm_m124 [.ref 1, .int a1] A (fun r A' => hJ 0 Bn Br A0 A' ∧ ∃ z : Int32, r = some (.int z) ∧ ((0 ≤ z.toInt ∧ z.toInt ≤ 256))) := hxC.of (by rfl) (hY124 hA a1 (fun r A' h => h))
theorem hY125 {d : Nat} {Bn Br : Int} {A0 A : hs_A} (hA : hJ 0 Bn Br A0 A)  (a1 : Int32) (a2 : Int32) {P : Option Value → hs_A → Prop} (hP : ∀ (r : Option Value) (A' : hs_A), (hJ 0 Bn Br A0 A' ∧ ∃ z : Int32, r = some (.int z)) → P r A') : hxa (d + 7) (some (.int)) hm_t125 0 [.ref 1, .int a1, .int a2, .retAddr 0, .retAddr 0, .retAddr 0, .retAddr 0] [] A P := by
  have k0 := hk_0
  have k255 := hk_255
  have k3 := hk_3
  have k4294967294 := hk_4294967294
  have k4294967295 := hk_4294967295
  have L56 : ∀ (m56 : Nat) (x56_3 : Int32) (x56_4 : Int32) (x56_5 : Int32) (x56_6 : Int32) (Ac56 : hs_A) (hAc56 : hJ 0 Bn Br A0 Ac56) (bx56_3 : 1 ≤ x56_3.toInt) (cx56_3 : x56_3.toInt ≤ 256) (bx56_4 : 0 ≤ x56_4.toInt) (cx56_4 : x56_4.toInt ≤ 255) (bx56_5 : 0 ≤ x56_5.toInt) (cx56_5 : x56_5.toInt ≤ 255) (bx56_6 : 0 ≤ x56_6.toInt) (cx56_6 : x56_6.toInt ≤ 256) (ba1 : 0 ≤ a1.toInt) (ca1 : a1.toInt ≤ 20) (ba2 : 1 ≤ a2.toInt) (ca2 : a2.toInt ≤ 3) (hm56 : 256 - x56_6.toInt < (m56 : Int)), hxa (d + 7) (some (.int)) hm_t125 56 [.ref 1, .int a1, .int a2, .int x56_3, .int x56_4, .int x56_5, .int x56_6] [] Ac56 P := by
    intro m56
    induction m56 with
    | zero => intro x56_3 x56_4 x56_5 x56_6 Ac56 hAc56 bx56_3 cx56_3 bx56_4 cx56_4 bx56_5 cx56_5 bx56_6 cx56_6 ba1 ca1 ba2 ca2 hm56;  exact False.elim (by omega)
    | succ m56 ih56 =>
      intro x56_3 x56_4 x56_5 x56_6 Ac56 hAc56 bx56_3 cx56_3 bx56_4 cx56_4 bx56_5 cx56_5 bx56_6 cx56_6 ba1 ca1 ba2 ca2 hm56
      refine hxa_iload (by rfl) rfl ?_
      refine hxa_iload_n (by rfl) rfl ?_
      refine hxj_cge (by rfl) rfl rfl (fun q1 => ?_) (fun q1 => ?_)
      ·
        refine hxa_iload_n (by rfl) rfl ?_
        refine hxa_iconst (by rfl) rfl ?_
        refine hxj_cne (by rfl) rfl hk_1 (fun q2 => ?_) (fun q2 => ?_)
        ·
          refine hxa_iload_n (by rfl) rfl ?_
          refine hxa_iconst (by rfl) rfl ?_
          refine hxj_cne (by rfl) rfl hk_2 (fun q3 => ?_) (fun q3 => ?_)
          ·
            refine hxa_sipush (by rfl) rfl ?_
            refine hxa_iload (by rfl) rfl ?_
            refine hxa_iconst (by rfl) rfl ?_
            refine hxj_ixorU (by rfl) (fun z4 => ?_)
            refine hxj_iandL (by rfl) hk_255 (by omega) (fun z5 ez5 fz5 => ?_)
            exact hxa_ireturn (by rfl) rfl (hP _ _ ⟨hAc56, _, rfl⟩)
          ·
            refine hxa_iload (by rfl) rfl ?_
            refine hxa_goto (by rfl) ?_
            exact hxa_ireturn (by rfl) rfl (hP _ _ ⟨hAc56, _, rfl⟩)
        ·
          refine hxa_aload_n (by rfl) rfl ?_
          refine hxa_get (v := .ref 344) (by rfl) (by rfl) (by rfl) rfl ?_
          refine hxa_iconst (by rfl) rfl ?_
          refine hxj_ialdB (by rfl) (by rfl) hk_0 (by omega) (by omega) hAc56 (by rfl) (fun z6 ez6 fz6 gz6 => ?_)
          exact hxa_ireturn (by rfl) rfl (hP _ _ ⟨hAc56, _, rfl⟩)
      ·
        refine hxa_iload (by rfl) rfl ?_
        refine hxa_aload_n (by rfl) rfl ?_
        refine hxa_get (v := .ref 344) (by rfl) (by rfl) (by rfl) rfl ?_
        refine hxa_iload (by rfl) rfl ?_
        refine hxj_ialdB (by rfl) (by rfl) rfl (by omega) (by omega) hAc56 (by rfl) (fun z7 ez7 fz7 gz7 => ?_)
        refine hxj_iandR (by rfl) rfl (by omega) (fun z8 ez8 fz8 => ?_)
        refine hxa_s1 (by rfl) (Or.inr ⟨_, rfl, rfl⟩) rfl ?_
        refine hxa_iload (by rfl) rfl ?_
        refine hxa_aload_n (by rfl) rfl ?_
        refine hxa_get (v := .ref 344) (by rfl) (by rfl) (by rfl) rfl ?_
        refine hxa_iload (by rfl) rfl ?_
        refine hxj_ialdB (by rfl) (by rfl) rfl (by omega) (by omega) hAc56 (by rfl) (fun z9 ez9 fz9 gz9 => ?_)
        refine hxj_ior255 (by rfl) rfl rfl (by omega) (by omega) (by omega) (by omega) (fun z10 ez10 fz10 => ?_)
        refine hxa_s1 (by rfl) (Or.inr ⟨_, rfl, rfl⟩) rfl ?_
        refine hxj_iinc (by rfl) rfl rfl hk_1 (by omega) (by omega) (fun _ => rfl) (fun z11 ez11 => ?_)
        refine hxa_goto (by rfl) ?_
        exact ih56 x56_3 z8 z10 z11 Ac56 hAc56 (by omega) (by omega) (by omega) (by omega) (by omega) (by omega) (by omega) (by omega) (by omega) (by omega) (by omega) (by omega) (by omega)
  refine hxa_iload_n (by rfl) rfl ?_
  refine hxa_iconst (by rfl) rfl ?_
  refine hxa_aload_n (by rfl) rfl ?_
  refine hxa_get (v := .ref 341) (by rfl) (by rfl) (by rfl) rfl ?_
  refine hxj_getB (by rfl) (by rfl) (by rfl) hA (by rfl) (fun z12 ez12 fz12 gz12 => ?_)
  refine hxa_call2 (by rfl) (by decide) (by rfl) (by rfl) (by rfl) (hX78 (d := d + 6)  a1 (Int32.ofNat 0) z12) ?_
  rintro _ _ ⟨rfl, z13, rfl, fz13⟩
  rcases fz13 with fz13 | fz13
  ·
    refine hxj_zeq (by rfl) rfl (fun q14 => False.elim (by omega)) (fun q14 => ?_)
    refine hxa_iload_n (by rfl) rfl ?_
    refine hxa_iconst (by rfl) rfl ?_
    refine hxa_iconst (by rfl) rfl ?_
    refine hxa_call2 (by rfl) (by decide) (by rfl) (by rfl) (by rfl) (hX78 (d := d + 6)  a2 (Int32.ofNat 0) (Int32.ofNat 3)) ?_
    rintro _ _ ⟨rfl, z15, rfl, fz15⟩
    rcases fz15 with fz15 | fz15
    ·
      refine hxj_zne (by rfl) rfl (fun q16 => ?_) (fun q16 => False.elim (by omega))
      refine hxa_aload_n (by rfl) rfl ?_
      refine hxa_iload_n (by rfl) rfl ?_
      refine hxa_call0 (by rfl) (by rfl) (by rfl) (by rfl) (by rfl) (by rfl) (hX124 (d := d + 0) hA a1) ?_
      rintro _ A17 ⟨hA17, z18, rfl, fz18⟩
      refine hxa_s1 (by rfl) (Or.inl ⟨_, rfl, rfl⟩) rfl ?_
      refine hxa_iload_n (by rfl) rfl ?_
      refine hxj_zne (by rfl) rfl (fun q19 => ?_) (fun q19 => ?_)
      ·
        refine hxa_iload_n (by rfl) rfl ?_
        refine hxj_zne (by rfl) rfl (fun q20 => ?_) (fun q20 => ?_)
        ·
          refine hxa_sipush (by rfl) rfl ?_
          refine hxa_s1 (by rfl) (Or.inr ⟨_, rfl, rfl⟩) rfl ?_
          refine hxa_iconst (by rfl) rfl ?_
          refine hxa_s1 (by rfl) (Or.inr ⟨_, rfl, rfl⟩) rfl ?_
          refine hxa_iconst (by rfl) rfl ?_
          refine hxa_s1 (by rfl) (Or.inr ⟨_, rfl, rfl⟩) rfl ?_
          exact L56 (Int.toNat (256 - 0) + 1) z18 (Int32.ofNat 255) (Int32.ofNat 0) (Int32.ofNat 0) A17 hA17 (by omega) (by omega) (by omega) (by omega) (by omega) (by omega) (by omega) (by omega) (by omega) (by omega) (by omega) (by omega) (by omega)
        ·
          refine hxa_bipush (by rfl) rfl ?_
          exact hxa_ireturn (by rfl) rfl (hP _ _ ⟨hA17, _, rfl⟩)
      ·
        refine hxa_iload_n (by rfl) rfl ?_
        exact hxa_ireturn (by rfl) rfl (hP _ _ ⟨hA17, _, rfl⟩)
    ·
      refine hxj_zne (by rfl) rfl (fun q21 => False.elim (by omega)) (fun q21 => ?_)
      refine hxa_iconst (by rfl) rfl ?_
      exact hxa_ireturn (by rfl) rfl (hP _ _ ⟨hA, _, rfl⟩)
  ·
    refine hxj_zeq (by rfl) rfl (fun q22 => ?_) (fun q22 => False.elim (by omega))
    refine hxa_iconst (by rfl) rfl ?_
    exact hxa_ireturn (by rfl) rfl (hP _ _ ⟨hA, _, rfl⟩)
theorem hX125 {d : Nat} {Bn Br : Int} {A0 A : hs_A} (hA : hJ 0 Bn Br A0 A)  (a1 : Int32) (a2 : Int32) : hxC (d + 8) 125 hm_m125 [.ref 1, .int a1, .int a2] A (fun r A' => hJ 0 Bn Br A0 A' ∧ ∃ z : Int32, r = some (.int z)) := hxC.of (by rfl) (hY125 hA a1 a2 (fun r A' h => h))
theorem hY127 {d : Nat} {Bn Br : Int} {A0 A : hs_A} (hA : hJ 0 Bn Br A0 A)  {R : Nat} (hR : hRR R) (a2 : Int32) (p2 : 0 ≤ a2.toInt) (q2 : a2.toInt ≤ 256) {P : Option Value → hs_A → Prop} (hP : ∀ (r : Option Value) (A' : hs_A), (hJ 0 Bn Br A0 A' ∧ ∃ z : Int32, r = some (.int z)) → P r A') : hxa (d + 1) (some (.int)) hm_t127 0 [.ref 1, .ref (R + 1), .int a2, .retAddr 0, .retAddr 0, .retAddr 0] [] A P := by
  have k0 := hk_0
  have L13 : ∀ (m13 : Nat) (x13_3 : Int32) (x13_4 : Int32) (x13_5 : Value) (Ac13 : hs_A) (hAc13 : hJ 0 Bn Br A0 Ac13) (bx13_3 : 0 ≤ x13_3.toInt) (bx13_4 : 0 ≤ x13_4.toInt) (cx13_4 : x13_4.toInt ≤ 256) (hm13 : 256 - x13_4.toInt < (m13 : Int)), hxa (d + 1) (some (.int)) hm_t127 13 [.ref 1, .ref (R + 1), .int a2, .int x13_3, .int x13_4, x13_5] [] Ac13 P := by
    intro m13
    induction m13 with
    | zero => intro x13_3 x13_4 x13_5 Ac13 hAc13 bx13_3 bx13_4 cx13_4 hm13; have := hn_rng x13_3; exact False.elim (by omega)
    | succ m13 ih13 =>
      intro x13_3 x13_4 x13_5 Ac13 hAc13 bx13_3 bx13_4 cx13_4 hm13
      refine hxa_iload (by rfl) rfl ?_
      refine hxa_iload_n (by rfl) rfl ?_
      refine hxj_cge (by rfl) rfl rfl (fun q1 => ?_) (fun q1 => ?_)
      ·
        refine hxa_iload_n (by rfl) rfl ?_
        exact hxa_ireturn (by rfl) rfl (hP _ _ ⟨hAc13, _, rfl⟩)
      ·
        refine hxa_aload_n (by rfl) rfl ?_
        refine hxa_aload_n (by rfl) rfl ?_
        refine hxa_get (v := .ref 344) (by rfl) (by rfl) (by rfl) rfl ?_
        refine hxa_iload (by rfl) rfl ?_
        refine hxj_ialdB (by rfl) (by rfl) rfl (by omega) (by omega) hAc13 (by rfl) (fun z2 ez2 fz2 gz2 => ?_)
        refine hxj_iald (by rfl) (hsR hR) rfl (by omega) (by omega) (fun z3 ez3 => ?_)
        refine hxa_sipush (by rfl) rfl ?_
        refine hxj_iandR (by rfl) hk_255 (by omega) (fun z4 ez4 fz4 => ?_)
        refine hxa_s1 (by rfl) (Or.inr ⟨_, rfl, rfl⟩) rfl ?_
        refine hxa_aload_n (by rfl) rfl ?_
        refine hxa_get (v := .ref 345) (by rfl) (by rfl) (by rfl) rfl ?_
        refine hxa_iload (by rfl) rfl ?_
        refine hxa_dup2IR (by rfl) ?_
        refine hxj_iald (by rfl) (by rfl) rfl (by omega) (by omega) (fun z5 ez5 => ?_)
        refine hxa_iconst (by rfl) rfl ?_
        refine hxj_iaddU (by rfl) (fun z6 => ?_)
        refine hxj_iast (by rfl) (by rfl) rfl (by omega) (by omega) hAc13 (hbokN (by rfl)) (by rfl) (by rfl) (fun A7 hA7 eA7 fA7 gA7 => ?_)
        refine hxa_iload_n (by rfl) rfl ?_
        refine hxa_aload_n (by rfl) rfl ?_
        refine hxa_get (v := .ref 345) (by rfl) (by rfl) (by rfl) rfl ?_
        refine hxa_iload (by rfl) rfl ?_
        refine hxj_iald (by rfl) (by rfl) rfl (by omega) (by omega) (fun z8 ez8 => ?_)
        refine hxa_call2 (by rfl) (by decide) (by rfl) (by rfl) (by rfl) (hX244 (d := d + 0)  x13_3 z8) ?_
        rintro _ _ ⟨rfl, z9, rfl, fz9⟩
        refine hxa_s1 (by rfl) (Or.inl ⟨_, rfl, rfl⟩) rfl ?_
        refine hxj_iinc (by rfl) rfl rfl hk_1 (by omega) (by omega) (fun _ => rfl) (fun z10 ez10 => ?_)
        refine hxa_goto (by rfl) ?_
        exact ih13 z9 z10 (.int z4) A7 hA7 (by omega) (by omega) (by omega) (by omega)
  refine hxa_aload_n (by rfl) rfl ?_
  refine hxa_get (v := .ref 345) (by rfl) (by rfl) (by rfl) rfl ?_
  refine hxa_iconst (by rfl) rfl ?_
  refine hxa_call2 (by rfl) (by decide) (by rfl) (by rfl) (by rfl) (hX246 (d := d + 0) hA (C := 344) (by rfl) (by omega) (hbokN (by rfl)) (by rfl) (by rfl)) ?_
  rintro _ A11 ⟨hA11, rfl⟩
  refine hxa_iconst (by rfl) rfl ?_
  refine hxa_s1 (by rfl) (Or.inl ⟨_, rfl, rfl⟩) rfl ?_
  refine hxa_iconst (by rfl) rfl ?_
  refine hxa_s1 (by rfl) (Or.inr ⟨_, rfl, rfl⟩) rfl ?_
  exact L13 (Int.toNat (256 - 0) + 1) (Int32.ofNat 0) (Int32.ofNat 0) (.retAddr 0) A11 hA11 (by omega) (by omega) (by omega) (by omega)
theorem hX127 {d : Nat} {Bn Br : Int} {A0 A : hs_A} (hA : hJ 0 Bn Br A0 A)  {R : Nat} (hR : hRR R) (a2 : Int32) (p2 : 0 ≤ a2.toInt) (q2 : a2.toInt ≤ 256) : hxC (d + 2) 127 hm_m127 [.ref 1, .ref (R + 1), .int a2] A (fun r A' => hJ 0 Bn Br A0 A' ∧ ∃ z : Int32, r = some (.int z)) := hxC.of (by rfl) (hY127 hA hR a2 p2 q2 (fun r A' h => h))
theorem hY126 {d : Nat} {Bn Br : Int} {A0 A : hs_A} (hA : hJ 0 Bn Br A0 A)  (a1 : Int32) {P : Option Value → hs_A → Prop} (hP : ∀ (r : Option Value) (A' : hs_A), (hJ 0 Bn Br A0 A' ∧ ∃ z : Int32, r = some (.int z)) → P r A') : hxa (d + 7) (some (.int)) hm_t126 0 [.ref 1, .int a1, .retAddr 0, .retAddr 0, .retAddr 0, .retAddr 0, .retAddr 0] [] A P := by
  have k0 := hk_0
  have k257 := hk_257
  have k4294967294 := hk_4294967294
  have k4294967295 := hk_4294967295
  obtain ⟨T0, hT0, -, eT0⟩ := hA.T
  have L34 : ∀ (m34 : Nat) (x34_2 : Int32) (x34_3 : Int32) (x34_4 : Int32) (x34_5 : Int32) (x34_6 : Value) (Ac34 : hs_A) (hAc34 : hJ 0 Bn Br A0 Ac34) (bx34_2 : 0 ≤ x34_2.toInt) (cx34_2 : x34_2.toInt ≤ 256) (bx34_3 : -2 ≤ x34_3.toInt) (cx34_3 : x34_3.toInt ≤ 9) (cx34_4 : x34_4.toInt ≤ 257) (bx34_5 : 0 ≤ x34_5.toInt) (cx34_5 : x34_5.toInt ≤ 10) (ba1 : 0 ≤ a1.toInt) (ca1 : a1.toInt ≤ 20) (hm34 : 10 - x34_5.toInt < (m34 : Int)), hxa (d + 7) (some (.int)) hm_t126 34 [.ref 1, .int a1, .int x34_2, .int x34_3, .int x34_4, .int x34_5, x34_6] [] Ac34 P := by
    intro m34
    induction m34 with
    | zero => intro x34_2 x34_3 x34_4 x34_5 x34_6 Ac34 hAc34 bx34_2 cx34_2 bx34_3 cx34_3 cx34_4 bx34_5 cx34_5 ba1 ca1 hm34; have := hn_rng x34_4; exact False.elim (by omega)
    | succ m34 ih34 =>
      intro x34_2 x34_3 x34_4 x34_5 x34_6 Ac34 hAc34 bx34_2 cx34_2 bx34_3 cx34_3 cx34_4 bx34_5 cx34_5 ba1 ca1 hm34
      refine hxa_iload (by rfl) rfl ?_
      refine hxa_aload_n (by rfl) rfl ?_
      refine hxj_getT (by rfl) (by rfl) (by rfl) (hAc34.Tw eT0) ?_
      refine hxj_getB (by rfl) (hsT hT0) (by rfl) hAc34 (hbT_4 hT0) (fun z1 ez1 fz1 gz1 => ?_)
      refine hxj_cge (by rfl) rfl rfl (fun q2 => ?_) (fun q2 => ?_)
      ·
        refine hxa_iload_n (by rfl) rfl ?_
        exact hxa_ireturn (by rfl) rfl (hP _ _ ⟨hAc34, _, rfl⟩)
      ·
        refine hxa_iload_n (by rfl) rfl ?_
        refine hxj_zle (by rfl) rfl (fun q3 => ?_) (fun q3 => ?_)
        ·
          refine hxa_iload_n (by rfl) rfl ?_
          exact hxa_ireturn (by rfl) rfl (hP _ _ ⟨hAc34, _, rfl⟩)
        ·
          refine hxa_aload_n (by rfl) rfl ?_
          refine hxa_aload_n (by rfl) rfl ?_
          refine hxa_iload (by rfl) rfl ?_
          refine hxa_call0 (by rfl) (by rfl) (by rfl) (by rfl) (by rfl) (by rfl) (hX89 (d := d + 1) hAc34 x34_5 (by omega) (by omega)) ?_
          rintro _ A4 ⟨hA4, R5, rfl, hR5⟩
          refine hxa_iload_n (by rfl) rfl ?_
          refine hxa_call0 (by rfl) (by rfl) (by rfl) (by rfl) (by rfl) (by rfl) (hX127 (d := d + 5) hA4 hR5 x34_2 (by omega) (by omega)) ?_
          rintro _ A6 ⟨hA6, z7, rfl⟩
          refine hxa_s1 (by rfl) (Or.inr ⟨_, rfl, rfl⟩) rfl ?_
          refine hxa_iload (by rfl) rfl ?_
          refine hxa_iload (by rfl) rfl ?_
          have rgz7 := hn_rng z7
          have rgx34_4 := hn_rng x34_4
          refine hxj_cge (by rfl) rfl rfl (fun q8 => ?_) (fun q8 => ?_)
          ·
            refine hxj_iinc (by rfl) rfl rfl hk_1 (by omega) (by omega) (fun _ => rfl) (fun z9 ez9 => ?_)
            refine hxa_goto (by rfl) ?_
            exact ih34 x34_2 x34_3 x34_4 z9 (.int z7) A6 hA6 (by omega) (by omega) (by omega) (by omega) (by omega) (by omega) (by omega) (by omega) (by omega) (by omega)
          ·
            refine hxa_iload (by rfl) rfl ?_
            refine hxa_s1 (by rfl) (Or.inr ⟨_, rfl, rfl⟩) rfl ?_
            refine hxa_iload (by rfl) rfl ?_
            refine hxa_s1 (by rfl) (Or.inl ⟨_, rfl, rfl⟩) rfl ?_
            refine hxj_iinc (by rfl) rfl rfl hk_1 (by omega) (by omega) (fun _ => rfl) (fun z10 ez10 => ?_)
            refine hxa_goto (by rfl) ?_
            exact ih34 x34_2 x34_5 z7 z10 (.int z7) A6 hA6 (by omega) (by omega) (by omega) (by omega) (by omega) (by omega) (by omega) (by omega) (by omega) (by omega)
  refine hxa_iload_n (by rfl) rfl ?_
  refine hxa_iconst (by rfl) rfl ?_
  refine hxa_aload_n (by rfl) rfl ?_
  refine hxa_get (v := .ref 341) (by rfl) (by rfl) (by rfl) rfl ?_
  refine hxj_getB (by rfl) (by rfl) (by rfl) hA (by rfl) (fun z11 ez11 fz11 gz11 => ?_)
  refine hxa_call2 (by rfl) (by decide) (by rfl) (by rfl) (by rfl) (hX78 (d := d + 6)  a1 (Int32.ofNat 0) z11) ?_
  rintro _ _ ⟨rfl, z12, rfl, fz12⟩
  rcases fz12 with fz12 | fz12
  ·
    refine hxj_zne (by rfl) rfl (fun q13 => ?_) (fun q13 => False.elim (by omega))
    refine hxa_aload_n (by rfl) rfl ?_
    refine hxa_iload_n (by rfl) rfl ?_
    refine hxa_call0 (by rfl) (by rfl) (by rfl) (by rfl) (by rfl) (by rfl) (hX124 (d := d + 0) hA a1) ?_
    rintro _ A14 ⟨hA14, z15, rfl, fz15⟩
    refine hxa_s1 (by rfl) (Or.inl ⟨_, rfl, rfl⟩) rfl ?_
    refine hxa_bipush (by rfl) rfl ?_
    refine hxa_s1 (by rfl) (Or.inl ⟨_, rfl, rfl⟩) rfl ?_
    refine hxa_sipush (by rfl) rfl ?_
    refine hxa_s1 (by rfl) (Or.inr ⟨_, rfl, rfl⟩) rfl ?_
    refine hxa_iconst (by rfl) rfl ?_
    refine hxa_s1 (by rfl) (Or.inr ⟨_, rfl, rfl⟩) rfl ?_
    exact L34 (Int.toNat (10 - 0) + 1) z15 (Int32.ofNat 4294967294) (Int32.ofNat 257) (Int32.ofNat 0) (.retAddr 0) A14 hA14 (by omega) (by omega) (by omega) (by omega) (by omega) (by omega) (by omega) (by omega) (by omega) (by omega)
  ·
    refine hxj_zne (by rfl) rfl (fun q16 => False.elim (by omega)) (fun q16 => ?_)
    refine hxa_iconst (by rfl) rfl ?_
    exact hxa_ireturn (by rfl) rfl (hP _ _ ⟨hA, _, rfl⟩)
theorem hX126 {d : Nat} {Bn Br : Int} {A0 A : hs_A} (hA : hJ 0 Bn Br A0 A)  (a1 : Int32) : hxC (d + 8) 126 hm_m126 [.ref 1, .int a1] A (fun r A' => hJ 0 Bn Br A0 A' ∧ ∃ z : Int32, r = some (.int z)) := hxC.of (by rfl) (hY126 hA a1 (fun r A' h => h))
theorem hY128 {d : Nat} {Bn Br : Int} {A0 A : hs_A} (hA : hJ 0 Bn Br A0 A)  (a1 : Int32) {P : Option Value → hs_A → Prop} (hP : ∀ (r : Option Value) (A' : hs_A), (hJ 0 Bn Br A0 A' ∧ ∃ z : Int32, r = some (.int z) ∧ ((0 ≤ z.toInt ∧ z.toInt ≤ 1))) → P r A') : hxa (d + 1) (some (.boolean)) hm_t128 0 [.ref 1, .int a1] [] A P := by
  have k0 := hk_0
  have k1 := hk_1
  have k2 := hk_2
  refine hxa_iload_n (by rfl) rfl ?_
  refine hxa_iconst (by rfl) rfl ?_
  refine hxa_iconst (by rfl) rfl ?_
  refine hxa_call2 (by rfl) (by decide) (by rfl) (by rfl) (by rfl) (hX78 (d := d + 0)  a1 (Int32.ofNat 0) (Int32.ofNat 2)) ?_
  rintro _ _ ⟨rfl, z1, rfl, fz1⟩
  rcases fz1 with fz1 | fz1
  ·
    refine hxj_zne (by rfl) rfl (fun q2 => ?_) (fun q2 => False.elim (by omega))
    refine hxa_aload_n (by rfl) rfl ?_
    refine hxa_get (v := .ref 323) (by rfl) (by rfl) (by rfl) rfl ?_
    refine hxa_iload_n (by rfl) rfl ?_
    obtain ⟨L3, hL3, eL3⟩ := haa_slots (j := a1) rfl (by omega) (by omega)
    refine hxa_aald (by rfl) (Or.inl rfl) (by rfl) (hn_ix0 rfl (by omega)) eL3 ?_
    refine hxa_aload_n (by rfl) rfl ?_
    refine hxa_get (v := .ref 27) (by rfl) (by rfl) (by rfl) rfl ?_
    refine hxa_call0 (by rfl) (by rfl) (by rfl) (hsL hL3) (by rfl) (by rfl) (hX17 (d := d + 0) hA hL3 hL26) ?_
    rintro _ A4 ⟨hA4, rfl⟩
    refine hxa_aload_n (by rfl) rfl ?_
    refine hxa_dupR (by rfl) ?_
    refine hxj_getI (by rfl) (by rfl) (by rfl) (fun z5 ez5 => ?_)
    refine hxa_iconst (by rfl) rfl ?_
    refine hxa_iload_n (by rfl) rfl ?_
    refine hxj_ishl1 (by rfl) rfl rfl (by omega) (by omega) (fun z6 ez6 fz6 => ?_)
    refine hxj_iorU (by rfl) (fun z7 => ?_)
    refine hxj_putI (by rfl) (by rfl) (by rfl) (by rfl) hA4 (hbokN (by rfl)) (by rfl) (by rfl) (fun A8 hA8 eA8 fA8 => ?_)
    refine hxa_iconst (by rfl) rfl ?_
    exact hxa_ireturn (by rfl) (by rfl) (hP _ _ ⟨hA8, _, rfl, by omega⟩)
  ·
    refine hxj_zne (by rfl) rfl (fun q9 => False.elim (by omega)) (fun q9 => ?_)
    refine hxa_iconst (by rfl) rfl ?_
    exact hxa_ireturn (by rfl) (by rfl) (hP _ _ ⟨hA, _, rfl, by omega⟩)
theorem hX128 {d : Nat} {Bn Br : Int} {A0 A : hs_A} (hA : hJ 0 Bn Br A0 A)  (a1 : Int32) : hxC (d + 2) 128 hm_m128 [.ref 1, .int a1] A (fun r A' => hJ 0 Bn Br A0 A' ∧ ∃ z : Int32, r = some (.int z) ∧ ((0 ≤ z.toInt ∧ z.toInt ≤ 1))) := hxC.of (by rfl) (hY128 hA a1 (fun r A' h => h))
theorem hY129 {d : Nat} {Bn Br : Int} {A0 A : hs_A} (hA : hJ 0 Bn Br A0 A)  (a1 : Int32) {P : Option Value → hs_A → Prop} (hP : ∀ (r : Option Value) (A' : hs_A), (hJ 0 Bn Br A0 A' ∧ ∃ z : Int32, r = some (.int z) ∧ ((0 ≤ z.toInt ∧ z.toInt ≤ 1))) → P r A') : hxa (d + 1) (some (.boolean)) hm_t129 0 [.ref 1, .int a1] [] A P := by
  have k0 := hk_0
  have k1 := hk_1
  have k2 := hk_2
  refine hxa_iload_n (by rfl) rfl ?_
  refine hxa_iconst (by rfl) rfl ?_
  refine hxa_iconst (by rfl) rfl ?_
  refine hxa_call2 (by rfl) (by decide) (by rfl) (by rfl) (by rfl) (hX78 (d := d + 0)  a1 (Int32.ofNat 0) (Int32.ofNat 2)) ?_
  rintro _ _ ⟨rfl, z1, rfl, fz1⟩
  rcases fz1 with fz1 | fz1
  ·
    refine hxj_zeq (by rfl) rfl (fun q2 => False.elim (by omega)) (fun q2 => ?_)
    refine hxa_aload_n (by rfl) rfl ?_
    refine hxj_getI (by rfl) (by rfl) (by rfl) (fun z3 ez3 => ?_)
    refine hxa_iload_n (by rfl) rfl ?_
    refine hxj_ishrU (by rfl) (fun z4 => ?_)
    refine hxa_iconst (by rfl) rfl ?_
    refine hxj_iandR (by rfl) hk_1 (by omega) (fun z5 ez5 fz5 => ?_)
    refine hxj_zne (by rfl) rfl (fun q6 => ?_) (fun q6 => ?_)
    ·
      refine hxa_aload_n (by rfl) rfl ?_
      refine hxa_get (v := .ref 27) (by rfl) (by rfl) (by rfl) rfl ?_
      refine hxa_aload_n (by rfl) rfl ?_
      refine hxa_get (v := .ref 323) (by rfl) (by rfl) (by rfl) rfl ?_
      refine hxa_iload_n (by rfl) rfl ?_
      obtain ⟨L7, hL7, eL7⟩ := haa_slots (j := a1) rfl (by omega) (by omega)
      refine hxa_aald (by rfl) (Or.inl rfl) (by rfl) (hn_ix0 rfl (by omega)) eL7 ?_
      refine hxa_call0 (by rfl) (by rfl) (by rfl) (by rfl) (by rfl) (by rfl) (hX17 (d := d + 0) hA hL26 hL7) ?_
      rintro _ A8 ⟨hA8, rfl⟩
      refine hxa_aload_n (by rfl) rfl ?_
      refine hxa_get (v := .ref 41) (by rfl) (by rfl) (by rfl) rfl ?_
      refine hxa_iconst (by rfl) rfl ?_
      refine hxj_putI (by rfl) (by rfl) (by rfl) (by rfl) hA8 (hbok (by rfl) hk_0 (by omega) (by omega)) (by rfl) (by rfl) (fun A9 hA9 eA9 fA9 => ?_)
      refine hxa_aload_n (by rfl) rfl ?_
      refine hxa_get (v := .ref 329) (by rfl) (by rfl) (by rfl) rfl ?_
      refine hxa_iconst (by rfl) rfl ?_
      refine hxj_putI (by rfl) (by rfl) (by rfl) (by rfl) hA9 (hbok (by rfl) hk_0 (by omega) (by omega)) (by rfl) (by rfl) (fun A10 hA10 eA10 fA10 => ?_)
      refine hxa_iconst (by rfl) rfl ?_
      exact hxa_ireturn (by rfl) (by rfl) (hP _ _ ⟨hA10, _, rfl, by omega⟩)
    ·
      refine hxa_iconst (by rfl) rfl ?_
      exact hxa_ireturn (by rfl) (by rfl) (hP _ _ ⟨hA, _, rfl, by omega⟩)
  ·
    refine hxj_zeq (by rfl) rfl (fun q11 => ?_) (fun q11 => False.elim (by omega))
    refine hxa_iconst (by rfl) rfl ?_
    exact hxa_ireturn (by rfl) (by rfl) (hP _ _ ⟨hA, _, rfl, by omega⟩)
theorem hX129 {d : Nat} {Bn Br : Int} {A0 A : hs_A} (hA : hJ 0 Bn Br A0 A)  (a1 : Int32) : hxC (d + 2) 129 hm_m129 [.ref 1, .int a1] A (fun r A' => hJ 0 Bn Br A0 A' ∧ ∃ z : Int32, r = some (.int z) ∧ ((0 ≤ z.toInt ∧ z.toInt ≤ 1))) := hxC.of (by rfl) (hY129 hA a1 (fun r A' h => h))
theorem hY131 {d : Nat} {Bn Br : Int} {A0 A : hs_A} (hA : hJ 0 Bn Br A0 A)  {C1 : Nat} (hC1 : hc_get hs_sh C1 = some (0, 1, [10])) {P : Option Value → hs_A → Prop} (hP : ∀ (r : Option Value) (A' : hs_A), (A = A' ∧ ∃ z : Int32, r = some (.int z)) → P r A') : hxa (d + 1) (some (.int)) hm_t131 0 [.ref 1, .ref (C1 + 1), .retAddr 0, .retAddr 0] [] A P := by
  have k0 := hk_0
  obtain ⟨T0, hT0, -, eT0⟩ := hA.T
  have L4 : ∀ (m4 : Nat) (x4_2 : Int32) (x4_3 : Int32) (bx4_3 : 0 ≤ x4_3.toInt) (cx4_3 : x4_3.toInt ≤ 10) (hm4 : 10 - x4_3.toInt < (m4 : Int)), hxa (d + 1) (some (.int)) hm_t131 4 [.ref 1, .ref (C1 + 1), .int x4_2, .int x4_3] [] A P := by
    intro m4
    induction m4 with
    | zero => intro x4_2 x4_3 bx4_3 cx4_3 hm4; have := hn_rng x4_2; exact False.elim (by omega)
    | succ m4 ih4 =>
      intro x4_2 x4_3 bx4_3 cx4_3 hm4
      refine hxa_iload_n (by rfl) rfl ?_
      refine hxa_aload_n (by rfl) rfl ?_
      refine hxj_getT (by rfl) (by rfl) (by rfl) (hA.Tw eT0) ?_
      refine hxj_getB (by rfl) (hsT hT0) (by rfl) hA (hbT_4 hT0) (fun z1 ez1 fz1 gz1 => ?_)
      refine hxj_cge (by rfl) rfl rfl (fun q2 => ?_) (fun q2 => ?_)
      ·
        refine hxa_iload_n (by rfl) rfl ?_
        exact hxa_ireturn (by rfl) rfl (hP _ _ ⟨rfl, _, rfl⟩)
      ·
        refine hxa_iload_n (by rfl) rfl ?_
        refine hxa_aload_n (by rfl) rfl ?_
        refine hxa_iload_n (by rfl) rfl ?_
        refine hxj_iald (by rfl) hC1 rfl (by omega) (by omega) (fun z3 ez3 => ?_)
        refine hxa_call2 (by rfl) (by decide) (by rfl) (by rfl) (by rfl) (hX242 (d := d + 0)  z3) ?_
        rintro _ _ ⟨rfl, z4, rfl, fz4⟩
        refine hxj_iaddU (by rfl) (fun z5 => ?_)
        refine hxa_s1 (by rfl) (Or.inl ⟨_, rfl, rfl⟩) rfl ?_
        refine hxj_iinc (by rfl) rfl rfl hk_1 (by omega) (by omega) (fun _ => rfl) (fun z6 ez6 => ?_)
        refine hxa_goto (by rfl) ?_
        exact ih4 z5 z6 (by omega) (by omega) (by omega)
  refine hxa_iconst (by rfl) rfl ?_
  refine hxa_s1 (by rfl) (Or.inl ⟨_, rfl, rfl⟩) rfl ?_
  refine hxa_iconst (by rfl) rfl ?_
  refine hxa_s1 (by rfl) (Or.inl ⟨_, rfl, rfl⟩) rfl ?_
  exact L4 (Int.toNat (10 - 0) + 1) (Int32.ofNat 0) (Int32.ofNat 0) (by omega) (by omega) (by omega)
theorem hX131 {d : Nat} {Bn Br : Int} {A0 A : hs_A} (hA : hJ 0 Bn Br A0 A)  {C1 : Nat} (hC1 : hc_get hs_sh C1 = some (0, 1, [10])) : hxC (d + 2) 131 hm_m131 [.ref 1, .ref (C1 + 1)] A (fun r A' => A = A' ∧ ∃ z : Int32, r = some (.int z)) := hxC.of (by rfl) (hY131 hA hC1 (fun r A' h => h))
theorem hY130 {d : Nat} {Bn Br : Int} {A0 A : hs_A} (hA : hJ 0 Bn Br A0 A)  (a1 : Int32) {P : Option Value → hs_A → Prop} (hP : ∀ (r : Option Value) (A' : hs_A), (A = A' ∧ ∃ z : Int32, r = some (.int z)) → P r A') : hxa (d + 2) (some (.int)) hm_t130 0 [.ref 1, .int a1] [] A P := by
  have k4294967295 := hk_4294967295
  obtain ⟨T0, hT0, -, eT0⟩ := hA.T
  refine hxa_iload_n (by rfl) rfl ?_
  by_cases q1 : a1.toInt = 0
  ·
    refine hxa_tabIn (by rfl) (by omega) (by omega) (by rw [q1]; rfl) (tgt := 88) (by rfl) ?_
    refine hxa_aload_n (by rfl) rfl ?_
    refine hxj_getT (by rfl) (by rfl) (by rfl) (hA.Tw eT0) ?_
    refine hxj_getB (by rfl) (hsT hT0) (by rfl) hA (hbT_4 hT0) (fun z2 ez2 fz2 gz2 => ?_)
    exact hxa_ireturn (by rfl) rfl (hP _ _ ⟨rfl, _, rfl⟩)
  ·
    by_cases q3 : a1.toInt = 1
    ·
      refine hxa_tabIn (by rfl) (by omega) (by omega) (by rw [q3]; rfl) (tgt := 96) (by rfl) ?_
      refine hxa_aload_n (by rfl) rfl ?_
      refine hxj_getT (by rfl) (by rfl) (by rfl) (hA.Tw eT0) ?_
      refine hxj_getI (by rfl) (hsT hT0) (by rfl) (fun z4 ez4 => ?_)
      exact hxa_ireturn (by rfl) rfl (hP _ _ ⟨rfl, _, rfl⟩)
    ·
      by_cases q5 : a1.toInt = 2
      ·
        refine hxa_tabIn (by rfl) (by omega) (by omega) (by rw [q5]; rfl) (tgt := 104) (by rfl) ?_
        refine hxa_aload_n (by rfl) rfl ?_
        refine hxa_get (v := .ref 27) (by rfl) (by rfl) (by rfl) rfl ?_
        refine hxj_getI (by rfl) (by rfl) (by rfl) (fun z6 ez6 => ?_)
        exact hxa_ireturn (by rfl) rfl (hP _ _ ⟨rfl, _, rfl⟩)
      ·
        by_cases q7 : a1.toInt = 3
        ·
          refine hxa_tabIn (by rfl) (by omega) (by omega) (by rw [q7]; rfl) (tgt := 112) (by rfl) ?_
          refine hxa_aload_n (by rfl) rfl ?_
          refine hxa_get (v := .ref 27) (by rfl) (by rfl) (by rfl) rfl ?_
          refine hxj_getI (by rfl) (by rfl) (by rfl) (fun z8 ez8 => ?_)
          refine hxa_bipush (by rfl) rfl ?_
          refine hxj_iremU (by rfl) hk_24 (by omega) (fun z9 => ?_)
          exact hxa_ireturn (by rfl) rfl (hP _ _ ⟨rfl, _, rfl⟩)
        ·
          by_cases q10 : a1.toInt = 4
          ·
            refine hxa_tabIn (by rfl) (by omega) (by omega) (by rw [q10]; rfl) (tgt := 123) (by rfl) ?_
            refine hxa_aload_n (by rfl) rfl ?_
            refine hxa_get (v := .ref 27) (by rfl) (by rfl) (by rfl) rfl ?_
            refine hxa_aload_n (by rfl) rfl ?_
            refine hxj_getT (by rfl) (by rfl) (by rfl) (hA.Tw eT0) ?_
            refine hxa_call0 (by rfl) (by rfl) (by rfl) (by rfl) (by rfl) (by rfl) (hX22 (d := d + 0) hA hL26 hT0 eT0) ?_
            rintro _ _ ⟨rfl, z11, rfl, fz11⟩
            exact hxa_ireturn (by rfl) rfl (hP _ _ ⟨rfl, _, rfl⟩)
          ·
            by_cases q12 : a1.toInt = 5
            ·
              refine hxa_tabIn (by rfl) (by omega) (by omega) (by rw [q12]; rfl) (tgt := 135) (by rfl) ?_
              refine hxa_aload_n (by rfl) rfl ?_
              refine hxa_get (v := .ref 27) (by rfl) (by rfl) (by rfl) rfl ?_
              refine hxj_getI (by rfl) (by rfl) (by rfl) (fun z13 ez13 => ?_)
              exact hxa_ireturn (by rfl) rfl (hP _ _ ⟨rfl, _, rfl⟩)
            ·
              by_cases q14 : a1.toInt = 6
              ·
                refine hxa_tabIn (by rfl) (by omega) (by omega) (by rw [q14]; rfl) (tgt := 143) (by rfl) ?_
                refine hxa_aload_n (by rfl) rfl ?_
                refine hxa_get (v := .ref 27) (by rfl) (by rfl) (by rfl) rfl ?_
                refine hxa_call0 (by rfl) (by rfl) (by rfl) (by rfl) (by rfl) (by rfl) (hX29 (d := d + 1) hA hL26) ?_
                rintro _ _ ⟨rfl, z15, rfl⟩
                exact hxa_ireturn (by rfl) rfl (hP _ _ ⟨rfl, _, rfl⟩)
              ·
                by_cases q16 : a1.toInt = 7
                ·
                  refine hxa_tabIn (by rfl) (by omega) (by omega) (by rw [q16]; rfl) (tgt := 151) (by rfl) ?_
                  refine hxa_aload_n (by rfl) rfl ?_
                  refine hxa_get (v := .ref 27) (by rfl) (by rfl) (by rfl) rfl ?_
                  refine hxa_call0 (by rfl) (by rfl) (by rfl) (by rfl) (by rfl) (by rfl) (hX30 (d := d + 0) hA hL26) ?_
                  rintro _ _ ⟨rfl, z17, rfl⟩
                  exact hxa_ireturn (by rfl) rfl (hP _ _ ⟨rfl, _, rfl⟩)
                ·
                  by_cases q18 : a1.toInt = 8
                  ·
                    refine hxa_tabIn (by rfl) (by omega) (by omega) (by rw [q18]; rfl) (tgt := 159) (by rfl) ?_
                    refine hxa_aload_n (by rfl) rfl ?_
                    refine hxa_get (v := .ref 27) (by rfl) (by rfl) (by rfl) rfl ?_
                    refine hxa_call0 (by rfl) (by rfl) (by rfl) (by rfl) (by rfl) (by rfl) (hX31 (d := d + 1) hA hL26) ?_
                    rintro _ _ ⟨rfl, z19, rfl⟩
                    exact hxa_ireturn (by rfl) rfl (hP _ _ ⟨rfl, _, rfl⟩)
                  ·
                    by_cases q20 : a1.toInt = 9
                    ·
                      refine hxa_tabIn (by rfl) (by omega) (by omega) (by rw [q20]; rfl) (tgt := 167) (by rfl) ?_
                      refine hxa_aload_n (by rfl) rfl ?_
                      refine hxj_getB (by rfl) (by rfl) (by rfl) hA (by rfl) (fun z21 ez21 fz21 gz21 => ?_)
                      exact hxa_ireturn (by rfl) rfl (hP _ _ ⟨rfl, _, rfl⟩)
                    ·
                      by_cases q22 : a1.toInt = 10
                      ·
                        refine hxa_tabIn (by rfl) (by omega) (by omega) (by rw [q22]; rfl) (tgt := 172) (by rfl) ?_
                        refine hxa_aload_n (by rfl) rfl ?_
                        refine hxa_get (v := .ref 41) (by rfl) (by rfl) (by rfl) rfl ?_
                        refine hxj_getB (by rfl) (by rfl) (by rfl) hA (by rfl) (fun z23 ez23 fz23 gz23 => ?_)
                        exact hxa_ireturn (by rfl) rfl (hP _ _ ⟨rfl, _, rfl⟩)
                      ·
                        by_cases q24 : a1.toInt = 11
                        ·
                          refine hxa_tabIn (by rfl) (by omega) (by omega) (by rw [q24]; rfl) (tgt := 180) (by rfl) ?_
                          refine hxa_aload_n (by rfl) rfl ?_
                          refine hxa_get (v := .ref 341) (by rfl) (by rfl) (by rfl) rfl ?_
                          refine hxj_getB (by rfl) (by rfl) (by rfl) hA (by rfl) (fun z25 ez25 fz25 gz25 => ?_)
                          exact hxa_ireturn (by rfl) rfl (hP _ _ ⟨rfl, _, rfl⟩)
                        ·
                          by_cases q26 : a1.toInt = 12
                          ·
                            refine hxa_tabIn (by rfl) (by omega) (by omega) (by rw [q26]; rfl) (tgt := 188) (by rfl) ?_
                            refine hxa_aload_n (by rfl) rfl ?_
                            refine hxj_getI (by rfl) (by rfl) (by rfl) (fun z27 ez27 => ?_)
                            refine hxa_call2 (by rfl) (by decide) (by rfl) (by rfl) (by rfl) (hX242 (d := d + 1)  z27) ?_
                            rintro _ _ ⟨rfl, z28, rfl, fz28⟩
                            exact hxa_ireturn (by rfl) rfl (hP _ _ ⟨rfl, _, rfl⟩)
                          ·
                            by_cases q29 : a1.toInt = 13
                            ·
                              refine hxa_tabIn (by rfl) (by omega) (by omega) (by rw [q29]; rfl) (tgt := 196) (by rfl) ?_
                              refine hxa_aload_n (by rfl) rfl ?_
                              refine hxa_get (v := .ref 27) (by rfl) (by rfl) (by rfl) rfl ?_
                              refine hxj_getI (by rfl) (by rfl) (by rfl) (fun z30 ez30 => ?_)
                              exact hxa_ireturn (by rfl) rfl (hP _ _ ⟨rfl, _, rfl⟩)
                            ·
                              by_cases q31 : a1.toInt = 14
                              ·
                                refine hxa_tabIn (by rfl) (by omega) (by omega) (by rw [q31]; rfl) (tgt := 204) (by rfl) ?_
                                refine hxa_aload_n (by rfl) rfl ?_
                                refine hxa_aload_n (by rfl) rfl ?_
                                refine hxa_get (v := .ref 27) (by rfl) (by rfl) (by rfl) rfl ?_
                                refine hxa_get (v := .ref 30) (by rfl) (by rfl) (by rfl) rfl ?_
                                refine hxa_call0 (by rfl) (by rfl) (by rfl) (by rfl) (by rfl) (by rfl) (hX131 (d := d + 0) hA (C1 := 29) (by rfl)) ?_
                                rintro _ _ ⟨rfl, z32, rfl⟩
                                exact hxa_ireturn (by rfl) rfl (hP _ _ ⟨rfl, _, rfl⟩)
                              ·
                                by_cases q33 : a1.toInt = 15
                                ·
                                  refine hxa_tabIn (by rfl) (by omega) (by omega) (by rw [q33]; rfl) (tgt := 216) (by rfl) ?_
                                  refine hxa_aload_n (by rfl) rfl ?_
                                  refine hxa_get (v := .ref 27) (by rfl) (by rfl) (by rfl) rfl ?_
                                  refine hxj_getI (by rfl) (by rfl) (by rfl) (fun z34 ez34 => ?_)
                                  refine hxa_aload_n (by rfl) rfl ?_
                                  refine hxa_get (v := .ref 27) (by rfl) (by rfl) (by rfl) rfl ?_
                                  refine hxa_call0 (by rfl) (by rfl) (by rfl) (by rfl) (by rfl) (by rfl) (hX29 (d := d + 1) hA hL26) ?_
                                  rintro _ _ ⟨rfl, z35, rfl⟩
                                  refine hxa_iconst (by rfl) rfl ?_
                                  refine hxj_ixorU (by rfl) (fun z36 => ?_)
                                  refine hxj_iandU (by rfl) (fun z37 => ?_)
                                  exact hxa_ireturn (by rfl) rfl (hP _ _ ⟨rfl, _, rfl⟩)
                                ·
                                  by_cases q38 : a1.toInt = 16
                                  ·
                                    refine hxa_tabIn (by rfl) (by omega) (by omega) (by rw [q38]; rfl) (tgt := 234) (by rfl) ?_
                                    refine hxa_aload_n (by rfl) rfl ?_
                                    refine hxa_aload_n (by rfl) rfl ?_
                                    refine hxa_get (v := .ref 27) (by rfl) (by rfl) (by rfl) rfl ?_
                                    refine hxa_get (v := .ref 32) (by rfl) (by rfl) (by rfl) rfl ?_
                                    refine hxa_call0 (by rfl) (by rfl) (by rfl) (by rfl) (by rfl) (by rfl) (hX131 (d := d + 0) hA (C1 := 31) (by rfl)) ?_
                                    rintro _ _ ⟨rfl, z39, rfl⟩
                                    exact hxa_ireturn (by rfl) rfl (hP _ _ ⟨rfl, _, rfl⟩)
                                  ·
                                    by_cases q40 : a1.toInt = 17
                                    ·
                                      refine hxa_tabIn (by rfl) (by omega) (by omega) (by rw [q40]; rfl) (tgt := 246) (by rfl) ?_
                                      refine hxa_aload_n (by rfl) rfl ?_
                                      refine hxa_get (v := .ref 27) (by rfl) (by rfl) (by rfl) rfl ?_
                                      refine hxa_call0 (by rfl) (by rfl) (by rfl) (by rfl) (by rfl) (by rfl) (hX32 (d := d + 1) hA hL26) ?_
                                      rintro _ _ ⟨rfl, z41, rfl⟩
                                      exact hxa_ireturn (by rfl) rfl (hP _ _ ⟨rfl, _, rfl⟩)
                                    ·
                                      refine hxa_tabOut (by rfl) (by omega) (tgt := 254) (by rfl) ?_
                                      refine hxa_iconst (by rfl) rfl ?_
                                      exact hxa_ireturn (by rfl) rfl (hP _ _ ⟨rfl, _, rfl⟩)
theorem hX130 {d : Nat} {Bn Br : Int} {A0 A : hs_A} (hA : hJ 0 Bn Br A0 A)  (a1 : Int32) : hxC (d + 3) 130 hm_m130 [.ref 1, .int a1] A (fun r A' => A = A' ∧ ∃ z : Int32, r = some (.int z)) := hxC.of (by rfl) (hY130 hA a1 (fun r A' h => h))
theorem hY169 {d : Nat} {Bn Br : Int} {A0 A : hs_A} (hA : hJ 0 Bn Br A0 A)   {P : Option Value → hs_A → Prop} (hP : ∀ (r : Option Value) (A' : hs_A), (hJ 0 Bn Br A0 A' ∧ r = none) → P r A') : hxa (d + 0) none hm_t169 0 [.ref 368, .retAddr 0] [] A P := by
  have k0 := hk_0
  have hB0 := hA.pos
  have L23 : ∀ (m23 : Nat) (x23_1 : Int32) (Ac23 : hs_A) (hAc23 : hJ 0 Bn Br A0 Ac23) (bx23_1 : 0 ≤ x23_1.toInt) (cx23_1 : x23_1.toInt ≤ 10) (hm23 : 10 - x23_1.toInt < (m23 : Int)), hxa (d + 0) none hm_t169 23 [.ref 368, .int x23_1] [] Ac23 P := by
    intro m23
    induction m23 with
    | zero => intro x23_1 Ac23 hAc23 bx23_1 cx23_1 hm23;  exact False.elim (by omega)
    | succ m23 ih23 =>
      intro x23_1 Ac23 hAc23 bx23_1 cx23_1 hm23
      refine hxa_iload_n (by rfl) rfl ?_
      refine hxa_aload_n (by rfl) rfl ?_
      refine hxa_get (v := .ref 377) (by rfl) (by rfl) (by rfl) rfl ?_
      refine hxa_aload_n (by rfl) rfl ?_
      refine hxj_getB (by rfl) (by rfl) (by rfl) hAc23 (by rfl) (fun z1 ez1 fz1 gz1 => ?_)
      refine hxj_ialdB (by rfl) (by rfl) rfl (by omega) (by omega) hAc23 (by rfl) (fun z2 ez2 fz2 gz2 => ?_)
      refine hxj_cge (by rfl) rfl rfl (fun q3 => ?_) (fun q3 => ?_)
      ·
        refine hxa_aload_n (by rfl) rfl ?_
        refine hxa_get (v := .ref 397) (by rfl) (by rfl) (by rfl) rfl ?_
        refine hxa_bipush (by rfl) rfl ?_
        refine hxa_iconst (by rfl) rfl ?_
        refine hxj_iast396 (by rfl) hk_71 (by omega) (by omega) hk_4294967295 hAc23 (by omega) (fun A4 hA4 eA4 fA4 gA4 => ?_)
        refine hxa_aload_n (by rfl) rfl ?_
        refine hxa_aload_n (by rfl) rfl ?_
        refine hxa_get (v := .ref 383) (by rfl) (by rfl) (by rfl) rfl ?_
        refine hxa_aload_n (by rfl) rfl ?_
        refine hxj_getK (by rfl) (by rfl) (by rfl) (hkA eA4 ez1) ?_
        refine hxj_iald (by rfl) (by rfl) rfl (by omega) (by omega) (fun z5 ez5 => ?_)
        refine hxj_putI (by rfl) (by rfl) (by rfl) (by rfl) hA4 (hbokN (by rfl)) (by rfl) (by rfl) (fun A6 hA6 eA6 fA6 => ?_)
        refine hxa_aload_n (by rfl) rfl ?_
        refine hxa_iconst (by rfl) rfl ?_
        refine hxj_putI (by rfl) (by rfl) (by rfl) (by rfl) hA6 (hbokN (by rfl)) (by rfl) (by rfl) (fun A7 hA7 eA7 fA7 => ?_)
        exact hxa_return (by rfl) rfl (hP _ _ ⟨hA7, rfl⟩)
      ·
        refine hxa_aload_n (by rfl) rfl ?_
        refine hxa_get (v := .ref 397) (by rfl) (by rfl) (by rfl) rfl ?_
        refine hxa_iload_n (by rfl) rfl ?_
        refine hxa_aload_n (by rfl) rfl ?_
        refine hxa_get (v := .ref 378) (by rfl) (by rfl) (by rfl) rfl ?_
        refine hxa_bipush (by rfl) rfl ?_
        refine hxa_aload_n (by rfl) rfl ?_
        refine hxj_getK (by rfl) (by rfl) (by rfl) ez1 ?_
        refine hxj_imul (by rfl) hk_10 rfl (by omega) (by omega) (fun z8 ez8 => ?_)
        refine hxa_iload_n (by rfl) rfl ?_
        refine hxj_iadd (by rfl) rfl rfl (by omega) (by omega) (fun z9 ez9 => ?_)
        refine hxj_iald (by rfl) (by rfl) rfl (by omega) (by omega) (fun z10 ez10 => ?_)
        refine hxj_iast396 (by rfl) rfl (by omega) (by omega) rfl hAc23 (by omega) (fun A11 hA11 eA11 fA11 gA11 => ?_)
        refine hxa_aload_n (by rfl) rfl ?_
        refine hxa_get (v := .ref 397) (by rfl) (by rfl) (by rfl) rfl ?_
        refine hxa_bipush (by rfl) rfl ?_
        refine hxa_iload_n (by rfl) rfl ?_
        refine hxj_iadd (by rfl) hk_10 rfl (by omega) (by omega) (fun z12 ez12 => ?_)
        refine hxa_aload_n (by rfl) rfl ?_
        refine hxa_get (v := .ref 379) (by rfl) (by rfl) (by rfl) rfl ?_
        refine hxa_bipush (by rfl) rfl ?_
        refine hxa_aload_n (by rfl) rfl ?_
        refine hxj_getK (by rfl) (by rfl) (by rfl) (hkA eA11 ez1) ?_
        refine hxj_imul (by rfl) hk_10 rfl (by omega) (by omega) (fun z13 ez13 => ?_)
        refine hxa_iload_n (by rfl) rfl ?_
        refine hxj_iadd (by rfl) rfl rfl (by omega) (by omega) (fun z14 ez14 => ?_)
        refine hxj_iald (by rfl) (by rfl) rfl (by omega) (by omega) (fun z15 ez15 => ?_)
        refine hxj_iast396 (by rfl) rfl (by omega) (by omega) rfl hA11 (by omega) (fun A16 hA16 eA16 fA16 gA16 => ?_)
        refine hxa_aload_n (by rfl) rfl ?_
        refine hxa_get (v := .ref 397) (by rfl) (by rfl) (by rfl) rfl ?_
        refine hxa_bipush (by rfl) rfl ?_
        refine hxa_iload_n (by rfl) rfl ?_
        refine hxj_iadd (by rfl) hk_20 rfl (by omega) (by omega) (fun z17 ez17 => ?_)
        refine hxa_iload_n (by rfl) rfl ?_
        refine hxj_iast396 (by rfl) rfl (by omega) (by omega) rfl hA16 (by omega) (fun A18 hA18 eA18 fA18 gA18 => ?_)
        refine hxa_aload_n (by rfl) rfl ?_
        refine hxa_get (v := .ref 397) (by rfl) (by rfl) (by rfl) rfl ?_
        refine hxa_bipush (by rfl) rfl ?_
        refine hxa_iload_n (by rfl) rfl ?_
        refine hxj_iadd (by rfl) hk_50 rfl (by omega) (by omega) (fun z19 ez19 => ?_)
        refine hxa_iconst (by rfl) rfl ?_
        refine hxj_iast396 (by rfl) rfl (by omega) (by omega) hk_1 hA18 (by omega) (fun A20 hA20 eA20 fA20 gA20 => ?_)
        refine hxj_iinc (by rfl) rfl rfl hk_1 (by omega) (by omega) (fun _ => rfl) (fun z21 ez21 => ?_)
        refine hxa_goto (by rfl) ?_
        exact ih23 z21 A20 hA20 (by omega) (by omega) (by omega)
  have L2 : ∀ (m2 : Nat) (x2_1 : Int32) (Ac2 : hs_A) (hAc2 : hJ 0 Bn Br A0 Ac2) (bx2_1 : 0 ≤ x2_1.toInt) (cx2_1 : x2_1.toInt ≤ 73) (hm2 : 73 - x2_1.toInt < (m2 : Int)), hxa (d + 0) none hm_t169 2 [.ref 368, .int x2_1] [] Ac2 P := by
    intro m2
    induction m2 with
    | zero => intro x2_1 Ac2 hAc2 bx2_1 cx2_1 hm2;  exact False.elim (by omega)
    | succ m2 ih2 =>
      intro x2_1 Ac2 hAc2 bx2_1 cx2_1 hm2
      refine hxa_iload_n (by rfl) rfl ?_
      refine hxa_bipush (by rfl) rfl ?_
      refine hxj_cge (by rfl) rfl hk_73 (fun q22 => ?_) (fun q22 => ?_)
      ·
        refine hxa_iconst (by rfl) rfl ?_
        refine hxa_s1 (by rfl) (Or.inl ⟨_, rfl, rfl⟩) rfl ?_
        exact L23 (Int.toNat (10 - 0) + 1) (Int32.ofNat 0) Ac2 hAc2 (by omega) (by omega) (by omega)
      ·
        refine hxa_aload_n (by rfl) rfl ?_
        refine hxa_get (v := .ref 397) (by rfl) (by rfl) (by rfl) rfl ?_
        refine hxa_iload_n (by rfl) rfl ?_
        refine hxa_iconst (by rfl) rfl ?_
        refine hxj_iast396 (by rfl) rfl (by omega) (by omega) hk_0 hAc2 (by omega) (fun A23 hA23 eA23 fA23 gA23 => ?_)
        refine hxj_iinc (by rfl) rfl rfl hk_1 (by omega) (by omega) (fun _ => rfl) (fun z24 ez24 => ?_)
        refine hxa_goto (by rfl) ?_
        exact ih2 z24 A23 hA23 (by omega) (by omega) (by omega)
  refine hxa_iconst (by rfl) rfl ?_
  refine hxa_s1 (by rfl) (Or.inl ⟨_, rfl, rfl⟩) rfl ?_
  exact L2 (Int.toNat (73 - 0) + 1) (Int32.ofNat 0) A hA (by omega) (by omega) (by omega)
theorem hX169 {d : Nat} {Bn Br : Int} {A0 A : hs_A} (hA : hJ 0 Bn Br A0 A)   : hxC (d + 1) 169 hm_m169 [.ref 368] A (fun r A' => hJ 0 Bn Br A0 A' ∧ r = none) := hxC.of (by rfl) (hY169 hA  (fun r A' h => h))
