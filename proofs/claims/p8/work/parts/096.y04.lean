theorem hY100 {d : Nat} {Bn Br : Int} {A0 A : hs_A} (hA : hJ 0 Bn Br A0 A)  (a1 : Int32) (a2 : Int32) {P : Option Value → hs_A → Prop} (hP : ∀ (r : Option Value) (A' : hs_A), (hJ 0 Bn Br A0 A' ∧ ∃ z : Int32, r = some (.int z)) → P r A') : hxa (d + 6) (some (.int)) hm_t100 0 [.ref 1, .int a1, .int a2, .retAddr 0, .retAddr 0, .retAddr 0, .retAddr 0] [] A P := by
  have k0 := hk_0
  have k4294967295 := hk_4294967295
  have L42 : ∀ (m42 : Nat) (x42_3 : Nat) (x42_4 : Nat) (x42_5 : Int32) (x42_6 : Int32) (Ac42 : hs_A) (hx42_3 : hRR x42_3) (hx42_4 : hRR x42_4) (hAc42 : hJ 0 Bn Br A0 Ac42) (bx42_6 : 0 ≤ x42_6.toInt) (cx42_6 : x42_6.toInt ≤ 256) (ba1 : 0 ≤ a1.toInt) (ca1 : a1.toInt ≤ 9) (ba2 : 0 ≤ a2.toInt) (ca2 : a2.toInt ≤ 9) (hm42 : 256 - x42_6.toInt < (m42 : Int)), hxa (d + 6) (some (.int)) hm_t100 42 [.ref 1, .int a1, .int a2, .ref (x42_3 + 1), .ref (x42_4 + 1), .int x42_5, .int x42_6] [] Ac42 P := by
    intro m42
    induction m42 with
    | zero => intro x42_3 x42_4 x42_5 x42_6 Ac42 hx42_3 hx42_4 hAc42 bx42_6 cx42_6 ba1 ca1 ba2 ca2 hm42; have := hn_rng x42_5; exact False.elim (by omega)
    | succ m42 ih42 =>
      intro x42_3 x42_4 x42_5 x42_6 Ac42 hx42_3 hx42_4 hAc42 bx42_6 cx42_6 ba1 ca1 ba2 ca2 hm42
      refine hxa_iload (by rfl) rfl ?_
      refine hxa_sipush (by rfl) rfl ?_
      refine hxj_cge (by rfl) rfl hk_256 (fun q1 => ?_) (fun q1 => ?_)
      ·
        refine hxa_iload (by rfl) rfl ?_
        exact hxa_ireturn (by rfl) rfl (hP _ _ ⟨hAc42, _, rfl⟩)
      ·
        refine hxa_aload_n (by rfl) rfl ?_
        refine hxa_iload (by rfl) rfl ?_
        refine hxj_iald (by rfl) (hsR hx42_3) rfl (by omega) (by omega) (fun z2 ez2 => ?_)
        refine hxa_aload (by rfl) rfl ?_
        refine hxa_iload (by rfl) rfl ?_
        refine hxj_iald (by rfl) (hsR hx42_4) rfl (by omega) (by omega) (fun z3 ez3 => ?_)
        refine hxj_cne (by rfl) rfl rfl (fun q4 => ?_) (fun q4 => ?_)
        ·
          refine hxj_iinc (by rfl) rfl rfl hk_1 (by omega) (by omega) (fun _ => rfl) (fun z5 ez5 => ?_)
          refine hxa_goto (by rfl) ?_
          exact ih42 x42_3 x42_4 x42_5 z5 Ac42 hx42_3 hx42_4 hAc42 (by omega) (by omega) (by omega) (by omega) (by omega) (by omega) (by omega)
        ·
          refine hxj_iincU (by rfl) rfl (fun _ => rfl) (fun z6 => ?_)
          refine hxj_iinc (by rfl) rfl rfl hk_1 (by omega) (by omega) (fun _ => rfl) (fun z7 ez7 => ?_)
          refine hxa_goto (by rfl) ?_
          exact ih42 x42_3 x42_4 z6 z7 Ac42 hx42_3 hx42_4 hAc42 (by omega) (by omega) (by omega) (by omega) (by omega) (by omega) (by omega)
  refine hxa_aload_n (by rfl) rfl ?_
  refine hxa_iload_n (by rfl) rfl ?_
  refine hxa_call0 (by rfl) (by rfl) (by rfl) (by rfl) (by rfl) (by rfl) (hX76 (d := d + 5) hA a1) ?_
  rintro _ _ ⟨rfl, z8, rfl, fz8⟩
  rcases fz8 with fz8 | fz8
  ·
    refine hxj_zeq (by rfl) rfl (fun q9 => False.elim (by omega)) (fun q9 => ?_)
    refine hxa_aload_n (by rfl) rfl ?_
    refine hxa_iload_n (by rfl) rfl ?_
    refine hxa_call0 (by rfl) (by rfl) (by rfl) (by rfl) (by rfl) (by rfl) (hX76 (d := d + 5) hA a2) ?_
    rintro _ _ ⟨rfl, z10, rfl, fz10⟩
    rcases fz10 with fz10 | fz10
    ·
      refine hxj_zeq (by rfl) rfl (fun q11 => False.elim (by omega)) (fun q11 => ?_)
      refine hxa_iload_n (by rfl) rfl ?_
      refine hxa_iload_n (by rfl) rfl ?_
      refine hxj_cne (by rfl) rfl rfl (fun q12 => ?_) (fun q12 => ?_)
      ·
        refine hxa_aload_n (by rfl) rfl ?_
        refine hxa_iload_n (by rfl) rfl ?_
        refine hxa_call0 (by rfl) (by rfl) (by rfl) (by rfl) (by rfl) (by rfl) (hX89 (d := d + 0) hA a1 (by omega) (by omega)) ?_
        rintro _ A13 ⟨hA13, R14, rfl, hR14⟩
        refine hxa_astore_n (by rfl) rfl ?_
        refine hxa_aload_n (by rfl) rfl ?_
        refine hxa_iload_n (by rfl) rfl ?_
        refine hxa_call0 (by rfl) (by rfl) (by rfl) (by rfl) (by rfl) (by rfl) (hX89 (d := d + 0) hA13 a2 (by omega) (by omega)) ?_
        rintro _ A15 ⟨hA15, R16, rfl, hR16⟩
        refine hxa_astore (by rfl) rfl ?_
        refine hxa_iconst (by rfl) rfl ?_
        refine hxa_s1 (by rfl) (Or.inr ⟨_, rfl, rfl⟩) rfl ?_
        refine hxa_iconst (by rfl) rfl ?_
        refine hxa_s1 (by rfl) (Or.inr ⟨_, rfl, rfl⟩) rfl ?_
        exact L42 (Int.toNat (256 - 0) + 1) R14 R16 (Int32.ofNat 0) (Int32.ofNat 0) A15 hR14 hR16 hA15 (by omega) (by omega) (by omega) (by omega) (by omega) (by omega) (by omega)
      ·
        refine hxa_iconst (by rfl) rfl ?_
        exact hxa_ireturn (by rfl) rfl (hP _ _ ⟨hA, _, rfl⟩)
    ·
      refine hxj_zeq (by rfl) rfl (fun q17 => ?_) (fun q17 => False.elim (by omega))
      refine hxa_iconst (by rfl) rfl ?_
      exact hxa_ireturn (by rfl) rfl (hP _ _ ⟨hA, _, rfl⟩)
  ·
    refine hxj_zeq (by rfl) rfl (fun q18 => ?_) (fun q18 => False.elim (by omega))
    refine hxa_iconst (by rfl) rfl ?_
    exact hxa_ireturn (by rfl) rfl (hP _ _ ⟨hA, _, rfl⟩)
theorem hX100 {d : Nat} {Bn Br : Int} {A0 A : hs_A} (hA : hJ 0 Bn Br A0 A)  (a1 : Int32) (a2 : Int32) : hxC (d + 7) 100 hm_m100 [.ref 1, .int a1, .int a2] A (fun r A' => hJ 0 Bn Br A0 A' ∧ ∃ z : Int32, r = some (.int z)) := hxC.of (by rfl) (hY100 hA a1 a2 (fun r A' h => h))
theorem hY101 {d : Nat} {Bn Br : Int} {A0 A : hs_A} (hA : hJ 0 Bn Br A0 A)  (a1 : Int32) {P : Option Value → hs_A → Prop} (hP : ∀ (r : Option Value) (A' : hs_A), (hJ 0 Bn Br A0 A' ∧ ∃ z : Int32, r = some (.int z)) → P r A') : hxa (d + 6) (some (.int)) hm_t101 0 [.ref 1, .int a1, .retAddr 0, .retAddr 0] [] A P := by
  have k1 := hk_1
  have k4294967294 := hk_4294967294
  have k4294967295 := hk_4294967295
  have L18 : ∀ (m18 : Nat) (x18_2 : Nat) (x18_3 : Int32) (Ac18 : hs_A) (hx18_2 : hRR x18_2) (hAc18 : hJ 0 Bn Br A0 Ac18) (bx18_3 : 1 ≤ x18_3.toInt) (cx18_3 : x18_3.toInt ≤ 256) (ba1 : 0 ≤ a1.toInt) (ca1 : a1.toInt ≤ 9) (hm18 : 256 - x18_3.toInt < (m18 : Int)), hxa (d + 6) (some (.int)) hm_t101 18 [.ref 1, .int a1, .ref (x18_2 + 1), .int x18_3] [] Ac18 P := by
    intro m18
    induction m18 with
    | zero => intro x18_2 x18_3 Ac18 hx18_2 hAc18 bx18_3 cx18_3 ba1 ca1 hm18;  exact False.elim (by omega)
    | succ m18 ih18 =>
      intro x18_2 x18_3 Ac18 hx18_2 hAc18 bx18_3 cx18_3 ba1 ca1 hm18
      refine hxa_iload_n (by rfl) rfl ?_
      refine hxa_sipush (by rfl) rfl ?_
      refine hxj_cge (by rfl) rfl hk_256 (fun q1 => ?_) (fun q1 => ?_)
      ·
        refine hxa_bipush (by rfl) rfl ?_
        exact hxa_ireturn (by rfl) rfl (hP _ _ ⟨hAc18, _, rfl⟩)
      ·
        refine hxa_aload_n (by rfl) rfl ?_
        refine hxa_iload_n (by rfl) rfl ?_
        refine hxj_iald (by rfl) (hsR hx18_2) rfl (by omega) (by omega) (fun z2 ez2 => ?_)
        refine hxa_iload_n (by rfl) rfl ?_
        refine hxj_cne (by rfl) rfl rfl (fun q3 => ?_) (fun q3 => ?_)
        ·
          refine hxj_iinc (by rfl) rfl rfl hk_1 (by omega) (by omega) (fun _ => rfl) (fun z4 ez4 => ?_)
          refine hxa_goto (by rfl) ?_
          exact ih18 x18_2 z4 Ac18 hx18_2 hAc18 (by omega) (by omega) (by omega) (by omega) (by omega)
        ·
          refine hxa_iload_n (by rfl) rfl ?_
          exact hxa_ireturn (by rfl) rfl (hP _ _ ⟨hAc18, _, rfl⟩)
  refine hxa_aload_n (by rfl) rfl ?_
  refine hxa_iload_n (by rfl) rfl ?_
  refine hxa_call0 (by rfl) (by rfl) (by rfl) (by rfl) (by rfl) (by rfl) (hX76 (d := d + 5) hA a1) ?_
  rintro _ _ ⟨rfl, z5, rfl, fz5⟩
  rcases fz5 with fz5 | fz5
  ·
    refine hxj_zne (by rfl) rfl (fun q6 => ?_) (fun q6 => False.elim (by omega))
    refine hxa_aload_n (by rfl) rfl ?_
    refine hxa_iload_n (by rfl) rfl ?_
    refine hxa_call0 (by rfl) (by rfl) (by rfl) (by rfl) (by rfl) (by rfl) (hX89 (d := d + 0) hA a1 (by omega) (by omega)) ?_
    rintro _ A7 ⟨hA7, R8, rfl, hR8⟩
    refine hxa_astore_n (by rfl) rfl ?_
    refine hxa_iconst (by rfl) rfl ?_
    refine hxa_s1 (by rfl) (Or.inl ⟨_, rfl, rfl⟩) rfl ?_
    exact L18 (Int.toNat (256 - 1) + 1) R8 (Int32.ofNat 1) A7 hR8 hA7 (by omega) (by omega) (by omega) (by omega) (by omega)
  ·
    refine hxj_zne (by rfl) rfl (fun q9 => False.elim (by omega)) (fun q9 => ?_)
    refine hxa_iconst (by rfl) rfl ?_
    exact hxa_ireturn (by rfl) rfl (hP _ _ ⟨hA, _, rfl⟩)
theorem hX101 {d : Nat} {Bn Br : Int} {A0 A : hs_A} (hA : hJ 0 Bn Br A0 A)  (a1 : Int32) : hxC (d + 7) 101 hm_m101 [.ref 1, .int a1] A (fun r A' => hJ 0 Bn Br A0 A' ∧ ∃ z : Int32, r = some (.int z)) := hxC.of (by rfl) (hY101 hA a1 (fun r A' h => h))
theorem hY104 {d : Nat} {Bn Br : Int} {A0 A : hs_A} (hA : hJ 0 Bn Br A0 A)  (a1 : Int32) (a2 : Int32) {P : Option Value → hs_A → Prop} (hP : ∀ (r : Option Value) (A' : hs_A), (hJ 0 Bn Br A0 A' ∧ ∃ z : Int32, r = some (.int z) ∧ ((0 ≤ z.toInt ∧ z.toInt ≤ 1))) → P r A') : hxa (d + 0) (some (.boolean)) hm_t104 0 [.ref 1, .int a1, .int a2, .retAddr 0, .retAddr 0, .retAddr 0, .retAddr 0, .retAddr 0] [] A P := by
  have k0 := hk_0
  have k1 := hk_1
  have k23 := hk_23
  have L2 : ∀ (m2 : Nat) (x2_3 : Int32) (x2_4 : Value) (x2_5 : Value) (x2_6 : Value) (x2_7 : Value) (hx2_4 : hc_two (some x2_4) = false) (hx2_5 : hc_two (some x2_5) = false) (hx2_6 : hc_two (some x2_6) = false) (bx2_3 : 0 ≤ x2_3.toInt) (cx2_3 : x2_3.toInt ≤ 24) (hm2 : 24 - x2_3.toInt < (m2 : Int)), hxa (d + 0) (some (.boolean)) hm_t104 2 [.ref 1, .int a1, .int a2, .int x2_3, x2_4, x2_5, x2_6, x2_7] [] A P := by
    intro m2
    induction m2 with
    | zero => intro x2_3 x2_4 x2_5 x2_6 x2_7 hx2_4 hx2_5 hx2_6 bx2_3 cx2_3 hm2;  exact False.elim (by omega)
    | succ m2 ih2 =>
      intro x2_3 x2_4 x2_5 x2_6 x2_7 hx2_4 hx2_5 hx2_6 bx2_3 cx2_3 hm2
      have L35 : ∀ (m35 : Nat) (x35_4 : Int32) (x35_5 : Int32) (x35_6 : Value) (x35_7 : Value) (hx35_6 : hc_two (some x35_6) = false) (bx35_4 : 0 ≤ x35_4.toInt) (cx35_4 : x35_4.toInt ≤ 23) (bx35_5 : 0 ≤ x35_5.toInt) (cx35_5 : x35_5.toInt ≤ 24) (cx2_3 : x2_3.toInt ≤ 23) (hm35 : 24 - x35_5.toInt < (m35 : Int)), hxa (d + 0) (some (.boolean)) hm_t104 35 [.ref 1, .int a1, .int a2, .int x2_3, .int x35_4, .int x35_5, x35_6, x35_7] [] A P := by
        intro m35
        induction m35 with
        | zero => intro x35_4 x35_5 x35_6 x35_7 hx35_6 bx35_4 cx35_4 bx35_5 cx35_5 cx2_3 hm35;  exact False.elim (by omega)
        | succ m35 ih35 =>
          intro x35_4 x35_5 x35_6 x35_7 hx35_6 bx35_4 cx35_4 bx35_5 cx35_5 cx2_3 hm35
          have L72 : ∀ (m72 : Nat) (x72_6 : Int32) (x72_7 : Int32) (bx72_6 : 0 ≤ x72_6.toInt) (cx72_6 : x72_6.toInt ≤ 23) (bx72_7 : 0 ≤ x72_7.toInt) (cx72_7 : x72_7.toInt ≤ 24) (cx35_5 : x35_5.toInt ≤ 23) (hm72 : 24 - x72_7.toInt < (m72 : Int)), hxa (d + 0) (some (.boolean)) hm_t104 72 [.ref 1, .int a1, .int a2, .int x2_3, .int x35_4, .int x35_5, .int x72_6, .int x72_7] [] A P := by
            intro m72
            induction m72 with
            | zero => intro x72_6 x72_7 bx72_6 cx72_6 bx72_7 cx72_7 cx35_5 hm72;  exact False.elim (by omega)
            | succ m72 ih72 =>
              intro x72_6 x72_7 bx72_6 cx72_6 bx72_7 cx72_7 cx35_5 hm72
              refine hxa_iload (by rfl) rfl ?_
              refine hxa_iload (by rfl) rfl ?_
              refine hxj_cgt (by rfl) rfl rfl (fun q1 => ?_) (fun q1 => ?_)
              ·
                refine hxj_iinc (by rfl) rfl rfl hk_1 (by omega) (by omega) (fun _ => rfl) (fun z2 ez2 => ?_)
                refine hxa_goto (by rfl) ?_
                exact ih35 x35_4 z2 (.int x72_6) (.int x72_7) rfl (by omega) (by omega) (by omega) (by omega) (by omega) (by omega)
              ·
                refine hxa_aload_n (by rfl) rfl ?_
                refine hxa_get (v := .ref 345) (by rfl) (by rfl) (by rfl) rfl ?_
                refine hxa_iload_n (by rfl) rfl ?_
                refine hxj_iald (by rfl) (by rfl) rfl (by omega) (by omega) (fun z3 ez3 => ?_)
                refine hxa_aload_n (by rfl) rfl ?_
                refine hxa_get (v := .ref 345) (by rfl) (by rfl) (by rfl) rfl ?_
                refine hxa_iload (by rfl) rfl ?_
                refine hxj_iald (by rfl) (by rfl) rfl (by omega) (by omega) (fun z4 ez4 => ?_)
                refine hxj_iorU (by rfl) (fun z5 => ?_)
                refine hxa_aload_n (by rfl) rfl ?_
                refine hxa_get (v := .ref 345) (by rfl) (by rfl) (by rfl) rfl ?_
                refine hxa_iload (by rfl) rfl ?_
                refine hxj_iald (by rfl) (by rfl) rfl (by omega) (by omega) (fun z6 ez6 => ?_)
                refine hxj_iorU (by rfl) (fun z7 => ?_)
                refine hxa_iload_n (by rfl) rfl ?_
                refine hxj_cne (by rfl) rfl rfl (fun q8 => ?_) (fun q8 => ?_)
                ·
                  refine hxj_iinc (by rfl) rfl rfl hk_1 (by omega) (by omega) (fun _ => rfl) (fun z9 ez9 => ?_)
                  refine hxa_goto (by rfl) ?_
                  exact ih72 x72_6 z9 (by omega) (by omega) (by omega) (by omega) (by omega) (by omega)
                ·
                  refine hxa_aload_n (by rfl) rfl ?_
                  refine hxa_get (v := .ref 346) (by rfl) (by rfl) (by rfl) rfl ?_
                  refine hxa_iconst (by rfl) rfl ?_
                  refine hxa_iload_n (by rfl) rfl ?_
                  refine hxj_iast (by rfl) (by rfl) hk_0 (by omega) (by omega) hA (hbokN (by rfl)) (by rfl) (by rfl) (fun A10 hA10 eA10 fA10 gA10 => ?_)
                  refine hxa_aload_n (by rfl) rfl ?_
                  refine hxa_get (v := .ref 346) (by rfl) (by rfl) (by rfl) rfl ?_
                  refine hxa_iconst (by rfl) rfl ?_
                  refine hxa_iload (by rfl) rfl ?_
                  refine hxj_iast (by rfl) (by rfl) hk_1 (by omega) (by omega) hA10 (hbokN (by rfl)) (by rfl) (by rfl) (fun A11 hA11 eA11 fA11 gA11 => ?_)
                  refine hxa_aload_n (by rfl) rfl ?_
                  refine hxa_get (v := .ref 346) (by rfl) (by rfl) (by rfl) rfl ?_
                  refine hxa_iconst (by rfl) rfl ?_
                  refine hxa_iload (by rfl) rfl ?_
                  refine hxj_iast (by rfl) (by rfl) hk_2 (by omega) (by omega) hA11 (hbokN (by rfl)) (by rfl) (by rfl) (fun A12 hA12 eA12 fA12 gA12 => ?_)
                  refine hxa_iconst (by rfl) rfl ?_
                  exact hxa_ireturn (by rfl) (by rfl) (hP _ _ ⟨hA12, _, rfl, by omega⟩)
          refine hxa_iload (by rfl) rfl ?_
          refine hxa_iload (by rfl) rfl ?_
          refine hxj_cgt (by rfl) rfl rfl (fun q13 => ?_) (fun q13 => ?_)
          ·
            refine hxj_iinc (by rfl) rfl rfl hk_1 (by omega) (by omega) (fun _ => rfl) (fun z14 ez14 => ?_)
            refine hxa_goto (by rfl) ?_
            exact ih2 z14 (.int x35_4) (.int x35_5) (x35_6) (x35_7) rfl rfl hx35_6 (by omega) (by omega) (by omega)
          ·
            refine hxa_iload_n (by rfl) rfl ?_
            refine hxa_iconst (by rfl) rfl ?_
            refine hxj_cge (by rfl) rfl hk_3 (fun q15 => ?_) (fun q15 => ?_)
            ·
              refine hxa_bipush (by rfl) rfl ?_
              refine hxa_s1 (by rfl) (Or.inr ⟨_, rfl, rfl⟩) rfl ?_
              refine hxa_iload_n (by rfl) rfl ?_
              refine hxa_iconst (by rfl) rfl ?_
              refine hxj_cge (by rfl) rfl hk_3 (fun q16 => ?_) (fun q16 => False.elim (by omega))
              refine hxa_iload (by rfl) rfl ?_
              refine hxa_iconst (by rfl) rfl ?_
              refine hxj_iadd (by rfl) rfl hk_1 (by omega) (by omega) (fun z17 ez17 => ?_)
              refine hxa_s1 (by rfl) (Or.inr ⟨_, rfl, rfl⟩) rfl ?_
              exact L72 (Int.toNat (24 - z17.toInt) + 1) (Int32.ofNat 23) z17 (by omega) (by omega) (by omega) (by omega) (by omega) (by omega)
            ·
              refine hxa_iload (by rfl) rfl ?_
              refine hxa_goto (by rfl) ?_
              refine hxa_s1 (by rfl) (Or.inr ⟨_, rfl, rfl⟩) rfl ?_
              refine hxa_iload_n (by rfl) rfl ?_
              refine hxa_iconst (by rfl) rfl ?_
              refine hxj_cge (by rfl) rfl hk_3 (fun q18 => False.elim (by omega)) (fun q18 => ?_)
              refine hxa_iload (by rfl) rfl ?_
              refine hxa_goto (by rfl) ?_
              refine hxa_s1 (by rfl) (Or.inr ⟨_, rfl, rfl⟩) rfl ?_
              exact L72 (Int.toNat (24 - x35_5.toInt) + 1) x35_5 x35_5 (by omega) (by omega) (by omega) (by omega) (by omega) (by omega)
      refine hxa_iload_n (by rfl) rfl ?_
      refine hxa_bipush (by rfl) rfl ?_
      refine hxj_cge (by rfl) rfl hk_24 (fun q19 => ?_) (fun q19 => ?_)
      ·
        refine hxa_iconst (by rfl) rfl ?_
        exact hxa_ireturn (by rfl) (by rfl) (hP _ _ ⟨hA, _, rfl, by omega⟩)
      ·
        refine hxa_iload_n (by rfl) rfl ?_
        refine hxa_iconst (by rfl) rfl ?_
        refine hxj_cge (by rfl) rfl hk_2 (fun q20 => ?_) (fun q20 => ?_)
        ·
          refine hxa_bipush (by rfl) rfl ?_
          refine hxa_s1 (by rfl) (Or.inr ⟨_, rfl, rfl⟩) rfl ?_
          refine hxa_iload_n (by rfl) rfl ?_
          refine hxa_iconst (by rfl) rfl ?_
          refine hxj_cge (by rfl) rfl hk_2 (fun q21 => ?_) (fun q21 => False.elim (by omega))
          refine hxa_iload_n (by rfl) rfl ?_
          refine hxa_iconst (by rfl) rfl ?_
          refine hxj_iadd (by rfl) rfl hk_1 (by omega) (by omega) (fun z22 ez22 => ?_)
          refine hxa_s1 (by rfl) (Or.inr ⟨_, rfl, rfl⟩) rfl ?_
          exact L35 (Int.toNat (24 - z22.toInt) + 1) (Int32.ofNat 23) z22 (x2_6) (x2_7) hx2_6 (by omega) (by omega) (by omega) (by omega) (by omega) (by omega)
        ·
          refine hxa_iload_n (by rfl) rfl ?_
          refine hxa_goto (by rfl) ?_
          refine hxa_s1 (by rfl) (Or.inr ⟨_, rfl, rfl⟩) rfl ?_
          refine hxa_iload_n (by rfl) rfl ?_
          refine hxa_iconst (by rfl) rfl ?_
          refine hxj_cge (by rfl) rfl hk_2 (fun q23 => False.elim (by omega)) (fun q23 => ?_)
          refine hxa_iload_n (by rfl) rfl ?_
          refine hxa_goto (by rfl) ?_
          refine hxa_s1 (by rfl) (Or.inr ⟨_, rfl, rfl⟩) rfl ?_
          exact L35 (Int.toNat (24 - x2_3.toInt) + 1) x2_3 x2_3 (x2_6) (x2_7) hx2_6 (by omega) (by omega) (by omega) (by omega) (by omega) (by omega)
  refine hxa_iconst (by rfl) rfl ?_
  refine hxa_s1 (by rfl) (Or.inl ⟨_, rfl, rfl⟩) rfl ?_
  exact L2 (Int.toNat (24 - 0) + 1) (Int32.ofNat 0) (.retAddr 0) (.retAddr 0) (.retAddr 0) (.retAddr 0) rfl rfl rfl (by omega) (by omega) (by omega)
theorem hX104 {d : Nat} {Bn Br : Int} {A0 A : hs_A} (hA : hJ 0 Bn Br A0 A)  (a1 : Int32) (a2 : Int32) : hxC (d + 1) 104 hm_m104 [.ref 1, .int a1, .int a2] A (fun r A' => hJ 0 Bn Br A0 A' ∧ ∃ z : Int32, r = some (.int z) ∧ ((0 ≤ z.toInt ∧ z.toInt ≤ 1))) := hxC.of (by rfl) (hY104 hA a1 a2 (fun r A' h => h))
theorem hY103 {d : Nat} {Bn Br : Int} {A0 A : hs_A} (hA : hJ 0 Bn Br A0 A)  (a1 : Int32) (p1 : 0 ≤ a1.toInt) (q1 : a1.toInt ≤ 9) {P : Option Value → hs_A → Prop} (hP : ∀ (r : Option Value) (A' : hs_A), (hJ 0 Bn Br A0 A' ∧ ∃ z : Int32, r = some (.int z)) → P r A') : hxa (d + 4) (some (.int)) hm_t103 0 [.ref 1, .int a1, .retAddr 0, .retAddr 0] [] A P := by
  have k0 := hk_0
  have k1 := hk_1
  have k4294967294 := hk_4294967294
  have L45 : ∀ (m45 : Nat) (x45_2 : Int32) (x45_3 : Int32) (Ac45 : hs_A) (hAc45 : hJ 0 Bn Br A0 Ac45) (bx45_3 : 1 ≤ x45_3.toInt) (cx45_3 : x45_3.toInt ≤ 4) (hm45 : 4 - x45_3.toInt < (m45 : Int)), hxa (d + 4) (some (.int)) hm_t103 45 [.ref 1, .int a1, .int x45_2, .int x45_3] [] Ac45 P := by
    intro m45
    induction m45 with
    | zero => intro x45_2 x45_3 Ac45 hAc45 bx45_3 cx45_3 hm45; have := hn_rng x45_2; exact False.elim (by omega)
    | succ m45 ih45 =>
      intro x45_2 x45_3 Ac45 hAc45 bx45_3 cx45_3 hm45
      refine hxa_iload_n (by rfl) rfl ?_
      refine hxa_iconst (by rfl) rfl ?_
      refine hxj_cgt (by rfl) rfl hk_3 (fun q1 => ?_) (fun q1 => ?_)
      ·
        refine hxa_bipush (by rfl) rfl ?_
        exact hxa_ireturn (by rfl) rfl (hP _ _ ⟨hAc45, _, rfl⟩)
      ·
        refine hxa_aload_n (by rfl) rfl ?_
        refine hxa_iload_n (by rfl) rfl ?_
        refine hxa_iload_n (by rfl) rfl ?_
        refine hxa_call0 (by rfl) (by rfl) (by rfl) (by rfl) (by rfl) (by rfl) (hX104 (d := d + 3) hAc45 x45_3 x45_2) ?_
        rintro _ A2 ⟨hA2, z3, rfl, fz3⟩
        refine hxj_zeq (by rfl) rfl (fun q4 => ?_) (fun q4 => ?_)
        ·
          refine hxj_iinc (by rfl) rfl rfl hk_1 (by omega) (by omega) (fun _ => rfl) (fun z5 ez5 => ?_)
          refine hxa_goto (by rfl) ?_
          exact ih45 x45_2 z5 A2 hA2 (by omega) (by omega) (by omega)
        ·
          refine hxa_iload_n (by rfl) rfl ?_
          exact hxa_ireturn (by rfl) rfl (hP _ _ ⟨hA2, _, rfl⟩)
  have L17 : ∀ (m17 : Nat) (x17_2 : Int32) (x17_3 : Int32) (Ac17 : hs_A) (hAc17 : hJ 0 Bn Br A0 Ac17) (bx17_3 : 0 ≤ x17_3.toInt) (cx17_3 : x17_3.toInt ≤ 24) (hm17 : 24 - x17_3.toInt < (m17 : Int)), hxa (d + 4) (some (.int)) hm_t103 17 [.ref 1, .int a1, .int x17_2, .int x17_3] [] Ac17 P := by
    intro m17
    induction m17 with
    | zero => intro x17_2 x17_3 Ac17 hAc17 bx17_3 cx17_3 hm17; have := hn_rng x17_2; exact False.elim (by omega)
    | succ m17 ih17 =>
      intro x17_2 x17_3 Ac17 hAc17 bx17_3 cx17_3 hm17
      refine hxa_iload_n (by rfl) rfl ?_
      refine hxa_bipush (by rfl) rfl ?_
      refine hxj_cge (by rfl) rfl hk_24 (fun q6 => ?_) (fun q6 => ?_)
      ·
        refine hxa_iconst (by rfl) rfl ?_
        refine hxa_s1 (by rfl) (Or.inl ⟨_, rfl, rfl⟩) rfl ?_
        exact L45 (Int.toNat (4 - 1) + 1) x17_2 (Int32.ofNat 1) Ac17 hAc17 (by omega) (by omega) (by omega)
      ·
        refine hxa_aload_n (by rfl) rfl ?_
        refine hxa_get (v := .ref 345) (by rfl) (by rfl) (by rfl) rfl ?_
        refine hxa_iload_n (by rfl) rfl ?_
        refine hxa_aload_n (by rfl) rfl ?_
        refine hxa_iload_n (by rfl) rfl ?_
        refine hxa_iload_n (by rfl) rfl ?_
        refine hxa_call0 (by rfl) (by rfl) (by rfl) (by rfl) (by rfl) (by rfl) (hX90 (d := d + 0) hAc17 a1 (by omega) (by omega) x17_3) ?_
        rintro _ A7 ⟨hA7, z8, rfl, fz8⟩
        refine hxa_iload_n (by rfl) rfl ?_
        refine hxj_iandL (by rfl) rfl (by omega) (fun z9 ez9 fz9 => ?_)
        refine hxj_iast (by rfl) (by rfl) rfl (by omega) (by omega) hA7 (hbokN (by rfl)) (by rfl) (by rfl) (fun A10 hA10 eA10 fA10 gA10 => ?_)
        refine hxj_iinc (by rfl) rfl rfl hk_1 (by omega) (by omega) (fun _ => rfl) (fun z11 ez11 => ?_)
        refine hxa_goto (by rfl) ?_
        exact ih17 x17_2 z11 A10 hA10 (by omega) (by omega) (by omega)
  refine hxa_aload_n (by rfl) rfl ?_
  refine hxa_get (v := .ref 27) (by rfl) (by rfl) (by rfl) rfl ?_
  refine hxa_iload_n (by rfl) rfl ?_
  refine hxa_call0 (by rfl) (by rfl) (by rfl) (by rfl) (by rfl) (by rfl) (hX21 (d := d + 3) hA hL26 a1 (by omega) (by omega)) ?_
  rintro _ _ ⟨rfl, z12, rfl⟩
  refine hxa_s1 (by rfl) (Or.inl ⟨_, rfl, rfl⟩) rfl ?_
  refine hxa_iload_n (by rfl) rfl ?_
  refine hxj_zne (by rfl) rfl (fun q13 => ?_) (fun q13 => ?_)
  ·
    refine hxa_iconst (by rfl) rfl ?_
    refine hxa_s1 (by rfl) (Or.inl ⟨_, rfl, rfl⟩) rfl ?_
    exact L17 (Int.toNat (24 - 0) + 1) z12 (Int32.ofNat 0) A hA (by omega) (by omega) (by omega)
  ·
    refine hxa_iconst (by rfl) rfl ?_
    exact hxa_ireturn (by rfl) rfl (hP _ _ ⟨hA, _, rfl⟩)
theorem hX103 {d : Nat} {Bn Br : Int} {A0 A : hs_A} (hA : hJ 0 Bn Br A0 A)  (a1 : Int32) (p1 : 0 ≤ a1.toInt) (q1 : a1.toInt ≤ 9) : hxC (d + 5) 103 hm_m103 [.ref 1, .int a1] A (fun r A' => hJ 0 Bn Br A0 A' ∧ ∃ z : Int32, r = some (.int z)) := hxC.of (by rfl) (hY103 hA a1 p1 q1 (fun r A' h => h))
theorem hY102 {d : Nat} {Bn Br : Int} {A0 A : hs_A} (hA : hJ 0 Bn Br A0 A)  (a1 : Int32) (a2 : Int32) {P : Option Value → hs_A → Prop} (hP : ∀ (r : Option Value) (A' : hs_A), (hJ 0 Bn Br A0 A' ∧ ∃ z : Int32, r = some (.int z)) → P r A') : hxa (d + 5) (some (.int)) hm_t102 0 [.ref 1, .int a1, .int a2, .retAddr 0] [] A P := by
  have k2 := hk_2
  have k4294967295 := hk_4294967295
  refine hxa_aload_n (by rfl) rfl ?_
  refine hxa_iload_n (by rfl) rfl ?_
  refine hxa_call0 (by rfl) (by rfl) (by rfl) (by rfl) (by rfl) (by rfl) (hX76 (d := d + 4) hA a1) ?_
  rintro _ _ ⟨rfl, z1, rfl, fz1⟩
  rcases fz1 with fz1 | fz1
  ·
    refine hxj_zeq (by rfl) rfl (fun q2 => False.elim (by omega)) (fun q2 => ?_)
    refine hxa_iload_n (by rfl) rfl ?_
    refine hxa_iconst (by rfl) rfl ?_
    refine hxa_iconst (by rfl) rfl ?_
    refine hxa_call2 (by rfl) (by decide) (by rfl) (by rfl) (by rfl) (hX78 (d := d + 4)  a2 (Int32.ofNat 4294967295) (Int32.ofNat 2)) ?_
    rintro _ _ ⟨rfl, z3, rfl, fz3⟩
    rcases fz3 with fz3 | fz3
    ·
      refine hxj_zne (by rfl) rfl (fun q4 => ?_) (fun q4 => False.elim (by omega))
      refine hxa_aload_n (by rfl) rfl ?_
      refine hxa_iload_n (by rfl) rfl ?_
      refine hxa_call0 (by rfl) (by rfl) (by rfl) (by rfl) (by rfl) (by rfl) (hX103 (d := d + 0) hA a1 (by omega) (by omega)) ?_
      rintro _ A5 ⟨hA5, z6, rfl⟩
      refine hxa_s1 (by rfl) (Or.inl ⟨_, rfl, rfl⟩) rfl ?_
      refine hxa_iload_n (by rfl) rfl ?_
      refine hxa_bipush (by rfl) rfl ?_
      refine hxj_ceq (by rfl) rfl hk_4294967294 (fun q7 => ?_) (fun q7 => ?_)
      ·
        refine hxa_iload_n (by rfl) rfl ?_
        exact hxa_ireturn (by rfl) rfl (hP _ _ ⟨hA5, _, rfl⟩)
      ·
        refine hxa_iload_n (by rfl) rfl ?_
        refine hxa_iconst (by rfl) rfl ?_
        refine hxj_cne (by rfl) rfl hk_4294967295 (fun q8 => ?_) (fun q8 => ?_)
        ·
          refine hxa_iload_n (by rfl) rfl ?_
          refine hxa_iload_n (by rfl) rfl ?_
          have rgz6 := hn_rng z6
          refine hxj_cge (by rfl) rfl rfl (fun q9 => ?_) (fun q9 => ?_)
          ·
            refine hxa_iconst (by rfl) rfl ?_
            exact hxa_ireturn (by rfl) rfl (hP _ _ ⟨hA5, _, rfl⟩)
          ·
            refine hxa_aload_n (by rfl) rfl ?_
            refine hxa_get (v := .ref 346) (by rfl) (by rfl) (by rfl) rfl ?_
            refine hxa_iload_n (by rfl) rfl ?_
            refine hxj_iald (by rfl) (by rfl) rfl (by omega) (by omega) (fun z10 ez10 => ?_)
            refine hxa_goto (by rfl) ?_
            exact hxa_ireturn (by rfl) rfl (hP _ _ ⟨hA5, _, rfl⟩)
        ·
          refine hxa_iload_n (by rfl) rfl ?_
          exact hxa_ireturn (by rfl) rfl (hP _ _ ⟨hA5, _, rfl⟩)
    ·
      refine hxj_zne (by rfl) rfl (fun q11 => False.elim (by omega)) (fun q11 => ?_)
      refine hxa_iconst (by rfl) rfl ?_
      exact hxa_ireturn (by rfl) rfl (hP _ _ ⟨hA, _, rfl⟩)
  ·
    refine hxj_zeq (by rfl) rfl (fun q12 => ?_) (fun q12 => False.elim (by omega))
    refine hxa_iconst (by rfl) rfl ?_
    exact hxa_ireturn (by rfl) rfl (hP _ _ ⟨hA, _, rfl⟩)
theorem hX102 {d : Nat} {Bn Br : Int} {A0 A : hs_A} (hA : hJ 0 Bn Br A0 A)  (a1 : Int32) (a2 : Int32) : hxC (d + 6) 102 hm_m102 [.ref 1, .int a1, .int a2] A (fun r A' => hJ 0 Bn Br A0 A' ∧ ∃ z : Int32, r = some (.int z)) := hxC.of (by rfl) (hY102 hA a1 a2 (fun r A' h => h))
theorem hY105 {d : Nat} {Bn Br : Int} {A0 A : hs_A} (hA : hJ 0 Bn Br A0 A)  (a1 : Int32) (a2 : Int32) {P : Option Value → hs_A → Prop} (hP : ∀ (r : Option Value) (A' : hs_A), (hJ 0 Bn Br A0 A' ∧ ∃ z : Int32, r = some (.int z)) → P r A') : hxa (d + 4) (some (.int)) hm_t105 0 [.ref 1, .int a1, .int a2, .retAddr 0, .retAddr 0, .retAddr 0, .retAddr 0] [] A P := by
  have k0 := hk_0
  have k1 := hk_1
  have k4294967295 := hk_4294967295
  have L27 : ∀ (m27 : Nat) (x27_3 : Int32) (x27_4 : Int32) (x27_5 : Int32) (x27_6 : Value) (Ac27 : hs_A) (hAc27 : hJ 0 Bn Br A0 Ac27) (bx27_3 : 0 ≤ x27_3.toInt) (cx27_3 : x27_3.toInt ≤ 23) (bx27_4 : -1 ≤ x27_4.toInt) (cx27_4 : x27_4.toInt ≤ 8) (bx27_5 : 0 ≤ x27_5.toInt) (cx27_5 : x27_5.toInt ≤ 24) (ba1 : 0 ≤ a1.toInt) (ca1 : a1.toInt ≤ 9) (ba2 : 0 ≤ a2.toInt) (ca2 : a2.toInt ≤ 1) (hm27 : 24 - x27_5.toInt < (m27 : Int)), hxa (d + 4) (some (.int)) hm_t105 27 [.ref 1, .int a1, .int a2, .int x27_3, .int x27_4, .int x27_5, x27_6] [] Ac27 P := by
    intro m27
    induction m27 with
    | zero => intro x27_3 x27_4 x27_5 x27_6 Ac27 hAc27 bx27_3 cx27_3 bx27_4 cx27_4 bx27_5 cx27_5 ba1 ca1 ba2 ca2 hm27;  exact False.elim (by omega)
    | succ m27 ih27 =>
      intro x27_3 x27_4 x27_5 x27_6 Ac27 hAc27 bx27_3 cx27_3 bx27_4 cx27_4 bx27_5 cx27_5 ba1 ca1 ba2 ca2 hm27
      refine hxa_iload (by rfl) rfl ?_
      refine hxa_bipush (by rfl) rfl ?_
      refine hxj_cge (by rfl) rfl hk_24 (fun q1 => ?_) (fun q1 => ?_)
      ·
        refine hxa_iload_n (by rfl) rfl ?_
        refine hxj_zne (by rfl) rfl (fun q2 => ?_) (fun q2 => ?_)
        ·
          refine hxa_iload (by rfl) rfl ?_
          exact hxa_ireturn (by rfl) rfl (hP _ _ ⟨hAc27, _, rfl⟩)
        ·
          refine hxa_iload_n (by rfl) rfl ?_
          refine hxa_goto (by rfl) ?_
          exact hxa_ireturn (by rfl) rfl (hP _ _ ⟨hAc27, _, rfl⟩)
      ·
        refine hxa_aload_n (by rfl) rfl ?_
        refine hxa_iload_n (by rfl) rfl ?_
        refine hxa_iload (by rfl) rfl ?_
        refine hxa_call0 (by rfl) (by rfl) (by rfl) (by rfl) (by rfl) (by rfl) (hX90 (d := d + 0) hAc27 a1 (by omega) (by omega) x27_5) ?_
        rintro _ A3 ⟨hA3, z4, rfl, fz4⟩
        refine hxa_aload_n (by rfl) rfl ?_
        refine hxa_get (v := .ref 27) (by rfl) (by rfl) (by rfl) rfl ?_
        refine hxa_get (v := .ref 28) (by rfl) (by rfl) (by rfl) rfl ?_
        refine hxa_iload_n (by rfl) rfl ?_
        refine hxj_iald (by rfl) (by rfl) rfl (by omega) (by omega) (fun z5 ez5 => ?_)
        refine hxj_iandL (by rfl) rfl (by omega) (fun z6 ez6 fz6 => ?_)
        refine hxa_call2 (by rfl) (by decide) (by rfl) (by rfl) (by rfl) (hX242 (d := d + 3)  z6) ?_
        rintro _ _ ⟨rfl, z7, rfl, fz7⟩
        refine hxa_s1 (by rfl) (Or.inr ⟨_, rfl, rfl⟩) rfl ?_
        refine hxa_iload (by rfl) rfl ?_
        refine hxa_iload (by rfl) rfl ?_
        refine hxj_cle (by rfl) rfl rfl (fun q8 => ?_) (fun q8 => ?_)
        ·
          refine hxj_iinc (by rfl) rfl rfl hk_1 (by omega) (by omega) (fun _ => rfl) (fun z9 ez9 => ?_)
          refine hxa_goto (by rfl) ?_
          exact ih27 x27_3 x27_4 z9 (.int z7) A3 hA3 (by omega) (by omega) (by omega) (by omega) (by omega) (by omega) (by omega) (by omega) (by omega) (by omega) (by omega)
        ·
          refine hxa_iload (by rfl) rfl ?_
          refine hxa_s1 (by rfl) (Or.inr ⟨_, rfl, rfl⟩) rfl ?_
          refine hxa_iload (by rfl) rfl ?_
          refine hxa_s1 (by rfl) (Or.inl ⟨_, rfl, rfl⟩) rfl ?_
          refine hxj_iinc (by rfl) rfl rfl hk_1 (by omega) (by omega) (fun _ => rfl) (fun z10 ez10 => ?_)
          refine hxa_goto (by rfl) ?_
          exact ih27 x27_5 z7 z10 (.int z7) A3 hA3 (by omega) (by omega) (by omega) (by omega) (by omega) (by omega) (by omega) (by omega) (by omega) (by omega) (by omega)
  refine hxa_aload_n (by rfl) rfl ?_
  refine hxa_iload_n (by rfl) rfl ?_
  refine hxa_call0 (by rfl) (by rfl) (by rfl) (by rfl) (by rfl) (by rfl) (hX76 (d := d + 3) hA a1) ?_
  rintro _ _ ⟨rfl, z11, rfl, fz11⟩
  rcases fz11 with fz11 | fz11
  ·
    refine hxj_zeq (by rfl) rfl (fun q12 => False.elim (by omega)) (fun q12 => ?_)
    refine hxa_iload_n (by rfl) rfl ?_
    refine hxa_iconst (by rfl) rfl ?_
    refine hxa_iconst (by rfl) rfl ?_
    refine hxa_call2 (by rfl) (by decide) (by rfl) (by rfl) (by rfl) (hX78 (d := d + 3)  a2 (Int32.ofNat 0) (Int32.ofNat 1)) ?_
    rintro _ _ ⟨rfl, z13, rfl, fz13⟩
    rcases fz13 with fz13 | fz13
    ·
      refine hxj_zne (by rfl) rfl (fun q14 => ?_) (fun q14 => False.elim (by omega))
      refine hxa_iconst (by rfl) rfl ?_
      refine hxa_s1 (by rfl) (Or.inl ⟨_, rfl, rfl⟩) rfl ?_
      refine hxa_iconst (by rfl) rfl ?_
      refine hxa_s1 (by rfl) (Or.inr ⟨_, rfl, rfl⟩) rfl ?_
      refine hxa_iconst (by rfl) rfl ?_
      refine hxa_s1 (by rfl) (Or.inr ⟨_, rfl, rfl⟩) rfl ?_
      exact L27 (Int.toNat (24 - 0) + 1) (Int32.ofNat 0) (Int32.ofNat 4294967295) (Int32.ofNat 0) (.retAddr 0) A hA (by omega) (by omega) (by omega) (by omega) (by omega) (by omega) (by omega) (by omega) (by omega) (by omega) (by omega)
    ·
      refine hxj_zne (by rfl) rfl (fun q15 => False.elim (by omega)) (fun q15 => ?_)
      refine hxa_iconst (by rfl) rfl ?_
      exact hxa_ireturn (by rfl) rfl (hP _ _ ⟨hA, _, rfl⟩)
  ·
    refine hxj_zeq (by rfl) rfl (fun q16 => ?_) (fun q16 => False.elim (by omega))
    refine hxa_iconst (by rfl) rfl ?_
    exact hxa_ireturn (by rfl) rfl (hP _ _ ⟨hA, _, rfl⟩)
theorem hX105 {d : Nat} {Bn Br : Int} {A0 A : hs_A} (hA : hJ 0 Bn Br A0 A)  (a1 : Int32) (a2 : Int32) : hxC (d + 5) 105 hm_m105 [.ref 1, .int a1, .int a2] A (fun r A' => hJ 0 Bn Br A0 A' ∧ ∃ z : Int32, r = some (.int z)) := hxC.of (by rfl) (hY105 hA a1 a2 (fun r A' h => h))
theorem hY106 {d : Nat} {Bn Br : Int} {A0 A : hs_A} (hA : hJ 0 Bn Br A0 A)  (a1 : Int32) {P : Option Value → hs_A → Prop} (hP : ∀ (r : Option Value) (A' : hs_A), (A = A' ∧ ∃ z : Int32, r = some (.int z)) → P r A') : hxa (d + 3) (some (.int)) hm_t106 0 [.ref 1, .int a1] [] A P := by
  have k4294967295 := hk_4294967295
  refine hxa_aload_n (by rfl) rfl ?_
  refine hxa_iload_n (by rfl) rfl ?_
  refine hxa_call0 (by rfl) (by rfl) (by rfl) (by rfl) (by rfl) (by rfl) (hX76 (d := d + 2) hA a1) ?_
  rintro _ _ ⟨rfl, z1, rfl, fz1⟩
  rcases fz1 with fz1 | fz1
  ·
    refine hxj_zeq (by rfl) rfl (fun q2 => False.elim (by omega)) (fun q2 => ?_)
    refine hxa_aload_n (by rfl) rfl ?_
    refine hxa_get (v := .ref 27) (by rfl) (by rfl) (by rfl) rfl ?_
    refine hxa_iload_n (by rfl) rfl ?_
    refine hxa_call0 (by rfl) (by rfl) (by rfl) (by rfl) (by rfl) (by rfl) (hX20 (d := d + 0) hA hL26 a1) ?_
    rintro _ _ ⟨rfl, z3, rfl⟩
    refine hxa_goto (by rfl) ?_
    exact hxa_ireturn (by rfl) rfl (hP _ _ ⟨rfl, _, rfl⟩)
  ·
    refine hxj_zeq (by rfl) rfl (fun q4 => ?_) (fun q4 => False.elim (by omega))
    refine hxa_iconst (by rfl) rfl ?_
    exact hxa_ireturn (by rfl) rfl (hP _ _ ⟨rfl, _, rfl⟩)
theorem hX106 {d : Nat} {Bn Br : Int} {A0 A : hs_A} (hA : hJ 0 Bn Br A0 A)  (a1 : Int32) : hxC (d + 4) 106 hm_m106 [.ref 1, .int a1] A (fun r A' => A = A' ∧ ∃ z : Int32, r = some (.int z)) := hxC.of (by rfl) (hY106 hA a1 (fun r A' h => h))
theorem hY107 {d : Nat} {Bn Br : Int} {A0 A : hs_A} (hA : hJ 0 Bn Br A0 A)  (a1 : Int32) (a2 : Int32) (p2 : 0 ≤ a2.toInt) (q2 : a2.toInt ≤ 1) (a3 : Int32) {P : Option Value → hs_A → Prop} (hP : ∀ (r : Option Value) (A' : hs_A), (hJ 0 Bn Br A0 A' ∧ r = none) → P r A') : hxa (d + 4) none hm_t107 0 [.ref 1, .int a1, .int a2, .int a3, .retAddr 0] [] A P := by
  have k0 := hk_0
  obtain ⟨T0, hT0, -, eT0⟩ := hA.T
  have L14 : ∀ (m14 : Nat) (x14_4 : Int32) (Ac14 : hs_A) (hAc14 : hJ 0 Bn Br A0 Ac14) (bx14_4 : 0 ≤ x14_4.toInt) (hm14 : 2147483647 - x14_4.toInt < (m14 : Int)), hxa (d + 4) none hm_t107 14 [.ref 1, .int a1, .int a2, .int a3, .int x14_4] [] Ac14 P := by
    intro m14
    induction m14 with
    | zero => intro x14_4 Ac14 hAc14 bx14_4 hm14; have := hn_rng x14_4; exact False.elim (by omega)
    | succ m14 ih14 =>
      intro x14_4 Ac14 hAc14 bx14_4 hm14
      refine hxa_iload (by rfl) rfl ?_
      refine hxa_iload_n (by rfl) rfl ?_
      have rgx14_4 := hn_rng x14_4
      have rga1 := hn_rng a1
      refine hxj_cge (by rfl) rfl rfl (fun q1 => ?_) (fun q1 => ?_)
      ·
        exact hxa_return (by rfl) rfl (hP _ _ ⟨hAc14, rfl⟩)
      ·
        refine hxa_aload_n (by rfl) rfl ?_
        refine hxa_get (v := .ref 34) (by rfl) (by rfl) (by rfl) rfl ?_
        refine hxa_aload_n (by rfl) rfl ?_
        refine hxj_getT (by rfl) (by rfl) (by rfl) (hAc14.Tw eT0) ?_
        refine hxa_aload_n (by rfl) rfl ?_
        refine hxa_get (v := .ref 324) (by rfl) (by rfl) (by rfl) rfl ?_
        refine hxa_iload_n (by rfl) rfl ?_
        refine hxa_iload_n (by rfl) rfl ?_
        refine hxa_call0 (by rfl) (by rfl) (by rfl) (by rfl) (by rfl) (by rfl) (hX26 (d := d + 0) hAc14 hL33 hT0 eT0 a2 (by omega) (by omega) a3) ?_
        rintro _ A2 ⟨hA2, rfl⟩
        refine hxj_iinc (by rfl) rfl rfl hk_1 (by omega) (by omega) (fun _ => rfl) (fun z3 ez3 => ?_)
        refine hxa_goto (by rfl) ?_
        exact ih14 z3 A2 hA2 (by omega) (by omega)
  refine hxa_aload_n (by rfl) rfl ?_
  refine hxa_get (v := .ref 34) (by rfl) (by rfl) (by rfl) rfl ?_
  refine hxa_aload_n (by rfl) rfl ?_
  refine hxa_get (v := .ref 27) (by rfl) (by rfl) (by rfl) rfl ?_
  refine hxa_call0 (by rfl) (by rfl) (by rfl) (by rfl) (by rfl) (by rfl) (hX17 (d := d + 3) hA hL33 hL26) ?_
  rintro _ A4 ⟨hA4, rfl⟩
  refine hxa_iconst (by rfl) rfl ?_
  refine hxa_s1 (by rfl) (Or.inr ⟨_, rfl, rfl⟩) rfl ?_
  exact L14 (Int.toNat (2147483647 - 0) + 1) (Int32.ofNat 0) A4 hA4 (by omega) (by omega)
theorem hX107 {d : Nat} {Bn Br : Int} {A0 A : hs_A} (hA : hJ 0 Bn Br A0 A)  (a1 : Int32) (a2 : Int32) (p2 : 0 ≤ a2.toInt) (q2 : a2.toInt ≤ 1) (a3 : Int32) : hxC (d + 5) 107 hm_m107 [.ref 1, .int a1, .int a2, .int a3] A (fun r A' => hJ 0 Bn Br A0 A' ∧ r = none) := hxC.of (by rfl) (hY107 hA a1 a2 p2 q2 a3 (fun r A' h => h))
theorem hY109 {d : Nat} {Bn Br : Int} {A0 A : hs_A} (hA : hJ 0 Bn Br A0 A)  (a1 : Int32) {P : Option Value → hs_A → Prop} (hP : ∀ (r : Option Value) (A' : hs_A), (hJ 0 Bn Br A0 A' ∧ r = none) → P r A') : hxa (d + 4) none hm_t109 0 [.ref 1, .int a1, .retAddr 0, .retAddr 0] [] A P := by
  have k0 := hk_0
  obtain ⟨T0, hT0, -, eT0⟩ := hA.T
  have L21 : ∀ (m21 : Nat) (x21_2 : Int32) (x21_3 : Value) (Ac21 : hs_A) (hAc21 : hJ 0 Bn Br A0 Ac21) (bx21_2 : 0 ≤ x21_2.toInt) (hm21 : 2147483647 - x21_2.toInt < (m21 : Int)), hxa (d + 4) none hm_t109 21 [.ref 1, .int a1, .int x21_2, x21_3] [] Ac21 P := by
    intro m21
    induction m21 with
    | zero => intro x21_2 x21_3 Ac21 hAc21 bx21_2 hm21; have := hn_rng x21_2; exact False.elim (by omega)
    | succ m21 ih21 =>
      intro x21_2 x21_3 Ac21 hAc21 bx21_2 hm21
      have L45 : ∀ (m45 : Nat) (x45_3 : Int32) (Ac45 : hs_A) (hAc45 : hJ 0 Bn Br A0 Ac45) (bx45_3 : 0 ≤ x45_3.toInt) (cx45_3 : x45_3.toInt ≤ 10) (cx21_2 : x21_2.toInt ≤ 2147483646) (ba1 : 1 ≤ a1.toInt) (hm45 : 10 - x45_3.toInt < (m45 : Int)), hxa (d + 4) none hm_t109 45 [.ref 1, .int a1, .int x21_2, .int x45_3] [] Ac45 P := by
        intro m45
        induction m45 with
        | zero => intro x45_3 Ac45 hAc45 bx45_3 cx45_3 cx21_2 ba1 hm45;  exact False.elim (by omega)
        | succ m45 ih45 =>
          intro x45_3 Ac45 hAc45 bx45_3 cx45_3 cx21_2 ba1 hm45
          refine hxa_iload_n (by rfl) rfl ?_
          refine hxa_aload_n (by rfl) rfl ?_
          refine hxj_getT (by rfl) (by rfl) (by rfl) (hAc45.Tw eT0) ?_
          refine hxj_getB (by rfl) (hsT hT0) (by rfl) hAc45 (hbT_4 hT0) (fun z1 ez1 fz1 gz1 => ?_)
          refine hxj_cge (by rfl) rfl rfl (fun q2 => ?_) (fun q2 => ?_)
          ·
            refine hxj_iinc (by rfl) rfl rfl hk_1 (by omega) (by omega) (fun _ => rfl) (fun z3 ez3 => ?_)
            refine hxa_goto (by rfl) ?_
            exact ih21 z3 (.int x45_3) Ac45 hAc45 (by omega) (by omega)
          ·
            refine hxa_aload_n (by rfl) rfl ?_
            refine hxa_get (v := .ref 345) (by rfl) (by rfl) (by rfl) rfl ?_
            refine hxa_iload_n (by rfl) rfl ?_
            refine hxa_dup2IR (by rfl) ?_
            refine hxj_iald (by rfl) (by rfl) rfl (by omega) (by omega) (fun z4 ez4 => ?_)
            refine hxa_aload_n (by rfl) rfl ?_
            refine hxa_get (v := .ref 34) (by rfl) (by rfl) (by rfl) rfl ?_
            refine hxa_get (v := .ref 39) (by rfl) (by rfl) (by rfl) rfl ?_
            refine hxa_iload_n (by rfl) rfl ?_
            refine hxj_ialdB (by rfl) (by rfl) rfl (by omega) (by omega) hAc45 (by rfl) (fun z5 ez5 fz5 gz5 => ?_)
            refine hxa_call2 (by rfl) (by decide) (by rfl) (by rfl) (by rfl) (hX242 (d := d + 3)  z5) ?_
            rintro _ _ ⟨rfl, z6, rfl, fz6⟩
            refine hxj_iaddU (by rfl) (fun z7 => ?_)
            refine hxj_iast (by rfl) (by rfl) rfl (by omega) (by omega) hAc45 (hbokN (by rfl)) (by rfl) (by rfl) (fun A8 hA8 eA8 fA8 gA8 => ?_)
            refine hxj_iinc (by rfl) rfl rfl hk_1 (by omega) (by omega) (fun _ => rfl) (fun z9 ez9 => ?_)
            refine hxa_goto (by rfl) ?_
            exact ih45 z9 A8 hA8 (by omega) (by omega) (by omega) (by omega) (by omega)
      refine hxa_iload_n (by rfl) rfl ?_
      refine hxa_iload_n (by rfl) rfl ?_
      have rgx21_2 := hn_rng x21_2
      have rga1 := hn_rng a1
      refine hxj_cge (by rfl) rfl rfl (fun q10 => ?_) (fun q10 => ?_)
      ·
        exact hxa_return (by rfl) rfl (hP _ _ ⟨hAc21, rfl⟩)
      ·
        refine hxa_aload_n (by rfl) rfl ?_
        refine hxa_get (v := .ref 34) (by rfl) (by rfl) (by rfl) rfl ?_
        refine hxa_aload_n (by rfl) rfl ?_
        refine hxj_getT (by rfl) (by rfl) (by rfl) (hAc21.Tw eT0) ?_
        refine hxa_aload_n (by rfl) rfl ?_
        refine hxa_get (v := .ref 324) (by rfl) (by rfl) (by rfl) rfl ?_
        refine hxa_iconst (by rfl) rfl ?_
        refine hxa_iconst (by rfl) rfl ?_
        refine hxa_call0 (by rfl) (by rfl) (by rfl) (by rfl) (by rfl) (by rfl) (hX26 (d := d + 0) hAc21 hL33 hT0 eT0 (Int32.ofNat 0) (by omega) (by omega) (Int32.ofNat 0)) ?_
        rintro _ A11 ⟨hA11, rfl⟩
        refine hxa_iconst (by rfl) rfl ?_
        refine hxa_s1 (by rfl) (Or.inl ⟨_, rfl, rfl⟩) rfl ?_
        exact L45 (Int.toNat (10 - 0) + 1) (Int32.ofNat 0) A11 hA11 (by omega) (by omega) (by omega) (by omega) (by omega)
  refine hxa_aload_n (by rfl) rfl ?_
  refine hxa_get (v := .ref 345) (by rfl) (by rfl) (by rfl) rfl ?_
  refine hxa_iconst (by rfl) rfl ?_
  refine hxa_call2 (by rfl) (by decide) (by rfl) (by rfl) (by rfl) (hX246 (d := d + 3) hA (C := 344) (by rfl) (by omega) (hbokN (by rfl)) (by rfl) (by rfl)) ?_
  rintro _ A12 ⟨hA12, rfl⟩
  refine hxa_aload_n (by rfl) rfl ?_
  refine hxa_get (v := .ref 34) (by rfl) (by rfl) (by rfl) rfl ?_
  refine hxa_aload_n (by rfl) rfl ?_
  refine hxa_get (v := .ref 27) (by rfl) (by rfl) (by rfl) rfl ?_
  refine hxa_call0 (by rfl) (by rfl) (by rfl) (by rfl) (by rfl) (by rfl) (hX17 (d := d + 3) hA12 hL33 hL26) ?_
  rintro _ A13 ⟨hA13, rfl⟩
  refine hxa_iconst (by rfl) rfl ?_
  refine hxa_s1 (by rfl) (Or.inl ⟨_, rfl, rfl⟩) rfl ?_
  exact L21 (Int.toNat (2147483647 - 0) + 1) (Int32.ofNat 0) (.retAddr 0) A13 hA13 (by omega) (by omega)
theorem hX109 {d : Nat} {Bn Br : Int} {A0 A : hs_A} (hA : hJ 0 Bn Br A0 A)  (a1 : Int32) : hxC (d + 5) 109 hm_m109 [.ref 1, .int a1] A (fun r A' => hJ 0 Bn Br A0 A' ∧ r = none) := hxC.of (by rfl) (hY109 hA a1 (fun r A' h => h))
theorem hY108 {d : Nat} {Bn Br : Int} {A0 A : hs_A} (hA : hJ 0 Bn Br A0 A)  (a1 : Int32) (a2 : Int32) {P : Option Value → hs_A → Prop} (hP : ∀ (r : Option Value) (A' : hs_A), (hJ 0 Bn Br A0 A' ∧ ∃ z : Int32, r = some (.int z)) → P r A') : hxa (d + 5) (some (.int)) hm_t108 0 [.ref 1, .int a1, .int a2, .retAddr 0, .retAddr 0] [] A P := by
  have k0 := hk_0
  have k1 := hk_1
  have k4294967294 := hk_4294967294
  have k4294967295 := hk_4294967295
  have k72 := hk_72
  obtain ⟨T0, hT0, -, eT0⟩ := hA.T
  have L44 : ∀ (m44 : Nat) (x44_3 : Int32) (x44_4 : Int32) (Ac44 : hs_A) (hAc44 : hJ 0 Bn Br A0 Ac44) (bx44_3 : 0 ≤ x44_3.toInt) (cx44_3 : x44_3.toInt ≤ 9) (bx44_4 : 1 ≤ x44_4.toInt) (cx44_4 : x44_4.toInt ≤ 10) (ba1 : 1 ≤ a1.toInt) (ca1 : a1.toInt ≤ 72) (ba2 : 0 ≤ a2.toInt) (ca2 : a2.toInt ≤ 1) (hm44 : 10 - x44_4.toInt < (m44 : Int)), hxa (d + 5) (some (.int)) hm_t108 44 [.ref 1, .int a1, .int a2, .int x44_3, .int x44_4] [] Ac44 P := by
    intro m44
    induction m44 with
    | zero => intro x44_3 x44_4 Ac44 hAc44 bx44_3 cx44_3 bx44_4 cx44_4 ba1 ca1 ba2 ca2 hm44;  exact False.elim (by omega)
    | succ m44 ih44 =>
      intro x44_3 x44_4 Ac44 hAc44 bx44_3 cx44_3 bx44_4 cx44_4 ba1 ca1 ba2 ca2 hm44
      refine hxa_iload (by rfl) rfl ?_
      refine hxa_aload_n (by rfl) rfl ?_
      refine hxj_getT (by rfl) (by rfl) (by rfl) (hAc44.Tw eT0) ?_
      refine hxj_getB (by rfl) (hsT hT0) (by rfl) hAc44 (hbT_4 hT0) (fun z1 ez1 fz1 gz1 => ?_)
      refine hxj_cge (by rfl) rfl rfl (fun q2 => ?_) (fun q2 => ?_)
      ·
        refine hxa_iload_n (by rfl) rfl ?_
        refine hxj_zne (by rfl) rfl (fun q3 => ?_) (fun q3 => ?_)
        ·
          refine hxa_aload_n (by rfl) rfl ?_
          refine hxa_get (v := .ref 345) (by rfl) (by rfl) (by rfl) rfl ?_
          refine hxa_iload_n (by rfl) rfl ?_
          refine hxj_iald (by rfl) (by rfl) rfl (by omega) (by omega) (fun z4 ez4 => ?_)
          exact hxa_ireturn (by rfl) rfl (hP _ _ ⟨hAc44, _, rfl⟩)
        ·
          refine hxa_iload_n (by rfl) rfl ?_
          refine hxa_goto (by rfl) ?_
          exact hxa_ireturn (by rfl) rfl (hP _ _ ⟨hAc44, _, rfl⟩)
      ·
        refine hxa_aload_n (by rfl) rfl ?_
        refine hxa_get (v := .ref 345) (by rfl) (by rfl) (by rfl) rfl ?_
        refine hxa_iload (by rfl) rfl ?_
        refine hxj_iald (by rfl) (by rfl) rfl (by omega) (by omega) (fun z5 ez5 => ?_)
        refine hxa_aload_n (by rfl) rfl ?_
        refine hxa_get (v := .ref 345) (by rfl) (by rfl) (by rfl) rfl ?_
        refine hxa_iload_n (by rfl) rfl ?_
        refine hxj_iald (by rfl) (by rfl) rfl (by omega) (by omega) (fun z6 ez6 => ?_)
        have rgz5 := hn_rng z5
        have rgz6 := hn_rng z6
        refine hxj_cle (by rfl) rfl rfl (fun q7 => ?_) (fun q7 => ?_)
        ·
          refine hxj_iinc (by rfl) rfl rfl hk_1 (by omega) (by omega) (fun _ => rfl) (fun z8 ez8 => ?_)
          refine hxa_goto (by rfl) ?_
          exact ih44 x44_3 z8 Ac44 hAc44 (by omega) (by omega) (by omega) (by omega) (by omega) (by omega) (by omega) (by omega) (by omega)
        ·
          refine hxa_iload (by rfl) rfl ?_
          refine hxa_s1 (by rfl) (Or.inl ⟨_, rfl, rfl⟩) rfl ?_
          refine hxj_iinc (by rfl) rfl rfl hk_1 (by omega) (by omega) (fun _ => rfl) (fun z9 ez9 => ?_)
          refine hxa_goto (by rfl) ?_
          exact ih44 x44_4 z9 Ac44 hAc44 (by omega) (by omega) (by omega) (by omega) (by omega) (by omega) (by omega) (by omega) (by omega)
  refine hxa_iload_n (by rfl) rfl ?_
  refine hxa_iconst (by rfl) rfl ?_
  refine hxa_bipush (by rfl) rfl ?_
  refine hxa_call2 (by rfl) (by decide) (by rfl) (by rfl) (by rfl) (hX78 (d := d + 4)  a1 (Int32.ofNat 1) (Int32.ofNat 72)) ?_
  rintro _ _ ⟨rfl, z10, rfl, fz10⟩
  rcases fz10 with fz10 | fz10
  ·
    refine hxj_zeq (by rfl) rfl (fun q11 => False.elim (by omega)) (fun q11 => ?_)
    refine hxa_iload_n (by rfl) rfl ?_
    refine hxa_iconst (by rfl) rfl ?_
    refine hxa_iconst (by rfl) rfl ?_
    refine hxa_call2 (by rfl) (by decide) (by rfl) (by rfl) (by rfl) (hX78 (d := d + 4)  a2 (Int32.ofNat 0) (Int32.ofNat 1)) ?_
    rintro _ _ ⟨rfl, z12, rfl, fz12⟩
    rcases fz12 with fz12 | fz12
    ·
      refine hxj_zne (by rfl) rfl (fun q13 => ?_) (fun q13 => False.elim (by omega))
      refine hxa_aload_n (by rfl) rfl ?_
      refine hxj_getT (by rfl) (by rfl) (by rfl) (hA.Tw eT0) ?_
      refine hxj_getB (by rfl) (hsT hT0) (by rfl) hA (hbT_4 hT0) (fun z14 ez14 fz14 gz14 => ?_)
      refine hxj_zne (by rfl) rfl (fun q15 => ?_) (fun q15 => ?_)
      ·
        refine hxa_aload_n (by rfl) rfl ?_
        refine hxa_iload_n (by rfl) rfl ?_
        refine hxa_call0 (by rfl) (by rfl) (by rfl) (by rfl) (by rfl) (by rfl) (hX109 (d := d + 0) hA a1) ?_
        rintro _ A16 ⟨hA16, rfl⟩
        refine hxa_iconst (by rfl) rfl ?_
        refine hxa_s1 (by rfl) (Or.inl ⟨_, rfl, rfl⟩) rfl ?_
        refine hxa_iconst (by rfl) rfl ?_
        refine hxa_s1 (by rfl) (Or.inr ⟨_, rfl, rfl⟩) rfl ?_
        exact L44 (Int.toNat (10 - 1) + 1) (Int32.ofNat 0) (Int32.ofNat 1) A16 hA16 (by omega) (by omega) (by omega) (by omega) (by omega) (by omega) (by omega) (by omega) (by omega)
      ·
        refine hxa_bipush (by rfl) rfl ?_
        exact hxa_ireturn (by rfl) rfl (hP _ _ ⟨hA, _, rfl⟩)
    ·
      refine hxj_zne (by rfl) rfl (fun q17 => False.elim (by omega)) (fun q17 => ?_)
      refine hxa_iconst (by rfl) rfl ?_
      exact hxa_ireturn (by rfl) rfl (hP _ _ ⟨hA, _, rfl⟩)
  ·
    refine hxj_zeq (by rfl) rfl (fun q18 => ?_) (fun q18 => False.elim (by omega))
    refine hxa_iconst (by rfl) rfl ?_
    exact hxa_ireturn (by rfl) rfl (hP _ _ ⟨hA, _, rfl⟩)
theorem hX108 {d : Nat} {Bn Br : Int} {A0 A : hs_A} (hA : hJ 0 Bn Br A0 A)  (a1 : Int32) (a2 : Int32) : hxC (d + 6) 108 hm_m108 [.ref 1, .int a1, .int a2] A (fun r A' => hJ 0 Bn Br A0 A' ∧ ∃ z : Int32, r = some (.int z)) := hxC.of (by rfl) (hY108 hA a1 a2 (fun r A' h => h))
