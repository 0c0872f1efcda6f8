theorem hY226 {d : Nat} {N : Int} {A0 A : hs_A} (hA : hJ 0 N (N + 72) A0 A) (hN : N ≤ 900000) (a1 : Int32) {P : Option Value → hs_A → Prop} (hP : ∀ (r : Option Value) (A' : hs_A), (hJ 0 (N + 72) (N + 144) A0 A' ∧ ∃ z : Int32, r = some (.int z)) → P r A') : hxa (d + 6) (some (.int)) hm_t226 0 [.ref 368, .int a1] [] A P := by
  have k4294967295 := hk_4294967295
  refine hxa_iload_n (by rfl) rfl ?_
  refine hxa_call2 (by rfl) (by decide) (by rfl) (by rfl) (by rfl) (hX196 (d := d + 4)  a1) ?_
  rintro _ _ ⟨rfl, z1, rfl, fz1⟩
  rcases fz1 with fz1 | fz1
  ·
    refine hxj_zne (by rfl) rfl (fun q2 => ?_) (fun q2 => False.elim (by omega))
    refine hxa_aload_n (by rfl) rfl ?_
    refine hxa_call0 (by rfl) (by rfl) (by rfl) (by rfl) (by rfl) (by rfl) (hX171 (d := d + 5) hA ) ?_
    rintro _ A3 ⟨hA3, rfl⟩
    refine hxa_aload_n (by rfl) rfl ?_
    refine hxa_iload_n (by rfl) rfl ?_
    refine hxa_call0 (by rfl) (by rfl) (by rfl) (by rfl) (by rfl) (by rfl) (hX185 (d := d + 0) hA3 (by omega) a1 (by omega) (by omega)) ?_
    rintro _ A4 ⟨hA4, rfl⟩
    refine hxa_aload_n (by rfl) rfl ?_
    refine hxa_call0 (by rfl) (by rfl) (by rfl) (by rfl) (by rfl) (by rfl) (hX225 (d := d + 5) hA4 ) ?_
    rintro _ _ ⟨rfl, z5, rfl⟩
    refine hxa_call2 (by rfl) (by decide) (by rfl) (by rfl) (by rfl) (hX166 (d := d + 5)  z5) ?_
    rintro _ _ ⟨rfl, z6, rfl⟩
    exact hxa_ireturn (by rfl) rfl (hP _ _ ⟨(hJ.mono hA4 (by omega) (by omega)), _, rfl⟩)
  ·
    refine hxj_zne (by rfl) rfl (fun q7 => False.elim (by omega)) (fun q7 => ?_)
    refine hxa_iconst (by rfl) rfl ?_
    exact hxa_ireturn (by rfl) rfl (hP _ _ ⟨(hJ.mono hA (by omega) (by omega)), _, rfl⟩)
theorem hX226 {d : Nat} {N : Int} {A0 A : hs_A} (hA : hJ 0 N (N + 72) A0 A) (hN : N ≤ 900000) (a1 : Int32) : hxC (d + 7) 226 hm_m226 [.ref 368, .int a1] A (fun r A' => hJ 0 (N + 72) (N + 144) A0 A' ∧ ∃ z : Int32, r = some (.int z)) := hxC.of (by rfl) (hY226 hA hN a1 (fun r A' h => h))
theorem hY227 {d : Nat} {Bn Br : Int} {A0 A : hs_A} (hA : hJ 0 Bn Br A0 A)  (a1 : Int32) {P : Option Value → hs_A → Prop} (hP : ∀ (r : Option Value) (A' : hs_A), (A = A' ∧ ∃ z : Int32, r = some (.int z)) → P r A') : hxa (d + 1) (some (.int)) hm_t227 0 [.ref 368, .int a1, .retAddr 0, .retAddr 0, .retAddr 0, .retAddr 0, .retAddr 0] [] A P := by
  have k0 := hk_0
  have k1 := hk_1
  have k4294967294 := hk_4294967294
  have k4294967295 := hk_4294967295
  have L19 : ∀ (m19 : Nat) (x19_2 : Int32) (x19_3 : Int32) (x19_4 : Int32) (x19_5 : Value) (x19_6 : Value) (hx19_5 : hc_two (some x19_5) = false) (bx19_2 : -2 ≤ x19_2.toInt) (cx19_2 : x19_2.toInt ≤ 255) (bx19_3 : 0 ≤ x19_3.toInt) (bx19_4 : 0 ≤ x19_4.toInt) (cx19_4 : x19_4.toInt ≤ 10) (ba1 : 0 ≤ a1.toInt) (ca1 : a1.toInt ≤ 1) (hm19 : 10 - x19_4.toInt < (m19 : Int)), hxa (d + 1) (some (.int)) hm_t227 19 [.ref 368, .int a1, .int x19_2, .int x19_3, .int x19_4, x19_5, x19_6] [] A P := by
    intro m19
    induction m19 with
    | zero => intro x19_2 x19_3 x19_4 x19_5 x19_6 hx19_5 bx19_2 cx19_2 bx19_3 bx19_4 cx19_4 ba1 ca1 hm19; have := hn_rng x19_3; exact False.elim (by omega)
    | succ m19 ih19 =>
      intro x19_2 x19_3 x19_4 x19_5 x19_6 hx19_5 bx19_2 cx19_2 bx19_3 bx19_4 cx19_4 ba1 ca1 hm19
      have L36 : ∀ (m36 : Nat) (x36_2 : Int32) (x36_3 : Int32) (x36_5 : Int32) (x36_6 : Value) (bx36_2 : -2 ≤ x36_2.toInt) (cx36_2 : x36_2.toInt ≤ 255) (bx36_3 : 0 ≤ x36_3.toInt) (bx36_5 : 0 ≤ x36_5.toInt) (cx36_5 : x36_5.toInt ≤ 10) (cx19_4 : x19_4.toInt ≤ 9) (hm36 : 10 - x36_5.toInt < (m36 : Int)), hxa (d + 1) (some (.int)) hm_t227 36 [.ref 368, .int a1, .int x36_2, .int x36_3, .int x19_4, .int x36_5, x36_6] [] A P := by
        intro m36
        induction m36 with
        | zero => intro x36_2 x36_3 x36_5 x36_6 bx36_2 cx36_2 bx36_3 bx36_5 cx36_5 cx19_4 hm36; have := hn_rng x36_3; exact False.elim (by omega)
        | succ m36 ih36 =>
          intro x36_2 x36_3 x36_5 x36_6 bx36_2 cx36_2 bx36_3 bx36_5 cx36_5 cx19_4 hm36
          refine hxa_iload (by rfl) rfl ?_
          refine hxa_aload_n (by rfl) rfl ?_
          refine hxa_get (v := .ref 377) (by rfl) (by rfl) (by rfl) rfl ?_
          refine hxa_aload_n (by rfl) rfl ?_
          refine hxj_getB (by rfl) (by rfl) (by rfl) hA (by rfl) (fun z1 ez1 fz1 gz1 => ?_)
          refine hxj_ialdB (by rfl) (by rfl) rfl (by omega) (by omega) hA (by rfl) (fun z2 ez2 fz2 gz2 => ?_)
          refine hxj_cge (by rfl) rfl rfl (fun q3 => ?_) (fun q3 => ?_)
          ·
            refine hxj_iinc (by rfl) rfl rfl hk_1 (by omega) (by omega) (fun _ => rfl) (fun z4 ez4 => ?_)
            refine hxa_goto (by rfl) ?_
            exact ih19 x36_2 x36_3 z4 (.int x36_5) (x36_6) rfl (by omega) (by omega) (by omega) (by omega) (by omega) (by omega) (by omega) (by omega)
          ·
            refine hxa_aload_n (by rfl) rfl ?_
            refine hxa_get (v := .ref 396) (by rfl) (by rfl) (by rfl) rfl ?_
            refine hxa_bipush (by rfl) rfl ?_
            refine hxa_iload (by rfl) rfl ?_
            refine hxj_iadd (by rfl) hk_30 rfl (by omega) (by omega) (fun z5 ez5 => ?_)
            refine hxj_iald395 (by rfl) rfl (by omega) (by omega) hA (fun z6 ez6 fz6 => ?_)
            refine hxa_aload_n (by rfl) rfl ?_
            refine hxa_get (v := .ref 396) (by rfl) (by rfl) (by rfl) rfl ?_
            refine hxa_iload (by rfl) rfl ?_
            refine hxj_iald395 (by rfl) rfl (by omega) (by omega) hA (fun z7 ez7 fz7 => ?_)
            refine hxj_iandU (by rfl) (fun z8 => ?_)
            refine hxa_aload_n (by rfl) rfl ?_
            refine hxa_get (v := .ref 396) (by rfl) (by rfl) (by rfl) rfl ?_
            refine hxa_bipush (by rfl) rfl ?_
            refine hxa_iload (by rfl) rfl ?_
            refine hxj_iadd (by rfl) hk_40 rfl (by omega) (by omega) (fun z9 ez9 => ?_)
            refine hxj_iald395 (by rfl) rfl (by omega) (by omega) hA (fun z10 ez10 fz10 => ?_)
            refine hxa_iconst (by rfl) rfl ?_
            refine hxj_ixorU (by rfl) (fun z11 => ?_)
            refine hxj_iandU (by rfl) (fun z12 => ?_)
            refine hxa_call2 (by rfl) (by decide) (by rfl) (by rfl) (by rfl) (hX166 (d := d + 0)  z12) ?_
            rintro _ _ ⟨rfl, z13, rfl⟩
            refine hxa_s1 (by rfl) (Or.inr ⟨_, rfl, rfl⟩) rfl ?_
            refine hxa_iload (by rfl) rfl ?_
            refine hxa_iload (by rfl) rfl ?_
            refine hxj_ceq (by rfl) rfl rfl (fun q14 => ?_) (fun q14 => ?_)
            ·
              refine hxj_iinc (by rfl) rfl rfl hk_1 (by omega) (by omega) (fun _ => rfl) (fun z15 ez15 => ?_)
              refine hxa_goto (by rfl) ?_
              exact ih36 x36_2 x36_3 z15 (.int z13) (by omega) (by omega) (by omega) (by omega) (by omega) (by omega) (by omega)
            ·
              refine hxa_iload (by rfl) rfl ?_
              refine hxa_iload_n (by rfl) rfl ?_
              have rgz13 := hn_rng z13
              have rgx36_3 := hn_rng x36_3
              refine hxj_cgt (by rfl) rfl rfl (fun q16 => ?_) (fun q16 => ?_)
              ·
                refine hxa_bipush (by rfl) rfl ?_
                refine hxa_iload (by rfl) rfl ?_
                refine hxj_imul (by rfl) hk_10 rfl (by omega) (by omega) (fun z17 ez17 => ?_)
                refine hxa_iload (by rfl) rfl ?_
                refine hxj_iadd (by rfl) rfl rfl (by omega) (by omega) (fun z18 ez18 => ?_)
                refine hxa_s1 (by rfl) (Or.inl ⟨_, rfl, rfl⟩) rfl ?_
                refine hxa_iload (by rfl) rfl ?_
                refine hxa_s1 (by rfl) (Or.inl ⟨_, rfl, rfl⟩) rfl ?_
                refine hxj_iinc (by rfl) rfl rfl hk_1 (by omega) (by omega) (fun _ => rfl) (fun z19 ez19 => ?_)
                refine hxa_goto (by rfl) ?_
                exact ih36 z18 z13 z19 (.int z13) (by omega) (by omega) (by omega) (by omega) (by omega) (by omega) (by omega)
              ·
                refine hxa_goto (by rfl) ?_
                refine hxj_iinc (by rfl) rfl rfl hk_1 (by omega) (by omega) (fun _ => rfl) (fun z20 ez20 => ?_)
                refine hxa_goto (by rfl) ?_
                exact ih36 x36_2 x36_3 z20 (.int z13) (by omega) (by omega) (by omega) (by omega) (by omega) (by omega) (by omega)
      refine hxa_iload (by rfl) rfl ?_
      refine hxa_aload_n (by rfl) rfl ?_
      refine hxa_get (v := .ref 377) (by rfl) (by rfl) (by rfl) rfl ?_
      refine hxa_aload_n (by rfl) rfl ?_
      refine hxj_getB (by rfl) (by rfl) (by rfl) hA (by rfl) (fun z21 ez21 fz21 gz21 => ?_)
      refine hxj_ialdB (by rfl) (by rfl) rfl (by omega) (by omega) hA (by rfl) (fun z22 ez22 fz22 gz22 => ?_)
      refine hxj_cge (by rfl) rfl rfl (fun q23 => ?_) (fun q23 => ?_)
      ·
        refine hxa_iload_n (by rfl) rfl ?_
        refine hxj_zlt (by rfl) rfl (fun q24 => ?_) (fun q24 => ?_)
        ·
          refine hxa_iload_n (by rfl) rfl ?_
          refine hxa_goto (by rfl) ?_
          exact hxa_ireturn (by rfl) rfl (hP _ _ ⟨rfl, _, rfl⟩)
        ·
          refine hxa_iload_n (by rfl) rfl ?_
          refine hxj_zne (by rfl) rfl (fun q25 => ?_) (fun q25 => ?_)
          ·
            refine hxa_iload_n (by rfl) rfl ?_
            exact hxa_ireturn (by rfl) rfl (hP _ _ ⟨rfl, _, rfl⟩)
          ·
            refine hxa_iload_n (by rfl) rfl ?_
            refine hxa_goto (by rfl) ?_
            exact hxa_ireturn (by rfl) rfl (hP _ _ ⟨rfl, _, rfl⟩)
      ·
        refine hxa_iconst (by rfl) rfl ?_
        refine hxa_s1 (by rfl) (Or.inr ⟨_, rfl, rfl⟩) rfl ?_
        exact L36 (Int.toNat (10 - 0) + 1) x19_2 x19_3 (Int32.ofNat 0) (x19_6) (by omega) (by omega) (by omega) (by omega) (by omega) (by omega) (by omega)
  refine hxa_iload_n (by rfl) rfl ?_
  refine hxa_iconst (by rfl) rfl ?_
  refine hxa_iconst (by rfl) rfl ?_
  refine hxa_call2 (by rfl) (by decide) (by rfl) (by rfl) (by rfl) (hX164 (d := d + 0)  a1 (Int32.ofNat 0) (Int32.ofNat 1)) ?_
  rintro _ _ ⟨rfl, z26, rfl, fz26⟩
  rcases fz26 with fz26 | fz26
  ·
    refine hxj_zne (by rfl) rfl (fun q27 => ?_) (fun q27 => False.elim (by omega))
    refine hxa_bipush (by rfl) rfl ?_
    refine hxa_s1 (by rfl) (Or.inl ⟨_, rfl, rfl⟩) rfl ?_
    refine hxa_iconst (by rfl) rfl ?_
    refine hxa_s1 (by rfl) (Or.inl ⟨_, rfl, rfl⟩) rfl ?_
    refine hxa_iconst (by rfl) rfl ?_
    refine hxa_s1 (by rfl) (Or.inr ⟨_, rfl, rfl⟩) rfl ?_
    exact L19 (Int.toNat (10 - 0) + 1) (Int32.ofNat 4294967294) (Int32.ofNat 0) (Int32.ofNat 0) (.retAddr 0) (.retAddr 0) rfl (by omega) (by omega) (by omega) (by omega) (by omega) (by omega) (by omega) (by omega)
  ·
    refine hxj_zne (by rfl) rfl (fun q28 => False.elim (by omega)) (fun q28 => ?_)
    refine hxa_iconst (by rfl) rfl ?_
    exact hxa_ireturn (by rfl) rfl (hP _ _ ⟨rfl, _, rfl⟩)
theorem hX227 {d : Nat} {Bn Br : Int} {A0 A : hs_A} (hA : hJ 0 Bn Br A0 A)  (a1 : Int32) : hxC (d + 2) 227 hm_m227 [.ref 368, .int a1] A (fun r A' => A = A' ∧ ∃ z : Int32, r = some (.int z)) := hxC.of (by rfl) (hY227 hA a1 (fun r A' h => h))
theorem hY228 {d : Nat} {Bn Br : Int} {A0 A : hs_A} (hA : hJ 0 Bn Br A0 A)  (a1 : Int32) {P : Option Value → hs_A → Prop} (hP : ∀ (r : Option Value) (A' : hs_A), (A = A' ∧ ∃ z : Int32, r = some (.int z)) → P r A') : hxa (d + 2) (some (.int)) hm_t228 0 [.ref 368, .int a1] [] A P := by
  have k4294967295 := hk_4294967295
  refine hxa_aload_n (by rfl) rfl ?_
  refine hxa_iload_n (by rfl) rfl ?_
  refine hxa_call0 (by rfl) (by rfl) (by rfl) (by rfl) (by rfl) (by rfl) (hX167 (d := d + 0) hA a1) ?_
  rintro _ _ ⟨rfl, z1, rfl, fz1⟩
  rcases fz1 with fz1 | fz1
  ·
    refine hxj_zeq (by rfl) rfl (fun q2 => False.elim (by omega)) (fun q2 => ?_)
    refine hxa_aload_n (by rfl) rfl ?_
    refine hxa_get (v := .ref 396) (by rfl) (by rfl) (by rfl) rfl ?_
    refine hxa_iload_n (by rfl) rfl ?_
    refine hxj_iald395 (by rfl) rfl (by omega) (by omega) hA (fun z3 ez3 fz3 => ?_)
    refine hxa_aload_n (by rfl) rfl ?_
    refine hxa_get (v := .ref 396) (by rfl) (by rfl) (by rfl) rfl ?_
    refine hxa_bipush (by rfl) rfl ?_
    refine hxa_iload_n (by rfl) rfl ?_
    refine hxj_iadd (by rfl) hk_40 rfl (by omega) (by omega) (fun z4 ez4 => ?_)
    refine hxj_iald395 (by rfl) rfl (by omega) (by omega) hA (fun z5 ez5 fz5 => ?_)
    refine hxa_iconst (by rfl) rfl ?_
    refine hxj_ixorU (by rfl) (fun z6 => ?_)
    refine hxj_iandU (by rfl) (fun z7 => ?_)
    refine hxa_goto (by rfl) ?_
    exact hxa_ireturn (by rfl) rfl (hP _ _ ⟨rfl, _, rfl⟩)
  ·
    refine hxj_zeq (by rfl) rfl (fun q8 => ?_) (fun q8 => False.elim (by omega))
    refine hxa_iconst (by rfl) rfl ?_
    exact hxa_ireturn (by rfl) rfl (hP _ _ ⟨rfl, _, rfl⟩)
theorem hX228 {d : Nat} {Bn Br : Int} {A0 A : hs_A} (hA : hJ 0 Bn Br A0 A)  (a1 : Int32) : hxC (d + 3) 228 hm_m228 [.ref 368, .int a1] A (fun r A' => A = A' ∧ ∃ z : Int32, r = some (.int z)) := hxC.of (by rfl) (hY228 hA a1 (fun r A' h => h))
theorem hY229 {d : Nat} {N : Int} {A0 A : hs_A} (hA : hJ 0 N (N + 72) A0 A) (hN : N ≤ 900000) (a1 : Int32) {P : Option Value → hs_A → Prop} (hP : ∀ (r : Option Value) (A' : hs_A), (hJ 0 (N + 72) (N + 144) A0 A' ∧ ∃ z : Int32, r = some (.int z)) → P r A') : hxa (d + 6) (some (.int)) hm_t229 0 [.ref 368, .int a1, .retAddr 0, .retAddr 0, .retAddr 0, .retAddr 0] [] A P := by
  have k0 := hk_0
  have k1 := hk_1
  have k4294967294 := hk_4294967294
  have k4294967295 := hk_4294967295
  have k48 := hk_48
  have L32 : ∀ (m32 : Nat) (x32_2 : Int32) (x32_3 : Int32) (x32_4 : Int32) (x32_5 : Value) (Ac32 : hs_A) (hAc32 : hJ 0 N (N + 72) A0 Ac32) (bx32_3 : -2 ≤ x32_3.toInt) (cx32_3 : x32_3.toInt ≤ 255) (bx32_4 : 0 ≤ x32_4.toInt) (cx32_4 : x32_4.toInt ≤ 10) (ba1 : 0 ≤ a1.toInt) (ca1 : a1.toInt ≤ 1) (hm32 : 10 - x32_4.toInt < (m32 : Int)), hxa (d + 6) (some (.int)) hm_t229 32 [.ref 368, .int a1, .int x32_2, .int x32_3, .int x32_4, x32_5] [] Ac32 P := by
    intro m32
    induction m32 with
    | zero => intro x32_2 x32_3 x32_4 x32_5 Ac32 hAc32 bx32_3 cx32_3 bx32_4 cx32_4 ba1 ca1 hm32; have := hn_rng x32_2; exact False.elim (by omega)
    | succ m32 ih32 =>
      intro x32_2 x32_3 x32_4 x32_5 Ac32 hAc32 bx32_3 cx32_3 bx32_4 cx32_4 ba1 ca1 hm32
      have L52 : ∀ (m52 : Nat) (x52_2 : Int32) (x52_3 : Int32) (x52_5 : Int32) (Ac52 : hs_A) (hAc52 : hJ 0 N (N + 72) A0 Ac52) (bx52_3 : -2 ≤ x52_3.toInt) (cx52_3 : x52_3.toInt ≤ 255) (bx52_5 : 1 ≤ x52_5.toInt) (cx52_5 : x52_5.toInt ≤ 10) (cx32_4 : x32_4.toInt ≤ 9) (hm52 : 10 - x52_5.toInt < (m52 : Int)), hxa (d + 6) (some (.int)) hm_t229 52 [.ref 368, .int a1, .int x52_2, .int x52_3, .int x32_4, .int x52_5] [] Ac52 P := by
        intro m52
        induction m52 with
        | zero => intro x52_2 x52_3 x52_5 Ac52 hAc52 bx52_3 cx52_3 bx52_5 cx52_5 cx32_4 hm52; have := hn_rng x52_2; exact False.elim (by omega)
        | succ m52 ih52 =>
          intro x52_2 x52_3 x52_5 Ac52 hAc52 bx52_3 cx52_3 bx52_5 cx52_5 cx32_4 hm52
          refine hxa_iload (by rfl) rfl ?_
          refine hxa_aload_n (by rfl) rfl ?_
          refine hxa_get (v := .ref 377) (by rfl) (by rfl) (by rfl) rfl ?_
          refine hxa_aload_n (by rfl) rfl ?_
          refine hxj_getB (by rfl) (by rfl) (by rfl) hAc52 (by rfl) (fun z1 ez1 fz1 gz1 => ?_)
          refine hxj_ialdB (by rfl) (by rfl) rfl (by omega) (by omega) hAc52 (by rfl) (fun z2 ez2 fz2 gz2 => ?_)
          refine hxj_cge (by rfl) rfl rfl (fun q3 => ?_) (fun q3 => ?_)
          ·
            refine hxj_iinc (by rfl) rfl rfl hk_1 (by omega) (by omega) (fun _ => rfl) (fun z4 ez4 => ?_)
            refine hxa_goto (by rfl) ?_
            exact ih32 x52_2 x52_3 z4 (.int x52_5) Ac52 hAc52 (by omega) (by omega) (by omega) (by omega) (by omega) (by omega) (by omega)
          ·
            refine hxa_aload_n (by rfl) rfl ?_
            refine hxa_call0 (by rfl) (by rfl) (by rfl) (by rfl) (by rfl) (by rfl) (hX172 (d := d + 4) hAc52 ) ?_
            rintro _ A5 ⟨hA5, rfl⟩
            refine hxa_aload_n (by rfl) rfl ?_
            refine hxa_iload (by rfl) rfl ?_
            refine hxa_iload (by rfl) rfl ?_
            refine hxa_call0 (by rfl) (by rfl) (by rfl) (by rfl) (by rfl) (by rfl) (hX194 (d := d + 5) hA5 x32_4 (by omega) (by omega) x52_5 (by omega) (by omega)) ?_
            rintro _ A6 ⟨hA6, rfl⟩
            refine hxa_aload_n (by rfl) rfl ?_
            refine hxa_bipush (by rfl) rfl ?_
            refine hxa_call0 (by rfl) (by rfl) (by rfl) (by rfl) (by rfl) (by rfl) (hX185 (d := d + 0) hA6 (by omega) (Int32.ofNat 48) (by omega) (by omega)) ?_
            rintro _ A7 ⟨hA7, rfl⟩
            refine hxa_aload_n (by rfl) rfl ?_
            refine hxa_call0 (by rfl) (by rfl) (by rfl) (by rfl) (by rfl) (by rfl) (hX187 (d := d + 4) hA7 ) ?_
            rintro _ _ ⟨rfl, z8, rfl⟩
            refine hxa_iload_n (by rfl) rfl ?_
            have rgz8 := hn_rng z8
            have rgx52_2 := hn_rng x52_2
            refine hxj_cgt (by rfl) rfl rfl (fun q9 => ?_) (fun q9 => ?_)
            ·
              refine hxa_bipush (by rfl) rfl ?_
              refine hxa_iload (by rfl) rfl ?_
              refine hxj_imul (by rfl) hk_10 rfl (by omega) (by omega) (fun z10 ez10 => ?_)
              refine hxa_iload (by rfl) rfl ?_
              refine hxj_iadd (by rfl) rfl rfl (by omega) (by omega) (fun z11 ez11 => ?_)
              refine hxa_s1 (by rfl) (Or.inl ⟨_, rfl, rfl⟩) rfl ?_
              refine hxa_aload_n (by rfl) rfl ?_
              refine hxa_call0 (by rfl) (by rfl) (by rfl) (by rfl) (by rfl) (by rfl) (hX187 (d := d + 4) hA7 ) ?_
              rintro _ _ ⟨rfl, z12, rfl⟩
              refine hxa_s1 (by rfl) (Or.inl ⟨_, rfl, rfl⟩) rfl ?_
              refine hxj_iinc (by rfl) rfl rfl hk_1 (by omega) (by omega) (fun _ => rfl) (fun z13 ez13 => ?_)
              refine hxa_goto (by rfl) ?_
              exact ih52 z12 z11 z13 A7 hA7 (by omega) (by omega) (by omega) (by omega) (by omega) (by omega)
            ·
              refine hxa_goto (by rfl) ?_
              refine hxj_iinc (by rfl) rfl rfl hk_1 (by omega) (by omega) (fun _ => rfl) (fun z14 ez14 => ?_)
              refine hxa_goto (by rfl) ?_
              exact ih52 x52_2 x52_3 z14 A7 hA7 (by omega) (by omega) (by omega) (by omega) (by omega) (by omega)
      refine hxa_iload (by rfl) rfl ?_
      refine hxa_aload_n (by rfl) rfl ?_
      refine hxa_get (v := .ref 377) (by rfl) (by rfl) (by rfl) rfl ?_
      refine hxa_aload_n (by rfl) rfl ?_
      refine hxj_getB (by rfl) (by rfl) (by rfl) hAc32 (by rfl) (fun z15 ez15 fz15 gz15 => ?_)
      refine hxj_ialdB (by rfl) (by rfl) rfl (by omega) (by omega) hAc32 (by rfl) (fun z16 ez16 fz16 gz16 => ?_)
      refine hxj_cge (by rfl) rfl rfl (fun q17 => ?_) (fun q17 => ?_)
      ·
        refine hxa_iload_n (by rfl) rfl ?_
        refine hxj_zlt (by rfl) rfl (fun q18 => ?_) (fun q18 => ?_)
        ·
          refine hxa_iload_n (by rfl) rfl ?_
          refine hxa_goto (by rfl) ?_
          exact hxa_ireturn (by rfl) rfl (hP _ _ ⟨(hJ.mono hAc32 (by omega) (by omega)), _, rfl⟩)
        ·
          refine hxa_iload_n (by rfl) rfl ?_
          refine hxj_zne (by rfl) rfl (fun q19 => ?_) (fun q19 => ?_)
          ·
            refine hxa_iload_n (by rfl) rfl ?_
            exact hxa_ireturn (by rfl) rfl (hP _ _ ⟨(hJ.mono hAc32 (by omega) (by omega)), _, rfl⟩)
          ·
            refine hxa_iload_n (by rfl) rfl ?_
            refine hxa_goto (by rfl) ?_
            exact hxa_ireturn (by rfl) rfl (hP _ _ ⟨(hJ.mono hAc32 (by omega) (by omega)), _, rfl⟩)
      ·
        refine hxa_iload (by rfl) rfl ?_
        refine hxa_iconst (by rfl) rfl ?_
        refine hxj_iadd (by rfl) rfl hk_1 (by omega) (by omega) (fun z20 ez20 => ?_)
        refine hxa_s1 (by rfl) (Or.inr ⟨_, rfl, rfl⟩) rfl ?_
        exact L52 (Int.toNat (10 - z20.toInt) + 1) x32_2 x32_3 z20 Ac32 hAc32 (by omega) (by omega) (by omega) (by omega) (by omega) (by omega)
  refine hxa_iload_n (by rfl) rfl ?_
  refine hxa_iconst (by rfl) rfl ?_
  refine hxa_iconst (by rfl) rfl ?_
  refine hxa_call2 (by rfl) (by decide) (by rfl) (by rfl) (by rfl) (hX164 (d := d + 5)  a1 (Int32.ofNat 0) (Int32.ofNat 1)) ?_
  rintro _ _ ⟨rfl, z21, rfl, fz21⟩
  rcases fz21 with fz21 | fz21
  ·
    refine hxj_zne (by rfl) rfl (fun q22 => ?_) (fun q22 => False.elim (by omega))
    refine hxa_aload_n (by rfl) rfl ?_
    refine hxa_call0 (by rfl) (by rfl) (by rfl) (by rfl) (by rfl) (by rfl) (hX172 (d := d + 4) hA ) ?_
    rintro _ A23 ⟨hA23, rfl⟩
    refine hxa_aload_n (by rfl) rfl ?_
    refine hxa_bipush (by rfl) rfl ?_
    refine hxa_call0 (by rfl) (by rfl) (by rfl) (by rfl) (by rfl) (by rfl) (hX185 (d := d + 0) hA23 (by omega) (Int32.ofNat 48) (by omega) (by omega)) ?_
    rintro _ A24 ⟨hA24, rfl⟩
    refine hxa_aload_n (by rfl) rfl ?_
    refine hxa_call0 (by rfl) (by rfl) (by rfl) (by rfl) (by rfl) (by rfl) (hX187 (d := d + 4) hA24 ) ?_
    rintro _ _ ⟨rfl, z25, rfl⟩
    refine hxa_s1 (by rfl) (Or.inl ⟨_, rfl, rfl⟩) rfl ?_
    refine hxa_bipush (by rfl) rfl ?_
    refine hxa_s1 (by rfl) (Or.inl ⟨_, rfl, rfl⟩) rfl ?_
    refine hxa_iconst (by rfl) rfl ?_
    refine hxa_s1 (by rfl) (Or.inr ⟨_, rfl, rfl⟩) rfl ?_
    exact L32 (Int.toNat (10 - 0) + 1) z25 (Int32.ofNat 4294967294) (Int32.ofNat 0) (.retAddr 0) A24 hA24 (by omega) (by omega) (by omega) (by omega) (by omega) (by omega) (by omega)
  ·
    refine hxj_zne (by rfl) rfl (fun q26 => False.elim (by omega)) (fun q26 => ?_)
    refine hxa_iconst (by rfl) rfl ?_
    exact hxa_ireturn (by rfl) rfl (hP _ _ ⟨(hJ.mono hA (by omega) (by omega)), _, rfl⟩)
theorem hX229 {d : Nat} {N : Int} {A0 A : hs_A} (hA : hJ 0 N (N + 72) A0 A) (hN : N ≤ 900000) (a1 : Int32) : hxC (d + 7) 229 hm_m229 [.ref 368, .int a1] A (fun r A' => hJ 0 (N + 72) (N + 144) A0 A' ∧ ∃ z : Int32, r = some (.int z)) := hxC.of (by rfl) (hY229 hA hN a1 (fun r A' h => h))
theorem hY230 {d : Nat} {Bn Br : Int} {A0 A : hs_A} (hA : hJ 0 Bn Br A0 A)  (a1 : Int32) {P : Option Value → hs_A → Prop} (hP : ∀ (r : Option Value) (A' : hs_A), (A = A' ∧ ∃ z : Int32, r = some (.int z)) → P r A') : hxa (d + 2) (some (.int)) hm_t230 0 [.ref 368, .int a1, .retAddr 0, .retAddr 0] [] A P := by
  have k0 := hk_0
  have k4294967295 := hk_4294967295
  have L14 : ∀ (m14 : Nat) (x14_2 : Int32) (x14_3 : Int32) (bx14_3 : 0 ≤ x14_3.toInt) (cx14_3 : x14_3.toInt ≤ 10) (ba1 : 0 ≤ a1.toInt) (ca1 : a1.toInt ≤ 9) (hm14 : 10 - x14_3.toInt < (m14 : Int)), hxa (d + 2) (some (.int)) hm_t230 14 [.ref 368, .int a1, .int x14_2, .int x14_3] [] A P := by
    intro m14
    induction m14 with
    | zero => intro x14_2 x14_3 bx14_3 cx14_3 ba1 ca1 hm14; have := hn_rng x14_2; exact False.elim (by omega)
    | succ m14 ih14 =>
      intro x14_2 x14_3 bx14_3 cx14_3 ba1 ca1 hm14
      refine hxa_iload_n (by rfl) rfl ?_
      refine hxa_iload_n (by rfl) rfl ?_
      refine hxj_cgt (by rfl) rfl rfl (fun q1 => ?_) (fun q1 => ?_)
      ·
        refine hxa_iload_n (by rfl) rfl ?_
        exact hxa_ireturn (by rfl) rfl (hP _ _ ⟨rfl, _, rfl⟩)
      ·
        refine hxa_iload_n (by rfl) rfl ?_
        refine hxa_iconst (by rfl) rfl ?_
        refine hxa_aload_n (by rfl) rfl ?_
        refine hxa_get (v := .ref 396) (by rfl) (by rfl) (by rfl) rfl ?_
        refine hxa_bipush (by rfl) rfl ?_
        refine hxa_iload_n (by rfl) rfl ?_
        refine hxj_iadd (by rfl) hk_50 rfl (by omega) (by omega) (fun z2 ez2 => ?_)
        refine hxj_iald395 (by rfl) rfl (by omega) (by omega) hA (fun z3 ez3 fz3 => ?_)
        refine hxj_isubU (by rfl) (fun z4 => ?_)
        refine hxj_iaddU (by rfl) (fun z5 => ?_)
        refine hxa_s1 (by rfl) (Or.inl ⟨_, rfl, rfl⟩) rfl ?_
        refine hxj_iinc (by rfl) rfl rfl hk_1 (by omega) (by omega) (fun _ => rfl) (fun z6 ez6 => ?_)
        refine hxa_goto (by rfl) ?_
        exact ih14 z5 z6 (by omega) (by omega) (by omega) (by omega) (by omega)
  refine hxa_aload_n (by rfl) rfl ?_
  refine hxa_iload_n (by rfl) rfl ?_
  refine hxa_call0 (by rfl) (by rfl) (by rfl) (by rfl) (by rfl) (by rfl) (hX167 (d := d + 0) hA a1) ?_
  rintro _ _ ⟨rfl, z7, rfl, fz7⟩
  rcases fz7 with fz7 | fz7
  ·
    refine hxj_zne (by rfl) rfl (fun q8 => ?_) (fun q8 => False.elim (by omega))
    refine hxa_iconst (by rfl) rfl ?_
    refine hxa_s1 (by rfl) (Or.inl ⟨_, rfl, rfl⟩) rfl ?_
    refine hxa_iconst (by rfl) rfl ?_
    refine hxa_s1 (by rfl) (Or.inl ⟨_, rfl, rfl⟩) rfl ?_
    exact L14 (Int.toNat (10 - 0) + 1) (Int32.ofNat 0) (Int32.ofNat 0) (by omega) (by omega) (by omega) (by omega) (by omega)
  ·
    refine hxj_zne (by rfl) rfl (fun q9 => False.elim (by omega)) (fun q9 => ?_)
    refine hxa_iconst (by rfl) rfl ?_
    exact hxa_ireturn (by rfl) rfl (hP _ _ ⟨rfl, _, rfl⟩)
theorem hX230 {d : Nat} {Bn Br : Int} {A0 A : hs_A} (hA : hJ 0 Bn Br A0 A)  (a1 : Int32) : hxC (d + 3) 230 hm_m230 [.ref 368, .int a1] A (fun r A' => A = A' ∧ ∃ z : Int32, r = some (.int z)) := hxC.of (by rfl) (hY230 hA a1 (fun r A' h => h))
theorem hY231 {d : Nat} {N : Int} {A0 A : hs_A} (hA : hJ 0 N (N + 72) A0 A) (hN : N ≤ 900000) (a1 : Int32) (a2 : Int32) (a3 : Int32) {P : Option Value → hs_A → Prop} (hP : ∀ (r : Option Value) (A' : hs_A), (hJ 0 (N + 72) (N + 144) A0 A' ∧ ∃ z : Int32, r = some (.int z)) → P r A') : hxa (d + 6) (some (.int)) hm_t231 0 [.ref 368, .int a1, .int a2, .int a3, .retAddr 0, .retAddr 0] [] A P := by
  have k0 := hk_0
  have k1 := hk_1
  have k20 := hk_20
  have k4294967295 := hk_4294967295
  have L33 : ∀ (m33 : Nat) (x33_4 : Int32) (x33_5 : Int32) (Ac33 : hs_A) (hAc33 : hJ 0 N (N + 72) A0 Ac33) (bx33_5 : 0 ≤ x33_5.toInt) (cx33_5 : x33_5.toInt ≤ 20) (ba1 : 0 ≤ a1.toInt) (ca1 : a1.toInt ≤ 9) (ba2 : 0 ≤ a2.toInt) (ca2 : a2.toInt ≤ 72) (ba3 : 1 ≤ a3.toInt) (ca3 : a3.toInt ≤ 20) (hm33 : 20 - x33_5.toInt < (m33 : Int)), hxa (d + 6) (some (.int)) hm_t231 33 [.ref 368, .int a1, .int a2, .int a3, .int x33_4, .int x33_5] [] Ac33 P := by
    intro m33
    induction m33 with
    | zero => intro x33_4 x33_5 Ac33 hAc33 bx33_5 cx33_5 ba1 ca1 ba2 ca2 ba3 ca3 hm33; have := hn_rng x33_4; exact False.elim (by omega)
    | succ m33 ih33 =>
      intro x33_4 x33_5 Ac33 hAc33 bx33_5 cx33_5 ba1 ca1 ba2 ca2 ba3 ca3 hm33
      refine hxa_iload (by rfl) rfl ?_
      refine hxa_iload_n (by rfl) rfl ?_
      refine hxj_cge (by rfl) rfl rfl (fun q1 => ?_) (fun q1 => ?_)
      ·
        refine hxa_iload (by rfl) rfl ?_
        exact hxa_ireturn (by rfl) rfl (hP _ _ ⟨(hJ.mono hAc33 (by omega) (by omega)), _, rfl⟩)
      ·
        refine hxa_aload_n (by rfl) rfl ?_
        refine hxa_call0 (by rfl) (by rfl) (by rfl) (by rfl) (by rfl) (by rfl) (hX171 (d := d + 5) hAc33 ) ?_
        rintro _ A2 ⟨hA2, rfl⟩
        refine hxa_aload_n (by rfl) rfl ?_
        refine hxa_dupR (by rfl) ?_
        refine hxj_getI (by rfl) (by rfl) (by rfl) (fun z3 ez3 => ?_)
        refine hxa_iload (by rfl) rfl ?_
        refine hxj_iaddU (by rfl) (fun z4 => ?_)
        refine hxj_putI (by rfl) (by rfl) (by rfl) (by rfl) hA2 (hbokN (by rfl)) (by rfl) (by rfl) (fun A5 hA5 eA5 fA5 => ?_)
        refine hxa_aload_n (by rfl) rfl ?_
        refine hxa_iload_n (by rfl) rfl ?_
        refine hxa_call0 (by rfl) (by rfl) (by rfl) (by rfl) (by rfl) (by rfl) (hX185 (d := d + 0) hA5 (by omega) a2 (by omega) (by omega)) ?_
        rintro _ A6 ⟨hA6, rfl⟩
        refine hxa_aload_n (by rfl) rfl ?_
        refine hxa_iload_n (by rfl) rfl ?_
        refine hxa_call0 (by rfl) (by rfl) (by rfl) (by rfl) (by rfl) (by rfl) (hX186 (d := d + 5) hA6 a1 (by omega) (by omega)) ?_
        rintro _ _ ⟨rfl, z7, rfl, fz7⟩
        refine hxj_zeq (by rfl) rfl (fun q8 => ?_) (fun q8 => ?_)
        ·
          refine hxj_iinc (by rfl) rfl rfl hk_1 (by omega) (by omega) (fun _ => rfl) (fun z9 ez9 => ?_)
          refine hxa_goto (by rfl) ?_
          exact ih33 x33_4 z9 A6 hA6 (by omega) (by omega) (by omega) (by omega) (by omega) (by omega) (by omega) (by omega) (by omega)
        ·
          refine hxj_iincU (by rfl) rfl (fun _ => rfl) (fun z10 => ?_)
          refine hxj_iinc (by rfl) rfl rfl hk_1 (by omega) (by omega) (fun _ => rfl) (fun z11 ez11 => ?_)
          refine hxa_goto (by rfl) ?_
          exact ih33 z10 z11 A6 hA6 (by omega) (by omega) (by omega) (by omega) (by omega) (by omega) (by omega) (by omega) (by omega)
  refine hxa_aload_n (by rfl) rfl ?_
  refine hxa_iload_n (by rfl) rfl ?_
  refine hxa_call0 (by rfl) (by rfl) (by rfl) (by rfl) (by rfl) (by rfl) (hX167 (d := d + 4) hA a1) ?_
  rintro _ _ ⟨rfl, z12, rfl, fz12⟩
  rcases fz12 with fz12 | fz12
  ·
    refine hxj_zeq (by rfl) rfl (fun q13 => False.elim (by omega)) (fun q13 => ?_)
    refine hxa_iload_n (by rfl) rfl ?_
    refine hxa_call2 (by rfl) (by decide) (by rfl) (by rfl) (by rfl) (hX196 (d := d + 4)  a2) ?_
    rintro _ _ ⟨rfl, z14, rfl, fz14⟩
    rcases fz14 with fz14 | fz14
    ·
      refine hxj_zeq (by rfl) rfl (fun q15 => False.elim (by omega)) (fun q15 => ?_)
      refine hxa_iload_n (by rfl) rfl ?_
      refine hxa_iconst (by rfl) rfl ?_
      refine hxa_bipush (by rfl) rfl ?_
      refine hxa_call2 (by rfl) (by decide) (by rfl) (by rfl) (by rfl) (hX164 (d := d + 5)  a3 (Int32.ofNat 1) (Int32.ofNat 20)) ?_
      rintro _ _ ⟨rfl, z16, rfl, fz16⟩
      rcases fz16 with fz16 | fz16
      ·
        refine hxj_zne (by rfl) rfl (fun q17 => ?_) (fun q17 => False.elim (by omega))
        refine hxa_iconst (by rfl) rfl ?_
        refine hxa_s1 (by rfl) (Or.inr ⟨_, rfl, rfl⟩) rfl ?_
        refine hxa_iconst (by rfl) rfl ?_
        refine hxa_s1 (by rfl) (Or.inr ⟨_, rfl, rfl⟩) rfl ?_
        exact L33 (Int.toNat (20 - 0) + 1) (Int32.ofNat 0) (Int32.ofNat 0) A hA (by omega) (by omega) (by omega) (by omega) (by omega) (by omega) (by omega) (by omega) (by omega)
      ·
        refine hxj_zne (by rfl) rfl (fun q18 => False.elim (by omega)) (fun q18 => ?_)
        refine hxa_iconst (by rfl) rfl ?_
        exact hxa_ireturn (by rfl) rfl (hP _ _ ⟨(hJ.mono hA (by omega) (by omega)), _, rfl⟩)
    ·
      refine hxj_zeq (by rfl) rfl (fun q19 => ?_) (fun q19 => False.elim (by omega))
      refine hxa_iconst (by rfl) rfl ?_
      exact hxa_ireturn (by rfl) rfl (hP _ _ ⟨(hJ.mono hA (by omega) (by omega)), _, rfl⟩)
  ·
    refine hxj_zeq (by rfl) rfl (fun q20 => ?_) (fun q20 => False.elim (by omega))
    refine hxa_iconst (by rfl) rfl ?_
    exact hxa_ireturn (by rfl) rfl (hP _ _ ⟨(hJ.mono hA (by omega) (by omega)), _, rfl⟩)
theorem hX231 {d : Nat} {N : Int} {A0 A : hs_A} (hA : hJ 0 N (N + 72) A0 A) (hN : N ≤ 900000) (a1 : Int32) (a2 : Int32) (a3 : Int32) : hxC (d + 7) 231 hm_m231 [.ref 368, .int a1, .int a2, .int a3] A (fun r A' => hJ 0 (N + 72) (N + 144) A0 A' ∧ ∃ z : Int32, r = some (.int z)) := hxC.of (by rfl) (hY231 hA hN a1 a2 a3 (fun r A' h => h))
theorem hY232 {d : Nat} {N : Int} {A0 A : hs_A} (hA : hJ 0 N (N + 72) A0 A) (hN : N ≤ 900000) (a1 : Int32) (a2 : Int32) {P : Option Value → hs_A → Prop} (hP : ∀ (r : Option Value) (A' : hs_A), (hJ 0 (N + 72) (N + 144) A0 A' ∧ ∃ z : Int32, r = some (.int z)) → P r A') : hxa (d + 2) (some (.int)) hm_t232 0 [.ref 368, .int a1, .int a2] [] A P := by
  have k4294967295 := hk_4294967295
  refine hxa_aload_n (by rfl) rfl ?_
  refine hxj_getB (by rfl) (by rfl) (by rfl) hA (by rfl) (fun z1 ez1 fz1 gz1 => ?_)
  refine hxa_bipush (by rfl) rfl ?_
  refine hxj_ceq (by rfl) rfl hk_20 (fun q2 => ?_) (fun q2 => ?_)
  ·
    refine hxa_iconst (by rfl) rfl ?_
    exact hxa_ireturn (by rfl) rfl (hP _ _ ⟨(hJ.mono hA (by omega) (by omega)), _, rfl⟩)
  ·
    refine hxa_aload_n (by rfl) rfl ?_
    refine hxa_iload_n (by rfl) rfl ?_
    refine hxa_call0 (by rfl) (by rfl) (by rfl) (by rfl) (by rfl) (by rfl) (hX167 (d := d + 0) hA a1) ?_
    rintro _ _ ⟨rfl, z3, rfl, fz3⟩
    rcases fz3 with fz3 | fz3
    ·
      refine hxj_zeq (by rfl) rfl (fun q4 => False.elim (by omega)) (fun q4 => ?_)
      refine hxa_iload_n (by rfl) rfl ?_
      refine hxa_call2 (by rfl) (by decide) (by rfl) (by rfl) (by rfl) (hX168 (d := d + 0)  a2) ?_
      rintro _ _ ⟨rfl, z5, rfl, fz5⟩
      rcases fz5 with fz5 | fz5
      ·
        refine hxj_zne (by rfl) rfl (fun q6 => ?_) (fun q6 => False.elim (by omega))
        refine hxa_aload_n (by rfl) rfl ?_
        refine hxa_get (v := .ref 407) (by rfl) (by rfl) (by rfl) rfl ?_
        refine hxa_aload_n (by rfl) rfl ?_
        refine hxj_getK (by rfl) (by rfl) (by rfl) ez1 ?_
        refine hxa_iload_n (by rfl) rfl ?_
        refine hxj_iast (by rfl) (by rfl) rfl (by omega) (by omega) hA (hbok (by rfl) rfl (by omega) (by omega)) (by rfl) (by rfl) (fun A7 hA7 eA7 fA7 gA7 => ?_)
        refine hxa_aload_n (by rfl) rfl ?_
        refine hxa_get (v := .ref 408) (by rfl) (by rfl) (by rfl) rfl ?_
        refine hxa_aload_n (by rfl) rfl ?_
        refine hxj_getK (by rfl) (by rfl) (by rfl) (hkA eA7 ez1) ?_
        refine hxa_iload_n (by rfl) rfl ?_
        refine hxj_iast (by rfl) (by rfl) rfl (by omega) (by omega) hA7 (hbokN (by rfl)) (by rfl) (by rfl) (fun A8 hA8 eA8 fA8 gA8 => ?_)
        refine hxa_aload_n (by rfl) rfl ?_
        refine hxa_dupR (by rfl) ?_
        refine hxj_getK (by rfl) (by rfl) (by rfl) (hkA eA8 (hkA eA7 ez1)) ?_
        refine hxa_iconst (by rfl) rfl ?_
        refine hxj_iadd (by rfl) rfl hk_1 (by omega) (by omega) (fun z9 ez9 => ?_)
        refine hxj_putI (by rfl) (by rfl) (by rfl) (by rfl) hA8 (hbok (by rfl) rfl (by omega) (by omega)) (by rfl) (by rfl) (fun A10 hA10 eA10 fA10 => ?_)
        refine hxa_aload_n (by rfl) rfl ?_
        refine hxj_getK (by rfl) (by rfl) (by rfl) (hkS eA10) ?_
        refine hxa_iconst (by rfl) rfl ?_
        refine hxj_isub (by rfl) rfl hk_1 (by omega) (by omega) (fun z11 ez11 => ?_)
        exact hxa_ireturn (by rfl) rfl (hP _ _ ⟨(hJ.mono hA10 (by omega) (by omega)), _, rfl⟩)
      ·
        refine hxj_zne (by rfl) rfl (fun q12 => False.elim (by omega)) (fun q12 => ?_)
        refine hxa_iconst (by rfl) rfl ?_
        exact hxa_ireturn (by rfl) rfl (hP _ _ ⟨(hJ.mono hA (by omega) (by omega)), _, rfl⟩)
    ·
      refine hxj_zeq (by rfl) rfl (fun q13 => ?_) (fun q13 => False.elim (by omega))
      refine hxa_iconst (by rfl) rfl ?_
      exact hxa_ireturn (by rfl) rfl (hP _ _ ⟨(hJ.mono hA (by omega) (by omega)), _, rfl⟩)
theorem hX232 {d : Nat} {N : Int} {A0 A : hs_A} (hA : hJ 0 N (N + 72) A0 A) (hN : N ≤ 900000) (a1 : Int32) (a2 : Int32) : hxC (d + 3) 232 hm_m232 [.ref 368, .int a1, .int a2] A (fun r A' => hJ 0 (N + 72) (N + 144) A0 A' ∧ ∃ z : Int32, r = some (.int z)) := hxC.of (by rfl) (hY232 hA hN a1 a2 (fun r A' h => h))
theorem hY233 {d : Nat} {N : Int} {A0 A : hs_A} (hA : hJ 0 N (N + 72) A0 A) (hN : N ≤ 900000)  {P : Option Value → hs_A → Prop} (hP : ∀ (r : Option Value) (A' : hs_A), (hJ 0 (N + 72) (N + 144) A0 A' ∧ ∃ z : Int32, r = some (.int z)) → P r A') : hxa (d + 0) (some (.int)) hm_t233 0 [.ref 368, .retAddr 0] [] A P := by
  refine hxa_aload_n (by rfl) rfl ?_
  refine hxj_getB (by rfl) (by rfl) (by rfl) hA (by rfl) (fun z1 ez1 fz1 gz1 => ?_)
  refine hxa_s1 (by rfl) (Or.inl ⟨_, rfl, rfl⟩) rfl ?_
  refine hxa_aload_n (by rfl) rfl ?_
  refine hxa_iconst (by rfl) rfl ?_
  refine hxj_putI (by rfl) (by rfl) (by rfl) (by rfl) hA (hbok (by rfl) hk_0 (by omega) (by omega)) (by rfl) (by rfl) (fun A2 hA2 eA2 fA2 => ?_)
  refine hxa_iload_n (by rfl) rfl ?_
  exact hxa_ireturn (by rfl) rfl (hP _ _ ⟨(hJ.mono hA2 (by omega) (by omega)), _, rfl⟩)
theorem hX233 {d : Nat} {N : Int} {A0 A : hs_A} (hA : hJ 0 N (N + 72) A0 A) (hN : N ≤ 900000)  : hxC (d + 1) 233 hm_m233 [.ref 368] A (fun r A' => hJ 0 (N + 72) (N + 144) A0 A' ∧ ∃ z : Int32, r = some (.int z)) := hxC.of (by rfl) (hY233 hA hN (fun r A' h => h))
theorem hY234 {d : Nat} {Bn Br : Int} {A0 A : hs_A} (hA : hJ 0 Bn Br A0 A)  (a1 : Int32) (q1 : a1.toInt ≤ 20) {P : Option Value → hs_A → Prop} (hP : ∀ (r : Option Value) (A' : hs_A), (hJ 0 Bn Br A0 A' ∧ ∃ z : Int32, r = some (.int z)) → P r A') : hxa (d + 6) (some (.int)) hm_t234 0 [.ref 368, .int a1, .retAddr 0, .retAddr 0, .retAddr 0] [] A P := by
  have k0 := hk_0
  have L4 : ∀ (m4 : Nat) (x4_2 : Int32) (x4_3 : Int32) (x4_4 : Value) (Ac4 : hs_A) (hAc4 : hJ 0 Bn Br A0 Ac4) (bx4_3 : 0 ≤ x4_3.toInt) (cx4_3 : x4_3.toInt ≤ 256) (hm4 : 256 - x4_3.toInt < (m4 : Int)), hxa (d + 6) (some (.int)) hm_t234 4 [.ref 368, .int a1, .int x4_2, .int x4_3, x4_4] [] Ac4 P := by
    intro m4
    induction m4 with
    | zero => intro x4_2 x4_3 x4_4 Ac4 hAc4 bx4_3 cx4_3 hm4; have := hn_rng x4_2; exact False.elim (by omega)
    | succ m4 ih4 =>
      intro x4_2 x4_3 x4_4 Ac4 hAc4 bx4_3 cx4_3 hm4
      have L21 : ∀ (m21 : Nat) (x21_4 : Int32) (Ac21 : hs_A) (hAc21 : hJ 0 Bn Br A0 Ac21) (bx21_4 : 0 ≤ x21_4.toInt) (cx21_4 : x21_4.toInt ≤ 20) (cx4_3 : x4_3.toInt ≤ 255) (hm21 : 20 - x21_4.toInt < (m21 : Int)), hxa (d + 6) (some (.int)) hm_t234 21 [.ref 368, .int a1, .int x4_2, .int x4_3, .int x21_4] [] Ac21 P := by
        intro m21
        induction m21 with
        | zero => intro x21_4 Ac21 hAc21 bx21_4 cx21_4 cx4_3 hm21;  exact False.elim (by omega)
        | succ m21 ih21 =>
          intro x21_4 Ac21 hAc21 bx21_4 cx21_4 cx4_3 hm21
          refine hxa_iload (by rfl) rfl ?_
          refine hxa_iload_n (by rfl) rfl ?_
          have rga1 := hn_rng a1
          refine hxj_cge (by rfl) rfl rfl (fun q1 => ?_) (fun q1 => ?_)
          ·
            refine hxa_aload_n (by rfl) rfl ?_
            refine hxa_get (v := .ref 402) (by rfl) (by rfl) (by rfl) rfl ?_
            refine hxa_iload_n (by rfl) rfl ?_
            refine hxj_zald (by rfl) (by rfl) rfl (by omega) (by omega) (fun z2 ez2 => ?_)
            refine hxj_zeq (by rfl) rfl (fun q3 => ?_) (fun q3 => ?_)
            ·
              refine hxj_iinc (by rfl) rfl rfl hk_1 (by omega) (by omega) (fun _ => rfl) (fun z4 ez4 => ?_)
              refine hxa_goto (by rfl) ?_
              exact ih4 x4_2 z4 (.int x21_4) Ac21 hAc21 (by omega) (by omega) (by omega)
            ·
              refine hxj_iincU (by rfl) rfl (fun _ => rfl) (fun z5 => ?_)
              refine hxj_iinc (by rfl) rfl rfl hk_1 (by omega) (by omega) (fun _ => rfl) (fun z6 ez6 => ?_)
              refine hxa_goto (by rfl) ?_
              exact ih4 z5 z6 (.int x21_4) Ac21 hAc21 (by omega) (by omega) (by omega)
          ·
            refine hxa_aload_n (by rfl) rfl ?_
            refine hxa_get (v := .ref 402) (by rfl) (by rfl) (by rfl) rfl ?_
            refine hxa_iload_n (by rfl) rfl ?_
            refine hxj_zald (by rfl) (by rfl) rfl (by omega) (by omega) (fun z7 ez7 => ?_)
            refine hxj_zeq (by rfl) rfl (fun q8 => ?_) (fun q8 => ?_)
            ·
              refine hxa_aload_n (by rfl) rfl ?_
              refine hxa_get (v := .ref 402) (by rfl) (by rfl) (by rfl) rfl ?_
              refine hxa_iload_n (by rfl) rfl ?_
              refine hxj_zald (by rfl) (by rfl) rfl (by omega) (by omega) (fun z9 ez9 => ?_)
              refine hxj_zeq (by rfl) rfl (fun q10 => ?_) (fun q10 => ?_)
              ·
                refine hxj_iinc (by rfl) rfl rfl hk_1 (by omega) (by omega) (fun _ => rfl) (fun z11 ez11 => ?_)
                refine hxa_goto (by rfl) ?_
                exact ih4 x4_2 z11 (.int x21_4) Ac21 hAc21 (by omega) (by omega) (by omega)
              ·
                refine hxj_iincU (by rfl) rfl (fun _ => rfl) (fun z12 => ?_)
                refine hxj_iinc (by rfl) rfl rfl hk_1 (by omega) (by omega) (fun _ => rfl) (fun z13 ez13 => ?_)
                refine hxa_goto (by rfl) ?_
                exact ih4 z12 z13 (.int x21_4) Ac21 hAc21 (by omega) (by omega) (by omega)
            ·
              refine hxa_aload_n (by rfl) rfl ?_
              refine hxa_get (v := .ref 402) (by rfl) (by rfl) (by rfl) rfl ?_
              refine hxa_iload_n (by rfl) rfl ?_
              refine hxa_aload_n (by rfl) rfl ?_
              refine hxa_aload_n (by rfl) rfl ?_
              refine hxa_get (v := .ref 407) (by rfl) (by rfl) (by rfl) rfl ?_
              refine hxa_iload (by rfl) rfl ?_
              refine hxj_ialdB (by rfl) (by rfl) rfl (by omega) (by omega) hAc21 (by rfl) (fun z14 ez14 fz14 gz14 => ?_)
              refine hxa_iload_n (by rfl) rfl ?_
              refine hxa_call0 (by rfl) (by rfl) (by rfl) (by rfl) (by rfl) (by rfl) (hX202 (d := d + 0) hAc21 z14 (by omega) (by omega) x4_3 (by omega) (by omega)) ?_
              rintro _ A15 ⟨hA15, z16, rfl, fz16⟩
              refine hxa_aload_n (by rfl) rfl ?_
              refine hxa_get (v := .ref 408) (by rfl) (by rfl) (by rfl) rfl ?_
              refine hxa_iload (by rfl) rfl ?_
              refine hxj_iald (by rfl) (by rfl) rfl (by omega) (by omega) (fun z17 ez17 => ?_)
              refine hxj_cne (by rfl) rfl rfl (fun q18 => ?_) (fun q18 => ?_)
              ·
                refine hxa_iconst (by rfl) rfl ?_
                refine hxj_zast (by rfl) (by rfl) rfl (by omega) (by omega) hk_0 (by omega) (by omega) hA15 (hbokN (by rfl)) (by rfl) (by rfl) (fun A19 hA19 eA19 fA19 gA19 => ?_)
                refine hxj_iinc (by rfl) rfl rfl hk_1 (by omega) (by omega) (fun _ => rfl) (fun z20 ez20 => ?_)
                refine hxa_goto (by rfl) ?_
                exact ih21 z20 A19 hA19 (by omega) (by omega) (by omega) (by omega)
              ·
                refine hxa_iconst (by rfl) rfl ?_
                refine hxa_goto (by rfl) ?_
                refine hxj_zast (by rfl) (by rfl) rfl (by omega) (by omega) hk_1 (by omega) (by omega) hA15 (hbokN (by rfl)) (by rfl) (by rfl) (fun A21 hA21 eA21 fA21 gA21 => ?_)
                refine hxj_iinc (by rfl) rfl rfl hk_1 (by omega) (by omega) (fun _ => rfl) (fun z22 ez22 => ?_)
                refine hxa_goto (by rfl) ?_
                exact ih21 z22 A21 hA21 (by omega) (by omega) (by omega) (by omega)
      refine hxa_iload_n (by rfl) rfl ?_
      refine hxa_sipush (by rfl) rfl ?_
      refine hxj_cge (by rfl) rfl hk_256 (fun q23 => ?_) (fun q23 => ?_)
      ·
        refine hxa_iload_n (by rfl) rfl ?_
        exact hxa_ireturn (by rfl) rfl (hP _ _ ⟨hAc4, _, rfl⟩)
      ·
        refine hxa_aload_n (by rfl) rfl ?_
        refine hxa_get (v := .ref 402) (by rfl) (by rfl) (by rfl) rfl ?_
        refine hxa_iload_n (by rfl) rfl ?_
        refine hxa_iconst (by rfl) rfl ?_
        refine hxj_zast (by rfl) (by rfl) rfl (by omega) (by omega) hk_1 (by omega) (by omega) hAc4 (hbokN (by rfl)) (by rfl) (by rfl) (fun A24 hA24 eA24 fA24 gA24 => ?_)
        refine hxa_iconst (by rfl) rfl ?_
        refine hxa_s1 (by rfl) (Or.inr ⟨_, rfl, rfl⟩) rfl ?_
        exact L21 (Int.toNat (20 - 0) + 1) (Int32.ofNat 0) A24 hA24 (by omega) (by omega) (by omega) (by omega)
  refine hxa_iconst (by rfl) rfl ?_
  refine hxa_s1 (by rfl) (Or.inl ⟨_, rfl, rfl⟩) rfl ?_
  refine hxa_iconst (by rfl) rfl ?_
  refine hxa_s1 (by rfl) (Or.inl ⟨_, rfl, rfl⟩) rfl ?_
  exact L4 (Int.toNat (256 - 0) + 1) (Int32.ofNat 0) (Int32.ofNat 0) (.retAddr 0) A hA (by omega) (by omega) (by omega)
theorem hX234 {d : Nat} {Bn Br : Int} {A0 A : hs_A} (hA : hJ 0 Bn Br A0 A)  (a1 : Int32) (q1 : a1.toInt ≤ 20) : hxC (d + 7) 234 hm_m234 [.ref 368, .int a1] A (fun r A' => hJ 0 Bn Br A0 A' ∧ ∃ z : Int32, r = some (.int z)) := hxC.of (by rfl) (hY234 hA a1 q1 (fun r A' h => h))
theorem hY235 {d : Nat} {N : Int} {A0 A : hs_A} (hA : hJ 0 N (N + 72) A0 A) (hN : N ≤ 900000) (a1 : Int32) (a2 : Int32) {P : Option Value → hs_A → Prop} (hP : ∀ (r : Option Value) (A' : hs_A), (hJ 0 (N + 72) (N + 144) A0 A' ∧ ∃ z : Int32, r = some (.int z)) → P r A') : hxa (d + 7) (some (.int)) hm_t235 0 [.ref 368, .int a1, .int a2, .retAddr 0, .retAddr 0, .retAddr 0, .retAddr 0, .retAddr 0] [] A P := by
  have k0 := hk_0
  have k255 := hk_255
  have k3 := hk_3
  have k4294967294 := hk_4294967294
  have k4294967295 := hk_4294967295
  have L62 : ∀ (m62 : Nat) (x62_3 : Int32) (x62_4 : Int32) (x62_5 : Int32) (x62_6 : Int32) (x62_7 : Int32) (Ac62 : hs_A) (hAc62 : hJ 0 N N A0 Ac62) (bx62_4 : -1 ≤ x62_4.toInt) (cx62_4 : x62_4.toInt ≤ 255) (bx62_5 : 0 ≤ x62_5.toInt) (cx62_5 : x62_5.toInt ≤ 255) (bx62_6 : 0 ≤ x62_6.toInt) (cx62_6 : x62_6.toInt ≤ 255) (bx62_7 : -1 ≤ x62_7.toInt) (cx62_7 : x62_7.toInt ≤ 255) (ba1 : 0 ≤ a1.toInt) (ca1 : a1.toInt ≤ 20) (ba2 : 1 ≤ a2.toInt) (ca2 : a2.toInt ≤ 3) (hm62 : x62_7.toInt - (-1) < (m62 : Int)), hxa (d + 7) (some (.int)) hm_t235 62 [.ref 368, .int a1, .int a2, .int x62_3, .int x62_4, .int x62_5, .int x62_6, .int x62_7] [] Ac62 P := by
    intro m62
    induction m62 with
    | zero => intro x62_3 x62_4 x62_5 x62_6 x62_7 Ac62 hAc62 bx62_4 cx62_4 bx62_5 cx62_5 bx62_6 cx62_6 bx62_7 cx62_7 ba1 ca1 ba2 ca2 hm62; have := hn_rng x62_3; exact False.elim (by omega)
    | succ m62 ih62 =>
      intro x62_3 x62_4 x62_5 x62_6 x62_7 Ac62 hAc62 bx62_4 cx62_4 bx62_5 cx62_5 bx62_6 cx62_6 bx62_7 cx62_7 ba1 ca1 ba2 ca2 hm62
      refine hxa_iload (by rfl) rfl ?_
      refine hxj_zlt (by rfl) rfl (fun q1 => ?_) (fun q1 => ?_)
      ·
        refine hxa_iload_n (by rfl) rfl ?_
        refine hxa_iconst (by rfl) rfl ?_
        refine hxj_cne (by rfl) rfl hk_1 (fun q2 => ?_) (fun q2 => ?_)
        ·
          refine hxa_iload_n (by rfl) rfl ?_
          refine hxa_iconst (by rfl) rfl ?_
          refine hxj_cne (by rfl) rfl hk_2 (fun q3 => ?_) (fun q3 => ?_)
          ·
            refine hxa_sipush (by rfl) rfl ?_
            refine hxa_iload (by rfl) rfl ?_
            refine hxa_iconst (by rfl) rfl ?_
            refine hxj_ixorU (by rfl) (fun z4 => ?_)
            refine hxj_iandL (by rfl) hk_255 (by omega) (fun z5 ez5 fz5 => ?_)
            exact hxa_ireturn (by rfl) rfl (hP _ _ ⟨(hJ.mono hAc62 (by omega) (by omega)), _, rfl⟩)
          ·
            refine hxa_iload (by rfl) rfl ?_
            refine hxa_goto (by rfl) ?_
            exact hxa_ireturn (by rfl) rfl (hP _ _ ⟨(hJ.mono hAc62 (by omega) (by omega)), _, rfl⟩)
        ·
          refine hxa_iload (by rfl) rfl ?_
          refine hxa_goto (by rfl) ?_
          exact hxa_ireturn (by rfl) rfl (hP _ _ ⟨(hJ.mono hAc62 (by omega) (by omega)), _, rfl⟩)
      ·
        refine hxa_aload_n (by rfl) rfl ?_
        refine hxa_get (v := .ref 402) (by rfl) (by rfl) (by rfl) rfl ?_
        refine hxa_iload (by rfl) rfl ?_
        refine hxj_zald (by rfl) (by rfl) rfl (by omega) (by omega) (fun z6 ez6 => ?_)
        refine hxj_zne (by rfl) rfl (fun q7 => ?_) (fun q7 => ?_)
        ·
          refine hxa_iload (by rfl) rfl ?_
          refine hxa_s1 (by rfl) (Or.inr ⟨_, rfl, rfl⟩) rfl ?_
          refine hxa_iload (by rfl) rfl ?_
          refine hxa_iload (by rfl) rfl ?_
          refine hxj_iandR (by rfl) rfl (by omega) (fun z8 ez8 fz8 => ?_)
          refine hxa_s1 (by rfl) (Or.inr ⟨_, rfl, rfl⟩) rfl ?_
          refine hxa_iload (by rfl) rfl ?_
          refine hxa_iload (by rfl) rfl ?_
          refine hxj_ior255 (by rfl) rfl rfl (by omega) (by omega) (by omega) (by omega) (fun z9 ez9 fz9 => ?_)
          refine hxa_s1 (by rfl) (Or.inr ⟨_, rfl, rfl⟩) rfl ?_
          refine hxj_iinc (by rfl) rfl rfl hk_4294967295 (by omega) (by omega) (fun _ => rfl) (fun z10 ez10 => ?_)
          refine hxa_goto (by rfl) ?_
          exact ih62 x62_3 x62_7 z8 z9 z10 Ac62 hAc62 (by omega) (by omega) (by omega) (by omega) (by omega) (by omega) (by omega) (by omega) (by omega) (by omega) (by omega) (by omega) (by omega)
        ·
          refine hxa_goto (by rfl) ?_
          refine hxj_iinc (by rfl) rfl rfl hk_4294967295 (by omega) (by omega) (fun _ => rfl) (fun z11 ez11 => ?_)
          refine hxa_goto (by rfl) ?_
          exact ih62 x62_3 x62_4 x62_5 x62_6 z11 Ac62 hAc62 (by omega) (by omega) (by omega) (by omega) (by omega) (by omega) (by omega) (by omega) (by omega) (by omega) (by omega) (by omega) (by omega)
  refine hxa_iload_n (by rfl) rfl ?_
  refine hxa_iconst (by rfl) rfl ?_
  refine hxa_aload_n (by rfl) rfl ?_
  refine hxj_getB (by rfl) (by rfl) (by rfl) hA (by rfl) (fun z12 ez12 fz12 gz12 => ?_)
  refine hxa_call2 (by rfl) (by decide) (by rfl) (by rfl) (by rfl) (hX164 (d := d + 6)  a1 (Int32.ofNat 0) z12) ?_
  rintro _ _ ⟨rfl, z13, rfl, fz13⟩
  rcases fz13 with fz13 | fz13
  ·
    refine hxj_zeq (by rfl) rfl (fun q14 => False.elim (by omega)) (fun q14 => ?_)
    refine hxa_iload_n (by rfl) rfl ?_
    refine hxa_iconst (by rfl) rfl ?_
    refine hxa_iconst (by rfl) rfl ?_
    refine hxa_call2 (by rfl) (by decide) (by rfl) (by rfl) (by rfl) (hX164 (d := d + 6)  a2 (Int32.ofNat 0) (Int32.ofNat 3)) ?_
    rintro _ _ ⟨rfl, z15, rfl, fz15⟩
    rcases fz15 with fz15 | fz15
    ·
      refine hxj_zne (by rfl) rfl (fun q16 => ?_) (fun q16 => False.elim (by omega))
      refine hxa_aload_n (by rfl) rfl ?_
      refine hxa_call0 (by rfl) (by rfl) (by rfl) (by rfl) (by rfl) (by rfl) (hX171 (d := d + 6) hA ) ?_
      rintro _ A17 ⟨hA17, rfl⟩
      refine hxa_aload_n (by rfl) rfl ?_
      refine hxa_iload_n (by rfl) rfl ?_
      refine hxa_call0 (by rfl) (by rfl) (by rfl) (by rfl) (by rfl) (by rfl) (hX234 (d := d + 0) hA17 a1 (by omega)) ?_
      rintro _ A18 ⟨hA18, z19, rfl⟩
      refine hxa_s1 (by rfl) (Or.inl ⟨_, rfl, rfl⟩) rfl ?_
      refine hxa_iload_n (by rfl) rfl ?_
      refine hxj_zne (by rfl) rfl (fun q20 => ?_) (fun q20 => ?_)
      ·
        refine hxa_iload_n (by rfl) rfl ?_
        refine hxj_zne (by rfl) rfl (fun q21 => ?_) (fun q21 => ?_)
        ·
          refine hxa_iconst (by rfl) rfl ?_
          refine hxa_s1 (by rfl) (Or.inr ⟨_, rfl, rfl⟩) rfl ?_
          refine hxa_sipush (by rfl) rfl ?_
          refine hxa_s1 (by rfl) (Or.inr ⟨_, rfl, rfl⟩) rfl ?_
          refine hxa_iconst (by rfl) rfl ?_
          refine hxa_s1 (by rfl) (Or.inr ⟨_, rfl, rfl⟩) rfl ?_
          refine hxa_sipush (by rfl) rfl ?_
          refine hxa_s1 (by rfl) (Or.inr ⟨_, rfl, rfl⟩) rfl ?_
          exact L62 (Int.toNat (255 - (-1)) + 1) z19 (Int32.ofNat 4294967295) (Int32.ofNat 255) (Int32.ofNat 0) (Int32.ofNat 255) A18 hA18 (by omega) (by omega) (by omega) (by omega) (by omega) (by omega) (by omega) (by omega) (by omega) (by omega) (by omega) (by omega) (by omega)
        ·
          refine hxa_bipush (by rfl) rfl ?_
          exact hxa_ireturn (by rfl) rfl (hP _ _ ⟨(hJ.mono hA18 (by omega) (by omega)), _, rfl⟩)
      ·
        refine hxa_iload_n (by rfl) rfl ?_
        exact hxa_ireturn (by rfl) rfl (hP _ _ ⟨(hJ.mono hA18 (by omega) (by omega)), _, rfl⟩)
    ·
      refine hxj_zne (by rfl) rfl (fun q22 => False.elim (by omega)) (fun q22 => ?_)
      refine hxa_iconst (by rfl) rfl ?_
      exact hxa_ireturn (by rfl) rfl (hP _ _ ⟨(hJ.mono hA (by omega) (by omega)), _, rfl⟩)
  ·
    refine hxj_zeq (by rfl) rfl (fun q23 => ?_) (fun q23 => False.elim (by omega))
    refine hxa_iconst (by rfl) rfl ?_
    exact hxa_ireturn (by rfl) rfl (hP _ _ ⟨(hJ.mono hA (by omega) (by omega)), _, rfl⟩)
theorem hX235 {d : Nat} {N : Int} {A0 A : hs_A} (hA : hJ 0 N (N + 72) A0 A) (hN : N ≤ 900000) (a1 : Int32) (a2 : Int32) : hxC (d + 8) 235 hm_m235 [.ref 368, .int a1, .int a2] A (fun r A' => hJ 0 (N + 72) (N + 144) A0 A' ∧ ∃ z : Int32, r = some (.int z)) := hxC.of (by rfl) (hY235 hA hN a1 a2 (fun r A' h => h))
