theorem hY1 {d : Nat} {Bn Br : Int} {A0 A : hs_A} (hA : hJ 0 Bn Br A0 A)  {T : Nat} (hT : hTT T) (eT : A0.2.2.2 0 3 = T + 1) {L : Nat} (hL : hLL L) (a3 : Int32) (p3 : 0 ≤ a3.toInt) (q3 : a3.toInt ≤ 9) (a4 : Int32) {P : Option Value → hs_A → Prop} (hP : ∀ (r : Option Value) (A' : hs_A), (hJ 0 Bn Br A0 A' ∧ r = none) → P r A') : hxa (d + 1) none hm_t1 0 [.ref 324, .ref (T + 1), .ref (L + 1), .int a3, .int a4] [] A P := by
  have k0 := hk_0
  have k4294967295 := hk_4294967295
  refine hxa_aload_n (by rfl) rfl ?_
  refine hxa_aload_n (by rfl) rfl ?_
  refine hxa_get (v := .ref (T + 5)) (by rfl) (hsT hT) (by rfl) (hvT hT (by omega)) ?_
  refine hxj_putLaws (by rfl) hA hT (fun A1 hA1 eA1 fA1 => ?_)
  refine hxa_aload_n (by rfl) rfl ?_
  refine hxa_get (v := .ref 325) (by rfl) (by rfl) (by rfl) rfl ?_
  refine hxa_iconst (by rfl) rfl ?_
  refine hxa_iload_n (by rfl) rfl ?_
  refine hxj_iast (by rfl) (by rfl) hk_0 (by omega) (by omega) hA1 (hbokN (by rfl)) (by rfl) (by rfl) (fun A2 hA2 eA2 fA2 gA2 => ?_)
  refine hxa_aload_n (by rfl) rfl ?_
  refine hxa_get (v := .ref 325) (by rfl) (by rfl) (by rfl) rfl ?_
  refine hxa_iconst (by rfl) rfl ?_
  refine hxa_iload (by rfl) rfl ?_
  refine hxa_bipush (by rfl) rfl ?_
  refine hxj_iremU (by rfl) hk_24 (by omega) (fun z3 => ?_)
  refine hxj_iast (by rfl) (by rfl) hk_1 (by omega) (by omega) hA2 (hbokN (by rfl)) (by rfl) (by rfl) (fun A4 hA4 eA4 fA4 gA4 => ?_)
  refine hxa_aload_n (by rfl) rfl ?_
  refine hxa_get (v := .ref 325) (by rfl) (by rfl) (by rfl) rfl ?_
  refine hxa_iconst (by rfl) rfl ?_
  refine hxa_iload (by rfl) rfl ?_
  refine hxa_bipush (by rfl) rfl ?_
  refine hxj_idivU (by rfl) hk_24 (by omega) (fun z5 => ?_)
  refine hxj_iast (by rfl) (by rfl) hk_2 (by omega) (by omega) hA4 (hbokN (by rfl)) (by rfl) (by rfl) (fun A6 hA6 eA6 fA6 gA6 => ?_)
  refine hxa_aload_n (by rfl) rfl ?_
  refine hxa_get (v := .ref 325) (by rfl) (by rfl) (by rfl) rfl ?_
  refine hxa_iconst (by rfl) rfl ?_
  refine hxa_aload_n (by rfl) rfl ?_
  refine hxa_get (v := .ref (L + 2)) (by rfl) (hsL hL) (by rfl) (hvL hL (by omega)) ?_
  refine hxa_iload_n (by rfl) rfl ?_
  refine hxj_iald (by rfl) (hsLa hL (by omega) (by omega)) rfl (by omega) (by omega) (fun z7 ez7 => ?_)
  refine hxa_call2 (by rfl) (by decide) (by rfl) (by rfl) (by rfl) (hX242 (d := d + 0)  z7) ?_
  rintro _ _ ⟨rfl, z8, rfl, fz8⟩
  refine hxj_iast (by rfl) (by rfl) hk_4 (by omega) (by omega) hA6 (hbokN (by rfl)) (by rfl) (by rfl) (fun A9 hA9 eA9 fA9 gA9 => ?_)
  refine hxa_aload_n (by rfl) rfl ?_
  refine hxa_get (v := .ref 325) (by rfl) (by rfl) (by rfl) rfl ?_
  refine hxa_iconst (by rfl) rfl ?_
  refine hxa_aload_n (by rfl) rfl ?_
  refine hxa_get (v := .ref (L + 3)) (by rfl) (hsL hL) (by rfl) (hvL hL (by omega)) ?_
  refine hxa_iload_n (by rfl) rfl ?_
  refine hxj_iald (by rfl) (hsLa hL (by omega) (by omega)) rfl (by omega) (by omega) (fun z10 ez10 => ?_)
  refine hxj_iast (by rfl) (by rfl) hk_5 (by omega) (by omega) hA9 (hbokN (by rfl)) (by rfl) (by rfl) (fun A11 hA11 eA11 fA11 gA11 => ?_)
  refine hxa_aload_n (by rfl) rfl ?_
  refine hxa_get (v := .ref 325) (by rfl) (by rfl) (by rfl) rfl ?_
  refine hxa_bipush (by rfl) rfl ?_
  refine hxa_aload_n (by rfl) rfl ?_
  refine hxj_getB (by rfl) (hsT hT) (by rfl) hA11 (hbT_4 hT) (fun z12 ez12 fz12 gz12 => ?_)
  refine hxj_iast (by rfl) (by rfl) hk_7 (by omega) (by omega) hA11 (hbokN (by rfl)) (by rfl) (by rfl) (fun A13 hA13 eA13 fA13 gA13 => ?_)
  refine hxa_aload_n (by rfl) rfl ?_
  refine hxa_get (v := .ref 325) (by rfl) (by rfl) (by rfl) rfl ?_
  refine hxa_bipush (by rfl) rfl ?_
  refine hxa_aload_n (by rfl) rfl ?_
  refine hxa_get (v := .ref (L + 4)) (by rfl) (hsL hL) (by rfl) (hvL hL (by omega)) ?_
  refine hxa_iload_n (by rfl) rfl ?_
  refine hxj_iald (by rfl) (hsLa hL (by omega) (by omega)) rfl (by omega) (by omega) (fun z14 ez14 => ?_)
  refine hxa_call2 (by rfl) (by decide) (by rfl) (by rfl) (by rfl) (hX242 (d := d + 0)  z14) ?_
  rintro _ _ ⟨rfl, z15, rfl, fz15⟩
  refine hxj_iast (by rfl) (by rfl) hk_8 (by omega) (by omega) hA13 (hbokN (by rfl)) (by rfl) (by rfl) (fun A16 hA16 eA16 fA16 gA16 => ?_)
  refine hxa_aload_n (by rfl) rfl ?_
  refine hxa_get (v := .ref 326) (by rfl) (by rfl) (by rfl) rfl ?_
  refine hxa_iconst (by rfl) rfl ?_
  refine hxa_call2 (by rfl) (by decide) (by rfl) (by rfl) (by rfl) (hX246 (d := d + 0) hA16 (C := 325) (by rfl) (by omega) (hbokN (by rfl)) (by rfl) (by rfl)) ?_
  rintro _ A17 ⟨hA17, rfl⟩
  refine hxa_aload_n (by rfl) rfl ?_
  refine hxa_get (v := .ref 327) (by rfl) (by rfl) (by rfl) rfl ?_
  refine hxa_iconst (by rfl) rfl ?_
  refine hxa_call2 (by rfl) (by decide) (by rfl) (by rfl) (by rfl) (hX246 (d := d + 0) hA17 (C := 326) (by rfl) (by omega) (hbokN (by rfl)) (by rfl) (by rfl)) ?_
  rintro _ A18 ⟨hA18, rfl⟩
  refine hxa_aload_n (by rfl) rfl ?_
  refine hxa_get (v := .ref 328) (by rfl) (by rfl) (by rfl) rfl ?_
  refine hxa_iconst (by rfl) rfl ?_
  refine hxa_call2 (by rfl) (by decide) (by rfl) (by rfl) (by rfl) (hX246 (d := d + 0) hA18 (C := 327) (by rfl) (by omega) (hbokN (by rfl)) (by rfl) (by rfl)) ?_
  rintro _ A19 ⟨hA19, rfl⟩
  refine hxa_aload_n (by rfl) rfl ?_
  refine hxa_iconst (by rfl) rfl ?_
  refine hxj_putI (by rfl) (by rfl) (by rfl) (by rfl) hA19 (hbok (by rfl) hk_4294967295 (by omega) (by omega)) (by rfl) (by rfl) (fun A20 hA20 eA20 fA20 => ?_)
  exact hxa_return (by rfl) rfl (hP _ _ ⟨hA20, rfl⟩)
theorem hX1 {d : Nat} {Bn Br : Int} {A0 A : hs_A} (hA : hJ 0 Bn Br A0 A)  {T : Nat} (hT : hTT T) (eT : A0.2.2.2 0 3 = T + 1) {L : Nat} (hL : hLL L) (a3 : Int32) (p3 : 0 ≤ a3.toInt) (q3 : a3.toInt ≤ 9) (a4 : Int32) : hxC (d + 2) 1 hm_m1 [.ref 324, .ref (T + 1), .ref (L + 1), .int a3, .int a4] A (fun r A' => hJ 0 Bn Br A0 A' ∧ r = none) := hxC.of (by rfl) (hY1 hA hT eT hL a3 p3 q3 a4 (fun r A' h => h))
theorem hY14 {d : Nat} {Bn Br : Int} {A0 A : hs_A} (hA : hJ 0 Bn Br A0 A)  {T : Nat} (hT : hTT T) (a1 : Int32) (p1 : 0 ≤ a1.toInt) (q1 : a1.toInt ≤ 3) (a3 : Int32) (a4 : Int32) {P : Option Value → hs_A → Prop} (hP : ∀ (r : Option Value) (A' : hs_A), (hJ 0 Bn Br A0 A' ∧ ∃ z : Int32, r = some (.int z)) → P r A') : hxa (d + 0) (some (.int)) hm_t14 0 [.ref (T + 5), .int a1, .ref 325, .int a3, .int a4, .retAddr 0, .retAddr 0, .retAddr 0, .retAddr 0, .retAddr 0, .retAddr 0] [] A P := by
  have k0 := hk_0
  have L21 : ∀ (m21 : Nat) (x21_5 : Int32) (x21_6 : Int32) (x21_7 : Value) (x21_8 : Value) (x21_9 : Value) (x21_10 : Value) (Ac21 : hs_A) (hx21_7 : hc_two (some x21_7) = false) (hx21_8 : hc_two (some x21_8) = false) (hx21_9 : hc_two (some x21_9) = false) (hAc21 : hJ 0 Bn Br A0 Ac21) (bx21_5 : 0 ≤ x21_5.toInt) (cx21_5 : x21_5.toInt ≤ 16) (hm21 : 2147483647 - x21_6.toInt < (m21 : Int)), hxa (d + 0) (some (.int)) hm_t14 21 [.ref (T + 5), .int a1, .ref 325, .int a3, .int a4, .int x21_5, .int x21_6, x21_7, x21_8, x21_9, x21_10] [] Ac21 P := by
    intro m21
    induction m21 with
    | zero => intro x21_5 x21_6 x21_7 x21_8 x21_9 x21_10 Ac21 hx21_7 hx21_8 hx21_9 hAc21 bx21_5 cx21_5 hm21; have := hn_rng x21_6; exact False.elim (by omega)
    | succ m21 ih21 =>
      intro x21_5 x21_6 x21_7 x21_8 x21_9 x21_10 Ac21 hx21_7 hx21_8 hx21_9 hAc21 bx21_5 cx21_5 hm21
      refine hxa_iload (by rfl) rfl ?_
      refine hxj_zlt (by rfl) rfl (fun q1 => ?_) (fun q1 => ?_)
      ·
        refine hxa_iconst (by rfl) rfl ?_
        exact hxa_ireturn (by rfl) rfl (hP _ _ ⟨hAc21, _, rfl⟩)
      ·
        refine hxa_iload (by rfl) rfl ?_
        refine hxa_aload_n (by rfl) rfl ?_
        refine hxj_getB (by rfl) (hsT4 hT) (by rfl) hAc21 (hbT4_4 hT) (fun z2 ez2 fz2 gz2 => ?_)
        have rgx21_6 := hn_rng x21_6
        refine hxj_cge (by rfl) rfl rfl (fun q3 => ?_) (fun q3 => ?_)
        ·
          refine hxa_iconst (by rfl) rfl ?_
          exact hxa_ireturn (by rfl) rfl (hP _ _ ⟨hAc21, _, rfl⟩)
        ·
          refine hxa_aload_n (by rfl) rfl ?_
          refine hxa_get (v := .ref (T + 6)) (by rfl) (hsT4 hT) (by rfl) (hvT hT (by omega)) ?_
          refine hxa_iload (by rfl) rfl ?_
          refine hxj_iald (by rfl) (hsT5 hT) rfl (by omega) (by omega) (fun z4 ez4 => ?_)
          refine hxa_bipush (by rfl) rfl ?_
          refine hxa_iand (by rfl) (hn_top (fun z5 ez5 => ?_))
          have fz5 : 0 ≤ z5.toInt ∧ z5.toInt ≤ 7 := by
            have q := hn_and (x := z4) (y := (Int32.ofNat 7)) (by rw [hk_7]; decide)
            rw [← ez5, hk_7] at q
            exact q
          refine hxa_s1 (by rfl) (Or.inr ⟨_, rfl, rfl⟩) rfl ?_
          refine hxa_aload_n (by rfl) rfl ?_
          refine hxa_get (v := .ref (T + 6)) (by rfl) (hsT4 hT) (by rfl) (hvT hT (by omega)) ?_
          refine hxa_iload (by rfl) rfl ?_
          refine hxj_iald (by rfl) (hsT5 hT) rfl (by omega) (by omega) (fun z6 ez6 => ?_)
          refine hxa_iconst (by rfl) rfl ?_
          refine hxa_ishr (by rfl) (hn_top (fun z7 ez7 => ?_))
          have fz7 : ¬ z5.toInt = 1 ∨ 0 ≤ z7.toInt := hworth (hAc21.steps hT _) ez4 ez6 ez5 ez7
          refine hxa_s1 (by rfl) (Or.inr ⟨_, rfl, rfl⟩) rfl ?_
          refine hxa_iload (by rfl) rfl ?_
          refine hxj_zeq (by rfl) rfl (fun q8 => ?_) (fun q8 => ?_)
          ·
            refine hxa_iload (by rfl) rfl ?_
            refine hxa_bipush (by rfl) rfl ?_
            refine hxj_cge (by rfl) rfl hk_16 (fun q9 => ?_) (fun q9 => ?_)
            ·
              refine hxa_iconst (by rfl) rfl ?_
              exact hxa_ireturn (by rfl) rfl (hP _ _ ⟨hAc21, _, rfl⟩)
            ·
              refine hxa_iload (by rfl) rfl ?_
              refine hxa_iconst (by rfl) rfl ?_
              refine hxj_cne (by rfl) rfl hk_1 (fun q10 => ?_) (fun q10 => False.elim (by omega))
              refine hxa_aload_n (by rfl) rfl ?_
              refine hxa_get (v := .ref (T + 9)) (by rfl) (hsT4 hT) (by rfl) (hvT hT (by omega)) ?_
              refine hxa_iload (by rfl) rfl ?_
              refine hxa_iload (by rfl) rfl ?_
              refine hxj_zne (by rfl) rfl (fun q11 => False.elim (by omega)) (fun q11 => ?_)
              refine hxa_iload (by rfl) rfl ?_
              refine hxa_goto (by rfl) ?_
              refine hxj_iast (by rfl) (hsT8 hT) rfl (by omega) (by omega) hAc21 (hbokN (haT8 hT)) (hrT8 hT) (hqT8 hT) (fun A12 hA12 eA12 fA12 gA12 => ?_)
              refine hxj_iinc (by rfl) rfl rfl hk_1 (by omega) (by omega) (fun _ => rfl) (fun z13 ez13 => ?_)
              refine hxa_goto (by rfl) ?_
              refine hxj_iinc (by rfl) rfl rfl hk_1 (by omega) (by omega) (fun _ => rfl) (fun z14 ez14 => ?_)
              refine hxa_goto (by rfl) ?_
              exact ih21 z13 z14 (.int z5) (.int z7) (x21_9) (x21_10) A12 rfl rfl hx21_9 hA12 (by omega) (by omega) (by omega)
          ·
            refine hxa_iload (by rfl) rfl ?_
            refine hxa_iconst (by rfl) rfl ?_
            refine hxj_cne (by rfl) rfl hk_1 (fun q15 => ?_) (fun q15 => ?_)
            ·
              refine hxa_iload (by rfl) rfl ?_
              refine hxa_bipush (by rfl) rfl ?_
              refine hxj_cne (by rfl) rfl hk_7 (fun q16 => ?_) (fun q16 => ?_)
              ·
                refine hxa_iload (by rfl) rfl ?_
                refine hxa_iconst (by rfl) rfl ?_
                refine hxj_clt (by rfl) rfl hk_2 (fun q17 => ?_) (fun q17 => ?_)
                ·
                  refine hxa_iconst (by rfl) rfl ?_
                  exact hxa_ireturn (by rfl) rfl (hP _ _ ⟨hAc21, _, rfl⟩)
                ·
                  refine hxa_iload (by rfl) rfl ?_
                  refine hxa_iconst (by rfl) rfl ?_
                  refine hxj_cne (by rfl) rfl hk_5 (fun q18 => ?_) (fun q18 => ?_)
                  ·
                    refine hxj_iinc (by rfl) rfl rfl hk_4294967295 (by omega) (by omega) (fun _ => rfl) (fun z19 ez19 => ?_)
                    refine hxa_aload_n (by rfl) rfl ?_
                    refine hxa_get (v := .ref (T + 9)) (by rfl) (hsT4 hT) (by rfl) (hvT hT (by omega)) ?_
                    refine hxa_iload (by rfl) rfl ?_
                    refine hxa_iconst (by rfl) rfl ?_
                    refine hxj_isub (by rfl) rfl hk_1 (by omega) (by omega) (fun z20 ez20 => ?_)
                    refine hxj_iald (by rfl) (hsT8 hT) rfl (by omega) (by omega) (fun z21 ez21 => ?_)
                    refine hxa_s1 (by rfl) (Or.inr ⟨_, rfl, rfl⟩) rfl ?_
                    refine hxa_aload_n (by rfl) rfl ?_
                    refine hxa_get (v := .ref (T + 9)) (by rfl) (hsT4 hT) (by rfl) (hvT hT (by omega)) ?_
                    refine hxa_iload (by rfl) rfl ?_
                    refine hxj_iald (by rfl) (hsT8 hT) rfl (by omega) (by omega) (fun z22 ez22 => ?_)
                    refine hxa_s1 (by rfl) (Or.inr ⟨_, rfl, rfl⟩) rfl ?_
                    refine hxa_iload (by rfl) rfl ?_
                    by_cases q23 : z5.toInt = 2
                    ·
                      refine hxa_tabIn (by rfl) (by omega) (by omega) (by rw [q23]; rfl) (tgt := 224) (by rfl) ?_
                      refine hxa_aload_n (by rfl) rfl ?_
                      refine hxa_get (v := .ref (T + 9)) (by rfl) (hsT4 hT) (by rfl) (hvT hT (by omega)) ?_
                      refine hxa_iload (by rfl) rfl ?_
                      refine hxa_iconst (by rfl) rfl ?_
                      refine hxj_isub (by rfl) rfl hk_1 (by omega) (by omega) (fun z24 ez24 => ?_)
                      refine hxa_iload (by rfl) rfl ?_
                      refine hxa_iload (by rfl) rfl ?_
                      refine hxj_iaddU (by rfl) (fun z25 => ?_)
                      refine hxj_iast (by rfl) (hsT8 hT) rfl (by omega) (by omega) hAc21 (hbokN (haT8 hT)) (hrT8 hT) (hqT8 hT) (fun A26 hA26 eA26 fA26 gA26 => ?_)
                      refine hxa_goto (by rfl) ?_
                      refine hxj_iinc (by rfl) rfl rfl hk_1 (by omega) (by omega) (fun _ => rfl) (fun z27 ez27 => ?_)
                      refine hxa_goto (by rfl) ?_
                      exact ih21 z19 z27 (.int z5) (.int z7) (.int z21) (.int z22) A26 rfl rfl rfl hA26 (by omega) (by omega) (by omega)
                    ·
                      by_cases q28 : z5.toInt = 3
                      ·
                        refine hxa_tabIn (by rfl) (by omega) (by omega) (by rw [q28]; rfl) (tgt := 241) (by rfl) ?_
                        refine hxa_aload_n (by rfl) rfl ?_
                        refine hxa_get (v := .ref (T + 9)) (by rfl) (hsT4 hT) (by rfl) (hvT hT (by omega)) ?_
                        refine hxa_iload (by rfl) rfl ?_
                        refine hxa_iconst (by rfl) rfl ?_
                        refine hxj_isub (by rfl) rfl hk_1 (by omega) (by omega) (fun z29 ez29 => ?_)
                        refine hxa_iload (by rfl) rfl ?_
                        refine hxa_iload (by rfl) rfl ?_
                        refine hxj_isubU (by rfl) (fun z30 => ?_)
                        refine hxj_iast (by rfl) (hsT8 hT) rfl (by omega) (by omega) hAc21 (hbokN (haT8 hT)) (hrT8 hT) (hqT8 hT) (fun A31 hA31 eA31 fA31 gA31 => ?_)
                        refine hxa_goto (by rfl) ?_
                        refine hxj_iinc (by rfl) rfl rfl hk_1 (by omega) (by omega) (fun _ => rfl) (fun z32 ez32 => ?_)
                        refine hxa_goto (by rfl) ?_
                        exact ih21 z19 z32 (.int z5) (.int z7) (.int z21) (.int z22) A31 rfl rfl rfl hA31 (by omega) (by omega) (by omega)
                      ·
                        by_cases q33 : z5.toInt = 4
                        ·
                          refine hxa_tabIn (by rfl) (by omega) (by omega) (by rw [q33]; rfl) (tgt := 258) (by rfl) ?_
                          refine hxa_aload_n (by rfl) rfl ?_
                          refine hxa_get (v := .ref (T + 9)) (by rfl) (hsT4 hT) (by rfl) (hvT hT (by omega)) ?_
                          refine hxa_iload (by rfl) rfl ?_
                          refine hxa_iconst (by rfl) rfl ?_
                          refine hxj_isub (by rfl) rfl hk_1 (by omega) (by omega) (fun z34 ez34 => ?_)
                          refine hxa_iload (by rfl) rfl ?_
                          refine hxa_iload (by rfl) rfl ?_
                          refine hxj_imulU (by rfl) (fun z35 => ?_)
                          refine hxj_iast (by rfl) (hsT8 hT) rfl (by omega) (by omega) hAc21 (hbokN (haT8 hT)) (hrT8 hT) (hqT8 hT) (fun A36 hA36 eA36 fA36 gA36 => ?_)
                          refine hxa_goto (by rfl) ?_
                          refine hxj_iinc (by rfl) rfl rfl hk_1 (by omega) (by omega) (fun _ => rfl) (fun z37 ez37 => ?_)
                          refine hxa_goto (by rfl) ?_
                          exact ih21 z19 z37 (.int z5) (.int z7) (.int z21) (.int z22) A36 rfl rfl rfl hA36 (by omega) (by omega) (by omega)
                        ·
                          by_cases q38 : z5.toInt = 5
                          ·
                            refine hxa_tabIn (by rfl) (by omega) (by omega) (by rw [q38]; rfl) (tgt := 275) (by rfl) ?_
                            refine hxa_aload_n (by rfl) rfl ?_
                            refine hxa_get (v := .ref (T + 9)) (by rfl) (hsT4 hT) (by rfl) (hvT hT (by omega)) ?_
                            refine hxa_iload (by rfl) rfl ?_
                            refine hxa_iconst (by rfl) rfl ?_
                            refine hxj_isub (by rfl) rfl hk_1 (by omega) (by omega) (fun z39 ez39 => ?_)
                            refine hxa_iload (by rfl) rfl ?_
                            refine hxa_iload (by rfl) rfl ?_
                            refine hxj_idivU (by rfl) rfl (by omega) (fun z40 => ?_)
                            refine hxj_iast (by rfl) (hsT8 hT) rfl (by omega) (by omega) hAc21 (hbokN (haT8 hT)) (hrT8 hT) (hqT8 hT) (fun A41 hA41 eA41 fA41 gA41 => ?_)
                            refine hxa_goto (by rfl) ?_
                            refine hxj_iinc (by rfl) rfl rfl hk_1 (by omega) (by omega) (fun _ => rfl) (fun z42 ez42 => ?_)
                            refine hxa_goto (by rfl) ?_
                            exact ih21 z19 z42 (.int z5) (.int z7) (.int z21) (.int z22) A41 rfl rfl rfl hA41 (by omega) (by omega) (by omega)
                          ·
                            refine hxa_tabOut (by rfl) (by omega) (tgt := 292) (by rfl) ?_
                            refine hxj_iinc (by rfl) rfl rfl hk_4294967295 (by omega) (by omega) (fun _ => rfl) (fun z43 ez43 => ?_)
                            refine hxa_iload (by rfl) rfl ?_
                            refine hxa_iload (by rfl) rfl ?_
                            have rgz21 := hn_rng z21
                            have rgz22 := hn_rng z22
                            refine hxj_clt (by rfl) rfl rfl (fun q44 => ?_) (fun q44 => ?_)
                            ·
                              refine hxj_iinc (by rfl) rfl rfl hk_1 (by omega) (by omega) (fun _ => rfl) (fun z45 ez45 => ?_)
                              refine hxa_goto (by rfl) ?_
                              exact ih21 z43 z45 (.int z5) (.int z7) (.int z21) (.int z22) Ac21 rfl rfl rfl hAc21 (by omega) (by omega) (by omega)
                            ·
                              refine hxa_iload (by rfl) rfl ?_
                              refine hxa_iload (by rfl) rfl ?_
                              have rgz7 := hn_rng z7
                              refine hxj_cle (by rfl) rfl rfl (fun q46 => ?_) (fun q46 => ?_)
                              ·
                                refine hxj_iinc (by rfl) rfl rfl hk_1 (by omega) (by omega) (fun _ => rfl) (fun z47 ez47 => ?_)
                                refine hxa_goto (by rfl) ?_
                                exact ih21 z43 z47 (.int z5) (.int z7) (.int z21) (.int z22) Ac21 rfl rfl rfl hAc21 (by omega) (by omega) (by omega)
                              ·
                                refine hxa_iload (by rfl) rfl ?_
                                refine hxa_iconst (by rfl) rfl ?_
                                refine hxj_isub (by rfl) rfl hk_1 (by omega) (by omega) (fun z48 ez48 => ?_)
                                refine hxa_s1 (by rfl) (Or.inr ⟨_, rfl, rfl⟩) rfl ?_
                                refine hxj_iinc (by rfl) rfl rfl hk_1 (by omega) (by omega) (fun _ => rfl) (fun z49 ez49 => ?_)
                                refine hxa_goto (by rfl) ?_
                                exact ih21 z43 z49 (.int z5) (.int z7) (.int z21) (.int z22) Ac21 rfl rfl rfl hAc21 (by omega) (by omega) (by omega)
                  ·
                    refine hxa_aload_n (by rfl) rfl ?_
                    refine hxa_get (v := .ref (T + 9)) (by rfl) (hsT4 hT) (by rfl) (hvT hT (by omega)) ?_
                    refine hxa_iload (by rfl) rfl ?_
                    refine hxa_iconst (by rfl) rfl ?_
                    refine hxj_isub (by rfl) rfl hk_1 (by omega) (by omega) (fun z50 ez50 => ?_)
                    refine hxj_iald (by rfl) (hsT8 hT) rfl (by omega) (by omega) (fun z51 ez51 => ?_)
                    refine hxj_zne (by rfl) rfl (fun q52 => ?_) (fun q52 => ?_)
                    ·
                      refine hxj_iinc (by rfl) rfl rfl hk_4294967295 (by omega) (by omega) (fun _ => rfl) (fun z53 ez53 => ?_)
                      refine hxa_aload_n (by rfl) rfl ?_
                      refine hxa_get (v := .ref (T + 9)) (by rfl) (hsT4 hT) (by rfl) (hvT hT (by omega)) ?_
                      refine hxa_iload (by rfl) rfl ?_
                      refine hxa_iconst (by rfl) rfl ?_
                      refine hxj_isub (by rfl) rfl hk_1 (by omega) (by omega) (fun z54 ez54 => ?_)
                      refine hxj_iald (by rfl) (hsT8 hT) rfl (by omega) (by omega) (fun z55 ez55 => ?_)
                      refine hxa_s1 (by rfl) (Or.inr ⟨_, rfl, rfl⟩) rfl ?_
                      refine hxa_aload_n (by rfl) rfl ?_
                      refine hxa_get (v := .ref (T + 9)) (by rfl) (hsT4 hT) (by rfl) (hvT hT (by omega)) ?_
                      refine hxa_iload (by rfl) rfl ?_
                      refine hxj_iald (by rfl) (hsT8 hT) rfl (by omega) (by omega) (fun z56 ez56 => ?_)
                      have sz56 : z51.toInt = z56.toInt := by rw [hsame ez51 ez56 (by omega)]
                      refine hxa_s1 (by rfl) (Or.inr ⟨_, rfl, rfl⟩) rfl ?_
                      refine hxa_iload (by rfl) rfl ?_
                      by_cases q57 : z5.toInt = 5
                      ·
                        refine hxa_tabIn (by rfl) (by omega) (by omega) (by rw [q57]; rfl) (tgt := 275) (by rfl) ?_
                        refine hxa_aload_n (by rfl) rfl ?_
                        refine hxa_get (v := .ref (T + 9)) (by rfl) (hsT4 hT) (by rfl) (hvT hT (by omega)) ?_
                        refine hxa_iload (by rfl) rfl ?_
                        refine hxa_iconst (by rfl) rfl ?_
                        refine hxj_isub (by rfl) rfl hk_1 (by omega) (by omega) (fun z58 ez58 => ?_)
                        refine hxa_iload (by rfl) rfl ?_
                        refine hxa_iload (by rfl) rfl ?_
                        refine hxj_idivU (by rfl) rfl (by omega) (fun z59 => ?_)
                        refine hxj_iast (by rfl) (hsT8 hT) rfl (by omega) (by omega) hAc21 (hbokN (haT8 hT)) (hrT8 hT) (hqT8 hT) (fun A60 hA60 eA60 fA60 gA60 => ?_)
                        refine hxa_goto (by rfl) ?_
                        refine hxj_iinc (by rfl) rfl rfl hk_1 (by omega) (by omega) (fun _ => rfl) (fun z61 ez61 => ?_)
                        refine hxa_goto (by rfl) ?_
                        exact ih21 z53 z61 (.int z5) (.int z7) (.int z55) (.int z56) A60 rfl rfl rfl hA60 (by omega) (by omega) (by omega)
                      ·
                        exact False.elim (by omega)
                    ·
                      refine hxa_iconst (by rfl) rfl ?_
                      exact hxa_ireturn (by rfl) rfl (hP _ _ ⟨hAc21, _, rfl⟩)
              ·
                refine hxa_iload (by rfl) rfl ?_
                refine hxj_zle (by rfl) rfl (fun q62 => ?_) (fun q62 => ?_)
                ·
                  refine hxa_iconst (by rfl) rfl ?_
                  exact hxa_ireturn (by rfl) rfl (hP _ _ ⟨hAc21, _, rfl⟩)
                ·
                  refine hxa_aload_n (by rfl) rfl ?_
                  refine hxa_get (v := .ref (T + 9)) (by rfl) (hsT4 hT) (by rfl) (hvT hT (by omega)) ?_
                  refine hxa_iload (by rfl) rfl ?_
                  refine hxa_iconst (by rfl) rfl ?_
                  refine hxj_isub (by rfl) rfl hk_1 (by omega) (by omega) (fun z63 ez63 => ?_)
                  refine hxj_iald (by rfl) (hsT8 hT) rfl (by omega) (by omega) (fun z64 ez64 => ?_)
                  refine hxa_goto (by rfl) ?_
                  exact hxa_ireturn (by rfl) rfl (hP _ _ ⟨hAc21, _, rfl⟩)
            ·
              refine hxa_iload (by rfl) rfl ?_
              refine hxa_bipush (by rfl) rfl ?_
              refine hxj_cge (by rfl) rfl hk_16 (fun q65 => ?_) (fun q65 => ?_)
              ·
                refine hxa_iconst (by rfl) rfl ?_
                exact hxa_ireturn (by rfl) rfl (hP _ _ ⟨hAc21, _, rfl⟩)
              ·
                refine hxa_iload (by rfl) rfl ?_
                refine hxa_iconst (by rfl) rfl ?_
                refine hxj_cne (by rfl) rfl hk_1 (fun q66 => False.elim (by omega)) (fun q66 => ?_)
                refine hxa_iload (by rfl) rfl ?_
                refine hxa_bipush (by rfl) rfl ?_
                refine hxj_clt (by rfl) rfl hk_9 (fun q67 => ?_) (fun q67 => ?_)
                ·
                  refine hxa_aload_n (by rfl) rfl ?_
                  refine hxa_get (v := .ref (T + 9)) (by rfl) (hsT4 hT) (by rfl) (hvT hT (by omega)) ?_
                  refine hxa_iload (by rfl) rfl ?_
                  refine hxa_iload (by rfl) rfl ?_
                  refine hxj_zne (by rfl) rfl (fun q68 => ?_) (fun q68 => False.elim (by omega))
                  refine hxa_aload_n (by rfl) rfl ?_
                  refine hxa_iload (by rfl) rfl ?_
                  refine hxj_iald (by rfl) (by rfl) rfl (by omega) (by omega) (fun z69 ez69 => ?_)
                  refine hxj_iast (by rfl) (hsT8 hT) rfl (by omega) (by omega) hAc21 (hbokN (haT8 hT)) (hrT8 hT) (hqT8 hT) (fun A70 hA70 eA70 fA70 gA70 => ?_)
                  refine hxj_iinc (by rfl) rfl rfl hk_1 (by omega) (by omega) (fun _ => rfl) (fun z71 ez71 => ?_)
                  refine hxa_goto (by rfl) ?_
                  refine hxj_iinc (by rfl) rfl rfl hk_1 (by omega) (by omega) (fun _ => rfl) (fun z72 ez72 => ?_)
                  refine hxa_goto (by rfl) ?_
                  exact ih21 z71 z72 (.int z5) (.int z7) (x21_9) (x21_10) A70 rfl rfl hx21_9 hA70 (by omega) (by omega) (by omega)
                ·
                  refine hxa_iconst (by rfl) rfl ?_
                  exact hxa_ireturn (by rfl) rfl (hP _ _ ⟨hAc21, _, rfl⟩)
  refine hxa_aload_n (by rfl) rfl ?_
  refine hxa_iconst (by rfl) rfl ?_
  refine hxa_iload_n (by rfl) rfl ?_
  refine hxj_iast (by rfl) (by rfl) hk_3 (by omega) (by omega) hA (hbokN (by rfl)) (by rfl) (by rfl) (fun A73 hA73 eA73 fA73 gA73 => ?_)
  refine hxa_aload_n (by rfl) rfl ?_
  refine hxa_bipush (by rfl) rfl ?_
  refine hxa_iload (by rfl) rfl ?_
  refine hxj_iast (by rfl) (by rfl) hk_6 (by omega) (by omega) hA73 (hbokN (by rfl)) (by rfl) (by rfl) (fun A74 hA74 eA74 fA74 gA74 => ?_)
  refine hxa_iconst (by rfl) rfl ?_
  refine hxa_s1 (by rfl) (Or.inr ⟨_, rfl, rfl⟩) rfl ?_
  refine hxa_aload_n (by rfl) rfl ?_
  refine hxa_get (v := .ref (T + 7)) (by rfl) (hsT4 hT) (by rfl) (hvT hT (by omega)) ?_
  refine hxa_iload_n (by rfl) rfl ?_
  refine hxj_iald (by rfl) (hsT6 hT) rfl (by omega) (by omega) (fun z75 ez75 => ?_)
  refine hxa_s1 (by rfl) (Or.inr ⟨_, rfl, rfl⟩) rfl ?_
  exact L21 (Int.toNat (2147483647 - z75.toInt) + 1) (Int32.ofNat 0) z75 (.retAddr 0) (.retAddr 0) (.retAddr 0) (.retAddr 0) A74 rfl rfl rfl hA74 (by omega) (by omega) (by omega)
theorem hX14 {d : Nat} {Bn Br : Int} {A0 A : hs_A} (hA : hJ 0 Bn Br A0 A)  {T : Nat} (hT : hTT T) (a1 : Int32) (p1 : 0 ≤ a1.toInt) (q1 : a1.toInt ≤ 3) (a3 : Int32) (a4 : Int32) : hxC (d + 1) 14 hm_m14 [.ref (T + 5), .int a1, .ref 325, .int a3, .int a4] A (fun r A' => hJ 0 Bn Br A0 A' ∧ ∃ z : Int32, r = some (.int z)) := hxC.of (by rfl) (hY14 hA hT a1 p1 q1 a3 a4 (fun r A' h => h))
theorem hY245 {d : Nat} {A : hs_A} (a1 : Int32) (a2 : Int32) {P : Option Value → hs_A → Prop} (hP : ∀ (r : Option Value) (A' : hs_A), (A = A' ∧ ∃ z : Int32, r = some (.int z) ∧ ((z.toInt = a1.toInt ∧ a1.toInt ≤ a2.toInt) ∨ (z.toInt = a2.toInt ∧ a2.toInt ≤ a1.toInt))) → P r A') : hxa (d + 0) (some (.int)) hm_t245 0 [.int a1, .int a2] [] A P := by
  refine hxa_iload_n (by rfl) rfl ?_
  refine hxa_iload_n (by rfl) rfl ?_
  have rga1 := hn_rng a1
  have rga2 := hn_rng a2
  refine hxj_cgt (by rfl) rfl rfl (fun q1 => ?_) (fun q1 => ?_)
  ·
    refine hxa_iload_n (by rfl) rfl ?_
    exact hxa_ireturn (by rfl) rfl (hP _ _ ⟨rfl, _, rfl, by omega⟩)
  ·
    refine hxa_iload_n (by rfl) rfl ?_
    refine hxa_goto (by rfl) ?_
    exact hxa_ireturn (by rfl) rfl (hP _ _ ⟨rfl, _, rfl, by omega⟩)
theorem hX245 {d : Nat} {A : hs_A} (a1 : Int32) (a2 : Int32) : hxC (d + 1) 245 hm_m245 [.int a1, .int a2] A (fun r A' => A = A' ∧ ∃ z : Int32, r = some (.int z) ∧ ((z.toInt = a1.toInt ∧ a1.toInt ≤ a2.toInt) ∨ (z.toInt = a2.toInt ∧ a2.toInt ≤ a1.toInt))) := hxC.of (by rfl) (hY245 a1 a2 (fun r A' h => h))
theorem hY244 {d : Nat} {A : hs_A} (a1 : Int32) (a2 : Int32) {P : Option Value → hs_A → Prop} (hP : ∀ (r : Option Value) (A' : hs_A), (A = A' ∧ ∃ z : Int32, r = some (.int z) ∧ ((z.toInt = a1.toInt ∧ a2.toInt ≤ a1.toInt) ∨ (z.toInt = a2.toInt ∧ a1.toInt ≤ a2.toInt))) → P r A') : hxa (d + 0) (some (.int)) hm_t244 0 [.int a1, .int a2] [] A P := by
  refine hxa_iload_n (by rfl) rfl ?_
  refine hxa_iload_n (by rfl) rfl ?_
  have rga1 := hn_rng a1
  have rga2 := hn_rng a2
  refine hxj_clt (by rfl) rfl rfl (fun q1 => ?_) (fun q1 => ?_)
  ·
    refine hxa_iload_n (by rfl) rfl ?_
    exact hxa_ireturn (by rfl) rfl (hP _ _ ⟨rfl, _, rfl, by omega⟩)
  ·
    refine hxa_iload_n (by rfl) rfl ?_
    refine hxa_goto (by rfl) ?_
    exact hxa_ireturn (by rfl) rfl (hP _ _ ⟨rfl, _, rfl, by omega⟩)
theorem hX244 {d : Nat} {A : hs_A} (a1 : Int32) (a2 : Int32) : hxC (d + 1) 244 hm_m244 [.int a1, .int a2] A (fun r A' => A = A' ∧ ∃ z : Int32, r = some (.int z) ∧ ((z.toInt = a1.toInt ∧ a2.toInt ≤ a1.toInt) ∨ (z.toInt = a2.toInt ∧ a1.toInt ≤ a2.toInt))) := hxC.of (by rfl) (hY244 a1 a2 (fun r A' h => h))
theorem hY2 {d : Nat} {Bn Br : Int} {A0 A : hs_A} (hA : hJ 0 Bn Br A0 A)  (a1 : Int32) (p1 : 0 ≤ a1.toInt) (q1 : a1.toInt ≤ 8) {P : Option Value → hs_A → Prop} (hP : ∀ (r : Option Value) (A' : hs_A), (hJ 0 Bn Br A0 A' ∧ ∃ z : Int32, r = some (.int z)) → P r A') : hxa (d + 1) (some (.int)) hm_t2 0 [.ref 324, .int a1] [] A P := by
  have k0 := hk_0
  have k1 := hk_1
  have k7 := hk_7
  refine hxa_aload_n (by rfl) rfl ?_
  refine hxa_get (v := .ref 328) (by rfl) (by rfl) (by rfl) rfl ?_
  refine hxa_iload_n (by rfl) rfl ?_
  refine hxj_iald (by rfl) (by rfl) rfl (by omega) (by omega) (fun z1 ez1 => ?_)
  refine hxa_iconst (by rfl) rfl ?_
  refine hxj_cne (by rfl) rfl hk_4294967295 (fun q2 => ?_) (fun q2 => ?_)
  ·
    refine hxa_aload_n (by rfl) rfl ?_
    refine hxa_get (v := .ref 328) (by rfl) (by rfl) (by rfl) rfl ?_
    refine hxa_iload_n (by rfl) rfl ?_
    refine hxj_iald (by rfl) (by rfl) rfl (by omega) (by omega) (fun z3 ez3 => ?_)
    exact hxa_ireturn (by rfl) rfl (hP _ _ ⟨hA, _, rfl⟩)
  ·
    refine hxa_aload_n (by rfl) rfl ?_
    refine hxa_get (v := .ref 328) (by rfl) (by rfl) (by rfl) rfl ?_
    refine hxa_iload_n (by rfl) rfl ?_
    refine hxa_iconst (by rfl) rfl ?_
    refine hxa_bipush (by rfl) rfl ?_
    refine hxa_aload_n (by rfl) rfl ?_
    obtain ⟨T4, hT4, eT4⟩ := hA.lawsT
    refine hxj_getT (by rfl) (by rfl) (by rfl) eT4 ?_
    refine hxa_iconst (by rfl) rfl ?_
    refine hxa_aload_n (by rfl) rfl ?_
    refine hxa_get (v := .ref 325) (by rfl) (by rfl) (by rfl) rfl ?_
    refine hxa_iconst (by rfl) rfl ?_
    refine hxa_iload_n (by rfl) rfl ?_
    refine hxa_call0 (by rfl) (by rfl) (by rfl) (hsT4 hT4) (by rfl) (by rfl) (hX14 (d := d + 0) hA hT4 (Int32.ofNat 1) (by omega) (by omega) (Int32.ofNat 0) a1) ?_
    rintro _ A5 ⟨hA5, z6, rfl⟩
    refine hxa_call2 (by rfl) (by decide) (by rfl) (by rfl) (by rfl) (hX245 (d := d + 0)  (Int32.ofNat 7) z6) ?_
    rintro _ _ ⟨rfl, z7, rfl, fz7⟩
    refine hxa_call2 (by rfl) (by decide) (by rfl) (by rfl) (by rfl) (hX244 (d := d + 0)  (Int32.ofNat 0) z7) ?_
    rintro _ _ ⟨rfl, z8, rfl, fz8⟩
    refine hxj_iast (by rfl) (by rfl) rfl (by omega) (by omega) hA5 (hbokN (by rfl)) (by rfl) (by rfl) (fun A9 hA9 eA9 fA9 gA9 => ?_)
    refine hxa_aload_n (by rfl) rfl ?_
    refine hxa_get (v := .ref 328) (by rfl) (by rfl) (by rfl) rfl ?_
    refine hxa_iload_n (by rfl) rfl ?_
    refine hxj_iald (by rfl) (by rfl) rfl (by omega) (by omega) (fun z10 ez10 => ?_)
    exact hxa_ireturn (by rfl) rfl (hP _ _ ⟨hA9, _, rfl⟩)
theorem hX2 {d : Nat} {Bn Br : Int} {A0 A : hs_A} (hA : hJ 0 Bn Br A0 A)  (a1 : Int32) (p1 : 0 ≤ a1.toInt) (q1 : a1.toInt ≤ 8) : hxC (d + 2) 2 hm_m2 [.ref 324, .int a1] A (fun r A' => hJ 0 Bn Br A0 A' ∧ ∃ z : Int32, r = some (.int z)) := hxC.of (by rfl) (hY2 hA a1 p1 q1 (fun r A' h => h))
theorem hY3 {d : Nat} {Bn Br : Int} {A0 A : hs_A} (hA : hJ 0 Bn Br A0 A)   {P : Option Value → hs_A → Prop} (hP : ∀ (r : Option Value) (A' : hs_A), (hJ 0 Bn Br A0 A' ∧ ∃ z : Int32, r = some (.int z) ∧ ((0 ≤ z.toInt ∧ z.toInt ≤ 255))) → P r A') : hxa (d + 1) (some (.int)) hm_t3 0 [.ref 324] [] A P := by
  have k0 := hk_0
  have k2 := hk_2
  have k255 := hk_255
  refine hxa_aload_n (by rfl) rfl ?_
  refine hxj_getB (by rfl) (by rfl) (by rfl) hA (by rfl) (fun z1 ez1 fz1 gz1 => ?_)
  refine hxa_iconst (by rfl) rfl ?_
  refine hxj_cne (by rfl) rfl hk_4294967295 (fun q2 => ?_) (fun q2 => ?_)
  ·
    refine hxa_aload_n (by rfl) rfl ?_
    refine hxj_getK (by rfl) (by rfl) (by rfl) ez1 ?_
    exact hxa_ireturn (by rfl) rfl (hP _ _ ⟨hA, _, rfl, by omega⟩)
  ·
    refine hxa_aload_n (by rfl) rfl ?_
    refine hxa_iconst (by rfl) rfl ?_
    refine hxa_sipush (by rfl) rfl ?_
    refine hxa_aload_n (by rfl) rfl ?_
    obtain ⟨T3, hT3, eT3⟩ := hA.lawsT
    refine hxj_getT (by rfl) (by rfl) (by rfl) eT3 ?_
    refine hxa_iconst (by rfl) rfl ?_
    refine hxa_aload_n (by rfl) rfl ?_
    refine hxa_get (v := .ref 325) (by rfl) (by rfl) (by rfl) rfl ?_
    refine hxa_iconst (by rfl) rfl ?_
    refine hxa_iconst (by rfl) rfl ?_
    refine hxa_call0 (by rfl) (by rfl) (by rfl) (hsT4 hT3) (by rfl) (by rfl) (hX14 (d := d + 0) hA hT3 (Int32.ofNat 2) (by omega) (by omega) (Int32.ofNat 0) (Int32.ofNat 0)) ?_
    rintro _ A4 ⟨hA4, z5, rfl⟩
    refine hxa_call2 (by rfl) (by decide) (by rfl) (by rfl) (by rfl) (hX245 (d := d + 0)  (Int32.ofNat 255) z5) ?_
    rintro _ _ ⟨rfl, z6, rfl, fz6⟩
    refine hxa_call2 (by rfl) (by decide) (by rfl) (by rfl) (by rfl) (hX244 (d := d + 0)  (Int32.ofNat 0) z6) ?_
    rintro _ _ ⟨rfl, z7, rfl, fz7⟩
    refine hxj_putI (by rfl) (by rfl) (by rfl) (by rfl) hA4 (hbok (by rfl) rfl (by omega) (by omega)) (by rfl) (by rfl) (fun A8 hA8 eA8 fA8 => ?_)
    refine hxa_aload_n (by rfl) rfl ?_
    refine hxj_getK (by rfl) (by rfl) (by rfl) (hkS eA8) ?_
    exact hxa_ireturn (by rfl) rfl (hP _ _ ⟨hA8, _, rfl, by omega⟩)
theorem hX3 {d : Nat} {Bn Br : Int} {A0 A : hs_A} (hA : hJ 0 Bn Br A0 A)   : hxC (d + 2) 3 hm_m3 [.ref 324] A (fun r A' => hJ 0 Bn Br A0 A' ∧ ∃ z : Int32, r = some (.int z) ∧ ((0 ≤ z.toInt ∧ z.toInt ≤ 255))) := hxC.of (by rfl) (hY3 hA  (fun r A' h => h))
theorem hY4 {d : Nat} {Bn Br : Int} {A0 A : hs_A} (hA : hJ 0 Bn Br A0 A)   {P : Option Value → hs_A → Prop} (hP : ∀ (r : Option Value) (A' : hs_A), (hJ 0 Bn Br A0 A' ∧ ∃ z : Int32, r = some (.int z)) → P r A') : hxa (d + 1) (some (.int)) hm_t4 0 [.ref 324] [] A P := by
  have k0 := hk_0
  have k100 := hk_100
  have k3 := hk_3
  refine hxa_iconst (by rfl) rfl ?_
  refine hxa_bipush (by rfl) rfl ?_
  refine hxa_aload_n (by rfl) rfl ?_
  obtain ⟨T1, hT1, eT1⟩ := hA.lawsT
  refine hxj_getT (by rfl) (by rfl) (by rfl) eT1 ?_
  refine hxa_iconst (by rfl) rfl ?_
  refine hxa_aload_n (by rfl) rfl ?_
  refine hxa_get (v := .ref 325) (by rfl) (by rfl) (by rfl) rfl ?_
  refine hxa_iconst (by rfl) rfl ?_
  refine hxa_iconst (by rfl) rfl ?_
  refine hxa_call0 (by rfl) (by rfl) (by rfl) (hsT4 hT1) (by rfl) (by rfl) (hX14 (d := d + 0) hA hT1 (Int32.ofNat 3) (by omega) (by omega) (Int32.ofNat 0) (Int32.ofNat 0)) ?_
  rintro _ A2 ⟨hA2, z3, rfl⟩
  refine hxa_call2 (by rfl) (by decide) (by rfl) (by rfl) (by rfl) (hX245 (d := d + 0)  (Int32.ofNat 100) z3) ?_
  rintro _ _ ⟨rfl, z4, rfl, fz4⟩
  refine hxa_call2 (by rfl) (by decide) (by rfl) (by rfl) (by rfl) (hX244 (d := d + 0)  (Int32.ofNat 0) z4) ?_
  rintro _ _ ⟨rfl, z5, rfl, fz5⟩
  exact hxa_ireturn (by rfl) rfl (hP _ _ ⟨hA2, _, rfl⟩)
theorem hX4 {d : Nat} {Bn Br : Int} {A0 A : hs_A} (hA : hJ 0 Bn Br A0 A)   : hxC (d + 2) 4 hm_m4 [.ref 324] A (fun r A' => hJ 0 Bn Br A0 A' ∧ ∃ z : Int32, r = some (.int z)) := hxC.of (by rfl) (hY4 hA  (fun r A' h => h))
theorem hY11 {d : Nat} {Bn Br : Int} {A0 A : hs_A} (hA : hJ 0 Bn Br A0 A)  {T : Nat} (hT : hTT T) (a1 : Int32) (p1 : 0 ≤ a1.toInt) (q1 : a1.toInt ≤ 3) (a2 : Int32) {P : Option Value → hs_A → Prop} (hP : ∀ (r : Option Value) (A' : hs_A), (A = A' ∧ ∃ z : Int32, r = some (.int z) ∧ ((0 ≤ z.toInt ∧ z.toInt ≤ 1))) → P r A') : hxa (d + 0) (some (.boolean)) hm_t11 0 [.ref (T + 5), .int a1, .int a2] [] A P := by
  have k0 := hk_0
  have k1 := hk_1
  refine hxa_aload_n (by rfl) rfl ?_
  refine hxa_get (v := .ref (T + 8)) (by rfl) (hsT4 hT) (by rfl) (hvT hT (by omega)) ?_
  refine hxa_iload_n (by rfl) rfl ?_
  refine hxj_iald (by rfl) (hsT7 hT) rfl (by omega) (by omega) (fun z1 ez1 => ?_)
  refine hxa_iload_n (by rfl) rfl ?_
  refine hxj_ishrU (by rfl) (fun z2 => ?_)
  refine hxa_iconst (by rfl) rfl ?_
  refine hxj_iandR (by rfl) hk_1 (by omega) (fun z3 ez3 fz3 => ?_)
  refine hxj_zeq (by rfl) rfl (fun q4 => ?_) (fun q4 => ?_)
  ·
    refine hxa_iconst (by rfl) rfl ?_
    exact hxa_ireturn (by rfl) (by rfl) (hP _ _ ⟨rfl, _, rfl, by omega⟩)
  ·
    refine hxa_iconst (by rfl) rfl ?_
    refine hxa_goto (by rfl) ?_
    exact hxa_ireturn (by rfl) (by rfl) (hP _ _ ⟨rfl, _, rfl, by omega⟩)
theorem hX11 {d : Nat} {Bn Br : Int} {A0 A : hs_A} (hA : hJ 0 Bn Br A0 A)  {T : Nat} (hT : hTT T) (a1 : Int32) (p1 : 0 ≤ a1.toInt) (q1 : a1.toInt ≤ 3) (a2 : Int32) : hxC (d + 1) 11 hm_m11 [.ref (T + 5), .int a1, .int a2] A (fun r A' => A = A' ∧ ∃ z : Int32, r = some (.int z) ∧ ((0 ≤ z.toInt ∧ z.toInt ≤ 1))) := hxC.of (by rfl) (hY11 hA hT a1 p1 q1 a2 (fun r A' h => h))
theorem hY6 {d : Nat} {Bn Br : Int} {A0 A : hs_A} (hA : hJ 0 Bn Br A0 A)  (a1 : Int32) (p1 : 0 ≤ a1.toInt) (q1 : a1.toInt ≤ 255) (a2 : Int32) (p2 : 0 ≤ a2.toInt) (q2 : a2.toInt ≤ 8) {P : Option Value → hs_A → Prop} (hP : ∀ (r : Option Value) (A' : hs_A), (hJ 0 Bn Br A0 A' ∧ ∃ z : Int32, r = some (.int z) ∧ ((0 ≤ z.toInt ∧ z.toInt ≤ 255))) → P r A') : hxa (d + 1) (some (.int)) hm_t6 0 [.ref 324, .int a1, .int a2, .retAddr 0, .retAddr 0] [] A P := by
  have k0 := hk_0
  have k3 := hk_3
  have L84 : ∀ (m84 : Nat) (x84_3 : Int32) (x84_4 : Value) (Ac84 : hs_A) (hAc84 : hJ 0 Bn Br A0 Ac84) (bx84_3 : 0 ≤ x84_3.toInt) (cx84_3 : x84_3.toInt ≤ 8) (hm84 : 8 - x84_3.toInt < (m84 : Int)), hxa (d + 1) (some (.int)) hm_t6 84 [.ref 324, .int a1, .int a2, .int x84_3, x84_4] [] Ac84 P := by
    intro m84
    induction m84 with
    | zero => intro x84_3 x84_4 Ac84 hAc84 bx84_3 cx84_3 hm84;  exact False.elim (by omega)
    | succ m84 ih84 =>
      intro x84_3 x84_4 Ac84 hAc84 bx84_3 cx84_3 hm84
      refine hxa_iload_n (by rfl) rfl ?_
      refine hxa_bipush (by rfl) rfl ?_
      refine hxj_cge (by rfl) rfl hk_8 (fun q1 => ?_) (fun q1 => ?_)
      ·
        refine hxa_aload_n (by rfl) rfl ?_
        refine hxa_get (v := .ref 326) (by rfl) (by rfl) (by rfl) rfl ?_
        refine hxa_iload_n (by rfl) rfl ?_
        refine hxa_dup2IR (by rfl) ?_
        refine hxj_iald (by rfl) (by rfl) rfl (by omega) (by omega) (fun z2 ez2 => ?_)
        refine hxa_iload_n (by rfl) rfl ?_
        refine hxj_iorU (by rfl) (fun z3 => ?_)
        refine hxj_iast (by rfl) (by rfl) rfl (by omega) (by omega) hAc84 (hbokN (by rfl)) (by rfl) (by rfl) (fun A4 hA4 eA4 fA4 gA4 => ?_)
        refine hxa_iload_n (by rfl) rfl ?_
        refine hxa_aload_n (by rfl) rfl ?_
        refine hxa_get (v := .ref 327) (by rfl) (by rfl) (by rfl) rfl ?_
        refine hxa_iload_n (by rfl) rfl ?_
        refine hxj_iald (by rfl) (by rfl) rfl (by omega) (by omega) (fun z5 ez5 => ?_)
        refine hxj_iandL (by rfl) rfl (by omega) (fun z6 ez6 fz6 => ?_)
        exact hxa_ireturn (by rfl) rfl (hP _ _ ⟨hA4, _, rfl, by omega⟩)
      ·
        refine hxa_iconst (by rfl) rfl ?_
        refine hxa_iload_n (by rfl) rfl ?_
        refine hxj_ishl1 (by rfl) rfl rfl (by omega) (by omega) (fun z7 ez7 fz7 => ?_)
        refine hxa_s1 (by rfl) (Or.inr ⟨_, rfl, rfl⟩) rfl ?_
        refine hxa_iload_n (by rfl) rfl ?_
        refine hxa_iload (by rfl) rfl ?_
        refine hxj_iandR (by rfl) rfl (by omega) (fun z8 ez8 fz8 => ?_)
        refine hxa_aload_n (by rfl) rfl ?_
        refine hxa_get (v := .ref 326) (by rfl) (by rfl) (by rfl) rfl ?_
        refine hxa_iload_n (by rfl) rfl ?_
        refine hxj_iald (by rfl) (by rfl) rfl (by omega) (by omega) (fun z9 ez9 => ?_)
        refine hxa_iconst (by rfl) rfl ?_
        refine hxj_ixorU (by rfl) (fun z10 => ?_)
        refine hxj_iandL (by rfl) rfl (by omega) (fun z11 ez11 fz11 => ?_)
        refine hxj_zeq (by rfl) rfl (fun q12 => ?_) (fun q12 => ?_)
        ·
          refine hxj_iinc (by rfl) rfl rfl hk_1 (by omega) (by omega) (fun _ => rfl) (fun z13 ez13 => ?_)
          refine hxa_goto (by rfl) ?_
          exact ih84 z13 (.int z7) Ac84 hAc84 (by omega) (by omega) (by omega)
        ·
          refine hxa_aload_n (by rfl) rfl ?_
          obtain ⟨T14, hT14, eT14⟩ := hAc84.lawsT
          refine hxj_getT (by rfl) (by rfl) (by rfl) eT14 ?_
          refine hxa_iconst (by rfl) rfl ?_
          refine hxa_aload_n (by rfl) rfl ?_
          refine hxa_get (v := .ref 325) (by rfl) (by rfl) (by rfl) rfl ?_
          refine hxa_iload_n (by rfl) rfl ?_
          refine hxa_iload_n (by rfl) rfl ?_
          refine hxa_call0 (by rfl) (by rfl) (by rfl) (hsT4 hT14) (by rfl) (by rfl) (hX14 (d := d + 0) hAc84 hT14 (Int32.ofNat 0) (by omega) (by omega) x84_3 a2) ?_
          rintro _ A15 ⟨hA15, z16, rfl⟩
          refine hxj_zle (by rfl) rfl (fun q17 => ?_) (fun q17 => ?_)
          ·
            refine hxj_iinc (by rfl) rfl rfl hk_1 (by omega) (by omega) (fun _ => rfl) (fun z18 ez18 => ?_)
            refine hxa_goto (by rfl) ?_
            exact ih84 z18 (.int z7) A15 hA15 (by omega) (by omega) (by omega)
          ·
            refine hxa_aload_n (by rfl) rfl ?_
            refine hxa_get (v := .ref 327) (by rfl) (by rfl) (by rfl) rfl ?_
            refine hxa_iload_n (by rfl) rfl ?_
            refine hxa_dup2IR (by rfl) ?_
            refine hxj_iald (by rfl) (by rfl) rfl (by omega) (by omega) (fun z19 ez19 => ?_)
            refine hxa_iload (by rfl) rfl ?_
            refine hxj_iorU (by rfl) (fun z20 => ?_)
            refine hxj_iast (by rfl) (by rfl) rfl (by omega) (by omega) hA15 (hbokN (by rfl)) (by rfl) (by rfl) (fun A21 hA21 eA21 fA21 gA21 => ?_)
            refine hxj_iinc (by rfl) rfl rfl hk_1 (by omega) (by omega) (fun _ => rfl) (fun z22 ez22 => ?_)
            refine hxa_goto (by rfl) ?_
            exact ih84 z22 (.int z7) A21 hA21 (by omega) (by omega) (by omega)
  refine hxa_iload_n (by rfl) rfl ?_
  refine hxa_aload_n (by rfl) rfl ?_
  refine hxa_get (v := .ref 326) (by rfl) (by rfl) (by rfl) rfl ?_
  refine hxa_iload_n (by rfl) rfl ?_
  refine hxj_iald (by rfl) (by rfl) rfl (by omega) (by omega) (fun z23 ez23 => ?_)
  refine hxa_iconst (by rfl) rfl ?_
  refine hxj_ixorU (by rfl) (fun z24 => ?_)
  refine hxj_iandL (by rfl) rfl (by omega) (fun z25 ez25 fz25 => ?_)
  refine hxj_zne (by rfl) rfl (fun q26 => ?_) (fun q26 => ?_)
  ·
    refine hxa_aload_n (by rfl) rfl ?_
    obtain ⟨T27, hT27, eT27⟩ := hA.lawsT
    refine hxj_getT (by rfl) (by rfl) (by rfl) eT27 ?_
    refine hxa_iconst (by rfl) rfl ?_
    refine hxa_iconst (by rfl) rfl ?_
    refine hxa_call0 (by rfl) (by rfl) (by rfl) (hsT4 hT27) (by rfl) (by rfl) (hX11 (d := d + 0) hA hT27 (Int32.ofNat 0) (by omega) (by omega) (Int32.ofNat 3)) ?_
    rintro _ _ ⟨rfl, z28, rfl, fz28⟩
    refine hxj_zne (by rfl) rfl (fun q29 => ?_) (fun q29 => ?_)
    ·
      refine hxa_iconst (by rfl) rfl ?_
      refine hxa_s1 (by rfl) (Or.inl ⟨_, rfl, rfl⟩) rfl ?_
      exact L84 (Int.toNat (8 - 0) + 1) (Int32.ofNat 0) (.retAddr 0) A hA (by omega) (by omega) (by omega)
    ·
      refine hxa_aload_n (by rfl) rfl ?_
      refine hxa_get (v := .ref 326) (by rfl) (by rfl) (by rfl) rfl ?_
      refine hxa_iload_n (by rfl) rfl ?_
      refine hxa_sipush (by rfl) rfl ?_
      refine hxj_iast (by rfl) (by rfl) rfl (by omega) (by omega) hA (hbokN (by rfl)) (by rfl) (by rfl) (fun A30 hA30 eA30 fA30 gA30 => ?_)
      refine hxa_aload_n (by rfl) rfl ?_
      refine hxa_get (v := .ref 327) (by rfl) (by rfl) (by rfl) rfl ?_
      refine hxa_iload_n (by rfl) rfl ?_
      refine hxa_aload_n (by rfl) rfl ?_
      obtain ⟨T31, hT31, eT31⟩ := hA30.lawsT
      refine hxj_getT (by rfl) (by rfl) (by rfl) eT31 ?_
      refine hxa_iconst (by rfl) rfl ?_
      refine hxa_aload_n (by rfl) rfl ?_
      refine hxa_get (v := .ref 325) (by rfl) (by rfl) (by rfl) rfl ?_
      refine hxa_iconst (by rfl) rfl ?_
      refine hxa_iload_n (by rfl) rfl ?_
      refine hxa_call0 (by rfl) (by rfl) (by rfl) (hsT4 hT31) (by rfl) (by rfl) (hX14 (d := d + 0) hA30 hT31 (Int32.ofNat 0) (by omega) (by omega) (Int32.ofNat 0) a2) ?_
      rintro _ A32 ⟨hA32, z33, rfl⟩
      refine hxj_zle (by rfl) rfl (fun q34 => ?_) (fun q34 => ?_)
      ·
        refine hxa_iconst (by rfl) rfl ?_
        refine hxj_iast (by rfl) (by rfl) rfl (by omega) (by omega) hA32 (hbokN (by rfl)) (by rfl) (by rfl) (fun A35 hA35 eA35 fA35 gA35 => ?_)
        refine hxa_iload_n (by rfl) rfl ?_
        refine hxa_aload_n (by rfl) rfl ?_
        refine hxa_get (v := .ref 327) (by rfl) (by rfl) (by rfl) rfl ?_
        refine hxa_iload_n (by rfl) rfl ?_
        refine hxj_iald (by rfl) (by rfl) rfl (by omega) (by omega) (fun z36 ez36 => ?_)
        refine hxj_iandL (by rfl) rfl (by omega) (fun z37 ez37 fz37 => ?_)
        exact hxa_ireturn (by rfl) rfl (hP _ _ ⟨hA35, _, rfl, by omega⟩)
      ·
        refine hxa_sipush (by rfl) rfl ?_
        refine hxa_goto (by rfl) ?_
        refine hxj_iast (by rfl) (by rfl) rfl (by omega) (by omega) hA32 (hbokN (by rfl)) (by rfl) (by rfl) (fun A38 hA38 eA38 fA38 gA38 => ?_)
        refine hxa_iload_n (by rfl) rfl ?_
        refine hxa_aload_n (by rfl) rfl ?_
        refine hxa_get (v := .ref 327) (by rfl) (by rfl) (by rfl) rfl ?_
        refine hxa_iload_n (by rfl) rfl ?_
        refine hxj_iald (by rfl) (by rfl) rfl (by omega) (by omega) (fun z39 ez39 => ?_)
        refine hxj_iandL (by rfl) rfl (by omega) (fun z40 ez40 fz40 => ?_)
        exact hxa_ireturn (by rfl) rfl (hP _ _ ⟨hA38, _, rfl, by omega⟩)
  ·
    refine hxa_iload_n (by rfl) rfl ?_
    refine hxa_aload_n (by rfl) rfl ?_
    refine hxa_get (v := .ref 327) (by rfl) (by rfl) (by rfl) rfl ?_
    refine hxa_iload_n (by rfl) rfl ?_
    refine hxj_iald (by rfl) (by rfl) rfl (by omega) (by omega) (fun z41 ez41 => ?_)
    refine hxj_iandL (by rfl) rfl (by omega) (fun z42 ez42 fz42 => ?_)
    exact hxa_ireturn (by rfl) rfl (hP _ _ ⟨hA, _, rfl, by omega⟩)
theorem hX6 {d : Nat} {Bn Br : Int} {A0 A : hs_A} (hA : hJ 0 Bn Br A0 A)  (a1 : Int32) (p1 : 0 ≤ a1.toInt) (q1 : a1.toInt ≤ 255) (a2 : Int32) (p2 : 0 ≤ a2.toInt) (q2 : a2.toInt ≤ 8) : hxC (d + 2) 6 hm_m6 [.ref 324, .int a1, .int a2] A (fun r A' => hJ 0 Bn Br A0 A' ∧ ∃ z : Int32, r = some (.int z) ∧ ((0 ≤ z.toInt ∧ z.toInt ≤ 255))) := hxC.of (by rfl) (hY6 hA a1 p1 q1 a2 p2 q2 (fun r A' h => h))
theorem hY5 {d : Nat} {Bn Br : Int} {A0 A : hs_A} (hA : hJ 0 Bn Br A0 A)  (a1 : Int32) {P : Option Value → hs_A → Prop} (hP : ∀ (r : Option Value) (A' : hs_A), (hJ 0 Bn Br A0 A' ∧ ∃ z : Int32, r = some (.int z) ∧ ((0 ≤ z.toInt ∧ z.toInt ≤ 255))) → P r A') : hxa (d + 2) (some (.int)) hm_t5 0 [.ref 324, .int a1, .retAddr 0, .retAddr 0, .retAddr 0] [] A P := by
  refine hxa_iload_n (by rfl) rfl ?_
  refine hxa_sipush (by rfl) rfl ?_
  refine hxj_iandR (by rfl) hk_255 (by omega) (fun z1 ez1 fz1 => ?_)
  refine hxa_call2 (by rfl) (by decide) (by rfl) (by rfl) (by rfl) (hX242 (d := d + 1)  z1) ?_
  rintro _ _ ⟨rfl, z2, rfl, fz2⟩
  refine hxa_s1 (by rfl) (Or.inl ⟨_, rfl, rfl⟩) rfl ?_
  refine hxa_aload_n (by rfl) rfl ?_
  refine hxa_iload_n (by rfl) rfl ?_
  refine hxa_sipush (by rfl) rfl ?_
  refine hxj_iandR (by rfl) hk_255 (by omega) (fun z3 ez3 fz3 => ?_)
  refine hxa_iload_n (by rfl) rfl ?_
  refine hxa_call0 (by rfl) (by rfl) (by rfl) (by rfl) (by rfl) (by rfl) (hX6 (d := d + 0) hA z3 (by omega) (by omega) z2 (by omega) (by omega)) ?_
  rintro _ A4 ⟨hA4, z5, rfl, fz5⟩
  refine hxa_s1 (by rfl) (Or.inl ⟨_, rfl, rfl⟩) rfl ?_
  refine hxa_iload_n (by rfl) rfl ?_
  refine hxj_zeq (by rfl) rfl (fun q6 => ?_) (fun q6 => ?_)
  ·
    refine hxa_iload_n (by rfl) rfl ?_
    refine hxa_aload_n (by rfl) rfl ?_
    refine hxa_call0 (by rfl) (by rfl) (by rfl) (by rfl) (by rfl) (by rfl) (hX3 (d := d + 0) hA4 ) ?_
    rintro _ A7 ⟨hA7, z8, rfl, fz8⟩
    refine hxj_ior255 (by rfl) rfl rfl (by omega) (by omega) (by omega) (by omega) (fun z9 ez9 fz9 => ?_)
    exact hxa_ireturn (by rfl) rfl (hP _ _ ⟨hA7, _, rfl, by omega⟩)
  ·
    refine hxa_aload_n (by rfl) rfl ?_
    refine hxa_iload_n (by rfl) rfl ?_
    refine hxa_call0 (by rfl) (by rfl) (by rfl) (by rfl) (by rfl) (by rfl) (hX2 (d := d + 0) hA4 z2 (by omega) (by omega)) ?_
    rintro _ A10 ⟨hA10, z11, rfl⟩
    refine hxa_s1 (by rfl) (Or.inr ⟨_, rfl, rfl⟩) rfl ?_
    refine hxa_iload_n (by rfl) rfl ?_
    refine hxa_iload (by rfl) rfl ?_
    refine hxj_ishlU (by rfl) (fun z12 => ?_)
    refine hxa_iload_n (by rfl) rfl ?_
    refine hxa_bipush (by rfl) rfl ?_
    refine hxa_iload (by rfl) rfl ?_
    refine hxj_isubU (by rfl) (fun z13 => ?_)
    refine hxj_ishrU (by rfl) (fun z14 => ?_)
    refine hxj_iorU (by rfl) (fun z15 => ?_)
    refine hxa_sipush (by rfl) rfl ?_
    refine hxj_iandR (by rfl) hk_255 (by omega) (fun z16 ez16 fz16 => ?_)
    refine hxa_s1 (by rfl) (Or.inl ⟨_, rfl, rfl⟩) rfl ?_
    refine hxa_iload_n (by rfl) rfl ?_
    refine hxa_aload_n (by rfl) rfl ?_
    refine hxa_call0 (by rfl) (by rfl) (by rfl) (by rfl) (by rfl) (by rfl) (hX3 (d := d + 0) hA10 ) ?_
    rintro _ A17 ⟨hA17, z18, rfl, fz18⟩
    refine hxj_ior255 (by rfl) rfl rfl (by omega) (by omega) (by omega) (by omega) (fun z19 ez19 fz19 => ?_)
    exact hxa_ireturn (by rfl) rfl (hP _ _ ⟨hA17, _, rfl, by omega⟩)
theorem hX5 {d : Nat} {Bn Br : Int} {A0 A : hs_A} (hA : hJ 0 Bn Br A0 A)  (a1 : Int32) : hxC (d + 3) 5 hm_m5 [.ref 324, .int a1] A (fun r A' => hJ 0 Bn Br A0 A' ∧ ∃ z : Int32, r = some (.int z) ∧ ((0 ≤ z.toInt ∧ z.toInt ≤ 255))) := hxC.of (by rfl) (hY5 hA a1 (fun r A' h => h))
