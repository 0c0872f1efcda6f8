theorem hW37r {g d f : Nat} {A : hs_A} {B : Nat → Int} {n T : Nat} (hT : hTT T) (a1 : Int32) (hA : hcTp B n A) (h1 : a1.toInt = (n : Int)) (hn : n ≤ 2000) (hBr : ∀ i, i < n → B i ≤ 127) (hU : hcU A) {P : Option Value → hs_A → Prop} (hP : ∀ (r : Option Value) (A' : hs_A), (∃ z : Int32, r = some (.int z) ∧ hq_res (ht_K B n) (ht_W B n) (fun u => (ht_S B n u : Int)) (ht_E B n) z.toInt (A'.1 20 6).toInt ∧ hcU A' ∧ (z.toInt = 0 → hq_hs (ht_K B n) (ht_W B n) (ht_E B n) (A'.1 T 4).toInt (A'.1 T 5).toInt)) → P r A') : hpa (f, g) d (some (.int)) hm_t37 0 [.ref 21, .ref (T + 1), .ref 2, .int a1, .retAddr 0, .retAddr 0, .retAddr 0] [] A P := by
  have k0 := hk_0
  have k1 := hk_1
  have k2 := hk_2
  have k22 := hk_22
  have k400 := hk_400
  have k4294967295 := hk_4294967295
  have hT9 : T ≤ 11 := by rcases hT with rfl | rfl <;> omega
  have hT2 : 2 ≤ T := by rcases hT with rfl | rfl <;> omega
  have L52 : ∀ (f : Nat) (x52_4 : Int32) (x52_5 : Int32) (x52_6 : Value) (A52 : hs_A) (D52 : (x52_4.toInt = 1 ∧ ∃ (t a b c : Nat) (ns : List Nat) (nm sn : Nat) (o : Option (Nat × Nat)), x52_5.toInt ≤ (t : Int) ∧ hcB (ht_K B n) (ht_W B n) (fun u => (ht_S B n u : Int)) (ht_E B n) T A52 t (0, a, b, c, ns, nm, sn, o) ∧ hcR (fun u => (ht_S B n u : Int)) T A52 ns none sn o) ∨ (x52_4.toInt = 0 ∧ hcF (ht_K B n) (ht_W B n) (fun u => (ht_S B n u : Int)) (ht_E B n) T A52)) (lo52 : 0 ≤ x52_5.toInt), hpa (f, g) d (some (.int)) hm_t37 52 [.ref 21, .ref (T + 1), .ref 2, .int a1, .int x52_4, .int x52_5, x52_6] [] A52 P := by
    intro f
    induction f with
    | zero => intros; exact hpa.zero
    | succ f ih52 =>
      intro x52_4 x52_5 x52_6 A52 D52 lo52
      rcases D52 with ⟨fz0, t, a, b, c, ns, nm, sn, o, lt0, B1, R1⟩ | ⟨fz0, F1⟩
      ·
        have h401 := B1.at.1
        have hf0 := B1.2.2.2.2
        have hl0 := R1.2.2.2.2
        refine hpa_iloadS (by rfl) rfl ?_
        refine hpa_sipush (by rfl) rfl ?_
        refine hpj_cgt (by rfl) rfl hk_400 (fun q1 => False.elim (by omega)) (fun q1 => ?_)
        refine hpa_iload (by rfl) rfl ?_
        refine hpj_zeq (by rfl) rfl (fun q2 => False.elim (by omega)) (fun q2 => ?_)
        refine hpa_aload_n (by rfl) rfl ?_
        refine hpa_call0 (by rfl) (by rfl) (by rfl) (by rfl) (by rfl) (by rfl) (hP38 hT B1) ?_
        rintro _ _ ⟨rfl, z4, rfl, fz_A3⟩
        refine hpa_bipush (by rfl) rfl ?_
        refine hpj_ceq (by rfl) rfl hk_22 (fun q5 => ?_) (fun q5 => ?_)
        ·
          have hK22 : ht_K B n t = 22 := by omega
          refine hpa_aload_n (by rfl) rfl ?_
          refine hpj_getK (by rfl) (by rfl) (by rfl) rfl ?_
          refine hpj_zne (by rfl) rfl (fun q6 => False.elim (by omega)) (fun q6 => ?_)
          refine hpa_aload_n (by rfl) rfl ?_
          refine hpa_aload_n (by rfl) rfl ?_
          refine hpj_getK (by rfl) (by rfl) (by rfl) rfl ?_
          refine hpj_putI (by rfl) (by rfl) (by rfl) (by rfl) (fun A7 eA7 fA7 => ?_)
          refine hpa_aload_n (by rfl) rfl ?_
          refine hpa_aload_n (by rfl) rfl ?_
          refine hpj_getK (by rfl) (by rfl) (by rfl) (hkF eA7 (by first | decide | omega) rfl) ?_
          refine hpj_putI (by rfl) (by rfl) (by rfl) (by rfl) (fun A8 eA8 fA8 => ?_)
          refine hpa_aload_n (by rfl) rfl ?_
          refine hpj_getK (by rfl) (by rfl) (by rfl) (hkF eA8 (by first | decide | omega) (hkS eA7)) ?_
          exact hpa_ireturn (by rfl) rfl (hP _ _ ⟨_, rfl, by rw [show A8.1 20 6 = (A52.1 20 8) from (hkS eA8)]; exact hq_res.late B1.2.2.2.1 (hqd0_end hK22) hl0, B1.2.1.2.2.fr (by rw [fA8, fA7]), fun _ => ⟨_, _, B1.2.2.2.1, hqd0_end hK22, by rw [show A8.1 T 4 = (A52.1 T 4) from (hkF eA8 (by first | decide | omega) (hkF eA7 (by first | decide | omega) rfl))]; exact R1.1, by rw [show A8.1 T 5 = (A52.1 T 5) from (hkF eA8 (by first | decide | omega) (hkF eA7 (by first | decide | omega) rfl))]; exact R1.2.1⟩⟩)
        ·
          refine hpa_aload_n (by rfl) rfl ?_
          refine hpa_call0 (by rfl) (by rfl) (by rfl) (by rfl) (by rfl) (by rfl) (hP38 hT B1) ?_
          rintro _ _ ⟨rfl, z10, rfl, fz_A9⟩
          refine hpa_s1 (by rfl) (Or.inr ⟨_, rfl, rfl⟩) rfl ?_
          refine hpa_iload (by rfl) rfl ?_
          by_cases q11 : z10.toInt = 0
          ·
            refine hpa_tabIn (by rfl) (by omega) (by omega) (by rw [q11]; rfl) (tgt := 128) (by rfl) ?_
            refine hpa_aload_n (by rfl) rfl ?_
            refine hpa_call0 (by rfl) (by rfl) (by rfl) (by rfl) (by rfl) (by rfl) (hP45 hT B1 R1 (by omega)) ?_
            rintro _ A12 ⟨z13, rfl, (⟨fz_A12, OK_A12⟩ | ⟨fz_A12, F_A12⟩)⟩
            ·
              obtain ⟨t9, a9, b9, c9, ns9, nm9, sn9, o9, lt9, B9, R9⟩ := OK_A12
              refine hpa_s1 (by rfl) (Or.inr ⟨_, rfl, rfl⟩) rfl ?_
              refine hpa_goto (by rfl) ?_
              refine hpj_iinc (by rfl) rfl rfl hk_1 (by omega) (by omega) (fun _ => rfl) (fun z14 ez14 => ?_)
              refine hpa_goto (by rfl) ?_
              exact ih52 z13 z14 (.int z10) A12 (Or.inl ⟨fz_A12, _, _, _, _, _, _, _, _, by omega, B9, R9⟩) (by omega)
            ·
              refine hpa_s1 (by rfl) (Or.inr ⟨_, rfl, rfl⟩) rfl ?_
              refine hpa_goto (by rfl) ?_
              refine hpj_iinc (by rfl) rfl rfl hk_1 (by omega) (by omega) (fun _ => rfl) (fun z15 ez15 => ?_)
              refine hpa_goto (by rfl) ?_
              exact ih52 z13 z15 (.int z10) A12 (Or.inr ⟨fz_A12, F_A12⟩) (by omega)
          ·
            by_cases q16 : z10.toInt = 1
            ·
              refine hpa_tabIn (by rfl) (by omega) (by omega) (by rw [q16]; rfl) (tgt := 137) (by rfl) ?_
              refine hpa_aload_n (by rfl) rfl ?_
              refine hpa_call0 (by rfl) (by rfl) (by rfl) (by rfl) (by rfl) (by rfl) (hP46 hT B1 R1 (by omega)) ?_
              rintro _ A17 ⟨z18, rfl, (⟨fz_A17, OK_A17⟩ | ⟨fz_A17, F_A17⟩)⟩
              ·
                obtain ⟨t9, a9, b9, c9, ns9, nm9, sn9, o9, lt9, B9, R9⟩ := OK_A17
                refine hpa_s1 (by rfl) (Or.inr ⟨_, rfl, rfl⟩) rfl ?_
                refine hpa_goto (by rfl) ?_
                refine hpj_iinc (by rfl) rfl rfl hk_1 (by omega) (by omega) (fun _ => rfl) (fun z19 ez19 => ?_)
                refine hpa_goto (by rfl) ?_
                exact ih52 z18 z19 (.int z10) A17 (Or.inl ⟨fz_A17, _, _, _, _, _, _, _, _, by omega, B9, R9⟩) (by omega)
              ·
                refine hpa_s1 (by rfl) (Or.inr ⟨_, rfl, rfl⟩) rfl ?_
                refine hpa_goto (by rfl) ?_
                refine hpj_iinc (by rfl) rfl rfl hk_1 (by omega) (by omega) (fun _ => rfl) (fun z20 ez20 => ?_)
                refine hpa_goto (by rfl) ?_
                exact ih52 z18 z20 (.int z10) A17 (Or.inr ⟨fz_A17, F_A17⟩) (by omega)
            ·
              by_cases q21 : z10.toInt = 2
              ·
                refine hpa_tabIn (by rfl) (by omega) (by omega) (by rw [q21]; rfl) (tgt := 146) (by rfl) ?_
                refine hpa_aload_n (by rfl) rfl ?_
                refine hpa_iload (by rfl) rfl ?_
                refine hpa_iconst (by rfl) rfl ?_
                refine hpj_isub (by rfl) rfl hk_2 (by omega) (by omega) (fun z22 ez22 => ?_)
                refine hpa_call0 (by rfl) (by rfl) (by rfl) (by rfl) (by rfl) (by rfl) (hP49 hT z22 B1 R1 (by omega)) ?_
                rintro _ A23 ⟨z24, rfl, (⟨fz_A23, OK_A23⟩ | ⟨fz_A23, F_A23⟩)⟩
                ·
                  obtain ⟨t9, a9, b9, c9, ns9, nm9, sn9, o9, lt9, B9, R9⟩ := OK_A23
                  refine hpa_s1 (by rfl) (Or.inr ⟨_, rfl, rfl⟩) rfl ?_
                  refine hpa_goto (by rfl) ?_
                  refine hpj_iinc (by rfl) rfl rfl hk_1 (by omega) (by omega) (fun _ => rfl) (fun z25 ez25 => ?_)
                  refine hpa_goto (by rfl) ?_
                  exact ih52 z24 z25 (.int z10) A23 (Or.inl ⟨fz_A23, _, _, _, _, _, _, _, _, by omega, B9, R9⟩) (by omega)
                ·
                  refine hpa_s1 (by rfl) (Or.inr ⟨_, rfl, rfl⟩) rfl ?_
                  refine hpa_goto (by rfl) ?_
                  refine hpj_iinc (by rfl) rfl rfl hk_1 (by omega) (by omega) (fun _ => rfl) (fun z26 ez26 => ?_)
                  refine hpa_goto (by rfl) ?_
                  exact ih52 z24 z26 (.int z10) A23 (Or.inr ⟨fz_A23, F_A23⟩) (by omega)
              ·
                by_cases q27 : z10.toInt = 3
                ·
                  refine hpa_tabIn (by rfl) (by omega) (by omega) (by rw [q27]; rfl) (tgt := 146) (by rfl) ?_
                  refine hpa_aload_n (by rfl) rfl ?_
                  refine hpa_iload (by rfl) rfl ?_
                  refine hpa_iconst (by rfl) rfl ?_
                  refine hpj_isub (by rfl) rfl hk_2 (by omega) (by omega) (fun z28 ez28 => ?_)
                  refine hpa_call0 (by rfl) (by rfl) (by rfl) (by rfl) (by rfl) (by rfl) (hP49 hT z28 B1 R1 (by omega)) ?_
                  rintro _ A29 ⟨z30, rfl, (⟨fz_A29, OK_A29⟩ | ⟨fz_A29, F_A29⟩)⟩
                  ·
                    obtain ⟨t9, a9, b9, c9, ns9, nm9, sn9, o9, lt9, B9, R9⟩ := OK_A29
                    refine hpa_s1 (by rfl) (Or.inr ⟨_, rfl, rfl⟩) rfl ?_
                    refine hpa_goto (by rfl) ?_
                    refine hpj_iinc (by rfl) rfl rfl hk_1 (by omega) (by omega) (fun _ => rfl) (fun z31 ez31 => ?_)
                    refine hpa_goto (by rfl) ?_
                    exact ih52 z30 z31 (.int z10) A29 (Or.inl ⟨fz_A29, _, _, _, _, _, _, _, _, by omega, B9, R9⟩) (by omega)
                  ·
                    refine hpa_s1 (by rfl) (Or.inr ⟨_, rfl, rfl⟩) rfl ?_
                    refine hpa_goto (by rfl) ?_
                    refine hpj_iinc (by rfl) rfl rfl hk_1 (by omega) (by omega) (fun _ => rfl) (fun z32 ez32 => ?_)
                    refine hpa_goto (by rfl) ?_
                    exact ih52 z30 z32 (.int z10) A29 (Or.inr ⟨fz_A29, F_A29⟩) (by omega)
                ·
                  by_cases q33 : z10.toInt = 4
                  ·
                    refine hpa_tabIn (by rfl) (by omega) (by omega) (by rw [q33]; rfl) (tgt := 146) (by rfl) ?_
                    refine hpa_aload_n (by rfl) rfl ?_
                    refine hpa_iload (by rfl) rfl ?_
                    refine hpa_iconst (by rfl) rfl ?_
                    refine hpj_isub (by rfl) rfl hk_2 (by omega) (by omega) (fun z34 ez34 => ?_)
                    refine hpa_call0 (by rfl) (by rfl) (by rfl) (by rfl) (by rfl) (by rfl) (hP49 hT z34 B1 R1 (by omega)) ?_
                    rintro _ A35 ⟨z36, rfl, (⟨fz_A35, OK_A35⟩ | ⟨fz_A35, F_A35⟩)⟩
                    ·
                      obtain ⟨t9, a9, b9, c9, ns9, nm9, sn9, o9, lt9, B9, R9⟩ := OK_A35
                      refine hpa_s1 (by rfl) (Or.inr ⟨_, rfl, rfl⟩) rfl ?_
                      refine hpa_goto (by rfl) ?_
                      refine hpj_iinc (by rfl) rfl rfl hk_1 (by omega) (by omega) (fun _ => rfl) (fun z37 ez37 => ?_)
                      refine hpa_goto (by rfl) ?_
                      exact ih52 z36 z37 (.int z10) A35 (Or.inl ⟨fz_A35, _, _, _, _, _, _, _, _, by omega, B9, R9⟩) (by omega)
                    ·
                      refine hpa_s1 (by rfl) (Or.inr ⟨_, rfl, rfl⟩) rfl ?_
                      refine hpa_goto (by rfl) ?_
                      refine hpj_iinc (by rfl) rfl rfl hk_1 (by omega) (by omega) (fun _ => rfl) (fun z38 ez38 => ?_)
                      refine hpa_goto (by rfl) ?_
                      exact ih52 z36 z38 (.int z10) A35 (Or.inr ⟨fz_A35, F_A35⟩) (by omega)
                  ·
                    by_cases q39 : z10.toInt = 5
                    ·
                      refine hpa_tabIn (by rfl) (by omega) (by omega) (by rw [q39]; rfl) (tgt := 146) (by rfl) ?_
                      refine hpa_aload_n (by rfl) rfl ?_
                      refine hpa_iload (by rfl) rfl ?_
                      refine hpa_iconst (by rfl) rfl ?_
                      refine hpj_isub (by rfl) rfl hk_2 (by omega) (by omega) (fun z40 ez40 => ?_)
                      refine hpa_call0 (by rfl) (by rfl) (by rfl) (by rfl) (by rfl) (by rfl) (hP49 hT z40 B1 R1 (by omega)) ?_
                      rintro _ A41 ⟨z42, rfl, (⟨fz_A41, OK_A41⟩ | ⟨fz_A41, F_A41⟩)⟩
                      ·
                        obtain ⟨t9, a9, b9, c9, ns9, nm9, sn9, o9, lt9, B9, R9⟩ := OK_A41
                        refine hpa_s1 (by rfl) (Or.inr ⟨_, rfl, rfl⟩) rfl ?_
                        refine hpa_goto (by rfl) ?_
                        refine hpj_iinc (by rfl) rfl rfl hk_1 (by omega) (by omega) (fun _ => rfl) (fun z43 ez43 => ?_)
                        refine hpa_goto (by rfl) ?_
                        exact ih52 z42 z43 (.int z10) A41 (Or.inl ⟨fz_A41, _, _, _, _, _, _, _, _, by omega, B9, R9⟩) (by omega)
                      ·
                        refine hpa_s1 (by rfl) (Or.inr ⟨_, rfl, rfl⟩) rfl ?_
                        refine hpa_goto (by rfl) ?_
                        refine hpj_iinc (by rfl) rfl rfl hk_1 (by omega) (by omega) (fun _ => rfl) (fun z44 ez44 => ?_)
                        refine hpa_goto (by rfl) ?_
                        exact ih52 z42 z44 (.int z10) A41 (Or.inr ⟨fz_A41, F_A41⟩) (by omega)
                    ·
                      by_cases q45 : z10.toInt = 6
                      ·
                        refine hpa_tabIn (by rfl) (by omega) (by omega) (by rw [q45]; rfl) (tgt := 159) (by rfl) ?_
                        refine hpa_aload_n (by rfl) rfl ?_
                        refine hpa_call0 (by rfl) (by rfl) (by rfl) (by rfl) (by rfl) (by rfl) (hP47 hT B1 R1 (by omega)) ?_
                        rintro _ A46 ⟨z47, rfl, (⟨fz_A46, OK_A46⟩ | ⟨fz_A46, F_A46⟩)⟩
                        ·
                          obtain ⟨t9, a9, b9, c9, ns9, nm9, sn9, o9, lt9, B9, R9⟩ := OK_A46
                          refine hpa_s1 (by rfl) (Or.inr ⟨_, rfl, rfl⟩) rfl ?_
                          refine hpa_goto (by rfl) ?_
                          refine hpj_iinc (by rfl) rfl rfl hk_1 (by omega) (by omega) (fun _ => rfl) (fun z48 ez48 => ?_)
                          refine hpa_goto (by rfl) ?_
                          exact ih52 z47 z48 (.int z10) A46 (Or.inl ⟨fz_A46, _, _, _, _, _, _, _, _, by omega, B9, R9⟩) (by omega)
                        ·
                          refine hpa_s1 (by rfl) (Or.inr ⟨_, rfl, rfl⟩) rfl ?_
                          refine hpa_goto (by rfl) ?_
                          refine hpj_iinc (by rfl) rfl rfl hk_1 (by omega) (by omega) (fun _ => rfl) (fun z49 ez49 => ?_)
                          refine hpa_goto (by rfl) ?_
                          exact ih52 z47 z49 (.int z10) A46 (Or.inr ⟨fz_A46, F_A46⟩) (by omega)
                      ·
                        by_cases q50 : z10.toInt = 7
                        ·
                          refine hpa_tabIn (by rfl) (by omega) (by omega) (by rw [q50]; rfl) (tgt := 168) (by rfl) ?_
                          refine hpa_aload_n (by rfl) rfl ?_
                          refine hpa_call0 (by rfl) (by rfl) (by rfl) (by rfl) (by rfl) (by rfl) (hP48 hT B1 R1 (by omega)) ?_
                          rintro _ A51 ⟨z52, rfl, (⟨fz_A51, OK_A51⟩ | ⟨fz_A51, F_A51⟩)⟩
                          ·
                            obtain ⟨t9, a9, b9, c9, ns9, nm9, sn9, o9, lt9, B9, R9⟩ := OK_A51
                            refine hpa_s1 (by rfl) (Or.inr ⟨_, rfl, rfl⟩) rfl ?_
                            refine hpa_goto (by rfl) ?_
                            refine hpj_iinc (by rfl) rfl rfl hk_1 (by omega) (by omega) (fun _ => rfl) (fun z53 ez53 => ?_)
                            refine hpa_goto (by rfl) ?_
                            exact ih52 z52 z53 (.int z10) A51 (Or.inl ⟨fz_A51, _, _, _, _, _, _, _, _, by omega, B9, R9⟩) (by omega)
                          ·
                            refine hpa_s1 (by rfl) (Or.inr ⟨_, rfl, rfl⟩) rfl ?_
                            refine hpa_goto (by rfl) ?_
                            refine hpj_iinc (by rfl) rfl rfl hk_1 (by omega) (by omega) (fun _ => rfl) (fun z54 ez54 => ?_)
                            refine hpa_goto (by rfl) ?_
                            exact ih52 z52 z54 (.int z10) A51 (Or.inr ⟨fz_A51, F_A51⟩) (by omega)
                        ·
                          refine hpa_tabOut (by rfl) (by omega) (tgt := 177) (by rfl) ?_
                          refine hpa_aload_n (by rfl) rfl ?_
                          refine hpa_iconst (by rfl) rfl ?_
                          refine hpa_call0 (by rfl) (by rfl) (by rfl) (by rfl) (by rfl) (by rfl) (hP39 hT (Int32.ofNat 1) B1 ⟨_, B1.2.2.2.1, hqd0_else (by omega) (by omega)⟩ (by decide) hk_1) ?_
                          rintro _ A55 ⟨z56, rfl, fz_A55, F_A55⟩
                          refine hpa_s1 (by rfl) (Or.inr ⟨_, rfl, rfl⟩) rfl ?_
                          refine hpj_iinc (by rfl) rfl rfl hk_1 (by omega) (by omega) (fun _ => rfl) (fun z57 ez57 => ?_)
                          refine hpa_goto (by rfl) ?_
                          exact ih52 z56 z57 (.int z10) A55 (Or.inr ⟨fz_A55, F_A55⟩) (by omega)
      ·
        obtain ⟨frf, fU, ft, fk, fq, fk0, fv, fp⟩ := id F1
        refine hpa_iloadS (by rfl) rfl ?_
        refine hpa_sipush (by rfl) rfl ?_
        refine hpj_cgt (by rfl) rfl hk_400 (fun q58 => ?_) (fun q58 => ?_)
        ·
          refine hpa_aload_n (by rfl) rfl ?_
          refine hpj_getK (by rfl) (by rfl) (by rfl) rfl ?_
          refine hpj_zne (by rfl) rfl (fun q59 => ?_) (fun q59 => False.elim (by omega))
          refine hpa_aload_n (by rfl) rfl ?_
          refine hpj_getK (by rfl) (by rfl) (by rfl) rfl ?_
          exact hpa_ireturn (by rfl) rfl (hP _ _ ⟨_, rfl, Or.inl ⟨ft, fk, fq, fk0, fv, fp⟩, fU, fun q => False.elim (by omega)⟩)
        ·
          refine hpa_iload (by rfl) rfl ?_
          refine hpj_zeq (by rfl) rfl (fun q60 => ?_) (fun q60 => False.elim (by omega))
          refine hpa_aload_n (by rfl) rfl ?_
          refine hpj_getK (by rfl) (by rfl) (by rfl) rfl ?_
          refine hpj_zne (by rfl) rfl (fun q61 => ?_) (fun q61 => False.elim (by omega))
          refine hpa_aload_n (by rfl) rfl ?_
          refine hpj_getK (by rfl) (by rfl) (by rfl) rfl ?_
          exact hpa_ireturn (by rfl) rfl (hP _ _ ⟨_, rfl, Or.inl ⟨ft, fk, fq, fk0, fv, fp⟩, fU, fun q => False.elim (by omega)⟩)
  refine hpa_aload_n (by rfl) rfl ?_
  refine hpa_aload_n (by rfl) rfl ?_
  refine hpj_putR (i := 20) (by rfl) (by rfl) (by rfl) (by rfl) (fun A1 eA1 fA1 gA1 iA1 => ?_)
  have hrf : A1.2.2.2 20 2 = T + 1 ∧ True := ⟨by rw [iA1]; simp [hs_upN], trivial⟩
  refine hpa_aload_n (by rfl) rfl ?_
  refine hpj_getT (by rfl) (by rfl) (by rfl) hrf.1 ?_
  refine hpa_call0 (by rfl) (by rfl) (by rfl) (hsT hT) (by rfl) (by rfl) (hP54 hT) ?_
  rintro _ A62 ⟨rfl, Z_A62, h4_A62, h5_A62⟩
  have hA2 : hcTp B n A62 := fun i hi => by rw [Z_A62.2.1 1 (by omega), fA1]; exact hA i hi
  have hU2 : hcU A62 := hU.fr (by rw [Z_A62.2.2, gA1])
  have hrf2 : A62.2.2.2 20 2 = T + 1 := by rw [Z_A62.2.2]; exact hrf.1
  refine hpa_aload_n (by rfl) rfl ?_
  refine hpa_get (v := .ref 22) (by rfl) (by rfl) (by rfl) rfl ?_
  refine hpa_aload_n (by rfl) rfl ?_
  refine hpa_iload_n (by rfl) rfl ?_
  refine hpa_call0 (by rfl) (by rfl) (by rfl) (by rfl) (by rfl) (by rfl) (hP58 a1 hA2 h1 hn hBr hU2) ?_
  rintro _ A63 ⟨rfl, C_A63, TE_A63⟩
  refine hpa_aload_n (by rfl) rfl ?_
  refine hpa_iconst (by rfl) rfl ?_
  refine hpj_putI (by rfl) (by rfl) (by rfl) (by rfl) (fun A64 eA64 fA64 => ?_)
  refine hpa_aload_n (by rfl) rfl ?_
  refine hpa_iconst (by rfl) rfl ?_
  refine hpj_putI (by rfl) (by rfl) (by rfl) (by rfl) (fun A65 eA65 fA65 => ?_)
  refine hpa_aload_n (by rfl) rfl ?_
  refine hpa_iconst (by rfl) rfl ?_
  refine hpj_putI (by rfl) (by rfl) (by rfl) (by rfl) (fun A66 eA66 fA66 => ?_)
  refine hpa_aload_n (by rfl) rfl ?_
  refine hpa_iconst (by rfl) rfl ?_
  refine hpj_putI (by rfl) (by rfl) (by rfl) (by rfl) (fun A67 eA67 fA67 => ?_)
  refine hpa_aload_n (by rfl) rfl ?_
  refine hpa_iconst (by rfl) rfl ?_
  refine hpj_putI (by rfl) (by rfl) (by rfl) (by rfl) (fun A68 eA68 fA68 => ?_)
  obtain ⟨B0, R0⟩ := hc_init hT9 hrf2 h4_A62 h5_A62 C_A63 TE_A63 eA64 fA64 eA65 fA65 eA66 fA66 eA67 fA67 eA68 fA68
  refine hpa_iconst (by rfl) rfl ?_
  refine hpa_s1 (by rfl) (Or.inr ⟨_, rfl, rfl⟩) rfl ?_
  refine hpa_iconst (by rfl) rfl ?_
  refine hpa_s1 (by rfl) (Or.inr ⟨_, rfl, rfl⟩) rfl ?_
  exact L52 _ (Int32.ofNat 1) (Int32.ofNat 0) (.retAddr 0) A68 (Or.inl ⟨hk_1, _, _, _, _, _, _, _, _, by omega, B0, R0⟩) (by omega)
theorem hP37r {g d : Nat} {A : hs_A} {B : Nat → Int} {n T : Nat} (hT : hTT T) (a1 : Int32) (hA : hcTp B n A) (h1 : a1.toInt = (n : Int)) (hn : n ≤ 2000) (hBr : ∀ i, i < n → B i ≤ 127) (hU : hcU A) : hpC g d 37 hm_m37 [.ref 21, .ref (T + 1), .ref 2, .int a1] A (fun r A' => ∃ z : Int32, r = some (.int z) ∧ hq_res (ht_K B n) (ht_W B n) (fun u => (ht_S B n u : Int)) (ht_E B n) z.toInt (A'.1 20 6).toInt ∧ hcU A' ∧ (z.toInt = 0 → hq_hs (ht_K B n) (ht_W B n) (ht_E B n) (A'.1 T 4).toInt (A'.1 T 5).toInt)) := hpC.all (fun f d => hW37r hT a1 hA h1 hn hBr hU (fun r A' h => h))
theorem hY74q41 {d : Nat} {N : Int} {A : hs_A} (hA : hJ 0 N (N + 72) A A) (h3 : A.2.2.2 0 3 = 12) (h4 : A.2.2.2 0 4 = 3) (hp : hPg A 5)  {P : Option Value → hs_A → Prop} (hP : ∀ (r : Option Value) (A' : hs_A), (hJ 0 (N + 72) (N + 144) A' A' ∧ r = none ∧ (A'.1 0 1 = A.1 0 1 ∧ A'.1 367 2 = A.1 367 2 ∧ A'.1 0 2 = A.1 0 2 ∧ A'.2.2.1 = A.2.2.1 ∧ (∀ j, A'.2.1 368 j = A.2.1 368 j) ∧ A'.2.2.2 0 3 = 3 ∧ A'.1 340 2 = Int32.ofNat 0 ∧ A'.1 0 10 = Int32.ofNat 0 ∧ A'.1 40 2 = Int32.ofNat 0 ∧ A'.1 2 4 = A.1 2 4 ∧ A'.1 2 5 = A.1 2 5)) → P r A') : hxa (d + 1) none hm_t74 0 [.ref 1, .retAddr 0] [] A P := by
  obtain ⟨T0, hT0, -, eT0⟩ := hA.T
  refine hxa_aload_n (by rfl) rfl ?_
  refine hxj_getT (by rfl) (by rfl) (by rfl) h3 ?_
  refine hxa_astore_n (by rfl) rfl ?_
  refine hxa_aload_n (by rfl) rfl ?_
  refine hxa_aload_n (by rfl) rfl ?_
  refine hxj_getT (by rfl) (by rfl) (by rfl) h4 ?_
  refine hxa_putR (i := 0) (by rfl) (by rfl) (by rfl) (by rfl) ?_
  refine hxa_aload_n (by rfl) rfl ?_
  refine hxa_aload_n (by rfl) rfl ?_
  refine hxa_putR (i := 0) (by rfl) (by rfl) (by rfl) (by rfl) ?_
  have hsw := hJ.swap1 hA h3 h4 hp
  obtain ⟨W5, eW5⟩ : ∃ W : hs_A, W = (A.1, A.2.1, A.2.2.1, hs_upN (hs_upN A.2.2.2 0 3 3) 0 4 12) := ⟨_, rfl⟩
  rw [← eW5] at hsw
  have w03 : W5.2.2.2 0 3 = 3 := by rw [eW5]; simp [hs_upN]
  have w1 : W5.1 = A.1 := by rw [eW5]
  show hxa _ _ _ _ _ _ (A.1, A.2.1, A.2.2.1, hs_upN (hs_upN A.2.2.2 0 3 3) 0 4 12) _
  rw [← eW5]
  obtain ⟨T5, hT5, eT5⟩ : ∃ T, hTT T ∧ W5.2.2.2 0 3 = T + 1 := ⟨2, Or.inl rfl, w03⟩
  refine hxa_aload_n (by rfl) rfl ?_
  refine hxa_get (v := .ref 27) (by rfl) (by rfl) (by rfl) rfl ?_
  refine hxa_aload_n (by rfl) rfl ?_
  refine hxj_getT (by rfl) (by rfl) (by rfl) eT5 ?_
  refine hxa_call0 (by rfl) (by rfl) (by rfl) (by rfl) (by rfl) (by rfl) (hX16 (d := d + 0) hsw hL26 hT5 eT5) ?_
  rintro _ A1 ⟨hA1, rfl⟩
  refine hxa_aload_n (by rfl) rfl ?_
  refine hxa_get (v := .ref 41) (by rfl) (by rfl) (by rfl) rfl ?_
  refine hxa_iconst (by rfl) rfl ?_
  refine hxj_putI (by rfl) (by rfl) (by rfl) (by rfl) hA1 (hbok (by rfl) hk_0 (by omega) (by omega)) (by rfl) (by rfl) (fun A2 hA2 eA2 fA2 => ?_)
  refine hxa_aload_n (by rfl) rfl ?_
  refine hxa_get (v := .ref 341) (by rfl) (by rfl) (by rfl) rfl ?_
  refine hxa_iconst (by rfl) rfl ?_
  refine hxj_putI (by rfl) (by rfl) (by rfl) (by rfl) hA2 (hbok (by rfl) hk_0 (by omega) (by omega)) (by rfl) (by rfl) (fun A3 hA3 eA3 fA3 => ?_)
  refine hxa_aload_n (by rfl) rfl ?_
  refine hxa_iconst (by rfl) rfl ?_
  refine hxj_putI (by rfl) (by rfl) (by rfl) (by rfl) hA3 (hbokN (by rfl)) (by rfl) (by rfl) (fun A4 hA4 eA4 fA4 => ?_)
  refine hxa_aload_n (by rfl) rfl ?_
  refine hxa_get (v := .ref 329) (by rfl) (by rfl) (by rfl) rfl ?_
  refine hxa_iconst (by rfl) rfl ?_
  refine hxj_putI (by rfl) (by rfl) (by rfl) (by rfl) hA4 (hbok (by rfl) hk_0 (by omega) (by omega)) (by rfl) (by rfl) (fun A5 hA5 eA5 fA5 => ?_)
  exact hxa_return (by rfl) rfl (hP _ _ ⟨(hJ.mono (hJ.self hA5) (by omega) (by omega)), rfl, ⟨(hA5.2.2.1.1 0 1 (by rfl)).trans (congrFun (congrFun w1 0) 1), (hA5.2.2.1.1 367 2 (by rfl)).trans (congrFun (congrFun w1 367) 2), (hA5.2.2.1.1 0 2 (by rfl)).trans (congrFun (congrFun w1 0) 2), (hA5.2.2.1.2.2.1 rfl).trans (by rw [eW5]), fun j => (hA5.2.2.1.2.1 368 (by rfl) j).trans (by rw [eW5]), (hA5.2.2.1.2.2.2 0 3 (by rfl)).trans w03, hkF eA5 (by first | decide | omega) (hkF eA4 (by first | decide | omega) (hkS eA3)), hkF eA5 (by first | decide | omega) (hkS eA4), hkF eA5 (by first | decide | omega) (hkF eA4 (by first | decide | omega) (hkF eA3 (by first | decide | omega) (hkS eA2))), (hA5.2.2.1.1 2 4 (by rfl)).trans (congrFun (congrFun w1 2) 4), (hA5.2.2.1.1 2 5 (by rfl)).trans (congrFun (congrFun w1 2) 5)⟩⟩)
theorem hX74q41 {d : Nat} {N : Int} {A : hs_A} (hA : hJ 0 N (N + 72) A A) (h3 : A.2.2.2 0 3 = 12) (h4 : A.2.2.2 0 4 = 3) (hp : hPg A 5)  : hxC (d + 2) 74 hm_m74 [.ref 1] A (fun r A' => hJ 0 (N + 72) (N + 144) A' A' ∧ r = none ∧ (A'.1 0 1 = A.1 0 1 ∧ A'.1 367 2 = A.1 367 2 ∧ A'.1 0 2 = A.1 0 2 ∧ A'.2.2.1 = A.2.2.1 ∧ (∀ j, A'.2.1 368 j = A.2.1 368 j) ∧ A'.2.2.2 0 3 = 3 ∧ A'.1 340 2 = Int32.ofNat 0 ∧ A'.1 0 10 = Int32.ofNat 0 ∧ A'.1 40 2 = Int32.ofNat 0 ∧ A'.1 2 4 = A.1 2 4 ∧ A'.1 2 5 = A.1 2 5)) := hxC.of (by rfl) (hY74q41 hA h3 h4 hp (fun r A' h => h))
theorem hY73q41 {d : Nat} {N : Int} {A : hs_A} (hA : hJ 0 N (N + 72) A A) (h3 : A.2.2.2 0 3 = 12) (h4 : A.2.2.2 0 4 = 3) {B : Nat → Int} {n : Nat} (hTp : hcTp B n A) (h1 : (A.1 0 1).toInt = (n : Int)) (hBr : ∀ i, i < n → -128 ≤ B i ∧ B i ≤ 127) (hU : hcU A)  {P : Option Value → hs_A → Prop} (hP : ∀ (r : Option Value) (A' : hs_A), (hJ 0 (N + 72) (N + 144) A' A' ∧ ∃ z : Int32, r = some (.int z) ∧ ((A'.1 0 1).toInt = 0 ∧ A'.1 367 2 = A.1 367 2 ∧ hq_res (ht_K B n) (ht_W B n) (fun u => (ht_S B n u : Int)) (ht_E B n) z.toInt (A'.1 0 2).toInt ∧ hcU A' ∧ (∀ j, A'.2.1 368 j = A.2.1 368 j) ∧ (z.toInt = 0 → A'.2.2.2 0 3 = 3 ∧ hq_hs (ht_K B n) (ht_W B n) (ht_E B n) (A'.1 2 4).toInt (A'.1 2 5).toInt ∧ A'.1 340 2 = Int32.ofNat 0 ∧ A'.1 0 10 = Int32.ofNat 0 ∧ A'.1 40 2 = Int32.ofNat 0) ∧ (¬ z.toInt = 0 → A'.2.2.2 0 3 = 12 ∧ A'.1 11 4 = A.1 11 4 ∧ A'.1 11 5 = A.1 11 5 ∧ A'.1 340 2 = A.1 340 2 ∧ A'.1 0 10 = A.1 0 10 ∧ A'.1 40 2 = A.1 40 2))) → P r A') : hxa (d + 25) (some (.int)) hm_t73 0 [.ref 1, .retAddr 0] [] A P := by
  refine hxa_aload_n (by rfl) rfl ?_
  refine hxa_get (v := .ref 21) (by rfl) (by rfl) (by rfl) rfl ?_
  refine hxa_aload_n (by rfl) rfl ?_
  refine hxj_getT (by rfl) (by rfl) (by rfl) h4 ?_
  refine hxa_aload_n (by rfl) rfl ?_
  refine hxa_get (v := .ref 2) (by rfl) (by rfl) (by rfl) rfl ?_
  refine hxa_aload_n (by rfl) rfl ?_
  refine hxj_getB (by rfl) (by rfl) (by rfl) hA (by rfl) (fun z1 ez1 fz1 gz1 => ?_)
  have h1z : z1.toInt = (n : Int) := by rw [← ez1]; exact h1
  refine hxa_call0 (by rfl) (by rfl) (by rfl) (by rfl) (by rfl) (by rfl) (hxC.and (g := 0) (hX37q1 (d := d + 0) hA z1 (by omega) (by omega)) (fun g => hP37r (T := 2) (Or.inl rfl) z1 hTp h1z (by omega) (fun i hi => (hBr i hi).2) hU)) ?_
  rintro _ A2 ⟨⟨hA2, z3, rfl, fz3⟩, A2v, hvis, z3v, ez3v, RS, hU2, HS⟩
  have ezz : z3v = z3 := by injection ez3v with e; injection e with e; exact e.symm
  rw [ezz] at RS HS
  have HS2 : z3.toInt = 0 → hq_hs (ht_K B n) (ht_W B n) (ht_E B n) (A2.1 2 4).toInt (A2.1 2 5).toInt := fun q => by rw [← hvis.f (i := 2) (k := 4) (by rfl) (by rfl), ← hvis.f (i := 2) (k := 5) (by rfl) (by rfl)]; exact HS q
  have RS2 : hq_res (ht_K B n) (ht_W B n) (fun u => (ht_S B n u : Int)) (ht_E B n) z3.toInt (A2.1 20 6).toInt := by rw [← hvis.f (i := 20) (k := 6) (by rfl) (by rfl)]; exact RS
  have hU3 : hcU A2 := hvis.U hU2
  have hen := hJ.end1 hA2 h3 h4
  have h10 := hJ.to10 hen.1
  refine hxa_s1 (by rfl) (Or.inl ⟨_, rfl, rfl⟩) rfl ?_
  refine hxa_aload_n (by rfl) rfl ?_
  refine hxa_iconst (by rfl) rfl ?_
  refine hxj_putI (by rfl) (by rfl) (by rfl) (by rfl) h10 (hbok (by rfl) hk_0 (by omega) (by omega)) (by rfl) (by rfl) (fun A4 hA4 eA4 fA4 => ?_)
  refine hxa_aload_n (by rfl) rfl ?_
  refine hxa_aload_n (by rfl) rfl ?_
  refine hxa_get (v := .ref 21) (by rfl) (by rfl) (by rfl) rfl ?_
  refine hxj_getI (by rfl) (by rfl) (by rfl) (fun z5 ez5 => ?_)
  refine hxj_putI (by rfl) (by rfl) (by rfl) (by rfl) hA4 (hbokN (by rfl)) (by rfl) (by rfl) (fun A6 hA6 eA6 fA6 => ?_)
  refine hxa_iload_n (by rfl) rfl ?_
  refine hxj_zne (by rfl) rfl (fun q7 => ?_) (fun q7 => ?_)
  ·
    refine hxa_iload_n (by rfl) rfl ?_
    have he := hJ.end10 hA6
    exact hxa_ireturn (by rfl) rfl (hP _ _ ⟨(hJ.mono he.1 (by omega) (by omega)), _, rfl, ⟨by rw [(show A6.1 0 1 = (Int32.ofNat 0) from (hkF eA6 (by first | decide | omega) (hkS eA4)))]; decide, Eq.trans (hkF eA6 (by first | decide | omega) (hkF eA4 (by first | decide | omega) rfl)) hen.2.2.2, by rw [show A6.1 0 2 = z5 from hkS eA6, ← ez5, hkF eA4 (by first | decide | omega) rfl]; exact RS2, hU3.fr (by rw [fA6, fA4]), fun j => by rw [fA6, fA4]; exact hA2.2.2.1.2.1 368 (by rfl) j, fun q => absurd q q7, fun _ => ⟨he.2.1.trans hen.2.1, Eq.trans (hkF eA6 (by first | decide | omega) (hkF eA4 (by first | decide | omega) rfl)) (hA2.2.2.1.1 11 4 (by rfl)), Eq.trans (hkF eA6 (by first | decide | omega) (hkF eA4 (by first | decide | omega) rfl)) (hA2.2.2.1.1 11 5 (by rfl)), Eq.trans (hkF eA6 (by first | decide | omega) (hkF eA4 (by first | decide | omega) rfl)) (hA2.2.2.1.1 340 2 (by rfl)), Eq.trans (hkF eA6 (by first | decide | omega) (hkF eA4 (by first | decide | omega) rfl)) (hA2.2.2.1.1 0 10 (by rfl)), Eq.trans (hkF eA6 (by first | decide | omega) (hkF eA4 (by first | decide | omega) rfl)) (hA2.2.2.1.1 40 2 (by rfl))⟩⟩⟩)
  ·
    refine hxa_aload_n (by rfl) rfl ?_
    have he := hJ.end10 hA6
    have hpg : hPg A6 5 := fun j hj => by rw [hA6.2.2.1.2.1 5 (by rfl) j]; exact (fz3 (by omega)) j hj
    refine hxa_call0 (by rfl) (by rfl) (by rfl) (by rfl) (by rfl) (by rfl) (hX74q41 (d := d + 23) he.1 (he.2.1.trans hen.2.1) (he.2.2.trans hen.2.2.1) hpg) ?_
    rintro _ A8 ⟨hA8, rfl, fA8⟩
    refine hxa_iload_n (by rfl) rfl ?_
    exact hxa_ireturn (by rfl) rfl (hP _ _ ⟨(hJ.mono hA8 (by omega) (by omega)), _, rfl, ⟨by rw [(show A8.1 0 1 = (Int32.ofNat 0) from ((fA8.1).trans (hkF eA6 (by first | decide | omega) (hkS eA4))))]; decide, ((fA8.2.1).trans (Eq.trans (hkF eA6 (by first | decide | omega) (hkF eA4 (by first | decide | omega) rfl)) hen.2.2.2)), by rw [fA8.2.2.1]; rw [show A6.1 0 2 = z5 from hkS eA6, ← ez5, hkF eA4 (by first | decide | omega) rfl]; exact RS2, hU3.fr (by rw [fA8.2.2.2.1, fA6, fA4]), fun j => by rw [fA8.2.2.2.2.1 j, fA6, fA4]; exact hA2.2.2.1.2.1 368 (by rfl) j, fun _ => ⟨fA8.2.2.2.2.2.1, by rw [fA8.2.2.2.2.2.2.2.2.2.1, fA8.2.2.2.2.2.2.2.2.2.2, show A6.1 2 4 = A2.1 2 4 from hkF eA6 (by first | decide | omega) (hkF eA4 (by first | decide | omega) rfl), show A6.1 2 5 = A2.1 2 5 from hkF eA6 (by first | decide | omega) (hkF eA4 (by first | decide | omega) rfl)]; exact HS2 (by omega), fA8.2.2.2.2.2.2.1, fA8.2.2.2.2.2.2.2.1, fA8.2.2.2.2.2.2.2.2.1⟩, fun q => absurd (by omega) q⟩⟩)
theorem hX73q41 {d : Nat} {N : Int} {A : hs_A} (hA : hJ 0 N (N + 72) A A) (h3 : A.2.2.2 0 3 = 12) (h4 : A.2.2.2 0 4 = 3) {B : Nat → Int} {n : Nat} (hTp : hcTp B n A) (h1 : (A.1 0 1).toInt = (n : Int)) (hBr : ∀ i, i < n → -128 ≤ B i ∧ B i ≤ 127) (hU : hcU A)  : hxC (d + 26) 73 hm_m73 [.ref 1] A (fun r A' => hJ 0 (N + 72) (N + 144) A' A' ∧ ∃ z : Int32, r = some (.int z) ∧ ((A'.1 0 1).toInt = 0 ∧ A'.1 367 2 = A.1 367 2 ∧ hq_res (ht_K B n) (ht_W B n) (fun u => (ht_S B n u : Int)) (ht_E B n) z.toInt (A'.1 0 2).toInt ∧ hcU A' ∧ (∀ j, A'.2.1 368 j = A.2.1 368 j) ∧ (z.toInt = 0 → A'.2.2.2 0 3 = 3 ∧ hq_hs (ht_K B n) (ht_W B n) (ht_E B n) (A'.1 2 4).toInt (A'.1 2 5).toInt ∧ A'.1 340 2 = Int32.ofNat 0 ∧ A'.1 0 10 = Int32.ofNat 0 ∧ A'.1 40 2 = Int32.ofNat 0) ∧ (¬ z.toInt = 0 → A'.2.2.2 0 3 = 12 ∧ A'.1 11 4 = A.1 11 4 ∧ A'.1 11 5 = A.1 11 5 ∧ A'.1 340 2 = A.1 340 2 ∧ A'.1 0 10 = A.1 0 10 ∧ A'.1 40 2 = A.1 40 2))) := hxC.of (by rfl) (hY73q41 hA h3 h4 hTp h1 hBr hU (fun r A' h => h))
theorem hY74q42 {d : Nat} {N : Int} {A : hs_A} (hA : hJ 0 N (N + 72) A A) (h3 : A.2.2.2 0 3 = 3) (h4 : A.2.2.2 0 4 = 12) (hp : hPg A 14)  {P : Option Value → hs_A → Prop} (hP : ∀ (r : Option Value) (A' : hs_A), (hJ 0 (N + 72) (N + 144) A' A' ∧ r = none ∧ (A'.1 0 1 = A.1 0 1 ∧ A'.1 367 2 = A.1 367 2 ∧ A'.1 0 2 = A.1 0 2 ∧ A'.2.2.1 = A.2.2.1 ∧ (∀ j, A'.2.1 368 j = A.2.1 368 j) ∧ A'.2.2.2 0 3 = 12 ∧ A'.1 340 2 = Int32.ofNat 0 ∧ A'.1 0 10 = Int32.ofNat 0 ∧ A'.1 40 2 = Int32.ofNat 0 ∧ A'.1 11 4 = A.1 11 4 ∧ A'.1 11 5 = A.1 11 5)) → P r A') : hxa (d + 1) none hm_t74 0 [.ref 1, .retAddr 0] [] A P := by
  obtain ⟨T0, hT0, -, eT0⟩ := hA.T
  refine hxa_aload_n (by rfl) rfl ?_
  refine hxj_getT (by rfl) (by rfl) (by rfl) h3 ?_
  refine hxa_astore_n (by rfl) rfl ?_
  refine hxa_aload_n (by rfl) rfl ?_
  refine hxa_aload_n (by rfl) rfl ?_
  refine hxj_getT (by rfl) (by rfl) (by rfl) h4 ?_
  refine hxa_putR (i := 0) (by rfl) (by rfl) (by rfl) (by rfl) ?_
  refine hxa_aload_n (by rfl) rfl ?_
  refine hxa_aload_n (by rfl) rfl ?_
  refine hxa_putR (i := 0) (by rfl) (by rfl) (by rfl) (by rfl) ?_
  have hsw := hJ.swap2 hA h3 h4 hp
  obtain ⟨W5, eW5⟩ : ∃ W : hs_A, W = (A.1, A.2.1, A.2.2.1, hs_upN (hs_upN A.2.2.2 0 3 12) 0 4 3) := ⟨_, rfl⟩
  rw [← eW5] at hsw
  have w03 : W5.2.2.2 0 3 = 12 := by rw [eW5]; simp [hs_upN]
  have w1 : W5.1 = A.1 := by rw [eW5]
  show hxa _ _ _ _ _ _ (A.1, A.2.1, A.2.2.1, hs_upN (hs_upN A.2.2.2 0 3 12) 0 4 3) _
  rw [← eW5]
  obtain ⟨T5, hT5, eT5⟩ : ∃ T, hTT T ∧ W5.2.2.2 0 3 = T + 1 := ⟨11, Or.inr rfl, w03⟩
  refine hxa_aload_n (by rfl) rfl ?_
  refine hxa_get (v := .ref 27) (by rfl) (by rfl) (by rfl) rfl ?_
  refine hxa_aload_n (by rfl) rfl ?_
  refine hxj_getT (by rfl) (by rfl) (by rfl) eT5 ?_
  refine hxa_call0 (by rfl) (by rfl) (by rfl) (by rfl) (by rfl) (by rfl) (hX16 (d := d + 0) hsw hL26 hT5 eT5) ?_
  rintro _ A1 ⟨hA1, rfl⟩
  refine hxa_aload_n (by rfl) rfl ?_
  refine hxa_get (v := .ref 41) (by rfl) (by rfl) (by rfl) rfl ?_
  refine hxa_iconst (by rfl) rfl ?_
  refine hxj_putI (by rfl) (by rfl) (by rfl) (by rfl) hA1 (hbok (by rfl) hk_0 (by omega) (by omega)) (by rfl) (by rfl) (fun A2 hA2 eA2 fA2 => ?_)
  refine hxa_aload_n (by rfl) rfl ?_
  refine hxa_get (v := .ref 341) (by rfl) (by rfl) (by rfl) rfl ?_
  refine hxa_iconst (by rfl) rfl ?_
  refine hxj_putI (by rfl) (by rfl) (by rfl) (by rfl) hA2 (hbok (by rfl) hk_0 (by omega) (by omega)) (by rfl) (by rfl) (fun A3 hA3 eA3 fA3 => ?_)
  refine hxa_aload_n (by rfl) rfl ?_
  refine hxa_iconst (by rfl) rfl ?_
  refine hxj_putI (by rfl) (by rfl) (by rfl) (by rfl) hA3 (hbokN (by rfl)) (by rfl) (by rfl) (fun A4 hA4 eA4 fA4 => ?_)
  refine hxa_aload_n (by rfl) rfl ?_
  refine hxa_get (v := .ref 329) (by rfl) (by rfl) (by rfl) rfl ?_
  refine hxa_iconst (by rfl) rfl ?_
  refine hxj_putI (by rfl) (by rfl) (by rfl) (by rfl) hA4 (hbok (by rfl) hk_0 (by omega) (by omega)) (by rfl) (by rfl) (fun A5 hA5 eA5 fA5 => ?_)
  exact hxa_return (by rfl) rfl (hP _ _ ⟨(hJ.mono (hJ.self hA5) (by omega) (by omega)), rfl, ⟨(hA5.2.2.1.1 0 1 (by rfl)).trans (congrFun (congrFun w1 0) 1), (hA5.2.2.1.1 367 2 (by rfl)).trans (congrFun (congrFun w1 367) 2), (hA5.2.2.1.1 0 2 (by rfl)).trans (congrFun (congrFun w1 0) 2), (hA5.2.2.1.2.2.1 rfl).trans (by rw [eW5]), fun j => (hA5.2.2.1.2.1 368 (by rfl) j).trans (by rw [eW5]), (hA5.2.2.1.2.2.2 0 3 (by rfl)).trans w03, hkF eA5 (by first | decide | omega) (hkF eA4 (by first | decide | omega) (hkS eA3)), hkF eA5 (by first | decide | omega) (hkS eA4), hkF eA5 (by first | decide | omega) (hkF eA4 (by first | decide | omega) (hkF eA3 (by first | decide | omega) (hkS eA2))), (hA5.2.2.1.1 11 4 (by rfl)).trans (congrFun (congrFun w1 11) 4), (hA5.2.2.1.1 11 5 (by rfl)).trans (congrFun (congrFun w1 11) 5)⟩⟩)
theorem hX74q42 {d : Nat} {N : Int} {A : hs_A} (hA : hJ 0 N (N + 72) A A) (h3 : A.2.2.2 0 3 = 3) (h4 : A.2.2.2 0 4 = 12) (hp : hPg A 14)  : hxC (d + 2) 74 hm_m74 [.ref 1] A (fun r A' => hJ 0 (N + 72) (N + 144) A' A' ∧ r = none ∧ (A'.1 0 1 = A.1 0 1 ∧ A'.1 367 2 = A.1 367 2 ∧ A'.1 0 2 = A.1 0 2 ∧ A'.2.2.1 = A.2.2.1 ∧ (∀ j, A'.2.1 368 j = A.2.1 368 j) ∧ A'.2.2.2 0 3 = 12 ∧ A'.1 340 2 = Int32.ofNat 0 ∧ A'.1 0 10 = Int32.ofNat 0 ∧ A'.1 40 2 = Int32.ofNat 0 ∧ A'.1 11 4 = A.1 11 4 ∧ A'.1 11 5 = A.1 11 5)) := hxC.of (by rfl) (hY74q42 hA h3 h4 hp (fun r A' h => h))
theorem hY73q42 {d : Nat} {N : Int} {A : hs_A} (hA : hJ 0 N (N + 72) A A) (h3 : A.2.2.2 0 3 = 3) (h4 : A.2.2.2 0 4 = 12) {B : Nat → Int} {n : Nat} (hTp : hcTp B n A) (h1 : (A.1 0 1).toInt = (n : Int)) (hBr : ∀ i, i < n → -128 ≤ B i ∧ B i ≤ 127) (hU : hcU A)  {P : Option Value → hs_A → Prop} (hP : ∀ (r : Option Value) (A' : hs_A), (hJ 0 (N + 72) (N + 144) A' A' ∧ ∃ z : Int32, r = some (.int z) ∧ ((A'.1 0 1).toInt = 0 ∧ A'.1 367 2 = A.1 367 2 ∧ hq_res (ht_K B n) (ht_W B n) (fun u => (ht_S B n u : Int)) (ht_E B n) z.toInt (A'.1 0 2).toInt ∧ hcU A' ∧ (∀ j, A'.2.1 368 j = A.2.1 368 j) ∧ (z.toInt = 0 → A'.2.2.2 0 3 = 12 ∧ hq_hs (ht_K B n) (ht_W B n) (ht_E B n) (A'.1 11 4).toInt (A'.1 11 5).toInt ∧ A'.1 340 2 = Int32.ofNat 0 ∧ A'.1 0 10 = Int32.ofNat 0 ∧ A'.1 40 2 = Int32.ofNat 0) ∧ (¬ z.toInt = 0 → A'.2.2.2 0 3 = 3 ∧ A'.1 2 4 = A.1 2 4 ∧ A'.1 2 5 = A.1 2 5 ∧ A'.1 340 2 = A.1 340 2 ∧ A'.1 0 10 = A.1 0 10 ∧ A'.1 40 2 = A.1 40 2))) → P r A') : hxa (d + 25) (some (.int)) hm_t73 0 [.ref 1, .retAddr 0] [] A P := by
  refine hxa_aload_n (by rfl) rfl ?_
  refine hxa_get (v := .ref 21) (by rfl) (by rfl) (by rfl) rfl ?_
  refine hxa_aload_n (by rfl) rfl ?_
  refine hxj_getT (by rfl) (by rfl) (by rfl) h4 ?_
  refine hxa_aload_n (by rfl) rfl ?_
  refine hxa_get (v := .ref 2) (by rfl) (by rfl) (by rfl) rfl ?_
  refine hxa_aload_n (by rfl) rfl ?_
  refine hxj_getB (by rfl) (by rfl) (by rfl) hA (by rfl) (fun z1 ez1 fz1 gz1 => ?_)
  have h1z : z1.toInt = (n : Int) := by rw [← ez1]; exact h1
  refine hxa_call0 (by rfl) (by rfl) (by rfl) (by rfl) (by rfl) (by rfl) (hxC.and (g := 0) (hX37q2 (d := d + 0) hA z1 (by omega) (by omega)) (fun g => hP37r (T := 11) (Or.inr rfl) z1 hTp h1z (by omega) (fun i hi => (hBr i hi).2) hU)) ?_
  rintro _ A2 ⟨⟨hA2, z3, rfl, fz3⟩, A2v, hvis, z3v, ez3v, RS, hU2, HS⟩
  have ezz : z3v = z3 := by injection ez3v with e; injection e with e; exact e.symm
  rw [ezz] at RS HS
  have HS2 : z3.toInt = 0 → hq_hs (ht_K B n) (ht_W B n) (ht_E B n) (A2.1 11 4).toInt (A2.1 11 5).toInt := fun q => by rw [← hvis.f (i := 11) (k := 4) (by rfl) (by rfl), ← hvis.f (i := 11) (k := 5) (by rfl) (by rfl)]; exact HS q
  have RS2 : hq_res (ht_K B n) (ht_W B n) (fun u => (ht_S B n u : Int)) (ht_E B n) z3.toInt (A2.1 20 6).toInt := by rw [← hvis.f (i := 20) (k := 6) (by rfl) (by rfl)]; exact RS
  have hU3 : hcU A2 := hvis.U hU2
  have hen := hJ.end2 hA2 h3 h4
  have h10 := hJ.to10 hen.1
  refine hxa_s1 (by rfl) (Or.inl ⟨_, rfl, rfl⟩) rfl ?_
  refine hxa_aload_n (by rfl) rfl ?_
  refine hxa_iconst (by rfl) rfl ?_
  refine hxj_putI (by rfl) (by rfl) (by rfl) (by rfl) h10 (hbok (by rfl) hk_0 (by omega) (by omega)) (by rfl) (by rfl) (fun A4 hA4 eA4 fA4 => ?_)
  refine hxa_aload_n (by rfl) rfl ?_
  refine hxa_aload_n (by rfl) rfl ?_
  refine hxa_get (v := .ref 21) (by rfl) (by rfl) (by rfl) rfl ?_
  refine hxj_getI (by rfl) (by rfl) (by rfl) (fun z5 ez5 => ?_)
  refine hxj_putI (by rfl) (by rfl) (by rfl) (by rfl) hA4 (hbokN (by rfl)) (by rfl) (by rfl) (fun A6 hA6 eA6 fA6 => ?_)
  refine hxa_iload_n (by rfl) rfl ?_
  refine hxj_zne (by rfl) rfl (fun q7 => ?_) (fun q7 => ?_)
  ·
    refine hxa_iload_n (by rfl) rfl ?_
    have he := hJ.end10 hA6
    exact hxa_ireturn (by rfl) rfl (hP _ _ ⟨(hJ.mono he.1 (by omega) (by omega)), _, rfl, ⟨by rw [(show A6.1 0 1 = (Int32.ofNat 0) from (hkF eA6 (by first | decide | omega) (hkS eA4)))]; decide, Eq.trans (hkF eA6 (by first | decide | omega) (hkF eA4 (by first | decide | omega) rfl)) hen.2.2.2, by rw [show A6.1 0 2 = z5 from hkS eA6, ← ez5, hkF eA4 (by first | decide | omega) rfl]; exact RS2, hU3.fr (by rw [fA6, fA4]), fun j => by rw [fA6, fA4]; exact hA2.2.2.1.2.1 368 (by rfl) j, fun q => absurd q q7, fun _ => ⟨he.2.1.trans hen.2.1, Eq.trans (hkF eA6 (by first | decide | omega) (hkF eA4 (by first | decide | omega) rfl)) (hA2.2.2.1.1 2 4 (by rfl)), Eq.trans (hkF eA6 (by first | decide | omega) (hkF eA4 (by first | decide | omega) rfl)) (hA2.2.2.1.1 2 5 (by rfl)), Eq.trans (hkF eA6 (by first | decide | omega) (hkF eA4 (by first | decide | omega) rfl)) (hA2.2.2.1.1 340 2 (by rfl)), Eq.trans (hkF eA6 (by first | decide | omega) (hkF eA4 (by first | decide | omega) rfl)) (hA2.2.2.1.1 0 10 (by rfl)), Eq.trans (hkF eA6 (by first | decide | omega) (hkF eA4 (by first | decide | omega) rfl)) (hA2.2.2.1.1 40 2 (by rfl))⟩⟩⟩)
  ·
    refine hxa_aload_n (by rfl) rfl ?_
    have he := hJ.end10 hA6
    have hpg : hPg A6 14 := fun j hj => by rw [hA6.2.2.1.2.1 14 (by rfl) j]; exact (fz3 (by omega)) j hj
    refine hxa_call0 (by rfl) (by rfl) (by rfl) (by rfl) (by rfl) (by rfl) (hX74q42 (d := d + 23) he.1 (he.2.1.trans hen.2.1) (he.2.2.trans hen.2.2.1) hpg) ?_
    rintro _ A8 ⟨hA8, rfl, fA8⟩
    refine hxa_iload_n (by rfl) rfl ?_
    exact hxa_ireturn (by rfl) rfl (hP _ _ ⟨(hJ.mono hA8 (by omega) (by omega)), _, rfl, ⟨by rw [(show A8.1 0 1 = (Int32.ofNat 0) from ((fA8.1).trans (hkF eA6 (by first | decide | omega) (hkS eA4))))]; decide, ((fA8.2.1).trans (Eq.trans (hkF eA6 (by first | decide | omega) (hkF eA4 (by first | decide | omega) rfl)) hen.2.2.2)), by rw [fA8.2.2.1]; rw [show A6.1 0 2 = z5 from hkS eA6, ← ez5, hkF eA4 (by first | decide | omega) rfl]; exact RS2, hU3.fr (by rw [fA8.2.2.2.1, fA6, fA4]), fun j => by rw [fA8.2.2.2.2.1 j, fA6, fA4]; exact hA2.2.2.1.2.1 368 (by rfl) j, fun _ => ⟨fA8.2.2.2.2.2.1, by rw [fA8.2.2.2.2.2.2.2.2.2.1, fA8.2.2.2.2.2.2.2.2.2.2, show A6.1 11 4 = A2.1 11 4 from hkF eA6 (by first | decide | omega) (hkF eA4 (by first | decide | omega) rfl), show A6.1 11 5 = A2.1 11 5 from hkF eA6 (by first | decide | omega) (hkF eA4 (by first | decide | omega) rfl)]; exact HS2 (by omega), fA8.2.2.2.2.2.2.1, fA8.2.2.2.2.2.2.2.1, fA8.2.2.2.2.2.2.2.2.1⟩, fun q => absurd (by omega) q⟩⟩)
theorem hX73q42 {d : Nat} {N : Int} {A : hs_A} (hA : hJ 0 N (N + 72) A A) (h3 : A.2.2.2 0 3 = 3) (h4 : A.2.2.2 0 4 = 12) {B : Nat → Int} {n : Nat} (hTp : hcTp B n A) (h1 : (A.1 0 1).toInt = (n : Int)) (hBr : ∀ i, i < n → -128 ≤ B i ∧ B i ≤ 127) (hU : hcU A)  : hxC (d + 26) 73 hm_m73 [.ref 1] A (fun r A' => hJ 0 (N + 72) (N + 144) A' A' ∧ ∃ z : Int32, r = some (.int z) ∧ ((A'.1 0 1).toInt = 0 ∧ A'.1 367 2 = A.1 367 2 ∧ hq_res (ht_K B n) (ht_W B n) (fun u => (ht_S B n u : Int)) (ht_E B n) z.toInt (A'.1 0 2).toInt ∧ hcU A' ∧ (∀ j, A'.2.1 368 j = A.2.1 368 j) ∧ (z.toInt = 0 → A'.2.2.2 0 3 = 12 ∧ hq_hs (ht_K B n) (ht_W B n) (ht_E B n) (A'.1 11 4).toInt (A'.1 11 5).toInt ∧ A'.1 340 2 = Int32.ofNat 0 ∧ A'.1 0 10 = Int32.ofNat 0 ∧ A'.1 40 2 = Int32.ofNat 0) ∧ (¬ z.toInt = 0 → A'.2.2.2 0 3 = 3 ∧ A'.1 2 4 = A.1 2 4 ∧ A'.1 2 5 = A.1 2 5 ∧ A'.1 340 2 = A.1 340 2 ∧ A'.1 0 10 = A.1 0 10 ∧ A'.1 40 2 = A.1 40 2))) := hxC.of (by rfl) (hY73q42 hA h3 h4 hTp h1 hBr hU (fun r A' h => h))
