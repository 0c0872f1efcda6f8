theorem hY170 {d : Nat} {Bn Br : Int} {A0 A : hs_A} (hA : hJ 0 Bn Br A0 A) (hBr : Br ≤ Bn + 72)  {P : Option Value → hs_A → Prop} (hP : ∀ (r : Option Value) (A' : hs_A), (hJ 0 (Bn + 72) Br A0 A' ∧ r = none) → P r A') : hxa (d + 0) none hm_t170 0 [.ref 368, .retAddr 0] [] A P := by
  have k0 := hk_0
  have L2 : ∀ (m2 : Nat) (x2_1 : Int32) (Ac2 : hs_A) (hAc2 : hJ 0 (Bn + 72) Br A0 Ac2) (bx2_1 : 0 ≤ x2_1.toInt) (cx2_1 : x2_1.toInt ≤ 73) (hm2 : 73 - x2_1.toInt < (m2 : Int)), hxa (d + 0) none hm_t170 2 [.ref 368, .int x2_1] [] Ac2 P := by
    intro m2
    induction m2 with
    | zero => intro x2_1 Ac2 hAc2 bx2_1 cx2_1 hm2;  exact False.elim (by omega)
    | succ m2 ih2 =>
      intro x2_1 Ac2 hAc2 bx2_1 cx2_1 hm2
      refine hxa_iload_n (by rfl) rfl ?_
      refine hxa_bipush (by rfl) rfl ?_
      refine hxj_cge (by rfl) rfl hk_73 (fun q1 => ?_) (fun q1 => ?_)
      ·
        exact hxa_return (by rfl) rfl (hP _ _ ⟨hAc2, rfl⟩)
      ·
        refine hxa_aload_n (by rfl) rfl ?_
        refine hxa_get (v := .ref 396) (by rfl) (by rfl) (by rfl) rfl ?_
        refine hxa_iload_n (by rfl) rfl ?_
        refine hxa_aload_n (by rfl) rfl ?_
        refine hxa_get (v := .ref 397) (by rfl) (by rfl) (by rfl) rfl ?_
        refine hxa_iload_n (by rfl) rfl ?_
        refine hxj_iald396 (by rfl) rfl (by omega) (by omega) hAc2 (fun z2 ez2 fz2 => ?_)
        refine hxj_iast395 (by rfl) rfl (by omega) (by omega) rfl hAc2 (by omega) (fun A3 hA3 eA3 fA3 gA3 => ?_)
        refine hxj_iinc (by rfl) rfl rfl hk_1 (by omega) (by omega) (fun _ => rfl) (fun z4 ez4 => ?_)
        refine hxa_goto (by rfl) ?_
        exact ih2 z4 A3 hA3 (by omega) (by omega) (by omega)
  have H5 : hJ 0 (Bn + 72) Br A0 A := hJ.mono hA (by omega) (by omega)
  refine hxa_iconst (by rfl) rfl ?_
  refine hxa_s1 (by rfl) (Or.inl ⟨_, rfl, rfl⟩) rfl ?_
  exact L2 (Int.toNat (73 - 0) + 1) (Int32.ofNat 0) A H5 (by omega) (by omega) (by omega)
theorem hX170 {d : Nat} {Bn Br : Int} {A0 A : hs_A} (hA : hJ 0 Bn Br A0 A) (hBr : Br ≤ Bn + 72)  : hxC (d + 1) 170 hm_m170 [.ref 368] A (fun r A' => hJ 0 (Bn + 72) Br A0 A' ∧ r = none) := hxC.of (by rfl) (hY170 hA hBr (fun r A' h => h))
theorem hY163 {d : Nat} {Bn Br : Int} {A0 A : hs_A} (hA : hJ 0 Bn Br A0 A)  (a1 : Int32) (a2 : Int32) (x0 : hWt (A0.1 367 18).toInt A0 a1 a2) {P : Option Value → hs_A → Prop} (hP : ∀ (r : Option Value) (A' : hs_A), (hJ 0 Bn Br A0 A' ∧ ∃ z : Int32, r = some (.int z)) → P r A') : hxa (d + 0) (some (.int)) hm_t163 0 [.ref 368, .int a1, .int a2, .retAddr 0, .retAddr 0, .retAddr 0, .retAddr 0, .retAddr 0] [] A P := by
  have k0 := hk_0
  obtain ⟨w1, w2, w3, w4⟩ := x0
  have hlv := hA.2.2.2.1.2.2.2.2
  have L5 : ∀ (m5 : Nat) (x5_3 : Int32) (x5_4 : Int32) (x5_5 : Value) (x5_6 : Value) (x5_7 : Value) (Ac5 : hs_A) (hx5_5 : hc_two (some x5_5) = false) (hx5_6 : hc_two (some x5_6) = false) (hAc5 : hJ 0 Bn Br A0 Ac5) (bx5_3 : 0 ≤ x5_3.toInt) (cx5_3 : x5_3.toInt ≤ 400) (bx5_4 : 0 ≤ x5_4.toInt) (u5_0 : hW (A0.2.1 390) (A0.2.1 391) (a2.toInt - x5_4.toInt).toNat x5_4.toInt.toNat x5_3.toInt.toNat) (u5_1 : x5_3.toInt ≤ x5_4.toInt - a1.toInt) (u5_2 : a1.toInt ≤ x5_4.toInt) (hm5 : 2147483647 - x5_4.toInt < (m5 : Int)), hxa (d + 0) (some (.int)) hm_t163 5 [.ref 368, .int a1, .int a2, .int x5_3, .int x5_4, x5_5, x5_6, x5_7] [] Ac5 P := by
    intro m5
    induction m5 with
    | zero => intro x5_3 x5_4 x5_5 x5_6 x5_7 Ac5 hx5_5 hx5_6 hAc5 bx5_3 cx5_3 bx5_4 u5_0 u5_1 u5_2 hm5; have := hn_rng x5_4; exact False.elim (by omega)
    | succ m5 ih5 =>
      intro x5_3 x5_4 x5_5 x5_6 x5_7 Ac5 hx5_5 hx5_6 hAc5 bx5_3 cx5_3 bx5_4 u5_0 u5_1 u5_2 hm5
      refine hxa_iload (by rfl) rfl ?_
      refine hxa_iload_n (by rfl) rfl ?_
      have rgx5_4 := hn_rng x5_4
      have rga2 := hn_rng a2
      refine hxj_cge (by rfl) rfl rfl (fun q1 => ?_) (fun q1 => ?_)
      ·
        refine hxa_aload_n (by rfl) rfl ?_
        refine hxa_get (v := .ref 395) (by rfl) (by rfl) (by rfl) rfl ?_
        refine hxa_iconst (by rfl) rfl ?_
        refine hxj_iald (by rfl) (by rfl) hk_0 (by omega) (by omega) (fun z2 ez2 => ?_)
        exact hxa_ireturn (by rfl) rfl (hP _ _ ⟨hAc5, _, rfl⟩)
      ·
        refine hxa_aload_n (by rfl) rfl ?_
        refine hxa_get (v := .ref 391) (by rfl) (by rfl) (by rfl) rfl ?_
        refine hxa_iload (by rfl) rfl ?_
        refine hxj_iald (by rfl) (by rfl) rfl (by omega) (by omega) (fun z3 ez3 => ?_)
        rcases hWc (b := a2) (t := x5_3) hAc5 u5_0 (by omega) (by omega) ez3 with ⟨hz, hw⟩ | ⟨hz, hi, hw⟩ | ⟨hz, ht, hw⟩
        ·
          refine hxa_s1 (by rfl) (Or.inr ⟨_, rfl, rfl⟩) rfl ?_
          refine hxa_iload (by rfl) rfl ?_
          refine hxa_iconst (by rfl) rfl ?_
          refine hxj_cge (by rfl) rfl hk_2 (fun q4 => False.elim (by omega)) (fun q4 => ?_)
          refine hxa_aload_n (by rfl) rfl ?_
          refine hxa_get (v := .ref 395) (by rfl) (by rfl) (by rfl) rfl ?_
          refine hxa_iload_n (by rfl) rfl ?_
          refine hxa_iload (by rfl) rfl ?_
          refine hxj_zne (by rfl) rfl (fun q5 => False.elim (by omega)) (fun q5 => ?_)
          refine hxa_aload_n (by rfl) rfl ?_
          refine hxa_get (v := .ref 392) (by rfl) (by rfl) (by rfl) rfl ?_
          refine hxa_iload (by rfl) rfl ?_
          refine hxj_iald (by rfl) (by rfl) rfl (by omega) (by omega) (fun z6 ez6 => ?_)
          refine hxa_goto (by rfl) ?_
          refine hxj_iast (by rfl) (by rfl) rfl (by omega) (by omega) hAc5 (hbokN (by rfl)) (by rfl) (by rfl) (fun A7 hA7 eA7 fA7 gA7 => ?_)
          refine hxj_iinc (by rfl) rfl rfl hk_1 (by omega) (by omega) (fun _ => rfl) (fun z8 ez8 => ?_)
          refine hxa_goto (by rfl) ?_
          refine hxj_iinc (by rfl) rfl rfl hk_1 (by omega) (by omega) (fun _ => rfl) (fun z9 ez9 => ?_)
          refine hxa_goto (by rfl) ?_
          exact ih5 z8 z9 (.int z3) (x5_6) (x5_7) A7 rfl hx5_6 hA7 (by omega) (by omega) (by omega) (by first | exact hWn hw (by omega) (by omega) (by omega) | exact hWn w4 (by omega) (by omega) (by omega)) (by omega) (by omega) (by omega)
        ·
          refine hxa_s1 (by rfl) (Or.inr ⟨_, rfl, rfl⟩) rfl ?_
          refine hxa_iload (by rfl) rfl ?_
          refine hxa_iconst (by rfl) rfl ?_
          refine hxj_cge (by rfl) rfl hk_2 (fun q10 => False.elim (by omega)) (fun q10 => ?_)
          refine hxa_aload_n (by rfl) rfl ?_
          refine hxa_get (v := .ref 395) (by rfl) (by rfl) (by rfl) rfl ?_
          refine hxa_iload_n (by rfl) rfl ?_
          refine hxa_iload (by rfl) rfl ?_
          refine hxj_zne (by rfl) rfl (fun q11 => ?_) (fun q11 => False.elim (by omega))
          refine hxa_aload_n (by rfl) rfl ?_
          refine hxa_get (v := .ref 394) (by rfl) (by rfl) (by rfl) rfl ?_
          refine hxa_aload_n (by rfl) rfl ?_
          refine hxa_get (v := .ref 392) (by rfl) (by rfl) (by rfl) rfl ?_
          refine hxa_iload (by rfl) rfl ?_
          refine hxj_iald (by rfl) (by rfl) rfl (by omega) (by omega) (fun z12 ez12 => ?_)
          rw [ez12] at hi
          refine hxj_iald (by rfl) (by rfl) rfl (by omega) (by omega) (fun z13 ez13 => ?_)
          refine hxj_iast (by rfl) (by rfl) rfl (by omega) (by omega) hAc5 (hbokN (by rfl)) (by rfl) (by rfl) (fun A14 hA14 eA14 fA14 gA14 => ?_)
          refine hxj_iinc (by rfl) rfl rfl hk_1 (by omega) (by omega) (fun _ => rfl) (fun z15 ez15 => ?_)
          refine hxa_goto (by rfl) ?_
          refine hxj_iinc (by rfl) rfl rfl hk_1 (by omega) (by omega) (fun _ => rfl) (fun z16 ez16 => ?_)
          refine hxa_goto (by rfl) ?_
          exact ih5 z15 z16 (.int z3) (x5_6) (x5_7) A14 rfl hx5_6 hA14 (by omega) (by omega) (by omega) (by first | exact hWn hw (by omega) (by omega) (by omega) | exact hWn w4 (by omega) (by omega) (by omega)) (by omega) (by omega) (by omega)
        ·
          refine hxa_s1 (by rfl) (Or.inr ⟨_, rfl, rfl⟩) rfl ?_
          refine hxa_iload (by rfl) rfl ?_
          refine hxa_iconst (by rfl) rfl ?_
          refine hxj_cge (by rfl) rfl hk_2 (fun q17 => ?_) (fun q17 => False.elim (by omega))
          refine hxj_iinc (by rfl) rfl rfl hk_4294967295 (by omega) (by omega) (fun _ => rfl) (fun z18 ez18 => ?_)
          refine hxa_aload_n (by rfl) rfl ?_
          refine hxa_get (v := .ref 395) (by rfl) (by rfl) (by rfl) rfl ?_
          refine hxa_iload_n (by rfl) rfl ?_
          refine hxa_iconst (by rfl) rfl ?_
          refine hxj_isub (by rfl) rfl hk_1 (by omega) (by omega) (fun z19 ez19 => ?_)
          refine hxj_iald (by rfl) (by rfl) rfl (by omega) (by omega) (fun z20 ez20 => ?_)
          refine hxa_s1 (by rfl) (Or.inr ⟨_, rfl, rfl⟩) rfl ?_
          refine hxa_aload_n (by rfl) rfl ?_
          refine hxa_get (v := .ref 395) (by rfl) (by rfl) (by rfl) rfl ?_
          refine hxa_iload_n (by rfl) rfl ?_
          refine hxj_iald (by rfl) (by rfl) rfl (by omega) (by omega) (fun z21 ez21 => ?_)
          refine hxa_s1 (by rfl) (Or.inr ⟨_, rfl, rfl⟩) rfl ?_
          refine hxa_iload (by rfl) rfl ?_
          refine hxa_iconst (by rfl) rfl ?_
          refine hxj_cne (by rfl) rfl hk_5 (fun q22 => ?_) (fun q22 => ?_)
          ·
            refine hxa_aload_n (by rfl) rfl ?_
            refine hxa_get (v := .ref 395) (by rfl) (by rfl) (by rfl) rfl ?_
            refine hxa_iload_n (by rfl) rfl ?_
            refine hxa_iconst (by rfl) rfl ?_
            refine hxj_isub (by rfl) rfl hk_1 (by omega) (by omega) (fun z23 ez23 => ?_)
            refine hxa_iload (by rfl) rfl ?_
            refine hxa_iconst (by rfl) rfl ?_
            refine hxj_cne (by rfl) rfl hk_2 (fun q24 => ?_) (fun q24 => ?_)
            ·
              refine hxa_iload (by rfl) rfl ?_
              refine hxa_iconst (by rfl) rfl ?_
              refine hxj_cne (by rfl) rfl hk_3 (fun q25 => ?_) (fun q25 => ?_)
              ·
                refine hxa_iload (by rfl) rfl ?_
                refine hxa_iconst (by rfl) rfl ?_
                refine hxj_cne (by rfl) rfl hk_4 (fun q26 => False.elim (by omega)) (fun q26 => ?_)
                refine hxa_iload (by rfl) rfl ?_
                refine hxa_iload (by rfl) rfl ?_
                refine hxj_imulU (by rfl) (fun z27 => ?_)
                refine hxa_goto (by rfl) ?_
                refine hxj_iast (by rfl) (by rfl) rfl (by omega) (by omega) hAc5 (hbokN (by rfl)) (by rfl) (by rfl) (fun A28 hA28 eA28 fA28 gA28 => ?_)
                refine hxj_iinc (by rfl) rfl rfl hk_1 (by omega) (by omega) (fun _ => rfl) (fun z29 ez29 => ?_)
                refine hxa_goto (by rfl) ?_
                exact ih5 z18 z29 (.int z3) (.int z20) (.int z21) A28 rfl rfl hA28 (by omega) (by omega) (by omega) (by first | exact hWn hw (by omega) (by omega) (by omega) | exact hWn w4 (by omega) (by omega) (by omega)) (by omega) (by omega) (by omega)
              ·
                refine hxa_iload (by rfl) rfl ?_
                refine hxa_iload (by rfl) rfl ?_
                refine hxj_isubU (by rfl) (fun z30 => ?_)
                refine hxa_goto (by rfl) ?_
                refine hxj_iast (by rfl) (by rfl) rfl (by omega) (by omega) hAc5 (hbokN (by rfl)) (by rfl) (by rfl) (fun A31 hA31 eA31 fA31 gA31 => ?_)
                refine hxj_iinc (by rfl) rfl rfl hk_1 (by omega) (by omega) (fun _ => rfl) (fun z32 ez32 => ?_)
                refine hxa_goto (by rfl) ?_
                exact ih5 z18 z32 (.int z3) (.int z20) (.int z21) A31 rfl rfl hA31 (by omega) (by omega) (by omega) (by first | exact hWn hw (by omega) (by omega) (by omega) | exact hWn w4 (by omega) (by omega) (by omega)) (by omega) (by omega) (by omega)
            ·
              refine hxa_iload (by rfl) rfl ?_
              refine hxa_iload (by rfl) rfl ?_
              refine hxj_iaddU (by rfl) (fun z33 => ?_)
              refine hxa_goto (by rfl) ?_
              refine hxj_iast (by rfl) (by rfl) rfl (by omega) (by omega) hAc5 (hbokN (by rfl)) (by rfl) (by rfl) (fun A34 hA34 eA34 fA34 gA34 => ?_)
              refine hxj_iinc (by rfl) rfl rfl hk_1 (by omega) (by omega) (fun _ => rfl) (fun z35 ez35 => ?_)
              refine hxa_goto (by rfl) ?_
              exact ih5 z18 z35 (.int z3) (.int z20) (.int z21) A34 rfl rfl hA34 (by omega) (by omega) (by omega) (by first | exact hWn hw (by omega) (by omega) (by omega) | exact hWn w4 (by omega) (by omega) (by omega)) (by omega) (by omega) (by omega)
          ·
            refine hxa_iload (by rfl) rfl ?_
            refine hxj_zne (by rfl) rfl (fun q36 => ?_) (fun q36 => ?_)
            ·
              refine hxa_aload_n (by rfl) rfl ?_
              refine hxa_get (v := .ref 395) (by rfl) (by rfl) (by rfl) rfl ?_
              refine hxa_iload_n (by rfl) rfl ?_
              refine hxa_iconst (by rfl) rfl ?_
              refine hxj_isub (by rfl) rfl hk_1 (by omega) (by omega) (fun z37 ez37 => ?_)
              refine hxa_iload (by rfl) rfl ?_
              refine hxa_iconst (by rfl) rfl ?_
              refine hxj_cne (by rfl) rfl hk_2 (fun q38 => ?_) (fun q38 => False.elim (by omega))
              refine hxa_iload (by rfl) rfl ?_
              refine hxa_iconst (by rfl) rfl ?_
              refine hxj_cne (by rfl) rfl hk_3 (fun q39 => ?_) (fun q39 => False.elim (by omega))
              refine hxa_iload (by rfl) rfl ?_
              refine hxa_iconst (by rfl) rfl ?_
              refine hxj_cne (by rfl) rfl hk_4 (fun q40 => ?_) (fun q40 => False.elim (by omega))
              refine hxa_iload (by rfl) rfl ?_
              refine hxa_iload (by rfl) rfl ?_
              refine hxj_idivU (by rfl) rfl (by omega) (fun z41 => ?_)
              refine hxj_iast (by rfl) (by rfl) rfl (by omega) (by omega) hAc5 (hbokN (by rfl)) (by rfl) (by rfl) (fun A42 hA42 eA42 fA42 gA42 => ?_)
              refine hxj_iinc (by rfl) rfl rfl hk_1 (by omega) (by omega) (fun _ => rfl) (fun z43 ez43 => ?_)
              refine hxa_goto (by rfl) ?_
              exact ih5 z18 z43 (.int z3) (.int z20) (.int z21) A42 rfl rfl hA42 (by omega) (by omega) (by omega) (by first | exact hWn hw (by omega) (by omega) (by omega) | exact hWn w4 (by omega) (by omega) (by omega)) (by omega) (by omega) (by omega)
            ·
              refine hxa_aload_n (by rfl) rfl ?_
              refine hxa_iconst (by rfl) rfl ?_
              refine hxj_putI (by rfl) (by rfl) (by rfl) (by rfl) hAc5 (hbokN (by rfl)) (by rfl) (by rfl) (fun A44 hA44 eA44 fA44 => ?_)
              refine hxa_iconst (by rfl) rfl ?_
              exact hxa_ireturn (by rfl) rfl (hP _ _ ⟨hA44, _, rfl⟩)
  refine hxa_iconst (by rfl) rfl ?_
  refine hxa_s1 (by rfl) (Or.inl ⟨_, rfl, rfl⟩) rfl ?_
  refine hxa_iload_n (by rfl) rfl ?_
  refine hxa_s1 (by rfl) (Or.inr ⟨_, rfl, rfl⟩) rfl ?_
  exact L5 (Int.toNat (2147483647 - a1.toInt) + 1) (Int32.ofNat 0) a1 (.retAddr 0) (.retAddr 0) (.retAddr 0) A rfl rfl hA (by omega) (by omega) (by omega) (by first | exact hWn hw (by omega) (by omega) (by omega) | exact hWn w4 (by omega) (by omega) (by omega)) (by omega) (by omega) (by omega)
theorem hX163 {d : Nat} {Bn Br : Int} {A0 A : hs_A} (hA : hJ 0 Bn Br A0 A)  (a1 : Int32) (a2 : Int32) (x0 : hWt (A0.1 367 18).toInt A0 a1 a2) : hxC (d + 1) 163 hm_m163 [.ref 368, .int a1, .int a2] A (fun r A' => hJ 0 Bn Br A0 A' ∧ ∃ z : Int32, r = some (.int z)) := hxC.of (by rfl) (hY163 hA a1 a2 x0 (fun r A' h => h))
theorem hY164 {d : Nat} {A : hs_A} (a1 : Int32) (a2 : Int32) (a3 : Int32) {P : Option Value → hs_A → Prop} (hP : ∀ (r : Option Value) (A' : hs_A), (A = A' ∧ ∃ z : Int32, r = some (.int z) ∧ ((z.toInt = 1 ∧ a2.toInt ≤ a1.toInt ∧ a1.toInt ≤ a3.toInt) ∨ (z.toInt = 0 ∧ (a1.toInt < a2.toInt ∨ a3.toInt < a1.toInt)))) → P r A') : hxa (d + 0) (some (.boolean)) hm_t164 0 [.int a1, .int a2, .int a3] [] A P := by
  have k0 := hk_0
  have k1 := hk_1
  refine hxa_iload_n (by rfl) rfl ?_
  refine hxa_iload_n (by rfl) rfl ?_
  have rga1 := hn_rng a1
  have rga2 := hn_rng a2
  refine hxj_clt (by rfl) rfl rfl (fun q1 => ?_) (fun q1 => ?_)
  ·
    refine hxa_iconst (by rfl) rfl ?_
    exact hxa_ireturn (by rfl) (by rfl) (hP _ _ ⟨rfl, _, rfl, by omega⟩)
  ·
    refine hxa_iload_n (by rfl) rfl ?_
    refine hxa_iload_n (by rfl) rfl ?_
    have rga3 := hn_rng a3
    refine hxj_cgt (by rfl) rfl rfl (fun q2 => ?_) (fun q2 => ?_)
    ·
      refine hxa_iconst (by rfl) rfl ?_
      exact hxa_ireturn (by rfl) (by rfl) (hP _ _ ⟨rfl, _, rfl, by omega⟩)
    ·
      refine hxa_iconst (by rfl) rfl ?_
      refine hxa_goto (by rfl) ?_
      exact hxa_ireturn (by rfl) (by rfl) (hP _ _ ⟨rfl, _, rfl, by omega⟩)
theorem hX164 {d : Nat} {A : hs_A} (a1 : Int32) (a2 : Int32) (a3 : Int32) : hxC (d + 1) 164 hm_m164 [.int a1, .int a2, .int a3] A (fun r A' => A = A' ∧ ∃ z : Int32, r = some (.int z) ∧ ((z.toInt = 1 ∧ a2.toInt ≤ a1.toInt ∧ a1.toInt ≤ a3.toInt) ∨ (z.toInt = 0 ∧ (a1.toInt < a2.toInt ∨ a3.toInt < a1.toInt)))) := hxC.of (by rfl) (hY164 a1 a2 a3 (fun r A' h => h))
theorem hY165 {d : Nat} {A : hs_A} (a1 : Int32) (a2 : Int32) (a3 : Int32) (x0 : a2.toInt ≤ a3.toInt) {P : Option Value → hs_A → Prop} (hP : ∀ (r : Option Value) (A' : hs_A), (A = A' ∧ ∃ z : Int32, r = some (.int z) ∧ (a2.toInt ≤ z.toInt ∧ z.toInt ≤ a3.toInt)) → P r A') : hxa (d + 0) (some (.int)) hm_t165 0 [.int a1, .int a2, .int a3] [] A P := by
  refine hxa_iload_n (by rfl) rfl ?_
  refine hxa_iload_n (by rfl) rfl ?_
  have rga1 := hn_rng a1
  have rga2 := hn_rng a2
  refine hxj_cge (by rfl) rfl rfl (fun q1 => ?_) (fun q1 => ?_)
  ·
    refine hxa_iload_n (by rfl) rfl ?_
    refine hxa_iload_n (by rfl) rfl ?_
    have rga3 := hn_rng a3
    refine hxj_cle (by rfl) rfl rfl (fun q2 => ?_) (fun q2 => ?_)
    ·
      refine hxa_iload_n (by rfl) rfl ?_
      exact hxa_ireturn (by rfl) rfl (hP _ _ ⟨rfl, _, rfl, by omega⟩)
    ·
      refine hxa_iload_n (by rfl) rfl ?_
      refine hxa_goto (by rfl) ?_
      exact hxa_ireturn (by rfl) rfl (hP _ _ ⟨rfl, _, rfl, by omega⟩)
  ·
    refine hxa_iload_n (by rfl) rfl ?_
    refine hxa_goto (by rfl) ?_
    exact hxa_ireturn (by rfl) rfl (hP _ _ ⟨rfl, _, rfl, by omega⟩)
theorem hX165 {d : Nat} {A : hs_A} (a1 : Int32) (a2 : Int32) (a3 : Int32) (x0 : a2.toInt ≤ a3.toInt) : hxC (d + 1) 165 hm_m165 [.int a1, .int a2, .int a3] A (fun r A' => A = A' ∧ ∃ z : Int32, r = some (.int z) ∧ (a2.toInt ≤ z.toInt ∧ z.toInt ≤ a3.toInt)) := hxC.of (by rfl) (hY165 a1 a2 a3 x0 (fun r A' h => h))
theorem hY166 {d : Nat} {A : hs_A} (a1 : Int32) {P : Option Value → hs_A → Prop} (hP : ∀ (r : Option Value) (A' : hs_A), (A = A' ∧ ∃ z : Int32, r = some (.int z)) → P r A') : hxa (d + 0) (some (.int)) hm_t166 0 [.int a1, .retAddr 0, .retAddr 0] [] A P := by
  have k0 := hk_0
  have L4 : ∀ (m4 : Nat) (x4_1 : Int32) (x4_2 : Int32) (bx4_2 : 0 ≤ x4_2.toInt) (cx4_2 : x4_2.toInt ≤ 10) (hm4 : 10 - x4_2.toInt < (m4 : Int)), hxa (d + 0) (some (.int)) hm_t166 4 [.int a1, .int x4_1, .int x4_2] [] A P := by
    intro m4
    induction m4 with
    | zero => intro x4_1 x4_2 bx4_2 cx4_2 hm4; have := hn_rng x4_1; exact False.elim (by omega)
    | succ m4 ih4 =>
      intro x4_1 x4_2 bx4_2 cx4_2 hm4
      refine hxa_iload_n (by rfl) rfl ?_
      refine hxa_bipush (by rfl) rfl ?_
      refine hxj_cge (by rfl) rfl hk_10 (fun q1 => ?_) (fun q1 => ?_)
      ·
        refine hxa_iload_n (by rfl) rfl ?_
        exact hxa_ireturn (by rfl) rfl (hP _ _ ⟨rfl, _, rfl⟩)
      ·
        refine hxa_iload_n (by rfl) rfl ?_
        refine hxa_iload_n (by rfl) rfl ?_
        refine hxa_iload_n (by rfl) rfl ?_
        refine hxj_ishrU (by rfl) (fun z2 => ?_)
        refine hxa_iconst (by rfl) rfl ?_
        refine hxj_iandR (by rfl) hk_1 (by omega) (fun z3 ez3 fz3 => ?_)
        refine hxj_iaddU (by rfl) (fun z4 => ?_)
        refine hxa_s1 (by rfl) (Or.inl ⟨_, rfl, rfl⟩) rfl ?_
        refine hxj_iinc (by rfl) rfl rfl hk_1 (by omega) (by omega) (fun _ => rfl) (fun z5 ez5 => ?_)
        refine hxa_goto (by rfl) ?_
        exact ih4 z4 z5 (by omega) (by omega) (by omega)
  refine hxa_iconst (by rfl) rfl ?_
  refine hxa_s1 (by rfl) (Or.inl ⟨_, rfl, rfl⟩) rfl ?_
  refine hxa_iconst (by rfl) rfl ?_
  refine hxa_s1 (by rfl) (Or.inl ⟨_, rfl, rfl⟩) rfl ?_
  exact L4 (Int.toNat (10 - 0) + 1) (Int32.ofNat 0) (Int32.ofNat 0) (by omega) (by omega) (by omega)
theorem hX166 {d : Nat} {A : hs_A} (a1 : Int32) : hxC (d + 1) 166 hm_m166 [.int a1] A (fun r A' => A = A' ∧ ∃ z : Int32, r = some (.int z)) := hxC.of (by rfl) (hY166 a1 (fun r A' h => h))
theorem hY167 {d : Nat} {Bn Br : Int} {A0 A : hs_A} (hA : hJ 0 Bn Br A0 A)  (a1 : Int32) {P : Option Value → hs_A → Prop} (hP : ∀ (r : Option Value) (A' : hs_A), (A = A' ∧ ∃ z : Int32, r = some (.int z) ∧ ((z.toInt = 1 ∧ 0 ≤ a1.toInt ∧ a1.toInt ≤ 9) ∨ (z.toInt = 0))) → P r A') : hxa (d + 1) (some (.boolean)) hm_t167 0 [.ref 368, .int a1] [] A P := by
  have k0 := hk_0
  refine hxa_iload_n (by rfl) rfl ?_
  refine hxa_iconst (by rfl) rfl ?_
  refine hxa_aload_n (by rfl) rfl ?_
  refine hxa_get (v := .ref 377) (by rfl) (by rfl) (by rfl) rfl ?_
  refine hxa_aload_n (by rfl) rfl ?_
  refine hxj_getB (by rfl) (by rfl) (by rfl) hA (by rfl) (fun z1 ez1 fz1 gz1 => ?_)
  refine hxj_ialdB (by rfl) (by rfl) rfl (by omega) (by omega) hA (by rfl) (fun z2 ez2 fz2 gz2 => ?_)
  refine hxa_iconst (by rfl) rfl ?_
  refine hxj_isub (by rfl) rfl hk_1 (by omega) (by omega) (fun z3 ez3 => ?_)
  refine hxa_call2 (by rfl) (by decide) (by rfl) (by rfl) (by rfl) (hX164 (d := d + 0)  a1 (Int32.ofNat 0) z3) ?_
  rintro _ _ ⟨rfl, z4, rfl, fz4⟩
  rcases fz4 with fz4 | fz4
  ·
    exact hxa_ireturn (by rfl) (hn_fitB (by omega) (by omega)) (hP _ _ ⟨rfl, _, rfl, by omega⟩)
  ·
    exact hxa_ireturn (by rfl) (hn_fitB (by omega) (by omega)) (hP _ _ ⟨rfl, _, rfl, by omega⟩)
theorem hX167 {d : Nat} {Bn Br : Int} {A0 A : hs_A} (hA : hJ 0 Bn Br A0 A)  (a1 : Int32) : hxC (d + 2) 167 hm_m167 [.ref 368, .int a1] A (fun r A' => A = A' ∧ ∃ z : Int32, r = some (.int z) ∧ ((z.toInt = 1 ∧ 0 ≤ a1.toInt ∧ a1.toInt ≤ 9) ∨ (z.toInt = 0))) := hxC.of (by rfl) (hY167 hA a1 (fun r A' h => h))
theorem hY168 {d : Nat} {A : hs_A} (a1 : Int32) {P : Option Value → hs_A → Prop} (hP : ∀ (r : Option Value) (A' : hs_A), (A = A' ∧ ∃ z : Int32, r = some (.int z) ∧ ((z.toInt = 1 ∧ 0 ≤ a1.toInt ∧ a1.toInt ≤ 255) ∨ (z.toInt = 0))) → P r A') : hxa (d + 1) (some (.boolean)) hm_t168 0 [.int a1] [] A P := by
  have k0 := hk_0
  have k255 := hk_255
  refine hxa_iload_n (by rfl) rfl ?_
  refine hxa_iconst (by rfl) rfl ?_
  refine hxa_sipush (by rfl) rfl ?_
  refine hxa_call2 (by rfl) (by decide) (by rfl) (by rfl) (by rfl) (hX164 (d := d + 0)  a1 (Int32.ofNat 0) (Int32.ofNat 255)) ?_
  rintro _ _ ⟨rfl, z1, rfl, fz1⟩
  rcases fz1 with fz1 | fz1
  ·
    exact hxa_ireturn (by rfl) (hn_fitB (by omega) (by omega)) (hP _ _ ⟨rfl, _, rfl, by omega⟩)
  ·
    exact hxa_ireturn (by rfl) (hn_fitB (by omega) (by omega)) (hP _ _ ⟨rfl, _, rfl, by omega⟩)
theorem hX168 {d : Nat} {A : hs_A} (a1 : Int32) : hxC (d + 2) 168 hm_m168 [.int a1] A (fun r A' => A = A' ∧ ∃ z : Int32, r = some (.int z) ∧ ((z.toInt = 1 ∧ 0 ≤ a1.toInt ∧ a1.toInt ≤ 255) ∨ (z.toInt = 0))) := hxC.of (by rfl) (hY168 a1 (fun r A' h => h))
theorem hY171 {d : Nat} {Bn Br : Int} {A0 A : hs_A} (hA : hJ 0 Bn Br A0 A)   {P : Option Value → hs_A → Prop} (hP : ∀ (r : Option Value) (A' : hs_A), (hJ 0 Bn Bn A0 A' ∧ r = none) → P r A') : hxa (d + 0) none hm_t171 0 [.ref 368, .retAddr 0] [] A P := by
  have k0 := hk_0
  have hB0 := hA.pos
  have H1 : hJ 0 Bn (Br + Bn) A0 A := hJ.mono hA (by omega) (by omega)
  have L2 : ∀ (m2 : Nat) (x2_1 : Int32) (Ac2 : hs_A) (hAc2 : hJ 0 Bn (Br + Bn) A0 Ac2) (bx2_1 : 0 ≤ x2_1.toInt) (cx2_1 : x2_1.toInt ≤ 73) (u2_0 : x2_1.toInt ≤ 70 ∨ (Ac2.2.1 396 70).toInt ≤ Bn) (hm2 : 73 - x2_1.toInt < (m2 : Int)), hxa (d + 0) none hm_t171 2 [.ref 368, .int x2_1] [] Ac2 P := by
    intro m2
    induction m2 with
    | zero => intro x2_1 Ac2 hAc2 bx2_1 cx2_1 u2_0 hm2;  exact False.elim (by omega)
    | succ m2 ih2 =>
      intro x2_1 Ac2 hAc2 bx2_1 cx2_1 u2_0 hm2
      refine hxa_iload_n (by rfl) rfl ?_
      refine hxa_bipush (by rfl) rfl ?_
      refine hxj_cge (by rfl) rfl hk_73 (fun q2 => ?_) (fun q2 => ?_)
      ·
        have H3 : hJ 0 Bn Bn A0 Ac2 := hJ.low hAc2 (by omega)
        refine hxa_aload_n (by rfl) rfl ?_
        refine hxa_aload_n (by rfl) rfl ?_
        refine hxa_get (v := .ref 383) (by rfl) (by rfl) (by rfl) rfl ?_
        refine hxa_aload_n (by rfl) rfl ?_
        refine hxj_getB (by rfl) (by rfl) (by rfl) H3 (by rfl) (fun z4 ez4 fz4 gz4 => ?_)
        refine hxj_iald (by rfl) (by rfl) rfl (by omega) (by omega) (fun z5 ez5 => ?_)
        refine hxj_putI (by rfl) (by rfl) (by rfl) (by rfl) H3 (hbokN (by rfl)) (by rfl) (by rfl) (fun A6 hA6 eA6 fA6 => ?_)
        refine hxa_aload_n (by rfl) rfl ?_
        refine hxa_iconst (by rfl) rfl ?_
        refine hxj_putI (by rfl) (by rfl) (by rfl) (by rfl) hA6 (hbokN (by rfl)) (by rfl) (by rfl) (fun A7 hA7 eA7 fA7 => ?_)
        exact hxa_return (by rfl) rfl (hP _ _ ⟨hA7, rfl⟩)
      ·
        refine hxa_aload_n (by rfl) rfl ?_
        refine hxa_get (v := .ref 397) (by rfl) (by rfl) (by rfl) rfl ?_
        refine hxa_iload_n (by rfl) rfl ?_
        refine hxa_aload_n (by rfl) rfl ?_
        refine hxa_get (v := .ref 396) (by rfl) (by rfl) (by rfl) rfl ?_
        refine hxa_iload_n (by rfl) rfl ?_
        refine hxj_iald395 (by rfl) rfl (by omega) (by omega) hAc2 (fun z8 ez8 fz8 => ?_)
        refine hxj_iast396 (by rfl) rfl (by omega) (by omega) rfl hAc2 (by omega) (fun A9 hA9 eA9 fA9 gA9 => ?_)
        refine hxj_iinc (by rfl) rfl rfl hk_1 (by omega) (by omega) (fun _ => rfl) (fun z10 ez10 => ?_)
        refine hxa_goto (by rfl) ?_
        exact ih2 z10 A9 hA9 (by omega) (by omega) (by first | (left; omega) | exact hcp (by assumption) (by omega) (by assumption) (by assumption) u2_0) (by omega)
  refine hxa_iconst (by rfl) rfl ?_
  refine hxa_s1 (by rfl) (Or.inl ⟨_, rfl, rfl⟩) rfl ?_
  exact L2 (Int.toNat (73 - 0) + 1) (Int32.ofNat 0) A H1 (by omega) (by omega) (by first | (left; omega) | exact hcp (by assumption) (by omega) (by assumption) (by assumption) u2_0) (by omega)
theorem hX171 {d : Nat} {Bn Br : Int} {A0 A : hs_A} (hA : hJ 0 Bn Br A0 A)   : hxC (d + 1) 171 hm_m171 [.ref 368] A (fun r A' => hJ 0 Bn Bn A0 A' ∧ r = none) := hxC.of (by rfl) (hY171 hA  (fun r A' h => h))
theorem hY172 {d : Nat} {Bn Br : Int} {A0 A : hs_A} (hA : hJ 0 Bn Br A0 A)   {P : Option Value → hs_A → Prop} (hP : ∀ (r : Option Value) (A' : hs_A), (hJ 0 Bn Bn A0 A' ∧ r = none) → P r A') : hxa (d + 1) none hm_t172 0 [.ref 368] [] A P := by
  refine hxa_aload_n (by rfl) rfl ?_
  refine hxa_call0 (by rfl) (by rfl) (by rfl) (by rfl) (by rfl) (by rfl) (hX171 (d := d + 0) hA ) ?_
  rintro _ A1 ⟨hA1, rfl⟩
  refine hxa_aload_n (by rfl) rfl ?_
  refine hxa_iconst (by rfl) rfl ?_
  refine hxj_putI (by rfl) (by rfl) (by rfl) (by rfl) hA1 (hbokN (by rfl)) (by rfl) (by rfl) (fun A2 hA2 eA2 fA2 => ?_)
  exact hxa_return (by rfl) rfl (hP _ _ ⟨hA2, rfl⟩)
theorem hX172 {d : Nat} {Bn Br : Int} {A0 A : hs_A} (hA : hJ 0 Bn Br A0 A)   : hxC (d + 2) 172 hm_m172 [.ref 368] A (fun r A' => hJ 0 Bn Bn A0 A' ∧ r = none) := hxC.of (by rfl) (hY172 hA  (fun r A' h => h))
theorem hY173 {d : Nat} {A : hs_A} (a1 : Int32) (a2 : Int32) {P : Option Value → hs_A → Prop} (hP : ∀ (r : Option Value) (A' : hs_A), (A = A' ∧ ∃ z : Int32, r = some (.int z)) → P r A') : hxa (d + 0) (some (.int)) hm_t173 0 [.int a1, .int a2, .retAddr 0] [] A P := by
  refine hxa_iload_n (by rfl) rfl ?_
  refine hxa_iload_n (by rfl) rfl ?_
  refine hxj_ixorU (by rfl) (fun z1 => ?_)
  refine hxa_ldc_w (by rfl) rfl ?_
  refine hxj_imulU (by rfl) (fun z2 => ?_)
  refine hxa_sipush (by rfl) rfl ?_
  refine hxj_iaddU (by rfl) (fun z3 => ?_)
  refine hxa_s1 (by rfl) (Or.inl ⟨_, rfl, rfl⟩) rfl ?_
  refine hxa_iload_n (by rfl) rfl ?_
  refine hxa_iload_n (by rfl) rfl ?_
  refine hxa_bipush (by rfl) rfl ?_
  refine hxj_iushrU (by rfl) (fun z4 => ?_)
  refine hxj_ixorU (by rfl) (fun z5 => ?_)
  exact hxa_ireturn (by rfl) rfl (hP _ _ ⟨rfl, _, rfl⟩)
theorem hX173 {d : Nat} {A : hs_A} (a1 : Int32) (a2 : Int32) : hxC (d + 1) 173 hm_m173 [.int a1, .int a2] A (fun r A' => A = A' ∧ ∃ z : Int32, r = some (.int z)) := hxC.of (by rfl) (hY173 a1 a2 (fun r A' h => h))
theorem hY174 {d : Nat} {Bn Br : Int} {A0 A : hs_A} (hA : hJ 0 Bn Br A0 A)  (a1 : Int32) {P : Option Value → hs_A → Prop} (hP : ∀ (r : Option Value) (A' : hs_A), (A = A' ∧ ∃ z : Int32, r = some (.int z)) → P r A') : hxa (d + 1) (some (.int)) hm_t174 0 [.ref 368, .int a1] [] A P := by
  have k137 := hk_137
  refine hxa_aload_n (by rfl) rfl ?_
  refine hxj_getI (by rfl) (by rfl) (by rfl) (fun z1 ez1 => ?_)
  refine hxa_sipush (by rfl) rfl ?_
  refine hxa_call2 (by rfl) (by decide) (by rfl) (by rfl) (by rfl) (hX173 (d := d + 0)  z1 (Int32.ofNat 137)) ?_
  rintro _ _ ⟨rfl, z2, rfl⟩
  refine hxa_iload_n (by rfl) rfl ?_
  refine hxa_call2 (by rfl) (by decide) (by rfl) (by rfl) (by rfl) (hX173 (d := d + 0)  z2 a1) ?_
  rintro _ _ ⟨rfl, z3, rfl⟩
  refine hxa_iconst (by rfl) rfl ?_
  refine hxj_iushrU (by rfl) (fun z4 => ?_)
  refine hxa_bipush (by rfl) rfl ?_
  refine hxj_iremU (by rfl) hk_100 (by omega) (fun z5 => ?_)
  exact hxa_ireturn (by rfl) rfl (hP _ _ ⟨rfl, _, rfl⟩)
theorem hX174 {d : Nat} {Bn Br : Int} {A0 A : hs_A} (hA : hJ 0 Bn Br A0 A)  (a1 : Int32) : hxC (d + 2) 174 hm_m174 [.ref 368, .int a1] A (fun r A' => A = A' ∧ ∃ z : Int32, r = some (.int z)) := hxC.of (by rfl) (hY174 hA a1 (fun r A' h => h))
theorem hY175 {d : Nat} {Bn Br : Int} {A0 A : hs_A} (hA : hJ 0 Bn Br A0 A)  (a1 : Int32) (p1 : 0 ≤ a1.toInt) (q1 : a1.toInt ≤ 9) (a2 : Int32) (a3 : Int32) (a4 : Int32) {P : Option Value → hs_A → Prop} (hP : ∀ (r : Option Value) (A' : hs_A), (hJ 0 Bn Br A0 A' ∧ r = none) → P r A') : hxa (d + 1) none hm_t175 0 [.ref 368, .int a1, .int a2, .int a3, .int a4] [] A P := by
  refine hxa_aload_n (by rfl) rfl ?_
  refine hxa_get (v := .ref 394) (by rfl) (by rfl) (by rfl) rfl ?_
  refine hxa_iconst (by rfl) rfl ?_
  refine hxa_iload_n (by rfl) rfl ?_
  refine hxj_iast (by rfl) (by rfl) hk_0 (by omega) (by omega) hA (hbokN (by rfl)) (by rfl) (by rfl) (fun A1 hA1 eA1 fA1 gA1 => ?_)
  refine hxa_aload_n (by rfl) rfl ?_
  refine hxa_get (v := .ref 394) (by rfl) (by rfl) (by rfl) rfl ?_
  refine hxa_iconst (by rfl) rfl ?_
  refine hxa_iload (by rfl) rfl ?_
  refine hxa_bipush (by rfl) rfl ?_
  refine hxj_iremU (by rfl) hk_24 (by omega) (fun z2 => ?_)
  refine hxj_iast (by rfl) (by rfl) hk_1 (by omega) (by omega) hA1 (hbokN (by rfl)) (by rfl) (by rfl) (fun A3 hA3 eA3 fA3 gA3 => ?_)
  refine hxa_aload_n (by rfl) rfl ?_
  refine hxa_get (v := .ref 394) (by rfl) (by rfl) (by rfl) rfl ?_
  refine hxa_iconst (by rfl) rfl ?_
  refine hxa_iload (by rfl) rfl ?_
  refine hxa_bipush (by rfl) rfl ?_
  refine hxj_idivU (by rfl) hk_24 (by omega) (fun z4 => ?_)
  refine hxj_iast (by rfl) (by rfl) hk_2 (by omega) (by omega) hA3 (hbokN (by rfl)) (by rfl) (by rfl) (fun A5 hA5 eA5 fA5 gA5 => ?_)
  refine hxa_aload_n (by rfl) rfl ?_
  refine hxa_get (v := .ref 394) (by rfl) (by rfl) (by rfl) rfl ?_
  refine hxa_iconst (by rfl) rfl ?_
  refine hxa_iload_n (by rfl) rfl ?_
  refine hxj_iast (by rfl) (by rfl) hk_3 (by omega) (by omega) hA5 (hbokN (by rfl)) (by rfl) (by rfl) (fun A6 hA6 eA6 fA6 gA6 => ?_)
  refine hxa_aload_n (by rfl) rfl ?_
  refine hxa_get (v := .ref 394) (by rfl) (by rfl) (by rfl) rfl ?_
  refine hxa_iconst (by rfl) rfl ?_
  refine hxa_aload_n (by rfl) rfl ?_
  refine hxa_get (v := .ref 397) (by rfl) (by rfl) (by rfl) rfl ?_
  refine hxa_iload_n (by rfl) rfl ?_
  refine hxj_iald396 (by rfl) rfl (by omega) (by omega) hA6 (fun z7 ez7 fz7 => ?_)
  refine hxa_call2 (by rfl) (by decide) (by rfl) (by rfl) (by rfl) (hX166 (d := d + 0)  z7) ?_
  rintro _ _ ⟨rfl, z8, rfl⟩
  refine hxj_iast (by rfl) (by rfl) hk_4 (by omega) (by omega) hA6 (hbokN (by rfl)) (by rfl) (by rfl) (fun A9 hA9 eA9 fA9 gA9 => ?_)
  refine hxa_aload_n (by rfl) rfl ?_
  refine hxa_get (v := .ref 394) (by rfl) (by rfl) (by rfl) rfl ?_
  refine hxa_iconst (by rfl) rfl ?_
  refine hxa_aload_n (by rfl) rfl ?_
  refine hxa_get (v := .ref 397) (by rfl) (by rfl) (by rfl) rfl ?_
  refine hxa_bipush (by rfl) rfl ?_
  refine hxa_iload_n (by rfl) rfl ?_
  refine hxj_iadd (by rfl) hk_10 rfl (by omega) (by omega) (fun z10 ez10 => ?_)
  refine hxj_iald396 (by rfl) rfl (by omega) (by omega) hA9 (fun z11 ez11 fz11 => ?_)
  refine hxj_iast (by rfl) (by rfl) hk_5 (by omega) (by omega) hA9 (hbokN (by rfl)) (by rfl) (by rfl) (fun A12 hA12 eA12 fA12 gA12 => ?_)
  refine hxa_aload_n (by rfl) rfl ?_
  refine hxa_get (v := .ref 394) (by rfl) (by rfl) (by rfl) rfl ?_
  refine hxa_bipush (by rfl) rfl ?_
  refine hxa_iload_n (by rfl) rfl ?_
  refine hxj_iast (by rfl) (by rfl) hk_6 (by omega) (by omega) hA12 (hbokN (by rfl)) (by rfl) (by rfl) (fun A13 hA13 eA13 fA13 gA13 => ?_)
  refine hxa_aload_n (by rfl) rfl ?_
  refine hxa_get (v := .ref 394) (by rfl) (by rfl) (by rfl) rfl ?_
  refine hxa_bipush (by rfl) rfl ?_
  refine hxa_aload_n (by rfl) rfl ?_
  refine hxa_get (v := .ref 377) (by rfl) (by rfl) (by rfl) rfl ?_
  refine hxa_aload_n (by rfl) rfl ?_
  refine hxj_getB (by rfl) (by rfl) (by rfl) hA13 (by rfl) (fun z14 ez14 fz14 gz14 => ?_)
  refine hxj_ialdB (by rfl) (by rfl) rfl (by omega) (by omega) hA13 (by rfl) (fun z15 ez15 fz15 gz15 => ?_)
  refine hxj_iast (by rfl) (by rfl) hk_7 (by omega) (by omega) hA13 (hbokN (by rfl)) (by rfl) (by rfl) (fun A16 hA16 eA16 fA16 gA16 => ?_)
  refine hxa_aload_n (by rfl) rfl ?_
  refine hxa_get (v := .ref 394) (by rfl) (by rfl) (by rfl) rfl ?_
  refine hxa_bipush (by rfl) rfl ?_
  refine hxa_aload_n (by rfl) rfl ?_
  refine hxa_get (v := .ref 397) (by rfl) (by rfl) (by rfl) rfl ?_
  refine hxa_bipush (by rfl) rfl ?_
  refine hxa_iload_n (by rfl) rfl ?_
  refine hxj_iadd (by rfl) hk_40 rfl (by omega) (by omega) (fun z17 ez17 => ?_)
  refine hxj_iald396 (by rfl) rfl (by omega) (by omega) hA16 (fun z18 ez18 fz18 => ?_)
  refine hxa_call2 (by rfl) (by decide) (by rfl) (by rfl) (by rfl) (hX166 (d := d + 0)  z18) ?_
  rintro _ _ ⟨rfl, z19, rfl⟩
  refine hxj_iast (by rfl) (by rfl) hk_8 (by omega) (by omega) hA16 (hbokN (by rfl)) (by rfl) (by rfl) (fun A20 hA20 eA20 fA20 gA20 => ?_)
  exact hxa_return (by rfl) rfl (hP _ _ ⟨hA20, rfl⟩)
theorem hX175 {d : Nat} {Bn Br : Int} {A0 A : hs_A} (hA : hJ 0 Bn Br A0 A)  (a1 : Int32) (p1 : 0 ≤ a1.toInt) (q1 : a1.toInt ≤ 9) (a2 : Int32) (a3 : Int32) (a4 : Int32) : hxC (d + 2) 175 hm_m175 [.ref 368, .int a1, .int a2, .int a3, .int a4] A (fun r A' => hJ 0 Bn Br A0 A' ∧ r = none) := hxC.of (by rfl) (hY175 hA a1 p1 q1 a2 a3 a4 (fun r A' h => h))
theorem hY176 {d : Nat} {Bn Br : Int} {A0 A : hs_A} (hA : hJ 0 Bn Br A0 A)  (a1 : Int32) (p1 : 0 ≤ a1.toInt) (q1 : a1.toInt ≤ 3) (a2 : Int32) {P : Option Value → hs_A → Prop} (hP : ∀ (r : Option Value) (A' : hs_A), (hJ 0 Bn Br A0 A' ∧ ∃ z : Int32, r = some (.int z)) → P r A') : hxa (d + 1) (some (.int)) hm_t176 0 [.ref 368, .int a1, .int a2, .retAddr 0, .retAddr 0, .retAddr 0, .retAddr 0] [] A P := by
  have k0 := hk_0
  have L39 : ∀ (m39 : Nat) (x39_3 : Int32) (x39_4 : Int32) (x39_5 : Value) (x39_6 : Value) (Ac39 : hs_A) (hx39_5 : hc_two (some x39_5) = false) (hAc39 : hJ 0 Bn Br A0 Ac39) (bx39_3 : 0 ≤ x39_3.toInt) (cx39_3 : x39_3.toInt ≤ 7) (u39_0 : x39_3.toInt = 4 * (A0.1 367 18).toInt + a1.toInt) (u39_1 : (A0.2.1 383 x39_3.toNatClampNeg).toInt ≤ x39_4.toInt) (hm39 : 2147483647 - x39_4.toInt < (m39 : Int)), hxa (d + 1) (some (.int)) hm_t176 39 [.ref 368, .int a1, .int a2, .int x39_3, .int x39_4, x39_5, x39_6] [] Ac39 P := by
    intro m39
    induction m39 with
    | zero => intro x39_3 x39_4 x39_5 x39_6 Ac39 hx39_5 hAc39 bx39_3 cx39_3 u39_0 u39_1 hm39; have := hn_rng x39_4; exact False.elim (by omega)
    | succ m39 ih39 =>
      intro x39_3 x39_4 x39_5 x39_6 Ac39 hx39_5 hAc39 bx39_3 cx39_3 u39_0 u39_1 hm39
      refine hxa_iload (by rfl) rfl ?_
      refine hxa_aload_n (by rfl) rfl ?_
      refine hxa_get (v := .ref 385) (by rfl) (by rfl) (by rfl) rfl ?_
      refine hxa_iload_n (by rfl) rfl ?_
      refine hxj_iald (by rfl) (by rfl) rfl (by omega) (by omega) (fun z1 ez1 => ?_)
      have rgx39_4 := hn_rng x39_4
      have rgz1 := hn_rng z1
      refine hxj_cge (by rfl) rfl rfl (fun q2 => ?_) (fun q2 => ?_)
      ·
        refine hxa_iconst (by rfl) rfl ?_
        exact hxa_ireturn (by rfl) rfl (hP _ _ ⟨hAc39, _, rfl⟩)
      ·
        obtain ⟨⟨F0, F1⟩, F2, F3⟩ := hZc hAc39 (by omega) u39_0 (by omega) (by omega) ez1 u39_1 (by omega)
        refine hxa_aload_n (by rfl) rfl ?_
        refine hxa_get (v := .ref 386) (by rfl) (by rfl) (by rfl) rfl ?_
        refine hxa_iload (by rfl) rfl ?_
        refine hxj_zald (by rfl) (by rfl) rfl (by omega) (by omega) (fun z3 ez3 => ?_)
        have v56 := hfr hAc39 (by rfl) ez3
        refine hxj_zeq (by rfl) rfl (fun q4 => ?_) (fun q4 => ?_)
        ·
          refine hxa_aload_n (by rfl) rfl ?_
          refine hxa_aload_n (by rfl) rfl ?_
          refine hxa_get (v := .ref 389) (by rfl) (by rfl) (by rfl) rfl ?_
          refine hxa_iload (by rfl) rfl ?_
          refine hxj_iald (by rfl) (by rfl) rfl (by omega) (by omega) (fun z5 ez5 => ?_)
          refine hxa_aload_n (by rfl) rfl ?_
          refine hxa_get (v := .ref 390) (by rfl) (by rfl) (by rfl) rfl ?_
          refine hxa_iload (by rfl) rfl ?_
          refine hxj_iald (by rfl) (by rfl) rfl (by omega) (by omega) (fun z6 ez6 => ?_)
          have w134 : hWt (A0.1 367 18).toInt A0 z5 z6 := by
            rw [← hfr hAc39 (by rfl) ez5, ← hfr hAc39 (by rfl) ez6]
            exact F3
          refine hxa_call0 (by rfl) (by rfl) (by rfl) (by rfl) (by rfl) (by rfl) (hX163 (d := d + 0) hAc39 z5 z6 (by assumption)) ?_
          rintro _ A7 ⟨hA7, z8, rfl⟩
          refine hxa_s1 (by rfl) (Or.inr ⟨_, rfl, rfl⟩) rfl ?_
          refine hxa_aload_n (by rfl) rfl ?_
          refine hxj_getI (by rfl) (by rfl) (by rfl) (fun z9 ez9 => ?_)
          refine hxj_zeq (by rfl) rfl (fun q10 => ?_) (fun q10 => ?_)
          ·
            refine hxa_iload (by rfl) rfl ?_
            exact hxa_ireturn (by rfl) rfl (hP _ _ ⟨hA7, _, rfl⟩)
          ·
            refine hxa_iconst (by rfl) rfl ?_
            refine hxa_goto (by rfl) ?_
            exact hxa_ireturn (by rfl) rfl (hP _ _ ⟨hA7, _, rfl⟩)
        ·
          refine hxa_aload_n (by rfl) rfl ?_
          refine hxa_aload_n (by rfl) rfl ?_
          refine hxa_get (v := .ref 387) (by rfl) (by rfl) (by rfl) rfl ?_
          refine hxa_iload (by rfl) rfl ?_
          refine hxj_iald (by rfl) (by rfl) rfl (by omega) (by omega) (fun z11 ez11 => ?_)
          refine hxa_aload_n (by rfl) rfl ?_
          refine hxa_get (v := .ref 388) (by rfl) (by rfl) (by rfl) rfl ?_
          refine hxa_iload (by rfl) rfl ?_
          refine hxj_iald (by rfl) (by rfl) rfl (by omega) (by omega) (fun z12 ez12 => ?_)
          have w75 : hWt (A0.1 367 18).toInt A0 z11 z12 := by
            rw [← hfr hAc39 (by rfl) ez11, ← hfr hAc39 (by rfl) ez12]
            exact (F2 (by rw [v56]; omega)).1
          refine hxa_call0 (by rfl) (by rfl) (by rfl) (by rfl) (by rfl) (by rfl) (hX163 (d := d + 0) hAc39 z11 z12 (by assumption)) ?_
          rintro _ A13 ⟨hA13, z14, rfl⟩
          refine hxa_s1 (by rfl) (Or.inr ⟨_, rfl, rfl⟩) rfl ?_
          refine hxa_aload_n (by rfl) rfl ?_
          refine hxa_aload_n (by rfl) rfl ?_
          refine hxa_get (v := .ref 388) (by rfl) (by rfl) (by rfl) rfl ?_
          refine hxa_iload (by rfl) rfl ?_
          refine hxj_iald (by rfl) (by rfl) rfl (by omega) (by omega) (fun z15 ez15 => ?_)
          refine hxa_aload_n (by rfl) rfl ?_
          refine hxa_get (v := .ref 389) (by rfl) (by rfl) (by rfl) rfl ?_
          refine hxa_iload (by rfl) rfl ?_
          refine hxj_iald (by rfl) (by rfl) rfl (by omega) (by omega) (fun z16 ez16 => ?_)
          have w95 : hWt (A0.1 367 18).toInt A0 z15 z16 := by
            rw [← hfr hA13 (by rfl) ez15, ← hfr hA13 (by rfl) ez16]
            exact (F2 (by rw [v56]; omega)).2
          refine hxa_call0 (by rfl) (by rfl) (by rfl) (by rfl) (by rfl) (by rfl) (hX163 (d := d + 0) hA13 z15 z16 (by assumption)) ?_
          rintro _ A17 ⟨hA17, z18, rfl⟩
          refine hxa_s1 (by rfl) (Or.inr ⟨_, rfl, rfl⟩) rfl ?_
          refine hxa_aload_n (by rfl) rfl ?_
          refine hxj_getI (by rfl) (by rfl) (by rfl) (fun z19 ez19 => ?_)
          refine hxj_zeq (by rfl) rfl (fun q20 => ?_) (fun q20 => ?_)
          ·
            refine hxa_iload (by rfl) rfl ?_
            refine hxa_iload (by rfl) rfl ?_
            have rgz14 := hn_rng z14
            have rgz18 := hn_rng z18
            refine hxj_clt (by rfl) rfl rfl (fun q21 => ?_) (fun q21 => ?_)
            ·
              refine hxa_aload_n (by rfl) rfl ?_
              refine hxa_aload_n (by rfl) rfl ?_
              refine hxa_get (v := .ref 389) (by rfl) (by rfl) (by rfl) rfl ?_
              refine hxa_iload (by rfl) rfl ?_
              refine hxj_iald (by rfl) (by rfl) rfl (by omega) (by omega) (fun z22 ez22 => ?_)
              refine hxa_aload_n (by rfl) rfl ?_
              refine hxa_get (v := .ref 390) (by rfl) (by rfl) (by rfl) rfl ?_
              refine hxa_iload (by rfl) rfl ?_
              refine hxj_iald (by rfl) (by rfl) rfl (by omega) (by omega) (fun z23 ez23 => ?_)
              have w134 : hWt (A0.1 367 18).toInt A0 z22 z23 := by
                rw [← hfr hA17 (by rfl) ez22, ← hfr hA17 (by rfl) ez23]
                exact F3
              refine hxa_call0 (by rfl) (by rfl) (by rfl) (by rfl) (by rfl) (by rfl) (hX163 (d := d + 0) hA17 z22 z23 (by assumption)) ?_
              rintro _ A24 ⟨hA24, z25, rfl⟩
              refine hxa_s1 (by rfl) (Or.inr ⟨_, rfl, rfl⟩) rfl ?_
              refine hxa_aload_n (by rfl) rfl ?_
              refine hxj_getI (by rfl) (by rfl) (by rfl) (fun z26 ez26 => ?_)
              refine hxj_zeq (by rfl) rfl (fun q27 => ?_) (fun q27 => ?_)
              ·
                refine hxa_iload (by rfl) rfl ?_
                exact hxa_ireturn (by rfl) rfl (hP _ _ ⟨hA24, _, rfl⟩)
              ·
                refine hxa_iconst (by rfl) rfl ?_
                refine hxa_goto (by rfl) ?_
                exact hxa_ireturn (by rfl) rfl (hP _ _ ⟨hA24, _, rfl⟩)
            ·
              refine hxa_goto (by rfl) ?_
              refine hxj_iinc (by rfl) rfl rfl hk_1 (by omega) (by omega) (fun _ => rfl) (fun z28 ez28 => ?_)
              refine hxa_goto (by rfl) ?_
              exact ih39 x39_3 z28 (.int z14) (.int z18) A17 rfl hA17 (by omega) (by omega) (by omega) (by first | omega | (rw [v36]; omega)) (by omega)
          ·
            refine hxa_iconst (by rfl) rfl ?_
            exact hxa_ireturn (by rfl) rfl (hP _ _ ⟨hA17, _, rfl⟩)
  refine hxa_iconst (by rfl) rfl ?_
  refine hxa_aload_n (by rfl) rfl ?_
  refine hxj_getB (by rfl) (by rfl) (by rfl) hA (by rfl) (fun z29 ez29 fz29 gz29 => ?_)
  have v2 : (A0.1 367 18).toInt = z29.toInt := by rw [hfrf hA rfl ez29]
  refine hxj_imul (by rfl) hk_4 rfl (by omega) (by omega) (fun z30 ez30 => ?_)
  refine hxa_iload_n (by rfl) rfl ?_
  refine hxj_iadd (by rfl) rfl rfl (by omega) (by omega) (fun z31 ez31 => ?_)
  refine hxa_s1 (by rfl) (Or.inl ⟨_, rfl, rfl⟩) rfl ?_
  refine hxa_aload_n (by rfl) rfl ?_
  refine hxa_get (v := .ref 384) (by rfl) (by rfl) (by rfl) rfl ?_
  refine hxa_iload_n (by rfl) rfl ?_
  refine hxj_iald (by rfl) (by rfl) rfl (by omega) (by omega) (fun z32 ez32 => ?_)
  refine hxa_aload_n (by rfl) rfl ?_
  refine hxa_get (v := .ref 385) (by rfl) (by rfl) (by rfl) rfl ?_
  refine hxa_iload_n (by rfl) rfl ?_
  refine hxj_iald (by rfl) (by rfl) rfl (by omega) (by omega) (fun z33 ez33 => ?_)
  refine hxj_cne (by rfl) rfl rfl (fun q34 => ?_) (fun q34 => ?_)
  ·
    refine hxa_aload_n (by rfl) rfl ?_
    refine hxa_iconst (by rfl) rfl ?_
    refine hxj_putI (by rfl) (by rfl) (by rfl) (by rfl) hA (hbokN (by rfl)) (by rfl) (by rfl) (fun A35 hA35 eA35 fA35 => ?_)
    refine hxa_aload_n (by rfl) rfl ?_
    refine hxa_get (v := .ref 384) (by rfl) (by rfl) (by rfl) rfl ?_
    refine hxa_iload_n (by rfl) rfl ?_
    refine hxj_iald (by rfl) (by rfl) rfl (by omega) (by omega) (fun z36 ez36 => ?_)
    have v36 := hfr hA35 (by rfl) ez36
    refine hxa_s1 (by rfl) (Or.inr ⟨_, rfl, rfl⟩) rfl ?_
    exact L39 (Int.toNat (2147483647 - z36.toInt) + 1) z31 z36 (.retAddr 0) (.retAddr 0) A35 rfl hA35 (by omega) (by omega) (by omega) (by first | omega | (rw [v36]; omega)) (by omega)
  ·
    refine hxa_iload_n (by rfl) rfl ?_
    exact hxa_ireturn (by rfl) rfl (hP _ _ ⟨hA, _, rfl⟩)
theorem hX176 {d : Nat} {Bn Br : Int} {A0 A : hs_A} (hA : hJ 0 Bn Br A0 A)  (a1 : Int32) (p1 : 0 ≤ a1.toInt) (q1 : a1.toInt ≤ 3) (a2 : Int32) : hxC (d + 2) 176 hm_m176 [.ref 368, .int a1, .int a2] A (fun r A' => hJ 0 Bn Br A0 A' ∧ ∃ z : Int32, r = some (.int z)) := hxC.of (by rfl) (hY176 hA a1 p1 q1 a2 (fun r A' h => h))
theorem hY177 {d : Nat} {Bn Br : Int} {A0 A : hs_A} (hA : hJ 0 Bn Br A0 A)  (a1 : Int32) (p1 : 0 ≤ a1.toInt) (q1 : a1.toInt ≤ 9) (a2 : Int32) (a3 : Int32) (a4 : Int32) {P : Option Value → hs_A → Prop} (hP : ∀ (r : Option Value) (A' : hs_A), (hJ 0 Bn Br A0 A' ∧ ∃ z : Int32, r = some (.int z) ∧ ((0 ≤ z.toInt ∧ z.toInt ≤ 1))) → P r A') : hxa (d + 2) (some (.boolean)) hm_t177 0 [.ref 368, .int a1, .int a2, .int a3, .int a4] [] A P := by
  have k0 := hk_0
  have k1 := hk_1
  refine hxa_aload_n (by rfl) rfl ?_
  refine hxa_iload_n (by rfl) rfl ?_
  refine hxa_iload_n (by rfl) rfl ?_
  refine hxa_iload_n (by rfl) rfl ?_
  refine hxa_iload (by rfl) rfl ?_
  refine hxa_call0 (by rfl) (by rfl) (by rfl) (by rfl) (by rfl) (by rfl) (hX175 (d := d + 0) hA a1 (by omega) (by omega) a2 a3 a4) ?_
  rintro _ A1 ⟨hA1, rfl⟩
  refine hxa_aload_n (by rfl) rfl ?_
  refine hxa_iconst (by rfl) rfl ?_
  refine hxa_iconst (by rfl) rfl ?_
  refine hxa_call0 (by rfl) (by rfl) (by rfl) (by rfl) (by rfl) (by rfl) (hX176 (d := d + 0) hA1 (Int32.ofNat 0) (by omega) (by omega) (Int32.ofNat 1)) ?_
  rintro _ A2 ⟨hA2, z3, rfl⟩
  refine hxj_zle (by rfl) rfl (fun q4 => ?_) (fun q4 => ?_)
  ·
    refine hxa_iconst (by rfl) rfl ?_
    exact hxa_ireturn (by rfl) (by rfl) (hP _ _ ⟨hA2, _, rfl, by omega⟩)
  ·
    refine hxa_iconst (by rfl) rfl ?_
    refine hxa_goto (by rfl) ?_
    exact hxa_ireturn (by rfl) (by rfl) (hP _ _ ⟨hA2, _, rfl, by omega⟩)
theorem hX177 {d : Nat} {Bn Br : Int} {A0 A : hs_A} (hA : hJ 0 Bn Br A0 A)  (a1 : Int32) (p1 : 0 ≤ a1.toInt) (q1 : a1.toInt ≤ 9) (a2 : Int32) (a3 : Int32) (a4 : Int32) : hxC (d + 3) 177 hm_m177 [.ref 368, .int a1, .int a2, .int a3, .int a4] A (fun r A' => hJ 0 Bn Br A0 A' ∧ ∃ z : Int32, r = some (.int z) ∧ ((0 ≤ z.toInt ∧ z.toInt ≤ 1))) := hxC.of (by rfl) (hY177 hA a1 p1 q1 a2 a3 a4 (fun r A' h => h))
theorem hY178 {d : Nat} {Bn Br : Int} {A0 A : hs_A} (hA : hJ 0 Bn Br A0 A)  (a1 : Int32) (p1 : 0 ≤ a1.toInt) (q1 : a1.toInt ≤ 9) (a2 : Int32) (a3 : Int32) {P : Option Value → hs_A → Prop} (hP : ∀ (r : Option Value) (A' : hs_A), (hJ 0 Bn Br A0 A' ∧ ∃ z : Int32, r = some (.int z) ∧ ((0 ≤ z.toInt ∧ z.toInt ≤ 7))) → P r A') : hxa (d + 2) (some (.int)) hm_t178 0 [.ref 368, .int a1, .int a2, .int a3] [] A P := by
  have k0 := hk_0
  have k1 := hk_1
  have k7 := hk_7
  refine hxa_aload_n (by rfl) rfl ?_
  refine hxa_iload_n (by rfl) rfl ?_
  refine hxa_iload_n (by rfl) rfl ?_
  refine hxa_iconst (by rfl) rfl ?_
  refine hxa_iload_n (by rfl) rfl ?_
  refine hxa_call0 (by rfl) (by rfl) (by rfl) (by rfl) (by rfl) (by rfl) (hX175 (d := d + 0) hA a1 (by omega) (by omega) a2 (Int32.ofNat 0) a3) ?_
  rintro _ A1 ⟨hA1, rfl⟩
  refine hxa_aload_n (by rfl) rfl ?_
  refine hxa_iconst (by rfl) rfl ?_
  refine hxa_iconst (by rfl) rfl ?_
  refine hxa_call0 (by rfl) (by rfl) (by rfl) (by rfl) (by rfl) (by rfl) (hX176 (d := d + 0) hA1 (Int32.ofNat 1) (by omega) (by omega) (Int32.ofNat 0)) ?_
  rintro _ A2 ⟨hA2, z3, rfl⟩
  refine hxa_iconst (by rfl) rfl ?_
  refine hxa_bipush (by rfl) rfl ?_
  refine hxa_call2 (by rfl) (by decide) (by rfl) (by rfl) (by rfl) (hX165 (d := d + 1)  z3 (Int32.ofNat 0) (Int32.ofNat 7) (by omega)) ?_
  rintro _ _ ⟨rfl, z4, rfl, fz4⟩
  exact hxa_ireturn (by rfl) rfl (hP _ _ ⟨hA2, _, rfl, by omega⟩)
theorem hX178 {d : Nat} {Bn Br : Int} {A0 A : hs_A} (hA : hJ 0 Bn Br A0 A)  (a1 : Int32) (p1 : 0 ≤ a1.toInt) (q1 : a1.toInt ≤ 9) (a2 : Int32) (a3 : Int32) : hxC (d + 3) 178 hm_m178 [.ref 368, .int a1, .int a2, .int a3] A (fun r A' => hJ 0 Bn Br A0 A' ∧ ∃ z : Int32, r = some (.int z) ∧ ((0 ≤ z.toInt ∧ z.toInt ≤ 7))) := hxC.of (by rfl) (hY178 hA a1 p1 q1 a2 a3 (fun r A' h => h))
theorem hY179 {d : Nat} {Bn Br : Int} {A0 A : hs_A} (hA : hJ 0 Bn Br A0 A)  (a1 : Int32) (p1 : 0 ≤ a1.toInt) (q1 : a1.toInt ≤ 9) (a2 : Int32) {P : Option Value → hs_A → Prop} (hP : ∀ (r : Option Value) (A' : hs_A), (hJ 0 Bn Br A0 A' ∧ ∃ z : Int32, r = some (.int z) ∧ ((0 ≤ z.toInt ∧ z.toInt ≤ 255))) → P r A') : hxa (d + 2) (some (.int)) hm_t179 0 [.ref 368, .int a1, .int a2] [] A P := by
  have k0 := hk_0
  have k2 := hk_2
  have k255 := hk_255
  refine hxa_aload_n (by rfl) rfl ?_
  refine hxa_iload_n (by rfl) rfl ?_
  refine hxa_iconst (by rfl) rfl ?_
  refine hxa_iconst (by rfl) rfl ?_
  refine hxa_iload_n (by rfl) rfl ?_
  refine hxa_call0 (by rfl) (by rfl) (by rfl) (by rfl) (by rfl) (by rfl) (hX175 (d := d + 0) hA a1 (by omega) (by omega) (Int32.ofNat 0) (Int32.ofNat 0) a2) ?_
  rintro _ A1 ⟨hA1, rfl⟩
  refine hxa_aload_n (by rfl) rfl ?_
  refine hxa_iconst (by rfl) rfl ?_
  refine hxa_iconst (by rfl) rfl ?_
  refine hxa_call0 (by rfl) (by rfl) (by rfl) (by rfl) (by rfl) (by rfl) (hX176 (d := d + 0) hA1 (Int32.ofNat 2) (by omega) (by omega) (Int32.ofNat 0)) ?_
  rintro _ A2 ⟨hA2, z3, rfl⟩
  refine hxa_iconst (by rfl) rfl ?_
  refine hxa_sipush (by rfl) rfl ?_
  refine hxa_call2 (by rfl) (by decide) (by rfl) (by rfl) (by rfl) (hX165 (d := d + 1)  z3 (Int32.ofNat 0) (Int32.ofNat 255) (by omega)) ?_
  rintro _ _ ⟨rfl, z4, rfl, fz4⟩
  exact hxa_ireturn (by rfl) rfl (hP _ _ ⟨hA2, _, rfl, by omega⟩)
theorem hX179 {d : Nat} {Bn Br : Int} {A0 A : hs_A} (hA : hJ 0 Bn Br A0 A)  (a1 : Int32) (p1 : 0 ≤ a1.toInt) (q1 : a1.toInt ≤ 9) (a2 : Int32) : hxC (d + 3) 179 hm_m179 [.ref 368, .int a1, .int a2] A (fun r A' => hJ 0 Bn Br A0 A' ∧ ∃ z : Int32, r = some (.int z) ∧ ((0 ≤ z.toInt ∧ z.toInt ≤ 255))) := hxC.of (by rfl) (hY179 hA a1 p1 q1 a2 (fun r A' h => h))
theorem hY180 {d : Nat} {Bn Br : Int} {A0 A : hs_A} (hA : hJ 0 Bn Br A0 A)  (a1 : Int32) (p1 : 0 ≤ a1.toInt) (q1 : a1.toInt ≤ 9) {P : Option Value → hs_A → Prop} (hP : ∀ (r : Option Value) (A' : hs_A), (hJ 0 Bn Br A0 A' ∧ ∃ z : Int32, r = some (.int z)) → P r A') : hxa (d + 2) (some (.int)) hm_t180 0 [.ref 368, .int a1] [] A P := by
  have k0 := hk_0
  have k100 := hk_100
  have k3 := hk_3
  refine hxa_aload_n (by rfl) rfl ?_
  refine hxa_iload_n (by rfl) rfl ?_
  refine hxa_iconst (by rfl) rfl ?_
  refine hxa_iconst (by rfl) rfl ?_
  refine hxa_aload_n (by rfl) rfl ?_
  refine hxa_get (v := .ref 397) (by rfl) (by rfl) (by rfl) rfl ?_
  refine hxa_bipush (by rfl) rfl ?_
  refine hxj_iald396 (by rfl) hk_70 (by omega) (by omega) hA (fun z1 ez1 fz1 => ?_)
  refine hxa_call0 (by rfl) (by rfl) (by rfl) (by rfl) (by rfl) (by rfl) (hX175 (d := d + 0) hA a1 (by omega) (by omega) (Int32.ofNat 0) (Int32.ofNat 0) z1) ?_
  rintro _ A2 ⟨hA2, rfl⟩
  refine hxa_aload_n (by rfl) rfl ?_
  refine hxa_iconst (by rfl) rfl ?_
  refine hxa_iconst (by rfl) rfl ?_
  refine hxa_call0 (by rfl) (by rfl) (by rfl) (by rfl) (by rfl) (by rfl) (hX176 (d := d + 0) hA2 (Int32.ofNat 3) (by omega) (by omega) (Int32.ofNat 0)) ?_
  rintro _ A3 ⟨hA3, z4, rfl⟩
  refine hxa_iconst (by rfl) rfl ?_
  refine hxa_bipush (by rfl) rfl ?_
  refine hxa_call2 (by rfl) (by decide) (by rfl) (by rfl) (by rfl) (hX165 (d := d + 1)  z4 (Int32.ofNat 0) (Int32.ofNat 100) (by omega)) ?_
  rintro _ _ ⟨rfl, z5, rfl, fz5⟩
  exact hxa_ireturn (by rfl) rfl (hP _ _ ⟨hA3, _, rfl⟩)
theorem hX180 {d : Nat} {Bn Br : Int} {A0 A : hs_A} (hA : hJ 0 Bn Br A0 A)  (a1 : Int32) (p1 : 0 ≤ a1.toInt) (q1 : a1.toInt ≤ 9) : hxC (d + 3) 180 hm_m180 [.ref 368, .int a1] A (fun r A' => hJ 0 Bn Br A0 A' ∧ ∃ z : Int32, r = some (.int z)) := hxC.of (by rfl) (hY180 hA a1 p1 q1 (fun r A' h => h))
theorem hY181 {d : Nat} {Bn Br : Int} {A0 A : hs_A} (hA : hJ 0 Bn Br A0 A)  (a1 : Int32) (p1 : 0 ≤ a1.toInt) (q1 : a1.toInt ≤ 9) (a2 : Int32) (a3 : Int32) {P : Option Value → hs_A → Prop} (hP : ∀ (r : Option Value) (A' : hs_A), (hJ 0 Bn Br A0 A' ∧ ∃ z : Int32, r = some (.int z) ∧ ((0 ≤ z.toInt ∧ z.toInt ≤ 255))) → P r A') : hxa (d + 3) (some (.int)) hm_t181 0 [.ref 368, .int a1, .int a2, .int a3, .retAddr 0, .retAddr 0, .retAddr 0, .retAddr 0] [] A P := by
  have k0 := hk_0
  have L27 : ∀ (m27 : Nat) (x27_4 : Int32) (x27_5 : Int32) (x27_6 : Int32) (x27_7 : Int32) (Ac27 : hs_A) (hAc27 : hJ 0 Bn Br A0 Ac27) (bx27_5 : 0 ≤ x27_5.toInt) (cx27_5 : x27_5.toInt ≤ 7) (bx27_6 : 0 ≤ x27_6.toInt) (cx27_6 : x27_6.toInt ≤ 255) (bx27_7 : 0 ≤ x27_7.toInt) (cx27_7 : x27_7.toInt ≤ 8) (hm27 : 8 - x27_7.toInt < (m27 : Int)), hxa (d + 3) (some (.int)) hm_t181 27 [.ref 368, .int a1, .int a2, .int a3, .int x27_4, .int x27_5, .int x27_6, .int x27_7] [] Ac27 P := by
    intro m27
    induction m27 with
    | zero => intro x27_4 x27_5 x27_6 x27_7 Ac27 hAc27 bx27_5 cx27_5 bx27_6 cx27_6 bx27_7 cx27_7 hm27; have := hn_rng x27_4; exact False.elim (by omega)
    | succ m27 ih27 =>
      intro x27_4 x27_5 x27_6 x27_7 Ac27 hAc27 bx27_5 cx27_5 bx27_6 cx27_6 bx27_7 cx27_7 hm27
      refine hxa_iload (by rfl) rfl ?_
      refine hxa_bipush (by rfl) rfl ?_
      refine hxj_cge (by rfl) rfl hk_8 (fun q1 => ?_) (fun q1 => ?_)
      ·
        refine hxa_iload (by rfl) rfl ?_
        exact hxa_ireturn (by rfl) rfl (hP _ _ ⟨hAc27, _, rfl, by omega⟩)
      ·
        refine hxa_iload_n (by rfl) rfl ?_
        refine hxa_iload (by rfl) rfl ?_
        refine hxj_ishrU (by rfl) (fun z2 => ?_)
        refine hxa_iconst (by rfl) rfl ?_
        refine hxj_iandR (by rfl) hk_1 (by omega) (fun z3 ez3 fz3 => ?_)
        refine hxa_iconst (by rfl) rfl ?_
        refine hxj_cne (by rfl) rfl hk_1 (fun q4 => ?_) (fun q4 => ?_)
        ·
          refine hxj_iinc (by rfl) rfl rfl hk_1 (by omega) (by omega) (fun _ => rfl) (fun z5 ez5 => ?_)
          refine hxa_goto (by rfl) ?_
          exact ih27 x27_4 x27_5 x27_6 z5 Ac27 hAc27 (by omega) (by omega) (by omega) (by omega) (by omega) (by omega) (by omega)
        ·
          refine hxa_aload_n (by rfl) rfl ?_
          refine hxa_iload_n (by rfl) rfl ?_
          refine hxa_iload (by rfl) rfl ?_
          refine hxa_iload (by rfl) rfl ?_
          refine hxa_iload_n (by rfl) rfl ?_
          refine hxa_call0 (by rfl) (by rfl) (by rfl) (by rfl) (by rfl) (by rfl) (hX177 (d := d + 0) hAc27 a1 (by omega) (by omega) x27_4 x27_7 a3) ?_
          rintro _ A6 ⟨hA6, z7, rfl, fz7⟩
          refine hxj_zeq (by rfl) rfl (fun q8 => ?_) (fun q8 => ?_)
          ·
            refine hxj_iinc (by rfl) rfl rfl hk_1 (by omega) (by omega) (fun _ => rfl) (fun z9 ez9 => ?_)
            refine hxa_goto (by rfl) ?_
            exact ih27 x27_4 x27_5 x27_6 z9 A6 hA6 (by omega) (by omega) (by omega) (by omega) (by omega) (by omega) (by omega)
          ·
            refine hxa_iload (by rfl) rfl ?_
            refine hxa_iconst (by rfl) rfl ?_
            refine hxa_iload (by rfl) rfl ?_
            refine hxa_iload (by rfl) rfl ?_
            refine hxj_iadd (by rfl) rfl rfl (by omega) (by omega) (fun z10 ez10 => ?_)
            refine hxa_bipush (by rfl) rfl ?_
            refine hxj_iremP (by rfl) rfl hk_8 (by omega) (by omega) (fun z11 ez11 => ?_)
            refine hxj_ishl1 (by rfl) rfl rfl (by omega) (by omega) (fun z12 ez12 fz12 => ?_)
            refine hxj_ior255 (by rfl) rfl rfl (by omega) (by omega) (by omega) (by omega) (fun z13 ez13 fz13 => ?_)
            refine hxa_s1 (by rfl) (Or.inr ⟨_, rfl, rfl⟩) rfl ?_
            refine hxj_iinc (by rfl) rfl rfl hk_1 (by omega) (by omega) (fun _ => rfl) (fun z14 ez14 => ?_)
            refine hxa_goto (by rfl) ?_
            exact ih27 x27_4 x27_5 z13 z14 A6 hA6 (by omega) (by omega) (by omega) (by omega) (by omega) (by omega) (by omega)
  refine hxa_iload_n (by rfl) rfl ?_
  refine hxa_call2 (by rfl) (by decide) (by rfl) (by rfl) (by rfl) (hX166 (d := d + 2)  a2) ?_
  rintro _ _ ⟨rfl, z15, rfl⟩
  refine hxa_s1 (by rfl) (Or.inr ⟨_, rfl, rfl⟩) rfl ?_
  refine hxa_aload_n (by rfl) rfl ?_
  refine hxa_iload_n (by rfl) rfl ?_
  refine hxa_iload (by rfl) rfl ?_
  refine hxa_iload_n (by rfl) rfl ?_
  refine hxa_call0 (by rfl) (by rfl) (by rfl) (by rfl) (by rfl) (by rfl) (hX178 (d := d + 0) hA a1 (by omega) (by omega) z15 a3) ?_
  rintro _ A16 ⟨hA16, z17, rfl, fz17⟩
  refine hxa_s1 (by rfl) (Or.inr ⟨_, rfl, rfl⟩) rfl ?_
  refine hxa_aload_n (by rfl) rfl ?_
  refine hxa_iload_n (by rfl) rfl ?_
  refine hxa_iload_n (by rfl) rfl ?_
  refine hxa_call0 (by rfl) (by rfl) (by rfl) (by rfl) (by rfl) (by rfl) (hX179 (d := d + 0) hA16 a1 (by omega) (by omega) a3) ?_
  rintro _ A18 ⟨hA18, z19, rfl, fz19⟩
  refine hxa_s1 (by rfl) (Or.inr ⟨_, rfl, rfl⟩) rfl ?_
  refine hxa_iconst (by rfl) rfl ?_
  refine hxa_s1 (by rfl) (Or.inr ⟨_, rfl, rfl⟩) rfl ?_
  exact L27 (Int.toNat (8 - 0) + 1) z15 z17 z19 (Int32.ofNat 0) A18 hA18 (by omega) (by omega) (by omega) (by omega) (by omega) (by omega) (by omega)
theorem hX181 {d : Nat} {Bn Br : Int} {A0 A : hs_A} (hA : hJ 0 Bn Br A0 A)  (a1 : Int32) (p1 : 0 ≤ a1.toInt) (q1 : a1.toInt ≤ 9) (a2 : Int32) (a3 : Int32) : hxC (d + 4) 181 hm_m181 [.ref 368, .int a1, .int a2, .int a3] A (fun r A' => hJ 0 Bn Br A0 A' ∧ ∃ z : Int32, r = some (.int z) ∧ ((0 ≤ z.toInt ∧ z.toInt ≤ 255))) := hxC.of (by rfl) (hY181 hA a1 p1 q1 a2 a3 (fun r A' h => h))
theorem hY182 {d : Nat} {Bn Br : Int} {A0 A : hs_A} (hA : hJ 0 Bn Br A0 A)  (a1 : Int32) (p1 : 0 ≤ a1.toInt) (q1 : a1.toInt ≤ 9) {P : Option Value → hs_A → Prop} (hP : ∀ (r : Option Value) (A' : hs_A), (A = A' ∧ ∃ z : Int32, r = some (.int z) ∧ ((0 ≤ z.toInt ∧ z.toInt ≤ 1))) → P r A') : hxa (d + 0) (some (.boolean)) hm_t182 0 [.ref 368, .int a1] [] A P := by
  have k0 := hk_0
  have k1 := hk_1
  refine hxa_aload_n (by rfl) rfl ?_
  refine hxa_get (v := .ref 397) (by rfl) (by rfl) (by rfl) rfl ?_
  refine hxa_bipush (by rfl) rfl ?_
  refine hxa_iload_n (by rfl) rfl ?_
  refine hxj_iadd (by rfl) hk_50 rfl (by omega) (by omega) (fun z1 ez1 => ?_)
  refine hxj_iald396 (by rfl) rfl (by omega) (by omega) hA (fun z2 ez2 fz2 => ?_)
  refine hxa_iconst (by rfl) rfl ?_
  refine hxj_cne (by rfl) rfl hk_1 (fun q3 => ?_) (fun q3 => ?_)
  ·
    refine hxa_iconst (by rfl) rfl ?_
    exact hxa_ireturn (by rfl) (by rfl) (hP _ _ ⟨rfl, _, rfl, by omega⟩)
  ·
    refine hxa_aload_n (by rfl) rfl ?_
    refine hxa_get (v := .ref 397) (by rfl) (by rfl) (by rfl) rfl ?_
    refine hxa_bipush (by rfl) rfl ?_
    refine hxa_iload_n (by rfl) rfl ?_
    refine hxj_iadd (by rfl) hk_60 rfl (by omega) (by omega) (fun z4 ez4 => ?_)
    refine hxj_iald396 (by rfl) rfl (by omega) (by omega) hA (fun z5 ez5 fz5 => ?_)
    refine hxj_zne (by rfl) rfl (fun q6 => ?_) (fun q6 => ?_)
    ·
      refine hxa_iconst (by rfl) rfl ?_
      exact hxa_ireturn (by rfl) (by rfl) (hP _ _ ⟨rfl, _, rfl, by omega⟩)
    ·
      refine hxa_iconst (by rfl) rfl ?_
      refine hxa_goto (by rfl) ?_
      exact hxa_ireturn (by rfl) (by rfl) (hP _ _ ⟨rfl, _, rfl, by omega⟩)
theorem hX182 {d : Nat} {Bn Br : Int} {A0 A : hs_A} (hA : hJ 0 Bn Br A0 A)  (a1 : Int32) (p1 : 0 ≤ a1.toInt) (q1 : a1.toInt ≤ 9) : hxC (d + 1) 182 hm_m182 [.ref 368, .int a1] A (fun r A' => A = A' ∧ ∃ z : Int32, r = some (.int z) ∧ ((0 ≤ z.toInt ∧ z.toInt ≤ 1))) := hxC.of (by rfl) (hY182 hA a1 p1 q1 (fun r A' h => h))
theorem hY183 {d : Nat} {Bn Br : Int} {A0 A : hs_A} (hA : hJ 0 Bn Br A0 A)   {P : Option Value → hs_A → Prop} (hP : ∀ (r : Option Value) (A' : hs_A), (A = A' ∧ ∃ z : Int32, r = some (.int z)) → P r A') : hxa (d + 0) (some (.int)) hm_t183 0 [.ref 368] [] A P := by
  refine hxa_aload_n (by rfl) rfl ?_
  refine hxa_get (v := .ref 397) (by rfl) (by rfl) (by rfl) rfl ?_
  refine hxa_bipush (by rfl) rfl ?_
  refine hxj_iald396 (by rfl) hk_71 (by omega) (by omega) hA (fun z1 ez1 fz1 => ?_)
  refine hxa_iconst (by rfl) rfl ?_
  refine hxj_ceq (by rfl) rfl hk_4294967295 (fun q2 => ?_) (fun q2 => ?_)
  ·
    refine hxa_aload_n (by rfl) rfl ?_
    refine hxa_get (v := .ref 381) (by rfl) (by rfl) (by rfl) rfl ?_
    refine hxa_bipush (by rfl) rfl ?_
    refine hxa_aload_n (by rfl) rfl ?_
    refine hxj_getB (by rfl) (by rfl) (by rfl) hA (by rfl) (fun z3 ez3 fz3 gz3 => ?_)
    refine hxj_imul (by rfl) hk_24 rfl (by omega) (by omega) (fun z4 ez4 => ?_)
    refine hxa_aload_n (by rfl) rfl ?_
    refine hxa_get (v := .ref 397) (by rfl) (by rfl) (by rfl) rfl ?_
    refine hxa_bipush (by rfl) rfl ?_
    refine hxj_iald396 (by rfl) hk_70 (by omega) (by omega) hA (fun z5 ez5 fz5 => ?_)
    refine hxa_bipush (by rfl) rfl ?_
    refine hxj_iremP (by rfl) rfl hk_24 (by omega) (by omega) (fun z6 ez6 => ?_)
    refine hxj_iadd (by rfl) rfl rfl (by omega) (by omega) (fun z7 ez7 => ?_)
    refine hxj_iald (by rfl) (by rfl) rfl (by omega) (by omega) (fun z8 ez8 => ?_)
    exact hxa_ireturn (by rfl) rfl (hP _ _ ⟨rfl, _, rfl⟩)
  ·
    refine hxa_aload_n (by rfl) rfl ?_
    refine hxa_get (v := .ref 397) (by rfl) (by rfl) (by rfl) rfl ?_
    refine hxa_bipush (by rfl) rfl ?_
    refine hxj_iald396 (by rfl) hk_71 (by omega) (by omega) hA (fun z9 ez9 fz9 => ?_)
    refine hxa_goto (by rfl) ?_
    exact hxa_ireturn (by rfl) rfl (hP _ _ ⟨rfl, _, rfl⟩)
theorem hX183 {d : Nat} {Bn Br : Int} {A0 A : hs_A} (hA : hJ 0 Bn Br A0 A)   : hxC (d + 1) 183 hm_m183 [.ref 368] A (fun r A' => A = A' ∧ ∃ z : Int32, r = some (.int z)) := hxC.of (by rfl) (hY183 hA  (fun r A' h => h))
theorem hY184 {d : Nat} {Bn Br : Int} {A0 A : hs_A} (hA : hJ 0 Bn Br A0 A) (hBr : Br ≤ 1000000)  {P : Option Value → hs_A → Prop} (hP : ∀ (r : Option Value) (A' : hs_A), (hJ 0 Bn (Br + 1) A0 A' ∧ r = none) → P r A') : hxa (d + 4) none hm_t184 0 [.ref 368, .retAddr 0] [] A P := by
  have k0 := hk_0
  have L127 : ∀ (m127 : Nat) (x127_1 : Int32) (Ac127 : hs_A) (hAc127 : hJ 0 Bn Br A0 Ac127) (bx127_1 : 0 ≤ x127_1.toInt) (cx127_1 : x127_1.toInt ≤ 10) (hm127 : 10 - x127_1.toInt < (m127 : Int)), hxa (d + 4) none hm_t184 127 [.ref 368, .int x127_1] [] Ac127 P := by
    intro m127
    induction m127 with
    | zero => intro x127_1 Ac127 hAc127 bx127_1 cx127_1 hm127;  exact False.elim (by omega)
    | succ m127 ih127 =>
      intro x127_1 Ac127 hAc127 bx127_1 cx127_1 hm127
      have L205 : ∀ (Ac205 : hs_A) (hAc205 : hJ 0 Bn Br A0 Ac205) (cx127_1 : x127_1.toInt ≤ 9), hxa (d + 4) none hm_t184 205 [.ref 368, .int x127_1] [] Ac205 P := by
        intro Ac205 hAc205 cx127_1
        refine hxa_aload_n (by rfl) rfl ?_
        refine hxa_get (v := .ref 399) (by rfl) (by rfl) (by rfl) rfl ?_
        refine hxa_iload_n (by rfl) rfl ?_
        refine hxj_zald (by rfl) (by rfl) rfl (by omega) (by omega) (fun z1 ez1 => ?_)
        refine hxj_zne (by rfl) rfl (fun q2 => ?_) (fun q2 => ?_)
        ·
          refine hxa_aload_n (by rfl) rfl ?_
          refine hxa_get (v := .ref 397) (by rfl) (by rfl) (by rfl) rfl ?_
          refine hxa_bipush (by rfl) rfl ?_
          refine hxa_iload_n (by rfl) rfl ?_
          refine hxj_iadd (by rfl) hk_60 rfl (by omega) (by omega) (fun z3 ez3 => ?_)
          refine hxa_aload_n (by rfl) rfl ?_
          refine hxa_get (v := .ref 382) (by rfl) (by rfl) (by rfl) rfl ?_
          refine hxa_aload_n (by rfl) rfl ?_
          refine hxj_getB (by rfl) (by rfl) (by rfl) hAc205 (by rfl) (fun z4 ez4 fz4 gz4 => ?_)
          refine hxj_iald (by rfl) (by rfl) rfl (by omega) (by omega) (fun z5 ez5 => ?_)
          refine hxj_iast396 (by rfl) rfl (by omega) (by omega) rfl hAc205 (by omega) (fun A6 hA6 eA6 fA6 gA6 => ?_)
          refine hxa_aload_n (by rfl) rfl ?_
          refine hxa_get (v := .ref 397) (by rfl) (by rfl) (by rfl) rfl ?_
          refine hxa_bipush (by rfl) rfl ?_
          refine hxa_dup2IR (by rfl) ?_
          refine hxj_iald396 (by rfl) hk_72 (by omega) (by omega) hA6 (fun z7 ez7 fz7 => ?_)
          refine hxa_iconst (by rfl) rfl ?_
          refine hxj_iaddU (by rfl) (fun z8 => ?_)
          refine hxj_iast396 (by rfl) hk_72 (by omega) (by omega) rfl hA6 (by omega) (fun A9 hA9 eA9 fA9 gA9 => ?_)
          refine hxj_iinc (by rfl) rfl rfl hk_1 (by omega) (by omega) (fun _ => rfl) (fun z10 ez10 => ?_)
          refine hxa_goto (by rfl) ?_
          exact ih127 z10 A9 hA9 (by omega) (by omega) (by omega)
        ·
          refine hxa_goto (by rfl) ?_
          refine hxj_iinc (by rfl) rfl rfl hk_1 (by omega) (by omega) (fun _ => rfl) (fun z11 ez11 => ?_)
          refine hxa_goto (by rfl) ?_
          exact ih127 z11 Ac205 hAc205 (by omega) (by omega) (by omega)
      refine hxa_iload_n (by rfl) rfl ?_
      refine hxa_aload_n (by rfl) rfl ?_
      refine hxa_get (v := .ref 377) (by rfl) (by rfl) (by rfl) rfl ?_
      refine hxa_aload_n (by rfl) rfl ?_
      refine hxj_getB (by rfl) (by rfl) (by rfl) hAc127 (by rfl) (fun z12 ez12 fz12 gz12 => ?_)
      refine hxj_ialdB (by rfl) (by rfl) rfl (by omega) (by omega) hAc127 (by rfl) (fun z13 ez13 fz13 gz13 => ?_)
      refine hxj_cge (by rfl) rfl rfl (fun q14 => ?_) (fun q14 => ?_)
      ·
        refine hxa_aload_n (by rfl) rfl ?_
        refine hxa_get (v := .ref 397) (by rfl) (by rfl) (by rfl) rfl ?_
        refine hxa_bipush (by rfl) rfl ?_
        refine hxa_dup2IR (by rfl) ?_
        refine hxj_iald396 (by rfl) hk_70 (by omega) (by omega) hAc127 (fun z15 ez15 fz15 => ?_)
        have H16 : hJ 0 Bn (Br + 1) A0 Ac127 := hJ.mono hAc127 (by omega) (by omega)
        refine hxa_iconst (by rfl) rfl ?_
        refine hxj_iadd (by rfl) rfl hk_1 (by omega) (by omega) (fun z17 ez17 => ?_)
        refine hxj_iast396 (by rfl) hk_70 (by omega) (by omega) rfl H16 (by omega) (fun A18 hA18 eA18 fA18 gA18 => ?_)
        refine hxa_aload_n (by rfl) rfl ?_
        refine hxa_get (v := .ref 397) (by rfl) (by rfl) (by rfl) rfl ?_
        refine hxa_bipush (by rfl) rfl ?_
        refine hxa_iconst (by rfl) rfl ?_
        refine hxj_iast396 (by rfl) hk_71 (by omega) (by omega) hk_4294967295 hA18 (by omega) (fun A19 hA19 eA19 fA19 gA19 => ?_)
        exact hxa_return (by rfl) rfl (hP _ _ ⟨hA19, rfl⟩)
      ·
        refine hxa_aload_n (by rfl) rfl ?_
        refine hxa_get (v := .ref 397) (by rfl) (by rfl) (by rfl) rfl ?_
        refine hxa_bipush (by rfl) rfl ?_
        refine hxa_iload_n (by rfl) rfl ?_
        refine hxj_iadd (by rfl) hk_30 rfl (by omega) (by omega) (fun z20 ez20 => ?_)
        refine hxa_aload_n (by rfl) rfl ?_
        refine hxa_get (v := .ref 398) (by rfl) (by rfl) (by rfl) rfl ?_
        refine hxa_iload_n (by rfl) rfl ?_
        refine hxj_iald (by rfl) (by rfl) rfl (by omega) (by omega) (fun z21 ez21 => ?_)
        refine hxj_iast396 (by rfl) rfl (by omega) (by omega) rfl hAc127 (by omega) (fun A22 hA22 eA22 fA22 gA22 => ?_)
        refine hxa_aload_n (by rfl) rfl ?_
        refine hxa_get (v := .ref 397) (by rfl) (by rfl) (by rfl) rfl ?_
        refine hxa_bipush (by rfl) rfl ?_
        refine hxa_iload_n (by rfl) rfl ?_
        refine hxj_iadd (by rfl) hk_40 rfl (by omega) (by omega) (fun z23 ez23 => ?_)
        refine hxa_dup2IR (by rfl) ?_
        refine hxj_iald396 (by rfl) rfl (by omega) (by omega) hA22 (fun z24 ez24 fz24 => ?_)
        refine hxa_aload_n (by rfl) rfl ?_
        refine hxa_get (v := .ref 398) (by rfl) (by rfl) (by rfl) rfl ?_
        refine hxa_iload_n (by rfl) rfl ?_
        refine hxj_iald (by rfl) (by rfl) rfl (by omega) (by omega) (fun z25 ez25 => ?_)
        refine hxa_aload_n (by rfl) rfl ?_
        refine hxa_get (v := .ref 397) (by rfl) (by rfl) (by rfl) rfl ?_
        refine hxa_iload_n (by rfl) rfl ?_
        refine hxj_iald396 (by rfl) rfl (by omega) (by omega) hA22 (fun z26 ez26 fz26 => ?_)
        refine hxj_iandU (by rfl) (fun z27 => ?_)
        refine hxj_iorU (by rfl) (fun z28 => ?_)
        refine hxj_iast396 (by rfl) rfl (by omega) (by omega) rfl hA22 (by omega) (fun A29 hA29 eA29 fA29 gA29 => ?_)
        refine hxa_aload_n (by rfl) rfl ?_
        refine hxa_get (v := .ref 397) (by rfl) (by rfl) (by rfl) rfl ?_
        refine hxa_bipush (by rfl) rfl ?_
        refine hxa_iload_n (by rfl) rfl ?_
        refine hxj_iadd (by rfl) hk_60 rfl (by omega) (by omega) (fun z30 ez30 => ?_)
        refine hxj_iald396 (by rfl) rfl (by omega) (by omega) hA29 (fun z31 ez31 fz31 => ?_)
        refine hxj_zle (by rfl) rfl (fun q32 => ?_) (fun q32 => ?_)
        ·
          exact L205 A29 hA29 (by omega)
        ·
          refine hxa_aload_n (by rfl) rfl ?_
          refine hxa_get (v := .ref 397) (by rfl) (by rfl) (by rfl) rfl ?_
          refine hxa_bipush (by rfl) rfl ?_
          refine hxa_iload_n (by rfl) rfl ?_
          refine hxj_iadd (by rfl) hk_60 rfl (by omega) (by omega) (fun z33 ez33 => ?_)
          refine hxa_dup2IR (by rfl) ?_
          refine hxj_iald396 (by rfl) rfl (by omega) (by omega) hA29 (fun z34 ez34 fz34 => ?_)
          refine hxa_iconst (by rfl) rfl ?_
          refine hxj_isubU (by rfl) (fun z35 => ?_)
          refine hxj_iast396 (by rfl) rfl (by omega) (by omega) rfl hA29 (by omega) (fun A36 hA36 eA36 fA36 gA36 => ?_)
          exact L205 A36 hA36 (by omega)
  have L2 : ∀ (m2 : Nat) (x2_1 : Int32) (Ac2 : hs_A) (hAc2 : hJ 0 Bn Br A0 Ac2) (bx2_1 : 0 ≤ x2_1.toInt) (cx2_1 : x2_1.toInt ≤ 10) (hm2 : 10 - x2_1.toInt < (m2 : Int)), hxa (d + 4) none hm_t184 2 [.ref 368, .int x2_1] [] Ac2 P := by
    intro m2
    induction m2 with
    | zero => intro x2_1 Ac2 hAc2 bx2_1 cx2_1 hm2;  exact False.elim (by omega)
    | succ m2 ih2 =>
      intro x2_1 Ac2 hAc2 bx2_1 cx2_1 hm2
      have L64 : ∀ (y64_1 : Int32) (y64_2 : Int32) (Ac64 : hs_A) (hAc64 : hJ 0 Bn Br A0 Ac64) (by64_1 : 0 ≤ y64_1.toInt) (cy64_1 : y64_1.toInt ≤ 9) (cx2_1 : x2_1.toInt ≤ 9), hxa (d + 4) none hm_t184 64 [.ref 368, .int x2_1] [.int y64_2, .int y64_1, .ref 398] Ac64 P := by
        intro y64_1 y64_2 Ac64 hAc64 by64_1 cy64_1 cx2_1
        refine hxj_iast (by rfl) (by rfl) rfl (by omega) (by omega) hAc64 (hbokN (by rfl)) (by rfl) (by rfl) (fun A37 hA37 eA37 fA37 gA37 => ?_)
        refine hxa_aload_n (by rfl) rfl ?_
        refine hxa_get (v := .ref 399) (by rfl) (by rfl) (by rfl) rfl ?_
        refine hxa_iload_n (by rfl) rfl ?_
        refine hxa_aload_n (by rfl) rfl ?_
        refine hxj_getI (by rfl) (by rfl) (by rfl) (fun z38 ez38 => ?_)
        refine hxj_zne (by rfl) rfl (fun q39 => ?_) (fun q39 => ?_)
        ·
          refine hxa_iconst (by rfl) rfl ?_
          refine hxj_zast (by rfl) (by rfl) rfl (by omega) (by omega) hk_0 (by omega) (by omega) hA37 (hbokN (by rfl)) (by rfl) (by rfl) (fun A40 hA40 eA40 fA40 gA40 => ?_)
          refine hxj_iinc (by rfl) rfl rfl hk_1 (by omega) (by omega) (fun _ => rfl) (fun z41 ez41 => ?_)
          refine hxa_goto (by rfl) ?_
          exact ih2 z41 A40 hA40 (by omega) (by omega) (by omega)
        ·
          refine hxa_aload_n (by rfl) rfl ?_
          refine hxa_get (v := .ref 397) (by rfl) (by rfl) (by rfl) rfl ?_
          refine hxa_bipush (by rfl) rfl ?_
          refine hxa_iload_n (by rfl) rfl ?_
          refine hxj_iadd (by rfl) hk_60 rfl (by omega) (by omega) (fun z42 ez42 => ?_)
          refine hxj_iald396 (by rfl) rfl (by omega) (by omega) hA37 (fun z43 ez43 fz43 => ?_)
          refine hxj_zne (by rfl) rfl (fun q44 => ?_) (fun q44 => ?_)
          ·
            refine hxa_iconst (by rfl) rfl ?_
            refine hxj_zast (by rfl) (by rfl) rfl (by omega) (by omega) hk_0 (by omega) (by omega) hA37 (hbokN (by rfl)) (by rfl) (by rfl) (fun A45 hA45 eA45 fA45 gA45 => ?_)
            refine hxj_iinc (by rfl) rfl rfl hk_1 (by omega) (by omega) (fun _ => rfl) (fun z46 ez46 => ?_)
            refine hxa_goto (by rfl) ?_
            exact ih2 z46 A45 hA45 (by omega) (by omega) (by omega)
          ·
            refine hxa_aload_n (by rfl) rfl ?_
            refine hxa_bipush (by rfl) rfl ?_
            refine hxa_aload_n (by rfl) rfl ?_
            refine hxa_get (v := .ref 397) (by rfl) (by rfl) (by rfl) rfl ?_
            refine hxa_bipush (by rfl) rfl ?_
            refine hxj_iald396 (by rfl) hk_70 (by omega) (by omega) hA37 (fun z47 ez47 fz47 => ?_)
            refine hxj_imulU (by rfl) (fun z48 => ?_)
            refine hxa_iload_n (by rfl) rfl ?_
            refine hxj_iaddU (by rfl) (fun z49 => ?_)
            refine hxa_call0 (by rfl) (by rfl) (by rfl) (by rfl) (by rfl) (by rfl) (hX174 (d := d + 2) hA37 z49) ?_
            rintro _ _ ⟨rfl, z50, rfl⟩
            refine hxa_aload_n (by rfl) rfl ?_
            refine hxa_iload_n (by rfl) rfl ?_
            refine hxa_call0 (by rfl) (by rfl) (by rfl) (by rfl) (by rfl) (by rfl) (hX180 (d := d + 1) hA37 x2_1 (by omega) (by omega)) ?_
            rintro _ A51 ⟨hA51, z52, rfl⟩
            have rgz50 := hn_rng z50
            have rgz52 := hn_rng z52
            refine hxj_cge (by rfl) rfl rfl (fun q53 => ?_) (fun q53 => ?_)
            ·
              refine hxa_iconst (by rfl) rfl ?_
              refine hxj_zast (by rfl) (by rfl) rfl (by omega) (by omega) hk_0 (by omega) (by omega) hA51 (hbokN (by rfl)) (by rfl) (by rfl) (fun A54 hA54 eA54 fA54 gA54 => ?_)
              refine hxj_iinc (by rfl) rfl rfl hk_1 (by omega) (by omega) (fun _ => rfl) (fun z55 ez55 => ?_)
              refine hxa_goto (by rfl) ?_
              exact ih2 z55 A54 hA54 (by omega) (by omega) (by omega)
            ·
              refine hxa_iconst (by rfl) rfl ?_
              refine hxa_goto (by rfl) ?_
              refine hxj_zast (by rfl) (by rfl) rfl (by omega) (by omega) hk_1 (by omega) (by omega) hA51 (hbokN (by rfl)) (by rfl) (by rfl) (fun A56 hA56 eA56 fA56 gA56 => ?_)
              refine hxj_iinc (by rfl) rfl rfl hk_1 (by omega) (by omega) (fun _ => rfl) (fun z57 ez57 => ?_)
              refine hxa_goto (by rfl) ?_
              exact ih2 z57 A56 hA56 (by omega) (by omega) (by omega)
      refine hxa_iload_n (by rfl) rfl ?_
      refine hxa_aload_n (by rfl) rfl ?_
      refine hxa_get (v := .ref 377) (by rfl) (by rfl) (by rfl) rfl ?_
      refine hxa_aload_n (by rfl) rfl ?_
      refine hxj_getB (by rfl) (by rfl) (by rfl) hAc2 (by rfl) (fun z58 ez58 fz58 gz58 => ?_)
      refine hxj_ialdB (by rfl) (by rfl) rfl (by omega) (by omega) hAc2 (by rfl) (fun z59 ez59 fz59 gz59 => ?_)
      refine hxj_cge (by rfl) rfl rfl (fun q60 => ?_) (fun q60 => ?_)
      ·
        refine hxa_iconst (by rfl) rfl ?_
        refine hxa_s1 (by rfl) (Or.inl ⟨_, rfl, rfl⟩) rfl ?_
        exact L127 (Int.toNat (10 - 0) + 1) (Int32.ofNat 0) Ac2 hAc2 (by omega) (by omega) (by omega)
      ·
        refine hxa_aload_n (by rfl) rfl ?_
        refine hxa_get (v := .ref 398) (by rfl) (by rfl) (by rfl) rfl ?_
        refine hxa_iload_n (by rfl) rfl ?_
        refine hxa_aload_n (by rfl) rfl ?_
        refine hxa_iload_n (by rfl) rfl ?_
        refine hxa_call0 (by rfl) (by rfl) (by rfl) (by rfl) (by rfl) (by rfl) (hX182 (d := d + 3) hAc2 x2_1 (by omega) (by omega)) ?_
        rintro _ _ ⟨rfl, z61, rfl, fz61⟩
        refine hxj_zne (by rfl) rfl (fun q62 => ?_) (fun q62 => ?_)
        ·
          refine hxa_iload_n (by rfl) rfl ?_
          refine hxj_zne (by rfl) rfl (fun q63 => ?_) (fun q63 => ?_)
          ·
            refine hxa_aload_n (by rfl) rfl ?_
            refine hxa_iload_n (by rfl) rfl ?_
            refine hxa_aload_n (by rfl) rfl ?_
            refine hxa_get (v := .ref 397) (by rfl) (by rfl) (by rfl) rfl ?_
            refine hxa_bipush (by rfl) rfl ?_
            refine hxa_iload_n (by rfl) rfl ?_
            refine hxj_iadd (by rfl) hk_29 rfl (by omega) (by omega) (fun z64 ez64 => ?_)
            refine hxj_iald396 (by rfl) rfl (by omega) (by omega) hAc2 (fun z65 ez65 fz65 => ?_)
            refine hxa_aload_n (by rfl) rfl ?_
            refine hxa_get (v := .ref 397) (by rfl) (by rfl) (by rfl) rfl ?_
            refine hxa_bipush (by rfl) rfl ?_
            refine hxj_iald396 (by rfl) hk_70 (by omega) (by omega) hAc2 (fun z66 ez66 fz66 => ?_)
            refine hxa_call0 (by rfl) (by rfl) (by rfl) (by rfl) (by rfl) (by rfl) (hX181 (d := d + 0) hAc2 x2_1 (by omega) (by omega) z65 z66) ?_
            rintro _ A67 ⟨hA67, z68, rfl, fz68⟩
            exact L64 x2_1 z68 A67 hA67 (by omega) (by omega) (by omega)
          ·
            refine hxa_aload_n (by rfl) rfl ?_
            refine hxa_call0 (by rfl) (by rfl) (by rfl) (by rfl) (by rfl) (by rfl) (hX183 (d := d + 3) hAc2 ) ?_
            rintro _ _ ⟨rfl, z69, rfl⟩
            refine hxa_goto (by rfl) ?_
            exact L64 x2_1 z69 Ac2 hAc2 (by omega) (by omega) (by omega)
        ·
          refine hxa_iconst (by rfl) rfl ?_
          refine hxa_goto (by rfl) ?_
          exact L64 x2_1 (Int32.ofNat 0) Ac2 hAc2 (by omega) (by omega) (by omega)
  refine hxa_iconst (by rfl) rfl ?_
  refine hxa_s1 (by rfl) (Or.inl ⟨_, rfl, rfl⟩) rfl ?_
  exact L2 (Int.toNat (10 - 0) + 1) (Int32.ofNat 0) A hA (by omega) (by omega) (by omega)
theorem hX184 {d : Nat} {Bn Br : Int} {A0 A : hs_A} (hA : hJ 0 Bn Br A0 A) (hBr : Br ≤ 1000000)  : hxC (d + 5) 184 hm_m184 [.ref 368] A (fun r A' => hJ 0 Bn (Br + 1) A0 A' ∧ r = none) := hxC.of (by rfl) (hY184 hA hBr (fun r A' h => h))
theorem hY185 {d : Nat} {Bn Br : Int} {A0 A : hs_A} (hA : hJ 0 Bn Br A0 A) (hBr : Br ≤ 990000) (a1 : Int32) (p1 : 0 ≤ a1.toInt) (q1 : a1.toInt ≤ 72) {P : Option Value → hs_A → Prop} (hP : ∀ (r : Option Value) (A' : hs_A), (hJ 0 Bn (Br + 72) A0 A' ∧ r = none) → P r A') : hxa (d + 5) none hm_t185 0 [.ref 368, .int a1, .retAddr 0] [] A P := by
  have k0 := hk_0
  have L2 : ∀ (m2 : Nat) (x2_2 : Int32) (Ac2 : hs_A) (hAc2 : hJ 0 Bn (Br + x2_2.toInt) A0 Ac2) (bx2_2 : 0 ≤ x2_2.toInt) (cx2_2 : x2_2.toInt ≤ 72) (hm2 : 72 - x2_2.toInt < (m2 : Int)), hxa (d + 5) none hm_t185 2 [.ref 368, .int a1, .int x2_2] [] Ac2 P := by
    intro m2
    induction m2 with
    | zero => intro x2_2 Ac2 hAc2 bx2_2 cx2_2 hm2;  exact False.elim (by omega)
    | succ m2 ih2 =>
      intro x2_2 Ac2 hAc2 bx2_2 cx2_2 hm2
      refine hxa_iload_n (by rfl) rfl ?_
      refine hxa_iload_n (by rfl) rfl ?_
      refine hxj_cge (by rfl) rfl rfl (fun q1 => ?_) (fun q1 => ?_)
      ·
        exact hxa_return (by rfl) rfl (hP _ _ ⟨(hJ.mono hAc2 (by omega) (by omega)), rfl⟩)
      ·
        refine hxa_aload_n (by rfl) rfl ?_
        refine hxa_call0 (by rfl) (by rfl) (by rfl) (by rfl) (by rfl) (by rfl) (hX184 (d := d + 0) hAc2 (by omega)) ?_
        rintro _ A2 ⟨hA2, rfl⟩
        refine hxj_iinc (by rfl) rfl rfl hk_1 (by omega) (by omega) (fun _ => rfl) (fun z3 ez3 => ?_)
        refine hxa_goto (by rfl) ?_
        exact ih2 z3 A2 (hJ.mono hA2 (by omega) (by omega)) (by omega) (by omega) (by omega)
  refine hxa_iconst (by rfl) rfl ?_
  refine hxa_s1 (by rfl) (Or.inl ⟨_, rfl, rfl⟩) rfl ?_
  exact L2 (Int.toNat (72 - 0) + 1) (Int32.ofNat 0) A (hJ.mono hA (by omega) (by omega)) (by omega) (by omega) (by omega)
theorem hX185 {d : Nat} {Bn Br : Int} {A0 A : hs_A} (hA : hJ 0 Bn Br A0 A) (hBr : Br ≤ 990000) (a1 : Int32) (p1 : 0 ≤ a1.toInt) (q1 : a1.toInt ≤ 72) : hxC (d + 6) 185 hm_m185 [.ref 368, .int a1] A (fun r A' => hJ 0 Bn (Br + 72) A0 A' ∧ r = none) := hxC.of (by rfl) (hY185 hA hBr a1 p1 q1 (fun r A' h => h))
theorem hY186 {d : Nat} {Bn Br : Int} {A0 A : hs_A} (hA : hJ 0 Bn Br A0 A)  (a1 : Int32) (p1 : 0 ≤ a1.toInt) (q1 : a1.toInt ≤ 9) {P : Option Value → hs_A → Prop} (hP : ∀ (r : Option Value) (A' : hs_A), (A = A' ∧ ∃ z : Int32, r = some (.int z) ∧ ((0 ≤ z.toInt ∧ z.toInt ≤ 1))) → P r A') : hxa (d + 0) (some (.boolean)) hm_t186 0 [.ref 368, .int a1] [] A P := by
  have k0 := hk_0
  have k1 := hk_1
  refine hxa_aload_n (by rfl) rfl ?_
  refine hxa_get (v := .ref 397) (by rfl) (by rfl) (by rfl) rfl ?_
  refine hxa_bipush (by rfl) rfl ?_
  refine hxa_iload_n (by rfl) rfl ?_
  refine hxj_iadd (by rfl) hk_40 rfl (by omega) (by omega) (fun z1 ez1 => ?_)
  refine hxj_iald396 (by rfl) rfl (by omega) (by omega) hA (fun z2 ez2 fz2 => ?_)
  refine hxa_aload_n (by rfl) rfl ?_
  refine hxa_get (v := .ref 397) (by rfl) (by rfl) (by rfl) rfl ?_
  refine hxa_iload_n (by rfl) rfl ?_
  refine hxj_iald396 (by rfl) rfl (by omega) (by omega) hA (fun z3 ez3 fz3 => ?_)
  refine hxj_cne (by rfl) rfl rfl (fun q4 => ?_) (fun q4 => ?_)
  ·
    refine hxa_iconst (by rfl) rfl ?_
    exact hxa_ireturn (by rfl) (by rfl) (hP _ _ ⟨rfl, _, rfl, by omega⟩)
  ·
    refine hxa_iconst (by rfl) rfl ?_
    refine hxa_goto (by rfl) ?_
    exact hxa_ireturn (by rfl) (by rfl) (hP _ _ ⟨rfl, _, rfl, by omega⟩)
theorem hX186 {d : Nat} {Bn Br : Int} {A0 A : hs_A} (hA : hJ 0 Bn Br A0 A)  (a1 : Int32) (p1 : 0 ≤ a1.toInt) (q1 : a1.toInt ≤ 9) : hxC (d + 1) 186 hm_m186 [.ref 368, .int a1] A (fun r A' => A = A' ∧ ∃ z : Int32, r = some (.int z) ∧ ((0 ≤ z.toInt ∧ z.toInt ≤ 1))) := hxC.of (by rfl) (hY186 hA a1 p1 q1 (fun r A' h => h))
theorem hY187 {d : Nat} {Bn Br : Int} {A0 A : hs_A} (hA : hJ 0 Bn Br A0 A)   {P : Option Value → hs_A → Prop} (hP : ∀ (r : Option Value) (A' : hs_A), (A = A' ∧ ∃ z : Int32, r = some (.int z)) → P r A') : hxa (d + 1) (some (.int)) hm_t187 0 [.ref 368, .retAddr 0, .retAddr 0] [] A P := by
  have k0 := hk_0
  have L4 : ∀ (m4 : Nat) (x4_1 : Int32) (x4_2 : Int32) (bx4_2 : 0 ≤ x4_2.toInt) (cx4_2 : x4_2.toInt ≤ 10) (hm4 : 10 - x4_2.toInt < (m4 : Int)), hxa (d + 1) (some (.int)) hm_t187 4 [.ref 368, .int x4_1, .int x4_2] [] A P := by
    intro m4
    induction m4 with
    | zero => intro x4_1 x4_2 bx4_2 cx4_2 hm4; have := hn_rng x4_1; exact False.elim (by omega)
    | succ m4 ih4 =>
      intro x4_1 x4_2 bx4_2 cx4_2 hm4
      refine hxa_iload_n (by rfl) rfl ?_
      refine hxa_aload_n (by rfl) rfl ?_
      refine hxa_get (v := .ref 377) (by rfl) (by rfl) (by rfl) rfl ?_
      refine hxa_aload_n (by rfl) rfl ?_
      refine hxj_getB (by rfl) (by rfl) (by rfl) hA (by rfl) (fun z1 ez1 fz1 gz1 => ?_)
      refine hxj_ialdB (by rfl) (by rfl) rfl (by omega) (by omega) hA (by rfl) (fun z2 ez2 fz2 gz2 => ?_)
      refine hxj_cge (by rfl) rfl rfl (fun q3 => ?_) (fun q3 => ?_)
      ·
        refine hxa_iload_n (by rfl) rfl ?_
        exact hxa_ireturn (by rfl) rfl (hP _ _ ⟨rfl, _, rfl⟩)
      ·
        refine hxa_aload_n (by rfl) rfl ?_
        refine hxa_iload_n (by rfl) rfl ?_
        refine hxa_call0 (by rfl) (by rfl) (by rfl) (by rfl) (by rfl) (by rfl) (hX186 (d := d + 0) hA x4_2 (by omega) (by omega)) ?_
        rintro _ _ ⟨rfl, z4, rfl, fz4⟩
        refine hxj_zeq (by rfl) rfl (fun q5 => ?_) (fun q5 => ?_)
        ·
          refine hxj_iinc (by rfl) rfl rfl hk_1 (by omega) (by omega) (fun _ => rfl) (fun z6 ez6 => ?_)
          refine hxa_goto (by rfl) ?_
          exact ih4 x4_1 z6 (by omega) (by omega) (by omega)
        ·
          refine hxj_iincU (by rfl) rfl (fun _ => rfl) (fun z7 => ?_)
          refine hxj_iinc (by rfl) rfl rfl hk_1 (by omega) (by omega) (fun _ => rfl) (fun z8 ez8 => ?_)
          refine hxa_goto (by rfl) ?_
          exact ih4 z7 z8 (by omega) (by omega) (by omega)
  refine hxa_iconst (by rfl) rfl ?_
  refine hxa_s1 (by rfl) (Or.inl ⟨_, rfl, rfl⟩) rfl ?_
  refine hxa_iconst (by rfl) rfl ?_
  refine hxa_s1 (by rfl) (Or.inl ⟨_, rfl, rfl⟩) rfl ?_
  exact L4 (Int.toNat (10 - 0) + 1) (Int32.ofNat 0) (Int32.ofNat 0) (by omega) (by omega) (by omega)
theorem hX187 {d : Nat} {Bn Br : Int} {A0 A : hs_A} (hA : hJ 0 Bn Br A0 A)   : hxC (d + 2) 187 hm_m187 [.ref 368] A (fun r A' => A = A' ∧ ∃ z : Int32, r = some (.int z)) := hxC.of (by rfl) (hY187 hA  (fun r A' h => h))
theorem hY188 {d : Nat} {N : Int} {A0 A : hs_A} (hA : hJ 0 N (N + 72) A0 A) (hN : N ≤ 900000) (a1 : Int32) (a2 : Int32) {P : Option Value → hs_A → Prop} (hP : ∀ (r : Option Value) (A' : hs_A), (hJ 0 (N + 72) (N + 144) A0 A' ∧ ∃ z : Int32, r = some (.int z)) → P r A') : hxa (d + 3) (some (.int)) hm_t188 0 [.ref 368, .int a1, .int a2] [] A P := by
  have k0 := hk_0
  have k4294967295 := hk_4294967295
  have k9 := hk_9
  refine hxa_aload_n (by rfl) rfl ?_
  refine hxa_iload_n (by rfl) rfl ?_
  refine hxa_call0 (by rfl) (by rfl) (by rfl) (by rfl) (by rfl) (by rfl) (hX167 (d := d + 1) hA a1) ?_
  rintro _ _ ⟨rfl, z1, rfl, fz1⟩
  rcases fz1 with fz1 | fz1
  ·
    refine hxj_zeq (by rfl) rfl (fun q2 => False.elim (by omega)) (fun q2 => ?_)
    refine hxa_iload_n (by rfl) rfl ?_
    refine hxa_iconst (by rfl) rfl ?_
    refine hxa_bipush (by rfl) rfl ?_
    refine hxa_call2 (by rfl) (by decide) (by rfl) (by rfl) (by rfl) (hX164 (d := d + 2)  a2 (Int32.ofNat 0) (Int32.ofNat 9)) ?_
    rintro _ _ ⟨rfl, z3, rfl, fz3⟩
    rcases fz3 with fz3 | fz3
    ·
      refine hxj_zne (by rfl) rfl (fun q4 => ?_) (fun q4 => False.elim (by omega))
      refine hxa_aload_n (by rfl) rfl ?_
      refine hxa_call0 (by rfl) (by rfl) (by rfl) (by rfl) (by rfl) (by rfl) (hX171 (d := d + 2) hA ) ?_
      rintro _ A5 ⟨hA5, rfl⟩
      refine hxa_iload_n (by rfl) rfl ?_
      by_cases q6 : a2.toInt = 0
      ·
        refine hxa_tabIn (by rfl) (by omega) (by omega) (by rw [q6]; rfl) (tgt := 76) (by rfl) ?_
        refine hxa_aload_n (by rfl) rfl ?_
        refine hxa_get (v := .ref 397) (by rfl) (by rfl) (by rfl) rfl ?_
        refine hxa_iload_n (by rfl) rfl ?_
        refine hxj_iald396 (by rfl) rfl (by omega) (by omega) hA5 (fun z7 ez7 fz7 => ?_)
        exact hxa_ireturn (by rfl) rfl (hP _ _ ⟨(hJ.mono hA5 (by omega) (by omega)), _, rfl⟩)
      ·
        by_cases q8 : a2.toInt = 1
        ·
          refine hxa_tabIn (by rfl) (by omega) (by omega) (by rw [q8]; rfl) (tgt := 83) (by rfl) ?_
          refine hxa_aload_n (by rfl) rfl ?_
          refine hxa_get (v := .ref 397) (by rfl) (by rfl) (by rfl) rfl ?_
          refine hxa_bipush (by rfl) rfl ?_
          refine hxa_iload_n (by rfl) rfl ?_
          refine hxj_iadd (by rfl) hk_10 rfl (by omega) (by omega) (fun z9 ez9 => ?_)
          refine hxj_iald396 (by rfl) rfl (by omega) (by omega) hA5 (fun z10 ez10 fz10 => ?_)
          exact hxa_ireturn (by rfl) rfl (hP _ _ ⟨(hJ.mono hA5 (by omega) (by omega)), _, rfl⟩)
        ·
          by_cases q11 : a2.toInt = 2
          ·
            refine hxa_tabIn (by rfl) (by omega) (by omega) (by rw [q11]; rfl) (tgt := 93) (by rfl) ?_
            refine hxa_aload_n (by rfl) rfl ?_
            refine hxa_get (v := .ref 397) (by rfl) (by rfl) (by rfl) rfl ?_
            refine hxa_bipush (by rfl) rfl ?_
            refine hxa_iload_n (by rfl) rfl ?_
            refine hxj_iadd (by rfl) hk_30 rfl (by omega) (by omega) (fun z12 ez12 => ?_)
            refine hxj_iald396 (by rfl) rfl (by omega) (by omega) hA5 (fun z13 ez13 fz13 => ?_)
            exact hxa_ireturn (by rfl) rfl (hP _ _ ⟨(hJ.mono hA5 (by omega) (by omega)), _, rfl⟩)
          ·
            by_cases q14 : a2.toInt = 3
            ·
              refine hxa_tabIn (by rfl) (by omega) (by omega) (by rw [q14]; rfl) (tgt := 103) (by rfl) ?_
              refine hxa_aload_n (by rfl) rfl ?_
              refine hxa_get (v := .ref 397) (by rfl) (by rfl) (by rfl) rfl ?_
              refine hxa_bipush (by rfl) rfl ?_
              refine hxa_iload_n (by rfl) rfl ?_
              refine hxj_iadd (by rfl) hk_40 rfl (by omega) (by omega) (fun z15 ez15 => ?_)
              refine hxj_iald396 (by rfl) rfl (by omega) (by omega) hA5 (fun z16 ez16 fz16 => ?_)
              exact hxa_ireturn (by rfl) rfl (hP _ _ ⟨(hJ.mono hA5 (by omega) (by omega)), _, rfl⟩)
            ·
              by_cases q17 : a2.toInt = 4
              ·
                refine hxa_tabIn (by rfl) (by omega) (by omega) (by rw [q17]; rfl) (tgt := 113) (by rfl) ?_
                refine hxa_aload_n (by rfl) rfl ?_
                refine hxa_get (v := .ref 397) (by rfl) (by rfl) (by rfl) rfl ?_
                refine hxa_bipush (by rfl) rfl ?_
                refine hxa_iload_n (by rfl) rfl ?_
                refine hxj_iadd (by rfl) hk_50 rfl (by omega) (by omega) (fun z18 ez18 => ?_)
                refine hxj_iald396 (by rfl) rfl (by omega) (by omega) hA5 (fun z19 ez19 fz19 => ?_)
                exact hxa_ireturn (by rfl) rfl (hP _ _ ⟨(hJ.mono hA5 (by omega) (by omega)), _, rfl⟩)
              ·
                by_cases q20 : a2.toInt = 5
                ·
                  refine hxa_tabIn (by rfl) (by omega) (by omega) (by rw [q20]; rfl) (tgt := 123) (by rfl) ?_
                  refine hxa_aload_n (by rfl) rfl ?_
                  refine hxa_get (v := .ref 397) (by rfl) (by rfl) (by rfl) rfl ?_
                  refine hxa_bipush (by rfl) rfl ?_
                  refine hxa_iload_n (by rfl) rfl ?_
                  refine hxj_iadd (by rfl) hk_60 rfl (by omega) (by omega) (fun z21 ez21 => ?_)
                  refine hxj_iald396 (by rfl) rfl (by omega) (by omega) hA5 (fun z22 ez22 fz22 => ?_)
                  exact hxa_ireturn (by rfl) rfl (hP _ _ ⟨(hJ.mono hA5 (by omega) (by omega)), _, rfl⟩)
                ·
                  by_cases q23 : a2.toInt = 6
                  ·
                    refine hxa_tabIn (by rfl) (by omega) (by omega) (by rw [q23]; rfl) (tgt := 133) (by rfl) ?_
                    refine hxa_aload_n (by rfl) rfl ?_
                    refine hxa_get (v := .ref 397) (by rfl) (by rfl) (by rfl) rfl ?_
                    refine hxa_bipush (by rfl) rfl ?_
                    refine hxa_iload_n (by rfl) rfl ?_
                    refine hxj_iadd (by rfl) hk_20 rfl (by omega) (by omega) (fun z24 ez24 => ?_)
                    refine hxj_iald396 (by rfl) rfl (by omega) (by omega) hA5 (fun z25 ez25 fz25 => ?_)
                    exact hxa_ireturn (by rfl) rfl (hP _ _ ⟨(hJ.mono hA5 (by omega) (by omega)), _, rfl⟩)
                  ·
                    by_cases q26 : a2.toInt = 7
                    ·
                      refine hxa_tabIn (by rfl) (by omega) (by omega) (by rw [q26]; rfl) (tgt := 143) (by rfl) ?_
                      refine hxa_aload_n (by rfl) rfl ?_
                      refine hxa_iload_n (by rfl) rfl ?_
                      refine hxa_iload_n (by rfl) rfl ?_
                      refine hxj_zne (by rfl) rfl (fun q27 => ?_) (fun q27 => ?_)
                      ·
                        refine hxa_aload_n (by rfl) rfl ?_
                        refine hxa_get (v := .ref 397) (by rfl) (by rfl) (by rfl) rfl ?_
                        refine hxa_bipush (by rfl) rfl ?_
                        refine hxa_iload_n (by rfl) rfl ?_
                        refine hxj_iadd (by rfl) hk_29 rfl (by omega) (by omega) (fun z28 ez28 => ?_)
                        refine hxj_iald396 (by rfl) rfl (by omega) (by omega) hA5 (fun z29 ez29 fz29 => ?_)
                        refine hxa_call2 (by rfl) (by decide) (by rfl) (by rfl) (by rfl) (hX166 (d := d + 2)  z29) ?_
                        rintro _ _ ⟨rfl, z30, rfl⟩
                        refine hxa_aload_n (by rfl) rfl ?_
                        refine hxa_get (v := .ref 397) (by rfl) (by rfl) (by rfl) rfl ?_
                        refine hxa_bipush (by rfl) rfl ?_
                        refine hxj_iald396 (by rfl) hk_70 (by omega) (by omega) hA5 (fun z31 ez31 fz31 => ?_)
                        refine hxa_call0 (by rfl) (by rfl) (by rfl) (by rfl) (by rfl) (by rfl) (hX178 (d := d + 0) hA5 a1 (by omega) (by omega) z30 z31) ?_
                        rintro _ A32 ⟨hA32, z33, rfl, fz33⟩
                        exact hxa_ireturn (by rfl) rfl (hP _ _ ⟨(hJ.mono hA32 (by omega) (by omega)), _, rfl⟩)
                      ·
                        refine hxa_iconst (by rfl) rfl ?_
                        refine hxa_goto (by rfl) ?_
                        refine hxa_aload_n (by rfl) rfl ?_
                        refine hxa_get (v := .ref 397) (by rfl) (by rfl) (by rfl) rfl ?_
                        refine hxa_bipush (by rfl) rfl ?_
                        refine hxj_iald396 (by rfl) hk_70 (by omega) (by omega) hA5 (fun z34 ez34 fz34 => ?_)
                        refine hxa_call0 (by rfl) (by rfl) (by rfl) (by rfl) (by rfl) (by rfl) (hX178 (d := d + 0) hA5 a1 (by omega) (by omega) (Int32.ofNat 0) z34) ?_
                        rintro _ A35 ⟨hA35, z36, rfl, fz36⟩
                        exact hxa_ireturn (by rfl) rfl (hP _ _ ⟨(hJ.mono hA35 (by omega) (by omega)), _, rfl⟩)
                    ·
                      by_cases q37 : a2.toInt = 8
                      ·
                        refine hxa_tabIn (by rfl) (by omega) (by omega) (by rw [q37]; rfl) (tgt := 176) (by rfl) ?_
                        refine hxa_aload_n (by rfl) rfl ?_
                        refine hxa_iload_n (by rfl) rfl ?_
                        refine hxa_aload_n (by rfl) rfl ?_
                        refine hxa_get (v := .ref 397) (by rfl) (by rfl) (by rfl) rfl ?_
                        refine hxa_bipush (by rfl) rfl ?_
                        refine hxj_iald396 (by rfl) hk_70 (by omega) (by omega) hA5 (fun z38 ez38 fz38 => ?_)
                        refine hxa_call0 (by rfl) (by rfl) (by rfl) (by rfl) (by rfl) (by rfl) (hX179 (d := d + 0) hA5 a1 (by omega) (by omega) z38) ?_
                        rintro _ A39 ⟨hA39, z40, rfl, fz40⟩
                        exact hxa_ireturn (by rfl) rfl (hP _ _ ⟨(hJ.mono hA39 (by omega) (by omega)), _, rfl⟩)
                      ·
                        refine hxa_tabOut (by rfl) (by omega) (tgt := 189) (by rfl) ?_
                        refine hxa_aload_n (by rfl) rfl ?_
                        refine hxa_iload_n (by rfl) rfl ?_
                        refine hxa_call0 (by rfl) (by rfl) (by rfl) (by rfl) (by rfl) (by rfl) (hX180 (d := d + 0) hA5 a1 (by omega) (by omega)) ?_
                        rintro _ A41 ⟨hA41, z42, rfl⟩
                        exact hxa_ireturn (by rfl) rfl (hP _ _ ⟨(hJ.mono hA41 (by omega) (by omega)), _, rfl⟩)
    ·
      refine hxj_zne (by rfl) rfl (fun q43 => False.elim (by omega)) (fun q43 => ?_)
      refine hxa_iconst (by rfl) rfl ?_
      exact hxa_ireturn (by rfl) rfl (hP _ _ ⟨(hJ.mono hA (by omega) (by omega)), _, rfl⟩)
  ·
    refine hxj_zeq (by rfl) rfl (fun q44 => ?_) (fun q44 => False.elim (by omega))
    refine hxa_iconst (by rfl) rfl ?_
    exact hxa_ireturn (by rfl) rfl (hP _ _ ⟨(hJ.mono hA (by omega) (by omega)), _, rfl⟩)
theorem hX188 {d : Nat} {N : Int} {A0 A : hs_A} (hA : hJ 0 N (N + 72) A0 A) (hN : N ≤ 900000) (a1 : Int32) (a2 : Int32) : hxC (d + 4) 188 hm_m188 [.ref 368, .int a1, .int a2] A (fun r A' => hJ 0 (N + 72) (N + 144) A0 A' ∧ ∃ z : Int32, r = some (.int z)) := hxC.of (by rfl) (hY188 hA hN a1 a2 (fun r A' h => h))
theorem hY189 {d : Nat} {N : Int} {A0 A : hs_A} (hA : hJ 0 N (N + 72) A0 A) (hN : N ≤ 900000) (a1 : Int32) (a2 : Int32) {P : Option Value → hs_A → Prop} (hP : ∀ (r : Option Value) (A' : hs_A), (hJ 0 (N + 72) (N + 144) A0 A' ∧ ∃ z : Int32, r = some (.int z)) → P r A') : hxa (d + 4) (some (.int)) hm_t189 0 [.ref 368, .int a1, .int a2] [] A P := by
  have k4294967295 := hk_4294967295
  refine hxa_aload_n (by rfl) rfl ?_
  refine hxa_iload_n (by rfl) rfl ?_
  refine hxa_call0 (by rfl) (by rfl) (by rfl) (by rfl) (by rfl) (by rfl) (hX167 (d := d + 2) hA a1) ?_
  rintro _ _ ⟨rfl, z1, rfl, fz1⟩
  rcases fz1 with fz1 | fz1
  ·
    refine hxj_zeq (by rfl) rfl (fun q2 => False.elim (by omega)) (fun q2 => ?_)
    refine hxa_iload_n (by rfl) rfl ?_
    refine hxa_call2 (by rfl) (by decide) (by rfl) (by rfl) (by rfl) (hX168 (d := d + 2)  a2) ?_
    rintro _ _ ⟨rfl, z3, rfl, fz3⟩
    rcases fz3 with fz3 | fz3
    ·
      refine hxj_zne (by rfl) rfl (fun q4 => ?_) (fun q4 => False.elim (by omega))
      refine hxa_aload_n (by rfl) rfl ?_
      refine hxa_call0 (by rfl) (by rfl) (by rfl) (by rfl) (by rfl) (by rfl) (hX171 (d := d + 3) hA ) ?_
      rintro _ A5 ⟨hA5, rfl⟩
      refine hxa_aload_n (by rfl) rfl ?_
      refine hxa_iload_n (by rfl) rfl ?_
      refine hxa_iload_n (by rfl) rfl ?_
      refine hxa_aload_n (by rfl) rfl ?_
      refine hxa_get (v := .ref 397) (by rfl) (by rfl) (by rfl) rfl ?_
      refine hxa_bipush (by rfl) rfl ?_
      refine hxj_iald396 (by rfl) hk_70 (by omega) (by omega) hA5 (fun z6 ez6 fz6 => ?_)
      refine hxa_call0 (by rfl) (by rfl) (by rfl) (by rfl) (by rfl) (by rfl) (hX181 (d := d + 0) hA5 a1 (by omega) (by omega) a2 z6) ?_
      rintro _ A7 ⟨hA7, z8, rfl, fz8⟩
      exact hxa_ireturn (by rfl) rfl (hP _ _ ⟨(hJ.mono hA7 (by omega) (by omega)), _, rfl⟩)
    ·
      refine hxj_zne (by rfl) rfl (fun q9 => False.elim (by omega)) (fun q9 => ?_)
      refine hxa_iconst (by rfl) rfl ?_
      exact hxa_ireturn (by rfl) rfl (hP _ _ ⟨(hJ.mono hA (by omega) (by omega)), _, rfl⟩)
  ·
    refine hxj_zeq (by rfl) rfl (fun q10 => ?_) (fun q10 => False.elim (by omega))
    refine hxa_iconst (by rfl) rfl ?_
    exact hxa_ireturn (by rfl) rfl (hP _ _ ⟨(hJ.mono hA (by omega) (by omega)), _, rfl⟩)
theorem hX189 {d : Nat} {N : Int} {A0 A : hs_A} (hA : hJ 0 N (N + 72) A0 A) (hN : N ≤ 900000) (a1 : Int32) (a2 : Int32) : hxC (d + 5) 189 hm_m189 [.ref 368, .int a1, .int a2] A (fun r A' => hJ 0 (N + 72) (N + 144) A0 A' ∧ ∃ z : Int32, r = some (.int z)) := hxC.of (by rfl) (hY189 hA hN a1 a2 (fun r A' h => h))
theorem hY190 {d : Nat} {Bn Br : Int} {A0 A : hs_A} (hA : hJ 0 Bn Br A0 A) (hBr : Br ≤ Bn + 72)  {P : Option Value → hs_A → Prop} (hP : ∀ (r : Option Value) (A' : hs_A), (hJ 0 (Bn + 72) Br A0 A' ∧ r = none) → P r A') : hxa (d + 1) none hm_t190 0 [.ref 368, .retAddr 0] [] A P := by
  have k0 := hk_0
  have L51 : ∀ (m51 : Nat) (w51_0 : Int32) (x51_1 : Int32) (Ac51 : hs_A) (hAc51 : hJ 0 Bn Br A0 Ac51) (ek51_0 : Ac51.1 367 51 = w51_0) (bx51_1 : 0 ≤ x51_1.toInt) (cx51_1 : x51_1.toInt ≤ 73) (bw51_0 : 0 ≤ w51_0.toInt) (cw51_0 : w51_0.toInt ≤ 39) (hm51 : 73 - x51_1.toInt < (m51 : Int)), hxa (d + 1) none hm_t190 51 [.ref 368, .int x51_1] [] Ac51 P := by
    intro m51
    induction m51 with
    | zero => intro w51_0 x51_1 Ac51 hAc51 ek51_0 bx51_1 cx51_1 bw51_0 cw51_0 hm51;  exact False.elim (by omega)
    | succ m51 ih51 =>
      intro w51_0 x51_1 Ac51 hAc51 ek51_0 bx51_1 cx51_1 bw51_0 cw51_0 hm51
      refine hxa_iload_n (by rfl) rfl ?_
      refine hxa_bipush (by rfl) rfl ?_
      refine hxj_cge (by rfl) rfl hk_73 (fun q1 => ?_) (fun q1 => ?_)
      ·
        refine hxa_aload_n (by rfl) rfl ?_
        refine hxa_dupR (by rfl) ?_
        refine hxj_getK (by rfl) (by rfl) (by rfl) ek51_0 ?_
        refine hxa_iconst (by rfl) rfl ?_
        refine hxj_iadd (by rfl) rfl hk_1 (by omega) (by omega) (fun z2 ez2 => ?_)
        refine hxj_putI (by rfl) (by rfl) (by rfl) (by rfl) hAc51 (hbok (by rfl) rfl (by omega) (by omega)) (by rfl) (by rfl) (fun A3 hA3 eA3 fA3 => ?_)
        refine hxa_aload_n (by rfl) rfl ?_
        refine hxa_call0 (by rfl) (by rfl) (by rfl) (by rfl) (by rfl) (by rfl) (hX170 (d := d + 0) hA3 (by omega)) ?_
        rintro _ A4 ⟨hA4, rfl⟩
        exact hxa_return (by rfl) rfl (hP _ _ ⟨hA4, rfl⟩)
      ·
        refine hxa_aload_n (by rfl) rfl ?_
        refine hxa_get (v := .ref 400) (by rfl) (by rfl) (by rfl) rfl ?_
        refine hxa_bipush (by rfl) rfl ?_
        refine hxa_aload_n (by rfl) rfl ?_
        refine hxj_getK (by rfl) (by rfl) (by rfl) ek51_0 ?_
        refine hxj_imul (by rfl) hk_73 rfl (by omega) (by omega) (fun z5 ez5 => ?_)
        refine hxa_iload_n (by rfl) rfl ?_
        refine hxj_iadd (by rfl) rfl rfl (by omega) (by omega) (fun z6 ez6 => ?_)
        refine hxa_aload_n (by rfl) rfl ?_
        refine hxa_get (v := .ref 396) (by rfl) (by rfl) (by rfl) rfl ?_
        refine hxa_iload_n (by rfl) rfl ?_
        refine hxj_iald395 (by rfl) rfl (by omega) (by omega) hAc51 (fun z7 ez7 fz7 => ?_)
        refine hxj_iast399 (by rfl) rfl (by omega) (by omega) rfl hAc51 (by omega) (fun A8 hA8 eA8 fA8 gA8 => ?_)
        refine hxj_iinc (by rfl) rfl rfl hk_1 (by omega) (by omega) (fun _ => rfl) (fun z9 ez9 => ?_)
        refine hxa_goto (by rfl) ?_
        exact ih51 w51_0 z9 A8 hA8 (hkA eA8 ek51_0) (by omega) (by omega) (by omega) (by omega) (by omega)
  have L11 : ∀ (m11 : Nat) (w11_0 : Int32) (x11_1 : Int32) (Ac11 : hs_A) (hAc11 : hJ 0 Bn Br A0 Ac11) (ek11_0 : Ac11.1 367 51 = w11_0) (bx11_1 : 0 ≤ x11_1.toInt) (cx11_1 : x11_1.toInt ≤ 2847) (bw11_0 : 40 ≤ w11_0.toInt) (cw11_0 : w11_0.toInt ≤ 40) (hm11 : 2847 - x11_1.toInt < (m11 : Int)), hxa (d + 1) none hm_t190 11 [.ref 368, .int x11_1] [] Ac11 P := by
    intro m11
    induction m11 with
    | zero => intro w11_0 x11_1 Ac11 hAc11 ek11_0 bx11_1 cx11_1 bw11_0 cw11_0 hm11;  exact False.elim (by omega)
    | succ m11 ih11 =>
      intro w11_0 x11_1 Ac11 hAc11 ek11_0 bx11_1 cx11_1 bw11_0 cw11_0 hm11
      refine hxa_iload_n (by rfl) rfl ?_
      refine hxa_sipush (by rfl) rfl ?_
      refine hxj_cge (by rfl) rfl hk_2847 (fun q10 => ?_) (fun q10 => ?_)
      ·
        refine hxa_aload_n (by rfl) rfl ?_
        refine hxa_dupR (by rfl) ?_
        refine hxj_getK (by rfl) (by rfl) (by rfl) ek11_0 ?_
        refine hxa_iconst (by rfl) rfl ?_
        refine hxj_isub (by rfl) rfl hk_1 (by omega) (by omega) (fun z11 ez11 => ?_)
        refine hxj_putI (by rfl) (by rfl) (by rfl) (by rfl) hAc11 (hbok (by rfl) rfl (by omega) (by omega)) (by rfl) (by rfl) (fun A12 hA12 eA12 fA12 => ?_)
        refine hxa_iconst (by rfl) rfl ?_
        refine hxa_s1 (by rfl) (Or.inl ⟨_, rfl, rfl⟩) rfl ?_
        exact L51 (Int.toNat (73 - 0) + 1) z11 (Int32.ofNat 0) A12 hA12 (hkS eA12) (by omega) (by omega) (by omega) (by omega) (by omega)
      ·
        refine hxa_aload_n (by rfl) rfl ?_
        refine hxa_get (v := .ref 400) (by rfl) (by rfl) (by rfl) rfl ?_
        refine hxa_iload_n (by rfl) rfl ?_
        refine hxa_aload_n (by rfl) rfl ?_
        refine hxa_get (v := .ref 400) (by rfl) (by rfl) (by rfl) rfl ?_
        refine hxa_iload_n (by rfl) rfl ?_
        refine hxa_bipush (by rfl) rfl ?_
        refine hxj_iadd (by rfl) rfl hk_73 (by omega) (by omega) (fun z13 ez13 => ?_)
        refine hxj_iald399 (by rfl) rfl (by omega) (by omega) hAc11 (fun z14 ez14 fz14 => ?_)
        refine hxj_iast399 (by rfl) rfl (by omega) (by omega) rfl hAc11 (by omega) (fun A15 hA15 eA15 fA15 gA15 => ?_)
        refine hxj_iinc (by rfl) rfl rfl hk_1 (by omega) (by omega) (fun _ => rfl) (fun z16 ez16 => ?_)
        refine hxa_goto (by rfl) ?_
        exact ih11 w11_0 z16 A15 hA15 (hkA eA15 ek11_0) (by omega) (by omega) (by omega) (by omega) (by omega)
  refine hxa_aload_n (by rfl) rfl ?_
  refine hxj_getB (by rfl) (by rfl) (by rfl) hA (by rfl) (fun z17 ez17 fz17 gz17 => ?_)
  refine hxa_bipush (by rfl) rfl ?_
  refine hxj_cne (by rfl) rfl hk_40 (fun q18 => ?_) (fun q18 => ?_)
  ·
    refine hxa_iconst (by rfl) rfl ?_
    refine hxa_s1 (by rfl) (Or.inl ⟨_, rfl, rfl⟩) rfl ?_
    exact L51 (Int.toNat (73 - 0) + 1) z17 (Int32.ofNat 0) A hA ez17 (by omega) (by omega) (by omega) (by omega) (by omega)
  ·
    refine hxa_iconst (by rfl) rfl ?_
    refine hxa_s1 (by rfl) (Or.inl ⟨_, rfl, rfl⟩) rfl ?_
    exact L11 (Int.toNat (2847 - 0) + 1) z17 (Int32.ofNat 0) A hA ez17 (by omega) (by omega) (by omega) (by omega) (by omega)
theorem hX190 {d : Nat} {Bn Br : Int} {A0 A : hs_A} (hA : hJ 0 Bn Br A0 A) (hBr : Br ≤ Bn + 72)  : hxC (d + 2) 190 hm_m190 [.ref 368] A (fun r A' => hJ 0 (Bn + 72) Br A0 A' ∧ r = none) := hxC.of (by rfl) (hY190 hA hBr (fun r A' h => h))
theorem hY191 {d : Nat} {N : Int} {A0 A : hs_A} (hA : hJ 0 N (N + 72) A0 A) (hN : N ≤ 900000) (a1 : Int32) (a2 : Int32) (p2 : 0 ≤ a2.toInt) (q2 : a2.toInt ≤ 1) {P : Option Value → hs_A → Prop} (hP : ∀ (r : Option Value) (A' : hs_A), (hJ 0 (N + 72) (N + 144) A0 A' ∧ ∃ z : Int32, r = some (.int z) ∧ ((0 ≤ z.toInt ∧ z.toInt ≤ 1))) → P r A') : hxa (d + 2) (some (.boolean)) hm_t191 0 [.ref 368, .int a1, .int a2] [] A P := by
  have k0 := hk_0
  have k1 := hk_1
  have L26 : ∀ (y26_0 : Int32) (by26_0 : 0 ≤ y26_0.toInt) (cy26_0 : y26_0.toInt ≤ 1) (ba1 : 0 ≤ a1.toInt) (ca1 : a1.toInt ≤ 9), hxa (d + 2) (some (.boolean)) hm_t191 26 [.ref 368, .int a1, .int a2] [.int y26_0] A P := by
    intro y26_0 by26_0 cy26_0 ba1 ca1
    refine hxa_iload_n (by rfl) rfl ?_
    refine hxj_cne (by rfl) rfl rfl (fun q1 => ?_) (fun q1 => ?_)
    ·
      refine hxa_aload_n (by rfl) rfl ?_
      refine hxa_call0 (by rfl) (by rfl) (by rfl) (by rfl) (by rfl) (by rfl) (hX171 (d := d + 1) hA ) ?_
      rintro _ A2 ⟨hA2, rfl⟩
      refine hxa_aload_n (by rfl) rfl ?_
      refine hxa_get (v := .ref 397) (by rfl) (by rfl) (by rfl) rfl ?_
      refine hxa_bipush (by rfl) rfl ?_
      refine hxa_iload_n (by rfl) rfl ?_
      refine hxj_iadd (by rfl) hk_50 rfl (by omega) (by omega) (fun z3 ez3 => ?_)
      refine hxa_iload_n (by rfl) rfl ?_
      refine hxj_zeq (by rfl) rfl (fun q4 => ?_) (fun q4 => ?_)
      ·
        refine hxa_iconst (by rfl) rfl ?_
        refine hxj_iast396 (by rfl) rfl (by omega) (by omega) hk_0 hA2 (by omega) (fun A5 hA5 eA5 fA5 gA5 => ?_)
        refine hxa_aload_n (by rfl) rfl ?_
        refine hxa_call0 (by rfl) (by rfl) (by rfl) (by rfl) (by rfl) (by rfl) (hX190 (d := d + 0) hA5 (by omega)) ?_
        rintro _ A6 ⟨hA6, rfl⟩
        refine hxa_iconst (by rfl) rfl ?_
        exact hxa_ireturn (by rfl) (by rfl) (hP _ _ ⟨(hJ.mono hA6 (by omega) (by omega)), _, rfl, by omega⟩)
      ·
        refine hxa_iconst (by rfl) rfl ?_
        refine hxa_goto (by rfl) ?_
        refine hxj_iast396 (by rfl) rfl (by omega) (by omega) hk_1 hA2 (by omega) (fun A7 hA7 eA7 fA7 gA7 => ?_)
        refine hxa_aload_n (by rfl) rfl ?_
        refine hxa_call0 (by rfl) (by rfl) (by rfl) (by rfl) (by rfl) (by rfl) (hX190 (d := d + 0) hA7 (by omega)) ?_
        rintro _ A8 ⟨hA8, rfl⟩
        refine hxa_iconst (by rfl) rfl ?_
        exact hxa_ireturn (by rfl) (by rfl) (hP _ _ ⟨(hJ.mono hA8 (by omega) (by omega)), _, rfl, by omega⟩)
    ·
      refine hxa_iconst (by rfl) rfl ?_
      exact hxa_ireturn (by rfl) (by rfl) (hP _ _ ⟨(hJ.mono hA (by omega) (by omega)), _, rfl, by omega⟩)
  refine hxa_aload_n (by rfl) rfl ?_
  refine hxa_iload_n (by rfl) rfl ?_
  refine hxa_call0 (by rfl) (by rfl) (by rfl) (by rfl) (by rfl) (by rfl) (hX167 (d := d + 0) hA a1) ?_
  rintro _ _ ⟨rfl, z9, rfl, fz9⟩
  rcases fz9 with fz9 | fz9
  ·
    refine hxj_zeq (by rfl) rfl (fun q10 => False.elim (by omega)) (fun q10 => ?_)
    refine hxa_aload_n (by rfl) rfl ?_
    refine hxa_get (v := .ref 396) (by rfl) (by rfl) (by rfl) rfl ?_
    refine hxa_bipush (by rfl) rfl ?_
    refine hxa_iload_n (by rfl) rfl ?_
    refine hxj_iadd (by rfl) hk_50 rfl (by omega) (by omega) (fun z11 ez11 => ?_)
    refine hxj_iald395 (by rfl) rfl (by omega) (by omega) hA (fun z12 ez12 fz12 => ?_)
    refine hxa_iconst (by rfl) rfl ?_
    refine hxj_cne (by rfl) rfl hk_1 (fun q13 => ?_) (fun q13 => ?_)
    ·
      refine hxa_iconst (by rfl) rfl ?_
      exact L26 (Int32.ofNat 0) (by omega) (by omega) (by omega) (by omega)
    ·
      refine hxa_iconst (by rfl) rfl ?_
      refine hxa_goto (by rfl) ?_
      exact L26 (Int32.ofNat 1) (by omega) (by omega) (by omega) (by omega)
  ·
    refine hxj_zeq (by rfl) rfl (fun q14 => ?_) (fun q14 => False.elim (by omega))
    refine hxa_iconst (by rfl) rfl ?_
    exact hxa_ireturn (by rfl) (by rfl) (hP _ _ ⟨(hJ.mono hA (by omega) (by omega)), _, rfl, by omega⟩)
theorem hX191 {d : Nat} {N : Int} {A0 A : hs_A} (hA : hJ 0 N (N + 72) A0 A) (hN : N ≤ 900000) (a1 : Int32) (a2 : Int32) (p2 : 0 ≤ a2.toInt) (q2 : a2.toInt ≤ 1) : hxC (d + 3) 191 hm_m191 [.ref 368, .int a1, .int a2] A (fun r A' => hJ 0 (N + 72) (N + 144) A0 A' ∧ ∃ z : Int32, r = some (.int z) ∧ ((0 ≤ z.toInt ∧ z.toInt ≤ 1))) := hxC.of (by rfl) (hY191 hA hN a1 a2 p2 q2 (fun r A' h => h))
theorem hY192 {d : Nat} {N : Int} {A0 A : hs_A} (hA : hJ 0 N (N + 72) A0 A) (hN : N ≤ 900000) (a1 : Int32) {P : Option Value → hs_A → Prop} (hP : ∀ (r : Option Value) (A' : hs_A), (hJ 0 (N + 72) (N + 144) A0 A' ∧ ∃ z : Int32, r = some (.int z) ∧ ((0 ≤ z.toInt ∧ z.toInt ≤ 1))) → P r A') : hxa (d + 2) (some (.boolean)) hm_t192 0 [.ref 368, .int a1] [] A P := by
  have k0 := hk_0
  have k1 := hk_1
  refine hxa_iload_n (by rfl) rfl ?_
  refine hxa_call2 (by rfl) (by decide) (by rfl) (by rfl) (by rfl) (hX168 (d := d + 0)  a1) ?_
  rintro _ _ ⟨rfl, z1, rfl, fz1⟩
  rcases fz1 with fz1 | fz1
  ·
    refine hxj_zeq (by rfl) rfl (fun q2 => False.elim (by omega)) (fun q2 => ?_)
    refine hxa_aload_n (by rfl) rfl ?_
    refine hxa_get (v := .ref 377) (by rfl) (by rfl) (by rfl) rfl ?_
    refine hxa_aload_n (by rfl) rfl ?_
    refine hxj_getB (by rfl) (by rfl) (by rfl) hA (by rfl) (fun z3 ez3 fz3 gz3 => ?_)
    refine hxj_ialdB (by rfl) (by rfl) rfl (by omega) (by omega) hA (by rfl) (fun z4 ez4 fz4 gz4 => ?_)
    refine hxj_zne (by rfl) rfl (fun q5 => ?_) (fun q5 => ?_)
    ·
      refine hxa_aload_n (by rfl) rfl ?_
      refine hxa_call0 (by rfl) (by rfl) (by rfl) (by rfl) (by rfl) (by rfl) (hX171 (d := d + 1) hA ) ?_
      rintro _ A6 ⟨hA6, rfl⟩
      refine hxa_aload_n (by rfl) rfl ?_
      refine hxa_get (v := .ref 397) (by rfl) (by rfl) (by rfl) rfl ?_
      refine hxa_bipush (by rfl) rfl ?_
      refine hxa_iload_n (by rfl) rfl ?_
      refine hxj_iast396 (by rfl) hk_71 (by omega) (by omega) rfl hA6 (by omega) (fun A7 hA7 eA7 fA7 gA7 => ?_)
      refine hxa_aload_n (by rfl) rfl ?_
      refine hxa_call0 (by rfl) (by rfl) (by rfl) (by rfl) (by rfl) (by rfl) (hX190 (d := d + 0) hA7 (by omega)) ?_
      rintro _ A8 ⟨hA8, rfl⟩
      refine hxa_iconst (by rfl) rfl ?_
      exact hxa_ireturn (by rfl) (by rfl) (hP _ _ ⟨(hJ.mono hA8 (by omega) (by omega)), _, rfl, by omega⟩)
    ·
      refine hxa_iconst (by rfl) rfl ?_
      exact hxa_ireturn (by rfl) (by rfl) (hP _ _ ⟨(hJ.mono hA (by omega) (by omega)), _, rfl, by omega⟩)
  ·
    refine hxj_zeq (by rfl) rfl (fun q9 => ?_) (fun q9 => False.elim (by omega))
    refine hxa_iconst (by rfl) rfl ?_
    exact hxa_ireturn (by rfl) (by rfl) (hP _ _ ⟨(hJ.mono hA (by omega) (by omega)), _, rfl, by omega⟩)
theorem hX192 {d : Nat} {N : Int} {A0 A : hs_A} (hA : hJ 0 N (N + 72) A0 A) (hN : N ≤ 900000) (a1 : Int32) : hxC (d + 3) 192 hm_m192 [.ref 368, .int a1] A (fun r A' => hJ 0 (N + 72) (N + 144) A0 A' ∧ ∃ z : Int32, r = some (.int z) ∧ ((0 ≤ z.toInt ∧ z.toInt ≤ 1))) := hxC.of (by rfl) (hY192 hA hN a1 (fun r A' h => h))
theorem hY193 {d : Nat} {N : Int} {A0 A : hs_A} (hA : hJ 0 N (N + 72) A0 A) (hN : N ≤ 900000) (a1 : Int32) (a2 : Int32) {P : Option Value → hs_A → Prop} (hP : ∀ (r : Option Value) (A' : hs_A), (hJ 0 (N + 72) (N + 144) A0 A' ∧ ∃ z : Int32, r = some (.int z)) → P r A') : hxa (d + 2) (some (.int)) hm_t193 0 [.ref 368, .int a1, .int a2] [] A P := by
  have k4294967295 := hk_4294967295
  refine hxa_aload_n (by rfl) rfl ?_
  refine hxa_iload_n (by rfl) rfl ?_
  refine hxa_call0 (by rfl) (by rfl) (by rfl) (by rfl) (by rfl) (by rfl) (hX167 (d := d + 0) hA a1) ?_
  rintro _ _ ⟨rfl, z1, rfl, fz1⟩
  rcases fz1 with fz1 | fz1
  ·
    refine hxj_zeq (by rfl) rfl (fun q2 => False.elim (by omega)) (fun q2 => ?_)
    refine hxa_aload_n (by rfl) rfl ?_
    refine hxa_iload_n (by rfl) rfl ?_
    refine hxa_call0 (by rfl) (by rfl) (by rfl) (by rfl) (by rfl) (by rfl) (hX167 (d := d + 0) hA a2) ?_
    rintro _ _ ⟨rfl, z3, rfl, fz3⟩
    rcases fz3 with fz3 | fz3
    ·
      refine hxj_zeq (by rfl) rfl (fun q4 => False.elim (by omega)) (fun q4 => ?_)
      refine hxa_iload_n (by rfl) rfl ?_
      refine hxa_iload_n (by rfl) rfl ?_
      refine hxj_cne (by rfl) rfl rfl (fun q5 => ?_) (fun q5 => ?_)
      ·
        refine hxa_aload_n (by rfl) rfl ?_
        refine hxa_call0 (by rfl) (by rfl) (by rfl) (by rfl) (by rfl) (by rfl) (hX171 (d := d + 1) hA ) ?_
        rintro _ A6 ⟨hA6, rfl⟩
        refine hxa_aload_n (by rfl) rfl ?_
        refine hxa_get (v := .ref 397) (by rfl) (by rfl) (by rfl) rfl ?_
        refine hxa_bipush (by rfl) rfl ?_
        refine hxa_iload_n (by rfl) rfl ?_
        refine hxj_iadd (by rfl) hk_30 rfl (by omega) (by omega) (fun z7 ez7 => ?_)
        refine hxa_aload_n (by rfl) rfl ?_
        refine hxa_get (v := .ref 397) (by rfl) (by rfl) (by rfl) rfl ?_
        refine hxa_bipush (by rfl) rfl ?_
        refine hxa_iload_n (by rfl) rfl ?_
        refine hxj_iadd (by rfl) hk_30 rfl (by omega) (by omega) (fun z8 ez8 => ?_)
        refine hxj_iald396 (by rfl) rfl (by omega) (by omega) hA6 (fun z9 ez9 fz9 => ?_)
        refine hxj_iast396 (by rfl) rfl (by omega) (by omega) rfl hA6 (by omega) (fun A10 hA10 eA10 fA10 gA10 => ?_)
        refine hxa_aload_n (by rfl) rfl ?_
        refine hxa_get (v := .ref 397) (by rfl) (by rfl) (by rfl) rfl ?_
        refine hxa_bipush (by rfl) rfl ?_
        refine hxa_iload_n (by rfl) rfl ?_
        refine hxj_iadd (by rfl) hk_40 rfl (by omega) (by omega) (fun z11 ez11 => ?_)
        refine hxa_dup2IR (by rfl) ?_
        refine hxj_iald396 (by rfl) rfl (by omega) (by omega) hA10 (fun z12 ez12 fz12 => ?_)
        refine hxa_aload_n (by rfl) rfl ?_
        refine hxa_get (v := .ref 397) (by rfl) (by rfl) (by rfl) rfl ?_
        refine hxa_bipush (by rfl) rfl ?_
        refine hxa_iload_n (by rfl) rfl ?_
        refine hxj_iadd (by rfl) hk_30 rfl (by omega) (by omega) (fun z13 ez13 => ?_)
        refine hxj_iald396 (by rfl) rfl (by omega) (by omega) hA10 (fun z14 ez14 fz14 => ?_)
        refine hxa_aload_n (by rfl) rfl ?_
        refine hxa_get (v := .ref 397) (by rfl) (by rfl) (by rfl) rfl ?_
        refine hxa_iload_n (by rfl) rfl ?_
        refine hxj_iald396 (by rfl) rfl (by omega) (by omega) hA10 (fun z15 ez15 fz15 => ?_)
        refine hxj_iandU (by rfl) (fun z16 => ?_)
        refine hxj_iorU (by rfl) (fun z17 => ?_)
        refine hxj_iast396 (by rfl) rfl (by omega) (by omega) rfl hA10 (by omega) (fun A18 hA18 eA18 fA18 gA18 => ?_)
        refine hxa_aload_n (by rfl) rfl ?_
        refine hxa_call0 (by rfl) (by rfl) (by rfl) (by rfl) (by rfl) (by rfl) (hX190 (d := d + 0) hA18 (by omega)) ?_
        rintro _ A19 ⟨hA19, rfl⟩
        refine hxa_aload_n (by rfl) rfl ?_
        refine hxa_get (v := .ref 396) (by rfl) (by rfl) (by rfl) rfl ?_
        refine hxa_bipush (by rfl) rfl ?_
        refine hxa_iload_n (by rfl) rfl ?_
        refine hxj_iadd (by rfl) hk_30 rfl (by omega) (by omega) (fun z20 ez20 => ?_)
        refine hxj_iald395 (by rfl) rfl (by omega) (by omega) hA19 (fun z21 ez21 fz21 => ?_)
        exact hxa_ireturn (by rfl) rfl (hP _ _ ⟨(hJ.mono hA19 (by omega) (by omega)), _, rfl⟩)
      ·
        refine hxa_iconst (by rfl) rfl ?_
        exact hxa_ireturn (by rfl) rfl (hP _ _ ⟨(hJ.mono hA (by omega) (by omega)), _, rfl⟩)
    ·
      refine hxj_zeq (by rfl) rfl (fun q22 => ?_) (fun q22 => False.elim (by omega))
      refine hxa_iconst (by rfl) rfl ?_
      exact hxa_ireturn (by rfl) rfl (hP _ _ ⟨(hJ.mono hA (by omega) (by omega)), _, rfl⟩)
  ·
    refine hxj_zeq (by rfl) rfl (fun q23 => ?_) (fun q23 => False.elim (by omega))
    refine hxa_iconst (by rfl) rfl ?_
    exact hxa_ireturn (by rfl) rfl (hP _ _ ⟨(hJ.mono hA (by omega) (by omega)), _, rfl⟩)
theorem hX193 {d : Nat} {N : Int} {A0 A : hs_A} (hA : hJ 0 N (N + 72) A0 A) (hN : N ≤ 900000) (a1 : Int32) (a2 : Int32) : hxC (d + 3) 193 hm_m193 [.ref 368, .int a1, .int a2] A (fun r A' => hJ 0 (N + 72) (N + 144) A0 A' ∧ ∃ z : Int32, r = some (.int z)) := hxC.of (by rfl) (hY193 hA hN a1 a2 (fun r A' h => h))
theorem hY194 {d : Nat} {Bn Br : Int} {A0 A : hs_A} (hA : hJ 0 Bn Br A0 A)  (a1 : Int32) (p1 : 0 ≤ a1.toInt) (q1 : a1.toInt ≤ 9) (a2 : Int32) (p2 : 0 ≤ a2.toInt) (q2 : a2.toInt ≤ 9) {P : Option Value → hs_A → Prop} (hP : ∀ (r : Option Value) (A' : hs_A), (hJ 0 Bn Br A0 A' ∧ r = none) → P r A') : hxa (d + 0) none hm_t194 0 [.ref 368, .int a1, .int a2, .retAddr 0, .retAddr 0] [] A P := by
  have k0 := hk_0
  have L2 : ∀ (m2 : Nat) (x2_3 : Int32) (x2_4 : Value) (Ac2 : hs_A) (hAc2 : hJ 0 Bn Br A0 Ac2) (bx2_3 : 0 ≤ x2_3.toInt) (cx2_3 : x2_3.toInt ≤ 255) (hm2 : 255 - x2_3.toInt < (m2 : Int)), hxa (d + 0) none hm_t194 2 [.ref 368, .int a1, .int a2, .int x2_3, x2_4] [] Ac2 P := by
    intro m2
    induction m2 with
    | zero => intro x2_3 x2_4 Ac2 hAc2 bx2_3 cx2_3 hm2;  exact False.elim (by omega)
    | succ m2 ih2 =>
      intro x2_3 x2_4 Ac2 hAc2 bx2_3 cx2_3 hm2
      refine hxa_iload_n (by rfl) rfl ?_
      refine hxa_bipush (by rfl) rfl ?_
      refine hxj_cge (by rfl) rfl hk_50 (fun q1 => ?_) (fun q1 => ?_)
      ·
        exact hxa_return (by rfl) rfl (hP _ _ ⟨hAc2, rfl⟩)
      ·
        refine hxa_iload_n (by rfl) rfl ?_
        refine hxa_bipush (by rfl) rfl ?_
        refine hxj_cne (by rfl) rfl hk_30 (fun q2 => ?_) (fun q2 => ?_)
        ·
          refine hxa_aload_n (by rfl) rfl ?_
          refine hxa_get (v := .ref 397) (by rfl) (by rfl) (by rfl) rfl ?_
          refine hxa_iload_n (by rfl) rfl ?_
          refine hxa_iload_n (by rfl) rfl ?_
          refine hxj_iadd (by rfl) rfl rfl (by omega) (by omega) (fun z3 ez3 => ?_)
          refine hxj_iald396 (by rfl) rfl (by omega) (by omega) hAc2 (fun z4 ez4 fz4 => ?_)
          refine hxa_s1 (by rfl) (Or.inr ⟨_, rfl, rfl⟩) rfl ?_
          refine hxa_aload_n (by rfl) rfl ?_
          refine hxa_get (v := .ref 397) (by rfl) (by rfl) (by rfl) rfl ?_
          refine hxa_iload_n (by rfl) rfl ?_
          refine hxa_iload_n (by rfl) rfl ?_
          refine hxj_iadd (by rfl) rfl rfl (by omega) (by omega) (fun z5 ez5 => ?_)
          refine hxa_aload_n (by rfl) rfl ?_
          refine hxa_get (v := .ref 397) (by rfl) (by rfl) (by rfl) rfl ?_
          refine hxa_iload_n (by rfl) rfl ?_
          refine hxa_iload_n (by rfl) rfl ?_
          refine hxj_iadd (by rfl) rfl rfl (by omega) (by omega) (fun z6 ez6 => ?_)
          refine hxj_iald396 (by rfl) rfl (by omega) (by omega) hAc2 (fun z7 ez7 fz7 => ?_)
          refine hxj_iast396 (by rfl) rfl (by omega) (by omega) rfl hAc2 (by omega) (fun A8 hA8 eA8 fA8 gA8 => ?_)
          refine hxa_aload_n (by rfl) rfl ?_
          refine hxa_get (v := .ref 397) (by rfl) (by rfl) (by rfl) rfl ?_
          refine hxa_iload_n (by rfl) rfl ?_
          refine hxa_iload_n (by rfl) rfl ?_
          refine hxj_iadd (by rfl) rfl rfl (by omega) (by omega) (fun z9 ez9 => ?_)
          refine hxa_iload (by rfl) rfl ?_
          refine hxj_iast396 (by rfl) rfl (by omega) (by omega) rfl hA8 (by omega) (fun A10 hA10 eA10 fA10 gA10 => ?_)
          refine hxj_iinc (by rfl) rfl rfl hk_10 (by omega) (by omega) (fun _ => rfl) (fun z11 ez11 => ?_)
          refine hxa_goto (by rfl) ?_
          exact ih2 z11 (.int z4) A10 hA10 (by omega) (by omega) (by omega)
        ·
          refine hxa_goto (by rfl) ?_
          refine hxj_iinc (by rfl) rfl rfl hk_10 (by omega) (by omega) (fun _ => rfl) (fun z12 ez12 => ?_)
          refine hxa_goto (by rfl) ?_
          exact ih2 z12 (x2_4) Ac2 hAc2 (by omega) (by omega) (by omega)
  refine hxa_iconst (by rfl) rfl ?_
  refine hxa_s1 (by rfl) (Or.inl ⟨_, rfl, rfl⟩) rfl ?_
  exact L2 (Int.toNat (255 - 0) + 1) (Int32.ofNat 0) (.retAddr 0) A hA (by omega) (by omega) (by omega)
theorem hX194 {d : Nat} {Bn Br : Int} {A0 A : hs_A} (hA : hJ 0 Bn Br A0 A)  (a1 : Int32) (p1 : 0 ≤ a1.toInt) (q1 : a1.toInt ≤ 9) (a2 : Int32) (p2 : 0 ≤ a2.toInt) (q2 : a2.toInt ≤ 9) : hxC (d + 1) 194 hm_m194 [.ref 368, .int a1, .int a2] A (fun r A' => hJ 0 Bn Br A0 A' ∧ r = none) := hxC.of (by rfl) (hY194 hA a1 p1 q1 a2 p2 q2 (fun r A' h => h))
theorem hY195 {d : Nat} {N : Int} {A0 A : hs_A} (hA : hJ 0 N (N + 72) A0 A) (hN : N ≤ 900000) (a1 : Int32) (a2 : Int32) {P : Option Value → hs_A → Prop} (hP : ∀ (r : Option Value) (A' : hs_A), (hJ 0 (N + 72) (N + 144) A0 A' ∧ ∃ z : Int32, r = some (.int z) ∧ ((0 ≤ z.toInt ∧ z.toInt ≤ 1))) → P r A') : hxa (d + 2) (some (.boolean)) hm_t195 0 [.ref 368, .int a1, .int a2] [] A P := by
  have k0 := hk_0
  have k1 := hk_1
  refine hxa_aload_n (by rfl) rfl ?_
  refine hxa_iload_n (by rfl) rfl ?_
  refine hxa_call0 (by rfl) (by rfl) (by rfl) (by rfl) (by rfl) (by rfl) (hX167 (d := d + 0) hA a1) ?_
  rintro _ _ ⟨rfl, z1, rfl, fz1⟩
  rcases fz1 with fz1 | fz1
  ·
    refine hxj_zeq (by rfl) rfl (fun q2 => False.elim (by omega)) (fun q2 => ?_)
    refine hxa_aload_n (by rfl) rfl ?_
    refine hxa_iload_n (by rfl) rfl ?_
    refine hxa_call0 (by rfl) (by rfl) (by rfl) (by rfl) (by rfl) (by rfl) (hX167 (d := d + 0) hA a2) ?_
    rintro _ _ ⟨rfl, z3, rfl, fz3⟩
    rcases fz3 with fz3 | fz3
    ·
      refine hxj_zeq (by rfl) rfl (fun q4 => False.elim (by omega)) (fun q4 => ?_)
      refine hxa_iload_n (by rfl) rfl ?_
      refine hxa_iload_n (by rfl) rfl ?_
      refine hxj_cne (by rfl) rfl rfl (fun q5 => ?_) (fun q5 => ?_)
      ·
        refine hxa_aload_n (by rfl) rfl ?_
        refine hxa_call0 (by rfl) (by rfl) (by rfl) (by rfl) (by rfl) (by rfl) (hX171 (d := d + 1) hA ) ?_
        rintro _ A6 ⟨hA6, rfl⟩
        refine hxa_aload_n (by rfl) rfl ?_
        refine hxa_iload_n (by rfl) rfl ?_
        refine hxa_iload_n (by rfl) rfl ?_
        refine hxa_call0 (by rfl) (by rfl) (by rfl) (by rfl) (by rfl) (by rfl) (hX194 (d := d + 1) hA6 a1 (by omega) (by omega) a2 (by omega) (by omega)) ?_
        rintro _ A7 ⟨hA7, rfl⟩
        refine hxa_aload_n (by rfl) rfl ?_
        refine hxa_call0 (by rfl) (by rfl) (by rfl) (by rfl) (by rfl) (by rfl) (hX190 (d := d + 0) hA7 (by omega)) ?_
        rintro _ A8 ⟨hA8, rfl⟩
        refine hxa_iconst (by rfl) rfl ?_
        exact hxa_ireturn (by rfl) (by rfl) (hP _ _ ⟨(hJ.mono hA8 (by omega) (by omega)), _, rfl, by omega⟩)
      ·
        refine hxa_iconst (by rfl) rfl ?_
        exact hxa_ireturn (by rfl) (by rfl) (hP _ _ ⟨(hJ.mono hA (by omega) (by omega)), _, rfl, by omega⟩)
    ·
      refine hxj_zeq (by rfl) rfl (fun q9 => ?_) (fun q9 => False.elim (by omega))
      refine hxa_iconst (by rfl) rfl ?_
      exact hxa_ireturn (by rfl) (by rfl) (hP _ _ ⟨(hJ.mono hA (by omega) (by omega)), _, rfl, by omega⟩)
  ·
    refine hxj_zeq (by rfl) rfl (fun q10 => ?_) (fun q10 => False.elim (by omega))
    refine hxa_iconst (by rfl) rfl ?_
    exact hxa_ireturn (by rfl) (by rfl) (hP _ _ ⟨(hJ.mono hA (by omega) (by omega)), _, rfl, by omega⟩)
theorem hX195 {d : Nat} {N : Int} {A0 A : hs_A} (hA : hJ 0 N (N + 72) A0 A) (hN : N ≤ 900000) (a1 : Int32) (a2 : Int32) : hxC (d + 3) 195 hm_m195 [.ref 368, .int a1, .int a2] A (fun r A' => hJ 0 (N + 72) (N + 144) A0 A' ∧ ∃ z : Int32, r = some (.int z) ∧ ((0 ≤ z.toInt ∧ z.toInt ≤ 1))) := hxC.of (by rfl) (hY195 hA hN a1 a2 (fun r A' h => h))
theorem hY196 {d : Nat} {A : hs_A} (a1 : Int32) {P : Option Value → hs_A → Prop} (hP : ∀ (r : Option Value) (A' : hs_A), (A = A' ∧ ∃ z : Int32, r = some (.int z) ∧ ((z.toInt = 1 ∧ 0 ≤ a1.toInt ∧ a1.toInt ≤ 72) ∨ (z.toInt = 0))) → P r A') : hxa (d + 1) (some (.boolean)) hm_t196 0 [.int a1] [] A P := by
  have k0 := hk_0
  have k72 := hk_72
  refine hxa_iload_n (by rfl) rfl ?_
  refine hxa_iconst (by rfl) rfl ?_
  refine hxa_bipush (by rfl) rfl ?_
  refine hxa_call2 (by rfl) (by decide) (by rfl) (by rfl) (by rfl) (hX164 (d := d + 0)  a1 (Int32.ofNat 0) (Int32.ofNat 72)) ?_
  rintro _ _ ⟨rfl, z1, rfl, fz1⟩
  rcases fz1 with fz1 | fz1
  ·
    exact hxa_ireturn (by rfl) (hn_fitB (by omega) (by omega)) (hP _ _ ⟨rfl, _, rfl, by omega⟩)
  ·
    exact hxa_ireturn (by rfl) (hn_fitB (by omega) (by omega)) (hP _ _ ⟨rfl, _, rfl, by omega⟩)
theorem hX196 {d : Nat} {A : hs_A} (a1 : Int32) : hxC (d + 2) 196 hm_m196 [.int a1] A (fun r A' => A = A' ∧ ∃ z : Int32, r = some (.int z) ∧ ((z.toInt = 1 ∧ 0 ≤ a1.toInt ∧ a1.toInt ≤ 72) ∨ (z.toInt = 0))) := hxC.of (by rfl) (hY196 a1 (fun r A' h => h))
theorem hY197 {d : Nat} {A : hs_A} (a1 : Int32) {P : Option Value → hs_A → Prop} (hP : ∀ (r : Option Value) (A' : hs_A), (A = A' ∧ ∃ z : Int32, r = some (.int z) ∧ ((z.toInt = 1 ∧ 1 ≤ a1.toInt ∧ a1.toInt ≤ 72) ∨ (z.toInt = 0))) → P r A') : hxa (d + 1) (some (.boolean)) hm_t197 0 [.int a1] [] A P := by
  have k1 := hk_1
  have k72 := hk_72
  refine hxa_iload_n (by rfl) rfl ?_
  refine hxa_iconst (by rfl) rfl ?_
  refine hxa_bipush (by rfl) rfl ?_
  refine hxa_call2 (by rfl) (by decide) (by rfl) (by rfl) (by rfl) (hX164 (d := d + 0)  a1 (Int32.ofNat 1) (Int32.ofNat 72)) ?_
  rintro _ _ ⟨rfl, z1, rfl, fz1⟩
  rcases fz1 with fz1 | fz1
  ·
    exact hxa_ireturn (by rfl) (hn_fitB (by omega) (by omega)) (hP _ _ ⟨rfl, _, rfl, by omega⟩)
  ·
    exact hxa_ireturn (by rfl) (hn_fitB (by omega) (by omega)) (hP _ _ ⟨rfl, _, rfl, by omega⟩)
theorem hX197 {d : Nat} {A : hs_A} (a1 : Int32) : hxC (d + 2) 197 hm_m197 [.int a1] A (fun r A' => A = A' ∧ ∃ z : Int32, r = some (.int z) ∧ ((z.toInt = 1 ∧ 1 ≤ a1.toInt ∧ a1.toInt ≤ 72) ∨ (z.toInt = 0))) := hxC.of (by rfl) (hY197 a1 (fun r A' h => h))
theorem hY198 {d : Nat} {N : Int} {A0 A : hs_A} (hA : hJ 0 N (N + 72) A0 A) (hN : N ≤ 900000) (a1 : Int32) {P : Option Value → hs_A → Prop} (hP : ∀ (r : Option Value) (A' : hs_A), (hJ 0 (N + 72) (N + 144) A0 A' ∧ ∃ z : Int32, r = some (.int z)) → P r A') : hxa (d + 6) (some (.int)) hm_t198 0 [.ref 368, .int a1] [] A P := by
  have k4294967295 := hk_4294967295
  refine hxa_iload_n (by rfl) rfl ?_
  refine hxa_call2 (by rfl) (by decide) (by rfl) (by rfl) (by rfl) (hX196 (d := d + 4)  a1) ?_
  rintro _ _ ⟨rfl, z1, rfl, fz1⟩
  rcases fz1 with fz1 | fz1
  ·
    refine hxj_zne (by rfl) rfl (fun q2 => ?_) (fun q2 => False.elim (by omega))
    refine hxa_iload_n (by rfl) rfl ?_
    refine hxj_zne (by rfl) rfl (fun q3 => ?_) (fun q3 => ?_)
    ·
      refine hxa_aload_n (by rfl) rfl ?_
      refine hxa_call0 (by rfl) (by rfl) (by rfl) (by rfl) (by rfl) (by rfl) (hX171 (d := d + 5) hA ) ?_
      rintro _ A4 ⟨hA4, rfl⟩
      refine hxa_aload_n (by rfl) rfl ?_
      refine hxa_iload_n (by rfl) rfl ?_
      refine hxa_call0 (by rfl) (by rfl) (by rfl) (by rfl) (by rfl) (by rfl) (hX185 (d := d + 0) hA4 (by omega) a1 (by omega) (by omega)) ?_
      rintro _ A5 ⟨hA5, rfl⟩
      refine hxa_aload_n (by rfl) rfl ?_
      refine hxa_call0 (by rfl) (by rfl) (by rfl) (by rfl) (by rfl) (by rfl) (hX190 (d := d + 4) hA5 (by omega)) ?_
      rintro _ A6 ⟨hA6, rfl⟩
      refine hxa_aload_n (by rfl) rfl ?_
      refine hxa_get (v := .ref 396) (by rfl) (by rfl) (by rfl) rfl ?_
      refine hxa_bipush (by rfl) rfl ?_
      refine hxj_iald395 (by rfl) hk_70 (by omega) (by omega) hA6 (fun z7 ez7 fz7 => ?_)
      exact hxa_ireturn (by rfl) rfl (hP _ _ ⟨(hJ.mono hA6 (by omega) (by omega)), _, rfl⟩)
    ·
      refine hxa_aload_n (by rfl) rfl ?_
      refine hxa_get (v := .ref 396) (by rfl) (by rfl) (by rfl) rfl ?_
      refine hxa_bipush (by rfl) rfl ?_
      refine hxj_iald395 (by rfl) hk_70 (by omega) (by omega) hA (fun z8 ez8 fz8 => ?_)
      exact hxa_ireturn (by rfl) rfl (hP _ _ ⟨(hJ.mono hA (by omega) (by omega)), _, rfl⟩)
  ·
    refine hxj_zne (by rfl) rfl (fun q9 => False.elim (by omega)) (fun q9 => ?_)
    refine hxa_iconst (by rfl) rfl ?_
    exact hxa_ireturn (by rfl) rfl (hP _ _ ⟨(hJ.mono hA (by omega) (by omega)), _, rfl⟩)
theorem hX198 {d : Nat} {N : Int} {A0 A : hs_A} (hA : hJ 0 N (N + 72) A0 A) (hN : N ≤ 900000) (a1 : Int32) : hxC (d + 7) 198 hm_m198 [.ref 368, .int a1] A (fun r A' => hJ 0 (N + 72) (N + 144) A0 A' ∧ ∃ z : Int32, r = some (.int z)) := hxC.of (by rfl) (hY198 hA hN a1 (fun r A' h => h))
theorem hY199 {d : Nat} {N : Int} {A0 A : hs_A} (hA : hJ 0 N (N + 72) A0 A) (hN : N ≤ 900000)  {P : Option Value → hs_A → Prop} (hP : ∀ (r : Option Value) (A' : hs_A), (hJ 0 (N + 72) (N + 144) A0 A' ∧ ∃ z : Int32, r = some (.int z) ∧ ((0 ≤ z.toInt ∧ z.toInt ≤ 1))) → P r A') : hxa (d + 0) (some (.boolean)) hm_t199 0 [.ref 368, .retAddr 0] [] A P := by
  have k0 := hk_0
  have k1 := hk_1
  have L21 : ∀ (m21 : Nat) (w21_0 : Int32) (x21_1 : Int32) (Ac21 : hs_A) (hAc21 : hJ 0 N (N + 72) A0 Ac21) (ek21_0 : Ac21.1 367 51 = w21_0) (bx21_1 : 0 ≤ x21_1.toInt) (cx21_1 : x21_1.toInt ≤ 73) (bw21_0 : 0 ≤ w21_0.toInt) (cw21_0 : w21_0.toInt ≤ 39) (hm21 : 73 - x21_1.toInt < (m21 : Int)), hxa (d + 0) (some (.boolean)) hm_t199 21 [.ref 368, .int x21_1] [] Ac21 P := by
    intro m21
    induction m21 with
    | zero => intro w21_0 x21_1 Ac21 hAc21 ek21_0 bx21_1 cx21_1 bw21_0 cw21_0 hm21;  exact False.elim (by omega)
    | succ m21 ih21 =>
      intro w21_0 x21_1 Ac21 hAc21 ek21_0 bx21_1 cx21_1 bw21_0 cw21_0 hm21
      refine hxa_iload_n (by rfl) rfl ?_
      refine hxa_bipush (by rfl) rfl ?_
      refine hxj_cge (by rfl) rfl hk_73 (fun q1 => ?_) (fun q1 => ?_)
      ·
        refine hxa_iconst (by rfl) rfl ?_
        exact hxa_ireturn (by rfl) (by rfl) (hP _ _ ⟨(hJ.mono hAc21 (by omega) (by omega)), _, rfl, by omega⟩)
      ·
        refine hxa_aload_n (by rfl) rfl ?_
        refine hxa_get (v := .ref 396) (by rfl) (by rfl) (by rfl) rfl ?_
        refine hxa_iload_n (by rfl) rfl ?_
        refine hxa_aload_n (by rfl) rfl ?_
        refine hxa_get (v := .ref 400) (by rfl) (by rfl) (by rfl) rfl ?_
        refine hxa_bipush (by rfl) rfl ?_
        refine hxa_aload_n (by rfl) rfl ?_
        refine hxj_getK (by rfl) (by rfl) (by rfl) ek21_0 ?_
        refine hxj_imul (by rfl) hk_73 rfl (by omega) (by omega) (fun z2 ez2 => ?_)
        refine hxa_iload_n (by rfl) rfl ?_
        refine hxj_iadd (by rfl) rfl rfl (by omega) (by omega) (fun z3 ez3 => ?_)
        refine hxj_iald399 (by rfl) rfl (by omega) (by omega) hAc21 (fun z4 ez4 fz4 => ?_)
        refine hxj_iast395 (by rfl) rfl (by omega) (by omega) rfl hAc21 (by omega) (fun A5 hA5 eA5 fA5 gA5 => ?_)
        refine hxj_iinc (by rfl) rfl rfl hk_1 (by omega) (by omega) (fun _ => rfl) (fun z6 ez6 => ?_)
        refine hxa_goto (by rfl) ?_
        exact ih21 w21_0 z6 A5 hA5 (hkA eA5 ek21_0) (by omega) (by omega) (by omega) (by omega) (by omega)
  refine hxa_aload_n (by rfl) rfl ?_
  refine hxj_getB (by rfl) (by rfl) (by rfl) hA (by rfl) (fun z7 ez7 fz7 gz7 => ?_)
  refine hxj_zne (by rfl) rfl (fun q8 => ?_) (fun q8 => ?_)
  ·
    refine hxa_aload_n (by rfl) rfl ?_
    refine hxa_dupR (by rfl) ?_
    refine hxj_getK (by rfl) (by rfl) (by rfl) ez7 ?_
    refine hxa_iconst (by rfl) rfl ?_
    refine hxj_isub (by rfl) rfl hk_1 (by omega) (by omega) (fun z9 ez9 => ?_)
    refine hxj_putI (by rfl) (by rfl) (by rfl) (by rfl) hA (hbok (by rfl) rfl (by omega) (by omega)) (by rfl) (by rfl) (fun A10 hA10 eA10 fA10 => ?_)
    refine hxa_iconst (by rfl) rfl ?_
    refine hxa_s1 (by rfl) (Or.inl ⟨_, rfl, rfl⟩) rfl ?_
    exact L21 (Int.toNat (73 - 0) + 1) z9 (Int32.ofNat 0) A10 hA10 (hkS eA10) (by omega) (by omega) (by omega) (by omega) (by omega)
  ·
    refine hxa_iconst (by rfl) rfl ?_
    exact hxa_ireturn (by rfl) (by rfl) (hP _ _ ⟨(hJ.mono hA (by omega) (by omega)), _, rfl, by omega⟩)
theorem hX199 {d : Nat} {N : Int} {A0 A : hs_A} (hA : hJ 0 N (N + 72) A0 A) (hN : N ≤ 900000)  : hxC (d + 1) 199 hm_m199 [.ref 368] A (fun r A' => hJ 0 (N + 72) (N + 144) A0 A' ∧ ∃ z : Int32, r = some (.int z) ∧ ((0 ≤ z.toInt ∧ z.toInt ≤ 1))) := hxC.of (by rfl) (hY199 hA hN (fun r A' h => h))
theorem hY200 {d : Nat} {Bn Br : Int} {A0 A : hs_A} (hA : hJ 0 Bn Br A0 A)  (a1 : Int32) (q1 : a1.toInt ≤ 9) {P : Option Value → hs_A → Prop} (hP : ∀ (r : Option Value) (A' : hs_A), (A = A' ∧ ∃ z : Int32, r = some (.int z)) → P r A') : hxa (d + 1) (some (.int)) hm_t200 0 [.ref 368, .int a1, .retAddr 0] [] A P := by
  have k0 := hk_0
  have k4294967294 := hk_4294967294
  have L2 : ∀ (m2 : Nat) (x2_2 : Int32) (bx2_2 : 0 ≤ x2_2.toInt) (cx2_2 : x2_2.toInt ≤ 10) (hm2 : 10 - x2_2.toInt < (m2 : Int)), hxa (d + 1) (some (.int)) hm_t200 2 [.ref 368, .int a1, .int x2_2] [] A P := by
    intro m2
    induction m2 with
    | zero => intro x2_2 bx2_2 cx2_2 hm2;  exact False.elim (by omega)
    | succ m2 ih2 =>
      intro x2_2 bx2_2 cx2_2 hm2
      refine hxa_iload_n (by rfl) rfl ?_
      refine hxa_iload_n (by rfl) rfl ?_
      have rga1 := hn_rng a1
      refine hxj_cgt (by rfl) rfl rfl (fun q1 => ?_) (fun q1 => ?_)
      ·
        refine hxa_bipush (by rfl) rfl ?_
        exact hxa_ireturn (by rfl) rfl (hP _ _ ⟨rfl, _, rfl⟩)
      ·
        refine hxa_aload_n (by rfl) rfl ?_
        refine hxa_iload_n (by rfl) rfl ?_
        refine hxa_call0 (by rfl) (by rfl) (by rfl) (by rfl) (by rfl) (by rfl) (hX182 (d := d + 0) hA x2_2 (by omega) (by omega)) ?_
        rintro _ _ ⟨rfl, z2, rfl, fz2⟩
        refine hxj_zne (by rfl) rfl (fun q3 => ?_) (fun q3 => ?_)
        ·
          refine hxj_iinc (by rfl) rfl rfl hk_1 (by omega) (by omega) (fun _ => rfl) (fun z4 ez4 => ?_)
          refine hxa_goto (by rfl) ?_
          exact ih2 z4 (by omega) (by omega) (by omega)
        ·
          refine hxa_iload_n (by rfl) rfl ?_
          exact hxa_ireturn (by rfl) rfl (hP _ _ ⟨rfl, _, rfl⟩)
  refine hxa_iconst (by rfl) rfl ?_
  refine hxa_s1 (by rfl) (Or.inl ⟨_, rfl, rfl⟩) rfl ?_
  exact L2 (Int.toNat (10 - 0) + 1) (Int32.ofNat 0) (by omega) (by omega) (by omega)
theorem hX200 {d : Nat} {Bn Br : Int} {A0 A : hs_A} (hA : hJ 0 Bn Br A0 A)  (a1 : Int32) (q1 : a1.toInt ≤ 9) : hxC (d + 2) 200 hm_m200 [.ref 368, .int a1] A (fun r A' => A = A' ∧ ∃ z : Int32, r = some (.int z)) := hxC.of (by rfl) (hY200 hA a1 q1 (fun r A' h => h))
theorem hY201 {d : Nat} {Bn Br : Int} {A0 A : hs_A} (hA : hJ 0 Bn Br A0 A)  (a1 : Int32) (p1 : 0 ≤ a1.toInt) (q1 : a1.toInt ≤ 9) (a2 : Int32) (p2 : 0 ≤ a2.toInt) (q2 : a2.toInt ≤ 255) (a3 : Int32) {P : Option Value → hs_A → Prop} (hP : ∀ (r : Option Value) (A' : hs_A), (hJ 0 Bn Br A0 A' ∧ ∃ z : Int32, r = some (.int z) ∧ ((0 ≤ z.toInt ∧ z.toInt ≤ 255))) → P r A') : hxa (d + 4) (some (.int)) hm_t201 0 [.ref 368, .int a1, .int a2, .int a3, .retAddr 0, .retAddr 0] [] A P := by
  have k0 := hk_0
  have k1 := hk_1
  have L16 : ∀ (m16 : Nat) (x16_4 : Int32) (x16_5 : Int32) (Ac16 : hs_A) (hAc16 : hJ 0 Bn Br A0 Ac16) (bx16_4 : 0 ≤ x16_4.toInt) (cx16_4 : x16_4.toInt ≤ 255) (bx16_5 : 1 ≤ x16_5.toInt) (cx16_5 : x16_5.toInt ≤ 10) (hm16 : 10 - x16_5.toInt < (m16 : Int)), hxa (d + 4) (some (.int)) hm_t201 16 [.ref 368, .int a1, .int a2, .int a3, .int x16_4, .int x16_5] [] Ac16 P := by
    intro m16
    induction m16 with
    | zero => intro x16_4 x16_5 Ac16 hAc16 bx16_4 cx16_4 bx16_5 cx16_5 hm16;  exact False.elim (by omega)
    | succ m16 ih16 =>
      intro x16_4 x16_5 Ac16 hAc16 bx16_4 cx16_4 bx16_5 cx16_5 hm16
      refine hxa_iload (by rfl) rfl ?_
      refine hxa_iload_n (by rfl) rfl ?_
      refine hxj_cgt (by rfl) rfl rfl (fun q1 => ?_) (fun q1 => ?_)
      ·
        refine hxa_iload (by rfl) rfl ?_
        exact hxa_ireturn (by rfl) rfl (hP _ _ ⟨hAc16, _, rfl, by omega⟩)
      ·
        refine hxa_aload_n (by rfl) rfl ?_
        refine hxa_iload (by rfl) rfl ?_
        refine hxa_iload (by rfl) rfl ?_
        refine hxa_iload_n (by rfl) rfl ?_
        refine hxa_iload (by rfl) rfl ?_
        refine hxj_iaddU (by rfl) (fun z2 => ?_)
        refine hxa_call0 (by rfl) (by rfl) (by rfl) (by rfl) (by rfl) (by rfl) (hX181 (d := d + 0) hAc16 x16_5 (by omega) (by omega) x16_4 z2) ?_
        rintro _ A3 ⟨hA3, z4, rfl, fz4⟩
        refine hxa_s1 (by rfl) (Or.inr ⟨_, rfl, rfl⟩) rfl ?_
        refine hxj_iinc (by rfl) rfl rfl hk_1 (by omega) (by omega) (fun _ => rfl) (fun z5 ez5 => ?_)
        refine hxa_goto (by rfl) ?_
        exact ih16 z4 z5 A3 hA3 (by omega) (by omega) (by omega) (by omega) (by omega)
  refine hxa_aload_n (by rfl) rfl ?_
  refine hxa_iload_n (by rfl) rfl ?_
  refine hxa_call0 (by rfl) (by rfl) (by rfl) (by rfl) (by rfl) (by rfl) (hX200 (d := d + 2) hA a1 (by omega)) ?_
  rintro _ _ ⟨rfl, z6, rfl⟩
  refine hxj_zlt (by rfl) rfl (fun q7 => ?_) (fun q7 => ?_)
  ·
    refine hxa_iload_n (by rfl) rfl ?_
    refine hxa_s1 (by rfl) (Or.inr ⟨_, rfl, rfl⟩) rfl ?_
    refine hxa_iconst (by rfl) rfl ?_
    refine hxa_s1 (by rfl) (Or.inr ⟨_, rfl, rfl⟩) rfl ?_
    exact L16 (Int.toNat (10 - 1) + 1) a2 (Int32.ofNat 1) A hA (by omega) (by omega) (by omega) (by omega) (by omega)
  ·
    refine hxa_iconst (by rfl) rfl ?_
    exact hxa_ireturn (by rfl) rfl (hP _ _ ⟨hA, _, rfl, by omega⟩)
theorem hX201 {d : Nat} {Bn Br : Int} {A0 A : hs_A} (hA : hJ 0 Bn Br A0 A)  (a1 : Int32) (p1 : 0 ≤ a1.toInt) (q1 : a1.toInt ≤ 9) (a2 : Int32) (p2 : 0 ≤ a2.toInt) (q2 : a2.toInt ≤ 255) (a3 : Int32) : hxC (d + 5) 201 hm_m201 [.ref 368, .int a1, .int a2, .int a3] A (fun r A' => hJ 0 Bn Br A0 A' ∧ ∃ z : Int32, r = some (.int z) ∧ ((0 ≤ z.toInt ∧ z.toInt ≤ 255))) := hxC.of (by rfl) (hY201 hA a1 p1 q1 a2 p2 q2 a3 (fun r A' h => h))
theorem hY202 {d : Nat} {Bn Br : Int} {A0 A : hs_A} (hA : hJ 0 Bn Br A0 A)  (a1 : Int32) (p1 : 0 ≤ a1.toInt) (q1 : a1.toInt ≤ 9) (a2 : Int32) (p2 : 0 ≤ a2.toInt) (q2 : a2.toInt ≤ 255) {P : Option Value → hs_A → Prop} (hP : ∀ (r : Option Value) (A' : hs_A), (hJ 0 Bn Br A0 A' ∧ ∃ z : Int32, r = some (.int z) ∧ ((0 ≤ z.toInt ∧ z.toInt ≤ 255))) → P r A') : hxa (d + 5) (some (.int)) hm_t202 0 [.ref 368, .int a1, .int a2] [] A P := by
  refine hxa_aload_n (by rfl) rfl ?_
  refine hxa_iload_n (by rfl) rfl ?_
  refine hxa_iload_n (by rfl) rfl ?_
  refine hxa_aload_n (by rfl) rfl ?_
  refine hxa_get (v := .ref 397) (by rfl) (by rfl) (by rfl) rfl ?_
  refine hxa_bipush (by rfl) rfl ?_
  refine hxj_iald396 (by rfl) hk_70 (by omega) (by omega) hA (fun z1 ez1 fz1 => ?_)
  refine hxa_call0 (by rfl) (by rfl) (by rfl) (by rfl) (by rfl) (by rfl) (hX201 (d := d + 0) hA a1 (by omega) (by omega) a2 (by omega) (by omega) z1) ?_
  rintro _ A2 ⟨hA2, z3, rfl, fz3⟩
  exact hxa_ireturn (by rfl) rfl (hP _ _ ⟨hA2, _, rfl, by omega⟩)
theorem hX202 {d : Nat} {Bn Br : Int} {A0 A : hs_A} (hA : hJ 0 Bn Br A0 A)  (a1 : Int32) (p1 : 0 ≤ a1.toInt) (q1 : a1.toInt ≤ 9) (a2 : Int32) (p2 : 0 ≤ a2.toInt) (q2 : a2.toInt ≤ 255) : hxC (d + 6) 202 hm_m202 [.ref 368, .int a1, .int a2] A (fun r A' => hJ 0 Bn Br A0 A' ∧ ∃ z : Int32, r = some (.int z) ∧ ((0 ≤ z.toInt ∧ z.toInt ≤ 255))) := hxC.of (by rfl) (hY202 hA a1 p1 q1 a2 p2 q2 (fun r A' h => h))
theorem hY203 {d : Nat} {Bn Br : Int} {A0 A : hs_A} (hA : hJ 0 Bn Br A0 A)  (a1 : Int32) (p1 : 0 ≤ a1.toInt) (q1 : a1.toInt ≤ 9) {P : Option Value → hs_A → Prop} (hP : ∀ (r : Option Value) (A' : hs_A), (hJ 0 Bn Br A0 A' ∧ r = none) → P r A') : hxa (d + 6) none hm_t203 0 [.ref 368, .int a1, .retAddr 0] [] A P := by
  have k0 := hk_0
  have L2 : ∀ (m2 : Nat) (x2_2 : Int32) (Ac2 : hs_A) (hAc2 : hJ 0 Bn Br A0 Ac2) (bx2_2 : 0 ≤ x2_2.toInt) (cx2_2 : x2_2.toInt ≤ 256) (hm2 : 256 - x2_2.toInt < (m2 : Int)), hxa (d + 6) none hm_t203 2 [.ref 368, .int a1, .int x2_2] [] Ac2 P := by
    intro m2
    induction m2 with
    | zero => intro x2_2 Ac2 hAc2 bx2_2 cx2_2 hm2;  exact False.elim (by omega)
    | succ m2 ih2 =>
      intro x2_2 Ac2 hAc2 bx2_2 cx2_2 hm2
      refine hxa_iload_n (by rfl) rfl ?_
      refine hxa_sipush (by rfl) rfl ?_
      refine hxj_cge (by rfl) rfl hk_256 (fun q1 => ?_) (fun q1 => ?_)
      ·
        exact hxa_return (by rfl) rfl (hP _ _ ⟨hAc2, rfl⟩)
      ·
        refine hxa_aload_n (by rfl) rfl ?_
        refine hxa_get (v := .ref 401) (by rfl) (by rfl) (by rfl) rfl ?_
        refine hxa_iload_n (by rfl) rfl ?_
        refine hxa_aload_n (by rfl) rfl ?_
        refine hxa_iload_n (by rfl) rfl ?_
        refine hxa_iload_n (by rfl) rfl ?_
        refine hxa_call0 (by rfl) (by rfl) (by rfl) (by rfl) (by rfl) (by rfl) (hX202 (d := d + 0) hAc2 a1 (by omega) (by omega) x2_2 (by omega) (by omega)) ?_
        rintro _ A2 ⟨hA2, z3, rfl, fz3⟩
        refine hxj_iast (by rfl) (by rfl) rfl (by omega) (by omega) hA2 (hbok (by rfl) rfl (by omega) (by omega)) (by rfl) (by rfl) (fun A4 hA4 eA4 fA4 gA4 => ?_)
        refine hxj_iinc (by rfl) rfl rfl hk_1 (by omega) (by omega) (fun _ => rfl) (fun z5 ez5 => ?_)
        refine hxa_goto (by rfl) ?_
        exact ih2 z5 A4 hA4 (by omega) (by omega) (by omega)
  refine hxa_iconst (by rfl) rfl ?_
  refine hxa_s1 (by rfl) (Or.inl ⟨_, rfl, rfl⟩) rfl ?_
  exact L2 (Int.toNat (256 - 0) + 1) (Int32.ofNat 0) A hA (by omega) (by omega) (by omega)
theorem hX203 {d : Nat} {Bn Br : Int} {A0 A : hs_A} (hA : hJ 0 Bn Br A0 A)  (a1 : Int32) (p1 : 0 ≤ a1.toInt) (q1 : a1.toInt ≤ 9) : hxC (d + 7) 203 hm_m203 [.ref 368, .int a1] A (fun r A' => hJ 0 Bn Br A0 A' ∧ r = none) := hxC.of (by rfl) (hY203 hA a1 p1 q1 (fun r A' h => h))
theorem hY204 {d : Nat} {N : Int} {A0 A : hs_A} (hA : hJ 0 N (N + 72) A0 A) (hN : N ≤ 900000) (a1 : Int32) (a2 : Int32) {P : Option Value → hs_A → Prop} (hP : ∀ (r : Option Value) (A' : hs_A), (hJ 0 (N + 72) (N + 144) A0 A' ∧ ∃ z : Int32, r = some (.int z)) → P r A') : hxa (d + 6) (some (.int)) hm_t204 0 [.ref 368, .int a1, .int a2] [] A P := by
  have k4294967295 := hk_4294967295
  refine hxa_aload_n (by rfl) rfl ?_
  refine hxa_iload_n (by rfl) rfl ?_
  refine hxa_call0 (by rfl) (by rfl) (by rfl) (by rfl) (by rfl) (by rfl) (hX167 (d := d + 4) hA a1) ?_
  rintro _ _ ⟨rfl, z1, rfl, fz1⟩
  rcases fz1 with fz1 | fz1
  ·
    refine hxj_zeq (by rfl) rfl (fun q2 => False.elim (by omega)) (fun q2 => ?_)
    refine hxa_iload_n (by rfl) rfl ?_
    refine hxa_call2 (by rfl) (by decide) (by rfl) (by rfl) (by rfl) (hX168 (d := d + 4)  a2) ?_
    rintro _ _ ⟨rfl, z3, rfl, fz3⟩
    rcases fz3 with fz3 | fz3
    ·
      refine hxj_zne (by rfl) rfl (fun q4 => ?_) (fun q4 => False.elim (by omega))
      refine hxa_aload_n (by rfl) rfl ?_
      refine hxa_call0 (by rfl) (by rfl) (by rfl) (by rfl) (by rfl) (by rfl) (hX171 (d := d + 5) hA ) ?_
      rintro _ A5 ⟨hA5, rfl⟩
      refine hxa_aload_n (by rfl) rfl ?_
      refine hxa_iload_n (by rfl) rfl ?_
      refine hxa_iload_n (by rfl) rfl ?_
      refine hxa_call0 (by rfl) (by rfl) (by rfl) (by rfl) (by rfl) (by rfl) (hX202 (d := d + 0) hA5 a1 (by omega) (by omega) a2 (by omega) (by omega)) ?_
      rintro _ A6 ⟨hA6, z7, rfl, fz7⟩
      exact hxa_ireturn (by rfl) rfl (hP _ _ ⟨(hJ.mono hA6 (by omega) (by omega)), _, rfl⟩)
    ·
      refine hxj_zne (by rfl) rfl (fun q8 => False.elim (by omega)) (fun q8 => ?_)
      refine hxa_iconst (by rfl) rfl ?_
      exact hxa_ireturn (by rfl) rfl (hP _ _ ⟨(hJ.mono hA (by omega) (by omega)), _, rfl⟩)
  ·
    refine hxj_zeq (by rfl) rfl (fun q9 => ?_) (fun q9 => False.elim (by omega))
    refine hxa_iconst (by rfl) rfl ?_
    exact hxa_ireturn (by rfl) rfl (hP _ _ ⟨(hJ.mono hA (by omega) (by omega)), _, rfl⟩)
theorem hX204 {d : Nat} {N : Int} {A0 A : hs_A} (hA : hJ 0 N (N + 72) A0 A) (hN : N ≤ 900000) (a1 : Int32) (a2 : Int32) : hxC (d + 7) 204 hm_m204 [.ref 368, .int a1, .int a2] A (fun r A' => hJ 0 (N + 72) (N + 144) A0 A' ∧ ∃ z : Int32, r = some (.int z)) := hxC.of (by rfl) (hY204 hA hN a1 a2 (fun r A' h => h))
theorem hY205 {d : Nat} {N : Int} {A0 A : hs_A} (hA : hJ 0 N (N + 72) A0 A) (hN : N ≤ 900000) (a1 : Int32) {P : Option Value → hs_A → Prop} (hP : ∀ (r : Option Value) (A' : hs_A), (hJ 0 (N + 72) (N + 144) A0 A' ∧ ∃ z : Int32, r = some (.int z)) → P r A') : hxa (d + 6) (some (.int)) hm_t205 0 [.ref 368, .int a1, .retAddr 0] [] A P := by
  have k0 := hk_0
  have k4294967294 := hk_4294967294
  have k4294967295 := hk_4294967295
  have L25 : ∀ (m25 : Nat) (x25_2 : Int32) (Ac25 : hs_A) (hAc25 : hJ 0 N N A0 Ac25) (bx25_2 : -1 ≤ x25_2.toInt) (cx25_2 : x25_2.toInt ≤ 9) (ba1 : 0 ≤ a1.toInt) (ca1 : a1.toInt ≤ 255) (hm25 : x25_2.toInt - (-1) < (m25 : Int)), hxa (d + 6) (some (.int)) hm_t205 25 [.ref 368, .int a1, .int x25_2] [] Ac25 P := by
    intro m25
    induction m25 with
    | zero => intro x25_2 Ac25 hAc25 bx25_2 cx25_2 ba1 ca1 hm25;  exact False.elim (by omega)
    | succ m25 ih25 =>
      intro x25_2 Ac25 hAc25 bx25_2 cx25_2 ba1 ca1 hm25
      refine hxa_iload_n (by rfl) rfl ?_
      refine hxj_zlt (by rfl) rfl (fun q1 => ?_) (fun q1 => ?_)
      ·
        refine hxa_bipush (by rfl) rfl ?_
        exact hxa_ireturn (by rfl) rfl (hP _ _ ⟨(hJ.mono hAc25 (by omega) (by omega)), _, rfl⟩)
      ·
        refine hxa_aload_n (by rfl) rfl ?_
        refine hxa_iload_n (by rfl) rfl ?_
        refine hxa_iload_n (by rfl) rfl ?_
        refine hxa_call0 (by rfl) (by rfl) (by rfl) (by rfl) (by rfl) (by rfl) (hX202 (d := d + 0) hAc25 x25_2 (by omega) (by omega) a1 (by omega) (by omega)) ?_
        rintro _ A2 ⟨hA2, z3, rfl, fz3⟩
        refine hxa_aload_n (by rfl) rfl ?_
        refine hxa_iload_n (by rfl) rfl ?_
        refine hxa_iconst (by rfl) rfl ?_
        refine hxa_call0 (by rfl) (by rfl) (by rfl) (by rfl) (by rfl) (by rfl) (hX202 (d := d + 0) hA2 x25_2 (by omega) (by omega) (Int32.ofNat 0) (by omega) (by omega)) ?_
        rintro _ A4 ⟨hA4, z5, rfl, fz5⟩
        refine hxj_ceq (by rfl) rfl rfl (fun q6 => ?_) (fun q6 => ?_)
        ·
          refine hxj_iinc (by rfl) rfl rfl hk_4294967295 (by omega) (by omega) (fun _ => rfl) (fun z7 ez7 => ?_)
          refine hxa_goto (by rfl) ?_
          exact ih25 z7 A4 hA4 (by omega) (by omega) (by omega) (by omega) (by omega)
        ·
          refine hxa_iload_n (by rfl) rfl ?_
          exact hxa_ireturn (by rfl) rfl (hP _ _ ⟨(hJ.mono hA4 (by omega) (by omega)), _, rfl⟩)
  refine hxa_iload_n (by rfl) rfl ?_
  refine hxa_call2 (by rfl) (by decide) (by rfl) (by rfl) (by rfl) (hX168 (d := d + 4)  a1) ?_
  rintro _ _ ⟨rfl, z8, rfl, fz8⟩
  rcases fz8 with fz8 | fz8
  ·
    refine hxj_zne (by rfl) rfl (fun q9 => ?_) (fun q9 => False.elim (by omega))
    refine hxa_aload_n (by rfl) rfl ?_
    refine hxa_call0 (by rfl) (by rfl) (by rfl) (by rfl) (by rfl) (by rfl) (hX171 (d := d + 5) hA ) ?_
    rintro _ A10 ⟨hA10, rfl⟩
    refine hxa_aload_n (by rfl) rfl ?_
    refine hxa_get (v := .ref 377) (by rfl) (by rfl) (by rfl) rfl ?_
    refine hxa_aload_n (by rfl) rfl ?_
    refine hxj_getB (by rfl) (by rfl) (by rfl) hA10 (by rfl) (fun z11 ez11 fz11 gz11 => ?_)
    refine hxj_ialdB (by rfl) (by rfl) rfl (by omega) (by omega) hA10 (by rfl) (fun z12 ez12 fz12 gz12 => ?_)
    refine hxa_iconst (by rfl) rfl ?_
    refine hxj_isub (by rfl) rfl hk_1 (by omega) (by omega) (fun z13 ez13 => ?_)
    refine hxa_s1 (by rfl) (Or.inl ⟨_, rfl, rfl⟩) rfl ?_
    exact L25 (Int.toNat (z13.toInt - (-1)) + 1) z13 A10 hA10 (by omega) (by omega) (by omega) (by omega) (by omega)
  ·
    refine hxj_zne (by rfl) rfl (fun q14 => False.elim (by omega)) (fun q14 => ?_)
    refine hxa_iconst (by rfl) rfl ?_
    exact hxa_ireturn (by rfl) rfl (hP _ _ ⟨(hJ.mono hA (by omega) (by omega)), _, rfl⟩)
theorem hX205 {d : Nat} {N : Int} {A0 A : hs_A} (hA : hJ 0 N (N + 72) A0 A) (hN : N ≤ 900000) (a1 : Int32) : hxC (d + 7) 205 hm_m205 [.ref 368, .int a1] A (fun r A' => hJ 0 (N + 72) (N + 144) A0 A' ∧ ∃ z : Int32, r = some (.int z)) := hxC.of (by rfl) (hY205 hA hN a1 (fun r A' h => h))
theorem hY206 {d : Nat} {N : Int} {A0 A : hs_A} (hA : hJ 0 N (N + 72) A0 A) (hN : N ≤ 900000) (a1 : Int32) {P : Option Value → hs_A → Prop} (hP : ∀ (r : Option Value) (A' : hs_A), (hJ 0 (N + 72) (N + 144) A0 A' ∧ ∃ z : Int32, r = some (.int z)) → P r A') : hxa (d + 7) (some (.int)) hm_t206 0 [.ref 368, .int a1, .retAddr 0, .retAddr 0] [] A P := by
  have k0 := hk_0
  have k4294967294 := hk_4294967294
  have k4294967295 := hk_4294967295
  have L24 : ∀ (m24 : Nat) (x24_2 : Int32) (x24_3 : Int32) (Ac24 : hs_A) (hAc24 : hJ 0 N N A0 Ac24) (bx24_2 : -2 ≤ x24_2.toInt) (cx24_2 : x24_2.toInt ≤ 255) (bx24_3 : 0 ≤ x24_3.toInt) (cx24_3 : x24_3.toInt ≤ 256) (ba1 : 0 ≤ a1.toInt) (ca1 : a1.toInt ≤ 9) (hm24 : 256 - x24_3.toInt < (m24 : Int)), hxa (d + 7) (some (.int)) hm_t206 24 [.ref 368, .int a1, .int x24_2, .int x24_3] [] Ac24 P := by
    intro m24
    induction m24 with
    | zero => intro x24_2 x24_3 Ac24 hAc24 bx24_2 cx24_2 bx24_3 cx24_3 ba1 ca1 hm24;  exact False.elim (by omega)
    | succ m24 ih24 =>
      intro x24_2 x24_3 Ac24 hAc24 bx24_2 cx24_2 bx24_3 cx24_3 ba1 ca1 hm24
      refine hxa_iload_n (by rfl) rfl ?_
      refine hxa_sipush (by rfl) rfl ?_
      refine hxj_cge (by rfl) rfl hk_256 (fun q1 => ?_) (fun q1 => ?_)
      ·
        refine hxa_iload_n (by rfl) rfl ?_
        exact hxa_ireturn (by rfl) rfl (hP _ _ ⟨(hJ.mono hAc24 (by omega) (by omega)), _, rfl⟩)
      ·
        refine hxa_aload_n (by rfl) rfl ?_
        refine hxa_get (v := .ref 397) (by rfl) (by rfl) (by rfl) rfl ?_
        refine hxa_iload_n (by rfl) rfl ?_
        refine hxj_iald396 (by rfl) rfl (by omega) (by omega) hAc24 (fun z2 ez2 fz2 => ?_)
        refine hxa_aload_n (by rfl) rfl ?_
        refine hxa_get (v := .ref 401) (by rfl) (by rfl) (by rfl) rfl ?_
        refine hxa_iload_n (by rfl) rfl ?_
        refine hxj_ialdB (by rfl) (by rfl) rfl (by omega) (by omega) hAc24 (by rfl) (fun z3 ez3 fz3 gz3 => ?_)
        refine hxa_iconst (by rfl) rfl ?_
        refine hxj_ixorU (by rfl) (fun z4 => ?_)
        refine hxj_iandU (by rfl) (fun z5 => ?_)
        refine hxj_zne (by rfl) rfl (fun q6 => ?_) (fun q6 => ?_)
        ·
          refine hxj_iinc (by rfl) rfl rfl hk_1 (by omega) (by omega) (fun _ => rfl) (fun z7 ez7 => ?_)
          refine hxa_goto (by rfl) ?_
          exact ih24 x24_2 z7 Ac24 hAc24 (by omega) (by omega) (by omega) (by omega) (by omega) (by omega) (by omega)
        ·
          refine hxa_iload_n (by rfl) rfl ?_
          refine hxj_zlt (by rfl) rfl (fun q8 => ?_) (fun q8 => ?_)
          ·
            refine hxa_iload_n (by rfl) rfl ?_
            refine hxa_s1 (by rfl) (Or.inl ⟨_, rfl, rfl⟩) rfl ?_
            refine hxj_iinc (by rfl) rfl rfl hk_1 (by omega) (by omega) (fun _ => rfl) (fun z9 ez9 => ?_)
            refine hxa_goto (by rfl) ?_
            exact ih24 x24_3 z9 Ac24 hAc24 (by omega) (by omega) (by omega) (by omega) (by omega) (by omega) (by omega)
          ·
            refine hxa_iload_n (by rfl) rfl ?_
            refine hxa_call2 (by rfl) (by decide) (by rfl) (by rfl) (by rfl) (hX166 (d := d + 6)  x24_3) ?_
            rintro _ _ ⟨rfl, z10, rfl⟩
            refine hxa_iload_n (by rfl) rfl ?_
            refine hxa_call2 (by rfl) (by decide) (by rfl) (by rfl) (by rfl) (hX166 (d := d + 6)  x24_2) ?_
            rintro _ _ ⟨rfl, z11, rfl⟩
            have rgz10 := hn_rng z10
            have rgz11 := hn_rng z11
            refine hxj_cge (by rfl) rfl rfl (fun q12 => ?_) (fun q12 => ?_)
            ·
              refine hxj_iinc (by rfl) rfl rfl hk_1 (by omega) (by omega) (fun _ => rfl) (fun z13 ez13 => ?_)
              refine hxa_goto (by rfl) ?_
              exact ih24 x24_2 z13 Ac24 hAc24 (by omega) (by omega) (by omega) (by omega) (by omega) (by omega) (by omega)
            ·
              refine hxa_iload_n (by rfl) rfl ?_
              refine hxa_s1 (by rfl) (Or.inl ⟨_, rfl, rfl⟩) rfl ?_
              refine hxj_iinc (by rfl) rfl rfl hk_1 (by omega) (by omega) (fun _ => rfl) (fun z14 ez14 => ?_)
              refine hxa_goto (by rfl) ?_
              exact ih24 x24_3 z14 Ac24 hAc24 (by omega) (by omega) (by omega) (by omega) (by omega) (by omega) (by omega)
  refine hxa_aload_n (by rfl) rfl ?_
  refine hxa_iload_n (by rfl) rfl ?_
  refine hxa_call0 (by rfl) (by rfl) (by rfl) (by rfl) (by rfl) (by rfl) (hX167 (d := d + 5) hA a1) ?_
  rintro _ _ ⟨rfl, z15, rfl, fz15⟩
  rcases fz15 with fz15 | fz15
  ·
    refine hxj_zne (by rfl) rfl (fun q16 => ?_) (fun q16 => False.elim (by omega))
    refine hxa_aload_n (by rfl) rfl ?_
    refine hxa_call0 (by rfl) (by rfl) (by rfl) (by rfl) (by rfl) (by rfl) (hX171 (d := d + 6) hA ) ?_
    rintro _ A17 ⟨hA17, rfl⟩
    refine hxa_aload_n (by rfl) rfl ?_
    refine hxa_iload_n (by rfl) rfl ?_
    refine hxa_call0 (by rfl) (by rfl) (by rfl) (by rfl) (by rfl) (by rfl) (hX203 (d := d + 0) hA17 a1 (by omega) (by omega)) ?_
    rintro _ A18 ⟨hA18, rfl⟩
    refine hxa_bipush (by rfl) rfl ?_
    refine hxa_s1 (by rfl) (Or.inl ⟨_, rfl, rfl⟩) rfl ?_
    refine hxa_iconst (by rfl) rfl ?_
    refine hxa_s1 (by rfl) (Or.inl ⟨_, rfl, rfl⟩) rfl ?_
    exact L24 (Int.toNat (256 - 0) + 1) (Int32.ofNat 4294967294) (Int32.ofNat 0) A18 hA18 (by omega) (by omega) (by omega) (by omega) (by omega) (by omega) (by omega)
  ·
    refine hxj_zne (by rfl) rfl (fun q19 => False.elim (by omega)) (fun q19 => ?_)
    refine hxa_iconst (by rfl) rfl ?_
    exact hxa_ireturn (by rfl) rfl (hP _ _ ⟨(hJ.mono hA (by omega) (by omega)), _, rfl⟩)
theorem hX206 {d : Nat} {N : Int} {A0 A : hs_A} (hA : hJ 0 N (N + 72) A0 A) (hN : N ≤ 900000) (a1 : Int32) : hxC (d + 8) 206 hm_m206 [.ref 368, .int a1] A (fun r A' => hJ 0 (N + 72) (N + 144) A0 A' ∧ ∃ z : Int32, r = some (.int z)) := hxC.of (by rfl) (hY206 hA hN a1 (fun r A' h => h))
theorem hY207 {d : Nat} {N : Int} {A0 A : hs_A} (hA : hJ 0 N (N + 72) A0 A) (hN : N ≤ 900000) (a1 : Int32) {P : Option Value → hs_A → Prop} (hP : ∀ (r : Option Value) (A' : hs_A), (hJ 0 (N + 72) (N + 144) A0 A' ∧ ∃ z : Int32, r = some (.int z)) → P r A') : hxa (d + 7) (some (.int)) hm_t207 0 [.ref 368, .int a1, .retAddr 0, .retAddr 0] [] A P := by
  have k0 := hk_0
  have k4294967295 := hk_4294967295
  have L45 : ∀ (m45 : Nat) (x45_2 : Int32) (x45_3 : Int32) (Ac45 : hs_A) (hAc45 : hJ 0 N N A0 Ac45) (bx45_3 : 0 ≤ x45_3.toInt) (cx45_3 : x45_3.toInt ≤ 256) (ba1 : 0 ≤ a1.toInt) (ca1 : a1.toInt ≤ 9) (hm45 : 256 - x45_3.toInt < (m45 : Int)), hxa (d + 7) (some (.int)) hm_t207 45 [.ref 368, .int a1, .int x45_2, .int x45_3] [] Ac45 P := by
    intro m45
    induction m45 with
    | zero => intro x45_2 x45_3 Ac45 hAc45 bx45_3 cx45_3 ba1 ca1 hm45; have := hn_rng x45_2; exact False.elim (by omega)
    | succ m45 ih45 =>
      intro x45_2 x45_3 Ac45 hAc45 bx45_3 cx45_3 ba1 ca1 hm45
      refine hxa_iload_n (by rfl) rfl ?_
      refine hxa_sipush (by rfl) rfl ?_
      refine hxj_cge (by rfl) rfl hk_256 (fun q1 => ?_) (fun q1 => ?_)
      ·
        refine hxa_iload_n (by rfl) rfl ?_
        exact hxa_ireturn (by rfl) rfl (hP _ _ ⟨(hJ.mono hAc45 (by omega) (by omega)), _, rfl⟩)
      ·
        refine hxa_aload_n (by rfl) rfl ?_
        refine hxa_get (v := .ref 402) (by rfl) (by rfl) (by rfl) rfl ?_
        refine hxa_aload_n (by rfl) rfl ?_
        refine hxa_get (v := .ref 401) (by rfl) (by rfl) (by rfl) rfl ?_
        refine hxa_iload_n (by rfl) rfl ?_
        refine hxj_ialdB (by rfl) (by rfl) rfl (by omega) (by omega) hAc45 (by rfl) (fun z2 ez2 fz2 gz2 => ?_)
        refine hxj_zald (by rfl) (by rfl) rfl (by omega) (by omega) (fun z3 ez3 => ?_)
        refine hxj_zne (by rfl) rfl (fun q4 => ?_) (fun q4 => ?_)
        ·
          refine hxa_aload_n (by rfl) rfl ?_
          refine hxa_get (v := .ref 402) (by rfl) (by rfl) (by rfl) rfl ?_
          refine hxa_aload_n (by rfl) rfl ?_
          refine hxa_get (v := .ref 401) (by rfl) (by rfl) (by rfl) rfl ?_
          refine hxa_iload_n (by rfl) rfl ?_
          refine hxj_ialdB (by rfl) (by rfl) rfl (by omega) (by omega) hAc45 (by rfl) (fun z5 ez5 fz5 gz5 => ?_)
          refine hxa_iconst (by rfl) rfl ?_
          refine hxj_zast (by rfl) (by rfl) rfl (by omega) (by omega) hk_1 (by omega) (by omega) hAc45 (hbokN (by rfl)) (by rfl) (by rfl) (fun A6 hA6 eA6 fA6 gA6 => ?_)
          refine hxj_iinc (by rfl) rfl rfl hk_1 (by omega) (by omega) (fun _ => rfl) (fun z7 ez7 => ?_)
          refine hxa_goto (by rfl) ?_
          exact ih45 x45_2 z7 A6 hA6 (by omega) (by omega) (by omega) (by omega) (by omega)
        ·
          refine hxj_iincU (by rfl) rfl (fun _ => rfl) (fun z8 => ?_)
          refine hxa_aload_n (by rfl) rfl ?_
          refine hxa_get (v := .ref 402) (by rfl) (by rfl) (by rfl) rfl ?_
          refine hxa_aload_n (by rfl) rfl ?_
          refine hxa_get (v := .ref 401) (by rfl) (by rfl) (by rfl) rfl ?_
          refine hxa_iload_n (by rfl) rfl ?_
          refine hxj_ialdB (by rfl) (by rfl) rfl (by omega) (by omega) hAc45 (by rfl) (fun z9 ez9 fz9 gz9 => ?_)
          refine hxa_iconst (by rfl) rfl ?_
          refine hxj_zast (by rfl) (by rfl) rfl (by omega) (by omega) hk_1 (by omega) (by omega) hAc45 (hbokN (by rfl)) (by rfl) (by rfl) (fun A10 hA10 eA10 fA10 gA10 => ?_)
          refine hxj_iinc (by rfl) rfl rfl hk_1 (by omega) (by omega) (fun _ => rfl) (fun z11 ez11 => ?_)
          refine hxa_goto (by rfl) ?_
          exact ih45 z8 z11 A10 hA10 (by omega) (by omega) (by omega) (by omega) (by omega)
  have L21 : ∀ (m21 : Nat) (x21_2 : Int32) (Ac21 : hs_A) (hAc21 : hJ 0 N N A0 Ac21) (bx21_2 : 0 ≤ x21_2.toInt) (cx21_2 : x21_2.toInt ≤ 256) (ba1 : 0 ≤ a1.toInt) (ca1 : a1.toInt ≤ 9) (hm21 : 256 - x21_2.toInt < (m21 : Int)), hxa (d + 7) (some (.int)) hm_t207 21 [.ref 368, .int a1, .int x21_2, .retAddr 0] [] Ac21 P := by
    intro m21
    induction m21 with
    | zero => intro x21_2 Ac21 hAc21 bx21_2 cx21_2 ba1 ca1 hm21;  exact False.elim (by omega)
    | succ m21 ih21 =>
      intro x21_2 Ac21 hAc21 bx21_2 cx21_2 ba1 ca1 hm21
      refine hxa_iload_n (by rfl) rfl ?_
      refine hxa_sipush (by rfl) rfl ?_
      refine hxj_cge (by rfl) rfl hk_256 (fun q12 => ?_) (fun q12 => ?_)
      ·
        refine hxa_iconst (by rfl) rfl ?_
        refine hxa_s1 (by rfl) (Or.inl ⟨_, rfl, rfl⟩) rfl ?_
        refine hxa_iconst (by rfl) rfl ?_
        refine hxa_s1 (by rfl) (Or.inl ⟨_, rfl, rfl⟩) rfl ?_
        exact L45 (Int.toNat (256 - 0) + 1) (Int32.ofNat 0) (Int32.ofNat 0) Ac21 hAc21 (by omega) (by omega) (by omega) (by omega) (by omega)
      ·
        refine hxa_aload_n (by rfl) rfl ?_
        refine hxa_get (v := .ref 402) (by rfl) (by rfl) (by rfl) rfl ?_
        refine hxa_iload_n (by rfl) rfl ?_
        refine hxa_iconst (by rfl) rfl ?_
        refine hxj_zast (by rfl) (by rfl) rfl (by omega) (by omega) hk_0 (by omega) (by omega) hAc21 (hbokN (by rfl)) (by rfl) (by rfl) (fun A13 hA13 eA13 fA13 gA13 => ?_)
        refine hxj_iinc (by rfl) rfl rfl hk_1 (by omega) (by omega) (fun _ => rfl) (fun z14 ez14 => ?_)
        refine hxa_goto (by rfl) ?_
        exact ih21 z14 A13 hA13 (by omega) (by omega) (by omega) (by omega) (by omega)
  refine hxa_aload_n (by rfl) rfl ?_
  refine hxa_iload_n (by rfl) rfl ?_
  refine hxa_call0 (by rfl) (by rfl) (by rfl) (by rfl) (by rfl) (by rfl) (hX167 (d := d + 5) hA a1) ?_
  rintro _ _ ⟨rfl, z15, rfl, fz15⟩
  rcases fz15 with fz15 | fz15
  ·
    refine hxj_zne (by rfl) rfl (fun q16 => ?_) (fun q16 => False.elim (by omega))
    refine hxa_aload_n (by rfl) rfl ?_
    refine hxa_call0 (by rfl) (by rfl) (by rfl) (by rfl) (by rfl) (by rfl) (hX171 (d := d + 6) hA ) ?_
    rintro _ A17 ⟨hA17, rfl⟩
    refine hxa_aload_n (by rfl) rfl ?_
    refine hxa_iload_n (by rfl) rfl ?_
    refine hxa_call0 (by rfl) (by rfl) (by rfl) (by rfl) (by rfl) (by rfl) (hX203 (d := d + 0) hA17 a1 (by omega) (by omega)) ?_
    rintro _ A18 ⟨hA18, rfl⟩
    refine hxa_iconst (by rfl) rfl ?_
    refine hxa_s1 (by rfl) (Or.inl ⟨_, rfl, rfl⟩) rfl ?_
    exact L21 (Int.toNat (256 - 0) + 1) (Int32.ofNat 0) A18 hA18 (by omega) (by omega) (by omega) (by omega) (by omega)
  ·
    refine hxj_zne (by rfl) rfl (fun q19 => False.elim (by omega)) (fun q19 => ?_)
    refine hxa_iconst (by rfl) rfl ?_
    exact hxa_ireturn (by rfl) rfl (hP _ _ ⟨(hJ.mono hA (by omega) (by omega)), _, rfl⟩)
theorem hX207 {d : Nat} {N : Int} {A0 A : hs_A} (hA : hJ 0 N (N + 72) A0 A) (hN : N ≤ 900000) (a1 : Int32) : hxC (d + 8) 207 hm_m207 [.ref 368, .int a1] A (fun r A' => hJ 0 (N + 72) (N + 144) A0 A' ∧ ∃ z : Int32, r = some (.int z)) := hxC.of (by rfl) (hY207 hA hN a1 (fun r A' h => h))
