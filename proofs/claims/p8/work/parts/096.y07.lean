theorem hY170 {d : Nat} {Bn Br : Int} {A0 A : hs_A} (hA : hJ 0 Bn Br A0 A) (hBr : Br ≤ Bn + 72)  {P : Option Value → hs_A → Prop} (hP : ∀ (r : Option Value) (A' : hs_A), (hJ 0 (Bn + 72) Br A0 A' ∧ r = none) → P r A') : hxa (d + 0) none hm_t170 0 [.ref 368, .retAddr 0] [] A P := by
  have k0 := hk_0
  have L2 : ∀ (m2 : Nat) (x2_1 : Int32) (Ac2 : hs_A) (hAc2 : hJ 0 (Bn + 72) Br A0 Ac2) (bx2_1 : 0 ≤ x2_1.toInt) (cx2_1 : x2_1.toInt ≤ 73) (hm2 : 73 - x2_1.toInt < (m2 : Int)), hxa (d + 0) none hm_t170 2 [.ref 368, .int x2_1] [] Ac2 P := by
    intro m2
    induction m2 with
    | zero => intro x2_1 Ac2 hAc2 bx2_1 cx2_1 hm2;  exact False.elim (by omega)
    | succ m2 ih2 =>
      intro x2_1 Ac2 hAc2 bx2_1 cx2_1 hm2
      refine hxa_iload_n (by rfl) rfl ?_
      refine hxa_bipush (by rfl) rfl ?_
      refine hxj_cge (by rfl) rfl hk_73 (fun q1 => ?_) (fun q1 => ?_)
      ·
        exact hxa_return (by rfl) rfl (hP _ _ ⟨hAc2, rfl⟩)
      ·
        refine hxa_aload_n (by rfl) rfl ?_
        refine hxa_get (v := .ref 396) (by rfl) (by rfl) (by rfl) rfl ?_
        refine hxa_iload_n (by rfl) rfl ?_
        refine hxa_aload_n (by rfl) rfl ?_
        refine hxa_get (v := .ref 397) (by rfl) (by rfl) (by rfl) rfl ?_
        refine hxa_iload_n (by rfl) rfl ?_
        refine hxj_iald396 (by rfl) rfl (by omega) (by omega) hAc2 (fun z2 ez2 fz2 => ?_)
        refine hxj_iast395 (by rfl) rfl (by omega) (by omega) rfl hAc2 (by omega) (fun A3 hA3 eA3 fA3 gA3 => ?_)
        refine hxj_iinc (by rfl) rfl rfl hk_1 (by omega) (by omega) (fun _ => rfl) (fun z4 ez4 => ?_)
        refine hxa_goto (by rfl) ?_
        exact ih2 z4 A3 hA3 (by omega) (by omega) (by omega)
  have H5 : hJ 0 (Bn + 72) Br A0 A := hJ.mono hA (by omega) (by omega)
  refine hxa_iconst (by rfl) rfl ?_
  refine hxa_s1 (by rfl) (Or.inl ⟨_, rfl, rfl⟩) rfl ?_
  exact L2 (Int.toNat (73 - 0) + 1) (Int32.ofNat 0) A H5 (by omega) (by omega) (by omega)
theorem hX170 {d : Nat} {Bn Br : Int} {A0 A : hs_A} (hA : hJ 0 Bn Br A0 A) (hBr : Br ≤ Bn + 72)  : hxC (d + 1) 170 hm_m170 [.ref 368] A (fun r A' => hJ 0 (Bn + 72) Br A0 A' ∧ r = none) := hxC.of (by rfl) (hY170 hA hBr (fun r A' h => h))
theorem hY163 {d : Nat} {Bn Br : Int} {A0 A : hs_A} (hA : hJ 0 Bn Br A0 A)  (a1 : Int32) (a2 : Int32) (x0 : hWt (A0.1 367 18).toInt A0 a1 a2) {P : Option Value → hs_A → Prop} (hP : ∀ (r : Option Value) (A' : hs_A), (hJ 0 Bn Br A0 A' ∧ ∃ z : Int32, r = some (.int z)) → P r A') : hxa (d + 0) (some (.int)) hm_t163 0 [.ref 368, .int a1, .int a2, .retAddr 0, .retAddr 0, .retAddr 0, .retAddr 0, .retAddr 0] [] A P := by
  have k0 := hk_0
  obtain ⟨w1, w2, w3, w4⟩ := x0
  have hlv := hA.2.2.2.1.2.2.2.2
  have L5 : ∀ (m5 : Nat) (x5_3 : Int32) (x5_4 : Int32) (x5_5 : Value) (x5_6 : Value) (x5_7 : Value) (Ac5 : hs_A) (hx5_5 : hc_two (some x5_5) = false) (hx5_6 : hc_two (some x5_6) = false) (hAc5 : hJ 0 Bn Br A0 Ac5) (bx5_3 : 0 ≤ x5_3.toInt) (cx5_3 : x5_3.toInt ≤ 400) (bx5_4 : 0 ≤ x5_4.toInt) (u5_0 : hW (A0.2.1 390) (A0.2.1 391) (a2.toInt - x5_4.toInt).toNat x5_4.toInt.toNat x5_3.toInt.toNat) (u5_1 : x5_3.toInt ≤ x5_4.toInt - a1.toInt) (u5_2 : a1.toInt ≤ x5_4.toInt) (hm5 : 2147483647 - x5_4.toInt < (m5 : Int)), hxa (d + 0) (some (.int)) hm_t163 5 [.ref 368, .int a1, .int a2, .int x5_3, .int x5_4, x5_5, x5_6, x5_7] [] Ac5 P := by
    intro m5
    induction m5 with
    | zero => intro x5_3 x5_4 x5_5 x5_6 x5_7 Ac5 hx5_5 hx5_6 hAc5 bx5_3 cx5_3 bx5_4 u5_0 u5_1 u5_2 hm5; have := hn_rng x5_4; exact False.elim (by omega)
    | succ m5 ih5 =>
      intro x5_3 x5_4 x5_5 x5_6 x5_7 Ac5 hx5_5 hx5_6 hAc5 bx5_3 cx5_3 bx5_4 u5_0 u5_1 u5_2 hm5
      refine hxa_iload (by rfl) rfl ?_
      refine hxa_iload_n (by rfl) rfl ?_
      have rgx5_4 := hn_rng x5_4
      have rga2 := hn_rng a2
      refine hxj_cge (by rfl) rfl rfl (fun q1 => ?_) (fun q1 => ?_)
      ·
        refine hxa_aload_n (by rfl) rfl ?_
        refine hxa_get (v := .ref 395) (by rfl) (by rfl) (by rfl) rfl ?_
        refine hxa_iconst (by rfl) rfl ?_
        refine hxj_iald (by rfl) (by rfl) hk_0 (by omega) (by omega) (fun z2 ez2 => ?_)
        exact hxa_ireturn (by rfl) rfl (hP _ _ ⟨hAc5, _, rfl⟩)
      ·
        refine hxa_aload_n (by rfl) rfl ?_
        refine hxa_get (v := .ref 391) (by rfl) (by rfl) (by rfl) rfl ?_
        refine hxa_iload (by rfl) rfl ?_
        refine hxj_iald (by rfl) (by rfl) rfl (by omega) (by omega) (fun z3 ez3 => ?_)
        rcases hWc (b := a2) (t := x5_3) hAc5 u5_0 (by omega) (by omega) ez3 with ⟨hz, hw⟩ | ⟨hz, hi, hw⟩ | ⟨hz, ht, hw⟩
        ·
          refine hxa_s1 (by rfl) (Or.inr ⟨_, rfl, rfl⟩) rfl ?_
          refine hxa_iload (by rfl) rfl ?_
          refine hxa_iconst (by rfl) rfl ?_
          refine hxj_cge (by rfl) rfl hk_2 (fun q4 => False.elim (by omega)) (fun q4 => ?_)
          refine hxa_aload_n (by rfl) rfl ?_
          refine hxa_get (v := .ref 395) (by rfl) (by rfl) (by rfl) rfl ?_
          refine hxa_iload_n (by rfl) rfl ?_
          refine hxa_iload (by rfl) rfl ?_
          refine hxj_zne (by rfl) rfl (fun q5 => False.elim (by omega)) (fun q5 => ?_)
          refine hxa_aload_n (by rfl) rfl ?_
          refine hxa_get (v := .ref 392) (by rfl) (by rfl) (by rfl) rfl ?_
          refine hxa_iload (by rfl) rfl ?_
          refine hxj_iald (by rfl) (by rfl) rfl (by omega) (by omega) (fun z6 ez6 => ?_)
          refine hxa_goto (by rfl) ?_
          refine hxj_iast (by rfl) (by rfl) rfl (by omega) (by omega) hAc5 (hbokN (by rfl)) (by rfl) (by rfl) (fun A7 hA7 eA7 fA7 gA7 => ?_)
          refine hxj_iinc (by rfl) rfl rfl hk_1 (by omega) (by omega) (fun _ => rfl) (fun z8 ez8 => ?_)
          refine hxa_goto (by rfl) ?_
          refine hxj_iinc (by rfl) rfl rfl hk_1 (by omega) (by omega) (fun _ => rfl) (fun z9 ez9 => ?_)
          refine hxa_goto (by rfl) ?_
          exact ih5 z8 z9 (.int z3) (x5_6) (x5_7) A7 rfl hx5_6 hA7 (by omega) (by omega) (by omega) (by first | exact hWn hw (by omega) (by omega) (by omega) | exact hWn w4 (by omega) (by omega) (by omega)) (by omega) (by omega) (by omega)
        ·
          refine hxa_s1 (by rfl) (Or.inr ⟨_, rfl, rfl⟩) rfl ?_
          refine hxa_iload (by rfl) rfl ?_
          refine hxa_iconst (by rfl) rfl ?_
          refine hxj_cge (by rfl) rfl hk_2 (fun q10 => False.elim (by omega)) (fun q10 => ?_)
          refine hxa_aload_n (by rfl) rfl ?_
          refine hxa_get (v := .ref 395) (by rfl) (by rfl) (by rfl) rfl ?_
          refine hxa_iload_n (by rfl) rfl ?_
          refine hxa_iload (by rfl) rfl ?_
          refine hxj_zne (by rfl) rfl (fun q11 => ?_) (fun q11 => False.elim (by omega))
          refine hxa_aload_n (by rfl) rfl ?_
          refine hxa_get (v := .ref 394) (by rfl) (by rfl) (by rfl) rfl ?_
          refine hxa_aload_n (by rfl) rfl ?_
          refine hxa_get (v := .ref 392) (by rfl) (by rfl) (by rfl) rfl ?_
          refine hxa_iload (by rfl) rfl ?_
          refine hxj_iald (by rfl) (by rfl) rfl (by omega) (by omega) (fun z12 ez12 => ?_)
          rw [ez12] at hi
          refine hxj_iald (by rfl) (by rfl) rfl (by omega) (by omega) (fun z13 ez13 => ?_)
          refine hxj_iast (by rfl) (by rfl) rfl (by omega) (by omega) hAc5 (hbokN (by rfl)) (by rfl) (by rfl) (fun A14 hA14 eA14 fA14 gA14 => ?_)
          refine hxj_iinc (by rfl) rfl rfl hk_1 (by omega) (by omega) (fun _ => rfl) (fun z15 ez15 => ?_)
          refine hxa_goto (by rfl) ?_
          refine hxj_iinc (by rfl) rfl rfl hk_1 (by omega) (by omega) (fun _ => rfl) (fun z16 ez16 => ?_)
          refine hxa_goto (by rfl) ?_
          exact ih5 z15 z16 (.int z3) (x5_6) (x5_7) A14 rfl hx5_6 hA14 (by omega) (by omega) (by omega) (by first | exact hWn hw (by omega) (by omega) (by omega) | exact hWn w4 (by omega) (by omega) (by omega)) (by omega) (by omega) (by omega)
        ·
          refine hxa_s1 (by rfl) (Or.inr ⟨_, rfl, rfl⟩) rfl ?_
          refine hxa_iload (by rfl) rfl ?_
          refine hxa_iconst (by rfl) rfl ?_
          refine hxj_cge (by rfl) rfl hk_2 (fun q17 => ?_) (fun q17 => False.elim (by omega))
          refine hxj_iinc (by rfl) rfl rfl hk_4294967295 (by omega) (by omega) (fun _ => rfl) (fun z18 ez18 => ?_)
          refine hxa_aload_n (by rfl) rfl ?_
          refine hxa_get (v := .ref 395) (by rfl) (by rfl) (by rfl) rfl ?_
          refine hxa_iload_n (by rfl) rfl ?_
          refine hxa_iconst (by rfl) rfl ?_
          refine hxj_isub (by rfl) rfl hk_1 (by omega) (by omega) (fun z19 ez19 => ?_)
          refine hxj_iald (by rfl) (by rfl) rfl (by omega) (by omega) (fun z20 ez20 => ?_)
          refine hxa_s1 (by rfl) (Or.inr ⟨_, rfl, rfl⟩) rfl ?_
          refine hxa_aload_n (by rfl) rfl ?_
          refine hxa_get (v := .ref 395) (by rfl) (by rfl) (by rfl) rfl ?_
          refine hxa_iload_n (by rfl) rfl ?_
          refine hxj_iald (by rfl) (by rfl) rfl (by omega) (by omega) (fun z21 ez21 => ?_)
          refine hxa_s1 (by rfl) (Or.inr ⟨_, rfl, rfl⟩) rfl ?_
          refine hxa_iload (by rfl) rfl ?_
          refine hxa_iconst (by rfl) rfl ?_
          refine hxj_cne (by rfl) rfl hk_5 (fun q22 => ?_) (fun q22 => ?_)
          ·
            refine hxa_aload_n (by rfl) rfl ?_
            refine hxa_get (v := .ref 395) (by rfl) (by rfl) (by rfl) rfl ?_
            refine hxa_iload_n (by rfl) rfl ?_
            refine hxa_iconst (by rfl) rfl ?_
            refine hxj_isub (by rfl) rfl hk_1 (by omega) (by omega) (fun z23 ez23 => ?_)
            refine hxa_iload (by rfl) rfl ?_
            refine hxa_iconst (by rfl) rfl ?_
            refine hxj_cne (by rfl) rfl hk_2 (fun q24 => ?_) (fun q24 => ?_)
            ·
              refine hxa_iload (by rfl) rfl ?_
              refine hxa_iconst (by rfl) rfl ?_
              refine hxj_cne (by rfl) rfl hk_3 (fun q25 => ?_) (fun q25 => ?_)
              ·
                refine hxa_iload (by rfl) rfl ?_
                refine hxa_iconst (by rfl) rfl ?_
                refine hxj_cne (by rfl) rfl hk_4 (fun q26 => False.elim (by omega)) (fun q26 => ?_)
                refine hxa_iload (by rfl) rfl ?_
                refine hxa_iload (by rfl) rfl ?_
                refine hxj_imulU (by rfl) (fun z27 => ?_)
                refine hxa_goto (by rfl) ?_
                refine hxj_iast (by rfl) (by rfl) rfl (by omega) (by omega) hAc5 (hbokN (by rfl)) (by rfl) (by rfl) (fun A28 hA28 eA28 fA28 gA28 => ?_)
                refine hxj_iinc (by rfl) rfl rfl hk_1 (by omega) (by omega) (fun _ => rfl) (fun z29 ez29 => ?_)
                refine hxa_goto (by rfl) ?_
                exact ih5 z18 z29 (.int z3) (.int z20) (.int z21) A28 rfl rfl hA28 (by omega) (by omega) (by omega) (by first | exact hWn hw (by omega) (by omega) (by omega) | exact hWn w4 (by omega) (by omega) (by omega)) (by omega) (by omega) (by omega)
              ·
                refine hxa_iload (by rfl) rfl ?_
                refine hxa_iload (by rfl) rfl ?_
                refine hxj_isubU (by rfl) (fun z30 => ?_)
                refine hxa_goto (by rfl) ?_
                refine hxj_iast (by rfl) (by rfl) rfl (by omega) (by omega) hAc5 (hbokN (by rfl)) (by rfl) (by rfl) (fun A31 hA31 eA31 fA31 gA31 => ?_)
                refine hxj_iinc (by rfl) rfl rfl hk_1 (by omega) (by omega) (fun _ => rfl) (fun z32 ez32 => ?_)
                refine hxa_goto (by rfl) ?_
                exact ih5 z18 z32 (.int z3) (.int z20) (.int z21) A31 rfl rfl hA31 (by omega) (by omega) (by omega) (by first | exact hWn hw (by omega) (by omega) (by omega) | exact hWn w4 (by omega) (by omega) (by omega)) (by omega) (by omega) (by omega)
            ·
              refine hxa_iload (by rfl) rfl ?_
              refine hxa_iload (by rfl) rfl ?_
              refine hxj_iaddU (by rfl) (fun z33 => ?_)
              refine hxa_goto (by rfl) ?_
              refine hxj_iast (by rfl) (by rfl) rfl (by omega) (by omega) hAc5 (hbokN (by rfl)) (by rfl) (by rfl) (fun A34 hA34 eA34 fA34 gA34 => ?_)
              refine hxj_iinc (by rfl) rfl rfl hk_1 (by omega) (by omega) (fun _ => rfl) (fun z35 ez35 => ?_)
              refine hxa_goto (by rfl) ?_
              exact ih5 z18 z35 (.int z3) (.int z20) (.int z21) A34 rfl rfl hA34 (by omega) (by omega) (by omega) (by first | exact hWn hw (by omega) (by omega) (by omega) | exact hWn w4 (by omega) (by omega) (by omega)) (by omega) (by omega) (by omega)
          ·
            refine hxa_iload (by rfl) rfl ?_
            refine hxj_zne (by rfl) rfl (fun q36 => ?_) (fun q36 => ?_)
            ·
              refine hxa_aload_n (by rfl) rfl ?_
              refine hxa_get (v := .ref 395) (by rfl) (by rfl) (by rfl) rfl ?_
              refine hxa_iload_n (by rfl) rfl ?_
              refine hxa_iconst (by rfl) rfl ?_
              refine hxj_isub (by rfl) rfl hk_1 (by omega) (by omega) (fun z37 ez37 => ?_)
              refine hxa_iload (by rfl) rfl ?_
              refine hxa_iconst (by rfl) rfl ?_
              refine hxj_cne (by rfl) rfl hk_2 (fun q38 => ?_) (fun q38 => False.elim (by omega))
              refine hxa_iload (by rfl) rfl ?_
              refine hxa_iconst (by rfl) rfl ?_
              refine hxj_cne (by rfl) rfl hk_3 (fun q39 => ?_) (fun q39 => False.elim (by omega))
              refine hxa_iload (by rfl) rfl ?_
              refine hxa_iconst (by rfl) rfl ?_
              refine hxj_cne (by rfl) rfl hk_4 (fun q40 => ?_) (fun q40 => False.elim (by omega))
              refine hxa_iload (by rfl) rfl ?_
              refine hxa_iload (by rfl) rfl ?_
              refine hxj_idivU (by rfl) rfl (by omega) (fun z41 => ?_)
              refine hxj_iast (by rfl) (by rfl) rfl (by omega) (by omega) hAc5 (hbokN (by rfl)) (by rfl) (by rfl) (fun A42 hA42 eA42 fA42 gA42 => ?_)
              refine hxj_iinc (by rfl) rfl rfl hk_1 (by omega) (by omega) (fun _ => rfl) (fun z43 ez43 => ?_)
              refine hxa_goto (by rfl) ?_
              exact ih5 z18 z43 (.int z3) (.int z20) (.int z21) A42 rfl rfl hA42 (by omega) (by omega) (by omega) (by first | exact hWn hw (by omega) (by omega) (by omega) | exact hWn w4 (by omega) (by omega) (by omega)) (by omega) (by omega) (by omega)
            ·
              refine hxa_aload_n (by rfl) rfl ?_
              refine hxa_iconst (by rfl) rfl ?_
              refine hxj_putI (by rfl) (by rfl) (by rfl) (by rfl) hAc5 (hbokN (by rfl)) (by rfl) (by rfl) (fun A44 hA44 eA44 fA44 => ?_)
              refine hxa_iconst (by rfl) rfl ?_
              exact hxa_ireturn (by rfl) rfl (hP _ _ ⟨hA44, _, rfl⟩)
  refine hxa_iconst (by rfl) rfl ?_
  refine hxa_s1 (by rfl) (Or.inl ⟨_, rfl, rfl⟩) rfl ?_
  refine hxa_iload_n (by rfl) rfl ?_
  refine hxa_s1 (by rfl) (Or.inr ⟨_, rfl, rfl⟩) rfl ?_
  exact L5 (Int.toNat (2147483647 - a1.toInt) + 1) (Int32.ofNat 0) a1 (.retAddr 0) (.retAddr 0) (.retAddr 0) A rfl rfl hA (by omega) (by omega) (by omega) (by first | exact hWn hw (by omega) (by omega) (by omega) | exact hWn w4 (by omega) (by omega) (by omega)) (by omega) (by omega) (by omega)
theorem hX163 {d : Nat} {Bn Br : Int} {A0 A : hs_A} (hA : hJ 0 Bn Br A0 A)  (a1 : Int32) (a2 : Int32) (x0 : hWt (A0.1 367 18).toInt A0 a1 a2) : hxC (d + 1) 163 hm_m163 [.ref 368, .int a1, .int a2] A (fun r A' => hJ 0 Bn Br A0 A' ∧ ∃ z : Int32, r = some (.int z)) := hxC.of (by rfl) (hY163 hA a1 a2 x0 (fun r A' h => h))
theorem hY164 {d : Nat} {A : hs_A} (a1 : Int32) (a2 : Int32) (a3 : Int32) {P : Option Value → hs_A → Prop} (hP : ∀ (r : Option Value) (A' : hs_A), (A = A' ∧ ∃ z : Int32, r = some (.int z) ∧ ((z.toInt = 1 ∧ a2.toInt ≤ a1.toInt ∧ a1.toInt ≤ a3.toInt) ∨ (z.toInt = 0 ∧ (a1.toInt < a2.toInt ∨ a3.toInt < a1.toInt)))) → P r A') : hxa (d + 0) (some (.boolean)) hm_t164 0 [.int a1, .int a2, .int a3] [] A P := by
  have k0 := hk_0
  have k1 := hk_1
  refine hxa_iload_n (by rfl) rfl ?_
  refine hxa_iload_n (by rfl) rfl ?_
  have rga1 := hn_rng a1
  have rga2 := hn_rng a2
  refine hxj_clt (by rfl) rfl rfl (fun q1 => ?_) (fun q1 => ?_)
  ·
    refine hxa_iconst (by rfl) rfl ?_
    exact hxa_ireturn (by rfl) (by rfl) (hP _ _ ⟨rfl, _, rfl, by omega⟩)
  ·
    refine hxa_iload_n (by rfl) rfl ?_
    refine hxa_iload_n (by rfl) rfl ?_
    have rga3 := hn_rng a3
    refine hxj_cgt (by rfl) rfl rfl (fun q2 => ?_) (fun q2 => ?_)
    ·
      refine hxa_iconst (by rfl) rfl ?_
      exact hxa_ireturn (by rfl) (by rfl) (hP _ _ ⟨rfl, _, rfl, by omega⟩)
    ·
      refine hxa_iconst (by rfl) rfl ?_
      refine hxa_goto (by rfl) ?_
      exact hxa_ireturn (by rfl) (by rfl) (hP _ _ ⟨rfl, _, rfl, by omega⟩)
theorem hX164 {d : Nat} {A : hs_A} (a1 : Int32) (a2 : Int32) (a3 : Int32) : hxC (d + 1) 164 hm_m164 [.int a1, .int a2, .int a3] A (fun r A' => A = A' ∧ ∃ z : Int32, r = some (.int z) ∧ ((z.toInt = 1 ∧ a2.toInt ≤ a1.toInt ∧ a1.toInt ≤ a3.toInt) ∨ (z.toInt = 0 ∧ (a1.toInt < a2.toInt ∨ a3.toInt < a1.toInt)))) := hxC.of (by rfl) (hY164 a1 a2 a3 (fun r A' h => h))
theorem hY165 {d : Nat} {A : hs_A} (a1 : Int32) (a2 : Int32) (a3 : Int32) (x0 : a2.toInt ≤ a3.toInt) {P : Option Value → hs_A → Prop} (hP : ∀ (r : Option Value) (A' : hs_A), (A = A' ∧ ∃ z : Int32, r = some (.int z) ∧ (a2.toInt ≤ z.toInt ∧ z.toInt ≤ a3.toInt)) → P r A') : hxa (d + 0) (some (.int)) hm_t165 0 [.int a1, .int a2, .int a3] [] A P := by
  refine hxa_iload_n (by rfl) rfl ?_
  refine hxa_iload_n (by rfl) rfl ?_
  have rga1 := hn_rng a1
  have rga2 := hn_rng a2
  refine hxj_cge (by rfl) rfl rfl (fun q1 => ?_) (fun q1 => ?_)
  ·
    refine hxa_iload_n (by rfl) rfl ?_
    refine hxa_iload_n (by rfl) rfl ?_
    have rga3 := hn_rng a3
    refine hxj_cle (by rfl) rfl rfl (fun q2 => ?_) (fun q2 => ?_)
    ·
      refine hxa_iload_n (by rfl) rfl ?_
      exact hxa_ireturn (by rfl) rfl (hP _ _ ⟨rfl, _, rfl, by omega⟩)
    ·
      refine hxa_iload_n (by rfl) rfl ?_
      refine hxa_goto (by rfl) ?_
      exact hxa_ireturn (by rfl) rfl (hP _ _ ⟨rfl, _, rfl, by omega⟩)
  ·
    refine hxa_iload_n (by rfl) rfl ?_
    refine hxa_goto (by rfl) ?_
    exact hxa_ireturn (by rfl) rfl (hP _ _ ⟨rfl, _, rfl, by omega⟩)
theorem hX165 {d : Nat} {A : hs_A} (a1 : Int32) (a2 : Int32) (a3 : Int32) (x0 : a2.toInt ≤ a3.toInt) : hxC (d + 1) 165 hm_m165 [.int a1, .int a2, .int a3] A (fun r A' => A = A' ∧ ∃ z : Int32, r = some (.int z) ∧ (a2.toInt ≤ z.toInt ∧ z.toInt ≤ a3.toInt)) := hxC.of (by rfl) (hY165 a1 a2 a3 x0 (fun r A' h => h))
theorem hY166 {d : Nat} {A : hs_A} (a1 : Int32) {P : Option Value → hs_A → Prop} (hP : ∀ (r : Option Value) (A' : hs_A), (A = A' ∧ ∃ z : Int32, r = some (.int z)) → P r A') : hxa (d + 0) (some (.int)) hm_t166 0 [.int a1, .retAddr 0, .retAddr 0] [] A P := by
  have k0 := hk_0
  have L4 : ∀ (m4 : Nat) (x4_1 : Int32) (x4_2 : Int32) (bx4_2 : 0 ≤ x4_2.toInt) (cx4_2 : x4_2.toInt ≤ 10) (hm4 : 10 - x4_2.toInt < (m4 : Int)), hxa (d + 0) (some (.int)) hm_t166 4 [.int a1, .int x4_1, .int x4_2] [] A P := by
    intro m4
    induction m4 with
    | zero => intro x4_1 x4_2 bx4_2 cx4_2 hm4; have := hn_rng x4_1; exact False.elim (by omega)
    | succ m4 ih4 =>
      intro x4_1 x4_2 bx4_2 cx4_2 hm4
      refine hxa_iload_n (by rfl) rfl ?_
      refine hxa_bipush (by rfl) rfl ?_
      refine hxj_cge (by rfl) rfl hk_10 (fun q1 => ?_) (fun q1 => ?_)
      ·
        refine hxa_iload_n (by rfl) rfl ?_
        exact hxa_ireturn (by rfl) rfl (hP _ _ ⟨rfl, _, rfl⟩)
      ·
        refine hxa_iload_n (by rfl) rfl ?_
        refine hxa_iload_n (by rfl) rfl ?_
        refine hxa_iload_n (by rfl) rfl ?_
        refine hxj_ishrU (by rfl) (fun z2 => ?_)
        refine hxa_iconst (by rfl) rfl ?_
        refine hxj_iandR (by rfl) hk_1 (by omega) (fun z3 ez3 fz3 => ?_)
        refine hxj_iaddU (by rfl) (fun z4 => ?_)
        refine hxa_s1 (by rfl) (Or.inl ⟨_, rfl, rfl⟩) rfl ?_
        refine hxj_iinc (by rfl) rfl rfl hk_1 (by omega) (by omega) (fun _ => rfl) (fun z5 ez5 => ?_)
        refine hxa_goto (by rfl) ?_
        exact ih4 z4 z5 (by omega) (by omega) (by omega)
  refine hxa_iconst (by rfl) rfl ?_
  refine hxa_s1 (by rfl) (Or.inl ⟨_, rfl, rfl⟩) rfl ?_
  refine hxa_iconst (by rfl) rfl ?_
  refine hxa_s1 (by rfl) (Or.inl ⟨_, rfl, rfl⟩) rfl ?_
  exact L4 (Int.toNat (10 - 0) + 1) (Int32.ofNat 0) (Int32.ofNat 0) (by omega) (by omega) (by omega)
theorem hX166 {d : Nat} {A : hs_A} (a1 : Int32) : hxC (d + 1) 166 hm_m166 [.int a1] A (fun r A' => A = A' ∧ ∃ z : Int32, r = some (.int z)) := hxC.of (by rfl) (hY166 a1 (fun r A' h => h))
theorem hY167 {d : Nat} {Bn Br : Int} {A0 A : hs_A} (hA : hJ 0 Bn Br A0 A)  (a1 : Int32) {P : Option Value → hs_A → Prop} (hP : ∀ (r : Option Value) (A' : hs_A), (A = A' ∧ ∃ z : Int32, r = some (.int z) ∧ ((z.toInt = 1 ∧ 0 ≤ a1.toInt ∧ a1.toInt ≤ 9) ∨ (z.toInt = 0))) → P r A') : hxa (d + 1) (some (.boolean)) hm_t167 0 [.ref 368, .int a1] [] A P := by
  have k0 := hk_0
  refine hxa_iload_n (by rfl) rfl ?_
  refine hxa_iconst (by rfl) rfl ?_
  refine hxa_aload_n (by rfl) rfl ?_
  refine hxa_get (v := .ref 377) (by rfl) (by rfl) (by rfl) rfl ?_
  refine hxa_aload_n (by rfl) rfl ?_
  refine hxj_getB (by rfl) (by rfl) (by rfl) hA (by rfl) (fun z1 ez1 fz1 gz1 => ?_)
  refine hxj_ialdB (by rfl) (by rfl) rfl (by omega) (by omega) hA (by rfl) (fun z2 ez2 fz2 gz2 => ?_)
  refine hxa_iconst (by rfl) rfl ?_
  refine hxj_isub (by rfl) rfl hk_1 (by omega) (by omega) (fun z3 ez3 => ?_)
  refine hxa_call2 (by rfl) (by decide) (by rfl) (by rfl) (by rfl) (hX164 (d := d + 0)  a1 (Int32.ofNat 0) z3) ?_
  rintro _ _ ⟨rfl, z4, rfl, fz4⟩
  rcases fz4 with fz4 | fz4
  ·
    exact hxa_ireturn (by rfl) (hn_fitB (by omega) (by omega)) (hP _ _ ⟨rfl, _, rfl, by omega⟩)
  ·
    exact hxa_ireturn (by rfl) (hn_fitB (by omega) (by omega)) (hP _ _ ⟨rfl, _, rfl, by omega⟩)
theorem hX167 {d : Nat} {Bn Br : Int} {A0 A : hs_A} (hA : hJ 0 Bn Br A0 A)  (a1 : Int32) : hxC (d + 2) 167 hm_m167 [.ref 368, .int a1] A (fun r A' => A = A' ∧ ∃ z : Int32, r = some (.int z) ∧ ((z.toInt = 1 ∧ 0 ≤ a1.toInt ∧ a1.toInt ≤ 9) ∨ (z.toInt = 0))) := hxC.of (by rfl) (hY167 hA a1 (fun r A' h => h))
theorem hY168 {d : Nat} {A : hs_A} (a1 : Int32) {P : Option Value → hs_A → Prop} (hP : ∀ (r : Option Value) (A' : hs_A), (A = A' ∧ ∃ z : Int32, r = some (.int z) ∧ ((z.toInt = 1 ∧ 0 ≤ a1.toInt ∧ a1.toInt ≤ 255) ∨ (z.toInt = 0))) → P r A') : hxa (d + 1) (some (.boolean)) hm_t168 0 [.int a1] [] A P := by
  have k0 := hk_0
  have k255 := hk_255
  refine hxa_iload_n (by rfl) rfl ?_
  refine hxa_iconst (by rfl) rfl ?_
  refine hxa_sipush (by rfl) rfl ?_
  refine hxa_call2 (by rfl) (by decide) (by rfl) (by rfl) (by rfl) (hX164 (d := d + 0)  a1 (Int32.ofNat 0) (Int32.ofNat 255)) ?_
  rintro _ _ ⟨rfl, z1, rfl, fz1⟩
  rcases fz1 with fz1 | fz1
  ·
    exact hxa_ireturn (by rfl) (hn_fitB (by omega) (by omega)) (hP _ _ ⟨rfl, _, rfl, by omega⟩)
  ·
    exact hxa_ireturn (by rfl) (hn_fitB (by omega) (by omega)) (hP _ _ ⟨rfl, _, rfl, by omega⟩)
theorem hX168 {d : Nat} {A : hs_A} (a1 : Int32) : hxC (d + 2) 168 hm_m168 [.int a1] A (fun r A' => A = A' ∧ ∃ z : Int32, r = some (.int z) ∧ ((z.toInt = 1 ∧ 0 ≤ a1.toInt ∧ a1.toInt ≤ 255) ∨ (z.toInt = 0))) := hxC.of (by rfl) (hY168 a1 (fun r A' h => h))
theorem hY171 {d : Nat} {Bn Br : Int} {A0 A : hs_A} (hA : hJ 0 Bn Br A0 A)   {P : Option Value → hs_A → Prop} (hP : ∀ (r : Option Value) (A' : hs_A), (hJ 0 Bn Bn A0 A' ∧ r = none) → P r A') : hxa (d + 0) none hm_t171 0 [.ref 368, .retAddr 0] [] A P := by
  have k0 := hk_0
  have hB0 := hA.pos
  have H1 : hJ 0 Bn (Br + Bn) A0 A := hJ.mono hA (by omega) (by omega)
  have L2 : ∀ (m2 : Nat) (x2_1 : Int32) (Ac2 : hs_A) (hAc2 : hJ 0 Bn (Br + Bn) A0 Ac2) (bx2_1 : 0 ≤ x2_1.toInt) (cx2_1 : x2_1.toInt ≤ 73) (u2_0 : x2_1.toInt ≤ 70 ∨ (Ac2.2.1 396 70).toInt ≤ Bn) (hm2 : 73 - x2_1.toInt < (m2 : Int)), hxa (d + 0) none hm_t171 2 [.ref 368, .int x2_1] [] Ac2 P := by
    intro m2
    induction m2 with
    | zero => intro x2_1 Ac2 hAc2 bx2_1 cx2_1 u2_0 hm2;  exact False.elim (by omega)
    | succ m2 ih2 =>
      intro x2_1 Ac2 hAc2 bx2_1 cx2_1 u2_0 hm2
      refine hxa_iload_n (by rfl) rfl ?_
      refine hxa_bipush (by rfl) rfl ?_
      refine hxj_cge (by rfl) rfl hk_73 (fun q2 => ?_) (fun q2 => ?_)
      ·
        have H3 : hJ 0 Bn Bn A0 Ac2 := hJ.low hAc2 (by omega)
        refine hxa_aload_n (by rfl) rfl ?_
        refine hxa_aload_n (by rfl) rfl ?_
        refine hxa_get (v := .ref 383) (by rfl) (by rfl) (by rfl) rfl ?_
        refine hxa_aload_n (by rfl) rfl ?_
        refine hxj_getB (by rfl) (by rfl) (by rfl) H3 (by rfl) (fun z4 ez4 fz4 gz4 => ?_)
        refine hxj_iald (by rfl) (by rfl) rfl (by omega) (by omega) (fun z5 ez5 => ?_)
        refine hxj_putI (by rfl) (by rfl) (by rfl) (by rfl) H3 (hbokN (by rfl)) (by rfl) (by rfl) (fun A6 hA6 eA6 fA6 => ?_)
        refine hxa_aload_n (by rfl) rfl ?_
        refine hxa_iconst (by rfl) rfl ?_
        refine hxj_putI (by rfl) (by rfl) (by rfl) (by rfl) hA6 (hbokN (by rfl)) (by rfl) (by rfl) (fun A7 hA7 eA7 fA7 => ?_)
        exact hxa_return (by rfl) rfl (hP _ _ ⟨hA7, rfl⟩)
      ·
        refine hxa_aload_n (by rfl) rfl ?_
        refine hxa_get (v := .ref 397) (by rfl) (by rfl) (by rfl) rfl ?_
        refine hxa_iload_n (by rfl) rfl ?_
        refine hxa_aload_n (by rfl) rfl ?_
        refine hxa_get (v := .ref 396) (by rfl) (by rfl) (by rfl) rfl ?_
        refine hxa_iload_n (by rfl) rfl ?_
        refine hxj_iald395 (by rfl) rfl (by omega) (by omega) hAc2 (fun z8 ez8 fz8 => ?_)
        refine hxj_iast396 (by rfl) rfl (by omega) (by omega) rfl hAc2 (by omega) (fun A9 hA9 eA9 fA9 gA9 => ?_)
        refine hxj_iinc (by rfl) rfl rfl hk_1 (by omega) (by omega) (fun _ => rfl) (fun z10 ez10 => ?_)
        refine hxa_goto (by rfl) ?_
        exact ih2 z10 A9 hA9 (by omega) (by omega) (by first | (left; omega) | exact hcp (by assumption) (by omega) (by assumption) (by assumption) u2_0) (by omega)
  refine hxa_iconst (by rfl) rfl ?_
  refine hxa_s1 (by rfl) (Or.inl ⟨_, rfl, rfl⟩) rfl ?_
  exact L2 (Int.toNat (73 - 0) + 1) (Int32.ofNat 0) A H1 (by omega) (by omega) (by first | (left; omega) | exact hcp (by assumption) (by omega) (by assumption) (by assumption) u2_0) (by omega)
theorem hX171 {d : Nat} {Bn Br : Int} {A0 A : hs_A} (hA : hJ 0 Bn Br A0 A)   : hxC (d + 1) 171 hm_m171 [.ref 368] A (fun r A' => hJ 0 Bn Bn A0 A' ∧ r = none) := hxC.of (by rfl) (hY171 hA  (fun r A' h => h))
theorem hY172 {d : Nat} {Bn Br : Int} {A0 A : hs_A} (hA : hJ 0 Bn Br A0 A)   {P : Option Value → hs_A → Prop} (hP : ∀ (r : Option Value) (A' : hs_A), (hJ 0 Bn Bn A0 A' ∧ r = none) → P r A') : hxa (d + 1) none hm_t172 0 [.ref 368] [] A P := by
  refine hxa_aload_n (by rfl) rfl ?_
  refine hxa_call0 (by rfl) (by rfl) (by rfl) (by rfl) (by rfl) (by rfl) (hX171 (d := d + 0) hA ) ?_
  rintro _ A1 ⟨hA1, rfl⟩
  refine hxa_aload_n (by rfl) rfl ?_
  refine hxa_iconst (by rfl) rfl ?_
  refine hxj_putI (by rfl) (by rfl) (by rfl) (by rfl) hA1 (hbokN (by rfl)) (by rfl) (by rfl) (fun A2 hA2 eA2 fA2 => ?_)
  exact hxa_return (by rfl) rfl (hP _ _ ⟨hA2, rfl⟩)
theorem hX172 {d : Nat} {Bn Br : Int} {A0 A : hs_A} (hA : hJ 0 Bn Br A0 A)   : hxC (d + 2) 172 hm_m172 [.ref 368] A (fun r A' => hJ 0 Bn Bn A0 A' ∧ r = none) := hxC.of (by rfl) (hY172 hA  (fun r A' h => h))
theorem hY173 {d : Nat} {A : hs_A} (a1 : Int32) (a2 : Int32) {P : Option Value → hs_A → Prop} (hP : ∀ (r : Option Value) (A' : hs_A), (A = A' ∧ ∃ z : Int32, r = some (.int z)) → P r A') : hxa (d + 0) (some (.int)) hm_t173 0 [.int a1, .int a2, .retAddr 0] [] A P := by
  refine hxa_iload_n (by rfl) rfl ?_
  refine hxa_iload_n (by rfl) rfl ?_
  refine hxj_ixorU (by rfl) (fun z1 => ?_)
  refine hxa_ldc_w (by rfl) rfl ?_
  refine hxj_imulU (by rfl) (fun z2 => ?_)
  refine hxa_sipush (by rfl) rfl ?_
  refine hxj_iaddU (by rfl) (fun z3 => ?_)
  refine hxa_s1 (by rfl) (Or.inl ⟨_, rfl, rfl⟩) rfl ?_
  refine hxa_iload_n (by rfl) rfl ?_
  refine hxa_iload_n (by rfl) rfl ?_
  refine hxa_bipush (by rfl) rfl ?_
  refine hxj_iushrU (by rfl) (fun z4 => ?_)
  refine hxj_ixorU (by rfl) (fun z5 => ?_)
  exact hxa_ireturn (by rfl) rfl (hP _ _ ⟨rfl, _, rfl⟩)
theorem hX173 {d : Nat} {A : hs_A} (a1 : Int32) (a2 : Int32) : hxC (d + 1) 173 hm_m173 [.int a1, .int a2] A (fun r A' => A = A' ∧ ∃ z : Int32, r = some (.int z)) := hxC.of (by rfl) (hY173 a1 a2 (fun r A' h => h))
theorem hY174 {d : Nat} {Bn Br : Int} {A0 A : hs_A} (hA : hJ 0 Bn Br A0 A)  (a1 : Int32) {P : Option Value → hs_A → Prop} (hP : ∀ (r : Option Value) (A' : hs_A), (A = A' ∧ ∃ z : Int32, r = some (.int z)) → P r A') : hxa (d + 1) (some (.int)) hm_t174 0 [.ref 368, .int a1] [] A P := by
  have k137 := hk_137
  refine hxa_aload_n (by rfl) rfl ?_
  refine hxj_getI (by rfl) (by rfl) (by rfl) (fun z1 ez1 => ?_)
  refine hxa_sipush (by rfl) rfl ?_
  refine hxa_call2 (by rfl) (by decide) (by rfl) (by rfl) (by rfl) (hX173 (d := d + 0)  z1 (Int32.ofNat 137)) ?_
  rintro _ _ ⟨rfl, z2, rfl⟩
  refine hxa_iload_n (by rfl) rfl ?_
  refine hxa_call2 (by rfl) (by decide) (by rfl) (by rfl) (by rfl) (hX173 (d := d + 0)  z2 a1) ?_
  rintro _ _ ⟨rfl, z3, rfl⟩
  refine hxa_iconst (by rfl) rfl ?_
  refine hxj_iushrU (by rfl) (fun z4 => ?_)
  refine hxa_bipush (by rfl) rfl ?_
  refine hxj_iremU (by rfl) hk_100 (by omega) (fun z5 => ?_)
  exact hxa_ireturn (by rfl) rfl (hP _ _ ⟨rfl, _, rfl⟩)
theorem hX174 {d : Nat} {Bn Br : Int} {A0 A : hs_A} (hA : hJ 0 Bn Br A0 A)  (a1 : Int32) : hxC (d + 2) 174 hm_m174 [.ref 368, .int a1] A (fun r A' => A = A' ∧ ∃ z : Int32, r = some (.int z)) := hxC.of (by rfl) (hY174 hA a1 (fun r A' h => h))
theorem hY175 {d : Nat} {Bn Br : Int} {A0 A : hs_A} (hA : hJ 0 Bn Br A0 A)  (a1 : Int32) (p1 : 0 ≤ a1.toInt) (q1 : a1.toInt ≤ 9) (a2 : Int32) (a3 : Int32) (a4 : Int32) {P : Option Value → hs_A → Prop} (hP : ∀ (r : Option Value) (A' : hs_A), (hJ 0 Bn Br A0 A' ∧ r = none) → P r A') : hxa (d + 1) none hm_t175 0 [.ref 368, .int a1, .int a2, .int a3, .int a4] [] A P := by
  refine hxa_aload_n (by rfl) rfl ?_
  refine hxa_get (v := .ref 394) (by rfl) (by rfl) (by rfl) rfl ?_
  refine hxa_iconst (by rfl) rfl ?_
  refine hxa_iload_n (by rfl) rfl ?_
  refine hxj_iast (by rfl) (by rfl) hk_0 (by omega) (by omega) hA (hbokN (by rfl)) (by rfl) (by rfl) (fun A1 hA1 eA1 fA1 gA1 => ?_)
  refine hxa_aload_n (by rfl) rfl ?_
  refine hxa_get (v := .ref 394) (by rfl) (by rfl) (by rfl) rfl ?_
  refine hxa_iconst (by rfl) rfl ?_
  refine hxa_iload (by rfl) rfl ?_
  refine hxa_bipush (by rfl) rfl ?_
  refine hxj_iremU (by rfl) hk_24 (by omega) (fun z2 => ?_)
  refine hxj_iast (by rfl) (by rfl) hk_1 (by omega) (by omega) hA1 (hbokN (by rfl)) (by rfl) (by rfl) (fun A3 hA3 eA3 fA3 gA3 => ?_)
  refine hxa_aload_n (by rfl) rfl ?_
  refine hxa_get (v := .ref 394) (by rfl) (by rfl) (by rfl) rfl ?_
  refine hxa_iconst (by rfl) rfl ?_
  refine hxa_iload (by rfl) rfl ?_
  refine hxa_bipush (by rfl) rfl ?_
  refine hxj_idivU (by rfl) hk_24 (by omega) (fun z4 => ?_)
  refine hxj_iast (by rfl) (by rfl) hk_2 (by omega) (by omega) hA3 (hbokN (by rfl)) (by rfl) (by rfl) (fun A5 hA5 eA5 fA5 gA5 => ?_)
  refine hxa_aload_n (by rfl) rfl ?_
  refine hxa_get (v := .ref 394) (by rfl) (by rfl) (by rfl) rfl ?_
  refine hxa_iconst (by rfl) rfl ?_
  refine hxa_iload_n (by rfl) rfl ?_
  refine hxj_iast (by rfl) (by rfl) hk_3 (by omega) (by omega) hA5 (hbokN (by rfl)) (by rfl) (by rfl) (fun A6 hA6 eA6 fA6 gA6 => ?_)
  refine hxa_aload_n (by rfl) rfl ?_
  refine hxa_get (v := .ref 394) (by rfl) (by rfl) (by rfl) rfl ?_
  refine hxa_iconst (by rfl) rfl ?_
  refine hxa_aload_n (by rfl) rfl ?_
  refine hxa_get (v := .ref 397) (by rfl) (by rfl) (by rfl) rfl ?_
  refine hxa_iload_n (by rfl) rfl ?_
  refine hxj_iald396 (by rfl) rfl (by omega) (by omega) hA6 (fun z7 ez7 fz7 => ?_)
  refine hxa_call2 (by rfl) (by decide) (by rfl) (by rfl) (by rfl) (hX166 (d := d + 0)  z7) ?_
  rintro _ _ ⟨rfl, z8, rfl⟩
  refine hxj_iast (by rfl) (by rfl) hk_4 (by omega) (by omega) hA6 (hbokN (by rfl)) (by rfl) (by rfl) (fun A9 hA9 eA9 fA9 gA9 => ?_)
  refine hxa_aload_n (by rfl) rfl ?_
  refine hxa_get (v := .ref 394) (by rfl) (by rfl) (by rfl) rfl ?_
  refine hxa_iconst (by rfl) rfl ?_
  refine hxa_aload_n (by rfl) rfl ?_
  refine hxa_get (v := .ref 397) (by rfl) (by rfl) (by rfl) rfl ?_
  refine hxa_bipush (by rfl) rfl ?_
  refine hxa_iload_n (by rfl) rfl ?_
  refine hxj_iadd (by rfl) hk_10 rfl (by omega) (by omega) (fun z10 ez10 => ?_)
  refine hxj_iald396 (by rfl) rfl (by omega) (by omega) hA9 (fun z11 ez11 fz11 => ?_)
  refine hxj_iast (by rfl) (by rfl) hk_5 (by omega) (by omega) hA9 (hbokN (by rfl)) (by rfl) (by rfl) (fun A12 hA12 eA12 fA12 gA12 => ?_)
  refine hxa_aload_n (by rfl) rfl ?_
  refine hxa_get (v := .ref 394) (by rfl) (by rfl) (by rfl) rfl ?_
  refine hxa_bipush (by rfl) rfl ?_
  refine hxa_iload_n (by rfl) rfl ?_
  refine hxj_iast (by rfl) (by rfl) hk_6 (by omega) (by omega) hA12 (hbokN (by rfl)) (by rfl) (by rfl) (fun A13 hA13 eA13 fA13 gA13 => ?_)
  refine hxa_aload_n (by rfl) rfl ?_
  refine hxa_get (v := .ref 394) (by rfl) (by rfl) (by rfl) rfl ?_
  refine hxa_bipush (by rfl) rfl ?_
  refine hxa_aload_n (by rfl) rfl ?_
  refine hxa_get (v := .ref 377) (by rfl) (by rfl) (by rfl) rfl ?_
  refine hxa_aload_n (by rfl) rfl ?_
  refine hxj_getB (by rfl) (by rfl) (by rfl) hA13 (by rfl) (fun z14 ez14 fz14 gz14 => ?_)
  refine hxj_ialdB (by rfl) (by rfl) rfl (by omega) (by omega) hA13 (by rfl) (fun z15 ez15 fz15 gz15 => ?_)
  refine hxj_iast (by rfl) (by rfl) hk_7 (by omega) (by omega) hA13 (hbokN (by rfl)) (by rfl) (by rfl) (fun A16 hA16 eA16 fA16 gA16 => ?_)
  refine hxa_aload_n (by rfl) rfl ?_
  refine hxa_get (v := .ref 394) (by rfl) (by rfl) (by rfl) rfl ?_
  refine hxa_bipush (by rfl) rfl ?_
  refine hxa_aload_n (by rfl) rfl ?_
  refine hxa_get (v := .ref 397) (by rfl) (by rfl) (by rfl) rfl ?_
  refine hxa_bipush (by rfl) rfl ?_
  refine hxa_iload_n (by rfl) rfl ?_
  refine hxj_iadd (by rfl) hk_40 rfl (by omega) (by omega) (fun z17 ez17 => ?_)
  refine hxj_iald396 (by rfl) rfl (by omega) (by omega) hA16 (fun z18 ez18 fz18 => ?_)
  refine hxa_call2 (by rfl) (by decide) (by rfl) (by rfl) (by rfl) (hX166 (d := d + 0)  z18) ?_
  rintro _ _ ⟨rfl, z19, rfl⟩
  refine hxj_iast (by rfl) (by rfl) hk_8 (by omega) (by omega) hA16 (hbokN (by rfl)) (by rfl) (by rfl) (fun A20 hA20 eA20 fA20 gA20 => ?_)
  exact hxa_return (by rfl) rfl (hP _ _ ⟨hA20, rfl⟩)
theorem hX175 {d : Nat} {Bn Br : Int} {A0 A : hs_A} (hA : hJ 0 Bn Br A0 A)  (a1 : Int32) (p1 : 0 ≤ a1.toInt) (q1 : a1.toInt ≤ 9) (a2 : Int32) (a3 : Int32) (a4 : Int32) : hxC (d + 2) 175 hm_m175 [.ref 368, .int a1, .int a2, .int a3, .int a4] A (fun r A' => hJ 0 Bn Br A0 A' ∧ r = none) := hxC.of (by rfl) (hY175 hA a1 p1 q1 a2 a3 a4 (fun r A' h => h))
theorem hY176 {d : Nat} {Bn Br : Int} {A0 A : hs_A} (hA : hJ 0 Bn Br A0 A)  (a1 : Int32) (p1 : 0 ≤ a1.toInt) (q1 : a1.toInt ≤ 3) (a2 : Int32) {P : Option Value → hs_A → Prop} (hP : ∀ (r : Option Value) (A' : hs_A), (hJ 0 Bn Br A0 A' ∧ ∃ z : Int32, r = some (.int z)) → P r A') : hxa (d + 1) (some (.int)) hm_t176 0 [.ref 368, .int a1, .int a2, .retAddr 0, .retAddr 0, .retAddr 0, .retAddr 0] [] A P := by
  have k0 := hk_0
  have L39 : ∀ (m39 : Nat) (x39_3 : Int32) (x39_4 : Int32) (x39_5 : Value) (x39_6 : Value) (Ac39 : hs_A) (hx39_5 : hc_two (some x39_5) = false) (hAc39 : hJ 0 Bn Br A0 Ac39) (bx39_3 : 0 ≤ x39_3.toInt) (cx39_3 : x39_3.toInt ≤ 7) (u39_0 : x39_3.toInt = 4 * (A0.1 367 18).toInt + a1.toInt) (u39_1 : (A0.2.1 383 x39_3.toNatClampNeg).toInt ≤ x39_4.toInt) (hm39 : 2147483647 - x39_4.toInt < (m39 : Int)), hxa (d + 1) (some (.int)) hm_t176 39 [.ref 368, .int a1, .int a2, .int x39_3, .int x39_4, x39_5, x39_6] [] Ac39 P := by
    intro m39
    induction m39 with
    | zero => intro x39_3 x39_4 x39_5 x39_6 Ac39 hx39_5 hAc39 bx39_3 cx39_3 u39_0 u39_1 hm39; have := hn_rng x39_4; exact False.elim (by omega)
    | succ m39 ih39 =>
      intro x39_3 x39_4 x39_5 x39_6 Ac39 hx39_5 hAc39 bx39_3 cx39_3 u39_0 u39_1 hm39
      refine hxa_iload (by rfl) rfl ?_
      refine hxa_aload_n (by rfl) rfl ?_
      refine hxa_get (v := .ref 385) (by rfl) (by rfl) (by rfl) rfl ?_
      refine hxa_iload_n (by rfl) rfl ?_
      refine hxj_iald (by rfl) (by rfl) rfl (by omega) (by omega) (fun z1 ez1 => ?_)
      have rgx39_4 := hn_rng x39_4
      have rgz1 := hn_rng z1
      refine hxj_cge (by rfl) rfl rfl (fun q2 => ?_) (fun q2 => ?_)
      ·
        refine hxa_iconst (by rfl) rfl ?_
        exact hxa_ireturn (by rfl) rfl (hP _ _ ⟨hAc39, _, rfl⟩)
      ·
        obtain ⟨⟨F0, F1⟩, F2, F3⟩ := hZc hAc39 (by omega) u39_0 (by omega) (by omega) ez1 u39_1 (by omega)
        refine hxa_aload_n (by rfl) rfl ?_
        refine hxa_get (v := .ref 386) (by rfl) (by rfl) (by rfl) rfl ?_
        refine hxa_iload (by rfl) rfl ?_
        refine hxj_zald (by rfl) (by rfl) rfl (by omega) (by omega) (fun z3 ez3 => ?_)
        have v56 := hfr hAc39 (by rfl) ez3
        refine hxj_zeq (by rfl) rfl (fun q4 => ?_) (fun q4 => ?_)
        ·
          refine hxa_aload_n (by rfl) rfl ?_
          refine hxa_aload_n (by rfl) rfl ?_
          refine hxa_get (v := .ref 389) (by rfl) (by rfl) (by rfl) rfl ?_
          refine hxa_iload (by rfl) rfl ?_
          refine hxj_iald (by rfl) (by rfl) rfl (by omega) (by omega) (fun z5 ez5 => ?_)
          refine hxa_aload_n (by rfl) rfl ?_
          refine hxa_get (v := .ref 390) (by rfl) (by rfl) (by rfl) rfl ?_
          refine hxa_iload (by rfl) rfl ?_
          refine hxj_iald (by rfl) (by rfl) rfl (by omega) (by omega) (fun z6 ez6 => ?_)
          have w134 : hWt (A0.1 367 18).toInt A0 z5 z6 := by
            rw [← hfr hAc39 (by rfl) ez5, ← hfr hAc39 (by rfl) ez6]
            exact F3
          refine hxa_call0 (by rfl) (by rfl) (by rfl) (by rfl) (by rfl) (by rfl) (hX163 (d := d + 0) hAc39 z5 z6 (by assumption)) ?_
          rintro _ A7 ⟨hA7, z8, rfl⟩
          refine hxa_s1 (by rfl) (Or.inr ⟨_, rfl, rfl⟩) rfl ?_
          refine hxa_aload_n (by rfl) rfl ?_
          refine hxj_getI (by rfl) (by rfl) (by rfl) (fun z9 ez9 => ?_)
          refine hxj_zeq (by rfl) rfl (fun q10 => ?_) (fun q10 => ?_)
          ·
            refine hxa_iload (by rfl) rfl ?_
            exact hxa_ireturn (by rfl) rfl (hP _ _ ⟨hA7, _, rfl⟩)
          ·
            refine hxa_iconst (by rfl) rfl ?_
            refine hxa_goto (by rfl) ?_
            exact hxa_ireturn (by rfl) rfl (hP _ _ ⟨hA7, _, rfl⟩)
        ·
          refine hxa_aload_n (by rfl) rfl ?_
          refine hxa_aload_n (by rfl) rfl ?_
          refine hxa_get (v := .ref 387) (by rfl) (by rfl) (by rfl) rfl ?_
          refine hxa_iload (by rfl) rfl ?_
          refine hxj_iald (by rfl) (by rfl) rfl (by omega) (by omega) (fun z11 ez11 => ?_)
          refine hxa_aload_n (by rfl) rfl ?_
          refine hxa_get (v := .ref 388) (by rfl) (by rfl) (by rfl) rfl ?_
          refine hxa_iload (by rfl) rfl ?_
          refine hxj_iald (by rfl) (by rfl) rfl (by omega) (by omega) (fun z12 ez12 => ?_)
          have w75 : hWt (A0.1 367 18).toInt A0 z11 z12 := by
            rw [← hfr hAc39 (by rfl) ez11, ← hfr hAc39 (by rfl) ez12]
            exact (F2 (by rw [v56]; omega)).1
          refine hxa_call0 (by rfl) (by rfl) (by rfl) (by rfl) (by rfl) (by rfl) (hX163 (d := d + 0) hAc39 z11 z12 (by assumption)) ?_
          rintro _ A13 ⟨hA13, z14, rfl⟩
          refine hxa_s1 (by rfl) (Or.inr ⟨_, rfl, rfl⟩) rfl ?_
          refine hxa_aload_n (by rfl) rfl ?_
          refine hxa_aload_n (by rfl) rfl ?_
          refine hxa_get (v := .ref 388) (by rfl) (by rfl) (by rfl) rfl ?_
          refine hxa_iload (by rfl) rfl ?_
          refine hxj_iald (by rfl) (by rfl) rfl (by omega) (by omega) (fun z15 ez15 => ?_)
          refine hxa_aload_n (by rfl) rfl ?_
          refine hxa_get (v := .ref 389) (by rfl) (by rfl) (by rfl) rfl ?_
          refine hxa_iload (by rfl) rfl ?_
          refine hxj_iald (by rfl) (by rfl) rfl (by omega) (by omega) (fun z16 ez16 => ?_)
          have w95 : hWt (A0.1 367 18).toInt A0 z15 z16 := by
            rw [← hfr hA13 (by rfl) ez15, ← hfr hA13 (by rfl) ez16]
            exact (F2 (by rw [v56]; omega)).2
          refine hxa_call0 (by rfl) (by rfl) (by rfl) (by rfl) (by rfl) (by rfl) (hX163 (d := d + 0) hA13 z15 z16 (by assumption)) ?_
          rintro _ A17 ⟨hA17, z18, rfl⟩
          refine hxa_s1 (by rfl) (Or.inr ⟨_, rfl, rfl⟩) rfl ?_
          refine hxa_aload_n (by rfl) rfl ?_
          refine hxj_getI (by rfl) (by rfl) (by rfl) (fun z19 ez19 => ?_)
          refine hxj_zeq (by rfl) rfl (fun q20 => ?_) (fun q20 => ?_)
          ·
            refine hxa_iload (by rfl) rfl ?_
            refine hxa_iload (by rfl) rfl ?_
            have rgz14 := hn_rng z14
            have rgz18 := hn_rng z18
            refine hxj_clt (by rfl) rfl rfl (fun q21 => ?_) (fun q21 => ?_)
            ·
              refine hxa_aload_n (by rfl) rfl ?_
              refine hxa_aload_n (by rfl) rfl ?_
              refine hxa_get (v := .ref 389) (by rfl) (by rfl) (by rfl) rfl ?_
              refine hxa_iload (by rfl) rfl ?_
              refine hxj_iald (by rfl) (by rfl) rfl (by omega) (by omega) (fun z22 ez22 => ?_)
              refine hxa_aload_n (by rfl) rfl ?_
              refine hxa_get (v := .ref 390) (by rfl) (by rfl) (by rfl) rfl ?_
              refine hxa_iload (by rfl) rfl ?_
              refine hxj_iald (by rfl) (by rfl) rfl (by omega) (by omega) (fun z23 ez23 => ?_)
              have w134 : hWt (A0.1 367 18).toInt A0 z22 z23 := by
                rw [← hfr hA17 (by rfl) ez22, ← hfr hA17 (by rfl) ez23]
                exact F3
              refine hxa_call0 (by rfl) (by rfl) (by rfl) (by rfl) (by rfl) (by rfl) (hX163 (d := d + 0) hA17 z22 z23 (by assumption)) ?_
              rintro _ A24 ⟨hA24, z25, rfl⟩
              refine hxa_s1 (by rfl) (Or.inr ⟨_, rfl, rfl⟩) rfl ?_
              refine hxa_aload_n (by rfl) rfl ?_
              refine hxj_getI (by rfl) (by rfl) (by rfl) (fun z26 ez26 => ?_)
              refine hxj_zeq (by rfl) rfl (fun q27 => ?_) (fun q27 => ?_)
              ·
                refine hxa_iload (by rfl) rfl ?_
                exact hxa_ireturn (by rfl) rfl (hP _ _ ⟨hA24, _, rfl⟩)
              ·
                refine hxa_iconst (by rfl) rfl ?_
                refine hxa_goto (by rfl) ?_
                exact hxa_ireturn (by rfl) rfl (hP _ _ ⟨hA24, _, rfl⟩)
            ·
              refine hxa_goto (by rfl) ?_
              refine hxj_iinc (by rfl) rfl rfl hk_1 (by omega) (by omega) (fun _ => rfl) (fun z28 ez28 => ?_)
              refine hxa_goto (by rfl) ?_
              exact ih39 x39_3 z28 (.int z14) (.int z18) A17 rfl hA17 (by omega) (by omega) (by omega) (by first | omega | (rw [v36]; omega)) (by omega)
          ·
            refine hxa_iconst (by rfl) rfl ?_
            exact hxa_ireturn (by rfl) rfl (hP _ _ ⟨hA17, _, rfl⟩)
  refine hxa_iconst (by rfl) rfl ?_
  refine hxa_aload_n (by rfl) rfl ?_
  refine hxj_getB (by rfl) (by rfl) (by rfl) hA (by rfl) (fun z29 ez29 fz29 gz29 => ?_)
  have v2 : (A0.1 367 18).toInt = z29.toInt := by rw [hfrf hA rfl ez29]
  refine hxj_imul (by rfl) hk_4 rfl (by omega) (by omega) (fun z30 ez30 => ?_)
  refine hxa_iload_n (by rfl) rfl ?_
  refine hxj_iadd (by rfl) rfl rfl (by omega) (by omega) (fun z31 ez31 => ?_)
  refine hxa_s1 (by rfl) (Or.inl ⟨_, rfl, rfl⟩) rfl ?_
  refine hxa_aload_n (by rfl) rfl ?_
  refine hxa_get (v := .ref 384) (by rfl) (by rfl) (by rfl) rfl ?_
  refine hxa_iload_n (by rfl) rfl ?_
  refine hxj_iald (by rfl) (by rfl) rfl (by omega) (by omega) (fun z32 ez32 => ?_)
  refine hxa_aload_n (by rfl) rfl ?_
  refine hxa_get (v := .ref 385) (by rfl) (by rfl) (by rfl) rfl ?_
  refine hxa_iload_n (by rfl) rfl ?_
  refine hxj_iald (by rfl) (by rfl) rfl (by omega) (by omega) (fun z33 ez33 => ?_)
  refine hxj_cne (by rfl) rfl rfl (fun q34 => ?_) (fun q34 => ?_)
  ·
    refine hxa_aload_n (by rfl) rfl ?_
    refine hxa_iconst (by rfl) rfl ?_
    refine hxj_putI (by rfl) (by rfl) (by rfl) (by rfl) hA (hbokN (by rfl)) (by rfl) (by rfl) (fun A35 hA35 eA35 fA35 => ?_)
    refine hxa_aload_n (by rfl) rfl ?_
    refine hxa_get (v := .ref 384) (by rfl) (by rfl) (by rfl) rfl ?_
    refine hxa_iload_n (by rfl) rfl ?_
    refine hxj_iald (by rfl) (by rfl) rfl (by omega) (by omega) (fun z36 ez36 => ?_)
    have v36 := hfr hA35 (by rfl) ez36
    refine hxa_s1 (by rfl) (Or.inr ⟨_, rfl, rfl⟩) rfl ?_
    exact L39 (Int.toNat (2147483647 - z36.toInt) + 1) z31 z36 (.retAddr 0) (.retAddr 0) A35 rfl hA35 (by omega) (by omega) (by omega) (by first | omega | (rw [v36]; omega)) (by omega)
  ·
    refine hxa_iload_n (by rfl) rfl ?_
    exact hxa_ireturn (by rfl) rfl (hP _ _ ⟨hA, _, rfl⟩)
theorem hX176 {d : Nat} {Bn Br : Int} {A0 A : hs_A} (hA : hJ 0 Bn Br A0 A)  (a1 : Int32) (p1 : 0 ≤ a1.toInt) (q1 : a1.toInt ≤ 3) (a2 : Int32) : hxC (d + 2) 176 hm_m176 [.ref 368, .int a1, .int a2] A (fun r A' => hJ 0 Bn Br A0 A' ∧ ∃ z : Int32, r = some (.int z)) := hxC.of (by rfl) (hY176 hA a1 p1 q1 a2 (fun r A' h => h))
theorem hY177 {d : Nat} {Bn Br : Int} {A0 A : hs_A} (hA : hJ 0 Bn Br A0 A)  (a1 : Int32) (p1 : 0 ≤ a1.toInt) (q1 : a1.toInt ≤ 9) (a2 : Int32) (a3 : Int32) (a4 : Int32) {P : Option Value → hs_A → Prop} (hP : ∀ (r : Option Value) (A' : hs_A), (hJ 0 Bn Br A0 A' ∧ ∃ z : Int32, r = some (.int z) ∧ ((0 ≤ z.toInt ∧ z.toInt ≤ 1))) → P r A') : hxa (d + 2) (some (.boolean)) hm_t177 0 [.ref 368, .int a1, .int a2, .int a3, .int a4] [] A P := by
  have k0 := hk_0
  have k1 := hk_1
  refine hxa_aload_n (by rfl) rfl ?_
  refine hxa_iload_n (by rfl) rfl ?_
  refine hxa_iload_n (by rfl) rfl ?_
  refine hxa_iload_n (by rfl) rfl ?_
  refine hxa_iload (by rfl) rfl ?_
  refine hxa_call0 (by rfl) (by rfl) (by rfl) (by rfl) (by rfl) (by rfl) (hX175 (d := d + 0) hA a1 (by omega) (by omega) a2 a3 a4) ?_
  rintro _ A1 ⟨hA1, rfl⟩
  refine hxa_aload_n (by rfl) rfl ?_
  refine hxa_iconst (by rfl) rfl ?_
  refine hxa_iconst (by rfl) rfl ?_
  refine hxa_call0 (by rfl) (by rfl) (by rfl) (by rfl) (by rfl) (by rfl) (hX176 (d := d + 0) hA1 (Int32.ofNat 0) (by omega) (by omega) (Int32.ofNat 1)) ?_
  rintro _ A2 ⟨hA2, z3, rfl⟩
  refine hxj_zle (by rfl) rfl (fun q4 => ?_) (fun q4 => ?_)
  ·
    refine hxa_iconst (by rfl) rfl ?_
    exact hxa_ireturn (by rfl) (by rfl) (hP _ _ ⟨hA2, _, rfl, by omega⟩)
  ·
    refine hxa_iconst (by rfl) rfl ?_
    refine hxa_goto (by rfl) ?_
    exact hxa_ireturn (by rfl) (by rfl) (hP _ _ ⟨hA2, _, rfl, by omega⟩)
theorem hX177 {d : Nat} {Bn Br : Int} {A0 A : hs_A} (hA : hJ 0 Bn Br A0 A)  (a1 : Int32) (p1 : 0 ≤ a1.toInt) (q1 : a1.toInt ≤ 9) (a2 : Int32) (a3 : Int32) (a4 : Int32) : hxC (d + 3) 177 hm_m177 [.ref 368, .int a1, .int a2, .int a3, .int a4] A (fun r A' => hJ 0 Bn Br A0 A' ∧ ∃ z : Int32, r = some (.int z) ∧ ((0 ≤ z.toInt ∧ z.toInt ≤ 1))) := hxC.of (by rfl) (hY177 hA a1 p1 q1 a2 a3 a4 (fun r A' h => h))
theorem hY178 {d : Nat} {Bn Br : Int} {A0 A : hs_A} (hA : hJ 0 Bn Br A0 A)  (a1 : Int32) (p1 : 0 ≤ a1.toInt) (q1 : a1.toInt ≤ 9) (a2 : Int32) (a3 : Int32) {P : Option Value → hs_A → Prop} (hP : ∀ (r : Option Value) (A' : hs_A), (hJ 0 Bn Br A0 A' ∧ ∃ z : Int32, r = some (.int z) ∧ ((0 ≤ z.toInt ∧ z.toInt ≤ 7))) → P r A') : hxa (d + 2) (some (.int)) hm_t178 0 [.ref 368, .int a1, .int a2, .int a3] [] A P := by
  have k0 := hk_0
  have k1 := hk_1
  have k7 := hk_7
  refine hxa_aload_n (by rfl) rfl ?_
  refine hxa_iload_n (by rfl) rfl ?_
  refine hxa_iload_n (by rfl) rfl ?_
  refine hxa_iconst (by rfl) rfl ?_
  refine hxa_iload_n (by rfl) rfl ?_
  refine hxa_call0 (by rfl) (by rfl) (by rfl) (by rfl) (by rfl) (by rfl) (hX175 (d := d + 0) hA a1 (by omega) (by omega) a2 (Int32.ofNat 0) a3) ?_
  rintro _ A1 ⟨hA1, rfl⟩
  refine hxa_aload_n (by rfl) rfl ?_
  refine hxa_iconst (by rfl) rfl ?_
  refine hxa_iconst (by rfl) rfl ?_
  refine hxa_call0 (by rfl) (by rfl) (by rfl) (by rfl) (by rfl) (by rfl) (hX176 (d := d + 0) hA1 (Int32.ofNat 1) (by omega) (by omega) (Int32.ofNat 0)) ?_
  rintro _ A2 ⟨hA2, z3, rfl⟩
  refine hxa_iconst (by rfl) rfl ?_
  refine hxa_bipush (by rfl) rfl ?_
  refine hxa_call2 (by rfl) (by decide) (by rfl) (by rfl) (by rfl) (hX165 (d := d + 1)  z3 (Int32.ofNat 0) (Int32.ofNat 7) (by omega)) ?_
  rintro _ _ ⟨rfl, z4, rfl, fz4⟩
  exact hxa_ireturn (by rfl) rfl (hP _ _ ⟨hA2, _, rfl, by omega⟩)
theorem hX178 {d : Nat} {Bn Br : Int} {A0 A : hs_A} (hA : hJ 0 Bn Br A0 A)  (a1 : Int32) (p1 : 0 ≤ a1.toInt) (q1 : a1.toInt ≤ 9) (a2 : Int32) (a3 : Int32) : hxC (d + 3) 178 hm_m178 [.ref 368, .int a1, .int a2, .int a3] A (fun r A' => hJ 0 Bn Br A0 A' ∧ ∃ z : Int32, r = some (.int z) ∧ ((0 ≤ z.toInt ∧ z.toInt ≤ 7))) := hxC.of (by rfl) (hY178 hA a1 p1 q1 a2 a3 (fun r A' h => h))
theorem hY179 {d : Nat} {Bn Br : Int} {A0 A : hs_A} (hA : hJ 0 Bn Br A0 A)  (a1 : Int32) (p1 : 0 ≤ a1.toInt) (q1 : a1.toInt ≤ 9) (a2 : Int32) {P : Option Value → hs_A → Prop} (hP : ∀ (r : Option Value) (A' : hs_A), (hJ 0 Bn Br A0 A' ∧ ∃ z : Int32, r = some (.int z) ∧ ((0 ≤ z.toInt ∧ z.toInt ≤ 255))) → P r A') : hxa (d + 2) (some (.int)) hm_t179 0 [.ref 368, .int a1, .int a2] [] A P := by
  have k0 := hk_0
  have k2 := hk_2
  have k255 := hk_255
  refine hxa_aload_n (by rfl) rfl ?_
  refine hxa_iload_n (by rfl) rfl ?_
  refine hxa_iconst (by rfl) rfl ?_
  refine hxa_iconst (by rfl) rfl ?_
  refine hxa_iload_n (by rfl) rfl ?_
  refine hxa_call0 (by rfl) (by rfl) (by rfl) (by rfl) (by rfl) (by rfl) (hX175 (d := d + 0) hA a1 (by omega) (by omega) (Int32.ofNat 0) (Int32.ofNat 0) a2) ?_
  rintro _ A1 ⟨hA1, rfl⟩
  refine hxa_aload_n (by rfl) rfl ?_
  refine hxa_iconst (by rfl) rfl ?_
  refine hxa_iconst (by rfl) rfl ?_
  refine hxa_call0 (by rfl) (by rfl) (by rfl) (by rfl) (by rfl) (by rfl) (hX176 (d := d + 0) hA1 (Int32.ofNat 2) (by omega) (by omega) (Int32.ofNat 0)) ?_
  rintro _ A2 ⟨hA2, z3, rfl⟩
  refine hxa_iconst (by rfl) rfl ?_
  refine hxa_sipush (by rfl) rfl ?_
  refine hxa_call2 (by rfl) (by decide) (by rfl) (by rfl) (by rfl) (hX165 (d := d + 1)  z3 (Int32.ofNat 0) (Int32.ofNat 255) (by omega)) ?_
  rintro _ _ ⟨rfl, z4, rfl, fz4⟩
  exact hxa_ireturn (by rfl) rfl (hP _ _ ⟨hA2, _, rfl, by omega⟩)
theorem hX179 {d : Nat} {Bn Br : Int} {A0 A : hs_A} (hA : hJ 0 Bn Br A0 A)  (a1 : Int32) (p1 : 0 ≤ a1.toInt) (q1 : a1.toInt ≤ 9) (a2 : Int32) : hxC (d + 3) 179 hm_m179 [.ref 368, .int a1, .int a2] A (fun r A' => hJ 0 Bn Br A0 A' ∧ ∃ z : Int32, r = some (.int z) ∧ ((0 ≤ z.toInt ∧ z.toInt ≤ 255))) := hxC.of (by rfl) (hY179 hA a1 p1 q1 a2 (fun r A' h => h))
theorem hY180 {d : Nat} {Bn Br : Int} {A0 A : hs_A} (hA : hJ 0 Bn Br A0 A)  (a1 : Int32) (p1 : 0 ≤ a1.toInt) (q1 : a1.toInt ≤ 9) {P : Option Value → hs_A → Prop} (hP : ∀ (r : Option Value) (A' : hs_A), (hJ 0 Bn Br A0 A' ∧ ∃ z : Int32, r = some (.int z)) → P r A') : hxa (d + 2) (some (.int)) hm_t180 0 [.ref 368, .int a1] [] A P := by
  have k0 := hk_0
  have k100 := hk_100
  have k3 := hk_3
  refine hxa_aload_n (by rfl) rfl ?_
  refine hxa_iload_n (by rfl) rfl ?_
  refine hxa_iconst (by rfl) rfl ?_
  refine hxa_iconst (by rfl) rfl ?_
  refine hxa_aload_n (by rfl) rfl ?_
  refine hxa_get (v := .ref 397) (by rfl) (by rfl) (by rfl) rfl ?_
  refine hxa_bipush (by rfl) rfl ?_
  refine hxj_iald396 (by rfl) hk_70 (by omega) (by omega) hA (fun z1 ez1 fz1 => ?_)
  refine hxa_call0 (by rfl) (by rfl) (by rfl) (by rfl) (by rfl) (by rfl) (hX175 (d := d + 0) hA a1 (by omega) (by omega) (Int32.ofNat 0) (Int32.ofNat 0) z1) ?_
  rintro _ A2 ⟨hA2, rfl⟩
  refine hxa_aload_n (by rfl) rfl ?_
  refine hxa_iconst (by rfl) rfl ?_
  refine hxa_iconst (by rfl) rfl ?_
  refine hxa_call0 (by rfl) (by rfl) (by rfl) (by rfl) (by rfl) (by rfl) (hX176 (d := d + 0) hA2 (Int32.ofNat 3) (by omega) (by omega) (Int32.ofNat 0)) ?_
  rintro _ A3 ⟨hA3, z4, rfl⟩
  refine hxa_iconst (by rfl) rfl ?_
  refine hxa_bipush (by rfl) rfl ?_
  refine hxa_call2 (by rfl) (by decide) (by rfl) (by rfl) (by rfl) (hX165 (d := d + 1)  z4 (Int32.ofNat 0) (Int32.ofNat 100) (by omega)) ?_
  rintro _ _ ⟨rfl, z5, rfl, fz5⟩
  exact hxa_ireturn (by rfl) rfl (hP _ _ ⟨hA3, _, rfl⟩)
theorem hX180 {d : Nat} {Bn Br : Int} {A0 A : hs_A} (hA : hJ 0 Bn Br A0 A)  (a1 : Int32) (p1 : 0 ≤ a1.toInt) (q1 : a1.toInt ≤ 9) : hxC (d + 3) 180 hm_m180 [.ref 368, .int a1] A (fun r A' => hJ 0 Bn Br A0 A' ∧ ∃ z : Int32, r = some (.int z)) := hxC.of (by rfl) (hY180 hA a1 p1 q1 (fun r A' h => h))
