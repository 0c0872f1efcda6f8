theorem hY181 {d : Nat} {Bn Br : Int} {A0 A : hs_A} (hA : hJ 0 Bn Br A0 A)  (a1 : Int32) (p1 : 0 ≤ a1.toInt) (q1 : a1.toInt ≤ 9) (a2 : Int32) (a3 : Int32) {P : Option Value → hs_A → Prop} (hP : ∀ (r : Option Value) (A' : hs_A), (hJ 0 Bn Br A0 A' ∧ ∃ z : Int32, r = some (.int z) ∧ ((0 ≤ z.toInt ∧ z.toInt ≤ 255))) → P r A') : hxa (d + 3) (some (.int)) hm_t181 0 [.ref 368, .int a1, .int a2, .int a3, .retAddr 0, .retAddr 0, .retAddr 0, .retAddr 0] [] A P := by
  have k0 := hk_0
  have L27 : ∀ (m27 : Nat) (x27_4 : Int32) (x27_5 : Int32) (x27_6 : Int32) (x27_7 : Int32) (Ac27 : hs_A) (hAc27 : hJ 0 Bn Br A0 Ac27) (bx27_5 : 0 ≤ x27_5.toInt) (cx27_5 : x27_5.toInt ≤ 7) (bx27_6 : 0 ≤ x27_6.toInt) (cx27_6 : x27_6.toInt ≤ 255) (bx27_7 : 0 ≤ x27_7.toInt) (cx27_7 : x27_7.toInt ≤ 8) (hm27 : 8 - x27_7.toInt < (m27 : Int)), hxa (d + 3) (some (.int)) hm_t181 27 [.ref 368, .int a1, .int a2, .int a3, .int x27_4, .int x27_5, .int x27_6, .int x27_7] [] Ac27 P := by
    intro m27
    induction m27 with
    | zero => intro x27_4 x27_5 x27_6 x27_7 Ac27 hAc27 bx27_5 cx27_5 bx27_6 cx27_6 bx27_7 cx27_7 hm27; have := hn_rng x27_4; exact False.elim (by omega)
    | succ m27 ih27 =>
      intro x27_4 x27_5 x27_6 x27_7 Ac27 hAc27 bx27_5 cx27_5 bx27_6 cx27_6 bx27_7 cx27_7 hm27
      refine hxa_iload (by rfl) rfl ?_
      refine hxa_bipush (by rfl) rfl ?_
      refine hxj_cge (by rfl) rfl hk_8 (fun q1 => ?_) (fun q1 => ?_)
      ·
        refine hxa_iload (by rfl) rfl ?_
        exact hxa_ireturn (by rfl) rfl (hP _ _ ⟨hAc27, _, rfl, by omega⟩)
      ·
        refine hxa_iload_n (by rfl) rfl ?_
        refine hxa_iload (by rfl) rfl ?_
        refine hxj_ishrU (by rfl) (fun z2 => ?_)
        refine hxa_iconst (by rfl) rfl ?_
        refine hxj_iandR (by rfl) hk_1 (by omega) (fun z3 ez3 fz3 => ?_)
        refine hxa_iconst (by rfl) rfl ?_
        refine hxj_cne (by rfl) rfl hk_1 (fun q4 => ?_) (fun q4 => ?_)
        ·
          refine hxj_iinc (by rfl) rfl rfl hk_1 (by omega) (by omega) (fun _ => rfl) (fun z5 ez5 => ?_)
          refine hxa_goto (by rfl) ?_
          exact ih27 x27_4 x27_5 x27_6 z5 Ac27 hAc27 (by omega) (by omega) (by omega) (by omega) (by omega) (by omega) (by omega)
        ·
          refine hxa_aload_n (by rfl) rfl ?_
          refine hxa_iload_n (by rfl) rfl ?_
          refine hxa_iload (by rfl) rfl ?_
          refine hxa_iload (by rfl) rfl ?_
          refine hxa_iload_n (by rfl) rfl ?_
          refine hxa_call0 (by rfl) (by rfl) (by rfl) (by rfl) (by rfl) (by rfl) (hX177 (d := d + 0) hAc27 a1 (by omega) (by omega) x27_4 x27_7 a3) ?_
          rintro _ A6 ⟨hA6, z7, rfl, fz7⟩
          refine hxj_zeq (by rfl) rfl (fun q8 => ?_) (fun q8 => ?_)
          ·
            refine hxj_iinc (by rfl) rfl rfl hk_1 (by omega) (by omega) (fun _ => rfl) (fun z9 ez9 => ?_)
            refine hxa_goto (by rfl) ?_
            exact ih27 x27_4 x27_5 x27_6 z9 A6 hA6 (by omega) (by omega) (by omega) (by omega) (by omega) (by omega) (by omega)
          ·
            refine hxa_iload (by rfl) rfl ?_
            refine hxa_iconst (by rfl) rfl ?_
            refine hxa_iload (by rfl) rfl ?_
            refine hxa_iload (by rfl) rfl ?_
            refine hxj_iadd (by rfl) rfl rfl (by omega) (by omega) (fun z10 ez10 => ?_)
            refine hxa_bipush (by rfl) rfl ?_
            refine hxj_iremP (by rfl) rfl hk_8 (by omega) (by omega) (fun z11 ez11 => ?_)
            refine hxj_ishl1 (by rfl) rfl rfl (by omega) (by omega) (fun z12 ez12 fz12 => ?_)
            refine hxj_ior255 (by rfl) rfl rfl (by omega) (by omega) (by omega) (by omega) (fun z13 ez13 fz13 => ?_)
            refine hxa_s1 (by rfl) (Or.inr ⟨_, rfl, rfl⟩) rfl ?_
            refine hxj_iinc (by rfl) rfl rfl hk_1 (by omega) (by omega) (fun _ => rfl) (fun z14 ez14 => ?_)
            refine hxa_goto (by rfl) ?_
            exact ih27 x27_4 x27_5 z13 z14 A6 hA6 (by omega) (by omega) (by omega) (by omega) (by omega) (by omega) (by omega)
  refine hxa_iload_n (by rfl) rfl ?_
  refine hxa_call2 (by rfl) (by decide) (by rfl) (by rfl) (by rfl) (hX166 (d := d + 2)  a2) ?_
  rintro _ _ ⟨rfl, z15, rfl⟩
  refine hxa_s1 (by rfl) (Or.inr ⟨_, rfl, rfl⟩) rfl ?_
  refine hxa_aload_n (by rfl) rfl ?_
  refine hxa_iload_n (by rfl) rfl ?_
  refine hxa_iload (by rfl) rfl ?_
  refine hxa_iload_n (by rfl) rfl ?_
  refine hxa_call0 (by rfl) (by rfl) (by rfl) (by rfl) (by rfl) (by rfl) (hX178 (d := d + 0) hA a1 (by omega) (by omega) z15 a3) ?_
  rintro _ A16 ⟨hA16, z17, rfl, fz17⟩
  refine hxa_s1 (by rfl) (Or.inr ⟨_, rfl, rfl⟩) rfl ?_
  refine hxa_aload_n (by rfl) rfl ?_
  refine hxa_iload_n (by rfl) rfl ?_
  refine hxa_iload_n (by rfl) rfl ?_
  refine hxa_call0 (by rfl) (by rfl) (by rfl) (by rfl) (by rfl) (by rfl) (hX179 (d := d + 0) hA16 a1 (by omega) (by omega) a3) ?_
  rintro _ A18 ⟨hA18, z19, rfl, fz19⟩
  refine hxa_s1 (by rfl) (Or.inr ⟨_, rfl, rfl⟩) rfl ?_
  refine hxa_iconst (by rfl) rfl ?_
  refine hxa_s1 (by rfl) (Or.inr ⟨_, rfl, rfl⟩) rfl ?_
  exact L27 (Int.toNat (8 - 0) + 1) z15 z17 z19 (Int32.ofNat 0) A18 hA18 (by omega) (by omega) (by omega) (by omega) (by omega) (by omega) (by omega)
theorem hX181 {d : Nat} {Bn Br : Int} {A0 A : hs_A} (hA : hJ 0 Bn Br A0 A)  (a1 : Int32) (p1 : 0 ≤ a1.toInt) (q1 : a1.toInt ≤ 9) (a2 : Int32) (a3 : Int32) : hxC (d + 4) 181 hm_m181 [.ref 368, .int a1, .int a2, .int a3] A (fun r A' => hJ 0 Bn Br A0 A' ∧ ∃ z : Int32, r = some (.int z) ∧ ((0 ≤ z.toInt ∧ z.toInt ≤ 255))) := hxC.of (by rfl) (hY181 hA a1 p1 q1 a2 a3 (fun r A' h => h))
theorem hY182 {d : Nat} {Bn Br : Int} {A0 A : hs_A} (hA : hJ 0 Bn Br A0 A)  (a1 : Int32) (p1 : 0 ≤ a1.toInt) (q1 : a1.toInt ≤ 9) {P : Option Value → hs_A → Prop} (hP : ∀ (r : Option Value) (A' : hs_A), (A = A' ∧ ∃ z : Int32, r = some (.int z) ∧ ((0 ≤ z.toInt ∧ z.toInt ≤ 1))) → P r A') : hxa (d + 0) (some (.boolean)) hm_t182 0 [.ref 368, .int a1] [] A P := by
  have k0 := hk_0
  have k1 := hk_1
  refine hxa_aload_n (by rfl) rfl ?_
  refine hxa_get (v := .ref 397) (by rfl) (by rfl) (by rfl) rfl ?_
  refine hxa_bipush (by rfl) rfl ?_
  refine hxa_iload_n (by rfl) rfl ?_
  refine hxj_iadd (by rfl) hk_50 rfl (by omega) (by omega) (fun z1 ez1 => ?_)
  refine hxj_iald396 (by rfl) rfl (by omega) (by omega) hA (fun z2 ez2 fz2 => ?_)
  refine hxa_iconst (by rfl) rfl ?_
  refine hxj_cne (by rfl) rfl hk_1 (fun q3 => ?_) (fun q3 => ?_)
  ·
    refine hxa_iconst (by rfl) rfl ?_
    exact hxa_ireturn (by rfl) (by rfl) (hP _ _ ⟨rfl, _, rfl, by omega⟩)
  ·
    refine hxa_aload_n (by rfl) rfl ?_
    refine hxa_get (v := .ref 397) (by rfl) (by rfl) (by rfl) rfl ?_
    refine hxa_bipush (by rfl) rfl ?_
    refine hxa_iload_n (by rfl) rfl ?_
    refine hxj_iadd (by rfl) hk_60 rfl (by omega) (by omega) (fun z4 ez4 => ?_)
    refine hxj_iald396 (by rfl) rfl (by omega) (by omega) hA (fun z5 ez5 fz5 => ?_)
    refine hxj_zne (by rfl) rfl (fun q6 => ?_) (fun q6 => ?_)
    ·
      refine hxa_iconst (by rfl) rfl ?_
      exact hxa_ireturn (by rfl) (by rfl) (hP _ _ ⟨rfl, _, rfl, by omega⟩)
    ·
      refine hxa_iconst (by rfl) rfl ?_
      refine hxa_goto (by rfl) ?_
      exact hxa_ireturn (by rfl) (by rfl) (hP _ _ ⟨rfl, _, rfl, by omega⟩)
theorem hX182 {d : Nat} {Bn Br : Int} {A0 A : hs_A} (hA : hJ 0 Bn Br A0 A)  (a1 : Int32) (p1 : 0 ≤ a1.toInt) (q1 : a1.toInt ≤ 9) : hxC (d + 1) 182 hm_m182 [.ref 368, .int a1] A (fun r A' => A = A' ∧ ∃ z : Int32, r = some (.int z) ∧ ((0 ≤ z.toInt ∧ z.toInt ≤ 1))) := hxC.of (by rfl) (hY182 hA a1 p1 q1 (fun r A' h => h))
theorem hY183 {d : Nat} {Bn Br : Int} {A0 A : hs_A} (hA : hJ 0 Bn Br A0 A)   {P : Option Value → hs_A → Prop} (hP : ∀ (r : Option Value) (A' : hs_A), (A = A' ∧ ∃ z : Int32, r = some (.int z)) → P r A') : hxa (d + 0) (some (.int)) hm_t183 0 [.ref 368] [] A P := by
  refine hxa_aload_n (by rfl) rfl ?_
  refine hxa_get (v := .ref 397) (by rfl) (by rfl) (by rfl) rfl ?_
  refine hxa_bipush (by rfl) rfl ?_
  refine hxj_iald396 (by rfl) hk_71 (by omega) (by omega) hA (fun z1 ez1 fz1 => ?_)
  refine hxa_iconst (by rfl) rfl ?_
  refine hxj_ceq (by rfl) rfl hk_4294967295 (fun q2 => ?_) (fun q2 => ?_)
  ·
    refine hxa_aload_n (by rfl) rfl ?_
    refine hxa_get (v := .ref 381) (by rfl) (by rfl) (by rfl) rfl ?_
    refine hxa_bipush (by rfl) rfl ?_
    refine hxa_aload_n (by rfl) rfl ?_
    refine hxj_getB (by rfl) (by rfl) (by rfl) hA (by rfl) (fun z3 ez3 fz3 gz3 => ?_)
    refine hxj_imul (by rfl) hk_24 rfl (by omega) (by omega) (fun z4 ez4 => ?_)
    refine hxa_aload_n (by rfl) rfl ?_
    refine hxa_get (v := .ref 397) (by rfl) (by rfl) (by rfl) rfl ?_
    refine hxa_bipush (by rfl) rfl ?_
    refine hxj_iald396 (by rfl) hk_70 (by omega) (by omega) hA (fun z5 ez5 fz5 => ?_)
    refine hxa_bipush (by rfl) rfl ?_
    refine hxj_iremP (by rfl) rfl hk_24 (by omega) (by omega) (fun z6 ez6 => ?_)
    refine hxj_iadd (by rfl) rfl rfl (by omega) (by omega) (fun z7 ez7 => ?_)
    refine hxj_iald (by rfl) (by rfl) rfl (by omega) (by omega) (fun z8 ez8 => ?_)
    exact hxa_ireturn (by rfl) rfl (hP _ _ ⟨rfl, _, rfl⟩)
  ·
    refine hxa_aload_n (by rfl) rfl ?_
    refine hxa_get (v := .ref 397) (by rfl) (by rfl) (by rfl) rfl ?_
    refine hxa_bipush (by rfl) rfl ?_
    refine hxj_iald396 (by rfl) hk_71 (by omega) (by omega) hA (fun z9 ez9 fz9 => ?_)
    refine hxa_goto (by rfl) ?_
    exact hxa_ireturn (by rfl) rfl (hP _ _ ⟨rfl, _, rfl⟩)
theorem hX183 {d : Nat} {Bn Br : Int} {A0 A : hs_A} (hA : hJ 0 Bn Br A0 A)   : hxC (d + 1) 183 hm_m183 [.ref 368] A (fun r A' => A = A' ∧ ∃ z : Int32, r = some (.int z)) := hxC.of (by rfl) (hY183 hA  (fun r A' h => h))
theorem hY184 {d : Nat} {Bn Br : Int} {A0 A : hs_A} (hA : hJ 0 Bn Br A0 A) (hBr : Br ≤ 1000000)  {P : Option Value → hs_A → Prop} (hP : ∀ (r : Option Value) (A' : hs_A), (hJ 0 Bn (Br + 1) A0 A' ∧ r = none) → P r A') : hxa (d + 4) none hm_t184 0 [.ref 368, .retAddr 0] [] A P := by
  have k0 := hk_0
  have L127 : ∀ (m127 : Nat) (x127_1 : Int32) (Ac127 : hs_A) (hAc127 : hJ 0 Bn Br A0 Ac127) (bx127_1 : 0 ≤ x127_1.toInt) (cx127_1 : x127_1.toInt ≤ 10) (hm127 : 10 - x127_1.toInt < (m127 : Int)), hxa (d + 4) none hm_t184 127 [.ref 368, .int x127_1] [] Ac127 P := by
    intro m127
    induction m127 with
    | zero => intro x127_1 Ac127 hAc127 bx127_1 cx127_1 hm127;  exact False.elim (by omega)
    | succ m127 ih127 =>
      intro x127_1 Ac127 hAc127 bx127_1 cx127_1 hm127
      have L205 : ∀ (Ac205 : hs_A) (hAc205 : hJ 0 Bn Br A0 Ac205) (cx127_1 : x127_1.toInt ≤ 9), hxa (d + 4) none hm_t184 205 [.ref 368, .int x127_1] [] Ac205 P := by
        intro Ac205 hAc205 cx127_1
        refine hxa_aload_n (by rfl) rfl ?_
        refine hxa_get (v := .ref 399) (by rfl) (by rfl) (by rfl) rfl ?_
        refine hxa_iload_n (by rfl) rfl ?_
        refine hxj_zald (by rfl) (by rfl) rfl (by omega) (by omega) (fun z1 ez1 => ?_)
        refine hxj_zne (by rfl) rfl (fun q2 => ?_) (fun q2 => ?_)
        ·
          refine hxa_aload_n (by rfl) rfl ?_
          refine hxa_get (v := .ref 397) (by rfl) (by rfl) (by rfl) rfl ?_
          refine hxa_bipush (by rfl) rfl ?_
          refine hxa_iload_n (by rfl) rfl ?_
          refine hxj_iadd (by rfl) hk_60 rfl (by omega) (by omega) (fun z3 ez3 => ?_)
          refine hxa_aload_n (by rfl) rfl ?_
          refine hxa_get (v := .ref 382) (by rfl) (by rfl) (by rfl) rfl ?_
          refine hxa_aload_n (by rfl) rfl ?_
          refine hxj_getB (by rfl) (by rfl) (by rfl) hAc205 (by rfl) (fun z4 ez4 fz4 gz4 => ?_)
          refine hxj_iald (by rfl) (by rfl) rfl (by omega) (by omega) (fun z5 ez5 => ?_)
          refine hxj_iast396 (by rfl) rfl (by omega) (by omega) rfl hAc205 (by omega) (fun A6 hA6 eA6 fA6 gA6 => ?_)
          refine hxa_aload_n (by rfl) rfl ?_
          refine hxa_get (v := .ref 397) (by rfl) (by rfl) (by rfl) rfl ?_
          refine hxa_bipush (by rfl) rfl ?_
          refine hxa_dup2IR (by rfl) ?_
          refine hxj_iald396 (by rfl) hk_72 (by omega) (by omega) hA6 (fun z7 ez7 fz7 => ?_)
          refine hxa_iconst (by rfl) rfl ?_
          refine hxj_iaddU (by rfl) (fun z8 => ?_)
          refine hxj_iast396 (by rfl) hk_72 (by omega) (by omega) rfl hA6 (by omega) (fun A9 hA9 eA9 fA9 gA9 => ?_)
          refine hxj_iinc (by rfl) rfl rfl hk_1 (by omega) (by omega) (fun _ => rfl) (fun z10 ez10 => ?_)
          refine hxa_goto (by rfl) ?_
          exact ih127 z10 A9 hA9 (by omega) (by omega) (by omega)
        ·
          refine hxa_goto (by rfl) ?_
          refine hxj_iinc (by rfl) rfl rfl hk_1 (by omega) (by omega) (fun _ => rfl) (fun z11 ez11 => ?_)
          refine hxa_goto (by rfl) ?_
          exact ih127 z11 Ac205 hAc205 (by omega) (by omega) (by omega)
      refine hxa_iload_n (by rfl) rfl ?_
      refine hxa_aload_n (by rfl) rfl ?_
      refine hxa_get (v := .ref 377) (by rfl) (by rfl) (by rfl) rfl ?_
      refine hxa_aload_n (by rfl) rfl ?_
      refine hxj_getB (by rfl) (by rfl) (by rfl) hAc127 (by rfl) (fun z12 ez12 fz12 gz12 => ?_)
      refine hxj_ialdB (by rfl) (by rfl) rfl (by omega) (by omega) hAc127 (by rfl) (fun z13 ez13 fz13 gz13 => ?_)
      refine hxj_cge (by rfl) rfl rfl (fun q14 => ?_) (fun q14 => ?_)
      ·
        refine hxa_aload_n (by rfl) rfl ?_
        refine hxa_get (v := .ref 397) (by rfl) (by rfl) (by rfl) rfl ?_
        refine hxa_bipush (by rfl) rfl ?_
        refine hxa_dup2IR (by rfl) ?_
        refine hxj_iald396 (by rfl) hk_70 (by omega) (by omega) hAc127 (fun z15 ez15 fz15 => ?_)
        have H16 : hJ 0 Bn (Br + 1) A0 Ac127 := hJ.mono hAc127 (by omega) (by omega)
        refine hxa_iconst (by rfl) rfl ?_
        refine hxj_iadd (by rfl) rfl hk_1 (by omega) (by omega) (fun z17 ez17 => ?_)
        refine hxj_iast396 (by rfl) hk_70 (by omega) (by omega) rfl H16 (by omega) (fun A18 hA18 eA18 fA18 gA18 => ?_)
        refine hxa_aload_n (by rfl) rfl ?_
        refine hxa_get (v := .ref 397) (by rfl) (by rfl) (by rfl) rfl ?_
        refine hxa_bipush (by rfl) rfl ?_
        refine hxa_iconst (by rfl) rfl ?_
        refine hxj_iast396 (by rfl) hk_71 (by omega) (by omega) hk_4294967295 hA18 (by omega) (fun A19 hA19 eA19 fA19 gA19 => ?_)
        exact hxa_return (by rfl) rfl (hP _ _ ⟨hA19, rfl⟩)
      ·
        refine hxa_aload_n (by rfl) rfl ?_
        refine hxa_get (v := .ref 397) (by rfl) (by rfl) (by rfl) rfl ?_
        refine hxa_bipush (by rfl) rfl ?_
        refine hxa_iload_n (by rfl) rfl ?_
        refine hxj_iadd (by rfl) hk_30 rfl (by omega) (by omega) (fun z20 ez20 => ?_)
        refine hxa_aload_n (by rfl) rfl ?_
        refine hxa_get (v := .ref 398) (by rfl) (by rfl) (by rfl) rfl ?_
        refine hxa_iload_n (by rfl) rfl ?_
        refine hxj_iald (by rfl) (by rfl) rfl (by omega) (by omega) (fun z21 ez21 => ?_)
        refine hxj_iast396 (by rfl) rfl (by omega) (by omega) rfl hAc127 (by omega) (fun A22 hA22 eA22 fA22 gA22 => ?_)
        refine hxa_aload_n (by rfl) rfl ?_
        refine hxa_get (v := .ref 397) (by rfl) (by rfl) (by rfl) rfl ?_
        refine hxa_bipush (by rfl) rfl ?_
        refine hxa_iload_n (by rfl) rfl ?_
        refine hxj_iadd (by rfl) hk_40 rfl (by omega) (by omega) (fun z23 ez23 => ?_)
        refine hxa_dup2IR (by rfl) ?_
        refine hxj_iald396 (by rfl) rfl (by omega) (by omega) hA22 (fun z24 ez24 fz24 => ?_)
        refine hxa_aload_n (by rfl) rfl ?_
        refine hxa_get (v := .ref 398) (by rfl) (by rfl) (by rfl) rfl ?_
        refine hxa_iload_n (by rfl) rfl ?_
        refine hxj_iald (by rfl) (by rfl) rfl (by omega) (by omega) (fun z25 ez25 => ?_)
        refine hxa_aload_n (by rfl) rfl ?_
        refine hxa_get (v := .ref 397) (by rfl) (by rfl) (by rfl) rfl ?_
        refine hxa_iload_n (by rfl) rfl ?_
        refine hxj_iald396 (by rfl) rfl (by omega) (by omega) hA22 (fun z26 ez26 fz26 => ?_)
        refine hxj_iandU (by rfl) (fun z27 => ?_)
        refine hxj_iorU (by rfl) (fun z28 => ?_)
        refine hxj_iast396 (by rfl) rfl (by omega) (by omega) rfl hA22 (by omega) (fun A29 hA29 eA29 fA29 gA29 => ?_)
        refine hxa_aload_n (by rfl) rfl ?_
        refine hxa_get (v := .ref 397) (by rfl) (by rfl) (by rfl) rfl ?_
        refine hxa_bipush (by rfl) rfl ?_
        refine hxa_iload_n (by rfl) rfl ?_
        refine hxj_iadd (by rfl) hk_60 rfl (by omega) (by omega) (fun z30 ez30 => ?_)
        refine hxj_iald396 (by rfl) rfl (by omega) (by omega) hA29 (fun z31 ez31 fz31 => ?_)
        refine hxj_zle (by rfl) rfl (fun q32 => ?_) (fun q32 => ?_)
        ·
          exact L205 A29 hA29 (by omega)
        ·
          refine hxa_aload_n (by rfl) rfl ?_
          refine hxa_get (v := .ref 397) (by rfl) (by rfl) (by rfl) rfl ?_
          refine hxa_bipush (by rfl) rfl ?_
          refine hxa_iload_n (by rfl) rfl ?_
          refine hxj_iadd (by rfl) hk_60 rfl (by omega) (by omega) (fun z33 ez33 => ?_)
          refine hxa_dup2IR (by rfl) ?_
          refine hxj_iald396 (by rfl) rfl (by omega) (by omega) hA29 (fun z34 ez34 fz34 => ?_)
          refine hxa_iconst (by rfl) rfl ?_
          refine hxj_isubU (by rfl) (fun z35 => ?_)
          refine hxj_iast396 (by rfl) rfl (by omega) (by omega) rfl hA29 (by omega) (fun A36 hA36 eA36 fA36 gA36 => ?_)
          exact L205 A36 hA36 (by omega)
  have L2 : ∀ (m2 : Nat) (x2_1 : Int32) (Ac2 : hs_A) (hAc2 : hJ 0 Bn Br A0 Ac2) (bx2_1 : 0 ≤ x2_1.toInt) (cx2_1 : x2_1.toInt ≤ 10) (hm2 : 10 - x2_1.toInt < (m2 : Int)), hxa (d + 4) none hm_t184 2 [.ref 368, .int x2_1] [] Ac2 P := by
    intro m2
    induction m2 with
    | zero => intro x2_1 Ac2 hAc2 bx2_1 cx2_1 hm2;  exact False.elim (by omega)
    | succ m2 ih2 =>
      intro x2_1 Ac2 hAc2 bx2_1 cx2_1 hm2
      have L64 : ∀ (y64_1 : Int32) (y64_2 : Int32) (Ac64 : hs_A) (hAc64 : hJ 0 Bn Br A0 Ac64) (by64_1 : 0 ≤ y64_1.toInt) (cy64_1 : y64_1.toInt ≤ 9) (cx2_1 : x2_1.toInt ≤ 9), hxa (d + 4) none hm_t184 64 [.ref 368, .int x2_1] [.int y64_2, .int y64_1, .ref 398] Ac64 P := by
        intro y64_1 y64_2 Ac64 hAc64 by64_1 cy64_1 cx2_1
        refine hxj_iast (by rfl) (by rfl) rfl (by omega) (by omega) hAc64 (hbokN (by rfl)) (by rfl) (by rfl) (fun A37 hA37 eA37 fA37 gA37 => ?_)
        refine hxa_aload_n (by rfl) rfl ?_
        refine hxa_get (v := .ref 399) (by rfl) (by rfl) (by rfl) rfl ?_
        refine hxa_iload_n (by rfl) rfl ?_
        refine hxa_aload_n (by rfl) rfl ?_
        refine hxj_getI (by rfl) (by rfl) (by rfl) (fun z38 ez38 => ?_)
        refine hxj_zne (by rfl) rfl (fun q39 => ?_) (fun q39 => ?_)
        ·
          refine hxa_iconst (by rfl) rfl ?_
          refine hxj_zast (by rfl) (by rfl) rfl (by omega) (by omega) hk_0 (by omega) (by omega) hA37 (hbokN (by rfl)) (by rfl) (by rfl) (fun A40 hA40 eA40 fA40 gA40 => ?_)
          refine hxj_iinc (by rfl) rfl rfl hk_1 (by omega) (by omega) (fun _ => rfl) (fun z41 ez41 => ?_)
          refine hxa_goto (by rfl) ?_
          exact ih2 z41 A40 hA40 (by omega) (by omega) (by omega)
        ·
          refine hxa_aload_n (by rfl) rfl ?_
          refine hxa_get (v := .ref 397) (by rfl) (by rfl) (by rfl) rfl ?_
          refine hxa_bipush (by rfl) rfl ?_
          refine hxa_iload_n (by rfl) rfl ?_
          refine hxj_iadd (by rfl) hk_60 rfl (by omega) (by omega) (fun z42 ez42 => ?_)
          refine hxj_iald396 (by rfl) rfl (by omega) (by omega) hA37 (fun z43 ez43 fz43 => ?_)
          refine hxj_zne (by rfl) rfl (fun q44 => ?_) (fun q44 => ?_)
          ·
            refine hxa_iconst (by rfl) rfl ?_
            refine hxj_zast (by rfl) (by rfl) rfl (by omega) (by omega) hk_0 (by omega) (by omega) hA37 (hbokN (by rfl)) (by rfl) (by rfl) (fun A45 hA45 eA45 fA45 gA45 => ?_)
            refine hxj_iinc (by rfl) rfl rfl hk_1 (by omega) (by omega) (fun _ => rfl) (fun z46 ez46 => ?_)
            refine hxa_goto (by rfl) ?_
            exact ih2 z46 A45 hA45 (by omega) (by omega) (by omega)
          ·
            refine hxa_aload_n (by rfl) rfl ?_
            refine hxa_bipush (by rfl) rfl ?_
            refine hxa_aload_n (by rfl) rfl ?_
            refine hxa_get (v := .ref 397) (by rfl) (by rfl) (by rfl) rfl ?_
            refine hxa_bipush (by rfl) rfl ?_
            refine hxj_iald396 (by rfl) hk_70 (by omega) (by omega) hA37 (fun z47 ez47 fz47 => ?_)
            refine hxj_imulU (by rfl) (fun z48 => ?_)
            refine hxa_iload_n (by rfl) rfl ?_
            refine hxj_iaddU (by rfl) (fun z49 => ?_)
            refine hxa_call0 (by rfl) (by rfl) (by rfl) (by rfl) (by rfl) (by rfl) (hX174 (d := d + 2) hA37 z49) ?_
            rintro _ _ ⟨rfl, z50, rfl⟩
            refine hxa_aload_n (by rfl) rfl ?_
            refine hxa_iload_n (by rfl) rfl ?_
            refine hxa_call0 (by rfl) (by rfl) (by rfl) (by rfl) (by rfl) (by rfl) (hX180 (d := d + 1) hA37 x2_1 (by omega) (by omega)) ?_
            rintro _ A51 ⟨hA51, z52, rfl⟩
            have rgz50 := hn_rng z50
            have rgz52 := hn_rng z52
            refine hxj_cge (by rfl) rfl rfl (fun q53 => ?_) (fun q53 => ?_)
            ·
              refine hxa_iconst (by rfl) rfl ?_
              refine hxj_zast (by rfl) (by rfl) rfl (by omega) (by omega) hk_0 (by omega) (by omega) hA51 (hbokN (by rfl)) (by rfl) (by rfl) (fun A54 hA54 eA54 fA54 gA54 => ?_)
              refine hxj_iinc (by rfl) rfl rfl hk_1 (by omega) (by omega) (fun _ => rfl) (fun z55 ez55 => ?_)
              refine hxa_goto (by rfl) ?_
              exact ih2 z55 A54 hA54 (by omega) (by omega) (by omega)
            ·
              refine hxa_iconst (by rfl) rfl ?_
              refine hxa_goto (by rfl) ?_
              refine hxj_zast (by rfl) (by rfl) rfl (by omega) (by omega) hk_1 (by omega) (by omega) hA51 (hbokN (by rfl)) (by rfl) (by rfl) (fun A56 hA56 eA56 fA56 gA56 => ?_)
              refine hxj_iinc (by rfl) rfl rfl hk_1 (by omega) (by omega) (fun _ => rfl) (fun z57 ez57 => ?_)
              refine hxa_goto (by rfl) ?_
              exact ih2 z57 A56 hA56 (by omega) (by omega) (by omega)
      refine hxa_iload_n (by rfl) rfl ?_
      refine hxa_aload_n (by rfl) rfl ?_
      refine hxa_get (v := .ref 377) (by rfl) (by rfl) (by rfl) rfl ?_
      refine hxa_aload_n (by rfl) rfl ?_
      refine hxj_getB (by rfl) (by rfl) (by rfl) hAc2 (by rfl) (fun z58 ez58 fz58 gz58 => ?_)
      refine hxj_ialdB (by rfl) (by rfl) rfl (by omega) (by omega) hAc2 (by rfl) (fun z59 ez59 fz59 gz59 => ?_)
      refine hxj_cge (by rfl) rfl rfl (fun q60 => ?_) (fun q60 => ?_)
      ·
        refine hxa_iconst (by rfl) rfl ?_
        refine hxa_s1 (by rfl) (Or.inl ⟨_, rfl, rfl⟩) rfl ?_
        exact L127 (Int.toNat (10 - 0) + 1) (Int32.ofNat 0) Ac2 hAc2 (by omega) (by omega) (by omega)
      ·
        refine hxa_aload_n (by rfl) rfl ?_
        refine hxa_get (v := .ref 398) (by rfl) (by rfl) (by rfl) rfl ?_
        refine hxa_iload_n (by rfl) rfl ?_
        refine hxa_aload_n (by rfl) rfl ?_
        refine hxa_iload_n (by rfl) rfl ?_
        refine hxa_call0 (by rfl) (by rfl) (by rfl) (by rfl) (by rfl) (by rfl) (hX182 (d := d + 3) hAc2 x2_1 (by omega) (by omega)) ?_
        rintro _ _ ⟨rfl, z61, rfl, fz61⟩
        refine hxj_zne (by rfl) rfl (fun q62 => ?_) (fun q62 => ?_)
        ·
          refine hxa_iload_n (by rfl) rfl ?_
          refine hxj_zne (by rfl) rfl (fun q63 => ?_) (fun q63 => ?_)
          ·
            refine hxa_aload_n (by rfl) rfl ?_
            refine hxa_iload_n (by rfl) rfl ?_
            refine hxa_aload_n (by rfl) rfl ?_
            refine hxa_get (v := .ref 397) (by rfl) (by rfl) (by rfl) rfl ?_
            refine hxa_bipush (by rfl) rfl ?_
            refine hxa_iload_n (by rfl) rfl ?_
            refine hxj_iadd (by rfl) hk_29 rfl (by omega) (by omega) (fun z64 ez64 => ?_)
            refine hxj_iald396 (by rfl) rfl (by omega) (by omega) hAc2 (fun z65 ez65 fz65 => ?_)
            refine hxa_aload_n (by rfl) rfl ?_
            refine hxa_get (v := .ref 397) (by rfl) (by rfl) (by rfl) rfl ?_
            refine hxa_bipush (by rfl) rfl ?_
            refine hxj_iald396 (by rfl) hk_70 (by omega) (by omega) hAc2 (fun z66 ez66 fz66 => ?_)
            refine hxa_call0 (by rfl) (by rfl) (by rfl) (by rfl) (by rfl) (by rfl) (hX181 (d := d + 0) hAc2 x2_1 (by omega) (by omega) z65 z66) ?_
            rintro _ A67 ⟨hA67, z68, rfl, fz68⟩
            exact L64 x2_1 z68 A67 hA67 (by omega) (by omega) (by omega)
          ·
            refine hxa_aload_n (by rfl) rfl ?_
            refine hxa_call0 (by rfl) (by rfl) (by rfl) (by rfl) (by rfl) (by rfl) (hX183 (d := d + 3) hAc2 ) ?_
            rintro _ _ ⟨rfl, z69, rfl⟩
            refine hxa_goto (by rfl) ?_
            exact L64 x2_1 z69 Ac2 hAc2 (by omega) (by omega) (by omega)
        ·
          refine hxa_iconst (by rfl) rfl ?_
          refine hxa_goto (by rfl) ?_
          exact L64 x2_1 (Int32.ofNat 0) Ac2 hAc2 (by omega) (by omega) (by omega)
  refine hxa_iconst (by rfl) rfl ?_
  refine hxa_s1 (by rfl) (Or.inl ⟨_, rfl, rfl⟩) rfl ?_
  exact L2 (Int.toNat (10 - 0) + 1) (Int32.ofNat 0) A hA (by omega) (by omega) (by omega)
theorem hX184 {d : Nat} {Bn Br : Int} {A0 A : hs_A} (hA : hJ 0 Bn Br A0 A) (hBr : Br ≤ 1000000)  : hxC (d + 5) 184 hm_m184 [.ref 368] A (fun r A' => hJ 0 Bn (Br + 1) A0 A' ∧ r = none) := hxC.of (by rfl) (hY184 hA hBr (fun r A' h => h))
theorem hY185 {d : Nat} {Bn Br : Int} {A0 A : hs_A} (hA : hJ 0 Bn Br A0 A) (hBr : Br ≤ 990000) (a1 : Int32) (p1 : 0 ≤ a1.toInt) (q1 : a1.toInt ≤ 72) {P : Option Value → hs_A → Prop} (hP : ∀ (r : Option Value) (A' : hs_A), (hJ 0 Bn (Br + 72) A0 A' ∧ r = none) → P r A') : hxa (d + 5) none hm_t185 0 [.ref 368, .int a1, .retAddr 0] [] A P := by
  have k0 := hk_0
  have L2 : ∀ (m2 : Nat) (x2_2 : Int32) (Ac2 : hs_A) (hAc2 : hJ 0 Bn (Br + x2_2.toInt) A0 Ac2) (bx2_2 : 0 ≤ x2_2.toInt) (cx2_2 : x2_2.toInt ≤ 72) (hm2 : 72 - x2_2.toInt < (m2 : Int)), hxa (d + 5) none hm_t185 2 [.ref 368, .int a1, .int x2_2] [] Ac2 P := by
    intro m2
    induction m2 with
    | zero => intro x2_2 Ac2 hAc2 bx2_2 cx2_2 hm2;  exact False.elim (by omega)
    | succ m2 ih2 =>
      intro x2_2 Ac2 hAc2 bx2_2 cx2_2 hm2
      refine hxa_iload_n (by rfl) rfl ?_
      refine hxa_iload_n (by rfl) rfl ?_
      refine hxj_cge (by rfl) rfl rfl (fun q1 => ?_) (fun q1 => ?_)
      ·
        exact hxa_return (by rfl) rfl (hP _ _ ⟨(hJ.mono hAc2 (by omega) (by omega)), rfl⟩)
      ·
        refine hxa_aload_n (by rfl) rfl ?_
        refine hxa_call0 (by rfl) (by rfl) (by rfl) (by rfl) (by rfl) (by rfl) (hX184 (d := d + 0) hAc2 (by omega)) ?_
        rintro _ A2 ⟨hA2, rfl⟩
        refine hxj_iinc (by rfl) rfl rfl hk_1 (by omega) (by omega) (fun _ => rfl) (fun z3 ez3 => ?_)
        refine hxa_goto (by rfl) ?_
        exact ih2 z3 A2 (hJ.mono hA2 (by omega) (by omega)) (by omega) (by omega) (by omega)
  refine hxa_iconst (by rfl) rfl ?_
  refine hxa_s1 (by rfl) (Or.inl ⟨_, rfl, rfl⟩) rfl ?_
  exact L2 (Int.toNat (72 - 0) + 1) (Int32.ofNat 0) A (hJ.mono hA (by omega) (by omega)) (by omega) (by omega) (by omega)
theorem hX185 {d : Nat} {Bn Br : Int} {A0 A : hs_A} (hA : hJ 0 Bn Br A0 A) (hBr : Br ≤ 990000) (a1 : Int32) (p1 : 0 ≤ a1.toInt) (q1 : a1.toInt ≤ 72) : hxC (d + 6) 185 hm_m185 [.ref 368, .int a1] A (fun r A' => hJ 0 Bn (Br + 72) A0 A' ∧ r = none) := hxC.of (by rfl) (hY185 hA hBr a1 p1 q1 (fun r A' h => h))
theorem hY186 {d : Nat} {Bn Br : Int} {A0 A : hs_A} (hA : hJ 0 Bn Br A0 A)  (a1 : Int32) (p1 : 0 ≤ a1.toInt) (q1 : a1.toInt ≤ 9) {P : Option Value → hs_A → Prop} (hP : ∀ (r : Option Value) (A' : hs_A), (A = A' ∧ ∃ z : Int32, r = some (.int z) ∧ ((0 ≤ z.toInt ∧ z.toInt ≤ 1))) → P r A') : hxa (d + 0) (some (.boolean)) hm_t186 0 [.ref 368, .int a1] [] A P := by
  have k0 := hk_0
  have k1 := hk_1
  refine hxa_aload_n (by rfl) rfl ?_
  refine hxa_get (v := .ref 397) (by rfl) (by rfl) (by rfl) rfl ?_
  refine hxa_bipush (by rfl) rfl ?_
  refine hxa_iload_n (by rfl) rfl ?_
  refine hxj_iadd (by rfl) hk_40 rfl (by omega) (by omega) (fun z1 ez1 => ?_)
  refine hxj_iald396 (by rfl) rfl (by omega) (by omega) hA (fun z2 ez2 fz2 => ?_)
  refine hxa_aload_n (by rfl) rfl ?_
  refine hxa_get (v := .ref 397) (by rfl) (by rfl) (by rfl) rfl ?_
  refine hxa_iload_n (by rfl) rfl ?_
  refine hxj_iald396 (by rfl) rfl (by omega) (by omega) hA (fun z3 ez3 fz3 => ?_)
  refine hxj_cne (by rfl) rfl rfl (fun q4 => ?_) (fun q4 => ?_)
  ·
    refine hxa_iconst (by rfl) rfl ?_
    exact hxa_ireturn (by rfl) (by rfl) (hP _ _ ⟨rfl, _, rfl, by omega⟩)
  ·
    refine hxa_iconst (by rfl) rfl ?_
    refine hxa_goto (by rfl) ?_
    exact hxa_ireturn (by rfl) (by rfl) (hP _ _ ⟨rfl, _, rfl, by omega⟩)
theorem hX186 {d : Nat} {Bn Br : Int} {A0 A : hs_A} (hA : hJ 0 Bn Br A0 A)  (a1 : Int32) (p1 : 0 ≤ a1.toInt) (q1 : a1.toInt ≤ 9) : hxC (d + 1) 186 hm_m186 [.ref 368, .int a1] A (fun r A' => A = A' ∧ ∃ z : Int32, r = some (.int z) ∧ ((0 ≤ z.toInt ∧ z.toInt ≤ 1))) := hxC.of (by rfl) (hY186 hA a1 p1 q1 (fun r A' h => h))
theorem hY187 {d : Nat} {Bn Br : Int} {A0 A : hs_A} (hA : hJ 0 Bn Br A0 A)   {P : Option Value → hs_A → Prop} (hP : ∀ (r : Option Value) (A' : hs_A), (A = A' ∧ ∃ z : Int32, r = some (.int z)) → P r A') : hxa (d + 1) (some (.int)) hm_t187 0 [.ref 368, .retAddr 0, .retAddr 0] [] A P := by
  have k0 := hk_0
  have L4 : ∀ (m4 : Nat) (x4_1 : Int32) (x4_2 : Int32) (bx4_2 : 0 ≤ x4_2.toInt) (cx4_2 : x4_2.toInt ≤ 10) (hm4 : 10 - x4_2.toInt < (m4 : Int)), hxa (d + 1) (some (.int)) hm_t187 4 [.ref 368, .int x4_1, .int x4_2] [] A P := by
    intro m4
    induction m4 with
    | zero => intro x4_1 x4_2 bx4_2 cx4_2 hm4; have := hn_rng x4_1; exact False.elim (by omega)
    | succ m4 ih4 =>
      intro x4_1 x4_2 bx4_2 cx4_2 hm4
      refine hxa_iload_n (by rfl) rfl ?_
      refine hxa_aload_n (by rfl) rfl ?_
      refine hxa_get (v := .ref 377) (by rfl) (by rfl) (by rfl) rfl ?_
      refine hxa_aload_n (by rfl) rfl ?_
      refine hxj_getB (by rfl) (by rfl) (by rfl) hA (by rfl) (fun z1 ez1 fz1 gz1 => ?_)
      refine hxj_ialdB (by rfl) (by rfl) rfl (by omega) (by omega) hA (by rfl) (fun z2 ez2 fz2 gz2 => ?_)
      refine hxj_cge (by rfl) rfl rfl (fun q3 => ?_) (fun q3 => ?_)
      ·
        refine hxa_iload_n (by rfl) rfl ?_
        exact hxa_ireturn (by rfl) rfl (hP _ _ ⟨rfl, _, rfl⟩)
      ·
        refine hxa_aload_n (by rfl) rfl ?_
        refine hxa_iload_n (by rfl) rfl ?_
        refine hxa_call0 (by rfl) (by rfl) (by rfl) (by rfl) (by rfl) (by rfl) (hX186 (d := d + 0) hA x4_2 (by omega) (by omega)) ?_
        rintro _ _ ⟨rfl, z4, rfl, fz4⟩
        refine hxj_zeq (by rfl) rfl (fun q5 => ?_) (fun q5 => ?_)
        ·
          refine hxj_iinc (by rfl) rfl rfl hk_1 (by omega) (by omega) (fun _ => rfl) (fun z6 ez6 => ?_)
          refine hxa_goto (by rfl) ?_
          exact ih4 x4_1 z6 (by omega) (by omega) (by omega)
        ·
          refine hxj_iincU (by rfl) rfl (fun _ => rfl) (fun z7 => ?_)
          refine hxj_iinc (by rfl) rfl rfl hk_1 (by omega) (by omega) (fun _ => rfl) (fun z8 ez8 => ?_)
          refine hxa_goto (by rfl) ?_
          exact ih4 z7 z8 (by omega) (by omega) (by omega)
  refine hxa_iconst (by rfl) rfl ?_
  refine hxa_s1 (by rfl) (Or.inl ⟨_, rfl, rfl⟩) rfl ?_
  refine hxa_iconst (by rfl) rfl ?_
  refine hxa_s1 (by rfl) (Or.inl ⟨_, rfl, rfl⟩) rfl ?_
  exact L4 (Int.toNat (10 - 0) + 1) (Int32.ofNat 0) (Int32.ofNat 0) (by omega) (by omega) (by omega)
theorem hX187 {d : Nat} {Bn Br : Int} {A0 A : hs_A} (hA : hJ 0 Bn Br A0 A)   : hxC (d + 2) 187 hm_m187 [.ref 368] A (fun r A' => A = A' ∧ ∃ z : Int32, r = some (.int z)) := hxC.of (by rfl) (hY187 hA  (fun r A' h => h))
theorem hY188 {d : Nat} {N : Int} {A0 A : hs_A} (hA : hJ 0 N (N + 72) A0 A) (hN : N ≤ 900000) (a1 : Int32) (a2 : Int32) {P : Option Value → hs_A → Prop} (hP : ∀ (r : Option Value) (A' : hs_A), (hJ 0 (N + 72) (N + 144) A0 A' ∧ ∃ z : Int32, r = some (.int z)) → P r A') : hxa (d + 3) (some (.int)) hm_t188 0 [.ref 368, .int a1, .int a2] [] A P := by
  have k0 := hk_0
  have k4294967295 := hk_4294967295
  have k9 := hk_9
  refine hxa_aload_n (by rfl) rfl ?_
  refine hxa_iload_n (by rfl) rfl ?_
  refine hxa_call0 (by rfl) (by rfl) (by rfl) (by rfl) (by rfl) (by rfl) (hX167 (d := d + 1) hA a1) ?_
  rintro _ _ ⟨rfl, z1, rfl, fz1⟩
  rcases fz1 with fz1 | fz1
  ·
    refine hxj_zeq (by rfl) rfl (fun q2 => False.elim (by omega)) (fun q2 => ?_)
    refine hxa_iload_n (by rfl) rfl ?_
    refine hxa_iconst (by rfl) rfl ?_
    refine hxa_bipush (by rfl) rfl ?_
    refine hxa_call2 (by rfl) (by decide) (by rfl) (by rfl) (by rfl) (hX164 (d := d + 2)  a2 (Int32.ofNat 0) (Int32.ofNat 9)) ?_
    rintro _ _ ⟨rfl, z3, rfl, fz3⟩
    rcases fz3 with fz3 | fz3
    ·
      refine hxj_zne (by rfl) rfl (fun q4 => ?_) (fun q4 => False.elim (by omega))
      refine hxa_aload_n (by rfl) rfl ?_
      refine hxa_call0 (by rfl) (by rfl) (by rfl) (by rfl) (by rfl) (by rfl) (hX171 (d := d + 2) hA ) ?_
      rintro _ A5 ⟨hA5, rfl⟩
      refine hxa_iload_n (by rfl) rfl ?_
      by_cases q6 : a2.toInt = 0
      ·
        refine hxa_tabIn (by rfl) (by omega) (by omega) (by rw [q6]; rfl) (tgt := 76) (by rfl) ?_
        refine hxa_aload_n (by rfl) rfl ?_
        refine hxa_get (v := .ref 397) (by rfl) (by rfl) (by rfl) rfl ?_
        refine hxa_iload_n (by rfl) rfl ?_
        refine hxj_iald396 (by rfl) rfl (by omega) (by omega) hA5 (fun z7 ez7 fz7 => ?_)
        exact hxa_ireturn (by rfl) rfl (hP _ _ ⟨(hJ.mono hA5 (by omega) (by omega)), _, rfl⟩)
      ·
        by_cases q8 : a2.toInt = 1
        ·
          refine hxa_tabIn (by rfl) (by omega) (by omega) (by rw [q8]; rfl) (tgt := 83) (by rfl) ?_
          refine hxa_aload_n (by rfl) rfl ?_
          refine hxa_get (v := .ref 397) (by rfl) (by rfl) (by rfl) rfl ?_
          refine hxa_bipush (by rfl) rfl ?_
          refine hxa_iload_n (by rfl) rfl ?_
          refine hxj_iadd (by rfl) hk_10 rfl (by omega) (by omega) (fun z9 ez9 => ?_)
          refine hxj_iald396 (by rfl) rfl (by omega) (by omega) hA5 (fun z10 ez10 fz10 => ?_)
          exact hxa_ireturn (by rfl) rfl (hP _ _ ⟨(hJ.mono hA5 (by omega) (by omega)), _, rfl⟩)
        ·
          by_cases q11 : a2.toInt = 2
          ·
            refine hxa_tabIn (by rfl) (by omega) (by omega) (by rw [q11]; rfl) (tgt := 93) (by rfl) ?_
            refine hxa_aload_n (by rfl) rfl ?_
            refine hxa_get (v := .ref 397) (by rfl) (by rfl) (by rfl) rfl ?_
            refine hxa_bipush (by rfl) rfl ?_
            refine hxa_iload_n (by rfl) rfl ?_
            refine hxj_iadd (by rfl) hk_30 rfl (by omega) (by omega) (fun z12 ez12 => ?_)
            refine hxj_iald396 (by rfl) rfl (by omega) (by omega) hA5 (fun z13 ez13 fz13 => ?_)
            exact hxa_ireturn (by rfl) rfl (hP _ _ ⟨(hJ.mono hA5 (by omega) (by omega)), _, rfl⟩)
          ·
            by_cases q14 : a2.toInt = 3
            ·
              refine hxa_tabIn (by rfl) (by omega) (by omega) (by rw [q14]; rfl) (tgt := 103) (by rfl) ?_
              refine hxa_aload_n (by rfl) rfl ?_
              refine hxa_get (v := .ref 397) (by rfl) (by rfl) (by rfl) rfl ?_
              refine hxa_bipush (by rfl) rfl ?_
              refine hxa_iload_n (by rfl) rfl ?_
              refine hxj_iadd (by rfl) hk_40 rfl (by omega) (by omega) (fun z15 ez15 => ?_)
              refine hxj_iald396 (by rfl) rfl (by omega) (by omega) hA5 (fun z16 ez16 fz16 => ?_)
              exact hxa_ireturn (by rfl) rfl (hP _ _ ⟨(hJ.mono hA5 (by omega) (by omega)), _, rfl⟩)
            ·
              by_cases q17 : a2.toInt = 4
              ·
                refine hxa_tabIn (by rfl) (by omega) (by omega) (by rw [q17]; rfl) (tgt := 113) (by rfl) ?_
                refine hxa_aload_n (by rfl) rfl ?_
                refine hxa_get (v := .ref 397) (by rfl) (by rfl) (by rfl) rfl ?_
                refine hxa_bipush (by rfl) rfl ?_
                refine hxa_iload_n (by rfl) rfl ?_
                refine hxj_iadd (by rfl) hk_50 rfl (by omega) (by omega) (fun z18 ez18 => ?_)
                refine hxj_iald396 (by rfl) rfl (by omega) (by omega) hA5 (fun z19 ez19 fz19 => ?_)
                exact hxa_ireturn (by rfl) rfl (hP _ _ ⟨(hJ.mono hA5 (by omega) (by omega)), _, rfl⟩)
              ·
                by_cases q20 : a2.toInt = 5
                ·
                  refine hxa_tabIn (by rfl) (by omega) (by omega) (by rw [q20]; rfl) (tgt := 123) (by rfl) ?_
                  refine hxa_aload_n (by rfl) rfl ?_
                  refine hxa_get (v := .ref 397) (by rfl) (by rfl) (by rfl) rfl ?_
                  refine hxa_bipush (by rfl) rfl ?_
                  refine hxa_iload_n (by rfl) rfl ?_
                  refine hxj_iadd (by rfl) hk_60 rfl (by omega) (by omega) (fun z21 ez21 => ?_)
                  refine hxj_iald396 (by rfl) rfl (by omega) (by omega) hA5 (fun z22 ez22 fz22 => ?_)
                  exact hxa_ireturn (by rfl) rfl (hP _ _ ⟨(hJ.mono hA5 (by omega) (by omega)), _, rfl⟩)
                ·
                  by_cases q23 : a2.toInt = 6
                  ·
                    refine hxa_tabIn (by rfl) (by omega) (by omega) (by rw [q23]; rfl) (tgt := 133) (by rfl) ?_
                    refine hxa_aload_n (by rfl) rfl ?_
                    refine hxa_get (v := .ref 397) (by rfl) (by rfl) (by rfl) rfl ?_
                    refine hxa_bipush (by rfl) rfl ?_
                    refine hxa_iload_n (by rfl) rfl ?_
                    refine hxj_iadd (by rfl) hk_20 rfl (by omega) (by omega) (fun z24 ez24 => ?_)
                    refine hxj_iald396 (by rfl) rfl (by omega) (by omega) hA5 (fun z25 ez25 fz25 => ?_)
                    exact hxa_ireturn (by rfl) rfl (hP _ _ ⟨(hJ.mono hA5 (by omega) (by omega)), _, rfl⟩)
                  ·
                    by_cases q26 : a2.toInt = 7
                    ·
                      refine hxa_tabIn (by rfl) (by omega) (by omega) (by rw [q26]; rfl) (tgt := 143) (by rfl) ?_
                      refine hxa_aload_n (by rfl) rfl ?_
                      refine hxa_iload_n (by rfl) rfl ?_
                      refine hxa_iload_n (by rfl) rfl ?_
                      refine hxj_zne (by rfl) rfl (fun q27 => ?_) (fun q27 => ?_)
                      ·
                        refine hxa_aload_n (by rfl) rfl ?_
                        refine hxa_get (v := .ref 397) (by rfl) (by rfl) (by rfl) rfl ?_
                        refine hxa_bipush (by rfl) rfl ?_
                        refine hxa_iload_n (by rfl) rfl ?_
                        refine hxj_iadd (by rfl) hk_29 rfl (by omega) (by omega) (fun z28 ez28 => ?_)
                        refine hxj_iald396 (by rfl) rfl (by omega) (by omega) hA5 (fun z29 ez29 fz29 => ?_)
                        refine hxa_call2 (by rfl) (by decide) (by rfl) (by rfl) (by rfl) (hX166 (d := d + 2)  z29) ?_
                        rintro _ _ ⟨rfl, z30, rfl⟩
                        refine hxa_aload_n (by rfl) rfl ?_
                        refine hxa_get (v := .ref 397) (by rfl) (by rfl) (by rfl) rfl ?_
                        refine hxa_bipush (by rfl) rfl ?_
                        refine hxj_iald396 (by rfl) hk_70 (by omega) (by omega) hA5 (fun z31 ez31 fz31 => ?_)
                        refine hxa_call0 (by rfl) (by rfl) (by rfl) (by rfl) (by rfl) (by rfl) (hX178 (d := d + 0) hA5 a1 (by omega) (by omega) z30 z31) ?_
                        rintro _ A32 ⟨hA32, z33, rfl, fz33⟩
                        exact hxa_ireturn (by rfl) rfl (hP _ _ ⟨(hJ.mono hA32 (by omega) (by omega)), _, rfl⟩)
                      ·
                        refine hxa_iconst (by rfl) rfl ?_
                        refine hxa_goto (by rfl) ?_
                        refine hxa_aload_n (by rfl) rfl ?_
                        refine hxa_get (v := .ref 397) (by rfl) (by rfl) (by rfl) rfl ?_
                        refine hxa_bipush (by rfl) rfl ?_
                        refine hxj_iald396 (by rfl) hk_70 (by omega) (by omega) hA5 (fun z34 ez34 fz34 => ?_)
                        refine hxa_call0 (by rfl) (by rfl) (by rfl) (by rfl) (by rfl) (by rfl) (hX178 (d := d + 0) hA5 a1 (by omega) (by omega) (Int32.ofNat 0) z34) ?_
                        rintro _ A35 ⟨hA35, z36, rfl, fz36⟩
                        exact hxa_ireturn (by rfl) rfl (hP _ _ ⟨(hJ.mono hA35 (by omega) (by omega)), _, rfl⟩)
                    ·
                      by_cases q37 : a2.toInt = 8
                      ·
                        refine hxa_tabIn (by rfl) (by omega) (by omega) (by rw [q37]; rfl) (tgt := 176) (by rfl) ?_
                        refine hxa_aload_n (by rfl) rfl ?_
                        refine hxa_iload_n (by rfl) rfl ?_
                        refine hxa_aload_n (by rfl) rfl ?_
                        refine hxa_get (v := .ref 397) (by rfl) (by rfl) (by rfl) rfl ?_
                        refine hxa_bipush (by rfl) rfl ?_
                        refine hxj_iald396 (by rfl) hk_70 (by omega) (by omega) hA5 (fun z38 ez38 fz38 => ?_)
                        refine hxa_call0 (by rfl) (by rfl) (by rfl) (by rfl) (by rfl) (by rfl) (hX179 (d := d + 0) hA5 a1 (by omega) (by omega) z38) ?_
                        rintro _ A39 ⟨hA39, z40, rfl, fz40⟩
                        exact hxa_ireturn (by rfl) rfl (hP _ _ ⟨(hJ.mono hA39 (by omega) (by omega)), _, rfl⟩)
                      ·
                        refine hxa_tabOut (by rfl) (by omega) (tgt := 189) (by rfl) ?_
                        refine hxa_aload_n (by rfl) rfl ?_
                        refine hxa_iload_n (by rfl) rfl ?_
                        refine hxa_call0 (by rfl) (by rfl) (by rfl) (by rfl) (by rfl) (by rfl) (hX180 (d := d + 0) hA5 a1 (by omega) (by omega)) ?_
                        rintro _ A41 ⟨hA41, z42, rfl⟩
                        exact hxa_ireturn (by rfl) rfl (hP _ _ ⟨(hJ.mono hA41 (by omega) (by omega)), _, rfl⟩)
    ·
      refine hxj_zne (by rfl) rfl (fun q43 => False.elim (by omega)) (fun q43 => ?_)
      refine hxa_iconst (by rfl) rfl ?_
      exact hxa_ireturn (by rfl) rfl (hP _ _ ⟨(hJ.mono hA (by omega) (by omega)), _, rfl⟩)
  ·
    refine hxj_zeq (by rfl) rfl (fun q44 => ?_) (fun q44 => False.elim (by omega))
    refine hxa_iconst (by rfl) rfl ?_
    exact hxa_ireturn (by rfl) rfl (hP _ _ ⟨(hJ.mono hA (by omega) (by omega)), _, rfl⟩)
theorem hX188 {d : Nat} {N : Int} {A0 A : hs_A} (hA : hJ 0 N (N + 72) A0 A) (hN : N ≤ 900000) (a1 : Int32) (a2 : Int32) : hxC (d + 4) 188 hm_m188 [.ref 368, .int a1, .int a2] A (fun r A' => hJ 0 (N + 72) (N + 144) A0 A' ∧ ∃ z : Int32, r = some (.int z)) := hxC.of (by rfl) (hY188 hA hN a1 a2 (fun r A' h => h))
theorem hY189 {d : Nat} {N : Int} {A0 A : hs_A} (hA : hJ 0 N (N + 72) A0 A) (hN : N ≤ 900000) (a1 : Int32) (a2 : Int32) {P : Option Value → hs_A → Prop} (hP : ∀ (r : Option Value) (A' : hs_A), (hJ 0 (N + 72) (N + 144) A0 A' ∧ ∃ z : Int32, r = some (.int z)) → P r A') : hxa (d + 4) (some (.int)) hm_t189 0 [.ref 368, .int a1, .int a2] [] A P := by
  have k4294967295 := hk_4294967295
  refine hxa_aload_n (by rfl) rfl ?_
  refine hxa_iload_n (by rfl) rfl ?_
  refine hxa_call0 (by rfl) (by rfl) (by rfl) (by rfl) (by rfl) (by rfl) (hX167 (d := d + 2) hA a1) ?_
  rintro _ _ ⟨rfl, z1, rfl, fz1⟩
  rcases fz1 with fz1 | fz1
  ·
    refine hxj_zeq (by rfl) rfl (fun q2 => False.elim (by omega)) (fun q2 => ?_)
    refine hxa_iload_n (by rfl) rfl ?_
    refine hxa_call2 (by rfl) (by decide) (by rfl) (by rfl) (by rfl) (hX168 (d := d + 2)  a2) ?_
    rintro _ _ ⟨rfl, z3, rfl, fz3⟩
    rcases fz3 with fz3 | fz3
    ·
      refine hxj_zne (by rfl) rfl (fun q4 => ?_) (fun q4 => False.elim (by omega))
      refine hxa_aload_n (by rfl) rfl ?_
      refine hxa_call0 (by rfl) (by rfl) (by rfl) (by rfl) (by rfl) (by rfl) (hX171 (d := d + 3) hA ) ?_
      rintro _ A5 ⟨hA5, rfl⟩
      refine hxa_aload_n (by rfl) rfl ?_
      refine hxa_iload_n (by rfl) rfl ?_
      refine hxa_iload_n (by rfl) rfl ?_
      refine hxa_aload_n (by rfl) rfl ?_
      refine hxa_get (v := .ref 397) (by rfl) (by rfl) (by rfl) rfl ?_
      refine hxa_bipush (by rfl) rfl ?_
      refine hxj_iald396 (by rfl) hk_70 (by omega) (by omega) hA5 (fun z6 ez6 fz6 => ?_)
      refine hxa_call0 (by rfl) (by rfl) (by rfl) (by rfl) (by rfl) (by rfl) (hX181 (d := d + 0) hA5 a1 (by omega) (by omega) a2 z6) ?_
      rintro _ A7 ⟨hA7, z8, rfl, fz8⟩
      exact hxa_ireturn (by rfl) rfl (hP _ _ ⟨(hJ.mono hA7 (by omega) (by omega)), _, rfl⟩)
    ·
      refine hxj_zne (by rfl) rfl (fun q9 => False.elim (by omega)) (fun q9 => ?_)
      refine hxa_iconst (by rfl) rfl ?_
      exact hxa_ireturn (by rfl) rfl (hP _ _ ⟨(hJ.mono hA (by omega) (by omega)), _, rfl⟩)
  ·
    refine hxj_zeq (by rfl) rfl (fun q10 => ?_) (fun q10 => False.elim (by omega))
    refine hxa_iconst (by rfl) rfl ?_
    exact hxa_ireturn (by rfl) rfl (hP _ _ ⟨(hJ.mono hA (by omega) (by omega)), _, rfl⟩)
theorem hX189 {d : Nat} {N : Int} {A0 A : hs_A} (hA : hJ 0 N (N + 72) A0 A) (hN : N ≤ 900000) (a1 : Int32) (a2 : Int32) : hxC (d + 5) 189 hm_m189 [.ref 368, .int a1, .int a2] A (fun r A' => hJ 0 (N + 72) (N + 144) A0 A' ∧ ∃ z : Int32, r = some (.int z)) := hxC.of (by rfl) (hY189 hA hN a1 a2 (fun r A' h => h))
theorem hY190 {d : Nat} {Bn Br : Int} {A0 A : hs_A} (hA : hJ 0 Bn Br A0 A) (hBr : Br ≤ Bn + 72)  {P : Option Value → hs_A → Prop} (hP : ∀ (r : Option Value) (A' : hs_A), (hJ 0 (Bn + 72) Br A0 A' ∧ r = none) → P r A') : hxa (d + 1) none hm_t190 0 [.ref 368, .retAddr 0] [] A P := by
  have k0 := hk_0
  have L51 : ∀ (m51 : Nat) (w51_0 : Int32) (x51_1 : Int32) (Ac51 : hs_A) (hAc51 : hJ 0 Bn Br A0 Ac51) (ek51_0 : Ac51.1 367 51 = w51_0) (bx51_1 : 0 ≤ x51_1.toInt) (cx51_1 : x51_1.toInt ≤ 73) (bw51_0 : 0 ≤ w51_0.toInt) (cw51_0 : w51_0.toInt ≤ 39) (hm51 : 73 - x51_1.toInt < (m51 : Int)), hxa (d + 1) none hm_t190 51 [.ref 368, .int x51_1] [] Ac51 P := by
    intro m51
    induction m51 with
    | zero => intro w51_0 x51_1 Ac51 hAc51 ek51_0 bx51_1 cx51_1 bw51_0 cw51_0 hm51;  exact False.elim (by omega)
    | succ m51 ih51 =>
      intro w51_0 x51_1 Ac51 hAc51 ek51_0 bx51_1 cx51_1 bw51_0 cw51_0 hm51
      refine hxa_iload_n (by rfl) rfl ?_
      refine hxa_bipush (by rfl) rfl ?_
      refine hxj_cge (by rfl) rfl hk_73 (fun q1 => ?_) (fun q1 => ?_)
      ·
        refine hxa_aload_n (by rfl) rfl ?_
        refine hxa_dupR (by rfl) ?_
        refine hxj_getK (by rfl) (by rfl) (by rfl) ek51_0 ?_
        refine hxa_iconst (by rfl) rfl ?_
        refine hxj_iadd (by rfl) rfl hk_1 (by omega) (by omega) (fun z2 ez2 => ?_)
        refine hxj_putI (by rfl) (by rfl) (by rfl) (by rfl) hAc51 (hbok (by rfl) rfl (by omega) (by omega)) (by rfl) (by rfl) (fun A3 hA3 eA3 fA3 => ?_)
        refine hxa_aload_n (by rfl) rfl ?_
        refine hxa_call0 (by rfl) (by rfl) (by rfl) (by rfl) (by rfl) (by rfl) (hX170 (d := d + 0) hA3 (by omega)) ?_
        rintro _ A4 ⟨hA4, rfl⟩
        exact hxa_return (by rfl) rfl (hP _ _ ⟨hA4, rfl⟩)
      ·
        refine hxa_aload_n (by rfl) rfl ?_
        refine hxa_get (v := .ref 400) (by rfl) (by rfl) (by rfl) rfl ?_
        refine hxa_bipush (by rfl) rfl ?_
        refine hxa_aload_n (by rfl) rfl ?_
        refine hxj_getK (by rfl) (by rfl) (by rfl) ek51_0 ?_
        refine hxj_imul (by rfl) hk_73 rfl (by omega) (by omega) (fun z5 ez5 => ?_)
        refine hxa_iload_n (by rfl) rfl ?_
        refine hxj_iadd (by rfl) rfl rfl (by omega) (by omega) (fun z6 ez6 => ?_)
        refine hxa_aload_n (by rfl) rfl ?_
        refine hxa_get (v := .ref 396) (by rfl) (by rfl) (by rfl) rfl ?_
        refine hxa_iload_n (by rfl) rfl ?_
        refine hxj_iald395 (by rfl) rfl (by omega) (by omega) hAc51 (fun z7 ez7 fz7 => ?_)
        refine hxj_iast399 (by rfl) rfl (by omega) (by omega) rfl hAc51 (by omega) (fun A8 hA8 eA8 fA8 gA8 => ?_)
        refine hxj_iinc (by rfl) rfl rfl hk_1 (by omega) (by omega) (fun _ => rfl) (fun z9 ez9 => ?_)
        refine hxa_goto (by rfl) ?_
        exact ih51 w51_0 z9 A8 hA8 (hkA eA8 ek51_0) (by omega) (by omega) (by omega) (by omega) (by omega)
  have L11 : ∀ (m11 : Nat) (w11_0 : Int32) (x11_1 : Int32) (Ac11 : hs_A) (hAc11 : hJ 0 Bn Br A0 Ac11) (ek11_0 : Ac11.1 367 51 = w11_0) (bx11_1 : 0 ≤ x11_1.toInt) (cx11_1 : x11_1.toInt ≤ 2847) (bw11_0 : 40 ≤ w11_0.toInt) (cw11_0 : w11_0.toInt ≤ 40) (hm11 : 2847 - x11_1.toInt < (m11 : Int)), hxa (d + 1) none hm_t190 11 [.ref 368, .int x11_1] [] Ac11 P := by
    intro m11
    induction m11 with
    | zero => intro w11_0 x11_1 Ac11 hAc11 ek11_0 bx11_1 cx11_1 bw11_0 cw11_0 hm11;  exact False.elim (by omega)
    | succ m11 ih11 =>
      intro w11_0 x11_1 Ac11 hAc11 ek11_0 bx11_1 cx11_1 bw11_0 cw11_0 hm11
      refine hxa_iload_n (by rfl) rfl ?_
      refine hxa_sipush (by rfl) rfl ?_
      refine hxj_cge (by rfl) rfl hk_2847 (fun q10 => ?_) (fun q10 => ?_)
      ·
        refine hxa_aload_n (by rfl) rfl ?_
        refine hxa_dupR (by rfl) ?_
        refine hxj_getK (by rfl) (by rfl) (by rfl) ek11_0 ?_
        refine hxa_iconst (by rfl) rfl ?_
        refine hxj_isub (by rfl) rfl hk_1 (by omega) (by omega) (fun z11 ez11 => ?_)
        refine hxj_putI (by rfl) (by rfl) (by rfl) (by rfl) hAc11 (hbok (by rfl) rfl (by omega) (by omega)) (by rfl) (by rfl) (fun A12 hA12 eA12 fA12 => ?_)
        refine hxa_iconst (by rfl) rfl ?_
        refine hxa_s1 (by rfl) (Or.inl ⟨_, rfl, rfl⟩) rfl ?_
        exact L51 (Int.toNat (73 - 0) + 1) z11 (Int32.ofNat 0) A12 hA12 (hkS eA12) (by omega) (by omega) (by omega) (by omega) (by omega)
      ·
        refine hxa_aload_n (by rfl) rfl ?_
        refine hxa_get (v := .ref 400) (by rfl) (by rfl) (by rfl) rfl ?_
        refine hxa_iload_n (by rfl) rfl ?_
        refine hxa_aload_n (by rfl) rfl ?_
        refine hxa_get (v := .ref 400) (by rfl) (by rfl) (by rfl) rfl ?_
        refine hxa_iload_n (by rfl) rfl ?_
        refine hxa_bipush (by rfl) rfl ?_
        refine hxj_iadd (by rfl) rfl hk_73 (by omega) (by omega) (fun z13 ez13 => ?_)
        refine hxj_iald399 (by rfl) rfl (by omega) (by omega) hAc11 (fun z14 ez14 fz14 => ?_)
        refine hxj_iast399 (by rfl) rfl (by omega) (by omega) rfl hAc11 (by omega) (fun A15 hA15 eA15 fA15 gA15 => ?_)
        refine hxj_iinc (by rfl) rfl rfl hk_1 (by omega) (by omega) (fun _ => rfl) (fun z16 ez16 => ?_)
        refine hxa_goto (by rfl) ?_
        exact ih11 w11_0 z16 A15 hA15 (hkA eA15 ek11_0) (by omega) (by omega) (by omega) (by omega) (by omega)
  refine hxa_aload_n (by rfl) rfl ?_
  refine hxj_getB (by rfl) (by rfl) (by rfl) hA (by rfl) (fun z17 ez17 fz17 gz17 => ?_)
  refine hxa_bipush (by rfl) rfl ?_
  refine hxj_cne (by rfl) rfl hk_40 (fun q18 => ?_) (fun q18 => ?_)
  ·
    refine hxa_iconst (by rfl) rfl ?_
    refine hxa_s1 (by rfl) (Or.inl ⟨_, rfl, rfl⟩) rfl ?_
    exact L51 (Int.toNat (73 - 0) + 1) z17 (Int32.ofNat 0) A hA ez17 (by omega) (by omega) (by omega) (by omega) (by omega)
  ·
    refine hxa_iconst (by rfl) rfl ?_
    refine hxa_s1 (by rfl) (Or.inl ⟨_, rfl, rfl⟩) rfl ?_
    exact L11 (Int.toNat (2847 - 0) + 1) z17 (Int32.ofNat 0) A hA ez17 (by omega) (by omega) (by omega) (by omega) (by omega)
theorem hX190 {d : Nat} {Bn Br : Int} {A0 A : hs_A} (hA : hJ 0 Bn Br A0 A) (hBr : Br ≤ Bn + 72)  : hxC (d + 2) 190 hm_m190 [.ref 368] A (fun r A' => hJ 0 (Bn + 72) Br A0 A' ∧ r = none) := hxC.of (by rfl) (hY190 hA hBr (fun r A' h => h))
