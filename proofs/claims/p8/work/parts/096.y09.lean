theorem hY191 {d : Nat} {N : Int} {A0 A : hs_A} (hA : hJ 0 N (N + 72) A0 A) (hN : N ≤ 900000) (a1 : Int32) (a2 : Int32) (p2 : 0 ≤ a2.toInt) (q2 : a2.toInt ≤ 1) {P : Option Value → hs_A → Prop} (hP : ∀ (r : Option Value) (A' : hs_A), (hJ 0 (N + 72) (N + 144) A0 A' ∧ ∃ z : Int32, r = some (.int z) ∧ ((0 ≤ z.toInt ∧ z.toInt ≤ 1))) → P r A') : hxa (d + 2) (some (.boolean)) hm_t191 0 [.ref 368, .int a1, .int a2] [] A P := by
  have k0 := hk_0
  have k1 := hk_1
  have L26 : ∀ (y26_0 : Int32) (by26_0 : 0 ≤ y26_0.toInt) (cy26_0 : y26_0.toInt ≤ 1) (ba1 : 0 ≤ a1.toInt) (ca1 : a1.toInt ≤ 9), hxa (d + 2) (some (.boolean)) hm_t191 26 [.ref 368, .int a1, .int a2] [.int y26_0] A P := by
    intro y26_0 by26_0 cy26_0 ba1 ca1
    refine hxa_iload_n (by rfl) rfl ?_
    refine hxj_cne (by rfl) rfl rfl (fun q1 => ?_) (fun q1 => ?_)
    ·
      refine hxa_aload_n (by rfl) rfl ?_
      refine hxa_call0 (by rfl) (by rfl) (by rfl) (by rfl) (by rfl) (by rfl) (hX171 (d := d + 1) hA ) ?_
      rintro _ A2 ⟨hA2, rfl⟩
      refine hxa_aload_n (by rfl) rfl ?_
      refine hxa_get (v := .ref 397) (by rfl) (by rfl) (by rfl) rfl ?_
      refine hxa_bipush (by rfl) rfl ?_
      refine hxa_iload_n (by rfl) rfl ?_
      refine hxj_iadd (by rfl) hk_50 rfl (by omega) (by omega) (fun z3 ez3 => ?_)
      refine hxa_iload_n (by rfl) rfl ?_
      refine hxj_zeq (by rfl) rfl (fun q4 => ?_) (fun q4 => ?_)
      ·
        refine hxa_iconst (by rfl) rfl ?_
        refine hxj_iast396 (by rfl) rfl (by omega) (by omega) hk_0 hA2 (by omega) (fun A5 hA5 eA5 fA5 gA5 => ?_)
        refine hxa_aload_n (by rfl) rfl ?_
        refine hxa_call0 (by rfl) (by rfl) (by rfl) (by rfl) (by rfl) (by rfl) (hX190 (d := d + 0) hA5 (by omega)) ?_
        rintro _ A6 ⟨hA6, rfl⟩
        refine hxa_iconst (by rfl) rfl ?_
        exact hxa_ireturn (by rfl) (by rfl) (hP _ _ ⟨(hJ.mono hA6 (by omega) (by omega)), _, rfl, by omega⟩)
      ·
        refine hxa_iconst (by rfl) rfl ?_
        refine hxa_goto (by rfl) ?_
        refine hxj_iast396 (by rfl) rfl (by omega) (by omega) hk_1 hA2 (by omega) (fun A7 hA7 eA7 fA7 gA7 => ?_)
        refine hxa_aload_n (by rfl) rfl ?_
        refine hxa_call0 (by rfl) (by rfl) (by rfl) (by rfl) (by rfl) (by rfl) (hX190 (d := d + 0) hA7 (by omega)) ?_
        rintro _ A8 ⟨hA8, rfl⟩
        refine hxa_iconst (by rfl) rfl ?_
        exact hxa_ireturn (by rfl) (by rfl) (hP _ _ ⟨(hJ.mono hA8 (by omega) (by omega)), _, rfl, by omega⟩)
    ·
      refine hxa_iconst (by rfl) rfl ?_
      exact hxa_ireturn (by rfl) (by rfl) (hP _ _ ⟨(hJ.mono hA (by omega) (by omega)), _, rfl, by omega⟩)
  refine hxa_aload_n (by rfl) rfl ?_
  refine hxa_iload_n (by rfl) rfl ?_
  refine hxa_call0 (by rfl) (by rfl) (by rfl) (by rfl) (by rfl) (by rfl) (hX167 (d := d + 0) hA a1) ?_
  rintro _ _ ⟨rfl, z9, rfl, fz9⟩
  rcases fz9 with fz9 | fz9
  ·
    refine hxj_zeq (by rfl) rfl (fun q10 => False.elim (by omega)) (fun q10 => ?_)
    refine hxa_aload_n (by rfl) rfl ?_
    refine hxa_get (v := .ref 396) (by rfl) (by rfl) (by rfl) rfl ?_
    refine hxa_bipush (by rfl) rfl ?_
    refine hxa_iload_n (by rfl) rfl ?_
    refine hxj_iadd (by rfl) hk_50 rfl (by omega) (by omega) (fun z11 ez11 => ?_)
    refine hxj_iald395 (by rfl) rfl (by omega) (by omega) hA (fun z12 ez12 fz12 => ?_)
    refine hxa_iconst (by rfl) rfl ?_
    refine hxj_cne (by rfl) rfl hk_1 (fun q13 => ?_) (fun q13 => ?_)
    ·
      refine hxa_iconst (by rfl) rfl ?_
      exact L26 (Int32.ofNat 0) (by omega) (by omega) (by omega) (by omega)
    ·
      refine hxa_iconst (by rfl) rfl ?_
      refine hxa_goto (by rfl) ?_
      exact L26 (Int32.ofNat 1) (by omega) (by omega) (by omega) (by omega)
  ·
    refine hxj_zeq (by rfl) rfl (fun q14 => ?_) (fun q14 => False.elim (by omega))
    refine hxa_iconst (by rfl) rfl ?_
    exact hxa_ireturn (by rfl) (by rfl) (hP _ _ ⟨(hJ.mono hA (by omega) (by omega)), _, rfl, by omega⟩)
theorem hX191 {d : Nat} {N : Int} {A0 A : hs_A} (hA : hJ 0 N (N + 72) A0 A) (hN : N ≤ 900000) (a1 : Int32) (a2 : Int32) (p2 : 0 ≤ a2.toInt) (q2 : a2.toInt ≤ 1) : hxC (d + 3) 191 hm_m191 [.ref 368, .int a1, .int a2] A (fun r A' => hJ 0 (N + 72) (N + 144) A0 A' ∧ ∃ z : Int32, r = some (.int z) ∧ ((0 ≤ z.toInt ∧ z.toInt ≤ 1))) := hxC.of (by rfl) (hY191 hA hN a1 a2 p2 q2 (fun r A' h => h))
theorem hY192 {d : Nat} {N : Int} {A0 A : hs_A} (hA : hJ 0 N (N + 72) A0 A) (hN : N ≤ 900000) (a1 : Int32) {P : Option Value → hs_A → Prop} (hP : ∀ (r : Option Value) (A' : hs_A), (hJ 0 (N + 72) (N + 144) A0 A' ∧ ∃ z : Int32, r = some (.int z) ∧ ((0 ≤ z.toInt ∧ z.toInt ≤ 1))) → P r A') : hxa (d + 2) (some (.boolean)) hm_t192 0 [.ref 368, .int a1] [] A P := by
  have k0 := hk_0
  have k1 := hk_1
  refine hxa_iload_n (by rfl) rfl ?_
  refine hxa_call2 (by rfl) (by decide) (by rfl) (by rfl) (by rfl) (hX168 (d := d + 0)  a1) ?_
  rintro _ _ ⟨rfl, z1, rfl, fz1⟩
  rcases fz1 with fz1 | fz1
  ·
    refine hxj_zeq (by rfl) rfl (fun q2 => False.elim (by omega)) (fun q2 => ?_)
    refine hxa_aload_n (by rfl) rfl ?_
    refine hxa_get (v := .ref 377) (by rfl) (by rfl) (by rfl) rfl ?_
    refine hxa_aload_n (by rfl) rfl ?_
    refine hxj_getB (by rfl) (by rfl) (by rfl) hA (by rfl) (fun z3 ez3 fz3 gz3 => ?_)
    refine hxj_ialdB (by rfl) (by rfl) rfl (by omega) (by omega) hA (by rfl) (fun z4 ez4 fz4 gz4 => ?_)
    refine hxj_zne (by rfl) rfl (fun q5 => ?_) (fun q5 => ?_)
    ·
      refine hxa_aload_n (by rfl) rfl ?_
      refine hxa_call0 (by rfl) (by rfl) (by rfl) (by rfl) (by rfl) (by rfl) (hX171 (d := d + 1) hA ) ?_
      rintro _ A6 ⟨hA6, rfl⟩
      refine hxa_aload_n (by rfl) rfl ?_
      refine hxa_get (v := .ref 397) (by rfl) (by rfl) (by rfl) rfl ?_
      refine hxa_bipush (by rfl) rfl ?_
      refine hxa_iload_n (by rfl) rfl ?_
      refine hxj_iast396 (by rfl) hk_71 (by omega) (by omega) rfl hA6 (by omega) (fun A7 hA7 eA7 fA7 gA7 => ?_)
      refine hxa_aload_n (by rfl) rfl ?_
      refine hxa_call0 (by rfl) (by rfl) (by rfl) (by rfl) (by rfl) (by rfl) (hX190 (d := d + 0) hA7 (by omega)) ?_
      rintro _ A8 ⟨hA8, rfl⟩
      refine hxa_iconst (by rfl) rfl ?_
      exact hxa_ireturn (by rfl) (by rfl) (hP _ _ ⟨(hJ.mono hA8 (by omega) (by omega)), _, rfl, by omega⟩)
    ·
      refine hxa_iconst (by rfl) rfl ?_
      exact hxa_ireturn (by rfl) (by rfl) (hP _ _ ⟨(hJ.mono hA (by omega) (by omega)), _, rfl, by omega⟩)
  ·
    refine hxj_zeq (by rfl) rfl (fun q9 => ?_) (fun q9 => False.elim (by omega))
    refine hxa_iconst (by rfl) rfl ?_
    exact hxa_ireturn (by rfl) (by rfl) (hP _ _ ⟨(hJ.mono hA (by omega) (by omega)), _, rfl, by omega⟩)
theorem hX192 {d : Nat} {N : Int} {A0 A : hs_A} (hA : hJ 0 N (N + 72) A0 A) (hN : N ≤ 900000) (a1 : Int32) : hxC (d + 3) 192 hm_m192 [.ref 368, .int a1] A (fun r A' => hJ 0 (N + 72) (N + 144) A0 A' ∧ ∃ z : Int32, r = some (.int z) ∧ ((0 ≤ z.toInt ∧ z.toInt ≤ 1))) := hxC.of (by rfl) (hY192 hA hN a1 (fun r A' h => h))
theorem hY193 {d : Nat} {N : Int} {A0 A : hs_A} (hA : hJ 0 N (N + 72) A0 A) (hN : N ≤ 900000) (a1 : Int32) (a2 : Int32) {P : Option Value → hs_A → Prop} (hP : ∀ (r : Option Value) (A' : hs_A), (hJ 0 (N + 72) (N + 144) A0 A' ∧ ∃ z : Int32, r = some (.int z)) → P r A') : hxa (d + 2) (some (.int)) hm_t193 0 [.ref 368, .int a1, .int a2] [] A P := by
  have k4294967295 := hk_4294967295
  refine hxa_aload_n (by rfl) rfl ?_
  refine hxa_iload_n (by rfl) rfl ?_
  refine hxa_call0 (by rfl) (by rfl) (by rfl) (by rfl) (by rfl) (by rfl) (hX167 (d := d + 0) hA a1) ?_
  rintro _ _ ⟨rfl, z1, rfl, fz1⟩
  rcases fz1 with fz1 | fz1
  ·
    refine hxj_zeq (by rfl) rfl (fun q2 => False.elim (by omega)) (fun q2 => ?_)
    refine hxa_aload_n (by rfl) rfl ?_
    refine hxa_iload_n (by rfl) rfl ?_
    refine hxa_call0 (by rfl) (by rfl) (by rfl) (by rfl) (by rfl) (by rfl) (hX167 (d := d + 0) hA a2) ?_
    rintro _ _ ⟨rfl, z3, rfl, fz3⟩
    rcases fz3 with fz3 | fz3
    ·
      refine hxj_zeq (by rfl) rfl (fun q4 => False.elim (by omega)) (fun q4 => ?_)
      refine hxa_iload_n (by rfl) rfl ?_
      refine hxa_iload_n (by rfl) rfl ?_
      refine hxj_cne (by rfl) rfl rfl (fun q5 => ?_) (fun q5 => ?_)
      ·
        refine hxa_aload_n (by rfl) rfl ?_
        refine hxa_call0 (by rfl) (by rfl) (by rfl) (by rfl) (by rfl) (by rfl) (hX171 (d := d + 1) hA ) ?_
        rintro _ A6 ⟨hA6, rfl⟩
        refine hxa_aload_n (by rfl) rfl ?_
        refine hxa_get (v := .ref 397) (by rfl) (by rfl) (by rfl) rfl ?_
        refine hxa_bipush (by rfl) rfl ?_
        refine hxa_iload_n (by rfl) rfl ?_
        refine hxj_iadd (by rfl) hk_30 rfl (by omega) (by omega) (fun z7 ez7 => ?_)
        refine hxa_aload_n (by rfl) rfl ?_
        refine hxa_get (v := .ref 397) (by rfl) (by rfl) (by rfl) rfl ?_
        refine hxa_bipush (by rfl) rfl ?_
        refine hxa_iload_n (by rfl) rfl ?_
        refine hxj_iadd (by rfl) hk_30 rfl (by omega) (by omega) (fun z8 ez8 => ?_)
        refine hxj_iald396 (by rfl) rfl (by omega) (by omega) hA6 (fun z9 ez9 fz9 => ?_)
        refine hxj_iast396 (by rfl) rfl (by omega) (by omega) rfl hA6 (by omega) (fun A10 hA10 eA10 fA10 gA10 => ?_)
        refine hxa_aload_n (by rfl) rfl ?_
        refine hxa_get (v := .ref 397) (by rfl) (by rfl) (by rfl) rfl ?_
        refine hxa_bipush (by rfl) rfl ?_
        refine hxa_iload_n (by rfl) rfl ?_
        refine hxj_iadd (by rfl) hk_40 rfl (by omega) (by omega) (fun z11 ez11 => ?_)
        refine hxa_dup2IR (by rfl) ?_
        refine hxj_iald396 (by rfl) rfl (by omega) (by omega) hA10 (fun z12 ez12 fz12 => ?_)
        refine hxa_aload_n (by rfl) rfl ?_
        refine hxa_get (v := .ref 397) (by rfl) (by rfl) (by rfl) rfl ?_
        refine hxa_bipush (by rfl) rfl ?_
        refine hxa_iload_n (by rfl) rfl ?_
        refine hxj_iadd (by rfl) hk_30 rfl (by omega) (by omega) (fun z13 ez13 => ?_)
        refine hxj_iald396 (by rfl) rfl (by omega) (by omega) hA10 (fun z14 ez14 fz14 => ?_)
        refine hxa_aload_n (by rfl) rfl ?_
        refine hxa_get (v := .ref 397) (by rfl) (by rfl) (by rfl) rfl ?_
        refine hxa_iload_n (by rfl) rfl ?_
        refine hxj_iald396 (by rfl) rfl (by omega) (by omega) hA10 (fun z15 ez15 fz15 => ?_)
        refine hxj_iandU (by rfl) (fun z16 => ?_)
        refine hxj_iorU (by rfl) (fun z17 => ?_)
        refine hxj_iast396 (by rfl) rfl (by omega) (by omega) rfl hA10 (by omega) (fun A18 hA18 eA18 fA18 gA18 => ?_)
        refine hxa_aload_n (by rfl) rfl ?_
        refine hxa_call0 (by rfl) (by rfl) (by rfl) (by rfl) (by rfl) (by rfl) (hX190 (d := d + 0) hA18 (by omega)) ?_
        rintro _ A19 ⟨hA19, rfl⟩
        refine hxa_aload_n (by rfl) rfl ?_
        refine hxa_get (v := .ref 396) (by rfl) (by rfl) (by rfl) rfl ?_
        refine hxa_bipush (by rfl) rfl ?_
        refine hxa_iload_n (by rfl) rfl ?_
        refine hxj_iadd (by rfl) hk_30 rfl (by omega) (by omega) (fun z20 ez20 => ?_)
        refine hxj_iald395 (by rfl) rfl (by omega) (by omega) hA19 (fun z21 ez21 fz21 => ?_)
        exact hxa_ireturn (by rfl) rfl (hP _ _ ⟨(hJ.mono hA19 (by omega) (by omega)), _, rfl⟩)
      ·
        refine hxa_iconst (by rfl) rfl ?_
        exact hxa_ireturn (by rfl) rfl (hP _ _ ⟨(hJ.mono hA (by omega) (by omega)), _, rfl⟩)
    ·
      refine hxj_zeq (by rfl) rfl (fun q22 => ?_) (fun q22 => False.elim (by omega))
      refine hxa_iconst (by rfl) rfl ?_
      exact hxa_ireturn (by rfl) rfl (hP _ _ ⟨(hJ.mono hA (by omega) (by omega)), _, rfl⟩)
  ·
    refine hxj_zeq (by rfl) rfl (fun q23 => ?_) (fun q23 => False.elim (by omega))
    refine hxa_iconst (by rfl) rfl ?_
    exact hxa_ireturn (by rfl) rfl (hP _ _ ⟨(hJ.mono hA (by omega) (by omega)), _, rfl⟩)
theorem hX193 {d : Nat} {N : Int} {A0 A : hs_A} (hA : hJ 0 N (N + 72) A0 A) (hN : N ≤ 900000) (a1 : Int32) (a2 : Int32) : hxC (d + 3) 193 hm_m193 [.ref 368, .int a1, .int a2] A (fun r A' => hJ 0 (N + 72) (N + 144) A0 A' ∧ ∃ z : Int32, r = some (.int z)) := hxC.of (by rfl) (hY193 hA hN a1 a2 (fun r A' h => h))
theorem hY194 {d : Nat} {Bn Br : Int} {A0 A : hs_A} (hA : hJ 0 Bn Br A0 A)  (a1 : Int32) (p1 : 0 ≤ a1.toInt) (q1 : a1.toInt ≤ 9) (a2 : Int32) (p2 : 0 ≤ a2.toInt) (q2 : a2.toInt ≤ 9) {P : Option Value → hs_A → Prop} (hP : ∀ (r : Option Value) (A' : hs_A), (hJ 0 Bn Br A0 A' ∧ r = none) → P r A') : hxa (d + 0) none hm_t194 0 [.ref 368, .int a1, .int a2, .retAddr 0, .retAddr 0] [] A P := by
  have k0 := hk_0
  have L2 : ∀ (m2 : Nat) (x2_3 : Int32) (x2_4 : Value) (Ac2 : hs_A) (hAc2 : hJ 0 Bn Br A0 Ac2) (bx2_3 : 0 ≤ x2_3.toInt) (cx2_3 : x2_3.toInt ≤ 255) (hm2 : 255 - x2_3.toInt < (m2 : Int)), hxa (d + 0) none hm_t194 2 [.ref 368, .int a1, .int a2, .int x2_3, x2_4] [] Ac2 P := by
    intro m2
    induction m2 with
    | zero => intro x2_3 x2_4 Ac2 hAc2 bx2_3 cx2_3 hm2;  exact False.elim (by omega)
    | succ m2 ih2 =>
      intro x2_3 x2_4 Ac2 hAc2 bx2_3 cx2_3 hm2
      refine hxa_iload_n (by rfl) rfl ?_
      refine hxa_bipush (by rfl) rfl ?_
      refine hxj_cge (by rfl) rfl hk_50 (fun q1 => ?_) (fun q1 => ?_)
      ·
        exact hxa_return (by rfl) rfl (hP _ _ ⟨hAc2, rfl⟩)
      ·
        refine hxa_iload_n (by rfl) rfl ?_
        refine hxa_bipush (by rfl) rfl ?_
        refine hxj_cne (by rfl) rfl hk_30 (fun q2 => ?_) (fun q2 => ?_)
        ·
          refine hxa_aload_n (by rfl) rfl ?_
          refine hxa_get (v := .ref 397) (by rfl) (by rfl) (by rfl) rfl ?_
          refine hxa_iload_n (by rfl) rfl ?_
          refine hxa_iload_n (by rfl) rfl ?_
          refine hxj_iadd (by rfl) rfl rfl (by omega) (by omega) (fun z3 ez3 => ?_)
          refine hxj_iald396 (by rfl) rfl (by omega) (by omega) hAc2 (fun z4 ez4 fz4 => ?_)
          refine hxa_s1 (by rfl) (Or.inr ⟨_, rfl, rfl⟩) rfl ?_
          refine hxa_aload_n (by rfl) rfl ?_
          refine hxa_get (v := .ref 397) (by rfl) (by rfl) (by rfl) rfl ?_
          refine hxa_iload_n (by rfl) rfl ?_
          refine hxa_iload_n (by rfl) rfl ?_
          refine hxj_iadd (by rfl) rfl rfl (by omega) (by omega) (fun z5 ez5 => ?_)
          refine hxa_aload_n (by rfl) rfl ?_
          refine hxa_get (v := .ref 397) (by rfl) (by rfl) (by rfl) rfl ?_
          refine hxa_iload_n (by rfl) rfl ?_
          refine hxa_iload_n (by rfl) rfl ?_
          refine hxj_iadd (by rfl) rfl rfl (by omega) (by omega) (fun z6 ez6 => ?_)
          refine hxj_iald396 (by rfl) rfl (by omega) (by omega) hAc2 (fun z7 ez7 fz7 => ?_)
          refine hxj_iast396 (by rfl) rfl (by omega) (by omega) rfl hAc2 (by omega) (fun A8 hA8 eA8 fA8 gA8 => ?_)
          refine hxa_aload_n (by rfl) rfl ?_
          refine hxa_get (v := .ref 397) (by rfl) (by rfl) (by rfl) rfl ?_
          refine hxa_iload_n (by rfl) rfl ?_
          refine hxa_iload_n (by rfl) rfl ?_
          refine hxj_iadd (by rfl) rfl rfl (by omega) (by omega) (fun z9 ez9 => ?_)
          refine hxa_iload (by rfl) rfl ?_
          refine hxj_iast396 (by rfl) rfl (by omega) (by omega) rfl hA8 (by omega) (fun A10 hA10 eA10 fA10 gA10 => ?_)
          refine hxj_iinc (by rfl) rfl rfl hk_10 (by omega) (by omega) (fun _ => rfl) (fun z11 ez11 => ?_)
          refine hxa_goto (by rfl) ?_
          exact ih2 z11 (.int z4) A10 hA10 (by omega) (by omega) (by omega)
        ·
          refine hxa_goto (by rfl) ?_
          refine hxj_iinc (by rfl) rfl rfl hk_10 (by omega) (by omega) (fun _ => rfl) (fun z12 ez12 => ?_)
          refine hxa_goto (by rfl) ?_
          exact ih2 z12 (x2_4) Ac2 hAc2 (by omega) (by omega) (by omega)
  refine hxa_iconst (by rfl) rfl ?_
  refine hxa_s1 (by rfl) (Or.inl ⟨_, rfl, rfl⟩) rfl ?_
  exact L2 (Int.toNat (255 - 0) + 1) (Int32.ofNat 0) (.retAddr 0) A hA (by omega) (by omega) (by omega)
theorem hX194 {d : Nat} {Bn Br : Int} {A0 A : hs_A} (hA : hJ 0 Bn Br A0 A)  (a1 : Int32) (p1 : 0 ≤ a1.toInt) (q1 : a1.toInt ≤ 9) (a2 : Int32) (p2 : 0 ≤ a2.toInt) (q2 : a2.toInt ≤ 9) : hxC (d + 1) 194 hm_m194 [.ref 368, .int a1, .int a2] A (fun r A' => hJ 0 Bn Br A0 A' ∧ r = none) := hxC.of (by rfl) (hY194 hA a1 p1 q1 a2 p2 q2 (fun r A' h => h))
theorem hY195 {d : Nat} {N : Int} {A0 A : hs_A} (hA : hJ 0 N (N + 72) A0 A) (hN : N ≤ 900000) (a1 : Int32) (a2 : Int32) {P : Option Value → hs_A → Prop} (hP : ∀ (r : Option Value) (A' : hs_A), (hJ 0 (N + 72) (N + 144) A0 A' ∧ ∃ z : Int32, r = some (.int z) ∧ ((0 ≤ z.toInt ∧ z.toInt ≤ 1))) → P r A') : hxa (d + 2) (some (.boolean)) hm_t195 0 [.ref 368, .int a1, .int a2] [] A P := by
  have k0 := hk_0
  have k1 := hk_1
  refine hxa_aload_n (by rfl) rfl ?_
  refine hxa_iload_n (by rfl) rfl ?_
  refine hxa_call0 (by rfl) (by rfl) (by rfl) (by rfl) (by rfl) (by rfl) (hX167 (d := d + 0) hA a1) ?_
  rintro _ _ ⟨rfl, z1, rfl, fz1⟩
  rcases fz1 with fz1 | fz1
  ·
    refine hxj_zeq (by rfl) rfl (fun q2 => False.elim (by omega)) (fun q2 => ?_)
    refine hxa_aload_n (by rfl) rfl ?_
    refine hxa_iload_n (by rfl) rfl ?_
    refine hxa_call0 (by rfl) (by rfl) (by rfl) (by rfl) (by rfl) (by rfl) (hX167 (d := d + 0) hA a2) ?_
    rintro _ _ ⟨rfl, z3, rfl, fz3⟩
    rcases fz3 with fz3 | fz3
    ·
      refine hxj_zeq (by rfl) rfl (fun q4 => False.elim (by omega)) (fun q4 => ?_)
      refine hxa_iload_n (by rfl) rfl ?_
      refine hxa_iload_n (by rfl) rfl ?_
      refine hxj_cne (by rfl) rfl rfl (fun q5 => ?_) (fun q5 => ?_)
      ·
        refine hxa_aload_n (by rfl) rfl ?_
        refine hxa_call0 (by rfl) (by rfl) (by rfl) (by rfl) (by rfl) (by rfl) (hX171 (d := d + 1) hA ) ?_
        rintro _ A6 ⟨hA6, rfl⟩
        refine hxa_aload_n (by rfl) rfl ?_
        refine hxa_iload_n (by rfl) rfl ?_
        refine hxa_iload_n (by rfl) rfl ?_
        refine hxa_call0 (by rfl) (by rfl) (by rfl) (by rfl) (by rfl) (by rfl) (hX194 (d := d + 1) hA6 a1 (by omega) (by omega) a2 (by omega) (by omega)) ?_
        rintro _ A7 ⟨hA7, rfl⟩
        refine hxa_aload_n (by rfl) rfl ?_
        refine hxa_call0 (by rfl) (by rfl) (by rfl) (by rfl) (by rfl) (by rfl) (hX190 (d := d + 0) hA7 (by omega)) ?_
        rintro _ A8 ⟨hA8, rfl⟩
        refine hxa_iconst (by rfl) rfl ?_
        exact hxa_ireturn (by rfl) (by rfl) (hP _ _ ⟨(hJ.mono hA8 (by omega) (by omega)), _, rfl, by omega⟩)
      ·
        refine hxa_iconst (by rfl) rfl ?_
        exact hxa_ireturn (by rfl) (by rfl) (hP _ _ ⟨(hJ.mono hA (by omega) (by omega)), _, rfl, by omega⟩)
    ·
      refine hxj_zeq (by rfl) rfl (fun q9 => ?_) (fun q9 => False.elim (by omega))
      refine hxa_iconst (by rfl) rfl ?_
      exact hxa_ireturn (by rfl) (by rfl) (hP _ _ ⟨(hJ.mono hA (by omega) (by omega)), _, rfl, by omega⟩)
  ·
    refine hxj_zeq (by rfl) rfl (fun q10 => ?_) (fun q10 => False.elim (by omega))
    refine hxa_iconst (by rfl) rfl ?_
    exact hxa_ireturn (by rfl) (by rfl) (hP _ _ ⟨(hJ.mono hA (by omega) (by omega)), _, rfl, by omega⟩)
theorem hX195 {d : Nat} {N : Int} {A0 A : hs_A} (hA : hJ 0 N (N + 72) A0 A) (hN : N ≤ 900000) (a1 : Int32) (a2 : Int32) : hxC (d + 3) 195 hm_m195 [.ref 368, .int a1, .int a2] A (fun r A' => hJ 0 (N + 72) (N + 144) A0 A' ∧ ∃ z : Int32, r = some (.int z) ∧ ((0 ≤ z.toInt ∧ z.toInt ≤ 1))) := hxC.of (by rfl) (hY195 hA hN a1 a2 (fun r A' h => h))
theorem hY196 {d : Nat} {A : hs_A} (a1 : Int32) {P : Option Value → hs_A → Prop} (hP : ∀ (r : Option Value) (A' : hs_A), (A = A' ∧ ∃ z : Int32, r = some (.int z) ∧ ((z.toInt = 1 ∧ 0 ≤ a1.toInt ∧ a1.toInt ≤ 72) ∨ (z.toInt = 0))) → P r A') : hxa (d + 1) (some (.boolean)) hm_t196 0 [.int a1] [] A P := by
  have k0 := hk_0
  have k72 := hk_72
  refine hxa_iload_n (by rfl) rfl ?_
  refine hxa_iconst (by rfl) rfl ?_
  refine hxa_bipush (by rfl) rfl ?_
  refine hxa_call2 (by rfl) (by decide) (by rfl) (by rfl) (by rfl) (hX164 (d := d + 0)  a1 (Int32.ofNat 0) (Int32.ofNat 72)) ?_
  rintro _ _ ⟨rfl, z1, rfl, fz1⟩
  rcases fz1 with fz1 | fz1
  ·
    exact hxa_ireturn (by rfl) (hn_fitB (by omega) (by omega)) (hP _ _ ⟨rfl, _, rfl, by omega⟩)
  ·
    exact hxa_ireturn (by rfl) (hn_fitB (by omega) (by omega)) (hP _ _ ⟨rfl, _, rfl, by omega⟩)
theorem hX196 {d : Nat} {A : hs_A} (a1 : Int32) : hxC (d + 2) 196 hm_m196 [.int a1] A (fun r A' => A = A' ∧ ∃ z : Int32, r = some (.int z) ∧ ((z.toInt = 1 ∧ 0 ≤ a1.toInt ∧ a1.toInt ≤ 72) ∨ (z.toInt = 0))) := hxC.of (by rfl) (hY196 a1 (fun r A' h => h))
theorem hY197 {d : Nat} {A : hs_A} (a1 : Int32) {P : Option Value → hs_A → Prop} (hP : ∀ (r : Option Value) (A' : hs_A), (A = A' ∧ ∃ z : Int32, r = some (.int z) ∧ ((z.toInt = 1 ∧ 1 ≤ a1.toInt ∧ a1.toInt ≤ 72) ∨ (z.toInt = 0))) → P r A') : hxa (d + 1) (some (.boolean)) hm_t197 0 [.int a1] [] A P := by
  have k1 := hk_1
  have k72 := hk_72
  refine hxa_iload_n (by rfl) rfl ?_
  refine hxa_iconst (by rfl) rfl ?_
  refine hxa_bipush (by rfl) rfl ?_
  refine hxa_call2 (by rfl) (by decide) (by rfl) (by rfl) (by rfl) (hX164 (d := d + 0)  a1 (Int32.ofNat 1) (Int32.ofNat 72)) ?_
  rintro _ _ ⟨rfl, z1, rfl, fz1⟩
  rcases fz1 with fz1 | fz1
  ·
    exact hxa_ireturn (by rfl) (hn_fitB (by omega) (by omega)) (hP _ _ ⟨rfl, _, rfl, by omega⟩)
  ·
    exact hxa_ireturn (by rfl) (hn_fitB (by omega) (by omega)) (hP _ _ ⟨rfl, _, rfl, by omega⟩)
theorem hX197 {d : Nat} {A : hs_A} (a1 : Int32) : hxC (d + 2) 197 hm_m197 [.int a1] A (fun r A' => A = A' ∧ ∃ z : Int32, r = some (.int z) ∧ ((z.toInt = 1 ∧ 1 ≤ a1.toInt ∧ a1.toInt ≤ 72) ∨ (z.toInt = 0))) := hxC.of (by rfl) (hY197 a1 (fun r A' h => h))
theorem hY198 {d : Nat} {N : Int} {A0 A : hs_A} (hA : hJ 0 N (N + 72) A0 A) (hN : N ≤ 900000) (a1 : Int32) {P : Option Value → hs_A → Prop} (hP : ∀ (r : Option Value) (A' : hs_A), (hJ 0 (N + 72) (N + 144) A0 A' ∧ ∃ z : Int32, r = some (.int z)) → P r A') : hxa (d + 6) (some (.int)) hm_t198 0 [.ref 368, .int a1] [] A P := by
  have k4294967295 := hk_4294967295
  refine hxa_iload_n (by rfl) rfl ?_
  refine hxa_call2 (by rfl) (by decide) (by rfl) (by rfl) (by rfl) (hX196 (d := d + 4)  a1) ?_
  rintro _ _ ⟨rfl, z1, rfl, fz1⟩
  rcases fz1 with fz1 | fz1
  ·
    refine hxj_zne (by rfl) rfl (fun q2 => ?_) (fun q2 => False.elim (by omega))
    refine hxa_iload_n (by rfl) rfl ?_
    refine hxj_zne (by rfl) rfl (fun q3 => ?_) (fun q3 => ?_)
    ·
      refine hxa_aload_n (by rfl) rfl ?_
      refine hxa_call0 (by rfl) (by rfl) (by rfl) (by rfl) (by rfl) (by rfl) (hX171 (d := d + 5) hA ) ?_
      rintro _ A4 ⟨hA4, rfl⟩
      refine hxa_aload_n (by rfl) rfl ?_
      refine hxa_iload_n (by rfl) rfl ?_
      refine hxa_call0 (by rfl) (by rfl) (by rfl) (by rfl) (by rfl) (by rfl) (hX185 (d := d + 0) hA4 (by omega) a1 (by omega) (by omega)) ?_
      rintro _ A5 ⟨hA5, rfl⟩
      refine hxa_aload_n (by rfl) rfl ?_
      refine hxa_call0 (by rfl) (by rfl) (by rfl) (by rfl) (by rfl) (by rfl) (hX190 (d := d + 4) hA5 (by omega)) ?_
      rintro _ A6 ⟨hA6, rfl⟩
      refine hxa_aload_n (by rfl) rfl ?_
      refine hxa_get (v := .ref 396) (by rfl) (by rfl) (by rfl) rfl ?_
      refine hxa_bipush (by rfl) rfl ?_
      refine hxj_iald395 (by rfl) hk_70 (by omega) (by omega) hA6 (fun z7 ez7 fz7 => ?_)
      exact hxa_ireturn (by rfl) rfl (hP _ _ ⟨(hJ.mono hA6 (by omega) (by omega)), _, rfl⟩)
    ·
      refine hxa_aload_n (by rfl) rfl ?_
      refine hxa_get (v := .ref 396) (by rfl) (by rfl) (by rfl) rfl ?_
      refine hxa_bipush (by rfl) rfl ?_
      refine hxj_iald395 (by rfl) hk_70 (by omega) (by omega) hA (fun z8 ez8 fz8 => ?_)
      exact hxa_ireturn (by rfl) rfl (hP _ _ ⟨(hJ.mono hA (by omega) (by omega)), _, rfl⟩)
  ·
    refine hxj_zne (by rfl) rfl (fun q9 => False.elim (by omega)) (fun q9 => ?_)
    refine hxa_iconst (by rfl) rfl ?_
    exact hxa_ireturn (by rfl) rfl (hP _ _ ⟨(hJ.mono hA (by omega) (by omega)), _, rfl⟩)
theorem hX198 {d : Nat} {N : Int} {A0 A : hs_A} (hA : hJ 0 N (N + 72) A0 A) (hN : N ≤ 900000) (a1 : Int32) : hxC (d + 7) 198 hm_m198 [.ref 368, .int a1] A (fun r A' => hJ 0 (N + 72) (N + 144) A0 A' ∧ ∃ z : Int32, r = some (.int z)) := hxC.of (by rfl) (hY198 hA hN a1 (fun r A' h => h))
theorem hY199 {d : Nat} {N : Int} {A0 A : hs_A} (hA : hJ 0 N (N + 72) A0 A) (hN : N ≤ 900000)  {P : Option Value → hs_A → Prop} (hP : ∀ (r : Option Value) (A' : hs_A), (hJ 0 (N + 72) (N + 144) A0 A' ∧ ∃ z : Int32, r = some (.int z) ∧ ((0 ≤ z.toInt ∧ z.toInt ≤ 1))) → P r A') : hxa (d + 0) (some (.boolean)) hm_t199 0 [.ref 368, .retAddr 0] [] A P := by
  have k0 := hk_0
  have k1 := hk_1
  have L21 : ∀ (m21 : Nat) (w21_0 : Int32) (x21_1 : Int32) (Ac21 : hs_A) (hAc21 : hJ 0 N (N + 72) A0 Ac21) (ek21_0 : Ac21.1 367 51 = w21_0) (bx21_1 : 0 ≤ x21_1.toInt) (cx21_1 : x21_1.toInt ≤ 73) (bw21_0 : 0 ≤ w21_0.toInt) (cw21_0 : w21_0.toInt ≤ 39) (hm21 : 73 - x21_1.toInt < (m21 : Int)), hxa (d + 0) (some (.boolean)) hm_t199 21 [.ref 368, .int x21_1] [] Ac21 P := by
    intro m21
    induction m21 with
    | zero => intro w21_0 x21_1 Ac21 hAc21 ek21_0 bx21_1 cx21_1 bw21_0 cw21_0 hm21;  exact False.elim (by omega)
    | succ m21 ih21 =>
      intro w21_0 x21_1 Ac21 hAc21 ek21_0 bx21_1 cx21_1 bw21_0 cw21_0 hm21
      refine hxa_iload_n (by rfl) rfl ?_
      refine hxa_bipush (by rfl) rfl ?_
      refine hxj_cge (by rfl) rfl hk_73 (fun q1 => ?_) (fun q1 => ?_)
      ·
        refine hxa_iconst (by rfl) rfl ?_
        exact hxa_ireturn (by rfl) (by rfl) (hP _ _ ⟨(hJ.mono hAc21 (by omega) (by omega)), _, rfl, by omega⟩)
      ·
        refine hxa_aload_n (by rfl) rfl ?_
        refine hxa_get (v := .ref 396) (by rfl) (by rfl) (by rfl) rfl ?_
        refine hxa_iload_n (by rfl) rfl ?_
        refine hxa_aload_n (by rfl) rfl ?_
        refine hxa_get (v := .ref 400) (by rfl) (by rfl) (by rfl) rfl ?_
        refine hxa_bipush (by rfl) rfl ?_
        refine hxa_aload_n (by rfl) rfl ?_
        refine hxj_getK (by rfl) (by rfl) (by rfl) ek21_0 ?_
        refine hxj_imul (by rfl) hk_73 rfl (by omega) (by omega) (fun z2 ez2 => ?_)
        refine hxa_iload_n (by rfl) rfl ?_
        refine hxj_iadd (by rfl) rfl rfl (by omega) (by omega) (fun z3 ez3 => ?_)
        refine hxj_iald399 (by rfl) rfl (by omega) (by omega) hAc21 (fun z4 ez4 fz4 => ?_)
        refine hxj_iast395 (by rfl) rfl (by omega) (by omega) rfl hAc21 (by omega) (fun A5 hA5 eA5 fA5 gA5 => ?_)
        refine hxj_iinc (by rfl) rfl rfl hk_1 (by omega) (by omega) (fun _ => rfl) (fun z6 ez6 => ?_)
        refine hxa_goto (by rfl) ?_
        exact ih21 w21_0 z6 A5 hA5 (hkA eA5 ek21_0) (by omega) (by omega) (by omega) (by omega) (by omega)
  refine hxa_aload_n (by rfl) rfl ?_
  refine hxj_getB (by rfl) (by rfl) (by rfl) hA (by rfl) (fun z7 ez7 fz7 gz7 => ?_)
  refine hxj_zne (by rfl) rfl (fun q8 => ?_) (fun q8 => ?_)
  ·
    refine hxa_aload_n (by rfl) rfl ?_
    refine hxa_dupR (by rfl) ?_
    refine hxj_getK (by rfl) (by rfl) (by rfl) ez7 ?_
    refine hxa_iconst (by rfl) rfl ?_
    refine hxj_isub (by rfl) rfl hk_1 (by omega) (by omega) (fun z9 ez9 => ?_)
    refine hxj_putI (by rfl) (by rfl) (by rfl) (by rfl) hA (hbok (by rfl) rfl (by omega) (by omega)) (by rfl) (by rfl) (fun A10 hA10 eA10 fA10 => ?_)
    refine hxa_iconst (by rfl) rfl ?_
    refine hxa_s1 (by rfl) (Or.inl ⟨_, rfl, rfl⟩) rfl ?_
    exact L21 (Int.toNat (73 - 0) + 1) z9 (Int32.ofNat 0) A10 hA10 (hkS eA10) (by omega) (by omega) (by omega) (by omega) (by omega)
  ·
    refine hxa_iconst (by rfl) rfl ?_
    exact hxa_ireturn (by rfl) (by rfl) (hP _ _ ⟨(hJ.mono hA (by omega) (by omega)), _, rfl, by omega⟩)
theorem hX199 {d : Nat} {N : Int} {A0 A : hs_A} (hA : hJ 0 N (N + 72) A0 A) (hN : N ≤ 900000)  : hxC (d + 1) 199 hm_m199 [.ref 368] A (fun r A' => hJ 0 (N + 72) (N + 144) A0 A' ∧ ∃ z : Int32, r = some (.int z) ∧ ((0 ≤ z.toInt ∧ z.toInt ≤ 1))) := hxC.of (by rfl) (hY199 hA hN (fun r A' h => h))
theorem hY200 {d : Nat} {Bn Br : Int} {A0 A : hs_A} (hA : hJ 0 Bn Br A0 A)  (a1 : Int32) (q1 : a1.toInt ≤ 9) {P : Option Value → hs_A → Prop} (hP : ∀ (r : Option Value) (A' : hs_A), (A = A' ∧ ∃ z : Int32, r = some (.int z)) → P r A') : hxa (d + 1) (some (.int)) hm_t200 0 [.ref 368, .int a1, .retAddr 0] [] A P := by
  have k0 := hk_0
  have k4294967294 := hk_4294967294
  have L2 : ∀ (m2 : Nat) (x2_2 : Int32) (bx2_2 : 0 ≤ x2_2.toInt) (cx2_2 : x2_2.toInt ≤ 10) (hm2 : 10 - x2_2.toInt < (m2 : Int)), hxa (d + 1) (some (.int)) hm_t200 2 [.ref 368, .int a1, .int x2_2] [] A P := by
    intro m2
    induction m2 with
    | zero => intro x2_2 bx2_2 cx2_2 hm2;  exact False.elim (by omega)
    | succ m2 ih2 =>
      intro x2_2 bx2_2 cx2_2 hm2
      refine hxa_iload_n (by rfl) rfl ?_
      refine hxa_iload_n (by rfl) rfl ?_
      have rga1 := hn_rng a1
      refine hxj_cgt (by rfl) rfl rfl (fun q1 => ?_) (fun q1 => ?_)
      ·
        refine hxa_bipush (by rfl) rfl ?_
        exact hxa_ireturn (by rfl) rfl (hP _ _ ⟨rfl, _, rfl⟩)
      ·
        refine hxa_aload_n (by rfl) rfl ?_
        refine hxa_iload_n (by rfl) rfl ?_
        refine hxa_call0 (by rfl) (by rfl) (by rfl) (by rfl) (by rfl) (by rfl) (hX182 (d := d + 0) hA x2_2 (by omega) (by omega)) ?_
        rintro _ _ ⟨rfl, z2, rfl, fz2⟩
        refine hxj_zne (by rfl) rfl (fun q3 => ?_) (fun q3 => ?_)
        ·
          refine hxj_iinc (by rfl) rfl rfl hk_1 (by omega) (by omega) (fun _ => rfl) (fun z4 ez4 => ?_)
          refine hxa_goto (by rfl) ?_
          exact ih2 z4 (by omega) (by omega) (by omega)
        ·
          refine hxa_iload_n (by rfl) rfl ?_
          exact hxa_ireturn (by rfl) rfl (hP _ _ ⟨rfl, _, rfl⟩)
  refine hxa_iconst (by rfl) rfl ?_
  refine hxa_s1 (by rfl) (Or.inl ⟨_, rfl, rfl⟩) rfl ?_
  exact L2 (Int.toNat (10 - 0) + 1) (Int32.ofNat 0) (by omega) (by omega) (by omega)
theorem hX200 {d : Nat} {Bn Br : Int} {A0 A : hs_A} (hA : hJ 0 Bn Br A0 A)  (a1 : Int32) (q1 : a1.toInt ≤ 9) : hxC (d + 2) 200 hm_m200 [.ref 368, .int a1] A (fun r A' => A = A' ∧ ∃ z : Int32, r = some (.int z)) := hxC.of (by rfl) (hY200 hA a1 q1 (fun r A' h => h))
theorem hY201 {d : Nat} {Bn Br : Int} {A0 A : hs_A} (hA : hJ 0 Bn Br A0 A)  (a1 : Int32) (p1 : 0 ≤ a1.toInt) (q1 : a1.toInt ≤ 9) (a2 : Int32) (p2 : 0 ≤ a2.toInt) (q2 : a2.toInt ≤ 255) (a3 : Int32) {P : Option Value → hs_A → Prop} (hP : ∀ (r : Option Value) (A' : hs_A), (hJ 0 Bn Br A0 A' ∧ ∃ z : Int32, r = some (.int z) ∧ ((0 ≤ z.toInt ∧ z.toInt ≤ 255))) → P r A') : hxa (d + 4) (some (.int)) hm_t201 0 [.ref 368, .int a1, .int a2, .int a3, .retAddr 0, .retAddr 0] [] A P := by
  have k0 := hk_0
  have k1 := hk_1
  have L16 : ∀ (m16 : Nat) (x16_4 : Int32) (x16_5 : Int32) (Ac16 : hs_A) (hAc16 : hJ 0 Bn Br A0 Ac16) (bx16_4 : 0 ≤ x16_4.toInt) (cx16_4 : x16_4.toInt ≤ 255) (bx16_5 : 1 ≤ x16_5.toInt) (cx16_5 : x16_5.toInt ≤ 10) (hm16 : 10 - x16_5.toInt < (m16 : Int)), hxa (d + 4) (some (.int)) hm_t201 16 [.ref 368, .int a1, .int a2, .int a3, .int x16_4, .int x16_5] [] Ac16 P := by
    intro m16
    induction m16 with
    | zero => intro x16_4 x16_5 Ac16 hAc16 bx16_4 cx16_4 bx16_5 cx16_5 hm16;  exact False.elim (by omega)
    | succ m16 ih16 =>
      intro x16_4 x16_5 Ac16 hAc16 bx16_4 cx16_4 bx16_5 cx16_5 hm16
      refine hxa_iload (by rfl) rfl ?_
      refine hxa_iload_n (by rfl) rfl ?_
      refine hxj_cgt (by rfl) rfl rfl (fun q1 => ?_) (fun q1 => ?_)
      ·
        refine hxa_iload (by rfl) rfl ?_
        exact hxa_ireturn (by rfl) rfl (hP _ _ ⟨hAc16, _, rfl, by omega⟩)
      ·
        refine hxa_aload_n (by rfl) rfl ?_
        refine hxa_iload (by rfl) rfl ?_
        refine hxa_iload (by rfl) rfl ?_
        refine hxa_iload_n (by rfl) rfl ?_
        refine hxa_iload (by rfl) rfl ?_
        refine hxj_iaddU (by rfl) (fun z2 => ?_)
        refine hxa_call0 (by rfl) (by rfl) (by rfl) (by rfl) (by rfl) (by rfl) (hX181 (d := d + 0) hAc16 x16_5 (by omega) (by omega) x16_4 z2) ?_
        rintro _ A3 ⟨hA3, z4, rfl, fz4⟩
        refine hxa_s1 (by rfl) (Or.inr ⟨_, rfl, rfl⟩) rfl ?_
        refine hxj_iinc (by rfl) rfl rfl hk_1 (by omega) (by omega) (fun _ => rfl) (fun z5 ez5 => ?_)
        refine hxa_goto (by rfl) ?_
        exact ih16 z4 z5 A3 hA3 (by omega) (by omega) (by omega) (by omega) (by omega)
  refine hxa_aload_n (by rfl) rfl ?_
  refine hxa_iload_n (by rfl) rfl ?_
  refine hxa_call0 (by rfl) (by rfl) (by rfl) (by rfl) (by rfl) (by rfl) (hX200 (d := d + 2) hA a1 (by omega)) ?_
  rintro _ _ ⟨rfl, z6, rfl⟩
  refine hxj_zlt (by rfl) rfl (fun q7 => ?_) (fun q7 => ?_)
  ·
    refine hxa_iload_n (by rfl) rfl ?_
    refine hxa_s1 (by rfl) (Or.inr ⟨_, rfl, rfl⟩) rfl ?_
    refine hxa_iconst (by rfl) rfl ?_
    refine hxa_s1 (by rfl) (Or.inr ⟨_, rfl, rfl⟩) rfl ?_
    exact L16 (Int.toNat (10 - 1) + 1) a2 (Int32.ofNat 1) A hA (by omega) (by omega) (by omega) (by omega) (by omega)
  ·
    refine hxa_iconst (by rfl) rfl ?_
    exact hxa_ireturn (by rfl) rfl (hP _ _ ⟨hA, _, rfl, by omega⟩)
theorem hX201 {d : Nat} {Bn Br : Int} {A0 A : hs_A} (hA : hJ 0 Bn Br A0 A)  (a1 : Int32) (p1 : 0 ≤ a1.toInt) (q1 : a1.toInt ≤ 9) (a2 : Int32) (p2 : 0 ≤ a2.toInt) (q2 : a2.toInt ≤ 255) (a3 : Int32) : hxC (d + 5) 201 hm_m201 [.ref 368, .int a1, .int a2, .int a3] A (fun r A' => hJ 0 Bn Br A0 A' ∧ ∃ z : Int32, r = some (.int z) ∧ ((0 ≤ z.toInt ∧ z.toInt ≤ 255))) := hxC.of (by rfl) (hY201 hA a1 p1 q1 a2 p2 q2 a3 (fun r A' h => h))
theorem hY202 {d : Nat} {Bn Br : Int} {A0 A : hs_A} (hA : hJ 0 Bn Br A0 A)  (a1 : Int32) (p1 : 0 ≤ a1.toInt) (q1 : a1.toInt ≤ 9) (a2 : Int32) (p2 : 0 ≤ a2.toInt) (q2 : a2.toInt ≤ 255) {P : Option Value → hs_A → Prop} (hP : ∀ (r : Option Value) (A' : hs_A), (hJ 0 Bn Br A0 A' ∧ ∃ z : Int32, r = some (.int z) ∧ ((0 ≤ z.toInt ∧ z.toInt ≤ 255))) → P r A') : hxa (d + 5) (some (.int)) hm_t202 0 [.ref 368, .int a1, .int a2] [] A P := by
  refine hxa_aload_n (by rfl) rfl ?_
  refine hxa_iload_n (by rfl) rfl ?_
  refine hxa_iload_n (by rfl) rfl ?_
  refine hxa_aload_n (by rfl) rfl ?_
  refine hxa_get (v := .ref 397) (by rfl) (by rfl) (by rfl) rfl ?_
  refine hxa_bipush (by rfl) rfl ?_
  refine hxj_iald396 (by rfl) hk_70 (by omega) (by omega) hA (fun z1 ez1 fz1 => ?_)
  refine hxa_call0 (by rfl) (by rfl) (by rfl) (by rfl) (by rfl) (by rfl) (hX201 (d := d + 0) hA a1 (by omega) (by omega) a2 (by omega) (by omega) z1) ?_
  rintro _ A2 ⟨hA2, z3, rfl, fz3⟩
  exact hxa_ireturn (by rfl) rfl (hP _ _ ⟨hA2, _, rfl, by omega⟩)
theorem hX202 {d : Nat} {Bn Br : Int} {A0 A : hs_A} (hA : hJ 0 Bn Br A0 A)  (a1 : Int32) (p1 : 0 ≤ a1.toInt) (q1 : a1.toInt ≤ 9) (a2 : Int32) (p2 : 0 ≤ a2.toInt) (q2 : a2.toInt ≤ 255) : hxC (d + 6) 202 hm_m202 [.ref 368, .int a1, .int a2] A (fun r A' => hJ 0 Bn Br A0 A' ∧ ∃ z : Int32, r = some (.int z) ∧ ((0 ≤ z.toInt ∧ z.toInt ≤ 255))) := hxC.of (by rfl) (hY202 hA a1 p1 q1 a2 p2 q2 (fun r A' h => h))
theorem hY203 {d : Nat} {Bn Br : Int} {A0 A : hs_A} (hA : hJ 0 Bn Br A0 A)  (a1 : Int32) (p1 : 0 ≤ a1.toInt) (q1 : a1.toInt ≤ 9) {P : Option Value → hs_A → Prop} (hP : ∀ (r : Option Value) (A' : hs_A), (hJ 0 Bn Br A0 A' ∧ r = none) → P r A') : hxa (d + 6) none hm_t203 0 [.ref 368, .int a1, .retAddr 0] [] A P := by
  have k0 := hk_0
  have L2 : ∀ (m2 : Nat) (x2_2 : Int32) (Ac2 : hs_A) (hAc2 : hJ 0 Bn Br A0 Ac2) (bx2_2 : 0 ≤ x2_2.toInt) (cx2_2 : x2_2.toInt ≤ 256) (hm2 : 256 - x2_2.toInt < (m2 : Int)), hxa (d + 6) none hm_t203 2 [.ref 368, .int a1, .int x2_2] [] Ac2 P := by
    intro m2
    induction m2 with
    | zero => intro x2_2 Ac2 hAc2 bx2_2 cx2_2 hm2;  exact False.elim (by omega)
    | succ m2 ih2 =>
      intro x2_2 Ac2 hAc2 bx2_2 cx2_2 hm2
      refine hxa_iload_n (by rfl) rfl ?_
      refine hxa_sipush (by rfl) rfl ?_
      refine hxj_cge (by rfl) rfl hk_256 (fun q1 => ?_) (fun q1 => ?_)
      ·
        exact hxa_return (by rfl) rfl (hP _ _ ⟨hAc2, rfl⟩)
      ·
        refine hxa_aload_n (by rfl) rfl ?_
        refine hxa_get (v := .ref 401) (by rfl) (by rfl) (by rfl) rfl ?_
        refine hxa_iload_n (by rfl) rfl ?_
        refine hxa_aload_n (by rfl) rfl ?_
        refine hxa_iload_n (by rfl) rfl ?_
        refine hxa_iload_n (by rfl) rfl ?_
        refine hxa_call0 (by rfl) (by rfl) (by rfl) (by rfl) (by rfl) (by rfl) (hX202 (d := d + 0) hAc2 a1 (by omega) (by omega) x2_2 (by omega) (by omega)) ?_
        rintro _ A2 ⟨hA2, z3, rfl, fz3⟩
        refine hxj_iast (by rfl) (by rfl) rfl (by omega) (by omega) hA2 (hbok (by rfl) rfl (by omega) (by omega)) (by rfl) (by rfl) (fun A4 hA4 eA4 fA4 gA4 => ?_)
        refine hxj_iinc (by rfl) rfl rfl hk_1 (by omega) (by omega) (fun _ => rfl) (fun z5 ez5 => ?_)
        refine hxa_goto (by rfl) ?_
        exact ih2 z5 A4 hA4 (by omega) (by omega) (by omega)
  refine hxa_iconst (by rfl) rfl ?_
  refine hxa_s1 (by rfl) (Or.inl ⟨_, rfl, rfl⟩) rfl ?_
  exact L2 (Int.toNat (256 - 0) + 1) (Int32.ofNat 0) A hA (by omega) (by omega) (by omega)
theorem hX203 {d : Nat} {Bn Br : Int} {A0 A : hs_A} (hA : hJ 0 Bn Br A0 A)  (a1 : Int32) (p1 : 0 ≤ a1.toInt) (q1 : a1.toInt ≤ 9) : hxC (d + 7) 203 hm_m203 [.ref 368, .int a1] A (fun r A' => hJ 0 Bn Br A0 A' ∧ r = none) := hxC.of (by rfl) (hY203 hA a1 p1 q1 (fun r A' h => h))
theorem hY204 {d : Nat} {N : Int} {A0 A : hs_A} (hA : hJ 0 N (N + 72) A0 A) (hN : N ≤ 900000) (a1 : Int32) (a2 : Int32) {P : Option Value → hs_A → Prop} (hP : ∀ (r : Option Value) (A' : hs_A), (hJ 0 (N + 72) (N + 144) A0 A' ∧ ∃ z : Int32, r = some (.int z)) → P r A') : hxa (d + 6) (some (.int)) hm_t204 0 [.ref 368, .int a1, .int a2] [] A P := by
  have k4294967295 := hk_4294967295
  refine hxa_aload_n (by rfl) rfl ?_
  refine hxa_iload_n (by rfl) rfl ?_
  refine hxa_call0 (by rfl) (by rfl) (by rfl) (by rfl) (by rfl) (by rfl) (hX167 (d := d + 4) hA a1) ?_
  rintro _ _ ⟨rfl, z1, rfl, fz1⟩
  rcases fz1 with fz1 | fz1
  ·
    refine hxj_zeq (by rfl) rfl (fun q2 => False.elim (by omega)) (fun q2 => ?_)
    refine hxa_iload_n (by rfl) rfl ?_
    refine hxa_call2 (by rfl) (by decide) (by rfl) (by rfl) (by rfl) (hX168 (d := d + 4)  a2) ?_
    rintro _ _ ⟨rfl, z3, rfl, fz3⟩
    rcases fz3 with fz3 | fz3
    ·
      refine hxj_zne (by rfl) rfl (fun q4 => ?_) (fun q4 => False.elim (by omega))
      refine hxa_aload_n (by rfl) rfl ?_
      refine hxa_call0 (by rfl) (by rfl) (by rfl) (by rfl) (by rfl) (by rfl) (hX171 (d := d + 5) hA ) ?_
      rintro _ A5 ⟨hA5, rfl⟩
      refine hxa_aload_n (by rfl) rfl ?_
      refine hxa_iload_n (by rfl) rfl ?_
      refine hxa_iload_n (by rfl) rfl ?_
      refine hxa_call0 (by rfl) (by rfl) (by rfl) (by rfl) (by rfl) (by rfl) (hX202 (d := d + 0) hA5 a1 (by omega) (by omega) a2 (by omega) (by omega)) ?_
      rintro _ A6 ⟨hA6, z7, rfl, fz7⟩
      exact hxa_ireturn (by rfl) rfl (hP _ _ ⟨(hJ.mono hA6 (by omega) (by omega)), _, rfl⟩)
    ·
      refine hxj_zne (by rfl) rfl (fun q8 => False.elim (by omega)) (fun q8 => ?_)
      refine hxa_iconst (by rfl) rfl ?_
      exact hxa_ireturn (by rfl) rfl (hP _ _ ⟨(hJ.mono hA (by omega) (by omega)), _, rfl⟩)
  ·
    refine hxj_zeq (by rfl) rfl (fun q9 => ?_) (fun q9 => False.elim (by omega))
    refine hxa_iconst (by rfl) rfl ?_
    exact hxa_ireturn (by rfl) rfl (hP _ _ ⟨(hJ.mono hA (by omega) (by omega)), _, rfl⟩)
theorem hX204 {d : Nat} {N : Int} {A0 A : hs_A} (hA : hJ 0 N (N + 72) A0 A) (hN : N ≤ 900000) (a1 : Int32) (a2 : Int32) : hxC (d + 7) 204 hm_m204 [.ref 368, .int a1, .int a2] A (fun r A' => hJ 0 (N + 72) (N + 144) A0 A' ∧ ∃ z : Int32, r = some (.int z)) := hxC.of (by rfl) (hY204 hA hN a1 a2 (fun r A' h => h))
theorem hY205 {d : Nat} {N : Int} {A0 A : hs_A} (hA : hJ 0 N (N + 72) A0 A) (hN : N ≤ 900000) (a1 : Int32) {P : Option Value → hs_A → Prop} (hP : ∀ (r : Option Value) (A' : hs_A), (hJ 0 (N + 72) (N + 144) A0 A' ∧ ∃ z : Int32, r = some (.int z)) → P r A') : hxa (d + 6) (some (.int)) hm_t205 0 [.ref 368, .int a1, .retAddr 0] [] A P := by
  have k0 := hk_0
  have k4294967294 := hk_4294967294
  have k4294967295 := hk_4294967295
  have L25 : ∀ (m25 : Nat) (x25_2 : Int32) (Ac25 : hs_A) (hAc25 : hJ 0 N N A0 Ac25) (bx25_2 : -1 ≤ x25_2.toInt) (cx25_2 : x25_2.toInt ≤ 9) (ba1 : 0 ≤ a1.toInt) (ca1 : a1.toInt ≤ 255) (hm25 : x25_2.toInt - (-1) < (m25 : Int)), hxa (d + 6) (some (.int)) hm_t205 25 [.ref 368, .int a1, .int x25_2] [] Ac25 P := by
    intro m25
    induction m25 with
    | zero => intro x25_2 Ac25 hAc25 bx25_2 cx25_2 ba1 ca1 hm25;  exact False.elim (by omega)
    | succ m25 ih25 =>
      intro x25_2 Ac25 hAc25 bx25_2 cx25_2 ba1 ca1 hm25
      refine hxa_iload_n (by rfl) rfl ?_
      refine hxj_zlt (by rfl) rfl (fun q1 => ?_) (fun q1 => ?_)
      ·
        refine hxa_bipush (by rfl) rfl ?_
        exact hxa_ireturn (by rfl) rfl (hP _ _ ⟨(hJ.mono hAc25 (by omega) (by omega)), _, rfl⟩)
      ·
        refine hxa_aload_n (by rfl) rfl ?_
        refine hxa_iload_n (by rfl) rfl ?_
        refine hxa_iload_n (by rfl) rfl ?_
        refine hxa_call0 (by rfl) (by rfl) (by rfl) (by rfl) (by rfl) (by rfl) (hX202 (d := d + 0) hAc25 x25_2 (by omega) (by omega) a1 (by omega) (by omega)) ?_
        rintro _ A2 ⟨hA2, z3, rfl, fz3⟩
        refine hxa_aload_n (by rfl) rfl ?_
        refine hxa_iload_n (by rfl) rfl ?_
        refine hxa_iconst (by rfl) rfl ?_
        refine hxa_call0 (by rfl) (by rfl) (by rfl) (by rfl) (by rfl) (by rfl) (hX202 (d := d + 0) hA2 x25_2 (by omega) (by omega) (Int32.ofNat 0) (by omega) (by omega)) ?_
        rintro _ A4 ⟨hA4, z5, rfl, fz5⟩
        refine hxj_ceq (by rfl) rfl rfl (fun q6 => ?_) (fun q6 => ?_)
        ·
          refine hxj_iinc (by rfl) rfl rfl hk_4294967295 (by omega) (by omega) (fun _ => rfl) (fun z7 ez7 => ?_)
          refine hxa_goto (by rfl) ?_
          exact ih25 z7 A4 hA4 (by omega) (by omega) (by omega) (by omega) (by omega)
        ·
          refine hxa_iload_n (by rfl) rfl ?_
          exact hxa_ireturn (by rfl) rfl (hP _ _ ⟨(hJ.mono hA4 (by omega) (by omega)), _, rfl⟩)
  refine hxa_iload_n (by rfl) rfl ?_
  refine hxa_call2 (by rfl) (by decide) (by rfl) (by rfl) (by rfl) (hX168 (d := d + 4)  a1) ?_
  rintro _ _ ⟨rfl, z8, rfl, fz8⟩
  rcases fz8 with fz8 | fz8
  ·
    refine hxj_zne (by rfl) rfl (fun q9 => ?_) (fun q9 => False.elim (by omega))
    refine hxa_aload_n (by rfl) rfl ?_
    refine hxa_call0 (by rfl) (by rfl) (by rfl) (by rfl) (by rfl) (by rfl) (hX171 (d := d + 5) hA ) ?_
    rintro _ A10 ⟨hA10, rfl⟩
    refine hxa_aload_n (by rfl) rfl ?_
    refine hxa_get (v := .ref 377) (by rfl) (by rfl) (by rfl) rfl ?_
    refine hxa_aload_n (by rfl) rfl ?_
    refine hxj_getB (by rfl) (by rfl) (by rfl) hA10 (by rfl) (fun z11 ez11 fz11 gz11 => ?_)
    refine hxj_ialdB (by rfl) (by rfl) rfl (by omega) (by omega) hA10 (by rfl) (fun z12 ez12 fz12 gz12 => ?_)
    refine hxa_iconst (by rfl) rfl ?_
    refine hxj_isub (by rfl) rfl hk_1 (by omega) (by omega) (fun z13 ez13 => ?_)
    refine hxa_s1 (by rfl) (Or.inl ⟨_, rfl, rfl⟩) rfl ?_
    exact L25 (Int.toNat (z13.toInt - (-1)) + 1) z13 A10 hA10 (by omega) (by omega) (by omega) (by omega) (by omega)
  ·
    refine hxj_zne (by rfl) rfl (fun q14 => False.elim (by omega)) (fun q14 => ?_)
    refine hxa_iconst (by rfl) rfl ?_
    exact hxa_ireturn (by rfl) rfl (hP _ _ ⟨(hJ.mono hA (by omega) (by omega)), _, rfl⟩)
theorem hX205 {d : Nat} {N : Int} {A0 A : hs_A} (hA : hJ 0 N (N + 72) A0 A) (hN : N ≤ 900000) (a1 : Int32) : hxC (d + 7) 205 hm_m205 [.ref 368, .int a1] A (fun r A' => hJ 0 (N + 72) (N + 144) A0 A' ∧ ∃ z : Int32, r = some (.int z)) := hxC.of (by rfl) (hY205 hA hN a1 (fun r A' h => h))
theorem hY206 {d : Nat} {N : Int} {A0 A : hs_A} (hA : hJ 0 N (N + 72) A0 A) (hN : N ≤ 900000) (a1 : Int32) {P : Option Value → hs_A → Prop} (hP : ∀ (r : Option Value) (A' : hs_A), (hJ 0 (N + 72) (N + 144) A0 A' ∧ ∃ z : Int32, r = some (.int z)) → P r A') : hxa (d + 7) (some (.int)) hm_t206 0 [.ref 368, .int a1, .retAddr 0, .retAddr 0] [] A P := by
  have k0 := hk_0
  have k4294967294 := hk_4294967294
  have k4294967295 := hk_4294967295
  have L24 : ∀ (m24 : Nat) (x24_2 : Int32) (x24_3 : Int32) (Ac24 : hs_A) (hAc24 : hJ 0 N N A0 Ac24) (bx24_2 : -2 ≤ x24_2.toInt) (cx24_2 : x24_2.toInt ≤ 255) (bx24_3 : 0 ≤ x24_3.toInt) (cx24_3 : x24_3.toInt ≤ 256) (ba1 : 0 ≤ a1.toInt) (ca1 : a1.toInt ≤ 9) (hm24 : 256 - x24_3.toInt < (m24 : Int)), hxa (d + 7) (some (.int)) hm_t206 24 [.ref 368, .int a1, .int x24_2, .int x24_3] [] Ac24 P := by
    intro m24
    induction m24 with
    | zero => intro x24_2 x24_3 Ac24 hAc24 bx24_2 cx24_2 bx24_3 cx24_3 ba1 ca1 hm24;  exact False.elim (by omega)
    | succ m24 ih24 =>
      intro x24_2 x24_3 Ac24 hAc24 bx24_2 cx24_2 bx24_3 cx24_3 ba1 ca1 hm24
      refine hxa_iload_n (by rfl) rfl ?_
      refine hxa_sipush (by rfl) rfl ?_
      refine hxj_cge (by rfl) rfl hk_256 (fun q1 => ?_) (fun q1 => ?_)
      ·
        refine hxa_iload_n (by rfl) rfl ?_
        exact hxa_ireturn (by rfl) rfl (hP _ _ ⟨(hJ.mono hAc24 (by omega) (by omega)), _, rfl⟩)
      ·
        refine hxa_aload_n (by rfl) rfl ?_
        refine hxa_get (v := .ref 397) (by rfl) (by rfl) (by rfl) rfl ?_
        refine hxa_iload_n (by rfl) rfl ?_
        refine hxj_iald396 (by rfl) rfl (by omega) (by omega) hAc24 (fun z2 ez2 fz2 => ?_)
        refine hxa_aload_n (by rfl) rfl ?_
        refine hxa_get (v := .ref 401) (by rfl) (by rfl) (by rfl) rfl ?_
        refine hxa_iload_n (by rfl) rfl ?_
        refine hxj_ialdB (by rfl) (by rfl) rfl (by omega) (by omega) hAc24 (by rfl) (fun z3 ez3 fz3 gz3 => ?_)
        refine hxa_iconst (by rfl) rfl ?_
        refine hxj_ixorU (by rfl) (fun z4 => ?_)
        refine hxj_iandU (by rfl) (fun z5 => ?_)
        refine hxj_zne (by rfl) rfl (fun q6 => ?_) (fun q6 => ?_)
        ·
          refine hxj_iinc (by rfl) rfl rfl hk_1 (by omega) (by omega) (fun _ => rfl) (fun z7 ez7 => ?_)
          refine hxa_goto (by rfl) ?_
          exact ih24 x24_2 z7 Ac24 hAc24 (by omega) (by omega) (by omega) (by omega) (by omega) (by omega) (by omega)
        ·
          refine hxa_iload_n (by rfl) rfl ?_
          refine hxj_zlt (by rfl) rfl (fun q8 => ?_) (fun q8 => ?_)
          ·
            refine hxa_iload_n (by rfl) rfl ?_
            refine hxa_s1 (by rfl) (Or.inl ⟨_, rfl, rfl⟩) rfl ?_
            refine hxj_iinc (by rfl) rfl rfl hk_1 (by omega) (by omega) (fun _ => rfl) (fun z9 ez9 => ?_)
            refine hxa_goto (by rfl) ?_
            exact ih24 x24_3 z9 Ac24 hAc24 (by omega) (by omega) (by omega) (by omega) (by omega) (by omega) (by omega)
          ·
            refine hxa_iload_n (by rfl) rfl ?_
            refine hxa_call2 (by rfl) (by decide) (by rfl) (by rfl) (by rfl) (hX166 (d := d + 6)  x24_3) ?_
            rintro _ _ ⟨rfl, z10, rfl⟩
            refine hxa_iload_n (by rfl) rfl ?_
            refine hxa_call2 (by rfl) (by decide) (by rfl) (by rfl) (by rfl) (hX166 (d := d + 6)  x24_2) ?_
            rintro _ _ ⟨rfl, z11, rfl⟩
            have rgz10 := hn_rng z10
            have rgz11 := hn_rng z11
            refine hxj_cge (by rfl) rfl rfl (fun q12 => ?_) (fun q12 => ?_)
            ·
              refine hxj_iinc (by rfl) rfl rfl hk_1 (by omega) (by omega) (fun _ => rfl) (fun z13 ez13 => ?_)
              refine hxa_goto (by rfl) ?_
              exact ih24 x24_2 z13 Ac24 hAc24 (by omega) (by omega) (by omega) (by omega) (by omega) (by omega) (by omega)
            ·
              refine hxa_iload_n (by rfl) rfl ?_
              refine hxa_s1 (by rfl) (Or.inl ⟨_, rfl, rfl⟩) rfl ?_
              refine hxj_iinc (by rfl) rfl rfl hk_1 (by omega) (by omega) (fun _ => rfl) (fun z14 ez14 => ?_)
              refine hxa_goto (by rfl) ?_
              exact ih24 x24_3 z14 Ac24 hAc24 (by omega) (by omega) (by omega) (by omega) (by omega) (by omega) (by omega)
  refine hxa_aload_n (by rfl) rfl ?_
  refine hxa_iload_n (by rfl) rfl ?_
  refine hxa_call0 (by rfl) (by rfl) (by rfl) (by rfl) (by rfl) (by rfl) (hX167 (d := d + 5) hA a1) ?_
  rintro _ _ ⟨rfl, z15, rfl, fz15⟩
  rcases fz15 with fz15 | fz15
  ·
    refine hxj_zne (by rfl) rfl (fun q16 => ?_) (fun q16 => False.elim (by omega))
    refine hxa_aload_n (by rfl) rfl ?_
    refine hxa_call0 (by rfl) (by rfl) (by rfl) (by rfl) (by rfl) (by rfl) (hX171 (d := d + 6) hA ) ?_
    rintro _ A17 ⟨hA17, rfl⟩
    refine hxa_aload_n (by rfl) rfl ?_
    refine hxa_iload_n (by rfl) rfl ?_
    refine hxa_call0 (by rfl) (by rfl) (by rfl) (by rfl) (by rfl) (by rfl) (hX203 (d := d + 0) hA17 a1 (by omega) (by omega)) ?_
    rintro _ A18 ⟨hA18, rfl⟩
    refine hxa_bipush (by rfl) rfl ?_
    refine hxa_s1 (by rfl) (Or.inl ⟨_, rfl, rfl⟩) rfl ?_
    refine hxa_iconst (by rfl) rfl ?_
    refine hxa_s1 (by rfl) (Or.inl ⟨_, rfl, rfl⟩) rfl ?_
    exact L24 (Int.toNat (256 - 0) + 1) (Int32.ofNat 4294967294) (Int32.ofNat 0) A18 hA18 (by omega) (by omega) (by omega) (by omega) (by omega) (by omega) (by omega)
  ·
    refine hxj_zne (by rfl) rfl (fun q19 => False.elim (by omega)) (fun q19 => ?_)
    refine hxa_iconst (by rfl) rfl ?_
    exact hxa_ireturn (by rfl) rfl (hP _ _ ⟨(hJ.mono hA (by omega) (by omega)), _, rfl⟩)
theorem hX206 {d : Nat} {N : Int} {A0 A : hs_A} (hA : hJ 0 N (N + 72) A0 A) (hN : N ≤ 900000) (a1 : Int32) : hxC (d + 8) 206 hm_m206 [.ref 368, .int a1] A (fun r A' => hJ 0 (N + 72) (N + 144) A0 A' ∧ ∃ z : Int32, r = some (.int z)) := hxC.of (by rfl) (hY206 hA hN a1 (fun r A' h => h))
theorem hY207 {d : Nat} {N : Int} {A0 A : hs_A} (hA : hJ 0 N (N + 72) A0 A) (hN : N ≤ 900000) (a1 : Int32) {P : Option Value → hs_A → Prop} (hP : ∀ (r : Option Value) (A' : hs_A), (hJ 0 (N + 72) (N + 144) A0 A' ∧ ∃ z : Int32, r = some (.int z)) → P r A') : hxa (d + 7) (some (.int)) hm_t207 0 [.ref 368, .int a1, .retAddr 0, .retAddr 0] [] A P := by
  have k0 := hk_0
  have k4294967295 := hk_4294967295
  have L45 : ∀ (m45 : Nat) (x45_2 : Int32) (x45_3 : Int32) (Ac45 : hs_A) (hAc45 : hJ 0 N N A0 Ac45) (bx45_3 : 0 ≤ x45_3.toInt) (cx45_3 : x45_3.toInt ≤ 256) (ba1 : 0 ≤ a1.toInt) (ca1 : a1.toInt ≤ 9) (hm45 : 256 - x45_3.toInt < (m45 : Int)), hxa (d + 7) (some (.int)) hm_t207 45 [.ref 368, .int a1, .int x45_2, .int x45_3] [] Ac45 P := by
    intro m45
    induction m45 with
    | zero => intro x45_2 x45_3 Ac45 hAc45 bx45_3 cx45_3 ba1 ca1 hm45; have := hn_rng x45_2; exact False.elim (by omega)
    | succ m45 ih45 =>
      intro x45_2 x45_3 Ac45 hAc45 bx45_3 cx45_3 ba1 ca1 hm45
      refine hxa_iload_n (by rfl) rfl ?_
      refine hxa_sipush (by rfl) rfl ?_
      refine hxj_cge (by rfl) rfl hk_256 (fun q1 => ?_) (fun q1 => ?_)
      ·
        refine hxa_iload_n (by rfl) rfl ?_
        exact hxa_ireturn (by rfl) rfl (hP _ _ ⟨(hJ.mono hAc45 (by omega) (by omega)), _, rfl⟩)
      ·
        refine hxa_aload_n (by rfl) rfl ?_
        refine hxa_get (v := .ref 402) (by rfl) (by rfl) (by rfl) rfl ?_
        refine hxa_aload_n (by rfl) rfl ?_
        refine hxa_get (v := .ref 401) (by rfl) (by rfl) (by rfl) rfl ?_
        refine hxa_iload_n (by rfl) rfl ?_
        refine hxj_ialdB (by rfl) (by rfl) rfl (by omega) (by omega) hAc45 (by rfl) (fun z2 ez2 fz2 gz2 => ?_)
        refine hxj_zald (by rfl) (by rfl) rfl (by omega) (by omega) (fun z3 ez3 => ?_)
        refine hxj_zne (by rfl) rfl (fun q4 => ?_) (fun q4 => ?_)
        ·
          refine hxa_aload_n (by rfl) rfl ?_
          refine hxa_get (v := .ref 402) (by rfl) (by rfl) (by rfl) rfl ?_
          refine hxa_aload_n (by rfl) rfl ?_
          refine hxa_get (v := .ref 401) (by rfl) (by rfl) (by rfl) rfl ?_
          refine hxa_iload_n (by rfl) rfl ?_
          refine hxj_ialdB (by rfl) (by rfl) rfl (by omega) (by omega) hAc45 (by rfl) (fun z5 ez5 fz5 gz5 => ?_)
          refine hxa_iconst (by rfl) rfl ?_
          refine hxj_zast (by rfl) (by rfl) rfl (by omega) (by omega) hk_1 (by omega) (by omega) hAc45 (hbokN (by rfl)) (by rfl) (by rfl) (fun A6 hA6 eA6 fA6 gA6 => ?_)
          refine hxj_iinc (by rfl) rfl rfl hk_1 (by omega) (by omega) (fun _ => rfl) (fun z7 ez7 => ?_)
          refine hxa_goto (by rfl) ?_
          exact ih45 x45_2 z7 A6 hA6 (by omega) (by omega) (by omega) (by omega) (by omega)
        ·
          refine hxj_iincU (by rfl) rfl (fun _ => rfl) (fun z8 => ?_)
          refine hxa_aload_n (by rfl) rfl ?_
          refine hxa_get (v := .ref 402) (by rfl) (by rfl) (by rfl) rfl ?_
          refine hxa_aload_n (by rfl) rfl ?_
          refine hxa_get (v := .ref 401) (by rfl) (by rfl) (by rfl) rfl ?_
          refine hxa_iload_n (by rfl) rfl ?_
          refine hxj_ialdB (by rfl) (by rfl) rfl (by omega) (by omega) hAc45 (by rfl) (fun z9 ez9 fz9 gz9 => ?_)
          refine hxa_iconst (by rfl) rfl ?_
          refine hxj_zast (by rfl) (by rfl) rfl (by omega) (by omega) hk_1 (by omega) (by omega) hAc45 (hbokN (by rfl)) (by rfl) (by rfl) (fun A10 hA10 eA10 fA10 gA10 => ?_)
          refine hxj_iinc (by rfl) rfl rfl hk_1 (by omega) (by omega) (fun _ => rfl) (fun z11 ez11 => ?_)
          refine hxa_goto (by rfl) ?_
          exact ih45 z8 z11 A10 hA10 (by omega) (by omega) (by omega) (by omega) (by omega)
  have L21 : ∀ (m21 : Nat) (x21_2 : Int32) (Ac21 : hs_A) (hAc21 : hJ 0 N N A0 Ac21) (bx21_2 : 0 ≤ x21_2.toInt) (cx21_2 : x21_2.toInt ≤ 256) (ba1 : 0 ≤ a1.toInt) (ca1 : a1.toInt ≤ 9) (hm21 : 256 - x21_2.toInt < (m21 : Int)), hxa (d + 7) (some (.int)) hm_t207 21 [.ref 368, .int a1, .int x21_2, .retAddr 0] [] Ac21 P := by
    intro m21
    induction m21 with
    | zero => intro x21_2 Ac21 hAc21 bx21_2 cx21_2 ba1 ca1 hm21;  exact False.elim (by omega)
    | succ m21 ih21 =>
      intro x21_2 Ac21 hAc21 bx21_2 cx21_2 ba1 ca1 hm21
      refine hxa_iload_n (by rfl) rfl ?_
      refine hxa_sipush (by rfl) rfl ?_
      refine hxj_cge (by rfl) rfl hk_256 (fun q12 => ?_) (fun q12 => ?_)
      ·
        refine hxa_iconst (by rfl) rfl ?_
        refine hxa_s1 (by rfl) (Or.inl ⟨_, rfl, rfl⟩) rfl ?_
        refine hxa_iconst (by rfl) rfl ?_
        refine hxa_s1 (by rfl) (Or.inl ⟨_, rfl, rfl⟩) rfl ?_
        exact L45 (Int.toNat (256 - 0) + 1) (Int32.ofNat 0) (Int32.ofNat 0) Ac21 hAc21 (by omega) (by omega) (by omega) (by omega) (by omega)
      ·
        refine hxa_aload_n (by rfl) rfl ?_
        refine hxa_get (v := .ref 402) (by rfl) (by rfl) (by rfl) rfl ?_
        refine hxa_iload_n (by rfl) rfl ?_
        refine hxa_iconst (by rfl) rfl ?_
        refine hxj_zast (by rfl) (by rfl) rfl (by omega) (by omega) hk_0 (by omega) (by omega) hAc21 (hbokN (by rfl)) (by rfl) (by rfl) (fun A13 hA13 eA13 fA13 gA13 => ?_)
        refine hxj_iinc (by rfl) rfl rfl hk_1 (by omega) (by omega) (fun _ => rfl) (fun z14 ez14 => ?_)
        refine hxa_goto (by rfl) ?_
        exact ih21 z14 A13 hA13 (by omega) (by omega) (by omega) (by omega) (by omega)
  refine hxa_aload_n (by rfl) rfl ?_
  refine hxa_iload_n (by rfl) rfl ?_
  refine hxa_call0 (by rfl) (by rfl) (by rfl) (by rfl) (by rfl) (by rfl) (hX167 (d := d + 5) hA a1) ?_
  rintro _ _ ⟨rfl, z15, rfl, fz15⟩
  rcases fz15 with fz15 | fz15
  ·
    refine hxj_zne (by rfl) rfl (fun q16 => ?_) (fun q16 => False.elim (by omega))
    refine hxa_aload_n (by rfl) rfl ?_
    refine hxa_call0 (by rfl) (by rfl) (by rfl) (by rfl) (by rfl) (by rfl) (hX171 (d := d + 6) hA ) ?_
    rintro _ A17 ⟨hA17, rfl⟩
    refine hxa_aload_n (by rfl) rfl ?_
    refine hxa_iload_n (by rfl) rfl ?_
    refine hxa_call0 (by rfl) (by rfl) (by rfl) (by rfl) (by rfl) (by rfl) (hX203 (d := d + 0) hA17 a1 (by omega) (by omega)) ?_
    rintro _ A18 ⟨hA18, rfl⟩
    refine hxa_iconst (by rfl) rfl ?_
    refine hxa_s1 (by rfl) (Or.inl ⟨_, rfl, rfl⟩) rfl ?_
    exact L21 (Int.toNat (256 - 0) + 1) (Int32.ofNat 0) A18 hA18 (by omega) (by omega) (by omega) (by omega) (by omega)
  ·
    refine hxj_zne (by rfl) rfl (fun q19 => False.elim (by omega)) (fun q19 => ?_)
    refine hxa_iconst (by rfl) rfl ?_
    exact hxa_ireturn (by rfl) rfl (hP _ _ ⟨(hJ.mono hA (by omega) (by omega)), _, rfl⟩)
theorem hX207 {d : Nat} {N : Int} {A0 A : hs_A} (hA : hJ 0 N (N + 72) A0 A) (hN : N ≤ 900000) (a1 : Int32) : hxC (d + 8) 207 hm_m207 [.ref 368, .int a1] A (fun r A' => hJ 0 (N + 72) (N + 144) A0 A' ∧ ∃ z : Int32, r = some (.int z)) := hxC.of (by rfl) (hY207 hA hN a1 (fun r A' h => h))
