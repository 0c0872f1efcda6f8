theorem hY216 {d : Nat} {N : Int} {A0 A : hs_A} (hA : hJ 0 N (N + 72) A0 A) (hN : N ≤ 900000) (a1 : Int32) (a2 : Int32) {P : Option Value → hs_A → Prop} (hP : ∀ (r : Option Value) (A' : hs_A), (hJ 0 (N + 72) (N + 144) A0 A' ∧ ∃ z : Int32, r = some (.int z)) → P r A') : hxa (d + 6) (some (.int)) hm_t216 0 [.ref 368, .int a1, .int a2, .retAddr 0] [] A P := by
  have k2 := hk_2
  have k4294967294 := hk_4294967294
  have k4294967295 := hk_4294967295
  refine hxa_aload_n (by rfl) rfl ?_
  refine hxa_iload_n (by rfl) rfl ?_
  refine hxa_call0 (by rfl) (by rfl) (by rfl) (by rfl) (by rfl) (by rfl) (hX167 (d := d + 4) hA a1) ?_
  rintro _ _ ⟨rfl, z1, rfl, fz1⟩
  rcases fz1 with fz1 | fz1
  ·
    refine hxj_zeq (by rfl) rfl (fun q2 => False.elim (by omega)) (fun q2 => ?_)
    refine hxa_iload_n (by rfl) rfl ?_
    refine hxa_iconst (by rfl) rfl ?_
    refine hxa_iconst (by rfl) rfl ?_
    refine hxa_call2 (by rfl) (by decide) (by rfl) (by rfl) (by rfl) (hX164 (d := d + 5)  a2 (Int32.ofNat 4294967295) (Int32.ofNat 2)) ?_
    rintro _ _ ⟨rfl, z3, rfl, fz3⟩
    rcases fz3 with fz3 | fz3
    ·
      refine hxj_zne (by rfl) rfl (fun q4 => ?_) (fun q4 => False.elim (by omega))
      refine hxa_aload_n (by rfl) rfl ?_
      refine hxa_call0 (by rfl) (by rfl) (by rfl) (by rfl) (by rfl) (by rfl) (hX171 (d := d + 5) hA ) ?_
      rintro _ A5 ⟨hA5, rfl⟩
      refine hxa_aload_n (by rfl) rfl ?_
      refine hxa_iload_n (by rfl) rfl ?_
      refine hxa_call0 (by rfl) (by rfl) (by rfl) (by rfl) (by rfl) (by rfl) (hX214 (d := d + 0) hA5 a1 (by omega) (by omega)) ?_
      rintro _ A6 ⟨hA6, rfl⟩
      refine hxa_aload_n (by rfl) rfl ?_
      refine hxa_aload_n (by rfl) rfl ?_
      refine hxa_get (v := .ref 397) (by rfl) (by rfl) (by rfl) rfl ?_
      refine hxa_iload_n (by rfl) rfl ?_
      refine hxj_iald396 (by rfl) rfl (by omega) (by omega) hA6 (fun z7 ez7 fz7 => ?_)
      refine hxa_aload_n (by rfl) rfl ?_
      refine hxa_get (v := .ref 397) (by rfl) (by rfl) (by rfl) rfl ?_
      refine hxa_bipush (by rfl) rfl ?_
      refine hxa_iload_n (by rfl) rfl ?_
      refine hxj_iadd (by rfl) hk_40 rfl (by omega) (by omega) (fun z8 ez8 => ?_)
      refine hxj_iald396 (by rfl) rfl (by omega) (by omega) hA6 (fun z9 ez9 fz9 => ?_)
      refine hxa_iconst (by rfl) rfl ?_
      refine hxj_ixorU (by rfl) (fun z10 => ?_)
      refine hxj_iandU (by rfl) (fun z11 => ?_)
      refine hxa_call0 (by rfl) (by rfl) (by rfl) (by rfl) (by rfl) (by rfl) (hX215 (d := d + 5) hA6 z11) ?_
      rintro _ A12 ⟨hA12, z13, rfl, fz13⟩
      refine hxa_s1 (by rfl) (Or.inl ⟨_, rfl, rfl⟩) rfl ?_
      refine hxa_iload_n (by rfl) rfl ?_
      refine hxa_iconst (by rfl) rfl ?_
      refine hxj_cne (by rfl) rfl hk_4 (fun q14 => ?_) (fun q14 => ?_)
      ·
        refine hxa_iload_n (by rfl) rfl ?_
        refine hxa_iconst (by rfl) rfl ?_
        refine hxj_cne (by rfl) rfl hk_4294967295 (fun q15 => ?_) (fun q15 => ?_)
        ·
          refine hxa_iload_n (by rfl) rfl ?_
          refine hxa_iload_n (by rfl) rfl ?_
          refine hxj_cge (by rfl) rfl rfl (fun q16 => ?_) (fun q16 => ?_)
          ·
            refine hxa_iconst (by rfl) rfl ?_
            exact hxa_ireturn (by rfl) rfl (hP _ _ ⟨(hJ.mono hA12 (by omega) (by omega)), _, rfl⟩)
          ·
            refine hxa_aload_n (by rfl) rfl ?_
            refine hxa_get (v := .ref 405) (by rfl) (by rfl) (by rfl) rfl ?_
            refine hxa_iload_n (by rfl) rfl ?_
            refine hxj_ialdB (by rfl) (by rfl) rfl (by omega) (by omega) hA12 (by rfl) (fun z17 ez17 fz17 gz17 => ?_)
            refine hxa_goto (by rfl) ?_
            exact hxa_ireturn (by rfl) rfl (hP _ _ ⟨(hJ.mono hA12 (by omega) (by omega)), _, rfl⟩)
        ·
          refine hxa_iload_n (by rfl) rfl ?_
          exact hxa_ireturn (by rfl) rfl (hP _ _ ⟨(hJ.mono hA12 (by omega) (by omega)), _, rfl⟩)
      ·
        refine hxa_bipush (by rfl) rfl ?_
        exact hxa_ireturn (by rfl) rfl (hP _ _ ⟨(hJ.mono hA12 (by omega) (by omega)), _, rfl⟩)
    ·
      refine hxj_zne (by rfl) rfl (fun q18 => False.elim (by omega)) (fun q18 => ?_)
      refine hxa_iconst (by rfl) rfl ?_
      exact hxa_ireturn (by rfl) rfl (hP _ _ ⟨(hJ.mono hA (by omega) (by omega)), _, rfl⟩)
  ·
    refine hxj_zeq (by rfl) rfl (fun q19 => ?_) (fun q19 => False.elim (by omega))
    refine hxa_iconst (by rfl) rfl ?_
    exact hxa_ireturn (by rfl) rfl (hP _ _ ⟨(hJ.mono hA (by omega) (by omega)), _, rfl⟩)
theorem hX216 {d : Nat} {N : Int} {A0 A : hs_A} (hA : hJ 0 N (N + 72) A0 A) (hN : N ≤ 900000) (a1 : Int32) (a2 : Int32) : hxC (d + 7) 216 hm_m216 [.ref 368, .int a1, .int a2] A (fun r A' => hJ 0 (N + 72) (N + 144) A0 A' ∧ ∃ z : Int32, r = some (.int z)) := hxC.of (by rfl) (hY216 hA hN a1 a2 (fun r A' h => h))
theorem hY217 {d : Nat} {N : Int} {A0 A : hs_A} (hA : hJ 0 N (N + 72) A0 A) (hN : N ≤ 900000) (a1 : Int32) (a2 : Int32) {P : Option Value → hs_A → Prop} (hP : ∀ (r : Option Value) (A' : hs_A), (hJ 0 (N + 72) (N + 144) A0 A' ∧ ∃ z : Int32, r = some (.int z)) → P r A') : hxa (d + 6) (some (.int)) hm_t217 0 [.ref 368, .int a1, .int a2, .retAddr 0, .retAddr 0] [] A P := by
  have k0 := hk_0
  have k1 := hk_1
  have k4294967295 := hk_4294967295
  have L33 : ∀ (m33 : Nat) (x33_3 : Int32) (x33_4 : Int32) (Ac33 : hs_A) (hAc33 : hJ 0 N N A0 Ac33) (bx33_3 : 0 ≤ x33_3.toInt) (cx33_3 : x33_3.toInt ≤ 23) (bx33_4 : 1 ≤ x33_4.toInt) (cx33_4 : x33_4.toInt ≤ 24) (ba1 : 0 ≤ a1.toInt) (ca1 : a1.toInt ≤ 9) (ba2 : 0 ≤ a2.toInt) (ca2 : a2.toInt ≤ 1) (hm33 : 24 - x33_4.toInt < (m33 : Int)), hxa (d + 6) (some (.int)) hm_t217 33 [.ref 368, .int a1, .int a2, .int x33_3, .int x33_4] [] Ac33 P := by
    intro m33
    induction m33 with
    | zero => intro x33_3 x33_4 Ac33 hAc33 bx33_3 cx33_3 bx33_4 cx33_4 ba1 ca1 ba2 ca2 hm33;  exact False.elim (by omega)
    | succ m33 ih33 =>
      intro x33_3 x33_4 Ac33 hAc33 bx33_3 cx33_3 bx33_4 cx33_4 ba1 ca1 ba2 ca2 hm33
      refine hxa_iload (by rfl) rfl ?_
      refine hxa_bipush (by rfl) rfl ?_
      refine hxj_cge (by rfl) rfl hk_24 (fun q1 => ?_) (fun q1 => ?_)
      ·
        refine hxa_iload_n (by rfl) rfl ?_
        refine hxj_zne (by rfl) rfl (fun q2 => ?_) (fun q2 => ?_)
        ·
          refine hxa_aload_n (by rfl) rfl ?_
          refine hxa_get (v := .ref 404) (by rfl) (by rfl) (by rfl) rfl ?_
          refine hxa_iload_n (by rfl) rfl ?_
          refine hxj_iald (by rfl) (by rfl) rfl (by omega) (by omega) (fun z3 ez3 => ?_)
          refine hxa_aload_n (by rfl) rfl ?_
          refine hxa_get (v := .ref 397) (by rfl) (by rfl) (by rfl) rfl ?_
          refine hxa_iload_n (by rfl) rfl ?_
          refine hxj_iald396 (by rfl) rfl (by omega) (by omega) hAc33 (fun z4 ez4 fz4 => ?_)
          refine hxj_iandU (by rfl) (fun z5 => ?_)
          refine hxa_call2 (by rfl) (by decide) (by rfl) (by rfl) (by rfl) (hX166 (d := d + 5)  z5) ?_
          rintro _ _ ⟨rfl, z6, rfl⟩
          exact hxa_ireturn (by rfl) rfl (hP _ _ ⟨(hJ.mono hAc33 (by omega) (by omega)), _, rfl⟩)
        ·
          refine hxa_iload_n (by rfl) rfl ?_
          refine hxa_goto (by rfl) ?_
          exact hxa_ireturn (by rfl) rfl (hP _ _ ⟨(hJ.mono hAc33 (by omega) (by omega)), _, rfl⟩)
      ·
        refine hxa_aload_n (by rfl) rfl ?_
        refine hxa_get (v := .ref 404) (by rfl) (by rfl) (by rfl) rfl ?_
        refine hxa_iload (by rfl) rfl ?_
        refine hxj_iald (by rfl) (by rfl) rfl (by omega) (by omega) (fun z7 ez7 => ?_)
        refine hxa_aload_n (by rfl) rfl ?_
        refine hxa_get (v := .ref 397) (by rfl) (by rfl) (by rfl) rfl ?_
        refine hxa_iload_n (by rfl) rfl ?_
        refine hxj_iald396 (by rfl) rfl (by omega) (by omega) hAc33 (fun z8 ez8 fz8 => ?_)
        refine hxj_iandU (by rfl) (fun z9 => ?_)
        refine hxa_call2 (by rfl) (by decide) (by rfl) (by rfl) (by rfl) (hX166 (d := d + 5)  z9) ?_
        rintro _ _ ⟨rfl, z10, rfl⟩
        refine hxa_aload_n (by rfl) rfl ?_
        refine hxa_get (v := .ref 404) (by rfl) (by rfl) (by rfl) rfl ?_
        refine hxa_iload_n (by rfl) rfl ?_
        refine hxj_iald (by rfl) (by rfl) rfl (by omega) (by omega) (fun z11 ez11 => ?_)
        refine hxa_aload_n (by rfl) rfl ?_
        refine hxa_get (v := .ref 397) (by rfl) (by rfl) (by rfl) rfl ?_
        refine hxa_iload_n (by rfl) rfl ?_
        refine hxj_iald396 (by rfl) rfl (by omega) (by omega) hAc33 (fun z12 ez12 fz12 => ?_)
        refine hxj_iandU (by rfl) (fun z13 => ?_)
        refine hxa_call2 (by rfl) (by decide) (by rfl) (by rfl) (by rfl) (hX166 (d := d + 5)  z13) ?_
        rintro _ _ ⟨rfl, z14, rfl⟩
        have rgz10 := hn_rng z10
        have rgz14 := hn_rng z14
        refine hxj_cle (by rfl) rfl rfl (fun q15 => ?_) (fun q15 => ?_)
        ·
          refine hxj_iinc (by rfl) rfl rfl hk_1 (by omega) (by omega) (fun _ => rfl) (fun z16 ez16 => ?_)
          refine hxa_goto (by rfl) ?_
          exact ih33 x33_3 z16 Ac33 hAc33 (by omega) (by omega) (by omega) (by omega) (by omega) (by omega) (by omega) (by omega) (by omega)
        ·
          refine hxa_iload (by rfl) rfl ?_
          refine hxa_s1 (by rfl) (Or.inl ⟨_, rfl, rfl⟩) rfl ?_
          refine hxj_iinc (by rfl) rfl rfl hk_1 (by omega) (by omega) (fun _ => rfl) (fun z17 ez17 => ?_)
          refine hxa_goto (by rfl) ?_
          exact ih33 x33_4 z17 Ac33 hAc33 (by omega) (by omega) (by omega) (by omega) (by omega) (by omega) (by omega) (by omega) (by omega)
  refine hxa_aload_n (by rfl) rfl ?_
  refine hxa_iload_n (by rfl) rfl ?_
  refine hxa_call0 (by rfl) (by rfl) (by rfl) (by rfl) (by rfl) (by rfl) (hX167 (d := d + 4) hA a1) ?_
  rintro _ _ ⟨rfl, z18, rfl, fz18⟩
  rcases fz18 with fz18 | fz18
  ·
    refine hxj_zeq (by rfl) rfl (fun q19 => False.elim (by omega)) (fun q19 => ?_)
    refine hxa_iload_n (by rfl) rfl ?_
    refine hxa_iconst (by rfl) rfl ?_
    refine hxa_iconst (by rfl) rfl ?_
    refine hxa_call2 (by rfl) (by decide) (by rfl) (by rfl) (by rfl) (hX164 (d := d + 5)  a2 (Int32.ofNat 0) (Int32.ofNat 1)) ?_
    rintro _ _ ⟨rfl, z20, rfl, fz20⟩
    rcases fz20 with fz20 | fz20
    ·
      refine hxj_zne (by rfl) rfl (fun q21 => ?_) (fun q21 => False.elim (by omega))
      refine hxa_aload_n (by rfl) rfl ?_
      refine hxa_call0 (by rfl) (by rfl) (by rfl) (by rfl) (by rfl) (by rfl) (hX171 (d := d + 5) hA ) ?_
      rintro _ A22 ⟨hA22, rfl⟩
      refine hxa_aload_n (by rfl) rfl ?_
      refine hxa_iload_n (by rfl) rfl ?_
      refine hxa_call0 (by rfl) (by rfl) (by rfl) (by rfl) (by rfl) (by rfl) (hX214 (d := d + 0) hA22 a1 (by omega) (by omega)) ?_
      rintro _ A23 ⟨hA23, rfl⟩
      refine hxa_iconst (by rfl) rfl ?_
      refine hxa_s1 (by rfl) (Or.inl ⟨_, rfl, rfl⟩) rfl ?_
      refine hxa_iconst (by rfl) rfl ?_
      refine hxa_s1 (by rfl) (Or.inr ⟨_, rfl, rfl⟩) rfl ?_
      exact L33 (Int.toNat (24 - 1) + 1) (Int32.ofNat 0) (Int32.ofNat 1) A23 hA23 (by omega) (by omega) (by omega) (by omega) (by omega) (by omega) (by omega) (by omega) (by omega)
    ·
      refine hxj_zne (by rfl) rfl (fun q24 => False.elim (by omega)) (fun q24 => ?_)
      refine hxa_iconst (by rfl) rfl ?_
      exact hxa_ireturn (by rfl) rfl (hP _ _ ⟨(hJ.mono hA (by omega) (by omega)), _, rfl⟩)
  ·
    refine hxj_zeq (by rfl) rfl (fun q25 => ?_) (fun q25 => False.elim (by omega))
    refine hxa_iconst (by rfl) rfl ?_
    exact hxa_ireturn (by rfl) rfl (hP _ _ ⟨(hJ.mono hA (by omega) (by omega)), _, rfl⟩)
theorem hX217 {d : Nat} {N : Int} {A0 A : hs_A} (hA : hJ 0 N (N + 72) A0 A) (hN : N ≤ 900000) (a1 : Int32) (a2 : Int32) : hxC (d + 7) 217 hm_m217 [.ref 368, .int a1, .int a2] A (fun r A' => hJ 0 (N + 72) (N + 144) A0 A' ∧ ∃ z : Int32, r = some (.int z)) := hxC.of (by rfl) (hY217 hA hN a1 a2 (fun r A' h => h))
theorem hY218 {d : Nat} {N : Int} {A0 A : hs_A} (hA : hJ 0 N (N + 72) A0 A) (hN : N ≤ 900000) (a1 : Int32) {P : Option Value → hs_A → Prop} (hP : ∀ (r : Option Value) (A' : hs_A), (hJ 0 (N + 72) (N + 144) A0 A' ∧ ∃ z : Int32, r = some (.int z)) → P r A') : hxa (d + 2) (some (.int)) hm_t218 0 [.ref 368, .int a1] [] A P := by
  have k4294967295 := hk_4294967295
  refine hxa_aload_n (by rfl) rfl ?_
  refine hxa_iload_n (by rfl) rfl ?_
  refine hxa_call0 (by rfl) (by rfl) (by rfl) (by rfl) (by rfl) (by rfl) (hX167 (d := d + 0) hA a1) ?_
  rintro _ _ ⟨rfl, z1, rfl, fz1⟩
  rcases fz1 with fz1 | fz1
  ·
    refine hxj_zne (by rfl) rfl (fun q2 => ?_) (fun q2 => False.elim (by omega))
    refine hxa_aload_n (by rfl) rfl ?_
    refine hxa_call0 (by rfl) (by rfl) (by rfl) (by rfl) (by rfl) (by rfl) (hX171 (d := d + 1) hA ) ?_
    rintro _ A3 ⟨hA3, rfl⟩
    refine hxa_aload_n (by rfl) rfl ?_
    refine hxa_iload_n (by rfl) rfl ?_
    refine hxa_call0 (by rfl) (by rfl) (by rfl) (by rfl) (by rfl) (by rfl) (hX200 (d := d + 0) hA3 a1 (by omega)) ?_
    rintro _ _ ⟨rfl, z4, rfl⟩
    exact hxa_ireturn (by rfl) rfl (hP _ _ ⟨(hJ.mono hA3 (by omega) (by omega)), _, rfl⟩)
  ·
    refine hxj_zne (by rfl) rfl (fun q5 => False.elim (by omega)) (fun q5 => ?_)
    refine hxa_iconst (by rfl) rfl ?_
    exact hxa_ireturn (by rfl) rfl (hP _ _ ⟨(hJ.mono hA (by omega) (by omega)), _, rfl⟩)
theorem hX218 {d : Nat} {N : Int} {A0 A : hs_A} (hA : hJ 0 N (N + 72) A0 A) (hN : N ≤ 900000) (a1 : Int32) : hxC (d + 3) 218 hm_m218 [.ref 368, .int a1] A (fun r A' => hJ 0 (N + 72) (N + 144) A0 A' ∧ ∃ z : Int32, r = some (.int z)) := hxC.of (by rfl) (hY218 hA hN a1 (fun r A' h => h))
theorem hY219 {d : Nat} {N : Int} {A0 A : hs_A} (hA : hJ 0 N (N + 72) A0 A) (hN : N ≤ 900000) (a1 : Int32) (a2 : Int32) {P : Option Value → hs_A → Prop} (hP : ∀ (r : Option Value) (A' : hs_A), (hJ 0 (N + 72) (N + 144) A0 A' ∧ ∃ z : Int32, r = some (.int z)) → P r A') : hxa (d + 5) (some (.int)) hm_t219 0 [.ref 368, .int a1, .int a2, .retAddr 0, .retAddr 0] [] A P := by
  have k0 := hk_0
  have k1 := hk_1
  have k4294967294 := hk_4294967294
  have k4294967295 := hk_4294967295
  have L126 : ∀ (m126 : Nat) (x126_3 : Int32) (x126_4 : Int32) (Ac126 : hs_A) (hAc126 : hJ 0 N (N + 72) A0 Ac126) (bx126_3 : 0 ≤ x126_3.toInt) (cx126_3 : x126_3.toInt ≤ 9) (bx126_4 : 1 ≤ x126_4.toInt) (cx126_4 : x126_4.toInt ≤ 10) (ba1 : 1 ≤ a1.toInt) (ca1 : a1.toInt ≤ 72) (ba2 : 0 ≤ a2.toInt) (ca2 : a2.toInt ≤ 1) (hm126 : 10 - x126_4.toInt < (m126 : Int)), hxa (d + 5) (some (.int)) hm_t219 126 [.ref 368, .int a1, .int a2, .int x126_3, .int x126_4] [] Ac126 P := by
    intro m126
    induction m126 with
    | zero => intro x126_3 x126_4 Ac126 hAc126 bx126_3 cx126_3 bx126_4 cx126_4 ba1 ca1 ba2 ca2 hm126;  exact False.elim (by omega)
    | succ m126 ih126 =>
      intro x126_3 x126_4 Ac126 hAc126 bx126_3 cx126_3 bx126_4 cx126_4 ba1 ca1 ba2 ca2 hm126
      refine hxa_iload (by rfl) rfl ?_
      refine hxa_aload_n (by rfl) rfl ?_
      refine hxa_get (v := .ref 377) (by rfl) (by rfl) (by rfl) rfl ?_
      refine hxa_aload_n (by rfl) rfl ?_
      refine hxj_getB (by rfl) (by rfl) (by rfl) hAc126 (by rfl) (fun z1 ez1 fz1 gz1 => ?_)
      refine hxj_ialdB (by rfl) (by rfl) rfl (by omega) (by omega) hAc126 (by rfl) (fun z2 ez2 fz2 gz2 => ?_)
      refine hxj_cge (by rfl) rfl rfl (fun q3 => ?_) (fun q3 => ?_)
      ·
        refine hxa_iload_n (by rfl) rfl ?_
        refine hxj_zne (by rfl) rfl (fun q4 => ?_) (fun q4 => ?_)
        ·
          refine hxa_aload_n (by rfl) rfl ?_
          refine hxa_get (v := .ref 406) (by rfl) (by rfl) (by rfl) rfl ?_
          refine hxa_iload_n (by rfl) rfl ?_
          refine hxj_iald (by rfl) (by rfl) rfl (by omega) (by omega) (fun z5 ez5 => ?_)
          exact hxa_ireturn (by rfl) rfl (hP _ _ ⟨(hJ.mono hAc126 (by omega) (by omega)), _, rfl⟩)
        ·
          refine hxa_iload_n (by rfl) rfl ?_
          refine hxa_goto (by rfl) ?_
          exact hxa_ireturn (by rfl) rfl (hP _ _ ⟨(hJ.mono hAc126 (by omega) (by omega)), _, rfl⟩)
      ·
        refine hxa_aload_n (by rfl) rfl ?_
        refine hxa_get (v := .ref 406) (by rfl) (by rfl) (by rfl) rfl ?_
        refine hxa_iload (by rfl) rfl ?_
        refine hxj_iald (by rfl) (by rfl) rfl (by omega) (by omega) (fun z6 ez6 => ?_)
        refine hxa_aload_n (by rfl) rfl ?_
        refine hxa_get (v := .ref 406) (by rfl) (by rfl) (by rfl) rfl ?_
        refine hxa_iload_n (by rfl) rfl ?_
        refine hxj_iald (by rfl) (by rfl) rfl (by omega) (by omega) (fun z7 ez7 => ?_)
        have rgz6 := hn_rng z6
        have rgz7 := hn_rng z7
        refine hxj_cle (by rfl) rfl rfl (fun q8 => ?_) (fun q8 => ?_)
        ·
          refine hxj_iinc (by rfl) rfl rfl hk_1 (by omega) (by omega) (fun _ => rfl) (fun z9 ez9 => ?_)
          refine hxa_goto (by rfl) ?_
          exact ih126 x126_3 z9 Ac126 hAc126 (by omega) (by omega) (by omega) (by omega) (by omega) (by omega) (by omega) (by omega) (by omega)
        ·
          refine hxa_iload (by rfl) rfl ?_
          refine hxa_s1 (by rfl) (Or.inl ⟨_, rfl, rfl⟩) rfl ?_
          refine hxj_iinc (by rfl) rfl rfl hk_1 (by omega) (by omega) (fun _ => rfl) (fun z10 ez10 => ?_)
          refine hxa_goto (by rfl) ?_
          exact ih126 x126_4 z10 Ac126 hAc126 (by omega) (by omega) (by omega) (by omega) (by omega) (by omega) (by omega) (by omega) (by omega)
  have L60 : ∀ (m60 : Nat) (x60_3 : Int32) (x60_4 : Value) (Ac60 : hs_A) (hAc60 : hJ 0 N (N + x60_3.toInt) A0 Ac60) (bx60_3 : 0 ≤ x60_3.toInt) (cx60_3 : x60_3.toInt ≤ 72) (ba1 : 1 ≤ a1.toInt) (ca1 : a1.toInt ≤ 72) (ba2 : 0 ≤ a2.toInt) (ca2 : a2.toInt ≤ 1) (hm60 : 72 - x60_3.toInt < (m60 : Int)), hxa (d + 5) (some (.int)) hm_t219 60 [.ref 368, .int a1, .int a2, .int x60_3, x60_4] [] Ac60 P := by
    intro m60
    induction m60 with
    | zero => intro x60_3 x60_4 Ac60 hAc60 bx60_3 cx60_3 ba1 ca1 ba2 ca2 hm60;  exact False.elim (by omega)
    | succ m60 ih60 =>
      intro x60_3 x60_4 Ac60 hAc60 bx60_3 cx60_3 ba1 ca1 ba2 ca2 hm60
      have L72 : ∀ (m72 : Nat) (x72_4 : Int32) (Ac72 : hs_A) (hAc72 : hJ 0 N ((N + x60_3.toInt) + 1) A0 Ac72) (bx72_4 : 0 ≤ x72_4.toInt) (cx72_4 : x72_4.toInt ≤ 10) (cx60_3 : x60_3.toInt ≤ 71) (hm72 : 10 - x72_4.toInt < (m72 : Int)), hxa (d + 5) (some (.int)) hm_t219 72 [.ref 368, .int a1, .int a2, .int x60_3, .int x72_4] [] Ac72 P := by
        intro m72
        induction m72 with
        | zero => intro x72_4 Ac72 hAc72 bx72_4 cx72_4 cx60_3 hm72;  exact False.elim (by omega)
        | succ m72 ih72 =>
          intro x72_4 Ac72 hAc72 bx72_4 cx72_4 cx60_3 hm72
          refine hxa_iload (by rfl) rfl ?_
          refine hxa_aload_n (by rfl) rfl ?_
          refine hxa_get (v := .ref 377) (by rfl) (by rfl) (by rfl) rfl ?_
          refine hxa_aload_n (by rfl) rfl ?_
          refine hxj_getB (by rfl) (by rfl) (by rfl) hAc72 (by rfl) (fun z11 ez11 fz11 gz11 => ?_)
          refine hxj_ialdB (by rfl) (by rfl) rfl (by omega) (by omega) hAc72 (by rfl) (fun z12 ez12 fz12 gz12 => ?_)
          refine hxj_cge (by rfl) rfl rfl (fun q13 => ?_) (fun q13 => ?_)
          ·
            refine hxj_iinc (by rfl) rfl rfl hk_1 (by omega) (by omega) (fun _ => rfl) (fun z14 ez14 => ?_)
            refine hxa_goto (by rfl) ?_
            exact ih60 z14 (.int x72_4) Ac72 (hJ.mono hAc72 (by omega) (by omega)) (by omega) (by omega) (by omega) (by omega) (by omega) (by omega) (by omega)
          ·
            refine hxa_aload_n (by rfl) rfl ?_
            refine hxa_get (v := .ref 406) (by rfl) (by rfl) (by rfl) rfl ?_
            refine hxa_iload (by rfl) rfl ?_
            refine hxa_dup2IR (by rfl) ?_
            refine hxj_iald (by rfl) (by rfl) rfl (by omega) (by omega) (fun z15 ez15 => ?_)
            refine hxa_aload_n (by rfl) rfl ?_
            refine hxa_get (v := .ref 397) (by rfl) (by rfl) (by rfl) rfl ?_
            refine hxa_bipush (by rfl) rfl ?_
            refine hxa_iload (by rfl) rfl ?_
            refine hxj_iadd (by rfl) hk_30 rfl (by omega) (by omega) (fun z16 ez16 => ?_)
            refine hxj_iald396 (by rfl) rfl (by omega) (by omega) hAc72 (fun z17 ez17 fz17 => ?_)
            refine hxa_call2 (by rfl) (by decide) (by rfl) (by rfl) (by rfl) (hX166 (d := d + 4)  z17) ?_
            rintro _ _ ⟨rfl, z18, rfl⟩
            refine hxj_iaddU (by rfl) (fun z19 => ?_)
            refine hxj_iast (by rfl) (by rfl) rfl (by omega) (by omega) hAc72 (hbokN (by rfl)) (by rfl) (by rfl) (fun A20 hA20 eA20 fA20 gA20 => ?_)
            refine hxj_iinc (by rfl) rfl rfl hk_1 (by omega) (by omega) (fun _ => rfl) (fun z21 ez21 => ?_)
            refine hxa_goto (by rfl) ?_
            exact ih72 z21 A20 hA20 (by omega) (by omega) (by omega) (by omega)
      refine hxa_iload_n (by rfl) rfl ?_
      refine hxa_iload_n (by rfl) rfl ?_
      refine hxj_cge (by rfl) rfl rfl (fun q22 => ?_) (fun q22 => ?_)
      ·
        refine hxa_iconst (by rfl) rfl ?_
        refine hxa_s1 (by rfl) (Or.inl ⟨_, rfl, rfl⟩) rfl ?_
        refine hxa_iconst (by rfl) rfl ?_
        refine hxa_s1 (by rfl) (Or.inr ⟨_, rfl, rfl⟩) rfl ?_
        exact L126 (Int.toNat (10 - 1) + 1) (Int32.ofNat 0) (Int32.ofNat 1) Ac60 (hJ.mono hAc60 (by omega) (by omega)) (by omega) (by omega) (by omega) (by omega) (by omega) (by omega) (by omega) (by omega) (by omega)
      ·
        refine hxa_aload_n (by rfl) rfl ?_
        refine hxa_call0 (by rfl) (by rfl) (by rfl) (by rfl) (by rfl) (by rfl) (hX184 (d := d + 0) hAc60 (by omega)) ?_
        rintro _ A23 ⟨hA23, rfl⟩
        refine hxa_iconst (by rfl) rfl ?_
        refine hxa_s1 (by rfl) (Or.inr ⟨_, rfl, rfl⟩) rfl ?_
        exact L72 (Int.toNat (10 - 0) + 1) (Int32.ofNat 0) A23 hA23 (by omega) (by omega) (by omega) (by omega)
  have L39 : ∀ (m39 : Nat) (x39_3 : Int32) (Ac39 : hs_A) (hAc39 : hJ 0 N N A0 Ac39) (bx39_3 : 0 ≤ x39_3.toInt) (cx39_3 : x39_3.toInt ≤ 10) (ba1 : 1 ≤ a1.toInt) (ca1 : a1.toInt ≤ 72) (ba2 : 0 ≤ a2.toInt) (ca2 : a2.toInt ≤ 1) (hm39 : 10 - x39_3.toInt < (m39 : Int)), hxa (d + 5) (some (.int)) hm_t219 39 [.ref 368, .int a1, .int a2, .int x39_3, .retAddr 0] [] Ac39 P := by
    intro m39
    induction m39 with
    | zero => intro x39_3 Ac39 hAc39 bx39_3 cx39_3 ba1 ca1 ba2 ca2 hm39;  exact False.elim (by omega)
    | succ m39 ih39 =>
      intro x39_3 Ac39 hAc39 bx39_3 cx39_3 ba1 ca1 ba2 ca2 hm39
      refine hxa_iload_n (by rfl) rfl ?_
      refine hxa_bipush (by rfl) rfl ?_
      refine hxj_cge (by rfl) rfl hk_10 (fun q24 => ?_) (fun q24 => ?_)
      ·
        refine hxa_iconst (by rfl) rfl ?_
        refine hxa_s1 (by rfl) (Or.inl ⟨_, rfl, rfl⟩) rfl ?_
        exact L60 (Int.toNat (72 - 0) + 1) (Int32.ofNat 0) (.retAddr 0) Ac39 (hJ.mono hAc39 (by omega) (by omega)) (by omega) (by omega) (by omega) (by omega) (by omega) (by omega) (by omega)
      ·
        refine hxa_aload_n (by rfl) rfl ?_
        refine hxa_get (v := .ref 406) (by rfl) (by rfl) (by rfl) rfl ?_
        refine hxa_iload_n (by rfl) rfl ?_
        refine hxa_iconst (by rfl) rfl ?_
        refine hxj_iast (by rfl) (by rfl) rfl (by omega) (by omega) hAc39 (hbokN (by rfl)) (by rfl) (by rfl) (fun A25 hA25 eA25 fA25 gA25 => ?_)
        refine hxj_iinc (by rfl) rfl rfl hk_1 (by omega) (by omega) (fun _ => rfl) (fun z26 ez26 => ?_)
        refine hxa_goto (by rfl) ?_
        exact ih39 z26 A25 hA25 (by omega) (by omega) (by omega) (by omega) (by omega) (by omega) (by omega)
  refine hxa_iload_n (by rfl) rfl ?_
  refine hxa_call2 (by rfl) (by decide) (by rfl) (by rfl) (by rfl) (hX197 (d := d + 3)  a1) ?_
  rintro _ _ ⟨rfl, z27, rfl, fz27⟩
  rcases fz27 with fz27 | fz27
  ·
    refine hxj_zeq (by rfl) rfl (fun q28 => False.elim (by omega)) (fun q28 => ?_)
    refine hxa_iload_n (by rfl) rfl ?_
    refine hxa_iconst (by rfl) rfl ?_
    refine hxa_iconst (by rfl) rfl ?_
    refine hxa_call2 (by rfl) (by decide) (by rfl) (by rfl) (by rfl) (hX164 (d := d + 4)  a2 (Int32.ofNat 0) (Int32.ofNat 1)) ?_
    rintro _ _ ⟨rfl, z29, rfl, fz29⟩
    rcases fz29 with fz29 | fz29
    ·
      refine hxj_zne (by rfl) rfl (fun q30 => ?_) (fun q30 => False.elim (by omega))
      refine hxa_aload_n (by rfl) rfl ?_
      refine hxa_get (v := .ref 377) (by rfl) (by rfl) (by rfl) rfl ?_
      refine hxa_aload_n (by rfl) rfl ?_
      refine hxj_getB (by rfl) (by rfl) (by rfl) hA (by rfl) (fun z31 ez31 fz31 gz31 => ?_)
      refine hxj_ialdB (by rfl) (by rfl) rfl (by omega) (by omega) hA (by rfl) (fun z32 ez32 fz32 gz32 => ?_)
      refine hxj_zne (by rfl) rfl (fun q33 => ?_) (fun q33 => ?_)
      ·
        refine hxa_aload_n (by rfl) rfl ?_
        refine hxa_call0 (by rfl) (by rfl) (by rfl) (by rfl) (by rfl) (by rfl) (hX172 (d := d + 3) hA ) ?_
        rintro _ A34 ⟨hA34, rfl⟩
        refine hxa_iconst (by rfl) rfl ?_
        refine hxa_s1 (by rfl) (Or.inl ⟨_, rfl, rfl⟩) rfl ?_
        exact L39 (Int.toNat (10 - 0) + 1) (Int32.ofNat 0) A34 hA34 (by omega) (by omega) (by omega) (by omega) (by omega) (by omega) (by omega)
      ·
        refine hxa_bipush (by rfl) rfl ?_
        exact hxa_ireturn (by rfl) rfl (hP _ _ ⟨(hJ.mono hA (by omega) (by omega)), _, rfl⟩)
    ·
      refine hxj_zne (by rfl) rfl (fun q35 => False.elim (by omega)) (fun q35 => ?_)
      refine hxa_iconst (by rfl) rfl ?_
      exact hxa_ireturn (by rfl) rfl (hP _ _ ⟨(hJ.mono hA (by omega) (by omega)), _, rfl⟩)
  ·
    refine hxj_zeq (by rfl) rfl (fun q36 => ?_) (fun q36 => False.elim (by omega))
    refine hxa_iconst (by rfl) rfl ?_
    exact hxa_ireturn (by rfl) rfl (hP _ _ ⟨(hJ.mono hA (by omega) (by omega)), _, rfl⟩)
theorem hX219 {d : Nat} {N : Int} {A0 A : hs_A} (hA : hJ 0 N (N + 72) A0 A) (hN : N ≤ 900000) (a1 : Int32) (a2 : Int32) : hxC (d + 6) 219 hm_m219 [.ref 368, .int a1, .int a2] A (fun r A' => hJ 0 (N + 72) (N + 144) A0 A' ∧ ∃ z : Int32, r = some (.int z)) := hxC.of (by rfl) (hY219 hA hN a1 a2 (fun r A' h => h))
theorem hY220 {d : Nat} {N : Int} {A0 A : hs_A} (hA : hJ 0 N (N + 72) A0 A) (hN : N ≤ 900000) (a1 : Int32) {P : Option Value → hs_A → Prop} (hP : ∀ (r : Option Value) (A' : hs_A), (hJ 0 (N + 72) (N + 144) A0 A' ∧ ∃ z : Int32, r = some (.int z)) → P r A') : hxa (d + 6) (some (.int)) hm_t220 0 [.ref 368, .int a1, .retAddr 0, .retAddr 0] [] A P := by
  have k0 := hk_0
  have k4294967295 := hk_4294967295
  have L22 : ∀ (m22 : Nat) (x22_2 : Int32) (x22_3 : Int32) (Ac22 : hs_A) (hAc22 : hJ 0 N (N + 72) A0 Ac22) (bx22_3 : 0 ≤ x22_3.toInt) (cx22_3 : x22_3.toInt ≤ 10) (ba1 : 0 ≤ a1.toInt) (ca1 : a1.toInt ≤ 72) (hm22 : 10 - x22_3.toInt < (m22 : Int)), hxa (d + 6) (some (.int)) hm_t220 22 [.ref 368, .int a1, .int x22_2, .int x22_3] [] Ac22 P := by
    intro m22
    induction m22 with
    | zero => intro x22_2 x22_3 Ac22 hAc22 bx22_3 cx22_3 ba1 ca1 hm22; have := hn_rng x22_2; exact False.elim (by omega)
    | succ m22 ih22 =>
      intro x22_2 x22_3 Ac22 hAc22 bx22_3 cx22_3 ba1 ca1 hm22
      refine hxa_iload_n (by rfl) rfl ?_
      refine hxa_aload_n (by rfl) rfl ?_
      refine hxa_get (v := .ref 377) (by rfl) (by rfl) (by rfl) rfl ?_
      refine hxa_aload_n (by rfl) rfl ?_
      refine hxj_getB (by rfl) (by rfl) (by rfl) hAc22 (by rfl) (fun z1 ez1 fz1 gz1 => ?_)
      refine hxj_ialdB (by rfl) (by rfl) rfl (by omega) (by omega) hAc22 (by rfl) (fun z2 ez2 fz2 gz2 => ?_)
      refine hxj_cge (by rfl) rfl rfl (fun q3 => ?_) (fun q3 => ?_)
      ·
        refine hxa_iload_n (by rfl) rfl ?_
        exact hxa_ireturn (by rfl) rfl (hP _ _ ⟨(hJ.mono hAc22 (by omega) (by omega)), _, rfl⟩)
      ·
        refine hxa_aload_n (by rfl) rfl ?_
        refine hxa_get (v := .ref 397) (by rfl) (by rfl) (by rfl) rfl ?_
        refine hxa_bipush (by rfl) rfl ?_
        refine hxa_iload_n (by rfl) rfl ?_
        refine hxj_iadd (by rfl) hk_30 rfl (by omega) (by omega) (fun z4 ez4 => ?_)
        refine hxj_iald396 (by rfl) rfl (by omega) (by omega) hAc22 (fun z5 ez5 fz5 => ?_)
        refine hxj_zeq (by rfl) rfl (fun q6 => ?_) (fun q6 => ?_)
        ·
          refine hxj_iinc (by rfl) rfl rfl hk_1 (by omega) (by omega) (fun _ => rfl) (fun z7 ez7 => ?_)
          refine hxa_goto (by rfl) ?_
          exact ih22 x22_2 z7 Ac22 hAc22 (by omega) (by omega) (by omega) (by omega) (by omega)
        ·
          refine hxj_iincU (by rfl) rfl (fun _ => rfl) (fun z8 => ?_)
          refine hxj_iinc (by rfl) rfl rfl hk_1 (by omega) (by omega) (fun _ => rfl) (fun z9 ez9 => ?_)
          refine hxa_goto (by rfl) ?_
          exact ih22 z8 z9 Ac22 hAc22 (by omega) (by omega) (by omega) (by omega) (by omega)
  refine hxa_iload_n (by rfl) rfl ?_
  refine hxa_call2 (by rfl) (by decide) (by rfl) (by rfl) (by rfl) (hX196 (d := d + 4)  a1) ?_
  rintro _ _ ⟨rfl, z10, rfl, fz10⟩
  rcases fz10 with fz10 | fz10
  ·
    refine hxj_zne (by rfl) rfl (fun q11 => ?_) (fun q11 => False.elim (by omega))
    refine hxa_aload_n (by rfl) rfl ?_
    refine hxa_call0 (by rfl) (by rfl) (by rfl) (by rfl) (by rfl) (by rfl) (hX172 (d := d + 4) hA ) ?_
    rintro _ A12 ⟨hA12, rfl⟩
    refine hxa_aload_n (by rfl) rfl ?_
    refine hxa_iload_n (by rfl) rfl ?_
    refine hxa_call0 (by rfl) (by rfl) (by rfl) (by rfl) (by rfl) (by rfl) (hX185 (d := d + 0) hA12 (by omega) a1 (by omega) (by omega)) ?_
    rintro _ A13 ⟨hA13, rfl⟩
    refine hxa_iconst (by rfl) rfl ?_
    refine hxa_s1 (by rfl) (Or.inl ⟨_, rfl, rfl⟩) rfl ?_
    refine hxa_iconst (by rfl) rfl ?_
    refine hxa_s1 (by rfl) (Or.inl ⟨_, rfl, rfl⟩) rfl ?_
    exact L22 (Int.toNat (10 - 0) + 1) (Int32.ofNat 0) (Int32.ofNat 0) A13 hA13 (by omega) (by omega) (by omega) (by omega) (by omega)
  ·
    refine hxj_zne (by rfl) rfl (fun q14 => False.elim (by omega)) (fun q14 => ?_)
    refine hxa_iconst (by rfl) rfl ?_
    exact hxa_ireturn (by rfl) rfl (hP _ _ ⟨(hJ.mono hA (by omega) (by omega)), _, rfl⟩)
theorem hX220 {d : Nat} {N : Int} {A0 A : hs_A} (hA : hJ 0 N (N + 72) A0 A) (hN : N ≤ 900000) (a1 : Int32) : hxC (d + 7) 220 hm_m220 [.ref 368, .int a1] A (fun r A' => hJ 0 (N + 72) (N + 144) A0 A' ∧ ∃ z : Int32, r = some (.int z)) := hxC.of (by rfl) (hY220 hA hN a1 (fun r A' h => h))
theorem hY221 {d : Nat} {Bn Br : Int} {A0 A : hs_A} (hA : hJ 0 Bn Br A0 A)  (a1 : Int32) {P : Option Value → hs_A → Prop} (hP : ∀ (r : Option Value) (A' : hs_A), (A = A' ∧ ∃ z : Int32, r = some (.int z)) → P r A') : hxa (d + 0) (some (.int)) hm_t221 0 [.ref 368, .int a1, .retAddr 0] [] A P := by
  have k0 := hk_0
  have k4294967295 := hk_4294967295
  have L2 : ∀ (m2 : Nat) (x2_2 : Int32) (bx2_2 : 0 ≤ x2_2.toInt) (cx2_2 : x2_2.toInt ≤ 10) (hm2 : 10 - x2_2.toInt < (m2 : Int)), hxa (d + 0) (some (.int)) hm_t221 2 [.ref 368, .int a1, .int x2_2] [] A P := by
    intro m2
    induction m2 with
    | zero => intro x2_2 bx2_2 cx2_2 hm2;  exact False.elim (by omega)
    | succ m2 ih2 =>
      intro x2_2 bx2_2 cx2_2 hm2
      refine hxa_iload_n (by rfl) rfl ?_
      refine hxa_aload_n (by rfl) rfl ?_
      refine hxa_get (v := .ref 377) (by rfl) (by rfl) (by rfl) rfl ?_
      refine hxa_aload_n (by rfl) rfl ?_
      refine hxj_getB (by rfl) (by rfl) (by rfl) hA (by rfl) (fun z1 ez1 fz1 gz1 => ?_)
      refine hxj_ialdB (by rfl) (by rfl) rfl (by omega) (by omega) hA (by rfl) (fun z2 ez2 fz2 gz2 => ?_)
      refine hxj_cge (by rfl) rfl rfl (fun q3 => ?_) (fun q3 => ?_)
      ·
        refine hxa_iconst (by rfl) rfl ?_
        exact hxa_ireturn (by rfl) rfl (hP _ _ ⟨rfl, _, rfl⟩)
      ·
        refine hxa_aload_n (by rfl) rfl ?_
        refine hxa_get (v := .ref 396) (by rfl) (by rfl) (by rfl) rfl ?_
        refine hxa_bipush (by rfl) rfl ?_
        refine hxa_iload_n (by rfl) rfl ?_
        refine hxj_iadd (by rfl) hk_20 rfl (by omega) (by omega) (fun z4 ez4 => ?_)
        refine hxj_iald395 (by rfl) rfl (by omega) (by omega) hA (fun z5 ez5 fz5 => ?_)
        refine hxa_iload_n (by rfl) rfl ?_
        refine hxj_cne (by rfl) rfl rfl (fun q6 => ?_) (fun q6 => ?_)
        ·
          refine hxj_iinc (by rfl) rfl rfl hk_1 (by omega) (by omega) (fun _ => rfl) (fun z7 ez7 => ?_)
          refine hxa_goto (by rfl) ?_
          exact ih2 z7 (by omega) (by omega) (by omega)
        ·
          refine hxa_iload_n (by rfl) rfl ?_
          exact hxa_ireturn (by rfl) rfl (hP _ _ ⟨rfl, _, rfl⟩)
  refine hxa_iconst (by rfl) rfl ?_
  refine hxa_s1 (by rfl) (Or.inl ⟨_, rfl, rfl⟩) rfl ?_
  exact L2 (Int.toNat (10 - 0) + 1) (Int32.ofNat 0) (by omega) (by omega) (by omega)
theorem hX221 {d : Nat} {Bn Br : Int} {A0 A : hs_A} (hA : hJ 0 Bn Br A0 A)  (a1 : Int32) : hxC (d + 1) 221 hm_m221 [.ref 368, .int a1] A (fun r A' => A = A' ∧ ∃ z : Int32, r = some (.int z)) := hxC.of (by rfl) (hY221 hA a1 (fun r A' h => h))
theorem hY222 {d : Nat} {N : Int} {A0 A : hs_A} (hA : hJ 0 N (N + 72) A0 A) (hN : N ≤ 900000) (a1 : Int32) {P : Option Value → hs_A → Prop} (hP : ∀ (r : Option Value) (A' : hs_A), (hJ 0 (N + 72) (N + 144) A0 A' ∧ ∃ z : Int32, r = some (.int z)) → P r A') : hxa (d + 5) (some (.int)) hm_t222 0 [.ref 368, .int a1, .retAddr 0] [] A P := by
  have k1 := hk_1
  have k4294967294 := hk_4294967294
  have k4294967295 := hk_4294967295
  have L16 : ∀ (m16 : Nat) (x16_2 : Int32) (Ac16 : hs_A) (hAc16 : hJ 0 N (N + x16_2.toInt) A0 Ac16) (bx16_2 : 1 ≤ x16_2.toInt) (cx16_2 : x16_2.toInt ≤ 73) (ba1 : 0 ≤ a1.toInt) (ca1 : a1.toInt ≤ 9) (hm16 : 73 - x16_2.toInt < (m16 : Int)), hxa (d + 5) (some (.int)) hm_t222 16 [.ref 368, .int a1, .int x16_2] [] Ac16 P := by
    intro m16
    induction m16 with
    | zero => intro x16_2 Ac16 hAc16 bx16_2 cx16_2 ba1 ca1 hm16;  exact False.elim (by omega)
    | succ m16 ih16 =>
      intro x16_2 Ac16 hAc16 bx16_2 cx16_2 ba1 ca1 hm16
      refine hxa_iload_n (by rfl) rfl ?_
      refine hxa_bipush (by rfl) rfl ?_
      refine hxj_cgt (by rfl) rfl hk_72 (fun q1 => ?_) (fun q1 => ?_)
      ·
        refine hxa_bipush (by rfl) rfl ?_
        exact hxa_ireturn (by rfl) rfl (hP _ _ ⟨(hJ.mono hAc16 (by omega) (by omega)), _, rfl⟩)
      ·
        refine hxa_aload_n (by rfl) rfl ?_
        refine hxa_call0 (by rfl) (by rfl) (by rfl) (by rfl) (by rfl) (by rfl) (hX184 (d := d + 0) hAc16 (by omega)) ?_
        rintro _ A2 ⟨hA2, rfl⟩
        refine hxa_aload_n (by rfl) rfl ?_
        refine hxa_get (v := .ref 397) (by rfl) (by rfl) (by rfl) rfl ?_
        refine hxa_bipush (by rfl) rfl ?_
        refine hxa_iload_n (by rfl) rfl ?_
        refine hxj_iadd (by rfl) hk_30 rfl (by omega) (by omega) (fun z3 ez3 => ?_)
        refine hxj_iald396 (by rfl) rfl (by omega) (by omega) hA2 (fun z4 ez4 fz4 => ?_)
        refine hxj_zeq (by rfl) rfl (fun q5 => ?_) (fun q5 => ?_)
        ·
          refine hxj_iinc (by rfl) rfl rfl hk_1 (by omega) (by omega) (fun _ => rfl) (fun z6 ez6 => ?_)
          refine hxa_goto (by rfl) ?_
          exact ih16 z6 A2 (hJ.mono hA2 (by omega) (by omega)) (by omega) (by omega) (by omega) (by omega) (by omega)
        ·
          refine hxa_iload_n (by rfl) rfl ?_
          exact hxa_ireturn (by rfl) rfl (hP _ _ ⟨(hJ.mono hA2 (by omega) (by omega)), _, rfl⟩)
  refine hxa_aload_n (by rfl) rfl ?_
  refine hxa_iload_n (by rfl) rfl ?_
  refine hxa_call0 (by rfl) (by rfl) (by rfl) (by rfl) (by rfl) (by rfl) (hX167 (d := d + 3) hA a1) ?_
  rintro _ _ ⟨rfl, z7, rfl, fz7⟩
  rcases fz7 with fz7 | fz7
  ·
    refine hxj_zne (by rfl) rfl (fun q8 => ?_) (fun q8 => False.elim (by omega))
    refine hxa_aload_n (by rfl) rfl ?_
    refine hxa_call0 (by rfl) (by rfl) (by rfl) (by rfl) (by rfl) (by rfl) (hX172 (d := d + 3) hA ) ?_
    rintro _ A9 ⟨hA9, rfl⟩
    refine hxa_iconst (by rfl) rfl ?_
    refine hxa_s1 (by rfl) (Or.inl ⟨_, rfl, rfl⟩) rfl ?_
    exact L16 (Int.toNat (73 - 1) + 1) (Int32.ofNat 1) A9 (hJ.mono hA9 (by omega) (by omega)) (by omega) (by omega) (by omega) (by omega) (by omega)
  ·
    refine hxj_zne (by rfl) rfl (fun q10 => False.elim (by omega)) (fun q10 => ?_)
    refine hxa_iconst (by rfl) rfl ?_
    exact hxa_ireturn (by rfl) rfl (hP _ _ ⟨(hJ.mono hA (by omega) (by omega)), _, rfl⟩)
theorem hX222 {d : Nat} {N : Int} {A0 A : hs_A} (hA : hJ 0 N (N + 72) A0 A) (hN : N ≤ 900000) (a1 : Int32) : hxC (d + 6) 222 hm_m222 [.ref 368, .int a1] A (fun r A' => hJ 0 (N + 72) (N + 144) A0 A' ∧ ∃ z : Int32, r = some (.int z)) := hxC.of (by rfl) (hY222 hA hN a1 (fun r A' h => h))
theorem hY223 {d : Nat} {N : Int} {A0 A : hs_A} (hA : hJ 0 N (N + 72) A0 A) (hN : N ≤ 900000) (a1 : Int32) (a2 : Int32) (a3 : Int32) {P : Option Value → hs_A → Prop} (hP : ∀ (r : Option Value) (A' : hs_A), (hJ 0 (N + 72) (N + 144) A0 A' ∧ ∃ z : Int32, r = some (.int z)) → P r A') : hxa (d + 6) (some (.int)) hm_t223 0 [.ref 368, .int a1, .int a2, .int a3] [] A P := by
  have k0 := hk_0
  have k2 := hk_2
  have k4294967295 := hk_4294967295
  refine hxa_iload_n (by rfl) rfl ?_
  refine hxa_call2 (by rfl) (by decide) (by rfl) (by rfl) (by rfl) (hX196 (d := d + 4)  a2) ?_
  rintro _ _ ⟨rfl, z1, rfl, fz1⟩
  rcases fz1 with fz1 | fz1
  ·
    refine hxj_zeq (by rfl) rfl (fun q2 => False.elim (by omega)) (fun q2 => ?_)
    refine hxa_iload_n (by rfl) rfl ?_
    refine hxa_iconst (by rfl) rfl ?_
    refine hxa_iconst (by rfl) rfl ?_
    refine hxa_call2 (by rfl) (by decide) (by rfl) (by rfl) (by rfl) (hX164 (d := d + 5)  a3 (Int32.ofNat 0) (Int32.ofNat 2)) ?_
    rintro _ _ ⟨rfl, z3, rfl, fz3⟩
    rcases fz3 with fz3 | fz3
    ·
      refine hxj_zeq (by rfl) rfl (fun q4 => False.elim (by omega)) (fun q4 => ?_)
      refine hxa_iload_n (by rfl) rfl ?_
      refine hxa_iconst (by rfl) rfl ?_
      refine hxj_cge (by rfl) rfl hk_2 (fun q5 => ?_) (fun q5 => ?_)
      ·
        refine hxa_aload_n (by rfl) rfl ?_
        refine hxa_call0 (by rfl) (by rfl) (by rfl) (by rfl) (by rfl) (by rfl) (hX171 (d := d + 5) hA ) ?_
        rintro _ A6 ⟨hA6, rfl⟩
        refine hxa_aload_n (by rfl) rfl ?_
        refine hxa_iload_n (by rfl) rfl ?_
        refine hxa_call0 (by rfl) (by rfl) (by rfl) (by rfl) (by rfl) (by rfl) (hX185 (d := d + 0) hA6 (by omega) a2 (by omega) (by omega)) ?_
        rintro _ A7 ⟨hA7, rfl⟩
        refine hxa_iload_n (by rfl) rfl ?_
        refine hxj_zne (by rfl) rfl (fun q8 => ?_) (fun q8 => False.elim (by omega))
        refine hxa_iload_n (by rfl) rfl ?_
        refine hxa_iconst (by rfl) rfl ?_
        refine hxj_cne (by rfl) rfl hk_1 (fun q9 => ?_) (fun q9 => False.elim (by omega))
        refine hxa_aload_n (by rfl) rfl ?_
        refine hxa_call0 (by rfl) (by rfl) (by rfl) (by rfl) (by rfl) (by rfl) (hX187 (d := d + 4) hA7 ) ?_
        rintro _ _ ⟨rfl, z10, rfl⟩
        exact hxa_ireturn (by rfl) rfl (hP _ _ ⟨(hJ.mono hA7 (by omega) (by omega)), _, rfl⟩)
      ·
        refine hxa_aload_n (by rfl) rfl ?_
        refine hxa_iload_n (by rfl) rfl ?_
        refine hxa_call0 (by rfl) (by rfl) (by rfl) (by rfl) (by rfl) (by rfl) (hX167 (d := d + 4) hA a1) ?_
        rintro _ _ ⟨rfl, z11, rfl, fz11⟩
        rcases fz11 with fz11 | fz11
        ·
          refine hxj_zne (by rfl) rfl (fun q12 => ?_) (fun q12 => False.elim (by omega))
          refine hxa_aload_n (by rfl) rfl ?_
          refine hxa_call0 (by rfl) (by rfl) (by rfl) (by rfl) (by rfl) (by rfl) (hX171 (d := d + 5) hA ) ?_
          rintro _ A13 ⟨hA13, rfl⟩
          refine hxa_aload_n (by rfl) rfl ?_
          refine hxa_iload_n (by rfl) rfl ?_
          refine hxa_call0 (by rfl) (by rfl) (by rfl) (by rfl) (by rfl) (by rfl) (hX185 (d := d + 0) hA13 (by omega) a2 (by omega) (by omega)) ?_
          rintro _ A14 ⟨hA14, rfl⟩
          refine hxa_iload_n (by rfl) rfl ?_
          refine hxj_zne (by rfl) rfl (fun q15 => ?_) (fun q15 => ?_)
          ·
            refine hxa_iload_n (by rfl) rfl ?_
            refine hxa_iconst (by rfl) rfl ?_
            refine hxj_cne (by rfl) rfl hk_1 (fun q16 => False.elim (by omega)) (fun q16 => ?_)
            refine hxa_aload_n (by rfl) rfl ?_
            refine hxa_get (v := .ref 397) (by rfl) (by rfl) (by rfl) rfl ?_
            refine hxa_bipush (by rfl) rfl ?_
            refine hxa_iload_n (by rfl) rfl ?_
            refine hxj_iadd (by rfl) hk_40 rfl (by omega) (by omega) (fun z17 ez17 => ?_)
            refine hxj_iald396 (by rfl) rfl (by omega) (by omega) hA14 (fun z18 ez18 fz18 => ?_)
            refine hxa_call2 (by rfl) (by decide) (by rfl) (by rfl) (by rfl) (hX166 (d := d + 5)  z18) ?_
            rintro _ _ ⟨rfl, z19, rfl⟩
            refine hxa_goto (by rfl) ?_
            exact hxa_ireturn (by rfl) rfl (hP _ _ ⟨(hJ.mono hA14 (by omega) (by omega)), _, rfl⟩)
          ·
            refine hxa_aload_n (by rfl) rfl ?_
            refine hxa_get (v := .ref 397) (by rfl) (by rfl) (by rfl) rfl ?_
            refine hxa_bipush (by rfl) rfl ?_
            refine hxa_iload_n (by rfl) rfl ?_
            refine hxj_iadd (by rfl) hk_30 rfl (by omega) (by omega) (fun z20 ez20 => ?_)
            refine hxj_iald396 (by rfl) rfl (by omega) (by omega) hA14 (fun z21 ez21 fz21 => ?_)
            refine hxa_goto (by rfl) ?_
            exact hxa_ireturn (by rfl) rfl (hP _ _ ⟨(hJ.mono hA14 (by omega) (by omega)), _, rfl⟩)
        ·
          refine hxj_zne (by rfl) rfl (fun q22 => False.elim (by omega)) (fun q22 => ?_)
          refine hxa_iconst (by rfl) rfl ?_
          exact hxa_ireturn (by rfl) rfl (hP _ _ ⟨(hJ.mono hA (by omega) (by omega)), _, rfl⟩)
    ·
      refine hxj_zeq (by rfl) rfl (fun q23 => ?_) (fun q23 => False.elim (by omega))
      refine hxa_iconst (by rfl) rfl ?_
      exact hxa_ireturn (by rfl) rfl (hP _ _ ⟨(hJ.mono hA (by omega) (by omega)), _, rfl⟩)
  ·
    refine hxj_zeq (by rfl) rfl (fun q24 => ?_) (fun q24 => False.elim (by omega))
    refine hxa_iconst (by rfl) rfl ?_
    exact hxa_ireturn (by rfl) rfl (hP _ _ ⟨(hJ.mono hA (by omega) (by omega)), _, rfl⟩)
theorem hX223 {d : Nat} {N : Int} {A0 A : hs_A} (hA : hJ 0 N (N + 72) A0 A) (hN : N ≤ 900000) (a1 : Int32) (a2 : Int32) (a3 : Int32) : hxC (d + 7) 223 hm_m223 [.ref 368, .int a1, .int a2, .int a3] A (fun r A' => hJ 0 (N + 72) (N + 144) A0 A' ∧ ∃ z : Int32, r = some (.int z)) := hxC.of (by rfl) (hY223 hA hN a1 a2 a3 (fun r A' h => h))
theorem hY224 {d : Nat} {N : Int} {A0 A : hs_A} (hA : hJ 0 N (N + 72) A0 A) (hN : N ≤ 900000) (a1 : Int32) (a2 : Int32) {P : Option Value → hs_A → Prop} (hP : ∀ (r : Option Value) (A' : hs_A), (hJ 0 (N + 72) (N + 144) A0 A' ∧ ∃ z : Int32, r = some (.int z)) → P r A') : hxa (d + 5) (some (.int)) hm_t224 0 [.ref 368, .int a1, .int a2, .retAddr 0, .retAddr 0] [] A P := by
  have k0 := hk_0
  have k4294967295 := hk_4294967295
  have L26 : ∀ (m26 : Nat) (x26_3 : Int32) (x26_4 : Int32) (Ac26 : hs_A) (hAc26 : hJ 0 N (N + x26_4.toInt) A0 Ac26) (bx26_4 : 0 ≤ x26_4.toInt) (cx26_4 : x26_4.toInt ≤ 72) (ba1 : 0 ≤ a1.toInt) (ca1 : a1.toInt ≤ 9) (ba2 : 1 ≤ a2.toInt) (ca2 : a2.toInt ≤ 72) (hm26 : 72 - x26_4.toInt < (m26 : Int)), hxa (d + 5) (some (.int)) hm_t224 26 [.ref 368, .int a1, .int a2, .int x26_3, .int x26_4] [] Ac26 P := by
    intro m26
    induction m26 with
    | zero => intro x26_3 x26_4 Ac26 hAc26 bx26_4 cx26_4 ba1 ca1 ba2 ca2 hm26; have := hn_rng x26_3; exact False.elim (by omega)
    | succ m26 ih26 =>
      intro x26_3 x26_4 Ac26 hAc26 bx26_4 cx26_4 ba1 ca1 ba2 ca2 hm26
      refine hxa_iload (by rfl) rfl ?_
      refine hxa_iload_n (by rfl) rfl ?_
      refine hxj_cge (by rfl) rfl rfl (fun q1 => ?_) (fun q1 => ?_)
      ·
        refine hxa_iload_n (by rfl) rfl ?_
        exact hxa_ireturn (by rfl) rfl (hP _ _ ⟨(hJ.mono hAc26 (by omega) (by omega)), _, rfl⟩)
      ·
        refine hxa_aload_n (by rfl) rfl ?_
        refine hxa_call0 (by rfl) (by rfl) (by rfl) (by rfl) (by rfl) (by rfl) (hX184 (d := d + 0) hAc26 (by omega)) ?_
        rintro _ A2 ⟨hA2, rfl⟩
        refine hxa_aload_n (by rfl) rfl ?_
        refine hxa_get (v := .ref 397) (by rfl) (by rfl) (by rfl) rfl ?_
        refine hxa_bipush (by rfl) rfl ?_
        refine hxa_iload_n (by rfl) rfl ?_
        refine hxj_iadd (by rfl) hk_30 rfl (by omega) (by omega) (fun z3 ez3 => ?_)
        refine hxj_iald396 (by rfl) rfl (by omega) (by omega) hA2 (fun z4 ez4 fz4 => ?_)
        refine hxj_zne (by rfl) rfl (fun q5 => ?_) (fun q5 => ?_)
        ·
          refine hxj_iinc (by rfl) rfl rfl hk_1 (by omega) (by omega) (fun _ => rfl) (fun z6 ez6 => ?_)
          refine hxa_goto (by rfl) ?_
          exact ih26 x26_3 z6 A2 (hJ.mono hA2 (by omega) (by omega)) (by omega) (by omega) (by omega) (by omega) (by omega) (by omega) (by omega)
        ·
          refine hxj_iincU (by rfl) rfl (fun _ => rfl) (fun z7 => ?_)
          refine hxj_iinc (by rfl) rfl rfl hk_1 (by omega) (by omega) (fun _ => rfl) (fun z8 ez8 => ?_)
          refine hxa_goto (by rfl) ?_
          exact ih26 z7 z8 A2 (hJ.mono hA2 (by omega) (by omega)) (by omega) (by omega) (by omega) (by omega) (by omega) (by omega) (by omega)
  refine hxa_aload_n (by rfl) rfl ?_
  refine hxa_iload_n (by rfl) rfl ?_
  refine hxa_call0 (by rfl) (by rfl) (by rfl) (by rfl) (by rfl) (by rfl) (hX167 (d := d + 3) hA a1) ?_
  rintro _ _ ⟨rfl, z9, rfl, fz9⟩
  rcases fz9 with fz9 | fz9
  ·
    refine hxj_zeq (by rfl) rfl (fun q10 => False.elim (by omega)) (fun q10 => ?_)
    refine hxa_iload_n (by rfl) rfl ?_
    refine hxa_call2 (by rfl) (by decide) (by rfl) (by rfl) (by rfl) (hX197 (d := d + 3)  a2) ?_
    rintro _ _ ⟨rfl, z11, rfl, fz11⟩
    rcases fz11 with fz11 | fz11
    ·
      refine hxj_zne (by rfl) rfl (fun q12 => ?_) (fun q12 => False.elim (by omega))
      refine hxa_aload_n (by rfl) rfl ?_
      refine hxa_call0 (by rfl) (by rfl) (by rfl) (by rfl) (by rfl) (by rfl) (hX172 (d := d + 3) hA ) ?_
      rintro _ A13 ⟨hA13, rfl⟩
      refine hxa_iconst (by rfl) rfl ?_
      refine hxa_s1 (by rfl) (Or.inl ⟨_, rfl, rfl⟩) rfl ?_
      refine hxa_iconst (by rfl) rfl ?_
      refine hxa_s1 (by rfl) (Or.inr ⟨_, rfl, rfl⟩) rfl ?_
      exact L26 (Int.toNat (72 - 0) + 1) (Int32.ofNat 0) (Int32.ofNat 0) A13 (hJ.mono hA13 (by omega) (by omega)) (by omega) (by omega) (by omega) (by omega) (by omega) (by omega) (by omega)
    ·
      refine hxj_zne (by rfl) rfl (fun q14 => False.elim (by omega)) (fun q14 => ?_)
      refine hxa_iconst (by rfl) rfl ?_
      exact hxa_ireturn (by rfl) rfl (hP _ _ ⟨(hJ.mono hA (by omega) (by omega)), _, rfl⟩)
  ·
    refine hxj_zeq (by rfl) rfl (fun q15 => ?_) (fun q15 => False.elim (by omega))
    refine hxa_iconst (by rfl) rfl ?_
    exact hxa_ireturn (by rfl) rfl (hP _ _ ⟨(hJ.mono hA (by omega) (by omega)), _, rfl⟩)
theorem hX224 {d : Nat} {N : Int} {A0 A : hs_A} (hA : hJ 0 N (N + 72) A0 A) (hN : N ≤ 900000) (a1 : Int32) (a2 : Int32) : hxC (d + 6) 224 hm_m224 [.ref 368, .int a1, .int a2] A (fun r A' => hJ 0 (N + 72) (N + 144) A0 A' ∧ ∃ z : Int32, r = some (.int z)) := hxC.of (by rfl) (hY224 hA hN a1 a2 (fun r A' h => h))
theorem hY225 {d : Nat} {Bn Br : Int} {A0 A : hs_A} (hA : hJ 0 Bn Br A0 A)   {P : Option Value → hs_A → Prop} (hP : ∀ (r : Option Value) (A' : hs_A), (A = A' ∧ ∃ z : Int32, r = some (.int z)) → P r A') : hxa (d + 0) (some (.int)) hm_t225 0 [.ref 368, .retAddr 0, .retAddr 0] [] A P := by
  have k0 := hk_0
  have L4 : ∀ (m4 : Nat) (x4_1 : Int32) (x4_2 : Int32) (bx4_2 : 0 ≤ x4_2.toInt) (cx4_2 : x4_2.toInt ≤ 10) (hm4 : 10 - x4_2.toInt < (m4 : Int)), hxa (d + 0) (some (.int)) hm_t225 4 [.ref 368, .int x4_1, .int x4_2] [] A P := by
    intro m4
    induction m4 with
    | zero => intro x4_1 x4_2 bx4_2 cx4_2 hm4; have := hn_rng x4_1; exact False.elim (by omega)
    | succ m4 ih4 =>
      intro x4_1 x4_2 bx4_2 cx4_2 hm4
      refine hxa_iload_n (by rfl) rfl ?_
      refine hxa_aload_n (by rfl) rfl ?_
      refine hxa_get (v := .ref 377) (by rfl) (by rfl) (by rfl) rfl ?_
      refine hxa_aload_n (by rfl) rfl ?_
      refine hxj_getB (by rfl) (by rfl) (by rfl) hA (by rfl) (fun z1 ez1 fz1 gz1 => ?_)
      refine hxj_ialdB (by rfl) (by rfl) rfl (by omega) (by omega) hA (by rfl) (fun z2 ez2 fz2 gz2 => ?_)
      refine hxj_cge (by rfl) rfl rfl (fun q3 => ?_) (fun q3 => ?_)
      ·
        refine hxa_iload_n (by rfl) rfl ?_
        exact hxa_ireturn (by rfl) rfl (hP _ _ ⟨rfl, _, rfl⟩)
      ·
        refine hxa_aload_n (by rfl) rfl ?_
        refine hxa_get (v := .ref 397) (by rfl) (by rfl) (by rfl) rfl ?_
        refine hxa_bipush (by rfl) rfl ?_
        refine hxa_iload_n (by rfl) rfl ?_
        refine hxj_iadd (by rfl) hk_60 rfl (by omega) (by omega) (fun z4 ez4 => ?_)
        refine hxj_iald396 (by rfl) rfl (by omega) (by omega) hA (fun z5 ez5 fz5 => ?_)
        refine hxj_zle (by rfl) rfl (fun q6 => ?_) (fun q6 => ?_)
        ·
          refine hxj_iinc (by rfl) rfl rfl hk_1 (by omega) (by omega) (fun _ => rfl) (fun z7 ez7 => ?_)
          refine hxa_goto (by rfl) ?_
          exact ih4 x4_1 z7 (by omega) (by omega) (by omega)
        ·
          refine hxa_iload_n (by rfl) rfl ?_
          refine hxa_iconst (by rfl) rfl ?_
          refine hxa_iload_n (by rfl) rfl ?_
          refine hxj_ishlU (by rfl) (fun z8 => ?_)
          refine hxj_iorU (by rfl) (fun z9 => ?_)
          refine hxa_s1 (by rfl) (Or.inl ⟨_, rfl, rfl⟩) rfl ?_
          refine hxj_iinc (by rfl) rfl rfl hk_1 (by omega) (by omega) (fun _ => rfl) (fun z10 ez10 => ?_)
          refine hxa_goto (by rfl) ?_
          exact ih4 z9 z10 (by omega) (by omega) (by omega)
  refine hxa_iconst (by rfl) rfl ?_
  refine hxa_s1 (by rfl) (Or.inl ⟨_, rfl, rfl⟩) rfl ?_
  refine hxa_iconst (by rfl) rfl ?_
  refine hxa_s1 (by rfl) (Or.inl ⟨_, rfl, rfl⟩) rfl ?_
  exact L4 (Int.toNat (10 - 0) + 1) (Int32.ofNat 0) (Int32.ofNat 0) (by omega) (by omega) (by omega)
theorem hX225 {d : Nat} {Bn Br : Int} {A0 A : hs_A} (hA : hJ 0 Bn Br A0 A)   : hxC (d + 1) 225 hm_m225 [.ref 368] A (fun r A' => A = A' ∧ ∃ z : Int32, r = some (.int z)) := hxC.of (by rfl) (hY225 hA  (fun r A' h => h))
