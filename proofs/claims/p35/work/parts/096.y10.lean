theorem hY208 {d : Nat} {N : Int} {A0 A : hs_A} (hA : hJ 0 N (N + 72) A0 A) (hN : N ≤ 900000) (a1 : Int32) (a2 : Int32) (a3 : Int32) {P : Option Value → hs_A → Prop} (hP : ∀ (r : Option Value) (A' : hs_A), (hJ 0 (N + 72) (N + 144) A0 A' ∧ ∃ z : Int32, r = some (.int z)) → P r A') : hxa (d + 7) (some (.int)) hm_t208 0 [.ref 368, .int a1, .int a2, .int a3, .retAddr 0, .retAddr 0, .retAddr 0, .retAddr 0] [] A P := by
  have k0 := hk_0
  have k1 := hk_1
  have k4294967295 := hk_4294967295
  have k8 := hk_8
  have L40 : ∀ (m40 : Nat) (x40_4 : Int32) (x40_5 : Int32) (x40_6 : Value) (x40_7 : Value) (Ac40 : hs_A) (hx40_6 : hc_two (some x40_6) = false) (hAc40 : hJ 0 N N A0 Ac40) (bx40_4 : 0 ≤ x40_4.toInt) (cx40_4 : x40_4.toInt ≤ 256) (bx40_5 : 0 ≤ x40_5.toInt) (cx40_5 : x40_5.toInt ≤ 256) (ba1 : 0 ≤ a1.toInt) (ca1 : a1.toInt ≤ 9) (ba2 : 1 ≤ a2.toInt) (ca2 : a2.toInt ≤ 8) (ba3 : -1 ≤ a3.toInt) (u40_0 : x40_4.toInt ≤ x40_5.toInt) (u40_1 : ∀ j : Nat, (j : Int) < x40_4.toInt → 0 ≤ (Ac40.2.1 402 j).toInt ∧ (Ac40.2.1 402 j).toInt ≤ 255) (hm40 : 256 - x40_5.toInt < (m40 : Int)), hxa (d + 7) (some (.int)) hm_t208 40 [.ref 368, .int a1, .int a2, .int a3, .int x40_4, .int x40_5, x40_6, x40_7] [] Ac40 P := by
    intro m40
    induction m40 with
    | zero => intro x40_4 x40_5 x40_6 x40_7 Ac40 hx40_6 hAc40 bx40_4 cx40_4 bx40_5 cx40_5 ba1 ca1 ba2 ca2 ba3 u40_0 u40_1 hm40;  exact False.elim (by omega)
    | succ m40 ih40 =>
      intro x40_4 x40_5 x40_6 x40_7 Ac40 hx40_6 hAc40 bx40_4 cx40_4 bx40_5 cx40_5 ba1 ca1 ba2 ca2 ba3 u40_0 u40_1 hm40
      have L54 : ∀ (m54 : Nat) (x54_6 : Int32) (x54_7 : Int32) (bx54_6 : 0 ≤ x54_6.toInt) (cx54_6 : x54_6.toInt ≤ 1) (bx54_7 : 0 ≤ x54_7.toInt) (cx54_7 : x54_7.toInt ≤ 256) (cx40_5 : x40_5.toInt ≤ 255) (hm54 : 256 - x54_7.toInt < (m54 : Int)), hxa (d + 7) (some (.int)) hm_t208 54 [.ref 368, .int a1, .int a2, .int a3, .int x40_4, .int x40_5, .int x54_6, .int x54_7] [] Ac40 P := by
        intro m54
        induction m54 with
        | zero => intro x54_6 x54_7 bx54_6 cx54_6 bx54_7 cx54_7 cx40_5 hm54;  exact False.elim (by omega)
        | succ m54 ih54 =>
          intro x54_6 x54_7 bx54_6 cx54_6 bx54_7 cx54_7 cx40_5 hm54
          refine hxa_iload (by rfl) rfl ?_
          refine hxa_iload (by rfl) rfl ?_
          refine hxj_cge (by rfl) rfl rfl (fun q1 => ?_) (fun q1 => ?_)
          ·
            refine hxa_iload (by rfl) rfl ?_
            refine hxj_zne (by rfl) rfl (fun q2 => ?_) (fun q2 => ?_)
            ·
              refine hxa_aload_n (by rfl) rfl ?_
              refine hxa_get (v := .ref 403) (by rfl) (by rfl) (by rfl) rfl ?_
              refine hxa_iload (by rfl) rfl ?_
              refine hxa_iload (by rfl) rfl ?_
              refine hxj_iast (by rfl) (by rfl) rfl (by omega) (by omega) hAc40 (hbokN (by rfl)) (by rfl) (by rfl) (fun A3 hA3 eA3 fA3 gA3 => ?_)
              refine hxj_iinc (by rfl) rfl rfl hk_1 (by omega) (by omega) (fun _ => rfl) (fun z4 ez4 => ?_)
              refine hxj_iinc (by rfl) rfl rfl hk_1 (by omega) (by omega) (fun _ => rfl) (fun z5 ez5 => ?_)
              refine hxa_goto (by rfl) ?_
              exact ih40 z4 z5 (.int x54_6) (.int x54_7) A3 rfl hA3 (by omega) (by omega) (by omega) (by omega) (by omega) (by omega) (by omega) (by omega) (by omega) (by omega) (by first | exact u40_1 | exact hcode (by assumption) u40_1 (by omega) (by omega) (by omega) (by assumption) | (intro j hj; omega)) (by omega)
            ·
              refine hxa_goto (by rfl) ?_
              refine hxj_iinc (by rfl) rfl rfl hk_1 (by omega) (by omega) (fun _ => rfl) (fun z6 ez6 => ?_)
              refine hxa_goto (by rfl) ?_
              exact ih40 x40_4 z6 (.int x54_6) (.int x54_7) Ac40 rfl hAc40 (by omega) (by omega) (by omega) (by omega) (by omega) (by omega) (by omega) (by omega) (by omega) (by omega) (by first | exact u40_1 | exact hcode (by assumption) u40_1 (by omega) (by omega) (by omega) (by assumption) | (intro j hj; omega)) (by omega)
          ·
            refine hxa_iload (by rfl) rfl ?_
            refine hxj_zeq (by rfl) rfl (fun q7 => ?_) (fun q7 => ?_)
            ·
              refine hxa_iload (by rfl) rfl ?_
              refine hxj_zne (by rfl) rfl (fun q8 => False.elim (by omega)) (fun q8 => ?_)
              refine hxa_goto (by rfl) ?_
              refine hxj_iinc (by rfl) rfl rfl hk_1 (by omega) (by omega) (fun _ => rfl) (fun z9 ez9 => ?_)
              refine hxa_goto (by rfl) ?_
              exact ih40 x40_4 z9 (.int x54_6) (.int x54_7) Ac40 rfl hAc40 (by omega) (by omega) (by omega) (by omega) (by omega) (by omega) (by omega) (by omega) (by omega) (by omega) (by first | exact u40_1 | exact hcode (by assumption) u40_1 (by omega) (by omega) (by omega) (by assumption) | (intro j hj; omega)) (by omega)
            ·
              refine hxa_aload_n (by rfl) rfl ?_
              refine hxa_get (v := .ref 401) (by rfl) (by rfl) (by rfl) rfl ?_
              refine hxa_iload (by rfl) rfl ?_
              refine hxj_ialdB (by rfl) (by rfl) rfl (by omega) (by omega) hAc40 (by rfl) (fun z10 ez10 fz10 gz10 => ?_)
              refine hxa_aload_n (by rfl) rfl ?_
              refine hxa_get (v := .ref 401) (by rfl) (by rfl) (by rfl) rfl ?_
              refine hxa_aload_n (by rfl) rfl ?_
              refine hxa_get (v := .ref 403) (by rfl) (by rfl) (by rfl) rfl ?_
              refine hxa_iload (by rfl) rfl ?_
              refine hxj_iald (by rfl) (by rfl) rfl (by omega) (by omega) (fun z11 ez11 => ?_)
              obtain ⟨fz11, gz11⟩ := u40_1 x54_7.toNatClampNeg (by rw [hn_cn (by omega)]; omega)
              rw [ez11] at fz11 gz11
              refine hxj_ialdB (by rfl) (by rfl) rfl (by omega) (by omega) hAc40 (by rfl) (fun z12 ez12 fz12 gz12 => ?_)
              refine hxj_ixorU (by rfl) (fun z13 => ?_)
              refine hxa_call2 (by rfl) (by decide) (by rfl) (by rfl) (by rfl) (hX166 (d := d + 6)  z13) ?_
              rintro _ _ ⟨rfl, z14, rfl⟩
              refine hxa_iload_n (by rfl) rfl ?_
              have rgz14 := hn_rng z14
              refine hxj_cge (by rfl) rfl rfl (fun q15 => ?_) (fun q15 => ?_)
              ·
                refine hxj_iinc (by rfl) rfl rfl hk_1 (by omega) (by omega) (fun _ => rfl) (fun z16 ez16 => ?_)
                refine hxa_goto (by rfl) ?_
                exact ih54 x54_6 z16 (by omega) (by omega) (by omega) (by omega) (by omega) (by omega)
              ·
                refine hxa_iconst (by rfl) rfl ?_
                refine hxa_s1 (by rfl) (Or.inr ⟨_, rfl, rfl⟩) rfl ?_
                refine hxj_iinc (by rfl) rfl rfl hk_1 (by omega) (by omega) (fun _ => rfl) (fun z17 ez17 => ?_)
                refine hxa_goto (by rfl) ?_
                exact ih54 (Int32.ofNat 0) z17 (by omega) (by omega) (by omega) (by omega) (by omega) (by omega)
      refine hxa_iload (by rfl) rfl ?_
      refine hxa_sipush (by rfl) rfl ?_
      refine hxj_cge (by rfl) rfl hk_256 (fun q18 => ?_) (fun q18 => ?_)
      ·
        refine hxa_iload_n (by rfl) rfl ?_
        refine hxa_iconst (by rfl) rfl ?_
        refine hxj_cne (by rfl) rfl hk_4294967295 (fun q19 => ?_) (fun q19 => ?_)
        ·
          refine hxa_iload_n (by rfl) rfl ?_
          refine hxa_iload (by rfl) rfl ?_
          have rga3 := hn_rng a3
          refine hxj_cge (by rfl) rfl rfl (fun q20 => ?_) (fun q20 => ?_)
          ·
            refine hxa_iconst (by rfl) rfl ?_
            exact hxa_ireturn (by rfl) rfl (hP _ _ ⟨(hJ.mono hAc40 (by omega) (by omega)), _, rfl⟩)
          ·
            refine hxa_aload_n (by rfl) rfl ?_
            refine hxa_get (v := .ref 403) (by rfl) (by rfl) (by rfl) rfl ?_
            refine hxa_iload_n (by rfl) rfl ?_
            refine hxj_iald (by rfl) (by rfl) rfl (by omega) (by omega) (fun z21 ez21 => ?_)
            refine hxa_goto (by rfl) ?_
            exact hxa_ireturn (by rfl) rfl (hP _ _ ⟨(hJ.mono hAc40 (by omega) (by omega)), _, rfl⟩)
        ·
          refine hxa_iload (by rfl) rfl ?_
          exact hxa_ireturn (by rfl) rfl (hP _ _ ⟨(hJ.mono hAc40 (by omega) (by omega)), _, rfl⟩)
      ·
        refine hxa_iconst (by rfl) rfl ?_
        refine hxa_s1 (by rfl) (Or.inr ⟨_, rfl, rfl⟩) rfl ?_
        refine hxa_iconst (by rfl) rfl ?_
        refine hxa_s1 (by rfl) (Or.inr ⟨_, rfl, rfl⟩) rfl ?_
        exact L54 (Int.toNat (256 - 0) + 1) (Int32.ofNat 1) (Int32.ofNat 0) (by omega) (by omega) (by omega) (by omega) (by omega) (by omega)
  refine hxa_aload_n (by rfl) rfl ?_
  refine hxa_iload_n (by rfl) rfl ?_
  refine hxa_call0 (by rfl) (by rfl) (by rfl) (by rfl) (by rfl) (by rfl) (hX167 (d := d + 5) hA a1) ?_
  rintro _ _ ⟨rfl, z22, rfl, fz22⟩
  rcases fz22 with fz22 | fz22
  ·
    refine hxj_zeq (by rfl) rfl (fun q23 => False.elim (by omega)) (fun q23 => ?_)
    refine hxa_iload_n (by rfl) rfl ?_
    refine hxa_iconst (by rfl) rfl ?_
    refine hxa_bipush (by rfl) rfl ?_
    refine hxa_call2 (by rfl) (by decide) (by rfl) (by rfl) (by rfl) (hX164 (d := d + 6)  a2 (Int32.ofNat 1) (Int32.ofNat 8)) ?_
    rintro _ _ ⟨rfl, z24, rfl, fz24⟩
    rcases fz24 with fz24 | fz24
    ·
      refine hxj_zeq (by rfl) rfl (fun q25 => False.elim (by omega)) (fun q25 => ?_)
      refine hxa_iload_n (by rfl) rfl ?_
      refine hxa_iconst (by rfl) rfl ?_
      refine hxj_cge (by rfl) rfl hk_4294967295 (fun q26 => ?_) (fun q26 => ?_)
      ·
        refine hxa_aload_n (by rfl) rfl ?_
        refine hxa_call0 (by rfl) (by rfl) (by rfl) (by rfl) (by rfl) (by rfl) (hX171 (d := d + 6) hA ) ?_
        rintro _ A27 ⟨hA27, rfl⟩
        refine hxa_aload_n (by rfl) rfl ?_
        refine hxa_iload_n (by rfl) rfl ?_
        refine hxa_call0 (by rfl) (by rfl) (by rfl) (by rfl) (by rfl) (by rfl) (hX203 (d := d + 0) hA27 a1 (by omega) (by omega)) ?_
        rintro _ A28 ⟨hA28, rfl⟩
        refine hxa_iconst (by rfl) rfl ?_
        refine hxa_s1 (by rfl) (Or.inr ⟨_, rfl, rfl⟩) rfl ?_
        refine hxa_iconst (by rfl) rfl ?_
        refine hxa_s1 (by rfl) (Or.inr ⟨_, rfl, rfl⟩) rfl ?_
        exact L40 (Int.toNat (256 - 0) + 1) (Int32.ofNat 0) (Int32.ofNat 0) (.retAddr 0) (.retAddr 0) A28 rfl hA28 (by omega) (by omega) (by omega) (by omega) (by omega) (by omega) (by omega) (by omega) (by omega) (by omega) (by first | exact u40_1 | exact hcode (by assumption) u40_1 (by omega) (by omega) (by omega) (by assumption) | (intro j hj; omega)) (by omega)
      ·
        refine hxa_iconst (by rfl) rfl ?_
        exact hxa_ireturn (by rfl) rfl (hP _ _ ⟨(hJ.mono hA (by omega) (by omega)), _, rfl⟩)
    ·
      refine hxj_zeq (by rfl) rfl (fun q29 => ?_) (fun q29 => False.elim (by omega))
      refine hxa_iconst (by rfl) rfl ?_
      exact hxa_ireturn (by rfl) rfl (hP _ _ ⟨(hJ.mono hA (by omega) (by omega)), _, rfl⟩)
  ·
    refine hxj_zeq (by rfl) rfl (fun q30 => ?_) (fun q30 => False.elim (by omega))
    refine hxa_iconst (by rfl) rfl ?_
    exact hxa_ireturn (by rfl) rfl (hP _ _ ⟨(hJ.mono hA (by omega) (by omega)), _, rfl⟩)
theorem hX208 {d : Nat} {N : Int} {A0 A : hs_A} (hA : hJ 0 N (N + 72) A0 A) (hN : N ≤ 900000) (a1 : Int32) (a2 : Int32) (a3 : Int32) : hxC (d + 8) 208 hm_m208 [.ref 368, .int a1, .int a2, .int a3] A (fun r A' => hJ 0 (N + 72) (N + 144) A0 A' ∧ ∃ z : Int32, r = some (.int z)) := hxC.of (by rfl) (hY208 hA hN a1 a2 a3 (fun r A' h => h))
theorem hY209 {d : Nat} {N : Int} {A0 A : hs_A} (hA : hJ 0 N (N + 72) A0 A) (hN : N ≤ 900000) (a1 : Int32) {P : Option Value → hs_A → Prop} (hP : ∀ (r : Option Value) (A' : hs_A), (hJ 0 (N + 72) (N + 144) A0 A' ∧ ∃ z : Int32, r = some (.int z)) → P r A') : hxa (d + 6) (some (.int)) hm_t209 0 [.ref 368, .int a1, .retAddr 0, .retAddr 0] [] A P := by
  have k0 := hk_0
  have k4294967295 := hk_4294967295
  have L18 : ∀ (m18 : Nat) (x18_2 : Int32) (x18_3 : Int32) (Ac18 : hs_A) (hAc18 : hJ 0 N N A0 Ac18) (bx18_2 : 0 ≤ x18_2.toInt) (cx18_2 : x18_2.toInt ≤ 255) (bx18_3 : 0 ≤ x18_3.toInt) (cx18_3 : x18_3.toInt ≤ 8) (ba1 : 0 ≤ a1.toInt) (ca1 : a1.toInt ≤ 9) (hm18 : 8 - x18_3.toInt < (m18 : Int)), hxa (d + 6) (some (.int)) hm_t209 18 [.ref 368, .int a1, .int x18_2, .int x18_3] [] Ac18 P := by
    intro m18
    induction m18 with
    | zero => intro x18_2 x18_3 Ac18 hAc18 bx18_2 cx18_2 bx18_3 cx18_3 ba1 ca1 hm18;  exact False.elim (by omega)
    | succ m18 ih18 =>
      intro x18_2 x18_3 Ac18 hAc18 bx18_2 cx18_2 bx18_3 cx18_3 ba1 ca1 hm18
      refine hxa_iload_n (by rfl) rfl ?_
      refine hxa_bipush (by rfl) rfl ?_
      refine hxj_cge (by rfl) rfl hk_8 (fun q1 => ?_) (fun q1 => ?_)
      ·
        refine hxa_iload_n (by rfl) rfl ?_
        exact hxa_ireturn (by rfl) rfl (hP _ _ ⟨(hJ.mono hAc18 (by omega) (by omega)), _, rfl⟩)
      ·
        refine hxa_aload_n (by rfl) rfl ?_
        refine hxa_iload_n (by rfl) rfl ?_
        refine hxa_iconst (by rfl) rfl ?_
        refine hxa_iload_n (by rfl) rfl ?_
        refine hxj_ishl1 (by rfl) rfl rfl (by omega) (by omega) (fun z2 ez2 fz2 => ?_)
        refine hxa_call0 (by rfl) (by rfl) (by rfl) (by rfl) (by rfl) (by rfl) (hX202 (d := d + 0) hAc18 a1 (by omega) (by omega) z2 (by omega) (by omega)) ?_
        rintro _ A3 ⟨hA3, z4, rfl, fz4⟩
        refine hxa_aload_n (by rfl) rfl ?_
        refine hxa_iload_n (by rfl) rfl ?_
        refine hxa_iconst (by rfl) rfl ?_
        refine hxa_call0 (by rfl) (by rfl) (by rfl) (by rfl) (by rfl) (by rfl) (hX202 (d := d + 0) hA3 a1 (by omega) (by omega) (Int32.ofNat 0) (by omega) (by omega)) ?_
        rintro _ A5 ⟨hA5, z6, rfl, fz6⟩
        refine hxj_cne (by rfl) rfl rfl (fun q7 => ?_) (fun q7 => ?_)
        ·
          refine hxj_iinc (by rfl) rfl rfl hk_1 (by omega) (by omega) (fun _ => rfl) (fun z8 ez8 => ?_)
          refine hxa_goto (by rfl) ?_
          exact ih18 x18_2 z8 A5 hA5 (by omega) (by omega) (by omega) (by omega) (by omega) (by omega) (by omega)
        ·
          refine hxa_iload_n (by rfl) rfl ?_
          refine hxa_iconst (by rfl) rfl ?_
          refine hxa_iload_n (by rfl) rfl ?_
          refine hxj_ishl1 (by rfl) rfl rfl (by omega) (by omega) (fun z9 ez9 fz9 => ?_)
          refine hxj_ior255 (by rfl) rfl rfl (by omega) (by omega) (by omega) (by omega) (fun z10 ez10 fz10 => ?_)
          refine hxa_s1 (by rfl) (Or.inl ⟨_, rfl, rfl⟩) rfl ?_
          refine hxj_iinc (by rfl) rfl rfl hk_1 (by omega) (by omega) (fun _ => rfl) (fun z11 ez11 => ?_)
          refine hxa_goto (by rfl) ?_
          exact ih18 z10 z11 A5 hA5 (by omega) (by omega) (by omega) (by omega) (by omega) (by omega) (by omega)
  refine hxa_aload_n (by rfl) rfl ?_
  refine hxa_iload_n (by rfl) rfl ?_
  refine hxa_call0 (by rfl) (by rfl) (by rfl) (by rfl) (by rfl) (by rfl) (hX167 (d := d + 4) hA a1) ?_
  rintro _ _ ⟨rfl, z12, rfl, fz12⟩
  rcases fz12 with fz12 | fz12
  ·
    refine hxj_zne (by rfl) rfl (fun q13 => ?_) (fun q13 => False.elim (by omega))
    refine hxa_aload_n (by rfl) rfl ?_
    refine hxa_call0 (by rfl) (by rfl) (by rfl) (by rfl) (by rfl) (by rfl) (hX171 (d := d + 5) hA ) ?_
    rintro _ A14 ⟨hA14, rfl⟩
    refine hxa_iconst (by rfl) rfl ?_
    refine hxa_s1 (by rfl) (Or.inl ⟨_, rfl, rfl⟩) rfl ?_
    refine hxa_iconst (by rfl) rfl ?_
    refine hxa_s1 (by rfl) (Or.inl ⟨_, rfl, rfl⟩) rfl ?_
    exact L18 (Int.toNat (8 - 0) + 1) (Int32.ofNat 0) (Int32.ofNat 0) A14 hA14 (by omega) (by omega) (by omega) (by omega) (by omega) (by omega) (by omega)
  ·
    refine hxj_zne (by rfl) rfl (fun q15 => False.elim (by omega)) (fun q15 => ?_)
    refine hxa_iconst (by rfl) rfl ?_
    exact hxa_ireturn (by rfl) rfl (hP _ _ ⟨(hJ.mono hA (by omega) (by omega)), _, rfl⟩)
theorem hX209 {d : Nat} {N : Int} {A0 A : hs_A} (hA : hJ 0 N (N + 72) A0 A) (hN : N ≤ 900000) (a1 : Int32) : hxC (d + 7) 209 hm_m209 [.ref 368, .int a1] A (fun r A' => hJ 0 (N + 72) (N + 144) A0 A' ∧ ∃ z : Int32, r = some (.int z)) := hxC.of (by rfl) (hY209 hA hN a1 (fun r A' h => h))
theorem hY210 {d : Nat} {N : Int} {A0 A : hs_A} (hA : hJ 0 N (N + 72) A0 A) (hN : N ≤ 900000) (a1 : Int32) (a2 : Int32) (a3 : Int32) {P : Option Value → hs_A → Prop} (hP : ∀ (r : Option Value) (A' : hs_A), (hJ 0 (N + 72) (N + 144) A0 A' ∧ ∃ z : Int32, r = some (.int z)) → P r A') : hxa (d + 6) (some (.int)) hm_t210 0 [.ref 368, .int a1, .int a2, .int a3] [] A P := by
  have k4294967295 := hk_4294967295
  refine hxa_aload_n (by rfl) rfl ?_
  refine hxa_iload_n (by rfl) rfl ?_
  refine hxa_call0 (by rfl) (by rfl) (by rfl) (by rfl) (by rfl) (by rfl) (hX167 (d := d + 4) hA a1) ?_
  rintro _ _ ⟨rfl, z1, rfl, fz1⟩
  rcases fz1 with fz1 | fz1
  ·
    refine hxj_zeq (by rfl) rfl (fun q2 => False.elim (by omega)) (fun q2 => ?_)
    refine hxa_iload_n (by rfl) rfl ?_
    refine hxa_call2 (by rfl) (by decide) (by rfl) (by rfl) (by rfl) (hX168 (d := d + 4)  a2) ?_
    rintro _ _ ⟨rfl, z3, rfl, fz3⟩
    rcases fz3 with fz3 | fz3
    ·
      refine hxj_zeq (by rfl) rfl (fun q4 => False.elim (by omega)) (fun q4 => ?_)
      refine hxa_iload_n (by rfl) rfl ?_
      refine hxa_call2 (by rfl) (by decide) (by rfl) (by rfl) (by rfl) (hX168 (d := d + 4)  a3) ?_
      rintro _ _ ⟨rfl, z5, rfl, fz5⟩
      rcases fz5 with fz5 | fz5
      ·
        refine hxj_zne (by rfl) rfl (fun q6 => ?_) (fun q6 => False.elim (by omega))
        refine hxa_aload_n (by rfl) rfl ?_
        refine hxa_call0 (by rfl) (by rfl) (by rfl) (by rfl) (by rfl) (by rfl) (hX171 (d := d + 5) hA ) ?_
        rintro _ A7 ⟨hA7, rfl⟩
        refine hxa_aload_n (by rfl) rfl ?_
        refine hxa_iload_n (by rfl) rfl ?_
        refine hxa_iload_n (by rfl) rfl ?_
        refine hxa_call0 (by rfl) (by rfl) (by rfl) (by rfl) (by rfl) (by rfl) (hX202 (d := d + 0) hA7 a1 (by omega) (by omega) a2 (by omega) (by omega)) ?_
        rintro _ A8 ⟨hA8, z9, rfl, fz9⟩
        refine hxa_aload_n (by rfl) rfl ?_
        refine hxa_iload_n (by rfl) rfl ?_
        refine hxa_iload_n (by rfl) rfl ?_
        refine hxa_call0 (by rfl) (by rfl) (by rfl) (by rfl) (by rfl) (by rfl) (hX202 (d := d + 0) hA8 a1 (by omega) (by omega) a3 (by omega) (by omega)) ?_
        rintro _ A10 ⟨hA10, z11, rfl, fz11⟩
        refine hxj_ixorU (by rfl) (fun z12 => ?_)
        refine hxa_call2 (by rfl) (by decide) (by rfl) (by rfl) (by rfl) (hX166 (d := d + 5)  z12) ?_
        rintro _ _ ⟨rfl, z13, rfl⟩
        exact hxa_ireturn (by rfl) rfl (hP _ _ ⟨(hJ.mono hA10 (by omega) (by omega)), _, rfl⟩)
      ·
        refine hxj_zne (by rfl) rfl (fun q14 => False.elim (by omega)) (fun q14 => ?_)
        refine hxa_iconst (by rfl) rfl ?_
        exact hxa_ireturn (by rfl) rfl (hP _ _ ⟨(hJ.mono hA (by omega) (by omega)), _, rfl⟩)
    ·
      refine hxj_zeq (by rfl) rfl (fun q15 => ?_) (fun q15 => False.elim (by omega))
      refine hxa_iconst (by rfl) rfl ?_
      exact hxa_ireturn (by rfl) rfl (hP _ _ ⟨(hJ.mono hA (by omega) (by omega)), _, rfl⟩)
  ·
    refine hxj_zeq (by rfl) rfl (fun q16 => ?_) (fun q16 => False.elim (by omega))
    refine hxa_iconst (by rfl) rfl ?_
    exact hxa_ireturn (by rfl) rfl (hP _ _ ⟨(hJ.mono hA (by omega) (by omega)), _, rfl⟩)
theorem hX210 {d : Nat} {N : Int} {A0 A : hs_A} (hA : hJ 0 N (N + 72) A0 A) (hN : N ≤ 900000) (a1 : Int32) (a2 : Int32) (a3 : Int32) : hxC (d + 7) 210 hm_m210 [.ref 368, .int a1, .int a2, .int a3] A (fun r A' => hJ 0 (N + 72) (N + 144) A0 A' ∧ ∃ z : Int32, r = some (.int z)) := hxC.of (by rfl) (hY210 hA hN a1 a2 a3 (fun r A' h => h))
theorem hY211 {d : Nat} {N : Int} {A0 A : hs_A} (hA : hJ 0 N (N + 72) A0 A) (hN : N ≤ 900000) (a1 : Int32) (a2 : Int32) {P : Option Value → hs_A → Prop} (hP : ∀ (r : Option Value) (A' : hs_A), (hJ 0 (N + 72) (N + 144) A0 A' ∧ ∃ z : Int32, r = some (.int z)) → P r A') : hxa (d + 7) (some (.int)) hm_t211 0 [.ref 368, .int a1, .int a2, .retAddr 0, .retAddr 0, .retAddr 0, .retAddr 0, .retAddr 0, .retAddr 0] [] A P := by
  have k0 := hk_0
  have k1 := hk_1
  have k2 := hk_2
  have k4294967295 := hk_4294967295
  have L39 : ∀ (m39 : Nat) (x39_3 : Int32) (x39_4 : Int32) (x39_5 : Int32) (x39_6 : Int32) (x39_7 : Value) (x39_8 : Value) (Ac39 : hs_A) (hx39_7 : hc_two (some x39_7) = false) (hAc39 : hJ 0 N N A0 Ac39) (bx39_3 : 0 ≤ x39_3.toInt) (bx39_4 : 0 ≤ x39_4.toInt) (cx39_4 : x39_4.toInt ≤ 255) (bx39_5 : 1 ≤ x39_5.toInt) (cx39_5 : x39_5.toInt ≤ 255) (bx39_6 : 0 ≤ x39_6.toInt) (cx39_6 : x39_6.toInt ≤ 256) (ba1 : 0 ≤ a1.toInt) (ca1 : a1.toInt ≤ 9) (ba2 : 0 ≤ a2.toInt) (ca2 : a2.toInt ≤ 2) (hm39 : 256 - x39_6.toInt < (m39 : Int)), hxa (d + 7) (some (.int)) hm_t211 39 [.ref 368, .int a1, .int a2, .int x39_3, .int x39_4, .int x39_5, .int x39_6, x39_7, x39_8] [] Ac39 P := by
    intro m39
    induction m39 with
    | zero => intro x39_3 x39_4 x39_5 x39_6 x39_7 x39_8 Ac39 hx39_7 hAc39 bx39_3 bx39_4 cx39_4 bx39_5 cx39_5 bx39_6 cx39_6 ba1 ca1 ba2 ca2 hm39; have := hn_rng x39_3; exact False.elim (by omega)
    | succ m39 ih39 =>
      intro x39_3 x39_4 x39_5 x39_6 x39_7 x39_8 Ac39 hx39_7 hAc39 bx39_3 bx39_4 cx39_4 bx39_5 cx39_5 bx39_6 cx39_6 ba1 ca1 ba2 ca2 hm39
      have L53 : ∀ (m53 : Nat) (x53_3 : Int32) (x53_4 : Int32) (x53_5 : Int32) (x53_7 : Int32) (x53_8 : Value) (bx53_3 : 0 ≤ x53_3.toInt) (bx53_4 : 0 ≤ x53_4.toInt) (cx53_4 : x53_4.toInt ≤ 255) (bx53_5 : 1 ≤ x53_5.toInt) (cx53_5 : x53_5.toInt ≤ 255) (bx53_7 : 1 ≤ x53_7.toInt) (cx53_7 : x53_7.toInt ≤ 256) (cx39_6 : x39_6.toInt ≤ 255) (hm53 : 256 - x53_7.toInt < (m53 : Int)), hxa (d + 7) (some (.int)) hm_t211 53 [.ref 368, .int a1, .int a2, .int x53_3, .int x53_4, .int x53_5, .int x39_6, .int x53_7, x53_8] [] Ac39 P := by
        intro m53
        induction m53 with
        | zero => intro x53_3 x53_4 x53_5 x53_7 x53_8 bx53_3 bx53_4 cx53_4 bx53_5 cx53_5 bx53_7 cx53_7 cx39_6 hm53; have := hn_rng x53_3; exact False.elim (by omega)
        | succ m53 ih53 =>
          intro x53_3 x53_4 x53_5 x53_7 x53_8 bx53_3 bx53_4 cx53_4 bx53_5 cx53_5 bx53_7 cx53_7 cx39_6 hm53
          refine hxa_iload (by rfl) rfl ?_
          refine hxa_sipush (by rfl) rfl ?_
          refine hxj_cge (by rfl) rfl hk_256 (fun q1 => ?_) (fun q1 => ?_)
          ·
            refine hxj_iinc (by rfl) rfl rfl hk_1 (by omega) (by omega) (fun _ => rfl) (fun z2 ez2 => ?_)
            refine hxa_goto (by rfl) ?_
            exact ih39 x53_3 x53_4 x53_5 z2 (.int x53_7) (x53_8) Ac39 rfl hAc39 (by omega) (by omega) (by omega) (by omega) (by omega) (by omega) (by omega) (by omega) (by omega) (by omega) (by omega) (by omega)
          ·
            refine hxa_aload_n (by rfl) rfl ?_
            refine hxa_get (v := .ref 401) (by rfl) (by rfl) (by rfl) rfl ?_
            refine hxa_iload (by rfl) rfl ?_
            refine hxj_ialdB (by rfl) (by rfl) rfl (by omega) (by omega) hAc39 (by rfl) (fun z3 ez3 fz3 gz3 => ?_)
            refine hxa_aload_n (by rfl) rfl ?_
            refine hxa_get (v := .ref 401) (by rfl) (by rfl) (by rfl) rfl ?_
            refine hxa_iload (by rfl) rfl ?_
            refine hxj_ialdB (by rfl) (by rfl) rfl (by omega) (by omega) hAc39 (by rfl) (fun z4 ez4 fz4 gz4 => ?_)
            refine hxj_ixorU (by rfl) (fun z5 => ?_)
            refine hxa_call2 (by rfl) (by decide) (by rfl) (by rfl) (by rfl) (hX166 (d := d + 6)  z5) ?_
            rintro _ _ ⟨rfl, z6, rfl⟩
            refine hxa_s1 (by rfl) (Or.inr ⟨_, rfl, rfl⟩) rfl ?_
            refine hxa_iload (by rfl) rfl ?_
            refine hxa_iload_n (by rfl) rfl ?_
            have rgz6 := hn_rng z6
            have rgx53_3 := hn_rng x53_3
            refine hxj_cgt (by rfl) rfl rfl (fun q7 => ?_) (fun q7 => ?_)
            ·
              refine hxa_iload (by rfl) rfl ?_
              refine hxa_s1 (by rfl) (Or.inl ⟨_, rfl, rfl⟩) rfl ?_
              refine hxa_iload (by rfl) rfl ?_
              refine hxa_s1 (by rfl) (Or.inr ⟨_, rfl, rfl⟩) rfl ?_
              refine hxa_iload (by rfl) rfl ?_
              refine hxa_s1 (by rfl) (Or.inr ⟨_, rfl, rfl⟩) rfl ?_
              refine hxj_iinc (by rfl) rfl rfl hk_1 (by omega) (by omega) (fun _ => rfl) (fun z8 ez8 => ?_)
              refine hxa_goto (by rfl) ?_
              exact ih53 z6 x39_6 x53_7 z8 (.int z6) (by omega) (by omega) (by omega) (by omega) (by omega) (by omega) (by omega) (by omega) (by omega)
            ·
              refine hxa_goto (by rfl) ?_
              refine hxj_iinc (by rfl) rfl rfl hk_1 (by omega) (by omega) (fun _ => rfl) (fun z9 ez9 => ?_)
              refine hxa_goto (by rfl) ?_
              exact ih53 x53_3 x53_4 x53_5 z9 (.int z6) (by omega) (by omega) (by omega) (by omega) (by omega) (by omega) (by omega) (by omega) (by omega)
      refine hxa_iload (by rfl) rfl ?_
      refine hxa_sipush (by rfl) rfl ?_
      refine hxj_cge (by rfl) rfl hk_256 (fun q10 => ?_) (fun q10 => ?_)
      ·
        refine hxa_iload_n (by rfl) rfl ?_
        refine hxj_zne (by rfl) rfl (fun q11 => ?_) (fun q11 => ?_)
        ·
          refine hxa_iload_n (by rfl) rfl ?_
          refine hxa_iconst (by rfl) rfl ?_
          refine hxj_cne (by rfl) rfl hk_1 (fun q12 => ?_) (fun q12 => ?_)
          ·
            refine hxa_iload (by rfl) rfl ?_
            exact hxa_ireturn (by rfl) rfl (hP _ _ ⟨(hJ.mono hAc39 (by omega) (by omega)), _, rfl⟩)
          ·
            refine hxa_iload (by rfl) rfl ?_
            refine hxa_goto (by rfl) ?_
            exact hxa_ireturn (by rfl) rfl (hP _ _ ⟨(hJ.mono hAc39 (by omega) (by omega)), _, rfl⟩)
        ·
          refine hxa_iload_n (by rfl) rfl ?_
          refine hxa_goto (by rfl) ?_
          exact hxa_ireturn (by rfl) rfl (hP _ _ ⟨(hJ.mono hAc39 (by omega) (by omega)), _, rfl⟩)
      ·
        refine hxa_iload (by rfl) rfl ?_
        refine hxa_iconst (by rfl) rfl ?_
        refine hxj_iadd (by rfl) rfl hk_1 (by omega) (by omega) (fun z13 ez13 => ?_)
        refine hxa_s1 (by rfl) (Or.inr ⟨_, rfl, rfl⟩) rfl ?_
        exact L53 (Int.toNat (256 - z13.toInt) + 1) x39_3 x39_4 x39_5 z13 (x39_8) (by omega) (by omega) (by omega) (by omega) (by omega) (by omega) (by omega) (by omega) (by omega)
  refine hxa_aload_n (by rfl) rfl ?_
  refine hxa_iload_n (by rfl) rfl ?_
  refine hxa_call0 (by rfl) (by rfl) (by rfl) (by rfl) (by rfl) (by rfl) (hX167 (d := d + 5) hA a1) ?_
  rintro _ _ ⟨rfl, z14, rfl, fz14⟩
  rcases fz14 with fz14 | fz14
  ·
    refine hxj_zeq (by rfl) rfl (fun q15 => False.elim (by omega)) (fun q15 => ?_)
    refine hxa_iload_n (by rfl) rfl ?_
    refine hxa_iconst (by rfl) rfl ?_
    refine hxa_iconst (by rfl) rfl ?_
    refine hxa_call2 (by rfl) (by decide) (by rfl) (by rfl) (by rfl) (hX164 (d := d + 6)  a2 (Int32.ofNat 0) (Int32.ofNat 2)) ?_
    rintro _ _ ⟨rfl, z16, rfl, fz16⟩
    rcases fz16 with fz16 | fz16
    ·
      refine hxj_zne (by rfl) rfl (fun q17 => ?_) (fun q17 => False.elim (by omega))
      refine hxa_aload_n (by rfl) rfl ?_
      refine hxa_call0 (by rfl) (by rfl) (by rfl) (by rfl) (by rfl) (by rfl) (hX171 (d := d + 6) hA ) ?_
      rintro _ A18 ⟨hA18, rfl⟩
      refine hxa_aload_n (by rfl) rfl ?_
      refine hxa_iload_n (by rfl) rfl ?_
      refine hxa_call0 (by rfl) (by rfl) (by rfl) (by rfl) (by rfl) (by rfl) (hX203 (d := d + 0) hA18 a1 (by omega) (by omega)) ?_
      rintro _ A19 ⟨hA19, rfl⟩
      refine hxa_iconst (by rfl) rfl ?_
      refine hxa_s1 (by rfl) (Or.inl ⟨_, rfl, rfl⟩) rfl ?_
      refine hxa_iconst (by rfl) rfl ?_
      refine hxa_s1 (by rfl) (Or.inr ⟨_, rfl, rfl⟩) rfl ?_
      refine hxa_iconst (by rfl) rfl ?_
      refine hxa_s1 (by rfl) (Or.inr ⟨_, rfl, rfl⟩) rfl ?_
      refine hxa_iconst (by rfl) rfl ?_
      refine hxa_s1 (by rfl) (Or.inr ⟨_, rfl, rfl⟩) rfl ?_
      exact L39 (Int.toNat (256 - 0) + 1) (Int32.ofNat 0) (Int32.ofNat 0) (Int32.ofNat 1) (Int32.ofNat 0) (.retAddr 0) (.retAddr 0) A19 rfl hA19 (by omega) (by omega) (by omega) (by omega) (by omega) (by omega) (by omega) (by omega) (by omega) (by omega) (by omega) (by omega)
    ·
      refine hxj_zne (by rfl) rfl (fun q20 => False.elim (by omega)) (fun q20 => ?_)
      refine hxa_iconst (by rfl) rfl ?_
      exact hxa_ireturn (by rfl) rfl (hP _ _ ⟨(hJ.mono hA (by omega) (by omega)), _, rfl⟩)
  ·
    refine hxj_zeq (by rfl) rfl (fun q21 => ?_) (fun q21 => False.elim (by omega))
    refine hxa_iconst (by rfl) rfl ?_
    exact hxa_ireturn (by rfl) rfl (hP _ _ ⟨(hJ.mono hA (by omega) (by omega)), _, rfl⟩)
theorem hX211 {d : Nat} {N : Int} {A0 A : hs_A} (hA : hJ 0 N (N + 72) A0 A) (hN : N ≤ 900000) (a1 : Int32) (a2 : Int32) : hxC (d + 8) 211 hm_m211 [.ref 368, .int a1, .int a2] A (fun r A' => hJ 0 (N + 72) (N + 144) A0 A' ∧ ∃ z : Int32, r = some (.int z)) := hxC.of (by rfl) (hY211 hA hN a1 a2 (fun r A' h => h))
theorem hY212 {d : Nat} {N : Int} {A0 A : hs_A} (hA : hJ 0 N (N + 72) A0 A) (hN : N ≤ 900000) (a1 : Int32) (a2 : Int32) {P : Option Value → hs_A → Prop} (hP : ∀ (r : Option Value) (A' : hs_A), (hJ 0 (N + 72) (N + 144) A0 A' ∧ ∃ z : Int32, r = some (.int z)) → P r A') : hxa (d + 7) (some (.int)) hm_t212 0 [.ref 368, .int a1, .int a2, .retAddr 0, .retAddr 0] [] A P := by
  have k0 := hk_0
  have k4294967295 := hk_4294967295
  have L37 : ∀ (m37 : Nat) (x37_3 : Int32) (x37_4 : Int32) (Ac37 : hs_A) (hAc37 : hJ 0 N N A0 Ac37) (bx37_4 : 0 ≤ x37_4.toInt) (cx37_4 : x37_4.toInt ≤ 256) (ba1 : 0 ≤ a1.toInt) (ca1 : a1.toInt ≤ 9) (ba2 : 0 ≤ a2.toInt) (ca2 : a2.toInt ≤ 9) (hm37 : 256 - x37_4.toInt < (m37 : Int)), hxa (d + 7) (some (.int)) hm_t212 37 [.ref 368, .int a1, .int a2, .int x37_3, .int x37_4] [] Ac37 P := by
    intro m37
    induction m37 with
    | zero => intro x37_3 x37_4 Ac37 hAc37 bx37_4 cx37_4 ba1 ca1 ba2 ca2 hm37; have := hn_rng x37_3; exact False.elim (by omega)
    | succ m37 ih37 =>
      intro x37_3 x37_4 Ac37 hAc37 bx37_4 cx37_4 ba1 ca1 ba2 ca2 hm37
      refine hxa_iload (by rfl) rfl ?_
      refine hxa_sipush (by rfl) rfl ?_
      refine hxj_cge (by rfl) rfl hk_256 (fun q1 => ?_) (fun q1 => ?_)
      ·
        refine hxa_iload_n (by rfl) rfl ?_
        exact hxa_ireturn (by rfl) rfl (hP _ _ ⟨(hJ.mono hAc37 (by omega) (by omega)), _, rfl⟩)
      ·
        refine hxa_aload_n (by rfl) rfl ?_
        refine hxa_iload_n (by rfl) rfl ?_
        refine hxa_iload (by rfl) rfl ?_
        refine hxa_call0 (by rfl) (by rfl) (by rfl) (by rfl) (by rfl) (by rfl) (hX202 (d := d + 1) hAc37 a2 (by omega) (by omega) x37_4 (by omega) (by omega)) ?_
        rintro _ A2 ⟨hA2, z3, rfl, fz3⟩
        refine hxa_aload_n (by rfl) rfl ?_
        refine hxa_get (v := .ref 401) (by rfl) (by rfl) (by rfl) rfl ?_
        refine hxa_iload (by rfl) rfl ?_
        refine hxj_ialdB (by rfl) (by rfl) rfl (by omega) (by omega) hA2 (by rfl) (fun z4 ez4 fz4 gz4 => ?_)
        refine hxj_cne (by rfl) rfl rfl (fun q5 => ?_) (fun q5 => ?_)
        ·
          refine hxj_iinc (by rfl) rfl rfl hk_1 (by omega) (by omega) (fun _ => rfl) (fun z6 ez6 => ?_)
          refine hxa_goto (by rfl) ?_
          exact ih37 x37_3 z6 A2 hA2 (by omega) (by omega) (by omega) (by omega) (by omega) (by omega) (by omega)
        ·
          refine hxj_iincU (by rfl) rfl (fun _ => rfl) (fun z7 => ?_)
          refine hxj_iinc (by rfl) rfl rfl hk_1 (by omega) (by omega) (fun _ => rfl) (fun z8 ez8 => ?_)
          refine hxa_goto (by rfl) ?_
          exact ih37 z7 z8 A2 hA2 (by omega) (by omega) (by omega) (by omega) (by omega) (by omega) (by omega)
  refine hxa_aload_n (by rfl) rfl ?_
  refine hxa_iload_n (by rfl) rfl ?_
  refine hxa_call0 (by rfl) (by rfl) (by rfl) (by rfl) (by rfl) (by rfl) (hX167 (d := d + 5) hA a1) ?_
  rintro _ _ ⟨rfl, z9, rfl, fz9⟩
  rcases fz9 with fz9 | fz9
  ·
    refine hxj_zeq (by rfl) rfl (fun q10 => False.elim (by omega)) (fun q10 => ?_)
    refine hxa_aload_n (by rfl) rfl ?_
    refine hxa_iload_n (by rfl) rfl ?_
    refine hxa_call0 (by rfl) (by rfl) (by rfl) (by rfl) (by rfl) (by rfl) (hX167 (d := d + 5) hA a2) ?_
    rintro _ _ ⟨rfl, z11, rfl, fz11⟩
    rcases fz11 with fz11 | fz11
    ·
      refine hxj_zeq (by rfl) rfl (fun q12 => False.elim (by omega)) (fun q12 => ?_)
      refine hxa_iload_n (by rfl) rfl ?_
      refine hxa_iload_n (by rfl) rfl ?_
      refine hxj_cne (by rfl) rfl rfl (fun q13 => ?_) (fun q13 => ?_)
      ·
        refine hxa_aload_n (by rfl) rfl ?_
        refine hxa_call0 (by rfl) (by rfl) (by rfl) (by rfl) (by rfl) (by rfl) (hX171 (d := d + 6) hA ) ?_
        rintro _ A14 ⟨hA14, rfl⟩
        refine hxa_aload_n (by rfl) rfl ?_
        refine hxa_iload_n (by rfl) rfl ?_
        refine hxa_call0 (by rfl) (by rfl) (by rfl) (by rfl) (by rfl) (by rfl) (hX203 (d := d + 0) hA14 a1 (by omega) (by omega)) ?_
        rintro _ A15 ⟨hA15, rfl⟩
        refine hxa_iconst (by rfl) rfl ?_
        refine hxa_s1 (by rfl) (Or.inl ⟨_, rfl, rfl⟩) rfl ?_
        refine hxa_iconst (by rfl) rfl ?_
        refine hxa_s1 (by rfl) (Or.inr ⟨_, rfl, rfl⟩) rfl ?_
        exact L37 (Int.toNat (256 - 0) + 1) (Int32.ofNat 0) (Int32.ofNat 0) A15 hA15 (by omega) (by omega) (by omega) (by omega) (by omega) (by omega) (by omega)
      ·
        refine hxa_iconst (by rfl) rfl ?_
        exact hxa_ireturn (by rfl) rfl (hP _ _ ⟨(hJ.mono hA (by omega) (by omega)), _, rfl⟩)
    ·
      refine hxj_zeq (by rfl) rfl (fun q16 => ?_) (fun q16 => False.elim (by omega))
      refine hxa_iconst (by rfl) rfl ?_
      exact hxa_ireturn (by rfl) rfl (hP _ _ ⟨(hJ.mono hA (by omega) (by omega)), _, rfl⟩)
  ·
    refine hxj_zeq (by rfl) rfl (fun q17 => ?_) (fun q17 => False.elim (by omega))
    refine hxa_iconst (by rfl) rfl ?_
    exact hxa_ireturn (by rfl) rfl (hP _ _ ⟨(hJ.mono hA (by omega) (by omega)), _, rfl⟩)
theorem hX212 {d : Nat} {N : Int} {A0 A : hs_A} (hA : hJ 0 N (N + 72) A0 A) (hN : N ≤ 900000) (a1 : Int32) (a2 : Int32) : hxC (d + 8) 212 hm_m212 [.ref 368, .int a1, .int a2] A (fun r A' => hJ 0 (N + 72) (N + 144) A0 A' ∧ ∃ z : Int32, r = some (.int z)) := hxC.of (by rfl) (hY212 hA hN a1 a2 (fun r A' h => h))
theorem hY213 {d : Nat} {N : Int} {A0 A : hs_A} (hA : hJ 0 N (N + 72) A0 A) (hN : N ≤ 900000) (a1 : Int32) {P : Option Value → hs_A → Prop} (hP : ∀ (r : Option Value) (A' : hs_A), (hJ 0 (N + 72) (N + 144) A0 A' ∧ ∃ z : Int32, r = some (.int z)) → P r A') : hxa (d + 6) (some (.int)) hm_t213 0 [.ref 368, .int a1, .retAddr 0] [] A P := by
  have k1 := hk_1
  have k4294967294 := hk_4294967294
  have k4294967295 := hk_4294967295
  have L16 : ∀ (m16 : Nat) (x16_2 : Int32) (Ac16 : hs_A) (hAc16 : hJ 0 N N A0 Ac16) (bx16_2 : 1 ≤ x16_2.toInt) (cx16_2 : x16_2.toInt ≤ 256) (ba1 : 0 ≤ a1.toInt) (ca1 : a1.toInt ≤ 9) (hm16 : 256 - x16_2.toInt < (m16 : Int)), hxa (d + 6) (some (.int)) hm_t213 16 [.ref 368, .int a1, .int x16_2] [] Ac16 P := by
    intro m16
    induction m16 with
    | zero => intro x16_2 Ac16 hAc16 bx16_2 cx16_2 ba1 ca1 hm16;  exact False.elim (by omega)
    | succ m16 ih16 =>
      intro x16_2 Ac16 hAc16 bx16_2 cx16_2 ba1 ca1 hm16
      refine hxa_iload_n (by rfl) rfl ?_
      refine hxa_sipush (by rfl) rfl ?_
      refine hxj_cge (by rfl) rfl hk_256 (fun q1 => ?_) (fun q1 => ?_)
      ·
        refine hxa_bipush (by rfl) rfl ?_
        exact hxa_ireturn (by rfl) rfl (hP _ _ ⟨(hJ.mono hAc16 (by omega) (by omega)), _, rfl⟩)
      ·
        refine hxa_aload_n (by rfl) rfl ?_
        refine hxa_iload_n (by rfl) rfl ?_
        refine hxa_iload_n (by rfl) rfl ?_
        refine hxa_call0 (by rfl) (by rfl) (by rfl) (by rfl) (by rfl) (by rfl) (hX202 (d := d + 0) hAc16 a1 (by omega) (by omega) x16_2 (by omega) (by omega)) ?_
        rintro _ A2 ⟨hA2, z3, rfl, fz3⟩
        refine hxa_iload_n (by rfl) rfl ?_
        refine hxj_cne (by rfl) rfl rfl (fun q4 => ?_) (fun q4 => ?_)
        ·
          refine hxj_iinc (by rfl) rfl rfl hk_1 (by omega) (by omega) (fun _ => rfl) (fun z5 ez5 => ?_)
          refine hxa_goto (by rfl) ?_
          exact ih16 z5 A2 hA2 (by omega) (by omega) (by omega) (by omega) (by omega)
        ·
          refine hxa_iload_n (by rfl) rfl ?_
          exact hxa_ireturn (by rfl) rfl (hP _ _ ⟨(hJ.mono hA2 (by omega) (by omega)), _, rfl⟩)
  refine hxa_aload_n (by rfl) rfl ?_
  refine hxa_iload_n (by rfl) rfl ?_
  refine hxa_call0 (by rfl) (by rfl) (by rfl) (by rfl) (by rfl) (by rfl) (hX167 (d := d + 4) hA a1) ?_
  rintro _ _ ⟨rfl, z6, rfl, fz6⟩
  rcases fz6 with fz6 | fz6
  ·
    refine hxj_zne (by rfl) rfl (fun q7 => ?_) (fun q7 => False.elim (by omega))
    refine hxa_aload_n (by rfl) rfl ?_
    refine hxa_call0 (by rfl) (by rfl) (by rfl) (by rfl) (by rfl) (by rfl) (hX171 (d := d + 5) hA ) ?_
    rintro _ A8 ⟨hA8, rfl⟩
    refine hxa_iconst (by rfl) rfl ?_
    refine hxa_s1 (by rfl) (Or.inl ⟨_, rfl, rfl⟩) rfl ?_
    exact L16 (Int.toNat (256 - 1) + 1) (Int32.ofNat 1) A8 hA8 (by omega) (by omega) (by omega) (by omega) (by omega)
  ·
    refine hxj_zne (by rfl) rfl (fun q9 => False.elim (by omega)) (fun q9 => ?_)
    refine hxa_iconst (by rfl) rfl ?_
    exact hxa_ireturn (by rfl) rfl (hP _ _ ⟨(hJ.mono hA (by omega) (by omega)), _, rfl⟩)
theorem hX213 {d : Nat} {N : Int} {A0 A : hs_A} (hA : hJ 0 N (N + 72) A0 A) (hN : N ≤ 900000) (a1 : Int32) : hxC (d + 7) 213 hm_m213 [.ref 368, .int a1] A (fun r A' => hJ 0 (N + 72) (N + 144) A0 A' ∧ ∃ z : Int32, r = some (.int z)) := hxC.of (by rfl) (hY213 hA hN a1 (fun r A' h => h))
theorem hY214 {d : Nat} {Bn Br : Int} {A0 A : hs_A} (hA : hJ 0 Bn Br A0 A)  (a1 : Int32) (p1 : 0 ≤ a1.toInt) (q1 : a1.toInt ≤ 9) {P : Option Value → hs_A → Prop} (hP : ∀ (r : Option Value) (A' : hs_A), (hJ 0 Bn Br A0 A' ∧ r = none) → P r A') : hxa (d + 5) none hm_t214 0 [.ref 368, .int a1, .retAddr 0] [] A P := by
  have k0 := hk_0
  have k255 := hk_255
  have L2 : ∀ (m2 : Nat) (x2_2 : Int32) (Ac2 : hs_A) (hAc2 : hJ 0 Bn Br A0 Ac2) (bx2_2 : 0 ≤ x2_2.toInt) (cx2_2 : x2_2.toInt ≤ 24) (hm2 : 24 - x2_2.toInt < (m2 : Int)), hxa (d + 5) none hm_t214 2 [.ref 368, .int a1, .int x2_2] [] Ac2 P := by
    intro m2
    induction m2 with
    | zero => intro x2_2 Ac2 hAc2 bx2_2 cx2_2 hm2;  exact False.elim (by omega)
    | succ m2 ih2 =>
      intro x2_2 Ac2 hAc2 bx2_2 cx2_2 hm2
      refine hxa_iload_n (by rfl) rfl ?_
      refine hxa_bipush (by rfl) rfl ?_
      refine hxj_cge (by rfl) rfl hk_24 (fun q1 => ?_) (fun q1 => ?_)
      ·
        exact hxa_return (by rfl) rfl (hP _ _ ⟨hAc2, rfl⟩)
      ·
        refine hxa_aload_n (by rfl) rfl ?_
        refine hxa_get (v := .ref 404) (by rfl) (by rfl) (by rfl) rfl ?_
        refine hxa_iload_n (by rfl) rfl ?_
        refine hxa_aload_n (by rfl) rfl ?_
        refine hxa_iload_n (by rfl) rfl ?_
        refine hxa_sipush (by rfl) rfl ?_
        refine hxa_aload_n (by rfl) rfl ?_
        refine hxa_get (v := .ref 397) (by rfl) (by rfl) (by rfl) rfl ?_
        refine hxa_bipush (by rfl) rfl ?_
        refine hxj_iald396 (by rfl) hk_70 (by omega) (by omega) hAc2 (fun z2 ez2 fz2 => ?_)
        refine hxa_iload_n (by rfl) rfl ?_
        refine hxj_iaddU (by rfl) (fun z3 => ?_)
        refine hxa_call0 (by rfl) (by rfl) (by rfl) (by rfl) (by rfl) (by rfl) (hX201 (d := d + 0) hAc2 a1 (by omega) (by omega) (Int32.ofNat 255) (by omega) (by omega) z3) ?_
        rintro _ A4 ⟨hA4, z5, rfl, fz5⟩
        refine hxj_iast (by rfl) (by rfl) rfl (by omega) (by omega) hA4 (hbokN (by rfl)) (by rfl) (by rfl) (fun A6 hA6 eA6 fA6 gA6 => ?_)
        refine hxj_iinc (by rfl) rfl rfl hk_1 (by omega) (by omega) (fun _ => rfl) (fun z7 ez7 => ?_)
        refine hxa_goto (by rfl) ?_
        exact ih2 z7 A6 hA6 (by omega) (by omega) (by omega)
  refine hxa_iconst (by rfl) rfl ?_
  refine hxa_s1 (by rfl) (Or.inl ⟨_, rfl, rfl⟩) rfl ?_
  exact L2 (Int.toNat (24 - 0) + 1) (Int32.ofNat 0) A hA (by omega) (by omega) (by omega)
theorem hX214 {d : Nat} {Bn Br : Int} {A0 A : hs_A} (hA : hJ 0 Bn Br A0 A)  (a1 : Int32) (p1 : 0 ≤ a1.toInt) (q1 : a1.toInt ≤ 9) : hxC (d + 6) 214 hm_m214 [.ref 368, .int a1] A (fun r A' => hJ 0 Bn Br A0 A' ∧ r = none) := hxC.of (by rfl) (hY214 hA a1 p1 q1 (fun r A' h => h))
theorem hY215 {d : Nat} {Bn Br : Int} {A0 A : hs_A} (hA : hJ 0 Bn Br A0 A)  (a1 : Int32) {P : Option Value → hs_A → Prop} (hP : ∀ (r : Option Value) (A' : hs_A), (hJ 0 Bn Br A0 A' ∧ ∃ z : Int32, r = some (.int z) ∧ ((0 ≤ z.toInt ∧ z.toInt ≤ 4))) → P r A') : hxa (d + 0) (some (.int)) hm_t215 0 [.ref 368, .int a1, .retAddr 0, .retAddr 0] [] A P := by
  have k0 := hk_0
  have k1 := hk_1
  have k2 := hk_2
  have k3 := hk_3
  have k4 := hk_4
  have L112 : ∀ (m112 : Nat) (x112_2 : Int32) (x112_3 : Value) (Ac112 : hs_A) (hAc112 : hJ 0 Bn Br A0 Ac112) (bx112_2 : 0 ≤ x112_2.toInt) (cx112_2 : x112_2.toInt ≤ 13824) (hm112 : 13824 - x112_2.toInt < (m112 : Int)), hxa (d + 0) (some (.int)) hm_t215 112 [.ref 368, .int a1, .int x112_2, x112_3] [] Ac112 P := by
    intro m112
    induction m112 with
    | zero => intro x112_2 x112_3 Ac112 hAc112 bx112_2 cx112_2 hm112;  exact False.elim (by omega)
    | succ m112 ih112 =>
      intro x112_2 x112_3 Ac112 hAc112 bx112_2 cx112_2 hm112
      refine hxa_iload_n (by rfl) rfl ?_
      refine hxa_sipush (by rfl) rfl ?_
      refine hxj_cge (by rfl) rfl hk_13824 (fun q1 => ?_) (fun q1 => ?_)
      ·
        refine hxa_iconst (by rfl) rfl ?_
        exact hxa_ireturn (by rfl) rfl (hP _ _ ⟨hAc112, _, rfl, by omega⟩)
      ·
        refine hxa_aload_n (by rfl) rfl ?_
        refine hxa_get (v := .ref 405) (by rfl) (by rfl) (by rfl) rfl ?_
        refine hxa_iconst (by rfl) rfl ?_
        refine hxa_iload_n (by rfl) rfl ?_
        refine hxa_sipush (by rfl) rfl ?_
        refine hxj_idivP (by rfl) rfl hk_576 (by omega) (by omega) (fun z2 ez2 => ?_)
        refine hxj_iast (by rfl) (by rfl) hk_0 (by omega) (by omega) hAc112 (hbok (by rfl) rfl (by omega) (by omega)) (by rfl) (by rfl) (fun A3 hA3 eA3 fA3 gA3 => ?_)
        refine hxa_aload_n (by rfl) rfl ?_
        refine hxa_get (v := .ref 405) (by rfl) (by rfl) (by rfl) rfl ?_
        refine hxa_iconst (by rfl) rfl ?_
        refine hxa_iload_n (by rfl) rfl ?_
        refine hxa_bipush (by rfl) rfl ?_
        refine hxj_idivP (by rfl) rfl hk_24 (by omega) (by omega) (fun z4 ez4 => ?_)
        refine hxa_bipush (by rfl) rfl ?_
        refine hxj_iremP (by rfl) rfl hk_24 (by omega) (by omega) (fun z5 ez5 => ?_)
        refine hxj_iast (by rfl) (by rfl) hk_1 (by omega) (by omega) hA3 (hbok (by rfl) rfl (by omega) (by omega)) (by rfl) (by rfl) (fun A6 hA6 eA6 fA6 gA6 => ?_)
        refine hxa_aload_n (by rfl) rfl ?_
        refine hxa_get (v := .ref 405) (by rfl) (by rfl) (by rfl) rfl ?_
        refine hxa_iconst (by rfl) rfl ?_
        refine hxa_iload_n (by rfl) rfl ?_
        refine hxa_bipush (by rfl) rfl ?_
        refine hxj_iremP (by rfl) rfl hk_24 (by omega) (by omega) (fun z7 ez7 => ?_)
        refine hxj_iast (by rfl) (by rfl) hk_2 (by omega) (by omega) hA6 (hbok (by rfl) rfl (by omega) (by omega)) (by rfl) (by rfl) (fun A8 hA8 eA8 fA8 gA8 => ?_)
        refine hxa_aload_n (by rfl) rfl ?_
        refine hxa_get (v := .ref 405) (by rfl) (by rfl) (by rfl) rfl ?_
        refine hxa_iconst (by rfl) rfl ?_
        refine hxj_ialdB (by rfl) (by rfl) hk_0 (by omega) (by omega) hA8 (by rfl) (fun z9 ez9 fz9 gz9 => ?_)
        refine hxa_aload_n (by rfl) rfl ?_
        refine hxa_get (v := .ref 405) (by rfl) (by rfl) (by rfl) rfl ?_
        refine hxa_iconst (by rfl) rfl ?_
        refine hxj_ialdB (by rfl) (by rfl) hk_1 (by omega) (by omega) hA8 (by rfl) (fun z10 ez10 fz10 gz10 => ?_)
        refine hxj_cge (by rfl) rfl rfl (fun q11 => ?_) (fun q11 => ?_)
        ·
          refine hxj_iinc (by rfl) rfl rfl hk_1 (by omega) (by omega) (fun _ => rfl) (fun z12 ez12 => ?_)
          refine hxa_goto (by rfl) ?_
          exact ih112 z12 (x112_3) A8 hA8 (by omega) (by omega) (by omega)
        ·
          refine hxa_aload_n (by rfl) rfl ?_
          refine hxa_get (v := .ref 405) (by rfl) (by rfl) (by rfl) rfl ?_
          refine hxa_iconst (by rfl) rfl ?_
          refine hxj_ialdB (by rfl) (by rfl) hk_1 (by omega) (by omega) hA8 (by rfl) (fun z13 ez13 fz13 gz13 => ?_)
          refine hxa_aload_n (by rfl) rfl ?_
          refine hxa_get (v := .ref 405) (by rfl) (by rfl) (by rfl) rfl ?_
          refine hxa_iconst (by rfl) rfl ?_
          refine hxj_ialdB (by rfl) (by rfl) hk_2 (by omega) (by omega) hA8 (by rfl) (fun z14 ez14 fz14 gz14 => ?_)
          refine hxj_cge (by rfl) rfl rfl (fun q15 => ?_) (fun q15 => ?_)
          ·
            refine hxj_iinc (by rfl) rfl rfl hk_1 (by omega) (by omega) (fun _ => rfl) (fun z16 ez16 => ?_)
            refine hxa_goto (by rfl) ?_
            exact ih112 z16 (x112_3) A8 hA8 (by omega) (by omega) (by omega)
          ·
            refine hxa_iload_n (by rfl) rfl ?_
            refine hxa_aload_n (by rfl) rfl ?_
            refine hxa_get (v := .ref 404) (by rfl) (by rfl) (by rfl) rfl ?_
            refine hxa_aload_n (by rfl) rfl ?_
            refine hxa_get (v := .ref 405) (by rfl) (by rfl) (by rfl) rfl ?_
            refine hxa_iconst (by rfl) rfl ?_
            refine hxj_ialdB (by rfl) (by rfl) hk_0 (by omega) (by omega) hA8 (by rfl) (fun z17 ez17 fz17 gz17 => ?_)
            refine hxj_iald (by rfl) (by rfl) rfl (by omega) (by omega) (fun z18 ez18 => ?_)
            refine hxa_iconst (by rfl) rfl ?_
            refine hxj_ixorU (by rfl) (fun z19 => ?_)
            refine hxj_iandU (by rfl) (fun z20 => ?_)
            refine hxa_aload_n (by rfl) rfl ?_
            refine hxa_get (v := .ref 404) (by rfl) (by rfl) (by rfl) rfl ?_
            refine hxa_aload_n (by rfl) rfl ?_
            refine hxa_get (v := .ref 405) (by rfl) (by rfl) (by rfl) rfl ?_
            refine hxa_iconst (by rfl) rfl ?_
            refine hxj_ialdB (by rfl) (by rfl) hk_1 (by omega) (by omega) hA8 (by rfl) (fun z21 ez21 fz21 gz21 => ?_)
            refine hxj_iald (by rfl) (by rfl) rfl (by omega) (by omega) (fun z22 ez22 => ?_)
            refine hxa_iconst (by rfl) rfl ?_
            refine hxj_ixorU (by rfl) (fun z23 => ?_)
            refine hxj_iandU (by rfl) (fun z24 => ?_)
            refine hxa_aload_n (by rfl) rfl ?_
            refine hxa_get (v := .ref 404) (by rfl) (by rfl) (by rfl) rfl ?_
            refine hxa_aload_n (by rfl) rfl ?_
            refine hxa_get (v := .ref 405) (by rfl) (by rfl) (by rfl) rfl ?_
            refine hxa_iconst (by rfl) rfl ?_
            refine hxj_ialdB (by rfl) (by rfl) hk_2 (by omega) (by omega) hA8 (by rfl) (fun z25 ez25 fz25 gz25 => ?_)
            refine hxj_iald (by rfl) (by rfl) rfl (by omega) (by omega) (fun z26 ez26 => ?_)
            refine hxa_iconst (by rfl) rfl ?_
            refine hxj_ixorU (by rfl) (fun z27 => ?_)
            refine hxj_iandU (by rfl) (fun z28 => ?_)
            refine hxj_zne (by rfl) rfl (fun q29 => ?_) (fun q29 => ?_)
            ·
              refine hxj_iinc (by rfl) rfl rfl hk_1 (by omega) (by omega) (fun _ => rfl) (fun z30 ez30 => ?_)
              refine hxa_goto (by rfl) ?_
              exact ih112 z30 (x112_3) A8 hA8 (by omega) (by omega) (by omega)
            ·
              refine hxa_iconst (by rfl) rfl ?_
              exact hxa_ireturn (by rfl) rfl (hP _ _ ⟨hA8, _, rfl, by omega⟩)
  have L44 : ∀ (m44 : Nat) (x44_2 : Int32) (x44_3 : Value) (Ac44 : hs_A) (hAc44 : hJ 0 Bn Br A0 Ac44) (bx44_2 : 0 ≤ x44_2.toInt) (cx44_2 : x44_2.toInt ≤ 24) (hm44 : 24 - x44_2.toInt < (m44 : Int)), hxa (d + 0) (some (.int)) hm_t215 44 [.ref 368, .int a1, .int x44_2, x44_3] [] Ac44 P := by
    intro m44
    induction m44 with
    | zero => intro x44_2 x44_3 Ac44 hAc44 bx44_2 cx44_2 hm44;  exact False.elim (by omega)
    | succ m44 ih44 =>
      intro x44_2 x44_3 Ac44 hAc44 bx44_2 cx44_2 hm44
      have L54 : ∀ (m54 : Nat) (x54_3 : Int32) (Ac54 : hs_A) (hAc54 : hJ 0 Bn Br A0 Ac54) (bx54_3 : 1 ≤ x54_3.toInt) (cx54_3 : x54_3.toInt ≤ 24) (cx44_2 : x44_2.toInt ≤ 23) (hm54 : 24 - x54_3.toInt < (m54 : Int)), hxa (d + 0) (some (.int)) hm_t215 54 [.ref 368, .int a1, .int x44_2, .int x54_3] [] Ac54 P := by
        intro m54
        induction m54 with
        | zero => intro x54_3 Ac54 hAc54 bx54_3 cx54_3 cx44_2 hm54;  exact False.elim (by omega)
        | succ m54 ih54 =>
          intro x54_3 Ac54 hAc54 bx54_3 cx54_3 cx44_2 hm54
          refine hxa_iload_n (by rfl) rfl ?_
          refine hxa_bipush (by rfl) rfl ?_
          refine hxj_cge (by rfl) rfl hk_24 (fun q31 => ?_) (fun q31 => ?_)
          ·
            refine hxj_iinc (by rfl) rfl rfl hk_1 (by omega) (by omega) (fun _ => rfl) (fun z32 ez32 => ?_)
            refine hxa_goto (by rfl) ?_
            exact ih44 z32 (.int x54_3) Ac54 hAc54 (by omega) (by omega) (by omega)
          ·
            refine hxa_aload_n (by rfl) rfl ?_
            refine hxa_get (v := .ref 405) (by rfl) (by rfl) (by rfl) rfl ?_
            refine hxa_iconst (by rfl) rfl ?_
            refine hxa_iload_n (by rfl) rfl ?_
            refine hxj_iast (by rfl) (by rfl) hk_0 (by omega) (by omega) hAc54 (hbok (by rfl) rfl (by omega) (by omega)) (by rfl) (by rfl) (fun A33 hA33 eA33 fA33 gA33 => ?_)
            refine hxa_aload_n (by rfl) rfl ?_
            refine hxa_get (v := .ref 405) (by rfl) (by rfl) (by rfl) rfl ?_
            refine hxa_iconst (by rfl) rfl ?_
            refine hxa_iload_n (by rfl) rfl ?_
            refine hxj_iast (by rfl) (by rfl) hk_1 (by omega) (by omega) hA33 (hbok (by rfl) rfl (by omega) (by omega)) (by rfl) (by rfl) (fun A34 hA34 eA34 fA34 gA34 => ?_)
            refine hxa_iload_n (by rfl) rfl ?_
            refine hxa_aload_n (by rfl) rfl ?_
            refine hxa_get (v := .ref 404) (by rfl) (by rfl) (by rfl) rfl ?_
            refine hxa_iload_n (by rfl) rfl ?_
            refine hxj_iald (by rfl) (by rfl) rfl (by omega) (by omega) (fun z35 ez35 => ?_)
            refine hxa_iconst (by rfl) rfl ?_
            refine hxj_ixorU (by rfl) (fun z36 => ?_)
            refine hxj_iandU (by rfl) (fun z37 => ?_)
            refine hxa_aload_n (by rfl) rfl ?_
            refine hxa_get (v := .ref 404) (by rfl) (by rfl) (by rfl) rfl ?_
            refine hxa_iload_n (by rfl) rfl ?_
            refine hxj_iald (by rfl) (by rfl) rfl (by omega) (by omega) (fun z38 ez38 => ?_)
            refine hxa_iconst (by rfl) rfl ?_
            refine hxj_ixorU (by rfl) (fun z39 => ?_)
            refine hxj_iandU (by rfl) (fun z40 => ?_)
            refine hxj_zne (by rfl) rfl (fun q41 => ?_) (fun q41 => ?_)
            ·
              refine hxj_iinc (by rfl) rfl rfl hk_1 (by omega) (by omega) (fun _ => rfl) (fun z42 ez42 => ?_)
              refine hxa_goto (by rfl) ?_
              exact ih54 z42 A34 hA34 (by omega) (by omega) (by omega) (by omega)
            ·
              refine hxa_iconst (by rfl) rfl ?_
              exact hxa_ireturn (by rfl) rfl (hP _ _ ⟨hA34, _, rfl, by omega⟩)
      refine hxa_iload_n (by rfl) rfl ?_
      refine hxa_bipush (by rfl) rfl ?_
      refine hxj_cge (by rfl) rfl hk_24 (fun q43 => ?_) (fun q43 => ?_)
      ·
        refine hxa_iconst (by rfl) rfl ?_
        refine hxa_s1 (by rfl) (Or.inl ⟨_, rfl, rfl⟩) rfl ?_
        exact L112 (Int.toNat (13824 - 0) + 1) (Int32.ofNat 0) (x44_3) Ac44 hAc44 (by omega) (by omega) (by omega)
      ·
        refine hxa_iload_n (by rfl) rfl ?_
        refine hxa_iconst (by rfl) rfl ?_
        refine hxj_iadd (by rfl) rfl hk_1 (by omega) (by omega) (fun z44 ez44 => ?_)
        refine hxa_s1 (by rfl) (Or.inl ⟨_, rfl, rfl⟩) rfl ?_
        exact L54 (Int.toNat (24 - z44.toInt) + 1) z44 Ac44 hAc44 (by omega) (by omega) (by omega) (by omega)
  have L8 : ∀ (m8 : Nat) (x8_2 : Int32) (Ac8 : hs_A) (hAc8 : hJ 0 Bn Br A0 Ac8) (bx8_2 : 0 ≤ x8_2.toInt) (cx8_2 : x8_2.toInt ≤ 24) (hm8 : 24 - x8_2.toInt < (m8 : Int)), hxa (d + 0) (some (.int)) hm_t215 8 [.ref 368, .int a1, .int x8_2, .retAddr 0] [] Ac8 P := by
    intro m8
    induction m8 with
    | zero => intro x8_2 Ac8 hAc8 bx8_2 cx8_2 hm8;  exact False.elim (by omega)
    | succ m8 ih8 =>
      intro x8_2 Ac8 hAc8 bx8_2 cx8_2 hm8
      refine hxa_iload_n (by rfl) rfl ?_
      refine hxa_bipush (by rfl) rfl ?_
      refine hxj_cge (by rfl) rfl hk_24 (fun q45 => ?_) (fun q45 => ?_)
      ·
        refine hxa_iconst (by rfl) rfl ?_
        refine hxa_s1 (by rfl) (Or.inl ⟨_, rfl, rfl⟩) rfl ?_
        exact L44 (Int.toNat (24 - 0) + 1) (Int32.ofNat 0) (.retAddr 0) Ac8 hAc8 (by omega) (by omega) (by omega)
      ·
        refine hxa_aload_n (by rfl) rfl ?_
        refine hxa_get (v := .ref 405) (by rfl) (by rfl) (by rfl) rfl ?_
        refine hxa_iconst (by rfl) rfl ?_
        refine hxa_iload_n (by rfl) rfl ?_
        refine hxj_iast (by rfl) (by rfl) hk_0 (by omega) (by omega) hAc8 (hbok (by rfl) rfl (by omega) (by omega)) (by rfl) (by rfl) (fun A46 hA46 eA46 fA46 gA46 => ?_)
        refine hxa_iload_n (by rfl) rfl ?_
        refine hxa_aload_n (by rfl) rfl ?_
        refine hxa_get (v := .ref 404) (by rfl) (by rfl) (by rfl) rfl ?_
        refine hxa_iload_n (by rfl) rfl ?_
        refine hxj_iald (by rfl) (by rfl) rfl (by omega) (by omega) (fun z47 ez47 => ?_)
        refine hxa_iconst (by rfl) rfl ?_
        refine hxj_ixorU (by rfl) (fun z48 => ?_)
        refine hxj_iandU (by rfl) (fun z49 => ?_)
        refine hxj_zne (by rfl) rfl (fun q50 => ?_) (fun q50 => ?_)
        ·
          refine hxj_iinc (by rfl) rfl rfl hk_1 (by omega) (by omega) (fun _ => rfl) (fun z51 ez51 => ?_)
          refine hxa_goto (by rfl) ?_
          exact ih8 z51 A46 hA46 (by omega) (by omega) (by omega)
        ·
          refine hxa_iconst (by rfl) rfl ?_
          exact hxa_ireturn (by rfl) rfl (hP _ _ ⟨hA46, _, rfl, by omega⟩)
  refine hxa_iload_n (by rfl) rfl ?_
  refine hxj_zne (by rfl) rfl (fun q52 => ?_) (fun q52 => ?_)
  ·
    refine hxa_iconst (by rfl) rfl ?_
    refine hxa_s1 (by rfl) (Or.inl ⟨_, rfl, rfl⟩) rfl ?_
    exact L8 (Int.toNat (24 - 0) + 1) (Int32.ofNat 0) A hA (by omega) (by omega) (by omega)
  ·
    refine hxa_iconst (by rfl) rfl ?_
    exact hxa_ireturn (by rfl) rfl (hP _ _ ⟨hA, _, rfl, by omega⟩)
theorem hX215 {d : Nat} {Bn Br : Int} {A0 A : hs_A} (hA : hJ 0 Bn Br A0 A)  (a1 : Int32) : hxC (d + 1) 215 hm_m215 [.ref 368, .int a1] A (fun r A' => hJ 0 Bn Br A0 A' ∧ ∃ z : Int32, r = some (.int z) ∧ ((0 ≤ z.toInt ∧ z.toInt ≤ 4))) := hxC.of (by rfl) (hY215 hA a1 (fun r A' h => h))
theorem hY216 {d : Nat} {N : Int} {A0 A : hs_A} (hA : hJ 0 N (N + 72) A0 A) (hN : N ≤ 900000) (a1 : Int32) (a2 : Int32) {P : Option Value → hs_A → Prop} (hP : ∀ (r : Option Value) (A' : hs_A), (hJ 0 (N + 72) (N + 144) A0 A' ∧ ∃ z : Int32, r = some (.int z)) → P r A') : hxa (d + 6) (some (.int)) hm_t216 0 [.ref 368, .int a1, .int a2, .retAddr 0] [] A P := by
  have k2 := hk_2
  have k4294967294 := hk_4294967294
  have k4294967295 := hk_4294967295
  refine hxa_aload_n (by rfl) rfl ?_
  refine hxa_iload_n (by rfl) rfl ?_
  refine hxa_call0 (by rfl) (by rfl) (by rfl) (by rfl) (by rfl) (by rfl) (hX167 (d := d + 4) hA a1) ?_
  rintro _ _ ⟨rfl, z1, rfl, fz1⟩
  rcases fz1 with fz1 | fz1
  ·
    refine hxj_zeq (by rfl) rfl (fun q2 => False.elim (by omega)) (fun q2 => ?_)
    refine hxa_iload_n (by rfl) rfl ?_
    refine hxa_iconst (by rfl) rfl ?_
    refine hxa_iconst (by rfl) rfl ?_
    refine hxa_call2 (by rfl) (by decide) (by rfl) (by rfl) (by rfl) (hX164 (d := d + 5)  a2 (Int32.ofNat 4294967295) (Int32.ofNat 2)) ?_
    rintro _ _ ⟨rfl, z3, rfl, fz3⟩
    rcases fz3 with fz3 | fz3
    ·
      refine hxj_zne (by rfl) rfl (fun q4 => ?_) (fun q4 => False.elim (by omega))
      refine hxa_aload_n (by rfl) rfl ?_
      refine hxa_call0 (by rfl) (by rfl) (by rfl) (by rfl) (by rfl) (by rfl) (hX171 (d := d + 5) hA ) ?_
      rintro _ A5 ⟨hA5, rfl⟩
      refine hxa_aload_n (by rfl) rfl ?_
      refine hxa_iload_n (by rfl) rfl ?_
      refine hxa_call0 (by rfl) (by rfl) (by rfl) (by rfl) (by rfl) (by rfl) (hX214 (d := d + 0) hA5 a1 (by omega) (by omega)) ?_
      rintro _ A6 ⟨hA6, rfl⟩
      refine hxa_aload_n (by rfl) rfl ?_
      refine hxa_aload_n (by rfl) rfl ?_
      refine hxa_get (v := .ref 397) (by rfl) (by rfl) (by rfl) rfl ?_
      refine hxa_iload_n (by rfl) rfl ?_
      refine hxj_iald396 (by rfl) rfl (by omega) (by omega) hA6 (fun z7 ez7 fz7 => ?_)
      refine hxa_aload_n (by rfl) rfl ?_
      refine hxa_get (v := .ref 397) (by rfl) (by rfl) (by rfl) rfl ?_
      refine hxa_bipush (by rfl) rfl ?_
      refine hxa_iload_n (by rfl) rfl ?_
      refine hxj_iadd (by rfl) hk_40 rfl (by omega) (by omega) (fun z8 ez8 => ?_)
      refine hxj_iald396 (by rfl) rfl (by omega) (by omega) hA6 (fun z9 ez9 fz9 => ?_)
      refine hxa_iconst (by rfl) rfl ?_
      refine hxj_ixorU (by rfl) (fun z10 => ?_)
      refine hxj_iandU (by rfl) (fun z11 => ?_)
      refine hxa_call0 (by rfl) (by rfl) (by rfl) (by rfl) (by rfl) (by rfl) (hX215 (d := d + 5) hA6 z11) ?_
      rintro _ A12 ⟨hA12, z13, rfl, fz13⟩
      refine hxa_s1 (by rfl) (Or.inl ⟨_, rfl, rfl⟩) rfl ?_
      refine hxa_iload_n (by rfl) rfl ?_
      refine hxa_iconst (by rfl) rfl ?_
      refine hxj_cne (by rfl) rfl hk_4 (fun q14 => ?_) (fun q14 => ?_)
      ·
        refine hxa_iload_n (by rfl) rfl ?_
        refine hxa_iconst (by rfl) rfl ?_
        refine hxj_cne (by rfl) rfl hk_4294967295 (fun q15 => ?_) (fun q15 => ?_)
        ·
          refine hxa_iload_n (by rfl) rfl ?_
          refine hxa_iload_n (by rfl) rfl ?_
          refine hxj_cge (by rfl) rfl rfl (fun q16 => ?_) (fun q16 => ?_)
          ·
            refine hxa_iconst (by rfl) rfl ?_
            exact hxa_ireturn (by rfl) rfl (hP _ _ ⟨(hJ.mono hA12 (by omega) (by omega)), _, rfl⟩)
          ·
            refine hxa_aload_n (by rfl) rfl ?_
            refine hxa_get (v := .ref 405) (by rfl) (by rfl) (by rfl) rfl ?_
            refine hxa_iload_n (by rfl) rfl ?_
            refine hxj_ialdB (by rfl) (by rfl) rfl (by omega) (by omega) hA12 (by rfl) (fun z17 ez17 fz17 gz17 => ?_)
            refine hxa_goto (by rfl) ?_
            exact hxa_ireturn (by rfl) rfl (hP _ _ ⟨(hJ.mono hA12 (by omega) (by omega)), _, rfl⟩)
        ·
          refine hxa_iload_n (by rfl) rfl ?_
          exact hxa_ireturn (by rfl) rfl (hP _ _ ⟨(hJ.mono hA12 (by omega) (by omega)), _, rfl⟩)
      ·
        refine hxa_bipush (by rfl) rfl ?_
        exact hxa_ireturn (by rfl) rfl (hP _ _ ⟨(hJ.mono hA12 (by omega) (by omega)), _, rfl⟩)
    ·
      refine hxj_zne (by rfl) rfl (fun q18 => False.elim (by omega)) (fun q18 => ?_)
      refine hxa_iconst (by rfl) rfl ?_
      exact hxa_ireturn (by rfl) rfl (hP _ _ ⟨(hJ.mono hA (by omega) (by omega)), _, rfl⟩)
  ·
    refine hxj_zeq (by rfl) rfl (fun q19 => ?_) (fun q19 => False.elim (by omega))
    refine hxa_iconst (by rfl) rfl ?_
    exact hxa_ireturn (by rfl) rfl (hP _ _ ⟨(hJ.mono hA (by omega) (by omega)), _, rfl⟩)
theorem hX216 {d : Nat} {N : Int} {A0 A : hs_A} (hA : hJ 0 N (N + 72) A0 A) (hN : N ≤ 900000) (a1 : Int32) (a2 : Int32) : hxC (d + 7) 216 hm_m216 [.ref 368, .int a1, .int a2] A (fun r A' => hJ 0 (N + 72) (N + 144) A0 A' ∧ ∃ z : Int32, r = some (.int z)) := hxC.of (by rfl) (hY216 hA hN a1 a2 (fun r A' h => h))
theorem hY217 {d : Nat} {N : Int} {A0 A : hs_A} (hA : hJ 0 N (N + 72) A0 A) (hN : N ≤ 900000) (a1 : Int32) (a2 : Int32) {P : Option Value → hs_A → Prop} (hP : ∀ (r : Option Value) (A' : hs_A), (hJ 0 (N + 72) (N + 144) A0 A' ∧ ∃ z : Int32, r = some (.int z)) → P r A') : hxa (d + 6) (some (.int)) hm_t217 0 [.ref 368, .int a1, .int a2, .retAddr 0, .retAddr 0] [] A P := by
  have k0 := hk_0
  have k1 := hk_1
  have k4294967295 := hk_4294967295
  have L33 : ∀ (m33 : Nat) (x33_3 : Int32) (x33_4 : Int32) (Ac33 : hs_A) (hAc33 : hJ 0 N N A0 Ac33) (bx33_3 : 0 ≤ x33_3.toInt) (cx33_3 : x33_3.toInt ≤ 23) (bx33_4 : 1 ≤ x33_4.toInt) (cx33_4 : x33_4.toInt ≤ 24) (ba1 : 0 ≤ a1.toInt) (ca1 : a1.toInt ≤ 9) (ba2 : 0 ≤ a2.toInt) (ca2 : a2.toInt ≤ 1) (hm33 : 24 - x33_4.toInt < (m33 : Int)), hxa (d + 6) (some (.int)) hm_t217 33 [.ref 368, .int a1, .int a2, .int x33_3, .int x33_4] [] Ac33 P := by
    intro m33
    induction m33 with
    | zero => intro x33_3 x33_4 Ac33 hAc33 bx33_3 cx33_3 bx33_4 cx33_4 ba1 ca1 ba2 ca2 hm33;  exact False.elim (by omega)
    | succ m33 ih33 =>
      intro x33_3 x33_4 Ac33 hAc33 bx33_3 cx33_3 bx33_4 cx33_4 ba1 ca1 ba2 ca2 hm33
      refine hxa_iload (by rfl) rfl ?_
      refine hxa_bipush (by rfl) rfl ?_
      refine hxj_cge (by rfl) rfl hk_24 (fun q1 => ?_) (fun q1 => ?_)
      ·
        refine hxa_iload_n (by rfl) rfl ?_
        refine hxj_zne (by rfl) rfl (fun q2 => ?_) (fun q2 => ?_)
        ·
          refine hxa_aload_n (by rfl) rfl ?_
          refine hxa_get (v := .ref 404) (by rfl) (by rfl) (by rfl) rfl ?_
          refine hxa_iload_n (by rfl) rfl ?_
          refine hxj_iald (by rfl) (by rfl) rfl (by omega) (by omega) (fun z3 ez3 => ?_)
          refine hxa_aload_n (by rfl) rfl ?_
          refine hxa_get (v := .ref 397) (by rfl) (by rfl) (by rfl) rfl ?_
          refine hxa_iload_n (by rfl) rfl ?_
          refine hxj_iald396 (by rfl) rfl (by omega) (by omega) hAc33 (fun z4 ez4 fz4 => ?_)
          refine hxj_iandU (by rfl) (fun z5 => ?_)
          refine hxa_call2 (by rfl) (by decide) (by rfl) (by rfl) (by rfl) (hX166 (d := d + 5)  z5) ?_
          rintro _ _ ⟨rfl, z6, rfl⟩
          exact hxa_ireturn (by rfl) rfl (hP _ _ ⟨(hJ.mono hAc33 (by omega) (by omega)), _, rfl⟩)
        ·
          refine hxa_iload_n (by rfl) rfl ?_
          refine hxa_goto (by rfl) ?_
          exact hxa_ireturn (by rfl) rfl (hP _ _ ⟨(hJ.mono hAc33 (by omega) (by omega)), _, rfl⟩)
      ·
        refine hxa_aload_n (by rfl) rfl ?_
        refine hxa_get (v := .ref 404) (by rfl) (by rfl) (by rfl) rfl ?_
        refine hxa_iload (by rfl) rfl ?_
        refine hxj_iald (by rfl) (by rfl) rfl (by omega) (by omega) (fun z7 ez7 => ?_)
        refine hxa_aload_n (by rfl) rfl ?_
        refine hxa_get (v := .ref 397) (by rfl) (by rfl) (by rfl) rfl ?_
        refine hxa_iload_n (by rfl) rfl ?_
        refine hxj_iald396 (by rfl) rfl (by omega) (by omega) hAc33 (fun z8 ez8 fz8 => ?_)
        refine hxj_iandU (by rfl) (fun z9 => ?_)
        refine hxa_call2 (by rfl) (by decide) (by rfl) (by rfl) (by rfl) (hX166 (d := d + 5)  z9) ?_
        rintro _ _ ⟨rfl, z10, rfl⟩
        refine hxa_aload_n (by rfl) rfl ?_
        refine hxa_get (v := .ref 404) (by rfl) (by rfl) (by rfl) rfl ?_
        refine hxa_iload_n (by rfl) rfl ?_
        refine hxj_iald (by rfl) (by rfl) rfl (by omega) (by omega) (fun z11 ez11 => ?_)
        refine hxa_aload_n (by rfl) rfl ?_
        refine hxa_get (v := .ref 397) (by rfl) (by rfl) (by rfl) rfl ?_
        refine hxa_iload_n (by rfl) rfl ?_
        refine hxj_iald396 (by rfl) rfl (by omega) (by omega) hAc33 (fun z12 ez12 fz12 => ?_)
        refine hxj_iandU (by rfl) (fun z13 => ?_)
        refine hxa_call2 (by rfl) (by decide) (by rfl) (by rfl) (by rfl) (hX166 (d := d + 5)  z13) ?_
        rintro _ _ ⟨rfl, z14, rfl⟩
        have rgz10 := hn_rng z10
        have rgz14 := hn_rng z14
        refine hxj_cle (by rfl) rfl rfl (fun q15 => ?_) (fun q15 => ?_)
        ·
          refine hxj_iinc (by rfl) rfl rfl hk_1 (by omega) (by omega) (fun _ => rfl) (fun z16 ez16 => ?_)
          refine hxa_goto (by rfl) ?_
          exact ih33 x33_3 z16 Ac33 hAc33 (by omega) (by omega) (by omega) (by omega) (by omega) (by omega) (by omega) (by omega) (by omega)
        ·
          refine hxa_iload (by rfl) rfl ?_
          refine hxa_s1 (by rfl) (Or.inl ⟨_, rfl, rfl⟩) rfl ?_
          refine hxj_iinc (by rfl) rfl rfl hk_1 (by omega) (by omega) (fun _ => rfl) (fun z17 ez17 => ?_)
          refine hxa_goto (by rfl) ?_
          exact ih33 x33_4 z17 Ac33 hAc33 (by omega) (by omega) (by omega) (by omega) (by omega) (by omega) (by omega) (by omega) (by omega)
  refine hxa_aload_n (by rfl) rfl ?_
  refine hxa_iload_n (by rfl) rfl ?_
  refine hxa_call0 (by rfl) (by rfl) (by rfl) (by rfl) (by rfl) (by rfl) (hX167 (d := d + 4) hA a1) ?_
  rintro _ _ ⟨rfl, z18, rfl, fz18⟩
  rcases fz18 with fz18 | fz18
  ·
    refine hxj_zeq (by rfl) rfl (fun q19 => False.elim (by omega)) (fun q19 => ?_)
    refine hxa_iload_n (by rfl) rfl ?_
    refine hxa_iconst (by rfl) rfl ?_
    refine hxa_iconst (by rfl) rfl ?_
    refine hxa_call2 (by rfl) (by decide) (by rfl) (by rfl) (by rfl) (hX164 (d := d + 5)  a2 (Int32.ofNat 0) (Int32.ofNat 1)) ?_
    rintro _ _ ⟨rfl, z20, rfl, fz20⟩
    rcases fz20 with fz20 | fz20
    ·
      refine hxj_zne (by rfl) rfl (fun q21 => ?_) (fun q21 => False.elim (by omega))
      refine hxa_aload_n (by rfl) rfl ?_
      refine hxa_call0 (by rfl) (by rfl) (by rfl) (by rfl) (by rfl) (by rfl) (hX171 (d := d + 5) hA ) ?_
      rintro _ A22 ⟨hA22, rfl⟩
      refine hxa_aload_n (by rfl) rfl ?_
      refine hxa_iload_n (by rfl) rfl ?_
      refine hxa_call0 (by rfl) (by rfl) (by rfl) (by rfl) (by rfl) (by rfl) (hX214 (d := d + 0) hA22 a1 (by omega) (by omega)) ?_
      rintro _ A23 ⟨hA23, rfl⟩
      refine hxa_iconst (by rfl) rfl ?_
      refine hxa_s1 (by rfl) (Or.inl ⟨_, rfl, rfl⟩) rfl ?_
      refine hxa_iconst (by rfl) rfl ?_
      refine hxa_s1 (by rfl) (Or.inr ⟨_, rfl, rfl⟩) rfl ?_
      exact L33 (Int.toNat (24 - 1) + 1) (Int32.ofNat 0) (Int32.ofNat 1) A23 hA23 (by omega) (by omega) (by omega) (by omega) (by omega) (by omega) (by omega) (by omega) (by omega)
    ·
      refine hxj_zne (by rfl) rfl (fun q24 => False.elim (by omega)) (fun q24 => ?_)
      refine hxa_iconst (by rfl) rfl ?_
      exact hxa_ireturn (by rfl) rfl (hP _ _ ⟨(hJ.mono hA (by omega) (by omega)), _, rfl⟩)
  ·
    refine hxj_zeq (by rfl) rfl (fun q25 => ?_) (fun q25 => False.elim (by omega))
    refine hxa_iconst (by rfl) rfl ?_
    exact hxa_ireturn (by rfl) rfl (hP _ _ ⟨(hJ.mono hA (by omega) (by omega)), _, rfl⟩)
theorem hX217 {d : Nat} {N : Int} {A0 A : hs_A} (hA : hJ 0 N (N + 72) A0 A) (hN : N ≤ 900000) (a1 : Int32) (a2 : Int32) : hxC (d + 7) 217 hm_m217 [.ref 368, .int a1, .int a2] A (fun r A' => hJ 0 (N + 72) (N + 144) A0 A' ∧ ∃ z : Int32, r = some (.int z)) := hxC.of (by rfl) (hY217 hA hN a1 a2 (fun r A' h => h))
theorem hY218 {d : Nat} {N : Int} {A0 A : hs_A} (hA : hJ 0 N (N + 72) A0 A) (hN : N ≤ 900000) (a1 : Int32) {P : Option Value → hs_A → Prop} (hP : ∀ (r : Option Value) (A' : hs_A), (hJ 0 (N + 72) (N + 144) A0 A' ∧ ∃ z : Int32, r = some (.int z)) → P r A') : hxa (d + 2) (some (.int)) hm_t218 0 [.ref 368, .int a1] [] A P := by
  have k4294967295 := hk_4294967295
  refine hxa_aload_n (by rfl) rfl ?_
  refine hxa_iload_n (by rfl) rfl ?_
  refine hxa_call0 (by rfl) (by rfl) (by rfl) (by rfl) (by rfl) (by rfl) (hX167 (d := d + 0) hA a1) ?_
  rintro _ _ ⟨rfl, z1, rfl, fz1⟩
  rcases fz1 with fz1 | fz1
  ·
    refine hxj_zne (by rfl) rfl (fun q2 => ?_) (fun q2 => False.elim (by omega))
    refine hxa_aload_n (by rfl) rfl ?_
    refine hxa_call0 (by rfl) (by rfl) (by rfl) (by rfl) (by rfl) (by rfl) (hX171 (d := d + 1) hA ) ?_
    rintro _ A3 ⟨hA3, rfl⟩
    refine hxa_aload_n (by rfl) rfl ?_
    refine hxa_iload_n (by rfl) rfl ?_
    refine hxa_call0 (by rfl) (by rfl) (by rfl) (by rfl) (by rfl) (by rfl) (hX200 (d := d + 0) hA3 a1 (by omega)) ?_
    rintro _ _ ⟨rfl, z4, rfl⟩
    exact hxa_ireturn (by rfl) rfl (hP _ _ ⟨(hJ.mono hA3 (by omega) (by omega)), _, rfl⟩)
  ·
    refine hxj_zne (by rfl) rfl (fun q5 => False.elim (by omega)) (fun q5 => ?_)
    refine hxa_iconst (by rfl) rfl ?_
    exact hxa_ireturn (by rfl) rfl (hP _ _ ⟨(hJ.mono hA (by omega) (by omega)), _, rfl⟩)
theorem hX218 {d : Nat} {N : Int} {A0 A : hs_A} (hA : hJ 0 N (N + 72) A0 A) (hN : N ≤ 900000) (a1 : Int32) : hxC (d + 3) 218 hm_m218 [.ref 368, .int a1] A (fun r A' => hJ 0 (N + 72) (N + 144) A0 A' ∧ ∃ z : Int32, r = some (.int z)) := hxC.of (by rfl) (hY218 hA hN a1 (fun r A' h => h))
theorem hY219 {d : Nat} {N : Int} {A0 A : hs_A} (hA : hJ 0 N (N + 72) A0 A) (hN : N ≤ 900000) (a1 : Int32) (a2 : Int32) {P : Option Value → hs_A → Prop} (hP : ∀ (r : Option Value) (A' : hs_A), (hJ 0 (N + 72) (N + 144) A0 A' ∧ ∃ z : Int32, r = some (.int z)) → P r A') : hxa (d + 5) (some (.int)) hm_t219 0 [.ref 368, .int a1, .int a2, .retAddr 0, .retAddr 0] [] A P := by
  have k0 := hk_0
  have k1 := hk_1
  have k4294967294 := hk_4294967294
  have k4294967295 := hk_4294967295
  have L126 : ∀ (m126 : Nat) (x126_3 : Int32) (x126_4 : Int32) (Ac126 : hs_A) (hAc126 : hJ 0 N (N + 72) A0 Ac126) (bx126_3 : 0 ≤ x126_3.toInt) (cx126_3 : x126_3.toInt ≤ 9) (bx126_4 : 1 ≤ x126_4.toInt) (cx126_4 : x126_4.toInt ≤ 10) (ba1 : 1 ≤ a1.toInt) (ca1 : a1.toInt ≤ 72) (ba2 : 0 ≤ a2.toInt) (ca2 : a2.toInt ≤ 1) (hm126 : 10 - x126_4.toInt < (m126 : Int)), hxa (d + 5) (some (.int)) hm_t219 126 [.ref 368, .int a1, .int a2, .int x126_3, .int x126_4] [] Ac126 P := by
    intro m126
    induction m126 with
    | zero => intro x126_3 x126_4 Ac126 hAc126 bx126_3 cx126_3 bx126_4 cx126_4 ba1 ca1 ba2 ca2 hm126;  exact False.elim (by omega)
    | succ m126 ih126 =>
      intro x126_3 x126_4 Ac126 hAc126 bx126_3 cx126_3 bx126_4 cx126_4 ba1 ca1 ba2 ca2 hm126
      refine hxa_iload (by rfl) rfl ?_
      refine hxa_aload_n (by rfl) rfl ?_
      refine hxa_get (v := .ref 377) (by rfl) (by rfl) (by rfl) rfl ?_
      refine hxa_aload_n (by rfl) rfl ?_
      refine hxj_getB (by rfl) (by rfl) (by rfl) hAc126 (by rfl) (fun z1 ez1 fz1 gz1 => ?_)
      refine hxj_ialdB (by rfl) (by rfl) rfl (by omega) (by omega) hAc126 (by rfl) (fun z2 ez2 fz2 gz2 => ?_)
      refine hxj_cge (by rfl) rfl rfl (fun q3 => ?_) (fun q3 => ?_)
      ·
        refine hxa_iload_n (by rfl) rfl ?_
        refine hxj_zne (by rfl) rfl (fun q4 => ?_) (fun q4 => ?_)
        ·
          refine hxa_aload_n (by rfl) rfl ?_
          refine hxa_get (v := .ref 406) (by rfl) (by rfl) (by rfl) rfl ?_
          refine hxa_iload_n (by rfl) rfl ?_
          refine hxj_iald (by rfl) (by rfl) rfl (by omega) (by omega) (fun z5 ez5 => ?_)
          exact hxa_ireturn (by rfl) rfl (hP _ _ ⟨(hJ.mono hAc126 (by omega) (by omega)), _, rfl⟩)
        ·
          refine hxa_iload_n (by rfl) rfl ?_
          refine hxa_goto (by rfl) ?_
          exact hxa_ireturn (by rfl) rfl (hP _ _ ⟨(hJ.mono hAc126 (by omega) (by omega)), _, rfl⟩)
      ·
        refine hxa_aload_n (by rfl) rfl ?_
        refine hxa_get (v := .ref 406) (by rfl) (by rfl) (by rfl) rfl ?_
        refine hxa_iload (by rfl) rfl ?_
        refine hxj_iald (by rfl) (by rfl) rfl (by omega) (by omega) (fun z6 ez6 => ?_)
        refine hxa_aload_n (by rfl) rfl ?_
        refine hxa_get (v := .ref 406) (by rfl) (by rfl) (by rfl) rfl ?_
        refine hxa_iload_n (by rfl) rfl ?_
        refine hxj_iald (by rfl) (by rfl) rfl (by omega) (by omega) (fun z7 ez7 => ?_)
        have rgz6 := hn_rng z6
        have rgz7 := hn_rng z7
        refine hxj_cle (by rfl) rfl rfl (fun q8 => ?_) (fun q8 => ?_)
        ·
          refine hxj_iinc (by rfl) rfl rfl hk_1 (by omega) (by omega) (fun _ => rfl) (fun z9 ez9 => ?_)
          refine hxa_goto (by rfl) ?_
          exact ih126 x126_3 z9 Ac126 hAc126 (by omega) (by omega) (by omega) (by omega) (by omega) (by omega) (by omega) (by omega) (by omega)
        ·
          refine hxa_iload (by rfl) rfl ?_
          refine hxa_s1 (by rfl) (Or.inl ⟨_, rfl, rfl⟩) rfl ?_
          refine hxj_iinc (by rfl) rfl rfl hk_1 (by omega) (by omega) (fun _ => rfl) (fun z10 ez10 => ?_)
          refine hxa_goto (by rfl) ?_
          exact ih126 x126_4 z10 Ac126 hAc126 (by omega) (by omega) (by omega) (by omega) (by omega) (by omega) (by omega) (by omega) (by omega)
  have L60 : ∀ (m60 : Nat) (x60_3 : Int32) (x60_4 : Value) (Ac60 : hs_A) (hAc60 : hJ 0 N (N + x60_3.toInt) A0 Ac60) (bx60_3 : 0 ≤ x60_3.toInt) (cx60_3 : x60_3.toInt ≤ 72) (ba1 : 1 ≤ a1.toInt) (ca1 : a1.toInt ≤ 72) (ba2 : 0 ≤ a2.toInt) (ca2 : a2.toInt ≤ 1) (hm60 : 72 - x60_3.toInt < (m60 : Int)), hxa (d + 5) (some (.int)) hm_t219 60 [.ref 368, .int a1, .int a2, .int x60_3, x60_4] [] Ac60 P := by
    intro m60
    induction m60 with
    | zero => intro x60_3 x60_4 Ac60 hAc60 bx60_3 cx60_3 ba1 ca1 ba2 ca2 hm60;  exact False.elim (by omega)
    | succ m60 ih60 =>
      intro x60_3 x60_4 Ac60 hAc60 bx60_3 cx60_3 ba1 ca1 ba2 ca2 hm60
      have L72 : ∀ (m72 : Nat) (x72_4 : Int32) (Ac72 : hs_A) (hAc72 : hJ 0 N ((N + x60_3.toInt) + 1) A0 Ac72) (bx72_4 : 0 ≤ x72_4.toInt) (cx72_4 : x72_4.toInt ≤ 10) (cx60_3 : x60_3.toInt ≤ 71) (hm72 : 10 - x72_4.toInt < (m72 : Int)), hxa (d + 5) (some (.int)) hm_t219 72 [.ref 368, .int a1, .int a2, .int x60_3, .int x72_4] [] Ac72 P := by
        intro m72
        induction m72 with
        | zero => intro x72_4 Ac72 hAc72 bx72_4 cx72_4 cx60_3 hm72;  exact False.elim (by omega)
        | succ m72 ih72 =>
          intro x72_4 Ac72 hAc72 bx72_4 cx72_4 cx60_3 hm72
          refine hxa_iload (by rfl) rfl ?_
          refine hxa_aload_n (by rfl) rfl ?_
          refine hxa_get (v := .ref 377) (by rfl) (by rfl) (by rfl) rfl ?_
          refine hxa_aload_n (by rfl) rfl ?_
          refine hxj_getB (by rfl) (by rfl) (by rfl) hAc72 (by rfl) (fun z11 ez11 fz11 gz11 => ?_)
          refine hxj_ialdB (by rfl) (by rfl) rfl (by omega) (by omega) hAc72 (by rfl) (fun z12 ez12 fz12 gz12 => ?_)
          refine hxj_cge (by rfl) rfl rfl (fun q13 => ?_) (fun q13 => ?_)
          ·
            refine hxj_iinc (by rfl) rfl rfl hk_1 (by omega) (by omega) (fun _ => rfl) (fun z14 ez14 => ?_)
            refine hxa_goto (by rfl) ?_
            exact ih60 z14 (.int x72_4) Ac72 (hJ.mono hAc72 (by omega) (by omega)) (by omega) (by omega) (by omega) (by omega) (by omega) (by omega) (by omega)
          ·
            refine hxa_aload_n (by rfl) rfl ?_
            refine hxa_get (v := .ref 406) (by rfl) (by rfl) (by rfl) rfl ?_
            refine hxa_iload (by rfl) rfl ?_
            refine hxa_dup2IR (by rfl) ?_
            refine hxj_iald (by rfl) (by rfl) rfl (by omega) (by omega) (fun z15 ez15 => ?_)
            refine hxa_aload_n (by rfl) rfl ?_
            refine hxa_get (v := .ref 397) (by rfl) (by rfl) (by rfl) rfl ?_
            refine hxa_bipush (by rfl) rfl ?_
            refine hxa_iload (by rfl) rfl ?_
            refine hxj_iadd (by rfl) hk_30 rfl (by omega) (by omega) (fun z16 ez16 => ?_)
            refine hxj_iald396 (by rfl) rfl (by omega) (by omega) hAc72 (fun z17 ez17 fz17 => ?_)
            refine hxa_call2 (by rfl) (by decide) (by rfl) (by rfl) (by rfl) (hX166 (d := d + 4)  z17) ?_
            rintro _ _ ⟨rfl, z18, rfl⟩
            refine hxj_iaddU (by rfl) (fun z19 => ?_)
            refine hxj_iast (by rfl) (by rfl) rfl (by omega) (by omega) hAc72 (hbokN (by rfl)) (by rfl) (by rfl) (fun A20 hA20 eA20 fA20 gA20 => ?_)
            refine hxj_iinc (by rfl) rfl rfl hk_1 (by omega) (by omega) (fun _ => rfl) (fun z21 ez21 => ?_)
            refine hxa_goto (by rfl) ?_
            exact ih72 z21 A20 hA20 (by omega) (by omega) (by omega) (by omega)
      refine hxa_iload_n (by rfl) rfl ?_
      refine hxa_iload_n (by rfl) rfl ?_
      refine hxj_cge (by rfl) rfl rfl (fun q22 => ?_) (fun q22 => ?_)
      ·
        refine hxa_iconst (by rfl) rfl ?_
        refine hxa_s1 (by rfl) (Or.inl ⟨_, rfl, rfl⟩) rfl ?_
        refine hxa_iconst (by rfl) rfl ?_
        refine hxa_s1 (by rfl) (Or.inr ⟨_, rfl, rfl⟩) rfl ?_
        exact L126 (Int.toNat (10 - 1) + 1) (Int32.ofNat 0) (Int32.ofNat 1) Ac60 (hJ.mono hAc60 (by omega) (by omega)) (by omega) (by omega) (by omega) (by omega) (by omega) (by omega) (by omega) (by omega) (by omega)
      ·
        refine hxa_aload_n (by rfl) rfl ?_
        refine hxa_call0 (by rfl) (by rfl) (by rfl) (by rfl) (by rfl) (by rfl) (hX184 (d := d + 0) hAc60 (by omega)) ?_
        rintro _ A23 ⟨hA23, rfl⟩
        refine hxa_iconst (by rfl) rfl ?_
        refine hxa_s1 (by rfl) (Or.inr ⟨_, rfl, rfl⟩) rfl ?_
        exact L72 (Int.toNat (10 - 0) + 1) (Int32.ofNat 0) A23 hA23 (by omega) (by omega) (by omega) (by omega)
  have L39 : ∀ (m39 : Nat) (x39_3 : Int32) (Ac39 : hs_A) (hAc39 : hJ 0 N N A0 Ac39) (bx39_3 : 0 ≤ x39_3.toInt) (cx39_3 : x39_3.toInt ≤ 10) (ba1 : 1 ≤ a1.toInt) (ca1 : a1.toInt ≤ 72) (ba2 : 0 ≤ a2.toInt) (ca2 : a2.toInt ≤ 1) (hm39 : 10 - x39_3.toInt < (m39 : Int)), hxa (d + 5) (some (.int)) hm_t219 39 [.ref 368, .int a1, .int a2, .int x39_3, .retAddr 0] [] Ac39 P := by
    intro m39
    induction m39 with
    | zero => intro x39_3 Ac39 hAc39 bx39_3 cx39_3 ba1 ca1 ba2 ca2 hm39;  exact False.elim (by omega)
    | succ m39 ih39 =>
      intro x39_3 Ac39 hAc39 bx39_3 cx39_3 ba1 ca1 ba2 ca2 hm39
      refine hxa_iload_n (by rfl) rfl ?_
      refine hxa_bipush (by rfl) rfl ?_
      refine hxj_cge (by rfl) rfl hk_10 (fun q24 => ?_) (fun q24 => ?_)
      ·
        refine hxa_iconst (by rfl) rfl ?_
        refine hxa_s1 (by rfl) (Or.inl ⟨_, rfl, rfl⟩) rfl ?_
        exact L60 (Int.toNat (72 - 0) + 1) (Int32.ofNat 0) (.retAddr 0) Ac39 (hJ.mono hAc39 (by omega) (by omega)) (by omega) (by omega) (by omega) (by omega) (by omega) (by omega) (by omega)
      ·
        refine hxa_aload_n (by rfl) rfl ?_
        refine hxa_get (v := .ref 406) (by rfl) (by rfl) (by rfl) rfl ?_
        refine hxa_iload_n (by rfl) rfl ?_
        refine hxa_iconst (by rfl) rfl ?_
        refine hxj_iast (by rfl) (by rfl) rfl (by omega) (by omega) hAc39 (hbokN (by rfl)) (by rfl) (by rfl) (fun A25 hA25 eA25 fA25 gA25 => ?_)
        refine hxj_iinc (by rfl) rfl rfl hk_1 (by omega) (by omega) (fun _ => rfl) (fun z26 ez26 => ?_)
        refine hxa_goto (by rfl) ?_
        exact ih39 z26 A25 hA25 (by omega) (by omega) (by omega) (by omega) (by omega) (by omega) (by omega)
  refine hxa_iload_n (by rfl) rfl ?_
  refine hxa_call2 (by rfl) (by decide) (by rfl) (by rfl) (by rfl) (hX197 (d := d + 3)  a1) ?_
  rintro _ _ ⟨rfl, z27, rfl, fz27⟩
  rcases fz27 with fz27 | fz27
  ·
    refine hxj_zeq (by rfl) rfl (fun q28 => False.elim (by omega)) (fun q28 => ?_)
    refine hxa_iload_n (by rfl) rfl ?_
    refine hxa_iconst (by rfl) rfl ?_
    refine hxa_iconst (by rfl) rfl ?_
    refine hxa_call2 (by rfl) (by decide) (by rfl) (by rfl) (by rfl) (hX164 (d := d + 4)  a2 (Int32.ofNat 0) (Int32.ofNat 1)) ?_
    rintro _ _ ⟨rfl, z29, rfl, fz29⟩
    rcases fz29 with fz29 | fz29
    ·
      refine hxj_zne (by rfl) rfl (fun q30 => ?_) (fun q30 => False.elim (by omega))
      refine hxa_aload_n (by rfl) rfl ?_
      refine hxa_get (v := .ref 377) (by rfl) (by rfl) (by rfl) rfl ?_
      refine hxa_aload_n (by rfl) rfl ?_
      refine hxj_getB (by rfl) (by rfl) (by rfl) hA (by rfl) (fun z31 ez31 fz31 gz31 => ?_)
      refine hxj_ialdB (by rfl) (by rfl) rfl (by omega) (by omega) hA (by rfl) (fun z32 ez32 fz32 gz32 => ?_)
      refine hxj_zne (by rfl) rfl (fun q33 => ?_) (fun q33 => ?_)
      ·
        refine hxa_aload_n (by rfl) rfl ?_
        refine hxa_call0 (by rfl) (by rfl) (by rfl) (by rfl) (by rfl) (by rfl) (hX172 (d := d + 3) hA ) ?_
        rintro _ A34 ⟨hA34, rfl⟩
        refine hxa_iconst (by rfl) rfl ?_
        refine hxa_s1 (by rfl) (Or.inl ⟨_, rfl, rfl⟩) rfl ?_
        exact L39 (Int.toNat (10 - 0) + 1) (Int32.ofNat 0) A34 hA34 (by omega) (by omega) (by omega) (by omega) (by omega) (by omega) (by omega)
      ·
        refine hxa_bipush (by rfl) rfl ?_
        exact hxa_ireturn (by rfl) rfl (hP _ _ ⟨(hJ.mono hA (by omega) (by omega)), _, rfl⟩)
    ·
      refine hxj_zne (by rfl) rfl (fun q35 => False.elim (by omega)) (fun q35 => ?_)
      refine hxa_iconst (by rfl) rfl ?_
      exact hxa_ireturn (by rfl) rfl (hP _ _ ⟨(hJ.mono hA (by omega) (by omega)), _, rfl⟩)
  ·
    refine hxj_zeq (by rfl) rfl (fun q36 => ?_) (fun q36 => False.elim (by omega))
    refine hxa_iconst (by rfl) rfl ?_
    exact hxa_ireturn (by rfl) rfl (hP _ _ ⟨(hJ.mono hA (by omega) (by omega)), _, rfl⟩)
theorem hX219 {d : Nat} {N : Int} {A0 A : hs_A} (hA : hJ 0 N (N + 72) A0 A) (hN : N ≤ 900000) (a1 : Int32) (a2 : Int32) : hxC (d + 6) 219 hm_m219 [.ref 368, .int a1, .int a2] A (fun r A' => hJ 0 (N + 72) (N + 144) A0 A' ∧ ∃ z : Int32, r = some (.int z)) := hxC.of (by rfl) (hY219 hA hN a1 a2 (fun r A' h => h))
theorem hY220 {d : Nat} {N : Int} {A0 A : hs_A} (hA : hJ 0 N (N + 72) A0 A) (hN : N ≤ 900000) (a1 : Int32) {P : Option Value → hs_A → Prop} (hP : ∀ (r : Option Value) (A' : hs_A), (hJ 0 (N + 72) (N + 144) A0 A' ∧ ∃ z : Int32, r = some (.int z)) → P r A') : hxa (d + 6) (some (.int)) hm_t220 0 [.ref 368, .int a1, .retAddr 0, .retAddr 0] [] A P := by
  have k0 := hk_0
  have k4294967295 := hk_4294967295
  have L22 : ∀ (m22 : Nat) (x22_2 : Int32) (x22_3 : Int32) (Ac22 : hs_A) (hAc22 : hJ 0 N (N + 72) A0 Ac22) (bx22_3 : 0 ≤ x22_3.toInt) (cx22_3 : x22_3.toInt ≤ 10) (ba1 : 0 ≤ a1.toInt) (ca1 : a1.toInt ≤ 72) (hm22 : 10 - x22_3.toInt < (m22 : Int)), hxa (d + 6) (some (.int)) hm_t220 22 [.ref 368, .int a1, .int x22_2, .int x22_3] [] Ac22 P := by
    intro m22
    induction m22 with
    | zero => intro x22_2 x22_3 Ac22 hAc22 bx22_3 cx22_3 ba1 ca1 hm22; have := hn_rng x22_2; exact False.elim (by omega)
    | succ m22 ih22 =>
      intro x22_2 x22_3 Ac22 hAc22 bx22_3 cx22_3 ba1 ca1 hm22
      refine hxa_iload_n (by rfl) rfl ?_
      refine hxa_aload_n (by rfl) rfl ?_
      refine hxa_get (v := .ref 377) (by rfl) (by rfl) (by rfl) rfl ?_
      refine hxa_aload_n (by rfl) rfl ?_
      refine hxj_getB (by rfl) (by rfl) (by rfl) hAc22 (by rfl) (fun z1 ez1 fz1 gz1 => ?_)
      refine hxj_ialdB (by rfl) (by rfl) rfl (by omega) (by omega) hAc22 (by rfl) (fun z2 ez2 fz2 gz2 => ?_)
      refine hxj_cge (by rfl) rfl rfl (fun q3 => ?_) (fun q3 => ?_)
      ·
        refine hxa_iload_n (by rfl) rfl ?_
        exact hxa_ireturn (by rfl) rfl (hP _ _ ⟨(hJ.mono hAc22 (by omega) (by omega)), _, rfl⟩)
      ·
        refine hxa_aload_n (by rfl) rfl ?_
        refine hxa_get (v := .ref 397) (by rfl) (by rfl) (by rfl) rfl ?_
        refine hxa_bipush (by rfl) rfl ?_
        refine hxa_iload_n (by rfl) rfl ?_
        refine hxj_iadd (by rfl) hk_30 rfl (by omega) (by omega) (fun z4 ez4 => ?_)
        refine hxj_iald396 (by rfl) rfl (by omega) (by omega) hAc22 (fun z5 ez5 fz5 => ?_)
        refine hxj_zeq (by rfl) rfl (fun q6 => ?_) (fun q6 => ?_)
        ·
          refine hxj_iinc (by rfl) rfl rfl hk_1 (by omega) (by omega) (fun _ => rfl) (fun z7 ez7 => ?_)
          refine hxa_goto (by rfl) ?_
          exact ih22 x22_2 z7 Ac22 hAc22 (by omega) (by omega) (by omega) (by omega) (by omega)
        ·
          refine hxj_iincU (by rfl) rfl (fun _ => rfl) (fun z8 => ?_)
          refine hxj_iinc (by rfl) rfl rfl hk_1 (by omega) (by omega) (fun _ => rfl) (fun z9 ez9 => ?_)
          refine hxa_goto (by rfl) ?_
          exact ih22 z8 z9 Ac22 hAc22 (by omega) (by omega) (by omega) (by omega) (by omega)
  refine hxa_iload_n (by rfl) rfl ?_
  refine hxa_call2 (by rfl) (by decide) (by rfl) (by rfl) (by rfl) (hX196 (d := d + 4)  a1) ?_
  rintro _ _ ⟨rfl, z10, rfl, fz10⟩
  rcases fz10 with fz10 | fz10
  ·
    refine hxj_zne (by rfl) rfl (fun q11 => ?_) (fun q11 => False.elim (by omega))
    refine hxa_aload_n (by rfl) rfl ?_
    refine hxa_call0 (by rfl) (by rfl) (by rfl) (by rfl) (by rfl) (by rfl) (hX172 (d := d + 4) hA ) ?_
    rintro _ A12 ⟨hA12, rfl⟩
    refine hxa_aload_n (by rfl) rfl ?_
    refine hxa_iload_n (by rfl) rfl ?_
    refine hxa_call0 (by rfl) (by rfl) (by rfl) (by rfl) (by rfl) (by rfl) (hX185 (d := d + 0) hA12 (by omega) a1 (by omega) (by omega)) ?_
    rintro _ A13 ⟨hA13, rfl⟩
    refine hxa_iconst (by rfl) rfl ?_
    refine hxa_s1 (by rfl) (Or.inl ⟨_, rfl, rfl⟩) rfl ?_
    refine hxa_iconst (by rfl) rfl ?_
    refine hxa_s1 (by rfl) (Or.inl ⟨_, rfl, rfl⟩) rfl ?_
    exact L22 (Int.toNat (10 - 0) + 1) (Int32.ofNat 0) (Int32.ofNat 0) A13 hA13 (by omega) (by omega) (by omega) (by omega) (by omega)
  ·
    refine hxj_zne (by rfl) rfl (fun q14 => False.elim (by omega)) (fun q14 => ?_)
    refine hxa_iconst (by rfl) rfl ?_
    exact hxa_ireturn (by rfl) rfl (hP _ _ ⟨(hJ.mono hA (by omega) (by omega)), _, rfl⟩)
theorem hX220 {d : Nat} {N : Int} {A0 A : hs_A} (hA : hJ 0 N (N + 72) A0 A) (hN : N ≤ 900000) (a1 : Int32) : hxC (d + 7) 220 hm_m220 [.ref 368, .int a1] A (fun r A' => hJ 0 (N + 72) (N + 144) A0 A' ∧ ∃ z : Int32, r = some (.int z)) := hxC.of (by rfl) (hY220 hA hN a1 (fun r A' h => h))
theorem hY221 {d : Nat} {Bn Br : Int} {A0 A : hs_A} (hA : hJ 0 Bn Br A0 A)  (a1 : Int32) {P : Option Value → hs_A → Prop} (hP : ∀ (r : Option Value) (A' : hs_A), (A = A' ∧ ∃ z : Int32, r = some (.int z)) → P r A') : hxa (d + 0) (some (.int)) hm_t221 0 [.ref 368, .int a1, .retAddr 0] [] A P := by
  have k0 := hk_0
  have k4294967295 := hk_4294967295
  have L2 : ∀ (m2 : Nat) (x2_2 : Int32) (bx2_2 : 0 ≤ x2_2.toInt) (cx2_2 : x2_2.toInt ≤ 10) (hm2 : 10 - x2_2.toInt < (m2 : Int)), hxa (d + 0) (some (.int)) hm_t221 2 [.ref 368, .int a1, .int x2_2] [] A P := by
    intro m2
    induction m2 with
    | zero => intro x2_2 bx2_2 cx2_2 hm2;  exact False.elim (by omega)
    | succ m2 ih2 =>
      intro x2_2 bx2_2 cx2_2 hm2
      refine hxa_iload_n (by rfl) rfl ?_
      refine hxa_aload_n (by rfl) rfl ?_
      refine hxa_get (v := .ref 377) (by rfl) (by rfl) (by rfl) rfl ?_
      refine hxa_aload_n (by rfl) rfl ?_
      refine hxj_getB (by rfl) (by rfl) (by rfl) hA (by rfl) (fun z1 ez1 fz1 gz1 => ?_)
      refine hxj_ialdB (by rfl) (by rfl) rfl (by omega) (by omega) hA (by rfl) (fun z2 ez2 fz2 gz2 => ?_)
      refine hxj_cge (by rfl) rfl rfl (fun q3 => ?_) (fun q3 => ?_)
      ·
        refine hxa_iconst (by rfl) rfl ?_
        exact hxa_ireturn (by rfl) rfl (hP _ _ ⟨rfl, _, rfl⟩)
      ·
        refine hxa_aload_n (by rfl) rfl ?_
        refine hxa_get (v := .ref 396) (by rfl) (by rfl) (by rfl) rfl ?_
        refine hxa_bipush (by rfl) rfl ?_
        refine hxa_iload_n (by rfl) rfl ?_
        refine hxj_iadd (by rfl) hk_20 rfl (by omega) (by omega) (fun z4 ez4 => ?_)
        refine hxj_iald395 (by rfl) rfl (by omega) (by omega) hA (fun z5 ez5 fz5 => ?_)
        refine hxa_iload_n (by rfl) rfl ?_
        refine hxj_cne (by rfl) rfl rfl (fun q6 => ?_) (fun q6 => ?_)
        ·
          refine hxj_iinc (by rfl) rfl rfl hk_1 (by omega) (by omega) (fun _ => rfl) (fun z7 ez7 => ?_)
          refine hxa_goto (by rfl) ?_
          exact ih2 z7 (by omega) (by omega) (by omega)
        ·
          refine hxa_iload_n (by rfl) rfl ?_
          exact hxa_ireturn (by rfl) rfl (hP _ _ ⟨rfl, _, rfl⟩)
  refine hxa_iconst (by rfl) rfl ?_
  refine hxa_s1 (by rfl) (Or.inl ⟨_, rfl, rfl⟩) rfl ?_
  exact L2 (Int.toNat (10 - 0) + 1) (Int32.ofNat 0) (by omega) (by omega) (by omega)
theorem hX221 {d : Nat} {Bn Br : Int} {A0 A : hs_A} (hA : hJ 0 Bn Br A0 A)  (a1 : Int32) : hxC (d + 1) 221 hm_m221 [.ref 368, .int a1] A (fun r A' => A = A' ∧ ∃ z : Int32, r = some (.int z)) := hxC.of (by rfl) (hY221 hA a1 (fun r A' h => h))
theorem hY222 {d : Nat} {N : Int} {A0 A : hs_A} (hA : hJ 0 N (N + 72) A0 A) (hN : N ≤ 900000) (a1 : Int32) {P : Option Value → hs_A → Prop} (hP : ∀ (r : Option Value) (A' : hs_A), (hJ 0 (N + 72) (N + 144) A0 A' ∧ ∃ z : Int32, r = some (.int z)) → P r A') : hxa (d + 5) (some (.int)) hm_t222 0 [.ref 368, .int a1, .retAddr 0] [] A P := by
  have k1 := hk_1
  have k4294967294 := hk_4294967294
  have k4294967295 := hk_4294967295
  have L16 : ∀ (m16 : Nat) (x16_2 : Int32) (Ac16 : hs_A) (hAc16 : hJ 0 N (N + x16_2.toInt) A0 Ac16) (bx16_2 : 1 ≤ x16_2.toInt) (cx16_2 : x16_2.toInt ≤ 73) (ba1 : 0 ≤ a1.toInt) (ca1 : a1.toInt ≤ 9) (hm16 : 73 - x16_2.toInt < (m16 : Int)), hxa (d + 5) (some (.int)) hm_t222 16 [.ref 368, .int a1, .int x16_2] [] Ac16 P := by
    intro m16
    induction m16 with
    | zero => intro x16_2 Ac16 hAc16 bx16_2 cx16_2 ba1 ca1 hm16;  exact False.elim (by omega)
    | succ m16 ih16 =>
      intro x16_2 Ac16 hAc16 bx16_2 cx16_2 ba1 ca1 hm16
      refine hxa_iload_n (by rfl) rfl ?_
      refine hxa_bipush (by rfl) rfl ?_
      refine hxj_cgt (by rfl) rfl hk_72 (fun q1 => ?_) (fun q1 => ?_)
      ·
        refine hxa_bipush (by rfl) rfl ?_
        exact hxa_ireturn (by rfl) rfl (hP _ _ ⟨(hJ.mono hAc16 (by omega) (by omega)), _, rfl⟩)
      ·
        refine hxa_aload_n (by rfl) rfl ?_
        refine hxa_call0 (by rfl) (by rfl) (by rfl) (by rfl) (by rfl) (by rfl) (hX184 (d := d + 0) hAc16 (by omega)) ?_
        rintro _ A2 ⟨hA2, rfl⟩
        refine hxa_aload_n (by rfl) rfl ?_
        refine hxa_get (v := .ref 397) (by rfl) (by rfl) (by rfl) rfl ?_
        refine hxa_bipush (by rfl) rfl ?_
        refine hxa_iload_n (by rfl) rfl ?_
        refine hxj_iadd (by rfl) hk_30 rfl (by omega) (by omega) (fun z3 ez3 => ?_)
        refine hxj_iald396 (by rfl) rfl (by omega) (by omega) hA2 (fun z4 ez4 fz4 => ?_)
        refine hxj_zeq (by rfl) rfl (fun q5 => ?_) (fun q5 => ?_)
        ·
          refine hxj_iinc (by rfl) rfl rfl hk_1 (by omega) (by omega) (fun _ => rfl) (fun z6 ez6 => ?_)
          refine hxa_goto (by rfl) ?_
          exact ih16 z6 A2 (hJ.mono hA2 (by omega) (by omega)) (by omega) (by omega) (by omega) (by omega) (by omega)
        ·
          refine hxa_iload_n (by rfl) rfl ?_
          exact hxa_ireturn (by rfl) rfl (hP _ _ ⟨(hJ.mono hA2 (by omega) (by omega)), _, rfl⟩)
  refine hxa_aload_n (by rfl) rfl ?_
  refine hxa_iload_n (by rfl) rfl ?_
  refine hxa_call0 (by rfl) (by rfl) (by rfl) (by rfl) (by rfl) (by rfl) (hX167 (d := d + 3) hA a1) ?_
  rintro _ _ ⟨rfl, z7, rfl, fz7⟩
  rcases fz7 with fz7 | fz7
  ·
    refine hxj_zne (by rfl) rfl (fun q8 => ?_) (fun q8 => False.elim (by omega))
    refine hxa_aload_n (by rfl) rfl ?_
    refine hxa_call0 (by rfl) (by rfl) (by rfl) (by rfl) (by rfl) (by rfl) (hX172 (d := d + 3) hA ) ?_
    rintro _ A9 ⟨hA9, rfl⟩
    refine hxa_iconst (by rfl) rfl ?_
    refine hxa_s1 (by rfl) (Or.inl ⟨_, rfl, rfl⟩) rfl ?_
    exact L16 (Int.toNat (73 - 1) + 1) (Int32.ofNat 1) A9 (hJ.mono hA9 (by omega) (by omega)) (by omega) (by omega) (by omega) (by omega) (by omega)
  ·
    refine hxj_zne (by rfl) rfl (fun q10 => False.elim (by omega)) (fun q10 => ?_)
    refine hxa_iconst (by rfl) rfl ?_
    exact hxa_ireturn (by rfl) rfl (hP _ _ ⟨(hJ.mono hA (by omega) (by omega)), _, rfl⟩)
theorem hX222 {d : Nat} {N : Int} {A0 A : hs_A} (hA : hJ 0 N (N + 72) A0 A) (hN : N ≤ 900000) (a1 : Int32) : hxC (d + 6) 222 hm_m222 [.ref 368, .int a1] A (fun r A' => hJ 0 (N + 72) (N + 144) A0 A' ∧ ∃ z : Int32, r = some (.int z)) := hxC.of (by rfl) (hY222 hA hN a1 (fun r A' h => h))
theorem hY223 {d : Nat} {N : Int} {A0 A : hs_A} (hA : hJ 0 N (N + 72) A0 A) (hN : N ≤ 900000) (a1 : Int32) (a2 : Int32) (a3 : Int32) {P : Option Value → hs_A → Prop} (hP : ∀ (r : Option Value) (A' : hs_A), (hJ 0 (N + 72) (N + 144) A0 A' ∧ ∃ z : Int32, r = some (.int z)) → P r A') : hxa (d + 6) (some (.int)) hm_t223 0 [.ref 368, .int a1, .int a2, .int a3] [] A P := by
  have k0 := hk_0
  have k2 := hk_2
  have k4294967295 := hk_4294967295
  refine hxa_iload_n (by rfl) rfl ?_
  refine hxa_call2 (by rfl) (by decide) (by rfl) (by rfl) (by rfl) (hX196 (d := d + 4)  a2) ?_
  rintro _ _ ⟨rfl, z1, rfl, fz1⟩
  rcases fz1 with fz1 | fz1
  ·
    refine hxj_zeq (by rfl) rfl (fun q2 => False.elim (by omega)) (fun q2 => ?_)
    refine hxa_iload_n (by rfl) rfl ?_
    refine hxa_iconst (by rfl) rfl ?_
    refine hxa_iconst (by rfl) rfl ?_
    refine hxa_call2 (by rfl) (by decide) (by rfl) (by rfl) (by rfl) (hX164 (d := d + 5)  a3 (Int32.ofNat 0) (Int32.ofNat 2)) ?_
    rintro _ _ ⟨rfl, z3, rfl, fz3⟩
    rcases fz3 with fz3 | fz3
    ·
      refine hxj_zeq (by rfl) rfl (fun q4 => False.elim (by omega)) (fun q4 => ?_)
      refine hxa_iload_n (by rfl) rfl ?_
      refine hxa_iconst (by rfl) rfl ?_
      refine hxj_cge (by rfl) rfl hk_2 (fun q5 => ?_) (fun q5 => ?_)
      ·
        refine hxa_aload_n (by rfl) rfl ?_
        refine hxa_call0 (by rfl) (by rfl) (by rfl) (by rfl) (by rfl) (by rfl) (hX171 (d := d + 5) hA ) ?_
        rintro _ A6 ⟨hA6, rfl⟩
        refine hxa_aload_n (by rfl) rfl ?_
        refine hxa_iload_n (by rfl) rfl ?_
        refine hxa_call0 (by rfl) (by rfl) (by rfl) (by rfl) (by rfl) (by rfl) (hX185 (d := d + 0) hA6 (by omega) a2 (by omega) (by omega)) ?_
        rintro _ A7 ⟨hA7, rfl⟩
        refine hxa_iload_n (by rfl) rfl ?_
        refine hxj_zne (by rfl) rfl (fun q8 => ?_) (fun q8 => False.elim (by omega))
        refine hxa_iload_n (by rfl) rfl ?_
        refine hxa_iconst (by rfl) rfl ?_
        refine hxj_cne (by rfl) rfl hk_1 (fun q9 => ?_) (fun q9 => False.elim (by omega))
        refine hxa_aload_n (by rfl) rfl ?_
        refine hxa_call0 (by rfl) (by rfl) (by rfl) (by rfl) (by rfl) (by rfl) (hX187 (d := d + 4) hA7 ) ?_
        rintro _ _ ⟨rfl, z10, rfl⟩
        exact hxa_ireturn (by rfl) rfl (hP _ _ ⟨(hJ.mono hA7 (by omega) (by omega)), _, rfl⟩)
      ·
        refine hxa_aload_n (by rfl) rfl ?_
        refine hxa_iload_n (by rfl) rfl ?_
        refine hxa_call0 (by rfl) (by rfl) (by rfl) (by rfl) (by rfl) (by rfl) (hX167 (d := d + 4) hA a1) ?_
        rintro _ _ ⟨rfl, z11, rfl, fz11⟩
        rcases fz11 with fz11 | fz11
        ·
          refine hxj_zne (by rfl) rfl (fun q12 => ?_) (fun q12 => False.elim (by omega))
          refine hxa_aload_n (by rfl) rfl ?_
          refine hxa_call0 (by rfl) (by rfl) (by rfl) (by rfl) (by rfl) (by rfl) (hX171 (d := d + 5) hA ) ?_
          rintro _ A13 ⟨hA13, rfl⟩
          refine hxa_aload_n (by rfl) rfl ?_
          refine hxa_iload_n (by rfl) rfl ?_
          refine hxa_call0 (by rfl) (by rfl) (by rfl) (by rfl) (by rfl) (by rfl) (hX185 (d := d + 0) hA13 (by omega) a2 (by omega) (by omega)) ?_
          rintro _ A14 ⟨hA14, rfl⟩
          refine hxa_iload_n (by rfl) rfl ?_
          refine hxj_zne (by rfl) rfl (fun q15 => ?_) (fun q15 => ?_)
          ·
            refine hxa_iload_n (by rfl) rfl ?_
            refine hxa_iconst (by rfl) rfl ?_
            refine hxj_cne (by rfl) rfl hk_1 (fun q16 => False.elim (by omega)) (fun q16 => ?_)
            refine hxa_aload_n (by rfl) rfl ?_
            refine hxa_get (v := .ref 397) (by rfl) (by rfl) (by rfl) rfl ?_
            refine hxa_bipush (by rfl) rfl ?_
            refine hxa_iload_n (by rfl) rfl ?_
            refine hxj_iadd (by rfl) hk_40 rfl (by omega) (by omega) (fun z17 ez17 => ?_)
            refine hxj_iald396 (by rfl) rfl (by omega) (by omega) hA14 (fun z18 ez18 fz18 => ?_)
            refine hxa_call2 (by rfl) (by decide) (by rfl) (by rfl) (by rfl) (hX166 (d := d + 5)  z18) ?_
            rintro _ _ ⟨rfl, z19, rfl⟩
            refine hxa_goto (by rfl) ?_
            exact hxa_ireturn (by rfl) rfl (hP _ _ ⟨(hJ.mono hA14 (by omega) (by omega)), _, rfl⟩)
          ·
            refine hxa_aload_n (by rfl) rfl ?_
            refine hxa_get (v := .ref 397) (by rfl) (by rfl) (by rfl) rfl ?_
            refine hxa_bipush (by rfl) rfl ?_
            refine hxa_iload_n (by rfl) rfl ?_
            refine hxj_iadd (by rfl) hk_30 rfl (by omega) (by omega) (fun z20 ez20 => ?_)
            refine hxj_iald396 (by rfl) rfl (by omega) (by omega) hA14 (fun z21 ez21 fz21 => ?_)
            refine hxa_goto (by rfl) ?_
            exact hxa_ireturn (by rfl) rfl (hP _ _ ⟨(hJ.mono hA14 (by omega) (by omega)), _, rfl⟩)
        ·
          refine hxj_zne (by rfl) rfl (fun q22 => False.elim (by omega)) (fun q22 => ?_)
          refine hxa_iconst (by rfl) rfl ?_
          exact hxa_ireturn (by rfl) rfl (hP _ _ ⟨(hJ.mono hA (by omega) (by omega)), _, rfl⟩)
    ·
      refine hxj_zeq (by rfl) rfl (fun q23 => ?_) (fun q23 => False.elim (by omega))
      refine hxa_iconst (by rfl) rfl ?_
      exact hxa_ireturn (by rfl) rfl (hP _ _ ⟨(hJ.mono hA (by omega) (by omega)), _, rfl⟩)
  ·
    refine hxj_zeq (by rfl) rfl (fun q24 => ?_) (fun q24 => False.elim (by omega))
    refine hxa_iconst (by rfl) rfl ?_
    exact hxa_ireturn (by rfl) rfl (hP _ _ ⟨(hJ.mono hA (by omega) (by omega)), _, rfl⟩)
theorem hX223 {d : Nat} {N : Int} {A0 A : hs_A} (hA : hJ 0 N (N + 72) A0 A) (hN : N ≤ 900000) (a1 : Int32) (a2 : Int32) (a3 : Int32) : hxC (d + 7) 223 hm_m223 [.ref 368, .int a1, .int a2, .int a3] A (fun r A' => hJ 0 (N + 72) (N + 144) A0 A' ∧ ∃ z : Int32, r = some (.int z)) := hxC.of (by rfl) (hY223 hA hN a1 a2 a3 (fun r A' h => h))
theorem hY224 {d : Nat} {N : Int} {A0 A : hs_A} (hA : hJ 0 N (N + 72) A0 A) (hN : N ≤ 900000) (a1 : Int32) (a2 : Int32) {P : Option Value → hs_A → Prop} (hP : ∀ (r : Option Value) (A' : hs_A), (hJ 0 (N + 72) (N + 144) A0 A' ∧ ∃ z : Int32, r = some (.int z)) → P r A') : hxa (d + 5) (some (.int)) hm_t224 0 [.ref 368, .int a1, .int a2, .retAddr 0, .retAddr 0] [] A P := by
  have k0 := hk_0
  have k4294967295 := hk_4294967295
  have L26 : ∀ (m26 : Nat) (x26_3 : Int32) (x26_4 : Int32) (Ac26 : hs_A) (hAc26 : hJ 0 N (N + x26_4.toInt) A0 Ac26) (bx26_4 : 0 ≤ x26_4.toInt) (cx26_4 : x26_4.toInt ≤ 72) (ba1 : 0 ≤ a1.toInt) (ca1 : a1.toInt ≤ 9) (ba2 : 1 ≤ a2.toInt) (ca2 : a2.toInt ≤ 72) (hm26 : 72 - x26_4.toInt < (m26 : Int)), hxa (d + 5) (some (.int)) hm_t224 26 [.ref 368, .int a1, .int a2, .int x26_3, .int x26_4] [] Ac26 P := by
    intro m26
    induction m26 with
    | zero => intro x26_3 x26_4 Ac26 hAc26 bx26_4 cx26_4 ba1 ca1 ba2 ca2 hm26; have := hn_rng x26_3; exact False.elim (by omega)
    | succ m26 ih26 =>
      intro x26_3 x26_4 Ac26 hAc26 bx26_4 cx26_4 ba1 ca1 ba2 ca2 hm26
      refine hxa_iload (by rfl) rfl ?_
      refine hxa_iload_n (by rfl) rfl ?_
      refine hxj_cge (by rfl) rfl rfl (fun q1 => ?_) (fun q1 => ?_)
      ·
        refine hxa_iload_n (by rfl) rfl ?_
        exact hxa_ireturn (by rfl) rfl (hP _ _ ⟨(hJ.mono hAc26 (by omega) (by omega)), _, rfl⟩)
      ·
        refine hxa_aload_n (by rfl) rfl ?_
        refine hxa_call0 (by rfl) (by rfl) (by rfl) (by rfl) (by rfl) (by rfl) (hX184 (d := d + 0) hAc26 (by omega)) ?_
        rintro _ A2 ⟨hA2, rfl⟩
        refine hxa_aload_n (by rfl) rfl ?_
        refine hxa_get (v := .ref 397) (by rfl) (by rfl) (by rfl) rfl ?_
        refine hxa_bipush (by rfl) rfl ?_
        refine hxa_iload_n (by rfl) rfl ?_
        refine hxj_iadd (by rfl) hk_30 rfl (by omega) (by omega) (fun z3 ez3 => ?_)
        refine hxj_iald396 (by rfl) rfl (by omega) (by omega) hA2 (fun z4 ez4 fz4 => ?_)
        refine hxj_zne (by rfl) rfl (fun q5 => ?_) (fun q5 => ?_)
        ·
          refine hxj_iinc (by rfl) rfl rfl hk_1 (by omega) (by omega) (fun _ => rfl) (fun z6 ez6 => ?_)
          refine hxa_goto (by rfl) ?_
          exact ih26 x26_3 z6 A2 (hJ.mono hA2 (by omega) (by omega)) (by omega) (by omega) (by omega) (by omega) (by omega) (by omega) (by omega)
        ·
          refine hxj_iincU (by rfl) rfl (fun _ => rfl) (fun z7 => ?_)
          refine hxj_iinc (by rfl) rfl rfl hk_1 (by omega) (by omega) (fun _ => rfl) (fun z8 ez8 => ?_)
          refine hxa_goto (by rfl) ?_
          exact ih26 z7 z8 A2 (hJ.mono hA2 (by omega) (by omega)) (by omega) (by omega) (by omega) (by omega) (by omega) (by omega) (by omega)
  refine hxa_aload_n (by rfl) rfl ?_
  refine hxa_iload_n (by rfl) rfl ?_
  refine hxa_call0 (by rfl) (by rfl) (by rfl) (by rfl) (by rfl) (by rfl) (hX167 (d := d + 3) hA a1) ?_
  rintro _ _ ⟨rfl, z9, rfl, fz9⟩
  rcases fz9 with fz9 | fz9
  ·
    refine hxj_zeq (by rfl) rfl (fun q10 => False.elim (by omega)) (fun q10 => ?_)
    refine hxa_iload_n (by rfl) rfl ?_
    refine hxa_call2 (by rfl) (by decide) (by rfl) (by rfl) (by rfl) (hX197 (d := d + 3)  a2) ?_
    rintro _ _ ⟨rfl, z11, rfl, fz11⟩
    rcases fz11 with fz11 | fz11
    ·
      refine hxj_zne (by rfl) rfl (fun q12 => ?_) (fun q12 => False.elim (by omega))
      refine hxa_aload_n (by rfl) rfl ?_
      refine hxa_call0 (by rfl) (by rfl) (by rfl) (by rfl) (by rfl) (by rfl) (hX172 (d := d + 3) hA ) ?_
      rintro _ A13 ⟨hA13, rfl⟩
      refine hxa_iconst (by rfl) rfl ?_
      refine hxa_s1 (by rfl) (Or.inl ⟨_, rfl, rfl⟩) rfl ?_
      refine hxa_iconst (by rfl) rfl ?_
      refine hxa_s1 (by rfl) (Or.inr ⟨_, rfl, rfl⟩) rfl ?_
      exact L26 (Int.toNat (72 - 0) + 1) (Int32.ofNat 0) (Int32.ofNat 0) A13 (hJ.mono hA13 (by omega) (by omega)) (by omega) (by omega) (by omega) (by omega) (by omega) (by omega) (by omega)
    ·
      refine hxj_zne (by rfl) rfl (fun q14 => False.elim (by omega)) (fun q14 => ?_)
      refine hxa_iconst (by rfl) rfl ?_
      exact hxa_ireturn (by rfl) rfl (hP _ _ ⟨(hJ.mono hA (by omega) (by omega)), _, rfl⟩)
  ·
    refine hxj_zeq (by rfl) rfl (fun q15 => ?_) (fun q15 => False.elim (by omega))
    refine hxa_iconst (by rfl) rfl ?_
    exact hxa_ireturn (by rfl) rfl (hP _ _ ⟨(hJ.mono hA (by omega) (by omega)), _, rfl⟩)
theorem hX224 {d : Nat} {N : Int} {A0 A : hs_A} (hA : hJ 0 N (N + 72) A0 A) (hN : N ≤ 900000) (a1 : Int32) (a2 : Int32) : hxC (d + 6) 224 hm_m224 [.ref 368, .int a1, .int a2] A (fun r A' => hJ 0 (N + 72) (N + 144) A0 A' ∧ ∃ z : Int32, r = some (.int z)) := hxC.of (by rfl) (hY224 hA hN a1 a2 (fun r A' h => h))
theorem hY225 {d : Nat} {Bn Br : Int} {A0 A : hs_A} (hA : hJ 0 Bn Br A0 A)   {P : Option Value → hs_A → Prop} (hP : ∀ (r : Option Value) (A' : hs_A), (A = A' ∧ ∃ z : Int32, r = some (.int z)) → P r A') : hxa (d + 0) (some (.int)) hm_t225 0 [.ref 368, .retAddr 0, .retAddr 0] [] A P := by
  have k0 := hk_0
  have L4 : ∀ (m4 : Nat) (x4_1 : Int32) (x4_2 : Int32) (bx4_2 : 0 ≤ x4_2.toInt) (cx4_2 : x4_2.toInt ≤ 10) (hm4 : 10 - x4_2.toInt < (m4 : Int)), hxa (d + 0) (some (.int)) hm_t225 4 [.ref 368, .int x4_1, .int x4_2] [] A P := by
    intro m4
    induction m4 with
    | zero => intro x4_1 x4_2 bx4_2 cx4_2 hm4; have := hn_rng x4_1; exact False.elim (by omega)
    | succ m4 ih4 =>
      intro x4_1 x4_2 bx4_2 cx4_2 hm4
      refine hxa_iload_n (by rfl) rfl ?_
      refine hxa_aload_n (by rfl) rfl ?_
      refine hxa_get (v := .ref 377) (by rfl) (by rfl) (by rfl) rfl ?_
      refine hxa_aload_n (by rfl) rfl ?_
      refine hxj_getB (by rfl) (by rfl) (by rfl) hA (by rfl) (fun z1 ez1 fz1 gz1 => ?_)
      refine hxj_ialdB (by rfl) (by rfl) rfl (by omega) (by omega) hA (by rfl) (fun z2 ez2 fz2 gz2 => ?_)
      refine hxj_cge (by rfl) rfl rfl (fun q3 => ?_) (fun q3 => ?_)
      ·
        refine hxa_iload_n (by rfl) rfl ?_
        exact hxa_ireturn (by rfl) rfl (hP _ _ ⟨rfl, _, rfl⟩)
      ·
        refine hxa_aload_n (by rfl) rfl ?_
        refine hxa_get (v := .ref 397) (by rfl) (by rfl) (by rfl) rfl ?_
        refine hxa_bipush (by rfl) rfl ?_
        refine hxa_iload_n (by rfl) rfl ?_
        refine hxj_iadd (by rfl) hk_60 rfl (by omega) (by omega) (fun z4 ez4 => ?_)
        refine hxj_iald396 (by rfl) rfl (by omega) (by omega) hA (fun z5 ez5 fz5 => ?_)
        refine hxj_zle (by rfl) rfl (fun q6 => ?_) (fun q6 => ?_)
        ·
          refine hxj_iinc (by rfl) rfl rfl hk_1 (by omega) (by omega) (fun _ => rfl) (fun z7 ez7 => ?_)
          refine hxa_goto (by rfl) ?_
          exact ih4 x4_1 z7 (by omega) (by omega) (by omega)
        ·
          refine hxa_iload_n (by rfl) rfl ?_
          refine hxa_iconst (by rfl) rfl ?_
          refine hxa_iload_n (by rfl) rfl ?_
          refine hxj_ishlU (by rfl) (fun z8 => ?_)
          refine hxj_iorU (by rfl) (fun z9 => ?_)
          refine hxa_s1 (by rfl) (Or.inl ⟨_, rfl, rfl⟩) rfl ?_
          refine hxj_iinc (by rfl) rfl rfl hk_1 (by omega) (by omega) (fun _ => rfl) (fun z10 ez10 => ?_)
          refine hxa_goto (by rfl) ?_
          exact ih4 z9 z10 (by omega) (by omega) (by omega)
  refine hxa_iconst (by rfl) rfl ?_
  refine hxa_s1 (by rfl) (Or.inl ⟨_, rfl, rfl⟩) rfl ?_
  refine hxa_iconst (by rfl) rfl ?_
  refine hxa_s1 (by rfl) (Or.inl ⟨_, rfl, rfl⟩) rfl ?_
  exact L4 (Int.toNat (10 - 0) + 1) (Int32.ofNat 0) (Int32.ofNat 0) (by omega) (by omega) (by omega)
theorem hX225 {d : Nat} {Bn Br : Int} {A0 A : hs_A} (hA : hJ 0 Bn Br A0 A)   : hxC (d + 1) 225 hm_m225 [.ref 368] A (fun r A' => A = A' ∧ ∃ z : Int32, r = some (.int z)) := hxC.of (by rfl) (hY225 hA  (fun r A' h => h))
theorem hY226 {d : Nat} {N : Int} {A0 A : hs_A} (hA : hJ 0 N (N + 72) A0 A) (hN : N ≤ 900000) (a1 : Int32) {P : Option Value → hs_A → Prop} (hP : ∀ (r : Option Value) (A' : hs_A), (hJ 0 (N + 72) (N + 144) A0 A' ∧ ∃ z : Int32, r = some (.int z)) → P r A') : hxa (d + 6) (some (.int)) hm_t226 0 [.ref 368, .int a1] [] A P := by
  have k4294967295 := hk_4294967295
  refine hxa_iload_n (by rfl) rfl ?_
  refine hxa_call2 (by rfl) (by decide) (by rfl) (by rfl) (by rfl) (hX196 (d := d + 4)  a1) ?_
  rintro _ _ ⟨rfl, z1, rfl, fz1⟩
  rcases fz1 with fz1 | fz1
  ·
    refine hxj_zne (by rfl) rfl (fun q2 => ?_) (fun q2 => False.elim (by omega))
    refine hxa_aload_n (by rfl) rfl ?_
    refine hxa_call0 (by rfl) (by rfl) (by rfl) (by rfl) (by rfl) (by rfl) (hX171 (d := d + 5) hA ) ?_
    rintro _ A3 ⟨hA3, rfl⟩
    refine hxa_aload_n (by rfl) rfl ?_
    refine hxa_iload_n (by rfl) rfl ?_
    refine hxa_call0 (by rfl) (by rfl) (by rfl) (by rfl) (by rfl) (by rfl) (hX185 (d := d + 0) hA3 (by omega) a1 (by omega) (by omega)) ?_
    rintro _ A4 ⟨hA4, rfl⟩
    refine hxa_aload_n (by rfl) rfl ?_
    refine hxa_call0 (by rfl) (by rfl) (by rfl) (by rfl) (by rfl) (by rfl) (hX225 (d := d + 5) hA4 ) ?_
    rintro _ _ ⟨rfl, z5, rfl⟩
    refine hxa_call2 (by rfl) (by decide) (by rfl) (by rfl) (by rfl) (hX166 (d := d + 5)  z5) ?_
    rintro _ _ ⟨rfl, z6, rfl⟩
    exact hxa_ireturn (by rfl) rfl (hP _ _ ⟨(hJ.mono hA4 (by omega) (by omega)), _, rfl⟩)
  ·
    refine hxj_zne (by rfl) rfl (fun q7 => False.elim (by omega)) (fun q7 => ?_)
    refine hxa_iconst (by rfl) rfl ?_
    exact hxa_ireturn (by rfl) rfl (hP _ _ ⟨(hJ.mono hA (by omega) (by omega)), _, rfl⟩)
theorem hX226 {d : Nat} {N : Int} {A0 A : hs_A} (hA : hJ 0 N (N + 72) A0 A) (hN : N ≤ 900000) (a1 : Int32) : hxC (d + 7) 226 hm_m226 [.ref 368, .int a1] A (fun r A' => hJ 0 (N + 72) (N + 144) A0 A' ∧ ∃ z : Int32, r = some (.int z)) := hxC.of (by rfl) (hY226 hA hN a1 (fun r A' h => h))
theorem hY227 {d : Nat} {Bn Br : Int} {A0 A : hs_A} (hA : hJ 0 Bn Br A0 A)  (a1 : Int32) {P : Option Value → hs_A → Prop} (hP : ∀ (r : Option Value) (A' : hs_A), (A = A' ∧ ∃ z : Int32, r = some (.int z)) → P r A') : hxa (d + 1) (some (.int)) hm_t227 0 [.ref 368, .int a1, .retAddr 0, .retAddr 0, .retAddr 0, .retAddr 0, .retAddr 0] [] A P := by
  have k0 := hk_0
  have k1 := hk_1
  have k4294967294 := hk_4294967294
  have k4294967295 := hk_4294967295
  have L19 : ∀ (m19 : Nat) (x19_2 : Int32) (x19_3 : Int32) (x19_4 : Int32) (x19_5 : Value) (x19_6 : Value) (hx19_5 : hc_two (some x19_5) = false) (bx19_2 : -2 ≤ x19_2.toInt) (cx19_2 : x19_2.toInt ≤ 255) (bx19_3 : 0 ≤ x19_3.toInt) (bx19_4 : 0 ≤ x19_4.toInt) (cx19_4 : x19_4.toInt ≤ 10) (ba1 : 0 ≤ a1.toInt) (ca1 : a1.toInt ≤ 1) (hm19 : 10 - x19_4.toInt < (m19 : Int)), hxa (d + 1) (some (.int)) hm_t227 19 [.ref 368, .int a1, .int x19_2, .int x19_3, .int x19_4, x19_5, x19_6] [] A P := by
    intro m19
    induction m19 with
    | zero => intro x19_2 x19_3 x19_4 x19_5 x19_6 hx19_5 bx19_2 cx19_2 bx19_3 bx19_4 cx19_4 ba1 ca1 hm19; have := hn_rng x19_3; exact False.elim (by omega)
    | succ m19 ih19 =>
      intro x19_2 x19_3 x19_4 x19_5 x19_6 hx19_5 bx19_2 cx19_2 bx19_3 bx19_4 cx19_4 ba1 ca1 hm19
      have L36 : ∀ (m36 : Nat) (x36_2 : Int32) (x36_3 : Int32) (x36_5 : Int32) (x36_6 : Value) (bx36_2 : -2 ≤ x36_2.toInt) (cx36_2 : x36_2.toInt ≤ 255) (bx36_3 : 0 ≤ x36_3.toInt) (bx36_5 : 0 ≤ x36_5.toInt) (cx36_5 : x36_5.toInt ≤ 10) (cx19_4 : x19_4.toInt ≤ 9) (hm36 : 10 - x36_5.toInt < (m36 : Int)), hxa (d + 1) (some (.int)) hm_t227 36 [.ref 368, .int a1, .int x36_2, .int x36_3, .int x19_4, .int x36_5, x36_6] [] A P := by
        intro m36
        induction m36 with
        | zero => intro x36_2 x36_3 x36_5 x36_6 bx36_2 cx36_2 bx36_3 bx36_5 cx36_5 cx19_4 hm36; have := hn_rng x36_3; exact False.elim (by omega)
        | succ m36 ih36 =>
          intro x36_2 x36_3 x36_5 x36_6 bx36_2 cx36_2 bx36_3 bx36_5 cx36_5 cx19_4 hm36
          refine hxa_iload (by rfl) rfl ?_
          refine hxa_aload_n (by rfl) rfl ?_
          refine hxa_get (v := .ref 377) (by rfl) (by rfl) (by rfl) rfl ?_
          refine hxa_aload_n (by rfl) rfl ?_
          refine hxj_getB (by rfl) (by rfl) (by rfl) hA (by rfl) (fun z1 ez1 fz1 gz1 => ?_)
          refine hxj_ialdB (by rfl) (by rfl) rfl (by omega) (by omega) hA (by rfl) (fun z2 ez2 fz2 gz2 => ?_)
          refine hxj_cge (by rfl) rfl rfl (fun q3 => ?_) (fun q3 => ?_)
          ·
            refine hxj_iinc (by rfl) rfl rfl hk_1 (by omega) (by omega) (fun _ => rfl) (fun z4 ez4 => ?_)
            refine hxa_goto (by rfl) ?_
            exact ih19 x36_2 x36_3 z4 (.int x36_5) (x36_6) rfl (by omega) (by omega) (by omega) (by omega) (by omega) (by omega) (by omega) (by omega)
          ·
            refine hxa_aload_n (by rfl) rfl ?_
            refine hxa_get (v := .ref 396) (by rfl) (by rfl) (by rfl) rfl ?_
            refine hxa_bipush (by rfl) rfl ?_
            refine hxa_iload (by rfl) rfl ?_
            refine hxj_iadd (by rfl) hk_30 rfl (by omega) (by omega) (fun z5 ez5 => ?_)
            refine hxj_iald395 (by rfl) rfl (by omega) (by omega) hA (fun z6 ez6 fz6 => ?_)
            refine hxa_aload_n (by rfl) rfl ?_
            refine hxa_get (v := .ref 396) (by rfl) (by rfl) (by rfl) rfl ?_
            refine hxa_iload (by rfl) rfl ?_
            refine hxj_iald395 (by rfl) rfl (by omega) (by omega) hA (fun z7 ez7 fz7 => ?_)
            refine hxj_iandU (by rfl) (fun z8 => ?_)
            refine hxa_aload_n (by rfl) rfl ?_
            refine hxa_get (v := .ref 396) (by rfl) (by rfl) (by rfl) rfl ?_
            refine hxa_bipush (by rfl) rfl ?_
            refine hxa_iload (by rfl) rfl ?_
            refine hxj_iadd (by rfl) hk_40 rfl (by omega) (by omega) (fun z9 ez9 => ?_)
            refine hxj_iald395 (by rfl) rfl (by omega) (by omega) hA (fun z10 ez10 fz10 => ?_)
            refine hxa_iconst (by rfl) rfl ?_
            refine hxj_ixorU (by rfl) (fun z11 => ?_)
            refine hxj_iandU (by rfl) (fun z12 => ?_)
            refine hxa_call2 (by rfl) (by decide) (by rfl) (by rfl) (by rfl) (hX166 (d := d + 0)  z12) ?_
            rintro _ _ ⟨rfl, z13, rfl⟩
            refine hxa_s1 (by rfl) (Or.inr ⟨_, rfl, rfl⟩) rfl ?_
            refine hxa_iload (by rfl) rfl ?_
            refine hxa_iload (by rfl) rfl ?_
            refine hxj_ceq (by rfl) rfl rfl (fun q14 => ?_) (fun q14 => ?_)
            ·
              refine hxj_iinc (by rfl) rfl rfl hk_1 (by omega) (by omega) (fun _ => rfl) (fun z15 ez15 => ?_)
              refine hxa_goto (by rfl) ?_
              exact ih36 x36_2 x36_3 z15 (.int z13) (by omega) (by omega) (by omega) (by omega) (by omega) (by omega) (by omega)
            ·
              refine hxa_iload (by rfl) rfl ?_
              refine hxa_iload_n (by rfl) rfl ?_
              have rgz13 := hn_rng z13
              have rgx36_3 := hn_rng x36_3
              refine hxj_cgt (by rfl) rfl rfl (fun q16 => ?_) (fun q16 => ?_)
              ·
                refine hxa_bipush (by rfl) rfl ?_
                refine hxa_iload (by rfl) rfl ?_
                refine hxj_imul (by rfl) hk_10 rfl (by omega) (by omega) (fun z17 ez17 => ?_)
                refine hxa_iload (by rfl) rfl ?_
                refine hxj_iadd (by rfl) rfl rfl (by omega) (by omega) (fun z18 ez18 => ?_)
                refine hxa_s1 (by rfl) (Or.inl ⟨_, rfl, rfl⟩) rfl ?_
                refine hxa_iload (by rfl) rfl ?_
                refine hxa_s1 (by rfl) (Or.inl ⟨_, rfl, rfl⟩) rfl ?_
                refine hxj_iinc (by rfl) rfl rfl hk_1 (by omega) (by omega) (fun _ => rfl) (fun z19 ez19 => ?_)
                refine hxa_goto (by rfl) ?_
                exact ih36 z18 z13 z19 (.int z13) (by omega) (by omega) (by omega) (by omega) (by omega) (by omega) (by omega)
              ·
                refine hxa_goto (by rfl) ?_
                refine hxj_iinc (by rfl) rfl rfl hk_1 (by omega) (by omega) (fun _ => rfl) (fun z20 ez20 => ?_)
                refine hxa_goto (by rfl) ?_
                exact ih36 x36_2 x36_3 z20 (.int z13) (by omega) (by omega) (by omega) (by omega) (by omega) (by omega) (by omega)
      refine hxa_iload (by rfl) rfl ?_
      refine hxa_aload_n (by rfl) rfl ?_
      refine hxa_get (v := .ref 377) (by rfl) (by rfl) (by rfl) rfl ?_
      refine hxa_aload_n (by rfl) rfl ?_
      refine hxj_getB (by rfl) (by rfl) (by rfl) hA (by rfl) (fun z21 ez21 fz21 gz21 => ?_)
      refine hxj_ialdB (by rfl) (by rfl) rfl (by omega) (by omega) hA (by rfl) (fun z22 ez22 fz22 gz22 => ?_)
      refine hxj_cge (by rfl) rfl rfl (fun q23 => ?_) (fun q23 => ?_)
      ·
        refine hxa_iload_n (by rfl) rfl ?_
        refine hxj_zlt (by rfl) rfl (fun q24 => ?_) (fun q24 => ?_)
        ·
          refine hxa_iload_n (by rfl) rfl ?_
          refine hxa_goto (by rfl) ?_
          exact hxa_ireturn (by rfl) rfl (hP _ _ ⟨rfl, _, rfl⟩)
        ·
          refine hxa_iload_n (by rfl) rfl ?_
          refine hxj_zne (by rfl) rfl (fun q25 => ?_) (fun q25 => ?_)
          ·
            refine hxa_iload_n (by rfl) rfl ?_
            exact hxa_ireturn (by rfl) rfl (hP _ _ ⟨rfl, _, rfl⟩)
          ·
            refine hxa_iload_n (by rfl) rfl ?_
            refine hxa_goto (by rfl) ?_
            exact hxa_ireturn (by rfl) rfl (hP _ _ ⟨rfl, _, rfl⟩)
      ·
        refine hxa_iconst (by rfl) rfl ?_
        refine hxa_s1 (by rfl) (Or.inr ⟨_, rfl, rfl⟩) rfl ?_
        exact L36 (Int.toNat (10 - 0) + 1) x19_2 x19_3 (Int32.ofNat 0) (x19_6) (by omega) (by omega) (by omega) (by omega) (by omega) (by omega) (by omega)
  refine hxa_iload_n (by rfl) rfl ?_
  refine hxa_iconst (by rfl) rfl ?_
  refine hxa_iconst (by rfl) rfl ?_
  refine hxa_call2 (by rfl) (by decide) (by rfl) (by rfl) (by rfl) (hX164 (d := d + 0)  a1 (Int32.ofNat 0) (Int32.ofNat 1)) ?_
  rintro _ _ ⟨rfl, z26, rfl, fz26⟩
  rcases fz26 with fz26 | fz26
  ·
    refine hxj_zne (by rfl) rfl (fun q27 => ?_) (fun q27 => False.elim (by omega))
    refine hxa_bipush (by rfl) rfl ?_
    refine hxa_s1 (by rfl) (Or.inl ⟨_, rfl, rfl⟩) rfl ?_
    refine hxa_iconst (by rfl) rfl ?_
    refine hxa_s1 (by rfl) (Or.inl ⟨_, rfl, rfl⟩) rfl ?_
    refine hxa_iconst (by rfl) rfl ?_
    refine hxa_s1 (by rfl) (Or.inr ⟨_, rfl, rfl⟩) rfl ?_
    exact L19 (Int.toNat (10 - 0) + 1) (Int32.ofNat 4294967294) (Int32.ofNat 0) (Int32.ofNat 0) (.retAddr 0) (.retAddr 0) rfl (by omega) (by omega) (by omega) (by omega) (by omega) (by omega) (by omega) (by omega)
  ·
    refine hxj_zne (by rfl) rfl (fun q28 => False.elim (by omega)) (fun q28 => ?_)
    refine hxa_iconst (by rfl) rfl ?_
    exact hxa_ireturn (by rfl) rfl (hP _ _ ⟨rfl, _, rfl⟩)
theorem hX227 {d : Nat} {Bn Br : Int} {A0 A : hs_A} (hA : hJ 0 Bn Br A0 A)  (a1 : Int32) : hxC (d + 2) 227 hm_m227 [.ref 368, .int a1] A (fun r A' => A = A' ∧ ∃ z : Int32, r = some (.int z)) := hxC.of (by rfl) (hY227 hA a1 (fun r A' h => h))
theorem hY228 {d : Nat} {Bn Br : Int} {A0 A : hs_A} (hA : hJ 0 Bn Br A0 A)  (a1 : Int32) {P : Option Value → hs_A → Prop} (hP : ∀ (r : Option Value) (A' : hs_A), (A = A' ∧ ∃ z : Int32, r = some (.int z)) → P r A') : hxa (d + 2) (some (.int)) hm_t228 0 [.ref 368, .int a1] [] A P := by
  have k4294967295 := hk_4294967295
  refine hxa_aload_n (by rfl) rfl ?_
  refine hxa_iload_n (by rfl) rfl ?_
  refine hxa_call0 (by rfl) (by rfl) (by rfl) (by rfl) (by rfl) (by rfl) (hX167 (d := d + 0) hA a1) ?_
  rintro _ _ ⟨rfl, z1, rfl, fz1⟩
  rcases fz1 with fz1 | fz1
  ·
    refine hxj_zeq (by rfl) rfl (fun q2 => False.elim (by omega)) (fun q2 => ?_)
    refine hxa_aload_n (by rfl) rfl ?_
    refine hxa_get (v := .ref 396) (by rfl) (by rfl) (by rfl) rfl ?_
    refine hxa_iload_n (by rfl) rfl ?_
    refine hxj_iald395 (by rfl) rfl (by omega) (by omega) hA (fun z3 ez3 fz3 => ?_)
    refine hxa_aload_n (by rfl) rfl ?_
    refine hxa_get (v := .ref 396) (by rfl) (by rfl) (by rfl) rfl ?_
    refine hxa_bipush (by rfl) rfl ?_
    refine hxa_iload_n (by rfl) rfl ?_
    refine hxj_iadd (by rfl) hk_40 rfl (by omega) (by omega) (fun z4 ez4 => ?_)
    refine hxj_iald395 (by rfl) rfl (by omega) (by omega) hA (fun z5 ez5 fz5 => ?_)
    refine hxa_iconst (by rfl) rfl ?_
    refine hxj_ixorU (by rfl) (fun z6 => ?_)
    refine hxj_iandU (by rfl) (fun z7 => ?_)
    refine hxa_goto (by rfl) ?_
    exact hxa_ireturn (by rfl) rfl (hP _ _ ⟨rfl, _, rfl⟩)
  ·
    refine hxj_zeq (by rfl) rfl (fun q8 => ?_) (fun q8 => False.elim (by omega))
    refine hxa_iconst (by rfl) rfl ?_
    exact hxa_ireturn (by rfl) rfl (hP _ _ ⟨rfl, _, rfl⟩)
theorem hX228 {d : Nat} {Bn Br : Int} {A0 A : hs_A} (hA : hJ 0 Bn Br A0 A)  (a1 : Int32) : hxC (d + 3) 228 hm_m228 [.ref 368, .int a1] A (fun r A' => A = A' ∧ ∃ z : Int32, r = some (.int z)) := hxC.of (by rfl) (hY228 hA a1 (fun r A' h => h))
theorem hY229 {d : Nat} {N : Int} {A0 A : hs_A} (hA : hJ 0 N (N + 72) A0 A) (hN : N ≤ 900000) (a1 : Int32) {P : Option Value → hs_A → Prop} (hP : ∀ (r : Option Value) (A' : hs_A), (hJ 0 (N + 72) (N + 144) A0 A' ∧ ∃ z : Int32, r = some (.int z)) → P r A') : hxa (d + 6) (some (.int)) hm_t229 0 [.ref 368, .int a1, .retAddr 0, .retAddr 0, .retAddr 0, .retAddr 0] [] A P := by
  have k0 := hk_0
  have k1 := hk_1
  have k4294967294 := hk_4294967294
  have k4294967295 := hk_4294967295
  have k48 := hk_48
  have L32 : ∀ (m32 : Nat) (x32_2 : Int32) (x32_3 : Int32) (x32_4 : Int32) (x32_5 : Value) (Ac32 : hs_A) (hAc32 : hJ 0 N (N + 72) A0 Ac32) (bx32_3 : -2 ≤ x32_3.toInt) (cx32_3 : x32_3.toInt ≤ 255) (bx32_4 : 0 ≤ x32_4.toInt) (cx32_4 : x32_4.toInt ≤ 10) (ba1 : 0 ≤ a1.toInt) (ca1 : a1.toInt ≤ 1) (hm32 : 10 - x32_4.toInt < (m32 : Int)), hxa (d + 6) (some (.int)) hm_t229 32 [.ref 368, .int a1, .int x32_2, .int x32_3, .int x32_4, x32_5] [] Ac32 P := by
    intro m32
    induction m32 with
    | zero => intro x32_2 x32_3 x32_4 x32_5 Ac32 hAc32 bx32_3 cx32_3 bx32_4 cx32_4 ba1 ca1 hm32; have := hn_rng x32_2; exact False.elim (by omega)
    | succ m32 ih32 =>
      intro x32_2 x32_3 x32_4 x32_5 Ac32 hAc32 bx32_3 cx32_3 bx32_4 cx32_4 ba1 ca1 hm32
      have L52 : ∀ (m52 : Nat) (x52_2 : Int32) (x52_3 : Int32) (x52_5 : Int32) (Ac52 : hs_A) (hAc52 : hJ 0 N (N + 72) A0 Ac52) (bx52_3 : -2 ≤ x52_3.toInt) (cx52_3 : x52_3.toInt ≤ 255) (bx52_5 : 1 ≤ x52_5.toInt) (cx52_5 : x52_5.toInt ≤ 10) (cx32_4 : x32_4.toInt ≤ 9) (hm52 : 10 - x52_5.toInt < (m52 : Int)), hxa (d + 6) (some (.int)) hm_t229 52 [.ref 368, .int a1, .int x52_2, .int x52_3, .int x32_4, .int x52_5] [] Ac52 P := by
        intro m52
        induction m52 with
        | zero => intro x52_2 x52_3 x52_5 Ac52 hAc52 bx52_3 cx52_3 bx52_5 cx52_5 cx32_4 hm52; have := hn_rng x52_2; exact False.elim (by omega)
        | succ m52 ih52 =>
          intro x52_2 x52_3 x52_5 Ac52 hAc52 bx52_3 cx52_3 bx52_5 cx52_5 cx32_4 hm52
          refine hxa_iload (by rfl) rfl ?_
          refine hxa_aload_n (by rfl) rfl ?_
          refine hxa_get (v := .ref 377) (by rfl) (by rfl) (by rfl) rfl ?_
          refine hxa_aload_n (by rfl) rfl ?_
          refine hxj_getB (by rfl) (by rfl) (by rfl) hAc52 (by rfl) (fun z1 ez1 fz1 gz1 => ?_)
          refine hxj_ialdB (by rfl) (by rfl) rfl (by omega) (by omega) hAc52 (by rfl) (fun z2 ez2 fz2 gz2 => ?_)
          refine hxj_cge (by rfl) rfl rfl (fun q3 => ?_) (fun q3 => ?_)
          ·
            refine hxj_iinc (by rfl) rfl rfl hk_1 (by omega) (by omega) (fun _ => rfl) (fun z4 ez4 => ?_)
            refine hxa_goto (by rfl) ?_
            exact ih32 x52_2 x52_3 z4 (.int x52_5) Ac52 hAc52 (by omega) (by omega) (by omega) (by omega) (by omega) (by omega) (by omega)
          ·
            refine hxa_aload_n (by rfl) rfl ?_
            refine hxa_call0 (by rfl) (by rfl) (by rfl) (by rfl) (by rfl) (by rfl) (hX172 (d := d + 4) hAc52 ) ?_
            rintro _ A5 ⟨hA5, rfl⟩
            refine hxa_aload_n (by rfl) rfl ?_
            refine hxa_iload (by rfl) rfl ?_
            refine hxa_iload (by rfl) rfl ?_
            refine hxa_call0 (by rfl) (by rfl) (by rfl) (by rfl) (by rfl) (by rfl) (hX194 (d := d + 5) hA5 x32_4 (by omega) (by omega) x52_5 (by omega) (by omega)) ?_
            rintro _ A6 ⟨hA6, rfl⟩
            refine hxa_aload_n (by rfl) rfl ?_
            refine hxa_bipush (by rfl) rfl ?_
            refine hxa_call0 (by rfl) (by rfl) (by rfl) (by rfl) (by rfl) (by rfl) (hX185 (d := d + 0) hA6 (by omega) (Int32.ofNat 48) (by omega) (by omega)) ?_
            rintro _ A7 ⟨hA7, rfl⟩
            refine hxa_aload_n (by rfl) rfl ?_
            refine hxa_call0 (by rfl) (by rfl) (by rfl) (by rfl) (by rfl) (by rfl) (hX187 (d := d + 4) hA7 ) ?_
            rintro _ _ ⟨rfl, z8, rfl⟩
            refine hxa_iload_n (by rfl) rfl ?_
            have rgz8 := hn_rng z8
            have rgx52_2 := hn_rng x52_2
            refine hxj_cgt (by rfl) rfl rfl (fun q9 => ?_) (fun q9 => ?_)
            ·
              refine hxa_bipush (by rfl) rfl ?_
              refine hxa_iload (by rfl) rfl ?_
              refine hxj_imul (by rfl) hk_10 rfl (by omega) (by omega) (fun z10 ez10 => ?_)
              refine hxa_iload (by rfl) rfl ?_
              refine hxj_iadd (by rfl) rfl rfl (by omega) (by omega) (fun z11 ez11 => ?_)
              refine hxa_s1 (by rfl) (Or.inl ⟨_, rfl, rfl⟩) rfl ?_
              refine hxa_aload_n (by rfl) rfl ?_
              refine hxa_call0 (by rfl) (by rfl) (by rfl) (by rfl) (by rfl) (by rfl) (hX187 (d := d + 4) hA7 ) ?_
              rintro _ _ ⟨rfl, z12, rfl⟩
              refine hxa_s1 (by rfl) (Or.inl ⟨_, rfl, rfl⟩) rfl ?_
              refine hxj_iinc (by rfl) rfl rfl hk_1 (by omega) (by omega) (fun _ => rfl) (fun z13 ez13 => ?_)
              refine hxa_goto (by rfl) ?_
              exact ih52 z12 z11 z13 A7 hA7 (by omega) (by omega) (by omega) (by omega) (by omega) (by omega)
            ·
              refine hxa_goto (by rfl) ?_
              refine hxj_iinc (by rfl) rfl rfl hk_1 (by omega) (by omega) (fun _ => rfl) (fun z14 ez14 => ?_)
              refine hxa_goto (by rfl) ?_
              exact ih52 x52_2 x52_3 z14 A7 hA7 (by omega) (by omega) (by omega) (by omega) (by omega) (by omega)
      refine hxa_iload (by rfl) rfl ?_
      refine hxa_aload_n (by rfl) rfl ?_
      refine hxa_get (v := .ref 377) (by rfl) (by rfl) (by rfl) rfl ?_
      refine hxa_aload_n (by rfl) rfl ?_
      refine hxj_getB (by rfl) (by rfl) (by rfl) hAc32 (by rfl) (fun z15 ez15 fz15 gz15 => ?_)
      refine hxj_ialdB (by rfl) (by rfl) rfl (by omega) (by omega) hAc32 (by rfl) (fun z16 ez16 fz16 gz16 => ?_)
      refine hxj_cge (by rfl) rfl rfl (fun q17 => ?_) (fun q17 => ?_)
      ·
        refine hxa_iload_n (by rfl) rfl ?_
        refine hxj_zlt (by rfl) rfl (fun q18 => ?_) (fun q18 => ?_)
        ·
          refine hxa_iload_n (by rfl) rfl ?_
          refine hxa_goto (by rfl) ?_
          exact hxa_ireturn (by rfl) rfl (hP _ _ ⟨(hJ.mono hAc32 (by omega) (by omega)), _, rfl⟩)
        ·
          refine hxa_iload_n (by rfl) rfl ?_
          refine hxj_zne (by rfl) rfl (fun q19 => ?_) (fun q19 => ?_)
          ·
            refine hxa_iload_n (by rfl) rfl ?_
            exact hxa_ireturn (by rfl) rfl (hP _ _ ⟨(hJ.mono hAc32 (by omega) (by omega)), _, rfl⟩)
          ·
            refine hxa_iload_n (by rfl) rfl ?_
            refine hxa_goto (by rfl) ?_
            exact hxa_ireturn (by rfl) rfl (hP _ _ ⟨(hJ.mono hAc32 (by omega) (by omega)), _, rfl⟩)
      ·
        refine hxa_iload (by rfl) rfl ?_
        refine hxa_iconst (by rfl) rfl ?_
        refine hxj_iadd (by rfl) rfl hk_1 (by omega) (by omega) (fun z20 ez20 => ?_)
        refine hxa_s1 (by rfl) (Or.inr ⟨_, rfl, rfl⟩) rfl ?_
        exact L52 (Int.toNat (10 - z20.toInt) + 1) x32_2 x32_3 z20 Ac32 hAc32 (by omega) (by omega) (by omega) (by omega) (by omega) (by omega)
  refine hxa_iload_n (by rfl) rfl ?_
  refine hxa_iconst (by rfl) rfl ?_
  refine hxa_iconst (by rfl) rfl ?_
  refine hxa_call2 (by rfl) (by decide) (by rfl) (by rfl) (by rfl) (hX164 (d := d + 5)  a1 (Int32.ofNat 0) (Int32.ofNat 1)) ?_
  rintro _ _ ⟨rfl, z21, rfl, fz21⟩
  rcases fz21 with fz21 | fz21
  ·
    refine hxj_zne (by rfl) rfl (fun q22 => ?_) (fun q22 => False.elim (by omega))
    refine hxa_aload_n (by rfl) rfl ?_
    refine hxa_call0 (by rfl) (by rfl) (by rfl) (by rfl) (by rfl) (by rfl) (hX172 (d := d + 4) hA ) ?_
    rintro _ A23 ⟨hA23, rfl⟩
    refine hxa_aload_n (by rfl) rfl ?_
    refine hxa_bipush (by rfl) rfl ?_
    refine hxa_call0 (by rfl) (by rfl) (by rfl) (by rfl) (by rfl) (by rfl) (hX185 (d := d + 0) hA23 (by omega) (Int32.ofNat 48) (by omega) (by omega)) ?_
    rintro _ A24 ⟨hA24, rfl⟩
    refine hxa_aload_n (by rfl) rfl ?_
    refine hxa_call0 (by rfl) (by rfl) (by rfl) (by rfl) (by rfl) (by rfl) (hX187 (d := d + 4) hA24 ) ?_
    rintro _ _ ⟨rfl, z25, rfl⟩
    refine hxa_s1 (by rfl) (Or.inl ⟨_, rfl, rfl⟩) rfl ?_
    refine hxa_bipush (by rfl) rfl ?_
    refine hxa_s1 (by rfl) (Or.inl ⟨_, rfl, rfl⟩) rfl ?_
    refine hxa_iconst (by rfl) rfl ?_
    refine hxa_s1 (by rfl) (Or.inr ⟨_, rfl, rfl⟩) rfl ?_
    exact L32 (Int.toNat (10 - 0) + 1) z25 (Int32.ofNat 4294967294) (Int32.ofNat 0) (.retAddr 0) A24 hA24 (by omega) (by omega) (by omega) (by omega) (by omega) (by omega) (by omega)
  ·
    refine hxj_zne (by rfl) rfl (fun q26 => False.elim (by omega)) (fun q26 => ?_)
    refine hxa_iconst (by rfl) rfl ?_
    exact hxa_ireturn (by rfl) rfl (hP _ _ ⟨(hJ.mono hA (by omega) (by omega)), _, rfl⟩)
theorem hX229 {d : Nat} {N : Int} {A0 A : hs_A} (hA : hJ 0 N (N + 72) A0 A) (hN : N ≤ 900000) (a1 : Int32) : hxC (d + 7) 229 hm_m229 [.ref 368, .int a1] A (fun r A' => hJ 0 (N + 72) (N + 144) A0 A' ∧ ∃ z : Int32, r = some (.int z)) := hxC.of (by rfl) (hY229 hA hN a1 (fun r A' h => h))
theorem hY230 {d : Nat} {Bn Br : Int} {A0 A : hs_A} (hA : hJ 0 Bn Br A0 A)  (a1 : Int32) {P : Option Value → hs_A → Prop} (hP : ∀ (r : Option Value) (A' : hs_A), (A = A' ∧ ∃ z : Int32, r = some (.int z)) → P r A') : hxa (d + 2) (some (.int)) hm_t230 0 [.ref 368, .int a1, .retAddr 0, .retAddr 0] [] A P := by
  have k0 := hk_0
  have k4294967295 := hk_4294967295
  have L14 : ∀ (m14 : Nat) (x14_2 : Int32) (x14_3 : Int32) (bx14_3 : 0 ≤ x14_3.toInt) (cx14_3 : x14_3.toInt ≤ 10) (ba1 : 0 ≤ a1.toInt) (ca1 : a1.toInt ≤ 9) (hm14 : 10 - x14_3.toInt < (m14 : Int)), hxa (d + 2) (some (.int)) hm_t230 14 [.ref 368, .int a1, .int x14_2, .int x14_3] [] A P := by
    intro m14
    induction m14 with
    | zero => intro x14_2 x14_3 bx14_3 cx14_3 ba1 ca1 hm14; have := hn_rng x14_2; exact False.elim (by omega)
    | succ m14 ih14 =>
      intro x14_2 x14_3 bx14_3 cx14_3 ba1 ca1 hm14
      refine hxa_iload_n (by rfl) rfl ?_
      refine hxa_iload_n (by rfl) rfl ?_
      refine hxj_cgt (by rfl) rfl rfl (fun q1 => ?_) (fun q1 => ?_)
      ·
        refine hxa_iload_n (by rfl) rfl ?_
        exact hxa_ireturn (by rfl) rfl (hP _ _ ⟨rfl, _, rfl⟩)
      ·
        refine hxa_iload_n (by rfl) rfl ?_
        refine hxa_iconst (by rfl) rfl ?_
        refine hxa_aload_n (by rfl) rfl ?_
        refine hxa_get (v := .ref 396) (by rfl) (by rfl) (by rfl) rfl ?_
        refine hxa_bipush (by rfl) rfl ?_
        refine hxa_iload_n (by rfl) rfl ?_
        refine hxj_iadd (by rfl) hk_50 rfl (by omega) (by omega) (fun z2 ez2 => ?_)
        refine hxj_iald395 (by rfl) rfl (by omega) (by omega) hA (fun z3 ez3 fz3 => ?_)
        refine hxj_isubU (by rfl) (fun z4 => ?_)
        refine hxj_iaddU (by rfl) (fun z5 => ?_)
        refine hxa_s1 (by rfl) (Or.inl ⟨_, rfl, rfl⟩) rfl ?_
        refine hxj_iinc (by rfl) rfl rfl hk_1 (by omega) (by omega) (fun _ => rfl) (fun z6 ez6 => ?_)
        refine hxa_goto (by rfl) ?_
        exact ih14 z5 z6 (by omega) (by omega) (by omega) (by omega) (by omega)
  refine hxa_aload_n (by rfl) rfl ?_
  refine hxa_iload_n (by rfl) rfl ?_
  refine hxa_call0 (by rfl) (by rfl) (by rfl) (by rfl) (by rfl) (by rfl) (hX167 (d := d + 0) hA a1) ?_
  rintro _ _ ⟨rfl, z7, rfl, fz7⟩
  rcases fz7 with fz7 | fz7
  ·
    refine hxj_zne (by rfl) rfl (fun q8 => ?_) (fun q8 => False.elim (by omega))
    refine hxa_iconst (by rfl) rfl ?_
    refine hxa_s1 (by rfl) (Or.inl ⟨_, rfl, rfl⟩) rfl ?_
    refine hxa_iconst (by rfl) rfl ?_
    refine hxa_s1 (by rfl) (Or.inl ⟨_, rfl, rfl⟩) rfl ?_
    exact L14 (Int.toNat (10 - 0) + 1) (Int32.ofNat 0) (Int32.ofNat 0) (by omega) (by omega) (by omega) (by omega) (by omega)
  ·
    refine hxj_zne (by rfl) rfl (fun q9 => False.elim (by omega)) (fun q9 => ?_)
    refine hxa_iconst (by rfl) rfl ?_
    exact hxa_ireturn (by rfl) rfl (hP _ _ ⟨rfl, _, rfl⟩)
theorem hX230 {d : Nat} {Bn Br : Int} {A0 A : hs_A} (hA : hJ 0 Bn Br A0 A)  (a1 : Int32) : hxC (d + 3) 230 hm_m230 [.ref 368, .int a1] A (fun r A' => A = A' ∧ ∃ z : Int32, r = some (.int z)) := hxC.of (by rfl) (hY230 hA a1 (fun r A' h => h))
theorem hY231 {d : Nat} {N : Int} {A0 A : hs_A} (hA : hJ 0 N (N + 72) A0 A) (hN : N ≤ 900000) (a1 : Int32) (a2 : Int32) (a3 : Int32) {P : Option Value → hs_A → Prop} (hP : ∀ (r : Option Value) (A' : hs_A), (hJ 0 (N + 72) (N + 144) A0 A' ∧ ∃ z : Int32, r = some (.int z)) → P r A') : hxa (d + 6) (some (.int)) hm_t231 0 [.ref 368, .int a1, .int a2, .int a3, .retAddr 0, .retAddr 0] [] A P := by
  have k0 := hk_0
  have k1 := hk_1
  have k20 := hk_20
  have k4294967295 := hk_4294967295
  have L33 : ∀ (m33 : Nat) (x33_4 : Int32) (x33_5 : Int32) (Ac33 : hs_A) (hAc33 : hJ 0 N (N + 72) A0 Ac33) (bx33_5 : 0 ≤ x33_5.toInt) (cx33_5 : x33_5.toInt ≤ 20) (ba1 : 0 ≤ a1.toInt) (ca1 : a1.toInt ≤ 9) (ba2 : 0 ≤ a2.toInt) (ca2 : a2.toInt ≤ 72) (ba3 : 1 ≤ a3.toInt) (ca3 : a3.toInt ≤ 20) (hm33 : 20 - x33_5.toInt < (m33 : Int)), hxa (d + 6) (some (.int)) hm_t231 33 [.ref 368, .int a1, .int a2, .int a3, .int x33_4, .int x33_5] [] Ac33 P := by
    intro m33
    induction m33 with
    | zero => intro x33_4 x33_5 Ac33 hAc33 bx33_5 cx33_5 ba1 ca1 ba2 ca2 ba3 ca3 hm33; have := hn_rng x33_4; exact False.elim (by omega)
    | succ m33 ih33 =>
      intro x33_4 x33_5 Ac33 hAc33 bx33_5 cx33_5 ba1 ca1 ba2 ca2 ba3 ca3 hm33
      refine hxa_iload (by rfl) rfl ?_
      refine hxa_iload_n (by rfl) rfl ?_
      refine hxj_cge (by rfl) rfl rfl (fun q1 => ?_) (fun q1 => ?_)
      ·
        refine hxa_iload (by rfl) rfl ?_
        exact hxa_ireturn (by rfl) rfl (hP _ _ ⟨(hJ.mono hAc33 (by omega) (by omega)), _, rfl⟩)
      ·
        refine hxa_aload_n (by rfl) rfl ?_
        refine hxa_call0 (by rfl) (by rfl) (by rfl) (by rfl) (by rfl) (by rfl) (hX171 (d := d + 5) hAc33 ) ?_
        rintro _ A2 ⟨hA2, rfl⟩
        refine hxa_aload_n (by rfl) rfl ?_
        refine hxa_dupR (by rfl) ?_
        refine hxj_getI (by rfl) (by rfl) (by rfl) (fun z3 ez3 => ?_)
        refine hxa_iload (by rfl) rfl ?_
        refine hxj_iaddU (by rfl) (fun z4 => ?_)
        refine hxj_putI (by rfl) (by rfl) (by rfl) (by rfl) hA2 (hbokN (by rfl)) (by rfl) (by rfl) (fun A5 hA5 eA5 fA5 => ?_)
        refine hxa_aload_n (by rfl) rfl ?_
        refine hxa_iload_n (by rfl) rfl ?_
        refine hxa_call0 (by rfl) (by rfl) (by rfl) (by rfl) (by rfl) (by rfl) (hX185 (d := d + 0) hA5 (by omega) a2 (by omega) (by omega)) ?_
        rintro _ A6 ⟨hA6, rfl⟩
        refine hxa_aload_n (by rfl) rfl ?_
        refine hxa_iload_n (by rfl) rfl ?_
        refine hxa_call0 (by rfl) (by rfl) (by rfl) (by rfl) (by rfl) (by rfl) (hX186 (d := d + 5) hA6 a1 (by omega) (by omega)) ?_
        rintro _ _ ⟨rfl, z7, rfl, fz7⟩
        refine hxj_zeq (by rfl) rfl (fun q8 => ?_) (fun q8 => ?_)
        ·
          refine hxj_iinc (by rfl) rfl rfl hk_1 (by omega) (by omega) (fun _ => rfl) (fun z9 ez9 => ?_)
          refine hxa_goto (by rfl) ?_
          exact ih33 x33_4 z9 A6 hA6 (by omega) (by omega) (by omega) (by omega) (by omega) (by omega) (by omega) (by omega) (by omega)
        ·
          refine hxj_iincU (by rfl) rfl (fun _ => rfl) (fun z10 => ?_)
          refine hxj_iinc (by rfl) rfl rfl hk_1 (by omega) (by omega) (fun _ => rfl) (fun z11 ez11 => ?_)
          refine hxa_goto (by rfl) ?_
          exact ih33 z10 z11 A6 hA6 (by omega) (by omega) (by omega) (by omega) (by omega) (by omega) (by omega) (by omega) (by omega)
  refine hxa_aload_n (by rfl) rfl ?_
  refine hxa_iload_n (by rfl) rfl ?_
  refine hxa_call0 (by rfl) (by rfl) (by rfl) (by rfl) (by rfl) (by rfl) (hX167 (d := d + 4) hA a1) ?_
  rintro _ _ ⟨rfl, z12, rfl, fz12⟩
  rcases fz12 with fz12 | fz12
  ·
    refine hxj_zeq (by rfl) rfl (fun q13 => False.elim (by omega)) (fun q13 => ?_)
    refine hxa_iload_n (by rfl) rfl ?_
    refine hxa_call2 (by rfl) (by decide) (by rfl) (by rfl) (by rfl) (hX196 (d := d + 4)  a2) ?_
    rintro _ _ ⟨rfl, z14, rfl, fz14⟩
    rcases fz14 with fz14 | fz14
    ·
      refine hxj_zeq (by rfl) rfl (fun q15 => False.elim (by omega)) (fun q15 => ?_)
      refine hxa_iload_n (by rfl) rfl ?_
      refine hxa_iconst (by rfl) rfl ?_
      refine hxa_bipush (by rfl) rfl ?_
      refine hxa_call2 (by rfl) (by decide) (by rfl) (by rfl) (by rfl) (hX164 (d := d + 5)  a3 (Int32.ofNat 1) (Int32.ofNat 20)) ?_
      rintro _ _ ⟨rfl, z16, rfl, fz16⟩
      rcases fz16 with fz16 | fz16
      ·
        refine hxj_zne (by rfl) rfl (fun q17 => ?_) (fun q17 => False.elim (by omega))
        refine hxa_iconst (by rfl) rfl ?_
        refine hxa_s1 (by rfl) (Or.inr ⟨_, rfl, rfl⟩) rfl ?_
        refine hxa_iconst (by rfl) rfl ?_
        refine hxa_s1 (by rfl) (Or.inr ⟨_, rfl, rfl⟩) rfl ?_
        exact L33 (Int.toNat (20 - 0) + 1) (Int32.ofNat 0) (Int32.ofNat 0) A hA (by omega) (by omega) (by omega) (by omega) (by omega) (by omega) (by omega) (by omega) (by omega)
      ·
        refine hxj_zne (by rfl) rfl (fun q18 => False.elim (by omega)) (fun q18 => ?_)
        refine hxa_iconst (by rfl) rfl ?_
        exact hxa_ireturn (by rfl) rfl (hP _ _ ⟨(hJ.mono hA (by omega) (by omega)), _, rfl⟩)
    ·
      refine hxj_zeq (by rfl) rfl (fun q19 => ?_) (fun q19 => False.elim (by omega))
      refine hxa_iconst (by rfl) rfl ?_
      exact hxa_ireturn (by rfl) rfl (hP _ _ ⟨(hJ.mono hA (by omega) (by omega)), _, rfl⟩)
  ·
    refine hxj_zeq (by rfl) rfl (fun q20 => ?_) (fun q20 => False.elim (by omega))
    refine hxa_iconst (by rfl) rfl ?_
    exact hxa_ireturn (by rfl) rfl (hP _ _ ⟨(hJ.mono hA (by omega) (by omega)), _, rfl⟩)
theorem hX231 {d : Nat} {N : Int} {A0 A : hs_A} (hA : hJ 0 N (N + 72) A0 A) (hN : N ≤ 900000) (a1 : Int32) (a2 : Int32) (a3 : Int32) : hxC (d + 7) 231 hm_m231 [.ref 368, .int a1, .int a2, .int a3] A (fun r A' => hJ 0 (N + 72) (N + 144) A0 A' ∧ ∃ z : Int32, r = some (.int z)) := hxC.of (by rfl) (hY231 hA hN a1 a2 a3 (fun r A' h => h))
theorem hY232 {d : Nat} {N : Int} {A0 A : hs_A} (hA : hJ 0 N (N + 72) A0 A) (hN : N ≤ 900000) (a1 : Int32) (a2 : Int32) {P : Option Value → hs_A → Prop} (hP : ∀ (r : Option Value) (A' : hs_A), (hJ 0 (N + 72) (N + 144) A0 A' ∧ ∃ z : Int32, r = some (.int z)) → P r A') : hxa (d + 2) (some (.int)) hm_t232 0 [.ref 368, .int a1, .int a2] [] A P := by
  have k4294967295 := hk_4294967295
  refine hxa_aload_n (by rfl) rfl ?_
  refine hxj_getB (by rfl) (by rfl) (by rfl) hA (by rfl) (fun z1 ez1 fz1 gz1 => ?_)
  refine hxa_bipush (by rfl) rfl ?_
  refine hxj_ceq (by rfl) rfl hk_20 (fun q2 => ?_) (fun q2 => ?_)
  ·
    refine hxa_iconst (by rfl) rfl ?_
    exact hxa_ireturn (by rfl) rfl (hP _ _ ⟨(hJ.mono hA (by omega) (by omega)), _, rfl⟩)
  ·
    refine hxa_aload_n (by rfl) rfl ?_
    refine hxa_iload_n (by rfl) rfl ?_
    refine hxa_call0 (by rfl) (by rfl) (by rfl) (by rfl) (by rfl) (by rfl) (hX167 (d := d + 0) hA a1) ?_
    rintro _ _ ⟨rfl, z3, rfl, fz3⟩
    rcases fz3 with fz3 | fz3
    ·
      refine hxj_zeq (by rfl) rfl (fun q4 => False.elim (by omega)) (fun q4 => ?_)
      refine hxa_iload_n (by rfl) rfl ?_
      refine hxa_call2 (by rfl) (by decide) (by rfl) (by rfl) (by rfl) (hX168 (d := d + 0)  a2) ?_
      rintro _ _ ⟨rfl, z5, rfl, fz5⟩
      rcases fz5 with fz5 | fz5
      ·
        refine hxj_zne (by rfl) rfl (fun q6 => ?_) (fun q6 => False.elim (by omega))
        refine hxa_aload_n (by rfl) rfl ?_
        refine hxa_get (v := .ref 407) (by rfl) (by rfl) (by rfl) rfl ?_
        refine hxa_aload_n (by rfl) rfl ?_
        refine hxj_getK (by rfl) (by rfl) (by rfl) ez1 ?_
        refine hxa_iload_n (by rfl) rfl ?_
        refine hxj_iast (by rfl) (by rfl) rfl (by omega) (by omega) hA (hbok (by rfl) rfl (by omega) (by omega)) (by rfl) (by rfl) (fun A7 hA7 eA7 fA7 gA7 => ?_)
        refine hxa_aload_n (by rfl) rfl ?_
        refine hxa_get (v := .ref 408) (by rfl) (by rfl) (by rfl) rfl ?_
        refine hxa_aload_n (by rfl) rfl ?_
        refine hxj_getK (by rfl) (by rfl) (by rfl) (hkA eA7 ez1) ?_
        refine hxa_iload_n (by rfl) rfl ?_
        refine hxj_iast (by rfl) (by rfl) rfl (by omega) (by omega) hA7 (hbokN (by rfl)) (by rfl) (by rfl) (fun A8 hA8 eA8 fA8 gA8 => ?_)
        refine hxa_aload_n (by rfl) rfl ?_
        refine hxa_dupR (by rfl) ?_
        refine hxj_getK (by rfl) (by rfl) (by rfl) (hkA eA8 (hkA eA7 ez1)) ?_
        refine hxa_iconst (by rfl) rfl ?_
        refine hxj_iadd (by rfl) rfl hk_1 (by omega) (by omega) (fun z9 ez9 => ?_)
        refine hxj_putI (by rfl) (by rfl) (by rfl) (by rfl) hA8 (hbok (by rfl) rfl (by omega) (by omega)) (by rfl) (by rfl) (fun A10 hA10 eA10 fA10 => ?_)
        refine hxa_aload_n (by rfl) rfl ?_
        refine hxj_getK (by rfl) (by rfl) (by rfl) (hkS eA10) ?_
        refine hxa_iconst (by rfl) rfl ?_
        refine hxj_isub (by rfl) rfl hk_1 (by omega) (by omega) (fun z11 ez11 => ?_)
        exact hxa_ireturn (by rfl) rfl (hP _ _ ⟨(hJ.mono hA10 (by omega) (by omega)), _, rfl⟩)
      ·
        refine hxj_zne (by rfl) rfl (fun q12 => False.elim (by omega)) (fun q12 => ?_)
        refine hxa_iconst (by rfl) rfl ?_
        exact hxa_ireturn (by rfl) rfl (hP _ _ ⟨(hJ.mono hA (by omega) (by omega)), _, rfl⟩)
    ·
      refine hxj_zeq (by rfl) rfl (fun q13 => ?_) (fun q13 => False.elim (by omega))
      refine hxa_iconst (by rfl) rfl ?_
      exact hxa_ireturn (by rfl) rfl (hP _ _ ⟨(hJ.mono hA (by omega) (by omega)), _, rfl⟩)
theorem hX232 {d : Nat} {N : Int} {A0 A : hs_A} (hA : hJ 0 N (N + 72) A0 A) (hN : N ≤ 900000) (a1 : Int32) (a2 : Int32) : hxC (d + 3) 232 hm_m232 [.ref 368, .int a1, .int a2] A (fun r A' => hJ 0 (N + 72) (N + 144) A0 A' ∧ ∃ z : Int32, r = some (.int z)) := hxC.of (by rfl) (hY232 hA hN a1 a2 (fun r A' h => h))
theorem hY233 {d : Nat} {N : Int} {A0 A : hs_A} (hA : hJ 0 N (N + 72) A0 A) (hN : N ≤ 900000)  {P : Option Value → hs_A → Prop} (hP : ∀ (r : Option Value) (A' : hs_A), (hJ 0 (N + 72) (N + 144) A0 A' ∧ ∃ z : Int32, r = some (.int z)) → P r A') : hxa (d + 0) (some (.int)) hm_t233 0 [.ref 368, .retAddr 0] [] A P := by
  refine hxa_aload_n (by rfl) rfl ?_
  refine hxj_getB (by rfl) (by rfl) (by rfl) hA (by rfl) (fun z1 ez1 fz1 gz1 => ?_)
  refine hxa_s1 (by rfl) (Or.inl ⟨_, rfl, rfl⟩) rfl ?_
  refine hxa_aload_n (by rfl) rfl ?_
  refine hxa_iconst (by rfl) rfl ?_
  refine hxj_putI (by rfl) (by rfl) (by rfl) (by rfl) hA (hbok (by rfl) hk_0 (by omega) (by omega)) (by rfl) (by rfl) (fun A2 hA2 eA2 fA2 => ?_)
  refine hxa_iload_n (by rfl) rfl ?_
  exact hxa_ireturn (by rfl) rfl (hP _ _ ⟨(hJ.mono hA2 (by omega) (by omega)), _, rfl⟩)
theorem hX233 {d : Nat} {N : Int} {A0 A : hs_A} (hA : hJ 0 N (N + 72) A0 A) (hN : N ≤ 900000)  : hxC (d + 1) 233 hm_m233 [.ref 368] A (fun r A' => hJ 0 (N + 72) (N + 144) A0 A' ∧ ∃ z : Int32, r = some (.int z)) := hxC.of (by rfl) (hY233 hA hN (fun r A' h => h))
theorem hY234 {d : Nat} {Bn Br : Int} {A0 A : hs_A} (hA : hJ 0 Bn Br A0 A)  (a1 : Int32) (q1 : a1.toInt ≤ 20) {P : Option Value → hs_A → Prop} (hP : ∀ (r : Option Value) (A' : hs_A), (hJ 0 Bn Br A0 A' ∧ ∃ z : Int32, r = some (.int z)) → P r A') : hxa (d + 6) (some (.int)) hm_t234 0 [.ref 368, .int a1, .retAddr 0, .retAddr 0, .retAddr 0] [] A P := by
  have k0 := hk_0
  have L4 : ∀ (m4 : Nat) (x4_2 : Int32) (x4_3 : Int32) (x4_4 : Value) (Ac4 : hs_A) (hAc4 : hJ 0 Bn Br A0 Ac4) (bx4_3 : 0 ≤ x4_3.toInt) (cx4_3 : x4_3.toInt ≤ 256) (hm4 : 256 - x4_3.toInt < (m4 : Int)), hxa (d + 6) (some (.int)) hm_t234 4 [.ref 368, .int a1, .int x4_2, .int x4_3, x4_4] [] Ac4 P := by
    intro m4
    induction m4 with
    | zero => intro x4_2 x4_3 x4_4 Ac4 hAc4 bx4_3 cx4_3 hm4; have := hn_rng x4_2; exact False.elim (by omega)
    | succ m4 ih4 =>
      intro x4_2 x4_3 x4_4 Ac4 hAc4 bx4_3 cx4_3 hm4
      have L21 : ∀ (m21 : Nat) (x21_4 : Int32) (Ac21 : hs_A) (hAc21 : hJ 0 Bn Br A0 Ac21) (bx21_4 : 0 ≤ x21_4.toInt) (cx21_4 : x21_4.toInt ≤ 20) (cx4_3 : x4_3.toInt ≤ 255) (hm21 : 20 - x21_4.toInt < (m21 : Int)), hxa (d + 6) (some (.int)) hm_t234 21 [.ref 368, .int a1, .int x4_2, .int x4_3, .int x21_4] [] Ac21 P := by
        intro m21
        induction m21 with
        | zero => intro x21_4 Ac21 hAc21 bx21_4 cx21_4 cx4_3 hm21;  exact False.elim (by omega)
        | succ m21 ih21 =>
          intro x21_4 Ac21 hAc21 bx21_4 cx21_4 cx4_3 hm21
          refine hxa_iload (by rfl) rfl ?_
          refine hxa_iload_n (by rfl) rfl ?_
          have rga1 := hn_rng a1
          refine hxj_cge (by rfl) rfl rfl (fun q1 => ?_) (fun q1 => ?_)
          ·
            refine hxa_aload_n (by rfl) rfl ?_
            refine hxa_get (v := .ref 402) (by rfl) (by rfl) (by rfl) rfl ?_
            refine hxa_iload_n (by rfl) rfl ?_
            refine hxj_zald (by rfl) (by rfl) rfl (by omega) (by omega) (fun z2 ez2 => ?_)
            refine hxj_zeq (by rfl) rfl (fun q3 => ?_) (fun q3 => ?_)
            ·
              refine hxj_iinc (by rfl) rfl rfl hk_1 (by omega) (by omega) (fun _ => rfl) (fun z4 ez4 => ?_)
              refine hxa_goto (by rfl) ?_
              exact ih4 x4_2 z4 (.int x21_4) Ac21 hAc21 (by omega) (by omega) (by omega)
            ·
              refine hxj_iincU (by rfl) rfl (fun _ => rfl) (fun z5 => ?_)
              refine hxj_iinc (by rfl) rfl rfl hk_1 (by omega) (by omega) (fun _ => rfl) (fun z6 ez6 => ?_)
              refine hxa_goto (by rfl) ?_
              exact ih4 z5 z6 (.int x21_4) Ac21 hAc21 (by omega) (by omega) (by omega)
          ·
            refine hxa_aload_n (by rfl) rfl ?_
            refine hxa_get (v := .ref 402) (by rfl) (by rfl) (by rfl) rfl ?_
            refine hxa_iload_n (by rfl) rfl ?_
            refine hxj_zald (by rfl) (by rfl) rfl (by omega) (by omega) (fun z7 ez7 => ?_)
            refine hxj_zeq (by rfl) rfl (fun q8 => ?_) (fun q8 => ?_)
            ·
              refine hxa_aload_n (by rfl) rfl ?_
              refine hxa_get (v := .ref 402) (by rfl) (by rfl) (by rfl) rfl ?_
              refine hxa_iload_n (by rfl) rfl ?_
              refine hxj_zald (by rfl) (by rfl) rfl (by omega) (by omega) (fun z9 ez9 => ?_)
              refine hxj_zeq (by rfl) rfl (fun q10 => ?_) (fun q10 => ?_)
              ·
                refine hxj_iinc (by rfl) rfl rfl hk_1 (by omega) (by omega) (fun _ => rfl) (fun z11 ez11 => ?_)
                refine hxa_goto (by rfl) ?_
                exact ih4 x4_2 z11 (.int x21_4) Ac21 hAc21 (by omega) (by omega) (by omega)
              ·
                refine hxj_iincU (by rfl) rfl (fun _ => rfl) (fun z12 => ?_)
                refine hxj_iinc (by rfl) rfl rfl hk_1 (by omega) (by omega) (fun _ => rfl) (fun z13 ez13 => ?_)
                refine hxa_goto (by rfl) ?_
                exact ih4 z12 z13 (.int x21_4) Ac21 hAc21 (by omega) (by omega) (by omega)
            ·
              refine hxa_aload_n (by rfl) rfl ?_
              refine hxa_get (v := .ref 402) (by rfl) (by rfl) (by rfl) rfl ?_
              refine hxa_iload_n (by rfl) rfl ?_
              refine hxa_aload_n (by rfl) rfl ?_
              refine hxa_aload_n (by rfl) rfl ?_
              refine hxa_get (v := .ref 407) (by rfl) (by rfl) (by rfl) rfl ?_
              refine hxa_iload (by rfl) rfl ?_
              refine hxj_ialdB (by rfl) (by rfl) rfl (by omega) (by omega) hAc21 (by rfl) (fun z14 ez14 fz14 gz14 => ?_)
              refine hxa_iload_n (by rfl) rfl ?_
              refine hxa_call0 (by rfl) (by rfl) (by rfl) (by rfl) (by rfl) (by rfl) (hX202 (d := d + 0) hAc21 z14 (by omega) (by omega) x4_3 (by omega) (by omega)) ?_
              rintro _ A15 ⟨hA15, z16, rfl, fz16⟩
              refine hxa_aload_n (by rfl) rfl ?_
              refine hxa_get (v := .ref 408) (by rfl) (by rfl) (by rfl) rfl ?_
              refine hxa_iload (by rfl) rfl ?_
              refine hxj_iald (by rfl) (by rfl) rfl (by omega) (by omega) (fun z17 ez17 => ?_)
              refine hxj_cne (by rfl) rfl rfl (fun q18 => ?_) (fun q18 => ?_)
              ·
                refine hxa_iconst (by rfl) rfl ?_
                refine hxj_zast (by rfl) (by rfl) rfl (by omega) (by omega) hk_0 (by omega) (by omega) hA15 (hbokN (by rfl)) (by rfl) (by rfl) (fun A19 hA19 eA19 fA19 gA19 => ?_)
                refine hxj_iinc (by rfl) rfl rfl hk_1 (by omega) (by omega) (fun _ => rfl) (fun z20 ez20 => ?_)
                refine hxa_goto (by rfl) ?_
                exact ih21 z20 A19 hA19 (by omega) (by omega) (by omega) (by omega)
              ·
                refine hxa_iconst (by rfl) rfl ?_
                refine hxa_goto (by rfl) ?_
                refine hxj_zast (by rfl) (by rfl) rfl (by omega) (by omega) hk_1 (by omega) (by omega) hA15 (hbokN (by rfl)) (by rfl) (by rfl) (fun A21 hA21 eA21 fA21 gA21 => ?_)
                refine hxj_iinc (by rfl) rfl rfl hk_1 (by omega) (by omega) (fun _ => rfl) (fun z22 ez22 => ?_)
                refine hxa_goto (by rfl) ?_
                exact ih21 z22 A21 hA21 (by omega) (by omega) (by omega) (by omega)
      refine hxa_iload_n (by rfl) rfl ?_
      refine hxa_sipush (by rfl) rfl ?_
      refine hxj_cge (by rfl) rfl hk_256 (fun q23 => ?_) (fun q23 => ?_)
      ·
        refine hxa_iload_n (by rfl) rfl ?_
        exact hxa_ireturn (by rfl) rfl (hP _ _ ⟨hAc4, _, rfl⟩)
      ·
        refine hxa_aload_n (by rfl) rfl ?_
        refine hxa_get (v := .ref 402) (by rfl) (by rfl) (by rfl) rfl ?_
        refine hxa_iload_n (by rfl) rfl ?_
        refine hxa_iconst (by rfl) rfl ?_
        refine hxj_zast (by rfl) (by rfl) rfl (by omega) (by omega) hk_1 (by omega) (by omega) hAc4 (hbokN (by rfl)) (by rfl) (by rfl) (fun A24 hA24 eA24 fA24 gA24 => ?_)
        refine hxa_iconst (by rfl) rfl ?_
        refine hxa_s1 (by rfl) (Or.inr ⟨_, rfl, rfl⟩) rfl ?_
        exact L21 (Int.toNat (20 - 0) + 1) (Int32.ofNat 0) A24 hA24 (by omega) (by omega) (by omega) (by omega)
  refine hxa_iconst (by rfl) rfl ?_
  refine hxa_s1 (by rfl) (Or.inl ⟨_, rfl, rfl⟩) rfl ?_
  refine hxa_iconst (by rfl) rfl ?_
  refine hxa_s1 (by rfl) (Or.inl ⟨_, rfl, rfl⟩) rfl ?_
  exact L4 (Int.toNat (256 - 0) + 1) (Int32.ofNat 0) (Int32.ofNat 0) (.retAddr 0) A hA (by omega) (by omega) (by omega)
theorem hX234 {d : Nat} {Bn Br : Int} {A0 A : hs_A} (hA : hJ 0 Bn Br A0 A)  (a1 : Int32) (q1 : a1.toInt ≤ 20) : hxC (d + 7) 234 hm_m234 [.ref 368, .int a1] A (fun r A' => hJ 0 Bn Br A0 A' ∧ ∃ z : Int32, r = some (.int z)) := hxC.of (by rfl) (hY234 hA a1 q1 (fun r A' h => h))
theorem hY235 {d : Nat} {N : Int} {A0 A : hs_A} (hA : hJ 0 N (N + 72) A0 A) (hN : N ≤ 900000) (a1 : Int32) (a2 : Int32) {P : Option Value → hs_A → Prop} (hP : ∀ (r : Option Value) (A' : hs_A), (hJ 0 (N + 72) (N + 144) A0 A' ∧ ∃ z : Int32, r = some (.int z)) → P r A') : hxa (d + 7) (some (.int)) hm_t235 0 [.ref 368, .int a1, .int a2, .retAddr 0, .retAddr 0, .retAddr 0, .retAddr 0, .retAddr 0] [] A P := by
  have k0 := hk_0
  have k255 := hk_255
  have k3 := hk_3
  have k4294967294 := hk_4294967294
  have k4294967295 := hk_4294967295
  have L62 : ∀ (m62 : Nat) (x62_3 : Int32) (x62_4 : Int32) (x62_5 : Int32) (x62_6 : Int32) (x62_7 : Int32) (Ac62 : hs_A) (hAc62 : hJ 0 N N A0 Ac62) (bx62_4 : -1 ≤ x62_4.toInt) (cx62_4 : x62_4.toInt ≤ 255) (bx62_5 : 0 ≤ x62_5.toInt) (cx62_5 : x62_5.toInt ≤ 255) (bx62_6 : 0 ≤ x62_6.toInt) (cx62_6 : x62_6.toInt ≤ 255) (bx62_7 : -1 ≤ x62_7.toInt) (cx62_7 : x62_7.toInt ≤ 255) (ba1 : 0 ≤ a1.toInt) (ca1 : a1.toInt ≤ 20) (ba2 : 1 ≤ a2.toInt) (ca2 : a2.toInt ≤ 3) (hm62 : x62_7.toInt - (-1) < (m62 : Int)), hxa (d + 7) (some (.int)) hm_t235 62 [.ref 368, .int a1, .int a2, .int x62_3, .int x62_4, .int x62_5, .int x62_6, .int x62_7] [] Ac62 P := by
    intro m62
    induction m62 with
    | zero => intro x62_3 x62_4 x62_5 x62_6 x62_7 Ac62 hAc62 bx62_4 cx62_4 bx62_5 cx62_5 bx62_6 cx62_6 bx62_7 cx62_7 ba1 ca1 ba2 ca2 hm62; have := hn_rng x62_3; exact False.elim (by omega)
    | succ m62 ih62 =>
      intro x62_3 x62_4 x62_5 x62_6 x62_7 Ac62 hAc62 bx62_4 cx62_4 bx62_5 cx62_5 bx62_6 cx62_6 bx62_7 cx62_7 ba1 ca1 ba2 ca2 hm62
      refine hxa_iload (by rfl) rfl ?_
      refine hxj_zlt (by rfl) rfl (fun q1 => ?_) (fun q1 => ?_)
      ·
        refine hxa_iload_n (by rfl) rfl ?_
        refine hxa_iconst (by rfl) rfl ?_
        refine hxj_cne (by rfl) rfl hk_1 (fun q2 => ?_) (fun q2 => ?_)
        ·
          refine hxa_iload_n (by rfl) rfl ?_
          refine hxa_iconst (by rfl) rfl ?_
          refine hxj_cne (by rfl) rfl hk_2 (fun q3 => ?_) (fun q3 => ?_)
          ·
            refine hxa_sipush (by rfl) rfl ?_
            refine hxa_iload (by rfl) rfl ?_
            refine hxa_iconst (by rfl) rfl ?_
            refine hxj_ixorU (by rfl) (fun z4 => ?_)
            refine hxj_iandL (by rfl) hk_255 (by omega) (fun z5 ez5 fz5 => ?_)
            exact hxa_ireturn (by rfl) rfl (hP _ _ ⟨(hJ.mono hAc62 (by omega) (by omega)), _, rfl⟩)
          ·
            refine hxa_iload (by rfl) rfl ?_
            refine hxa_goto (by rfl) ?_
            exact hxa_ireturn (by rfl) rfl (hP _ _ ⟨(hJ.mono hAc62 (by omega) (by omega)), _, rfl⟩)
        ·
          refine hxa_iload (by rfl) rfl ?_
          refine hxa_goto (by rfl) ?_
          exact hxa_ireturn (by rfl) rfl (hP _ _ ⟨(hJ.mono hAc62 (by omega) (by omega)), _, rfl⟩)
      ·
        refine hxa_aload_n (by rfl) rfl ?_
        refine hxa_get (v := .ref 402) (by rfl) (by rfl) (by rfl) rfl ?_
        refine hxa_iload (by rfl) rfl ?_
        refine hxj_zald (by rfl) (by rfl) rfl (by omega) (by omega) (fun z6 ez6 => ?_)
        refine hxj_zne (by rfl) rfl (fun q7 => ?_) (fun q7 => ?_)
        ·
          refine hxa_iload (by rfl) rfl ?_
          refine hxa_s1 (by rfl) (Or.inr ⟨_, rfl, rfl⟩) rfl ?_
          refine hxa_iload (by rfl) rfl ?_
          refine hxa_iload (by rfl) rfl ?_
          refine hxj_iandR (by rfl) rfl (by omega) (fun z8 ez8 fz8 => ?_)
          refine hxa_s1 (by rfl) (Or.inr ⟨_, rfl, rfl⟩) rfl ?_
          refine hxa_iload (by rfl) rfl ?_
          refine hxa_iload (by rfl) rfl ?_
          refine hxj_ior255 (by rfl) rfl rfl (by omega) (by omega) (by omega) (by omega) (fun z9 ez9 fz9 => ?_)
          refine hxa_s1 (by rfl) (Or.inr ⟨_, rfl, rfl⟩) rfl ?_
          refine hxj_iinc (by rfl) rfl rfl hk_4294967295 (by omega) (by omega) (fun _ => rfl) (fun z10 ez10 => ?_)
          refine hxa_goto (by rfl) ?_
          exact ih62 x62_3 x62_7 z8 z9 z10 Ac62 hAc62 (by omega) (by omega) (by omega) (by omega) (by omega) (by omega) (by omega) (by omega) (by omega) (by omega) (by omega) (by omega) (by omega)
        ·
          refine hxa_goto (by rfl) ?_
          refine hxj_iinc (by rfl) rfl rfl hk_4294967295 (by omega) (by omega) (fun _ => rfl) (fun z11 ez11 => ?_)
          refine hxa_goto (by rfl) ?_
          exact ih62 x62_3 x62_4 x62_5 x62_6 z11 Ac62 hAc62 (by omega) (by omega) (by omega) (by omega) (by omega) (by omega) (by omega) (by omega) (by omega) (by omega) (by omega) (by omega) (by omega)
  refine hxa_iload_n (by rfl) rfl ?_
  refine hxa_iconst (by rfl) rfl ?_
  refine hxa_aload_n (by rfl) rfl ?_
  refine hxj_getB (by rfl) (by rfl) (by rfl) hA (by rfl) (fun z12 ez12 fz12 gz12 => ?_)
  refine hxa_call2 (by rfl) (by decide) (by rfl) (by rfl) (by rfl) (hX164 (d := d + 6)  a1 (Int32.ofNat 0) z12) ?_
  rintro _ _ ⟨rfl, z13, rfl, fz13⟩
  rcases fz13 with fz13 | fz13
  ·
    refine hxj_zeq (by rfl) rfl (fun q14 => False.elim (by omega)) (fun q14 => ?_)
    refine hxa_iload_n (by rfl) rfl ?_
    refine hxa_iconst (by rfl) rfl ?_
    refine hxa_iconst (by rfl) rfl ?_
    refine hxa_call2 (by rfl) (by decide) (by rfl) (by rfl) (by rfl) (hX164 (d := d + 6)  a2 (Int32.ofNat 0) (Int32.ofNat 3)) ?_
    rintro _ _ ⟨rfl, z15, rfl, fz15⟩
    rcases fz15 with fz15 | fz15
    ·
      refine hxj_zne (by rfl) rfl (fun q16 => ?_) (fun q16 => False.elim (by omega))
      refine hxa_aload_n (by rfl) rfl ?_
      refine hxa_call0 (by rfl) (by rfl) (by rfl) (by rfl) (by rfl) (by rfl) (hX171 (d := d + 6) hA ) ?_
      rintro _ A17 ⟨hA17, rfl⟩
      refine hxa_aload_n (by rfl) rfl ?_
      refine hxa_iload_n (by rfl) rfl ?_
      refine hxa_call0 (by rfl) (by rfl) (by rfl) (by rfl) (by rfl) (by rfl) (hX234 (d := d + 0) hA17 a1 (by omega)) ?_
      rintro _ A18 ⟨hA18, z19, rfl⟩
      refine hxa_s1 (by rfl) (Or.inl ⟨_, rfl, rfl⟩) rfl ?_
      refine hxa_iload_n (by rfl) rfl ?_
      refine hxj_zne (by rfl) rfl (fun q20 => ?_) (fun q20 => ?_)
      ·
        refine hxa_iload_n (by rfl) rfl ?_
        refine hxj_zne (by rfl) rfl (fun q21 => ?_) (fun q21 => ?_)
        ·
          refine hxa_iconst (by rfl) rfl ?_
          refine hxa_s1 (by rfl) (Or.inr ⟨_, rfl, rfl⟩) rfl ?_
          refine hxa_sipush (by rfl) rfl ?_
          refine hxa_s1 (by rfl) (Or.inr ⟨_, rfl, rfl⟩) rfl ?_
          refine hxa_iconst (by rfl) rfl ?_
          refine hxa_s1 (by rfl) (Or.inr ⟨_, rfl, rfl⟩) rfl ?_
          refine hxa_sipush (by rfl) rfl ?_
          refine hxa_s1 (by rfl) (Or.inr ⟨_, rfl, rfl⟩) rfl ?_
          exact L62 (Int.toNat (255 - (-1)) + 1) z19 (Int32.ofNat 4294967295) (Int32.ofNat 255) (Int32.ofNat 0) (Int32.ofNat 255) A18 hA18 (by omega) (by omega) (by omega) (by omega) (by omega) (by omega) (by omega) (by omega) (by omega) (by omega) (by omega) (by omega) (by omega)
        ·
          refine hxa_bipush (by rfl) rfl ?_
          exact hxa_ireturn (by rfl) rfl (hP _ _ ⟨(hJ.mono hA18 (by omega) (by omega)), _, rfl⟩)
      ·
        refine hxa_iload_n (by rfl) rfl ?_
        exact hxa_ireturn (by rfl) rfl (hP _ _ ⟨(hJ.mono hA18 (by omega) (by omega)), _, rfl⟩)
    ·
      refine hxj_zne (by rfl) rfl (fun q22 => False.elim (by omega)) (fun q22 => ?_)
      refine hxa_iconst (by rfl) rfl ?_
      exact hxa_ireturn (by rfl) rfl (hP _ _ ⟨(hJ.mono hA (by omega) (by omega)), _, rfl⟩)
  ·
    refine hxj_zeq (by rfl) rfl (fun q23 => ?_) (fun q23 => False.elim (by omega))
    refine hxa_iconst (by rfl) rfl ?_
    exact hxa_ireturn (by rfl) rfl (hP _ _ ⟨(hJ.mono hA (by omega) (by omega)), _, rfl⟩)
theorem hX235 {d : Nat} {N : Int} {A0 A : hs_A} (hA : hJ 0 N (N + 72) A0 A) (hN : N ≤ 900000) (a1 : Int32) (a2 : Int32) : hxC (d + 8) 235 hm_m235 [.ref 368, .int a1, .int a2] A (fun r A' => hJ 0 (N + 72) (N + 144) A0 A' ∧ ∃ z : Int32, r = some (.int z)) := hxC.of (by rfl) (hY235 hA hN a1 a2 (fun r A' h => h))
