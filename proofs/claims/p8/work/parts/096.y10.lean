theorem hY208 {d : Nat} {N : Int} {A0 A : hs_A} (hA : hJ 0 N (N + 72) A0 A) (hN : N ≤ 900000) (a1 : Int32) (a2 : Int32) (a3 : Int32) {P : Option Value → hs_A → Prop} (hP : ∀ (r : Option Value) (A' : hs_A), (hJ 0 (N + 72) (N + 144) A0 A' ∧ ∃ z : Int32, r = some (.int z)) → P r A') : hxa (d + 7) (some (.int)) hm_t208 0 [.ref 368, .int a1, .int a2, .int a3, .retAddr 0, .retAddr 0, .retAddr 0, .retAddr 0] [] A P := by
  have k0 := hk_0
  have k1 := hk_1
  have k4294967295 := hk_4294967295
  have k8 := hk_8
  have L40 : ∀ (m40 : Nat) (x40_4 : Int32) (x40_5 : Int32) (x40_6 : Value) (x40_7 : Value) (Ac40 : hs_A) (hx40_6 : hc_two (some x40_6) = false) (hAc40 : hJ 0 N N A0 Ac40) (bx40_4 : 0 ≤ x40_4.toInt) (cx40_4 : x40_4.toInt ≤ 256) (bx40_5 : 0 ≤ x40_5.toInt) (cx40_5 : x40_5.toInt ≤ 256) (ba1 : 0 ≤ a1.toInt) (ca1 : a1.toInt ≤ 9) (ba2 : 1 ≤ a2.toInt) (ca2 : a2.toInt ≤ 8) (ba3 : -1 ≤ a3.toInt) (u40_0 : x40_4.toInt ≤ x40_5.toInt) (u40_1 : ∀ j : Nat, (j : Int) < x40_4.toInt → 0 ≤ (Ac40.2.1 402 j).toInt ∧ (Ac40.2.1 402 j).toInt ≤ 255) (hm40 : 256 - x40_5.toInt < (m40 : Int)), hxa (d + 7) (some (.int)) hm_t208 40 [.ref 368, .int a1, .int a2, .int a3, .int x40_4, .int x40_5, x40_6, x40_7] [] Ac40 P := by
    intro m40
    induction m40 with
    | zero => intro x40_4 x40_5 x40_6 x40_7 Ac40 hx40_6 hAc40 bx40_4 cx40_4 bx40_5 cx40_5 ba1 ca1 ba2 ca2 ba3 u40_0 u40_1 hm40;  exact False.elim (by omega)
    | succ m40 ih40 =>
      intro x40_4 x40_5 x40_6 x40_7 Ac40 hx40_6 hAc40 bx40_4 cx40_4 bx40_5 cx40_5 ba1 ca1 ba2 ca2 ba3 u40_0 u40_1 hm40
      have L54 : ∀ (m54 : Nat) (x54_6 : Int32) (x54_7 : Int32) (bx54_6 : 0 ≤ x54_6.toInt) (cx54_6 : x54_6.toInt ≤ 1) (bx54_7 : 0 ≤ x54_7.toInt) (cx54_7 : x54_7.toInt ≤ 256) (cx40_5 : x40_5.toInt ≤ 255) (hm54 : 256 - x54_7.toInt < (m54 : Int)), hxa (d + 7) (some (.int)) hm_t208 54 [.ref 368, .int a1, .int a2, .int a3, .int x40_4, .int x40_5, .int x54_6, .int x54_7] [] Ac40 P := by
        intro m54
        induction m54 with
        | zero => intro x54_6 x54_7 bx54_6 cx54_6 bx54_7 cx54_7 cx40_5 hm54;  exact False.elim (by omega)
        | succ m54 ih54 =>
          intro x54_6 x54_7 bx54_6 cx54_6 bx54_7 cx54_7 cx40_5 hm54
          refine hxa_iload (by rfl) rfl ?_
          refine hxa_iload (by rfl) rfl ?_
          refine hxj_cge (by rfl) rfl rfl (fun q1 => ?_) (fun q1 => ?_)
          ·
            refine hxa_iload (by rfl) rfl ?_
            refine hxj_zne (by rfl) rfl (fun q2 => ?_) (fun q2 => ?_)
            ·
              refine hxa_aload_n (by rfl) rfl ?_
              refine hxa_get (v := .ref 403) (by rfl) (by rfl) (by rfl) rfl ?_
              refine hxa_iload (by rfl) rfl ?_
              refine hxa_iload (by rfl) rfl ?_
              refine hxj_iast (by rfl) (by rfl) rfl (by omega) (by omega) hAc40 (hbokN (by rfl)) (by rfl) (by rfl) (fun A3 hA3 eA3 fA3 gA3 => ?_)
              refine hxj_iinc (by rfl) rfl rfl hk_1 (by omega) (by omega) (fun _ => rfl) (fun z4 ez4 => ?_)
              refine hxj_iinc (by rfl) rfl rfl hk_1 (by omega) (by omega) (fun _ => rfl) (fun z5 ez5 => ?_)
              refine hxa_goto (by rfl) ?_
              exact ih40 z4 z5 (.int x54_6) (.int x54_7) A3 rfl hA3 (by omega) (by omega) (by omega) (by omega) (by omega) (by omega) (by omega) (by omega) (by omega) (by omega) (by first | exact u40_1 | exact hcode (by assumption) u40_1 (by omega) (by omega) (by omega) (by assumption) | (intro j hj; omega)) (by omega)
            ·
              refine hxa_goto (by rfl) ?_
              refine hxj_iinc (by rfl) rfl rfl hk_1 (by omega) (by omega) (fun _ => rfl) (fun z6 ez6 => ?_)
              refine hxa_goto (by rfl) ?_
              exact ih40 x40_4 z6 (.int x54_6) (.int x54_7) Ac40 rfl hAc40 (by omega) (by omega) (by omega) (by omega) (by omega) (by omega) (by omega) (by omega) (by omega) (by omega) (by first | exact u40_1 | exact hcode (by assumption) u40_1 (by omega) (by omega) (by omega) (by assumption) | (intro j hj; omega)) (by omega)
          ·
            refine hxa_iload (by rfl) rfl ?_
            refine hxj_zeq (by rfl) rfl (fun q7 => ?_) (fun q7 => ?_)
            ·
              refine hxa_iload (by rfl) rfl ?_
              refine hxj_zne (by rfl) rfl (fun q8 => False.elim (by omega)) (fun q8 => ?_)
              refine hxa_goto (by rfl) ?_
              refine hxj_iinc (by rfl) rfl rfl hk_1 (by omega) (by omega) (fun _ => rfl) (fun z9 ez9 => ?_)
              refine hxa_goto (by rfl) ?_
              exact ih40 x40_4 z9 (.int x54_6) (.int x54_7) Ac40 rfl hAc40 (by omega) (by omega) (by omega) (by omega) (by omega) (by omega) (by omega) (by omega) (by omega) (by omega) (by first | exact u40_1 | exact hcode (by assumption) u40_1 (by omega) (by omega) (by omega) (by assumption) | (intro j hj; omega)) (by omega)
            ·
              refine hxa_aload_n (by rfl) rfl ?_
              refine hxa_get (v := .ref 401) (by rfl) (by rfl) (by rfl) rfl ?_
              refine hxa_iload (by rfl) rfl ?_
              refine hxj_ialdB (by rfl) (by rfl) rfl (by omega) (by omega) hAc40 (by rfl) (fun z10 ez10 fz10 gz10 => ?_)
              refine hxa_aload_n (by rfl) rfl ?_
              refine hxa_get (v := .ref 401) (by rfl) (by rfl) (by rfl) rfl ?_
              refine hxa_aload_n (by rfl) rfl ?_
              refine hxa_get (v := .ref 403) (by rfl) (by rfl) (by rfl) rfl ?_
              refine hxa_iload (by rfl) rfl ?_
              refine hxj_iald (by rfl) (by rfl) rfl (by omega) (by omega) (fun z11 ez11 => ?_)
              obtain ⟨fz11, gz11⟩ := u40_1 x54_7.toNatClampNeg (by rw [hn_cn (by omega)]; omega)
              rw [ez11] at fz11 gz11
              refine hxj_ialdB (by rfl) (by rfl) rfl (by omega) (by omega) hAc40 (by rfl) (fun z12 ez12 fz12 gz12 => ?_)
              refine hxj_ixorU (by rfl) (fun z13 => ?_)
              refine hxa_call2 (by rfl) (by decide) (by rfl) (by rfl) (by rfl) (hX166 (d := d + 6)  z13) ?_
              rintro _ _ ⟨rfl, z14, rfl⟩
              refine hxa_iload_n (by rfl) rfl ?_
              have rgz14 := hn_rng z14
              refine hxj_cge (by rfl) rfl rfl (fun q15 => ?_) (fun q15 => ?_)
              ·
                refine hxj_iinc (by rfl) rfl rfl hk_1 (by omega) (by omega) (fun _ => rfl) (fun z16 ez16 => ?_)
                refine hxa_goto (by rfl) ?_
                exact ih54 x54_6 z16 (by omega) (by omega) (by omega) (by omega) (by omega) (by omega)
              ·
                refine hxa_iconst (by rfl) rfl ?_
                refine hxa_s1 (by rfl) (Or.inr ⟨_, rfl, rfl⟩) rfl ?_
                refine hxj_iinc (by rfl) rfl rfl hk_1 (by omega) (by omega) (fun _ => rfl) (fun z17 ez17 => ?_)
                refine hxa_goto (by rfl) ?_
                exact ih54 (Int32.ofNat 0) z17 (by omega) (by omega) (by omega) (by omega) (by omega) (by omega)
      refine hxa_iload (by rfl) rfl ?_
      refine hxa_sipush (by rfl) rfl ?_
      refine hxj_cge (by rfl) rfl hk_256 (fun q18 => ?_) (fun q18 => ?_)
      ·
        refine hxa_iload_n (by rfl) rfl ?_
        refine hxa_iconst (by rfl) rfl ?_
        refine hxj_cne (by rfl) rfl hk_4294967295 (fun q19 => ?_) (fun q19 => ?_)
        ·
          refine hxa_iload_n (by rfl) rfl ?_
          refine hxa_iload (by rfl) rfl ?_
          have rga3 := hn_rng a3
          refine hxj_cge (by rfl) rfl rfl (fun q20 => ?_) (fun q20 => ?_)
          ·
            refine hxa_iconst (by rfl) rfl ?_
            exact hxa_ireturn (by rfl) rfl (hP _ _ ⟨(hJ.mono hAc40 (by omega) (by omega)), _, rfl⟩)
          ·
            refine hxa_aload_n (by rfl) rfl ?_
            refine hxa_get (v := .ref 403) (by rfl) (by rfl) (by rfl) rfl ?_
            refine hxa_iload_n (by rfl) rfl ?_
            refine hxj_iald (by rfl) (by rfl) rfl (by omega) (by omega) (fun z21 ez21 => ?_)
            refine hxa_goto (by rfl) ?_
            exact hxa_ireturn (by rfl) rfl (hP _ _ ⟨(hJ.mono hAc40 (by omega) (by omega)), _, rfl⟩)
        ·
          refine hxa_iload (by rfl) rfl ?_
          exact hxa_ireturn (by rfl) rfl (hP _ _ ⟨(hJ.mono hAc40 (by omega) (by omega)), _, rfl⟩)
      ·
        refine hxa_iconst (by rfl) rfl ?_
        refine hxa_s1 (by rfl) (Or.inr ⟨_, rfl, rfl⟩) rfl ?_
        refine hxa_iconst (by rfl) rfl ?_
        refine hxa_s1 (by rfl) (Or.inr ⟨_, rfl, rfl⟩) rfl ?_
        exact L54 (Int.toNat (256 - 0) + 1) (Int32.ofNat 1) (Int32.ofNat 0) (by omega) (by omega) (by omega) (by omega) (by omega) (by omega)
  refine hxa_aload_n (by rfl) rfl ?_
  refine hxa_iload_n (by rfl) rfl ?_
  refine hxa_call0 (by rfl) (by rfl) (by rfl) (by rfl) (by rfl) (by rfl) (hX167 (d := d + 5) hA a1) ?_
  rintro _ _ ⟨rfl, z22, rfl, fz22⟩
  rcases fz22 with fz22 | fz22
  ·
    refine hxj_zeq (by rfl) rfl (fun q23 => False.elim (by omega)) (fun q23 => ?_)
    refine hxa_iload_n (by rfl) rfl ?_
    refine hxa_iconst (by rfl) rfl ?_
    refine hxa_bipush (by rfl) rfl ?_
    refine hxa_call2 (by rfl) (by decide) (by rfl) (by rfl) (by rfl) (hX164 (d := d + 6)  a2 (Int32.ofNat 1) (Int32.ofNat 8)) ?_
    rintro _ _ ⟨rfl, z24, rfl, fz24⟩
    rcases fz24 with fz24 | fz24
    ·
      refine hxj_zeq (by rfl) rfl (fun q25 => False.elim (by omega)) (fun q25 => ?_)
      refine hxa_iload_n (by rfl) rfl ?_
      refine hxa_iconst (by rfl) rfl ?_
      refine hxj_cge (by rfl) rfl hk_4294967295 (fun q26 => ?_) (fun q26 => ?_)
      ·
        refine hxa_aload_n (by rfl) rfl ?_
        refine hxa_call0 (by rfl) (by rfl) (by rfl) (by rfl) (by rfl) (by rfl) (hX171 (d := d + 6) hA ) ?_
        rintro _ A27 ⟨hA27, rfl⟩
        refine hxa_aload_n (by rfl) rfl ?_
        refine hxa_iload_n (by rfl) rfl ?_
        refine hxa_call0 (by rfl) (by rfl) (by rfl) (by rfl) (by rfl) (by rfl) (hX203 (d := d + 0) hA27 a1 (by omega) (by omega)) ?_
        rintro _ A28 ⟨hA28, rfl⟩
        refine hxa_iconst (by rfl) rfl ?_
        refine hxa_s1 (by rfl) (Or.inr ⟨_, rfl, rfl⟩) rfl ?_
        refine hxa_iconst (by rfl) rfl ?_
        refine hxa_s1 (by rfl) (Or.inr ⟨_, rfl, rfl⟩) rfl ?_
        exact L40 (Int.toNat (256 - 0) + 1) (Int32.ofNat 0) (Int32.ofNat 0) (.retAddr 0) (.retAddr 0) A28 rfl hA28 (by omega) (by omega) (by omega) (by omega) (by omega) (by omega) (by omega) (by omega) (by omega) (by omega) (by first | exact u40_1 | exact hcode (by assumption) u40_1 (by omega) (by omega) (by omega) (by assumption) | (intro j hj; omega)) (by omega)
      ·
        refine hxa_iconst (by rfl) rfl ?_
        exact hxa_ireturn (by rfl) rfl (hP _ _ ⟨(hJ.mono hA (by omega) (by omega)), _, rfl⟩)
    ·
      refine hxj_zeq (by rfl) rfl (fun q29 => ?_) (fun q29 => False.elim (by omega))
      refine hxa_iconst (by rfl) rfl ?_
      exact hxa_ireturn (by rfl) rfl (hP _ _ ⟨(hJ.mono hA (by omega) (by omega)), _, rfl⟩)
  ·
    refine hxj_zeq (by rfl) rfl (fun q30 => ?_) (fun q30 => False.elim (by omega))
    refine hxa_iconst (by rfl) rfl ?_
    exact hxa_ireturn (by rfl) rfl (hP _ _ ⟨(hJ.mono hA (by omega) (by omega)), _, rfl⟩)
theorem hX208 {d : Nat} {N : Int} {A0 A : hs_A} (hA : hJ 0 N (N + 72) A0 A) (hN : N ≤ 900000) (a1 : Int32) (a2 : Int32) (a3 : Int32) : hxC (d + 8) 208 hm_m208 [.ref 368, .int a1, .int a2, .int a3] A (fun r A' => hJ 0 (N + 72) (N + 144) A0 A' ∧ ∃ z : Int32, r = some (.int z)) := hxC.of (by rfl) (hY208 hA hN a1 a2 a3 (fun r A' h => h))
theorem hY209 {d : Nat} {N : Int} {A0 A : hs_A} (hA : hJ 0 N (N + 72) A0 A) (hN : N ≤ 900000) (a1 : Int32) {P : Option Value → hs_A → Prop} (hP : ∀ (r : Option Value) (A' : hs_A), (hJ 0 (N + 72) (N + 144) A0 A' ∧ ∃ z : Int32, r = some (.int z)) → P r A') : hxa (d + 6) (some (.int)) hm_t209 0 [.ref 368, .int a1, .retAddr 0, .retAddr 0] [] A P := by
  have k0 := hk_0
  have k4294967295 := hk_4294967295
  have L18 : ∀ (m18 : Nat) (x18_2 : Int32) (x18_3 : Int32) (Ac18 : hs_A) (hAc18 : hJ 0 N N A0 Ac18) (bx18_2 : 0 ≤ x18_2.toInt) (cx18_2 : x18_2.toInt ≤ 255) (bx18_3 : 0 ≤ x18_3.toInt) (cx18_3 : x18_3.toInt ≤ 8) (ba1 : 0 ≤ a1.toInt) (ca1 : a1.toInt ≤ 9) (hm18 : 8 - x18_3.toInt < (m18 : Int)), hxa (d + 6) (some (.int)) hm_t209 18 [.ref 368, .int a1, .int x18_2, .int x18_3] [] Ac18 P := by
    intro m18
    induction m18 with
    | zero => intro x18_2 x18_3 Ac18 hAc18 bx18_2 cx18_2 bx18_3 cx18_3 ba1 ca1 hm18;  exact False.elim (by omega)
    | succ m18 ih18 =>
      intro x18_2 x18_3 Ac18 hAc18 bx18_2 cx18_2 bx18_3 cx18_3 ba1 ca1 hm18
      refine hxa_iload_n (by rfl) rfl ?_
      refine hxa_bipush (by rfl) rfl ?_
      refine hxj_cge (by rfl) rfl hk_8 (fun q1 => ?_) (fun q1 => ?_)
      ·
        refine hxa_iload_n (by rfl) rfl ?_
        exact hxa_ireturn (by rfl) rfl (hP _ _ ⟨(hJ.mono hAc18 (by omega) (by omega)), _, rfl⟩)
      ·
        refine hxa_aload_n (by rfl) rfl ?_
        refine hxa_iload_n (by rfl) rfl ?_
        refine hxa_iconst (by rfl) rfl ?_
        refine hxa_iload_n (by rfl) rfl ?_
        refine hxj_ishl1 (by rfl) rfl rfl (by omega) (by omega) (fun z2 ez2 fz2 => ?_)
        refine hxa_call0 (by rfl) (by rfl) (by rfl) (by rfl) (by rfl) (by rfl) (hX202 (d := d + 0) hAc18 a1 (by omega) (by omega) z2 (by omega) (by omega)) ?_
        rintro _ A3 ⟨hA3, z4, rfl, fz4⟩
        refine hxa_aload_n (by rfl) rfl ?_
        refine hxa_iload_n (by rfl) rfl ?_
        refine hxa_iconst (by rfl) rfl ?_
        refine hxa_call0 (by rfl) (by rfl) (by rfl) (by rfl) (by rfl) (by rfl) (hX202 (d := d + 0) hA3 a1 (by omega) (by omega) (Int32.ofNat 0) (by omega) (by omega)) ?_
        rintro _ A5 ⟨hA5, z6, rfl, fz6⟩
        refine hxj_cne (by rfl) rfl rfl (fun q7 => ?_) (fun q7 => ?_)
        ·
          refine hxj_iinc (by rfl) rfl rfl hk_1 (by omega) (by omega) (fun _ => rfl) (fun z8 ez8 => ?_)
          refine hxa_goto (by rfl) ?_
          exact ih18 x18_2 z8 A5 hA5 (by omega) (by omega) (by omega) (by omega) (by omega) (by omega) (by omega)
        ·
          refine hxa_iload_n (by rfl) rfl ?_
          refine hxa_iconst (by rfl) rfl ?_
          refine hxa_iload_n (by rfl) rfl ?_
          refine hxj_ishl1 (by rfl) rfl rfl (by omega) (by omega) (fun z9 ez9 fz9 => ?_)
          refine hxj_ior255 (by rfl) rfl rfl (by omega) (by omega) (by omega) (by omega) (fun z10 ez10 fz10 => ?_)
          refine hxa_s1 (by rfl) (Or.inl ⟨_, rfl, rfl⟩) rfl ?_
          refine hxj_iinc (by rfl) rfl rfl hk_1 (by omega) (by omega) (fun _ => rfl) (fun z11 ez11 => ?_)
          refine hxa_goto (by rfl) ?_
          exact ih18 z10 z11 A5 hA5 (by omega) (by omega) (by omega) (by omega) (by omega) (by omega) (by omega)
  refine hxa_aload_n (by rfl) rfl ?_
  refine hxa_iload_n (by rfl) rfl ?_
  refine hxa_call0 (by rfl) (by rfl) (by rfl) (by rfl) (by rfl) (by rfl) (hX167 (d := d + 4) hA a1) ?_
  rintro _ _ ⟨rfl, z12, rfl, fz12⟩
  rcases fz12 with fz12 | fz12
  ·
    refine hxj_zne (by rfl) rfl (fun q13 => ?_) (fun q13 => False.elim (by omega))
    refine hxa_aload_n (by rfl) rfl ?_
    refine hxa_call0 (by rfl) (by rfl) (by rfl) (by rfl) (by rfl) (by rfl) (hX171 (d := d + 5) hA ) ?_
    rintro _ A14 ⟨hA14, rfl⟩
    refine hxa_iconst (by rfl) rfl ?_
    refine hxa_s1 (by rfl) (Or.inl ⟨_, rfl, rfl⟩) rfl ?_
    refine hxa_iconst (by rfl) rfl ?_
    refine hxa_s1 (by rfl) (Or.inl ⟨_, rfl, rfl⟩) rfl ?_
    exact L18 (Int.toNat (8 - 0) + 1) (Int32.ofNat 0) (Int32.ofNat 0) A14 hA14 (by omega) (by omega) (by omega) (by omega) (by omega) (by omega) (by omega)
  ·
    refine hxj_zne (by rfl) rfl (fun q15 => False.elim (by omega)) (fun q15 => ?_)
    refine hxa_iconst (by rfl) rfl ?_
    exact hxa_ireturn (by rfl) rfl (hP _ _ ⟨(hJ.mono hA (by omega) (by omega)), _, rfl⟩)
theorem hX209 {d : Nat} {N : Int} {A0 A : hs_A} (hA : hJ 0 N (N + 72) A0 A) (hN : N ≤ 900000) (a1 : Int32) : hxC (d + 7) 209 hm_m209 [.ref 368, .int a1] A (fun r A' => hJ 0 (N + 72) (N + 144) A0 A' ∧ ∃ z : Int32, r = some (.int z)) := hxC.of (by rfl) (hY209 hA hN a1 (fun r A' h => h))
theorem hY210 {d : Nat} {N : Int} {A0 A : hs_A} (hA : hJ 0 N (N + 72) A0 A) (hN : N ≤ 900000) (a1 : Int32) (a2 : Int32) (a3 : Int32) {P : Option Value → hs_A → Prop} (hP : ∀ (r : Option Value) (A' : hs_A), (hJ 0 (N + 72) (N + 144) A0 A' ∧ ∃ z : Int32, r = some (.int z)) → P r A') : hxa (d + 6) (some (.int)) hm_t210 0 [.ref 368, .int a1, .int a2, .int a3] [] A P := by
  have k4294967295 := hk_4294967295
  refine hxa_aload_n (by rfl) rfl ?_
  refine hxa_iload_n (by rfl) rfl ?_
  refine hxa_call0 (by rfl) (by rfl) (by rfl) (by rfl) (by rfl) (by rfl) (hX167 (d := d + 4) hA a1) ?_
  rintro _ _ ⟨rfl, z1, rfl, fz1⟩
  rcases fz1 with fz1 | fz1
  ·
    refine hxj_zeq (by rfl) rfl (fun q2 => False.elim (by omega)) (fun q2 => ?_)
    refine hxa_iload_n (by rfl) rfl ?_
    refine hxa_call2 (by rfl) (by decide) (by rfl) (by rfl) (by rfl) (hX168 (d := d + 4)  a2) ?_
    rintro _ _ ⟨rfl, z3, rfl, fz3⟩
    rcases fz3 with fz3 | fz3
    ·
      refine hxj_zeq (by rfl) rfl (fun q4 => False.elim (by omega)) (fun q4 => ?_)
      refine hxa_iload_n (by rfl) rfl ?_
      refine hxa_call2 (by rfl) (by decide) (by rfl) (by rfl) (by rfl) (hX168 (d := d + 4)  a3) ?_
      rintro _ _ ⟨rfl, z5, rfl, fz5⟩
      rcases fz5 with fz5 | fz5
      ·
        refine hxj_zne (by rfl) rfl (fun q6 => ?_) (fun q6 => False.elim (by omega))
        refine hxa_aload_n (by rfl) rfl ?_
        refine hxa_call0 (by rfl) (by rfl) (by rfl) (by rfl) (by rfl) (by rfl) (hX171 (d := d + 5) hA ) ?_
        rintro _ A7 ⟨hA7, rfl⟩
        refine hxa_aload_n (by rfl) rfl ?_
        refine hxa_iload_n (by rfl) rfl ?_
        refine hxa_iload_n (by rfl) rfl ?_
        refine hxa_call0 (by rfl) (by rfl) (by rfl) (by rfl) (by rfl) (by rfl) (hX202 (d := d + 0) hA7 a1 (by omega) (by omega) a2 (by omega) (by omega)) ?_
        rintro _ A8 ⟨hA8, z9, rfl, fz9⟩
        refine hxa_aload_n (by rfl) rfl ?_
        refine hxa_iload_n (by rfl) rfl ?_
        refine hxa_iload_n (by rfl) rfl ?_
        refine hxa_call0 (by rfl) (by rfl) (by rfl) (by rfl) (by rfl) (by rfl) (hX202 (d := d + 0) hA8 a1 (by omega) (by omega) a3 (by omega) (by omega)) ?_
        rintro _ A10 ⟨hA10, z11, rfl, fz11⟩
        refine hxj_ixorU (by rfl) (fun z12 => ?_)
        refine hxa_call2 (by rfl) (by decide) (by rfl) (by rfl) (by rfl) (hX166 (d := d + 5)  z12) ?_
        rintro _ _ ⟨rfl, z13, rfl⟩
        exact hxa_ireturn (by rfl) rfl (hP _ _ ⟨(hJ.mono hA10 (by omega) (by omega)), _, rfl⟩)
      ·
        refine hxj_zne (by rfl) rfl (fun q14 => False.elim (by omega)) (fun q14 => ?_)
        refine hxa_iconst (by rfl) rfl ?_
        exact hxa_ireturn (by rfl) rfl (hP _ _ ⟨(hJ.mono hA (by omega) (by omega)), _, rfl⟩)
    ·
      refine hxj_zeq (by rfl) rfl (fun q15 => ?_) (fun q15 => False.elim (by omega))
      refine hxa_iconst (by rfl) rfl ?_
      exact hxa_ireturn (by rfl) rfl (hP _ _ ⟨(hJ.mono hA (by omega) (by omega)), _, rfl⟩)
  ·
    refine hxj_zeq (by rfl) rfl (fun q16 => ?_) (fun q16 => False.elim (by omega))
    refine hxa_iconst (by rfl) rfl ?_
    exact hxa_ireturn (by rfl) rfl (hP _ _ ⟨(hJ.mono hA (by omega) (by omega)), _, rfl⟩)
theorem hX210 {d : Nat} {N : Int} {A0 A : hs_A} (hA : hJ 0 N (N + 72) A0 A) (hN : N ≤ 900000) (a1 : Int32) (a2 : Int32) (a3 : Int32) : hxC (d + 7) 210 hm_m210 [.ref 368, .int a1, .int a2, .int a3] A (fun r A' => hJ 0 (N + 72) (N + 144) A0 A' ∧ ∃ z : Int32, r = some (.int z)) := hxC.of (by rfl) (hY210 hA hN a1 a2 a3 (fun r A' h => h))
theorem hY211 {d : Nat} {N : Int} {A0 A : hs_A} (hA : hJ 0 N (N + 72) A0 A) (hN : N ≤ 900000) (a1 : Int32) (a2 : Int32) {P : Option Value → hs_A → Prop} (hP : ∀ (r : Option Value) (A' : hs_A), (hJ 0 (N + 72) (N + 144) A0 A' ∧ ∃ z : Int32, r = some (.int z)) → P r A') : hxa (d + 7) (some (.int)) hm_t211 0 [.ref 368, .int a1, .int a2, .retAddr 0, .retAddr 0, .retAddr 0, .retAddr 0, .retAddr 0, .retAddr 0] [] A P := by
  have k0 := hk_0
  have k1 := hk_1
  have k2 := hk_2
  have k4294967295 := hk_4294967295
  have L39 : ∀ (m39 : Nat) (x39_3 : Int32) (x39_4 : Int32) (x39_5 : Int32) (x39_6 : Int32) (x39_7 : Value) (x39_8 : Value) (Ac39 : hs_A) (hx39_7 : hc_two (some x39_7) = false) (hAc39 : hJ 0 N N A0 Ac39) (bx39_3 : 0 ≤ x39_3.toInt) (bx39_4 : 0 ≤ x39_4.toInt) (cx39_4 : x39_4.toInt ≤ 255) (bx39_5 : 1 ≤ x39_5.toInt) (cx39_5 : x39_5.toInt ≤ 255) (bx39_6 : 0 ≤ x39_6.toInt) (cx39_6 : x39_6.toInt ≤ 256) (ba1 : 0 ≤ a1.toInt) (ca1 : a1.toInt ≤ 9) (ba2 : 0 ≤ a2.toInt) (ca2 : a2.toInt ≤ 2) (hm39 : 256 - x39_6.toInt < (m39 : Int)), hxa (d + 7) (some (.int)) hm_t211 39 [.ref 368, .int a1, .int a2, .int x39_3, .int x39_4, .int x39_5, .int x39_6, x39_7, x39_8] [] Ac39 P := by
    intro m39
    induction m39 with
    | zero => intro x39_3 x39_4 x39_5 x39_6 x39_7 x39_8 Ac39 hx39_7 hAc39 bx39_3 bx39_4 cx39_4 bx39_5 cx39_5 bx39_6 cx39_6 ba1 ca1 ba2 ca2 hm39; have := hn_rng x39_3; exact False.elim (by omega)
    | succ m39 ih39 =>
      intro x39_3 x39_4 x39_5 x39_6 x39_7 x39_8 Ac39 hx39_7 hAc39 bx39_3 bx39_4 cx39_4 bx39_5 cx39_5 bx39_6 cx39_6 ba1 ca1 ba2 ca2 hm39
      have L53 : ∀ (m53 : Nat) (x53_3 : Int32) (x53_4 : Int32) (x53_5 : Int32) (x53_7 : Int32) (x53_8 : Value) (bx53_3 : 0 ≤ x53_3.toInt) (bx53_4 : 0 ≤ x53_4.toInt) (cx53_4 : x53_4.toInt ≤ 255) (bx53_5 : 1 ≤ x53_5.toInt) (cx53_5 : x53_5.toInt ≤ 255) (bx53_7 : 1 ≤ x53_7.toInt) (cx53_7 : x53_7.toInt ≤ 256) (cx39_6 : x39_6.toInt ≤ 255) (hm53 : 256 - x53_7.toInt < (m53 : Int)), hxa (d + 7) (some (.int)) hm_t211 53 [.ref 368, .int a1, .int a2, .int x53_3, .int x53_4, .int x53_5, .int x39_6, .int x53_7, x53_8] [] Ac39 P := by
        intro m53
        induction m53 with
        | zero => intro x53_3 x53_4 x53_5 x53_7 x53_8 bx53_3 bx53_4 cx53_4 bx53_5 cx53_5 bx53_7 cx53_7 cx39_6 hm53; have := hn_rng x53_3; exact False.elim (by omega)
        | succ m53 ih53 =>
          intro x53_3 x53_4 x53_5 x53_7 x53_8 bx53_3 bx53_4 cx53_4 bx53_5 cx53_5 bx53_7 cx53_7 cx39_6 hm53
          refine hxa_iload (by rfl) rfl ?_
          refine hxa_sipush (by rfl) rfl ?_
          refine hxj_cge (by rfl) rfl hk_256 (fun q1 => ?_) (fun q1 => ?_)
          ·
            refine hxj_iinc (by rfl) rfl rfl hk_1 (by omega) (by omega) (fun _ => rfl) (fun z2 ez2 => ?_)
            refine hxa_goto (by rfl) ?_
            exact ih39 x53_3 x53_4 x53_5 z2 (.int x53_7) (x53_8) Ac39 rfl hAc39 (by omega) (by omega) (by omega) (by omega) (by omega) (by omega) (by omega) (by omega) (by omega) (by omega) (by omega) (by omega)
          ·
            refine hxa_aload_n (by rfl) rfl ?_
            refine hxa_get (v := .ref 401) (by rfl) (by rfl) (by rfl) rfl ?_
            refine hxa_iload (by rfl) rfl ?_
            refine hxj_ialdB (by rfl) (by rfl) rfl (by omega) (by omega) hAc39 (by rfl) (fun z3 ez3 fz3 gz3 => ?_)
            refine hxa_aload_n (by rfl) rfl ?_
            refine hxa_get (v := .ref 401) (by rfl) (by rfl) (by rfl) rfl ?_
            refine hxa_iload (by rfl) rfl ?_
            refine hxj_ialdB (by rfl) (by rfl) rfl (by omega) (by omega) hAc39 (by rfl) (fun z4 ez4 fz4 gz4 => ?_)
            refine hxj_ixorU (by rfl) (fun z5 => ?_)
            refine hxa_call2 (by rfl) (by decide) (by rfl) (by rfl) (by rfl) (hX166 (d := d + 6)  z5) ?_
            rintro _ _ ⟨rfl, z6, rfl⟩
            refine hxa_s1 (by rfl) (Or.inr ⟨_, rfl, rfl⟩) rfl ?_
            refine hxa_iload (by rfl) rfl ?_
            refine hxa_iload_n (by rfl) rfl ?_
            have rgz6 := hn_rng z6
            have rgx53_3 := hn_rng x53_3
            refine hxj_cgt (by rfl) rfl rfl (fun q7 => ?_) (fun q7 => ?_)
            ·
              refine hxa_iload (by rfl) rfl ?_
              refine hxa_s1 (by rfl) (Or.inl ⟨_, rfl, rfl⟩) rfl ?_
              refine hxa_iload (by rfl) rfl ?_
              refine hxa_s1 (by rfl) (Or.inr ⟨_, rfl, rfl⟩) rfl ?_
              refine hxa_iload (by rfl) rfl ?_
              refine hxa_s1 (by rfl) (Or.inr ⟨_, rfl, rfl⟩) rfl ?_
              refine hxj_iinc (by rfl) rfl rfl hk_1 (by omega) (by omega) (fun _ => rfl) (fun z8 ez8 => ?_)
              refine hxa_goto (by rfl) ?_
              exact ih53 z6 x39_6 x53_7 z8 (.int z6) (by omega) (by omega) (by omega) (by omega) (by omega) (by omega) (by omega) (by omega) (by omega)
            ·
              refine hxa_goto (by rfl) ?_
              refine hxj_iinc (by rfl) rfl rfl hk_1 (by omega) (by omega) (fun _ => rfl) (fun z9 ez9 => ?_)
              refine hxa_goto (by rfl) ?_
              exact ih53 x53_3 x53_4 x53_5 z9 (.int z6) (by omega) (by omega) (by omega) (by omega) (by omega) (by omega) (by omega) (by omega) (by omega)
      refine hxa_iload (by rfl) rfl ?_
      refine hxa_sipush (by rfl) rfl ?_
      refine hxj_cge (by rfl) rfl hk_256 (fun q10 => ?_) (fun q10 => ?_)
      ·
        refine hxa_iload_n (by rfl) rfl ?_
        refine hxj_zne (by rfl) rfl (fun q11 => ?_) (fun q11 => ?_)
        ·
          refine hxa_iload_n (by rfl) rfl ?_
          refine hxa_iconst (by rfl) rfl ?_
          refine hxj_cne (by rfl) rfl hk_1 (fun q12 => ?_) (fun q12 => ?_)
          ·
            refine hxa_iload (by rfl) rfl ?_
            exact hxa_ireturn (by rfl) rfl (hP _ _ ⟨(hJ.mono hAc39 (by omega) (by omega)), _, rfl⟩)
          ·
            refine hxa_iload (by rfl) rfl ?_
            refine hxa_goto (by rfl) ?_
            exact hxa_ireturn (by rfl) rfl (hP _ _ ⟨(hJ.mono hAc39 (by omega) (by omega)), _, rfl⟩)
        ·
          refine hxa_iload_n (by rfl) rfl ?_
          refine hxa_goto (by rfl) ?_
          exact hxa_ireturn (by rfl) rfl (hP _ _ ⟨(hJ.mono hAc39 (by omega) (by omega)), _, rfl⟩)
      ·
        refine hxa_iload (by rfl) rfl ?_
        refine hxa_iconst (by rfl) rfl ?_
        refine hxj_iadd (by rfl) rfl hk_1 (by omega) (by omega) (fun z13 ez13 => ?_)
        refine hxa_s1 (by rfl) (Or.inr ⟨_, rfl, rfl⟩) rfl ?_
        exact L53 (Int.toNat (256 - z13.toInt) + 1) x39_3 x39_4 x39_5 z13 (x39_8) (by omega) (by omega) (by omega) (by omega) (by omega) (by omega) (by omega) (by omega) (by omega)
  refine hxa_aload_n (by rfl) rfl ?_
  refine hxa_iload_n (by rfl) rfl ?_
  refine hxa_call0 (by rfl) (by rfl) (by rfl) (by rfl) (by rfl) (by rfl) (hX167 (d := d + 5) hA a1) ?_
  rintro _ _ ⟨rfl, z14, rfl, fz14⟩
  rcases fz14 with fz14 | fz14
  ·
    refine hxj_zeq (by rfl) rfl (fun q15 => False.elim (by omega)) (fun q15 => ?_)
    refine hxa_iload_n (by rfl) rfl ?_
    refine hxa_iconst (by rfl) rfl ?_
    refine hxa_iconst (by rfl) rfl ?_
    refine hxa_call2 (by rfl) (by decide) (by rfl) (by rfl) (by rfl) (hX164 (d := d + 6)  a2 (Int32.ofNat 0) (Int32.ofNat 2)) ?_
    rintro _ _ ⟨rfl, z16, rfl, fz16⟩
    rcases fz16 with fz16 | fz16
    ·
      refine hxj_zne (by rfl) rfl (fun q17 => ?_) (fun q17 => False.elim (by omega))
      refine hxa_aload_n (by rfl) rfl ?_
      refine hxa_call0 (by rfl) (by rfl) (by rfl) (by rfl) (by rfl) (by rfl) (hX171 (d := d + 6) hA ) ?_
      rintro _ A18 ⟨hA18, rfl⟩
      refine hxa_aload_n (by rfl) rfl ?_
      refine hxa_iload_n (by rfl) rfl ?_
      refine hxa_call0 (by rfl) (by rfl) (by rfl) (by rfl) (by rfl) (by rfl) (hX203 (d := d + 0) hA18 a1 (by omega) (by omega)) ?_
      rintro _ A19 ⟨hA19, rfl⟩
      refine hxa_iconst (by rfl) rfl ?_
      refine hxa_s1 (by rfl) (Or.inl ⟨_, rfl, rfl⟩) rfl ?_
      refine hxa_iconst (by rfl) rfl ?_
      refine hxa_s1 (by rfl) (Or.inr ⟨_, rfl, rfl⟩) rfl ?_
      refine hxa_iconst (by rfl) rfl ?_
      refine hxa_s1 (by rfl) (Or.inr ⟨_, rfl, rfl⟩) rfl ?_
      refine hxa_iconst (by rfl) rfl ?_
      refine hxa_s1 (by rfl) (Or.inr ⟨_, rfl, rfl⟩) rfl ?_
      exact L39 (Int.toNat (256 - 0) + 1) (Int32.ofNat 0) (Int32.ofNat 0) (Int32.ofNat 1) (Int32.ofNat 0) (.retAddr 0) (.retAddr 0) A19 rfl hA19 (by omega) (by omega) (by omega) (by omega) (by omega) (by omega) (by omega) (by omega) (by omega) (by omega) (by omega) (by omega)
    ·
      refine hxj_zne (by rfl) rfl (fun q20 => False.elim (by omega)) (fun q20 => ?_)
      refine hxa_iconst (by rfl) rfl ?_
      exact hxa_ireturn (by rfl) rfl (hP _ _ ⟨(hJ.mono hA (by omega) (by omega)), _, rfl⟩)
  ·
    refine hxj_zeq (by rfl) rfl (fun q21 => ?_) (fun q21 => False.elim (by omega))
    refine hxa_iconst (by rfl) rfl ?_
    exact hxa_ireturn (by rfl) rfl (hP _ _ ⟨(hJ.mono hA (by omega) (by omega)), _, rfl⟩)
theorem hX211 {d : Nat} {N : Int} {A0 A : hs_A} (hA : hJ 0 N (N + 72) A0 A) (hN : N ≤ 900000) (a1 : Int32) (a2 : Int32) : hxC (d + 8) 211 hm_m211 [.ref 368, .int a1, .int a2] A (fun r A' => hJ 0 (N + 72) (N + 144) A0 A' ∧ ∃ z : Int32, r = some (.int z)) := hxC.of (by rfl) (hY211 hA hN a1 a2 (fun r A' h => h))
theorem hY212 {d : Nat} {N : Int} {A0 A : hs_A} (hA : hJ 0 N (N + 72) A0 A) (hN : N ≤ 900000) (a1 : Int32) (a2 : Int32) {P : Option Value → hs_A → Prop} (hP : ∀ (r : Option Value) (A' : hs_A), (hJ 0 (N + 72) (N + 144) A0 A' ∧ ∃ z : Int32, r = some (.int z)) → P r A') : hxa (d + 7) (some (.int)) hm_t212 0 [.ref 368, .int a1, .int a2, .retAddr 0, .retAddr 0] [] A P := by
  have k0 := hk_0
  have k4294967295 := hk_4294967295
  have L37 : ∀ (m37 : Nat) (x37_3 : Int32) (x37_4 : Int32) (Ac37 : hs_A) (hAc37 : hJ 0 N N A0 Ac37) (bx37_4 : 0 ≤ x37_4.toInt) (cx37_4 : x37_4.toInt ≤ 256) (ba1 : 0 ≤ a1.toInt) (ca1 : a1.toInt ≤ 9) (ba2 : 0 ≤ a2.toInt) (ca2 : a2.toInt ≤ 9) (hm37 : 256 - x37_4.toInt < (m37 : Int)), hxa (d + 7) (some (.int)) hm_t212 37 [.ref 368, .int a1, .int a2, .int x37_3, .int x37_4] [] Ac37 P := by
    intro m37
    induction m37 with
    | zero => intro x37_3 x37_4 Ac37 hAc37 bx37_4 cx37_4 ba1 ca1 ba2 ca2 hm37; have := hn_rng x37_3; exact False.elim (by omega)
    | succ m37 ih37 =>
      intro x37_3 x37_4 Ac37 hAc37 bx37_4 cx37_4 ba1 ca1 ba2 ca2 hm37
      refine hxa_iload (by rfl) rfl ?_
      refine hxa_sipush (by rfl) rfl ?_
      refine hxj_cge (by rfl) rfl hk_256 (fun q1 => ?_) (fun q1 => ?_)
      ·
        refine hxa_iload_n (by rfl) rfl ?_
        exact hxa_ireturn (by rfl) rfl (hP _ _ ⟨(hJ.mono hAc37 (by omega) (by omega)), _, rfl⟩)
      ·
        refine hxa_aload_n (by rfl) rfl ?_
        refine hxa_iload_n (by rfl) rfl ?_
        refine hxa_iload (by rfl) rfl ?_
        refine hxa_call0 (by rfl) (by rfl) (by rfl) (by rfl) (by rfl) (by rfl) (hX202 (d := d + 1) hAc37 a2 (by omega) (by omega) x37_4 (by omega) (by omega)) ?_
        rintro _ A2 ⟨hA2, z3, rfl, fz3⟩
        refine hxa_aload_n (by rfl) rfl ?_
        refine hxa_get (v := .ref 401) (by rfl) (by rfl) (by rfl) rfl ?_
        refine hxa_iload (by rfl) rfl ?_
        refine hxj_ialdB (by rfl) (by rfl) rfl (by omega) (by omega) hA2 (by rfl) (fun z4 ez4 fz4 gz4 => ?_)
        refine hxj_cne (by rfl) rfl rfl (fun q5 => ?_) (fun q5 => ?_)
        ·
          refine hxj_iinc (by rfl) rfl rfl hk_1 (by omega) (by omega) (fun _ => rfl) (fun z6 ez6 => ?_)
          refine hxa_goto (by rfl) ?_
          exact ih37 x37_3 z6 A2 hA2 (by omega) (by omega) (by omega) (by omega) (by omega) (by omega) (by omega)
        ·
          refine hxj_iincU (by rfl) rfl (fun _ => rfl) (fun z7 => ?_)
          refine hxj_iinc (by rfl) rfl rfl hk_1 (by omega) (by omega) (fun _ => rfl) (fun z8 ez8 => ?_)
          refine hxa_goto (by rfl) ?_
          exact ih37 z7 z8 A2 hA2 (by omega) (by omega) (by omega) (by omega) (by omega) (by omega) (by omega)
  refine hxa_aload_n (by rfl) rfl ?_
  refine hxa_iload_n (by rfl) rfl ?_
  refine hxa_call0 (by rfl) (by rfl) (by rfl) (by rfl) (by rfl) (by rfl) (hX167 (d := d + 5) hA a1) ?_
  rintro _ _ ⟨rfl, z9, rfl, fz9⟩
  rcases fz9 with fz9 | fz9
  ·
    refine hxj_zeq (by rfl) rfl (fun q10 => False.elim (by omega)) (fun q10 => ?_)
    refine hxa_aload_n (by rfl) rfl ?_
    refine hxa_iload_n (by rfl) rfl ?_
    refine hxa_call0 (by rfl) (by rfl) (by rfl) (by rfl) (by rfl) (by rfl) (hX167 (d := d + 5) hA a2) ?_
    rintro _ _ ⟨rfl, z11, rfl, fz11⟩
    rcases fz11 with fz11 | fz11
    ·
      refine hxj_zeq (by rfl) rfl (fun q12 => False.elim (by omega)) (fun q12 => ?_)
      refine hxa_iload_n (by rfl) rfl ?_
      refine hxa_iload_n (by rfl) rfl ?_
      refine hxj_cne (by rfl) rfl rfl (fun q13 => ?_) (fun q13 => ?_)
      ·
        refine hxa_aload_n (by rfl) rfl ?_
        refine hxa_call0 (by rfl) (by rfl) (by rfl) (by rfl) (by rfl) (by rfl) (hX171 (d := d + 6) hA ) ?_
        rintro _ A14 ⟨hA14, rfl⟩
        refine hxa_aload_n (by rfl) rfl ?_
        refine hxa_iload_n (by rfl) rfl ?_
        refine hxa_call0 (by rfl) (by rfl) (by rfl) (by rfl) (by rfl) (by rfl) (hX203 (d := d + 0) hA14 a1 (by omega) (by omega)) ?_
        rintro _ A15 ⟨hA15, rfl⟩
        refine hxa_iconst (by rfl) rfl ?_
        refine hxa_s1 (by rfl) (Or.inl ⟨_, rfl, rfl⟩) rfl ?_
        refine hxa_iconst (by rfl) rfl ?_
        refine hxa_s1 (by rfl) (Or.inr ⟨_, rfl, rfl⟩) rfl ?_
        exact L37 (Int.toNat (256 - 0) + 1) (Int32.ofNat 0) (Int32.ofNat 0) A15 hA15 (by omega) (by omega) (by omega) (by omega) (by omega) (by omega) (by omega)
      ·
        refine hxa_iconst (by rfl) rfl ?_
        exact hxa_ireturn (by rfl) rfl (hP _ _ ⟨(hJ.mono hA (by omega) (by omega)), _, rfl⟩)
    ·
      refine hxj_zeq (by rfl) rfl (fun q16 => ?_) (fun q16 => False.elim (by omega))
      refine hxa_iconst (by rfl) rfl ?_
      exact hxa_ireturn (by rfl) rfl (hP _ _ ⟨(hJ.mono hA (by omega) (by omega)), _, rfl⟩)
  ·
    refine hxj_zeq (by rfl) rfl (fun q17 => ?_) (fun q17 => False.elim (by omega))
    refine hxa_iconst (by rfl) rfl ?_
    exact hxa_ireturn (by rfl) rfl (hP _ _ ⟨(hJ.mono hA (by omega) (by omega)), _, rfl⟩)
theorem hX212 {d : Nat} {N : Int} {A0 A : hs_A} (hA : hJ 0 N (N + 72) A0 A) (hN : N ≤ 900000) (a1 : Int32) (a2 : Int32) : hxC (d + 8) 212 hm_m212 [.ref 368, .int a1, .int a2] A (fun r A' => hJ 0 (N + 72) (N + 144) A0 A' ∧ ∃ z : Int32, r = some (.int z)) := hxC.of (by rfl) (hY212 hA hN a1 a2 (fun r A' h => h))
theorem hY213 {d : Nat} {N : Int} {A0 A : hs_A} (hA : hJ 0 N (N + 72) A0 A) (hN : N ≤ 900000) (a1 : Int32) {P : Option Value → hs_A → Prop} (hP : ∀ (r : Option Value) (A' : hs_A), (hJ 0 (N + 72) (N + 144) A0 A' ∧ ∃ z : Int32, r = some (.int z)) → P r A') : hxa (d + 6) (some (.int)) hm_t213 0 [.ref 368, .int a1, .retAddr 0] [] A P := by
  have k1 := hk_1
  have k4294967294 := hk_4294967294
  have k4294967295 := hk_4294967295
  have L16 : ∀ (m16 : Nat) (x16_2 : Int32) (Ac16 : hs_A) (hAc16 : hJ 0 N N A0 Ac16) (bx16_2 : 1 ≤ x16_2.toInt) (cx16_2 : x16_2.toInt ≤ 256) (ba1 : 0 ≤ a1.toInt) (ca1 : a1.toInt ≤ 9) (hm16 : 256 - x16_2.toInt < (m16 : Int)), hxa (d + 6) (some (.int)) hm_t213 16 [.ref 368, .int a1, .int x16_2] [] Ac16 P := by
    intro m16
    induction m16 with
    | zero => intro x16_2 Ac16 hAc16 bx16_2 cx16_2 ba1 ca1 hm16;  exact False.elim (by omega)
    | succ m16 ih16 =>
      intro x16_2 Ac16 hAc16 bx16_2 cx16_2 ba1 ca1 hm16
      refine hxa_iload_n (by rfl) rfl ?_
      refine hxa_sipush (by rfl) rfl ?_
      refine hxj_cge (by rfl) rfl hk_256 (fun q1 => ?_) (fun q1 => ?_)
      ·
        refine hxa_bipush (by rfl) rfl ?_
        exact hxa_ireturn (by rfl) rfl (hP _ _ ⟨(hJ.mono hAc16 (by omega) (by omega)), _, rfl⟩)
      ·
        refine hxa_aload_n (by rfl) rfl ?_
        refine hxa_iload_n (by rfl) rfl ?_
        refine hxa_iload_n (by rfl) rfl ?_
        refine hxa_call0 (by rfl) (by rfl) (by rfl) (by rfl) (by rfl) (by rfl) (hX202 (d := d + 0) hAc16 a1 (by omega) (by omega) x16_2 (by omega) (by omega)) ?_
        rintro _ A2 ⟨hA2, z3, rfl, fz3⟩
        refine hxa_iload_n (by rfl) rfl ?_
        refine hxj_cne (by rfl) rfl rfl (fun q4 => ?_) (fun q4 => ?_)
        ·
          refine hxj_iinc (by rfl) rfl rfl hk_1 (by omega) (by omega) (fun _ => rfl) (fun z5 ez5 => ?_)
          refine hxa_goto (by rfl) ?_
          exact ih16 z5 A2 hA2 (by omega) (by omega) (by omega) (by omega) (by omega)
        ·
          refine hxa_iload_n (by rfl) rfl ?_
          exact hxa_ireturn (by rfl) rfl (hP _ _ ⟨(hJ.mono hA2 (by omega) (by omega)), _, rfl⟩)
  refine hxa_aload_n (by rfl) rfl ?_
  refine hxa_iload_n (by rfl) rfl ?_
  refine hxa_call0 (by rfl) (by rfl) (by rfl) (by rfl) (by rfl) (by rfl) (hX167 (d := d + 4) hA a1) ?_
  rintro _ _ ⟨rfl, z6, rfl, fz6⟩
  rcases fz6 with fz6 | fz6
  ·
    refine hxj_zne (by rfl) rfl (fun q7 => ?_) (fun q7 => False.elim (by omega))
    refine hxa_aload_n (by rfl) rfl ?_
    refine hxa_call0 (by rfl) (by rfl) (by rfl) (by rfl) (by rfl) (by rfl) (hX171 (d := d + 5) hA ) ?_
    rintro _ A8 ⟨hA8, rfl⟩
    refine hxa_iconst (by rfl) rfl ?_
    refine hxa_s1 (by rfl) (Or.inl ⟨_, rfl, rfl⟩) rfl ?_
    exact L16 (Int.toNat (256 - 1) + 1) (Int32.ofNat 1) A8 hA8 (by omega) (by omega) (by omega) (by omega) (by omega)
  ·
    refine hxj_zne (by rfl) rfl (fun q9 => False.elim (by omega)) (fun q9 => ?_)
    refine hxa_iconst (by rfl) rfl ?_
    exact hxa_ireturn (by rfl) rfl (hP _ _ ⟨(hJ.mono hA (by omega) (by omega)), _, rfl⟩)
theorem hX213 {d : Nat} {N : Int} {A0 A : hs_A} (hA : hJ 0 N (N + 72) A0 A) (hN : N ≤ 900000) (a1 : Int32) : hxC (d + 7) 213 hm_m213 [.ref 368, .int a1] A (fun r A' => hJ 0 (N + 72) (N + 144) A0 A' ∧ ∃ z : Int32, r = some (.int z)) := hxC.of (by rfl) (hY213 hA hN a1 (fun r A' h => h))
theorem hY214 {d : Nat} {Bn Br : Int} {A0 A : hs_A} (hA : hJ 0 Bn Br A0 A)  (a1 : Int32) (p1 : 0 ≤ a1.toInt) (q1 : a1.toInt ≤ 9) {P : Option Value → hs_A → Prop} (hP : ∀ (r : Option Value) (A' : hs_A), (hJ 0 Bn Br A0 A' ∧ r = none) → P r A') : hxa (d + 5) none hm_t214 0 [.ref 368, .int a1, .retAddr 0] [] A P := by
  have k0 := hk_0
  have k255 := hk_255
  have L2 : ∀ (m2 : Nat) (x2_2 : Int32) (Ac2 : hs_A) (hAc2 : hJ 0 Bn Br A0 Ac2) (bx2_2 : 0 ≤ x2_2.toInt) (cx2_2 : x2_2.toInt ≤ 24) (hm2 : 24 - x2_2.toInt < (m2 : Int)), hxa (d + 5) none hm_t214 2 [.ref 368, .int a1, .int x2_2] [] Ac2 P := by
    intro m2
    induction m2 with
    | zero => intro x2_2 Ac2 hAc2 bx2_2 cx2_2 hm2;  exact False.elim (by omega)
    | succ m2 ih2 =>
      intro x2_2 Ac2 hAc2 bx2_2 cx2_2 hm2
      refine hxa_iload_n (by rfl) rfl ?_
      refine hxa_bipush (by rfl) rfl ?_
      refine hxj_cge (by rfl) rfl hk_24 (fun q1 => ?_) (fun q1 => ?_)
      ·
        exact hxa_return (by rfl) rfl (hP _ _ ⟨hAc2, rfl⟩)
      ·
        refine hxa_aload_n (by rfl) rfl ?_
        refine hxa_get (v := .ref 404) (by rfl) (by rfl) (by rfl) rfl ?_
        refine hxa_iload_n (by rfl) rfl ?_
        refine hxa_aload_n (by rfl) rfl ?_
        refine hxa_iload_n (by rfl) rfl ?_
        refine hxa_sipush (by rfl) rfl ?_
        refine hxa_aload_n (by rfl) rfl ?_
        refine hxa_get (v := .ref 397) (by rfl) (by rfl) (by rfl) rfl ?_
        refine hxa_bipush (by rfl) rfl ?_
        refine hxj_iald396 (by rfl) hk_70 (by omega) (by omega) hAc2 (fun z2 ez2 fz2 => ?_)
        refine hxa_iload_n (by rfl) rfl ?_
        refine hxj_iaddU (by rfl) (fun z3 => ?_)
        refine hxa_call0 (by rfl) (by rfl) (by rfl) (by rfl) (by rfl) (by rfl) (hX201 (d := d + 0) hAc2 a1 (by omega) (by omega) (Int32.ofNat 255) (by omega) (by omega) z3) ?_
        rintro _ A4 ⟨hA4, z5, rfl, fz5⟩
        refine hxj_iast (by rfl) (by rfl) rfl (by omega) (by omega) hA4 (hbokN (by rfl)) (by rfl) (by rfl) (fun A6 hA6 eA6 fA6 gA6 => ?_)
        refine hxj_iinc (by rfl) rfl rfl hk_1 (by omega) (by omega) (fun _ => rfl) (fun z7 ez7 => ?_)
        refine hxa_goto (by rfl) ?_
        exact ih2 z7 A6 hA6 (by omega) (by omega) (by omega)
  refine hxa_iconst (by rfl) rfl ?_
  refine hxa_s1 (by rfl) (Or.inl ⟨_, rfl, rfl⟩) rfl ?_
  exact L2 (Int.toNat (24 - 0) + 1) (Int32.ofNat 0) A hA (by omega) (by omega) (by omega)
theorem hX214 {d : Nat} {Bn Br : Int} {A0 A : hs_A} (hA : hJ 0 Bn Br A0 A)  (a1 : Int32) (p1 : 0 ≤ a1.toInt) (q1 : a1.toInt ≤ 9) : hxC (d + 6) 214 hm_m214 [.ref 368, .int a1] A (fun r A' => hJ 0 Bn Br A0 A' ∧ r = none) := hxC.of (by rfl) (hY214 hA a1 p1 q1 (fun r A' h => h))
theorem hY215 {d : Nat} {Bn Br : Int} {A0 A : hs_A} (hA : hJ 0 Bn Br A0 A)  (a1 : Int32) {P : Option Value → hs_A → Prop} (hP : ∀ (r : Option Value) (A' : hs_A), (hJ 0 Bn Br A0 A' ∧ ∃ z : Int32, r = some (.int z) ∧ ((0 ≤ z.toInt ∧ z.toInt ≤ 4))) → P r A') : hxa (d + 0) (some (.int)) hm_t215 0 [.ref 368, .int a1, .retAddr 0, .retAddr 0] [] A P := by
  have k0 := hk_0
  have k1 := hk_1
  have k2 := hk_2
  have k3 := hk_3
  have k4 := hk_4
  have L112 : ∀ (m112 : Nat) (x112_2 : Int32) (x112_3 : Value) (Ac112 : hs_A) (hAc112 : hJ 0 Bn Br A0 Ac112) (bx112_2 : 0 ≤ x112_2.toInt) (cx112_2 : x112_2.toInt ≤ 13824) (hm112 : 13824 - x112_2.toInt < (m112 : Int)), hxa (d + 0) (some (.int)) hm_t215 112 [.ref 368, .int a1, .int x112_2, x112_3] [] Ac112 P := by
    intro m112
    induction m112 with
    | zero => intro x112_2 x112_3 Ac112 hAc112 bx112_2 cx112_2 hm112;  exact False.elim (by omega)
    | succ m112 ih112 =>
      intro x112_2 x112_3 Ac112 hAc112 bx112_2 cx112_2 hm112
      refine hxa_iload_n (by rfl) rfl ?_
      refine hxa_sipush (by rfl) rfl ?_
      refine hxj_cge (by rfl) rfl hk_13824 (fun q1 => ?_) (fun q1 => ?_)
      ·
        refine hxa_iconst (by rfl) rfl ?_
        exact hxa_ireturn (by rfl) rfl (hP _ _ ⟨hAc112, _, rfl, by omega⟩)
      ·
        refine hxa_aload_n (by rfl) rfl ?_
        refine hxa_get (v := .ref 405) (by rfl) (by rfl) (by rfl) rfl ?_
        refine hxa_iconst (by rfl) rfl ?_
        refine hxa_iload_n (by rfl) rfl ?_
        refine hxa_sipush (by rfl) rfl ?_
        refine hxj_idivP (by rfl) rfl hk_576 (by omega) (by omega) (fun z2 ez2 => ?_)
        refine hxj_iast (by rfl) (by rfl) hk_0 (by omega) (by omega) hAc112 (hbok (by rfl) rfl (by omega) (by omega)) (by rfl) (by rfl) (fun A3 hA3 eA3 fA3 gA3 => ?_)
        refine hxa_aload_n (by rfl) rfl ?_
        refine hxa_get (v := .ref 405) (by rfl) (by rfl) (by rfl) rfl ?_
        refine hxa_iconst (by rfl) rfl ?_
        refine hxa_iload_n (by rfl) rfl ?_
        refine hxa_bipush (by rfl) rfl ?_
        refine hxj_idivP (by rfl) rfl hk_24 (by omega) (by omega) (fun z4 ez4 => ?_)
        refine hxa_bipush (by rfl) rfl ?_
        refine hxj_iremP (by rfl) rfl hk_24 (by omega) (by omega) (fun z5 ez5 => ?_)
        refine hxj_iast (by rfl) (by rfl) hk_1 (by omega) (by omega) hA3 (hbok (by rfl) rfl (by omega) (by omega)) (by rfl) (by rfl) (fun A6 hA6 eA6 fA6 gA6 => ?_)
        refine hxa_aload_n (by rfl) rfl ?_
        refine hxa_get (v := .ref 405) (by rfl) (by rfl) (by rfl) rfl ?_
        refine hxa_iconst (by rfl) rfl ?_
        refine hxa_iload_n (by rfl) rfl ?_
        refine hxa_bipush (by rfl) rfl ?_
        refine hxj_iremP (by rfl) rfl hk_24 (by omega) (by omega) (fun z7 ez7 => ?_)
        refine hxj_iast (by rfl) (by rfl) hk_2 (by omega) (by omega) hA6 (hbok (by rfl) rfl (by omega) (by omega)) (by rfl) (by rfl) (fun A8 hA8 eA8 fA8 gA8 => ?_)
        refine hxa_aload_n (by rfl) rfl ?_
        refine hxa_get (v := .ref 405) (by rfl) (by rfl) (by rfl) rfl ?_
        refine hxa_iconst (by rfl) rfl ?_
        refine hxj_ialdB (by rfl) (by rfl) hk_0 (by omega) (by omega) hA8 (by rfl) (fun z9 ez9 fz9 gz9 => ?_)
        refine hxa_aload_n (by rfl) rfl ?_
        refine hxa_get (v := .ref 405) (by rfl) (by rfl) (by rfl) rfl ?_
        refine hxa_iconst (by rfl) rfl ?_
        refine hxj_ialdB (by rfl) (by rfl) hk_1 (by omega) (by omega) hA8 (by rfl) (fun z10 ez10 fz10 gz10 => ?_)
        refine hxj_cge (by rfl) rfl rfl (fun q11 => ?_) (fun q11 => ?_)
        ·
          refine hxj_iinc (by rfl) rfl rfl hk_1 (by omega) (by omega) (fun _ => rfl) (fun z12 ez12 => ?_)
          refine hxa_goto (by rfl) ?_
          exact ih112 z12 (x112_3) A8 hA8 (by omega) (by omega) (by omega)
        ·
          refine hxa_aload_n (by rfl) rfl ?_
          refine hxa_get (v := .ref 405) (by rfl) (by rfl) (by rfl) rfl ?_
          refine hxa_iconst (by rfl) rfl ?_
          refine hxj_ialdB (by rfl) (by rfl) hk_1 (by omega) (by omega) hA8 (by rfl) (fun z13 ez13 fz13 gz13 => ?_)
          refine hxa_aload_n (by rfl) rfl ?_
          refine hxa_get (v := .ref 405) (by rfl) (by rfl) (by rfl) rfl ?_
          refine hxa_iconst (by rfl) rfl ?_
          refine hxj_ialdB (by rfl) (by rfl) hk_2 (by omega) (by omega) hA8 (by rfl) (fun z14 ez14 fz14 gz14 => ?_)
          refine hxj_cge (by rfl) rfl rfl (fun q15 => ?_) (fun q15 => ?_)
          ·
            refine hxj_iinc (by rfl) rfl rfl hk_1 (by omega) (by omega) (fun _ => rfl) (fun z16 ez16 => ?_)
            refine hxa_goto (by rfl) ?_
            exact ih112 z16 (x112_3) A8 hA8 (by omega) (by omega) (by omega)
          ·
            refine hxa_iload_n (by rfl) rfl ?_
            refine hxa_aload_n (by rfl) rfl ?_
            refine hxa_get (v := .ref 404) (by rfl) (by rfl) (by rfl) rfl ?_
            refine hxa_aload_n (by rfl) rfl ?_
            refine hxa_get (v := .ref 405) (by rfl) (by rfl) (by rfl) rfl ?_
            refine hxa_iconst (by rfl) rfl ?_
            refine hxj_ialdB (by rfl) (by rfl) hk_0 (by omega) (by omega) hA8 (by rfl) (fun z17 ez17 fz17 gz17 => ?_)
            refine hxj_iald (by rfl) (by rfl) rfl (by omega) (by omega) (fun z18 ez18 => ?_)
            refine hxa_iconst (by rfl) rfl ?_
            refine hxj_ixorU (by rfl) (fun z19 => ?_)
            refine hxj_iandU (by rfl) (fun z20 => ?_)
            refine hxa_aload_n (by rfl) rfl ?_
            refine hxa_get (v := .ref 404) (by rfl) (by rfl) (by rfl) rfl ?_
            refine hxa_aload_n (by rfl) rfl ?_
            refine hxa_get (v := .ref 405) (by rfl) (by rfl) (by rfl) rfl ?_
            refine hxa_iconst (by rfl) rfl ?_
            refine hxj_ialdB (by rfl) (by rfl) hk_1 (by omega) (by omega) hA8 (by rfl) (fun z21 ez21 fz21 gz21 => ?_)
            refine hxj_iald (by rfl) (by rfl) rfl (by omega) (by omega) (fun z22 ez22 => ?_)
            refine hxa_iconst (by rfl) rfl ?_
            refine hxj_ixorU (by rfl) (fun z23 => ?_)
            refine hxj_iandU (by rfl) (fun z24 => ?_)
            refine hxa_aload_n (by rfl) rfl ?_
            refine hxa_get (v := .ref 404) (by rfl) (by rfl) (by rfl) rfl ?_
            refine hxa_aload_n (by rfl) rfl ?_
            refine hxa_get (v := .ref 405) (by rfl) (by rfl) (by rfl) rfl ?_
            refine hxa_iconst (by rfl) rfl ?_
            refine hxj_ialdB (by rfl) (by rfl) hk_2 (by omega) (by omega) hA8 (by rfl) (fun z25 ez25 fz25 gz25 => ?_)
            refine hxj_iald (by rfl) (by rfl) rfl (by omega) (by omega) (fun z26 ez26 => ?_)
            refine hxa_iconst (by rfl) rfl ?_
            refine hxj_ixorU (by rfl) (fun z27 => ?_)
            refine hxj_iandU (by rfl) (fun z28 => ?_)
            refine hxj_zne (by rfl) rfl (fun q29 => ?_) (fun q29 => ?_)
            ·
              refine hxj_iinc (by rfl) rfl rfl hk_1 (by omega) (by omega) (fun _ => rfl) (fun z30 ez30 => ?_)
              refine hxa_goto (by rfl) ?_
              exact ih112 z30 (x112_3) A8 hA8 (by omega) (by omega) (by omega)
            ·
              refine hxa_iconst (by rfl) rfl ?_
              exact hxa_ireturn (by rfl) rfl (hP _ _ ⟨hA8, _, rfl, by omega⟩)
  have L44 : ∀ (m44 : Nat) (x44_2 : Int32) (x44_3 : Value) (Ac44 : hs_A) (hAc44 : hJ 0 Bn Br A0 Ac44) (bx44_2 : 0 ≤ x44_2.toInt) (cx44_2 : x44_2.toInt ≤ 24) (hm44 : 24 - x44_2.toInt < (m44 : Int)), hxa (d + 0) (some (.int)) hm_t215 44 [.ref 368, .int a1, .int x44_2, x44_3] [] Ac44 P := by
    intro m44
    induction m44 with
    | zero => intro x44_2 x44_3 Ac44 hAc44 bx44_2 cx44_2 hm44;  exact False.elim (by omega)
    | succ m44 ih44 =>
      intro x44_2 x44_3 Ac44 hAc44 bx44_2 cx44_2 hm44
      have L54 : ∀ (m54 : Nat) (x54_3 : Int32) (Ac54 : hs_A) (hAc54 : hJ 0 Bn Br A0 Ac54) (bx54_3 : 1 ≤ x54_3.toInt) (cx54_3 : x54_3.toInt ≤ 24) (cx44_2 : x44_2.toInt ≤ 23) (hm54 : 24 - x54_3.toInt < (m54 : Int)), hxa (d + 0) (some (.int)) hm_t215 54 [.ref 368, .int a1, .int x44_2, .int x54_3] [] Ac54 P := by
        intro m54
        induction m54 with
        | zero => intro x54_3 Ac54 hAc54 bx54_3 cx54_3 cx44_2 hm54;  exact False.elim (by omega)
        | succ m54 ih54 =>
          intro x54_3 Ac54 hAc54 bx54_3 cx54_3 cx44_2 hm54
          refine hxa_iload_n (by rfl) rfl ?_
          refine hxa_bipush (by rfl) rfl ?_
          refine hxj_cge (by rfl) rfl hk_24 (fun q31 => ?_) (fun q31 => ?_)
          ·
            refine hxj_iinc (by rfl) rfl rfl hk_1 (by omega) (by omega) (fun _ => rfl) (fun z32 ez32 => ?_)
            refine hxa_goto (by rfl) ?_
            exact ih44 z32 (.int x54_3) Ac54 hAc54 (by omega) (by omega) (by omega)
          ·
            refine hxa_aload_n (by rfl) rfl ?_
            refine hxa_get (v := .ref 405) (by rfl) (by rfl) (by rfl) rfl ?_
            refine hxa_iconst (by rfl) rfl ?_
            refine hxa_iload_n (by rfl) rfl ?_
            refine hxj_iast (by rfl) (by rfl) hk_0 (by omega) (by omega) hAc54 (hbok (by rfl) rfl (by omega) (by omega)) (by rfl) (by rfl) (fun A33 hA33 eA33 fA33 gA33 => ?_)
            refine hxa_aload_n (by rfl) rfl ?_
            refine hxa_get (v := .ref 405) (by rfl) (by rfl) (by rfl) rfl ?_
            refine hxa_iconst (by rfl) rfl ?_
            refine hxa_iload_n (by rfl) rfl ?_
            refine hxj_iast (by rfl) (by rfl) hk_1 (by omega) (by omega) hA33 (hbok (by rfl) rfl (by omega) (by omega)) (by rfl) (by rfl) (fun A34 hA34 eA34 fA34 gA34 => ?_)
            refine hxa_iload_n (by rfl) rfl ?_
            refine hxa_aload_n (by rfl) rfl ?_
            refine hxa_get (v := .ref 404) (by rfl) (by rfl) (by rfl) rfl ?_
            refine hxa_iload_n (by rfl) rfl ?_
            refine hxj_iald (by rfl) (by rfl) rfl (by omega) (by omega) (fun z35 ez35 => ?_)
            refine hxa_iconst (by rfl) rfl ?_
            refine hxj_ixorU (by rfl) (fun z36 => ?_)
            refine hxj_iandU (by rfl) (fun z37 => ?_)
            refine hxa_aload_n (by rfl) rfl ?_
            refine hxa_get (v := .ref 404) (by rfl) (by rfl) (by rfl) rfl ?_
            refine hxa_iload_n (by rfl) rfl ?_
            refine hxj_iald (by rfl) (by rfl) rfl (by omega) (by omega) (fun z38 ez38 => ?_)
            refine hxa_iconst (by rfl) rfl ?_
            refine hxj_ixorU (by rfl) (fun z39 => ?_)
            refine hxj_iandU (by rfl) (fun z40 => ?_)
            refine hxj_zne (by rfl) rfl (fun q41 => ?_) (fun q41 => ?_)
            ·
              refine hxj_iinc (by rfl) rfl rfl hk_1 (by omega) (by omega) (fun _ => rfl) (fun z42 ez42 => ?_)
              refine hxa_goto (by rfl) ?_
              exact ih54 z42 A34 hA34 (by omega) (by omega) (by omega) (by omega)
            ·
              refine hxa_iconst (by rfl) rfl ?_
              exact hxa_ireturn (by rfl) rfl (hP _ _ ⟨hA34, _, rfl, by omega⟩)
      refine hxa_iload_n (by rfl) rfl ?_
      refine hxa_bipush (by rfl) rfl ?_
      refine hxj_cge (by rfl) rfl hk_24 (fun q43 => ?_) (fun q43 => ?_)
      ·
        refine hxa_iconst (by rfl) rfl ?_
        refine hxa_s1 (by rfl) (Or.inl ⟨_, rfl, rfl⟩) rfl ?_
        exact L112 (Int.toNat (13824 - 0) + 1) (Int32.ofNat 0) (x44_3) Ac44 hAc44 (by omega) (by omega) (by omega)
      ·
        refine hxa_iload_n (by rfl) rfl ?_
        refine hxa_iconst (by rfl) rfl ?_
        refine hxj_iadd (by rfl) rfl hk_1 (by omega) (by omega) (fun z44 ez44 => ?_)
        refine hxa_s1 (by rfl) (Or.inl ⟨_, rfl, rfl⟩) rfl ?_
        exact L54 (Int.toNat (24 - z44.toInt) + 1) z44 Ac44 hAc44 (by omega) (by omega) (by omega) (by omega)
  have L8 : ∀ (m8 : Nat) (x8_2 : Int32) (Ac8 : hs_A) (hAc8 : hJ 0 Bn Br A0 Ac8) (bx8_2 : 0 ≤ x8_2.toInt) (cx8_2 : x8_2.toInt ≤ 24) (hm8 : 24 - x8_2.toInt < (m8 : Int)), hxa (d + 0) (some (.int)) hm_t215 8 [.ref 368, .int a1, .int x8_2, .retAddr 0] [] Ac8 P := by
    intro m8
    induction m8 with
    | zero => intro x8_2 Ac8 hAc8 bx8_2 cx8_2 hm8;  exact False.elim (by omega)
    | succ m8 ih8 =>
      intro x8_2 Ac8 hAc8 bx8_2 cx8_2 hm8
      refine hxa_iload_n (by rfl) rfl ?_
      refine hxa_bipush (by rfl) rfl ?_
      refine hxj_cge (by rfl) rfl hk_24 (fun q45 => ?_) (fun q45 => ?_)
      ·
        refine hxa_iconst (by rfl) rfl ?_
        refine hxa_s1 (by rfl) (Or.inl ⟨_, rfl, rfl⟩) rfl ?_
        exact L44 (Int.toNat (24 - 0) + 1) (Int32.ofNat 0) (.retAddr 0) Ac8 hAc8 (by omega) (by omega) (by omega)
      ·
        refine hxa_aload_n (by rfl) rfl ?_
        refine hxa_get (v := .ref 405) (by rfl) (by rfl) (by rfl) rfl ?_
        refine hxa_iconst (by rfl) rfl ?_
        refine hxa_iload_n (by rfl) rfl ?_
        refine hxj_iast (by rfl) (by rfl) hk_0 (by omega) (by omega) hAc8 (hbok (by rfl) rfl (by omega) (by omega)) (by rfl) (by rfl) (fun A46 hA46 eA46 fA46 gA46 => ?_)
        refine hxa_iload_n (by rfl) rfl ?_
        refine hxa_aload_n (by rfl) rfl ?_
        refine hxa_get (v := .ref 404) (by rfl) (by rfl) (by rfl) rfl ?_
        refine hxa_iload_n (by rfl) rfl ?_
        refine hxj_iald (by rfl) (by rfl) rfl (by omega) (by omega) (fun z47 ez47 => ?_)
        refine hxa_iconst (by rfl) rfl ?_
        refine hxj_ixorU (by rfl) (fun z48 => ?_)
        refine hxj_iandU (by rfl) (fun z49 => ?_)
        refine hxj_zne (by rfl) rfl (fun q50 => ?_) (fun q50 => ?_)
        ·
          refine hxj_iinc (by rfl) rfl rfl hk_1 (by omega) (by omega) (fun _ => rfl) (fun z51 ez51 => ?_)
          refine hxa_goto (by rfl) ?_
          exact ih8 z51 A46 hA46 (by omega) (by omega) (by omega)
        ·
          refine hxa_iconst (by rfl) rfl ?_
          exact hxa_ireturn (by rfl) rfl (hP _ _ ⟨hA46, _, rfl, by omega⟩)
  refine hxa_iload_n (by rfl) rfl ?_
  refine hxj_zne (by rfl) rfl (fun q52 => ?_) (fun q52 => ?_)
  ·
    refine hxa_iconst (by rfl) rfl ?_
    refine hxa_s1 (by rfl) (Or.inl ⟨_, rfl, rfl⟩) rfl ?_
    exact L8 (Int.toNat (24 - 0) + 1) (Int32.ofNat 0) A hA (by omega) (by omega) (by omega)
  ·
    refine hxa_iconst (by rfl) rfl ?_
    exact hxa_ireturn (by rfl) rfl (hP _ _ ⟨hA, _, rfl, by omega⟩)
theorem hX215 {d : Nat} {Bn Br : Int} {A0 A : hs_A} (hA : hJ 0 Bn Br A0 A)  (a1 : Int32) : hxC (d + 1) 215 hm_m215 [.ref 368, .int a1] A (fun r A' => hJ 0 Bn Br A0 A' ∧ ∃ z : Int32, r = some (.int z) ∧ ((0 ≤ z.toInt ∧ z.toInt ≤ 4))) := hxC.of (by rfl) (hY215 hA a1 (fun r A' h => h))
