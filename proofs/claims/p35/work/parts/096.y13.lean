theorem hY236 {d : Nat} {Bn Br : Int} {A0 A : hs_A} (hA : hJ 0 Bn Br A0 A)  (a1 : Int32) (p1 : 0 ≤ a1.toInt) (q1 : a1.toInt ≤ 9) {P : Option Value → hs_A → Prop} (hP : ∀ (r : Option Value) (A' : hs_A), (hJ 0 Bn Br A0 A' ∧ ∃ z : Int32, r = some (.int z)) → P r A') : hxa (d + 6) (some (.int)) hm_t236 0 [.ref 368, .int a1, .retAddr 0, .retAddr 0, .retAddr 0] [] A P := by
  have k0 := hk_0
  have L26 : ∀ (m26 : Nat) (x26_2 : Int32) (x26_3 : Int32) (x26_4 : Value) (Ac26 : hs_A) (hAc26 : hJ 0 Bn Br A0 Ac26) (bx26_3 : 0 ≤ x26_3.toInt) (cx26_3 : x26_3.toInt ≤ 256) (hm26 : 256 - x26_3.toInt < (m26 : Int)), hxa (d + 6) (some (.int)) hm_t236 26 [.ref 368, .int a1, .int x26_2, .int x26_3, x26_4] [] Ac26 P := by
    intro m26
    induction m26 with
    | zero => intro x26_2 x26_3 x26_4 Ac26 hAc26 bx26_3 cx26_3 hm26; have := hn_rng x26_2; exact False.elim (by omega)
    | succ m26 ih26 =>
      intro x26_2 x26_3 x26_4 Ac26 hAc26 bx26_3 cx26_3 hm26
      refine hxa_iload_n (by rfl) rfl ?_
      refine hxa_sipush (by rfl) rfl ?_
      refine hxj_cge (by rfl) rfl hk_256 (fun q1 => ?_) (fun q1 => ?_)
      ·
        refine hxa_iload_n (by rfl) rfl ?_
        exact hxa_ireturn (by rfl) rfl (hP _ _ ⟨hAc26, _, rfl⟩)
      ·
        refine hxa_aload_n (by rfl) rfl ?_
        refine hxa_get (v := .ref 402) (by rfl) (by rfl) (by rfl) rfl ?_
        refine hxa_iload_n (by rfl) rfl ?_
        refine hxj_zald (by rfl) (by rfl) rfl (by omega) (by omega) (fun z2 ez2 => ?_)
        refine hxj_zne (by rfl) rfl (fun q3 => ?_) (fun q3 => ?_)
        ·
          refine hxa_aload_n (by rfl) rfl ?_
          refine hxa_iload_n (by rfl) rfl ?_
          refine hxa_iload_n (by rfl) rfl ?_
          refine hxa_call0 (by rfl) (by rfl) (by rfl) (by rfl) (by rfl) (by rfl) (hX202 (d := d + 0) hAc26 a1 (by omega) (by omega) x26_3 (by omega) (by omega)) ?_
          rintro _ A4 ⟨hA4, z5, rfl, fz5⟩
          refine hxa_s1 (by rfl) (Or.inr ⟨_, rfl, rfl⟩) rfl ?_
          refine hxa_aload_n (by rfl) rfl ?_
          refine hxa_get (v := .ref 403) (by rfl) (by rfl) (by rfl) rfl ?_
          refine hxa_iload (by rfl) rfl ?_
          refine hxa_dup2IR (by rfl) ?_
          refine hxj_iald (by rfl) (by rfl) rfl (by omega) (by omega) (fun z6 ez6 => ?_)
          refine hxa_iconst (by rfl) rfl ?_
          refine hxj_iaddU (by rfl) (fun z7 => ?_)
          refine hxj_iast (by rfl) (by rfl) rfl (by omega) (by omega) hA4 (hbokN (by rfl)) (by rfl) (by rfl) (fun A8 hA8 eA8 fA8 gA8 => ?_)
          refine hxa_aload_n (by rfl) rfl ?_
          refine hxa_get (v := .ref 403) (by rfl) (by rfl) (by rfl) rfl ?_
          refine hxa_iload (by rfl) rfl ?_
          refine hxj_iald (by rfl) (by rfl) rfl (by omega) (by omega) (fun z9 ez9 => ?_)
          refine hxa_iload_n (by rfl) rfl ?_
          have rgz9 := hn_rng z9
          have rgx26_2 := hn_rng x26_2
          refine hxj_cle (by rfl) rfl rfl (fun q10 => ?_) (fun q10 => ?_)
          ·
            refine hxj_iinc (by rfl) rfl rfl hk_1 (by omega) (by omega) (fun _ => rfl) (fun z11 ez11 => ?_)
            refine hxa_goto (by rfl) ?_
            exact ih26 x26_2 z11 (.int z5) A8 hA8 (by omega) (by omega) (by omega)
          ·
            refine hxa_aload_n (by rfl) rfl ?_
            refine hxa_get (v := .ref 403) (by rfl) (by rfl) (by rfl) rfl ?_
            refine hxa_iload (by rfl) rfl ?_
            refine hxj_iald (by rfl) (by rfl) rfl (by omega) (by omega) (fun z12 ez12 => ?_)
            refine hxa_s1 (by rfl) (Or.inl ⟨_, rfl, rfl⟩) rfl ?_
            refine hxj_iinc (by rfl) rfl rfl hk_1 (by omega) (by omega) (fun _ => rfl) (fun z13 ez13 => ?_)
            refine hxa_goto (by rfl) ?_
            exact ih26 z12 z13 (.int z5) A8 hA8 (by omega) (by omega) (by omega)
        ·
          refine hxa_goto (by rfl) ?_
          refine hxj_iinc (by rfl) rfl rfl hk_1 (by omega) (by omega) (fun _ => rfl) (fun z14 ez14 => ?_)
          refine hxa_goto (by rfl) ?_
          exact ih26 x26_2 z14 (x26_4) Ac26 hAc26 (by omega) (by omega) (by omega)
  have L2 : ∀ (m2 : Nat) (x2_2 : Int32) (Ac2 : hs_A) (hAc2 : hJ 0 Bn Br A0 Ac2) (bx2_2 : 0 ≤ x2_2.toInt) (cx2_2 : x2_2.toInt ≤ 256) (hm2 : 256 - x2_2.toInt < (m2 : Int)), hxa (d + 6) (some (.int)) hm_t236 2 [.ref 368, .int a1, .int x2_2, .retAddr 0, .retAddr 0] [] Ac2 P := by
    intro m2
    induction m2 with
    | zero => intro x2_2 Ac2 hAc2 bx2_2 cx2_2 hm2;  exact False.elim (by omega)
    | succ m2 ih2 =>
      intro x2_2 Ac2 hAc2 bx2_2 cx2_2 hm2
      refine hxa_iload_n (by rfl) rfl ?_
      refine hxa_sipush (by rfl) rfl ?_
      refine hxj_cge (by rfl) rfl hk_256 (fun q15 => ?_) (fun q15 => ?_)
      ·
        refine hxa_iconst (by rfl) rfl ?_
        refine hxa_s1 (by rfl) (Or.inl ⟨_, rfl, rfl⟩) rfl ?_
        refine hxa_iconst (by rfl) rfl ?_
        refine hxa_s1 (by rfl) (Or.inl ⟨_, rfl, rfl⟩) rfl ?_
        exact L26 (Int.toNat (256 - 0) + 1) (Int32.ofNat 0) (Int32.ofNat 0) (.retAddr 0) Ac2 hAc2 (by omega) (by omega) (by omega)
      ·
        refine hxa_aload_n (by rfl) rfl ?_
        refine hxa_get (v := .ref 403) (by rfl) (by rfl) (by rfl) rfl ?_
        refine hxa_iload_n (by rfl) rfl ?_
        refine hxa_iconst (by rfl) rfl ?_
        refine hxj_iast (by rfl) (by rfl) rfl (by omega) (by omega) hAc2 (hbokN (by rfl)) (by rfl) (by rfl) (fun A16 hA16 eA16 fA16 gA16 => ?_)
        refine hxj_iinc (by rfl) rfl rfl hk_1 (by omega) (by omega) (fun _ => rfl) (fun z17 ez17 => ?_)
        refine hxa_goto (by rfl) ?_
        exact ih2 z17 A16 hA16 (by omega) (by omega) (by omega)
  refine hxa_iconst (by rfl) rfl ?_
  refine hxa_s1 (by rfl) (Or.inl ⟨_, rfl, rfl⟩) rfl ?_
  exact L2 (Int.toNat (256 - 0) + 1) (Int32.ofNat 0) A hA (by omega) (by omega) (by omega)
theorem hX236 {d : Nat} {Bn Br : Int} {A0 A : hs_A} (hA : hJ 0 Bn Br A0 A)  (a1 : Int32) (p1 : 0 ≤ a1.toInt) (q1 : a1.toInt ≤ 9) : hxC (d + 7) 236 hm_m236 [.ref 368, .int a1] A (fun r A' => hJ 0 Bn Br A0 A' ∧ ∃ z : Int32, r = some (.int z)) := hxC.of (by rfl) (hY236 hA a1 p1 q1 (fun r A' h => h))
theorem hY237 {d : Nat} {N : Int} {A0 A : hs_A} (hA : hJ 0 N (N + 72) A0 A) (hN : N ≤ 900000) (a1 : Int32) {P : Option Value → hs_A → Prop} (hP : ∀ (r : Option Value) (A' : hs_A), (hJ 0 (N + 72) (N + 144) A0 A' ∧ ∃ z : Int32, r = some (.int z)) → P r A') : hxa (d + 7) (some (.int)) hm_t237 0 [.ref 368, .int a1, .retAddr 0, .retAddr 0, .retAddr 0, .retAddr 0] [] A P := by
  have k0 := hk_0
  have k4294967294 := hk_4294967294
  have k4294967295 := hk_4294967295
  have L37 : ∀ (m37 : Nat) (x37_2 : Int32) (x37_3 : Int32) (x37_4 : Int32) (x37_5 : Value) (Ac37 : hs_A) (hAc37 : hJ 0 N N A0 Ac37) (bx37_2 : -2 ≤ x37_2.toInt) (cx37_2 : x37_2.toInt ≤ 9) (bx37_4 : 0 ≤ x37_4.toInt) (cx37_4 : x37_4.toInt ≤ 10) (ba1 : 0 ≤ a1.toInt) (ca1 : a1.toInt ≤ 20) (hm37 : 10 - x37_4.toInt < (m37 : Int)), hxa (d + 7) (some (.int)) hm_t237 37 [.ref 368, .int a1, .int x37_2, .int x37_3, .int x37_4, x37_5] [] Ac37 P := by
    intro m37
    induction m37 with
    | zero => intro x37_2 x37_3 x37_4 x37_5 Ac37 hAc37 bx37_2 cx37_2 bx37_4 cx37_4 ba1 ca1 hm37; have := hn_rng x37_3; exact False.elim (by omega)
    | succ m37 ih37 =>
      intro x37_2 x37_3 x37_4 x37_5 Ac37 hAc37 bx37_2 cx37_2 bx37_4 cx37_4 ba1 ca1 hm37
      refine hxa_iload (by rfl) rfl ?_
      refine hxa_aload_n (by rfl) rfl ?_
      refine hxa_get (v := .ref 377) (by rfl) (by rfl) (by rfl) rfl ?_
      refine hxa_aload_n (by rfl) rfl ?_
      refine hxj_getB (by rfl) (by rfl) (by rfl) hAc37 (by rfl) (fun z1 ez1 fz1 gz1 => ?_)
      refine hxj_ialdB (by rfl) (by rfl) rfl (by omega) (by omega) hAc37 (by rfl) (fun z2 ez2 fz2 gz2 => ?_)
      refine hxj_cge (by rfl) rfl rfl (fun q3 => ?_) (fun q3 => ?_)
      ·
        refine hxa_iload_n (by rfl) rfl ?_
        exact hxa_ireturn (by rfl) rfl (hP _ _ ⟨(hJ.mono hAc37 (by omega) (by omega)), _, rfl⟩)
      ·
        refine hxa_aload_n (by rfl) rfl ?_
        refine hxa_iload (by rfl) rfl ?_
        refine hxa_call0 (by rfl) (by rfl) (by rfl) (by rfl) (by rfl) (by rfl) (hX236 (d := d + 0) hAc37 x37_4 (by omega) (by omega)) ?_
        rintro _ A4 ⟨hA4, z5, rfl⟩
        refine hxa_s1 (by rfl) (Or.inr ⟨_, rfl, rfl⟩) rfl ?_
        refine hxa_iload_n (by rfl) rfl ?_
        refine hxj_zlt (by rfl) rfl (fun q6 => ?_) (fun q6 => ?_)
        ·
          refine hxa_iload (by rfl) rfl ?_
          refine hxa_s1 (by rfl) (Or.inl ⟨_, rfl, rfl⟩) rfl ?_
          refine hxa_iload (by rfl) rfl ?_
          refine hxa_s1 (by rfl) (Or.inl ⟨_, rfl, rfl⟩) rfl ?_
          refine hxj_iinc (by rfl) rfl rfl hk_1 (by omega) (by omega) (fun _ => rfl) (fun z7 ez7 => ?_)
          refine hxa_goto (by rfl) ?_
          exact ih37 x37_4 z5 z7 (.int z5) A4 hA4 (by omega) (by omega) (by omega) (by omega) (by omega) (by omega) (by omega)
        ·
          refine hxa_iload (by rfl) rfl ?_
          refine hxa_iload_n (by rfl) rfl ?_
          have rgz5 := hn_rng z5
          have rgx37_3 := hn_rng x37_3
          refine hxj_clt (by rfl) rfl rfl (fun q8 => ?_) (fun q8 => ?_)
          ·
            refine hxa_iload (by rfl) rfl ?_
            refine hxa_s1 (by rfl) (Or.inl ⟨_, rfl, rfl⟩) rfl ?_
            refine hxa_iload (by rfl) rfl ?_
            refine hxa_s1 (by rfl) (Or.inl ⟨_, rfl, rfl⟩) rfl ?_
            refine hxj_iinc (by rfl) rfl rfl hk_1 (by omega) (by omega) (fun _ => rfl) (fun z9 ez9 => ?_)
            refine hxa_goto (by rfl) ?_
            exact ih37 x37_4 z5 z9 (.int z5) A4 hA4 (by omega) (by omega) (by omega) (by omega) (by omega) (by omega) (by omega)
          ·
            refine hxa_goto (by rfl) ?_
            refine hxj_iinc (by rfl) rfl rfl hk_1 (by omega) (by omega) (fun _ => rfl) (fun z10 ez10 => ?_)
            refine hxa_goto (by rfl) ?_
            exact ih37 x37_2 x37_3 z10 (.int z5) A4 hA4 (by omega) (by omega) (by omega) (by omega) (by omega) (by omega) (by omega)
  refine hxa_iload_n (by rfl) rfl ?_
  refine hxa_iconst (by rfl) rfl ?_
  refine hxa_aload_n (by rfl) rfl ?_
  refine hxj_getB (by rfl) (by rfl) (by rfl) hA (by rfl) (fun z11 ez11 fz11 gz11 => ?_)
  refine hxa_call2 (by rfl) (by decide) (by rfl) (by rfl) (by rfl) (hX164 (d := d + 6)  a1 (Int32.ofNat 0) z11) ?_
  rintro _ _ ⟨rfl, z12, rfl, fz12⟩
  rcases fz12 with fz12 | fz12
  ·
    refine hxj_zne (by rfl) rfl (fun q13 => ?_) (fun q13 => False.elim (by omega))
    refine hxa_aload_n (by rfl) rfl ?_
    refine hxa_call0 (by rfl) (by rfl) (by rfl) (by rfl) (by rfl) (by rfl) (hX171 (d := d + 6) hA ) ?_
    rintro _ A14 ⟨hA14, rfl⟩
    refine hxa_aload_n (by rfl) rfl ?_
    refine hxa_iload_n (by rfl) rfl ?_
    refine hxa_call0 (by rfl) (by rfl) (by rfl) (by rfl) (by rfl) (by rfl) (hX234 (d := d + 0) hA14 a1 (by omega)) ?_
    rintro _ A15 ⟨hA15, z16, rfl⟩
    refine hxj_zne (by rfl) rfl (fun q17 => ?_) (fun q17 => ?_)
    ·
      refine hxa_bipush (by rfl) rfl ?_
      refine hxa_s1 (by rfl) (Or.inl ⟨_, rfl, rfl⟩) rfl ?_
      refine hxa_iconst (by rfl) rfl ?_
      refine hxa_s1 (by rfl) (Or.inl ⟨_, rfl, rfl⟩) rfl ?_
      refine hxa_iconst (by rfl) rfl ?_
      refine hxa_s1 (by rfl) (Or.inr ⟨_, rfl, rfl⟩) rfl ?_
      exact L37 (Int.toNat (10 - 0) + 1) (Int32.ofNat 4294967294) (Int32.ofNat 0) (Int32.ofNat 0) (.retAddr 0) A15 hA15 (by omega) (by omega) (by omega) (by omega) (by omega) (by omega) (by omega)
    ·
      refine hxa_bipush (by rfl) rfl ?_
      exact hxa_ireturn (by rfl) rfl (hP _ _ ⟨(hJ.mono hA15 (by omega) (by omega)), _, rfl⟩)
  ·
    refine hxj_zne (by rfl) rfl (fun q18 => False.elim (by omega)) (fun q18 => ?_)
    refine hxa_iconst (by rfl) rfl ?_
    exact hxa_ireturn (by rfl) rfl (hP _ _ ⟨(hJ.mono hA (by omega) (by omega)), _, rfl⟩)
theorem hX237 {d : Nat} {N : Int} {A0 A : hs_A} (hA : hJ 0 N (N + 72) A0 A) (hN : N ≤ 900000) (a1 : Int32) : hxC (d + 8) 237 hm_m237 [.ref 368, .int a1] A (fun r A' => hJ 0 (N + 72) (N + 144) A0 A' ∧ ∃ z : Int32, r = some (.int z)) := hxC.of (by rfl) (hY237 hA hN a1 (fun r A' h => h))
theorem hY238 {d : Nat} {N : Int} {A0 A : hs_A} (hA : hJ 0 N (N + 72) A0 A) (hN : N ≤ 900000) (a1 : Int32) {P : Option Value → hs_A → Prop} (hP : ∀ (r : Option Value) (A' : hs_A), (hJ 0 (N + 72) (N + 144) A0 A' ∧ ∃ z : Int32, r = some (.int z) ∧ ((0 ≤ z.toInt ∧ z.toInt ≤ 1))) → P r A') : hxa (d + 1) (some (.boolean)) hm_t238 0 [.ref 368, .int a1, .retAddr 0] [] A P := by
  have k0 := hk_0
  have k1 := hk_1
  have k2 := hk_2
  have L20 : ∀ (m20 : Nat) (x20_2 : Int32) (Ac20 : hs_A) (hAc20 : hJ 0 N (N + 72) A0 Ac20) (bx20_2 : 0 ≤ x20_2.toInt) (cx20_2 : x20_2.toInt ≤ 73) (ba1 : 0 ≤ a1.toInt) (ca1 : a1.toInt ≤ 2) (hm20 : 73 - x20_2.toInt < (m20 : Int)), hxa (d + 1) (some (.boolean)) hm_t238 20 [.ref 368, .int a1, .int x20_2] [] Ac20 P := by
    intro m20
    induction m20 with
    | zero => intro x20_2 Ac20 hAc20 bx20_2 cx20_2 ba1 ca1 hm20;  exact False.elim (by omega)
    | succ m20 ih20 =>
      intro x20_2 Ac20 hAc20 bx20_2 cx20_2 ba1 ca1 hm20
      refine hxa_iload_n (by rfl) rfl ?_
      refine hxa_bipush (by rfl) rfl ?_
      refine hxj_cge (by rfl) rfl hk_73 (fun q1 => ?_) (fun q1 => ?_)
      ·
        refine hxa_iconst (by rfl) rfl ?_
        exact hxa_ireturn (by rfl) (by rfl) (hP _ _ ⟨(hJ.mono hAc20 (by omega) (by omega)), _, rfl, by omega⟩)
      ·
        refine hxa_aload_n (by rfl) rfl ?_
        refine hxa_get (v := .ref 410) (by rfl) (by rfl) (by rfl) rfl ?_
        refine hxa_bipush (by rfl) rfl ?_
        refine hxa_iload_n (by rfl) rfl ?_
        refine hxj_imul (by rfl) hk_73 rfl (by omega) (by omega) (fun z2 ez2 => ?_)
        refine hxa_iload_n (by rfl) rfl ?_
        refine hxj_iadd (by rfl) rfl rfl (by omega) (by omega) (fun z3 ez3 => ?_)
        refine hxa_aload_n (by rfl) rfl ?_
        refine hxa_get (v := .ref 396) (by rfl) (by rfl) (by rfl) rfl ?_
        refine hxa_iload_n (by rfl) rfl ?_
        refine hxj_iald395 (by rfl) rfl (by omega) (by omega) hAc20 (fun z4 ez4 fz4 => ?_)
        refine hxj_iast409 (by rfl) rfl (by omega) (by omega) rfl hAc20 (by omega) (fun A5 hA5 eA5 fA5 gA5 => ?_)
        refine hxj_iinc (by rfl) rfl rfl hk_1 (by omega) (by omega) (fun _ => rfl) (fun z6 ez6 => ?_)
        refine hxa_goto (by rfl) ?_
        exact ih20 z6 A5 hA5 (by omega) (by omega) (by omega) (by omega) (by omega)
  refine hxa_iload_n (by rfl) rfl ?_
  refine hxa_iconst (by rfl) rfl ?_
  refine hxa_iconst (by rfl) rfl ?_
  refine hxa_call2 (by rfl) (by decide) (by rfl) (by rfl) (by rfl) (hX164 (d := d + 0)  a1 (Int32.ofNat 0) (Int32.ofNat 2)) ?_
  rintro _ _ ⟨rfl, z7, rfl, fz7⟩
  rcases fz7 with fz7 | fz7
  ·
    refine hxj_zne (by rfl) rfl (fun q8 => ?_) (fun q8 => False.elim (by omega))
    refine hxa_aload_n (by rfl) rfl ?_
    refine hxa_get (v := .ref 409) (by rfl) (by rfl) (by rfl) rfl ?_
    refine hxa_iload_n (by rfl) rfl ?_
    refine hxa_iconst (by rfl) rfl ?_
    refine hxj_zast (by rfl) (by rfl) rfl (by omega) (by omega) hk_1 (by omega) (by omega) hA (hbokN (by rfl)) (by rfl) (by rfl) (fun A9 hA9 eA9 fA9 gA9 => ?_)
    refine hxa_iconst (by rfl) rfl ?_
    refine hxa_s1 (by rfl) (Or.inl ⟨_, rfl, rfl⟩) rfl ?_
    exact L20 (Int.toNat (73 - 0) + 1) (Int32.ofNat 0) A9 hA9 (by omega) (by omega) (by omega) (by omega) (by omega)
  ·
    refine hxj_zne (by rfl) rfl (fun q10 => False.elim (by omega)) (fun q10 => ?_)
    refine hxa_iconst (by rfl) rfl ?_
    exact hxa_ireturn (by rfl) (by rfl) (hP _ _ ⟨(hJ.mono hA (by omega) (by omega)), _, rfl, by omega⟩)
theorem hX238 {d : Nat} {N : Int} {A0 A : hs_A} (hA : hJ 0 N (N + 72) A0 A) (hN : N ≤ 900000) (a1 : Int32) : hxC (d + 2) 238 hm_m238 [.ref 368, .int a1] A (fun r A' => hJ 0 (N + 72) (N + 144) A0 A' ∧ ∃ z : Int32, r = some (.int z) ∧ ((0 ≤ z.toInt ∧ z.toInt ≤ 1))) := hxC.of (by rfl) (hY238 hA hN a1 (fun r A' h => h))
theorem hY239 {d : Nat} {N : Int} {A0 A : hs_A} (hA : hJ 0 N (N + 72) A0 A) (hN : N ≤ 900000) (a1 : Int32) {P : Option Value → hs_A → Prop} (hP : ∀ (r : Option Value) (A' : hs_A), (hJ 0 (N + 72) (N + 144) A0 A' ∧ ∃ z : Int32, r = some (.int z) ∧ ((0 ≤ z.toInt ∧ z.toInt ≤ 1))) → P r A') : hxa (d + 1) (some (.boolean)) hm_t239 0 [.ref 368, .int a1, .retAddr 0] [] A P := by
  have k0 := hk_0
  have k1 := hk_1
  have k2 := hk_2
  have L22 : ∀ (m22 : Nat) (x22_2 : Int32) (Ac22 : hs_A) (hAc22 : hJ 0 N (N + 72) A0 Ac22) (bx22_2 : 0 ≤ x22_2.toInt) (cx22_2 : x22_2.toInt ≤ 73) (ba1 : 0 ≤ a1.toInt) (ca1 : a1.toInt ≤ 2) (hm22 : 73 - x22_2.toInt < (m22 : Int)), hxa (d + 1) (some (.boolean)) hm_t239 22 [.ref 368, .int a1, .int x22_2] [] Ac22 P := by
    intro m22
    induction m22 with
    | zero => intro x22_2 Ac22 hAc22 bx22_2 cx22_2 ba1 ca1 hm22;  exact False.elim (by omega)
    | succ m22 ih22 =>
      intro x22_2 Ac22 hAc22 bx22_2 cx22_2 ba1 ca1 hm22
      refine hxa_iload_n (by rfl) rfl ?_
      refine hxa_bipush (by rfl) rfl ?_
      refine hxj_cge (by rfl) rfl hk_73 (fun q1 => ?_) (fun q1 => ?_)
      ·
        refine hxa_aload_n (by rfl) rfl ?_
        refine hxa_iconst (by rfl) rfl ?_
        refine hxj_putI (by rfl) (by rfl) (by rfl) (by rfl) hAc22 (hbok (by rfl) hk_0 (by omega) (by omega)) (by rfl) (by rfl) (fun A2 hA2 eA2 fA2 => ?_)
        refine hxa_iconst (by rfl) rfl ?_
        exact hxa_ireturn (by rfl) (by rfl) (hP _ _ ⟨(hJ.mono hA2 (by omega) (by omega)), _, rfl, by omega⟩)
      ·
        refine hxa_aload_n (by rfl) rfl ?_
        refine hxa_get (v := .ref 396) (by rfl) (by rfl) (by rfl) rfl ?_
        refine hxa_iload_n (by rfl) rfl ?_
        refine hxa_aload_n (by rfl) rfl ?_
        refine hxa_get (v := .ref 410) (by rfl) (by rfl) (by rfl) rfl ?_
        refine hxa_bipush (by rfl) rfl ?_
        refine hxa_iload_n (by rfl) rfl ?_
        refine hxj_imul (by rfl) hk_73 rfl (by omega) (by omega) (fun z3 ez3 => ?_)
        refine hxa_iload_n (by rfl) rfl ?_
        refine hxj_iadd (by rfl) rfl rfl (by omega) (by omega) (fun z4 ez4 => ?_)
        refine hxj_iald409 (by rfl) rfl (by omega) (by omega) hAc22 (fun z5 ez5 fz5 => ?_)
        refine hxj_iast395 (by rfl) rfl (by omega) (by omega) rfl hAc22 (by omega) (fun A6 hA6 eA6 fA6 gA6 => ?_)
        refine hxj_iinc (by rfl) rfl rfl hk_1 (by omega) (by omega) (fun _ => rfl) (fun z7 ez7 => ?_)
        refine hxa_goto (by rfl) ?_
        exact ih22 z7 A6 hA6 (by omega) (by omega) (by omega) (by omega) (by omega)
  refine hxa_iload_n (by rfl) rfl ?_
  refine hxa_iconst (by rfl) rfl ?_
  refine hxa_iconst (by rfl) rfl ?_
  refine hxa_call2 (by rfl) (by decide) (by rfl) (by rfl) (by rfl) (hX164 (d := d + 0)  a1 (Int32.ofNat 0) (Int32.ofNat 2)) ?_
  rintro _ _ ⟨rfl, z8, rfl, fz8⟩
  rcases fz8 with fz8 | fz8
  ·
    refine hxj_zeq (by rfl) rfl (fun q9 => False.elim (by omega)) (fun q9 => ?_)
    refine hxa_aload_n (by rfl) rfl ?_
    refine hxa_get (v := .ref 409) (by rfl) (by rfl) (by rfl) rfl ?_
    refine hxa_iload_n (by rfl) rfl ?_
    refine hxj_zald (by rfl) (by rfl) rfl (by omega) (by omega) (fun z10 ez10 => ?_)
    refine hxj_zne (by rfl) rfl (fun q11 => ?_) (fun q11 => ?_)
    ·
      refine hxa_iconst (by rfl) rfl ?_
      refine hxa_s1 (by rfl) (Or.inl ⟨_, rfl, rfl⟩) rfl ?_
      exact L22 (Int.toNat (73 - 0) + 1) (Int32.ofNat 0) A hA (by omega) (by omega) (by omega) (by omega) (by omega)
    ·
      refine hxa_iconst (by rfl) rfl ?_
      exact hxa_ireturn (by rfl) (by rfl) (hP _ _ ⟨(hJ.mono hA (by omega) (by omega)), _, rfl, by omega⟩)
  ·
    refine hxj_zeq (by rfl) rfl (fun q12 => ?_) (fun q12 => False.elim (by omega))
    refine hxa_iconst (by rfl) rfl ?_
    exact hxa_ireturn (by rfl) (by rfl) (hP _ _ ⟨(hJ.mono hA (by omega) (by omega)), _, rfl, by omega⟩)
theorem hX239 {d : Nat} {N : Int} {A0 A : hs_A} (hA : hJ 0 N (N + 72) A0 A) (hN : N ≤ 900000) (a1 : Int32) : hxC (d + 2) 239 hm_m239 [.ref 368, .int a1] A (fun r A' => hJ 0 (N + 72) (N + 144) A0 A' ∧ ∃ z : Int32, r = some (.int z) ∧ ((0 ≤ z.toInt ∧ z.toInt ≤ 1))) := hxC.of (by rfl) (hY239 hA hN a1 (fun r A' h => h))
theorem hY240 {d : Nat} {Bn Br : Int} {A0 A : hs_A} (hA : hJ 0 Bn Br A0 A)  (a1 : Int32) (p1 : 0 ≤ a1.toInt) (q1 : a1.toInt ≤ 50) (a2 : Int32) {P : Option Value → hs_A → Prop} (hP : ∀ (r : Option Value) (A' : hs_A), (A = A' ∧ ∃ z : Int32, r = some (.int z)) → P r A') : hxa (d + 1) (some (.int)) hm_t240 0 [.ref 368, .int a1, .int a2, .retAddr 0, .retAddr 0] [] A P := by
  have k0 := hk_0
  have L5 : ∀ (m5 : Nat) (x5_3 : Int32) (x5_4 : Int32) (bx5_4 : 0 ≤ x5_4.toInt) (cx5_4 : x5_4.toInt ≤ 10) (hm5 : 10 - x5_4.toInt < (m5 : Int)), hxa (d + 1) (some (.int)) hm_t240 5 [.ref 368, .int a1, .int a2, .int x5_3, .int x5_4] [] A P := by
    intro m5
    induction m5 with
    | zero => intro x5_3 x5_4 bx5_4 cx5_4 hm5; have := hn_rng x5_3; exact False.elim (by omega)
    | succ m5 ih5 =>
      intro x5_3 x5_4 bx5_4 cx5_4 hm5
      refine hxa_iload (by rfl) rfl ?_
      refine hxa_aload_n (by rfl) rfl ?_
      refine hxa_get (v := .ref 377) (by rfl) (by rfl) (by rfl) rfl ?_
      refine hxa_aload_n (by rfl) rfl ?_
      refine hxj_getB (by rfl) (by rfl) (by rfl) hA (by rfl) (fun z1 ez1 fz1 gz1 => ?_)
      refine hxj_ialdB (by rfl) (by rfl) rfl (by omega) (by omega) hA (by rfl) (fun z2 ez2 fz2 gz2 => ?_)
      refine hxj_cge (by rfl) rfl rfl (fun q3 => ?_) (fun q3 => ?_)
      ·
        refine hxa_iload_n (by rfl) rfl ?_
        exact hxa_ireturn (by rfl) rfl (hP _ _ ⟨rfl, _, rfl⟩)
      ·
        refine hxa_iload_n (by rfl) rfl ?_
        refine hxa_iload_n (by rfl) rfl ?_
        refine hxj_zne (by rfl) rfl (fun q4 => ?_) (fun q4 => ?_)
        ·
          refine hxa_iload_n (by rfl) rfl ?_
          refine hxa_iconst (by rfl) rfl ?_
          refine hxj_cne (by rfl) rfl hk_1 (fun q5 => ?_) (fun q5 => ?_)
          ·
            refine hxa_aload_n (by rfl) rfl ?_
            refine hxa_get (v := .ref 397) (by rfl) (by rfl) (by rfl) rfl ?_
            refine hxa_iload_n (by rfl) rfl ?_
            refine hxa_iload (by rfl) rfl ?_
            refine hxj_iadd (by rfl) rfl rfl (by omega) (by omega) (fun z6 ez6 => ?_)
            refine hxj_iald396 (by rfl) rfl (by omega) (by omega) hA (fun z7 ez7 fz7 => ?_)
            refine hxa_call2 (by rfl) (by decide) (by rfl) (by rfl) (by rfl) (hX166 (d := d + 0)  z7) ?_
            rintro _ _ ⟨rfl, z8, rfl⟩
            refine hxj_iaddU (by rfl) (fun z9 => ?_)
            refine hxa_s1 (by rfl) (Or.inl ⟨_, rfl, rfl⟩) rfl ?_
            refine hxj_iinc (by rfl) rfl rfl hk_1 (by omega) (by omega) (fun _ => rfl) (fun z10 ez10 => ?_)
            refine hxa_goto (by rfl) ?_
            exact ih5 z9 z10 (by omega) (by omega) (by omega)
          ·
            refine hxa_aload_n (by rfl) rfl ?_
            refine hxa_get (v := .ref 397) (by rfl) (by rfl) (by rfl) rfl ?_
            refine hxa_iload_n (by rfl) rfl ?_
            refine hxa_iload (by rfl) rfl ?_
            refine hxj_iadd (by rfl) rfl rfl (by omega) (by omega) (fun z11 ez11 => ?_)
            refine hxj_iald396 (by rfl) rfl (by omega) (by omega) hA (fun z12 ez12 fz12 => ?_)
            refine hxj_zeq (by rfl) rfl (fun q13 => ?_) (fun q13 => ?_)
            ·
              refine hxa_iconst (by rfl) rfl ?_
              refine hxa_goto (by rfl) ?_
              have rgx5_3 := hn_rng x5_3
              refine hxj_iadd (by rfl) rfl hk_0 (by omega) (by omega) (fun z14 ez14 => ?_)
              refine hxa_s1 (by rfl) (Or.inl ⟨_, rfl, rfl⟩) rfl ?_
              refine hxj_iinc (by rfl) rfl rfl hk_1 (by omega) (by omega) (fun _ => rfl) (fun z15 ez15 => ?_)
              refine hxa_goto (by rfl) ?_
              exact ih5 z14 z15 (by omega) (by omega) (by omega)
            ·
              refine hxa_iconst (by rfl) rfl ?_
              refine hxa_iload (by rfl) rfl ?_
              refine hxj_ishlU (by rfl) (fun z16 => ?_)
              refine hxa_goto (by rfl) ?_
              refine hxj_iaddU (by rfl) (fun z17 => ?_)
              refine hxa_s1 (by rfl) (Or.inl ⟨_, rfl, rfl⟩) rfl ?_
              refine hxj_iinc (by rfl) rfl rfl hk_1 (by omega) (by omega) (fun _ => rfl) (fun z18 ez18 => ?_)
              refine hxa_goto (by rfl) ?_
              exact ih5 z17 z18 (by omega) (by omega) (by omega)
        ·
          refine hxa_aload_n (by rfl) rfl ?_
          refine hxa_get (v := .ref 397) (by rfl) (by rfl) (by rfl) rfl ?_
          refine hxa_iload_n (by rfl) rfl ?_
          refine hxa_iload (by rfl) rfl ?_
          refine hxj_iadd (by rfl) rfl rfl (by omega) (by omega) (fun z19 ez19 => ?_)
          refine hxj_iald396 (by rfl) rfl (by omega) (by omega) hA (fun z20 ez20 fz20 => ?_)
          refine hxa_iload (by rfl) rfl ?_
          refine hxj_ishlU (by rfl) (fun z21 => ?_)
          refine hxa_goto (by rfl) ?_
          refine hxj_iaddU (by rfl) (fun z22 => ?_)
          refine hxa_s1 (by rfl) (Or.inl ⟨_, rfl, rfl⟩) rfl ?_
          refine hxj_iinc (by rfl) rfl rfl hk_1 (by omega) (by omega) (fun _ => rfl) (fun z23 ez23 => ?_)
          refine hxa_goto (by rfl) ?_
          exact ih5 z22 z23 (by omega) (by omega) (by omega)
  refine hxa_iconst (by rfl) rfl ?_
  refine hxa_s1 (by rfl) (Or.inl ⟨_, rfl, rfl⟩) rfl ?_
  refine hxa_iconst (by rfl) rfl ?_
  refine hxa_s1 (by rfl) (Or.inr ⟨_, rfl, rfl⟩) rfl ?_
  exact L5 (Int.toNat (10 - 0) + 1) (Int32.ofNat 0) (Int32.ofNat 0) (by omega) (by omega) (by omega)
theorem hX240 {d : Nat} {Bn Br : Int} {A0 A : hs_A} (hA : hJ 0 Bn Br A0 A)  (a1 : Int32) (p1 : 0 ≤ a1.toInt) (q1 : a1.toInt ≤ 50) (a2 : Int32) : hxC (d + 2) 240 hm_m240 [.ref 368, .int a1, .int a2] A (fun r A' => A = A' ∧ ∃ z : Int32, r = some (.int z)) := hxC.of (by rfl) (hY240 hA a1 p1 q1 a2 (fun r A' h => h))
theorem hY241 {d : Nat} {N : Int} {A0 A : hs_A} (hA : hJ 0 N (N + 72) A0 A) (hN : N ≤ 900000) (a1 : Int32) {P : Option Value → hs_A → Prop} (hP : ∀ (r : Option Value) (A' : hs_A), (hJ 0 (N + 72) (N + 144) A0 A' ∧ ∃ z : Int32, r = some (.int z)) → P r A') : hxa (d + 2) (some (.int)) hm_t241 0 [.ref 368, .int a1, .retAddr 0, .retAddr 0] [] A P := by
  have k0 := hk_0
  have k1 := hk_1
  have k2 := hk_2
  have k30 := hk_30
  have k40 := hk_40
  have k4294967295 := hk_4294967295
  have k50 := hk_50
  have L317 : ∀ (m317 : Nat) (x317_2 : Int32) (x317_3 : Int32) (Ac317 : hs_A) (hAc317 : hJ 0 N N A0 Ac317) (bx317_3 : 0 ≤ x317_3.toInt) (cx317_3 : x317_3.toInt ≤ 10) (ba1 : 17 ≤ a1.toInt) (ca1 : a1.toInt ≤ 17) (hm317 : 10 - x317_3.toInt < (m317 : Int)), hxa (d + 2) (some (.int)) hm_t241 317 [.ref 368, .int a1, .int x317_2, .int x317_3] [] Ac317 P := by
    intro m317
    induction m317 with
    | zero => intro x317_2 x317_3 Ac317 hAc317 bx317_3 cx317_3 ba1 ca1 hm317; have := hn_rng x317_2; exact False.elim (by omega)
    | succ m317 ih317 =>
      intro x317_2 x317_3 Ac317 hAc317 bx317_3 cx317_3 ba1 ca1 hm317
      refine hxa_iload_n (by rfl) rfl ?_
      refine hxa_aload_n (by rfl) rfl ?_
      refine hxa_get (v := .ref 377) (by rfl) (by rfl) (by rfl) rfl ?_
      refine hxa_aload_n (by rfl) rfl ?_
      refine hxj_getB (by rfl) (by rfl) (by rfl) hAc317 (by rfl) (fun z1 ez1 fz1 gz1 => ?_)
      refine hxj_ialdB (by rfl) (by rfl) rfl (by omega) (by omega) hAc317 (by rfl) (fun z2 ez2 fz2 gz2 => ?_)
      refine hxj_cge (by rfl) rfl rfl (fun q3 => ?_) (fun q3 => ?_)
      ·
        refine hxa_iload_n (by rfl) rfl ?_
        exact hxa_ireturn (by rfl) rfl (hP _ _ ⟨(hJ.mono hAc317 (by omega) (by omega)), _, rfl⟩)
      ·
        refine hxa_aload_n (by rfl) rfl ?_
        refine hxa_get (v := .ref 397) (by rfl) (by rfl) (by rfl) rfl ?_
        refine hxa_bipush (by rfl) rfl ?_
        refine hxa_iload_n (by rfl) rfl ?_
        refine hxj_iadd (by rfl) hk_20 rfl (by omega) (by omega) (fun z4 ez4 => ?_)
        refine hxj_iald396 (by rfl) rfl (by omega) (by omega) hAc317 (fun z5 ez5 fz5 => ?_)
        refine hxa_iload_n (by rfl) rfl ?_
        refine hxj_ceq (by rfl) rfl rfl (fun q6 => ?_) (fun q6 => ?_)
        ·
          refine hxj_iinc (by rfl) rfl rfl hk_1 (by omega) (by omega) (fun _ => rfl) (fun z7 ez7 => ?_)
          refine hxa_goto (by rfl) ?_
          exact ih317 x317_2 z7 Ac317 hAc317 (by omega) (by omega) (by omega) (by omega) (by omega)
        ·
          refine hxa_iload_n (by rfl) rfl ?_
          refine hxa_iconst (by rfl) rfl ?_
          refine hxa_iload_n (by rfl) rfl ?_
          refine hxj_ishlU (by rfl) (fun z8 => ?_)
          refine hxj_iorU (by rfl) (fun z9 => ?_)
          refine hxa_s1 (by rfl) (Or.inl ⟨_, rfl, rfl⟩) rfl ?_
          refine hxj_iinc (by rfl) rfl rfl hk_1 (by omega) (by omega) (fun _ => rfl) (fun z10 ez10 => ?_)
          refine hxa_goto (by rfl) ?_
          exact ih317 z9 z10 Ac317 hAc317 (by omega) (by omega) (by omega) (by omega) (by omega)
  have L272 : ∀ (m272 : Nat) (x272_2 : Int32) (x272_3 : Int32) (Ac272 : hs_A) (hAc272 : hJ 0 N N A0 Ac272) (bx272_3 : 0 ≤ x272_3.toInt) (cx272_3 : x272_3.toInt ≤ 10) (ba1 : 15 ≤ a1.toInt) (ca1 : a1.toInt ≤ 15) (hm272 : 10 - x272_3.toInt < (m272 : Int)), hxa (d + 2) (some (.int)) hm_t241 272 [.ref 368, .int a1, .int x272_2, .int x272_3] [] Ac272 P := by
    intro m272
    induction m272 with
    | zero => intro x272_2 x272_3 Ac272 hAc272 bx272_3 cx272_3 ba1 ca1 hm272; have := hn_rng x272_2; exact False.elim (by omega)
    | succ m272 ih272 =>
      intro x272_2 x272_3 Ac272 hAc272 bx272_3 cx272_3 ba1 ca1 hm272
      refine hxa_iload_n (by rfl) rfl ?_
      refine hxa_aload_n (by rfl) rfl ?_
      refine hxa_get (v := .ref 377) (by rfl) (by rfl) (by rfl) rfl ?_
      refine hxa_aload_n (by rfl) rfl ?_
      refine hxj_getB (by rfl) (by rfl) (by rfl) hAc272 (by rfl) (fun z11 ez11 fz11 gz11 => ?_)
      refine hxj_ialdB (by rfl) (by rfl) rfl (by omega) (by omega) hAc272 (by rfl) (fun z12 ez12 fz12 gz12 => ?_)
      refine hxj_cge (by rfl) rfl rfl (fun q13 => ?_) (fun q13 => ?_)
      ·
        refine hxa_iload_n (by rfl) rfl ?_
        exact hxa_ireturn (by rfl) rfl (hP _ _ ⟨(hJ.mono hAc272 (by omega) (by omega)), _, rfl⟩)
      ·
        refine hxa_aload_n (by rfl) rfl ?_
        refine hxa_iload_n (by rfl) rfl ?_
        refine hxa_call0 (by rfl) (by rfl) (by rfl) (by rfl) (by rfl) (by rfl) (hX182 (d := d + 1) hAc272 x272_3 (by omega) (by omega)) ?_
        rintro _ _ ⟨rfl, z14, rfl, fz14⟩
        refine hxj_zeq (by rfl) rfl (fun q15 => ?_) (fun q15 => ?_)
        ·
          refine hxj_iinc (by rfl) rfl rfl hk_1 (by omega) (by omega) (fun _ => rfl) (fun z16 ez16 => ?_)
          refine hxa_goto (by rfl) ?_
          exact ih272 x272_2 z16 Ac272 hAc272 (by omega) (by omega) (by omega) (by omega) (by omega)
        ·
          refine hxa_iload_n (by rfl) rfl ?_
          refine hxa_iconst (by rfl) rfl ?_
          refine hxa_iload_n (by rfl) rfl ?_
          refine hxj_ishlU (by rfl) (fun z17 => ?_)
          refine hxj_iorU (by rfl) (fun z18 => ?_)
          refine hxa_s1 (by rfl) (Or.inl ⟨_, rfl, rfl⟩) rfl ?_
          refine hxj_iinc (by rfl) rfl rfl hk_1 (by omega) (by omega) (fun _ => rfl) (fun z19 ez19 => ?_)
          refine hxa_goto (by rfl) ?_
          exact ih272 z18 z19 Ac272 hAc272 (by omega) (by omega) (by omega) (by omega) (by omega)
  have L223 : ∀ (x223_2 : Int32) (y223_0 : Int32) (Ac223 : hs_A) (hAc223 : hJ 0 N N A0 Ac223) (bx223_2 : 0 ≤ x223_2.toInt) (cx223_2 : x223_2.toInt ≤ 0) (by223_0 : 0 ≤ y223_0.toInt) (cy223_0 : y223_0.toInt ≤ 1) (ba1 : 12 ≤ a1.toInt) (ca1 : a1.toInt ≤ 12), hxa (d + 2) (some (.int)) hm_t241 223 [.ref 368, .int a1, .int x223_2, .retAddr 0] [.int y223_0] Ac223 P := by
    intro x223_2 y223_0 Ac223 hAc223 bx223_2 cx223_2 by223_0 cy223_0 ba1 ca1
    refine hxa_aload_n (by rfl) rfl ?_
    refine hxa_get (v := .ref 409) (by rfl) (by rfl) (by rfl) rfl ?_
    refine hxa_iconst (by rfl) rfl ?_
    refine hxj_zald (by rfl) (by rfl) hk_1 (by omega) (by omega) (fun z20 ez20 => ?_)
    refine hxj_zeq (by rfl) rfl (fun q21 => ?_) (fun q21 => ?_)
    ·
      refine hxa_iconst (by rfl) rfl ?_
      refine hxj_iadd (by rfl) rfl hk_0 (by omega) (by omega) (fun z22 ez22 => ?_)
      refine hxa_aload_n (by rfl) rfl ?_
      refine hxa_get (v := .ref 409) (by rfl) (by rfl) (by rfl) rfl ?_
      refine hxa_iconst (by rfl) rfl ?_
      refine hxj_zald (by rfl) (by rfl) hk_2 (by omega) (by omega) (fun z23 ez23 => ?_)
      refine hxj_zeq (by rfl) rfl (fun q24 => ?_) (fun q24 => ?_)
      ·
        refine hxa_iconst (by rfl) rfl ?_
        refine hxj_iadd (by rfl) rfl hk_0 (by omega) (by omega) (fun z25 ez25 => ?_)
        exact hxa_ireturn (by rfl) rfl (hP _ _ ⟨(hJ.mono hAc223 (by omega) (by omega)), _, rfl⟩)
      ·
        refine hxa_iconst (by rfl) rfl ?_
        refine hxa_goto (by rfl) ?_
        refine hxj_iadd (by rfl) rfl hk_1 (by omega) (by omega) (fun z26 ez26 => ?_)
        exact hxa_ireturn (by rfl) rfl (hP _ _ ⟨(hJ.mono hAc223 (by omega) (by omega)), _, rfl⟩)
    ·
      refine hxa_iconst (by rfl) rfl ?_
      refine hxa_goto (by rfl) ?_
      refine hxj_iadd (by rfl) rfl hk_1 (by omega) (by omega) (fun z27 ez27 => ?_)
      refine hxa_aload_n (by rfl) rfl ?_
      refine hxa_get (v := .ref 409) (by rfl) (by rfl) (by rfl) rfl ?_
      refine hxa_iconst (by rfl) rfl ?_
      refine hxj_zald (by rfl) (by rfl) hk_2 (by omega) (by omega) (fun z28 ez28 => ?_)
      refine hxj_zeq (by rfl) rfl (fun q29 => ?_) (fun q29 => ?_)
      ·
        refine hxa_iconst (by rfl) rfl ?_
        refine hxj_iadd (by rfl) rfl hk_0 (by omega) (by omega) (fun z30 ez30 => ?_)
        exact hxa_ireturn (by rfl) rfl (hP _ _ ⟨(hJ.mono hAc223 (by omega) (by omega)), _, rfl⟩)
      ·
        refine hxa_iconst (by rfl) rfl ?_
        refine hxa_goto (by rfl) ?_
        refine hxj_iadd (by rfl) rfl hk_1 (by omega) (by omega) (fun z31 ez31 => ?_)
        exact hxa_ireturn (by rfl) rfl (hP _ _ ⟨(hJ.mono hAc223 (by omega) (by omega)), _, rfl⟩)
  have L151 : ∀ (m151 : Nat) (x151_2 : Int32) (x151_3 : Int32) (Ac151 : hs_A) (hAc151 : hJ 0 N N A0 Ac151) (bx151_3 : 0 ≤ x151_3.toInt) (cx151_3 : x151_3.toInt ≤ 10) (ba1 : 7 ≤ a1.toInt) (ca1 : a1.toInt ≤ 7) (hm151 : 10 - x151_3.toInt < (m151 : Int)), hxa (d + 2) (some (.int)) hm_t241 151 [.ref 368, .int a1, .int x151_2, .int x151_3] [] Ac151 P := by
    intro m151
    induction m151 with
    | zero => intro x151_2 x151_3 Ac151 hAc151 bx151_3 cx151_3 ba1 ca1 hm151; have := hn_rng x151_2; exact False.elim (by omega)
    | succ m151 ih151 =>
      intro x151_2 x151_3 Ac151 hAc151 bx151_3 cx151_3 ba1 ca1 hm151
      refine hxa_iload_n (by rfl) rfl ?_
      refine hxa_aload_n (by rfl) rfl ?_
      refine hxa_get (v := .ref 377) (by rfl) (by rfl) (by rfl) rfl ?_
      refine hxa_aload_n (by rfl) rfl ?_
      refine hxj_getB (by rfl) (by rfl) (by rfl) hAc151 (by rfl) (fun z32 ez32 fz32 gz32 => ?_)
      refine hxj_ialdB (by rfl) (by rfl) rfl (by omega) (by omega) hAc151 (by rfl) (fun z33 ez33 fz33 gz33 => ?_)
      refine hxj_cge (by rfl) rfl rfl (fun q34 => ?_) (fun q34 => ?_)
      ·
        refine hxa_iload_n (by rfl) rfl ?_
        exact hxa_ireturn (by rfl) rfl (hP _ _ ⟨(hJ.mono hAc151 (by omega) (by omega)), _, rfl⟩)
      ·
        refine hxa_aload_n (by rfl) rfl ?_
        refine hxa_iload_n (by rfl) rfl ?_
        refine hxa_call0 (by rfl) (by rfl) (by rfl) (by rfl) (by rfl) (by rfl) (hX186 (d := d + 1) hAc151 x151_3 (by omega) (by omega)) ?_
        rintro _ _ ⟨rfl, z35, rfl, fz35⟩
        refine hxj_zeq (by rfl) rfl (fun q36 => ?_) (fun q36 => ?_)
        ·
          refine hxj_iinc (by rfl) rfl rfl hk_1 (by omega) (by omega) (fun _ => rfl) (fun z37 ez37 => ?_)
          refine hxa_goto (by rfl) ?_
          exact ih151 x151_2 z37 Ac151 hAc151 (by omega) (by omega) (by omega) (by omega) (by omega)
        ·
          refine hxa_iload_n (by rfl) rfl ?_
          refine hxa_iconst (by rfl) rfl ?_
          refine hxa_iload_n (by rfl) rfl ?_
          refine hxj_ishlU (by rfl) (fun z38 => ?_)
          refine hxj_iorU (by rfl) (fun z39 => ?_)
          refine hxa_s1 (by rfl) (Or.inl ⟨_, rfl, rfl⟩) rfl ?_
          refine hxj_iinc (by rfl) rfl rfl hk_1 (by omega) (by omega) (fun _ => rfl) (fun z40 ez40 => ?_)
          refine hxa_goto (by rfl) ?_
          exact ih151 z39 z40 Ac151 hAc151 (by omega) (by omega) (by omega) (by omega) (by omega)
  refine hxa_aload_n (by rfl) rfl ?_
  refine hxa_call0 (by rfl) (by rfl) (by rfl) (by rfl) (by rfl) (by rfl) (hX171 (d := d + 1) hA ) ?_
  rintro _ A41 ⟨hA41, rfl⟩
  refine hxa_iconst (by rfl) rfl ?_
  refine hxa_s1 (by rfl) (Or.inl ⟨_, rfl, rfl⟩) rfl ?_
  refine hxa_iload_n (by rfl) rfl ?_
  by_cases q42 : a1.toInt = 0
  ·
    refine hxa_tabIn (by rfl) (by omega) (by omega) (by rw [q42]; rfl) (tgt := 92) (by rfl) ?_
    refine hxa_aload_n (by rfl) rfl ?_
    refine hxa_get (v := .ref 377) (by rfl) (by rfl) (by rfl) rfl ?_
    refine hxa_aload_n (by rfl) rfl ?_
    refine hxj_getB (by rfl) (by rfl) (by rfl) hA41 (by rfl) (fun z43 ez43 fz43 gz43 => ?_)
    refine hxj_ialdB (by rfl) (by rfl) rfl (by omega) (by omega) hA41 (by rfl) (fun z44 ez44 fz44 gz44 => ?_)
    exact hxa_ireturn (by rfl) rfl (hP _ _ ⟨(hJ.mono hA41 (by omega) (by omega)), _, rfl⟩)
  ·
    by_cases q45 : a1.toInt = 1
    ·
      refine hxa_tabIn (by rfl) (by omega) (by omega) (by rw [q45]; rfl) (tgt := 102) (by rfl) ?_
      refine hxa_aload_n (by rfl) rfl ?_
      refine hxa_get (v := .ref 380) (by rfl) (by rfl) (by rfl) rfl ?_
      refine hxa_aload_n (by rfl) rfl ?_
      refine hxj_getB (by rfl) (by rfl) (by rfl) hA41 (by rfl) (fun z46 ez46 fz46 gz46 => ?_)
      refine hxj_iald (by rfl) (by rfl) rfl (by omega) (by omega) (fun z47 ez47 => ?_)
      exact hxa_ireturn (by rfl) rfl (hP _ _ ⟨(hJ.mono hA41 (by omega) (by omega)), _, rfl⟩)
    ·
      by_cases q48 : a1.toInt = 2
      ·
        refine hxa_tabIn (by rfl) (by omega) (by omega) (by rw [q48]; rfl) (tgt := 112) (by rfl) ?_
        refine hxa_aload_n (by rfl) rfl ?_
        refine hxa_get (v := .ref 397) (by rfl) (by rfl) (by rfl) rfl ?_
        refine hxa_bipush (by rfl) rfl ?_
        refine hxj_iald396 (by rfl) hk_70 (by omega) (by omega) hA41 (fun z49 ez49 fz49 => ?_)
        exact hxa_ireturn (by rfl) rfl (hP _ _ ⟨(hJ.mono hA41 (by omega) (by omega)), _, rfl⟩)
      ·
        by_cases q50 : a1.toInt = 3
        ·
          refine hxa_tabIn (by rfl) (by omega) (by omega) (by rw [q50]; rfl) (tgt := 120) (by rfl) ?_
          refine hxa_aload_n (by rfl) rfl ?_
          refine hxa_get (v := .ref 397) (by rfl) (by rfl) (by rfl) rfl ?_
          refine hxa_bipush (by rfl) rfl ?_
          refine hxj_iald396 (by rfl) hk_70 (by omega) (by omega) hA41 (fun z51 ez51 fz51 => ?_)
          refine hxa_bipush (by rfl) rfl ?_
          refine hxj_iremP (by rfl) rfl hk_24 (by omega) (by omega) (fun z52 ez52 => ?_)
          exact hxa_ireturn (by rfl) rfl (hP _ _ ⟨(hJ.mono hA41 (by omega) (by omega)), _, rfl⟩)
        ·
          by_cases q53 : a1.toInt = 4
          ·
            refine hxa_tabIn (by rfl) (by omega) (by omega) (by rw [q53]; rfl) (tgt := 131) (by rfl) ?_
            refine hxa_aload_n (by rfl) rfl ?_
            refine hxa_call0 (by rfl) (by rfl) (by rfl) (by rfl) (by rfl) (by rfl) (hX183 (d := d + 1) hA41 ) ?_
            rintro _ _ ⟨rfl, z54, rfl⟩
            exact hxa_ireturn (by rfl) rfl (hP _ _ ⟨(hJ.mono hA41 (by omega) (by omega)), _, rfl⟩)
          ·
            by_cases q55 : a1.toInt = 5
            ·
              refine hxa_tabIn (by rfl) (by omega) (by omega) (by rw [q55]; rfl) (tgt := 136) (by rfl) ?_
              refine hxa_aload_n (by rfl) rfl ?_
              refine hxa_bipush (by rfl) rfl ?_
              refine hxa_iconst (by rfl) rfl ?_
              refine hxa_call0 (by rfl) (by rfl) (by rfl) (by rfl) (by rfl) (by rfl) (hX240 (d := d + 0) hA41 (Int32.ofNat 50) (by omega) (by omega) (Int32.ofNat 0)) ?_
              rintro _ _ ⟨rfl, z56, rfl⟩
              exact hxa_ireturn (by rfl) rfl (hP _ _ ⟨(hJ.mono hA41 (by omega) (by omega)), _, rfl⟩)
            ·
              by_cases q57 : a1.toInt = 6
              ·
                refine hxa_tabIn (by rfl) (by omega) (by omega) (by rw [q57]; rfl) (tgt := 144) (by rfl) ?_
                refine hxa_aload_n (by rfl) rfl ?_
                refine hxa_call0 (by rfl) (by rfl) (by rfl) (by rfl) (by rfl) (by rfl) (hX225 (d := d + 1) hA41 ) ?_
                rintro _ _ ⟨rfl, z58, rfl⟩
                exact hxa_ireturn (by rfl) rfl (hP _ _ ⟨(hJ.mono hA41 (by omega) (by omega)), _, rfl⟩)
              ·
                by_cases q59 : a1.toInt = 7
                ·
                  refine hxa_tabIn (by rfl) (by omega) (by omega) (by rw [q59]; rfl) (tgt := 149) (by rfl) ?_
                  refine hxa_iconst (by rfl) rfl ?_
                  refine hxa_s1 (by rfl) (Or.inl ⟨_, rfl, rfl⟩) rfl ?_
                  exact L151 (Int.toNat (10 - 0) + 1) (Int32.ofNat 0) (Int32.ofNat 0) A41 hA41 (by omega) (by omega) (by omega) (by omega) (by omega)
                ·
                  by_cases q60 : a1.toInt = 8
                  ·
                    refine hxa_tabIn (by rfl) (by omega) (by omega) (by rw [q60]; rfl) (tgt := 186) (by rfl) ?_
                    refine hxa_aload_n (by rfl) rfl ?_
                    refine hxa_bipush (by rfl) rfl ?_
                    refine hxa_iconst (by rfl) rfl ?_
                    refine hxa_call0 (by rfl) (by rfl) (by rfl) (by rfl) (by rfl) (by rfl) (hX240 (d := d + 0) hA41 (Int32.ofNat 30) (by omega) (by omega) (Int32.ofNat 1)) ?_
                    rintro _ _ ⟨rfl, z61, rfl⟩
                    exact hxa_ireturn (by rfl) rfl (hP _ _ ⟨(hJ.mono hA41 (by omega) (by omega)), _, rfl⟩)
                  ·
                    by_cases q62 : a1.toInt = 9
                    ·
                      refine hxa_tabIn (by rfl) (by omega) (by omega) (by rw [q62]; rfl) (tgt := 194) (by rfl) ?_
                      refine hxa_aload_n (by rfl) rfl ?_
                      refine hxj_getB (by rfl) (by rfl) (by rfl) hA41 (by rfl) (fun z63 ez63 fz63 gz63 => ?_)
                      exact hxa_ireturn (by rfl) rfl (hP _ _ ⟨(hJ.mono hA41 (by omega) (by omega)), _, rfl⟩)
                    ·
                      by_cases q64 : a1.toInt = 10
                      ·
                        refine hxa_tabIn (by rfl) (by omega) (by omega) (by rw [q64]; rfl) (tgt := 199) (by rfl) ?_
                        refine hxa_aload_n (by rfl) rfl ?_
                        refine hxj_getB (by rfl) (by rfl) (by rfl) hA41 (by rfl) (fun z65 ez65 fz65 gz65 => ?_)
                        exact hxa_ireturn (by rfl) rfl (hP _ _ ⟨(hJ.mono hA41 (by omega) (by omega)), _, rfl⟩)
                      ·
                        by_cases q66 : a1.toInt = 11
                        ·
                          refine hxa_tabIn (by rfl) (by omega) (by omega) (by rw [q66]; rfl) (tgt := 204) (by rfl) ?_
                          refine hxa_aload_n (by rfl) rfl ?_
                          refine hxj_getB (by rfl) (by rfl) (by rfl) hA41 (by rfl) (fun z67 ez67 fz67 gz67 => ?_)
                          exact hxa_ireturn (by rfl) rfl (hP _ _ ⟨(hJ.mono hA41 (by omega) (by omega)), _, rfl⟩)
                        ·
                          by_cases q68 : a1.toInt = 12
                          ·
                            refine hxa_tabIn (by rfl) (by omega) (by omega) (by rw [q68]; rfl) (tgt := 209) (by rfl) ?_
                            refine hxa_aload_n (by rfl) rfl ?_
                            refine hxa_get (v := .ref 409) (by rfl) (by rfl) (by rfl) rfl ?_
                            refine hxa_iconst (by rfl) rfl ?_
                            refine hxj_zald (by rfl) (by rfl) hk_0 (by omega) (by omega) (fun z69 ez69 => ?_)
                            refine hxj_zeq (by rfl) rfl (fun q70 => ?_) (fun q70 => ?_)
                            ·
                              refine hxa_iconst (by rfl) rfl ?_
                              exact L223 (Int32.ofNat 0) (Int32.ofNat 0) A41 hA41 (by omega) (by omega) (by omega) (by omega) (by omega) (by omega)
                            ·
                              refine hxa_iconst (by rfl) rfl ?_
                              refine hxa_goto (by rfl) ?_
                              exact L223 (Int32.ofNat 0) (Int32.ofNat 1) A41 hA41 (by omega) (by omega) (by omega) (by omega) (by omega) (by omega)
                          ·
                            by_cases q71 : a1.toInt = 13
                            ·
                              refine hxa_tabIn (by rfl) (by omega) (by omega) (by rw [q71]; rfl) (tgt := 254) (by rfl) ?_
                              refine hxa_aload_n (by rfl) rfl ?_
                              refine hxa_get (v := .ref 397) (by rfl) (by rfl) (by rfl) rfl ?_
                              refine hxa_bipush (by rfl) rfl ?_
                              refine hxj_iald396 (by rfl) hk_72 (by omega) (by omega) hA41 (fun z72 ez72 fz72 => ?_)
                              exact hxa_ireturn (by rfl) rfl (hP _ _ ⟨(hJ.mono hA41 (by omega) (by omega)), _, rfl⟩)
                            ·
                              by_cases q73 : a1.toInt = 14
                              ·
                                refine hxa_tabIn (by rfl) (by omega) (by omega) (by rw [q73]; rfl) (tgt := 262) (by rfl) ?_
                                refine hxa_aload_n (by rfl) rfl ?_
                                refine hxa_bipush (by rfl) rfl ?_
                                refine hxa_iconst (by rfl) rfl ?_
                                refine hxa_call0 (by rfl) (by rfl) (by rfl) (by rfl) (by rfl) (by rfl) (hX240 (d := d + 0) hA41 (Int32.ofNat 40) (by omega) (by omega) (Int32.ofNat 2)) ?_
                                rintro _ _ ⟨rfl, z74, rfl⟩
                                exact hxa_ireturn (by rfl) rfl (hP _ _ ⟨(hJ.mono hA41 (by omega) (by omega)), _, rfl⟩)
                              ·
                                by_cases q75 : a1.toInt = 15
                                ·
                                  refine hxa_tabIn (by rfl) (by omega) (by omega) (by rw [q75]; rfl) (tgt := 270) (by rfl) ?_
                                  refine hxa_iconst (by rfl) rfl ?_
                                  refine hxa_s1 (by rfl) (Or.inl ⟨_, rfl, rfl⟩) rfl ?_
                                  exact L272 (Int.toNat (10 - 0) + 1) (Int32.ofNat 0) (Int32.ofNat 0) A41 hA41 (by omega) (by omega) (by omega) (by omega) (by omega)
                                ·
                                  by_cases q76 : a1.toInt = 16
                                  ·
                                    refine hxa_tabIn (by rfl) (by omega) (by omega) (by rw [q76]; rfl) (tgt := 307) (by rfl) ?_
                                    refine hxa_aload_n (by rfl) rfl ?_
                                    refine hxa_bipush (by rfl) rfl ?_
                                    refine hxa_iconst (by rfl) rfl ?_
                                    refine hxa_call0 (by rfl) (by rfl) (by rfl) (by rfl) (by rfl) (by rfl) (hX240 (d := d + 0) hA41 (Int32.ofNat 30) (by omega) (by omega) (Int32.ofNat 2)) ?_
                                    rintro _ _ ⟨rfl, z77, rfl⟩
                                    exact hxa_ireturn (by rfl) rfl (hP _ _ ⟨(hJ.mono hA41 (by omega) (by omega)), _, rfl⟩)
                                  ·
                                    by_cases q78 : a1.toInt = 17
                                    ·
                                      refine hxa_tabIn (by rfl) (by omega) (by omega) (by rw [q78]; rfl) (tgt := 315) (by rfl) ?_
                                      refine hxa_iconst (by rfl) rfl ?_
                                      refine hxa_s1 (by rfl) (Or.inl ⟨_, rfl, rfl⟩) rfl ?_
                                      exact L317 (Int.toNat (10 - 0) + 1) (Int32.ofNat 0) (Int32.ofNat 0) A41 hA41 (by omega) (by omega) (by omega) (by omega) (by omega)
                                    ·
                                      refine hxa_tabOut (by rfl) (by omega) (tgt := 357) (by rfl) ?_
                                      refine hxa_iconst (by rfl) rfl ?_
                                      exact hxa_ireturn (by rfl) rfl (hP _ _ ⟨(hJ.mono hA41 (by omega) (by omega)), _, rfl⟩)
theorem hX241 {d : Nat} {N : Int} {A0 A : hs_A} (hA : hJ 0 N (N + 72) A0 A) (hN : N ≤ 900000) (a1 : Int32) : hxC (d + 3) 241 hm_m241 [.ref 368, .int a1] A (fun r A' => hJ 0 (N + 72) (N + 144) A0 A' ∧ ∃ z : Int32, r = some (.int z)) := hxC.of (by rfl) (hY241 hA hN a1 (fun r A' h => h))
section HP
variable {Q : Nat} {Bn Br : Int} {A0 A : hs_A} {i k j : Nat} {x : Int32}
theorem hJ.rt1 (h : hJ 1 Bn Br A0 A) : A.2.2.2 20 2 = 3 := h.2.2.2.2.1
theorem hJ.rt2 (h : hJ 2 Bn Br A0 A) : A.2.2.2 20 2 = 12 := h.2.2.2.2.1
theorem hJ.rt6 (h : hJ 6 Bn Br A0 A) : A.2.2.2 20 2 = 3 := h.2.2.2.2.1.1
theorem hJ.rt7 (h : hJ 7 Bn Br A0 A) : A.2.2.2 20 2 = 12 := h.2.2.2.2.1.1
theorem hJ.rt8 (h : hJ 8 Bn Br A0 A) : A.2.2.2 20 2 = 3 := h.2.2.2.2.1
theorem hJ.rt9 (h : hJ 9 Bn Br A0 A) : A.2.2.2 20 2 = 12 := h.2.2.2.2.1
theorem hJ.setG (h : hJ Q Bn Br A0 A) (hx : hb_ok (hb_a i) x) (hr : hr_a Q i = true) (hn : hq0 i = true) (he : hE Q A0 (A.1, hs_up A.2.1 i j x, A.2.2)) : hJ Q Bn Br A0 (A.1, hs_up A.2.1 i j x, A.2.2) := by
  refine ⟨⟨h.1.1, hup3 (fun a _ z => hb_ok (hb_a a) z) h.1.2.1 hx, h.1.2.2⟩, h.2.1.set (fun a ha b => ?_), ⟨h.2.2.1.1, fun a q b => ?_, h.2.2.1.2.2⟩, h.2.2.2.1, he⟩
  · exact hup2 (fun e => hq_ne (Q := 0) hn (e.1 ▸ ha))
  · show hs_up A.2.1 i j x a b = _
    rw [hup2 (fun e => by obtain ⟨rfl, rfl⟩ := e; rw [q] at hr; cases hr)]
    exact h.2.2.1.2.1 a q b
theorem hVs_up {c : Nat} (h : ∀ j, hVs (A.2.1 c j)) (hx : hVs x) : ∀ b, hVs (hs_up A.2.1 c j x c b) := by
  intro b
  by_cases e : b = j
  · subst e
    rw [hup1]
    exact hx
  · rw [hup2 (fun q => e q.2)]
    exact h b
theorem hVs_ne {c : Nat} (h : ∀ j, hVs (A.2.1 c j)) (hi : ¬ c = i) : ∀ b, hVs (hs_up A.2.1 i j x c b) := by
  intro b
  rw [hup2 (fun q => hi q.1)]
  exact h b
theorem hPg_up {c : Nat} (h : hPg A c) (h0 : 0 ≤ x.toInt) (h1 : x.toInt ≤ 255) : hPg (A.1, hs_up A.2.1 c j x, A.2.2) c := by
  intro b hb
  show 0 ≤ (hs_up A.2.1 c j x c b).toInt ∧ (hs_up A.2.1 c j x c b).toInt ≤ 255
  by_cases e : b = j
  · subst e
    rw [hup1]
    exact ⟨h0, h1⟩
  · rw [hup2 (fun q => e q.2)]
    exact h b hb
theorem hPg_ne {c : Nat} (h : hPg A c) (hi : ¬ c = i) : hPg (A.1, hs_up A.2.1 i j x, A.2.2) c := by
  intro b hb
  show 0 ≤ (hs_up A.2.1 i j x c b).toInt ∧ (hs_up A.2.1 i j x c b).toInt ≤ 255
  rw [hup2 (fun q => hi q.1)]
  exact h b hb
theorem hE.setL {f : Nat → Nat → Int64} (h : hE Q A0 A) : hE Q A0 (A.1, A.2.1, f, A.2.2.2) := by
  match Q, h with
  | 0, _ => exact True.intro
  | 1, h => exact ⟨h.1, h.2.1, h.2.2.imp id (fun w j hj => w j hj)⟩
  | 2, h => exact ⟨h.1, h.2.1, h.2.2.imp id (fun w j hj => w j hj)⟩
  | 3, _ => exact True.intro
  | 4, h => exact (fun c j hl => h c j hl)
  | 5, h => exact (fun c j hl => h c j hl)
  | 6, h => exact ⟨⟨h.1.1, h.1.2⟩, fun j hj => h.2 j hj⟩
  | 7, h => exact ⟨⟨h.1.1, h.1.2⟩, fun j hj => h.2 j hj⟩
  | 8, h => exact ⟨h.1, h.2⟩
  | 9, h => exact ⟨h.1, h.2⟩
  | 10, _ => exact True.intro
  | _ + 11, h => exact (fun c j hl => h c j hl)
theorem hJ.setL {f : Nat → Nat → Int64} (h : hJ Q Bn Br A0 A) (hQ : ¬ Q = 0) : hJ Q Bn Br A0 (A.1, A.2.1, f, A.2.2.2) := ⟨⟨h.1.1, h.1.2.1, h.1.2.2⟩, h.2.1, ⟨h.2.2.1.1, h.2.2.1.2.1, fun e => absurd e hQ, h.2.2.1.2.2.2⟩, h.2.2.2.1, h.2.2.2.2.setL⟩
theorem hJ.startP {T : Nat} (hT : hTT T) (h : hJ 0 Bn Br A A) (hq' : Q = 8 ∧ T = 2 ∨ Q = 9 ∧ T = 11) : hJ Q Bn Br A (A.1, A.2.1, A.2.2.1, hs_upN A.2.2.2 20 2 (T + 1)) := by
  have hne : ∀ a b, ¬ (a = 20 ∧ b = 2) → hs_upN A.2.2.2 20 2 (T + 1) a b = A.2.2.2 a b := fun a b e => by
    unfold hs_upN
    by_cases ha : a = 20
    · rw [if_pos ha, if_neg (fun hb => e ⟨ha, hb⟩)]
    · rw [if_neg ha]
  have hs : hEs T (A.1, A.2.1, A.2.2.1, hs_upN A.2.2.2 20 2 (T + 1)) := ⟨by simp [hs_upN], h.2.2.2.1.2.2.1 T hT⟩
  have hd : ∀ a b, hd_r 8 a b = false → hs_upN A.2.2.2 20 2 (T + 1) a b = A.2.2.2 a b := fun a b e => hne a b (fun z => by obtain ⟨rfl, rfl⟩ := z; cases e)
  have hb : hB (A.1, A.2.1, A.2.2.1, hs_upN A.2.2.2 20 2 (T + 1)) := ⟨h.1.1, h.1.2.1, by show hs_upN A.2.2.2 20 2 (T + 1) 323 5 = 7 ∨ _; rw [hne 323 5 (by omega)]; exact h.1.2.2⟩
  rcases hq' with ⟨rfl, rfl⟩ | ⟨rfl, rfl⟩
  · exact ⟨hb, h.2.1, ⟨fun _ _ _ => rfl, fun _ _ _ => rfl, fun e => absurd e (by decide), hd⟩, h.2.2.2.1, hs⟩
  · exact ⟨hb, h.2.1, ⟨fun _ _ _ => rfl, fun _ _ _ => rfl, fun e => absurd e (by decide), hd⟩, h.2.2.2.1, hs⟩
theorem hJ.to6 (h : hJ 8 Bn Br A0 A) (hp : hPg A 5) : hJ 6 Bn Br A0 A := ⟨h.1, h.2.1, ⟨h.2.2.1.1, h.2.2.1.2.1, fun e => absurd e (by decide), h.2.2.1.2.2.2⟩, h.2.2.2.1, ⟨h.2.2.2.2, hp⟩⟩
theorem hJ.to7 (h : hJ 9 Bn Br A0 A) (hp : hPg A 14) : hJ 7 Bn Br A0 A := ⟨h.1, h.2.1, ⟨h.2.2.1.1, h.2.2.1.2.1, fun e => absurd e (by decide), h.2.2.1.2.2.2⟩, h.2.2.2.1, ⟨h.2.2.2.2, hp⟩⟩
theorem hJ.to1 (h : hJ 6 Bn Br A0 A) : hJ 1 Bn Br A0 A := ⟨h.1, h.2.1, ⟨h.2.2.1.1, h.2.2.1.2.1, fun e => absurd e (by decide), h.2.2.1.2.2.2⟩, h.2.2.2.1, ⟨h.2.2.2.2.1.1, h.2.2.2.2.1.2, Or.inr h.2.2.2.2.2⟩⟩
theorem hJ.to2 (h : hJ 7 Bn Br A0 A) : hJ 2 Bn Br A0 A := ⟨h.1, h.2.1, ⟨h.2.2.1.1, h.2.2.1.2.1, fun e => absurd e (by decide), h.2.2.1.2.2.2⟩, h.2.2.2.1, ⟨h.2.2.2.2.1.1, h.2.2.2.2.1.2, Or.inr h.2.2.2.2.2⟩⟩
theorem hn_shl3 (w : Int32) : (w <<< (Int32.ofNat 3 &&& 31)).toBitVec.toNat % 8 = 0 := by
  have e : (Int32.ofNat 3 &&& 31) = (3 : Int32) := by decide
  rw [e]
  have : (w <<< (3 : Int32)).toBitVec = w.toBitVec <<< (3 : Nat) := by
    rw [Int32.toBitVec_shiftLeft]
    rfl
  rw [this, BitVec.toNat_shiftLeft, Nat.shiftLeft_eq]
  omega
theorem hn_or7 {y s : Int32} (hy : y.toBitVec.toNat % 8 = 0) (h0 : 0 ≤ s.toInt) (h1 : s.toInt ≤ 7) : ((y ||| s) &&& 7).toInt = s.toInt := by
  have hs := hn_bv h0
  have e7 : (7 : Int32).toBitVec.toNat = 2 ^ 3 - 1 := by decide
  have e1 : ((y ||| s) &&& 7).toBitVec.toNat = s.toBitVec.toNat := by
    rw [hn_andN, hn_orN, e7, Nat.and_two_pow_sub_one_eq_mod]
    have := Nat.or_mod_two_pow (a := y.toBitVec.toNat) (b := s.toBitVec.toNat) (n := 3)
    rw [this]
    have h2 : y.toBitVec.toNat % 2 ^ 3 = 0 := hy
    rw [h2, Nat.zero_or]
    omega
  rw [hn_bv2 (by rw [e1]; omega), e1]
  omega
theorem hVadd {w s y z : Int32} (hy : y = w <<< (Int32.ofNat 3 &&& 31)) (hz : z = y ||| s) (h0 : 0 ≤ s.toInt) (h1 : s.toInt ≤ 7) (h : ¬ s.toInt = 1 ∨ (0 ≤ w.toInt ∧ w.toInt ≤ 8)) : hVs z := by
  intro e
  have q := hn_or7 (y := y) (by rw [hy]; exact hn_shl3 w) h0 h1
  rw [← hz, e] at q
  have e1 : (1 : Int32).toInt = 1 := by decide
  rw [e1] at q
  have hw : 0 ≤ w.toInt ∧ w.toInt ≤ 8 := by omega
  have es : s = 1 := Int32.toInt_inj.mp (by rw [e1]; exact q.symm)
  rw [hz, hy, es, hn_of w]
  generalize w.toInt = n at hw
  have : n = 0 ∨ n = 1 ∨ n = 2 ∨ n = 3 ∨ n = 4 ∨ n = 5 ∨ n = 6 ∨ n = 7 ∨ n = 8 := by omega
  rcases this with rfl | rfl | rfl | rfl | rfl | rfl | rfl | rfl | rfl <;> decide
end HP
section HPR
variable {d : Nat} {ret : Option FieldType} {tb : hc_K} {pc len r1 r2 : Nat} {l st : List Value} {A : hs_A} {P : Option Value → hs_A → Prop} {Q : Nat} {Bn Br : Int} {A0 : hs_A}
theorem hxj_lald {i m : Nat} {j : Int32} {ej : Int} (hI : hc_get tb pc = some (.laload, len, r1, r2)) (hs : hc_get hs_sh i = some (1, 2, [m])) (hj : j.toInt = ej) (h0 : 0 ≤ ej) (h1 : ej < (m : Int)) (k : ∀ v : Int64, A.2.2.1 i j.toNatClampNeg = v → hxa d ret tb (pc + 1) l (.long v :: st) A P) : hxa d ret tb pc l (.int j :: .ref (i + 1) :: st) A P := by
  subst hj
  exact hxa_lald hI hs (hn_ix h0 h1).1 (hn_ix h0 h1).2 (k _ rfl)
theorem hxj_last {i m : Nat} {j : Int32} {x : Int64} {ej : Int} (hI : hc_get tb pc = some (.lastore, len, r1, r2)) (hs : hc_get hs_sh i = some (1, 2, [m])) (hj : j.toInt = ej) (h0 : 0 ≤ ej) (h1 : ej < (m : Int)) (hA : hJ Q Bn Br A0 A) (hQ : ¬ Q = 0) (k : ∀ A' : hs_A, hJ Q Bn Br A0 A' → A'.1 = A.1 → A'.2.1 = A.2.1 → hxa d ret tb (pc + 1) l st A' P) : hxa d ret tb pc l (.long x :: .int j :: .ref (i + 1) :: st) A P := by
  subst hj
  exact hxa_last hI hs (hn_ix h0 h1).1 (hn_ix h0 h1).2 (k _ (hA.setL hQ) rfl rfl)
theorem hxj_iastV1 {j x : Int32} {ej : Int} (hI : hc_get tb pc = some (.iastore, len, r1, r2)) (hj : j.toInt = ej) (h0 : 0 ≤ ej) (h1 : ej < 408) (hA : hJ 1 Bn Br A0 A) (hv : hVs x) (k : ∀ A' : hs_A, hJ 1 Bn Br A0 A' → A'.1 = A.1 → A'.2.1 = hs_up A.2.1 7 j.toNatClampNeg x → A'.2.2 = A.2.2 → hxa d ret tb (pc + 1) l st A' P) : hxa d ret tb pc l (.int x :: .int j :: .ref 8 :: st) A P := by
  subst hj
  have h := hA.2.2.2.2
  exact hxa_iast (i := 7) (m := 408) hI (by rfl) (hn_ix h0 h1).1 (hn_ix h0 h1).2 (k _ (hA.setG (hbokN (by rfl)) (by rfl) (by rfl) ⟨h.1, hVs_up h.2.1 hv, h.2.2.imp id (fun w => hPg_ne w (by decide))⟩) rfl rfl rfl)
theorem hxj_iastV2 {j x : Int32} {ej : Int} (hI : hc_get tb pc = some (.iastore, len, r1, r2)) (hj : j.toInt = ej) (h0 : 0 ≤ ej) (h1 : ej < 408) (hA : hJ 2 Bn Br A0 A) (hv : hVs x) (k : ∀ A' : hs_A, hJ 2 Bn Br A0 A' → A'.1 = A.1 → A'.2.1 = hs_up A.2.1 16 j.toNatClampNeg x → A'.2.2 = A.2.2 → hxa d ret tb (pc + 1) l st A' P) : hxa d ret tb pc l (.int x :: .int j :: .ref 17 :: st) A P := by
  subst hj
  have h := hA.2.2.2.2
  exact hxa_iast (i := 16) (m := 408) hI (by rfl) (hn_ix h0 h1).1 (hn_ix h0 h1).2 (k _ (hA.setG (hbokN (by rfl)) (by rfl) (by rfl) ⟨h.1, hVs_up h.2.1 hv, h.2.2.imp id (fun w => hPg_ne w (by decide))⟩) rfl rfl rfl)
theorem hxj_iastV6 {j x : Int32} {ej : Int} (hI : hc_get tb pc = some (.iastore, len, r1, r2)) (hj : j.toInt = ej) (h0 : 0 ≤ ej) (h1 : ej < 408) (hA : hJ 6 Bn Br A0 A) (hv : hVs x) (k : ∀ A' : hs_A, hJ 6 Bn Br A0 A' → A'.1 = A.1 → A'.2.1 = hs_up A.2.1 7 j.toNatClampNeg x → A'.2.2 = A.2.2 → hxa d ret tb (pc + 1) l st A' P) : hxa d ret tb pc l (.int x :: .int j :: .ref 8 :: st) A P := by
  subst hj
  have h := hA.2.2.2.2
  exact hxa_iast (i := 7) (m := 408) hI (by rfl) (hn_ix h0 h1).1 (hn_ix h0 h1).2 (k _ (hA.setG (hbokN (by rfl)) (by rfl) (by rfl) ⟨⟨h.1.1, hVs_up h.1.2 hv⟩, hPg_ne h.2 (by decide)⟩) rfl rfl rfl)
theorem hxj_iastV7 {j x : Int32} {ej : Int} (hI : hc_get tb pc = some (.iastore, len, r1, r2)) (hj : j.toInt = ej) (h0 : 0 ≤ ej) (h1 : ej < 408) (hA : hJ 7 Bn Br A0 A) (hv : hVs x) (k : ∀ A' : hs_A, hJ 7 Bn Br A0 A' → A'.1 = A.1 → A'.2.1 = hs_up A.2.1 16 j.toNatClampNeg x → A'.2.2 = A.2.2 → hxa d ret tb (pc + 1) l st A' P) : hxa d ret tb pc l (.int x :: .int j :: .ref 17 :: st) A P := by
  subst hj
  have h := hA.2.2.2.2
  exact hxa_iast (i := 16) (m := 408) hI (by rfl) (hn_ix h0 h1).1 (hn_ix h0 h1).2 (k _ (hA.setG (hbokN (by rfl)) (by rfl) (by rfl) ⟨⟨h.1.1, hVs_up h.1.2 hv⟩, hPg_ne h.2 (by decide)⟩) rfl rfl rfl)
theorem hxj_iastP1 {j x : Int32} {ej ex : Int} (hI : hc_get tb pc = some (.iastore, len, r1, r2)) (hj : j.toInt = ej) (h0 : 0 ≤ ej) (h1 : ej < 24) (hx : x.toInt = ex) (hA : hJ 1 Bn Br A0 A) (hp : ¬ (A.1 20 7).toInt = 0 ∨ (0 ≤ ex ∧ ex ≤ 255)) (k : ∀ A' : hs_A, hJ 1 Bn Br A0 A' → A'.1 = A.1 → A'.2.1 = hs_up A.2.1 5 j.toNatClampNeg x → A'.2.2 = A.2.2 → hxa d ret tb (pc + 1) l st A' P) : hxa d ret tb pc l (.int x :: .int j :: .ref 6 :: st) A P := by
  subst hj
  subst hx
  have h := hA.2.2.2.2
  refine hxa_iast (i := 5) (m := 24) hI (by rfl) (hn_ix h0 h1).1 (hn_ix h0 h1).2 (k _ (hA.setG (hbokN (by rfl)) (by rfl) (by rfl) ⟨h.1, hVs_ne h.2.1 (by decide), ?_⟩) rfl rfl rfl)
  rcases hp with hp | hp
  · exact Or.inl hp
  · exact h.2.2.imp id (fun w => hPg_up w hp.1 hp.2)
theorem hxj_putLate1 {z : Nat} {x : Int32} {ex : Int} (hI : hc_get tb pc = some (.putfield z, len, 4, 7)) (hx : x.toInt = ex) (hA : hJ 1 Bn Br A0 A) (hp : ¬ ex = 0) (k : ∀ A' : hs_A, hJ 1 Bn Br A0 A' → A'.1 = hs_up A.1 20 7 x → A'.2 = A.2 → hxa d ret tb (pc + 3) l st A' P) : hxa d ret tb pc l (.int x :: .ref 21 :: st) A P := by
  subst hx
  have h := hA.2.2.2.2
  refine hxa_putI (i := 20) hI (by rfl) (by rfl) (by rfl) (k _ ⟨⟨hup3 (fun a b z => hb_ok (hb_f a b) z) hA.1.1 (hbokN (by rfl)), hA.1.2⟩, hA.2.1, ⟨fun a b e => ?_, hA.2.2.1.2⟩, hA.2.2.2.1, ⟨h.1, h.2.1, Or.inl ?_⟩⟩ rfl rfl)
  · show hs_up A.1 20 7 x a b = _
    rw [hup2 (fun w => by obtain ⟨rfl, rfl⟩ := w; cases e)]
    exact hA.2.2.1.1 a b e
  · show ¬ (hs_up A.1 20 7 x 20 7).toInt = 0
    rw [hup1]
    exact hp
theorem hxj_iastP2 {j x : Int32} {ej ex : Int} (hI : hc_get tb pc = some (.iastore, len, r1, r2)) (hj : j.toInt = ej) (h0 : 0 ≤ ej) (h1 : ej < 24) (hx : x.toInt = ex) (hA : hJ 2 Bn Br A0 A) (hp : ¬ (A.1 20 7).toInt = 0 ∨ (0 ≤ ex ∧ ex ≤ 255)) (k : ∀ A' : hs_A, hJ 2 Bn Br A0 A' → A'.1 = A.1 → A'.2.1 = hs_up A.2.1 14 j.toNatClampNeg x → A'.2.2 = A.2.2 → hxa d ret tb (pc + 1) l st A' P) : hxa d ret tb pc l (.int x :: .int j :: .ref 15 :: st) A P := by
  subst hj
  subst hx
  have h := hA.2.2.2.2
  refine hxa_iast (i := 14) (m := 24) hI (by rfl) (hn_ix h0 h1).1 (hn_ix h0 h1).2 (k _ (hA.setG (hbokN (by rfl)) (by rfl) (by rfl) ⟨h.1, hVs_ne h.2.1 (by decide), ?_⟩) rfl rfl rfl)
  rcases hp with hp | hp
  · exact Or.inl hp
  · exact h.2.2.imp id (fun w => hPg_up w hp.1 hp.2)
theorem hxj_putLate2 {z : Nat} {x : Int32} {ex : Int} (hI : hc_get tb pc = some (.putfield z, len, 4, 7)) (hx : x.toInt = ex) (hA : hJ 2 Bn Br A0 A) (hp : ¬ ex = 0) (k : ∀ A' : hs_A, hJ 2 Bn Br A0 A' → A'.1 = hs_up A.1 20 7 x → A'.2 = A.2 → hxa d ret tb (pc + 3) l st A' P) : hxa d ret tb pc l (.int x :: .ref 21 :: st) A P := by
  subst hx
  have h := hA.2.2.2.2
  refine hxa_putI (i := 20) hI (by rfl) (by rfl) (by rfl) (k _ ⟨⟨hup3 (fun a b z => hb_ok (hb_f a b) z) hA.1.1 (hbokN (by rfl)), hA.1.2⟩, hA.2.1, ⟨fun a b e => ?_, hA.2.2.1.2⟩, hA.2.2.2.1, ⟨h.1, h.2.1, Or.inl ?_⟩⟩ rfl rfl)
  · show hs_up A.1 20 7 x a b = _
    rw [hup2 (fun w => by obtain ⟨rfl, rfl⟩ := w; cases e)]
    exact hA.2.2.1.1 a b e
  · show ¬ (hs_up A.1 20 7 x 20 7).toInt = 0
    rw [hup1]
    exact hp
theorem hX246z {C m : Nat} {a2 : Int32} (hA : hJ Q Bn Br A0 A) (hC : hc_get hs_sh C = some (0, 1, [m])) (hm : m < 100000) (hx : hb_ok (hb_a C) a2) (hr : hr_a Q C = true) (hq' : hq Q C = true) : hxC (d + 1) 246 hm_m246 [.ref (C + 1), .int a2] A (fun r A' => (hJ Q Bn Br A0 A' ∧ ∀ b, b < m → A'.2.1 C b = a2) ∧ r = none) := by
  refine hxC.of (by rfl) ?_
  refine hxa_iconst (by rfl) rfl ?_
  refine hxa_s1 (by rfl) (Or.inl ⟨_, rfl, rfl⟩) rfl ?_
  refine hxa_aload_n (by rfl) rfl ?_
  refine hxa_alen (by rfl) rfl hC (hn_top (fun z ez => ?_))
  have hz : z.toInt = m := hn_c ez (by omega)
  refine hxa_s1 (by rfl) (Or.inl ⟨_, rfl, rfl⟩) rfl ?_
  have L : ∀ (n : Nat) (i : Int32) (A1 : hs_A) (h1 : hJ Q Bn Br A0 A1) (hf : ∀ b : Nat, (b : Int) < i.toInt → A1.2.1 C b = a2) (h0 : 0 ≤ i.toInt) (h2 : i.toInt ≤ m) (hn : (m : Int) - i.toInt < n), hxa d none hm_t246 5 [.ref (C + 1), .int a2, .int i, .int z] [] A1 (fun r A' => (hJ Q Bn Br A0 A' ∧ ∀ b, b < m → A'.2.1 C b = a2) ∧ r = none) := by
    intro n
    induction n with
    | zero => intro i A1 h1 hf h0 h2 hn; exact False.elim (by omega)
    | succ n ih =>
      intro i A1 h1 hf h0 h2 hn
      refine hxa_iload_n (by rfl) rfl ?_
      refine hxa_iload_n (by rfl) rfl ?_
      refine hxj_cge (by rfl) rfl hz (fun q => ?_) (fun q => ?_)
      · exact hxa_return (by rfl) rfl ⟨⟨h1, fun b hb => hf b (by omega)⟩, rfl⟩
      · refine hxa_aload_n (by rfl) rfl ?_
        refine hxa_iload_n (by rfl) rfl ?_
        refine hxa_iload_n (by rfl) rfl ?_
        refine hxj_iast (by rfl) hC rfl (by omega) (by omega) h1 hx hr hq' (fun A2 h2 e2 f2 g2 => ?_)
        refine hxj_iinc (by rfl) rfl rfl hk_1 (by omega) (by omega) (fun _ => rfl) (fun i2 e => ?_)
        refine hxa_goto (by rfl) ?_
        refine ih i2 A2 h2 (fun b hb => ?_) (by omega) (by omega) (by omega)
        have hc := hn_cn h0
        rw [f2]
        by_cases w : b = i.toNatClampNeg
        · subst w
          rw [hup1]
        · rw [hup2 (fun u => w u.2)]
          exact hf b (by omega)
  have k0 := hk_0
  exact L (m + 1) _ A hA (fun b hb => by omega) (by omega) (by omega) (by omega)
theorem hxj_putRT {z T : Nat} (hI : hc_get tb pc = some (.putfield z, len, 4, 2)) (hT : hTT T) (hA : hJ 0 Bn Br A A) (hq' : Q = 8 ∧ T = 2 ∨ Q = 9 ∧ T = 11) (k : ∀ A' : hs_A, hJ Q Bn Br A A' → A'.1 = A.1 → hxa d ret tb (pc + 3) l st A' P) : hxa d ret tb pc l (.ref (T + 1) :: .ref 21 :: st) A P := hxa_putR (i := 20) hI rfl rfl rfl (k _ (hJ.startP hT hA hq') rfl)
theorem hixf_cons (x : Int32) (b : Nat) (l : List Nat) (k : Nat) : hc_ixf x (b :: l) k = (match decide (Int32.ofNat b = x) with
  | true => Int32.ofNat k
  | false => hc_ixf x l (k + 1)) := rfl
theorem hixf_rng (x : Int32) : ∀ (l : List Nat) (k : Nat), k + l.length < 1000 → -1 ≤ (hc_ixf x l k).toInt ∧ (hc_ixf x l k).toInt < (k : Int) + l.length := by
  intro l
  induction l with
  | nil =>
    intro k hk
    show -1 ≤ (-1 : Int32).toInt ∧ (-1 : Int32).toInt < (k : Int) + (0 : Nat)
    have : (-1 : Int32).toInt = -1 := by decide
    omega
  | cons b l ih =>
    intro k hk
    have hl : (b :: l).length = l.length + 1 := rfl
    have h1 := hn_c (n := k) rfl (by omega)
    have h2 := ih (k + 1) (by omega)
    rw [hixf_cons]
    cases decide (Int32.ofNat b = x) with
    | true =>
      show -1 ≤ (Int32.ofNat k).toInt ∧ (Int32.ofNat k).toInt < (k : Int) + (b :: l).length
      omega
    | false =>
      show -1 ≤ (hc_ixf x l (k + 1)).toInt ∧ (hc_ixf x l (k + 1)).toInt < (k : Int) + (b :: l).length
      omega
theorem hxj_strIdx {z : Nat} {x : Int32} (hI : hc_get tb pc = some (.invokevirtual z, len, 2, 7)) (hcat : Nat.ble (hc_cat st) 8 = true) (K : ∀ v : Int32, -1 ≤ v.toInt → v.toInt ≤ 8 → hxa d ret tb (pc + 3) l (.int v :: st) A P) : hxa d ret tb pc l (.int x :: .retAddr 0 :: st) A P := by
  have h := hixf_rng x (hc_txt 0) 0 (by decide)
  have e : (hc_txt 0).length = 9 := by decide
  exact hxa_strIdx hI hcat (K _ h.1 (by omega))
theorem hxj_strLen {z : Nat} (hI : hc_get tb pc = some (.invokevirtual z, len, 0, 7)) (hcat : Nat.ble (hc_cat st) 8 = true) (K : ∀ v : Int32, v.toInt = 102 → hxa d ret tb (pc + 3) l (.int v :: st) A P) : hxa d ret tb pc l (.retAddr 1 :: st) A P := hxa_strLen hI hcat (K _ (by decide))
theorem hxj_strChar {z : Nat} {i : Int32} {ei : Int} (hI : hc_get tb pc = some (.invokevirtual z, len, 1, 7)) (hcat : Nat.ble (hc_cat st) 8 = true) (hi : i.toInt = ei) (h0 : 0 ≤ ei) (h1 : ei < 102) (K : ∀ v : Int32, hxa d ret tb (pc + 3) l (.int v :: st) A P) : hxa d ret tb pc l (.int i :: .retAddr 1 :: st) A P := by
  subst hi
  have e : (hc_txt 1).length = 102 := by decide
  have hlt : i.toNatClampNeg < (hc_txt 1).length := by rw [e]; show i.toInt.toNat < 102; omega
  exact hxa_strChar (k := 1) (b := (hc_txt 1)[i.toNatClampNeg]) hI hcat (hn_ix0 rfl h0) (List.getElem?_eq_getElem hlt) (K _)
end HPR
theorem hY12q6 {d : Nat} {Bn Br : Int} {A0 A : hs_A} (hA : hJ 6 Bn Br A0 A)  (a1 : Int32) (p1 : 0 ≤ a1.toInt) (q1 : a1.toInt ≤ 7) (a2 : Int32) (x0 : ¬ a1.toInt = 1 ∨ (0 ≤ a2.toInt ∧ a2.toInt ≤ 8)) {P : Option Value → hs_A → Prop} (hP : ∀ (r : Option Value) (A' : hs_A), (hJ 6 Bn Br A0 A' ∧ ∃ z : Int32, r = some (.int z)) → P r A') : hxa (d + 0) (some (.int)) hm_t12 0 [.ref 7, .int a1, .int a2] [] A P := by
  have L17 : ∀ (Ac17 : hs_A) (hAc17 : hJ 6 Bn Br A0 Ac17), hxa (d + 0) (some (.int)) hm_t12 17 [.ref 7, .int a1, .int a2] [] Ac17 P := by
    intro Ac17 hAc17
    refine hxa_aload_n (by rfl) rfl ?_
    refine hxj_getB (by rfl) (by rfl) (by rfl) hAc17 (by rfl) (fun z1 ez1 fz1 gz1 => ?_)
    refine hxa_sipush (by rfl) rfl ?_
    refine hxj_cge (by rfl) rfl hk_408 (fun q2 => ?_) (fun q2 => ?_)
    ·
      refine hxa_aload_n (by rfl) rfl ?_
      refine hxj_getK (by rfl) (by rfl) (by rfl) ez1 ?_
      refine hxa_iconst (by rfl) rfl ?_
      refine hxj_isub (by rfl) rfl hk_1 (by omega) (by omega) (fun z3 ez3 => ?_)
      exact hxa_ireturn (by rfl) rfl (hP _ _ ⟨hAc17, _, rfl⟩)
    ·
      refine hxa_aload_n (by rfl) rfl ?_
      refine hxa_get (v := .ref 8) (by rfl) (by rfl) (by rfl) rfl ?_
      refine hxa_aload_n (by rfl) rfl ?_
      refine hxj_getK (by rfl) (by rfl) (by rfl) ez1 ?_
      refine hxa_iload_n (by rfl) rfl ?_
      refine hxa_iconst (by rfl) rfl ?_
      refine hxa_ishl (by rfl) (hn_top (fun z4 ez4 => ?_))
      refine hxa_iload_n (by rfl) rfl ?_
      refine hxa_ior (by rfl) (hn_top (fun z5 ez5 => ?_))
      refine hxj_iastV6 (by rfl) rfl (by omega) (by omega) hAc17 (hVadd ez4 ez5 (by omega) (by omega) (by omega)) (fun A6 hA6 eA6 fA6 gA6 => ?_)
      refine hxa_aload_n (by rfl) rfl ?_
      refine hxa_dupR (by rfl) ?_
      refine hxj_getK (by rfl) (by rfl) (by rfl) (hkA eA6 ez1) ?_
      refine hxa_iconst (by rfl) rfl ?_
      refine hxj_iadd (by rfl) rfl hk_1 (by omega) (by omega) (fun z7 ez7 => ?_)
      refine hxj_putI (by rfl) (by rfl) (by rfl) (by rfl) hA6 (hbok (by rfl) rfl (by omega) (by omega)) (by rfl) (by rfl) (fun A8 hA8 eA8 fA8 => ?_)
      refine hxa_aload_n (by rfl) rfl ?_
      refine hxj_getK (by rfl) (by rfl) (by rfl) (hkS eA8) ?_
      refine hxa_iconst (by rfl) rfl ?_
      refine hxj_isub (by rfl) rfl hk_1 (by omega) (by omega) (fun z9 ez9 => ?_)
      exact hxa_ireturn (by rfl) rfl (hP _ _ ⟨hA8, _, rfl⟩)
  refine hxa_iload_n (by rfl) rfl ?_
  refine hxa_iconst (by rfl) rfl ?_
  refine hxj_cne (by rfl) rfl hk_1 (fun q10 => ?_) (fun q10 => ?_)
  ·
    exact L17 A hA
  ·
    refine hxa_aload_n (by rfl) rfl ?_
    refine hxa_dupR (by rfl) ?_
    refine hxj_getI (by rfl) (by rfl) (by rfl) (fun z11 ez11 => ?_)
    refine hxa_iconst (by rfl) rfl ?_
    refine hxa_iload_n (by rfl) rfl ?_
    refine hxj_ishlU (by rfl) (fun z12 => ?_)
    refine hxj_iorU (by rfl) (fun z13 => ?_)
    refine hxj_putI (by rfl) (by rfl) (by rfl) (by rfl) hA (hbokN (by rfl)) (by rfl) (by rfl) (fun A14 hA14 eA14 fA14 => ?_)
    exact L17 A14 hA14
theorem hX12q6 {d : Nat} {Bn Br : Int} {A0 A : hs_A} (hA : hJ 6 Bn Br A0 A)  (a1 : Int32) (p1 : 0 ≤ a1.toInt) (q1 : a1.toInt ≤ 7) (a2 : Int32) (x0 : ¬ a1.toInt = 1 ∨ (0 ≤ a2.toInt ∧ a2.toInt ≤ 8)) : hxC (d + 1) 12 hm_m12 [.ref 7, .int a1, .int a2] A (fun r A' => hJ 6 Bn Br A0 A' ∧ ∃ z : Int32, r = some (.int z)) := hxC.of (by rfl) (hY12q6 hA a1 p1 q1 a2 x0 (fun r A' h => h))
theorem hY10q6 {d : Nat} {Bn Br : Int} {A0 A : hs_A} (hA : hJ 6 Bn Br A0 A)  (a1 : Int32) (p1 : 0 ≤ a1.toInt) (q1 : a1.toInt ≤ 3) (a2 : Int32) {P : Option Value → hs_A → Prop} (hP : ∀ (r : Option Value) (A' : hs_A), (hJ 6 Bn Br A0 A' ∧ r = none) → P r A') : hxa (d + 0) none hm_t10 0 [.ref 7, .int a1, .int a2] [] A P := by
  refine hxa_aload_n (by rfl) rfl ?_
  refine hxa_get (v := .ref 9) (by rfl) (by rfl) (by rfl) rfl ?_
  refine hxa_iload_n (by rfl) rfl ?_
  refine hxa_iload_n (by rfl) rfl ?_
  refine hxj_iast (by rfl) (by rfl) rfl (by omega) (by omega) hA (hbokN (by rfl)) (by rfl) (by rfl) (fun A1 hA1 eA1 fA1 gA1 => ?_)
  refine hxa_aload_n (by rfl) rfl ?_
  refine hxa_get (v := .ref 10) (by rfl) (by rfl) (by rfl) rfl ?_
  refine hxa_iload_n (by rfl) rfl ?_
  refine hxa_aload_n (by rfl) rfl ?_
  refine hxj_getI (by rfl) (by rfl) (by rfl) (fun z2 ez2 => ?_)
  refine hxj_iast (by rfl) (by rfl) rfl (by omega) (by omega) hA1 (hbokN (by rfl)) (by rfl) (by rfl) (fun A3 hA3 eA3 fA3 gA3 => ?_)
  exact hxa_return (by rfl) rfl (hP _ _ ⟨hA3, rfl⟩)
theorem hX10q6 {d : Nat} {Bn Br : Int} {A0 A : hs_A} (hA : hJ 6 Bn Br A0 A)  (a1 : Int32) (p1 : 0 ≤ a1.toInt) (q1 : a1.toInt ≤ 3) (a2 : Int32) : hxC (d + 1) 10 hm_m10 [.ref 7, .int a1, .int a2] A (fun r A' => hJ 6 Bn Br A0 A' ∧ r = none) := hxC.of (by rfl) (hY10q6 hA a1 p1 q1 a2 (fun r A' h => h))
theorem hY8q6 {d : Nat} {Bn Br : Int} {A0 A : hs_A} (hA : hJ 6 Bn Br A0 A)   {P : Option Value → hs_A → Prop} (hP : ∀ (r : Option Value) (A' : hs_A), (hJ 6 Bn Br A0 A' ∧ r = none) → P r A') : hxa (d + 1) none hm_t8 0 [.ref 7, .retAddr 0, .retAddr 0] [] A P := by
  have k0 := hk_0
  have k1 := hk_1
  have k7 := hk_7
  have L7 : ∀ (m7 : Nat) (x7_1 : Int32) (x7_2 : Value) (Ac7 : hs_A) (hAc7 : hJ 6 Bn Br A0 Ac7) (bx7_1 : 0 ≤ x7_1.toInt) (cx7_1 : x7_1.toInt ≤ 4) (hm7 : 4 - x7_1.toInt < (m7 : Int)), hxa (d + 1) none hm_t8 7 [.ref 7, .int x7_1, x7_2] [] Ac7 P := by
    intro m7
    induction m7 with
    | zero => intro x7_1 x7_2 Ac7 hAc7 bx7_1 cx7_1 hm7;  exact False.elim (by omega)
    | succ m7 ih7 =>
      intro x7_1 x7_2 Ac7 hAc7 bx7_1 cx7_1 hm7
      have L33 : ∀ (x33_2 : Int32) (y33_1 : Int32) (y33_2 : Int32) (Ac33 : hs_A) (hAc33 : hJ 6 Bn Br A0 Ac33) (bx33_2 : 0 ≤ x33_2.toInt) (cx33_2 : x33_2.toInt ≤ 408) (by33_1 : 0 ≤ y33_1.toInt) (cy33_1 : y33_1.toInt ≤ 0) (by33_2 : 0 ≤ y33_2.toInt) (cy33_2 : y33_2.toInt ≤ 1) (cx7_1 : x7_1.toInt ≤ 3), hxa (d + 1) none hm_t8 33 [.ref 7, .int x7_1, .int x33_2] [.int y33_2, .int y33_1, .ref 7] Ac33 P := by
        intro x33_2 y33_1 y33_2 Ac33 hAc33 bx33_2 cx33_2 by33_1 cy33_1 by33_2 cy33_2 cx7_1
        refine hxa_call0 (by rfl) (by rfl) (by rfl) (by rfl) (by rfl) (by rfl) (hX12q6 (d := d + 0) hAc33 y33_1 (by omega) (by omega) y33_2 (by omega)) ?_
        rintro _ A1 ⟨hA1, z2, rfl⟩
        refine hxa_popI (by rfl) ?_
        refine hxa_aload_n (by rfl) rfl ?_
        refine hxa_bipush (by rfl) rfl ?_
        refine hxa_iconst (by rfl) rfl ?_
        refine hxa_call0 (by rfl) (by rfl) (by rfl) (by rfl) (by rfl) (by rfl) (hX12q6 (d := d + 0) hA1 (Int32.ofNat 7) (by omega) (by omega) (Int32.ofNat 0) (by omega)) ?_
        rintro _ A3 ⟨hA3, z4, rfl⟩
        refine hxa_popI (by rfl) ?_
        refine hxa_aload_n (by rfl) rfl ?_
        refine hxa_iload_n (by rfl) rfl ?_
        refine hxa_iload_n (by rfl) rfl ?_
        refine hxa_call0 (by rfl) (by rfl) (by rfl) (by rfl) (by rfl) (by rfl) (hX10q6 (d := d + 0) hA3 x7_1 (by omega) (by omega) x33_2) ?_
        rintro _ A5 ⟨hA5, rfl⟩
        refine hxj_iinc (by rfl) rfl rfl hk_1 (by omega) (by omega) (fun _ => rfl) (fun z6 ez6 => ?_)
        refine hxa_goto (by rfl) ?_
        exact ih7 z6 (.int x33_2) A5 hA5 (by omega) (by omega) (by omega)
      refine hxa_iload_n (by rfl) rfl ?_
      refine hxa_iconst (by rfl) rfl ?_
      refine hxj_cge (by rfl) rfl hk_4 (fun q7 => ?_) (fun q7 => ?_)
      ·
        exact hxa_return (by rfl) rfl (hP _ _ ⟨hAc7, rfl⟩)
      ·
        refine hxa_aload_n (by rfl) rfl ?_
        refine hxj_getB (by rfl) (by rfl) (by rfl) hAc7 (by rfl) (fun z8 ez8 fz8 gz8 => ?_)
        refine hxa_s1 (by rfl) (Or.inl ⟨_, rfl, rfl⟩) rfl ?_
        refine hxa_aload_n (by rfl) rfl ?_
        refine hxa_iconst (by rfl) rfl ?_
        refine hxj_putI (by rfl) (by rfl) (by rfl) (by rfl) hAc7 (hbokN (by rfl)) (by rfl) (by rfl) (fun A9 hA9 eA9 fA9 => ?_)
        refine hxa_aload_n (by rfl) rfl ?_
        refine hxa_iconst (by rfl) rfl ?_
        refine hxa_iload_n (by rfl) rfl ?_
        refine hxj_zne (by rfl) rfl (fun q10 => ?_) (fun q10 => ?_)
        ·
          refine hxa_iconst (by rfl) rfl ?_
          exact L33 z8 (Int32.ofNat 0) (Int32.ofNat 0) A9 hA9 (by omega) (by omega) (by omega) (by omega) (by omega) (by omega) (by omega)
        ·
          refine hxa_iconst (by rfl) rfl ?_
          refine hxa_goto (by rfl) ?_
          exact L33 z8 (Int32.ofNat 0) (Int32.ofNat 1) A9 hA9 (by omega) (by omega) (by omega) (by omega) (by omega) (by omega) (by omega)
  refine hxa_aload_n (by rfl) rfl ?_
  refine hxa_iconst (by rfl) rfl ?_
  refine hxj_putI (by rfl) (by rfl) (by rfl) (by rfl) hA (hbok (by rfl) hk_0 (by omega) (by omega)) (by rfl) (by rfl) (fun A11 hA11 eA11 fA11 => ?_)
  refine hxa_iconst (by rfl) rfl ?_
  refine hxa_s1 (by rfl) (Or.inl ⟨_, rfl, rfl⟩) rfl ?_
  exact L7 (Int.toNat (4 - 0) + 1) (Int32.ofNat 0) (.retAddr 0) A11 hA11 (by omega) (by omega) (by omega)
theorem hX8q6 {d : Nat} {Bn Br : Int} {A0 A : hs_A} (hA : hJ 6 Bn Br A0 A)   : hxC (d + 2) 8 hm_m8 [.ref 7] A (fun r A' => hJ 6 Bn Br A0 A' ∧ r = none) := hxC.of (by rfl) (hY8q6 hA  (fun r A' h => h))
theorem hY54q6 {d : Nat} {Bn Br : Int} {A0 A : hs_A} (hA : hJ 8 Bn Br A0 A)   {P : Option Value → hs_A → Prop} (hP : ∀ (r : Option Value) (A' : hs_A), (hJ 6 Bn Br A0 A' ∧ r = none) → P r A') : hxa (d + 2) none hm_t54 0 [.ref 3] [] A P := by
  refine hxa_aload_n (by rfl) rfl ?_
  refine hxa_get (v := .ref 6) (by rfl) (by rfl) (by rfl) rfl ?_
  refine hxa_iconst (by rfl) rfl ?_
  refine hxa_call2 (by rfl) (by decide) (by rfl) (by rfl) (by rfl) (hX246z (d := d + 1) hA (C := 5) (by rfl) (by omega) (hbokN (by rfl)) (by rfl) (by rfl)) ?_
  rintro _ A1 ⟨⟨gA1, zA1⟩, rfl⟩
  have hA1 := gA1.to6 (fun j hj => by rw [zA1 j hj]; decide)
  refine hxa_aload_n (by rfl) rfl ?_
  refine hxa_get (v := .ref 7) (by rfl) (by rfl) (by rfl) rfl ?_
  refine hxa_call0 (by rfl) (by rfl) (by rfl) (by rfl) (by rfl) (by rfl) (hX8q6 (d := d + 0) hA1 ) ?_
  rintro _ A2 ⟨hA2, rfl⟩
  refine hxa_aload_n (by rfl) rfl ?_
  refine hxa_iconst (by rfl) rfl ?_
  refine hxj_putI (by rfl) (by rfl) (by rfl) (by rfl) hA2 (hbok (by rfl) hk_0 (by omega) (by omega)) (by rfl) (by rfl) (fun A3 hA3 eA3 fA3 => ?_)
  refine hxa_aload_n (by rfl) rfl ?_
  refine hxa_iconst (by rfl) rfl ?_
  refine hxj_putI (by rfl) (by rfl) (by rfl) (by rfl) hA3 (hbokN (by rfl)) (by rfl) (by rfl) (fun A4 hA4 eA4 fA4 => ?_)
  refine hxa_aload_n (by rfl) rfl ?_
  refine hxa_bipush (by rfl) rfl ?_
  refine hxj_putI (by rfl) (by rfl) (by rfl) (by rfl) hA4 (hbokN (by rfl)) (by rfl) (by rfl) (fun A5 hA5 eA5 fA5 => ?_)
  refine hxa_aload_n (by rfl) rfl ?_
  refine hxa_iconst (by rfl) rfl ?_
  refine hxj_putI (by rfl) (by rfl) (by rfl) (by rfl) hA5 (hbokN (by rfl)) (by rfl) (by rfl) (fun A6 hA6 eA6 fA6 => ?_)
  exact hxa_return (by rfl) rfl (hP _ _ ⟨hA6, rfl⟩)
theorem hX54q6 {d : Nat} {Bn Br : Int} {A0 A : hs_A} (hA : hJ 8 Bn Br A0 A)   : hxC (d + 3) 54 hm_m54 [.ref 3] A (fun r A' => hJ 6 Bn Br A0 A' ∧ r = none) := hxC.of (by rfl) (hY54q6 hA  (fun r A' h => h))
theorem hY59q6 {d : Nat} {Bn Br : Int} {A0 A : hs_A} (hA : hJ 6 Bn Br A0 A)  (a2 : Int32) (p2 : 0 ≤ a2.toInt) (q2 : a2.toInt ≤ 2000) (a3 : Int32) (p3 : 0 ≤ a3.toInt) (q3 : a3.toInt ≤ 2000) {P : Option Value → hs_A → Prop} (hP : ∀ (r : Option Value) (A' : hs_A), (A = A' ∧ ∃ z : Int32, r = some (.int z) ∧ ((0 ≤ z.toInt ∧ z.toInt ≤ 2000))) → P r A') : hxa (d + 0) (some (.int)) hm_t59 0 [.ref 2, .int a2, .int a3, .retAddr 0, .retAddr 0] [] A P := by
  have L2 : ∀ (m2 : Nat) (x2_3 : Int32) (x2_4 : Value) (bx2_3 : 0 ≤ x2_3.toInt) (cx2_3 : x2_3.toInt ≤ 2000) (hm2 : 2000 - x2_3.toInt < (m2 : Int)), hxa (d + 0) (some (.int)) hm_t59 2 [.ref 2, .int a2, .int a3, .int x2_3, x2_4] [] A P := by
    intro m2
    induction m2 with
    | zero => intro x2_3 x2_4 bx2_3 cx2_3 hm2;  exact False.elim (by omega)
    | succ m2 ih2 =>
      intro x2_3 x2_4 bx2_3 cx2_3 hm2
      refine hxa_iload_n (by rfl) rfl ?_
      refine hxa_iload_n (by rfl) rfl ?_
      refine hxj_cge (by rfl) rfl rfl (fun q1 => ?_) (fun q1 => ?_)
      ·
        refine hxa_iload_n (by rfl) rfl ?_
        exact hxa_ireturn (by rfl) rfl (hP _ _ ⟨rfl, _, rfl, by omega⟩)
      ·
        refine hxa_aload_n (by rfl) rfl ?_
        refine hxa_iload_n (by rfl) rfl ?_
        refine hxj_bald (by rfl) (by rfl) rfl (by omega) (by omega) (fun z2 ez2 => ?_)
        refine hxa_s1 (by rfl) (Or.inr ⟨_, rfl, rfl⟩) rfl ?_
        refine hxa_iload (by rfl) rfl ?_
        refine hxa_bipush (by rfl) rfl ?_
        refine hxj_ceq (by rfl) rfl hk_9 (fun q3 => ?_) (fun q3 => ?_)
        ·
          refine hxj_iinc (by rfl) rfl rfl hk_1 (by omega) (by omega) (fun _ => rfl) (fun z4 ez4 => ?_)
          refine hxa_goto (by rfl) ?_
          exact ih2 z4 (.int z2) (by omega) (by omega) (by omega)
        ·
          refine hxa_iload (by rfl) rfl ?_
          refine hxa_bipush (by rfl) rfl ?_
          refine hxj_ceq (by rfl) rfl hk_10 (fun q5 => ?_) (fun q5 => ?_)
          ·
            refine hxj_iinc (by rfl) rfl rfl hk_1 (by omega) (by omega) (fun _ => rfl) (fun z6 ez6 => ?_)
            refine hxa_goto (by rfl) ?_
            exact ih2 z6 (.int z2) (by omega) (by omega) (by omega)
          ·
            refine hxa_iload (by rfl) rfl ?_
            refine hxa_bipush (by rfl) rfl ?_
            refine hxj_ceq (by rfl) rfl hk_13 (fun q7 => ?_) (fun q7 => ?_)
            ·
              refine hxj_iinc (by rfl) rfl rfl hk_1 (by omega) (by omega) (fun _ => rfl) (fun z8 ez8 => ?_)
              refine hxa_goto (by rfl) ?_
              exact ih2 z8 (.int z2) (by omega) (by omega) (by omega)
            ·
              refine hxa_iload (by rfl) rfl ?_
              refine hxa_bipush (by rfl) rfl ?_
              refine hxj_ceq (by rfl) rfl hk_32 (fun q9 => ?_) (fun q9 => ?_)
              ·
                refine hxj_iinc (by rfl) rfl rfl hk_1 (by omega) (by omega) (fun _ => rfl) (fun z10 ez10 => ?_)
                refine hxa_goto (by rfl) ?_
                exact ih2 z10 (.int z2) (by omega) (by omega) (by omega)
              ·
                refine hxa_iload_n (by rfl) rfl ?_
                exact hxa_ireturn (by rfl) rfl (hP _ _ ⟨rfl, _, rfl, by omega⟩)
  refine hxa_iload_n (by rfl) rfl ?_
  refine hxa_s1 (by rfl) (Or.inl ⟨_, rfl, rfl⟩) rfl ?_
  exact L2 (Int.toNat (2000 - a2.toInt) + 1) a2 (.retAddr 0) (by omega) (by omega) (by omega)
theorem hX59q6 {d : Nat} {Bn Br : Int} {A0 A : hs_A} (hA : hJ 6 Bn Br A0 A)  (a2 : Int32) (p2 : 0 ≤ a2.toInt) (q2 : a2.toInt ≤ 2000) (a3 : Int32) (p3 : 0 ≤ a3.toInt) (q3 : a3.toInt ≤ 2000) : hxC (d + 1) 59 hm_m59 [.ref 2, .int a2, .int a3] A (fun r A' => A = A' ∧ ∃ z : Int32, r = some (.int z) ∧ ((0 ≤ z.toInt ∧ z.toInt ≤ 2000))) := hxC.of (by rfl) (hY59q6 hA a2 p2 q2 a3 p3 q3 (fun r A' h => h))
theorem hY62q6 {d : Nat} {Bn Br : Int} {A0 A : hs_A} (hA : hJ 6 Bn Br A0 A)  (a2 : Int32) (p2 : 0 ≤ a2.toInt) (q2 : a2.toInt ≤ 2000) (a3 : Int32) (p3 : 0 ≤ a3.toInt) (q3 : a3.toInt ≤ 2000) {P : Option Value → hs_A → Prop} (hP : ∀ (r : Option Value) (A' : hs_A), (A = A' ∧ ∃ z : Int32, r = some (.int z)) → P r A') : hxa (d + 0) (some (.int)) hm_t62 0 [.ref 2, .int a2, .int a3, .retAddr 0, .retAddr 0, .retAddr 0, .retAddr 0, .retAddr 0] [] A P := by
  have k0 := hk_0
  have k1 := hk_1
  have k4294967295 := hk_4294967295
  have L11 : ∀ (m11 : Nat) (x11_3 : Int32) (x11_4 : Int32) (x11_5 : Int32) (x11_6 : Int32) (x11_7 : Value) (bx11_4 : 0 ≤ x11_4.toInt) (cx11_4 : x11_4.toInt ≤ 2102) (bx11_5 : 0 ≤ x11_5.toInt) (cx11_5 : x11_5.toInt ≤ 1) (bx11_6 : 0 ≤ x11_6.toInt) (cx11_6 : x11_6.toInt ≤ 255) (u11_0 : x11_4.toInt ≤ 2000 + x11_6.toInt) (hm11 : 255 - x11_6.toInt < (m11 : Int)), hxa (d + 0) (some (.int)) hm_t62 11 [.ref 2, .int a2, .int a3, .int x11_3, .int x11_4, .int x11_5, .int x11_6, x11_7] [] A P := by
    intro m11
    induction m11 with
    | zero => intro x11_3 x11_4 x11_5 x11_6 x11_7 bx11_4 cx11_4 bx11_5 cx11_5 bx11_6 cx11_6 u11_0 hm11; have := hn_rng x11_3; exact False.elim (by omega)
    | succ m11 ih11 =>
      intro x11_3 x11_4 x11_5 x11_6 x11_7 bx11_4 cx11_4 bx11_5 cx11_5 bx11_6 cx11_6 u11_0 hm11
      refine hxa_iload (by rfl) rfl ?_
      refine hxa_ldcS (k := 1) (by rfl) rfl ?_
      refine hxj_strLen (by rfl) (by rfl) (fun z1 ez1 => ?_)
      refine hxj_cge (by rfl) rfl rfl (fun q2 => ?_) (fun q2 => ?_)
      ·
        refine hxa_iconst (by rfl) rfl ?_
        exact hxa_ireturn (by rfl) rfl (hP _ _ ⟨rfl, _, rfl⟩)
      ·
        refine hxa_ldcS (k := 1) (by rfl) rfl ?_
        refine hxa_iload (by rfl) rfl ?_
        refine hxj_strChar (by rfl) (by rfl) rfl (by omega) (by omega) (fun z3 => ?_)
        refine hxa_s1 (by rfl) (Or.inr ⟨_, rfl, rfl⟩) rfl ?_
        refine hxa_iload (by rfl) rfl ?_
        refine hxa_bipush (by rfl) rfl ?_
        refine hxj_ceq (by rfl) rfl hk_32 (fun q4 => ?_) (fun q4 => ?_)
        ·
          refine hxa_iload (by rfl) rfl ?_
          refine hxj_zeq (by rfl) rfl (fun q5 => ?_) (fun q5 => ?_)
          ·
            refine hxj_iincU (by rfl) rfl (fun _ => rfl) (fun z6 => ?_)
            refine hxa_iload_n (by rfl) rfl ?_
            refine hxa_s1 (by rfl) (Or.inr ⟨_, rfl, rfl⟩) rfl ?_
            refine hxa_iconst (by rfl) rfl ?_
            refine hxa_s1 (by rfl) (Or.inr ⟨_, rfl, rfl⟩) rfl ?_
            refine hxj_iinc (by rfl) rfl rfl hk_1 (by omega) (by omega) (fun _ => rfl) (fun z7 ez7 => ?_)
            refine hxa_goto (by rfl) ?_
            exact ih11 z6 a2 (Int32.ofNat 1) z7 (.int z3) (by omega) (by omega) (by omega) (by omega) (by omega) (by omega) (by omega) (by omega)
          ·
            refine hxa_iload (by rfl) rfl ?_
            refine hxa_iload_n (by rfl) rfl ?_
            refine hxj_cne (by rfl) rfl rfl (fun q8 => ?_) (fun q8 => ?_)
            ·
              refine hxj_iincU (by rfl) rfl (fun _ => rfl) (fun z9 => ?_)
              refine hxa_iload_n (by rfl) rfl ?_
              refine hxa_s1 (by rfl) (Or.inr ⟨_, rfl, rfl⟩) rfl ?_
              refine hxa_iconst (by rfl) rfl ?_
              refine hxa_s1 (by rfl) (Or.inr ⟨_, rfl, rfl⟩) rfl ?_
              refine hxj_iinc (by rfl) rfl rfl hk_1 (by omega) (by omega) (fun _ => rfl) (fun z10 ez10 => ?_)
              refine hxa_goto (by rfl) ?_
              exact ih11 z9 a2 (Int32.ofNat 1) z10 (.int z3) (by omega) (by omega) (by omega) (by omega) (by omega) (by omega) (by omega) (by omega)
            ·
              refine hxa_iload_n (by rfl) rfl ?_
              exact hxa_ireturn (by rfl) rfl (hP _ _ ⟨rfl, _, rfl⟩)
        ·
          refine hxa_iload (by rfl) rfl ?_
          refine hxj_zeq (by rfl) rfl (fun q11 => ?_) (fun q11 => ?_)
          ·
            refine hxa_iconst (by rfl) rfl ?_
            refine hxa_s1 (by rfl) (Or.inr ⟨_, rfl, rfl⟩) rfl ?_
            refine hxj_iinc (by rfl) rfl rfl hk_1 (by omega) (by omega) (fun _ => rfl) (fun z12 ez12 => ?_)
            refine hxa_goto (by rfl) ?_
            refine hxj_iinc (by rfl) rfl rfl hk_1 (by omega) (by omega) (fun _ => rfl) (fun z13 ez13 => ?_)
            refine hxa_goto (by rfl) ?_
            exact ih11 x11_3 z12 (Int32.ofNat 0) z13 (.int z3) (by omega) (by omega) (by omega) (by omega) (by omega) (by omega) (by omega) (by omega)
          ·
            refine hxa_iload (by rfl) rfl ?_
            refine hxa_iload_n (by rfl) rfl ?_
            refine hxj_cge (by rfl) rfl rfl (fun q14 => ?_) (fun q14 => ?_)
            ·
              refine hxa_iconst (by rfl) rfl ?_
              refine hxa_s1 (by rfl) (Or.inr ⟨_, rfl, rfl⟩) rfl ?_
              refine hxj_iinc (by rfl) rfl rfl hk_1 (by omega) (by omega) (fun _ => rfl) (fun z15 ez15 => ?_)
              refine hxa_goto (by rfl) ?_
              refine hxj_iinc (by rfl) rfl rfl hk_1 (by omega) (by omega) (fun _ => rfl) (fun z16 ez16 => ?_)
              refine hxa_goto (by rfl) ?_
              exact ih11 x11_3 z15 (Int32.ofNat 0) z16 (.int z3) (by omega) (by omega) (by omega) (by omega) (by omega) (by omega) (by omega) (by omega)
            ·
              refine hxa_aload_n (by rfl) rfl ?_
              refine hxa_iload (by rfl) rfl ?_
              refine hxj_bald (by rfl) (by rfl) rfl (by omega) (by omega) (fun z17 ez17 => ?_)
              refine hxa_iload (by rfl) rfl ?_
              refine hxj_cne (by rfl) rfl rfl (fun q18 => ?_) (fun q18 => ?_)
              ·
                refine hxa_iconst (by rfl) rfl ?_
                refine hxa_s1 (by rfl) (Or.inr ⟨_, rfl, rfl⟩) rfl ?_
                refine hxj_iinc (by rfl) rfl rfl hk_1 (by omega) (by omega) (fun _ => rfl) (fun z19 ez19 => ?_)
                refine hxa_goto (by rfl) ?_
                refine hxj_iinc (by rfl) rfl rfl hk_1 (by omega) (by omega) (fun _ => rfl) (fun z20 ez20 => ?_)
                refine hxa_goto (by rfl) ?_
                exact ih11 x11_3 z19 (Int32.ofNat 0) z20 (.int z3) (by omega) (by omega) (by omega) (by omega) (by omega) (by omega) (by omega) (by omega)
              ·
                refine hxa_iconst (by rfl) rfl ?_
                refine hxa_goto (by rfl) ?_
                refine hxa_s1 (by rfl) (Or.inr ⟨_, rfl, rfl⟩) rfl ?_
                refine hxj_iinc (by rfl) rfl rfl hk_1 (by omega) (by omega) (fun _ => rfl) (fun z21 ez21 => ?_)
                refine hxa_goto (by rfl) ?_
                refine hxj_iinc (by rfl) rfl rfl hk_1 (by omega) (by omega) (fun _ => rfl) (fun z22 ez22 => ?_)
                refine hxa_goto (by rfl) ?_
                exact ih11 x11_3 z21 (Int32.ofNat 1) z22 (.int z3) (by omega) (by omega) (by omega) (by omega) (by omega) (by omega) (by omega) (by omega)
  refine hxa_iconst (by rfl) rfl ?_
  refine hxa_s1 (by rfl) (Or.inl ⟨_, rfl, rfl⟩) rfl ?_
  refine hxa_iload_n (by rfl) rfl ?_
  refine hxa_s1 (by rfl) (Or.inr ⟨_, rfl, rfl⟩) rfl ?_
  refine hxa_iconst (by rfl) rfl ?_
  refine hxa_s1 (by rfl) (Or.inr ⟨_, rfl, rfl⟩) rfl ?_
  refine hxa_iconst (by rfl) rfl ?_
  refine hxa_s1 (by rfl) (Or.inr ⟨_, rfl, rfl⟩) rfl ?_
  exact L11 (Int.toNat (255 - 0) + 1) (Int32.ofNat 0) a2 (Int32.ofNat 1) (Int32.ofNat 0) (.retAddr 0) (by omega) (by omega) (by omega) (by omega) (by omega) (by omega) (by omega) (by omega)
theorem hX62q6 {d : Nat} {Bn Br : Int} {A0 A : hs_A} (hA : hJ 6 Bn Br A0 A)  (a2 : Int32) (p2 : 0 ≤ a2.toInt) (q2 : a2.toInt ≤ 2000) (a3 : Int32) (p3 : 0 ≤ a3.toInt) (q3 : a3.toInt ≤ 2000) : hxC (d + 1) 62 hm_m62 [.ref 2, .int a2, .int a3] A (fun r A' => A = A' ∧ ∃ z : Int32, r = some (.int z)) := hxC.of (by rfl) (hY62q6 hA a2 p2 q2 a3 p3 q3 (fun r A' h => h))
theorem hY63q6 {d : Nat} {Bn Br : Int} {A0 A : hs_A} (hA : hJ 6 Bn Br A0 A)  (a2 : Int32) (p2 : 0 ≤ a2.toInt) (q2 : a2.toInt ≤ 1999) (a3 : Int32) (p3 : 0 ≤ a3.toInt) (q3 : a3.toInt ≤ 2000) (fl0 : 0 ≤ (A.1 21 3).toInt) (fh0 : (A.1 21 3).toInt ≤ 400) {P : Option Value → hs_A → Prop} (hP : ∀ (r : Option Value) (A' : hs_A), (hJ 6 Bn Br A0 A' ∧ A'.1 21 3 = A.1 21 3 ∧ ∃ z : Int32, r = some (.int z) ∧ ((0 ≤ z.toInt ∧ z.toInt ≤ 2000))) → P r A') : hxa (d + 0) (some (.int)) hm_t63 0 [.ref 22, .ref 2, .int a2, .int a3, .retAddr 0] [] A P := by
  have L65 : ∀ (x65_4 : Int32) (Ac65 : hs_A) (hAc65 : hJ 6 Bn Br A0 Ac65) (ek65_0 : Ac65.1 21 3 = (A.1 21 3)) (bx65_4 : 0 ≤ x65_4.toInt) (cx65_4 : x65_4.toInt ≤ 2000), hxa (d + 0) (some (.int)) hm_t63 65 [.ref 22, .ref 2, .int a2, .int a3, .int x65_4] [] Ac65 P := by
    intro x65_4 Ac65 hAc65 ek65_0 bx65_4 cx65_4
    refine hxa_aload_n (by rfl) rfl ?_
    refine hxa_get (v := .ref 23) (by rfl) (by rfl) (by rfl) rfl ?_
    refine hxa_aload_n (by rfl) rfl ?_
    refine hxj_getK (by rfl) (by rfl) (by rfl) ek65_0 ?_
    refine hxa_iload (by rfl) rfl ?_
    refine hxa_iload_n (by rfl) rfl ?_
    refine hxj_isub (by rfl) rfl rfl (by omega) (by omega) (fun z1 ez1 => ?_)
    refine hxa_iconst (by rfl) rfl ?_
    refine hxj_cle (by rfl) rfl hk_4 (fun q2 => ?_) (fun q2 => ?_)
    ·
      refine hxa_bipush (by rfl) rfl ?_
      refine hxj_iast (by rfl) (by rfl) rfl (by omega) (by omega) hAc65 (hbokN (by rfl)) (by rfl) (by rfl) (fun A3 hA3 eA3 fA3 gA3 => ?_)
      refine hxa_iload (by rfl) rfl ?_
      exact hxa_ireturn (by rfl) rfl (hP _ _ ⟨hA3, (hkA eA3 ek65_0), _, rfl, by omega⟩)
    ·
      refine hxa_bipush (by rfl) rfl ?_
      refine hxa_goto (by rfl) ?_
      refine hxj_iast (by rfl) (by rfl) rfl (by omega) (by omega) hAc65 (hbokN (by rfl)) (by rfl) (by rfl) (fun A4 hA4 eA4 fA4 gA4 => ?_)
      refine hxa_iload (by rfl) rfl ?_
      exact hxa_ireturn (by rfl) rfl (hP _ _ ⟨hA4, (hkA eA4 ek65_0), _, rfl, by omega⟩)
  have L3 : ∀ (m3 : Nat) (x3_4 : Int32) (Ac3 : hs_A) (hAc3 : hJ 6 Bn Br A0 Ac3) (ek3_0 : Ac3.1 21 3 = (A.1 21 3)) (bx3_4 : 0 ≤ x3_4.toInt) (cx3_4 : x3_4.toInt ≤ 2000) (hm3 : 2000 - x3_4.toInt < (m3 : Int)), hxa (d + 0) (some (.int)) hm_t63 3 [.ref 22, .ref 2, .int a2, .int a3, .int x3_4] [] Ac3 P := by
    intro m3
    induction m3 with
    | zero => intro x3_4 Ac3 hAc3 ek3_0 bx3_4 cx3_4 hm3;  exact False.elim (by omega)
    | succ m3 ih3 =>
      intro x3_4 Ac3 hAc3 ek3_0 bx3_4 cx3_4 hm3
      refine hxa_iload (by rfl) rfl ?_
      refine hxa_iload_n (by rfl) rfl ?_
      refine hxj_cge (by rfl) rfl rfl (fun q5 => ?_) (fun q5 => ?_)
      ·
        exact L65 x3_4 Ac3 hAc3 ek3_0 (by omega) (by omega)
      ·
        refine hxa_aload_n (by rfl) rfl ?_
        refine hxa_iload (by rfl) rfl ?_
        refine hxj_bald (by rfl) (by rfl) rfl (by omega) (by omega) (fun z6 ez6 => ?_)
        refine hxa_bipush (by rfl) rfl ?_
        refine hxj_clt (by rfl) rfl hk_48 (fun q7 => ?_) (fun q7 => ?_)
        ·
          exact L65 x3_4 Ac3 hAc3 ek3_0 (by omega) (by omega)
        ·
          refine hxa_aload_n (by rfl) rfl ?_
          refine hxa_iload (by rfl) rfl ?_
          refine hxj_bald (by rfl) (by rfl) rfl (by omega) (by omega) (fun z8 ez8 => ?_)
          refine hxa_bipush (by rfl) rfl ?_
          refine hxj_cgt (by rfl) rfl hk_57 (fun q9 => ?_) (fun q9 => ?_)
          ·
            exact L65 x3_4 Ac3 hAc3 ek3_0 (by omega) (by omega)
          ·
            refine hxa_aload_n (by rfl) rfl ?_
            refine hxa_get (v := .ref 24) (by rfl) (by rfl) (by rfl) rfl ?_
            refine hxa_aload_n (by rfl) rfl ?_
            refine hxj_getK (by rfl) (by rfl) (by rfl) ek3_0 ?_
            refine hxa_aload_n (by rfl) rfl ?_
            refine hxa_get (v := .ref 24) (by rfl) (by rfl) (by rfl) rfl ?_
            refine hxa_aload_n (by rfl) rfl ?_
            refine hxj_getK (by rfl) (by rfl) (by rfl) ek3_0 ?_
            refine hxj_lald (by rfl) (by rfl) rfl (by omega) (by omega) (fun j10 ej10 => ?_)
            refine hxa_ldc2_w (by rfl) rfl ?_
            refine hxa_lmul (by rfl) ?_
            refine hxa_aload_n (by rfl) rfl ?_
            refine hxa_iload (by rfl) rfl ?_
            refine hxj_bald (by rfl) (by rfl) rfl (by omega) (by omega) (fun z11 ez11 => ?_)
            refine hxa_i2l (by rfl) ?_
            refine hxa_ladd (by rfl) ?_
            refine hxa_ldc2_w (by rfl) rfl ?_
            refine hxa_lsub (by rfl) ?_
            refine hxj_last (by rfl) (by rfl) rfl (by omega) (by omega) hAc3 (by omega) (fun A12 hA12 eA12 fA12 => ?_)
            refine hxj_iinc (by rfl) rfl rfl hk_1 (by omega) (by omega) (fun _ => rfl) (fun z13 ez13 => ?_)
            refine hxa_goto (by rfl) ?_
            exact ih3 z13 A12 hA12 (hkA eA12 ek3_0) (by omega) (by omega) (by omega)
  refine hxa_iload_n (by rfl) rfl ?_
  refine hxa_s1 (by rfl) (Or.inr ⟨_, rfl, rfl⟩) rfl ?_
  exact L3 (Int.toNat (2000 - a2.toInt) + 1) a2 A hA rfl (by omega) (by omega) (by omega)
theorem hX63q6 {d : Nat} {Bn Br : Int} {A0 A : hs_A} (hA : hJ 6 Bn Br A0 A)  (a2 : Int32) (p2 : 0 ≤ a2.toInt) (q2 : a2.toInt ≤ 1999) (a3 : Int32) (p3 : 0 ≤ a3.toInt) (q3 : a3.toInt ≤ 2000) (fl0 : 0 ≤ (A.1 21 3).toInt) (fh0 : (A.1 21 3).toInt ≤ 400) : hxC (d + 1) 63 hm_m63 [.ref 22, .ref 2, .int a2, .int a3] A (fun r A' => hJ 6 Bn Br A0 A' ∧ A'.1 21 3 = A.1 21 3 ∧ ∃ z : Int32, r = some (.int z) ∧ ((0 ≤ z.toInt ∧ z.toInt ≤ 2000))) := hxC.of (by rfl) (hY63q6 hA a2 p2 q2 a3 p3 q3 fl0 fh0 (fun r A' h => h))
theorem hY61q6 {d : Nat} {Bn Br : Int} {A0 A : hs_A} (hA : hJ 6 Bn Br A0 A)  (a2 : Int32) (p2 : 0 ≤ a2.toInt) (q2 : a2.toInt ≤ 1999) (a3 : Int32) (p3 : 0 ≤ a3.toInt) (q3 : a3.toInt ≤ 2000) (fl0 : 0 ≤ (A.1 21 3).toInt) (fh0 : (A.1 21 3).toInt ≤ 400) {P : Option Value → hs_A → Prop} (hP : ∀ (r : Option Value) (A' : hs_A), (hJ 6 Bn Br A0 A' ∧ A'.1 21 3 = A.1 21 3 ∧ ∃ z : Int32, r = some (.int z) ∧ ((0 ≤ z.toInt ∧ z.toInt ≤ 2000))) → P r A') : hxa (d + 1) (some (.int)) hm_t61 0 [.ref 22, .ref 2, .int a2, .int a3, .retAddr 0, .retAddr 0] [] A P := by
  have L64 : ∀ (x64_4 : Int32) (Ac64 : hs_A) (hAc64 : hJ 6 Bn Br A0 Ac64) (ek64_0 : Ac64.1 21 3 = (A.1 21 3)) (bx64_4 : 0 ≤ x64_4.toInt) (cx64_4 : x64_4.toInt ≤ 2000), hxa (d + 1) (some (.int)) hm_t61 64 [.ref 22, .ref 2, .int a2, .int a3, .int x64_4, .retAddr 0] [] Ac64 P := by
    intro x64_4 Ac64 hAc64 ek64_0 bx64_4 cx64_4
    refine hxa_iload (by rfl) rfl ?_
    refine hxa_iload_n (by rfl) rfl ?_
    refine hxj_isub (by rfl) rfl rfl (by omega) (by omega) (fun z1 ez1 => ?_)
    refine hxa_bipush (by rfl) rfl ?_
    refine hxj_cle (by rfl) rfl hk_8 (fun q2 => ?_) (fun q2 => ?_)
    ·
      refine hxa_aload_n (by rfl) rfl ?_
      refine hxa_iload_n (by rfl) rfl ?_
      refine hxa_iload (by rfl) rfl ?_
      refine hxa_call2 (by rfl) (by decide) (by rfl) (by rfl) (by rfl) (hX62q6 (d := d + 0) hAc64 a2 (by omega) (by omega) x64_4 (by omega) (by omega)) ?_
      rintro _ _ ⟨rfl, z3, rfl⟩
      refine hxa_s1 (by rfl) (Or.inr ⟨_, rfl, rfl⟩) rfl ?_
      refine hxa_aload_n (by rfl) rfl ?_
      refine hxa_get (v := .ref 23) (by rfl) (by rfl) (by rfl) rfl ?_
      refine hxa_aload_n (by rfl) rfl ?_
      refine hxj_getK (by rfl) (by rfl) (by rfl) ek64_0 ?_
      refine hxa_iload (by rfl) rfl ?_
      refine hxa_iconst (by rfl) rfl ?_
      refine hxj_cne (by rfl) rfl hk_4294967295 (fun q4 => ?_) (fun q4 => ?_)
      ·
        refine hxa_iload (by rfl) rfl ?_
        refine hxj_iast (by rfl) (by rfl) rfl (by omega) (by omega) hAc64 (hbokN (by rfl)) (by rfl) (by rfl) (fun A5 hA5 eA5 fA5 gA5 => ?_)
        refine hxa_iload (by rfl) rfl ?_
        exact hxa_ireturn (by rfl) rfl (hP _ _ ⟨hA5, (hkA eA5 ek64_0), _, rfl, by omega⟩)
      ·
        refine hxa_bipush (by rfl) rfl ?_
        refine hxa_goto (by rfl) ?_
        refine hxj_iast (by rfl) (by rfl) rfl (by omega) (by omega) hAc64 (hbokN (by rfl)) (by rfl) (by rfl) (fun A6 hA6 eA6 fA6 gA6 => ?_)
        refine hxa_iload (by rfl) rfl ?_
        exact hxa_ireturn (by rfl) rfl (hP _ _ ⟨hA6, (hkA eA6 ek64_0), _, rfl, by omega⟩)
    ·
      refine hxa_aload_n (by rfl) rfl ?_
      refine hxa_get (v := .ref 23) (by rfl) (by rfl) (by rfl) rfl ?_
      refine hxa_aload_n (by rfl) rfl ?_
      refine hxj_getK (by rfl) (by rfl) (by rfl) ek64_0 ?_
      refine hxa_bipush (by rfl) rfl ?_
      refine hxj_iast (by rfl) (by rfl) rfl (by omega) (by omega) hAc64 (hbokN (by rfl)) (by rfl) (by rfl) (fun A7 hA7 eA7 fA7 gA7 => ?_)
      refine hxa_goto (by rfl) ?_
      refine hxa_iload (by rfl) rfl ?_
      exact hxa_ireturn (by rfl) rfl (hP _ _ ⟨hA7, (hkA eA7 ek64_0), _, rfl, by omega⟩)
  have L3 : ∀ (m3 : Nat) (x3_4 : Int32) (Ac3 : hs_A) (hAc3 : hJ 6 Bn Br A0 Ac3) (ek3_0 : Ac3.1 21 3 = (A.1 21 3)) (bx3_4 : 0 ≤ x3_4.toInt) (cx3_4 : x3_4.toInt ≤ 2000) (hm3 : 2000 - x3_4.toInt < (m3 : Int)), hxa (d + 1) (some (.int)) hm_t61 3 [.ref 22, .ref 2, .int a2, .int a3, .int x3_4, .retAddr 0] [] Ac3 P := by
    intro m3
    induction m3 with
    | zero => intro x3_4 Ac3 hAc3 ek3_0 bx3_4 cx3_4 hm3;  exact False.elim (by omega)
    | succ m3 ih3 =>
      intro x3_4 Ac3 hAc3 ek3_0 bx3_4 cx3_4 hm3
      refine hxa_iload (by rfl) rfl ?_
      refine hxa_iload_n (by rfl) rfl ?_
      refine hxj_cge (by rfl) rfl rfl (fun q8 => ?_) (fun q8 => ?_)
      ·
        exact L64 x3_4 Ac3 hAc3 ek3_0 (by omega) (by omega)
      ·
        refine hxa_aload_n (by rfl) rfl ?_
        refine hxa_iload (by rfl) rfl ?_
        refine hxj_bald (by rfl) (by rfl) rfl (by omega) (by omega) (fun z9 ez9 => ?_)
        refine hxa_bipush (by rfl) rfl ?_
        refine hxj_clt (by rfl) rfl hk_97 (fun q10 => ?_) (fun q10 => ?_)
        ·
          exact L64 x3_4 Ac3 hAc3 ek3_0 (by omega) (by omega)
        ·
          refine hxa_aload_n (by rfl) rfl ?_
          refine hxa_iload (by rfl) rfl ?_
          refine hxj_bald (by rfl) (by rfl) rfl (by omega) (by omega) (fun z11 ez11 => ?_)
          refine hxa_bipush (by rfl) rfl ?_
          refine hxj_cgt (by rfl) rfl hk_122 (fun q12 => ?_) (fun q12 => ?_)
          ·
            exact L64 x3_4 Ac3 hAc3 ek3_0 (by omega) (by omega)
          ·
            refine hxa_aload_n (by rfl) rfl ?_
            refine hxa_get (v := .ref 24) (by rfl) (by rfl) (by rfl) rfl ?_
            refine hxa_aload_n (by rfl) rfl ?_
            refine hxj_getK (by rfl) (by rfl) (by rfl) ek3_0 ?_
            refine hxa_aload_n (by rfl) rfl ?_
            refine hxa_get (v := .ref 24) (by rfl) (by rfl) (by rfl) rfl ?_
            refine hxa_aload_n (by rfl) rfl ?_
            refine hxj_getK (by rfl) (by rfl) (by rfl) ek3_0 ?_
            refine hxj_lald (by rfl) (by rfl) rfl (by omega) (by omega) (fun j13 ej13 => ?_)
            refine hxa_iconst (by rfl) rfl ?_
            refine hxa_lshl (by rfl) ?_
            refine hxa_aload_n (by rfl) rfl ?_
            refine hxa_iload (by rfl) rfl ?_
            refine hxj_bald (by rfl) (by rfl) rfl (by omega) (by omega) (fun z14 ez14 => ?_)
            refine hxa_bipush (by rfl) rfl ?_
            refine hxj_isubU (by rfl) (fun z15 => ?_)
            refine hxa_iconst (by rfl) rfl ?_
            refine hxj_iaddU (by rfl) (fun z16 => ?_)
            refine hxa_i2l (by rfl) ?_
            refine hxa_lor (by rfl) ?_
            refine hxj_last (by rfl) (by rfl) rfl (by omega) (by omega) hAc3 (by omega) (fun A17 hA17 eA17 fA17 => ?_)
            refine hxj_iinc (by rfl) rfl rfl hk_1 (by omega) (by omega) (fun _ => rfl) (fun z18 ez18 => ?_)
            refine hxa_goto (by rfl) ?_
            exact ih3 z18 A17 hA17 (hkA eA17 ek3_0) (by omega) (by omega) (by omega)
  refine hxa_iload_n (by rfl) rfl ?_
  refine hxa_s1 (by rfl) (Or.inr ⟨_, rfl, rfl⟩) rfl ?_
  exact L3 (Int.toNat (2000 - a2.toInt) + 1) a2 A hA rfl (by omega) (by omega) (by omega)
theorem hX61q6 {d : Nat} {Bn Br : Int} {A0 A : hs_A} (hA : hJ 6 Bn Br A0 A)  (a2 : Int32) (p2 : 0 ≤ a2.toInt) (q2 : a2.toInt ≤ 1999) (a3 : Int32) (p3 : 0 ≤ a3.toInt) (q3 : a3.toInt ≤ 2000) (fl0 : 0 ≤ (A.1 21 3).toInt) (fh0 : (A.1 21 3).toInt ≤ 400) : hxC (d + 2) 61 hm_m61 [.ref 22, .ref 2, .int a2, .int a3] A (fun r A' => hJ 6 Bn Br A0 A' ∧ A'.1 21 3 = A.1 21 3 ∧ ∃ z : Int32, r = some (.int z) ∧ ((0 ≤ z.toInt ∧ z.toInt ≤ 2000))) := hxC.of (by rfl) (hY61q6 hA a2 p2 q2 a3 p3 q3 fl0 fh0 (fun r A' h => h))
theorem hY60q6 {d : Nat} {Bn Br : Int} {A0 A : hs_A} (hA : hJ 6 Bn Br A0 A)  (a2 : Int32) (p2 : 0 ≤ a2.toInt) (q2 : a2.toInt ≤ 2000) (a3 : Int32) (p3 : 0 ≤ a3.toInt) (q3 : a3.toInt ≤ 2000) (fl0 : 0 ≤ (A.1 21 3).toInt) (fh0 : (A.1 21 3).toInt ≤ 400) {P : Option Value → hs_A → Prop} (hP : ∀ (r : Option Value) (A' : hs_A), (hJ 6 Bn Br A0 A' ∧ A'.1 21 3 = A.1 21 3 ∧ ∃ z : Int32, r = some (.int z) ∧ ((0 ≤ z.toInt ∧ z.toInt ≤ 2000))) → P r A') : hxa (d + 2) (some (.int)) hm_t60 0 [.ref 22, .ref 2, .int a2, .int a3, .retAddr 0] [] A P := by
  have k4294967295 := hk_4294967295
  have L95 : ∀ (y95_0 : Int32) (Ac95 : hs_A) (hAc95 : hJ 6 Bn Br A0 Ac95) (ek95_0 : Ac95.1 21 3 = (A.1 21 3)) (by95_0 : -1 ≤ y95_0.toInt) (cy95_0 : y95_0.toInt ≤ 8) (ca2 : a2.toInt ≤ 1999) (ba3 : 1 ≤ a3.toInt), hxa (d + 2) (some (.int)) hm_t60 95 [.ref 22, .ref 2, .int a2, .int a3, .retAddr 0] [.int y95_0] Ac95 P := by
    intro y95_0 Ac95 hAc95 ek95_0 by95_0 cy95_0 ca2 ba3
    refine hxa_s1 (by rfl) (Or.inr ⟨_, rfl, rfl⟩) rfl ?_
    refine hxa_aload_n (by rfl) rfl ?_
    refine hxa_get (v := .ref 23) (by rfl) (by rfl) (by rfl) rfl ?_
    refine hxa_aload_n (by rfl) rfl ?_
    refine hxj_getK (by rfl) (by rfl) (by rfl) ek95_0 ?_
    refine hxa_iload (by rfl) rfl ?_
    refine hxa_iconst (by rfl) rfl ?_
    refine hxj_cne (by rfl) rfl hk_4294967295 (fun q1 => ?_) (fun q1 => ?_)
    ·
      refine hxa_bipush (by rfl) rfl ?_
      refine hxa_iload (by rfl) rfl ?_
      refine hxj_iadd (by rfl) hk_24 rfl (by omega) (by omega) (fun z2 ez2 => ?_)
      refine hxj_iast (by rfl) (by rfl) rfl (by omega) (by omega) hAc95 (hbokN (by rfl)) (by rfl) (by rfl) (fun A3 hA3 eA3 fA3 gA3 => ?_)
      refine hxa_iload_n (by rfl) rfl ?_
      refine hxa_iconst (by rfl) rfl ?_
      refine hxj_iadd (by rfl) rfl hk_1 (by omega) (by omega) (fun z4 ez4 => ?_)
      exact hxa_ireturn (by rfl) rfl (hP _ _ ⟨hA3, (hkA eA3 ek95_0), _, rfl, by omega⟩)
    ·
      refine hxa_bipush (by rfl) rfl ?_
      refine hxa_goto (by rfl) ?_
      refine hxj_iast (by rfl) (by rfl) rfl (by omega) (by omega) hAc95 (hbokN (by rfl)) (by rfl) (by rfl) (fun A5 hA5 eA5 fA5 gA5 => ?_)
      refine hxa_iload_n (by rfl) rfl ?_
      refine hxa_iconst (by rfl) rfl ?_
      refine hxj_iadd (by rfl) rfl hk_1 (by omega) (by omega) (fun z6 ez6 => ?_)
      exact hxa_ireturn (by rfl) rfl (hP _ _ ⟨hA5, (hkA eA5 ek95_0), _, rfl, by omega⟩)
  have L52 : ∀ (Ac52 : hs_A) (hAc52 : hJ 6 Bn Br A0 Ac52) (ek52_0 : Ac52.1 21 3 = (A.1 21 3)) (ca2 : a2.toInt ≤ 1999) (ba3 : 1 ≤ a3.toInt), hxa (d + 2) (some (.int)) hm_t60 52 [.ref 22, .ref 2, .int a2, .int a3, .retAddr 0] [] Ac52 P := by
    intro Ac52 hAc52 ek52_0 ca2 ba3
    refine hxa_aload_n (by rfl) rfl ?_
    refine hxa_iload_n (by rfl) rfl ?_
    refine hxj_bald (by rfl) (by rfl) rfl (by omega) (by omega) (fun z7 ez7 => ?_)
    refine hxa_bipush (by rfl) rfl ?_
    refine hxj_clt (by rfl) rfl hk_48 (fun q8 => ?_) (fun q8 => ?_)
    ·
      refine hxa_aload_n (by rfl) rfl ?_
      refine hxa_iload_n (by rfl) rfl ?_
      refine hxj_bald (by rfl) (by rfl) rfl (by omega) (by omega) (fun z9 ez9 => ?_)
      refine hxj_zge (by rfl) rfl (fun q10 => ?_) (fun q10 => ?_)
      ·
        refine hxa_ldcS (k := 0) (by rfl) rfl ?_
        refine hxa_aload_n (by rfl) rfl ?_
        refine hxa_iload_n (by rfl) rfl ?_
        refine hxj_bald (by rfl) (by rfl) rfl (by omega) (by omega) (fun z11 ez11 => ?_)
        refine hxa_i2c (by rfl) (hn_top (fun z12 _ => ?_))
        refine hxj_strIdx (by rfl) (by rfl) (fun z13 ez13 fz13 => ?_)
        exact L95 z13 Ac52 hAc52 ek52_0 (by omega) (by omega) (by omega) (by omega)
      ·
        refine hxa_iconst (by rfl) rfl ?_
        refine hxa_goto (by rfl) ?_
        exact L95 (Int32.ofNat 4294967295) Ac52 hAc52 ek52_0 (by omega) (by omega) (by omega) (by omega)
    ·
      refine hxa_aload_n (by rfl) rfl ?_
      refine hxa_iload_n (by rfl) rfl ?_
      refine hxj_bald (by rfl) (by rfl) rfl (by omega) (by omega) (fun z14 ez14 => ?_)
      refine hxa_bipush (by rfl) rfl ?_
      refine hxj_cgt (by rfl) rfl hk_57 (fun q15 => ?_) (fun q15 => ?_)
      ·
        refine hxa_aload_n (by rfl) rfl ?_
        refine hxa_iload_n (by rfl) rfl ?_
        refine hxj_bald (by rfl) (by rfl) rfl (by omega) (by omega) (fun z16 ez16 => ?_)
        refine hxj_zge (by rfl) rfl (fun q17 => ?_) (fun q17 => ?_)
        ·
          refine hxa_ldcS (k := 0) (by rfl) rfl ?_
          refine hxa_aload_n (by rfl) rfl ?_
          refine hxa_iload_n (by rfl) rfl ?_
          refine hxj_bald (by rfl) (by rfl) rfl (by omega) (by omega) (fun z18 ez18 => ?_)
          refine hxa_i2c (by rfl) (hn_top (fun z19 _ => ?_))
          refine hxj_strIdx (by rfl) (by rfl) (fun z20 ez20 fz20 => ?_)
          exact L95 z20 Ac52 hAc52 ek52_0 (by omega) (by omega) (by omega) (by omega)
        ·
          refine hxa_iconst (by rfl) rfl ?_
          refine hxa_goto (by rfl) ?_
          exact L95 (Int32.ofNat 4294967295) Ac52 hAc52 ek52_0 (by omega) (by omega) (by omega) (by omega)
      ·
        refine hxa_aload_n (by rfl) rfl ?_
        refine hxa_aload_n (by rfl) rfl ?_
        refine hxa_iload_n (by rfl) rfl ?_
        refine hxa_iload_n (by rfl) rfl ?_
        refine hxa_call0 (by rfl) (by rfl) (by rfl) (by rfl) (by rfl) (by rfl) (hX63q6 (d := d + 1) hAc52 a2 (by omega) (by omega) a3 (by omega) (by omega) (by rw [(show Ac52.1 21 3 = (A.1 21 3) from ek52_0)]; omega) (by rw [(show Ac52.1 21 3 = (A.1 21 3) from ek52_0)]; omega)) ?_
        rintro _ A21 ⟨hA21, frA21_0, z22, rfl, fz22⟩
        exact hxa_ireturn (by rfl) rfl (hP _ _ ⟨hA21, (frA21_0.trans ek52_0), _, rfl, by omega⟩)
  refine hxa_aload_n (by rfl) rfl ?_
  refine hxa_get (v := .ref 24) (by rfl) (by rfl) (by rfl) rfl ?_
  refine hxa_aload_n (by rfl) rfl ?_
  refine hxj_getK (by rfl) (by rfl) (by rfl) rfl ?_
  refine hxa_lconst (by rfl) rfl ?_
  refine hxj_last (by rfl) (by rfl) rfl (by omega) (by omega) hA (by omega) (fun A23 hA23 eA23 fA23 => ?_)
  refine hxa_iload_n (by rfl) rfl ?_
  refine hxa_iload_n (by rfl) rfl ?_
  refine hxj_clt (by rfl) rfl rfl (fun q24 => ?_) (fun q24 => ?_)
  ·
    refine hxa_aload_n (by rfl) rfl ?_
    refine hxa_iload_n (by rfl) rfl ?_
    refine hxj_bald (by rfl) (by rfl) rfl (by omega) (by omega) (fun z25 ez25 => ?_)
    refine hxa_bipush (by rfl) rfl ?_
    refine hxj_clt (by rfl) rfl hk_97 (fun q26 => ?_) (fun q26 => ?_)
    ·
      exact L52 A23 hA23 (hkA eA23 rfl) (by omega) (by omega)
    ·
      refine hxa_aload_n (by rfl) rfl ?_
      refine hxa_iload_n (by rfl) rfl ?_
      refine hxj_bald (by rfl) (by rfl) rfl (by omega) (by omega) (fun z27 ez27 => ?_)
      refine hxa_bipush (by rfl) rfl ?_
      refine hxj_cgt (by rfl) rfl hk_122 (fun q28 => ?_) (fun q28 => ?_)
      ·
        exact L52 A23 hA23 (hkA eA23 rfl) (by omega) (by omega)
      ·
        refine hxa_aload_n (by rfl) rfl ?_
        refine hxa_aload_n (by rfl) rfl ?_
        refine hxa_iload_n (by rfl) rfl ?_
        refine hxa_iload_n (by rfl) rfl ?_
        refine hxa_call0 (by rfl) (by rfl) (by rfl) (by rfl) (by rfl) (by rfl) (hX61q6 (d := d + 0) hA23 a2 (by omega) (by omega) a3 (by omega) (by omega) (by rw [(show A23.1 21 3 = (A.1 21 3) from (hkA eA23 rfl))]; omega) (by rw [(show A23.1 21 3 = (A.1 21 3) from (hkA eA23 rfl))]; omega)) ?_
        rintro _ A29 ⟨hA29, frA29_0, z30, rfl, fz30⟩
        exact hxa_ireturn (by rfl) rfl (hP _ _ ⟨hA29, (frA29_0.trans (hkA eA23 rfl)), _, rfl, by omega⟩)
  ·
    refine hxa_aload_n (by rfl) rfl ?_
    refine hxa_get (v := .ref 23) (by rfl) (by rfl) (by rfl) rfl ?_
    refine hxa_aload_n (by rfl) rfl ?_
    refine hxj_getK (by rfl) (by rfl) (by rfl) (hkA eA23 rfl) ?_
    refine hxa_bipush (by rfl) rfl ?_
    refine hxj_iast (by rfl) (by rfl) rfl (by omega) (by omega) hA23 (hbokN (by rfl)) (by rfl) (by rfl) (fun A31 hA31 eA31 fA31 gA31 => ?_)
    refine hxa_iload_n (by rfl) rfl ?_
    exact hxa_ireturn (by rfl) rfl (hP _ _ ⟨hA31, (hkA eA31 (hkA eA23 rfl)), _, rfl, by omega⟩)
theorem hX60q6 {d : Nat} {Bn Br : Int} {A0 A : hs_A} (hA : hJ 6 Bn Br A0 A)  (a2 : Int32) (p2 : 0 ≤ a2.toInt) (q2 : a2.toInt ≤ 2000) (a3 : Int32) (p3 : 0 ≤ a3.toInt) (q3 : a3.toInt ≤ 2000) (fl0 : 0 ≤ (A.1 21 3).toInt) (fh0 : (A.1 21 3).toInt ≤ 400) : hxC (d + 3) 60 hm_m60 [.ref 22, .ref 2, .int a2, .int a3] A (fun r A' => hJ 6 Bn Br A0 A' ∧ A'.1 21 3 = A.1 21 3 ∧ ∃ z : Int32, r = some (.int z) ∧ ((0 ≤ z.toInt ∧ z.toInt ≤ 2000))) := hxC.of (by rfl) (hY60q6 hA a2 p2 q2 a3 p3 q3 fl0 fh0 (fun r A' h => h))
theorem hY58q6 {d : Nat} {Bn Br : Int} {A0 A : hs_A} (hA : hJ 6 Bn Br A0 A)  (a2 : Int32) (p2 : 0 ≤ a2.toInt) (q2 : a2.toInt ≤ 2000) {P : Option Value → hs_A → Prop} (hP : ∀ (r : Option Value) (A' : hs_A), (hJ 6 Bn Br A0 A' ∧ r = none) → P r A') : hxa (d + 3) none hm_t58 0 [.ref 22, .ref 2, .int a2, .retAddr 0, .retAddr 0] [] A P := by
  have k0 := hk_0
  have L10 : ∀ (m10 : Nat) (x10_3 : Int32) (x10_4 : Int32) (Ac10 : hs_A) (hAc10 : hJ 6 Bn Br A0 Ac10) (bx10_3 : 0 ≤ x10_3.toInt) (cx10_3 : x10_3.toInt ≤ 2000) (bx10_4 : 0 ≤ x10_4.toInt) (cx10_4 : x10_4.toInt ≤ 2001) (hm10 : 2001 - x10_4.toInt < (m10 : Int)), hxa (d + 3) none hm_t58 10 [.ref 22, .ref 2, .int a2, .int x10_3, .int x10_4] [] Ac10 P := by
    intro m10
    induction m10 with
    | zero => intro x10_3 x10_4 Ac10 hAc10 bx10_3 cx10_3 bx10_4 cx10_4 hm10;  exact False.elim (by omega)
    | succ m10 ih10 =>
      intro x10_3 x10_4 Ac10 hAc10 bx10_3 cx10_3 bx10_4 cx10_4 hm10
      refine hxa_iload (by rfl) rfl ?_
      refine hxa_iload_n (by rfl) rfl ?_
      refine hxj_cgt (by rfl) rfl rfl (fun q1 => ?_) (fun q1 => ?_)
      ·
        exact hxa_return (by rfl) rfl (hP _ _ ⟨hAc10, rfl⟩)
      ·
        refine hxa_aload_n (by rfl) rfl ?_
        refine hxj_getB (by rfl) (by rfl) (by rfl) hAc10 (by rfl) (fun z2 ez2 fz2 gz2 => ?_)
        refine hxa_sipush (by rfl) rfl ?_
        refine hxj_cgt (by rfl) rfl hk_400 (fun q3 => ?_) (fun q3 => ?_)
        ·
          exact hxa_return (by rfl) rfl (hP _ _ ⟨hAc10, rfl⟩)
        ·
          refine hxa_aload_n (by rfl) rfl ?_
          refine hxa_iload_n (by rfl) rfl ?_
          refine hxa_iload_n (by rfl) rfl ?_
          refine hxa_call2 (by rfl) (by decide) (by rfl) (by rfl) (by rfl) (hX59q6 (d := d + 2) hAc10 x10_3 (by omega) (by omega) a2 (by omega) (by omega)) ?_
          rintro _ _ ⟨rfl, z4, rfl, fz4⟩
          refine hxa_s1 (by rfl) (Or.inl ⟨_, rfl, rfl⟩) rfl ?_
          refine hxa_aload_n (by rfl) rfl ?_
          refine hxa_get (v := .ref 25) (by rfl) (by rfl) (by rfl) rfl ?_
          refine hxa_aload_n (by rfl) rfl ?_
          refine hxj_getK (by rfl) (by rfl) (by rfl) ez2 ?_
          refine hxa_iload_n (by rfl) rfl ?_
          refine hxj_iast (by rfl) (by rfl) rfl (by omega) (by omega) hAc10 (hbokN (by rfl)) (by rfl) (by rfl) (fun A5 hA5 eA5 fA5 gA5 => ?_)
          refine hxa_aload_n (by rfl) rfl ?_
          refine hxa_aload_n (by rfl) rfl ?_
          refine hxa_iload_n (by rfl) rfl ?_
          refine hxa_iload_n (by rfl) rfl ?_
          refine hxa_call0 (by rfl) (by rfl) (by rfl) (by rfl) (by rfl) (by rfl) (hX60q6 (d := d + 0) hA5 z4 (by omega) (by omega) a2 (by omega) (by omega) (by rw [(show A5.1 21 3 = z2 from (hkA eA5 ez2))]; omega) (by rw [(show A5.1 21 3 = z2 from (hkA eA5 ez2))]; omega)) ?_
          rintro _ A6 ⟨hA6, frA6_0, z7, rfl, fz7⟩
          refine hxa_s1 (by rfl) (Or.inl ⟨_, rfl, rfl⟩) rfl ?_
          refine hxa_aload_n (by rfl) rfl ?_
          refine hxa_dupR (by rfl) ?_
          refine hxj_getK (by rfl) (by rfl) (by rfl) (frA6_0.trans (hkA eA5 ez2)) ?_
          refine hxa_iconst (by rfl) rfl ?_
          refine hxj_iadd (by rfl) rfl hk_1 (by omega) (by omega) (fun z8 ez8 => ?_)
          refine hxj_putI (by rfl) (by rfl) (by rfl) (by rfl) hA6 (hbok (by rfl) rfl (by omega) (by omega)) (by rfl) (by rfl) (fun A9 hA9 eA9 fA9 => ?_)
          refine hxa_aload_n (by rfl) rfl ?_
          refine hxa_get (v := .ref 23) (by rfl) (by rfl) (by rfl) rfl ?_
          refine hxa_aload_n (by rfl) rfl ?_
          refine hxj_getK (by rfl) (by rfl) (by rfl) (hkS eA9) ?_
          refine hxa_iconst (by rfl) rfl ?_
          refine hxj_isub (by rfl) rfl hk_1 (by omega) (by omega) (fun z10 ez10 => ?_)
          refine hxj_iald (by rfl) (by rfl) rfl (by omega) (by omega) (fun z11 ez11 => ?_)
          refine hxa_bipush (by rfl) rfl ?_
          refine hxj_ceq (by rfl) rfl hk_22 (fun q12 => ?_) (fun q12 => ?_)
          ·
            exact hxa_return (by rfl) rfl (hP _ _ ⟨hA9, rfl⟩)
          ·
            refine hxa_aload_n (by rfl) rfl ?_
            refine hxa_get (v := .ref 23) (by rfl) (by rfl) (by rfl) rfl ?_
            refine hxa_aload_n (by rfl) rfl ?_
            refine hxj_getK (by rfl) (by rfl) (by rfl) (hkS eA9) ?_
            refine hxa_iconst (by rfl) rfl ?_
            refine hxj_isub (by rfl) rfl hk_1 (by omega) (by omega) (fun z13 ez13 => ?_)
            refine hxj_iald (by rfl) (by rfl) rfl (by omega) (by omega) (fun z14 ez14 => ?_)
            refine hxa_bipush (by rfl) rfl ?_
            refine hxj_cne (by rfl) rfl hk_23 (fun q15 => ?_) (fun q15 => ?_)
            ·
              refine hxj_iinc (by rfl) rfl rfl hk_1 (by omega) (by omega) (fun _ => rfl) (fun z16 ez16 => ?_)
              refine hxa_goto (by rfl) ?_
              exact ih10 z7 z16 A9 hA9 (by omega) (by omega) (by omega) (by omega) (by omega)
            ·
              exact hxa_return (by rfl) rfl (hP _ _ ⟨hA9, rfl⟩)
  refine hxa_aload_n (by rfl) rfl ?_
  refine hxa_iconst (by rfl) rfl ?_
  refine hxj_putI (by rfl) (by rfl) (by rfl) (by rfl) hA (hbok (by rfl) hk_0 (by omega) (by omega)) (by rfl) (by rfl) (fun A17 hA17 eA17 fA17 => ?_)
  refine hxa_iconst (by rfl) rfl ?_
  refine hxa_s1 (by rfl) (Or.inl ⟨_, rfl, rfl⟩) rfl ?_
  refine hxa_iconst (by rfl) rfl ?_
  refine hxa_s1 (by rfl) (Or.inr ⟨_, rfl, rfl⟩) rfl ?_
  exact L10 (Int.toNat (2001 - 0) + 1) (Int32.ofNat 0) (Int32.ofNat 0) A17 hA17 (by omega) (by omega) (by omega) (by omega) (by omega)
theorem hX58q6 {d : Nat} {Bn Br : Int} {A0 A : hs_A} (hA : hJ 6 Bn Br A0 A)  (a2 : Int32) (p2 : 0 ≤ a2.toInt) (q2 : a2.toInt ≤ 2000) : hxC (d + 4) 58 hm_m58 [.ref 22, .ref 2, .int a2] A (fun r A' => hJ 6 Bn Br A0 A' ∧ r = none) := hxC.of (by rfl) (hY58q6 hA a2 p2 q2 (fun r A' h => h))
theorem hY12q7 {d : Nat} {Bn Br : Int} {A0 A : hs_A} (hA : hJ 7 Bn Br A0 A)  (a1 : Int32) (p1 : 0 ≤ a1.toInt) (q1 : a1.toInt ≤ 7) (a2 : Int32) (x0 : ¬ a1.toInt = 1 ∨ (0 ≤ a2.toInt ∧ a2.toInt ≤ 8)) {P : Option Value → hs_A → Prop} (hP : ∀ (r : Option Value) (A' : hs_A), (hJ 7 Bn Br A0 A' ∧ ∃ z : Int32, r = some (.int z)) → P r A') : hxa (d + 0) (some (.int)) hm_t12 0 [.ref 16, .int a1, .int a2] [] A P := by
  have L17 : ∀ (Ac17 : hs_A) (hAc17 : hJ 7 Bn Br A0 Ac17), hxa (d + 0) (some (.int)) hm_t12 17 [.ref 16, .int a1, .int a2] [] Ac17 P := by
    intro Ac17 hAc17
    refine hxa_aload_n (by rfl) rfl ?_
    refine hxj_getB (by rfl) (by rfl) (by rfl) hAc17 (by rfl) (fun z1 ez1 fz1 gz1 => ?_)
    refine hxa_sipush (by rfl) rfl ?_
    refine hxj_cge (by rfl) rfl hk_408 (fun q2 => ?_) (fun q2 => ?_)
    ·
      refine hxa_aload_n (by rfl) rfl ?_
      refine hxj_getK (by rfl) (by rfl) (by rfl) ez1 ?_
      refine hxa_iconst (by rfl) rfl ?_
      refine hxj_isub (by rfl) rfl hk_1 (by omega) (by omega) (fun z3 ez3 => ?_)
      exact hxa_ireturn (by rfl) rfl (hP _ _ ⟨hAc17, _, rfl⟩)
    ·
      refine hxa_aload_n (by rfl) rfl ?_
      refine hxa_get (v := .ref 17) (by rfl) (by rfl) (by rfl) rfl ?_
      refine hxa_aload_n (by rfl) rfl ?_
      refine hxj_getK (by rfl) (by rfl) (by rfl) ez1 ?_
      refine hxa_iload_n (by rfl) rfl ?_
      refine hxa_iconst (by rfl) rfl ?_
      refine hxa_ishl (by rfl) (hn_top (fun z4 ez4 => ?_))
      refine hxa_iload_n (by rfl) rfl ?_
      refine hxa_ior (by rfl) (hn_top (fun z5 ez5 => ?_))
      refine hxj_iastV7 (by rfl) rfl (by omega) (by omega) hAc17 (hVadd ez4 ez5 (by omega) (by omega) (by omega)) (fun A6 hA6 eA6 fA6 gA6 => ?_)
      refine hxa_aload_n (by rfl) rfl ?_
      refine hxa_dupR (by rfl) ?_
      refine hxj_getK (by rfl) (by rfl) (by rfl) (hkA eA6 ez1) ?_
      refine hxa_iconst (by rfl) rfl ?_
      refine hxj_iadd (by rfl) rfl hk_1 (by omega) (by omega) (fun z7 ez7 => ?_)
      refine hxj_putI (by rfl) (by rfl) (by rfl) (by rfl) hA6 (hbok (by rfl) rfl (by omega) (by omega)) (by rfl) (by rfl) (fun A8 hA8 eA8 fA8 => ?_)
      refine hxa_aload_n (by rfl) rfl ?_
      refine hxj_getK (by rfl) (by rfl) (by rfl) (hkS eA8) ?_
      refine hxa_iconst (by rfl) rfl ?_
      refine hxj_isub (by rfl) rfl hk_1 (by omega) (by omega) (fun z9 ez9 => ?_)
      exact hxa_ireturn (by rfl) rfl (hP _ _ ⟨hA8, _, rfl⟩)
  refine hxa_iload_n (by rfl) rfl ?_
  refine hxa_iconst (by rfl) rfl ?_
  refine hxj_cne (by rfl) rfl hk_1 (fun q10 => ?_) (fun q10 => ?_)
  ·
    exact L17 A hA
  ·
    refine hxa_aload_n (by rfl) rfl ?_
    refine hxa_dupR (by rfl) ?_
    refine hxj_getI (by rfl) (by rfl) (by rfl) (fun z11 ez11 => ?_)
    refine hxa_iconst (by rfl) rfl ?_
    refine hxa_iload_n (by rfl) rfl ?_
    refine hxj_ishlU (by rfl) (fun z12 => ?_)
    refine hxj_iorU (by rfl) (fun z13 => ?_)
    refine hxj_putI (by rfl) (by rfl) (by rfl) (by rfl) hA (hbokN (by rfl)) (by rfl) (by rfl) (fun A14 hA14 eA14 fA14 => ?_)
    exact L17 A14 hA14
theorem hX12q7 {d : Nat} {Bn Br : Int} {A0 A : hs_A} (hA : hJ 7 Bn Br A0 A)  (a1 : Int32) (p1 : 0 ≤ a1.toInt) (q1 : a1.toInt ≤ 7) (a2 : Int32) (x0 : ¬ a1.toInt = 1 ∨ (0 ≤ a2.toInt ∧ a2.toInt ≤ 8)) : hxC (d + 1) 12 hm_m12 [.ref 16, .int a1, .int a2] A (fun r A' => hJ 7 Bn Br A0 A' ∧ ∃ z : Int32, r = some (.int z)) := hxC.of (by rfl) (hY12q7 hA a1 p1 q1 a2 x0 (fun r A' h => h))
