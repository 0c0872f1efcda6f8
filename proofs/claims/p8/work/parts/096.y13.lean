theorem hY236 {d : Nat} {Bn Br : Int} {A0 A : hs_A} (hA : hJ 0 Bn Br A0 A)  (a1 : Int32) (p1 : 0 ≤ a1.toInt) (q1 : a1.toInt ≤ 9) {P : Option Value → hs_A → Prop} (hP : ∀ (r : Option Value) (A' : hs_A), (hJ 0 Bn Br A0 A' ∧ ∃ z : Int32, r = some (.int z)) → P r A') : hxa (d + 6) (some (.int)) hm_t236 0 [.ref 368, .int a1, .retAddr 0, .retAddr 0, .retAddr 0] [] A P := by
  have k0 := hk_0
  have L26 : ∀ (m26 : Nat) (x26_2 : Int32) (x26_3 : Int32) (x26_4 : Value) (Ac26 : hs_A) (hAc26 : hJ 0 Bn Br A0 Ac26) (bx26_3 : 0 ≤ x26_3.toInt) (cx26_3 : x26_3.toInt ≤ 256) (hm26 : 256 - x26_3.toInt < (m26 : Int)), hxa (d + 6) (some (.int)) hm_t236 26 [.ref 368, .int a1, .int x26_2, .int x26_3, x26_4] [] Ac26 P := by
    intro m26
    induction m26 with
    | zero => intro x26_2 x26_3 x26_4 Ac26 hAc26 bx26_3 cx26_3 hm26; have := hn_rng x26_2; exact False.elim (by omega)
    | succ m26 ih26 =>
      intro x26_2 x26_3 x26_4 Ac26 hAc26 bx26_3 cx26_3 hm26
      refine hxa_iload_n (by rfl) rfl ?_
      refine hxa_sipush (by rfl) rfl ?_
      refine hxj_cge (by rfl) rfl hk_256 (fun q1 => ?_) (fun q1 => ?_)
      ·
        refine hxa_iload_n (by rfl) rfl ?_
        exact hxa_ireturn (by rfl) rfl (hP _ _ ⟨hAc26, _, rfl⟩)
      ·
        refine hxa_aload_n (by rfl) rfl ?_
        refine hxa_get (v := .ref 402) (by rfl) (by rfl) (by rfl) rfl ?_
        refine hxa_iload_n (by rfl) rfl ?_
        refine hxj_zald (by rfl) (by rfl) rfl (by omega) (by omega) (fun z2 ez2 => ?_)
        refine hxj_zne (by rfl) rfl (fun q3 => ?_) (fun q3 => ?_)
        ·
          refine hxa_aload_n (by rfl) rfl ?_
          refine hxa_iload_n (by rfl) rfl ?_
          refine hxa_iload_n (by rfl) rfl ?_
          refine hxa_call0 (by rfl) (by rfl) (by rfl) (by rfl) (by rfl) (by rfl) (hX202 (d := d + 0) hAc26 a1 (by omega) (by omega) x26_3 (by omega) (by omega)) ?_
          rintro _ A4 ⟨hA4, z5, rfl, fz5⟩
          refine hxa_s1 (by rfl) (Or.inr ⟨_, rfl, rfl⟩) rfl ?_
          refine hxa_aload_n (by rfl) rfl ?_
          refine hxa_get (v := .ref 403) (by rfl) (by rfl) (by rfl) rfl ?_
          refine hxa_iload (by rfl) rfl ?_
          refine hxa_dup2IR (by rfl) ?_
          refine hxj_iald (by rfl) (by rfl) rfl (by omega) (by omega) (fun z6 ez6 => ?_)
          refine hxa_iconst (by rfl) rfl ?_
          refine hxj_iaddU (by rfl) (fun z7 => ?_)
          refine hxj_iast (by rfl) (by rfl) rfl (by omega) (by omega) hA4 (hbokN (by rfl)) (by rfl) (by rfl) (fun A8 hA8 eA8 fA8 gA8 => ?_)
          refine hxa_aload_n (by rfl) rfl ?_
          refine hxa_get (v := .ref 403) (by rfl) (by rfl) (by rfl) rfl ?_
          refine hxa_iload (by rfl) rfl ?_
          refine hxj_iald (by rfl) (by rfl) rfl (by omega) (by omega) (fun z9 ez9 => ?_)
          refine hxa_iload_n (by rfl) rfl ?_
          have rgz9 := hn_rng z9
          have rgx26_2 := hn_rng x26_2
          refine hxj_cle (by rfl) rfl rfl (fun q10 => ?_) (fun q10 => ?_)
          ·
            refine hxj_iinc (by rfl) rfl rfl hk_1 (by omega) (by omega) (fun _ => rfl) (fun z11 ez11 => ?_)
            refine hxa_goto (by rfl) ?_
            exact ih26 x26_2 z11 (.int z5) A8 hA8 (by omega) (by omega) (by omega)
          ·
            refine hxa_aload_n (by rfl) rfl ?_
            refine hxa_get (v := .ref 403) (by rfl) (by rfl) (by rfl) rfl ?_
            refine hxa_iload (by rfl) rfl ?_
            refine hxj_iald (by rfl) (by rfl) rfl (by omega) (by omega) (fun z12 ez12 => ?_)
            refine hxa_s1 (by rfl) (Or.inl ⟨_, rfl, rfl⟩) rfl ?_
            refine hxj_iinc (by rfl) rfl rfl hk_1 (by omega) (by omega) (fun _ => rfl) (fun z13 ez13 => ?_)
            refine hxa_goto (by rfl) ?_
            exact ih26 z12 z13 (.int z5) A8 hA8 (by omega) (by omega) (by omega)
        ·
          refine hxa_goto (by rfl) ?_
          refine hxj_iinc (by rfl) rfl rfl hk_1 (by omega) (by omega) (fun _ => rfl) (fun z14 ez14 => ?_)
          refine hxa_goto (by rfl) ?_
          exact ih26 x26_2 z14 (x26_4) Ac26 hAc26 (by omega) (by omega) (by omega)
  have L2 : ∀ (m2 : Nat) (x2_2 : Int32) (Ac2 : hs_A) (hAc2 : hJ 0 Bn Br A0 Ac2) (bx2_2 : 0 ≤ x2_2.toInt) (cx2_2 : x2_2.toInt ≤ 256) (hm2 : 256 - x2_2.toInt < (m2 : Int)), hxa (d + 6) (some (.int)) hm_t236 2 [.ref 368, .int a1, .int x2_2, .retAddr 0, .retAddr 0] [] Ac2 P := by
    intro m2
    induction m2 with
    | zero => intro x2_2 Ac2 hAc2 bx2_2 cx2_2 hm2;  exact False.elim (by omega)
    | succ m2 ih2 =>
      intro x2_2 Ac2 hAc2 bx2_2 cx2_2 hm2
      refine hxa_iload_n (by rfl) rfl ?_
      refine hxa_sipush (by rfl) rfl ?_
      refine hxj_cge (by rfl) rfl hk_256 (fun q15 => ?_) (fun q15 => ?_)
      ·
        refine hxa_iconst (by rfl) rfl ?_
        refine hxa_s1 (by rfl) (Or.inl ⟨_, rfl, rfl⟩) rfl ?_
        refine hxa_iconst (by rfl) rfl ?_
        refine hxa_s1 (by rfl) (Or.inl ⟨_, rfl, rfl⟩) rfl ?_
        exact L26 (Int.toNat (256 - 0) + 1) (Int32.ofNat 0) (Int32.ofNat 0) (.retAddr 0) Ac2 hAc2 (by omega) (by omega) (by omega)
      ·
        refine hxa_aload_n (by rfl) rfl ?_
        refine hxa_get (v := .ref 403) (by rfl) (by rfl) (by rfl) rfl ?_
        refine hxa_iload_n (by rfl) rfl ?_
        refine hxa_iconst (by rfl) rfl ?_
        refine hxj_iast (by rfl) (by rfl) rfl (by omega) (by omega) hAc2 (hbokN (by rfl)) (by rfl) (by rfl) (fun A16 hA16 eA16 fA16 gA16 => ?_)
        refine hxj_iinc (by rfl) rfl rfl hk_1 (by omega) (by omega) (fun _ => rfl) (fun z17 ez17 => ?_)
        refine hxa_goto (by rfl) ?_
        exact ih2 z17 A16 hA16 (by omega) (by omega) (by omega)
  refine hxa_iconst (by rfl) rfl ?_
  refine hxa_s1 (by rfl) (Or.inl ⟨_, rfl, rfl⟩) rfl ?_
  exact L2 (Int.toNat (256 - 0) + 1) (Int32.ofNat 0) A hA (by omega) (by omega) (by omega)
theorem hX236 {d : Nat} {Bn Br : Int} {A0 A : hs_A} (hA : hJ 0 Bn Br A0 A)  (a1 : Int32) (p1 : 0 ≤ a1.toInt) (q1 : a1.toInt ≤ 9) : hxC (d + 7) 236 hm_m236 [.ref 368, .int a1] A (fun r A' => hJ 0 Bn Br A0 A' ∧ ∃ z : Int32, r = some (.int z)) := hxC.of (by rfl) (hY236 hA a1 p1 q1 (fun r A' h => h))
theorem hY237 {d : Nat} {N : Int} {A0 A : hs_A} (hA : hJ 0 N (N + 72) A0 A) (hN : N ≤ 900000) (a1 : Int32) {P : Option Value → hs_A → Prop} (hP : ∀ (r : Option Value) (A' : hs_A), (hJ 0 (N + 72) (N + 144) A0 A' ∧ ∃ z : Int32, r = some (.int z)) → P r A') : hxa (d + 7) (some (.int)) hm_t237 0 [.ref 368, .int a1, .retAddr 0, .retAddr 0, .retAddr 0, .retAddr 0] [] A P := by
  have k0 := hk_0
  have k4294967294 := hk_4294967294
  have k4294967295 := hk_4294967295
  have L37 : ∀ (m37 : Nat) (x37_2 : Int32) (x37_3 : Int32) (x37_4 : Int32) (x37_5 : Value) (Ac37 : hs_A) (hAc37 : hJ 0 N N A0 Ac37) (bx37_2 : -2 ≤ x37_2.toInt) (cx37_2 : x37_2.toInt ≤ 9) (bx37_4 : 0 ≤ x37_4.toInt) (cx37_4 : x37_4.toInt ≤ 10) (ba1 : 0 ≤ a1.toInt) (ca1 : a1.toInt ≤ 20) (hm37 : 10 - x37_4.toInt < (m37 : Int)), hxa (d + 7) (some (.int)) hm_t237 37 [.ref 368, .int a1, .int x37_2, .int x37_3, .int x37_4, x37_5] [] Ac37 P := by
    intro m37
    induction m37 with
    | zero => intro x37_2 x37_3 x37_4 x37_5 Ac37 hAc37 bx37_2 cx37_2 bx37_4 cx37_4 ba1 ca1 hm37; have := hn_rng x37_3; exact False.elim (by omega)
    | succ m37 ih37 =>
      intro x37_2 x37_3 x37_4 x37_5 Ac37 hAc37 bx37_2 cx37_2 bx37_4 cx37_4 ba1 ca1 hm37
      refine hxa_iload (by rfl) rfl ?_
      refine hxa_aload_n (by rfl) rfl ?_
      refine hxa_get (v := .ref 377) (by rfl) (by rfl) (by rfl) rfl ?_
      refine hxa_aload_n (by rfl) rfl ?_
      refine hxj_getB (by rfl) (by rfl) (by rfl) hAc37 (by rfl) (fun z1 ez1 fz1 gz1 => ?_)
      refine hxj_ialdB (by rfl) (by rfl) rfl (by omega) (by omega) hAc37 (by rfl) (fun z2 ez2 fz2 gz2 => ?_)
      refine hxj_cge (by rfl) rfl rfl (fun q3 => ?_) (fun q3 => ?_)
      ·
        refine hxa_iload_n (by rfl) rfl ?_
        exact hxa_ireturn (by rfl) rfl (hP _ _ ⟨(hJ.mono hAc37 (by omega) (by omega)), _, rfl⟩)
      ·
        refine hxa_aload_n (by rfl) rfl ?_
        refine hxa_iload (by rfl) rfl ?_
        refine hxa_call0 (by rfl) (by rfl) (by rfl) (by rfl) (by rfl) (by rfl) (hX236 (d := d + 0) hAc37 x37_4 (by omega) (by omega)) ?_
        rintro _ A4 ⟨hA4, z5, rfl⟩
        refine hxa_s1 (by rfl) (Or.inr ⟨_, rfl, rfl⟩) rfl ?_
        refine hxa_iload_n (by rfl) rfl ?_
        refine hxj_zlt (by rfl) rfl (fun q6 => ?_) (fun q6 => ?_)
        ·
          refine hxa_iload (by rfl) rfl ?_
          refine hxa_s1 (by rfl) (Or.inl ⟨_, rfl, rfl⟩) rfl ?_
          refine hxa_iload (by rfl) rfl ?_
          refine hxa_s1 (by rfl) (Or.inl ⟨_, rfl, rfl⟩) rfl ?_
          refine hxj_iinc (by rfl) rfl rfl hk_1 (by omega) (by omega) (fun _ => rfl) (fun z7 ez7 => ?_)
          refine hxa_goto (by rfl) ?_
          exact ih37 x37_4 z5 z7 (.int z5) A4 hA4 (by omega) (by omega) (by omega) (by omega) (by omega) (by omega) (by omega)
        ·
          refine hxa_iload (by rfl) rfl ?_
          refine hxa_iload_n (by rfl) rfl ?_
          have rgz5 := hn_rng z5
          have rgx37_3 := hn_rng x37_3
          refine hxj_clt (by rfl) rfl rfl (fun q8 => ?_) (fun q8 => ?_)
          ·
            refine hxa_iload (by rfl) rfl ?_
            refine hxa_s1 (by rfl) (Or.inl ⟨_, rfl, rfl⟩) rfl ?_
            refine hxa_iload (by rfl) rfl ?_
            refine hxa_s1 (by rfl) (Or.inl ⟨_, rfl, rfl⟩) rfl ?_
            refine hxj_iinc (by rfl) rfl rfl hk_1 (by omega) (by omega) (fun _ => rfl) (fun z9 ez9 => ?_)
            refine hxa_goto (by rfl) ?_
            exact ih37 x37_4 z5 z9 (.int z5) A4 hA4 (by omega) (by omega) (by omega) (by omega) (by omega) (by omega) (by omega)
          ·
            refine hxa_goto (by rfl) ?_
            refine hxj_iinc (by rfl) rfl rfl hk_1 (by omega) (by omega) (fun _ => rfl) (fun z10 ez10 => ?_)
            refine hxa_goto (by rfl) ?_
            exact ih37 x37_2 x37_3 z10 (.int z5) A4 hA4 (by omega) (by omega) (by omega) (by omega) (by omega) (by omega) (by omega)
  refine hxa_iload_n (by rfl) rfl ?_
  refine hxa_iconst (by rfl) rfl ?_
  refine hxa_aload_n (by rfl) rfl ?_
  refine hxj_getB (by rfl) (by rfl) (by rfl) hA (by rfl) (fun z11 ez11 fz11 gz11 => ?_)
  refine hxa_call2 (by rfl) (by decide) (by rfl) (by rfl) (by rfl) (hX164 (d := d + 6)  a1 (Int32.ofNat 0) z11) ?_
  rintro _ _ ⟨rfl, z12, rfl, fz12⟩
  rcases fz12 with fz12 | fz12
  ·
    refine hxj_zne (by rfl) rfl (fun q13 => ?_) (fun q13 => False.elim (by omega))
    refine hxa_aload_n (by rfl) rfl ?_
    refine hxa_call0 (by rfl) (by rfl) (by rfl) (by rfl) (by rfl) (by rfl) (hX171 (d := d + 6) hA ) ?_
    rintro _ A14 ⟨hA14, rfl⟩
    refine hxa_aload_n (by rfl) rfl ?_
    refine hxa_iload_n (by rfl) rfl ?_
    refine hxa_call0 (by rfl) (by rfl) (by rfl) (by rfl) (by rfl) (by rfl) (hX234 (d := d + 0) hA14 a1 (by omega)) ?_
    rintro _ A15 ⟨hA15, z16, rfl⟩
    refine hxj_zne (by rfl) rfl (fun q17 => ?_) (fun q17 => ?_)
    ·
      refine hxa_bipush (by rfl) rfl ?_
      refine hxa_s1 (by rfl) (Or.inl ⟨_, rfl, rfl⟩) rfl ?_
      refine hxa_iconst (by rfl) rfl ?_
      refine hxa_s1 (by rfl) (Or.inl ⟨_, rfl, rfl⟩) rfl ?_
      refine hxa_iconst (by rfl) rfl ?_
      refine hxa_s1 (by rfl) (Or.inr ⟨_, rfl, rfl⟩) rfl ?_
      exact L37 (Int.toNat (10 - 0) + 1) (Int32.ofNat 4294967294) (Int32.ofNat 0) (Int32.ofNat 0) (.retAddr 0) A15 hA15 (by omega) (by omega) (by omega) (by omega) (by omega) (by omega) (by omega)
    ·
      refine hxa_bipush (by rfl) rfl ?_
      exact hxa_ireturn (by rfl) rfl (hP _ _ ⟨(hJ.mono hA15 (by omega) (by omega)), _, rfl⟩)
  ·
    refine hxj_zne (by rfl) rfl (fun q18 => False.elim (by omega)) (fun q18 => ?_)
    refine hxa_iconst (by rfl) rfl ?_
    exact hxa_ireturn (by rfl) rfl (hP _ _ ⟨(hJ.mono hA (by omega) (by omega)), _, rfl⟩)
theorem hX237 {d : Nat} {N : Int} {A0 A : hs_A} (hA : hJ 0 N (N + 72) A0 A) (hN : N ≤ 900000) (a1 : Int32) : hxC (d + 8) 237 hm_m237 [.ref 368, .int a1] A (fun r A' => hJ 0 (N + 72) (N + 144) A0 A' ∧ ∃ z : Int32, r = some (.int z)) := hxC.of (by rfl) (hY237 hA hN a1 (fun r A' h => h))
theorem hY238 {d : Nat} {N : Int} {A0 A : hs_A} (hA : hJ 0 N (N + 72) A0 A) (hN : N ≤ 900000) (a1 : Int32) {P : Option Value → hs_A → Prop} (hP : ∀ (r : Option Value) (A' : hs_A), (hJ 0 (N + 72) (N + 144) A0 A' ∧ ∃ z : Int32, r = some (.int z) ∧ ((0 ≤ z.toInt ∧ z.toInt ≤ 1))) → P r A') : hxa (d + 1) (some (.boolean)) hm_t238 0 [.ref 368, .int a1, .retAddr 0] [] A P := by
  have k0 := hk_0
  have k1 := hk_1
  have k2 := hk_2
  have L20 : ∀ (m20 : Nat) (x20_2 : Int32) (Ac20 : hs_A) (hAc20 : hJ 0 N (N + 72) A0 Ac20) (bx20_2 : 0 ≤ x20_2.toInt) (cx20_2 : x20_2.toInt ≤ 73) (ba1 : 0 ≤ a1.toInt) (ca1 : a1.toInt ≤ 2) (hm20 : 73 - x20_2.toInt < (m20 : Int)), hxa (d + 1) (some (.boolean)) hm_t238 20 [.ref 368, .int a1, .int x20_2] [] Ac20 P := by
    intro m20
    induction m20 with
    | zero => intro x20_2 Ac20 hAc20 bx20_2 cx20_2 ba1 ca1 hm20;  exact False.elim (by omega)
    | succ m20 ih20 =>
      intro x20_2 Ac20 hAc20 bx20_2 cx20_2 ba1 ca1 hm20
      refine hxa_iload_n (by rfl) rfl ?_
      refine hxa_bipush (by rfl) rfl ?_
      refine hxj_cge (by rfl) rfl hk_73 (fun q1 => ?_) (fun q1 => ?_)
      ·
        refine hxa_iconst (by rfl) rfl ?_
        exact hxa_ireturn (by rfl) (by rfl) (hP _ _ ⟨(hJ.mono hAc20 (by omega) (by omega)), _, rfl, by omega⟩)
      ·
        refine hxa_aload_n (by rfl) rfl ?_
        refine hxa_get (v := .ref 410) (by rfl) (by rfl) (by rfl) rfl ?_
        refine hxa_bipush (by rfl) rfl ?_
        refine hxa_iload_n (by rfl) rfl ?_
        refine hxj_imul (by rfl) hk_73 rfl (by omega) (by omega) (fun z2 ez2 => ?_)
        refine hxa_iload_n (by rfl) rfl ?_
        refine hxj_iadd (by rfl) rfl rfl (by omega) (by omega) (fun z3 ez3 => ?_)
        refine hxa_aload_n (by rfl) rfl ?_
        refine hxa_get (v := .ref 396) (by rfl) (by rfl) (by rfl) rfl ?_
        refine hxa_iload_n (by rfl) rfl ?_
        refine hxj_iald395 (by rfl) rfl (by omega) (by omega) hAc20 (fun z4 ez4 fz4 => ?_)
        refine hxj_iast409 (by rfl) rfl (by omega) (by omega) rfl hAc20 (by omega) (fun A5 hA5 eA5 fA5 gA5 => ?_)
        refine hxj_iinc (by rfl) rfl rfl hk_1 (by omega) (by omega) (fun _ => rfl) (fun z6 ez6 => ?_)
        refine hxa_goto (by rfl) ?_
        exact ih20 z6 A5 hA5 (by omega) (by omega) (by omega) (by omega) (by omega)
  refine hxa_iload_n (by rfl) rfl ?_
  refine hxa_iconst (by rfl) rfl ?_
  refine hxa_iconst (by rfl) rfl ?_
  refine hxa_call2 (by rfl) (by decide) (by rfl) (by rfl) (by rfl) (hX164 (d := d + 0)  a1 (Int32.ofNat 0) (Int32.ofNat 2)) ?_
  rintro _ _ ⟨rfl, z7, rfl, fz7⟩
  rcases fz7 with fz7 | fz7
  ·
    refine hxj_zne (by rfl) rfl (fun q8 => ?_) (fun q8 => False.elim (by omega))
    refine hxa_aload_n (by rfl) rfl ?_
    refine hxa_get (v := .ref 409) (by rfl) (by rfl) (by rfl) rfl ?_
    refine hxa_iload_n (by rfl) rfl ?_
    refine hxa_iconst (by rfl) rfl ?_
    refine hxj_zast (by rfl) (by rfl) rfl (by omega) (by omega) hk_1 (by omega) (by omega) hA (hbokN (by rfl)) (by rfl) (by rfl) (fun A9 hA9 eA9 fA9 gA9 => ?_)
    refine hxa_iconst (by rfl) rfl ?_
    refine hxa_s1 (by rfl) (Or.inl ⟨_, rfl, rfl⟩) rfl ?_
    exact L20 (Int.toNat (73 - 0) + 1) (Int32.ofNat 0) A9 hA9 (by omega) (by omega) (by omega) (by omega) (by omega)
  ·
    refine hxj_zne (by rfl) rfl (fun q10 => False.elim (by omega)) (fun q10 => ?_)
    refine hxa_iconst (by rfl) rfl ?_
    exact hxa_ireturn (by rfl) (by rfl) (hP _ _ ⟨(hJ.mono hA (by omega) (by omega)), _, rfl, by omega⟩)
theorem hX238 {d : Nat} {N : Int} {A0 A : hs_A} (hA : hJ 0 N (N + 72) A0 A) (hN : N ≤ 900000) (a1 : Int32) : hxC (d + 2) 238 hm_m238 [.ref 368, .int a1] A (fun r A' => hJ 0 (N + 72) (N + 144) A0 A' ∧ ∃ z : Int32, r = some (.int z) ∧ ((0 ≤ z.toInt ∧ z.toInt ≤ 1))) := hxC.of (by rfl) (hY238 hA hN a1 (fun r A' h => h))
theorem hY239 {d : Nat} {N : Int} {A0 A : hs_A} (hA : hJ 0 N (N + 72) A0 A) (hN : N ≤ 900000) (a1 : Int32) {P : Option Value → hs_A → Prop} (hP : ∀ (r : Option Value) (A' : hs_A), (hJ 0 (N + 72) (N + 144) A0 A' ∧ ∃ z : Int32, r = some (.int z) ∧ ((0 ≤ z.toInt ∧ z.toInt ≤ 1))) → P r A') : hxa (d + 1) (some (.boolean)) hm_t239 0 [.ref 368, .int a1, .retAddr 0] [] A P := by
  have k0 := hk_0
  have k1 := hk_1
  have k2 := hk_2
  have L22 : ∀ (m22 : Nat) (x22_2 : Int32) (Ac22 : hs_A) (hAc22 : hJ 0 N (N + 72) A0 Ac22) (bx22_2 : 0 ≤ x22_2.toInt) (cx22_2 : x22_2.toInt ≤ 73) (ba1 : 0 ≤ a1.toInt) (ca1 : a1.toInt ≤ 2) (hm22 : 73 - x22_2.toInt < (m22 : Int)), hxa (d + 1) (some (.boolean)) hm_t239 22 [.ref 368, .int a1, .int x22_2] [] Ac22 P := by
    intro m22
    induction m22 with
    | zero => intro x22_2 Ac22 hAc22 bx22_2 cx22_2 ba1 ca1 hm22;  exact False.elim (by omega)
    | succ m22 ih22 =>
      intro x22_2 Ac22 hAc22 bx22_2 cx22_2 ba1 ca1 hm22
      refine hxa_iload_n (by rfl) rfl ?_
      refine hxa_bipush (by rfl) rfl ?_
      refine hxj_cge (by rfl) rfl hk_73 (fun q1 => ?_) (fun q1 => ?_)
      ·
        refine hxa_aload_n (by rfl) rfl ?_
        refine hxa_iconst (by rfl) rfl ?_
        refine hxj_putI (by rfl) (by rfl) (by rfl) (by rfl) hAc22 (hbok (by rfl) hk_0 (by omega) (by omega)) (by rfl) (by rfl) (fun A2 hA2 eA2 fA2 => ?_)
        refine hxa_iconst (by rfl) rfl ?_
        exact hxa_ireturn (by rfl) (by rfl) (hP _ _ ⟨(hJ.mono hA2 (by omega) (by omega)), _, rfl, by omega⟩)
      ·
        refine hxa_aload_n (by rfl) rfl ?_
        refine hxa_get (v := .ref 396) (by rfl) (by rfl) (by rfl) rfl ?_
        refine hxa_iload_n (by rfl) rfl ?_
        refine hxa_aload_n (by rfl) rfl ?_
        refine hxa_get (v := .ref 410) (by rfl) (by rfl) (by rfl) rfl ?_
        refine hxa_bipush (by rfl) rfl ?_
        refine hxa_iload_n (by rfl) rfl ?_
        refine hxj_imul (by rfl) hk_73 rfl (by omega) (by omega) (fun z3 ez3 => ?_)
        refine hxa_iload_n (by rfl) rfl ?_
        refine hxj_iadd (by rfl) rfl rfl (by omega) (by omega) (fun z4 ez4 => ?_)
        refine hxj_iald409 (by rfl) rfl (by omega) (by omega) hAc22 (fun z5 ez5 fz5 => ?_)
        refine hxj_iast395 (by rfl) rfl (by omega) (by omega) rfl hAc22 (by omega) (fun A6 hA6 eA6 fA6 gA6 => ?_)
        refine hxj_iinc (by rfl) rfl rfl hk_1 (by omega) (by omega) (fun _ => rfl) (fun z7 ez7 => ?_)
        refine hxa_goto (by rfl) ?_
        exact ih22 z7 A6 hA6 (by omega) (by omega) (by omega) (by omega) (by omega)
  refine hxa_iload_n (by rfl) rfl ?_
  refine hxa_iconst (by rfl) rfl ?_
  refine hxa_iconst (by rfl) rfl ?_
  refine hxa_call2 (by rfl) (by decide) (by rfl) (by rfl) (by rfl) (hX164 (d := d + 0)  a1 (Int32.ofNat 0) (Int32.ofNat 2)) ?_
  rintro _ _ ⟨rfl, z8, rfl, fz8⟩
  rcases fz8 with fz8 | fz8
  ·
    refine hxj_zeq (by rfl) rfl (fun q9 => False.elim (by omega)) (fun q9 => ?_)
    refine hxa_aload_n (by rfl) rfl ?_
    refine hxa_get (v := .ref 409) (by rfl) (by rfl) (by rfl) rfl ?_
    refine hxa_iload_n (by rfl) rfl ?_
    refine hxj_zald (by rfl) (by rfl) rfl (by omega) (by omega) (fun z10 ez10 => ?_)
    refine hxj_zne (by rfl) rfl (fun q11 => ?_) (fun q11 => ?_)
    ·
      refine hxa_iconst (by rfl) rfl ?_
      refine hxa_s1 (by rfl) (Or.inl ⟨_, rfl, rfl⟩) rfl ?_
      exact L22 (Int.toNat (73 - 0) + 1) (Int32.ofNat 0) A hA (by omega) (by omega) (by omega) (by omega) (by omega)
    ·
      refine hxa_iconst (by rfl) rfl ?_
      exact hxa_ireturn (by rfl) (by rfl) (hP _ _ ⟨(hJ.mono hA (by omega) (by omega)), _, rfl, by omega⟩)
  ·
    refine hxj_zeq (by rfl) rfl (fun q12 => ?_) (fun q12 => False.elim (by omega))
    refine hxa_iconst (by rfl) rfl ?_
    exact hxa_ireturn (by rfl) (by rfl) (hP _ _ ⟨(hJ.mono hA (by omega) (by omega)), _, rfl, by omega⟩)
theorem hX239 {d : Nat} {N : Int} {A0 A : hs_A} (hA : hJ 0 N (N + 72) A0 A) (hN : N ≤ 900000) (a1 : Int32) : hxC (d + 2) 239 hm_m239 [.ref 368, .int a1] A (fun r A' => hJ 0 (N + 72) (N + 144) A0 A' ∧ ∃ z : Int32, r = some (.int z) ∧ ((0 ≤ z.toInt ∧ z.toInt ≤ 1))) := hxC.of (by rfl) (hY239 hA hN a1 (fun r A' h => h))
theorem hY240 {d : Nat} {Bn Br : Int} {A0 A : hs_A} (hA : hJ 0 Bn Br A0 A)  (a1 : Int32) (p1 : 0 ≤ a1.toInt) (q1 : a1.toInt ≤ 50) (a2 : Int32) {P : Option Value → hs_A → Prop} (hP : ∀ (r : Option Value) (A' : hs_A), (A = A' ∧ ∃ z : Int32, r = some (.int z)) → P r A') : hxa (d + 1) (some (.int)) hm_t240 0 [.ref 368, .int a1, .int a2, .retAddr 0, .retAddr 0] [] A P := by
  have k0 := hk_0
  have L5 : ∀ (m5 : Nat) (x5_3 : Int32) (x5_4 : Int32) (bx5_4 : 0 ≤ x5_4.toInt) (cx5_4 : x5_4.toInt ≤ 10) (hm5 : 10 - x5_4.toInt < (m5 : Int)), hxa (d + 1) (some (.int)) hm_t240 5 [.ref 368, .int a1, .int a2, .int x5_3, .int x5_4] [] A P := by
    intro m5
    induction m5 with
    | zero => intro x5_3 x5_4 bx5_4 cx5_4 hm5; have := hn_rng x5_3; exact False.elim (by omega)
    | succ m5 ih5 =>
      intro x5_3 x5_4 bx5_4 cx5_4 hm5
      refine hxa_iload (by rfl) rfl ?_
      refine hxa_aload_n (by rfl) rfl ?_
      refine hxa_get (v := .ref 377) (by rfl) (by rfl) (by rfl) rfl ?_
      refine hxa_aload_n (by rfl) rfl ?_
      refine hxj_getB (by rfl) (by rfl) (by rfl) hA (by rfl) (fun z1 ez1 fz1 gz1 => ?_)
      refine hxj_ialdB (by rfl) (by rfl) rfl (by omega) (by omega) hA (by rfl) (fun z2 ez2 fz2 gz2 => ?_)
      refine hxj_cge (by rfl) rfl rfl (fun q3 => ?_) (fun q3 => ?_)
      ·
        refine hxa_iload_n (by rfl) rfl ?_
        exact hxa_ireturn (by rfl) rfl (hP _ _ ⟨rfl, _, rfl⟩)
      ·
        refine hxa_iload_n (by rfl) rfl ?_
        refine hxa_iload_n (by rfl) rfl ?_
        refine hxj_zne (by rfl) rfl (fun q4 => ?_) (fun q4 => ?_)
        ·
          refine hxa_iload_n (by rfl) rfl ?_
          refine hxa_iconst (by rfl) rfl ?_
          refine hxj_cne (by rfl) rfl hk_1 (fun q5 => ?_) (fun q5 => ?_)
          ·
            refine hxa_aload_n (by rfl) rfl ?_
            refine hxa_get (v := .ref 397) (by rfl) (by rfl) (by rfl) rfl ?_
            refine hxa_iload_n (by rfl) rfl ?_
            refine hxa_iload (by rfl) rfl ?_
            refine hxj_iadd (by rfl) rfl rfl (by omega) (by omega) (fun z6 ez6 => ?_)
            refine hxj_iald396 (by rfl) rfl (by omega) (by omega) hA (fun z7 ez7 fz7 => ?_)
            refine hxa_call2 (by rfl) (by decide) (by rfl) (by rfl) (by rfl) (hX166 (d := d + 0)  z7) ?_
            rintro _ _ ⟨rfl, z8, rfl⟩
            refine hxj_iaddU (by rfl) (fun z9 => ?_)
            refine hxa_s1 (by rfl) (Or.inl ⟨_, rfl, rfl⟩) rfl ?_
            refine hxj_iinc (by rfl) rfl rfl hk_1 (by omega) (by omega) (fun _ => rfl) (fun z10 ez10 => ?_)
            refine hxa_goto (by rfl) ?_
            exact ih5 z9 z10 (by omega) (by omega) (by omega)
          ·
            refine hxa_aload_n (by rfl) rfl ?_
            refine hxa_get (v := .ref 397) (by rfl) (by rfl) (by rfl) rfl ?_
            refine hxa_iload_n (by rfl) rfl ?_
            refine hxa_iload (by rfl) rfl ?_
            refine hxj_iadd (by rfl) rfl rfl (by omega) (by omega) (fun z11 ez11 => ?_)
            refine hxj_iald396 (by rfl) rfl (by omega) (by omega) hA (fun z12 ez12 fz12 => ?_)
            refine hxj_zeq (by rfl) rfl (fun q13 => ?_) (fun q13 => ?_)
            ·
              refine hxa_iconst (by rfl) rfl ?_
              refine hxa_goto (by rfl) ?_
              have rgx5_3 := hn_rng x5_3
              refine hxj_iadd (by rfl) rfl hk_0 (by omega) (by omega) (fun z14 ez14 => ?_)
              refine hxa_s1 (by rfl) (Or.inl ⟨_, rfl, rfl⟩) rfl ?_
              refine hxj_iinc (by rfl) rfl rfl hk_1 (by omega) (by omega) (fun _ => rfl) (fun z15 ez15 => ?_)
              refine hxa_goto (by rfl) ?_
              exact ih5 z14 z15 (by omega) (by omega) (by omega)
            ·
              refine hxa_iconst (by rfl) rfl ?_
              refine hxa_iload (by rfl) rfl ?_
              refine hxj_ishlU (by rfl) (fun z16 => ?_)
              refine hxa_goto (by rfl) ?_
              refine hxj_iaddU (by rfl) (fun z17 => ?_)
              refine hxa_s1 (by rfl) (Or.inl ⟨_, rfl, rfl⟩) rfl ?_
              refine hxj_iinc (by rfl) rfl rfl hk_1 (by omega) (by omega) (fun _ => rfl) (fun z18 ez18 => ?_)
              refine hxa_goto (by rfl) ?_
              exact ih5 z17 z18 (by omega) (by omega) (by omega)
        ·
          refine hxa_aload_n (by rfl) rfl ?_
          refine hxa_get (v := .ref 397) (by rfl) (by rfl) (by rfl) rfl ?_
          refine hxa_iload_n (by rfl) rfl ?_
          refine hxa_iload (by rfl) rfl ?_
          refine hxj_iadd (by rfl) rfl rfl (by omega) (by omega) (fun z19 ez19 => ?_)
          refine hxj_iald396 (by rfl) rfl (by omega) (by omega) hA (fun z20 ez20 fz20 => ?_)
          refine hxa_iload (by rfl) rfl ?_
          refine hxj_ishlU (by rfl) (fun z21 => ?_)
          refine hxa_goto (by rfl) ?_
          refine hxj_iaddU (by rfl) (fun z22 => ?_)
          refine hxa_s1 (by rfl) (Or.inl ⟨_, rfl, rfl⟩) rfl ?_
          refine hxj_iinc (by rfl) rfl rfl hk_1 (by omega) (by omega) (fun _ => rfl) (fun z23 ez23 => ?_)
          refine hxa_goto (by rfl) ?_
          exact ih5 z22 z23 (by omega) (by omega) (by omega)
  refine hxa_iconst (by rfl) rfl ?_
  refine hxa_s1 (by rfl) (Or.inl ⟨_, rfl, rfl⟩) rfl ?_
  refine hxa_iconst (by rfl) rfl ?_
  refine hxa_s1 (by rfl) (Or.inr ⟨_, rfl, rfl⟩) rfl ?_
  exact L5 (Int.toNat (10 - 0) + 1) (Int32.ofNat 0) (Int32.ofNat 0) (by omega) (by omega) (by omega)
theorem hX240 {d : Nat} {Bn Br : Int} {A0 A : hs_A} (hA : hJ 0 Bn Br A0 A)  (a1 : Int32) (p1 : 0 ≤ a1.toInt) (q1 : a1.toInt ≤ 50) (a2 : Int32) : hxC (d + 2) 240 hm_m240 [.ref 368, .int a1, .int a2] A (fun r A' => A = A' ∧ ∃ z : Int32, r = some (.int z)) := hxC.of (by rfl) (hY240 hA a1 p1 q1 a2 (fun r A' h => h))
theorem hY241 {d : Nat} {N : Int} {A0 A : hs_A} (hA : hJ 0 N (N + 72) A0 A) (hN : N ≤ 900000) (a1 : Int32) {P : Option Value → hs_A → Prop} (hP : ∀ (r : Option Value) (A' : hs_A), (hJ 0 (N + 72) (N + 144) A0 A' ∧ ∃ z : Int32, r = some (.int z)) → P r A') : hxa (d + 2) (some (.int)) hm_t241 0 [.ref 368, .int a1, .retAddr 0, .retAddr 0] [] A P := by
  have k0 := hk_0
  have k1 := hk_1
  have k2 := hk_2
  have k30 := hk_30
  have k40 := hk_40
  have k4294967295 := hk_4294967295
  have k50 := hk_50
  have L317 : ∀ (m317 : Nat) (x317_2 : Int32) (x317_3 : Int32) (Ac317 : hs_A) (hAc317 : hJ 0 N N A0 Ac317) (bx317_3 : 0 ≤ x317_3.toInt) (cx317_3 : x317_3.toInt ≤ 10) (ba1 : 17 ≤ a1.toInt) (ca1 : a1.toInt ≤ 17) (hm317 : 10 - x317_3.toInt < (m317 : Int)), hxa (d + 2) (some (.int)) hm_t241 317 [.ref 368, .int a1, .int x317_2, .int x317_3] [] Ac317 P := by
    intro m317
    induction m317 with
    | zero => intro x317_2 x317_3 Ac317 hAc317 bx317_3 cx317_3 ba1 ca1 hm317; have := hn_rng x317_2; exact False.elim (by omega)
    | succ m317 ih317 =>
      intro x317_2 x317_3 Ac317 hAc317 bx317_3 cx317_3 ba1 ca1 hm317
      refine hxa_iload_n (by rfl) rfl ?_
      refine hxa_aload_n (by rfl) rfl ?_
      refine hxa_get (v := .ref 377) (by rfl) (by rfl) (by rfl) rfl ?_
      refine hxa_aload_n (by rfl) rfl ?_
      refine hxj_getB (by rfl) (by rfl) (by rfl) hAc317 (by rfl) (fun z1 ez1 fz1 gz1 => ?_)
      refine hxj_ialdB (by rfl) (by rfl) rfl (by omega) (by omega) hAc317 (by rfl) (fun z2 ez2 fz2 gz2 => ?_)
      refine hxj_cge (by rfl) rfl rfl (fun q3 => ?_) (fun q3 => ?_)
      ·
        refine hxa_iload_n (by rfl) rfl ?_
        exact hxa_ireturn (by rfl) rfl (hP _ _ ⟨(hJ.mono hAc317 (by omega) (by omega)), _, rfl⟩)
      ·
        refine hxa_aload_n (by rfl) rfl ?_
        refine hxa_get (v := .ref 397) (by rfl) (by rfl) (by rfl) rfl ?_
        refine hxa_bipush (by rfl) rfl ?_
        refine hxa_iload_n (by rfl) rfl ?_
        refine hxj_iadd (by rfl) hk_20 rfl (by omega) (by omega) (fun z4 ez4 => ?_)
        refine hxj_iald396 (by rfl) rfl (by omega) (by omega) hAc317 (fun z5 ez5 fz5 => ?_)
        refine hxa_iload_n (by rfl) rfl ?_
        refine hxj_ceq (by rfl) rfl rfl (fun q6 => ?_) (fun q6 => ?_)
        ·
          refine hxj_iinc (by rfl) rfl rfl hk_1 (by omega) (by omega) (fun _ => rfl) (fun z7 ez7 => ?_)
          refine hxa_goto (by rfl) ?_
          exact ih317 x317_2 z7 Ac317 hAc317 (by omega) (by omega) (by omega) (by omega) (by omega)
        ·
          refine hxa_iload_n (by rfl) rfl ?_
          refine hxa_iconst (by rfl) rfl ?_
          refine hxa_iload_n (by rfl) rfl ?_
          refine hxj_ishlU (by rfl) (fun z8 => ?_)
          refine hxj_iorU (by rfl) (fun z9 => ?_)
          refine hxa_s1 (by rfl) (Or.inl ⟨_, rfl, rfl⟩) rfl ?_
          refine hxj_iinc (by rfl) rfl rfl hk_1 (by omega) (by omega) (fun _ => rfl) (fun z10 ez10 => ?_)
          refine hxa_goto (by rfl) ?_
          exact ih317 z9 z10 Ac317 hAc317 (by omega) (by omega) (by omega) (by omega) (by omega)
  have L272 : ∀ (m272 : Nat) (x272_2 : Int32) (x272_3 : Int32) (Ac272 : hs_A) (hAc272 : hJ 0 N N A0 Ac272) (bx272_3 : 0 ≤ x272_3.toInt) (cx272_3 : x272_3.toInt ≤ 10) (ba1 : 15 ≤ a1.toInt) (ca1 : a1.toInt ≤ 15) (hm272 : 10 - x272_3.toInt < (m272 : Int)), hxa (d + 2) (some (.int)) hm_t241 272 [.ref 368, .int a1, .int x272_2, .int x272_3] [] Ac272 P := by
    intro m272
    induction m272 with
    | zero => intro x272_2 x272_3 Ac272 hAc272 bx272_3 cx272_3 ba1 ca1 hm272; have := hn_rng x272_2; exact False.elim (by omega)
    | succ m272 ih272 =>
      intro x272_2 x272_3 Ac272 hAc272 bx272_3 cx272_3 ba1 ca1 hm272
      refine hxa_iload_n (by rfl) rfl ?_
      refine hxa_aload_n (by rfl) rfl ?_
      refine hxa_get (v := .ref 377) (by rfl) (by rfl) (by rfl) rfl ?_
      refine hxa_aload_n (by rfl) rfl ?_
      refine hxj_getB (by rfl) (by rfl) (by rfl) hAc272 (by rfl) (fun z11 ez11 fz11 gz11 => ?_)
      refine hxj_ialdB (by rfl) (by rfl) rfl (by omega) (by omega) hAc272 (by rfl) (fun z12 ez12 fz12 gz12 => ?_)
      refine hxj_cge (by rfl) rfl rfl (fun q13 => ?_) (fun q13 => ?_)
      ·
        refine hxa_iload_n (by rfl) rfl ?_
        exact hxa_ireturn (by rfl) rfl (hP _ _ ⟨(hJ.mono hAc272 (by omega) (by omega)), _, rfl⟩)
      ·
        refine hxa_aload_n (by rfl) rfl ?_
        refine hxa_iload_n (by rfl) rfl ?_
        refine hxa_call0 (by rfl) (by rfl) (by rfl) (by rfl) (by rfl) (by rfl) (hX182 (d := d + 1) hAc272 x272_3 (by omega) (by omega)) ?_
        rintro _ _ ⟨rfl, z14, rfl, fz14⟩
        refine hxj_zeq (by rfl) rfl (fun q15 => ?_) (fun q15 => ?_)
        ·
          refine hxj_iinc (by rfl) rfl rfl hk_1 (by omega) (by omega) (fun _ => rfl) (fun z16 ez16 => ?_)
          refine hxa_goto (by rfl) ?_
          exact ih272 x272_2 z16 Ac272 hAc272 (by omega) (by omega) (by omega) (by omega) (by omega)
        ·
          refine hxa_iload_n (by rfl) rfl ?_
          refine hxa_iconst (by rfl) rfl ?_
          refine hxa_iload_n (by rfl) rfl ?_
          refine hxj_ishlU (by rfl) (fun z17 => ?_)
          refine hxj_iorU (by rfl) (fun z18 => ?_)
          refine hxa_s1 (by rfl) (Or.inl ⟨_, rfl, rfl⟩) rfl ?_
          refine hxj_iinc (by rfl) rfl rfl hk_1 (by omega) (by omega) (fun _ => rfl) (fun z19 ez19 => ?_)
          refine hxa_goto (by rfl) ?_
          exact ih272 z18 z19 Ac272 hAc272 (by omega) (by omega) (by omega) (by omega) (by omega)
  have L223 : ∀ (x223_2 : Int32) (y223_0 : Int32) (Ac223 : hs_A) (hAc223 : hJ 0 N N A0 Ac223) (bx223_2 : 0 ≤ x223_2.toInt) (cx223_2 : x223_2.toInt ≤ 0) (by223_0 : 0 ≤ y223_0.toInt) (cy223_0 : y223_0.toInt ≤ 1) (ba1 : 12 ≤ a1.toInt) (ca1 : a1.toInt ≤ 12), hxa (d + 2) (some (.int)) hm_t241 223 [.ref 368, .int a1, .int x223_2, .retAddr 0] [.int y223_0] Ac223 P := by
    intro x223_2 y223_0 Ac223 hAc223 bx223_2 cx223_2 by223_0 cy223_0 ba1 ca1
    refine hxa_aload_n (by rfl) rfl ?_
    refine hxa_get (v := .ref 409) (by rfl) (by rfl) (by rfl) rfl ?_
    refine hxa_iconst (by rfl) rfl ?_
    refine hxj_zald (by rfl) (by rfl) hk_1 (by omega) (by omega) (fun z20 ez20 => ?_)
    refine hxj_zeq (by rfl) rfl (fun q21 => ?_) (fun q21 => ?_)
    ·
      refine hxa_iconst (by rfl) rfl ?_
      refine hxj_iadd (by rfl) rfl hk_0 (by omega) (by omega) (fun z22 ez22 => ?_)
      refine hxa_aload_n (by rfl) rfl ?_
      refine hxa_get (v := .ref 409) (by rfl) (by rfl) (by rfl) rfl ?_
      refine hxa_iconst (by rfl) rfl ?_
      refine hxj_zald (by rfl) (by rfl) hk_2 (by omega) (by omega) (fun z23 ez23 => ?_)
      refine hxj_zeq (by rfl) rfl (fun q24 => ?_) (fun q24 => ?_)
      ·
        refine hxa_iconst (by rfl) rfl ?_
        refine hxj_iadd (by rfl) rfl hk_0 (by omega) (by omega) (fun z25 ez25 => ?_)
        exact hxa_ireturn (by rfl) rfl (hP _ _ ⟨(hJ.mono hAc223 (by omega) (by omega)), _, rfl⟩)
      ·
        refine hxa_iconst (by rfl) rfl ?_
        refine hxa_goto (by rfl) ?_
        refine hxj_iadd (by rfl) rfl hk_1 (by omega) (by omega) (fun z26 ez26 => ?_)
        exact hxa_ireturn (by rfl) rfl (hP _ _ ⟨(hJ.mono hAc223 (by omega) (by omega)), _, rfl⟩)
    ·
      refine hxa_iconst (by rfl) rfl ?_
      refine hxa_goto (by rfl) ?_
      refine hxj_iadd (by rfl) rfl hk_1 (by omega) (by omega) (fun z27 ez27 => ?_)
      refine hxa_aload_n (by rfl) rfl ?_
      refine hxa_get (v := .ref 409) (by rfl) (by rfl) (by rfl) rfl ?_
      refine hxa_iconst (by rfl) rfl ?_
      refine hxj_zald (by rfl) (by rfl) hk_2 (by omega) (by omega) (fun z28 ez28 => ?_)
      refine hxj_zeq (by rfl) rfl (fun q29 => ?_) (fun q29 => ?_)
      ·
        refine hxa_iconst (by rfl) rfl ?_
        refine hxj_iadd (by rfl) rfl hk_0 (by omega) (by omega) (fun z30 ez30 => ?_)
        exact hxa_ireturn (by rfl) rfl (hP _ _ ⟨(hJ.mono hAc223 (by omega) (by omega)), _, rfl⟩)
      ·
        refine hxa_iconst (by rfl) rfl ?_
        refine hxa_goto (by rfl) ?_
        refine hxj_iadd (by rfl) rfl hk_1 (by omega) (by omega) (fun z31 ez31 => ?_)
        exact hxa_ireturn (by rfl) rfl (hP _ _ ⟨(hJ.mono hAc223 (by omega) (by omega)), _, rfl⟩)
  have L151 : ∀ (m151 : Nat) (x151_2 : Int32) (x151_3 : Int32) (Ac151 : hs_A) (hAc151 : hJ 0 N N A0 Ac151) (bx151_3 : 0 ≤ x151_3.toInt) (cx151_3 : x151_3.toInt ≤ 10) (ba1 : 7 ≤ a1.toInt) (ca1 : a1.toInt ≤ 7) (hm151 : 10 - x151_3.toInt < (m151 : Int)), hxa (d + 2) (some (.int)) hm_t241 151 [.ref 368, .int a1, .int x151_2, .int x151_3] [] Ac151 P := by
    intro m151
    induction m151 with
    | zero => intro x151_2 x151_3 Ac151 hAc151 bx151_3 cx151_3 ba1 ca1 hm151; have := hn_rng x151_2; exact False.elim (by omega)
    | succ m151 ih151 =>
      intro x151_2 x151_3 Ac151 hAc151 bx151_3 cx151_3 ba1 ca1 hm151
      refine hxa_iload_n (by rfl) rfl ?_
      refine hxa_aload_n (by rfl) rfl ?_
      refine hxa_get (v := .ref 377) (by rfl) (by rfl) (by rfl) rfl ?_
      refine hxa_aload_n (by rfl) rfl ?_
      refine hxj_getB (by rfl) (by rfl) (by rfl) hAc151 (by rfl) (fun z32 ez32 fz32 gz32 => ?_)
      refine hxj_ialdB (by rfl) (by rfl) rfl (by omega) (by omega) hAc151 (by rfl) (fun z33 ez33 fz33 gz33 => ?_)
      refine hxj_cge (by rfl) rfl rfl (fun q34 => ?_) (fun q34 => ?_)
      ·
        refine hxa_iload_n (by rfl) rfl ?_
        exact hxa_ireturn (by rfl) rfl (hP _ _ ⟨(hJ.mono hAc151 (by omega) (by omega)), _, rfl⟩)
      ·
        refine hxa_aload_n (by rfl) rfl ?_
        refine hxa_iload_n (by rfl) rfl ?_
        refine hxa_call0 (by rfl) (by rfl) (by rfl) (by rfl) (by rfl) (by rfl) (hX186 (d := d + 1) hAc151 x151_3 (by omega) (by omega)) ?_
        rintro _ _ ⟨rfl, z35, rfl, fz35⟩
        refine hxj_zeq (by rfl) rfl (fun q36 => ?_) (fun q36 => ?_)
        ·
          refine hxj_iinc (by rfl) rfl rfl hk_1 (by omega) (by omega) (fun _ => rfl) (fun z37 ez37 => ?_)
          refine hxa_goto (by rfl) ?_
          exact ih151 x151_2 z37 Ac151 hAc151 (by omega) (by omega) (by omega) (by omega) (by omega)
        ·
          refine hxa_iload_n (by rfl) rfl ?_
          refine hxa_iconst (by rfl) rfl ?_
          refine hxa_iload_n (by rfl) rfl ?_
          refine hxj_ishlU (by rfl) (fun z38 => ?_)
          refine hxj_iorU (by rfl) (fun z39 => ?_)
          refine hxa_s1 (by rfl) (Or.inl ⟨_, rfl, rfl⟩) rfl ?_
          refine hxj_iinc (by rfl) rfl rfl hk_1 (by omega) (by omega) (fun _ => rfl) (fun z40 ez40 => ?_)
          refine hxa_goto (by rfl) ?_
          exact ih151 z39 z40 Ac151 hAc151 (by omega) (by omega) (by omega) (by omega) (by omega)
  refine hxa_aload_n (by rfl) rfl ?_
  refine hxa_call0 (by rfl) (by rfl) (by rfl) (by rfl) (by rfl) (by rfl) (hX171 (d := d + 1) hA ) ?_
  rintro _ A41 ⟨hA41, rfl⟩
  refine hxa_iconst (by rfl) rfl ?_
  refine hxa_s1 (by rfl) (Or.inl ⟨_, rfl, rfl⟩) rfl ?_
  refine hxa_iload_n (by rfl) rfl ?_
  by_cases q42 : a1.toInt = 0
  ·
    refine hxa_tabIn (by rfl) (by omega) (by omega) (by rw [q42]; rfl) (tgt := 92) (by rfl) ?_
    refine hxa_aload_n (by rfl) rfl ?_
    refine hxa_get (v := .ref 377) (by rfl) (by rfl) (by rfl) rfl ?_
    refine hxa_aload_n (by rfl) rfl ?_
    refine hxj_getB (by rfl) (by rfl) (by rfl) hA41 (by rfl) (fun z43 ez43 fz43 gz43 => ?_)
    refine hxj_ialdB (by rfl) (by rfl) rfl (by omega) (by omega) hA41 (by rfl) (fun z44 ez44 fz44 gz44 => ?_)
    exact hxa_ireturn (by rfl) rfl (hP _ _ ⟨(hJ.mono hA41 (by omega) (by omega)), _, rfl⟩)
  ·
    by_cases q45 : a1.toInt = 1
    ·
      refine hxa_tabIn (by rfl) (by omega) (by omega) (by rw [q45]; rfl) (tgt := 102) (by rfl) ?_
      refine hxa_aload_n (by rfl) rfl ?_
      refine hxa_get (v := .ref 380) (by rfl) (by rfl) (by rfl) rfl ?_
      refine hxa_aload_n (by rfl) rfl ?_
      refine hxj_getB (by rfl) (by rfl) (by rfl) hA41 (by rfl) (fun z46 ez46 fz46 gz46 => ?_)
      refine hxj_iald (by rfl) (by rfl) rfl (by omega) (by omega) (fun z47 ez47 => ?_)
      exact hxa_ireturn (by rfl) rfl (hP _ _ ⟨(hJ.mono hA41 (by omega) (by omega)), _, rfl⟩)
    ·
      by_cases q48 : a1.toInt = 2
      ·
        refine hxa_tabIn (by rfl) (by omega) (by omega) (by rw [q48]; rfl) (tgt := 112) (by rfl) ?_
        refine hxa_aload_n (by rfl) rfl ?_
        refine hxa_get (v := .ref 397) (by rfl) (by rfl) (by rfl) rfl ?_
        refine hxa_bipush (by rfl) rfl ?_
        refine hxj_iald396 (by rfl) hk_70 (by omega) (by omega) hA41 (fun z49 ez49 fz49 => ?_)
        exact hxa_ireturn (by rfl) rfl (hP _ _ ⟨(hJ.mono hA41 (by omega) (by omega)), _, rfl⟩)
      ·
        by_cases q50 : a1.toInt = 3
        ·
          refine hxa_tabIn (by rfl) (by omega) (by omega) (by rw [q50]; rfl) (tgt := 120) (by rfl) ?_
          refine hxa_aload_n (by rfl) rfl ?_
          refine hxa_get (v := .ref 397) (by rfl) (by rfl) (by rfl) rfl ?_
          refine hxa_bipush (by rfl) rfl ?_
          refine hxj_iald396 (by rfl) hk_70 (by omega) (by omega) hA41 (fun z51 ez51 fz51 => ?_)
          refine hxa_bipush (by rfl) rfl ?_
          refine hxj_iremP (by rfl) rfl hk_24 (by omega) (by omega) (fun z52 ez52 => ?_)
          exact hxa_ireturn (by rfl) rfl (hP _ _ ⟨(hJ.mono hA41 (by omega) (by omega)), _, rfl⟩)
        ·
          by_cases q53 : a1.toInt = 4
          ·
            refine hxa_tabIn (by rfl) (by omega) (by omega) (by rw [q53]; rfl) (tgt := 131) (by rfl) ?_
            refine hxa_aload_n (by rfl) rfl ?_
            refine hxa_call0 (by rfl) (by rfl) (by rfl) (by rfl) (by rfl) (by rfl) (hX183 (d := d + 1) hA41 ) ?_
            rintro _ _ ⟨rfl, z54, rfl⟩
            exact hxa_ireturn (by rfl) rfl (hP _ _ ⟨(hJ.mono hA41 (by omega) (by omega)), _, rfl⟩)
          ·
            by_cases q55 : a1.toInt = 5
            ·
              refine hxa_tabIn (by rfl) (by omega) (by omega) (by rw [q55]; rfl) (tgt := 136) (by rfl) ?_
              refine hxa_aload_n (by rfl) rfl ?_
              refine hxa_bipush (by rfl) rfl ?_
              refine hxa_iconst (by rfl) rfl ?_
              refine hxa_call0 (by rfl) (by rfl) (by rfl) (by rfl) (by rfl) (by rfl) (hX240 (d := d + 0) hA41 (Int32.ofNat 50) (by omega) (by omega) (Int32.ofNat 0)) ?_
              rintro _ _ ⟨rfl, z56, rfl⟩
              exact hxa_ireturn (by rfl) rfl (hP _ _ ⟨(hJ.mono hA41 (by omega) (by omega)), _, rfl⟩)
            ·
              by_cases q57 : a1.toInt = 6
              ·
                refine hxa_tabIn (by rfl) (by omega) (by omega) (by rw [q57]; rfl) (tgt := 144) (by rfl) ?_
                refine hxa_aload_n (by rfl) rfl ?_
                refine hxa_call0 (by rfl) (by rfl) (by rfl) (by rfl) (by rfl) (by rfl) (hX225 (d := d + 1) hA41 ) ?_
                rintro _ _ ⟨rfl, z58, rfl⟩
                exact hxa_ireturn (by rfl) rfl (hP _ _ ⟨(hJ.mono hA41 (by omega) (by omega)), _, rfl⟩)
              ·
                by_cases q59 : a1.toInt = 7
                ·
                  refine hxa_tabIn (by rfl) (by omega) (by omega) (by rw [q59]; rfl) (tgt := 149) (by rfl) ?_
                  refine hxa_iconst (by rfl) rfl ?_
                  refine hxa_s1 (by rfl) (Or.inl ⟨_, rfl, rfl⟩) rfl ?_
                  exact L151 (Int.toNat (10 - 0) + 1) (Int32.ofNat 0) (Int32.ofNat 0) A41 hA41 (by omega) (by omega) (by omega) (by omega) (by omega)
                ·
                  by_cases q60 : a1.toInt = 8
                  ·
                    refine hxa_tabIn (by rfl) (by omega) (by omega) (by rw [q60]; rfl) (tgt := 186) (by rfl) ?_
                    refine hxa_aload_n (by rfl) rfl ?_
                    refine hxa_bipush (by rfl) rfl ?_
                    refine hxa_iconst (by rfl) rfl ?_
                    refine hxa_call0 (by rfl) (by rfl) (by rfl) (by rfl) (by rfl) (by rfl) (hX240 (d := d + 0) hA41 (Int32.ofNat 30) (by omega) (by omega) (Int32.ofNat 1)) ?_
                    rintro _ _ ⟨rfl, z61, rfl⟩
                    exact hxa_ireturn (by rfl) rfl (hP _ _ ⟨(hJ.mono hA41 (by omega) (by omega)), _, rfl⟩)
                  ·
                    by_cases q62 : a1.toInt = 9
                    ·
                      refine hxa_tabIn (by rfl) (by omega) (by omega) (by rw [q62]; rfl) (tgt := 194) (by rfl) ?_
                      refine hxa_aload_n (by rfl) rfl ?_
                      refine hxj_getB (by rfl) (by rfl) (by rfl) hA41 (by rfl) (fun z63 ez63 fz63 gz63 => ?_)
                      exact hxa_ireturn (by rfl) rfl (hP _ _ ⟨(hJ.mono hA41 (by omega) (by omega)), _, rfl⟩)
                    ·
                      by_cases q64 : a1.toInt = 10
                      ·
                        refine hxa_tabIn (by rfl) (by omega) (by omega) (by rw [q64]; rfl) (tgt := 199) (by rfl) ?_
                        refine hxa_aload_n (by rfl) rfl ?_
                        refine hxj_getB (by rfl) (by rfl) (by rfl) hA41 (by rfl) (fun z65 ez65 fz65 gz65 => ?_)
                        exact hxa_ireturn (by rfl) rfl (hP _ _ ⟨(hJ.mono hA41 (by omega) (by omega)), _, rfl⟩)
                      ·
                        by_cases q66 : a1.toInt = 11
                        ·
                          refine hxa_tabIn (by rfl) (by omega) (by omega) (by rw [q66]; rfl) (tgt := 204) (by rfl) ?_
                          refine hxa_aload_n (by rfl) rfl ?_
                          refine hxj_getB (by rfl) (by rfl) (by rfl) hA41 (by rfl) (fun z67 ez67 fz67 gz67 => ?_)
                          exact hxa_ireturn (by rfl) rfl (hP _ _ ⟨(hJ.mono hA41 (by omega) (by omega)), _, rfl⟩)
                        ·
                          by_cases q68 : a1.toInt = 12
                          ·
                            refine hxa_tabIn (by rfl) (by omega) (by omega) (by rw [q68]; rfl) (tgt := 209) (by rfl) ?_
                            refine hxa_aload_n (by rfl) rfl ?_
                            refine hxa_get (v := .ref 409) (by rfl) (by rfl) (by rfl) rfl ?_
                            refine hxa_iconst (by rfl) rfl ?_
                            refine hxj_zald (by rfl) (by rfl) hk_0 (by omega) (by omega) (fun z69 ez69 => ?_)
                            refine hxj_zeq (by rfl) rfl (fun q70 => ?_) (fun q70 => ?_)
                            ·
                              refine hxa_iconst (by rfl) rfl ?_
                              exact L223 (Int32.ofNat 0) (Int32.ofNat 0) A41 hA41 (by omega) (by omega) (by omega) (by omega) (by omega) (by omega)
                            ·
                              refine hxa_iconst (by rfl) rfl ?_
                              refine hxa_goto (by rfl) ?_
                              exact L223 (Int32.ofNat 0) (Int32.ofNat 1) A41 hA41 (by omega) (by omega) (by omega) (by omega) (by omega) (by omega)
                          ·
                            by_cases q71 : a1.toInt = 13
                            ·
                              refine hxa_tabIn (by rfl) (by omega) (by omega) (by rw [q71]; rfl) (tgt := 254) (by rfl) ?_
                              refine hxa_aload_n (by rfl) rfl ?_
                              refine hxa_get (v := .ref 397) (by rfl) (by rfl) (by rfl) rfl ?_
                              refine hxa_bipush (by rfl) rfl ?_
                              refine hxj_iald396 (by rfl) hk_72 (by omega) (by omega) hA41 (fun z72 ez72 fz72 => ?_)
                              exact hxa_ireturn (by rfl) rfl (hP _ _ ⟨(hJ.mono hA41 (by omega) (by omega)), _, rfl⟩)
                            ·
                              by_cases q73 : a1.toInt = 14
                              ·
                                refine hxa_tabIn (by rfl) (by omega) (by omega) (by rw [q73]; rfl) (tgt := 262) (by rfl) ?_
                                refine hxa_aload_n (by rfl) rfl ?_
                                refine hxa_bipush (by rfl) rfl ?_
                                refine hxa_iconst (by rfl) rfl ?_
                                refine hxa_call0 (by rfl) (by rfl) (by rfl) (by rfl) (by rfl) (by rfl) (hX240 (d := d + 0) hA41 (Int32.ofNat 40) (by omega) (by omega) (Int32.ofNat 2)) ?_
                                rintro _ _ ⟨rfl, z74, rfl⟩
                                exact hxa_ireturn (by rfl) rfl (hP _ _ ⟨(hJ.mono hA41 (by omega) (by omega)), _, rfl⟩)
                              ·
                                by_cases q75 : a1.toInt = 15
                                ·
                                  refine hxa_tabIn (by rfl) (by omega) (by omega) (by rw [q75]; rfl) (tgt := 270) (by rfl) ?_
                                  refine hxa_iconst (by rfl) rfl ?_
                                  refine hxa_s1 (by rfl) (Or.inl ⟨_, rfl, rfl⟩) rfl ?_
                                  exact L272 (Int.toNat (10 - 0) + 1) (Int32.ofNat 0) (Int32.ofNat 0) A41 hA41 (by omega) (by omega) (by omega) (by omega) (by omega)
                                ·
                                  by_cases q76 : a1.toInt = 16
                                  ·
                                    refine hxa_tabIn (by rfl) (by omega) (by omega) (by rw [q76]; rfl) (tgt := 307) (by rfl) ?_
                                    refine hxa_aload_n (by rfl) rfl ?_
                                    refine hxa_bipush (by rfl) rfl ?_
                                    refine hxa_iconst (by rfl) rfl ?_
                                    refine hxa_call0 (by rfl) (by rfl) (by rfl) (by rfl) (by rfl) (by rfl) (hX240 (d := d + 0) hA41 (Int32.ofNat 30) (by omega) (by omega) (Int32.ofNat 2)) ?_
                                    rintro _ _ ⟨rfl, z77, rfl⟩
                                    exact hxa_ireturn (by rfl) rfl (hP _ _ ⟨(hJ.mono hA41 (by omega) (by omega)), _, rfl⟩)
                                  ·
                                    by_cases q78 : a1.toInt = 17
                                    ·
                                      refine hxa_tabIn (by rfl) (by omega) (by omega) (by rw [q78]; rfl) (tgt := 315) (by rfl) ?_
                                      refine hxa_iconst (by rfl) rfl ?_
                                      refine hxa_s1 (by rfl) (Or.inl ⟨_, rfl, rfl⟩) rfl ?_
                                      exact L317 (Int.toNat (10 - 0) + 1) (Int32.ofNat 0) (Int32.ofNat 0) A41 hA41 (by omega) (by omega) (by omega) (by omega) (by omega)
                                    ·
                                      refine hxa_tabOut (by rfl) (by omega) (tgt := 357) (by rfl) ?_
                                      refine hxa_iconst (by rfl) rfl ?_
                                      exact hxa_ireturn (by rfl) rfl (hP _ _ ⟨(hJ.mono hA41 (by omega) (by omega)), _, rfl⟩)
theorem hX241 {d : Nat} {N : Int} {A0 A : hs_A} (hA : hJ 0 N (N + 72) A0 A) (hN : N ≤ 900000) (a1 : Int32) : hxC (d + 3) 241 hm_m241 [.ref 368, .int a1] A (fun r A' => hJ 0 (N + 72) (N + 144) A0 A' ∧ ∃ z : Int32, r = some (.int z)) := hxC.of (by rfl) (hY241 hA hN a1 (fun r A' h => h))
