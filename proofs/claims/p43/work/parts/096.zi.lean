theorem hlc_back {L : Nat} {xs : Nat → Int32} {N : Int} {i : Int32} {A : hs_A} (hi0 : 0 ≤ i.toInt) (hi1 : i.toInt + 6 ≤ (L : Int)) (hL : L ≤ 3072) (hN0 : N ≤ 24 * i.toInt) (hA : hJ 0 N (N + 72) A A) (ht : (A.1 0 1).toInt = (A.1 367 2).toInt) (ih : ∀ (A' : hs_A) (N' : Int), hJ 0 N' (N' + 72) A' A' → (A'.1 0 1).toInt = (A'.1 367 2).toInt → N' ≤ N + 144 → hlx (L, hlS xs) 26 1472 [.ref 0, .ref 1, .ref 368, .int i] [] A') : hlx (L, hlS xs) 26 287 [.ref 0, .ref 1, .ref 368, .int i] [] A := by
  refine hlx_aload_n (by rfl) rfl ?_
  refine hlx_aload_n (by rfl) rfl ?_
  refine hlx_iload_n (by rfl) rfl ?_
  refine hlx_iconst (by rfl) rfl ?_
  refine hly_iadd (by rfl) rfl hk_1 (by omega) (by omega) (fun z1 ez1 => ?_)
  refine hly_sld (by rfl) hL ez1 (by omega) (by omega) (fun x1 ex1 => ?_)
  have h10 := hJ.to10 hA
  refine hlx_call (by rfl) (by rfl) (by rfl) (by rfl) (by rfl) (by rfl) (hX72q10 (d := 25) h10 x1) ?_
  rintro _ A1 ⟨h1, r1, y1, rfl, f1⟩
  refine hlx_popI (by rfl) ?_
  refine hlx_aload_n (by rfl) rfl ?_
  refine hlx_aload_n (by rfl) rfl ?_
  refine hlx_iload_n (by rfl) rfl ?_
  refine hlx_iconst (by rfl) rfl ?_
  refine hly_iadd (by rfl) rfl hk_1 (by omega) (by omega) (fun z2 ez2 => ?_)
  refine hly_sld (by rfl) hL ez2 (by omega) (by omega) (fun x2 ex2 => ?_)
  have e12 : x2 = x1 := ex2.trans ex1.symm
  subst e12
  refine hlx_call (by rfl) (by rfl) (by rfl) (by rfl) (by rfl) (by rfl) (hX135q10 (d := 25) h1 x2) ?_
  rintro _ A2 ⟨h2, r2, y2, rfl, f2⟩
  have t1 := congrArg Int32.toInt r1
  have t2 := congrArg Int32.toInt r2
  refine hlx_popI (by rfl) ?_
  refine hlx_goto (by rfl) ?_
  exact ih A2 N (hJ.end10 h2).1 (by omega) (by omega)
theorem hY128f {d : Nat} {Bn Br : Int} {A0 A : hs_A} (hA : hJ 0 Bn Br A0 A)  (a1 : Int32) {P : Option Value → hs_A → Prop} (hP : ∀ (r : Option Value) (A' : hs_A), (hJ 0 Bn Br A0 A' ∧ ∃ z : Int32, r = some (.int z) ∧ ((z.toInt = 1 ∧ 0 ≤ a1.toInt ∧ a1.toInt ≤ 2) ∨ (z.toInt = 0 ∧ (a1.toInt < 0 ∨ 2 < a1.toInt)))) → P r A') : hxa (d + 1) (some (.boolean)) hm_t128 0 [.ref 1, .int a1] [] A P := by
  have k0 := hk_0
  have k1 := hk_1
  have k2 := hk_2
  refine hxa_iload_n (by rfl) rfl ?_
  refine hxa_iconst (by rfl) rfl ?_
  refine hxa_iconst (by rfl) rfl ?_
  refine hxa_call2 (by rfl) (by decide) (by rfl) (by rfl) (by rfl) (hX78 (d := d + 0)  a1 (Int32.ofNat 0) (Int32.ofNat 2)) ?_
  rintro _ _ ⟨rfl, z1, rfl, fz1⟩
  rcases fz1 with fz1 | fz1
  ·
    refine hxj_zne (by rfl) rfl (fun q2 => ?_) (fun q2 => False.elim (by omega))
    refine hxa_aload_n (by rfl) rfl ?_
    refine hxa_get (v := .ref 323) (by rfl) (by rfl) (by rfl) rfl ?_
    refine hxa_iload_n (by rfl) rfl ?_
    obtain ⟨L3, hL3, eL3⟩ := haa_slots (j := a1) rfl (by omega) (by omega)
    refine hxa_aald (by rfl) (Or.inl rfl) (by rfl) (hn_ix0 rfl (by omega)) eL3 ?_
    refine hxa_aload_n (by rfl) rfl ?_
    refine hxa_get (v := .ref 27) (by rfl) (by rfl) (by rfl) rfl ?_
    refine hxa_call0 (by rfl) (by rfl) (by rfl) (hsL hL3) (by rfl) (by rfl) (hX17 (d := d + 0) hA hL3 hL26) ?_
    rintro _ A4 ⟨hA4, rfl⟩
    refine hxa_aload_n (by rfl) rfl ?_
    refine hxa_dupR (by rfl) ?_
    refine hxj_getI (by rfl) (by rfl) (by rfl) (fun z5 ez5 => ?_)
    refine hxa_iconst (by rfl) rfl ?_
    refine hxa_iload_n (by rfl) rfl ?_
    refine hxj_ishl1 (by rfl) rfl rfl (by omega) (by omega) (fun z6 ez6 fz6 => ?_)
    refine hxj_iorU (by rfl) (fun z7 => ?_)
    refine hxj_putI (by rfl) (by rfl) (by rfl) (by rfl) hA4 (hbokN (by rfl)) (by rfl) (by rfl) (fun A8 hA8 eA8 fA8 => ?_)
    refine hxa_iconst (by rfl) rfl ?_
    exact hxa_ireturn (by rfl) (by rfl) (hP _ _ ⟨hA8, _, rfl, by omega⟩)
  ·
    refine hxj_zne (by rfl) rfl (fun q9 => False.elim (by omega)) (fun q9 => ?_)
    refine hxa_iconst (by rfl) rfl ?_
    exact hxa_ireturn (by rfl) (by rfl) (hP _ _ ⟨hA, _, rfl, by omega⟩)
theorem hX128f {d : Nat} {Bn Br : Int} {A0 A : hs_A} (hA : hJ 0 Bn Br A0 A)  (a1 : Int32) : hxC (d + 2) 128 hm_m128 [.ref 1, .int a1] A (fun r A' => hJ 0 Bn Br A0 A' ∧ ∃ z : Int32, r = some (.int z) ∧ ((z.toInt = 1 ∧ 0 ≤ a1.toInt ∧ a1.toInt ≤ 2) ∨ (z.toInt = 0 ∧ (a1.toInt < 0 ∨ 2 < a1.toInt)))) := hxC.of (by rfl) (hY128f hA a1 (fun r A' h => h))
theorem hY238f {d : Nat} {N : Int} {A0 A : hs_A} (hA : hJ 0 N (N + 72) A0 A) (hN : N ≤ 900000) (a1 : Int32) {P : Option Value → hs_A → Prop} (hP : ∀ (r : Option Value) (A' : hs_A), (hJ 0 (N + 72) (N + 144) A0 A' ∧ ∃ z : Int32, r = some (.int z) ∧ ((z.toInt = 1 ∧ 0 ≤ a1.toInt ∧ a1.toInt ≤ 2) ∨ (z.toInt = 0 ∧ (a1.toInt < 0 ∨ 2 < a1.toInt)))) → P r A') : hxa (d + 1) (some (.boolean)) hm_t238 0 [.ref 368, .int a1, .retAddr 0] [] A P := by
  have k0 := hk_0
  have k1 := hk_1
  have k2 := hk_2
  have L20 : ∀ (m20 : Nat) (x20_2 : Int32) (Ac20 : hs_A) (hAc20 : hJ 0 N (N + 72) A0 Ac20) (bx20_2 : 0 ≤ x20_2.toInt) (cx20_2 : x20_2.toInt ≤ 73) (ba1 : 0 ≤ a1.toInt) (ca1 : a1.toInt ≤ 2) (hm20 : 73 - x20_2.toInt < (m20 : Int)), hxa (d + 1) (some (.boolean)) hm_t238 20 [.ref 368, .int a1, .int x20_2] [] Ac20 P := by
    intro m20
    induction m20 with
    | zero => intro x20_2 Ac20 hAc20 bx20_2 cx20_2 ba1 ca1 hm20;  exact False.elim (by omega)
    | succ m20 ih20 =>
      intro x20_2 Ac20 hAc20 bx20_2 cx20_2 ba1 ca1 hm20
      refine hxa_iload_n (by rfl) rfl ?_
      refine hxa_bipush (by rfl) rfl ?_
      refine hxj_cge (by rfl) rfl hk_73 (fun q1 => ?_) (fun q1 => ?_)
      ·
        refine hxa_iconst (by rfl) rfl ?_
        exact hxa_ireturn (by rfl) (by rfl) (hP _ _ ⟨(hJ.mono hAc20 (by omega) (by omega)), _, rfl, by omega⟩)
      ·
        refine hxa_aload_n (by rfl) rfl ?_
        refine hxa_get (v := .ref 410) (by rfl) (by rfl) (by rfl) rfl ?_
        refine hxa_bipush (by rfl) rfl ?_
        refine hxa_iload_n (by rfl) rfl ?_
        refine hxj_imul (by rfl) hk_73 rfl (by omega) (by omega) (fun z2 ez2 => ?_)
        refine hxa_iload_n (by rfl) rfl ?_
        refine hxj_iadd (by rfl) rfl rfl (by omega) (by omega) (fun z3 ez3 => ?_)
        refine hxa_aload_n (by rfl) rfl ?_
        refine hxa_get (v := .ref 396) (by rfl) (by rfl) (by rfl) rfl ?_
        refine hxa_iload_n (by rfl) rfl ?_
        refine hxj_iald395 (by rfl) rfl (by omega) (by omega) hAc20 (fun z4 ez4 fz4 => ?_)
        refine hxj_iast409 (by rfl) rfl (by omega) (by omega) rfl hAc20 (by omega) (fun A5 hA5 eA5 fA5 gA5 => ?_)
        refine hxj_iinc (by rfl) rfl rfl hk_1 (by omega) (by omega) (fun _ => rfl) (fun z6 ez6 => ?_)
        refine hxa_goto (by rfl) ?_
        exact ih20 z6 A5 hA5 (by omega) (by omega) (by omega) (by omega) (by omega)
  refine hxa_iload_n (by rfl) rfl ?_
  refine hxa_iconst (by rfl) rfl ?_
  refine hxa_iconst (by rfl) rfl ?_
  refine hxa_call2 (by rfl) (by decide) (by rfl) (by rfl) (by rfl) (hX164 (d := d + 0)  a1 (Int32.ofNat 0) (Int32.ofNat 2)) ?_
  rintro _ _ ⟨rfl, z7, rfl, fz7⟩
  rcases fz7 with fz7 | fz7
  ·
    refine hxj_zne (by rfl) rfl (fun q8 => ?_) (fun q8 => False.elim (by omega))
    refine hxa_aload_n (by rfl) rfl ?_
    refine hxa_get (v := .ref 409) (by rfl) (by rfl) (by rfl) rfl ?_
    refine hxa_iload_n (by rfl) rfl ?_
    refine hxa_iconst (by rfl) rfl ?_
    refine hxj_zast (by rfl) (by rfl) rfl (by omega) (by omega) hk_1 (by omega) (by omega) hA (hbokN (by rfl)) (by rfl) (by rfl) (fun A9 hA9 eA9 fA9 gA9 => ?_)
    refine hxa_iconst (by rfl) rfl ?_
    refine hxa_s1 (by rfl) (Or.inl ⟨_, rfl, rfl⟩) rfl ?_
    exact L20 (Int.toNat (73 - 0) + 1) (Int32.ofNat 0) A9 hA9 (by omega) (by omega) (by omega) (by omega) (by omega)
  ·
    refine hxj_zne (by rfl) rfl (fun q10 => False.elim (by omega)) (fun q10 => ?_)
    refine hxa_iconst (by rfl) rfl ?_
    exact hxa_ireturn (by rfl) (by rfl) (hP _ _ ⟨(hJ.mono hA (by omega) (by omega)), _, rfl, by omega⟩)
theorem hX238f {d : Nat} {N : Int} {A0 A : hs_A} (hA : hJ 0 N (N + 72) A0 A) (hN : N ≤ 900000) (a1 : Int32) : hxC (d + 2) 238 hm_m238 [.ref 368, .int a1] A (fun r A' => hJ 0 (N + 72) (N + 144) A0 A' ∧ ∃ z : Int32, r = some (.int z) ∧ ((z.toInt = 1 ∧ 0 ≤ a1.toInt ∧ a1.toInt ≤ 2) ∨ (z.toInt = 0 ∧ (a1.toInt < 0 ∨ 2 < a1.toInt)))) := hxC.of (by rfl) (hY238f hA hN a1 (fun r A' h => h))
theorem hlc_hold {L : Nat} {xs : Nat → Int32} {N : Int} {i : Int32} {A : hs_A} (hi0 : 0 ≤ i.toInt) (hi1 : i.toInt + 6 ≤ (L : Int)) (hL : L ≤ 3072) (hN0 : N ≤ 24 * i.toInt) (hA : hJ 0 N (N + 72) A A) (ht : (A.1 0 1).toInt = (A.1 367 2).toInt) (ih : ∀ (A' : hs_A) (N' : Int), hJ 0 N' (N' + 72) A' A' → (A'.1 0 1).toInt = (A'.1 367 2).toInt → N' ≤ N + 144 → hlx (L, hlS xs) 26 1472 [.ref 0, .ref 1, .ref 368, .int i] [] A') : hlx (L, hlS xs) 26 1403 [.ref 0, .ref 1, .ref 368, .int i] [] A := by
  have hN : N ≤ 900000 := by omega
  refine hlx_aload_n (by rfl) rfl ?_
  refine hlx_aload_n (by rfl) rfl ?_
  refine hlx_iload_n (by rfl) rfl ?_
  refine hlx_iconst (by rfl) rfl ?_
  refine hly_iadd (by rfl) rfl hk_1 (by omega) (by omega) (fun z1 ez1 => ?_)
  refine hly_sld (by rfl) hL ez1 (by omega) (by omega) (fun x1 ex1 => ?_)
  refine hlx_call (by rfl) (by rfl) (by rfl) (by rfl) (by rfl) (by rfl) (hX128f (d := 24) hA x1) ?_
  rintro _ A1 ⟨h1, y1, rfl, f1⟩
  refine hlx_aload_n (by rfl) rfl ?_
  refine hlx_aload_n (by rfl) rfl ?_
  refine hlx_iload_n (by rfl) rfl ?_
  refine hlx_iconst (by rfl) rfl ?_
  refine hly_iadd (by rfl) rfl hk_1 (by omega) (by omega) (fun z2 ez2 => ?_)
  refine hly_sld (by rfl) hL ez2 (by omega) (by omega) (fun x2 ex2 => ?_)
  have e12 : x2 = x1 := ex2.trans ex1.symm
  subst e12
  refine hlx_call (by rfl) (by rfl) (by rfl) (by rfl) (by rfl) (by rfl) (hX238f (d := 24) h1 hN x2) ?_
  rintro _ A2 ⟨h2, y2, rfl, f2⟩
  refine hlx_icmp (by rfl) (fun q => ?_) (fun q => False.elim (hn_f hn_eq q (by omega)))
  exact ih A2 (N + 72) (hJ.mono (hJ.self h2) (by omega) (by omega)) (by rw [h2.2.2.1.1 0 1 (by rfl), h2.2.2.1.1 367 2 (by rfl)]; exact ht) (by omega)
theorem hlc_read {L : Nat} {xs : Nat → Int32} {N : Int} {i : Int32} {A : hs_A} (hi0 : 0 ≤ i.toInt) (hi1 : i.toInt + 6 ≤ (L : Int)) (hL : L ≤ 3072) (hN0 : N ≤ 24 * i.toInt) (hA : hJ 0 N (N + 72) A A) (ht : (A.1 0 1).toInt = (A.1 367 2).toInt) (ih : ∀ (A' : hs_A) (N' : Int), hJ 0 N' (N' + 72) A' A' → (A'.1 0 1).toInt = (A'.1 367 2).toInt → N' ≤ N + 144 → hlx (L, hlS xs) 26 1472 [.ref 0, .ref 1, .ref 368, .int i] [] A') : hlx (L, hlS xs) 26 310 [.ref 0, .ref 1, .ref 368, .int i] [] A := by
  have hN : N ≤ 900000 := by omega
  have K : ∀ A1 : hs_A, hJ 0 (N + 72) (N + 144) A1 A1 → (A1.1 0 1).toInt = 0 → hlx (L, hlS xs) 26 315 [.ref 0, .ref 1, .ref 368, .int i] [] A1 := by
    intro A1 h1 t1
    have h1' : hJ 0 (N + 72) (N + 72 + 72) A1 A1 := hJ.mono h1 (by omega) (by omega)
    have lv := h1.2.2.2.1.2.2.2.2
    refine hlx_aload_n (by rfl) rfl ?_
    by_cases q : (A1.1 367 18).toInt = 0
    · refine hlx_call (by rfl) (by rfl) (by rfl) (by rfl) (by rfl) (by rfl) (hX150q5_1 (d := 18) h1' (by omega) q) ?_
      rintro _ A2 ⟨h2, z2, rfl, f2, g2⟩
      refine hlx_popI (by rfl) ?_
      refine hlx_goto (by rfl) ?_
      exact ih A2 (N + 72 + 72) (hJ.mono h2 (by omega) (by omega)) (by rw [g2]; omega) (by omega)
    · refine hlx_call (by rfl) (by rfl) (by rfl) (by rfl) (by rfl) (by rfl) (hX150q4_1 (d := 18) h1' (by omega) (by omega)) ?_
      rintro _ A2 ⟨h2, z2, rfl, f2, g2⟩
      refine hlx_popI (by rfl) ?_
      refine hlx_goto (by rfl) ?_
      exact ih A2 (N + 72 + 72) (hJ.mono h2 (by omega) (by omega)) (by rw [g2]; omega) (by omega)
  refine hlx_aload_n (by rfl) rfl ?_
  rcases hA.2.2.2.1.1 with ⟨h3, h4⟩ | ⟨h3, h4⟩
  · refine hlx_call (by rfl) (by rfl) (by rfl) (by rfl) (by rfl) (by rfl) (hX73q22 (d := 0) hA h3 h4) ?_
    rintro _ A1 ⟨h1, z1, rfl, f1, g1⟩
    refine hlx_popI (by rfl) ?_
    exact K A1 h1 f1
  · refine hlx_call (by rfl) (by rfl) (by rfl) (by rfl) (by rfl) (by rfl) (hX73q21 (d := 0) hA h3 h4) ?_
    rintro _ A1 ⟨h1, z1, rfl, f1, g1⟩
    refine hlx_popI (by rfl) ?_
    exact K A1 h1 f1
theorem hlc_turn {L : Nat} {xs : Nat → Int32} {N : Int} {i : Int32} {A : hs_A} (hi0 : 0 ≤ i.toInt) (hi1 : i.toInt + 6 ≤ (L : Int)) (hL : L ≤ 3072) (hN0 : N ≤ 24 * i.toInt) (hA : hJ 0 N (N + 72) A A) (ht : (A.1 0 1).toInt = (A.1 367 2).toInt) (ih : ∀ (A' : hs_A) (N' : Int), hJ 0 N' (N' + 72) A' A' → (A'.1 0 1).toInt = (A'.1 367 2).toInt → N' ≤ N + 144 → hlx (L, hlS xs) 26 1472 [.ref 0, .ref 1, .ref 368, .int i] [] A') : hlx (L, hlS xs) 26 402 [.ref 0, .ref 1, .ref 368, .int i] [] A := by
  have hN : N ≤ 900000 := by omega
  have k0 := hk_0
  have k1 := hk_1
  refine hlx_aload_n (by rfl) rfl ?_
  refine hlx_aload_n (by rfl) rfl ?_
  refine hlx_iload_n (by rfl) rfl ?_
  refine hlx_iconst (by rfl) rfl ?_
  refine hly_iadd (by rfl) rfl hk_1 (by omega) (by omega) (fun z1 ez1 => ?_)
  refine hly_sld (by rfl) hL ez1 (by omega) (by omega) (fun x2 ex2 => ?_)
  refine hlx_aload_n (by rfl) rfl ?_
  refine hlx_iload_n (by rfl) rfl ?_
  refine hlx_iconst (by rfl) rfl ?_
  refine hly_iadd (by rfl) rfl hk_2 (by omega) (by omega) (fun z3 ez3 => ?_)
  refine hly_sld (by rfl) hL ez3 (by omega) (by omega) (fun x4 ex4 => ?_)
  refine hlx_if (by rfl) (fun q5 => ?_) (fun q5 => ?_)
  ·
    refine hlx_iconst (by rfl) rfl ?_
    refine hlx_call (by rfl) (by rfl) (by rfl) (by rfl) (by rfl) (by rfl) (hX83 (d := 22) hA x2 (Int32.ofNat 0) (by omega) (by omega)) ?_
    rintro _ A6 ⟨hA6, y6, rfl, _⟩
    refine hlx_popI (by rfl) ?_
    refine hlx_aload_n (by rfl) rfl ?_
    refine hlx_aload_n (by rfl) rfl ?_
    refine hlx_iload_n (by rfl) rfl ?_
    refine hlx_iconst (by rfl) rfl ?_
    refine hly_iadd (by rfl) rfl hk_1 (by omega) (by omega) (fun z7 ez7 => ?_)
    refine hly_sld (by rfl) hL ez7 (by omega) (by omega) (fun x8 ex8 => ?_)
    refine hlx_aload_n (by rfl) rfl ?_
    refine hlx_iload_n (by rfl) rfl ?_
    refine hlx_iconst (by rfl) rfl ?_
    refine hly_iadd (by rfl) rfl hk_2 (by omega) (by omega) (fun z9 ez9 => ?_)
    refine hly_sld (by rfl) hL ez9 (by omega) (by omega) (fun x10 ex10 => ?_)
    refine hlx_if (by rfl) (fun q11 => ?_) (fun q11 => ?_)
    ·
      refine hlx_iconst (by rfl) rfl ?_
      refine hlx_call (by rfl) (by rfl) (by rfl) (by rfl) (by rfl) (by rfl) (hX191 (d := 23) hA6 hN x8 (Int32.ofNat 0) (by omega) (by omega)) ?_
      rintro _ A12 ⟨hA12, y12, rfl, _⟩
      refine hlx_popI (by rfl) ?_
      refine hlx_goto (by rfl) ?_
      exact ih A12 (N + 72) (hJ.mono (hJ.self hA12) (by omega) (by omega)) (by rw [hA12.2.2.1.1 0 1 (by rfl), hA12.2.2.1.1 367 2 (by rfl)]; exact ht) (by omega)
    ·
      refine hlx_iconst (by rfl) rfl ?_
      refine hlx_goto (by rfl) ?_
      refine hlx_call (by rfl) (by rfl) (by rfl) (by rfl) (by rfl) (by rfl) (hX191 (d := 23) hA6 hN x8 (Int32.ofNat 1) (by omega) (by omega)) ?_
      rintro _ A12 ⟨hA12, y12, rfl, _⟩
      refine hlx_popI (by rfl) ?_
      refine hlx_goto (by rfl) ?_
      exact ih A12 (N + 72) (hJ.mono (hJ.self hA12) (by omega) (by omega)) (by rw [hA12.2.2.1.1 0 1 (by rfl), hA12.2.2.1.1 367 2 (by rfl)]; exact ht) (by omega)
  ·
    refine hlx_iconst (by rfl) rfl ?_
    refine hlx_goto (by rfl) ?_
    refine hlx_call (by rfl) (by rfl) (by rfl) (by rfl) (by rfl) (by rfl) (hX83 (d := 22) hA x2 (Int32.ofNat 1) (by omega) (by omega)) ?_
    rintro _ A6 ⟨hA6, y6, rfl, _⟩
    refine hlx_popI (by rfl) ?_
    refine hlx_aload_n (by rfl) rfl ?_
    refine hlx_aload_n (by rfl) rfl ?_
    refine hlx_iload_n (by rfl) rfl ?_
    refine hlx_iconst (by rfl) rfl ?_
    refine hly_iadd (by rfl) rfl hk_1 (by omega) (by omega) (fun z7 ez7 => ?_)
    refine hly_sld (by rfl) hL ez7 (by omega) (by omega) (fun x8 ex8 => ?_)
    refine hlx_aload_n (by rfl) rfl ?_
    refine hlx_iload_n (by rfl) rfl ?_
    refine hlx_iconst (by rfl) rfl ?_
    refine hly_iadd (by rfl) rfl hk_2 (by omega) (by omega) (fun z9 ez9 => ?_)
    refine hly_sld (by rfl) hL ez9 (by omega) (by omega) (fun x10 ex10 => ?_)
    refine hlx_if (by rfl) (fun q11 => ?_) (fun q11 => ?_)
    ·
      refine hlx_iconst (by rfl) rfl ?_
      refine hlx_call (by rfl) (by rfl) (by rfl) (by rfl) (by rfl) (by rfl) (hX191 (d := 23) hA6 hN x8 (Int32.ofNat 0) (by omega) (by omega)) ?_
      rintro _ A12 ⟨hA12, y12, rfl, _⟩
      refine hlx_popI (by rfl) ?_
      refine hlx_goto (by rfl) ?_
      exact ih A12 (N + 72) (hJ.mono (hJ.self hA12) (by omega) (by omega)) (by rw [hA12.2.2.1.1 0 1 (by rfl), hA12.2.2.1.1 367 2 (by rfl)]; exact ht) (by omega)
    ·
      refine hlx_iconst (by rfl) rfl ?_
      refine hlx_goto (by rfl) ?_
      refine hlx_call (by rfl) (by rfl) (by rfl) (by rfl) (by rfl) (by rfl) (hX191 (d := 23) hA6 hN x8 (Int32.ofNat 1) (by omega) (by omega)) ?_
      rintro _ A12 ⟨hA12, y12, rfl, _⟩
      refine hlx_popI (by rfl) ?_
      refine hlx_goto (by rfl) ?_
      exact ih A12 (N + 72) (hJ.mono (hJ.self hA12) (by omega) (by omega)) (by rw [hA12.2.2.1.1 0 1 (by rfl), hA12.2.2.1.1 367 2 (by rfl)]; exact ht) (by omega)
theorem hlaw_loop {L : Nat} {xs : Nat → Int32} (hL0 : ¬ L = 0) (hL : L ≤ 3072) : ∀ (m : Nat) (N : Int) (i : Int32) (A : hs_A), 0 ≤ i.toInt → i.toInt ≤ L + 6 → N ≤ 24 * i.toInt → hJ 0 N (N + 72) A A → (A.1 0 1).toInt = (A.1 367 2).toInt → (L : Int) + 6 - i.toInt < m → hlx (L, hlS xs) 26 18 [.ref 0, .ref 1, .ref 368, .int i] [] A := by
  intro m
  induction m with
  | zero => intro N i A h0 h1 hN hA ht hm; exact False.elim (by omega)
  | succ m ihm =>
    intro N i A h0 h1 hN hA ht hm
    have k0 := hk_0
    refine hlx_iload_n (by rfl) rfl ?_
    refine hlx_aload_n (by rfl) rfl ?_
    refine hlx_slen (by rfl) hL0 ?_
    refine hlx_bipush (by rfl) rfl ?_
    have eL : (Int32.ofNat L).toInt = L := hn_c rfl (by omega)
    have hsub : (Int32.ofNat L - Int32.ofNat 6).toInt = (L : Int) - 6 := by
      have := hn_sub (x := Int32.ofNat L) (y := Int32.ofNat 6) (z := Int32.ofNat L - Int32.ofNat 6) rfl (by rw [eL, hk_6]; omega) (by rw [eL, hk_6]; omega)
      rw [eL, hk_6] at this
      exact this
    refine hlx_isub (by rfl) ?_
    refine hlx_icmp (by rfl) (fun q => ?_) (fun q => ?_)
    · refine hlx_iconst (by rfl) rfl ?_
      exact hlx_end
    · have q' := hn_f hn_gt q
      rw [hsub] at q'
      have ih : ∀ (A' : hs_A) (N' : Int), hJ 0 N' (N' + 72) A' A' → (A'.1 0 1).toInt = (A'.1 367 2).toInt → N' ≤ N + 144 → hlx (L, hlS xs) 26 1472 [.ref 0, .ref 1, .ref 368, .int i] [] A' := by
        intro A' N' hA' ht' hN'
        have e6 : (i + Int32.ofNat 6).toInt = i.toInt + 6 := by
          have := hn_add (x := i) (y := Int32.ofNat 6) (z := i + Int32.ofNat 6) rfl (by rw [hk_6]; omega) (by rw [hk_6]; omega)
          rw [hk_6] at this
          exact this
        refine hlx_iinc (by rfl) rfl rfl ?_
        refine hlx_goto (by rfl) ?_
        exact ihm N' (i + Int32.ofNat 6) A' (by omega) (by omega) (by omega) hA' ht' (by omega)
      refine hlx_aload_n (by rfl) rfl ?_
      refine hlx_iload_n (by rfl) rfl ?_
      refine hly_sld (by rfl) hL rfl (by omega) (by omega) (fun x ex => ?_)
      refine hlx_bipush (by rfl) rfl ?_
      refine hlx_iand (by rfl) ?_
      have hb := hn_and (x := x) (y := Int32.ofNat 63) (by rw [hk_63]; decide)
      rw [hk_63] at hb
      generalize hc : x &&& Int32.ofNat 63 = c at hb
      by_cases q0 : c.toInt = 0
      · refine hlx_tabIn (by rfl) (by omega) (by omega) (by rw [q0]; rfl) (tgt := 224) (by rfl) ?_
        exact hlc_feed h0 (by omega) hL hN hA ht ih
      by_cases q1 : c.toInt = 1
      · refine hlx_tabIn (by rfl) (by omega) (by omega) (by rw [q1]; rfl) (tgt := 287) (by rfl) ?_
        exact hlc_back h0 (by omega) hL hN hA ht ih
      by_cases q2 : c.toInt = 2
      · refine hlx_tabIn (by rfl) (by omega) (by omega) (by rw [q2]; rfl) (tgt := 310) (by rfl) ?_
        exact hlc_read h0 (by omega) hL hN hA ht ih
      by_cases q3 : c.toInt = 3
      · refine hlx_tabIn (by rfl) (by omega) (by omega) (by rw [q3]; rfl) (tgt := 323) (by rfl) ?_
        exact hlc_place h0 (by omega) hL hN hA ht ih
      by_cases q4 : c.toInt = 4
      · refine hlx_tabIn (by rfl) (by omega) (by omega) (by rw [q4]; rfl) (tgt := 336) (by rfl) ?_
        exact hlc_house h0 (by omega) hL hN hA ht ih
      by_cases q5 : c.toInt = 5
      · refine hlx_tabIn (by rfl) (by omega) (by omega) (by rw [q5]; rfl) (tgt := 369) (by rfl) ?_
        exact hlc_passed h0 (by omega) hL hN hA ht ih
      by_cases q6 : c.toInt = 6
      · refine hlx_tabIn (by rfl) (by omega) (by omega) (by rw [q6]; rfl) (tgt := 402) (by rfl) ?_
        exact hlc_turn h0 (by omega) hL hN hA ht ih
      by_cases q7 : c.toInt = 7
      · refine hlx_tabIn (by rfl) (by omega) (by omega) (by rw [q7]; rfl) (tgt := 451) (by rfl) ?_
        exact hlc_send h0 (by omega) hL hN hA ht ih
      by_cases q8 : c.toInt = 8
      · refine hlx_tabIn (by rfl) (by omega) (by omega) (by rw [q8]; rfl) (tgt := 474) (by rfl) ?_
        exact hlc_carry h0 (by omega) hL hN hA ht ih
      by_cases q9 : c.toInt = 9
      · refine hlx_tabIn (by rfl) (by omega) (by omega) (by rw [q9]; rfl) (tgt := 507) (by rfl) ?_
        exact hlc_change h0 (by omega) hL hN hA ht ih
      by_cases q10 : c.toInt = 10
      · refine hlx_tabIn (by rfl) (by omega) (by omega) (by rw [q10]; rfl) (tgt := 540) (by rfl) ?_
        exact hlc_hours h0 (by omega) hL hN hA ht ih
      by_cases q11 : c.toInt = 11
      · refine hlx_tabIn (by rfl) (by omega) (by omega) (by rw [q11]; rfl) (tgt := 563) (by rfl) ?_
        exact hlc_undo h0 (by omega) hL hN hA ht ih
      by_cases q12 : c.toInt = 12
      · refine hlx_tabIn (by rfl) (by omega) (by omega) (by rw [q12]; rfl) (tgt := 576) (by rfl) ?_
        exact hlc_comes h0 (by omega) hL hN hA ht ih
      by_cases q13 : c.toInt = 13
      · refine hlx_tabIn (by rfl) (by omega) (by omega) (by rw [q13]; rfl) (tgt := 609) (by rfl) ?_
        exact hlc_last h0 (by omega) hL hN hA ht ih
      by_cases q14 : c.toInt = 14
      · refine hlx_tabIn (by rfl) (by omega) (by omega) (by rw [q14]; rfl) (tgt := 632) (by rfl) ?_
        exact hlc_sendFor h0 (by omega) hL hN hA ht ih
      by_cases q15 : c.toInt = 15
      · refine hlx_tabIn (by rfl) (by omega) (by omega) (by rw [q15]; rfl) (tgt := 655) (by rfl) ?_
        exact hlc_apart h0 (by omega) hL hN hA ht ih
      by_cases q16 : c.toInt = 16
      · refine hlx_tabIn (by rfl) (by omega) (by omega) (by rw [q16]; rfl) (tgt := 678) (by rfl) ?_
        exact hlc_code h0 (by omega) hL hN hA ht ih
      by_cases q17 : c.toInt = 17
      · refine hlx_tabIn (by rfl) (by omega) (by omega) (by rw [q17]; rfl) (tgt := 721) (by rfl) ?_
        exact hlc_lost h0 (by omega) hL hN hA ht ih
      by_cases q18 : c.toInt = 18
      · refine hlx_tabIn (by rfl) (by omega) (by omega) (by rw [q18]; rfl) (tgt := 744) (by rfl) ?_
        exact hlc_between h0 (by omega) hL hN hA ht ih
      by_cases q19 : c.toInt = 19
      · refine hlx_tabIn (by rfl) (by omega) (by omega) (by rw [q19]; rfl) (tgt := 787) (by rfl) ?_
        exact hlc_widest h0 (by omega) hL hN hA ht ih
      by_cases q20 : c.toInt = 20
      · refine hlx_tabIn (by rfl) (by omega) (by omega) (by rw [q20]; rfl) (tgt := 820) (by rfl) ?_
        exact hlc_same h0 (by omega) hL hN hA ht ih
      by_cases q21 : c.toInt = 21
      · refine hlx_tabIn (by rfl) (by omega) (by omega) (by rw [q21]; rfl) (tgt := 853) (by rfl) ?_
        exact hlc_itself h0 (by omega) hL hN hA ht ih
      by_cases q22 : c.toInt = 22
      · refine hlx_tabIn (by rfl) (by omega) (by omega) (by rw [q22]; rfl) (tgt := 876) (by rfl) ?_
        exact hlc_times h0 (by omega) hL hN hA ht ih
      by_cases q23 : c.toInt = 23
      · refine hlx_tabIn (by rfl) (by omega) (by omega) (by rw [q23]; rfl) (tgt := 909) (by rfl) ?_
        exact hlc_bestHour h0 (by omega) hL hN hA ht ih
      by_cases q24 : c.toInt = 24
      · refine hlx_tabIn (by rfl) (by omega) (by omega) (by rw [q24]; rfl) (tgt := 942) (by rfl) ?_
        exact hlc_breakAt h0 (by omega) hL hN hA ht ih
      by_cases q25 : c.toInt = 25
      · refine hlx_tabIn (by rfl) (by omega) (by omega) (by rw [q25]; rfl) (tgt := 965) (by rfl) ?_
        exact hlc_loudest h0 (by omega) hL hN hA ht ih
      by_cases q26 : c.toInt = 26
      · refine hlx_tabIn (by rfl) (by omega) (by omega) (by rw [q26]; rfl) (tgt := 998) (by rfl) ?_
        exact hlc_warm h0 (by omega) hL hN hA ht ih
      by_cases q27 : c.toInt = 27
      · refine hlx_tabIn (by rfl) (by omega) (by omega) (by rw [q27]; rfl) (tgt := 1021) (by rfl) ?_
        exact hlc_lives h0 (by omega) hL hN hA ht ih
      by_cases q28 : c.toInt = 28
      · refine hlx_tabIn (by rfl) (by omega) (by omega) (by rw [q28]; rfl) (tgt := 1044) (by rfl) ?_
        exact hlc_warmth h0 (by omega) hL hN hA ht ih
      by_cases q29 : c.toInt = 29
      · refine hlx_tabIn (by rfl) (by omega) (by omega) (by rw [q29]; rfl) (tgt := 1067) (by rfl) ?_
        exact hlc_then h0 (by omega) hL hN hA ht ih
      by_cases q30 : c.toInt = 30
      · refine hlx_tabIn (by rfl) (by omega) (by omega) (by rw [q30]; rfl) (tgt := 1110) (by rfl) ?_
        exact hlc_quiet h0 (by omega) hL hN hA ht ih
      by_cases q31 : c.toInt = 31
      · refine hlx_tabIn (by rfl) (by omega) (by omega) (by rw [q31]; rfl) (tgt := 1143) (by rfl) ?_
        exact hlc_mourn h0 (by omega) hL hN hA ht ih
      by_cases q32 : c.toInt = 32
      · refine hlx_tabIn (by rfl) (by omega) (by omega) (by rw [q32]; rfl) (tgt := 1166) (by rfl) ?_
        exact hlc_carryBest h0 (by omega) hL hN hA ht ih
      by_cases q33 : c.toInt = 33
      · refine hlx_tabIn (by rfl) (by omega) (by omega) (by rw [q33]; rfl) (tgt := 1189) (by rfl) ?_
        exact hlc_needs h0 (by omega) hL hN hA ht ih
      by_cases q34 : c.toInt = 34
      · refine hlx_tabIn (by rfl) (by omega) (by omega) (by rw [q34]; rfl) (tgt := 1212) (by rfl) ?_
        exact hlc_changeBest h0 (by omega) hL hN hA ht ih
      by_cases q35 : c.toInt = 35
      · refine hlx_tabIn (by rfl) (by omega) (by omega) (by rw [q35]; rfl) (tgt := 1235) (by rfl) ?_
        exact hlc_off h0 (by omega) hL hN hA ht ih
      by_cases q36 : c.toInt = 36
      · refine hlx_tabIn (by rfl) (by omega) (by omega) (by rw [q36]; rfl) (tgt := 1258) (by rfl) ?_
        exact hlc_year h0 (by omega) hL hN hA ht ih
      by_cases q37 : c.toInt = 37
      · refine hlx_tabIn (by rfl) (by omega) (by omega) (by rw [q37]; rfl) (tgt := 1301) (by rfl) ?_
        exact hlc_tell h0 (by omega) hL hN hA ht ih
      by_cases q38 : c.toInt = 38
      · refine hlx_tabIn (by rfl) (by omega) (by omega) (by rw [q38]; rfl) (tgt := 1334) (by rfl) ?_
        exact hlc_forget h0 (by omega) hL hN hA ht ih
      by_cases q39 : c.toInt = 39
      · refine hlx_tabIn (by rfl) (by omega) (by omega) (by rw [q39]; rfl) (tgt := 1347) (by rfl) ?_
        exact hlc_sent h0 (by omega) hL hN hA ht ih
      by_cases q40 : c.toInt = 40
      · refine hlx_tabIn (by rfl) (by omega) (by omega) (by rw [q40]; rfl) (tgt := 1380) (by rfl) ?_
        exact hlc_listen h0 (by omega) hL hN hA ht ih
      by_cases q41 : c.toInt = 41
      · refine hlx_tabIn (by rfl) (by omega) (by omega) (by rw [q41]; rfl) (tgt := 1403) (by rfl) ?_
        exact hlc_hold h0 (by omega) hL hN hA ht ih
      by_cases q42 : c.toInt = 42
      · refine hlx_tabIn (by rfl) (by omega) (by omega) (by rw [q42]; rfl) (tgt := 1426) (by rfl) ?_
        exact hlc_restore h0 (by omega) hL hN hA ht ih
      by_cases q43 : c.toInt = 43
      · refine hlx_tabIn (by rfl) (by omega) (by omega) (by rw [q43]; rfl) (tgt := 1449) (by rfl) ?_
        exact hlc_count h0 (by omega) hL hN hA ht ih
      refine hlx_tabOut (by rfl) (by omega) (tgt := 1472) (by rfl) ?_
      exact ih A N hA ht (by omega)
theorem hlaw_all {L : Nat} {xs : Nat → Int32} (hL0 : ¬ L = 0) (hL : L ≤ 3072) : hlx (L, hlS xs) 26 18 [.ref 0, .ref 1, .ref 368, .int (Int32.ofNat 0)] [] hy_A := by
  have k0 := hk_0
  exact hlaw_loop hL0 hL (L + 7) 0 (Int32.ofNat 0) hy_A (by omega) (by omega) (by omega) hy_J hy_t (by omega)
