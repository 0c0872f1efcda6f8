theorem hY74q21 {d : Nat} {N : Int} {A : hs_A} (hA : hJ 0 N (N + 72) A A) (h3 : A.2.2.2 0 3 = 12) (h4 : A.2.2.2 0 4 = 3) (hp : hPg A 5)  {P : Option Value → hs_A → Prop} (hP : ∀ (r : Option Value) (A' : hs_A), (hJ 0 (N + 72) (N + 144) A' A' ∧ r = none ∧ (A'.1 0 1 = A.1 0 1 ∧ A'.1 367 2 = A.1 367 2)) → P r A') : hxa (d + 1) none hm_t74 0 [.ref 1, .retAddr 0] [] A P := by
  obtain ⟨T0, hT0, -, eT0⟩ := hA.T
  refine hxa_aload_n (by rfl) rfl ?_
  refine hxj_getT (by rfl) (by rfl) (by rfl) h3 ?_
  refine hxa_astore_n (by rfl) rfl ?_
  refine hxa_aload_n (by rfl) rfl ?_
  refine hxa_aload_n (by rfl) rfl ?_
  refine hxj_getT (by rfl) (by rfl) (by rfl) h4 ?_
  refine hxa_putR (i := 0) (by rfl) (by rfl) (by rfl) (by rfl) ?_
  refine hxa_aload_n (by rfl) rfl ?_
  refine hxa_aload_n (by rfl) rfl ?_
  refine hxa_putR (i := 0) (by rfl) (by rfl) (by rfl) (by rfl) ?_
  have hsw := hJ.swap1 hA h3 h4 hp
  obtain ⟨W5, eW5⟩ : ∃ W : hs_A, W = (A.1, A.2.1, A.2.2.1, hs_upN (hs_upN A.2.2.2 0 3 3) 0 4 12) := ⟨_, rfl⟩
  rw [← eW5] at hsw
  have w03 : W5.2.2.2 0 3 = 3 := by rw [eW5]; simp [hs_upN]
  have w1 : W5.1 = A.1 := by rw [eW5]
  show hxa _ _ _ _ _ _ (A.1, A.2.1, A.2.2.1, hs_upN (hs_upN A.2.2.2 0 3 3) 0 4 12) _
  rw [← eW5]
  obtain ⟨T5, hT5, eT5⟩ : ∃ T, hTT T ∧ W5.2.2.2 0 3 = T + 1 := ⟨2, Or.inl rfl, w03⟩
  refine hxa_aload_n (by rfl) rfl ?_
  refine hxa_get (v := .ref 27) (by rfl) (by rfl) (by rfl) rfl ?_
  refine hxa_aload_n (by rfl) rfl ?_
  refine hxj_getT (by rfl) (by rfl) (by rfl) eT5 ?_
  refine hxa_call0 (by rfl) (by rfl) (by rfl) (by rfl) (by rfl) (by rfl) (hX16 (d := d + 0) hsw hL26 hT5 eT5) ?_
  rintro _ A1 ⟨hA1, rfl⟩
  refine hxa_aload_n (by rfl) rfl ?_
  refine hxa_get (v := .ref 41) (by rfl) (by rfl) (by rfl) rfl ?_
  refine hxa_iconst (by rfl) rfl ?_
  refine hxj_putI (by rfl) (by rfl) (by rfl) (by rfl) hA1 (hbok (by rfl) hk_0 (by omega) (by omega)) (by rfl) (by rfl) (fun A2 hA2 eA2 fA2 => ?_)
  refine hxa_aload_n (by rfl) rfl ?_
  refine hxa_get (v := .ref 341) (by rfl) (by rfl) (by rfl) rfl ?_
  refine hxa_iconst (by rfl) rfl ?_
  refine hxj_putI (by rfl) (by rfl) (by rfl) (by rfl) hA2 (hbok (by rfl) hk_0 (by omega) (by omega)) (by rfl) (by rfl) (fun A3 hA3 eA3 fA3 => ?_)
  refine hxa_aload_n (by rfl) rfl ?_
  refine hxa_iconst (by rfl) rfl ?_
  refine hxj_putI (by rfl) (by rfl) (by rfl) (by rfl) hA3 (hbokN (by rfl)) (by rfl) (by rfl) (fun A4 hA4 eA4 fA4 => ?_)
  refine hxa_aload_n (by rfl) rfl ?_
  refine hxa_get (v := .ref 329) (by rfl) (by rfl) (by rfl) rfl ?_
  refine hxa_iconst (by rfl) rfl ?_
  refine hxj_putI (by rfl) (by rfl) (by rfl) (by rfl) hA4 (hbok (by rfl) hk_0 (by omega) (by omega)) (by rfl) (by rfl) (fun A5 hA5 eA5 fA5 => ?_)
  exact hxa_return (by rfl) rfl (hP _ _ ⟨(hJ.mono (hJ.self hA5) (by omega) (by omega)), rfl, ⟨(hA5.2.2.1.1 0 1 (by rfl)).trans (congrFun (congrFun w1 0) 1), (hA5.2.2.1.1 367 2 (by rfl)).trans (congrFun (congrFun w1 367) 2)⟩⟩)
theorem hX74q21 {d : Nat} {N : Int} {A : hs_A} (hA : hJ 0 N (N + 72) A A) (h3 : A.2.2.2 0 3 = 12) (h4 : A.2.2.2 0 4 = 3) (hp : hPg A 5)  : hxC (d + 2) 74 hm_m74 [.ref 1] A (fun r A' => hJ 0 (N + 72) (N + 144) A' A' ∧ r = none ∧ (A'.1 0 1 = A.1 0 1 ∧ A'.1 367 2 = A.1 367 2)) := hxC.of (by rfl) (hY74q21 hA h3 h4 hp (fun r A' h => h))
theorem hY74q22 {d : Nat} {N : Int} {A : hs_A} (hA : hJ 0 N (N + 72) A A) (h3 : A.2.2.2 0 3 = 3) (h4 : A.2.2.2 0 4 = 12) (hp : hPg A 14)  {P : Option Value → hs_A → Prop} (hP : ∀ (r : Option Value) (A' : hs_A), (hJ 0 (N + 72) (N + 144) A' A' ∧ r = none ∧ (A'.1 0 1 = A.1 0 1 ∧ A'.1 367 2 = A.1 367 2)) → P r A') : hxa (d + 1) none hm_t74 0 [.ref 1, .retAddr 0] [] A P := by
  obtain ⟨T0, hT0, -, eT0⟩ := hA.T
  refine hxa_aload_n (by rfl) rfl ?_
  refine hxj_getT (by rfl) (by rfl) (by rfl) h3 ?_
  refine hxa_astore_n (by rfl) rfl ?_
  refine hxa_aload_n (by rfl) rfl ?_
  refine hxa_aload_n (by rfl) rfl ?_
  refine hxj_getT (by rfl) (by rfl) (by rfl) h4 ?_
  refine hxa_putR (i := 0) (by rfl) (by rfl) (by rfl) (by rfl) ?_
  refine hxa_aload_n (by rfl) rfl ?_
  refine hxa_aload_n (by rfl) rfl ?_
  refine hxa_putR (i := 0) (by rfl) (by rfl) (by rfl) (by rfl) ?_
  have hsw := hJ.swap2 hA h3 h4 hp
  obtain ⟨W5, eW5⟩ : ∃ W : hs_A, W = (A.1, A.2.1, A.2.2.1, hs_upN (hs_upN A.2.2.2 0 3 12) 0 4 3) := ⟨_, rfl⟩
  rw [← eW5] at hsw
  have w03 : W5.2.2.2 0 3 = 12 := by rw [eW5]; simp [hs_upN]
  have w1 : W5.1 = A.1 := by rw [eW5]
  show hxa _ _ _ _ _ _ (A.1, A.2.1, A.2.2.1, hs_upN (hs_upN A.2.2.2 0 3 12) 0 4 3) _
  rw [← eW5]
  obtain ⟨T5, hT5, eT5⟩ : ∃ T, hTT T ∧ W5.2.2.2 0 3 = T + 1 := ⟨11, Or.inr rfl, w03⟩
  refine hxa_aload_n (by rfl) rfl ?_
  refine hxa_get (v := .ref 27) (by rfl) (by rfl) (by rfl) rfl ?_
  refine hxa_aload_n (by rfl) rfl ?_
  refine hxj_getT (by rfl) (by rfl) (by rfl) eT5 ?_
  refine hxa_call0 (by rfl) (by rfl) (by rfl) (by rfl) (by rfl) (by rfl) (hX16 (d := d + 0) hsw hL26 hT5 eT5) ?_
  rintro _ A1 ⟨hA1, rfl⟩
  refine hxa_aload_n (by rfl) rfl ?_
  refine hxa_get (v := .ref 41) (by rfl) (by rfl) (by rfl) rfl ?_
  refine hxa_iconst (by rfl) rfl ?_
  refine hxj_putI (by rfl) (by rfl) (by rfl) (by rfl) hA1 (hbok (by rfl) hk_0 (by omega) (by omega)) (by rfl) (by rfl) (fun A2 hA2 eA2 fA2 => ?_)
  refine hxa_aload_n (by rfl) rfl ?_
  refine hxa_get (v := .ref 341) (by rfl) (by rfl) (by rfl) rfl ?_
  refine hxa_iconst (by rfl) rfl ?_
  refine hxj_putI (by rfl) (by rfl) (by rfl) (by rfl) hA2 (hbok (by rfl) hk_0 (by omega) (by omega)) (by rfl) (by rfl) (fun A3 hA3 eA3 fA3 => ?_)
  refine hxa_aload_n (by rfl) rfl ?_
  refine hxa_iconst (by rfl) rfl ?_
  refine hxj_putI (by rfl) (by rfl) (by rfl) (by rfl) hA3 (hbokN (by rfl)) (by rfl) (by rfl) (fun A4 hA4 eA4 fA4 => ?_)
  refine hxa_aload_n (by rfl) rfl ?_
  refine hxa_get (v := .ref 329) (by rfl) (by rfl) (by rfl) rfl ?_
  refine hxa_iconst (by rfl) rfl ?_
  refine hxj_putI (by rfl) (by rfl) (by rfl) (by rfl) hA4 (hbok (by rfl) hk_0 (by omega) (by omega)) (by rfl) (by rfl) (fun A5 hA5 eA5 fA5 => ?_)
  exact hxa_return (by rfl) rfl (hP _ _ ⟨(hJ.mono (hJ.self hA5) (by omega) (by omega)), rfl, ⟨(hA5.2.2.1.1 0 1 (by rfl)).trans (congrFun (congrFun w1 0) 1), (hA5.2.2.1.1 367 2 (by rfl)).trans (congrFun (congrFun w1 367) 2)⟩⟩)
theorem hX74q22 {d : Nat} {N : Int} {A : hs_A} (hA : hJ 0 N (N + 72) A A) (h3 : A.2.2.2 0 3 = 3) (h4 : A.2.2.2 0 4 = 12) (hp : hPg A 14)  : hxC (d + 2) 74 hm_m74 [.ref 1] A (fun r A' => hJ 0 (N + 72) (N + 144) A' A' ∧ r = none ∧ (A'.1 0 1 = A.1 0 1 ∧ A'.1 367 2 = A.1 367 2)) := hxC.of (by rfl) (hY74q22 hA h3 h4 hp (fun r A' h => h))
theorem hY73q21 {d : Nat} {N : Int} {A : hs_A} (hA : hJ 0 N (N + 72) A A) (h3 : A.2.2.2 0 3 = 12) (h4 : A.2.2.2 0 4 = 3)  {P : Option Value → hs_A → Prop} (hP : ∀ (r : Option Value) (A' : hs_A), (hJ 0 (N + 72) (N + 144) A' A' ∧ ∃ z : Int32, r = some (.int z) ∧ ((A'.1 0 1).toInt = 0 ∧ A'.1 367 2 = A.1 367 2)) → P r A') : hxa (d + 25) (some (.int)) hm_t73 0 [.ref 1, .retAddr 0] [] A P := by
  refine hxa_aload_n (by rfl) rfl ?_
  refine hxa_get (v := .ref 21) (by rfl) (by rfl) (by rfl) rfl ?_
  refine hxa_aload_n (by rfl) rfl ?_
  refine hxj_getT (by rfl) (by rfl) (by rfl) h4 ?_
  refine hxa_aload_n (by rfl) rfl ?_
  refine hxa_get (v := .ref 2) (by rfl) (by rfl) (by rfl) rfl ?_
  refine hxa_aload_n (by rfl) rfl ?_
  refine hxj_getB (by rfl) (by rfl) (by rfl) hA (by rfl) (fun z1 ez1 fz1 gz1 => ?_)
  refine hxa_call0 (by rfl) (by rfl) (by rfl) (by rfl) (by rfl) (by rfl) (hX37q1 (d := d + 0) hA z1 (by omega) (by omega)) ?_
  rintro _ A2 ⟨hA2, z3, rfl, fz3⟩
  have hen := hJ.end1 hA2 h3 h4
  have h10 := hJ.to10 hen.1
  refine hxa_s1 (by rfl) (Or.inl ⟨_, rfl, rfl⟩) rfl ?_
  refine hxa_aload_n (by rfl) rfl ?_
  refine hxa_iconst (by rfl) rfl ?_
  refine hxj_putI (by rfl) (by rfl) (by rfl) (by rfl) h10 (hbok (by rfl) hk_0 (by omega) (by omega)) (by rfl) (by rfl) (fun A4 hA4 eA4 fA4 => ?_)
  refine hxa_aload_n (by rfl) rfl ?_
  refine hxa_aload_n (by rfl) rfl ?_
  refine hxa_get (v := .ref 21) (by rfl) (by rfl) (by rfl) rfl ?_
  refine hxj_getI (by rfl) (by rfl) (by rfl) (fun z5 ez5 => ?_)
  refine hxj_putI (by rfl) (by rfl) (by rfl) (by rfl) hA4 (hbokN (by rfl)) (by rfl) (by rfl) (fun A6 hA6 eA6 fA6 => ?_)
  refine hxa_iload_n (by rfl) rfl ?_
  refine hxj_zne (by rfl) rfl (fun q7 => ?_) (fun q7 => ?_)
  ·
    refine hxa_iload_n (by rfl) rfl ?_
    have he := hJ.end10 hA6
    exact hxa_ireturn (by rfl) rfl (hP _ _ ⟨(hJ.mono he.1 (by omega) (by omega)), _, rfl, ⟨by rw [(show A6.1 0 1 = (Int32.ofNat 0) from (hkF eA6 (by first | decide | omega) (hkS eA4)))]; decide, Eq.trans (hkF eA6 (by first | decide | omega) (hkF eA4 (by first | decide | omega) rfl)) hen.2.2.2⟩⟩)
  ·
    refine hxa_aload_n (by rfl) rfl ?_
    have he := hJ.end10 hA6
    have hpg : hPg A6 5 := fun j hj => by rw [hA6.2.2.1.2.1 5 (by rfl) j]; exact (fz3 (by omega)) j hj
    refine hxa_call0 (by rfl) (by rfl) (by rfl) (by rfl) (by rfl) (by rfl) (hX74q21 (d := d + 23) he.1 (he.2.1.trans hen.2.1) (he.2.2.trans hen.2.2.1) hpg) ?_
    rintro _ A8 ⟨hA8, rfl, fA8⟩
    refine hxa_iload_n (by rfl) rfl ?_
    exact hxa_ireturn (by rfl) rfl (hP _ _ ⟨(hJ.mono hA8 (by omega) (by omega)), _, rfl, ⟨by rw [(show A8.1 0 1 = (Int32.ofNat 0) from ((fA8.1).trans (hkF eA6 (by first | decide | omega) (hkS eA4))))]; decide, ((fA8.2).trans (Eq.trans (hkF eA6 (by first | decide | omega) (hkF eA4 (by first | decide | omega) rfl)) hen.2.2.2))⟩⟩)
theorem hX73q21 {d : Nat} {N : Int} {A : hs_A} (hA : hJ 0 N (N + 72) A A) (h3 : A.2.2.2 0 3 = 12) (h4 : A.2.2.2 0 4 = 3)  : hxC (d + 26) 73 hm_m73 [.ref 1] A (fun r A' => hJ 0 (N + 72) (N + 144) A' A' ∧ ∃ z : Int32, r = some (.int z) ∧ ((A'.1 0 1).toInt = 0 ∧ A'.1 367 2 = A.1 367 2)) := hxC.of (by rfl) (hY73q21 hA h3 h4 (fun r A' h => h))
theorem hY73q22 {d : Nat} {N : Int} {A : hs_A} (hA : hJ 0 N (N + 72) A A) (h3 : A.2.2.2 0 3 = 3) (h4 : A.2.2.2 0 4 = 12)  {P : Option Value → hs_A → Prop} (hP : ∀ (r : Option Value) (A' : hs_A), (hJ 0 (N + 72) (N + 144) A' A' ∧ ∃ z : Int32, r = some (.int z) ∧ ((A'.1 0 1).toInt = 0 ∧ A'.1 367 2 = A.1 367 2)) → P r A') : hxa (d + 25) (some (.int)) hm_t73 0 [.ref 1, .retAddr 0] [] A P := by
  refine hxa_aload_n (by rfl) rfl ?_
  refine hxa_get (v := .ref 21) (by rfl) (by rfl) (by rfl) rfl ?_
  refine hxa_aload_n (by rfl) rfl ?_
  refine hxj_getT (by rfl) (by rfl) (by rfl) h4 ?_
  refine hxa_aload_n (by rfl) rfl ?_
  refine hxa_get (v := .ref 2) (by rfl) (by rfl) (by rfl) rfl ?_
  refine hxa_aload_n (by rfl) rfl ?_
  refine hxj_getB (by rfl) (by rfl) (by rfl) hA (by rfl) (fun z1 ez1 fz1 gz1 => ?_)
  refine hxa_call0 (by rfl) (by rfl) (by rfl) (by rfl) (by rfl) (by rfl) (hX37q2 (d := d + 0) hA z1 (by omega) (by omega)) ?_
  rintro _ A2 ⟨hA2, z3, rfl, fz3⟩
  have hen := hJ.end2 hA2 h3 h4
  have h10 := hJ.to10 hen.1
  refine hxa_s1 (by rfl) (Or.inl ⟨_, rfl, rfl⟩) rfl ?_
  refine hxa_aload_n (by rfl) rfl ?_
  refine hxa_iconst (by rfl) rfl ?_
  refine hxj_putI (by rfl) (by rfl) (by rfl) (by rfl) h10 (hbok (by rfl) hk_0 (by omega) (by omega)) (by rfl) (by rfl) (fun A4 hA4 eA4 fA4 => ?_)
  refine hxa_aload_n (by rfl) rfl ?_
  refine hxa_aload_n (by rfl) rfl ?_
  refine hxa_get (v := .ref 21) (by rfl) (by rfl) (by rfl) rfl ?_
  refine hxj_getI (by rfl) (by rfl) (by rfl) (fun z5 ez5 => ?_)
  refine hxj_putI (by rfl) (by rfl) (by rfl) (by rfl) hA4 (hbokN (by rfl)) (by rfl) (by rfl) (fun A6 hA6 eA6 fA6 => ?_)
  refine hxa_iload_n (by rfl) rfl ?_
  refine hxj_zne (by rfl) rfl (fun q7 => ?_) (fun q7 => ?_)
  ·
    refine hxa_iload_n (by rfl) rfl ?_
    have he := hJ.end10 hA6
    exact hxa_ireturn (by rfl) rfl (hP _ _ ⟨(hJ.mono he.1 (by omega) (by omega)), _, rfl, ⟨by rw [(show A6.1 0 1 = (Int32.ofNat 0) from (hkF eA6 (by first | decide | omega) (hkS eA4)))]; decide, Eq.trans (hkF eA6 (by first | decide | omega) (hkF eA4 (by first | decide | omega) rfl)) hen.2.2.2⟩⟩)
  ·
    refine hxa_aload_n (by rfl) rfl ?_
    have he := hJ.end10 hA6
    have hpg : hPg A6 14 := fun j hj => by rw [hA6.2.2.1.2.1 14 (by rfl) j]; exact (fz3 (by omega)) j hj
    refine hxa_call0 (by rfl) (by rfl) (by rfl) (by rfl) (by rfl) (by rfl) (hX74q22 (d := d + 23) he.1 (he.2.1.trans hen.2.1) (he.2.2.trans hen.2.2.1) hpg) ?_
    rintro _ A8 ⟨hA8, rfl, fA8⟩
    refine hxa_iload_n (by rfl) rfl ?_
    exact hxa_ireturn (by rfl) rfl (hP _ _ ⟨(hJ.mono hA8 (by omega) (by omega)), _, rfl, ⟨by rw [(show A8.1 0 1 = (Int32.ofNat 0) from ((fA8.1).trans (hkF eA6 (by first | decide | omega) (hkS eA4))))]; decide, ((fA8.2).trans (Eq.trans (hkF eA6 (by first | decide | omega) (hkF eA4 (by first | decide | omega) rfl)) hen.2.2.2))⟩⟩)
theorem hX73q22 {d : Nat} {N : Int} {A : hs_A} (hA : hJ 0 N (N + 72) A A) (h3 : A.2.2.2 0 3 = 3) (h4 : A.2.2.2 0 4 = 12)  : hxC (d + 26) 73 hm_m73 [.ref 1] A (fun r A' => hJ 0 (N + 72) (N + 144) A' A' ∧ ∃ z : Int32, r = some (.int z) ∧ ((A'.1 0 1).toInt = 0 ∧ A'.1 367 2 = A.1 367 2)) := hxC.of (by rfl) (hY73q22 hA h3 h4 (fun r A' h => h))
theorem hY150q4_1 {d : Nat} {N : Int} {A : hs_A} (hA : hJ 0 N (N + 72) A A) (hN : N ≤ 900000) (hl : (A.1 367 18).toInt = 1)  {P : Option Value → hs_A → Prop} (hP : ∀ (r : Option Value) (A' : hs_A), (hJ 0 (N + 72) (N + 144) A' A' ∧ ∃ z : Int32, r = some (.int z) ∧ ((A'.1 367 2).toInt = 0 ∧ A'.1 0 1 = A.1 0 1)) → P r A') : hxa (d + 7) (some (.int)) hm_t150 0 [.ref 368, .retAddr 0] [] A P := by
  have k0 := hk_0
  have hA3 := hJ.to3 hA
  have L10 : ∀ (m10 : Nat) (x10_1 : Int32) (Ac10 : hs_A) (hAc10 : hJ 3 N (N + 72) A Ac10) (bx10_1 : 0 ≤ x10_1.toInt) (cx10_1 : x10_1.toInt ≤ 2000) (hm10 : 2000 - x10_1.toInt < (m10 : Int)), hxa (d + 7) (some (.int)) hm_t150 10 [.ref 368, .int x10_1] [] Ac10 P := by
    intro m10
    induction m10 with
    | zero => intro x10_1 Ac10 hAc10 bx10_1 cx10_1 hm10;  exact False.elim (by omega)
    | succ m10 ih10 =>
      intro x10_1 Ac10 hAc10 bx10_1 cx10_1 hm10
      refine hxa_iload_n (by rfl) rfl ?_
      refine hxa_aload_n (by rfl) rfl ?_
      refine hxj_getB (by rfl) (by rfl) (by rfl) hAc10 (by rfl) (fun z1 ez1 fz1 gz1 => ?_)
      refine hxj_cge (by rfl) rfl rfl (fun q2 => ?_) (fun q2 => ?_)
      ·
        refine hxa_aload_n (by rfl) rfl ?_
        refine hxa_iconst (by rfl) rfl ?_
        refine hxj_putI (by rfl) (by rfl) (by rfl) (by rfl) hAc10 (hbok (by rfl) hk_0 (by omega) (by omega)) (by rfl) (by rfl) (fun A3 hA3 eA3 fA3 => ?_)
        have he := hJ.end3 hA3
        exact hY150q4 (d := d) he.1 hN (by rw [he.2.2]; exact hl) (by rw [(show A3.1 367 2 = (Int32.ofNat 0) from (hkS eA3))]; decide) (.int x10_1) (fun r A2 h => hP r A2 ⟨h.1, h.2.imp (fun z w => ⟨w.1, w.2.1, w.2.2.trans he.2.1⟩)⟩)
      ·
        refine hxa_aload_n (by rfl) rfl ?_
        refine hxa_get (v := .ref 370) (by rfl) (by rfl) (by rfl) rfl ?_
        refine hxa_iload_n (by rfl) rfl ?_
        refine hxa_aload_n (by rfl) rfl ?_
        refine hxa_get (v := .ref 369) (by rfl) (by rfl) (by rfl) rfl ?_
        refine hxa_iload_n (by rfl) rfl ?_
        refine hxj_bald (by rfl) (by rfl) rfl (by omega) (by omega) (fun z4 ez4 => ?_)
        refine hxj_bast (by rfl) (by rfl) rfl (by omega) (by omega) hAc10 (by rfl) (by rfl) (by rfl) (fun A5 hA5 eA5 fA5 gA5 => ?_)
        refine hxj_iinc (by rfl) rfl rfl hk_1 (by omega) (by omega) (fun _ => rfl) (fun z6 ez6 => ?_)
        refine hxa_goto (by rfl) ?_
        exact ih10 z6 A5 hA5 (by omega) (by omega) (by omega)
  refine hxa_aload_n (by rfl) rfl ?_
  refine hxa_aload_n (by rfl) rfl ?_
  refine hxj_getB (by rfl) (by rfl) (by rfl) hA3 (by rfl) (fun z7 ez7 fz7 gz7 => ?_)
  refine hxj_putI (by rfl) (by rfl) (by rfl) (by rfl) hA3 (hbok (by rfl) rfl (by omega) (by omega)) (by rfl) (by rfl) (fun A8 hA8 eA8 fA8 => ?_)
  refine hxa_iconst (by rfl) rfl ?_
  refine hxa_s1 (by rfl) (Or.inl ⟨_, rfl, rfl⟩) rfl ?_
  exact L10 (Int.toNat (2000 - 0) + 1) (Int32.ofNat 0) A8 hA8 (by omega) (by omega) (by omega)
theorem hX150q4_1 {d : Nat} {N : Int} {A : hs_A} (hA : hJ 0 N (N + 72) A A) (hN : N ≤ 900000) (hl : (A.1 367 18).toInt = 1)  : hxC (d + 8) 150 hm_m150 [.ref 368] A (fun r A' => hJ 0 (N + 72) (N + 144) A' A' ∧ ∃ z : Int32, r = some (.int z) ∧ ((A'.1 367 2).toInt = 0 ∧ A'.1 0 1 = A.1 0 1)) := hxC.of (by rfl) (hY150q4_1 hA hN hl (fun r A' h => h))
theorem hY150q5_1 {d : Nat} {N : Int} {A : hs_A} (hA : hJ 0 N (N + 72) A A) (hN : N ≤ 900000) (hl : (A.1 367 18).toInt = 0)  {P : Option Value → hs_A → Prop} (hP : ∀ (r : Option Value) (A' : hs_A), (hJ 0 (N + 72) (N + 144) A' A' ∧ ∃ z : Int32, r = some (.int z) ∧ ((A'.1 367 2).toInt = 0 ∧ A'.1 0 1 = A.1 0 1)) → P r A') : hxa (d + 7) (some (.int)) hm_t150 0 [.ref 368, .retAddr 0] [] A P := by
  have k0 := hk_0
  have hA3 := hJ.to3 hA
  have L10 : ∀ (m10 : Nat) (x10_1 : Int32) (Ac10 : hs_A) (hAc10 : hJ 3 N (N + 72) A Ac10) (bx10_1 : 0 ≤ x10_1.toInt) (cx10_1 : x10_1.toInt ≤ 2000) (hm10 : 2000 - x10_1.toInt < (m10 : Int)), hxa (d + 7) (some (.int)) hm_t150 10 [.ref 368, .int x10_1] [] Ac10 P := by
    intro m10
    induction m10 with
    | zero => intro x10_1 Ac10 hAc10 bx10_1 cx10_1 hm10;  exact False.elim (by omega)
    | succ m10 ih10 =>
      intro x10_1 Ac10 hAc10 bx10_1 cx10_1 hm10
      refine hxa_iload_n (by rfl) rfl ?_
      refine hxa_aload_n (by rfl) rfl ?_
      refine hxj_getB (by rfl) (by rfl) (by rfl) hAc10 (by rfl) (fun z1 ez1 fz1 gz1 => ?_)
      refine hxj_cge (by rfl) rfl rfl (fun q2 => ?_) (fun q2 => ?_)
      ·
        refine hxa_aload_n (by rfl) rfl ?_
        refine hxa_iconst (by rfl) rfl ?_
        refine hxj_putI (by rfl) (by rfl) (by rfl) (by rfl) hAc10 (hbok (by rfl) hk_0 (by omega) (by omega)) (by rfl) (by rfl) (fun A3 hA3 eA3 fA3 => ?_)
        have he := hJ.end3 hA3
        exact hY150q5 (d := d) he.1 hN (by rw [he.2.2]; exact hl) (by rw [(show A3.1 367 2 = (Int32.ofNat 0) from (hkS eA3))]; decide) (.int x10_1) (fun r A2 h => hP r A2 ⟨h.1, h.2.imp (fun z w => ⟨w.1, w.2.1, w.2.2.trans he.2.1⟩)⟩)
      ·
        refine hxa_aload_n (by rfl) rfl ?_
        refine hxa_get (v := .ref 370) (by rfl) (by rfl) (by rfl) rfl ?_
        refine hxa_iload_n (by rfl) rfl ?_
        refine hxa_aload_n (by rfl) rfl ?_
        refine hxa_get (v := .ref 369) (by rfl) (by rfl) (by rfl) rfl ?_
        refine hxa_iload_n (by rfl) rfl ?_
        refine hxj_bald (by rfl) (by rfl) rfl (by omega) (by omega) (fun z4 ez4 => ?_)
        refine hxj_bast (by rfl) (by rfl) rfl (by omega) (by omega) hAc10 (by rfl) (by rfl) (by rfl) (fun A5 hA5 eA5 fA5 gA5 => ?_)
        refine hxj_iinc (by rfl) rfl rfl hk_1 (by omega) (by omega) (fun _ => rfl) (fun z6 ez6 => ?_)
        refine hxa_goto (by rfl) ?_
        exact ih10 z6 A5 hA5 (by omega) (by omega) (by omega)
  refine hxa_aload_n (by rfl) rfl ?_
  refine hxa_aload_n (by rfl) rfl ?_
  refine hxj_getB (by rfl) (by rfl) (by rfl) hA3 (by rfl) (fun z7 ez7 fz7 gz7 => ?_)
  refine hxj_putI (by rfl) (by rfl) (by rfl) (by rfl) hA3 (hbok (by rfl) rfl (by omega) (by omega)) (by rfl) (by rfl) (fun A8 hA8 eA8 fA8 => ?_)
  refine hxa_iconst (by rfl) rfl ?_
  refine hxa_s1 (by rfl) (Or.inl ⟨_, rfl, rfl⟩) rfl ?_
  exact L10 (Int.toNat (2000 - 0) + 1) (Int32.ofNat 0) A8 hA8 (by omega) (by omega) (by omega)
theorem hX150q5_1 {d : Nat} {N : Int} {A : hs_A} (hA : hJ 0 N (N + 72) A A) (hN : N ≤ 900000) (hl : (A.1 367 18).toInt = 0)  : hxC (d + 8) 150 hm_m150 [.ref 368] A (fun r A' => hJ 0 (N + 72) (N + 144) A' A' ∧ ∃ z : Int32, r = some (.int z) ∧ ((A'.1 367 2).toInt = 0 ∧ A'.1 0 1 = A.1 0 1)) := hxC.of (by rfl) (hY150q5_1 hA hN hl (fun r A' h => h))
