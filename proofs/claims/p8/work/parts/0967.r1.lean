theorem hY74q31 {d : Nat} {N : Int} {A : hs_A} (hA : hJ 0 N (N + 72) A A) (h3 : A.2.2.2 0 3 = 12) (h4 : A.2.2.2 0 4 = 3) (hp : hPg A 5)  {P : Option Value → hs_A → Prop} (hP : ∀ (r : Option Value) (A' : hs_A), (hJ 0 (N + 72) (N + 144) A' A' ∧ r = none ∧ (A'.1 0 1 = A.1 0 1 ∧ A'.1 367 2 = A.1 367 2 ∧ A'.1 0 2 = A.1 0 2 ∧ A'.2.2.1 = A.2.2.1 ∧ (∀ j, A'.2.1 368 j = A.2.1 368 j))) → P r A') : hxa (d + 1) none hm_t74 0 [.ref 1, .retAddr 0] [] A P := by
  obtain ⟨T0, hT0, -, eT0⟩ := hA.T
  refine hxa_aload_n (by rfl) rfl ?_
  refine hxj_getT (by rfl) (by rfl) (by rfl) h3 ?_
  refine hxa_astore_n (by rfl) rfl ?_
  refine hxa_aload_n (by rfl) rfl ?_
  refine hxa_aload_n (by rfl) rfl ?_
  refine hxj_getT (by rfl) (by rfl) (by rfl) h4 ?_
  refine hxa_putR (i := 0) (by rfl) (by rfl) (by rfl) (by rfl) ?_
  refine hxa_aload_n (by rfl) rfl ?_
  refine hxa_aload_n (by rfl) rfl ?_
  refine hxa_putR (i := 0) (by rfl) (by rfl) (by rfl) (by rfl) ?_
  have hsw := hJ.swap1 hA h3 h4 hp
  obtain ⟨W5, eW5⟩ : ∃ W : hs_A, W = (A.1, A.2.1, A.2.2.1, hs_upN (hs_upN A.2.2.2 0 3 3) 0 4 12) := ⟨_, rfl⟩
  rw [← eW5] at hsw
  have w03 : W5.2.2.2 0 3 = 3 := by rw [eW5]; simp [hs_upN]
  have w1 : W5.1 = A.1 := by rw [eW5]
  show hxa _ _ _ _ _ _ (A.1, A.2.1, A.2.2.1, hs_upN (hs_upN A.2.2.2 0 3 3) 0 4 12) _
  rw [← eW5]
  obtain ⟨T5, hT5, eT5⟩ : ∃ T, hTT T ∧ W5.2.2.2 0 3 = T + 1 := ⟨2, Or.inl rfl, w03⟩
  refine hxa_aload_n (by rfl) rfl ?_
  refine hxa_get (v := .ref 27) (by rfl) (by rfl) (by rfl) rfl ?_
  refine hxa_aload_n (by rfl) rfl ?_
  refine hxj_getT (by rfl) (by rfl) (by rfl) eT5 ?_
  refine hxa_call0 (by rfl) (by rfl) (by rfl) (by rfl) (by rfl) (by rfl) (hX16 (d := d + 0) hsw hL26 hT5 eT5) ?_
  rintro _ A1 ⟨hA1, rfl⟩
  refine hxa_aload_n (by rfl) rfl ?_
  refine hxa_get (v := .ref 41) (by rfl) (by rfl) (by rfl) rfl ?_
  refine hxa_iconst (by rfl) rfl ?_
  refine hxj_putI (by rfl) (by rfl) (by rfl) (by rfl) hA1 (hbok (by rfl) hk_0 (by omega) (by omega)) (by rfl) (by rfl) (fun A2 hA2 eA2 fA2 => ?_)
  refine hxa_aload_n (by rfl) rfl ?_
  refine hxa_get (v := .ref 341) (by rfl) (by rfl) (by rfl) rfl ?_
  refine hxa_iconst (by rfl) rfl ?_
  refine hxj_putI (by rfl) (by rfl) (by rfl) (by rfl) hA2 (hbok (by rfl) hk_0 (by omega) (by omega)) (by rfl) (by rfl) (fun A3 hA3 eA3 fA3 => ?_)
  refine hxa_aload_n (by rfl) rfl ?_
  refine hxa_iconst (by rfl) rfl ?_
  refine hxj_putI (by rfl) (by rfl) (by rfl) (by rfl) hA3 (hbokN (by rfl)) (by rfl) (by rfl) (fun A4 hA4 eA4 fA4 => ?_)
  refine hxa_aload_n (by rfl) rfl ?_
  refine hxa_get (v := .ref 329) (by rfl) (by rfl) (by rfl) rfl ?_
  refine hxa_iconst (by rfl) rfl ?_
  refine hxj_putI (by rfl) (by rfl) (by rfl) (by rfl) hA4 (hbok (by rfl) hk_0 (by omega) (by omega)) (by rfl) (by rfl) (fun A5 hA5 eA5 fA5 => ?_)
  exact hxa_return (by rfl) rfl (hP _ _ ⟨(hJ.mono (hJ.self hA5) (by omega) (by omega)), rfl, ⟨(hA5.2.2.1.1 0 1 (by rfl)).trans (congrFun (congrFun w1 0) 1), (hA5.2.2.1.1 367 2 (by rfl)).trans (congrFun (congrFun w1 367) 2), (hA5.2.2.1.1 0 2 (by rfl)).trans (congrFun (congrFun w1 0) 2), (hA5.2.2.1.2.2.1 rfl).trans (by rw [eW5]), fun j => (hA5.2.2.1.2.1 368 (by rfl) j).trans (by rw [eW5])⟩⟩)
theorem hX74q31 {d : Nat} {N : Int} {A : hs_A} (hA : hJ 0 N (N + 72) A A) (h3 : A.2.2.2 0 3 = 12) (h4 : A.2.2.2 0 4 = 3) (hp : hPg A 5)  : hxC (d + 2) 74 hm_m74 [.ref 1] A (fun r A' => hJ 0 (N + 72) (N + 144) A' A' ∧ r = none ∧ (A'.1 0 1 = A.1 0 1 ∧ A'.1 367 2 = A.1 367 2 ∧ A'.1 0 2 = A.1 0 2 ∧ A'.2.2.1 = A.2.2.1 ∧ (∀ j, A'.2.1 368 j = A.2.1 368 j))) := hxC.of (by rfl) (hY74q31 hA h3 h4 hp (fun r A' h => h))
theorem hY73q31 {d : Nat} {N : Int} {A : hs_A} (hA : hJ 0 N (N + 72) A A) (h3 : A.2.2.2 0 3 = 12) (h4 : A.2.2.2 0 4 = 3) {B : Nat → Int} {n : Nat} (hTp : hcTp B n A) (h1 : (A.1 0 1).toInt = (n : Int)) (hBr : ∀ i, i < n → -128 ≤ B i ∧ B i ≤ 127) (hU : hcU A)  {P : Option Value → hs_A → Prop} (hP : ∀ (r : Option Value) (A' : hs_A), (hJ 0 (N + 72) (N + 144) A' A' ∧ ∃ z : Int32, r = some (.int z) ∧ ((A'.1 0 1).toInt = 0 ∧ A'.1 367 2 = A.1 367 2 ∧ hq_res (ht_K B n) (ht_W B n) (fun u => (ht_S B n u : Int)) (ht_E B n) z.toInt (A'.1 0 2).toInt ∧ hcU A' ∧ (∀ j, A'.2.1 368 j = A.2.1 368 j))) → P r A') : hxa (d + 25) (some (.int)) hm_t73 0 [.ref 1, .retAddr 0] [] A P := by
  refine hxa_aload_n (by rfl) rfl ?_
  refine hxa_get (v := .ref 21) (by rfl) (by rfl) (by rfl) rfl ?_
  refine hxa_aload_n (by rfl) rfl ?_
  refine hxj_getT (by rfl) (by rfl) (by rfl) h4 ?_
  refine hxa_aload_n (by rfl) rfl ?_
  refine hxa_get (v := .ref 2) (by rfl) (by rfl) (by rfl) rfl ?_
  refine hxa_aload_n (by rfl) rfl ?_
  refine hxj_getB (by rfl) (by rfl) (by rfl) hA (by rfl) (fun z1 ez1 fz1 gz1 => ?_)
  have h1z : z1.toInt = (n : Int) := by rw [← ez1]; exact h1
  refine hxa_call0 (by rfl) (by rfl) (by rfl) (by rfl) (by rfl) (by rfl) (hxC.and (g := 0) (hX37q1 (d := d + 0) hA z1 (by omega) (by omega)) (fun g => hP37 (T := 2) (Or.inl rfl) z1 hTp h1z (by omega) (fun i hi => (hBr i hi).2) hU)) ?_
  rintro _ A2 ⟨⟨hA2, z3, rfl, fz3⟩, A2v, hvis, z3v, ez3v, RS, hU2⟩
  have ezz : z3v = z3 := by injection ez3v with e; injection e with e; exact e.symm
  rw [ezz] at RS
  have RS2 : hq_res (ht_K B n) (ht_W B n) (fun u => (ht_S B n u : Int)) (ht_E B n) z3.toInt (A2.1 20 6).toInt := by rw [← hvis.f (i := 20) (k := 6) (by rfl) (by rfl)]; exact RS
  have hU3 : hcU A2 := hvis.U hU2
  have hen := hJ.end1 hA2 h3 h4
  have h10 := hJ.to10 hen.1
  refine hxa_s1 (by rfl) (Or.inl ⟨_, rfl, rfl⟩) rfl ?_
  refine hxa_aload_n (by rfl) rfl ?_
  refine hxa_iconst (by rfl) rfl ?_
  refine hxj_putI (by rfl) (by rfl) (by rfl) (by rfl) h10 (hbok (by rfl) hk_0 (by omega) (by omega)) (by rfl) (by rfl) (fun A4 hA4 eA4 fA4 => ?_)
  refine hxa_aload_n (by rfl) rfl ?_
  refine hxa_aload_n (by rfl) rfl ?_
  refine hxa_get (v := .ref 21) (by rfl) (by rfl) (by rfl) rfl ?_
  refine hxj_getI (by rfl) (by rfl) (by rfl) (fun z5 ez5 => ?_)
  refine hxj_putI (by rfl) (by rfl) (by rfl) (by rfl) hA4 (hbokN (by rfl)) (by rfl) (by rfl) (fun A6 hA6 eA6 fA6 => ?_)
  refine hxa_iload_n (by rfl) rfl ?_
  refine hxj_zne (by rfl) rfl (fun q7 => ?_) (fun q7 => ?_)
  ·
    refine hxa_iload_n (by rfl) rfl ?_
    have he := hJ.end10 hA6
    exact hxa_ireturn (by rfl) rfl (hP _ _ ⟨(hJ.mono he.1 (by omega) (by omega)), _, rfl, ⟨by rw [(show A6.1 0 1 = (Int32.ofNat 0) from (hkF eA6 (by omega) (hkS eA4)))]; decide, Eq.trans (hkF eA6 (by omega) (hkF eA4 (by omega) rfl)) hen.2.2.2, by rw [show A6.1 0 2 = z5 from hkS eA6, ← ez5, hkF eA4 (by omega) rfl]; exact RS2, hU3.fr (by rw [fA6, fA4]), fun j => by rw [fA6, fA4]; exact hA2.2.2.1.2.1 368 (by rfl) j⟩⟩)
  ·
    refine hxa_aload_n (by rfl) rfl ?_
    have he := hJ.end10 hA6
    have hpg : hPg A6 5 := fun j hj => by rw [hA6.2.2.1.2.1 5 (by rfl) j]; exact (fz3 (by omega)) j hj
    refine hxa_call0 (by rfl) (by rfl) (by rfl) (by rfl) (by rfl) (by rfl) (hX74q31 (d := d + 23) he.1 (he.2.1.trans hen.2.1) (he.2.2.trans hen.2.2.1) hpg) ?_
    rintro _ A8 ⟨hA8, rfl, fA8⟩
    refine hxa_iload_n (by rfl) rfl ?_
    exact hxa_ireturn (by rfl) rfl (hP _ _ ⟨(hJ.mono hA8 (by omega) (by omega)), _, rfl, ⟨by rw [(show A8.1 0 1 = (Int32.ofNat 0) from ((fA8.1).trans (hkF eA6 (by omega) (hkS eA4))))]; decide, ((fA8.2.1).trans (Eq.trans (hkF eA6 (by omega) (hkF eA4 (by omega) rfl)) hen.2.2.2)), by rw [fA8.2.2.1]; rw [show A6.1 0 2 = z5 from hkS eA6, ← ez5, hkF eA4 (by omega) rfl]; exact RS2, hU3.fr (by rw [fA8.2.2.2.1, fA6, fA4]), fun j => by rw [fA8.2.2.2.2 j, fA6, fA4]; exact hA2.2.2.1.2.1 368 (by rfl) j⟩⟩)
theorem hX73q31 {d : Nat} {N : Int} {A : hs_A} (hA : hJ 0 N (N + 72) A A) (h3 : A.2.2.2 0 3 = 12) (h4 : A.2.2.2 0 4 = 3) {B : Nat → Int} {n : Nat} (hTp : hcTp B n A) (h1 : (A.1 0 1).toInt = (n : Int)) (hBr : ∀ i, i < n → -128 ≤ B i ∧ B i ≤ 127) (hU : hcU A)  : hxC (d + 26) 73 hm_m73 [.ref 1] A (fun r A' => hJ 0 (N + 72) (N + 144) A' A' ∧ ∃ z : Int32, r = some (.int z) ∧ ((A'.1 0 1).toInt = 0 ∧ A'.1 367 2 = A.1 367 2 ∧ hq_res (ht_K B n) (ht_W B n) (fun u => (ht_S B n u : Int)) (ht_E B n) z.toInt (A'.1 0 2).toInt ∧ hcU A' ∧ (∀ j, A'.2.1 368 j = A.2.1 368 j))) := hxC.of (by rfl) (hY73q31 hA h3 h4 hTp h1 hBr hU (fun r A' h => h))
theorem hY74q32 {d : Nat} {N : Int} {A : hs_A} (hA : hJ 0 N (N + 72) A A) (h3 : A.2.2.2 0 3 = 3) (h4 : A.2.2.2 0 4 = 12) (hp : hPg A 14)  {P : Option Value → hs_A → Prop} (hP : ∀ (r : Option Value) (A' : hs_A), (hJ 0 (N + 72) (N + 144) A' A' ∧ r = none ∧ (A'.1 0 1 = A.1 0 1 ∧ A'.1 367 2 = A.1 367 2 ∧ A'.1 0 2 = A.1 0 2 ∧ A'.2.2.1 = A.2.2.1 ∧ (∀ j, A'.2.1 368 j = A.2.1 368 j))) → P r A') : hxa (d + 1) none hm_t74 0 [.ref 1, .retAddr 0] [] A P := by
  obtain ⟨T0, hT0, -, eT0⟩ := hA.T
  refine hxa_aload_n (by rfl) rfl ?_
  refine hxj_getT (by rfl) (by rfl) (by rfl) h3 ?_
  refine hxa_astore_n (by rfl) rfl ?_
  refine hxa_aload_n (by rfl) rfl ?_
  refine hxa_aload_n (by rfl) rfl ?_
  refine hxj_getT (by rfl) (by rfl) (by rfl) h4 ?_
  refine hxa_putR (i := 0) (by rfl) (by rfl) (by rfl) (by rfl) ?_
  refine hxa_aload_n (by rfl) rfl ?_
  refine hxa_aload_n (by rfl) rfl ?_
  refine hxa_putR (i := 0) (by rfl) (by rfl) (by rfl) (by rfl) ?_
  have hsw := hJ.swap2 hA h3 h4 hp
  obtain ⟨W5, eW5⟩ : ∃ W : hs_A, W = (A.1, A.2.1, A.2.2.1, hs_upN (hs_upN A.2.2.2 0 3 12) 0 4 3) := ⟨_, rfl⟩
  rw [← eW5] at hsw
  have w03 : W5.2.2.2 0 3 = 12 := by rw [eW5]; simp [hs_upN]
  have w1 : W5.1 = A.1 := by rw [eW5]
  show hxa _ _ _ _ _ _ (A.1, A.2.1, A.2.2.1, hs_upN (hs_upN A.2.2.2 0 3 12) 0 4 3) _
  rw [← eW5]
  obtain ⟨T5, hT5, eT5⟩ : ∃ T, hTT T ∧ W5.2.2.2 0 3 = T + 1 := ⟨11, Or.inr rfl, w03⟩
  refine hxa_aload_n (by rfl) rfl ?_
  refine hxa_get (v := .ref 27) (by rfl) (by rfl) (by rfl) rfl ?_
  refine hxa_aload_n (by rfl) rfl ?_
  refine hxj_getT (by rfl) (by rfl) (by rfl) eT5 ?_
  refine hxa_call0 (by rfl) (by rfl) (by rfl) (by rfl) (by rfl) (by rfl) (hX16 (d := d + 0) hsw hL26 hT5 eT5) ?_
  rintro _ A1 ⟨hA1, rfl⟩
  refine hxa_aload_n (by rfl) rfl ?_
  refine hxa_get (v := .ref 41) (by rfl) (by rfl) (by rfl) rfl ?_
  refine hxa_iconst (by rfl) rfl ?_
  refine hxj_putI (by rfl) (by rfl) (by rfl) (by rfl) hA1 (hbok (by rfl) hk_0 (by omega) (by omega)) (by rfl) (by rfl) (fun A2 hA2 eA2 fA2 => ?_)
  refine hxa_aload_n (by rfl) rfl ?_
  refine hxa_get (v := .ref 341) (by rfl) (by rfl) (by rfl) rfl ?_
  refine hxa_iconst (by rfl) rfl ?_
  refine hxj_putI (by rfl) (by rfl) (by rfl) (by rfl) hA2 (hbok (by rfl) hk_0 (by omega) (by omega)) (by rfl) (by rfl) (fun A3 hA3 eA3 fA3 => ?_)
  refine hxa_aload_n (by rfl) rfl ?_
  refine hxa_iconst (by rfl) rfl ?_
  refine hxj_putI (by rfl) (by rfl) (by rfl) (by rfl) hA3 (hbokN (by rfl)) (by rfl) (by rfl) (fun A4 hA4 eA4 fA4 => ?_)
  refine hxa_aload_n (by rfl) rfl ?_
  refine hxa_get (v := .ref 329) (by rfl) (by rfl) (by rfl) rfl ?_
  refine hxa_iconst (by rfl) rfl ?_
  refine hxj_putI (by rfl) (by rfl) (by rfl) (by rfl) hA4 (hbok (by rfl) hk_0 (by omega) (by omega)) (by rfl) (by rfl) (fun A5 hA5 eA5 fA5 => ?_)
  exact hxa_return (by rfl) rfl (hP _ _ ⟨(hJ.mono (hJ.self hA5) (by omega) (by omega)), rfl, ⟨(hA5.2.2.1.1 0 1 (by rfl)).trans (congrFun (congrFun w1 0) 1), (hA5.2.2.1.1 367 2 (by rfl)).trans (congrFun (congrFun w1 367) 2), (hA5.2.2.1.1 0 2 (by rfl)).trans (congrFun (congrFun w1 0) 2), (hA5.2.2.1.2.2.1 rfl).trans (by rw [eW5]), fun j => (hA5.2.2.1.2.1 368 (by rfl) j).trans (by rw [eW5])⟩⟩)
theorem hX74q32 {d : Nat} {N : Int} {A : hs_A} (hA : hJ 0 N (N + 72) A A) (h3 : A.2.2.2 0 3 = 3) (h4 : A.2.2.2 0 4 = 12) (hp : hPg A 14)  : hxC (d + 2) 74 hm_m74 [.ref 1] A (fun r A' => hJ 0 (N + 72) (N + 144) A' A' ∧ r = none ∧ (A'.1 0 1 = A.1 0 1 ∧ A'.1 367 2 = A.1 367 2 ∧ A'.1 0 2 = A.1 0 2 ∧ A'.2.2.1 = A.2.2.1 ∧ (∀ j, A'.2.1 368 j = A.2.1 368 j))) := hxC.of (by rfl) (hY74q32 hA h3 h4 hp (fun r A' h => h))
theorem hY73q32 {d : Nat} {N : Int} {A : hs_A} (hA : hJ 0 N (N + 72) A A) (h3 : A.2.2.2 0 3 = 3) (h4 : A.2.2.2 0 4 = 12) {B : Nat → Int} {n : Nat} (hTp : hcTp B n A) (h1 : (A.1 0 1).toInt = (n : Int)) (hBr : ∀ i, i < n → -128 ≤ B i ∧ B i ≤ 127) (hU : hcU A)  {P : Option Value → hs_A → Prop} (hP : ∀ (r : Option Value) (A' : hs_A), (hJ 0 (N + 72) (N + 144) A' A' ∧ ∃ z : Int32, r = some (.int z) ∧ ((A'.1 0 1).toInt = 0 ∧ A'.1 367 2 = A.1 367 2 ∧ hq_res (ht_K B n) (ht_W B n) (fun u => (ht_S B n u : Int)) (ht_E B n) z.toInt (A'.1 0 2).toInt ∧ hcU A' ∧ (∀ j, A'.2.1 368 j = A.2.1 368 j))) → P r A') : hxa (d + 25) (some (.int)) hm_t73 0 [.ref 1, .retAddr 0] [] A P := by
  refine hxa_aload_n (by rfl) rfl ?_
  refine hxa_get (v := .ref 21) (by rfl) (by rfl) (by rfl) rfl ?_
  refine hxa_aload_n (by rfl) rfl ?_
  refine hxj_getT (by rfl) (by rfl) (by rfl) h4 ?_
  refine hxa_aload_n (by rfl) rfl ?_
  refine hxa_get (v := .ref 2) (by rfl) (by rfl) (by rfl) rfl ?_
  refine hxa_aload_n (by rfl) rfl ?_
  refine hxj_getB (by rfl) (by rfl) (by rfl) hA (by rfl) (fun z1 ez1 fz1 gz1 => ?_)
  have h1z : z1.toInt = (n : Int) := by rw [← ez1]; exact h1
  refine hxa_call0 (by rfl) (by rfl) (by rfl) (by rfl) (by rfl) (by rfl) (hxC.and (g := 0) (hX37q2 (d := d + 0) hA z1 (by omega) (by omega)) (fun g => hP37 (T := 11) (Or.inr rfl) z1 hTp h1z (by omega) (fun i hi => (hBr i hi).2) hU)) ?_
  rintro _ A2 ⟨⟨hA2, z3, rfl, fz3⟩, A2v, hvis, z3v, ez3v, RS, hU2⟩
  have ezz : z3v = z3 := by injection ez3v with e; injection e with e; exact e.symm
  rw [ezz] at RS
  have RS2 : hq_res (ht_K B n) (ht_W B n) (fun u => (ht_S B n u : Int)) (ht_E B n) z3.toInt (A2.1 20 6).toInt := by rw [← hvis.f (i := 20) (k := 6) (by rfl) (by rfl)]; exact RS
  have hU3 : hcU A2 := hvis.U hU2
  have hen := hJ.end2 hA2 h3 h4
  have h10 := hJ.to10 hen.1
  refine hxa_s1 (by rfl) (Or.inl ⟨_, rfl, rfl⟩) rfl ?_
  refine hxa_aload_n (by rfl) rfl ?_
  refine hxa_iconst (by rfl) rfl ?_
  refine hxj_putI (by rfl) (by rfl) (by rfl) (by rfl) h10 (hbok (by rfl) hk_0 (by omega) (by omega)) (by rfl) (by rfl) (fun A4 hA4 eA4 fA4 => ?_)
  refine hxa_aload_n (by rfl) rfl ?_
  refine hxa_aload_n (by rfl) rfl ?_
  refine hxa_get (v := .ref 21) (by rfl) (by rfl) (by rfl) rfl ?_
  refine hxj_getI (by rfl) (by rfl) (by rfl) (fun z5 ez5 => ?_)
  refine hxj_putI (by rfl) (by rfl) (by rfl) (by rfl) hA4 (hbokN (by rfl)) (by rfl) (by rfl) (fun A6 hA6 eA6 fA6 => ?_)
  refine hxa_iload_n (by rfl) rfl ?_
  refine hxj_zne (by rfl) rfl (fun q7 => ?_) (fun q7 => ?_)
  ·
    refine hxa_iload_n (by rfl) rfl ?_
    have he := hJ.end10 hA6
    exact hxa_ireturn (by rfl) rfl (hP _ _ ⟨(hJ.mono he.1 (by omega) (by omega)), _, rfl, ⟨by rw [(show A6.1 0 1 = (Int32.ofNat 0) from (hkF eA6 (by omega) (hkS eA4)))]; decide, Eq.trans (hkF eA6 (by omega) (hkF eA4 (by omega) rfl)) hen.2.2.2, by rw [show A6.1 0 2 = z5 from hkS eA6, ← ez5, hkF eA4 (by omega) rfl]; exact RS2, hU3.fr (by rw [fA6, fA4]), fun j => by rw [fA6, fA4]; exact hA2.2.2.1.2.1 368 (by rfl) j⟩⟩)
  ·
    refine hxa_aload_n (by rfl) rfl ?_
    have he := hJ.end10 hA6
    have hpg : hPg A6 14 := fun j hj => by rw [hA6.2.2.1.2.1 14 (by rfl) j]; exact (fz3 (by omega)) j hj
    refine hxa_call0 (by rfl) (by rfl) (by rfl) (by rfl) (by rfl) (by rfl) (hX74q32 (d := d + 23) he.1 (he.2.1.trans hen.2.1) (he.2.2.trans hen.2.2.1) hpg) ?_
    rintro _ A8 ⟨hA8, rfl, fA8⟩
    refine hxa_iload_n (by rfl) rfl ?_
    exact hxa_ireturn (by rfl) rfl (hP _ _ ⟨(hJ.mono hA8 (by omega) (by omega)), _, rfl, ⟨by rw [(show A8.1 0 1 = (Int32.ofNat 0) from ((fA8.1).trans (hkF eA6 (by omega) (hkS eA4))))]; decide, ((fA8.2.1).trans (Eq.trans (hkF eA6 (by omega) (hkF eA4 (by omega) rfl)) hen.2.2.2)), by rw [fA8.2.2.1]; rw [show A6.1 0 2 = z5 from hkS eA6, ← ez5, hkF eA4 (by omega) rfl]; exact RS2, hU3.fr (by rw [fA8.2.2.2.1, fA6, fA4]), fun j => by rw [fA8.2.2.2.2 j, fA6, fA4]; exact hA2.2.2.1.2.1 368 (by rfl) j⟩⟩)
theorem hX73q32 {d : Nat} {N : Int} {A : hs_A} (hA : hJ 0 N (N + 72) A A) (h3 : A.2.2.2 0 3 = 3) (h4 : A.2.2.2 0 4 = 12) {B : Nat → Int} {n : Nat} (hTp : hcTp B n A) (h1 : (A.1 0 1).toInt = (n : Int)) (hBr : ∀ i, i < n → -128 ≤ B i ∧ B i ≤ 127) (hU : hcU A)  : hxC (d + 26) 73 hm_m73 [.ref 1] A (fun r A' => hJ 0 (N + 72) (N + 144) A' A' ∧ ∃ z : Int32, r = some (.int z) ∧ ((A'.1 0 1).toInt = 0 ∧ A'.1 367 2 = A.1 367 2 ∧ hq_res (ht_K B n) (ht_W B n) (fun u => (ht_S B n u : Int)) (ht_E B n) z.toInt (A'.1 0 2).toInt ∧ hcU A' ∧ (∀ j, A'.2.1 368 j = A.2.1 368 j))) := hxC.of (by rfl) (hY73q32 hA h3 h4 hTp h1 hBr hU (fun r A' h => h))
