theorem hmbad0 {S : Nat → Int} {A : hs_A} {b tok k : Nat} {ns : List Nat} {sn sd od : Nat} {o o1 : Option (Nat × Nat)} (h : hmR S A b ns sn o1 sd od) (h1 : o1 = o ∨ o1 = hq_late k tok o) (h0 : (A.1 367 15).toInt = 0) : o1 = none ∧ o = none := by
  have l := h.2.2.2.2.2.2.2
  cases o1 with
  | some c => exact absurd l.1 (by rw [h0]; have := l.2.2.1; omega)
  | none =>
    refine ⟨rfl, ?_⟩
    rcases h1 with q | q
    · exact q.symm
    · cases o with
      | none => rfl
      | some c => cases q
theorem hmbad1 {K S : Nat → Int} {A : hs_A} {tok k : Nat} {ns : List Nat} {sn sd od : Nat} {o o1 : Option (Nat × Nat)} (hS : hmS K S) (htk : tok ≤ 400) (hp : hq_pre K tok) (h : hmR S A (tok + 1) ns sn o1 sd od) (h1 : o1 = o ∨ o1 = hq_late k tok o) (ho : ∀ c, o = some c → c.2 < tok) (h0 : ¬ (A.1 367 15).toInt = 0) : hmR S A (tok + 1) ns sn (hq_late k tok o) sd od ∧ (S tok > (A.1 367 16).toInt ∨ (S tok = (A.1 367 16).toInt ∧ (A.1 367 15).toInt = (k : Int))) := by
  have l := h.2.2.2.2.2.2.2
  cases o1 with
  | none => exact absurd l h0
  | some c =>
    cases o with
    | none =>
      rcases h1 with q | q
      · cases q
      · cases q
        exact ⟨h, Or.inr ⟨l.2.1.symm, l.1⟩⟩
    | some c' =>
      have e : c = c' := by
        rcases h1 with q | q
        · cases q; rfl
        · cases q; rfl
      subst e
      have := hS c.2 tok (ho c rfl) htk hp
      refine ⟨h, Or.inl ?_⟩
      rw [l.2.1]
      exact this
theorem hmLt {S : Nat → Int} {A : hs_A} {b : Nat} {ns : List Nat} {sn sd od : Nat} {o : Option (Nat × Nat)} {c : Nat × Nat} (h : hmR S A b ns sn o sd od) (hc : o = some c) : c.2 < b := by
  subst hc
  exact h.2.2.2.2.2.2.2.2.2.2
theorem hW144 {g d f : Nat} {A : hs_A} {K V S : Nat → Int} {E : Nat → Nat → Bool} {t : Nat} {s : hq_S} (a1 : Int32) (hB : hmB K V S E A t s) {P : Option Value → hs_A → Prop} (hP : ∀ (r : Option Value) (A' : hs_A), (A = A' ∧ ∃ z : Int32, r = some (.int z) ∧ ((z.toInt = 1 ∧ (A.2.1 370 t).toInt = a1.toInt) ∨ (z.toInt = 0 ∧ ¬ (A.2.1 370 t).toInt = a1.toInt))) → P r A') : hpa (f, g) d (some (.boolean)) hm_t144 0 [.ref 368, .int a1] [] A P := by
  have k0 := hk_0
  have k1 := hk_1
  obtain ⟨h400, hpre, hix, hkk, hss, hvv⟩ := hB.at
  have hnx := hB.2.1
  have hqq := hB.2.2.1
  have hf0 := hB.2.2.2
  refine hpa_aload_n (by rfl) rfl ?_
  refine hpj_getK (by rfl) (by rfl) (by rfl) rfl ?_
  refine hpj_zne (by rfl) rfl (fun q1 => False.elim (by omega)) (fun q1 => ?_)
  refine hpa_aload_n (by rfl) rfl ?_
  refine hpa_get (v := .ref 371) (by rfl) (by rfl) (by rfl) rfl ?_
  refine hpa_aload_n (by rfl) rfl ?_
  refine hpj_getK (by rfl) (by rfl) (by rfl) rfl ?_
  refine hpx_iald (by rfl) (by rfl) (fun h0v2 h1v2 v2 ev2 => ?_)
  rw [hix] at ev2
  have tv2 := congrArg Int32.toInt ev2
  refine hpa_iload_n (by rfl) rfl ?_
  refine hpj_cne (by rfl) rfl rfl (fun q3 => ?_) (fun q3 => ?_)
  ·
    refine hpa_iconst (by rfl) rfl ?_
    exact hpa_ireturn (by rfl) (by rfl) (hP _ _ ⟨rfl, _, rfl, Or.inr ⟨hk_0, by omega⟩⟩)
  ·
    refine hpa_iconst (by rfl) rfl ?_
    refine hpa_goto (by rfl) ?_
    exact hpa_ireturn (by rfl) (by rfl) (hP _ _ ⟨rfl, _, rfl, Or.inl ⟨hk_1, by omega⟩⟩)
theorem hP144 {g d : Nat} {A : hs_A} {K V S : Nat → Int} {E : Nat → Nat → Bool} {t : Nat} {s : hq_S} (a1 : Int32) (hB : hmB K V S E A t s) : hpC g d 144 hm_m144 [.ref 368, .int a1] A (fun r A' => A = A' ∧ ∃ z : Int32, r = some (.int z) ∧ ((z.toInt = 1 ∧ (A.2.1 370 t).toInt = a1.toInt) ∨ (z.toInt = 0 ∧ ¬ (A.2.1 370 t).toInt = a1.toInt))) := hpC.all (fun f d => hW144 a1 hB (fun r A' h => h))
theorem hW144d {g d f : Nat} {A : hs_A} {K V S : Nat → Int} {E : Nat → Nat → Bool} (a1 : Int32) (hF : hmF K V S E A) {P : Option Value → hs_A → Prop} (hP : ∀ (r : Option Value) (A' : hs_A), (A = A' ∧ ∃ z : Int32, r = some (.int z) ∧ z.toInt = 0) → P r A') : hpa (f, g) d (some (.boolean)) hm_t144 0 [.ref 368, .int a1] [] A P := by
  have k0 := hk_0
  have hfp := hF.pos
  refine hpa_aload_n (by rfl) rfl ?_
  refine hpj_getK (by rfl) (by rfl) (by rfl) rfl ?_
  refine hpj_zne (by rfl) rfl (fun q1 => ?_) (fun q1 => False.elim (by omega))
  refine hpa_iconst (by rfl) rfl ?_
  exact hpa_ireturn (by rfl) (by rfl) (hP _ _ ⟨rfl, _, rfl, hk_0⟩)
theorem hP144d {g d : Nat} {A : hs_A} {K V S : Nat → Int} {E : Nat → Nat → Bool} (a1 : Int32) (hF : hmF K V S E A) : hpC g d 144 hm_m144 [.ref 368, .int a1] A (fun r A' => A = A' ∧ ∃ z : Int32, r = some (.int z) ∧ z.toInt = 0) := hpC.all (fun f d => hW144d a1 hF (fun r A' h => h))
theorem hW145 {g d f : Nat} {A : hs_A} {K V S : Nat → Int} {E : Nat → Nat → Bool} {t k : Nat} {s : hq_S} (a1 : Int32) (hB : hmB K V S E A t s) (hf : hq_f K V E t k) (hk0 : k ≠ 0) (ha : a1.toInt = (k : Int)) {P : Option Value → hs_A → Prop} (hP : ∀ (r : Option Value) (A' : hs_A), (r = none ∧ (hmF K V S E A')) → P r A') : hpa (f, g) d none hm_t145 0 [.ref 368, .int a1] [] A P := by
  obtain ⟨h400, hpre, hix, hkk, hss, hvv⟩ := hB.at
  have hnx := hB.2.1
  have hqq := hB.2.2.1
  have hf0 := hB.2.2.2
  refine hpa_aload_n (by rfl) rfl ?_
  refine hpj_getK (by rfl) (by rfl) (by rfl) rfl ?_
  refine hpj_zle (by rfl) rfl (fun q1 => ?_) (fun q1 => False.elim (by omega))
  refine hpa_aload_n (by rfl) rfl ?_
  refine hpa_iload_n (by rfl) rfl ?_
  refine hpj_putI (by rfl) (by rfl) (by rfl) (by rfl) (fun A2 eA2 fA2 => ?_)
  refine hpa_aload_n (by rfl) rfl ?_
  refine hpa_aload_n (by rfl) rfl ?_
  refine hpa_get (v := .ref 372) (by rfl) (by rfl) (by rfl) rfl ?_
  refine hpa_aload_n (by rfl) rfl ?_
  refine hpj_getK (by rfl) (by rfl) (by rfl) (hkF eA2 (by omega) rfl) ?_
  refine hpx_iald (by rfl) (by rfl) (fun h0v3 h1v3 v3 ev3 => ?_)
  rw [fA2, hix] at ev3
  refine hpj_putI (by rfl) (by rfl) (by rfl) (by rfl) (fun A4 eA4 fA4 => ?_)
  exact hpa_return (by rfl) rfl (hP _ _ ⟨rfl, hB.1.2.2.fr (by rw [fA4, fA2]), _, _, hf, hk0, (congrArg Int32.toInt (show A4.1 367 13 = a1 from (hkF eA4 (by omega) (hkS eA2)))).trans ha, (congrArg Int32.toInt (show A4.1 367 14 = v3 from (hkS eA4))).trans (by rw [← ev3]; exact hss)⟩)
theorem hP145 {g d : Nat} {A : hs_A} {K V S : Nat → Int} {E : Nat → Nat → Bool} {t k : Nat} {s : hq_S} (a1 : Int32) (hB : hmB K V S E A t s) (hf : hq_f K V E t k) (hk0 : k ≠ 0) (ha : a1.toInt = (k : Int)) : hpC g d 145 hm_m145 [.ref 368, .int a1] A (fun r A' => r = none ∧ (hmF K V S E A')) := hpC.all (fun f d => hW145 a1 hB hf hk0 ha (fun r A' h => h))
theorem hW145d {g d f : Nat} {A : hs_A} {K V S : Nat → Int} {E : Nat → Nat → Bool} (a1 : Int32) (hF : hmF K V S E A) {P : Option Value → hs_A → Prop} (hP : ∀ (r : Option Value) (A' : hs_A), (A = A' ∧ r = none) → P r A') : hpa (f, g) d none hm_t145 0 [.ref 368, .int a1] [] A P := by
  have hfp := hF.pos
  refine hpa_aload_n (by rfl) rfl ?_
  refine hpj_getK (by rfl) (by rfl) (by rfl) rfl ?_
  refine hpj_zle (by rfl) rfl (fun q1 => False.elim (by omega)) (fun q1 => ?_)
  exact hpa_return (by rfl) rfl (hP _ _ ⟨rfl, rfl⟩)
theorem hP145d {g d : Nat} {A : hs_A} {K V S : Nat → Int} {E : Nat → Nat → Bool} (a1 : Int32) (hF : hmF K V S E A) : hpC g d 145 hm_m145 [.ref 368, .int a1] A (fun r A' => A = A' ∧ r = none) := hpC.all (fun f d => hW145d a1 hF (fun r A' h => h))
theorem hW147 {g d f : Nat} {A : hs_A} {K V S : Nat → Int} {E : Nat → Nat → Bool} {t : Nat} {s s' : hq_S} {ns : List Nat} {sn sd od : Nat} {o : Option (Nat × Nat)} (hB : hmB K V S E A t s) (hR : hmR S A t ns sn o sd od) (hd : hq_dl K V E t s = hq_go t s') {P : Option Value → hs_A → Prop} (hP : ∀ (r : Option Value) (A' : hs_A), (r = none ∧ ((hmB K V S E A' (t + 1) s' ∧ hmR S A' (t + 1) ns sn o sd od ∧ hmQ A A' ∧ hg_q K V E (t + 1) = hg_dl K V t s (hg_q K V E t)) ∨ (hmF K V S E A'))) → P r A') : hpa (f, g) d none hm_t147 0 [.ref 368] [] A P := by
  have k1 := hk_1
  have k2 := hk_2
  have k400 := hk_400
  obtain ⟨h400, hpre, hix, hkk, hss, hvv⟩ := hB.at
  have hnx := hB.2.1
  have hqq := hB.2.2.1
  have hf0 := hB.2.2.2
  refine hpa_aload_n (by rfl) rfl ?_
  refine hpj_getK (by rfl) (by rfl) (by rfl) rfl ?_
  refine hpa_sipush (by rfl) rfl ?_
  refine hpj_cne (by rfl) rfl hk_400 (fun q1 => ?_) (fun q1 => ?_)
  ·
    refine hpa_aload_n (by rfl) rfl ?_
    refine hpa_dupR (by rfl) ?_
    refine hpj_getK (by rfl) (by rfl) (by rfl) rfl ?_
    refine hpa_iconst (by rfl) rfl ?_
    refine hpj_iadd (by rfl) rfl hk_1 (by omega) (by omega) (fun z2 ez2 => ?_)
    refine hpj_putI (by rfl) (by rfl) (by rfl) (by rfl) (fun A3 eA3 fA3 => ?_)
    exact hpa_return (by rfl) rfl (hP _ _ ⟨rfl, Or.inl ⟨hB.step (hd.trans (hq_go_lt (by omega))) eA3 fA3 (by omega), (hR.up eA3 fA3 (by omega)).mono (by omega), hmQ.rfl.f eA3 fA3 (by omega), hg_next hqq⟩⟩)
  ·
    refine hpa_aload_n (by rfl) rfl ?_
    refine hpa_iconst (by rfl) rfl ?_
    refine hpa_call0 (by rfl) (by rfl) (by rfl) (by rfl) (by rfl) (by rfl) (hP145 (Int32.ofNat 2) hB ⟨s, hqq, hd.trans (hq_go_ge (by omega))⟩ (by decide) hk_2) ?_
    rintro _ A4 ⟨rfl, F_A4⟩
    have fp_A4 := F_A4.pos
    refine hpa_goto (by rfl) ?_
    exact hpa_return (by rfl) rfl (hP _ _ ⟨rfl, Or.inr F_A4⟩)
theorem hP147 {g d : Nat} {A : hs_A} {K V S : Nat → Int} {E : Nat → Nat → Bool} {t : Nat} {s s' : hq_S} {ns : List Nat} {sn sd od : Nat} {o : Option (Nat × Nat)} (hB : hmB K V S E A t s) (hR : hmR S A t ns sn o sd od) (hd : hq_dl K V E t s = hq_go t s') : hpC g d 147 hm_m147 [.ref 368] A (fun r A' => r = none ∧ ((hmB K V S E A' (t + 1) s' ∧ hmR S A' (t + 1) ns sn o sd od ∧ hmQ A A' ∧ hg_q K V E (t + 1) = hg_dl K V t s (hg_q K V E t)) ∨ (hmF K V S E A'))) := hpC.all (fun f d => hW147 hB hR hd (fun r A' h => h))
theorem hW147d {g d f : Nat} {A : hs_A} {K V S : Nat → Int} {E : Nat → Nat → Bool} (hF : hmF K V S E A) {P : Option Value → hs_A → Prop} (hP : ∀ (r : Option Value) (A' : hs_A), (r = none ∧ (hmF K V S E A')) → P r A') : hpa (f, g) d none hm_t147 0 [.ref 368] [] A P := by
  have k1 := hk_1
  have k2 := hk_2
  have k400 := hk_400
  have hfp := hF.pos
  refine hpa_aload_n (by rfl) rfl ?_
  refine hpj_getK (by rfl) (by rfl) (by rfl) rfl ?_
  refine hpa_sipush (by rfl) rfl ?_
  refine hpj_cne (by rfl) rfl hk_400 (fun q1 => ?_) (fun q1 => ?_)
  ·
    refine hpa_aload_n (by rfl) rfl ?_
    refine hpa_dupR (by rfl) ?_
    refine hpj_getK (by rfl) (by rfl) (by rfl) rfl ?_
    refine hpa_iconst (by rfl) rfl ?_
    refine hpj_iaddU (by rfl) (fun z2 => ?_)
    refine hpj_putI (by rfl) (by rfl) (by rfl) (by rfl) (fun A3 eA3 fA3 => ?_)
    exact hpa_return (by rfl) rfl (hP _ _ ⟨rfl, hF.up eA3 fA3 (by omega)⟩)
  ·
    refine hpa_aload_n (by rfl) rfl ?_
    refine hpa_iconst (by rfl) rfl ?_
    refine hpa_call0 (by rfl) (by rfl) (by rfl) (by rfl) (by rfl) (by rfl) (hP145d (Int32.ofNat 2) hF) ?_
    rintro _ _ ⟨rfl, rfl⟩
    refine hpa_goto (by rfl) ?_
    exact hpa_return (by rfl) rfl (hP _ _ ⟨rfl, hF⟩)
theorem hP147d {g d : Nat} {A : hs_A} {K V S : Nat → Int} {E : Nat → Nat → Bool} (hF : hmF K V S E A) : hpC g d 147 hm_m147 [.ref 368] A (fun r A' => r = none ∧ (hmF K V S E A')) := hpC.all (fun f d => hW147d hF (fun r A' h => h))
theorem hW148 {g d f : Nat} {A : hs_A} {K V S : Nat → Int} {E : Nat → Nat → Bool} {t : Nat} {s s' : hq_S} {ns : List Nat} {sn sd od : Nat} {o : Option (Nat × Nat)} {w : Int} (a1 : Int32) (hB : hmB K V S E A t s) (hR : hmR S A t ns sn o sd od) (hw : (A.2.1 370 t).toInt = a1.toInt ↔ K t = w) (hd : hq_dl K V E t s = hq_must K w t s') {P : Option Value → hs_A → Prop} (hP : ∀ (r : Option Value) (A' : hs_A), (r = none ∧ ((hmB K V S E A' (t + 1) s' ∧ hmR S A' (t + 1) ns sn o sd od ∧ hmQ A A' ∧ hg_q K V E (t + 1) = hg_dl K V t s (hg_q K V E t)) ∨ (hmF K V S E A'))) → P r A') : hpa (f, g) d none hm_t148 0 [.ref 368, .int a1] [] A P := by
  have k1 := hk_1
  obtain ⟨h400, hpre, hix, hkk, hss, hvv⟩ := hB.at
  have hnx := hB.2.1
  have hqq := hB.2.2.1
  have hf0 := hB.2.2.2
  refine hpa_aload_n (by rfl) rfl ?_
  refine hpa_iload_n (by rfl) rfl ?_
  refine hpa_call0 (by rfl) (by rfl) (by rfl) (by rfl) (by rfl) (by rfl) (hP144 a1 hB) ?_
  rintro _ _ ⟨rfl, z2, rfl, (⟨fz_A1, e_A1⟩ | ⟨fz_A1, ne_A1⟩)⟩
  ·
    refine hpj_zeq (by rfl) rfl (fun q3 => False.elim (by omega)) (fun q3 => ?_)
    refine hpa_aload_n (by rfl) rfl ?_
    refine hpa_call0 (by rfl) (by rfl) (by rfl) (by rfl) (by rfl) (by rfl) (hP147 hB hR (hd.trans (hq_must_ok (hw.mp e_A1)))) ?_
    rintro _ A4 ⟨rfl, (⟨B_A4, R_A4, Q_A4, G_A4⟩ | F_A4)⟩
    ·
      have f0_A4 := B_A4.2.2.2
      have nx_A4 := B_A4.2.1
      have rd_A4 := R_A4.2.2.1
      refine hpa_goto (by rfl) ?_
      exact hpa_return (by rfl) rfl (hP _ _ ⟨rfl, Or.inl ⟨B_A4, R_A4, Q_A4, G_A4⟩⟩)
    ·
      have fp_A4 := F_A4.pos
      refine hpa_goto (by rfl) ?_
      exact hpa_return (by rfl) rfl (hP _ _ ⟨rfl, Or.inr F_A4⟩)
  ·
    refine hpj_zeq (by rfl) rfl (fun q5 => ?_) (fun q5 => False.elim (by omega))
    refine hpa_aload_n (by rfl) rfl ?_
    refine hpa_iconst (by rfl) rfl ?_
    refine hpa_call0 (by rfl) (by rfl) (by rfl) (by rfl) (by rfl) (by rfl) (hP145 (Int32.ofNat 1) hB ⟨s, hqq, hd.trans (hq_must_no (fun q => ne_A1 (hw.mpr q)))⟩ (by decide) hk_1) ?_
    rintro _ A6 ⟨rfl, F_A6⟩
    have fp_A6 := F_A6.pos
    exact hpa_return (by rfl) rfl (hP _ _ ⟨rfl, Or.inr F_A6⟩)
theorem hP148 {g d : Nat} {A : hs_A} {K V S : Nat → Int} {E : Nat → Nat → Bool} {t : Nat} {s s' : hq_S} {ns : List Nat} {sn sd od : Nat} {o : Option (Nat × Nat)} {w : Int} (a1 : Int32) (hB : hmB K V S E A t s) (hR : hmR S A t ns sn o sd od) (hw : (A.2.1 370 t).toInt = a1.toInt ↔ K t = w) (hd : hq_dl K V E t s = hq_must K w t s') : hpC g d 148 hm_m148 [.ref 368, .int a1] A (fun r A' => r = none ∧ ((hmB K V S E A' (t + 1) s' ∧ hmR S A' (t + 1) ns sn o sd od ∧ hmQ A A' ∧ hg_q K V E (t + 1) = hg_dl K V t s (hg_q K V E t)) ∨ (hmF K V S E A'))) := hpC.all (fun f d => hW148 a1 hB hR hw hd (fun r A' h => h))
theorem hW148d {g d f : Nat} {A : hs_A} {K V S : Nat → Int} {E : Nat → Nat → Bool} (a1 : Int32) (hF : hmF K V S E A) {P : Option Value → hs_A → Prop} (hP : ∀ (r : Option Value) (A' : hs_A), (r = none ∧ (hmF K V S E A')) → P r A') : hpa (f, g) d none hm_t148 0 [.ref 368, .int a1] [] A P := by
  have k1 := hk_1
  have hfp := hF.pos
  refine hpa_aload_n (by rfl) rfl ?_
  refine hpa_iload_n (by rfl) rfl ?_
  refine hpa_call0 (by rfl) (by rfl) (by rfl) (by rfl) (by rfl) (by rfl) (hP144d a1 hF) ?_
  rintro _ _ ⟨rfl, z2, rfl, fz_A1⟩
  refine hpj_zeq (by rfl) rfl (fun q3 => ?_) (fun q3 => False.elim (by omega))
  refine hpa_aload_n (by rfl) rfl ?_
  refine hpa_iconst (by rfl) rfl ?_
  refine hpa_call0 (by rfl) (by rfl) (by rfl) (by rfl) (by rfl) (by rfl) (hP145d (Int32.ofNat 1) hF) ?_
  rintro _ _ ⟨rfl, rfl⟩
  exact hpa_return (by rfl) rfl (hP _ _ ⟨rfl, hF⟩)
theorem hP148d {g d : Nat} {A : hs_A} {K V S : Nat → Int} {E : Nat → Nat → Bool} (a1 : Int32) (hF : hmF K V S E A) : hpC g d 148 hm_m148 [.ref 368, .int a1] A (fun r A' => r = none ∧ (hmF K V S E A')) := hpC.all (fun f d => hW148d a1 hF (fun r A' h => h))
theorem hW152 {g d f : Nat} {A : hs_A} {K V S : Nat → Int} {E : Nat → Nat → Bool} {t : Nat} {s s' : hq_S} {ns : List Nat} {sn sd od : Nat} {o : Option (Nat × Nat)} {n m : Nat} (a1 a2 : Int32) (hB : hmB K V S E A t s) (hR : hmR S A t ns sn o sd od) (h1 : a1.toInt = (n : Int)) (h2 : a2.toInt = (m : Int)) (hnm : n ≤ m) (hd : hq_dl K V E t s = if n < m then hq_go t s' else .inr 2) {P : Option Value → hs_A → Prop} (hP : ∀ (r : Option Value) (A' : hs_A), (r = none ∧ ((hmB K V S E A' (t + 1) s' ∧ hmR S A' (t + 1) ns sn o sd od ∧ hmQ A A' ∧ hg_q K V E (t + 1) = hg_dl K V t s (hg_q K V E t) ∧ n < m) ∨ (hmF K V S E A'))) → P r A') : hpa (f, g) d none hm_t152 0 [.ref 368, .int a1, .int a2] [] A P := by
  have k2 := hk_2
  obtain ⟨h400, hpre, hix, hkk, hss, hvv⟩ := hB.at
  have hnx := hB.2.1
  have hqq := hB.2.2.1
  have hf0 := hB.2.2.2
  refine hpa_iload_n (by rfl) rfl ?_
  refine hpa_iload_n (by rfl) rfl ?_
  refine hpj_cne (by rfl) rfl rfl (fun q1 => ?_) (fun q1 => ?_)
  ·
    refine hpa_aload_n (by rfl) rfl ?_
    refine hpj_getK (by rfl) (by rfl) (by rfl) rfl ?_
    refine hpj_zne (by rfl) rfl (fun q2 => False.elim (by omega)) (fun q2 => ?_)
    refine hpa_aload_n (by rfl) rfl ?_
    refine hpa_call0 (by rfl) (by rfl) (by rfl) (by rfl) (by rfl) (by rfl) (hP147 hB hR (hd.trans (if_pos (by omega)))) ?_
    rintro _ A3 ⟨rfl, (⟨B_A3, R_A3, Q_A3, G_A3⟩ | F_A3)⟩
    ·
      have f0_A3 := B_A3.2.2.2
      have nx_A3 := B_A3.2.1
      have rd_A3 := R_A3.2.2.1
      exact hpa_return (by rfl) rfl (hP _ _ ⟨rfl, Or.inl ⟨B_A3, R_A3, Q_A3, G_A3, by omega⟩⟩)
    ·
      have fp_A3 := F_A3.pos
      exact hpa_return (by rfl) rfl (hP _ _ ⟨rfl, Or.inr F_A3⟩)
  ·
    refine hpa_aload_n (by rfl) rfl ?_
    refine hpa_iconst (by rfl) rfl ?_
    refine hpa_call0 (by rfl) (by rfl) (by rfl) (by rfl) (by rfl) (by rfl) (hP145 (Int32.ofNat 2) hB ⟨s, hqq, hd.trans (if_neg (by omega))⟩ (by decide) hk_2) ?_
    rintro _ A4 ⟨rfl, F_A4⟩
    have fp_A4 := F_A4.pos
    refine hpa_aload_n (by rfl) rfl ?_
    refine hpj_getK (by rfl) (by rfl) (by rfl) rfl ?_
    refine hpj_zne (by rfl) rfl (fun q5 => ?_) (fun q5 => False.elim (by omega))
    exact hpa_return (by rfl) rfl (hP _ _ ⟨rfl, Or.inr F_A4⟩)
theorem hP152 {g d : Nat} {A : hs_A} {K V S : Nat → Int} {E : Nat → Nat → Bool} {t : Nat} {s s' : hq_S} {ns : List Nat} {sn sd od : Nat} {o : Option (Nat × Nat)} {n m : Nat} (a1 a2 : Int32) (hB : hmB K V S E A t s) (hR : hmR S A t ns sn o sd od) (h1 : a1.toInt = (n : Int)) (h2 : a2.toInt = (m : Int)) (hnm : n ≤ m) (hd : hq_dl K V E t s = if n < m then hq_go t s' else .inr 2) : hpC g d 152 hm_m152 [.ref 368, .int a1, .int a2] A (fun r A' => r = none ∧ ((hmB K V S E A' (t + 1) s' ∧ hmR S A' (t + 1) ns sn o sd od ∧ hmQ A A' ∧ hg_q K V E (t + 1) = hg_dl K V t s (hg_q K V E t) ∧ n < m) ∨ (hmF K V S E A'))) := hpC.all (fun f d => hW152 a1 a2 hB hR h1 h2 hnm hd (fun r A' h => h))
theorem hW146 {g d f : Nat} {A : hs_A} {K V S : Nat → Int} {E : Nat → Nat → Bool} {t : Nat} {s : hq_S} {ns : List Nat} {sn sd od : Nat} {o : Option (Nat × Nat)} {tok k : Nat} {o1 : Option (Nat × Nat)} (a1 a2 : Int32) (hS : hmS K S) (hB : hmB K V S E A t s) (hR : hmR S A (tok + 1) ns sn o1 sd od) (h2 : a2.toInt = (tok : Int)) (htk : tok ≤ t) (ho : ∀ c, o = some c → c.2 < tok) (h1 : o1 = o ∨ o1 = hq_late k tok o) (hk : 0 < k) (ha : a1.toInt = (k : Int)) {P : Option Value → hs_A → Prop} (hP : ∀ (r : Option Value) (A' : hs_A), (r = none ∧ (hmB K V S E A' t s ∧ hmR S A' (tok + 1) ns sn (hq_late k tok o) sd od ∧ A'.2.2.1 = A.2.2.1 ∧ hmQ A A')) → P r A') : hpa (f, g) d none hm_t146 0 [.ref 368, .int a1, .int a2, .retAddr 0] [] A P := by
  obtain ⟨h400, hpre, hix, hkk, hss, hvv⟩ := hB.at
  have hnx := hB.2.1
  have hqq := hB.2.2.1
  have hf0 := hB.2.2.2
  have hi2 : a2.toNatClampNeg = tok := by have := hn_cn (j := a2) (by omega); omega
  have hst := (hB.1.1 tok (by omega) (fun i hi => hpre i (by omega))).2.1
  refine hpa_aload_n (by rfl) rfl ?_
  refine hpa_get (v := .ref 372) (by rfl) (by rfl) (by rfl) rfl ?_
  refine hpa_iload_n (by rfl) rfl ?_
  refine hpx_iald (by rfl) (by rfl) (fun h0v1 h1v1 v1 ev1 => ?_)
  rw [hi2] at ev1
  have tv1 : v1.toInt = S tok := by rw [← ev1]; exact hst
  refine hpa_s1 (by rfl) (Or.inl ⟨_, rfl, rfl⟩) rfl ?_
  refine hpa_aload_n (by rfl) rfl ?_
  refine hpj_getK (by rfl) (by rfl) (by rfl) rfl ?_
  refine hpj_zgt (by rfl) rfl (fun q2 => False.elim (by omega)) (fun q2 => ?_)
  refine hpa_aload_n (by rfl) rfl ?_
  refine hpj_getK (by rfl) (by rfl) (by rfl) rfl ?_
  refine hpj_zeq (by rfl) rfl (fun q3 => ?_) (fun q3 => ?_)
  ·
    obtain ⟨n1, n0⟩ := hmbad0 hR h1 q3
    refine hpa_aload_n (by rfl) rfl ?_
    refine hpa_iload_n (by rfl) rfl ?_
    refine hpj_putI (by rfl) (by rfl) (by rfl) (by rfl) (fun A4 eA4 fA4 => ?_)
    refine hpa_aload_n (by rfl) rfl ?_
    refine hpa_iload_n (by rfl) rfl ?_
    refine hpj_putI (by rfl) (by rfl) (by rfl) (by rfl) (fun A5 eA5 fA5 => ?_)
    exact hpa_return (by rfl) rfl (hP _ _ ⟨rfl, (hB.up eA4 fA4 (by omega) (by omega)).up eA5 fA5 (by omega) (by omega), by rw [n0]; exact hR.bad eA4 fA4 eA5 fA5 ha tv1 hk n1, by rw [fA5, fA4], (hmQ.rfl.f eA4 fA4 (by omega)).f eA5 fA5 (by omega)⟩)
  ·
    obtain ⟨R1, hcc⟩ := hmbad1 hS (by omega) (fun i hi => hpre i (by omega)) hR h1 ho q3
    refine hpa_iload_n (by rfl) rfl ?_
    refine hpa_aload_n (by rfl) rfl ?_
    refine hpj_getK (by rfl) (by rfl) (by rfl) rfl ?_
    refine hpj_cgt (by rfl) rfl rfl (fun q6 => ?_) (fun q6 => ?_)
    ·
      exact hpa_return (by rfl) rfl (hP _ _ ⟨rfl, hB, R1, rfl, hmQ.rfl⟩)
    ·
      refine hpa_iload_n (by rfl) rfl ?_
      refine hpa_aload_n (by rfl) rfl ?_
      refine hpj_getK (by rfl) (by rfl) (by rfl) rfl ?_
      refine hpj_cne (by rfl) rfl rfl (fun q7 => False.elim (by omega)) (fun q7 => ?_)
      refine hpa_iload_n (by rfl) rfl ?_
      refine hpa_aload_n (by rfl) rfl ?_
      refine hpj_getK (by rfl) (by rfl) (by rfl) rfl ?_
      refine hpj_clt (by rfl) rfl rfl (fun q8 => False.elim (by omega)) (fun q8 => ?_)
      exact hpa_return (by rfl) rfl (hP _ _ ⟨rfl, hB, R1, rfl, hmQ.rfl⟩)
theorem hP146 {g d : Nat} {A : hs_A} {K V S : Nat → Int} {E : Nat → Nat → Bool} {t : Nat} {s : hq_S} {ns : List Nat} {sn sd od : Nat} {o : Option (Nat × Nat)} {tok k : Nat} {o1 : Option (Nat × Nat)} (a1 a2 : Int32) (hS : hmS K S) (hB : hmB K V S E A t s) (hR : hmR S A (tok + 1) ns sn o1 sd od) (h2 : a2.toInt = (tok : Int)) (htk : tok ≤ t) (ho : ∀ c, o = some c → c.2 < tok) (h1 : o1 = o ∨ o1 = hq_late k tok o) (hk : 0 < k) (ha : a1.toInt = (k : Int)) : hpC g d 146 hm_m146 [.ref 368, .int a1, .int a2] A (fun r A' => r = none ∧ (hmB K V S E A' t s ∧ hmR S A' (tok + 1) ns sn (hq_late k tok o) sd od ∧ A'.2.2.1 = A.2.2.1 ∧ hmQ A A')) := hpC.all (fun f d => hW146 a1 a2 hS hB hR h2 htk ho h1 hk ha (fun r A' h => h))
theorem hW147b {g d f : Nat} {A : hs_A} {K V S : Nat → Int} {E : Nat → Nat → Bool} {t : Nat} {s s' : hq_S} {ns : List Nat} {sn sd od : Nat} {o : Option (Nat × Nat)} {b : Nat} (hB : hmB K V S E A t s) (hR : hmR S A b ns sn o sd od) (hb : b ≤ t + 1) (hd : hq_dl K V E t s = hq_go t s') {P : Option Value → hs_A → Prop} (hP : ∀ (r : Option Value) (A' : hs_A), (r = none ∧ ((hmB K V S E A' (t + 1) s' ∧ hmR S A' (t + 1) ns sn o sd od ∧ hmQ A A' ∧ hg_q K V E (t + 1) = hg_dl K V t s (hg_q K V E t)) ∨ (hmF K V S E A'))) → P r A') : hpa (f, g) d none hm_t147 0 [.ref 368] [] A P := by
  have k1 := hk_1
  have k2 := hk_2
  have k400 := hk_400
  obtain ⟨h400, hpre, hix, hkk, hss, hvv⟩ := hB.at
  have hnx := hB.2.1
  have hqq := hB.2.2.1
  have hf0 := hB.2.2.2
  refine hpa_aload_n (by rfl) rfl ?_
  refine hpj_getK (by rfl) (by rfl) (by rfl) rfl ?_
  refine hpa_sipush (by rfl) rfl ?_
  refine hpj_cne (by rfl) rfl hk_400 (fun q1 => ?_) (fun q1 => ?_)
  ·
    refine hpa_aload_n (by rfl) rfl ?_
    refine hpa_dupR (by rfl) ?_
    refine hpj_getK (by rfl) (by rfl) (by rfl) rfl ?_
    refine hpa_iconst (by rfl) rfl ?_
    refine hpj_iadd (by rfl) rfl hk_1 (by omega) (by omega) (fun z2 ez2 => ?_)
    refine hpj_putI (by rfl) (by rfl) (by rfl) (by rfl) (fun A3 eA3 fA3 => ?_)
    exact hpa_return (by rfl) rfl (hP _ _ ⟨rfl, Or.inl ⟨hB.step (hd.trans (hq_go_lt (by omega))) eA3 fA3 (by omega), (hR.up eA3 fA3 (by omega)).mono (by omega), hmQ.rfl.f eA3 fA3 (by omega), hg_next hqq⟩⟩)
  ·
    refine hpa_aload_n (by rfl) rfl ?_
    refine hpa_iconst (by rfl) rfl ?_
    refine hpa_call0 (by rfl) (by rfl) (by rfl) (by rfl) (by rfl) (by rfl) (hP145 (Int32.ofNat 2) hB ⟨s, hqq, hd.trans (hq_go_ge (by omega))⟩ (by decide) hk_2) ?_
    rintro _ A4 ⟨rfl, F_A4⟩
    have fp_A4 := F_A4.pos
    refine hpa_goto (by rfl) ?_
    exact hpa_return (by rfl) rfl (hP _ _ ⟨rfl, Or.inr F_A4⟩)
theorem hP147b {g d : Nat} {A : hs_A} {K V S : Nat → Int} {E : Nat → Nat → Bool} {t : Nat} {s s' : hq_S} {ns : List Nat} {sn sd od : Nat} {o : Option (Nat × Nat)} {b : Nat} (hB : hmB K V S E A t s) (hR : hmR S A b ns sn o sd od) (hb : b ≤ t + 1) (hd : hq_dl K V E t s = hq_go t s') : hpC g d 147 hm_m147 [.ref 368] A (fun r A' => r = none ∧ ((hmB K V S E A' (t + 1) s' ∧ hmR S A' (t + 1) ns sn o sd od ∧ hmQ A A' ∧ hg_q K V E (t + 1) = hg_dl K V t s (hg_q K V E t)) ∨ (hmF K V S E A'))) := hpC.all (fun f d => hW147b hB hR hb hd (fun r A' h => h))
theorem hW155 {g d f : Nat} {A : hs_A} {K V S : Nat → Int} {E : Nat → Nat → Bool} {t : Nat} {s s' : hq_S} {ns : List Nat} {sn sd od : Nat} {o : Option (Nat × Nat)} {lo hi : Int} (a1 a2 : Int32) (hS : hmS K S) (ha1 : a1.toInt = lo) (ha2 : a2.toInt = hi) (hB : hmB K V S E A t s) (hR : hmR S A t ns sn o sd od) (hd : hq_dl K V E t s = hq_must K 21 t s') {P : Option Value → hs_A → Prop} (hP : ∀ (r : Option Value) (A' : hs_A), (∃ z : Int32, r = some (.int z) ∧ ((hmB K V S E A' (t + 1) s' ∧ hmR S A' (t + 1) ns sn (hq_rng V lo hi t o) sd od ∧ hmQ A A' ∧ hg_q K V E (t + 1) = hg_dl K V t s (hg_q K V E t) ∧ z.toInt = V t ∧ K t = 21) ∨ (hmF K V S E A'))) → P r A') : hpa (f, g) d (some (.int)) hm_t155 0 [.ref 368, .int a1, .int a2, .retAddr 0] [] A P := by
  have k1 := hk_1
  have k2 := hk_2
  have k5 := hk_5
  obtain ⟨h400, hpre, hix, hkk, hss, hvv⟩ := hB.at
  have hnx := hB.2.1
  have hqq := hB.2.2.1
  have hf0 := hB.2.2.2
  refine hpa_aload_n (by rfl) rfl ?_
  refine hpj_getK (by rfl) (by rfl) (by rfl) rfl ?_
  refine hpj_zgt (by rfl) rfl (fun q1 => False.elim (by omega)) (fun q1 => ?_)
  refine hpa_aload_n (by rfl) rfl ?_
  refine hpa_iconst (by rfl) rfl ?_
  refine hpa_call0 (by rfl) (by rfl) (by rfl) (by rfl) (by rfl) (by rfl) (hP144 (Int32.ofNat 2) hB) ?_
  rintro _ _ ⟨rfl, z3, rfl, (⟨fz_A2, e_A2⟩ | ⟨fz_A2, ne_A2⟩)⟩
  ·
    refine hpj_zne (by rfl) rfl (fun q4 => ?_) (fun q4 => False.elim (by omega))
    refine hpa_aload_n (by rfl) rfl ?_
    refine hpa_get (v := .ref 373) (by rfl) (by rfl) (by rfl) rfl ?_
    refine hpa_aload_n (by rfl) rfl ?_
    refine hpj_getK (by rfl) (by rfl) (by rfl) rfl ?_
    refine hpx_iald (by rfl) (by rfl) (fun h0v5 h1v5 v5 ev5 => ?_)
    rw [hix] at ev5
    have hKt : K t = 21 := (hB.i2 hk_2).mp e_A2
    have tv5 : v5.toInt = V t := by rw [← ev5]; exact hvv hKt
    refine hpa_s1 (by rfl) (Or.inl ⟨_, rfl, rfl⟩) rfl ?_
    refine hpa_iload_n (by rfl) rfl ?_
    refine hpa_iload_n (by rfl) rfl ?_
    refine hpj_clt (by rfl) rfl rfl (fun q6 => ?_) (fun q6 => ?_)
    ·
      have hrg : hq_rng V lo hi t o = hq_late 5 t o := by unfold hq_rng; rw [if_neg (fun q => by omega)]
      refine hpa_aload_n (by rfl) rfl ?_
      refine hpa_iconst (by rfl) rfl ?_
      refine hpa_aload_n (by rfl) rfl ?_
      refine hpj_getK (by rfl) (by rfl) (by rfl) rfl ?_
      refine hpa_call0 (by rfl) (by rfl) (by rfl) (by rfl) (by rfl) (by rfl) (hP146 (Int32.ofNat 5) (A.1 367 11) hS hB (hR.mono (Nat.le_succ t)) hnx (Nat.le_refl t) (fun c hc => hmLt hR hc) (Or.inl rfl) (by decide) hk_5) ?_
      rintro _ A7 ⟨rfl, B_A7, R_A7, L_A7, Q_A7⟩
      have f0_A7 := B_A7.2.2.2
      have nx_A7 := B_A7.2.1
      have rd_A7 := R_A7.2.2.1
      refine hpa_aload_n (by rfl) rfl ?_
      refine hpa_call0 (by rfl) (by rfl) (by rfl) (by rfl) (by rfl) (by rfl) (hP147b B_A7 R_A7 (by omega) (hd.trans (hq_must_ok hKt))) ?_
      rintro _ A8 ⟨rfl, (⟨B_A8, R_A8, Q_A8, G_A8⟩ | F_A8)⟩
      ·
        have f0_A8 := B_A8.2.2.2
        have nx_A8 := B_A8.2.1
        have rd_A8 := R_A8.2.2.1
        refine hpa_iload_n (by rfl) rfl ?_
        exact hpa_ireturn (by rfl) rfl (hP _ _ ⟨_, rfl, Or.inl ⟨B_A8, by rw [hrg]; exact R_A8, (Q_A7.trans Q_A8), G_A8, by omega, hKt⟩⟩)
      ·
        have fp_A8 := F_A8.pos
        refine hpa_iload_n (by rfl) rfl ?_
        exact hpa_ireturn (by rfl) rfl (hP _ _ ⟨_, rfl, Or.inr F_A8⟩)
    ·
      refine hpa_iload_n (by rfl) rfl ?_
      refine hpa_iload_n (by rfl) rfl ?_
      refine hpj_cle (by rfl) rfl rfl (fun q9 => ?_) (fun q9 => ?_)
      ·
        have hrg : hq_rng V lo hi t o = o := by unfold hq_rng; rw [if_pos ⟨by omega, by omega⟩]
        refine hpa_aload_n (by rfl) rfl ?_
        refine hpa_call0 (by rfl) (by rfl) (by rfl) (by rfl) (by rfl) (by rfl) (hP147b hB hR (by omega) (hd.trans (hq_must_ok hKt))) ?_
        rintro _ A10 ⟨rfl, (⟨B_A10, R_A10, Q_A10, G_A10⟩ | F_A10)⟩
        ·
          have f0_A10 := B_A10.2.2.2
          have nx_A10 := B_A10.2.1
          have rd_A10 := R_A10.2.2.1
          refine hpa_iload_n (by rfl) rfl ?_
          exact hpa_ireturn (by rfl) rfl (hP _ _ ⟨_, rfl, Or.inl ⟨B_A10, by rw [hrg]; exact R_A10, Q_A10, G_A10, by omega, hKt⟩⟩)
        ·
          have fp_A10 := F_A10.pos
          refine hpa_iload_n (by rfl) rfl ?_
          exact hpa_ireturn (by rfl) rfl (hP _ _ ⟨_, rfl, Or.inr F_A10⟩)
      ·
        have hrg : hq_rng V lo hi t o = hq_late 5 t o := by unfold hq_rng; rw [if_neg (fun q => by omega)]
        refine hpa_aload_n (by rfl) rfl ?_
        refine hpa_iconst (by rfl) rfl ?_
        refine hpa_aload_n (by rfl) rfl ?_
        refine hpj_getK (by rfl) (by rfl) (by rfl) rfl ?_
        refine hpa_call0 (by rfl) (by rfl) (by rfl) (by rfl) (by rfl) (by rfl) (hP146 (Int32.ofNat 5) (A.1 367 11) hS hB (hR.mono (Nat.le_succ t)) hnx (Nat.le_refl t) (fun c hc => hmLt hR hc) (Or.inl rfl) (by decide) hk_5) ?_
        rintro _ A11 ⟨rfl, B_A11, R_A11, L_A11, Q_A11⟩
        have f0_A11 := B_A11.2.2.2
        have nx_A11 := B_A11.2.1
        have rd_A11 := R_A11.2.2.1
        refine hpa_aload_n (by rfl) rfl ?_
        refine hpa_call0 (by rfl) (by rfl) (by rfl) (by rfl) (by rfl) (by rfl) (hP147b B_A11 R_A11 (by omega) (hd.trans (hq_must_ok hKt))) ?_
        rintro _ A12 ⟨rfl, (⟨B_A12, R_A12, Q_A12, G_A12⟩ | F_A12)⟩
        ·
          have f0_A12 := B_A12.2.2.2
          have nx_A12 := B_A12.2.1
          have rd_A12 := R_A12.2.2.1
          refine hpa_iload_n (by rfl) rfl ?_
          exact hpa_ireturn (by rfl) rfl (hP _ _ ⟨_, rfl, Or.inl ⟨B_A12, by rw [hrg]; exact R_A12, (Q_A11.trans Q_A12), G_A12, by omega, hKt⟩⟩)
        ·
          have fp_A12 := F_A12.pos
          refine hpa_iload_n (by rfl) rfl ?_
          exact hpa_ireturn (by rfl) rfl (hP _ _ ⟨_, rfl, Or.inr F_A12⟩)
  ·
    refine hpj_zne (by rfl) rfl (fun q13 => False.elim (by omega)) (fun q13 => ?_)
    refine hpa_aload_n (by rfl) rfl ?_
    refine hpa_iconst (by rfl) rfl ?_
    refine hpa_call0 (by rfl) (by rfl) (by rfl) (by rfl) (by rfl) (by rfl) (hP145 (Int32.ofNat 1) hB ⟨s, hqq, hd.trans (hq_must_no (fun q => ne_A2 ((hB.i2 hk_2).mpr q)))⟩ (by decide) hk_1) ?_
    rintro _ A14 ⟨rfl, F_A14⟩
    have fp_A14 := F_A14.pos
    refine hpa_iload_n (by rfl) rfl ?_
    exact hpa_ireturn (by rfl) rfl (hP _ _ ⟨_, rfl, Or.inr F_A14⟩)
theorem hP155 {g d : Nat} {A : hs_A} {K V S : Nat → Int} {E : Nat → Nat → Bool} {t : Nat} {s s' : hq_S} {ns : List Nat} {sn sd od : Nat} {o : Option (Nat × Nat)} {lo hi : Int} (a1 a2 : Int32) (hS : hmS K S) (ha1 : a1.toInt = lo) (ha2 : a2.toInt = hi) (hB : hmB K V S E A t s) (hR : hmR S A t ns sn o sd od) (hd : hq_dl K V E t s = hq_must K 21 t s') : hpC g d 155 hm_m155 [.ref 368, .int a1, .int a2] A (fun r A' => ∃ z : Int32, r = some (.int z) ∧ ((hmB K V S E A' (t + 1) s' ∧ hmR S A' (t + 1) ns sn (hq_rng V lo hi t o) sd od ∧ hmQ A A' ∧ hg_q K V E (t + 1) = hg_dl K V t s (hg_q K V E t) ∧ z.toInt = V t ∧ K t = 21) ∨ (hmF K V S E A'))) := hpC.all (fun f d => hW155 a1 a2 hS ha1 ha2 hB hR hd (fun r A' h => h))
theorem hW155d {g d f : Nat} {A : hs_A} {K V S : Nat → Int} {E : Nat → Nat → Bool} (a1 a2 : Int32) (hF : hmF K V S E A) {P : Option Value → hs_A → Prop} (hP : ∀ (r : Option Value) (A' : hs_A), (∃ z : Int32, r = some (.int z) ∧ hmF K V S E A') → P r A') : hpa (f, g) d (some (.int)) hm_t155 0 [.ref 368, .int a1, .int a2, .retAddr 0] [] A P := by
  have k1 := hk_1
  have hfp := hF.pos
  refine hpa_aload_n (by rfl) rfl ?_
  refine hpj_getK (by rfl) (by rfl) (by rfl) rfl ?_
  refine hpj_zgt (by rfl) rfl (fun q1 => ?_) (fun q1 => False.elim (by omega))
  refine hpa_aload_n (by rfl) rfl ?_
  refine hpa_iconst (by rfl) rfl ?_
  refine hpa_call0 (by rfl) (by rfl) (by rfl) (by rfl) (by rfl) (by rfl) (hP145d (Int32.ofNat 1) hF) ?_
  rintro _ _ ⟨rfl, rfl⟩
  refine hpa_iload_n (by rfl) rfl ?_
  exact hpa_ireturn (by rfl) rfl (hP _ _ ⟨_, rfl, hF⟩)
theorem hP155d {g d : Nat} {A : hs_A} {K V S : Nat → Int} {E : Nat → Nat → Bool} (a1 a2 : Int32) (hF : hmF K V S E A) : hpC g d 155 hm_m155 [.ref 368, .int a1, .int a2] A (fun r A' => ∃ z : Int32, r = some (.int z) ∧ hmF K V S E A') := hpC.all (fun f d => hW155d a1 a2 hF (fun r A' h => h))
theorem hW153 {g d f : Nat} {A : hs_A} {K V S : Nat → Int} {E : Nat → Nat → Bool} {t : Nat} {s s1 s2 s3 : hq_S} {ns : List Nat} {sn sd od : Nat} {o : Option (Nat × Nat)} {lo hi : Int} (a1 a2 : Int32) (hS : hmS K S) (ha1 : a1.toInt = lo) (ha2 : a2.toInt = hi) (hB : hmB K V S E A t s) (hR : hmR S A t ns sn o sd od) (h1 : hq_dl K V E t s = hq_go t s1) (h2 : hq_dl K V E (t + 1) s1 = hq_must K 21 (t + 1) s2) (h3 : hq_dl K V E (t + 1 + 1) s2 = hq_must K 24 (t + 1 + 1) s3) {P : Option Value → hs_A → Prop} (hP : ∀ (r : Option Value) (A' : hs_A), (∃ z : Int32, r = some (.int z) ∧ ((hmB K V S E A' (t + 1 + 1 + 1) s3 ∧ hmR S A' (t + 1 + 1 + 1) ns sn (hq_rng V lo hi (t + 1) o) sd od ∧ hmQ A A' ∧ hg_q K V E (t + 1 + 1 + 1) = hg_dl K V (t + 1 + 1) s2 (hg_dl K V (t + 1) s1 (hg_dl K V t s (hg_q K V E t))) ∧ z.toInt = V (t + 1)) ∨ (hmF K V S E A'))) → P r A') : hpa (f, g) d (some (.int)) hm_t153 0 [.ref 368, .int a1, .int a2, .retAddr 0] [] A P := by
  have k4 := hk_4
  obtain ⟨h400, hpre, hix, hkk, hss, hvv⟩ := hB.at
  have hnx := hB.2.1
  have hqq := hB.2.2.1
  have hf0 := hB.2.2.2
  refine hpa_aload_n (by rfl) rfl ?_
  refine hpa_call0 (by rfl) (by rfl) (by rfl) (by rfl) (by rfl) (by rfl) (hP147 hB hR h1) ?_
  rintro _ A1 ⟨rfl, (⟨B_A1, R_A1, Q_A1, G_A1⟩ | F_A1)⟩
  ·
    have f0_A1 := B_A1.2.2.2
    have nx_A1 := B_A1.2.1
    have rd_A1 := R_A1.2.2.1
    refine hpa_aload_n (by rfl) rfl ?_
    refine hpa_iload_n (by rfl) rfl ?_
    refine hpa_iload_n (by rfl) rfl ?_
    refine hpa_call0 (by rfl) (by rfl) (by rfl) (by rfl) (by rfl) (by rfl) (hP155 a1 a2 hS ha1 ha2 B_A1 R_A1 h2) ?_
    rintro _ A2 ⟨z3, rfl, (⟨B_A2, R_A2, Q_A2, G_A2, VV_A2⟩ | F_A2)⟩
    ·
      have f0_A2 := B_A2.2.2.2
      have nx_A2 := B_A2.2.1
      have rd_A2 := R_A2.2.2.1
      refine hpa_s1 (by rfl) (Or.inl ⟨_, rfl, rfl⟩) rfl ?_
      refine hpa_aload_n (by rfl) rfl ?_
      refine hpa_iconst (by rfl) rfl ?_
      refine hpa_call0 (by rfl) (by rfl) (by rfl) (by rfl) (by rfl) (by rfl) (hP148 (Int32.ofNat 4) B_A2 R_A2 (B_A2.i4 hk_4) h3) ?_
      rintro _ A4 ⟨rfl, (⟨B_A4, R_A4, Q_A4, G_A4⟩ | F_A4)⟩
      ·
        have f0_A4 := B_A4.2.2.2
        have nx_A4 := B_A4.2.1
        have rd_A4 := R_A4.2.2.1
        refine hpa_iload_n (by rfl) rfl ?_
        exact hpa_ireturn (by rfl) rfl (hP _ _ ⟨_, rfl, Or.inl ⟨B_A4, R_A4, ((Q_A1.trans Q_A2).trans Q_A4), by rw [G_A4, G_A2, G_A1], VV_A2.1⟩⟩)
      ·
        have fp_A4 := F_A4.pos
        refine hpa_iload_n (by rfl) rfl ?_
        exact hpa_ireturn (by rfl) rfl (hP _ _ ⟨_, rfl, Or.inr F_A4⟩)
    ·
      have fp_A2 := F_A2.pos
      refine hpa_s1 (by rfl) (Or.inl ⟨_, rfl, rfl⟩) rfl ?_
      refine hpa_aload_n (by rfl) rfl ?_
      refine hpa_iconst (by rfl) rfl ?_
      refine hpa_call0 (by rfl) (by rfl) (by rfl) (by rfl) (by rfl) (by rfl) (hP148d (Int32.ofNat 4) F_A2) ?_
      rintro _ A5 ⟨rfl, F_A5⟩
      have fp_A5 := F_A5.pos
      refine hpa_iload_n (by rfl) rfl ?_
      exact hpa_ireturn (by rfl) rfl (hP _ _ ⟨_, rfl, Or.inr F_A5⟩)
  ·
    have fp_A1 := F_A1.pos
    refine hpa_aload_n (by rfl) rfl ?_
    refine hpa_iload_n (by rfl) rfl ?_
    refine hpa_iload_n (by rfl) rfl ?_
    refine hpa_call0 (by rfl) (by rfl) (by rfl) (by rfl) (by rfl) (by rfl) (hP155d a1 a2 F_A1) ?_
    rintro _ A6 ⟨z7, rfl, F_A6⟩
    have fp_A6 := F_A6.pos
    refine hpa_s1 (by rfl) (Or.inl ⟨_, rfl, rfl⟩) rfl ?_
    refine hpa_aload_n (by rfl) rfl ?_
    refine hpa_iconst (by rfl) rfl ?_
    refine hpa_call0 (by rfl) (by rfl) (by rfl) (by rfl) (by rfl) (by rfl) (hP148d (Int32.ofNat 4) F_A6) ?_
    rintro _ A8 ⟨rfl, F_A8⟩
    have fp_A8 := F_A8.pos
    refine hpa_iload_n (by rfl) rfl ?_
    exact hpa_ireturn (by rfl) rfl (hP _ _ ⟨_, rfl, Or.inr F_A8⟩)
theorem hP153 {g d : Nat} {A : hs_A} {K V S : Nat → Int} {E : Nat → Nat → Bool} {t : Nat} {s s1 s2 s3 : hq_S} {ns : List Nat} {sn sd od : Nat} {o : Option (Nat × Nat)} {lo hi : Int} (a1 a2 : Int32) (hS : hmS K S) (ha1 : a1.toInt = lo) (ha2 : a2.toInt = hi) (hB : hmB K V S E A t s) (hR : hmR S A t ns sn o sd od) (h1 : hq_dl K V E t s = hq_go t s1) (h2 : hq_dl K V E (t + 1) s1 = hq_must K 21 (t + 1) s2) (h3 : hq_dl K V E (t + 1 + 1) s2 = hq_must K 24 (t + 1 + 1) s3) : hpC g d 153 hm_m153 [.ref 368, .int a1, .int a2] A (fun r A' => ∃ z : Int32, r = some (.int z) ∧ ((hmB K V S E A' (t + 1 + 1 + 1) s3 ∧ hmR S A' (t + 1 + 1 + 1) ns sn (hq_rng V lo hi (t + 1) o) sd od ∧ hmQ A A' ∧ hg_q K V E (t + 1 + 1 + 1) = hg_dl K V (t + 1 + 1) s2 (hg_dl K V (t + 1) s1 (hg_dl K V t s (hg_q K V E t))) ∧ z.toInt = V (t + 1)) ∨ (hmF K V S E A'))) := hpC.all (fun f d => hW153 a1 a2 hS ha1 ha2 hB hR h1 h2 h3 (fun r A' h => h))
