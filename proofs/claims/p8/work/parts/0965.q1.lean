theorem hW78 {g d f : Nat} {A : hs_A} (a1 a2 a3 : Int32) {P : Option Value → hs_A → Prop} (hP : ∀ (r : Option Value) (A' : hs_A), (A = A' ∧ ∃ z : Int32, r = some (.int z) ∧ ((z.toInt = 1 ∧ a2.toInt ≤ a1.toInt ∧ a1.toInt ≤ a3.toInt) ∨ (z.toInt = 0 ∧ ¬ (a2.toInt ≤ a1.toInt ∧ a1.toInt ≤ a3.toInt)))) → P r A') : hpa (f, g) d (some (.boolean)) hm_t78 0 [.int a1, .int a2, .int a3] [] A P := by
  have k0 := hk_0
  have k1 := hk_1
  refine hpa_iload_n (by rfl) rfl ?_
  refine hpa_iload_n (by rfl) rfl ?_
  refine hpj_clt (by rfl) rfl rfl (fun q1 => ?_) (fun q1 => ?_)
  ·
    refine hpa_iconst (by rfl) rfl ?_
    exact hpa_ireturn (by rfl) (by rfl) (hP _ _ ⟨rfl, _, rfl, Or.inr ⟨hk_0, by omega⟩⟩)
  ·
    refine hpa_iload_n (by rfl) rfl ?_
    refine hpa_iload_n (by rfl) rfl ?_
    refine hpj_cgt (by rfl) rfl rfl (fun q2 => ?_) (fun q2 => ?_)
    ·
      refine hpa_iconst (by rfl) rfl ?_
      exact hpa_ireturn (by rfl) (by rfl) (hP _ _ ⟨rfl, _, rfl, Or.inr ⟨hk_0, by omega⟩⟩)
    ·
      refine hpa_iconst (by rfl) rfl ?_
      refine hpa_goto (by rfl) ?_
      exact hpa_ireturn (by rfl) (by rfl) (hP _ _ ⟨rfl, _, rfl, Or.inl ⟨hk_1, by omega, by omega⟩⟩)
theorem hP78 {g d : Nat} {A : hs_A} (a1 a2 a3 : Int32) : hpC g d 78 hm_m78 [.int a1, .int a2, .int a3] A (fun r A' => A = A' ∧ ∃ z : Int32, r = some (.int z) ∧ ((z.toInt = 1 ∧ a2.toInt ≤ a1.toInt ∧ a1.toInt ≤ a3.toInt) ∨ (z.toInt = 0 ∧ ¬ (a2.toInt ≤ a1.toInt ∧ a1.toInt ≤ a3.toInt)))) := hpC.all (fun f d => hW78 a1 a2 a3 (fun r A' h => h))
theorem hW38 {g d f : Nat} {A : hs_A} {K V S : Nat → Int} {E : Nat → Nat → Bool} {T : Nat} {t : Nat} {s : hq_S} (hT : hTT T) (hB : hcB K V S E T A t s) {P : Option Value → hs_A → Prop} (hP : ∀ (r : Option Value) (A' : hs_A), (A = A' ∧ ∃ z : Int32, r = some (.int z) ∧ z.toInt = K t) → P r A') : hpa (f, g) d (some (.int)) hm_t38 0 [.ref 21] [] A P := by
  have hT9 : T ≤ 11 := by rcases hT with rfl | rfl <;> omega
  obtain ⟨h400, hpre, hix, hkk, hss, hsz, hvv⟩ := hB.at
  have hnx := hB.2.2.1
  have hqq := hB.2.2.2.1
  refine hpa_aload_n (by rfl) rfl ?_
  refine hpj_getK (by rfl) (by rfl) (by rfl) rfl ?_
  refine hpa_aload_n (by rfl) rfl ?_
  refine hpa_get (v := .ref 22) (by rfl) (by rfl) (by rfl) rfl ?_
  refine hpj_getK (by rfl) (by rfl) (by rfl) rfl ?_
  refine hpj_cge (by rfl) rfl rfl (fun q1 => False.elim (by omega)) (fun q1 => ?_)
  refine hpa_aload_n (by rfl) rfl ?_
  refine hpa_get (v := .ref 22) (by rfl) (by rfl) (by rfl) rfl ?_
  refine hpa_get (v := .ref 23) (by rfl) (by rfl) (by rfl) rfl ?_
  refine hpa_aload_n (by rfl) rfl ?_
  refine hpj_getK (by rfl) (by rfl) (by rfl) rfl ?_
  refine hpx_iald (by rfl) (by rfl) (fun h0v2 h1v2 v2 ev2 => ?_)
  rw [hix] at ev2
  refine hpa_goto (by rfl) ?_
  exact hpa_ireturn (by rfl) rfl (hP _ _ ⟨rfl, _, rfl, by rw [← ev2]; exact hkk⟩)
theorem hP38 {g d : Nat} {A : hs_A} {K V S : Nat → Int} {E : Nat → Nat → Bool} {T : Nat} {t : Nat} {s : hq_S} (hT : hTT T) (hB : hcB K V S E T A t s) : hpC g d 38 hm_m38 [.ref 21] A (fun r A' => A = A' ∧ ∃ z : Int32, r = some (.int z) ∧ z.toInt = K t) := hpC.all (fun f d => hW38 hT hB (fun r A' h => h))
theorem hW39 {g d f : Nat} {A : hs_A} {K V S : Nat → Int} {E : Nat → Nat → Bool} {T : Nat} {t k : Nat} {s : hq_S} (hT : hTT T) (a1 : Int32) (hB : hcB K V S E T A t s) (hf : hq_f K V E t k) (hk0 : k ≠ 0) (ha : a1.toInt = (k : Int)) {P : Option Value → hs_A → Prop} (hP : ∀ (r : Option Value) (A' : hs_A), (∃ z : Int32, r = some (.int z) ∧ z.toInt = 0 ∧ hcF K V S E T A') → P r A') : hpa (f, g) d (some (.boolean)) hm_t39 0 [.ref 21, .int a1] [] A P := by
  have k0 := hk_0
  have k400 := hk_400
  have hT9 : T ≤ 11 := by rcases hT with rfl | rfl <;> omega
  obtain ⟨h400, hpre, hix, hkk, hss, hsz, hvv⟩ := hB.at
  have hnx := hB.2.2.1
  have hqq := hB.2.2.2.1
  refine hpa_aload_n (by rfl) rfl ?_
  refine hpa_iload_n (by rfl) rfl ?_
  refine hpj_putI (by rfl) (by rfl) (by rfl) (by rfl) (fun A1 eA1 fA1 => ?_)
  refine hpa_aload_n (by rfl) rfl ?_
  refine hpa_aload_n (by rfl) rfl ?_
  refine hpj_getK (by rfl) (by rfl) (by rfl) (hkF eA1 (by omega) rfl) ?_
  refine hpa_sipush (by rfl) rfl ?_
  refine hpj_cgt (by rfl) rfl hk_400 (fun q2 => False.elim (by omega)) (fun q2 => ?_)
  refine hpa_aload_n (by rfl) rfl ?_
  refine hpa_get (v := .ref 22) (by rfl) (by rfl) (by rfl) rfl ?_
  refine hpa_get (v := .ref 25) (by rfl) (by rfl) (by rfl) rfl ?_
  refine hpa_aload_n (by rfl) rfl ?_
  refine hpj_getK (by rfl) (by rfl) (by rfl) (hkF eA1 (by omega) rfl) ?_
  refine hpx_iald (by rfl) (by rfl) (fun h0v3 h1v3 v3 ev3 => ?_)
  rw [fA1, hix] at ev3
  refine hpa_goto (by rfl) ?_
  refine hpj_putI (by rfl) (by rfl) (by rfl) (by rfl) (fun A4 eA4 fA4 => ?_)
  refine hpa_iconst (by rfl) rfl ?_
  exact hpa_ireturn (by rfl) (by rfl) (hP _ _ ⟨_, rfl, hk_0, by rw [fA4, fA1]; exact hB.1, hB.2.1.2.2.fr (by rw [fA4, fA1]), _, _, hf, hk0, (congrArg Int32.toInt (show A4.1 20 5 = a1 from (hkF eA4 (by omega) (hkS eA1)))).trans ha, (congrArg Int32.toInt (show A4.1 20 6 = v3 from (hkS eA4))).trans (by rw [← ev3]; exact hss)⟩)
theorem hP39 {g d : Nat} {A : hs_A} {K V S : Nat → Int} {E : Nat → Nat → Bool} {T : Nat} {t k : Nat} {s : hq_S} (hT : hTT T) (a1 : Int32) (hB : hcB K V S E T A t s) (hf : hq_f K V E t k) (hk0 : k ≠ 0) (ha : a1.toInt = (k : Int)) : hpC g d 39 hm_m39 [.ref 21, .int a1] A (fun r A' => ∃ z : Int32, r = some (.int z) ∧ z.toInt = 0 ∧ hcF K V S E T A') := hpC.all (fun f d => hW39 hT a1 hB hf hk0 ha (fun r A' h => h))
theorem hW40 {g d f : Nat} {A : hs_A} {K V S : Nat → Int} {E : Nat → Nat → Bool} {T : Nat} {t : Nat} {s : hq_S} {ns : List Nat} {p : Option Nat} {sn : Nat} {o : Option (Nat × Nat)} {dd : hg_D} {fl : hg_C} {zz : Nat} {c : Nat} (hT : hTT T) (a1 : Int32) (hB : hcB K V S E T A t s) (hR : hcR2 V S T A ns p sn o dd fl zz) (hc : c ≠ 0) (ha : a1.toInt = (c : Int)) {P : Option Value → hs_A → Prop} (hP : ∀ (r : Option Value) (A' : hs_A), (r = none ∧ (hcB K V S E T A' t s ∧ hcR2 V S T A' ns p sn (hq_late c t o) dd fl zz ∧ A'.2.2.1 = A.2.2.1 ∧ A'.1 20 4 = A.1 20 4)) → P r A') : hpa (f, g) d none hm_t40 0 [.ref 21, .int a1] [] A P := by
  have k400 := hk_400
  have hT9 : T ≤ 11 := by rcases hT with rfl | rfl <;> omega
  obtain ⟨h400, hpre, hix, hkk, hss, hsz, hvv⟩ := hB.at
  have hnx := hB.2.2.1
  have hqq := hB.2.2.2.1
  refine hpa_aload_n (by rfl) rfl ?_
  refine hpj_getK (by rfl) (by rfl) (by rfl) rfl ?_
  refine hpj_zne (by rfl) rfl (fun q1 => ?_) (fun q1 => ?_)
  ·
    exact hpa_return (by rfl) rfl (hP _ _ ⟨rfl, hB, hR.late0 q1, rfl, rfl⟩)
  ·
    refine hpa_aload_n (by rfl) rfl ?_
    refine hpj_getK (by rfl) (by rfl) (by rfl) rfl ?_
    refine hpa_sipush (by rfl) rfl ?_
    refine hpj_cgt (by rfl) rfl hk_400 (fun q2 => False.elim (by omega)) (fun q2 => ?_)
    refine hpa_aload_n (by rfl) rfl ?_
    refine hpa_iload_n (by rfl) rfl ?_
    refine hpj_putI (by rfl) (by rfl) (by rfl) (by rfl) (fun A3 eA3 fA3 => ?_)
    refine hpa_aload_n (by rfl) rfl ?_
    refine hpa_aload_n (by rfl) rfl ?_
    refine hpa_get (v := .ref 22) (by rfl) (by rfl) (by rfl) rfl ?_
    refine hpa_get (v := .ref 25) (by rfl) (by rfl) (by rfl) rfl ?_
    refine hpa_aload_n (by rfl) rfl ?_
    refine hpj_getK (by rfl) (by rfl) (by rfl) (hkF eA3 (by omega) rfl) ?_
    refine hpx_iald (by rfl) (by rfl) (fun h0v4 h1v4 v4 ev4 => ?_)
    rw [fA3, hix] at ev4
    refine hpj_putI (by rfl) (by rfl) (by rfl) (by rfl) (fun A5 eA5 fA5 => ?_)
    exact hpa_return (by rfl) rfl (hP _ _ ⟨rfl, (hB.up eA3 fA3 (by omega) (by omega) (by omega)).up eA5 fA5 (by omega) (by omega) (by omega), hR.late hT9 eA3 fA3 eA5 fA5 q1 ha (by rw [← ev4]; exact hss) hc, by rw [fA5, fA3], by rw [eA5, hup2 (by omega), eA3, hup2 (by omega)]⟩)
theorem hP40 {g d : Nat} {A : hs_A} {K V S : Nat → Int} {E : Nat → Nat → Bool} {T : Nat} {t : Nat} {s : hq_S} {ns : List Nat} {p : Option Nat} {sn : Nat} {o : Option (Nat × Nat)} {dd : hg_D} {fl : hg_C} {zz : Nat} {c : Nat} (hT : hTT T) (a1 : Int32) (hB : hcB K V S E T A t s) (hR : hcR2 V S T A ns p sn o dd fl zz) (hc : c ≠ 0) (ha : a1.toInt = (c : Int)) : hpC g d 40 hm_m40 [.ref 21, .int a1] A (fun r A' => r = none ∧ (hcB K V S E T A' t s ∧ hcR2 V S T A' ns p sn (hq_late c t o) dd fl zz ∧ A'.2.2.1 = A.2.2.1 ∧ A'.1 20 4 = A.1 20 4)) := hpC.all (fun f d => hW40 hT a1 hB hR hc ha (fun r A' h => h))
theorem hW41 {g d f : Nat} {A : hs_A} {K V S : Nat → Int} {E : Nat → Nat → Bool} {T : Nat} {t : Nat} {s s' : hq_S} {ns : List Nat} {p : Option Nat} {sn : Nat} {o : Option (Nat × Nat)} {dd : hg_D} {fl : hg_C} {zz : Nat} (hT : hTT T) (hB : hcB K V S E T A t s) (hR : hcR2 V S T A ns p sn o dd fl zz) (hd : hq_dl K V E t s = hq_go t s') {P : Option Value → hs_A → Prop} (hP : ∀ (r : Option Value) (A' : hs_A), (∃ z : Int32, r = some (.int z) ∧ ((z.toInt = 1 ∧ hcB K V S E T A' (t + 1) s' ∧ hcR2 V S T A' ns p sn o dd fl zz ∧ hg_q K V E (t + 1) = hg_dl K V t s (hg_q K V E t) ∧ A'.1 20 4 = A.1 20 4) ∨ (z.toInt = 0 ∧ hcF K V S E T A'))) → P r A') : hpa (f, g) d (some (.boolean)) hm_t41 0 [.ref 21] [] A P := by
  have k0 := hk_0
  have k1 := hk_1
  have k2 := hk_2
  have k400 := hk_400
  have hT9 : T ≤ 11 := by rcases hT with rfl | rfl <;> omega
  obtain ⟨h400, hpre, hix, hkk, hss, hsz, hvv⟩ := hB.at
  have hnx := hB.2.2.1
  have hqq := hB.2.2.2.1
  refine hpa_aload_n (by rfl) rfl ?_
  refine hpj_getK (by rfl) (by rfl) (by rfl) rfl ?_
  refine hpa_sipush (by rfl) rfl ?_
  refine hpj_clt (by rfl) rfl hk_400 (fun q1 => ?_) (fun q1 => ?_)
  ·
    refine hpa_aload_n (by rfl) rfl ?_
    refine hpa_dupR (by rfl) ?_
    refine hpj_getK (by rfl) (by rfl) (by rfl) rfl ?_
    refine hpa_iconst (by rfl) rfl ?_
    refine hpj_iadd (by rfl) rfl hk_1 (by omega) (by omega) (fun z2 ez2 => ?_)
    refine hpj_putI (by rfl) (by rfl) (by rfl) (by rfl) (fun A3 eA3 fA3 => ?_)
    refine hpa_iconst (by rfl) rfl ?_
    exact hpa_ireturn (by rfl) (by rfl) (hP _ _ ⟨_, rfl, Or.inl ⟨hk_1, hB.step (hd.trans (hq_go_lt (by omega))) eA3 fA3 (by omega), hR.up eA3 fA3 (by omega) (by omega), hg_next hqq, by rw [eA3, hup2 (by omega)]⟩⟩)
  ·
    refine hpa_aload_n (by rfl) rfl ?_
    refine hpa_iconst (by rfl) rfl ?_
    refine hpj_putI (by rfl) (by rfl) (by rfl) (by rfl) (fun A4 eA4 fA4 => ?_)
    refine hpa_aload_n (by rfl) rfl ?_
    refine hpa_aload_n (by rfl) rfl ?_
    refine hpa_get (v := .ref 22) (by rfl) (by rfl) (by rfl) rfl ?_
    refine hpa_get (v := .ref 25) (by rfl) (by rfl) (by rfl) rfl ?_
    refine hpa_sipush (by rfl) rfl ?_
    refine hpx_iald (by rfl) (by rfl) (fun h0v5 h1v5 v5 ev5 => ?_)
    have h4t : (Int32.ofNat 400).toNatClampNeg = t := by
      have : (Int32.ofNat 400).toNatClampNeg = 400 := by decide
      omega
    rw [fA4, h4t] at ev5
    refine hpj_putI (by rfl) (by rfl) (by rfl) (by rfl) (fun A6 eA6 fA6 => ?_)
    refine hpa_iconst (by rfl) rfl ?_
    exact hpa_ireturn (by rfl) (by rfl) (hP _ _ ⟨_, rfl, Or.inr ⟨hk_0, by rw [fA6, fA4]; exact hB.1, hB.2.1.2.2.fr (by rw [fA6, fA4]), t, 2, ⟨s, hqq, hd.trans (hq_go_ge (by omega))⟩, by decide, (congrArg Int32.toInt (show A6.1 20 5 = (Int32.ofNat 2) from (hkF eA6 (by omega) (hkS eA4)))).trans hk_2, (congrArg Int32.toInt (show A6.1 20 6 = v5 from (hkS eA6))).trans (by rw [← ev5]; exact hss)⟩⟩)
theorem hP41 {g d : Nat} {A : hs_A} {K V S : Nat → Int} {E : Nat → Nat → Bool} {T : Nat} {t : Nat} {s s' : hq_S} {ns : List Nat} {p : Option Nat} {sn : Nat} {o : Option (Nat × Nat)} {dd : hg_D} {fl : hg_C} {zz : Nat} (hT : hTT T) (hB : hcB K V S E T A t s) (hR : hcR2 V S T A ns p sn o dd fl zz) (hd : hq_dl K V E t s = hq_go t s') : hpC g d 41 hm_m41 [.ref 21] A (fun r A' => ∃ z : Int32, r = some (.int z) ∧ ((z.toInt = 1 ∧ hcB K V S E T A' (t + 1) s' ∧ hcR2 V S T A' ns p sn o dd fl zz ∧ hg_q K V E (t + 1) = hg_dl K V t s (hg_q K V E t) ∧ A'.1 20 4 = A.1 20 4) ∨ (z.toInt = 0 ∧ hcF K V S E T A'))) := hpC.all (fun f d => hW41 hT hB hR hd (fun r A' h => h))
theorem hW42 {g d f : Nat} {A : hs_A} {K V S : Nat → Int} {E : Nat → Nat → Bool} {T : Nat} {t : Nat} {s s' : hq_S} {ns : List Nat} {p : Option Nat} {sn : Nat} {o : Option (Nat × Nat)} {dd : hg_D} {fl : hg_C} {zz : Nat} {w : Int} (hT : hTT T) (a1 : Int32) (hB : hcB K V S E T A t s) (hR : hcR2 V S T A ns p sn o dd fl zz) (ha : a1.toInt = w) (hd : hq_dl K V E t s = hq_must K w t s') {P : Option Value → hs_A → Prop} (hP : ∀ (r : Option Value) (A' : hs_A), (∃ z : Int32, r = some (.int z) ∧ ((z.toInt = 1 ∧ hcB K V S E T A' (t + 1) s' ∧ hcR2 V S T A' ns p sn o dd fl zz ∧ hg_q K V E (t + 1) = hg_dl K V t s (hg_q K V E t) ∧ A'.1 20 4 = A.1 20 4) ∨ (z.toInt = 0 ∧ hcF K V S E T A'))) → P r A') : hpa (f, g) d (some (.boolean)) hm_t42 0 [.ref 21, .int a1] [] A P := by
  have k1 := hk_1
  have hT9 : T ≤ 11 := by rcases hT with rfl | rfl <;> omega
  obtain ⟨h400, hpre, hix, hkk, hss, hsz, hvv⟩ := hB.at
  have hnx := hB.2.2.1
  have hqq := hB.2.2.2.1
  refine hpa_aload_n (by rfl) rfl ?_
  refine hpa_call0 (by rfl) (by rfl) (by rfl) (by rfl) (by rfl) (by rfl) (hP38 hT hB) ?_
  rintro _ _ ⟨rfl, z2, rfl, fz_A1⟩
  refine hpa_iload_n (by rfl) rfl ?_
  refine hpj_cne (by rfl) rfl rfl (fun q3 => ?_) (fun q3 => ?_)
  ·
    refine hpa_aload_n (by rfl) rfl ?_
    refine hpa_iconst (by rfl) rfl ?_
    refine hpa_call0 (by rfl) (by rfl) (by rfl) (by rfl) (by rfl) (by rfl) (hP39 hT (Int32.ofNat 1) hB ⟨s, hqq, hd.trans (hq_must_no (by omega))⟩ (by decide) hk_1) ?_
    rintro _ A4 ⟨z5, rfl, fz_A4, F_A4⟩
    exact hpa_ireturn (by rfl) (hn_fitB (by omega) (by omega)) (hP _ _ ⟨_, rfl, Or.inr ⟨fz_A4, F_A4⟩⟩)
  ·
    refine hpa_aload_n (by rfl) rfl ?_
    refine hpa_call0 (by rfl) (by rfl) (by rfl) (by rfl) (by rfl) (by rfl) (hP41 hT hB hR (hd.trans (hq_must_ok (by omega)))) ?_
    rintro _ A6 ⟨z7, rfl, (⟨fz_A6, B_A6, R_A6, G_A6, N_A6⟩ | ⟨fz_A6, F_A6⟩)⟩
    ·
      refine hpa_goto (by rfl) ?_
      exact hpa_ireturn (by rfl) (hn_fitB (by omega) (by omega)) (hP _ _ ⟨_, rfl, Or.inl ⟨fz_A6, B_A6, R_A6, G_A6, N_A6⟩⟩)
    ·
      refine hpa_goto (by rfl) ?_
      exact hpa_ireturn (by rfl) (hn_fitB (by omega) (by omega)) (hP _ _ ⟨_, rfl, Or.inr ⟨fz_A6, F_A6⟩⟩)
theorem hP42 {g d : Nat} {A : hs_A} {K V S : Nat → Int} {E : Nat → Nat → Bool} {T : Nat} {t : Nat} {s s' : hq_S} {ns : List Nat} {p : Option Nat} {sn : Nat} {o : Option (Nat × Nat)} {dd : hg_D} {fl : hg_C} {zz : Nat} {w : Int} (hT : hTT T) (a1 : Int32) (hB : hcB K V S E T A t s) (hR : hcR2 V S T A ns p sn o dd fl zz) (ha : a1.toInt = w) (hd : hq_dl K V E t s = hq_must K w t s') : hpC g d 42 hm_m42 [.ref 21, .int a1] A (fun r A' => ∃ z : Int32, r = some (.int z) ∧ ((z.toInt = 1 ∧ hcB K V S E T A' (t + 1) s' ∧ hcR2 V S T A' ns p sn o dd fl zz ∧ hg_q K V E (t + 1) = hg_dl K V t s (hg_q K V E t) ∧ A'.1 20 4 = A.1 20 4) ∨ (z.toInt = 0 ∧ hcF K V S E T A'))) := hpC.all (fun f d => hW42 hT a1 hB hR ha hd (fun r A' h => h))
theorem hW43 {g d f : Nat} {A : hs_A} {K V S : Nat → Int} {E : Nat → Nat → Bool} {T : Nat} {t : Nat} {s s' : hq_S} {ns : List Nat} {p : Option Nat} {sn : Nat} {o : Option (Nat × Nat)} {dd : hg_D} {fl : hg_C} {zz : Nat} {lo hi : Int} (hT : hTT T) (a1 a2 : Int32) (ha1 : a1.toInt = lo) (ha2 : a2.toInt = hi) (hB : hcB K V S E T A t s) (hR : hcR2 V S T A ns p sn o dd fl zz) (hd : hq_dl K V E t s = hq_must K 21 t s') {P : Option Value → hs_A → Prop} (hP : ∀ (r : Option Value) (A' : hs_A), (∃ z : Int32, r = some (.int z) ∧ ((z.toInt = 1 ∧ hcB K V S E T A' (t + 1) s' ∧ hcR2 V S T A' ns p sn (hq_rng V lo hi t o) dd fl zz ∧ hg_q K V E (t + 1) = hg_dl K V t s (hg_q K V E t) ∧ (A'.1 20 4).toInt = V t ∧ K t = 21) ∨ (z.toInt = 0 ∧ hcF K V S E T A'))) → P r A') : hpa (f, g) d (some (.boolean)) hm_t43 0 [.ref 21, .int a1, .int a2] [] A P := by
  have k1 := hk_1
  have k21 := hk_21
  have k5 := hk_5
  have hT9 : T ≤ 11 := by rcases hT with rfl | rfl <;> omega
  obtain ⟨h400, hpre, hix, hkk, hss, hsz, hvv⟩ := hB.at
  have hnx := hB.2.2.1
  have hqq := hB.2.2.2.1
  refine hpa_aload_n (by rfl) rfl ?_
  refine hpa_call0 (by rfl) (by rfl) (by rfl) (by rfl) (by rfl) (by rfl) (hP38 hT hB) ?_
  rintro _ _ ⟨rfl, z2, rfl, fz_A1⟩
  refine hpa_bipush (by rfl) rfl ?_
  refine hpj_ceq (by rfl) rfl hk_21 (fun q3 => ?_) (fun q3 => ?_)
  ·
    refine hpa_aload_n (by rfl) rfl ?_
    refine hpa_aload_n (by rfl) rfl ?_
    refine hpa_get (v := .ref 22) (by rfl) (by rfl) (by rfl) rfl ?_
    refine hpa_get (v := .ref 24) (by rfl) (by rfl) (by rfl) rfl ?_
    refine hpa_aload_n (by rfl) rfl ?_
    refine hpj_getK (by rfl) (by rfl) (by rfl) rfl ?_
    refine hpx_lald (by rfl) (by rfl) (fun h0v4 h1v4 v4 ev4 => ?_)
    rw [hix] at ev4
    have hval : (v4).toInt32.toInt = V t := by rw [← ev4]; exact hvv (by omega)
    refine hpa_l2i (by rfl) ?_
    refine hpj_putI (by rfl) (by rfl) (by rfl) (by rfl) (fun A5 eA5 fA5 => ?_)
    have BA5 := hB.up eA5 fA5 (by omega) (by omega) (by omega)
    have RA5 := hR.up eA5 fA5 (by omega) (by omega)
    refine hpa_aload_n (by rfl) rfl ?_
    refine hpj_getK (by rfl) (by rfl) (by rfl) (hkS eA5) ?_
    refine hpa_iload_n (by rfl) rfl ?_
    refine hpa_iload_n (by rfl) rfl ?_
    refine hpa_call2 (by rfl) (by decide) (by rfl) (by rfl) (by rfl) (hP78 (v4).toInt32 a1 a2) ?_
    rintro _ _ ⟨rfl, z7, rfl, (⟨fz_A6, lo_A6, hi_A6⟩ | ⟨fz_A6, no_A6⟩)⟩
    ·
      have hrg : hq_rng V lo hi t o = o := by unfold hq_rng; rw [if_pos ⟨by omega, by omega⟩]
      refine hpj_zne (by rfl) rfl (fun q8 => ?_) (fun q8 => False.elim (by omega))
      refine hpa_aload_n (by rfl) rfl ?_
      refine hpa_call0 (by rfl) (by rfl) (by rfl) (by rfl) (by rfl) (by rfl) (hP41 hT BA5 RA5 (hd.trans (hq_must_ok (by omega)))) ?_
      rintro _ A9 ⟨z10, rfl, (⟨fz_A9, B_A9, R_A9, G_A9, N_A9⟩ | ⟨fz_A9, F_A9⟩)⟩
      ·
        exact hpa_ireturn (by rfl) (hn_fitB (by omega) (by omega)) (hP _ _ ⟨_, rfl, Or.inl ⟨fz_A9, B_A9, by rw [hrg]; exact R_A9, G_A9, by rw [N_A9, eA5, hup1]; exact hval, by omega⟩⟩)
      ·
        exact hpa_ireturn (by rfl) (hn_fitB (by omega) (by omega)) (hP _ _ ⟨_, rfl, Or.inr ⟨fz_A9, F_A9⟩⟩)
    ·
      have hrg : hq_rng V lo hi t o = hq_late 5 t o := by unfold hq_rng; rw [if_neg (fun q => by omega)]
      refine hpj_zne (by rfl) rfl (fun q11 => False.elim (by omega)) (fun q11 => ?_)
      refine hpa_aload_n (by rfl) rfl ?_
      refine hpa_iconst (by rfl) rfl ?_
      refine hpa_call0 (by rfl) (by rfl) (by rfl) (by rfl) (by rfl) (by rfl) (hP40 hT (Int32.ofNat 5) BA5 RA5 (by decide) hk_5) ?_
      rintro _ A12 ⟨rfl, B_A12, R_A12, L_A12, N_A12⟩
      refine hpa_aload_n (by rfl) rfl ?_
      refine hpa_call0 (by rfl) (by rfl) (by rfl) (by rfl) (by rfl) (by rfl) (hP41 hT B_A12 R_A12 (hd.trans (hq_must_ok (by omega)))) ?_
      rintro _ A13 ⟨z14, rfl, (⟨fz_A13, B_A13, R_A13, G_A13, N_A13⟩ | ⟨fz_A13, F_A13⟩)⟩
      ·
        exact hpa_ireturn (by rfl) (hn_fitB (by omega) (by omega)) (hP _ _ ⟨_, rfl, Or.inl ⟨fz_A13, B_A13, by rw [hrg]; exact R_A13, G_A13, by rw [N_A13, N_A12, eA5, hup1]; exact hval, by omega⟩⟩)
      ·
        exact hpa_ireturn (by rfl) (hn_fitB (by omega) (by omega)) (hP _ _ ⟨_, rfl, Or.inr ⟨fz_A13, F_A13⟩⟩)
  ·
    refine hpa_aload_n (by rfl) rfl ?_
    refine hpa_iconst (by rfl) rfl ?_
    refine hpa_call0 (by rfl) (by rfl) (by rfl) (by rfl) (by rfl) (by rfl) (hP39 hT (Int32.ofNat 1) hB ⟨s, hqq, hd.trans (hq_must_no (by omega))⟩ (by decide) hk_1) ?_
    rintro _ A15 ⟨z16, rfl, fz_A15, F_A15⟩
    exact hpa_ireturn (by rfl) (hn_fitB (by omega) (by omega)) (hP _ _ ⟨_, rfl, Or.inr ⟨fz_A15, F_A15⟩⟩)
theorem hP43 {g d : Nat} {A : hs_A} {K V S : Nat → Int} {E : Nat → Nat → Bool} {T : Nat} {t : Nat} {s s' : hq_S} {ns : List Nat} {p : Option Nat} {sn : Nat} {o : Option (Nat × Nat)} {dd : hg_D} {fl : hg_C} {zz : Nat} {lo hi : Int} (hT : hTT T) (a1 a2 : Int32) (ha1 : a1.toInt = lo) (ha2 : a2.toInt = hi) (hB : hcB K V S E T A t s) (hR : hcR2 V S T A ns p sn o dd fl zz) (hd : hq_dl K V E t s = hq_must K 21 t s') : hpC g d 43 hm_m43 [.ref 21, .int a1, .int a2] A (fun r A' => ∃ z : Int32, r = some (.int z) ∧ ((z.toInt = 1 ∧ hcB K V S E T A' (t + 1) s' ∧ hcR2 V S T A' ns p sn (hq_rng V lo hi t o) dd fl zz ∧ hg_q K V E (t + 1) = hg_dl K V t s (hg_q K V E t) ∧ (A'.1 20 4).toInt = V t ∧ K t = 21) ∨ (z.toInt = 0 ∧ hcF K V S E T A'))) := hpC.all (fun f d => hW43 hT a1 a2 ha1 ha2 hB hR hd (fun r A' h => h))
theorem hW55 {g d f : Nat} {A : hs_A} {K V S : Nat → Int} {E : Nat → Nat → Bool} {T : Nat} {t : Nat} {s : hq_S} {ns : List Nat} {sn : Nat} {o : Option (Nat × Nat)} {dd : hg_D} {fl : hg_C} {zz : Nat} {u : Nat} (hT : hTT T) (a1 a2 : Int32) (hB : hcB K V S E T A t s) (hR : hcR2 V S T A ns (some u) sn o dd fl zz) (hl : ns.length < 10) (h1 : a1.toInt = V (u + 1)) (h2 : a2.toInt = V (u + 2)) {P : Option Value → hs_A → Prop} (hP : ∀ (r : Option Value) (A' : hs_A), (r = none ∧ (hcB K V S E T A' t s ∧ hcR2 V S T A' (u :: ns) none sn o dd fl zz)) → P r A') : hpa (f, g) d none hm_t55 0 [.ref (T + 1), .int a1, .int a2] [] A P := by
  have k1 := hk_1
  have k10 := hk_10
  have hT9 : T ≤ 11 := by rcases hT with rfl | rfl <;> omega
  have hl4 := hR.1
  refine hpa_aload_n (by rfl) rfl ?_
  refine hpj_getK (by rfl) (hsT hT) (by rfl) rfl ?_
  refine hpa_bipush (by rfl) rfl ?_
  refine hpj_cge (by rfl) rfl hk_10 (fun q1 => False.elim (by omega)) (fun q1 => ?_)
  refine hpa_aload_n (by rfl) rfl ?_
  refine hpa_get (v := .ref (T + 2)) (by rfl) (hsT hT) (by rfl) (hvT hT (by omega)) ?_
  refine hpa_aload_n (by rfl) rfl ?_
  refine hpj_getK (by rfl) (hsT hT) (by rfl) rfl ?_
  refine hpa_iload_n (by rfl) rfl ?_
  refine hpx_iast (by rfl) (hsT1 hT) (fun A2 h0A2 h1A2 eA2 fA2 gA2 => ?_)
  refine hpa_aload_n (by rfl) rfl ?_
  refine hpa_get (v := .ref (T + 3)) (by rfl) (hsT hT) (by rfl) (hvT hT (by omega)) ?_
  refine hpa_aload_n (by rfl) rfl ?_
  refine hpj_getK (by rfl) (hsT hT) (by rfl) (hkA eA2 rfl) ?_
  refine hpa_iload_n (by rfl) rfl ?_
  refine hpx_iast (by rfl) (hsT2 hT) (fun A3 h0A3 h1A3 eA3 fA3 gA3 => ?_)
  refine hpa_aload_n (by rfl) rfl ?_
  refine hpa_dupR (by rfl) ?_
  refine hpj_getK (by rfl) (hsT hT) (by rfl) (hkA eA3 (hkA eA2 rfl)) ?_
  refine hpa_iconst (by rfl) rfl ?_
  refine hpj_iadd (by rfl) rfl hk_1 (by omega) (by omega) (fun z4 ez4 => ?_)
  refine hpj_putI (by rfl) (hsT hT) (by rfl) (by rfl) (fun A5 eA5 fA5 => ?_)
  have hj : (A.1 T 4).toNatClampNeg = ns.length := by have := hn_cn (j := A.1 T 4) (by omega); omega
  exact hpa_return (by rfl) rfl (hP _ _ ⟨rfl, ((hB.ar eA2 fA2 gA2 (by omega)).ar eA3 fA3 gA3 (by omega)).up eA5 fA5 (by omega) (by omega) (by omega), .of (((hR.r.ar eA2 fA2 gA2).ar eA3 fA3 gA3).house hT9 eA5 fA5 (by omega)) (hR.m.house hj eA2 fA2 eA3 fA3 eA5 fA5 h1 h2)⟩)
theorem hP55 {g d : Nat} {A : hs_A} {K V S : Nat → Int} {E : Nat → Nat → Bool} {T : Nat} {t : Nat} {s : hq_S} {ns : List Nat} {sn : Nat} {o : Option (Nat × Nat)} {dd : hg_D} {fl : hg_C} {zz : Nat} {u : Nat} (hT : hTT T) (a1 a2 : Int32) (hB : hcB K V S E T A t s) (hR : hcR2 V S T A ns (some u) sn o dd fl zz) (hl : ns.length < 10) (h1 : a1.toInt = V (u + 1)) (h2 : a2.toInt = V (u + 2)) : hpC g d 55 hm_m55 [.ref (T + 1), .int a1, .int a2] A (fun r A' => r = none ∧ (hcB K V S E T A' t s ∧ hcR2 V S T A' (u :: ns) none sn o dd fl zz)) := hpC.all (fun f d => hW55 hT a1 a2 hB hR hl h1 h2 (fun r A' h => h))
theorem hW56 {g d f : Nat} {A : hs_A} {K V S : Nat → Int} {E : Nat → Nat → Bool} {T : Nat} {t : Nat} {s : hq_S} {ns : List Nat} {p : Option Nat} {sn : Nat} {o : Option (Nat × Nat)} {dd : hg_D} {fl : hg_C} {zz : Nat} {b c : Int} (hT : hTT T) (a1 a2 : Int32) (hB : hcB K V S E T A t s) (hR : hcR2 V S T A ns p sn o dd fl zz) (hl : sn < 9) (h1 : a1.toInt = b) (h2 : a2.toInt = c) {P : Option Value → hs_A → Prop} (hP : ∀ (r : Option Value) (A' : hs_A), (r = none ∧ (hcB K V S E T A' t s ∧ hcR2 V S T A' ns p (sn + 1) o (fun h => if (h : Int) = b then c else dd.1 h, dd.2) fl zz)) → P r A') : hpa (f, g) d none hm_t56 0 [.ref (T + 1), .int a1, .int a2] [] A P := by
  have k0 := hk_0
  have k1 := hk_1
  have k23 := hk_23
  have hT9 : T ≤ 11 := by rcases hT with rfl | rfl <;> omega
  have hl4 := hR.2.1
  refine hpa_iload_n (by rfl) rfl ?_
  refine hpa_iconst (by rfl) rfl ?_
  refine hpa_bipush (by rfl) rfl ?_
  refine hpa_call2 (by rfl) (by decide) (by rfl) (by rfl) (by rfl) (hP78 a1 (Int32.ofNat 0) (Int32.ofNat 23)) ?_
  rintro _ _ ⟨rfl, z2, rfl, (⟨fz_A1, lo_A1, hi_A1⟩ | ⟨fz_A1, no_A1⟩)⟩
  ·
    refine hpj_zeq (by rfl) rfl (fun q3 => False.elim (by omega)) (fun q3 => ?_)
    refine hpa_aload_n (by rfl) rfl ?_
    refine hpa_get (v := .ref (T + 4)) (by rfl) (hsT hT) (by rfl) (hvT hT (by omega)) ?_
    refine hpa_iload_n (by rfl) rfl ?_
    refine hpa_iload_n (by rfl) rfl ?_
    refine hpx_iast (by rfl) (hsT3 hT) (fun A4 h0A4 h1A4 eA4 fA4 gA4 => ?_)
    refine hpa_aload_n (by rfl) rfl ?_
    refine hpa_dupR (by rfl) ?_
    refine hpj_getK (by rfl) (hsT hT) (by rfl) (hkA eA4 rfl) ?_
    refine hpa_iconst (by rfl) rfl ?_
    refine hpj_iadd (by rfl) rfl hk_1 (by omega) (by omega) (fun z5 ez5 => ?_)
    refine hpj_putI (by rfl) (hsT hT) (by rfl) (by rfl) (fun A6 eA6 fA6 => ?_)
    have hj := hn_cn (j := a1) (by omega)
    exact hpa_return (by rfl) rfl (hP _ _ ⟨rfl, (hB.ar eA4 fA4 gA4 (by omega)).up eA6 fA6 (by omega) (by omega) (by omega), .of ((hR.r.ar eA4 fA4 gA4).send hT9 eA6 fA6 (by omega)) (hR.m.sendY (j := a1.toNatClampNeg) (by omega) eA4 fA4 h2 eA6 fA6)⟩)
  ·
    refine hpj_zeq (by rfl) rfl (fun q7 => ?_) (fun q7 => False.elim (by omega))
    refine hpa_aload_n (by rfl) rfl ?_
    refine hpa_dupR (by rfl) ?_
    refine hpj_getK (by rfl) (hsT hT) (by rfl) rfl ?_
    refine hpa_iconst (by rfl) rfl ?_
    refine hpj_iadd (by rfl) rfl hk_1 (by omega) (by omega) (fun z8 ez8 => ?_)
    refine hpj_putI (by rfl) (hsT hT) (by rfl) (by rfl) (fun A9 eA9 fA9 => ?_)
    exact hpa_return (by rfl) rfl (hP _ _ ⟨rfl, hB.up eA9 fA9 (by omega) (by omega) (by omega), .of (hR.r.send hT9 eA9 fA9 (by omega)) (hR.m.sendN (by omega) eA9 fA9)⟩)
theorem hP56 {g d : Nat} {A : hs_A} {K V S : Nat → Int} {E : Nat → Nat → Bool} {T : Nat} {t : Nat} {s : hq_S} {ns : List Nat} {p : Option Nat} {sn : Nat} {o : Option (Nat × Nat)} {dd : hg_D} {fl : hg_C} {zz : Nat} {b c : Int} (hT : hTT T) (a1 a2 : Int32) (hB : hcB K V S E T A t s) (hR : hcR2 V S T A ns p sn o dd fl zz) (hl : sn < 9) (h1 : a1.toInt = b) (h2 : a2.toInt = c) : hpC g d 56 hm_m56 [.ref (T + 1), .int a1, .int a2] A (fun r A' => r = none ∧ (hcB K V S E T A' t s ∧ hcR2 V S T A' ns p (sn + 1) o (fun h => if (h : Int) = b then c else dd.1 h, dd.2) fl zz)) := hpC.all (fun f d => hW56 hT a1 a2 hB hR hl h1 h2 (fun r A' h => h))
theorem hW9 {g d f : Nat} {A : hs_A} {ns : List Nat} {p : Option Nat} {sn : Nat} {o : Option (Nat × Nat)} {V S : Nat → Int} {dd : hg_D} {zz : Nat} {T : Nat} (hT : hTT T) (hR : hcR2 V S T A ns p sn o dd [] zz) {P : Option Value → hs_A → Prop} (hP : ∀ (r : Option Value) (A' : hs_A), (∃ z : Int32, r = some (.int z) ∧ hcW T A A' ∧ z.toInt = (zz : Int) ∧ hcR2 V S T A' ns p sn o dd [] zz) → P r A') : hpa (f, g) d (some (.int)) hm_t9 0 [.ref (T + 5)] [] A P := by
  have k0 := hk_0
  have hT9 : T ≤ 11 := by rcases hT with rfl | rfl <;> omega
  refine hpa_aload_n (by rfl) rfl ?_
  refine hpa_iconst (by rfl) rfl ?_
  refine hpj_putI (by rfl) (hsT4 hT) (by rfl) (by rfl) (fun A1 eA1 fA1 => ?_)
  have WA1 := hcW.f (k := 5) hcW.rfl (T := T) (A := A) eA1 fA1
  refine hpa_aload_n (by rfl) rfl ?_
  refine hpj_getK (by rfl) (hsT4 hT) (by rfl) (hkF eA1 (by omega) rfl) ?_
  exact hpa_ireturn (by rfl) rfl (hP _ _ ⟨_, rfl, WA1, hR.m.1.1, hR.W0 hT9 WA1 (hR.m.start eA1 fA1)⟩)
theorem hP9 {g d : Nat} {A : hs_A} {ns : List Nat} {p : Option Nat} {sn : Nat} {o : Option (Nat × Nat)} {V S : Nat → Int} {dd : hg_D} {zz : Nat} {T : Nat} (hT : hTT T) (hR : hcR2 V S T A ns p sn o dd [] zz) : hpC g d 9 hm_m9 [.ref (T + 5)] A (fun r A' => ∃ z : Int32, r = some (.int z) ∧ hcW T A A' ∧ z.toInt = (zz : Int) ∧ hcR2 V S T A' ns p sn o dd [] zz) := hpC.all (fun f d => hW9 hT hR (fun r A' h => h))
theorem hW10 {g d f : Nat} {A : hs_A} {ns : List Nat} {p : Option Nat} {sn : Nat} {o : Option (Nat × Nat)} {V S : Nat → Int} {dd : hg_D} {zz : Nat} {T : Nat} {s q : Nat} {l : hg_L} (hT : hTT T) (a1 a2 : Int32) (hR : hcR2 V S T A ns p sn o dd (hg_law s l) zz) (hs : s + (hg_law s l).length = zz) (hq : q < 4) (h1 : a1.toInt = (q : Int)) (h2 : a2.toInt = (s : Int)) {P : Option Value → hs_A → Prop} (hP : ∀ (r : Option Value) (A' : hs_A), (r = none ∧ (hcW T A A' ∧ hcR2 V S T A' ns p sn o (dd.1, dd.2.1, dd.2.2.1, fun k => if k = q then l else dd.2.2.2 k) [] zz)) → P r A') : hpa (f, g) d none hm_t10 0 [.ref (T + 5), .int a1, .int a2] [] A P := by
  have hT9 : T ≤ 11 := by rcases hT with rfl | rfl <;> omega
  have hiq : a1.toNatClampNeg = q := by have := hn_cn (j := a1) (by omega); omega
  refine hpa_aload_n (by rfl) rfl ?_
  refine hpa_get (v := .ref (T + 7)) (by rfl) (hsT4 hT) (by rfl) (hvT hT (by omega)) ?_
  refine hpa_iload_n (by rfl) rfl ?_
  refine hpa_iload_n (by rfl) rfl ?_
  refine hpx_iast (by rfl) (hsT6 hT) (fun A1 h0A1 h1A1 eA1 fA1 gA1 => ?_)
  have WA1 := (hcW.rfl (T := T) (A := A)).a eA1 fA1 gA1 (by omega)
  refine hpa_aload_n (by rfl) rfl ?_
  refine hpa_get (v := .ref (T + 8)) (by rfl) (hsT4 hT) (by rfl) (hvT hT (by omega)) ?_
  refine hpa_iload_n (by rfl) rfl ?_
  refine hpa_aload_n (by rfl) rfl ?_
  refine hpj_getK (by rfl) (hsT4 hT) (by rfl) (hkA eA1 rfl) ?_
  refine hpx_iast (by rfl) (hsT7 hT) (fun A2 h0A2 h1A2 eA2 fA2 gA2 => ?_)
  have WA2 := (WA1).a eA2 fA2 gA2 (by omega)
  rw [hiq] at fA1 fA2
  exact hpa_return (by rfl) rfl (hP _ _ ⟨rfl, WA2, hR.W0 hT9 WA2 (hR.m.put hs hq h2 eA1 fA1 eA2 fA2)⟩)
theorem hP10 {g d : Nat} {A : hs_A} {ns : List Nat} {p : Option Nat} {sn : Nat} {o : Option (Nat × Nat)} {V S : Nat → Int} {dd : hg_D} {zz : Nat} {T : Nat} {s q : Nat} {l : hg_L} (hT : hTT T) (a1 a2 : Int32) (hR : hcR2 V S T A ns p sn o dd (hg_law s l) zz) (hs : s + (hg_law s l).length = zz) (hq : q < 4) (h1 : a1.toInt = (q : Int)) (h2 : a2.toInt = (s : Int)) : hpC g d 10 hm_m10 [.ref (T + 5), .int a1, .int a2] A (fun r A' => r = none ∧ (hcW T A A' ∧ hcR2 V S T A' ns p sn o (dd.1, dd.2.1, dd.2.2.1, fun k => if k = q then l else dd.2.2.2 k) [] zz)) := hpC.all (fun f d => hW10 hT a1 a2 hR hs hq h1 h2 (fun r A' h => h))
theorem hW12 {g d f : Nat} {A : hs_A} {ns : List Nat} {p : Option Nat} {sn : Nat} {o : Option (Nat × Nat)} {V S : Nat → Int} {dd : hg_D} {fl : hg_C} {zz : Nat} {T : Nat} {k : Nat} {v : Int} (hT : hTT T) (a1 a2 : Int32) (hR : hcR2 V S T A ns p sn o dd fl zz) (h1 : a1.toInt = (k : Int)) (h2 : a2.toInt = v) (hk8 : k < 8) (hv0 : 0 ≤ v) (hv1 : v < 134217728) (hk1 : k = 1 → v ≤ 8) (hz : zz < 408) {P : Option Value → hs_A → Prop} (hP : ∀ (r : Option Value) (A' : hs_A), (∃ z : Int32, r = some (.int z) ∧ hcW T A A' ∧ z.toInt = (zz : Int) ∧ hcR2 V S T A' ns p sn o dd (fl ++ [(k, v)]) (zz + 1)) → P r A') : hpa (f, g) d (some (.int)) hm_t12 0 [.ref (T + 5), .int a1, .int a2] [] A P := by
  have k1 := hk_1
  have k3 := hk_3
  have k408 := hk_408
  have hT9 : T ≤ 11 := by rcases hT with rfl | rfl <;> omega
  have hzz := hR.m.1.1
  have hzi : (A.1 (T + 4) 4).toNatClampNeg = zz := by have := hn_cn (j := A.1 (T + 4) 4) (by omega); omega
  refine hpa_iload_n (by rfl) rfl ?_
  refine hpa_iconst (by rfl) rfl ?_
  refine hpj_cne (by rfl) rfl hk_1 (fun q1 => ?_) (fun q1 => ?_)
  ·
    refine hpa_aload_n (by rfl) rfl ?_
    refine hpj_getK (by rfl) (hsT4 hT) (by rfl) rfl ?_
    refine hpa_sipush (by rfl) rfl ?_
    refine hpj_cge (by rfl) rfl hk_408 (fun q2 => False.elim (by omega)) (fun q2 => ?_)
    refine hpa_aload_n (by rfl) rfl ?_
    refine hpa_get (v := .ref (T + 6)) (by rfl) (hsT4 hT) (by rfl) (hvT hT (by omega)) ?_
    refine hpa_aload_n (by rfl) rfl ?_
    refine hpj_getK (by rfl) (hsT4 hT) (by rfl) rfl ?_
    refine hpa_iload_n (by rfl) rfl ?_
    refine hpa_iconst (by rfl) rfl ?_
    refine hpa_ishl (by rfl) ?_
    refine hpa_iload_n (by rfl) rfl ?_
    refine hpa_ior (by rfl) ?_
    refine hpx_iast (by rfl) (hsT5 hT) (fun A3 h0A3 h1A3 eA3 fA3 gA3 => ?_)
    have WA3 := (hcW.rfl (T := T) (A := A)).a eA3 fA3 gA3 (by omega)
    rw [hzi] at fA3
    refine hpa_aload_n (by rfl) rfl ?_
    refine hpa_dupR (by rfl) ?_
    refine hpj_getK (by rfl) (hsT4 hT) (by rfl) (hkA eA3 rfl) ?_
    refine hpa_iconst (by rfl) rfl ?_
    refine hpj_iadd (by rfl) rfl hk_1 (by omega) (by omega) (fun z4 ez4 => ?_)
    refine hpj_putI (by rfl) (hsT4 hT) (by rfl) (by rfl) (fun A5 eA5 fA5 => ?_)
    have WA5 := hcW.f (k := 4) WA3 eA5 fA5
    refine hpa_aload_n (by rfl) rfl ?_
    refine hpj_getK (by rfl) (hsT4 hT) (by rfl) (hkS eA5) ?_
    refine hpa_iconst (by rfl) rfl ?_
    refine hpj_isub (by rfl) rfl hk_1 (by omega) (by omega) (fun z6 ez6 => ?_)
    exact hpa_ireturn (by rfl) rfl (hP _ _ ⟨_, rfl, WA5, by omega, hR.addN hT9 (by omega) eA3 fA3 gA3 eA5 fA5 (hg_k8 h2 h1 hv0 hv1 hk8) (by omega)⟩)
  ·
    refine hpa_aload_n (by rfl) rfl ?_
    refine hpa_dupR (by rfl) ?_
    refine hpj_getK (by rfl) (hsT4 hT) (by rfl) rfl ?_
    refine hpa_iconst (by rfl) rfl ?_
    refine hpa_iload_n (by rfl) rfl ?_
    refine hpa_ishl (by rfl) ?_
    refine hpa_ior (by rfl) ?_
    refine hpj_putI (by rfl) (hsT4 hT) (by rfl) (by rfl) (fun A7 eA7 fA7 => ?_)
    have WA7 := hcW.f (k := 5) hcW.rfl (T := T) (A := A) eA7 fA7
    refine hpa_aload_n (by rfl) rfl ?_
    refine hpj_getK (by rfl) (hsT4 hT) (by rfl) (hkF eA7 (by omega) rfl) ?_
    refine hpa_sipush (by rfl) rfl ?_
    refine hpj_cge (by rfl) rfl hk_408 (fun q8 => False.elim (by omega)) (fun q8 => ?_)
    refine hpa_aload_n (by rfl) rfl ?_
    refine hpa_get (v := .ref (T + 6)) (by rfl) (hsT4 hT) (by rfl) (hvT hT (by omega)) ?_
    refine hpa_aload_n (by rfl) rfl ?_
    refine hpj_getK (by rfl) (hsT4 hT) (by rfl) (hkF eA7 (by omega) rfl) ?_
    refine hpa_iload_n (by rfl) rfl ?_
    refine hpa_iconst (by rfl) rfl ?_
    refine hpa_ishl (by rfl) ?_
    refine hpa_iload_n (by rfl) rfl ?_
    refine hpa_ior (by rfl) ?_
    refine hpx_iast (by rfl) (hsT5 hT) (fun A9 h0A9 h1A9 eA9 fA9 gA9 => ?_)
    have WA9 := (WA7).a eA9 fA9 gA9 (by omega)
    rw [hzi] at fA9
    refine hpa_aload_n (by rfl) rfl ?_
    refine hpa_dupR (by rfl) ?_
    refine hpj_getK (by rfl) (hsT4 hT) (by rfl) (hkA eA9 (hkF eA7 (by omega) rfl)) ?_
    refine hpa_iconst (by rfl) rfl ?_
    refine hpj_iadd (by rfl) rfl hk_1 (by omega) (by omega) (fun z10 ez10 => ?_)
    refine hpj_putI (by rfl) (hsT4 hT) (by rfl) (by rfl) (fun A11 eA11 fA11 => ?_)
    have WA11 := hcW.f (k := 4) WA9 eA11 fA11
    refine hpa_aload_n (by rfl) rfl ?_
    refine hpj_getK (by rfl) (hsT4 hT) (by rfl) (hkS eA11) ?_
    refine hpa_iconst (by rfl) rfl ?_
    refine hpj_isub (by rfl) rfl hk_1 (by omega) (by omega) (fun z12 ez12 => ?_)
    obtain rfl : k = 1 := by omega
    exact hpa_ireturn (by rfl) rfl (hP _ _ ⟨_, rfl, WA11, by omega, hR.addV hT9 h2 hv0 (hk1 rfl) eA7 fA7 eA9 fA9 gA9 eA11 fA11 (hg_k8 h2 h1 hv0 hv1 hk8) (by omega)⟩)
theorem hP12 {g d : Nat} {A : hs_A} {ns : List Nat} {p : Option Nat} {sn : Nat} {o : Option (Nat × Nat)} {V S : Nat → Int} {dd : hg_D} {fl : hg_C} {zz : Nat} {T : Nat} {k : Nat} {v : Int} (hT : hTT T) (a1 a2 : Int32) (hR : hcR2 V S T A ns p sn o dd fl zz) (h1 : a1.toInt = (k : Int)) (h2 : a2.toInt = v) (hk8 : k < 8) (hv0 : 0 ≤ v) (hv1 : v < 134217728) (hk1 : k = 1 → v ≤ 8) (hz : zz < 408) : hpC g d 12 hm_m12 [.ref (T + 5), .int a1, .int a2] A (fun r A' => ∃ z : Int32, r = some (.int z) ∧ hcW T A A' ∧ z.toInt = (zz : Int) ∧ hcR2 V S T A' ns p sn o dd (fl ++ [(k, v)]) (zz + 1)) := hpC.all (fun f d => hW12 hT a1 a2 hR h1 h2 hk8 hv0 hv1 hk1 hz (fun r A' h => h))
theorem hW13 {g d f : Nat} {A : hs_A} {ns : List Nat} {p : Option Nat} {sn : Nat} {o : Option (Nat × Nat)} {V S : Nat → Int} {dd : hg_D} {zz : Nat} {T : Nat} {l1 l2 : hg_C} {v : Int} {j : Nat} (hT : hTT T) (a1 : Int32) (hR : hcR2 V S T A ns p sn o dd (l1 ++ (6, v) :: l2) zz) (h1 : a1.toInt = (j : Int)) (hj : j + (l2.length + 1) = zz) (hz : zz < 1000) {P : Option Value → hs_A → Prop} (hP : ∀ (r : Option Value) (A' : hs_A), (r = none ∧ (hcW T A A' ∧ hcR2 V S T A' ns p sn o dd (l1 ++ (6, (zz : Int)) :: l2) zz)) → P r A') : hpa (f, g) d none hm_t13 0 [.ref (T + 5), .int a1] [] A P := by
  have k3 := hk_3
  have k6 := hk_6
  have hT9 : T ≤ 11 := by rcases hT with rfl | rfl <;> omega
  have hzz := hR.m.1.1
  have hij : a1.toNatClampNeg = j := by have := hn_cn (j := a1) (by omega); omega
  refine hpa_iload_n (by rfl) rfl ?_
  refine hpj_zlt (by rfl) rfl (fun q1 => False.elim (by omega)) (fun q1 => ?_)
  refine hpa_iload_n (by rfl) rfl ?_
  refine hpa_aload_n (by rfl) rfl ?_
  refine hpj_getK (by rfl) (hsT4 hT) (by rfl) rfl ?_
  refine hpj_cge (by rfl) rfl rfl (fun q2 => False.elim (by omega)) (fun q2 => ?_)
  refine hpa_aload_n (by rfl) rfl ?_
  refine hpa_get (v := .ref (T + 6)) (by rfl) (hsT4 hT) (by rfl) (hvT hT (by omega)) ?_
  refine hpa_iload_n (by rfl) rfl ?_
  refine hpa_aload_n (by rfl) rfl ?_
  refine hpj_getK (by rfl) (hsT4 hT) (by rfl) rfl ?_
  refine hpa_iconst (by rfl) rfl ?_
  refine hpa_ishl (by rfl) ?_
  refine hpa_bipush (by rfl) rfl ?_
  refine hpa_ior (by rfl) ?_
  refine hpx_iast (by rfl) (hsT5 hT) (fun A3 h0A3 h1A3 eA3 fA3 gA3 => ?_)
  have WA3 := (hcW.rfl (T := T) (A := A)).a eA3 fA3 gA3 (by omega)
  rw [hij] at fA3
  exact hpa_return (by rfl) rfl (hP _ _ ⟨rfl, WA3, hR.W0 hT9 WA3 (hR.m.land hj (hg_k8 (k := 6) (hzz) hk_6 (by omega) (by omega) (by omega)) eA3 fA3)⟩)
theorem hP13 {g d : Nat} {A : hs_A} {ns : List Nat} {p : Option Nat} {sn : Nat} {o : Option (Nat × Nat)} {V S : Nat → Int} {dd : hg_D} {zz : Nat} {T : Nat} {l1 l2 : hg_C} {v : Int} {j : Nat} (hT : hTT T) (a1 : Int32) (hR : hcR2 V S T A ns p sn o dd (l1 ++ (6, v) :: l2) zz) (h1 : a1.toInt = (j : Int)) (hj : j + (l2.length + 1) = zz) (hz : zz < 1000) : hpC g d 13 hm_m13 [.ref (T + 5), .int a1] A (fun r A' => r = none ∧ (hcW T A A' ∧ hcR2 V S T A' ns p sn o dd (l1 ++ (6, (zz : Int)) :: l2) zz)) := hpC.all (fun f d => hW13 hT a1 hR h1 hj hz (fun r A' h => h))
