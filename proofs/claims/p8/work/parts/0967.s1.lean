theorem hW71 {g d f : Nat} {A : hs_A} {len : Nat} (a1 : Int32) (h : (A.1 0 1).toInt = (len : Int)) (hl : len + 4 ≤ 2000) {P : Option Value → hs_A → Prop} (hP : ∀ (r : Option Value) (A' : hs_A), (r = none ∧ ((A'.1 0 1).toInt = (len : Int) + 4 ∧ A'.2.1 1 = hfw (A.2.1 1) len a1 4 ∧ (∀ i, ¬ i = 1 → A'.2.1 i = A.2.1 i) ∧ A'.2.2 = A.2.2 ∧ (∀ i k, ¬ (i = 0 ∧ k = 1) → A'.1 i k = A.1 i k))) → P r A') : hpa (f, g) d none hm_t71 0 [.ref 1, .int a1, .retAddr 0] [] A P := by
  have k1 := hk_1
  have k2000 := hk_2000
  have k24 := hk_24
  have k4294967288 := hk_4294967288
  have L3 : ∀ (f : Nat) (x3_2 : Int32) (A3 : hs_A) (q : Nat) (lq : x3_2.toInt = 24 - 8 * (q : Int)) (q4 : q ≤ 4) (ln : (A3.1 0 1).toInt = (len : Int) + q) (tp : A3.2.1 1 = hfw (A.2.1 1) len a1 q) (ta : ∀ i, ¬ i = 1 → A3.2.1 i = A.2.1 i) (tl : A3.2.2 = A.2.2) (fe : ∀ i k, ¬ (i = 0 ∧ k = 1) → A3.1 i k = A.1 i k), hpa (f, g) d none hm_t71 3 [.ref 1, .int a1, .int x3_2] [] A3 P := by
    intro f
    induction f with
    | zero => intros; exact hpa.zero
    | succ f ih3 =>
      intro x3_2 A3 q lq q4 ln tp ta tl fe
      refine hpa_iload_nS (by rfl) rfl ?_
      refine hpj_zlt (by rfl) rfl (fun q101 => ?_) (fun q101 => ?_)
      ·
        obtain rfl : q = 4 := by omega
        exact hpa_return (by rfl) rfl (hP _ _ ⟨rfl, by omega, tp, ta, tl, fe⟩)
      ·
        refine hpa_aload_n (by rfl) rfl ?_
        refine hpj_getK (by rfl) (by rfl) (by rfl) rfl ?_
        refine hpa_sipush (by rfl) rfl ?_
        refine hpj_cge (by rfl) rfl hk_2000 (fun q102 => False.elim (by omega)) (fun q102 => ?_)
        refine hpa_aload_n (by rfl) rfl ?_
        refine hpa_get (v := .ref 2) (by rfl) (by rfl) (by rfl) rfl ?_
        refine hpa_aload_n (by rfl) rfl ?_
        refine hpj_getK (by rfl) (by rfl) (by rfl) rfl ?_
        refine hpa_iload_n (by rfl) rfl ?_
        refine hpa_iload_n (by rfl) rfl ?_
        refine hpa_iushr (by rfl) ?_
        refine hpa_i2b (by rfl) ?_
        refine hpx_bast (by rfl) (by rfl) (fun A103 h0A103 h1A103 eA103 fA103 gA103 => ?_)
        have hcn := hn_cn (j := (A3.1 0 1)) (by omega)
        have hx3 := hvbx (q := q) lq (by omega)
        have tp1 : A103.2.1 1 = hfw (A.2.1 1) len a1 (q + 1) := hfw_s tp fA103 (by omega) (by rw [hvb8, hx3, hvb_u a1 (by omega)]; rfl)
        have ta2 : ∀ i, ¬ i = 1 → A103.2.1 i = A.2.1 i := fun i hi => by rw [fA103, ← ta i hi]; funext b; exact hup2 (fun w => hi w.1)
        refine hpa_aload_n (by rfl) rfl ?_
        refine hpa_dupR (by rfl) ?_
        refine hpj_getK (by rfl) (by rfl) (by rfl) (hkA eA103 rfl) ?_
        refine hpa_iconst (by rfl) rfl ?_
        refine hpj_iadd (by rfl) rfl hk_1 (by omega) (by omega) (fun z104 ez104 => ?_)
        refine hpj_putI (by rfl) (by rfl) (by rfl) (by rfl) (fun A105 eA105 fA105 => ?_)
        have tp2 : A105.2.1 1 = hfw (A.2.1 1) len a1 (q + 1) := by rw [fA105]; exact tp1
        refine hpj_iinc (by rfl) rfl rfl hk_4294967288 (by omega) (by omega) (fun _ => rfl) (fun z106 ez106 => ?_)
        refine hpa_goto (by rfl) ?_
        exact ih3 z106 A105 (q + 1) (by omega) (by omega) (by rw [eA105, hup1]; omega) tp2 (fun i hi => by rw [fA105]; exact ta2 i hi) (by rw [fA105, gA103]; exact tl) (fun i k hi => by rw [eA105, hup2 hi, eA103]; exact fe i k hi)
  refine hpa_bipush (by rfl) rfl ?_
  refine hpa_s1 (by rfl) (Or.inl ⟨_, rfl, rfl⟩) rfl ?_
  exact L3 _ (Int32.ofNat 24) A 0 hk_24 (by omega) (by omega) hfw_0 (fun _ _ => rfl) rfl (fun _ _ _ => rfl)
theorem hP71 {g d : Nat} {A : hs_A} {len : Nat} (a1 : Int32) (h : (A.1 0 1).toInt = (len : Int)) (hl : len + 4 ≤ 2000) : hpC g d 71 hm_m71 [.ref 1, .int a1] A (fun r A' => r = none ∧ ((A'.1 0 1).toInt = (len : Int) + 4 ∧ A'.2.1 1 = hfw (A.2.1 1) len a1 4 ∧ (∀ i, ¬ i = 1 → A'.2.1 i = A.2.1 i) ∧ A'.2.2 = A.2.2 ∧ (∀ i k, ¬ (i = 0 ∧ k = 1) → A'.1 i k = A.1 i k))) := hpC.all (fun f d => hW71 a1 h hl (fun r A' h => h))
theorem hW70 {g d f : Nat} {A : hs_A} {len : Nat} (a1 a2 a3 a4 a5 : Int32) (h : (A.1 0 1).toInt = (len : Int)) (hl : len ≤ 2000) {P : Option Value → hs_A → Prop} (hP : ∀ (r : Option Value) (A' : hs_A), (∃ z : Int32, r = some (.int z) ∧ A'.2.1 1 = hf5 (A.2.1 1) len a1 a2 a3 a4 a5 ∧ (∀ i, ¬ i = 1 → A'.2.1 i = A.2.1 i) ∧ A'.2.2 = A.2.2 ∧ (∀ i k, ¬ (i = 0 ∧ k = 1) → A'.1 i k = A.1 i k)) → P r A') : hpa (f, g) d (some (.int)) hm_t70 0 [.ref 1, .int a1, .int a2, .int a3, .int a4, .int a5] [] A P := by
  have k1980 := hk_1980
  have k4294967295 := hk_4294967295
  refine hpa_aload_n (by rfl) rfl ?_
  refine hpj_getK (by rfl) (by rfl) (by rfl) rfl ?_
  refine hpa_sipush (by rfl) rfl ?_
  refine hpj_cle (by rfl) rfl hk_1980 (fun q101 => ?_) (fun q101 => ?_)
  ·
    refine hpa_aload_n (by rfl) rfl ?_
    refine hpa_iload_n (by rfl) rfl ?_
    refine hpa_call0 (by rfl) (by rfl) (by rfl) (by rfl) (by rfl) (by rfl) (hP71 a1 (show _ = (len : Int) by omega) (by omega)) ?_
    rintro _ A102 ⟨rfl, ln_A102, tp_A102, ta_A102, tl_A102, fe_A102⟩
    refine hpa_aload_n (by rfl) rfl ?_
    refine hpa_iload_n (by rfl) rfl ?_
    refine hpa_call0 (by rfl) (by rfl) (by rfl) (by rfl) (by rfl) (by rfl) (hP71 a2 (show _ = ((len + 4 : Nat) : Int) by omega) (by omega)) ?_
    rintro _ A103 ⟨rfl, ln_A103, tp_A103, ta_A103, tl_A103, fe_A103⟩
    refine hpa_aload_n (by rfl) rfl ?_
    refine hpa_iload_n (by rfl) rfl ?_
    refine hpa_call0 (by rfl) (by rfl) (by rfl) (by rfl) (by rfl) (by rfl) (hP71 a3 (show _ = ((len + 8 : Nat) : Int) by omega) (by omega)) ?_
    rintro _ A104 ⟨rfl, ln_A104, tp_A104, ta_A104, tl_A104, fe_A104⟩
    refine hpa_aload_n (by rfl) rfl ?_
    refine hpa_iload (by rfl) rfl ?_
    refine hpa_call0 (by rfl) (by rfl) (by rfl) (by rfl) (by rfl) (by rfl) (hP71 a4 (show _ = ((len + 12 : Nat) : Int) by omega) (by omega)) ?_
    rintro _ A105 ⟨rfl, ln_A105, tp_A105, ta_A105, tl_A105, fe_A105⟩
    refine hpa_aload_n (by rfl) rfl ?_
    refine hpa_iload (by rfl) rfl ?_
    refine hpa_call0 (by rfl) (by rfl) (by rfl) (by rfl) (by rfl) (by rfl) (hP71 a5 (show _ = ((len + 16 : Nat) : Int) by omega) (by omega)) ?_
    rintro _ A106 ⟨rfl, ln_A106, tp_A106, ta_A106, tl_A106, fe_A106⟩
    refine hpa_aload_n (by rfl) rfl ?_
    refine hpj_getK (by rfl) (by rfl) (by rfl) rfl ?_
    exact hpa_ireturn (by rfl) rfl (hP _ _ ⟨_, rfl, by unfold hf5; rw [if_pos (by omega), tp_A106, tp_A105, tp_A104, tp_A103, tp_A102], fun i hi => by rw [ta_A106 i hi, ta_A105 i hi, ta_A104 i hi, ta_A103 i hi, ta_A102 i hi], by rw [tl_A106, tl_A105, tl_A104, tl_A103, tl_A102], fun i k hi => by rw [fe_A106 i k hi, fe_A105 i k hi, fe_A104 i k hi, fe_A103 i k hi, fe_A102 i k hi]⟩)
  ·
    refine hpa_iconst (by rfl) rfl ?_
    exact hpa_ireturn (by rfl) rfl (hP _ _ ⟨_, rfl, by unfold hf5; rw [if_neg (by omega)], fun _ _ => rfl, rfl, fun _ _ _ => rfl⟩)
theorem hP70 {g d : Nat} {A : hs_A} {len : Nat} (a1 a2 a3 a4 a5 : Int32) (h : (A.1 0 1).toInt = (len : Int)) (hl : len ≤ 2000) : hpC g d 70 hm_m70 [.ref 1, .int a1, .int a2, .int a3, .int a4, .int a5] A (fun r A' => ∃ z : Int32, r = some (.int z) ∧ A'.2.1 1 = hf5 (A.2.1 1) len a1 a2 a3 a4 a5 ∧ (∀ i, ¬ i = 1 → A'.2.1 i = A.2.1 i) ∧ A'.2.2 = A.2.2 ∧ (∀ i k, ¬ (i = 0 ∧ k = 1) → A'.1 i k = A.1 i k)) := hpC.all (fun f d => hW70 a1 a2 a3 a4 a5 h hl (fun r A' h => h))
theorem hW134 {g d f : Nat} {A : hs_A} {len : Nat} (a1 : Int32) (h : (A.1 367 2).toInt = (len : Int)) (hl : len + 4 ≤ 2000) {P : Option Value → hs_A → Prop} (hP : ∀ (r : Option Value) (A' : hs_A), (r = none ∧ ((A'.1 367 2).toInt = (len : Int) + 4 ∧ A'.2.1 368 = hfw (A.2.1 368) len a1 4 ∧ (∀ i, ¬ i = 368 → A'.2.1 i = A.2.1 i) ∧ A'.2.2 = A.2.2 ∧ (∀ i k, ¬ (i = 367 ∧ k = 2) → A'.1 i k = A.1 i k))) → P r A') : hpa (f, g) d none hm_t134 0 [.ref 368, .int a1, .retAddr 0] [] A P := by
  have k1 := hk_1
  have k24 := hk_24
  have k4294967288 := hk_4294967288
  have L3 : ∀ (f : Nat) (x3_2 : Int32) (A3 : hs_A) (q : Nat) (lq : x3_2.toInt = 24 - 8 * (q : Int)) (q4 : q ≤ 4) (ln : (A3.1 367 2).toInt = (len : Int) + q) (tp : A3.2.1 368 = hfw (A.2.1 368) len a1 q) (ta : ∀ i, ¬ i = 368 → A3.2.1 i = A.2.1 i) (tl : A3.2.2 = A.2.2) (fe : ∀ i k, ¬ (i = 367 ∧ k = 2) → A3.1 i k = A.1 i k), hpa (f, g) d none hm_t134 3 [.ref 368, .int a1, .int x3_2] [] A3 P := by
    intro f
    induction f with
    | zero => intros; exact hpa.zero
    | succ f ih3 =>
      intro x3_2 A3 q lq q4 ln tp ta tl fe
      refine hpa_iload_nS (by rfl) rfl ?_
      refine hpj_zlt (by rfl) rfl (fun q101 => ?_) (fun q101 => ?_)
      ·
        obtain rfl : q = 4 := by omega
        exact hpa_return (by rfl) rfl (hP _ _ ⟨rfl, by omega, tp, ta, tl, fe⟩)
      ·
        refine hpa_aload_n (by rfl) rfl ?_
        refine hpa_get (v := .ref 369) (by rfl) (by rfl) (by rfl) rfl ?_
        refine hpa_aload_n (by rfl) rfl ?_
        refine hpj_getK (by rfl) (by rfl) (by rfl) rfl ?_
        refine hpa_iload_n (by rfl) rfl ?_
        refine hpa_iload_n (by rfl) rfl ?_
        refine hpa_ishr (by rfl) ?_
        refine hpa_i2b (by rfl) ?_
        refine hpx_bast (by rfl) (by rfl) (fun A102 h0A102 h1A102 eA102 fA102 gA102 => ?_)
        have hcn := hn_cn (j := (A3.1 367 2)) (by omega)
        have hx3 := hvbx (q := q) lq (by omega)
        have tp1 : A102.2.1 368 = hfw (A.2.1 368) len a1 (q + 1) := hfw_s tp fA102 (by omega) (by rw [hvb8, hx3]; rfl)
        have ta2 : ∀ i, ¬ i = 368 → A102.2.1 i = A.2.1 i := fun i hi => by rw [fA102, ← ta i hi]; funext b; exact hup2 (fun w => hi w.1)
        refine hpa_aload_n (by rfl) rfl ?_
        refine hpa_dupR (by rfl) ?_
        refine hpj_getK (by rfl) (by rfl) (by rfl) (hkA eA102 rfl) ?_
        refine hpa_iconst (by rfl) rfl ?_
        refine hpj_iadd (by rfl) rfl hk_1 (by omega) (by omega) (fun z103 ez103 => ?_)
        refine hpj_putI (by rfl) (by rfl) (by rfl) (by rfl) (fun A104 eA104 fA104 => ?_)
        have tp2 : A104.2.1 368 = hfw (A.2.1 368) len a1 (q + 1) := by rw [fA104]; exact tp1
        refine hpj_iinc (by rfl) rfl rfl hk_4294967288 (by omega) (by omega) (fun _ => rfl) (fun z105 ez105 => ?_)
        refine hpa_goto (by rfl) ?_
        exact ih3 z105 A104 (q + 1) (by omega) (by omega) (by rw [eA104, hup1]; omega) tp2 (fun i hi => by rw [fA104]; exact ta2 i hi) (by rw [fA104, gA102]; exact tl) (fun i k hi => by rw [eA104, hup2 hi, eA102]; exact fe i k hi)
  refine hpa_bipush (by rfl) rfl ?_
  refine hpa_s1 (by rfl) (Or.inl ⟨_, rfl, rfl⟩) rfl ?_
  exact L3 _ (Int32.ofNat 24) A 0 hk_24 (by omega) (by omega) hfw_0 (fun _ _ => rfl) rfl (fun _ _ _ => rfl)
theorem hP134 {g d : Nat} {A : hs_A} {len : Nat} (a1 : Int32) (h : (A.1 367 2).toInt = (len : Int)) (hl : len + 4 ≤ 2000) : hpC g d 134 hm_m134 [.ref 368, .int a1] A (fun r A' => r = none ∧ ((A'.1 367 2).toInt = (len : Int) + 4 ∧ A'.2.1 368 = hfw (A.2.1 368) len a1 4 ∧ (∀ i, ¬ i = 368 → A'.2.1 i = A.2.1 i) ∧ A'.2.2 = A.2.2 ∧ (∀ i k, ¬ (i = 367 ∧ k = 2) → A'.1 i k = A.1 i k))) := hpC.all (fun f d => hW134 a1 h hl (fun r A' h => h))
theorem hW133 {g d f : Nat} {A : hs_A} {len : Nat} (a1 a2 a3 a4 a5 : Int32) (h : (A.1 367 2).toInt = (len : Int)) (hl : len ≤ 2000) {P : Option Value → hs_A → Prop} (hP : ∀ (r : Option Value) (A' : hs_A), (∃ z : Int32, r = some (.int z) ∧ A'.2.1 368 = hf5 (A.2.1 368) len a1 a2 a3 a4 a5 ∧ (∀ i, ¬ i = 368 → A'.2.1 i = A.2.1 i) ∧ A'.2.2 = A.2.2 ∧ (∀ i k, ¬ (i = 367 ∧ k = 2) → A'.1 i k = A.1 i k)) → P r A') : hpa (f, g) d (some (.int)) hm_t133 0 [.ref 368, .int a1, .int a2, .int a3, .int a4, .int a5] [] A P := by
  have k20 := hk_20
  have k2000 := hk_2000
  have k4294967295 := hk_4294967295
  refine hpa_aload_n (by rfl) rfl ?_
  refine hpj_getK (by rfl) (by rfl) (by rfl) rfl ?_
  refine hpa_bipush (by rfl) rfl ?_
  refine hpj_iadd (by rfl) rfl hk_20 (by omega) (by omega) (fun z101 ez101 => ?_)
  refine hpa_sipush (by rfl) rfl ?_
  refine hpj_cle (by rfl) rfl hk_2000 (fun q102 => ?_) (fun q102 => ?_)
  ·
    refine hpa_aload_n (by rfl) rfl ?_
    refine hpa_iload_n (by rfl) rfl ?_
    refine hpa_call0 (by rfl) (by rfl) (by rfl) (by rfl) (by rfl) (by rfl) (hP134 a1 (show _ = (len : Int) by omega) (by omega)) ?_
    rintro _ A103 ⟨rfl, ln_A103, tp_A103, ta_A103, tl_A103, fe_A103⟩
    refine hpa_aload_n (by rfl) rfl ?_
    refine hpa_iload_n (by rfl) rfl ?_
    refine hpa_call0 (by rfl) (by rfl) (by rfl) (by rfl) (by rfl) (by rfl) (hP134 a2 (show _ = ((len + 4 : Nat) : Int) by omega) (by omega)) ?_
    rintro _ A104 ⟨rfl, ln_A104, tp_A104, ta_A104, tl_A104, fe_A104⟩
    refine hpa_aload_n (by rfl) rfl ?_
    refine hpa_iload_n (by rfl) rfl ?_
    refine hpa_call0 (by rfl) (by rfl) (by rfl) (by rfl) (by rfl) (by rfl) (hP134 a3 (show _ = ((len + 8 : Nat) : Int) by omega) (by omega)) ?_
    rintro _ A105 ⟨rfl, ln_A105, tp_A105, ta_A105, tl_A105, fe_A105⟩
    refine hpa_aload_n (by rfl) rfl ?_
    refine hpa_iload (by rfl) rfl ?_
    refine hpa_call0 (by rfl) (by rfl) (by rfl) (by rfl) (by rfl) (by rfl) (hP134 a4 (show _ = ((len + 12 : Nat) : Int) by omega) (by omega)) ?_
    rintro _ A106 ⟨rfl, ln_A106, tp_A106, ta_A106, tl_A106, fe_A106⟩
    refine hpa_aload_n (by rfl) rfl ?_
    refine hpa_iload (by rfl) rfl ?_
    refine hpa_call0 (by rfl) (by rfl) (by rfl) (by rfl) (by rfl) (by rfl) (hP134 a5 (show _ = ((len + 16 : Nat) : Int) by omega) (by omega)) ?_
    rintro _ A107 ⟨rfl, ln_A107, tp_A107, ta_A107, tl_A107, fe_A107⟩
    refine hpa_aload_n (by rfl) rfl ?_
    refine hpj_getK (by rfl) (by rfl) (by rfl) rfl ?_
    exact hpa_ireturn (by rfl) rfl (hP _ _ ⟨_, rfl, by unfold hf5; rw [if_pos (by omega), tp_A107, tp_A106, tp_A105, tp_A104, tp_A103], fun i hi => by rw [ta_A107 i hi, ta_A106 i hi, ta_A105 i hi, ta_A104 i hi, ta_A103 i hi], by rw [tl_A107, tl_A106, tl_A105, tl_A104, tl_A103], fun i k hi => by rw [fe_A107 i k hi, fe_A106 i k hi, fe_A105 i k hi, fe_A104 i k hi, fe_A103 i k hi]⟩)
  ·
    refine hpa_iconst (by rfl) rfl ?_
    exact hpa_ireturn (by rfl) rfl (hP _ _ ⟨_, rfl, by unfold hf5; rw [if_neg (by omega)], fun _ _ => rfl, rfl, fun _ _ _ => rfl⟩)
theorem hP133 {g d : Nat} {A : hs_A} {len : Nat} (a1 a2 a3 a4 a5 : Int32) (h : (A.1 367 2).toInt = (len : Int)) (hl : len ≤ 2000) : hpC g d 133 hm_m133 [.ref 368, .int a1, .int a2, .int a3, .int a4, .int a5] A (fun r A' => ∃ z : Int32, r = some (.int z) ∧ A'.2.1 368 = hf5 (A.2.1 368) len a1 a2 a3 a4 a5 ∧ (∀ i, ¬ i = 368 → A'.2.1 i = A.2.1 i) ∧ A'.2.2 = A.2.2 ∧ (∀ i k, ¬ (i = 367 ∧ k = 2) → A'.1 i k = A.1 i k)) := hpC.all (fun f d => hW133 a1 a2 a3 a4 a5 h hl (fun r A' h => h))
theorem hW72 {g d f : Nat} {A : hs_A} (a1 : Int32) {P : Option Value → hs_A → Prop} (hP : ∀ (r : Option Value) (A' : hs_A), (∃ z : Int32, r = some (.int z) ∧ (∀ i k, ¬ (i = 0 ∧ k = 1) → A'.1 i k = A.1 i k) ∧ A'.2 = A.2) → P r A') : hpa (f, g) d (some (.int)) hm_t72 0 [.ref 1, .int a1] [] A P := by
  have k4294967295 := hk_4294967295
  refine hpa_iload_n (by rfl) rfl ?_
  refine hpj_zlt (by rfl) rfl (fun q101 => ?_) (fun q101 => ?_)
  ·
    refine hpa_iconst (by rfl) rfl ?_
    exact hpa_ireturn (by rfl) rfl (hP _ _ ⟨_, rfl, fun _ _ _ => rfl, rfl⟩)
  ·
    refine hpa_iload_n (by rfl) rfl ?_
    refine hpa_aload_n (by rfl) rfl ?_
    refine hpj_getK (by rfl) (by rfl) (by rfl) rfl ?_
    refine hpj_cle (by rfl) rfl rfl (fun q102 => ?_) (fun q102 => ?_)
    ·
      refine hpa_aload_n (by rfl) rfl ?_
      refine hpa_dupR (by rfl) ?_
      refine hpj_getK (by rfl) (by rfl) (by rfl) rfl ?_
      refine hpa_iload_n (by rfl) rfl ?_
      refine hpj_isubU (by rfl) (fun z103 => ?_)
      refine hpj_putI (by rfl) (by rfl) (by rfl) (by rfl) (fun A104 eA104 fA104 => ?_)
      refine hpa_aload_n (by rfl) rfl ?_
      refine hpj_getK (by rfl) (by rfl) (by rfl) (hkS eA104) ?_
      exact hpa_ireturn (by rfl) rfl (hP _ _ ⟨_, rfl, fun i k hi => by rw [eA104, hup2 hi], fA104⟩)
    ·
      refine hpa_iconst (by rfl) rfl ?_
      exact hpa_ireturn (by rfl) rfl (hP _ _ ⟨_, rfl, fun _ _ _ => rfl, rfl⟩)
theorem hP72 {g d : Nat} {A : hs_A} (a1 : Int32) : hpC g d 72 hm_m72 [.ref 1, .int a1] A (fun r A' => ∃ z : Int32, r = some (.int z) ∧ (∀ i k, ¬ (i = 0 ∧ k = 1) → A'.1 i k = A.1 i k) ∧ A'.2 = A.2) := hpC.all (fun f d => hW72 a1 (fun r A' h => h))
theorem hW135 {g d f : Nat} {A : hs_A} (a1 : Int32) {P : Option Value → hs_A → Prop} (hP : ∀ (r : Option Value) (A' : hs_A), (∃ z : Int32, r = some (.int z) ∧ (∀ i k, ¬ (i = 367 ∧ k = 2) → A'.1 i k = A.1 i k) ∧ A'.2 = A.2) → P r A') : hpa (f, g) d (some (.int)) hm_t135 0 [.ref 368, .int a1] [] A P := by
  have k4294967295 := hk_4294967295
  refine hpa_iload_n (by rfl) rfl ?_
  refine hpj_zlt (by rfl) rfl (fun q101 => ?_) (fun q101 => ?_)
  ·
    refine hpa_iconst (by rfl) rfl ?_
    exact hpa_ireturn (by rfl) rfl (hP _ _ ⟨_, rfl, fun _ _ _ => rfl, rfl⟩)
  ·
    refine hpa_iload_n (by rfl) rfl ?_
    refine hpa_aload_n (by rfl) rfl ?_
    refine hpj_getK (by rfl) (by rfl) (by rfl) rfl ?_
    refine hpj_cle (by rfl) rfl rfl (fun q102 => ?_) (fun q102 => ?_)
    ·
      refine hpa_aload_n (by rfl) rfl ?_
      refine hpa_dupR (by rfl) ?_
      refine hpj_getK (by rfl) (by rfl) (by rfl) rfl ?_
      refine hpa_iload_n (by rfl) rfl ?_
      refine hpj_isubU (by rfl) (fun z103 => ?_)
      refine hpj_putI (by rfl) (by rfl) (by rfl) (by rfl) (fun A104 eA104 fA104 => ?_)
      refine hpa_aload_n (by rfl) rfl ?_
      refine hpj_getK (by rfl) (by rfl) (by rfl) (hkS eA104) ?_
      exact hpa_ireturn (by rfl) rfl (hP _ _ ⟨_, rfl, fun i k hi => by rw [eA104, hup2 hi], fA104⟩)
    ·
      refine hpa_iconst (by rfl) rfl ?_
      exact hpa_ireturn (by rfl) rfl (hP _ _ ⟨_, rfl, fun _ _ _ => rfl, rfl⟩)
theorem hP135 {g d : Nat} {A : hs_A} (a1 : Int32) : hpC g d 135 hm_m135 [.ref 368, .int a1] A (fun r A' => ∃ z : Int32, r = some (.int z) ∧ (∀ i k, ¬ (i = 367 ∧ k = 2) → A'.1 i k = A.1 i k) ∧ A'.2 = A.2) := hpC.all (fun f d => hW135 a1 (fun r A' h => h))
theorem hW75 {g d f : Nat} {A : hs_A}  {P : Option Value → hs_A → Prop} (hP : ∀ (r : Option Value) (A' : hs_A), (A = A' ∧ ∃ z : Int32, r = some (.int z) ∧ z = A.1 0 2) → P r A') : hpa (f, g) d (some (.int)) hm_t75 0 [.ref 1] [] A P := by
  refine hpa_aload_n (by rfl) rfl ?_
  refine hpj_getK (by rfl) (by rfl) (by rfl) rfl ?_
  exact hpa_ireturn (by rfl) rfl (hP _ _ ⟨rfl, _, rfl, rfl⟩)
theorem hP75 {g d : Nat} {A : hs_A}  : hpC g d 75 hm_m75 [.ref 1] A (fun r A' => A = A' ∧ ∃ z : Int32, r = some (.int z) ∧ z = A.1 0 2) := hpC.all (fun f d => hW75  (fun r A' h => h))
theorem hW151 {g d f : Nat} {A : hs_A}  {P : Option Value → hs_A → Prop} (hP : ∀ (r : Option Value) (A' : hs_A), (A = A' ∧ ∃ z : Int32, r = some (.int z) ∧ z = A.1 367 17) → P r A') : hpa (f, g) d (some (.int)) hm_t151 0 [.ref 368] [] A P := by
  refine hpa_aload_n (by rfl) rfl ?_
  refine hpj_getK (by rfl) (by rfl) (by rfl) rfl ?_
  exact hpa_ireturn (by rfl) rfl (hP _ _ ⟨rfl, _, rfl, rfl⟩)
theorem hP151 {g d : Nat} {A : hs_A}  : hpC g d 151 hm_m151 [.ref 368] A (fun r A' => A = A' ∧ ∃ z : Int32, r = some (.int z) ∧ z = A.1 367 17) := hpC.all (fun f d => hW151  (fun r A' h => h))
