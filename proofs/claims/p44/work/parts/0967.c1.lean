theorem hW246T {g d f : Nat} {A : hs_A} {T : Nat} (hT : hTT T) (a1 : Int32) {P : Option Value → hs_A → Prop} (hP : ∀ (r : Option Value) (A' : hs_A), (r = none ∧ (hcZ T A A')) → P r A') : hpa (f, g) d none hm_t246 0 [.ref (T + 4), .int a1, .retAddr 0, .retAddr 0] [] A P := by
  have k0 := hk_0
  have k1 := hk_1
  have k24 := hk_24
  have hT9 : T ≤ 11 := by rcases hT with rfl | rfl <;> omega
  have L5 : ∀ (f : Nat) (x5_2 : Int32) (x5_3 : Int32) (A5 : hs_A) (Z5 : hcZ T A A5), hpa (f, g) d none hm_t246 5 [.ref (T + 4), .int a1, .int x5_2, .int x5_3] [] A5 P := by
    intro f
    induction f with
    | zero => intros; exact hpa.zero
    | succ f ih5 =>
      intro x5_2 x5_3 A5 Z5
      refine hpa_iload_nS (by rfl) rfl ?_
      refine hpa_iload_n (by rfl) rfl ?_
      refine hpj_cge (by rfl) rfl rfl (fun q1 => ?_) (fun q1 => ?_)
      ·
        exact hpa_return (by rfl) rfl (hP _ _ ⟨rfl, Z5⟩)
      ·
        refine hpa_aload_n (by rfl) rfl ?_
        refine hpa_iload_n (by rfl) rfl ?_
        refine hpa_iload_n (by rfl) rfl ?_
        refine hpx_iast (by rfl) (hsT3 hT) (fun A2 h0A2 h1A2 eA2 fA2 gA2 => ?_)
        have ZA2 := Z5.a eA2 fA2 gA2 (by omega)
        refine hpj_iincU (by rfl) rfl (fun _ => rfl) (fun z3 => ?_)
        refine hpa_goto (by rfl) ?_
        exact ih5 z3 x5_3 A2 ZA2
  refine hpa_iconst (by rfl) rfl ?_
  refine hpa_s1 (by rfl) (Or.inl ⟨_, rfl, rfl⟩) rfl ?_
  refine hpa_aload_n (by rfl) rfl ?_
  refine hpa_alen (by rfl) (by rfl) (hsT3 hT) ?_
  refine hpa_s1 (by rfl) (Or.inl ⟨_, rfl, rfl⟩) rfl ?_
  exact L5 _ (Int32.ofNat 0) (Int32.ofNat 24) A hcZ.rfl
theorem hP246T {g d : Nat} {A : hs_A} {T : Nat} (hT : hTT T) (a1 : Int32) : hpC g d 246 hm_m246 [.ref (T + 4), .int a1] A (fun r A' => r = none ∧ (hcZ T A A')) := hpC.all (fun f d => hW246T hT a1 (fun r A' h => h))
theorem hcW.trans {T : Nat} {A A1 A' : hs_A} (h : hcW T A A1) (w : hcW T A1 A') : hcW T A A' := ⟨fun i k h1 => (w.1 i k h1).trans (h.1 i k h1), fun i hi => (w.2.1 i hi).trans (h.2.1 i hi), w.2.2.trans h.2.2⟩
theorem hW8 {g d f : Nat} {A : hs_A} {T : Nat} (hT : hTT T) {P : Option Value → hs_A → Prop} (hP : ∀ (r : Option Value) (A' : hs_A), (r = none ∧ (hcW T A A')) → P r A') : hpa (f, g) d none hm_t8 0 [.ref (T + 5), .retAddr 0, .retAddr 0] [] A P := by
  have k0 := hk_0
  have k1 := hk_1
  have k4 := hk_4
  have k7 := hk_7
  have hT9 : T ≤ 11 := by rcases hT with rfl | rfl <;> omega
  have L7 : ∀ (f : Nat) (x7_1 : Int32) (x7_2 : Value) (A7 : hs_A) (W7 : hcW T A A7), hpa (f, g) d none hm_t8 7 [.ref (T + 5), .int x7_1, x7_2] [] A7 P := by
    intro f
    induction f with
    | zero => intros; exact hpa.zero
    | succ f ih7 =>
      intro x7_1 x7_2 A7 W7
      refine hpa_iload_nS (by rfl) rfl ?_
      refine hpa_iconst (by rfl) rfl ?_
      refine hpj_cge (by rfl) rfl hk_4 (fun q1 => ?_) (fun q1 => ?_)
      ·
        exact hpa_return (by rfl) rfl (hP _ _ ⟨rfl, W7⟩)
      ·
        refine hpa_aload_n (by rfl) rfl ?_
        refine hpj_getK (by rfl) (hsT4 hT) (by rfl) rfl ?_
        refine hpa_s1 (by rfl) (Or.inl ⟨_, rfl, rfl⟩) rfl ?_
        refine hpa_aload_n (by rfl) rfl ?_
        refine hpa_iconst (by rfl) rfl ?_
        refine hpj_putI (by rfl) (hsT4 hT) (by rfl) (by rfl) (fun A2 eA2 fA2 => ?_)
        have WA2 := hcW.f (k := 5) W7 eA2 fA2
        refine hpa_aload_n (by rfl) rfl ?_
        refine hpa_iconst (by rfl) rfl ?_
        refine hpa_iload_n (by rfl) rfl ?_
        refine hpj_zne (by rfl) rfl (fun q3 => ?_) (fun q3 => ?_)
        ·
          refine hpa_iconst (by rfl) rfl ?_
          refine hpa_call0 (by rfl) (by rfl) (by rfl) (hsT4 hT) (by rfl) (by rfl) (hP12 hT (Int32.ofNat 0) (Int32.ofNat 0)) ?_
          rintro _ A4 ⟨z5, rfl, W_A4⟩
          have VW_A4 := WA2.trans W_A4
          refine hpa_popI (by rfl) ?_
          refine hpa_aload_n (by rfl) rfl ?_
          refine hpa_bipush (by rfl) rfl ?_
          refine hpa_iconst (by rfl) rfl ?_
          refine hpa_call0 (by rfl) (by rfl) (by rfl) (hsT4 hT) (by rfl) (by rfl) (hP12 hT (Int32.ofNat 7) (Int32.ofNat 0)) ?_
          rintro _ A6 ⟨z7, rfl, W_A6⟩
          have VW_A6 := VW_A4.trans W_A6
          refine hpa_popI (by rfl) ?_
          refine hpa_aload_n (by rfl) rfl ?_
          refine hpa_iload_n (by rfl) rfl ?_
          refine hpa_iload_n (by rfl) rfl ?_
          refine hpa_call0 (by rfl) (by rfl) (by rfl) (hsT4 hT) (by rfl) (by rfl) (hP10 hT x7_1 (A7.1 (T + 4) 4)) ?_
          rintro _ A8 ⟨rfl, W_A8⟩
          have VW_A8 := VW_A6.trans W_A8
          refine hpj_iincU (by rfl) rfl (fun _ => rfl) (fun z9 => ?_)
          refine hpa_goto (by rfl) ?_
          exact ih7 z9 (.int (A7.1 (T + 4) 4)) A8 VW_A8
        ·
          refine hpa_iconst (by rfl) rfl ?_
          refine hpa_goto (by rfl) ?_
          refine hpa_call0 (by rfl) (by rfl) (by rfl) (hsT4 hT) (by rfl) (by rfl) (hP12 hT (Int32.ofNat 0) (Int32.ofNat 1)) ?_
          rintro _ A10 ⟨z11, rfl, W_A10⟩
          have VW_A10 := WA2.trans W_A10
          refine hpa_popI (by rfl) ?_
          refine hpa_aload_n (by rfl) rfl ?_
          refine hpa_bipush (by rfl) rfl ?_
          refine hpa_iconst (by rfl) rfl ?_
          refine hpa_call0 (by rfl) (by rfl) (by rfl) (hsT4 hT) (by rfl) (by rfl) (hP12 hT (Int32.ofNat 7) (Int32.ofNat 0)) ?_
          rintro _ A12 ⟨z13, rfl, W_A12⟩
          have VW_A12 := VW_A10.trans W_A12
          refine hpa_popI (by rfl) ?_
          refine hpa_aload_n (by rfl) rfl ?_
          refine hpa_iload_n (by rfl) rfl ?_
          refine hpa_iload_n (by rfl) rfl ?_
          refine hpa_call0 (by rfl) (by rfl) (by rfl) (hsT4 hT) (by rfl) (by rfl) (hP10 hT x7_1 (A7.1 (T + 4) 4)) ?_
          rintro _ A14 ⟨rfl, W_A14⟩
          have VW_A14 := VW_A12.trans W_A14
          refine hpj_iincU (by rfl) rfl (fun _ => rfl) (fun z15 => ?_)
          refine hpa_goto (by rfl) ?_
          exact ih7 z15 (.int (A7.1 (T + 4) 4)) A14 VW_A14
  refine hpa_aload_n (by rfl) rfl ?_
  refine hpa_iconst (by rfl) rfl ?_
  refine hpj_putI (by rfl) (hsT4 hT) (by rfl) (by rfl) (fun A16 eA16 fA16 => ?_)
  have WA16 := hcW.f (k := 4) hcW.rfl (T := T) (A := A) eA16 fA16
  refine hpa_iconst (by rfl) rfl ?_
  refine hpa_s1 (by rfl) (Or.inl ⟨_, rfl, rfl⟩) rfl ?_
  exact L7 _ (Int32.ofNat 0) (.retAddr 0) A16 WA16
theorem hP8 {g d : Nat} {A : hs_A} {T : Nat} (hT : hTT T) : hpC g d 8 hm_m8 [.ref (T + 5)] A (fun r A' => r = none ∧ (hcW T A A')) := hpC.all (fun f d => hW8 hT (fun r A' h => h))
theorem hW54 {g d f : Nat} {A : hs_A} {T : Nat} (hT : hTT T) {P : Option Value → hs_A → Prop} (hP : ∀ (r : Option Value) (A' : hs_A), (r = none ∧ (hcZ T A A' ∧ (A'.1 T 4).toInt = 0 ∧ (A'.1 T 5).toInt = 0)) → P r A') : hpa (f, g) d none hm_t54 0 [.ref (T + 1)] [] A P := by
  have k0 := hk_0
  have k6 := hk_6
  have hT9 : T ≤ 11 := by rcases hT with rfl | rfl <;> omega
  refine hpa_aload_n (by rfl) rfl ?_
  refine hpa_get (v := .ref (T + 4)) (by rfl) (hsT hT) (by rfl) (hvT hT (by omega)) ?_
  refine hpa_iconst (by rfl) rfl ?_
  refine hpa_call2 (by rfl) (by decide) (by rfl) (by rfl) (by rfl) (hP246T hT (Int32.ofNat 0)) ?_
  rintro _ A1 ⟨rfl, Z_A1⟩
  have hZ0 := Z_A1
  refine hpa_aload_n (by rfl) rfl ?_
  refine hpa_get (v := .ref (T + 5)) (by rfl) (hsT hT) (by rfl) (hvT hT (by omega)) ?_
  refine hpa_call0 (by rfl) (by rfl) (by rfl) (hsT4 hT) (by rfl) (by rfl) (hP8 hT) ?_
  rintro _ A2 ⟨rfl, W_A2⟩
  have hZ1 := hZ0.W W_A2
  refine hpa_aload_n (by rfl) rfl ?_
  refine hpa_iconst (by rfl) rfl ?_
  refine hpj_putI (by rfl) (hsT hT) (by rfl) (by rfl) (fun A3 eA3 fA3 => ?_)
  have ZA3 := hZ1.f (k := 4) eA3 fA3
  refine hpa_aload_n (by rfl) rfl ?_
  refine hpa_iconst (by rfl) rfl ?_
  refine hpj_putI (by rfl) (hsT hT) (by rfl) (by rfl) (fun A4 eA4 fA4 => ?_)
  have ZA4 := ZA3.f (k := 5) eA4 fA4
  refine hpa_aload_n (by rfl) rfl ?_
  refine hpa_bipush (by rfl) rfl ?_
  refine hpj_putI (by rfl) (hsT hT) (by rfl) (by rfl) (fun A5 eA5 fA5 => ?_)
  have ZA5 := ZA4.f (k := 6) eA5 fA5
  refine hpa_aload_n (by rfl) rfl ?_
  refine hpa_iconst (by rfl) rfl ?_
  refine hpj_putI (by rfl) (hsT hT) (by rfl) (by rfl) (fun A6 eA6 fA6 => ?_)
  have ZA6 := ZA5.f (k := 7) eA6 fA6
  exact hpa_return (by rfl) rfl (hP _ _ ⟨rfl, ZA6, (congrArg Int32.toInt (show A6.1 T 4 = (Int32.ofNat 0) from (hkF eA6 (by omega) (hkF eA5 (by omega) (hkF eA4 (by omega) (hkS eA3)))))).trans hk_0, (congrArg Int32.toInt (show A6.1 T 5 = (Int32.ofNat 0) from (hkF eA6 (by omega) (hkF eA5 (by omega) (hkS eA4))))).trans hk_0⟩)
theorem hP54 {g d : Nat} {A : hs_A} {T : Nat} (hT : hTT T) : hpC g d 54 hm_m54 [.ref (T + 1)] A (fun r A' => r = none ∧ (hcZ T A A' ∧ (A'.1 T 4).toInt = 0 ∧ (A'.1 T 5).toInt = 0)) := hpC.all (fun f d => hW54 hT (fun r A' h => h))
theorem hW37 {g d f : Nat} {A : hs_A} {B : Nat → Int} {n T : Nat} (hT : hTT T) (a1 : Int32) (hA : hcTp B n A) (h1 : a1.toInt = (n : Int)) (hn : n ≤ 2000) (hBr : ∀ i, i < n → B i ≤ 127) (hU : hcU A) {P : Option Value → hs_A → Prop} (hP : ∀ (r : Option Value) (A' : hs_A), (∃ z : Int32, r = some (.int z) ∧ hq_res (ht_K B n) (ht_W B n) (fun u => (ht_S B n u : Int)) (ht_E B n) z.toInt (A'.1 20 6).toInt ∧ hcU A') → P r A') : hpa (f, g) d (some (.int)) hm_t37 0 [.ref 21, .ref (T + 1), .ref 2, .int a1, .retAddr 0, .retAddr 0, .retAddr 0] [] A P := by
  have k0 := hk_0
  have k1 := hk_1
  have k2 := hk_2
  have k22 := hk_22
  have k400 := hk_400
  have k4294967295 := hk_4294967295
  have hT9 : T ≤ 11 := by rcases hT with rfl | rfl <;> omega
  have hT2 : 2 ≤ T := by rcases hT with rfl | rfl <;> omega
  have L52 : ∀ (f : Nat) (x52_4 : Int32) (x52_5 : Int32) (x52_6 : Value) (A52 : hs_A) (D52 : (x52_4.toInt = 1 ∧ ∃ (t a b c : Nat) (ns : List Nat) (nm sn : Nat) (o : Option (Nat × Nat)), x52_5.toInt ≤ (t : Int) ∧ hcB (ht_K B n) (ht_W B n) (fun u => (ht_S B n u : Int)) (ht_E B n) T A52 t (0, a, b, c, ns, nm, sn, o) ∧ hcR (fun u => (ht_S B n u : Int)) T A52 ns none sn o) ∨ (x52_4.toInt = 0 ∧ hcF (ht_K B n) (ht_W B n) (fun u => (ht_S B n u : Int)) (ht_E B n) T A52)) (lo52 : 0 ≤ x52_5.toInt), hpa (f, g) d (some (.int)) hm_t37 52 [.ref 21, .ref (T + 1), .ref 2, .int a1, .int x52_4, .int x52_5, x52_6] [] A52 P := by
    intro f
    induction f with
    | zero => intros; exact hpa.zero
    | succ f ih52 =>
      intro x52_4 x52_5 x52_6 A52 D52 lo52
      rcases D52 with ⟨fz0, t, a, b, c, ns, nm, sn, o, lt0, B1, R1⟩ | ⟨fz0, F1⟩
      ·
        have h401 := B1.at.1
        have hf0 := B1.2.2.2.2
        have hl0 := R1.2.2.2.2
        refine hpa_iloadS (by rfl) rfl ?_
        refine hpa_sipush (by rfl) rfl ?_
        refine hpj_cgt (by rfl) rfl hk_400 (fun q1 => False.elim (by omega)) (fun q1 => ?_)
        refine hpa_iload (by rfl) rfl ?_
        refine hpj_zeq (by rfl) rfl (fun q2 => False.elim (by omega)) (fun q2 => ?_)
        refine hpa_aload_n (by rfl) rfl ?_
        refine hpa_call0 (by rfl) (by rfl) (by rfl) (by rfl) (by rfl) (by rfl) (hP38 hT B1) ?_
        rintro _ _ ⟨rfl, z4, rfl, fz_A3⟩
        refine hpa_bipush (by rfl) rfl ?_
        refine hpj_ceq (by rfl) rfl hk_22 (fun q5 => ?_) (fun q5 => ?_)
        ·
          have hK22 : ht_K B n t = 22 := by omega
          refine hpa_aload_n (by rfl) rfl ?_
          refine hpj_getK (by rfl) (by rfl) (by rfl) rfl ?_
          refine hpj_zne (by rfl) rfl (fun q6 => False.elim (by omega)) (fun q6 => ?_)
          refine hpa_aload_n (by rfl) rfl ?_
          refine hpa_aload_n (by rfl) rfl ?_
          refine hpj_getK (by rfl) (by rfl) (by rfl) rfl ?_
          refine hpj_putI (by rfl) (by rfl) (by rfl) (by rfl) (fun A7 eA7 fA7 => ?_)
          refine hpa_aload_n (by rfl) rfl ?_
          refine hpa_aload_n (by rfl) rfl ?_
          refine hpj_getK (by rfl) (by rfl) (by rfl) (hkF eA7 (by omega) rfl) ?_
          refine hpj_putI (by rfl) (by rfl) (by rfl) (by rfl) (fun A8 eA8 fA8 => ?_)
          refine hpa_aload_n (by rfl) rfl ?_
          refine hpj_getK (by rfl) (by rfl) (by rfl) (hkF eA8 (by omega) (hkS eA7)) ?_
          exact hpa_ireturn (by rfl) rfl (hP _ _ ⟨_, rfl, by rw [show A8.1 20 6 = (A52.1 20 8) from (hkS eA8)]; exact hq_res.late B1.2.2.2.1 (hqd0_end hK22) hl0, B1.2.1.2.2.fr (by rw [fA8, fA7])⟩)
        ·
          refine hpa_aload_n (by rfl) rfl ?_
          refine hpa_call0 (by rfl) (by rfl) (by rfl) (by rfl) (by rfl) (by rfl) (hP38 hT B1) ?_
          rintro _ _ ⟨rfl, z10, rfl, fz_A9⟩
          refine hpa_s1 (by rfl) (Or.inr ⟨_, rfl, rfl⟩) rfl ?_
          refine hpa_iload (by rfl) rfl ?_
          by_cases q11 : z10.toInt = 0
          ·
            refine hpa_tabIn (by rfl) (by omega) (by omega) (by rw [q11]; rfl) (tgt := 128) (by rfl) ?_
            refine hpa_aload_n (by rfl) rfl ?_
            refine hpa_call0 (by rfl) (by rfl) (by rfl) (by rfl) (by rfl) (by rfl) (hP45 hT B1 R1 (by omega)) ?_
            rintro _ A12 ⟨z13, rfl, (⟨fz_A12, OK_A12⟩ | ⟨fz_A12, F_A12⟩)⟩
            ·
              obtain ⟨t9, a9, b9, c9, ns9, nm9, sn9, o9, lt9, B9, R9⟩ := OK_A12
              refine hpa_s1 (by rfl) (Or.inr ⟨_, rfl, rfl⟩) rfl ?_
              refine hpa_goto (by rfl) ?_
              refine hpj_iinc (by rfl) rfl rfl hk_1 (by omega) (by omega) (fun _ => rfl) (fun z14 ez14 => ?_)
              refine hpa_goto (by rfl) ?_
              exact ih52 z13 z14 (.int z10) A12 (Or.inl ⟨fz_A12, _, _, _, _, _, _, _, _, by omega, B9, R9⟩) (by omega)
            ·
              refine hpa_s1 (by rfl) (Or.inr ⟨_, rfl, rfl⟩) rfl ?_
              refine hpa_goto (by rfl) ?_
              refine hpj_iinc (by rfl) rfl rfl hk_1 (by omega) (by omega) (fun _ => rfl) (fun z15 ez15 => ?_)
              refine hpa_goto (by rfl) ?_
              exact ih52 z13 z15 (.int z10) A12 (Or.inr ⟨fz_A12, F_A12⟩) (by omega)
          ·
            by_cases q16 : z10.toInt = 1
            ·
              refine hpa_tabIn (by rfl) (by omega) (by omega) (by rw [q16]; rfl) (tgt := 137) (by rfl) ?_
              refine hpa_aload_n (by rfl) rfl ?_
              refine hpa_call0 (by rfl) (by rfl) (by rfl) (by rfl) (by rfl) (by rfl) (hP46 hT B1 R1 (by omega)) ?_
              rintro _ A17 ⟨z18, rfl, (⟨fz_A17, OK_A17⟩ | ⟨fz_A17, F_A17⟩)⟩
              ·
                obtain ⟨t9, a9, b9, c9, ns9, nm9, sn9, o9, lt9, B9, R9⟩ := OK_A17
                refine hpa_s1 (by rfl) (Or.inr ⟨_, rfl, rfl⟩) rfl ?_
                refine hpa_goto (by rfl) ?_
                refine hpj_iinc (by rfl) rfl rfl hk_1 (by omega) (by omega) (fun _ => rfl) (fun z19 ez19 => ?_)
                refine hpa_goto (by rfl) ?_
                exact ih52 z18 z19 (.int z10) A17 (Or.inl ⟨fz_A17, _, _, _, _, _, _, _, _, by omega, B9, R9⟩) (by omega)
              ·
                refine hpa_s1 (by rfl) (Or.inr ⟨_, rfl, rfl⟩) rfl ?_
                refine hpa_goto (by rfl) ?_
                refine hpj_iinc (by rfl) rfl rfl hk_1 (by omega) (by omega) (fun _ => rfl) (fun z20 ez20 => ?_)
                refine hpa_goto (by rfl) ?_
                exact ih52 z18 z20 (.int z10) A17 (Or.inr ⟨fz_A17, F_A17⟩) (by omega)
            ·
              by_cases q21 : z10.toInt = 2
              ·
                refine hpa_tabIn (by rfl) (by omega) (by omega) (by rw [q21]; rfl) (tgt := 146) (by rfl) ?_
                refine hpa_aload_n (by rfl) rfl ?_
                refine hpa_iload (by rfl) rfl ?_
                refine hpa_iconst (by rfl) rfl ?_
                refine hpj_isub (by rfl) rfl hk_2 (by omega) (by omega) (fun z22 ez22 => ?_)
                refine hpa_call0 (by rfl) (by rfl) (by rfl) (by rfl) (by rfl) (by rfl) (hP49 hT z22 B1 R1 (by omega)) ?_
                rintro _ A23 ⟨z24, rfl, (⟨fz_A23, OK_A23⟩ | ⟨fz_A23, F_A23⟩)⟩
                ·
                  obtain ⟨t9, a9, b9, c9, ns9, nm9, sn9, o9, lt9, B9, R9⟩ := OK_A23
                  refine hpa_s1 (by rfl) (Or.inr ⟨_, rfl, rfl⟩) rfl ?_
                  refine hpa_goto (by rfl) ?_
                  refine hpj_iinc (by rfl) rfl rfl hk_1 (by omega) (by omega) (fun _ => rfl) (fun z25 ez25 => ?_)
                  refine hpa_goto (by rfl) ?_
                  exact ih52 z24 z25 (.int z10) A23 (Or.inl ⟨fz_A23, _, _, _, _, _, _, _, _, by omega, B9, R9⟩) (by omega)
                ·
                  refine hpa_s1 (by rfl) (Or.inr ⟨_, rfl, rfl⟩) rfl ?_
                  refine hpa_goto (by rfl) ?_
                  refine hpj_iinc (by rfl) rfl rfl hk_1 (by omega) (by omega) (fun _ => rfl) (fun z26 ez26 => ?_)
                  refine hpa_goto (by rfl) ?_
                  exact ih52 z24 z26 (.int z10) A23 (Or.inr ⟨fz_A23, F_A23⟩) (by omega)
              ·
                by_cases q27 : z10.toInt = 3
                ·
                  refine hpa_tabIn (by rfl) (by omega) (by omega) (by rw [q27]; rfl) (tgt := 146) (by rfl) ?_
                  refine hpa_aload_n (by rfl) rfl ?_
                  refine hpa_iload (by rfl) rfl ?_
                  refine hpa_iconst (by rfl) rfl ?_
                  refine hpj_isub (by rfl) rfl hk_2 (by omega) (by omega) (fun z28 ez28 => ?_)
                  refine hpa_call0 (by rfl) (by rfl) (by rfl) (by rfl) (by rfl) (by rfl) (hP49 hT z28 B1 R1 (by omega)) ?_
                  rintro _ A29 ⟨z30, rfl, (⟨fz_A29, OK_A29⟩ | ⟨fz_A29, F_A29⟩)⟩
                  ·
                    obtain ⟨t9, a9, b9, c9, ns9, nm9, sn9, o9, lt9, B9, R9⟩ := OK_A29
                    refine hpa_s1 (by rfl) (Or.inr ⟨_, rfl, rfl⟩) rfl ?_
                    refine hpa_goto (by rfl) ?_
                    refine hpj_iinc (by rfl) rfl rfl hk_1 (by omega) (by omega) (fun _ => rfl) (fun z31 ez31 => ?_)
                    refine hpa_goto (by rfl) ?_
                    exact ih52 z30 z31 (.int z10) A29 (Or.inl ⟨fz_A29, _, _, _, _, _, _, _, _, by omega, B9, R9⟩) (by omega)
                  ·
                    refine hpa_s1 (by rfl) (Or.inr ⟨_, rfl, rfl⟩) rfl ?_
                    refine hpa_goto (by rfl) ?_
                    refine hpj_iinc (by rfl) rfl rfl hk_1 (by omega) (by omega) (fun _ => rfl) (fun z32 ez32 => ?_)
                    refine hpa_goto (by rfl) ?_
                    exact ih52 z30 z32 (.int z10) A29 (Or.inr ⟨fz_A29, F_A29⟩) (by omega)
                ·
                  by_cases q33 : z10.toInt = 4
                  ·
                    refine hpa_tabIn (by rfl) (by omega) (by omega) (by rw [q33]; rfl) (tgt := 146) (by rfl) ?_
                    refine hpa_aload_n (by rfl) rfl ?_
                    refine hpa_iload (by rfl) rfl ?_
                    refine hpa_iconst (by rfl) rfl ?_
                    refine hpj_isub (by rfl) rfl hk_2 (by omega) (by omega) (fun z34 ez34 => ?_)
                    refine hpa_call0 (by rfl) (by rfl) (by rfl) (by rfl) (by rfl) (by rfl) (hP49 hT z34 B1 R1 (by omega)) ?_
                    rintro _ A35 ⟨z36, rfl, (⟨fz_A35, OK_A35⟩ | ⟨fz_A35, F_A35⟩)⟩
                    ·
                      obtain ⟨t9, a9, b9, c9, ns9, nm9, sn9, o9, lt9, B9, R9⟩ := OK_A35
                      refine hpa_s1 (by rfl) (Or.inr ⟨_, rfl, rfl⟩) rfl ?_
                      refine hpa_goto (by rfl) ?_
                      refine hpj_iinc (by rfl) rfl rfl hk_1 (by omega) (by omega) (fun _ => rfl) (fun z37 ez37 => ?_)
                      refine hpa_goto (by rfl) ?_
                      exact ih52 z36 z37 (.int z10) A35 (Or.inl ⟨fz_A35, _, _, _, _, _, _, _, _, by omega, B9, R9⟩) (by omega)
                    ·
                      refine hpa_s1 (by rfl) (Or.inr ⟨_, rfl, rfl⟩) rfl ?_
                      refine hpa_goto (by rfl) ?_
                      refine hpj_iinc (by rfl) rfl rfl hk_1 (by omega) (by omega) (fun _ => rfl) (fun z38 ez38 => ?_)
                      refine hpa_goto (by rfl) ?_
                      exact ih52 z36 z38 (.int z10) A35 (Or.inr ⟨fz_A35, F_A35⟩) (by omega)
                  ·
                    by_cases q39 : z10.toInt = 5
                    ·
                      refine hpa_tabIn (by rfl) (by omega) (by omega) (by rw [q39]; rfl) (tgt := 146) (by rfl) ?_
                      refine hpa_aload_n (by rfl) rfl ?_
                      refine hpa_iload (by rfl) rfl ?_
                      refine hpa_iconst (by rfl) rfl ?_
                      refine hpj_isub (by rfl) rfl hk_2 (by omega) (by omega) (fun z40 ez40 => ?_)
                      refine hpa_call0 (by rfl) (by rfl) (by rfl) (by rfl) (by rfl) (by rfl) (hP49 hT z40 B1 R1 (by omega)) ?_
                      rintro _ A41 ⟨z42, rfl, (⟨fz_A41, OK_A41⟩ | ⟨fz_A41, F_A41⟩)⟩
                      ·
                        obtain ⟨t9, a9, b9, c9, ns9, nm9, sn9, o9, lt9, B9, R9⟩ := OK_A41
                        refine hpa_s1 (by rfl) (Or.inr ⟨_, rfl, rfl⟩) rfl ?_
                        refine hpa_goto (by rfl) ?_
                        refine hpj_iinc (by rfl) rfl rfl hk_1 (by omega) (by omega) (fun _ => rfl) (fun z43 ez43 => ?_)
                        refine hpa_goto (by rfl) ?_
                        exact ih52 z42 z43 (.int z10) A41 (Or.inl ⟨fz_A41, _, _, _, _, _, _, _, _, by omega, B9, R9⟩) (by omega)
                      ·
                        refine hpa_s1 (by rfl) (Or.inr ⟨_, rfl, rfl⟩) rfl ?_
                        refine hpa_goto (by rfl) ?_
                        refine hpj_iinc (by rfl) rfl rfl hk_1 (by omega) (by omega) (fun _ => rfl) (fun z44 ez44 => ?_)
                        refine hpa_goto (by rfl) ?_
                        exact ih52 z42 z44 (.int z10) A41 (Or.inr ⟨fz_A41, F_A41⟩) (by omega)
                    ·
                      by_cases q45 : z10.toInt = 6
                      ·
                        refine hpa_tabIn (by rfl) (by omega) (by omega) (by rw [q45]; rfl) (tgt := 159) (by rfl) ?_
                        refine hpa_aload_n (by rfl) rfl ?_
                        refine hpa_call0 (by rfl) (by rfl) (by rfl) (by rfl) (by rfl) (by rfl) (hP47 hT B1 R1 (by omega)) ?_
                        rintro _ A46 ⟨z47, rfl, (⟨fz_A46, OK_A46⟩ | ⟨fz_A46, F_A46⟩)⟩
                        ·
                          obtain ⟨t9, a9, b9, c9, ns9, nm9, sn9, o9, lt9, B9, R9⟩ := OK_A46
                          refine hpa_s1 (by rfl) (Or.inr ⟨_, rfl, rfl⟩) rfl ?_
                          refine hpa_goto (by rfl) ?_
                          refine hpj_iinc (by rfl) rfl rfl hk_1 (by omega) (by omega) (fun _ => rfl) (fun z48 ez48 => ?_)
                          refine hpa_goto (by rfl) ?_
                          exact ih52 z47 z48 (.int z10) A46 (Or.inl ⟨fz_A46, _, _, _, _, _, _, _, _, by omega, B9, R9⟩) (by omega)
                        ·
                          refine hpa_s1 (by rfl) (Or.inr ⟨_, rfl, rfl⟩) rfl ?_
                          refine hpa_goto (by rfl) ?_
                          refine hpj_iinc (by rfl) rfl rfl hk_1 (by omega) (by omega) (fun _ => rfl) (fun z49 ez49 => ?_)
                          refine hpa_goto (by rfl) ?_
                          exact ih52 z47 z49 (.int z10) A46 (Or.inr ⟨fz_A46, F_A46⟩) (by omega)
                      ·
                        by_cases q50 : z10.toInt = 7
                        ·
                          refine hpa_tabIn (by rfl) (by omega) (by omega) (by rw [q50]; rfl) (tgt := 168) (by rfl) ?_
                          refine hpa_aload_n (by rfl) rfl ?_
                          refine hpa_call0 (by rfl) (by rfl) (by rfl) (by rfl) (by rfl) (by rfl) (hP48 hT B1 R1 (by omega)) ?_
                          rintro _ A51 ⟨z52, rfl, (⟨fz_A51, OK_A51⟩ | ⟨fz_A51, F_A51⟩)⟩
                          ·
                            obtain ⟨t9, a9, b9, c9, ns9, nm9, sn9, o9, lt9, B9, R9⟩ := OK_A51
                            refine hpa_s1 (by rfl) (Or.inr ⟨_, rfl, rfl⟩) rfl ?_
                            refine hpa_goto (by rfl) ?_
                            refine hpj_iinc (by rfl) rfl rfl hk_1 (by omega) (by omega) (fun _ => rfl) (fun z53 ez53 => ?_)
                            refine hpa_goto (by rfl) ?_
                            exact ih52 z52 z53 (.int z10) A51 (Or.inl ⟨fz_A51, _, _, _, _, _, _, _, _, by omega, B9, R9⟩) (by omega)
                          ·
                            refine hpa_s1 (by rfl) (Or.inr ⟨_, rfl, rfl⟩) rfl ?_
                            refine hpa_goto (by rfl) ?_
                            refine hpj_iinc (by rfl) rfl rfl hk_1 (by omega) (by omega) (fun _ => rfl) (fun z54 ez54 => ?_)
                            refine hpa_goto (by rfl) ?_
                            exact ih52 z52 z54 (.int z10) A51 (Or.inr ⟨fz_A51, F_A51⟩) (by omega)
                        ·
                          refine hpa_tabOut (by rfl) (by omega) (tgt := 177) (by rfl) ?_
                          refine hpa_aload_n (by rfl) rfl ?_
                          refine hpa_iconst (by rfl) rfl ?_
                          refine hpa_call0 (by rfl) (by rfl) (by rfl) (by rfl) (by rfl) (by rfl) (hP39 hT (Int32.ofNat 1) B1 ⟨_, B1.2.2.2.1, hqd0_else (by omega) (by omega)⟩ (by decide) hk_1) ?_
                          rintro _ A55 ⟨z56, rfl, fz_A55, F_A55⟩
                          refine hpa_s1 (by rfl) (Or.inr ⟨_, rfl, rfl⟩) rfl ?_
                          refine hpj_iinc (by rfl) rfl rfl hk_1 (by omega) (by omega) (fun _ => rfl) (fun z57 ez57 => ?_)
                          refine hpa_goto (by rfl) ?_
                          exact ih52 z56 z57 (.int z10) A55 (Or.inr ⟨fz_A55, F_A55⟩) (by omega)
      ·
        obtain ⟨frf, fU, ft, fk, fq, fk0, fv, fp⟩ := id F1
        refine hpa_iloadS (by rfl) rfl ?_
        refine hpa_sipush (by rfl) rfl ?_
        refine hpj_cgt (by rfl) rfl hk_400 (fun q58 => ?_) (fun q58 => ?_)
        ·
          refine hpa_aload_n (by rfl) rfl ?_
          refine hpj_getK (by rfl) (by rfl) (by rfl) rfl ?_
          refine hpj_zne (by rfl) rfl (fun q59 => ?_) (fun q59 => False.elim (by omega))
          refine hpa_aload_n (by rfl) rfl ?_
          refine hpj_getK (by rfl) (by rfl) (by rfl) rfl ?_
          exact hpa_ireturn (by rfl) rfl (hP _ _ ⟨_, rfl, Or.inl ⟨ft, fk, fq, fk0, fv, fp⟩, fU⟩)
        ·
          refine hpa_iload (by rfl) rfl ?_
          refine hpj_zeq (by rfl) rfl (fun q60 => ?_) (fun q60 => False.elim (by omega))
          refine hpa_aload_n (by rfl) rfl ?_
          refine hpj_getK (by rfl) (by rfl) (by rfl) rfl ?_
          refine hpj_zne (by rfl) rfl (fun q61 => ?_) (fun q61 => False.elim (by omega))
          refine hpa_aload_n (by rfl) rfl ?_
          refine hpj_getK (by rfl) (by rfl) (by rfl) rfl ?_
          exact hpa_ireturn (by rfl) rfl (hP _ _ ⟨_, rfl, Or.inl ⟨ft, fk, fq, fk0, fv, fp⟩, fU⟩)
  refine hpa_aload_n (by rfl) rfl ?_
  refine hpa_aload_n (by rfl) rfl ?_
  refine hpj_putR (i := 20) (by rfl) (by rfl) (by rfl) (by rfl) (fun A1 eA1 fA1 gA1 iA1 => ?_)
  have hrf : A1.2.2.2 20 2 = T + 1 ∧ True := ⟨by rw [iA1]; simp [hs_upN], trivial⟩
  refine hpa_aload_n (by rfl) rfl ?_
  refine hpj_getT (by rfl) (by rfl) (by rfl) hrf.1 ?_
  refine hpa_call0 (by rfl) (by rfl) (by rfl) (hsT hT) (by rfl) (by rfl) (hP54 hT) ?_
  rintro _ A62 ⟨rfl, Z_A62, h4_A62, h5_A62⟩
  have hA2 : hcTp B n A62 := fun i hi => by rw [Z_A62.2.1 1 (by omega), fA1]; exact hA i hi
  have hU2 : hcU A62 := hU.fr (by rw [Z_A62.2.2, gA1])
  have hrf2 : A62.2.2.2 20 2 = T + 1 := by rw [Z_A62.2.2]; exact hrf.1
  refine hpa_aload_n (by rfl) rfl ?_
  refine hpa_get (v := .ref 22) (by rfl) (by rfl) (by rfl) rfl ?_
  refine hpa_aload_n (by rfl) rfl ?_
  refine hpa_iload_n (by rfl) rfl ?_
  refine hpa_call0 (by rfl) (by rfl) (by rfl) (by rfl) (by rfl) (by rfl) (hP58 a1 hA2 h1 hn hBr hU2) ?_
  rintro _ A63 ⟨rfl, C_A63, TE_A63⟩
  refine hpa_aload_n (by rfl) rfl ?_
  refine hpa_iconst (by rfl) rfl ?_
  refine hpj_putI (by rfl) (by rfl) (by rfl) (by rfl) (fun A64 eA64 fA64 => ?_)
  refine hpa_aload_n (by rfl) rfl ?_
  refine hpa_iconst (by rfl) rfl ?_
  refine hpj_putI (by rfl) (by rfl) (by rfl) (by rfl) (fun A65 eA65 fA65 => ?_)
  refine hpa_aload_n (by rfl) rfl ?_
  refine hpa_iconst (by rfl) rfl ?_
  refine hpj_putI (by rfl) (by rfl) (by rfl) (by rfl) (fun A66 eA66 fA66 => ?_)
  refine hpa_aload_n (by rfl) rfl ?_
  refine hpa_iconst (by rfl) rfl ?_
  refine hpj_putI (by rfl) (by rfl) (by rfl) (by rfl) (fun A67 eA67 fA67 => ?_)
  refine hpa_aload_n (by rfl) rfl ?_
  refine hpa_iconst (by rfl) rfl ?_
  refine hpj_putI (by rfl) (by rfl) (by rfl) (by rfl) (fun A68 eA68 fA68 => ?_)
  obtain ⟨B0, R0⟩ := hc_init hT9 hrf2 h4_A62 h5_A62 C_A63 TE_A63 eA64 fA64 eA65 fA65 eA66 fA66 eA67 fA67 eA68 fA68
  refine hpa_iconst (by rfl) rfl ?_
  refine hpa_s1 (by rfl) (Or.inr ⟨_, rfl, rfl⟩) rfl ?_
  refine hpa_iconst (by rfl) rfl ?_
  refine hpa_s1 (by rfl) (Or.inr ⟨_, rfl, rfl⟩) rfl ?_
  exact L52 _ (Int32.ofNat 1) (Int32.ofNat 0) (.retAddr 0) A68 (Or.inl ⟨hk_1, _, _, _, _, _, _, _, _, by omega, B0, R0⟩) (by omega)
theorem hP37 {g d : Nat} {A : hs_A} {B : Nat → Int} {n T : Nat} (hT : hTT T) (a1 : Int32) (hA : hcTp B n A) (h1 : a1.toInt = (n : Int)) (hn : n ≤ 2000) (hBr : ∀ i, i < n → B i ≤ 127) (hU : hcU A) : hpC g d 37 hm_m37 [.ref 21, .ref (T + 1), .ref 2, .int a1] A (fun r A' => ∃ z : Int32, r = some (.int z) ∧ hq_res (ht_K B n) (ht_W B n) (fun u => (ht_S B n u : Int)) (ht_E B n) z.toInt (A'.1 20 6).toInt ∧ hcU A') := hpC.all (fun f d => hW37 hT a1 hA h1 hn hBr hU (fun r A' h => h))
