theorem hW44 {g d f : Nat} {A : hs_A} {K V S : Nat → Int} {E : Nat → Nat → Bool} {T : Nat} {t : Nat} {s s' : hq_S} {ns : List Nat} {sn : Nat} {o : Option (Nat × Nat)} {dd : hg_D} {fl : hg_C} {zz : Nat} (hT : hTT T) (hB : hcB K V S E T A t s) (hR : hcR2 V S T A ns none sn o dd fl zz) (hsn : s.2.2.2.2.1 = ns) (hd : hq_dl K V E t s = hq_must K 20 t s') {P : Option Value → hs_A → Prop} (hP : ∀ (r : Option Value) (A' : hs_A), (∃ z : Int32, r = some (.int z) ∧ ((z.toInt = 1 ∧ hcB K V S E T A' (t + 1) s' ∧ hcR2 V S T A' ns (some t) sn (if ns.any (fun u => E u t) then hq_late 3 t o else o) dd fl zz ∧ hg_q K V E (t + 1) = hg_dl K V t s (hg_q K V E t)) ∨ (z.toInt = 0 ∧ hcF K V S E T A'))) → P r A') : hpa (f, g) d (some (.boolean)) hm_t44 0 [.ref 21, .retAddr 0, .retAddr 0, .retAddr 0] [] A P := by
  have k0 := hk_0
  have k1 := hk_1
  have k20 := hk_20
  have k3 := hk_3
  have hT9 : T ≤ 11 := by rcases hT with rfl | rfl <;> omega
  obtain ⟨h400, hpre, hix, hkk, hss, hsz, hvv⟩ := hB.at
  have hnx := hB.2.2.1
  have hqq := hB.2.2.2.1
  have L30 : ∀ (f : Nat) (x30_1 : Int64) (x30_3 : Int32) (A30 : hs_A) (n30 : x30_1 = A30.2.2.1 23 t) (B30 : hcB K V S E T A30 t s) (R30 : hcR2 V S T A30 ns none sn (if (ns.drop (ns.length - (x30_3.toInt).toNat)).any (fun u => E u t) then hq_late 3 t o else o) dd fl zz) (lo30 : 0 ≤ x30_3.toInt) (hi30 : x30_3.toInt ≤ (ns.length : Int)) (kt : K t = 20), hpa (f, g) d (some (.boolean)) hm_t44 30 [.ref 21, .long x30_1, .double 0, .int x30_3] [] A30 P := by
    intro f
    induction f with
    | zero => intros; exact hpa.zero
    | succ f ih30 =>
      intro x30_1 x30_3 A30 n30 B30 R30 lo30 hi30 kt
      have hl30 := R30.1
      refine hpa_iload_nS (by rfl) rfl ?_
      refine hpa_aload_n (by rfl) rfl ?_
      refine hpj_getT (by rfl) (by rfl) (by rfl) B30.1 ?_
      refine hpj_getK (by rfl) (hsT hT) (by rfl) rfl ?_
      refine hpj_cge (by rfl) rfl rfl (fun q1 => ?_) (fun q1 => ?_)
      ·
        refine hpa_aload_n (by rfl) rfl ?_
        refine hpa_get (v := .ref 26) (by rfl) (by rfl) (by rfl) rfl ?_
        refine hpa_aload_n (by rfl) rfl ?_
        refine hpj_getT (by rfl) (by rfl) (by rfl) B30.1 ?_
        refine hpj_getK (by rfl) (hsT hT) (by rfl) rfl ?_
        refine hpa_lload_n (by rfl) rfl ?_
        refine hpx_last (by rfl) (by rfl) (fun A2 h0A2 h1A2 eA2 fA2 gA2 iA2 => ?_)
        have hcn := hn_cn (j := A30.1 T 4) (by omega)
        have BA2 := B30.upL eA2 fA2 gA2 iA2
        have RA2 := R30.name eA2 fA2 gA2 (by omega) n30
        rw [show ns.length - x30_3.toInt.toNat = 0 by omega, List.drop_zero] at RA2
        refine hpa_aload_n (by rfl) rfl ?_
        refine hpa_call0 (by rfl) (by rfl) (by rfl) (by rfl) (by rfl) (by rfl) (hP41 hT BA2 RA2 (hd.trans (hq_must_ok kt))) ?_
        rintro _ A3 ⟨z4, rfl, (⟨fz_A3, B_A3, R_A3, G_A3, N_A3⟩ | ⟨fz_A3, F_A3⟩)⟩
        ·
          exact hpa_ireturn (by rfl) (hn_fitB (by omega) (by omega)) (hP _ _ ⟨_, rfl, Or.inl ⟨fz_A3, B_A3, R_A3, G_A3⟩⟩)
        ·
          exact hpa_ireturn (by rfl) (hn_fitB (by omega) (by omega)) (hP _ _ ⟨_, rfl, Or.inr ⟨fz_A3, F_A3⟩⟩)
      ·
        refine hpa_aload_n (by rfl) rfl ?_
        refine hpa_get (v := .ref 26) (by rfl) (by rfl) (by rfl) rfl ?_
        refine hpa_iload_n (by rfl) rfl ?_
        refine hpx_lald (by rfl) (by rfl) (fun h0v5 h1v5 v5 ev5 => ?_)
        obtain ⟨u, hu, hdr, hnu⟩ := R30.2.2.1.at (i := x30_3.toInt.toNat) (by omega)
        have hvu : v5 = A30.2.2.1 23 u := ev5.symm.trans hnu
        have hut := (hq_q_inv hqq).1.1 u (by rw [hsn]; exact hu)
        have hEE := B30.2.1.2.1 u t (by omega) h400 (fun i hi => hpre i (by omega)) hpre hut.2 kt
        refine hpa_lload_n (by rfl) rfl ?_
        refine hpa_lcmp (by rfl) ?_
        refine hpj_zne (by rfl) rfl (fun q6 => ?_) (fun q6 => ?_)
        ·
          have hne : ¬ E u t = true := fun w => q6 (hlg0.mpr (by rw [hvu, n30]; exact hEE.mpr w))
          refine hpj_iinc (by rfl) rfl rfl hk_1 (by omega) (by omega) (fun _ => rfl) (fun z7 ez7 => ?_)
          refine hpa_goto (by rfl) ?_
          exact ih30 x30_1 z7 A30 n30 B30 (by rw [show z7.toInt.toNat = x30_3.toInt.toNat + 1 by omega, hanyF hdr hne]; exact R30) (by omega) (by omega) kt
        ·
          have heq : E u t = true := hEE.mp (by rw [← hvu, ← n30]; exact hlg0.mp q6)
          refine hpa_aload_n (by rfl) rfl ?_
          refine hpa_iconst (by rfl) rfl ?_
          refine hpa_call0 (by rfl) (by rfl) (by rfl) (by rfl) (by rfl) (by rfl) (hP40 hT (Int32.ofNat 3) B30 R30 (by decide) hk_3) ?_
          rintro _ A8 ⟨rfl, B_A8, R_A8, L_A8, N_A8⟩
          refine hpj_iinc (by rfl) rfl rfl hk_1 (by omega) (by omega) (fun _ => rfl) (fun z9 ez9 => ?_)
          refine hpa_goto (by rfl) ?_
          exact ih30 x30_1 z9 A8 (by rw [n30, L_A8]) B_A8 (by rw [show z9.toInt.toNat = x30_3.toInt.toNat + 1 by omega, hanyT hdr heq]; exact R_A8) (by omega) (by omega) kt
  refine hpa_aload_n (by rfl) rfl ?_
  refine hpa_call0 (by rfl) (by rfl) (by rfl) (by rfl) (by rfl) (by rfl) (hP38 hT hB) ?_
  rintro _ _ ⟨rfl, z11, rfl, fz_A10⟩
  refine hpa_bipush (by rfl) rfl ?_
  refine hpj_ceq (by rfl) rfl hk_20 (fun q12 => ?_) (fun q12 => ?_)
  ·
    refine hpa_aload_n (by rfl) rfl ?_
    refine hpa_get (v := .ref 22) (by rfl) (by rfl) (by rfl) rfl ?_
    refine hpa_get (v := .ref 24) (by rfl) (by rfl) (by rfl) rfl ?_
    refine hpa_aload_n (by rfl) rfl ?_
    refine hpj_getK (by rfl) (by rfl) (by rfl) rfl ?_
    refine hpx_lald (by rfl) (by rfl) (fun h0v13 h1v13 v13 ev13 => ?_)
    rw [hix] at ev13
    refine hpa_lstore_n (by rfl) rfl ?_
    refine hpa_iconst (by rfl) rfl ?_
    refine hpa_s1 (by rfl) (Or.inl ⟨_, rfl, rfl⟩) rfl ?_
    have e30 : ns.drop (ns.length - (Int32.ofNat 0).toInt.toNat) = [] := by
      rw [hk_0]
      exact List.drop_length
    exact L30 _ v13 (Int32.ofNat 0) A ev13.symm hB (by rw [e30]; exact hR) (by omega) (by omega) (by omega)
  ·
    refine hpa_aload_n (by rfl) rfl ?_
    refine hpa_iconst (by rfl) rfl ?_
    refine hpa_call0 (by rfl) (by rfl) (by rfl) (by rfl) (by rfl) (by rfl) (hP39 hT (Int32.ofNat 1) hB ⟨s, hqq, hd.trans (hq_must_no (by omega))⟩ (by decide) hk_1) ?_
    rintro _ A14 ⟨z15, rfl, fz_A14, F_A14⟩
    exact hpa_ireturn (by rfl) (hn_fitB (by omega) (by omega)) (hP _ _ ⟨_, rfl, Or.inr ⟨fz_A14, F_A14⟩⟩)
theorem hP44 {g d : Nat} {A : hs_A} {K V S : Nat → Int} {E : Nat → Nat → Bool} {T : Nat} {t : Nat} {s s' : hq_S} {ns : List Nat} {sn : Nat} {o : Option (Nat × Nat)} {dd : hg_D} {fl : hg_C} {zz : Nat} (hT : hTT T) (hB : hcB K V S E T A t s) (hR : hcR2 V S T A ns none sn o dd fl zz) (hsn : s.2.2.2.2.1 = ns) (hd : hq_dl K V E t s = hq_must K 20 t s') : hpC g d 44 hm_m44 [.ref 21] A (fun r A' => ∃ z : Int32, r = some (.int z) ∧ ((z.toInt = 1 ∧ hcB K V S E T A' (t + 1) s' ∧ hcR2 V S T A' ns (some t) sn (if ns.any (fun u => E u t) then hq_late 3 t o else o) dd fl zz ∧ hg_q K V E (t + 1) = hg_dl K V t s (hg_q K V E t)) ∨ (z.toInt = 0 ∧ hcF K V S E T A'))) := hpC.all (fun f d => hW44 hT hB hR hsn hd (fun r A' h => h))
theorem hW45 {g d f : Nat} {A : hs_A} {K V S : Nat → Int} {E : Nat → Nat → Bool} {T : Nat} {t : Nat} {a b c : Nat} {ns : List Nat} {nm sn : Nat} {o : Option (Nat × Nat)} {zz : Nat} (hT : hTT T) (hB : hcB K V S E T A t (0, a, b, c, ns, nm, sn, o)) (hR : hcR2 V S T A ns none sn o (hg_q K V E t).1 [] zz) (hz8 : zz ≤ 8 + t) (hK : K t = 0) {P : Option Value → hs_A → Prop} (hP : ∀ (r : Option Value) (A' : hs_A), (∃ z : Int32, r = some (.int z) ∧ ((z.toInt = 1 ∧ hcOK2 K V S E T A' t) ∨ (z.toInt = 0 ∧ hcF K V S E T A'))) → P r A') : hpa (f, g) d (some (.boolean)) hm_t45 0 [.ref 21, .retAddr 0] [] A P := by
  have k0 := hk_0
  have k1 := hk_1
  have k10 := hk_10
  have k2 := hk_2
  have k24 := hk_24
  have k255 := hk_255
  have k99 := hk_99
  have hT9 : T ≤ 11 := by rcases hT with rfl | rfl <;> omega
  obtain ⟨h400, hpre, hix, hkk, hss, hsz, hvv⟩ := hB.at
  have hnx := hB.2.2.1
  have hqq := hB.2.2.2.1
  have hl := hR.1
  refine hpa_aload_n (by rfl) rfl ?_
  refine hpj_getT (by rfl) (by rfl) (by rfl) hB.1 ?_
  refine hpj_getK (by rfl) (hsT hT) (by rfl) rfl ?_
  refine hpa_bipush (by rfl) rfl ?_
  refine hpj_clt (by rfl) rfl hk_10 (fun q1 => ?_) (fun q1 => ?_)
  ·
    refine hpa_aload_n (by rfl) rfl ?_
    refine hpa_call0 (by rfl) (by rfl) (by rfl) (by rfl) (by rfl) (by rfl) (hP41 hT hB hR ((hqd0_house hK).trans (if_pos (by omega)))) ?_
    rintro _ A2 ⟨z3, rfl, (⟨fz_A2, B_A2, R_A2, G_A2, N_A2⟩ | ⟨fz_A2, F_A2⟩)⟩
    ·
      refine hpj_zeq (by rfl) rfl (fun q4 => False.elim (by omega)) (fun q4 => ?_)
      refine hpa_aload_n (by rfl) rfl ?_
      refine hpa_call0 (by rfl) (by rfl) (by rfl) (by rfl) (by rfl) (by rfl) (hP44 hT B_A2 R_A2 rfl rfl) ?_
      rintro _ A5 ⟨z6, rfl, (⟨fz_A5, B_A5, R_A5, G_A5⟩ | ⟨fz_A5, F_A5⟩)⟩
      ·
        refine hpj_zeq (by rfl) rfl (fun q7 => False.elim (by omega)) (fun q7 => ?_)
        refine hpa_aload_n (by rfl) rfl ?_
        refine hpa_iconst (by rfl) rfl ?_
        refine hpa_sipush (by rfl) rfl ?_
        refine hpa_call0 (by rfl) (by rfl) (by rfl) (by rfl) (by rfl) (by rfl) (hP43 hT (Int32.ofNat 0) (Int32.ofNat 255) hk_0 hk_255 B_A5 R_A5 rfl) ?_
        rintro _ A8 ⟨z9, rfl, (⟨fz_A8, B_A8, R_A8, G_A8, N_A8⟩ | ⟨fz_A8, F_A8⟩)⟩
        ·
          refine hpj_zne (by rfl) rfl (fun q10 => ?_) (fun q10 => False.elim (by omega))
          refine hpa_aload_n (by rfl) rfl ?_
          refine hpj_getK (by rfl) (by rfl) (by rfl) rfl ?_
          refine hpa_s1 (by rfl) (Or.inl ⟨_, rfl, rfl⟩) rfl ?_
          refine hpa_aload_n (by rfl) rfl ?_
          refine hpa_iconst (by rfl) rfl ?_
          refine hpa_bipush (by rfl) rfl ?_
          refine hpa_call0 (by rfl) (by rfl) (by rfl) (by rfl) (by rfl) (by rfl) (hP43 hT (Int32.ofNat 0) (Int32.ofNat 99) hk_0 hk_99 B_A8 R_A8 rfl) ?_
          rintro _ A11 ⟨z12, rfl, (⟨fz_A11, B_A11, R_A11, G_A11, N_A11⟩ | ⟨fz_A11, F_A11⟩)⟩
          ·
            refine hpj_zeq (by rfl) rfl (fun q13 => False.elim (by omega)) (fun q13 => ?_)
            refine hpa_aload_n (by rfl) rfl ?_
            refine hpa_bipush (by rfl) rfl ?_
            refine hpa_call0 (by rfl) (by rfl) (by rfl) (by rfl) (by rfl) (by rfl) (hP42 hT (Int32.ofNat 24) B_A11 R_A11 hk_24 rfl) ?_
            rintro _ A14 ⟨z15, rfl, (⟨fz_A14, B_A14, R_A14, G_A14, N_A14⟩ | ⟨fz_A14, F_A14⟩)⟩
            ·
              refine hpj_zne (by rfl) rfl (fun q16 => ?_) (fun q16 => False.elim (by omega))
              refine hpa_aload_n (by rfl) rfl ?_
              refine hpj_getT (by rfl) (by rfl) (by rfl) B_A14.1 ?_
              refine hpa_iload_n (by rfl) rfl ?_
              refine hpa_aload_n (by rfl) rfl ?_
              refine hpj_getK (by rfl) (by rfl) (by rfl) rfl ?_
              have hl10 := (hq_q_inv B_A14.2.2.2.1).1.2.2.1
              refine hpa_call0 (by rfl) (by rfl) (by rfl) (hsT hT) (by rfl) (by rfl) (hP55 hT (A8.1 20 4) (A14.1 20 4) B_A14 R_A14 hl10 N_A8.1 (by rw [N_A14]; exact N_A11.1)) ?_
              rintro _ A17 ⟨rfl, B_A17, R_A17⟩
              refine hpa_iconst (by rfl) rfl ?_
              exact hpa_ireturn (by rfl) (by rfl) (hP _ _ ⟨_, rfl, Or.inl ⟨hk_1, _, _, _, _, _, _, _, _, _, by omega, B_A17, by rw [G_A14, G_A11, G_A8, G_A5, G_A2, hg_d0n (by omega)]; exact R_A17, by omega⟩⟩)
            ·
              refine hpj_zne (by rfl) rfl (fun q18 => False.elim (by omega)) (fun q18 => ?_)
              refine hpa_iconst (by rfl) rfl ?_
              exact hpa_ireturn (by rfl) (by rfl) (hP _ _ ⟨_, rfl, Or.inr ⟨hk_0, F_A14⟩⟩)
          ·
            refine hpj_zeq (by rfl) rfl (fun q19 => ?_) (fun q19 => False.elim (by omega))
            refine hpa_iconst (by rfl) rfl ?_
            exact hpa_ireturn (by rfl) (by rfl) (hP _ _ ⟨_, rfl, Or.inr ⟨hk_0, F_A11⟩⟩)
        ·
          refine hpj_zne (by rfl) rfl (fun q20 => False.elim (by omega)) (fun q20 => ?_)
          refine hpa_iconst (by rfl) rfl ?_
          exact hpa_ireturn (by rfl) (by rfl) (hP _ _ ⟨_, rfl, Or.inr ⟨hk_0, F_A8⟩⟩)
      ·
        refine hpj_zeq (by rfl) rfl (fun q21 => ?_) (fun q21 => False.elim (by omega))
        refine hpa_iconst (by rfl) rfl ?_
        exact hpa_ireturn (by rfl) (by rfl) (hP _ _ ⟨_, rfl, Or.inr ⟨hk_0, F_A5⟩⟩)
    ·
      refine hpj_zeq (by rfl) rfl (fun q22 => ?_) (fun q22 => False.elim (by omega))
      refine hpa_iconst (by rfl) rfl ?_
      exact hpa_ireturn (by rfl) (by rfl) (hP _ _ ⟨_, rfl, Or.inr ⟨hk_0, F_A2⟩⟩)
  ·
    refine hpa_aload_n (by rfl) rfl ?_
    refine hpa_iconst (by rfl) rfl ?_
    refine hpa_call0 (by rfl) (by rfl) (by rfl) (by rfl) (by rfl) (by rfl) (hP39 hT (Int32.ofNat 2) hB ⟨_, hqq, (hqd0_house hK).trans (if_neg (by omega))⟩ (by decide) hk_2) ?_
    rintro _ A23 ⟨z24, rfl, fz_A23, F_A23⟩
    exact hpa_ireturn (by rfl) (hn_fitB (by omega) (by omega)) (hP _ _ ⟨_, rfl, Or.inr ⟨fz_A23, F_A23⟩⟩)
theorem hP45 {g d : Nat} {A : hs_A} {K V S : Nat → Int} {E : Nat → Nat → Bool} {T : Nat} {t : Nat} {a b c : Nat} {ns : List Nat} {nm sn : Nat} {o : Option (Nat × Nat)} {zz : Nat} (hT : hTT T) (hB : hcB K V S E T A t (0, a, b, c, ns, nm, sn, o)) (hR : hcR2 V S T A ns none sn o (hg_q K V E t).1 [] zz) (hz8 : zz ≤ 8 + t) (hK : K t = 0) : hpC g d 45 hm_m45 [.ref 21] A (fun r A' => ∃ z : Int32, r = some (.int z) ∧ ((z.toInt = 1 ∧ hcOK2 K V S E T A' t) ∨ (z.toInt = 0 ∧ hcF K V S E T A'))) := hpC.all (fun f d => hW45 hT hB hR hz8 hK (fun r A' h => h))
theorem hW46 {g d f : Nat} {A : hs_A} {K V S : Nat → Int} {E : Nat → Nat → Bool} {T : Nat} {t : Nat} {a b c : Nat} {ns : List Nat} {nm sn : Nat} {o : Option (Nat × Nat)} {zz : Nat} (hT : hTT T) (hB : hcB K V S E T A t (0, a, b, c, ns, nm, sn, o)) (hR : hcR2 V S T A ns none sn o (hg_q K V E t).1 [] zz) (hz8 : zz ≤ 8 + t) (hK : K t = 1) {P : Option Value → hs_A → Prop} (hP : ∀ (r : Option Value) (A' : hs_A), (∃ z : Int32, r = some (.int z) ∧ ((z.toInt = 1 ∧ hcOK2 K V S E T A' t) ∨ (z.toInt = 0 ∧ hcF K V S E T A'))) → P r A') : hpa (f, g) d (some (.boolean)) hm_t46 0 [.ref 21, .retAddr 0] [] A P := by
  have k0 := hk_0
  have k1 := hk_1
  have k2 := hk_2
  have k23 := hk_23
  have k24 := hk_24
  have k255 := hk_255
  have k8 := hk_8
  have hT9 : T ≤ 11 := by rcases hT with rfl | rfl <;> omega
  obtain ⟨h400, hpre, hix, hkk, hss, hsz, hvv⟩ := hB.at
  have hnx := hB.2.2.1
  have hqq := hB.2.2.2.1
  have hl := hR.2.1
  refine hpa_aload_n (by rfl) rfl ?_
  refine hpj_getT (by rfl) (by rfl) (by rfl) hB.1 ?_
  refine hpj_getK (by rfl) (hsT hT) (by rfl) rfl ?_
  refine hpa_bipush (by rfl) rfl ?_
  refine hpj_clt (by rfl) rfl hk_8 (fun q1 => ?_) (fun q1 => ?_)
  ·
    refine hpa_aload_n (by rfl) rfl ?_
    refine hpa_call0 (by rfl) (by rfl) (by rfl) (by rfl) (by rfl) (by rfl) (hP41 hT hB hR ((hqd0_sends hK).trans (if_pos (by omega)))) ?_
    rintro _ A2 ⟨z3, rfl, (⟨fz_A2, B_A2, R_A2, G_A2, N_A2⟩ | ⟨fz_A2, F_A2⟩)⟩
    ·
      refine hpj_zeq (by rfl) rfl (fun q4 => False.elim (by omega)) (fun q4 => ?_)
      refine hpa_aload_n (by rfl) rfl ?_
      refine hpa_iconst (by rfl) rfl ?_
      refine hpa_bipush (by rfl) rfl ?_
      refine hpa_call0 (by rfl) (by rfl) (by rfl) (by rfl) (by rfl) (by rfl) (hP43 hT (Int32.ofNat 0) (Int32.ofNat 23) hk_0 hk_23 B_A2 R_A2 rfl) ?_
      rintro _ A5 ⟨z6, rfl, (⟨fz_A5, B_A5, R_A5, G_A5, N_A5⟩ | ⟨fz_A5, F_A5⟩)⟩
      ·
        refine hpj_zne (by rfl) rfl (fun q7 => ?_) (fun q7 => False.elim (by omega))
        refine hpa_aload_n (by rfl) rfl ?_
        refine hpj_getK (by rfl) (by rfl) (by rfl) rfl ?_
        refine hpa_s1 (by rfl) (Or.inl ⟨_, rfl, rfl⟩) rfl ?_
        refine hpa_aload_n (by rfl) rfl ?_
        refine hpa_iconst (by rfl) rfl ?_
        refine hpa_sipush (by rfl) rfl ?_
        refine hpa_call0 (by rfl) (by rfl) (by rfl) (by rfl) (by rfl) (by rfl) (hP43 hT (Int32.ofNat 0) (Int32.ofNat 255) hk_0 hk_255 B_A5 R_A5 rfl) ?_
        rintro _ A8 ⟨z9, rfl, (⟨fz_A8, B_A8, R_A8, G_A8, N_A8⟩ | ⟨fz_A8, F_A8⟩)⟩
        ·
          refine hpj_zeq (by rfl) rfl (fun q10 => False.elim (by omega)) (fun q10 => ?_)
          refine hpa_aload_n (by rfl) rfl ?_
          refine hpa_bipush (by rfl) rfl ?_
          refine hpa_call0 (by rfl) (by rfl) (by rfl) (by rfl) (by rfl) (by rfl) (hP42 hT (Int32.ofNat 24) B_A8 R_A8 hk_24 rfl) ?_
          rintro _ A11 ⟨z12, rfl, (⟨fz_A11, B_A11, R_A11, G_A11, N_A11⟩ | ⟨fz_A11, F_A11⟩)⟩
          ·
            refine hpj_zne (by rfl) rfl (fun q13 => ?_) (fun q13 => False.elim (by omega))
            refine hpa_aload_n (by rfl) rfl ?_
            refine hpj_getT (by rfl) (by rfl) (by rfl) B_A11.1 ?_
            refine hpa_iload_n (by rfl) rfl ?_
            refine hpa_aload_n (by rfl) rfl ?_
            refine hpj_getK (by rfl) (by rfl) (by rfl) rfl ?_
            refine hpa_call0 (by rfl) (by rfl) (by rfl) (hsT hT) (by rfl) (by rfl) (hP56 (b := V (t + 1)) (c := V (t + 1 + 1)) hT (A5.1 20 4) (A11.1 20 4) B_A11 R_A11 (by omega) N_A5.1 (by rw [N_A11]; exact N_A8.1)) ?_
            rintro _ A14 ⟨rfl, B_A14, R_A14⟩
            refine hpa_iconst (by rfl) rfl ?_
            exact hpa_ireturn (by rfl) (by rfl) (hP _ _ ⟨_, rfl, Or.inl ⟨hk_1, _, _, _, _, _, _, _, _, _, by omega, B_A14, by rw [G_A11, G_A8, G_A5, G_A2, hg_d0n (by omega)]; exact R_A14, by omega⟩⟩)
          ·
            refine hpj_zne (by rfl) rfl (fun q15 => False.elim (by omega)) (fun q15 => ?_)
            refine hpa_iconst (by rfl) rfl ?_
            exact hpa_ireturn (by rfl) (by rfl) (hP _ _ ⟨_, rfl, Or.inr ⟨hk_0, F_A11⟩⟩)
        ·
          refine hpj_zeq (by rfl) rfl (fun q16 => ?_) (fun q16 => False.elim (by omega))
          refine hpa_iconst (by rfl) rfl ?_
          exact hpa_ireturn (by rfl) (by rfl) (hP _ _ ⟨_, rfl, Or.inr ⟨hk_0, F_A8⟩⟩)
      ·
        refine hpj_zne (by rfl) rfl (fun q17 => False.elim (by omega)) (fun q17 => ?_)
        refine hpa_iconst (by rfl) rfl ?_
        exact hpa_ireturn (by rfl) (by rfl) (hP _ _ ⟨_, rfl, Or.inr ⟨hk_0, F_A5⟩⟩)
    ·
      refine hpj_zeq (by rfl) rfl (fun q18 => ?_) (fun q18 => False.elim (by omega))
      refine hpa_iconst (by rfl) rfl ?_
      exact hpa_ireturn (by rfl) (by rfl) (hP _ _ ⟨_, rfl, Or.inr ⟨hk_0, F_A2⟩⟩)
  ·
    refine hpa_aload_n (by rfl) rfl ?_
    refine hpa_iconst (by rfl) rfl ?_
    refine hpa_call0 (by rfl) (by rfl) (by rfl) (by rfl) (by rfl) (by rfl) (hP39 hT (Int32.ofNat 2) hB ⟨_, hqq, (hqd0_sends hK).trans (if_neg (by omega))⟩ (by decide) hk_2) ?_
    rintro _ A19 ⟨z20, rfl, fz_A19, F_A19⟩
    exact hpa_ireturn (by rfl) (hn_fitB (by omega) (by omega)) (hP _ _ ⟨_, rfl, Or.inr ⟨fz_A19, F_A19⟩⟩)
theorem hP46 {g d : Nat} {A : hs_A} {K V S : Nat → Int} {E : Nat → Nat → Bool} {T : Nat} {t : Nat} {a b c : Nat} {ns : List Nat} {nm sn : Nat} {o : Option (Nat × Nat)} {zz : Nat} (hT : hTT T) (hB : hcB K V S E T A t (0, a, b, c, ns, nm, sn, o)) (hR : hcR2 V S T A ns none sn o (hg_q K V E t).1 [] zz) (hz8 : zz ≤ 8 + t) (hK : K t = 1) : hpC g d 46 hm_m46 [.ref 21] A (fun r A' => ∃ z : Int32, r = some (.int z) ∧ ((z.toInt = 1 ∧ hcOK2 K V S E T A' t) ∨ (z.toInt = 0 ∧ hcF K V S E T A'))) := hpC.all (fun f d => hW46 hT hB hR hz8 hK (fun r A' h => h))
theorem hW47 {g d f : Nat} {A : hs_A} {K V S : Nat → Int} {E : Nat → Nat → Bool} {T : Nat} {t : Nat} {a b c : Nat} {ns : List Nat} {nm sn : Nat} {o : Option (Nat × Nat)} {zz : Nat} (hT : hTT T) (hB : hcB K V S E T A t (0, a, b, c, ns, nm, sn, o)) (hR : hcR2 V S T A ns none sn o (hg_q K V E t).1 [] zz) (hz8 : zz ≤ 8 + t) (hK : K t = 6) {P : Option Value → hs_A → Prop} (hP : ∀ (r : Option Value) (A' : hs_A), (∃ z : Int32, r = some (.int z) ∧ ((z.toInt = 1 ∧ hcOK2 K V S E T A' t) ∨ (z.toInt = 0 ∧ hcF K V S E T A'))) → P r A') : hpa (f, g) d (some (.boolean)) hm_t47 0 [.ref 21] [] A P := by
  have k0 := hk_0
  have k1 := hk_1
  have k24 := hk_24
  have k99 := hk_99
  have hT9 : T ≤ 11 := by rcases hT with rfl | rfl <;> omega
  obtain ⟨h400, hpre, hix, hkk, hss, hsz, hvv⟩ := hB.at
  have hnx := hB.2.2.1
  have hqq := hB.2.2.2.1
  refine hpa_aload_n (by rfl) rfl ?_
  refine hpa_call0 (by rfl) (by rfl) (by rfl) (by rfl) (by rfl) (by rfl) (hP41 hT hB hR (hqd0_grief hK)) ?_
  rintro _ A1 ⟨z2, rfl, (⟨fz_A1, B_A1, R_A1, G_A1, N_A1⟩ | ⟨fz_A1, F_A1⟩)⟩
  ·
    refine hpj_zeq (by rfl) rfl (fun q3 => False.elim (by omega)) (fun q3 => ?_)
    refine hpa_aload_n (by rfl) rfl ?_
    refine hpa_iconst (by rfl) rfl ?_
    refine hpa_bipush (by rfl) rfl ?_
    refine hpa_call0 (by rfl) (by rfl) (by rfl) (by rfl) (by rfl) (by rfl) (hP43 hT (Int32.ofNat 1) (Int32.ofNat 99) hk_1 hk_99 B_A1 R_A1 rfl) ?_
    rintro _ A4 ⟨z5, rfl, (⟨fz_A4, B_A4, R_A4, G_A4, N_A4⟩ | ⟨fz_A4, F_A4⟩)⟩
    ·
      refine hpj_zeq (by rfl) rfl (fun q6 => False.elim (by omega)) (fun q6 => ?_)
      refine hpa_aload_n (by rfl) rfl ?_
      refine hpa_bipush (by rfl) rfl ?_
      refine hpa_call0 (by rfl) (by rfl) (by rfl) (by rfl) (by rfl) (by rfl) (hP42 hT (Int32.ofNat 24) B_A4 R_A4 hk_24 rfl) ?_
      rintro _ A7 ⟨z8, rfl, (⟨fz_A7, B_A7, R_A7, G_A7, N_A7⟩ | ⟨fz_A7, F_A7⟩)⟩
      ·
        refine hpj_zne (by rfl) rfl (fun q9 => ?_) (fun q9 => False.elim (by omega))
        refine hpa_aload_n (by rfl) rfl ?_
        refine hpj_getT (by rfl) (by rfl) (by rfl) B_A7.1 ?_
        refine hpa_aload_n (by rfl) rfl ?_
        refine hpj_getK (by rfl) (by rfl) (by rfl) rfl ?_
        refine hpj_putI (by rfl) (hsT hT) (by rfl) (by rfl) (fun A10 eA10 fA10 => ?_)
        have BA10 := B_A7.up eA10 fA10 (by omega) (by omega) (by omega)
        have RA10 := hcR2.of (R_A7.r.up eA10 fA10 (by omega) (by omega)) (R_A7.m.fld (k := 6) (v := V (t + 1)) (by omega) eA10 fA10 (by rw [N_A7]; exact N_A4.1))
        refine hpa_iconst (by rfl) rfl ?_
        exact hpa_ireturn (by rfl) (by rfl) (hP _ _ ⟨_, rfl, Or.inl ⟨hk_1, _, _, _, _, _, _, _, _, _, by omega, BA10, by rw [G_A7, G_A4, G_A1, hg_d0n (by omega)]; exact RA10, by omega⟩⟩)
      ·
        refine hpj_zne (by rfl) rfl (fun q11 => False.elim (by omega)) (fun q11 => ?_)
        refine hpa_iconst (by rfl) rfl ?_
        exact hpa_ireturn (by rfl) (by rfl) (hP _ _ ⟨_, rfl, Or.inr ⟨hk_0, F_A7⟩⟩)
    ·
      refine hpj_zeq (by rfl) rfl (fun q12 => ?_) (fun q12 => False.elim (by omega))
      refine hpa_iconst (by rfl) rfl ?_
      exact hpa_ireturn (by rfl) (by rfl) (hP _ _ ⟨_, rfl, Or.inr ⟨hk_0, F_A4⟩⟩)
  ·
    refine hpj_zeq (by rfl) rfl (fun q13 => ?_) (fun q13 => False.elim (by omega))
    refine hpa_iconst (by rfl) rfl ?_
    exact hpa_ireturn (by rfl) (by rfl) (hP _ _ ⟨_, rfl, Or.inr ⟨hk_0, F_A1⟩⟩)
theorem hP47 {g d : Nat} {A : hs_A} {K V S : Nat → Int} {E : Nat → Nat → Bool} {T : Nat} {t : Nat} {a b c : Nat} {ns : List Nat} {nm sn : Nat} {o : Option (Nat × Nat)} {zz : Nat} (hT : hTT T) (hB : hcB K V S E T A t (0, a, b, c, ns, nm, sn, o)) (hR : hcR2 V S T A ns none sn o (hg_q K V E t).1 [] zz) (hz8 : zz ≤ 8 + t) (hK : K t = 6) : hpC g d 47 hm_m47 [.ref 21] A (fun r A' => ∃ z : Int32, r = some (.int z) ∧ ((z.toInt = 1 ∧ hcOK2 K V S E T A' t) ∨ (z.toInt = 0 ∧ hcF K V S E T A'))) := hpC.all (fun f d => hW47 hT hB hR hz8 hK (fun r A' h => h))
theorem hW48 {g d f : Nat} {A : hs_A} {K V S : Nat → Int} {E : Nat → Nat → Bool} {T : Nat} {t : Nat} {a b c : Nat} {ns : List Nat} {nm sn : Nat} {o : Option (Nat × Nat)} {zz : Nat} (hT : hTT T) (hB : hcB K V S E T A t (0, a, b, c, ns, nm, sn, o)) (hR : hcR2 V S T A ns none sn o (hg_q K V E t).1 [] zz) (hz8 : zz ≤ 8 + t) (hK : K t = 7) {P : Option Value → hs_A → Prop} (hP : ∀ (r : Option Value) (A' : hs_A), (∃ z : Int32, r = some (.int z) ∧ ((z.toInt = 1 ∧ hcOK2 K V S E T A' t) ∨ (z.toInt = 0 ∧ hcF K V S E T A'))) → P r A') : hpa (f, g) d (some (.boolean)) hm_t48 0 [.ref 21] [] A P := by
  have k0 := hk_0
  have k1 := hk_1
  have k24 := hk_24
  have k9999 := hk_9999
  have hT9 : T ≤ 11 := by rcases hT with rfl | rfl <;> omega
  obtain ⟨h400, hpre, hix, hkk, hss, hsz, hvv⟩ := hB.at
  have hnx := hB.2.2.1
  have hqq := hB.2.2.2.1
  refine hpa_aload_n (by rfl) rfl ?_
  refine hpa_call0 (by rfl) (by rfl) (by rfl) (by rfl) (by rfl) (by rfl) (hP41 hT hB hR (hqd0_seed hK)) ?_
  rintro _ A1 ⟨z2, rfl, (⟨fz_A1, B_A1, R_A1, G_A1, N_A1⟩ | ⟨fz_A1, F_A1⟩)⟩
  ·
    refine hpj_zeq (by rfl) rfl (fun q3 => False.elim (by omega)) (fun q3 => ?_)
    refine hpa_aload_n (by rfl) rfl ?_
    refine hpa_iconst (by rfl) rfl ?_
    refine hpa_sipush (by rfl) rfl ?_
    refine hpa_call0 (by rfl) (by rfl) (by rfl) (by rfl) (by rfl) (by rfl) (hP43 hT (Int32.ofNat 0) (Int32.ofNat 9999) hk_0 hk_9999 B_A1 R_A1 rfl) ?_
    rintro _ A4 ⟨z5, rfl, (⟨fz_A4, B_A4, R_A4, G_A4, N_A4⟩ | ⟨fz_A4, F_A4⟩)⟩
    ·
      refine hpj_zeq (by rfl) rfl (fun q6 => False.elim (by omega)) (fun q6 => ?_)
      refine hpa_aload_n (by rfl) rfl ?_
      refine hpa_bipush (by rfl) rfl ?_
      refine hpa_call0 (by rfl) (by rfl) (by rfl) (by rfl) (by rfl) (by rfl) (hP42 hT (Int32.ofNat 24) B_A4 R_A4 hk_24 rfl) ?_
      rintro _ A7 ⟨z8, rfl, (⟨fz_A7, B_A7, R_A7, G_A7, N_A7⟩ | ⟨fz_A7, F_A7⟩)⟩
      ·
        refine hpj_zne (by rfl) rfl (fun q9 => ?_) (fun q9 => False.elim (by omega))
        refine hpa_aload_n (by rfl) rfl ?_
        refine hpj_getT (by rfl) (by rfl) (by rfl) B_A7.1 ?_
        refine hpa_aload_n (by rfl) rfl ?_
        refine hpj_getK (by rfl) (by rfl) (by rfl) rfl ?_
        refine hpj_putI (by rfl) (hsT hT) (by rfl) (by rfl) (fun A10 eA10 fA10 => ?_)
        have BA10 := B_A7.up eA10 fA10 (by omega) (by omega) (by omega)
        have RA10 := hcR2.of (R_A7.r.up eA10 fA10 (by omega) (by omega)) (R_A7.m.fld (k := 7) (v := V (t + 1)) (by omega) eA10 fA10 (by rw [N_A7]; exact N_A4.1))
        refine hpa_iconst (by rfl) rfl ?_
        exact hpa_ireturn (by rfl) (by rfl) (hP _ _ ⟨_, rfl, Or.inl ⟨hk_1, _, _, _, _, _, _, _, _, _, by omega, BA10, by rw [G_A7, G_A4, G_A1, hg_d0n (by omega)]; exact RA10, by omega⟩⟩)
      ·
        refine hpj_zne (by rfl) rfl (fun q11 => False.elim (by omega)) (fun q11 => ?_)
        refine hpa_iconst (by rfl) rfl ?_
        exact hpa_ireturn (by rfl) (by rfl) (hP _ _ ⟨_, rfl, Or.inr ⟨hk_0, F_A7⟩⟩)
    ·
      refine hpj_zeq (by rfl) rfl (fun q12 => ?_) (fun q12 => False.elim (by omega))
      refine hpa_iconst (by rfl) rfl ?_
      exact hpa_ireturn (by rfl) (by rfl) (hP _ _ ⟨_, rfl, Or.inr ⟨hk_0, F_A4⟩⟩)
  ·
    refine hpj_zeq (by rfl) rfl (fun q13 => ?_) (fun q13 => False.elim (by omega))
    refine hpa_iconst (by rfl) rfl ?_
    exact hpa_ireturn (by rfl) (by rfl) (hP _ _ ⟨_, rfl, Or.inr ⟨hk_0, F_A1⟩⟩)
theorem hP48 {g d : Nat} {A : hs_A} {K V S : Nat → Int} {E : Nat → Nat → Bool} {T : Nat} {t : Nat} {a b c : Nat} {ns : List Nat} {nm sn : Nat} {o : Option (Nat × Nat)} {zz : Nat} (hT : hTT T) (hB : hcB K V S E T A t (0, a, b, c, ns, nm, sn, o)) (hR : hcR2 V S T A ns none sn o (hg_q K V E t).1 [] zz) (hz8 : zz ≤ 8 + t) (hK : K t = 7) : hpC g d 48 hm_m48 [.ref 21] A (fun r A' => ∃ z : Int32, r = some (.int z) ∧ ((z.toInt = 1 ∧ hcOK2 K V S E T A' t) ∨ (z.toInt = 0 ∧ hcF K V S E T A'))) := hpC.all (fun f d => hW48 hT hB hR hz8 hK (fun r A' h => h))
def hcX50 (g d : Nat) : Prop := ∀ {A : hs_A} {K V S : Nat → Int} {E : Nat → Nat → Bool} {T : Nat} {t : Nat} {s : hq_S} {ns : List Nat} {p : Option Nat} {sn : Nat} {o : Option (Nat × Nat)} {dd : hg_D} {zz : Nat} {ifs ctx dp q : Nat} {r : List Nat × Nat × Nat × Option (Nat × Nat)} {kk : hg_W} {base oc : hg_C} {ww : List Nat} (hT : hTT T) (a1 : Int32) (hB : hcB K V S E T A t s) (hR : hcR2 V S T A ns p sn o dd (base ++ oc) zz) (hu : hq_dl K V E t s = hq_unit K t ifs ctx dp r) (hdp : a1.toInt = (dp : Int)) (hV : hg_V K V) (hG : hg_q K V E t = (dd, kk, oc, ww)) (hue : ∀ e, hg_dl K V t s e = hg_un K V t e) (hw : hg_t0 ww) (hz8 : zz + q ≤ 8 + t) (hq2 : 2 ≤ q), hpC g d 50 hm_m50 [.ref 21, .int a1] A (fun r1 A' => ∃ z : Int32, r1 = some (.int z) ∧ ((z.toInt = 1 ∧ ∃ (t' : Nat) (oc' oc2 : hg_C) (w' : List Nat) (z' : Nat), t < t' ∧ hcB K V S E T A' t' (15, ifs, ctx, dp, r) ∧ hg_q K V E t' = (dd, kk, oc', w') ∧ hg_fl false oc' w' = (oc2, ww) ∧ hcR2 V S T A' ns p sn o dd (base ++ oc2) z' ∧ (z' + q ≤ 8 + t' ∧ z' + oc.length = zz + oc2.length) ∧ ¬ (26 ≤ K t' ∧ K t' ≤ 29)) ∨ (z.toInt = 0 ∧ hcF K V S E T A')))
def hcX51 (g d : Nat) : Prop := ∀ {A : hs_A} {K V S : Nat → Int} {E : Nat → Nat → Bool} {T : Nat} {t : Nat} {s : hq_S} {ns : List Nat} {p : Option Nat} {sn : Nat} {o : Option (Nat × Nat)} {dd : hg_D} {zz : Nat} {ifs ctx dp q : Nat} {r : List Nat × Nat × Nat × Option (Nat × Nat)} {kk : hg_W} {base oc : hg_C} {ww : List Nat} (hT : hTT T) (a1 : Int32) (hB : hcB K V S E T A t s) (hR : hcR2 V S T A ns p sn o dd (base ++ oc) zz) (hu : hq_dl K V E t s = hq_unit K t ifs ctx dp r) (hdp : a1.toInt = (dp : Int)) (hV : hg_V K V) (hG : hg_q K V E t = (dd, kk, oc, ww)) (hue : ∀ e, hg_dl K V t s e = hg_un K V t e) (hw : hg_t1 ww) (hz8 : zz + q ≤ 8 + t) (hq2 : 2 ≤ q), hpC g d 51 hm_m51 [.ref 21, .int a1] A (fun r1 A' => ∃ z : Int32, r1 = some (.int z) ∧ ((z.toInt = 1 ∧ ∃ (t' : Nat) (oc' oc2 : hg_C) (w' : List Nat) (z' : Nat), t < t' ∧ hcB K V S E T A' t' (15, ifs, ctx, dp, r) ∧ hg_q K V E t' = (dd, kk, oc', w') ∧ hg_fl true oc' w' = (oc2, ww) ∧ hcR2 V S T A' ns p sn o dd (base ++ oc2) z' ∧ (z' + q ≤ 8 + t' ∧ z' + oc.length = zz + oc2.length) ∧ ¬ (28 ≤ K t' ∧ K t' ≤ 29)) ∨ (z.toInt = 0 ∧ hcF K V S E T A')))
def hcX52 (g d : Nat) : Prop := ∀ {A : hs_A} {K V S : Nat → Int} {E : Nat → Nat → Bool} {T : Nat} {t : Nat} {s : hq_S} {ns : List Nat} {p : Option Nat} {sn : Nat} {o : Option (Nat × Nat)} {dd : hg_D} {zz : Nat} {ifs ctx dp q : Nat} {r : List Nat × Nat × Nat × Option (Nat × Nat)} {kk : hg_W} {base oc : hg_C} {ww : List Nat} (hT : hTT T) (a1 : Int32) (hB : hcB K V S E T A t s) (hR : hcR2 V S T A ns p sn o dd (base ++ oc) zz) (hu : hq_dl K V E t s = hq_unit K t ifs ctx dp r) (hdp : a1.toInt = (dp : Int)) (hV : hg_V K V) (hG : hg_q K V E t = (dd, kk, oc, ww)) (hue : ∀ e, hg_dl K V t s e = hg_un K V t e) (hz8 : zz + q ≤ 8 + t) (hq2 : 2 ≤ q), hpC g d 52 hm_m52 [.ref 21, .int a1] A (fun r1 A' => ∃ z : Int32, r1 = some (.int z) ∧ ((z.toInt = 1 ∧ ∃ (t' : Nat) (oc' : hg_C) (z' : Nat), t < t' ∧ hcB K V S E T A' t' (15, ifs, ctx, dp, r) ∧ hg_q K V E t' = (dd, kk, oc', ww) ∧ hcR2 V S T A' ns p sn o dd (base ++ oc') z' ∧ (z' + q ≤ 8 + t' ∧ z' + oc.length = zz + oc'.length)) ∨ (z.toInt = 0 ∧ hcF K V S E T A')))
theorem hW12d {g d f : Nat} {A : hs_A} {T : Nat} (hT : hTT T) (a1 a2 : Int32) {P : Option Value → hs_A → Prop} (hP : ∀ (r : Option Value) (A' : hs_A), (∃ z : Int32, r = some (.int z) ∧ hcW T A A') → P r A') : hpa (f, g) d (some (.int)) hm_t12 0 [.ref (T + 5), .int a1, .int a2] [] A P := by
  have k1 := hk_1
  have k3 := hk_3
  have k408 := hk_408
  have hT9 : T ≤ 11 := by rcases hT with rfl | rfl <;> omega
  refine hpa_iload_n (by rfl) rfl ?_
  refine hpa_iconst (by rfl) rfl ?_
  refine hpj_cne (by rfl) rfl hk_1 (fun q1 => ?_) (fun q1 => ?_)
  ·
    refine hpa_aload_n (by rfl) rfl ?_
    refine hpj_getK (by rfl) (hsT4 hT) (by rfl) rfl ?_
    refine hpa_sipush (by rfl) rfl ?_
    refine hpj_cge (by rfl) rfl hk_408 (fun q2 => ?_) (fun q2 => ?_)
    ·
      refine hpa_aload_n (by rfl) rfl ?_
      refine hpj_getK (by rfl) (hsT4 hT) (by rfl) rfl ?_
      refine hpa_iconst (by rfl) rfl ?_
      refine hpj_isubU (by rfl) (fun z3 => ?_)
      exact hpa_ireturn (by rfl) rfl (hP _ _ ⟨_, rfl, hcW.rfl⟩)
    ·
      refine hpa_aload_n (by rfl) rfl ?_
      refine hpa_get (v := .ref (T + 6)) (by rfl) (hsT4 hT) (by rfl) (hvT hT (by omega)) ?_
      refine hpa_aload_n (by rfl) rfl ?_
      refine hpj_getK (by rfl) (hsT4 hT) (by rfl) rfl ?_
      refine hpa_iload_n (by rfl) rfl ?_
      refine hpa_iconst (by rfl) rfl ?_
      refine hpj_ishlU (by rfl) (fun z4 => ?_)
      refine hpa_iload_n (by rfl) rfl ?_
      refine hpj_iorU (by rfl) (fun z5 => ?_)
      refine hpx_iast (by rfl) (hsT5 hT) (fun A6 h0A6 h1A6 eA6 fA6 gA6 => ?_)
      have WA6 := (hcW.rfl (T := T) (A := A)).a eA6 fA6 gA6 (by omega)
      refine hpa_aload_n (by rfl) rfl ?_
      refine hpa_dupR (by rfl) ?_
      refine hpj_getK (by rfl) (hsT4 hT) (by rfl) (hkA eA6 rfl) ?_
      refine hpa_iconst (by rfl) rfl ?_
      refine hpj_iaddU (by rfl) (fun z7 => ?_)
      refine hpj_putI (by rfl) (hsT4 hT) (by rfl) (by rfl) (fun A8 eA8 fA8 => ?_)
      have WA8 := hcW.f (k := 4) WA6 eA8 fA8
      refine hpa_aload_n (by rfl) rfl ?_
      refine hpj_getK (by rfl) (hsT4 hT) (by rfl) (hkS eA8) ?_
      refine hpa_iconst (by rfl) rfl ?_
      refine hpj_isubU (by rfl) (fun z9 => ?_)
      exact hpa_ireturn (by rfl) rfl (hP _ _ ⟨_, rfl, WA8⟩)
  ·
    refine hpa_aload_n (by rfl) rfl ?_
    refine hpa_dupR (by rfl) ?_
    refine hpj_getK (by rfl) (hsT4 hT) (by rfl) rfl ?_
    refine hpa_iconst (by rfl) rfl ?_
    refine hpa_iload_n (by rfl) rfl ?_
    refine hpj_ishlU (by rfl) (fun z10 => ?_)
    refine hpj_iorU (by rfl) (fun z11 => ?_)
    refine hpj_putI (by rfl) (hsT4 hT) (by rfl) (by rfl) (fun A12 eA12 fA12 => ?_)
    have WA12 := hcW.f (k := 5) hcW.rfl (T := T) (A := A) eA12 fA12
    refine hpa_aload_n (by rfl) rfl ?_
    refine hpj_getK (by rfl) (hsT4 hT) (by rfl) (hkF eA12 (by omega) rfl) ?_
    refine hpa_sipush (by rfl) rfl ?_
    refine hpj_cge (by rfl) rfl hk_408 (fun q13 => ?_) (fun q13 => ?_)
    ·
      refine hpa_aload_n (by rfl) rfl ?_
      refine hpj_getK (by rfl) (hsT4 hT) (by rfl) (hkF eA12 (by omega) rfl) ?_
      refine hpa_iconst (by rfl) rfl ?_
      refine hpj_isubU (by rfl) (fun z14 => ?_)
      exact hpa_ireturn (by rfl) rfl (hP _ _ ⟨_, rfl, WA12⟩)
    ·
      refine hpa_aload_n (by rfl) rfl ?_
      refine hpa_get (v := .ref (T + 6)) (by rfl) (hsT4 hT) (by rfl) (hvT hT (by omega)) ?_
      refine hpa_aload_n (by rfl) rfl ?_
      refine hpj_getK (by rfl) (hsT4 hT) (by rfl) (hkF eA12 (by omega) rfl) ?_
      refine hpa_iload_n (by rfl) rfl ?_
      refine hpa_iconst (by rfl) rfl ?_
      refine hpj_ishlU (by rfl) (fun z15 => ?_)
      refine hpa_iload_n (by rfl) rfl ?_
      refine hpj_iorU (by rfl) (fun z16 => ?_)
      refine hpx_iast (by rfl) (hsT5 hT) (fun A17 h0A17 h1A17 eA17 fA17 gA17 => ?_)
      have WA17 := (WA12).a eA17 fA17 gA17 (by omega)
      refine hpa_aload_n (by rfl) rfl ?_
      refine hpa_dupR (by rfl) ?_
      refine hpj_getK (by rfl) (hsT4 hT) (by rfl) (hkA eA17 (hkF eA12 (by omega) rfl)) ?_
      refine hpa_iconst (by rfl) rfl ?_
      refine hpj_iaddU (by rfl) (fun z18 => ?_)
      refine hpj_putI (by rfl) (hsT4 hT) (by rfl) (by rfl) (fun A19 eA19 fA19 => ?_)
      have WA19 := hcW.f (k := 4) WA17 eA19 fA19
      refine hpa_aload_n (by rfl) rfl ?_
      refine hpj_getK (by rfl) (hsT4 hT) (by rfl) (hkS eA19) ?_
      refine hpa_iconst (by rfl) rfl ?_
      refine hpj_isubU (by rfl) (fun z20 => ?_)
      exact hpa_ireturn (by rfl) rfl (hP _ _ ⟨_, rfl, WA19⟩)
theorem hP12d {g d : Nat} {A : hs_A} {T : Nat} (hT : hTT T) (a1 a2 : Int32) : hpC g d 12 hm_m12 [.ref (T + 5), .int a1, .int a2] A (fun r A' => ∃ z : Int32, r = some (.int z) ∧ hcW T A A') := hpC.all (fun f d => hW12d hT a1 a2 (fun r A' h => h))
theorem hW50 {g d f : Nat} {A : hs_A} {K V S : Nat → Int} {E : Nat → Nat → Bool} {T : Nat} {t : Nat} {s : hq_S} {ns : List Nat} {p : Option Nat} {sn : Nat} {o : Option (Nat × Nat)} {dd : hg_D} {zz : Nat} {ifs ctx dp q : Nat} {r : List Nat × Nat × Nat × Option (Nat × Nat)} {kk : hg_W} {base oc : hg_C} {ww : List Nat} (i51 : hcX51 g d) (hT : hTT T) (a1 : Int32) (hB : hcB K V S E T A t s) (hR : hcR2 V S T A ns p sn o dd (base ++ oc) zz) (hu : hq_dl K V E t s = hq_unit K t ifs ctx dp r) (hdp : a1.toInt = (dp : Int)) (hV : hg_V K V) (hG : hg_q K V E t = (dd, kk, oc, ww)) (hue : ∀ e, hg_dl K V t s e = hg_un K V t e) (hw : hg_t0 ww) (hz8 : zz + q ≤ 8 + t) (hq2 : 2 ≤ q) {P : Option Value → hs_A → Prop} (hP : ∀ (r1 : Option Value) (A' : hs_A), (∃ z : Int32, r1 = some (.int z) ∧ ((z.toInt = 1 ∧ ∃ (t' : Nat) (oc' oc2 : hg_C) (w' : List Nat) (z' : Nat), t < t' ∧ hcB K V S E T A' t' (15, ifs, ctx, dp, r) ∧ hg_q K V E t' = (dd, kk, oc', w') ∧ hg_fl false oc' w' = (oc2, ww) ∧ hcR2 V S T A' ns p sn o dd (base ++ oc2) z' ∧ (z' + q ≤ 8 + t' ∧ z' + oc.length = zz + oc2.length) ∧ ¬ (26 ≤ K t' ∧ K t' ≤ 29)) ∨ (z.toInt = 0 ∧ hcF K V S E T A'))) → P r1 A') : hpa (f, g) d (some (.boolean)) hm_t50 0 [.ref 21, .int a1, .retAddr 0, .retAddr 0, .retAddr 0] [] A P := by
  have k0 := hk_0
  have k1 := hk_1
  have k2 := hk_2
  have k26 := hk_26
  have k27 := hk_27
  have k3 := hk_3
  have k400 := hk_400
  have hT9 : T ≤ 11 := by rcases hT with rfl | rfl <;> omega
  obtain ⟨h400, hpre, hix, hkk, hss, hsz, hvv⟩ := hB.at
  have hnx := hB.2.2.1
  have hqq := hB.2.2.2.1
  have L8 : ∀ (f : Nat) (x8_2 : Int32) (x8_3 : Int32) (x8_4 : Value) (A8 : hs_A) (D8 : (x8_2.toInt = 1 ∧ ∃ (t' : Nat) (oc' oc2 : hg_C) (w' : List Nat) (z' : Nat), (t : Int) + 2 * x8_3.toInt < (t' : Int) ∧ hcB K V S E T A8 t' (15, ifs, ctx, dp, r) ∧ hg_q K V E t' = (dd, kk, oc', w') ∧ hg_fl false oc' w' = (oc2, ww) ∧ hcR2 V S T A8 ns p sn o dd (base ++ oc2) z' ∧ (z' + q ≤ 8 + t' ∧ z' + oc.length = zz + oc2.length) ∧ ¬ (28 ≤ K t' ∧ K t' ≤ 29)) ∨ (x8_2.toInt = 0 ∧ hcF K V S E T A8)) (lo8 : 0 ≤ x8_3.toInt), hpa (f, g) d (some (.boolean)) hm_t50 8 [.ref 21, .int a1, .int x8_2, .int x8_3, x8_4] [] A8 P := by
    intro f
    induction f with
    | zero => intros; exact hpa.zero
    | succ f ih8 =>
      intro x8_2 x8_3 x8_4 A8 D8 lo8
      rcases D8 with ⟨fz8, t1, c8, o8, w8, z8, lt8, B8, G8, e8, R8, b8, Q8⟩ | ⟨fz8, F8⟩
      ·
        have h48 := B8.at.1
        refine hpa_iload_nS (by rfl) rfl ?_
        refine hpa_sipush (by rfl) rfl ?_
        refine hpj_cge (by rfl) rfl hk_400 (fun q1 => False.elim (by omega)) (fun q1 => ?_)
        refine hpa_iload_n (by rfl) rfl ?_
        refine hpj_zeq (by rfl) rfl (fun q2 => False.elim (by omega)) (fun q2 => ?_)
        refine hpa_aload_n (by rfl) rfl ?_
        refine hpa_call0 (by rfl) (by rfl) (by rfl) (by rfl) (by rfl) (by rfl) (hP38 hT B8) ?_
        rintro _ _ ⟨rfl, z4, rfl, fz_A3⟩
        refine hpa_s1 (by rfl) (Or.inr ⟨_, rfl, rfl⟩) rfl ?_
        refine hpa_iload (by rfl) rfl ?_
        refine hpa_bipush (by rfl) rfl ?_
        refine hpj_ceq (by rfl) rfl hk_26 (fun q5 => ?_) (fun q5 => ?_)
        ·
          refine hpa_aload_n (by rfl) rfl ?_
          refine hpa_call0 (by rfl) (by rfl) (by rfl) (by rfl) (by rfl) (by rfl) (hP41 hT B8 R8 (hqd15_op (by omega))) ?_
          rintro _ A6 ⟨z7, rfl, (⟨fz_A6, B_A6, R_A6, G_A6, N_A6⟩ | ⟨fz_A6, F_A6⟩)⟩
          ·
            have hX : K t1 = (((K t1).toNat : Nat) : Int) := by omega
            have GO : hg_q K V E (t1 + 1) = (dd, kk, o8, (K t1).toNat :: ww) := by rw [G_A6, G8]; exact hg_dop hX (by omega) (by omega) (by rw [decide_eq_false (by omega)]; exact e8)
            refine hpj_zeq (by rfl) rfl (fun q8 => False.elim (by omega)) (fun q8 => ?_)
            refine hpa_aload_n (by rfl) rfl ?_
            refine hpa_iload_n (by rfl) rfl ?_
            refine hpa_call0 (by rfl) (by rfl) (by rfl) (by rfl) (by rfl) (by rfl) (i51 hT a1 B_A6 R_A6 rfl hdp hV GO (fun _ => rfl) (Or.inr (by omega)) (show _ + (q + 1) ≤ 8 + (t1 + 1) by omega) (by omega)) ?_
            rintro _ A9 ⟨z10, rfl, (⟨fz_A9, X_A9⟩ | ⟨fz_A9, F_A9⟩)⟩
            ·
              obtain ⟨tX_A9, pX_A9, oX_A9, wX_A9, zX_A9, ltX_A9, BX_A9, GX_A9, eX_A9, RX_A9, bX_A9, QX_A9⟩ := X_A9
              have h4X_A9 := BX_A9.at.1
              refine hpj_zeq (by rfl) rfl (fun q11 => False.elim (by omega)) (fun q11 => ?_)
              refine hpa_iconst (by rfl) rfl ?_
              refine hpa_goto (by rfl) ?_
              refine hpa_s1 (by rfl) (Or.inl ⟨_, rfl, rfl⟩) rfl ?_
              refine hpa_aload_n (by rfl) rfl ?_
              refine hpj_getT (by rfl) (by rfl) (by rfl) BX_A9.1 ?_
              refine hpa_get (v := .ref (T + 5)) (by rfl) (hsT hT) (by rfl) (hvT hT (by omega)) ?_
              refine hpa_iload (by rfl) rfl ?_
              refine hpa_bipush (by rfl) rfl ?_
              refine hpj_cne (by rfl) rfl hk_26 (fun q12 => ?_) (fun q12 => ?_)
              ·
                refine hpa_iconst (by rfl) rfl ?_
                refine hpa_iconst (by rfl) rfl ?_
                refine hpa_call0 (by rfl) (by rfl) (by rfl) (hsT4 hT) (by rfl) (by rfl) (hP12 (k := 3) hT (Int32.ofNat 3) (Int32.ofNat 0) RX_A9 hk_3 hk_0 (by omega) (by omega) (by omega) (by omega) (by omega)) ?_
                rintro _ A13 ⟨z14, rfl, W_A13, Z_A13, R_A13⟩
                have BW_A13 := BX_A9.W hT9 W_A13
                have hx27 : (K t1).toNat - 24 = 3 := by omega
                have E82 := (hg_fl_add hw (x := (K t1).toNat) (by omega) eX_A9)
                rw [hx27] at E82
                rw [List.append_assoc] at R_A13
                refine hpa_popI (by rfl) ?_
                refine hpj_iinc (by rfl) rfl rfl hk_1 (by omega) (by omega) (fun _ => rfl) (fun z15 ez15 => ?_)
                refine hpa_goto (by rfl) ?_
                exact ih8 (Int32.ofNat 1) z15 (.int z4) A13 (Or.inl ⟨hk_1, _, _, _, _, _, by omega, BW_A13, GX_A9, E82, R_A13, ⟨by omega, by rw [hg_ln]; omega⟩, QX_A9⟩) (by omega)
              ·
                refine hpa_iconst (by rfl) rfl ?_
                refine hpa_goto (by rfl) ?_
                refine hpa_iconst (by rfl) rfl ?_
                refine hpa_call0 (by rfl) (by rfl) (by rfl) (hsT4 hT) (by rfl) (by rfl) (hP12 (k := 2) hT (Int32.ofNat 2) (Int32.ofNat 0) RX_A9 hk_2 hk_0 (by omega) (by omega) (by omega) (by omega) (by omega)) ?_
                rintro _ A16 ⟨z17, rfl, W_A16, Z_A16, R_A16⟩
                have BW_A16 := BX_A9.W hT9 W_A16
                have hx26 : (K t1).toNat - 24 = 2 := by omega
                have E82 := (hg_fl_add hw (x := (K t1).toNat) (by omega) eX_A9)
                rw [hx26] at E82
                rw [List.append_assoc] at R_A16
                refine hpa_popI (by rfl) ?_
                refine hpj_iinc (by rfl) rfl rfl hk_1 (by omega) (by omega) (fun _ => rfl) (fun z18 ez18 => ?_)
                refine hpa_goto (by rfl) ?_
                exact ih8 (Int32.ofNat 1) z18 (.int z4) A16 (Or.inl ⟨hk_1, _, _, _, _, _, by omega, BW_A16, GX_A9, E82, R_A16, ⟨by omega, by rw [hg_ln]; omega⟩, QX_A9⟩) (by omega)
            ·
              refine hpj_zeq (by rfl) rfl (fun q19 => ?_) (fun q19 => False.elim (by omega))
              refine hpa_iconst (by rfl) rfl ?_
              refine hpa_s1 (by rfl) (Or.inl ⟨_, rfl, rfl⟩) rfl ?_
              refine hpa_aload_n (by rfl) rfl ?_
              refine hpj_getT (by rfl) (by rfl) (by rfl) F_A9.1 ?_
              refine hpa_get (v := .ref (T + 5)) (by rfl) (hsT hT) (by rfl) (hvT hT (by omega)) ?_
              refine hpa_iload (by rfl) rfl ?_
              refine hpa_bipush (by rfl) rfl ?_
              refine hpj_cne (by rfl) rfl hk_26 (fun q20 => ?_) (fun q20 => ?_)
              ·
                refine hpa_iconst (by rfl) rfl ?_
                refine hpa_iconst (by rfl) rfl ?_
                refine hpa_call0 (by rfl) (by rfl) (by rfl) (hsT4 hT) (by rfl) (by rfl) (hP12d hT (Int32.ofNat 3) (Int32.ofNat 0)) ?_
                rintro _ A21 ⟨z22, rfl, W_A21⟩
                have FW_A21 := F_A9.W hT9 W_A21
                refine hpa_popI (by rfl) ?_
                refine hpj_iinc (by rfl) rfl rfl hk_1 (by omega) (by omega) (fun _ => rfl) (fun z23 ez23 => ?_)
                refine hpa_goto (by rfl) ?_
                exact ih8 (Int32.ofNat 0) z23 (.int z4) A21 (Or.inr ⟨hk_0, FW_A21⟩) (by omega)
              ·
                refine hpa_iconst (by rfl) rfl ?_
                refine hpa_goto (by rfl) ?_
                refine hpa_iconst (by rfl) rfl ?_
                refine hpa_call0 (by rfl) (by rfl) (by rfl) (hsT4 hT) (by rfl) (by rfl) (hP12d hT (Int32.ofNat 2) (Int32.ofNat 0)) ?_
                rintro _ A24 ⟨z25, rfl, W_A24⟩
                have FW_A24 := F_A9.W hT9 W_A24
                refine hpa_popI (by rfl) ?_
                refine hpj_iinc (by rfl) rfl rfl hk_1 (by omega) (by omega) (fun _ => rfl) (fun z26 ez26 => ?_)
                refine hpa_goto (by rfl) ?_
                exact ih8 (Int32.ofNat 0) z26 (.int z4) A24 (Or.inr ⟨hk_0, FW_A24⟩) (by omega)
          ·
            refine hpj_zeq (by rfl) rfl (fun q27 => ?_) (fun q27 => False.elim (by omega))
            refine hpa_iconst (by rfl) rfl ?_
            refine hpa_s1 (by rfl) (Or.inl ⟨_, rfl, rfl⟩) rfl ?_
            refine hpa_aload_n (by rfl) rfl ?_
            refine hpj_getT (by rfl) (by rfl) (by rfl) F_A6.1 ?_
            refine hpa_get (v := .ref (T + 5)) (by rfl) (hsT hT) (by rfl) (hvT hT (by omega)) ?_
            refine hpa_iload (by rfl) rfl ?_
            refine hpa_bipush (by rfl) rfl ?_
            refine hpj_cne (by rfl) rfl hk_26 (fun q28 => ?_) (fun q28 => ?_)
            ·
              refine hpa_iconst (by rfl) rfl ?_
              refine hpa_iconst (by rfl) rfl ?_
              refine hpa_call0 (by rfl) (by rfl) (by rfl) (hsT4 hT) (by rfl) (by rfl) (hP12d hT (Int32.ofNat 3) (Int32.ofNat 0)) ?_
              rintro _ A29 ⟨z30, rfl, W_A29⟩
              have FW_A29 := F_A6.W hT9 W_A29
              refine hpa_popI (by rfl) ?_
              refine hpj_iinc (by rfl) rfl rfl hk_1 (by omega) (by omega) (fun _ => rfl) (fun z31 ez31 => ?_)
              refine hpa_goto (by rfl) ?_
              exact ih8 (Int32.ofNat 0) z31 (.int z4) A29 (Or.inr ⟨hk_0, FW_A29⟩) (by omega)
            ·
              refine hpa_iconst (by rfl) rfl ?_
              refine hpa_goto (by rfl) ?_
              refine hpa_iconst (by rfl) rfl ?_
              refine hpa_call0 (by rfl) (by rfl) (by rfl) (hsT4 hT) (by rfl) (by rfl) (hP12d hT (Int32.ofNat 2) (Int32.ofNat 0)) ?_
              rintro _ A32 ⟨z33, rfl, W_A32⟩
              have FW_A32 := F_A6.W hT9 W_A32
              refine hpa_popI (by rfl) ?_
              refine hpj_iinc (by rfl) rfl rfl hk_1 (by omega) (by omega) (fun _ => rfl) (fun z34 ez34 => ?_)
              refine hpa_goto (by rfl) ?_
              exact ih8 (Int32.ofNat 0) z34 (.int z4) A32 (Or.inr ⟨hk_0, FW_A32⟩) (by omega)
        ·
          refine hpa_iload (by rfl) rfl ?_
          refine hpa_bipush (by rfl) rfl ?_
          refine hpj_ceq (by rfl) rfl hk_27 (fun q35 => ?_) (fun q35 => ?_)
          ·
            refine hpa_aload_n (by rfl) rfl ?_
            refine hpa_call0 (by rfl) (by rfl) (by rfl) (by rfl) (by rfl) (by rfl) (hP41 hT B8 R8 (hqd15_op (by omega))) ?_
            rintro _ A36 ⟨z37, rfl, (⟨fz_A36, B_A36, R_A36, G_A36, N_A36⟩ | ⟨fz_A36, F_A36⟩)⟩
            ·
              have hX : K t1 = (((K t1).toNat : Nat) : Int) := by omega
              have GO : hg_q K V E (t1 + 1) = (dd, kk, o8, (K t1).toNat :: ww) := by rw [G_A36, G8]; exact hg_dop hX (by omega) (by omega) (by rw [decide_eq_false (by omega)]; exact e8)
              refine hpj_zeq (by rfl) rfl (fun q38 => False.elim (by omega)) (fun q38 => ?_)
              refine hpa_aload_n (by rfl) rfl ?_
              refine hpa_iload_n (by rfl) rfl ?_
              refine hpa_call0 (by rfl) (by rfl) (by rfl) (by rfl) (by rfl) (by rfl) (i51 hT a1 B_A36 R_A36 rfl hdp hV GO (fun _ => rfl) (Or.inr (by omega)) (show _ + (q + 1) ≤ 8 + (t1 + 1) by omega) (by omega)) ?_
              rintro _ A39 ⟨z40, rfl, (⟨fz_A39, X_A39⟩ | ⟨fz_A39, F_A39⟩)⟩
              ·
                obtain ⟨tX_A39, pX_A39, oX_A39, wX_A39, zX_A39, ltX_A39, BX_A39, GX_A39, eX_A39, RX_A39, bX_A39, QX_A39⟩ := X_A39
                have h4X_A39 := BX_A39.at.1
                refine hpj_zeq (by rfl) rfl (fun q41 => False.elim (by omega)) (fun q41 => ?_)
                refine hpa_iconst (by rfl) rfl ?_
                refine hpa_goto (by rfl) ?_
                refine hpa_s1 (by rfl) (Or.inl ⟨_, rfl, rfl⟩) rfl ?_
                refine hpa_aload_n (by rfl) rfl ?_
                refine hpj_getT (by rfl) (by rfl) (by rfl) BX_A39.1 ?_
                refine hpa_get (v := .ref (T + 5)) (by rfl) (hsT hT) (by rfl) (hvT hT (by omega)) ?_
                refine hpa_iload (by rfl) rfl ?_
                refine hpa_bipush (by rfl) rfl ?_
                refine hpj_cne (by rfl) rfl hk_26 (fun q42 => ?_) (fun q42 => ?_)
                ·
                  refine hpa_iconst (by rfl) rfl ?_
                  refine hpa_iconst (by rfl) rfl ?_
                  refine hpa_call0 (by rfl) (by rfl) (by rfl) (hsT4 hT) (by rfl) (by rfl) (hP12 (k := 3) hT (Int32.ofNat 3) (Int32.ofNat 0) RX_A39 hk_3 hk_0 (by omega) (by omega) (by omega) (by omega) (by omega)) ?_
                  rintro _ A43 ⟨z44, rfl, W_A43, Z_A43, R_A43⟩
                  have BW_A43 := BX_A39.W hT9 W_A43
                  have hx27 : (K t1).toNat - 24 = 3 := by omega
                  have E82 := (hg_fl_add hw (x := (K t1).toNat) (by omega) eX_A39)
                  rw [hx27] at E82
                  rw [List.append_assoc] at R_A43
                  refine hpa_popI (by rfl) ?_
                  refine hpj_iinc (by rfl) rfl rfl hk_1 (by omega) (by omega) (fun _ => rfl) (fun z45 ez45 => ?_)
                  refine hpa_goto (by rfl) ?_
                  exact ih8 (Int32.ofNat 1) z45 (.int z4) A43 (Or.inl ⟨hk_1, _, _, _, _, _, by omega, BW_A43, GX_A39, E82, R_A43, ⟨by omega, by rw [hg_ln]; omega⟩, QX_A39⟩) (by omega)
                ·
                  refine hpa_iconst (by rfl) rfl ?_
                  refine hpa_goto (by rfl) ?_
                  refine hpa_iconst (by rfl) rfl ?_
                  refine hpa_call0 (by rfl) (by rfl) (by rfl) (hsT4 hT) (by rfl) (by rfl) (hP12 (k := 2) hT (Int32.ofNat 2) (Int32.ofNat 0) RX_A39 hk_2 hk_0 (by omega) (by omega) (by omega) (by omega) (by omega)) ?_
                  rintro _ A46 ⟨z47, rfl, W_A46, Z_A46, R_A46⟩
                  have BW_A46 := BX_A39.W hT9 W_A46
                  have hx26 : (K t1).toNat - 24 = 2 := by omega
                  have E82 := (hg_fl_add hw (x := (K t1).toNat) (by omega) eX_A39)
                  rw [hx26] at E82
                  rw [List.append_assoc] at R_A46
                  refine hpa_popI (by rfl) ?_
                  refine hpj_iinc (by rfl) rfl rfl hk_1 (by omega) (by omega) (fun _ => rfl) (fun z48 ez48 => ?_)
                  refine hpa_goto (by rfl) ?_
                  exact ih8 (Int32.ofNat 1) z48 (.int z4) A46 (Or.inl ⟨hk_1, _, _, _, _, _, by omega, BW_A46, GX_A39, E82, R_A46, ⟨by omega, by rw [hg_ln]; omega⟩, QX_A39⟩) (by omega)
              ·
                refine hpj_zeq (by rfl) rfl (fun q49 => ?_) (fun q49 => False.elim (by omega))
                refine hpa_iconst (by rfl) rfl ?_
                refine hpa_s1 (by rfl) (Or.inl ⟨_, rfl, rfl⟩) rfl ?_
                refine hpa_aload_n (by rfl) rfl ?_
                refine hpj_getT (by rfl) (by rfl) (by rfl) F_A39.1 ?_
                refine hpa_get (v := .ref (T + 5)) (by rfl) (hsT hT) (by rfl) (hvT hT (by omega)) ?_
                refine hpa_iload (by rfl) rfl ?_
                refine hpa_bipush (by rfl) rfl ?_
                refine hpj_cne (by rfl) rfl hk_26 (fun q50 => ?_) (fun q50 => ?_)
                ·
                  refine hpa_iconst (by rfl) rfl ?_
                  refine hpa_iconst (by rfl) rfl ?_
                  refine hpa_call0 (by rfl) (by rfl) (by rfl) (hsT4 hT) (by rfl) (by rfl) (hP12d hT (Int32.ofNat 3) (Int32.ofNat 0)) ?_
                  rintro _ A51 ⟨z52, rfl, W_A51⟩
                  have FW_A51 := F_A39.W hT9 W_A51
                  refine hpa_popI (by rfl) ?_
                  refine hpj_iinc (by rfl) rfl rfl hk_1 (by omega) (by omega) (fun _ => rfl) (fun z53 ez53 => ?_)
                  refine hpa_goto (by rfl) ?_
                  exact ih8 (Int32.ofNat 0) z53 (.int z4) A51 (Or.inr ⟨hk_0, FW_A51⟩) (by omega)
                ·
                  refine hpa_iconst (by rfl) rfl ?_
                  refine hpa_goto (by rfl) ?_
                  refine hpa_iconst (by rfl) rfl ?_
                  refine hpa_call0 (by rfl) (by rfl) (by rfl) (hsT4 hT) (by rfl) (by rfl) (hP12d hT (Int32.ofNat 2) (Int32.ofNat 0)) ?_
                  rintro _ A54 ⟨z55, rfl, W_A54⟩
                  have FW_A54 := F_A39.W hT9 W_A54
                  refine hpa_popI (by rfl) ?_
                  refine hpj_iinc (by rfl) rfl rfl hk_1 (by omega) (by omega) (fun _ => rfl) (fun z56 ez56 => ?_)
                  refine hpa_goto (by rfl) ?_
                  exact ih8 (Int32.ofNat 0) z56 (.int z4) A54 (Or.inr ⟨hk_0, FW_A54⟩) (by omega)
            ·
              refine hpj_zeq (by rfl) rfl (fun q57 => ?_) (fun q57 => False.elim (by omega))
              refine hpa_iconst (by rfl) rfl ?_
              refine hpa_s1 (by rfl) (Or.inl ⟨_, rfl, rfl⟩) rfl ?_
              refine hpa_aload_n (by rfl) rfl ?_
              refine hpj_getT (by rfl) (by rfl) (by rfl) F_A36.1 ?_
              refine hpa_get (v := .ref (T + 5)) (by rfl) (hsT hT) (by rfl) (hvT hT (by omega)) ?_
              refine hpa_iload (by rfl) rfl ?_
              refine hpa_bipush (by rfl) rfl ?_
              refine hpj_cne (by rfl) rfl hk_26 (fun q58 => ?_) (fun q58 => ?_)
              ·
                refine hpa_iconst (by rfl) rfl ?_
                refine hpa_iconst (by rfl) rfl ?_
                refine hpa_call0 (by rfl) (by rfl) (by rfl) (hsT4 hT) (by rfl) (by rfl) (hP12d hT (Int32.ofNat 3) (Int32.ofNat 0)) ?_
                rintro _ A59 ⟨z60, rfl, W_A59⟩
                have FW_A59 := F_A36.W hT9 W_A59
                refine hpa_popI (by rfl) ?_
                refine hpj_iinc (by rfl) rfl rfl hk_1 (by omega) (by omega) (fun _ => rfl) (fun z61 ez61 => ?_)
                refine hpa_goto (by rfl) ?_
                exact ih8 (Int32.ofNat 0) z61 (.int z4) A59 (Or.inr ⟨hk_0, FW_A59⟩) (by omega)
              ·
                refine hpa_iconst (by rfl) rfl ?_
                refine hpa_goto (by rfl) ?_
                refine hpa_iconst (by rfl) rfl ?_
                refine hpa_call0 (by rfl) (by rfl) (by rfl) (hsT4 hT) (by rfl) (by rfl) (hP12d hT (Int32.ofNat 2) (Int32.ofNat 0)) ?_
                rintro _ A62 ⟨z63, rfl, W_A62⟩
                have FW_A62 := F_A36.W hT9 W_A62
                refine hpa_popI (by rfl) ?_
                refine hpj_iinc (by rfl) rfl rfl hk_1 (by omega) (by omega) (fun _ => rfl) (fun z64 ez64 => ?_)
                refine hpa_goto (by rfl) ?_
                exact ih8 (Int32.ofNat 0) z64 (.int z4) A62 (Or.inr ⟨hk_0, FW_A62⟩) (by omega)
          ·
            refine hpa_iconst (by rfl) rfl ?_
            exact hpa_ireturn (by rfl) (by rfl) (hP _ _ ⟨_, rfl, Or.inl ⟨hk_1, t1, _, _, _, _, by omega, B8, G8, e8, R8, b8, by omega⟩⟩)
      ·
        refine hpa_iload_nS (by rfl) rfl ?_
        refine hpa_sipush (by rfl) rfl ?_
        refine hpj_cge (by rfl) rfl hk_400 (fun q65 => ?_) (fun q65 => ?_)
        ·
          refine hpa_iload_n (by rfl) rfl ?_
          exact hpa_ireturn (by rfl) (hn_fitB (by omega) (by omega)) (hP _ _ ⟨_, rfl, Or.inr ⟨fz8, F8⟩⟩)
        ·
          refine hpa_iload_n (by rfl) rfl ?_
          refine hpj_zeq (by rfl) rfl (fun q66 => ?_) (fun q66 => False.elim (by omega))
          refine hpa_iload_n (by rfl) rfl ?_
          exact hpa_ireturn (by rfl) (hn_fitB (by omega) (by omega)) (hP _ _ ⟨_, rfl, Or.inr ⟨fz8, F8⟩⟩)
  refine hpa_aload_n (by rfl) rfl ?_
  refine hpa_iload_n (by rfl) rfl ?_
  refine hpa_call0 (by rfl) (by rfl) (by rfl) (by rfl) (by rfl) (by rfl) (i51 hT a1 hB hR hu hdp hV hG hue hw.t1 hz8 hq2) ?_
  rintro _ A67 ⟨z68, rfl, (⟨fz_A67, X_A67⟩ | ⟨fz_A67, F_A67⟩)⟩
  ·
    obtain ⟨tX_A67, pX_A67, oX_A67, wX_A67, zX_A67, ltX_A67, BX_A67, GX_A67, eX_A67, RX_A67, bX_A67, QX_A67⟩ := X_A67
    have h4X_A67 := BX_A67.at.1
    refine hpa_s1 (by rfl) (Or.inl ⟨_, rfl, rfl⟩) rfl ?_
    refine hpa_iconst (by rfl) rfl ?_
    refine hpa_s1 (by rfl) (Or.inl ⟨_, rfl, rfl⟩) rfl ?_
    exact L8 _ z68 (Int32.ofNat 0) (.retAddr 0) A67 (Or.inl ⟨fz_A67, _, _, _, _, _, by omega, BX_A67, GX_A67, (hg_fl_one hw eX_A67), RX_A67, ⟨by omega, by omega⟩, QX_A67⟩) (by omega)
  ·
    refine hpa_s1 (by rfl) (Or.inl ⟨_, rfl, rfl⟩) rfl ?_
    refine hpa_iconst (by rfl) rfl ?_
    refine hpa_s1 (by rfl) (Or.inl ⟨_, rfl, rfl⟩) rfl ?_
    exact L8 _ z68 (Int32.ofNat 0) (.retAddr 0) A67 (Or.inr ⟨fz_A67, F_A67⟩) (by omega)
theorem hW51 {g d f : Nat} {A : hs_A} {K V S : Nat → Int} {E : Nat → Nat → Bool} {T : Nat} {t : Nat} {s : hq_S} {ns : List Nat} {p : Option Nat} {sn : Nat} {o : Option (Nat × Nat)} {dd : hg_D} {zz : Nat} {ifs ctx dp q : Nat} {r : List Nat × Nat × Nat × Option (Nat × Nat)} {kk : hg_W} {base oc : hg_C} {ww : List Nat} (i52 : hcX52 g d) (hT : hTT T) (a1 : Int32) (hB : hcB K V S E T A t s) (hR : hcR2 V S T A ns p sn o dd (base ++ oc) zz) (hu : hq_dl K V E t s = hq_unit K t ifs ctx dp r) (hdp : a1.toInt = (dp : Int)) (hV : hg_V K V) (hG : hg_q K V E t = (dd, kk, oc, ww)) (hue : ∀ e, hg_dl K V t s e = hg_un K V t e) (hw : hg_t1 ww) (hz8 : zz + q ≤ 8 + t) (hq2 : 2 ≤ q) {P : Option Value → hs_A → Prop} (hP : ∀ (r1 : Option Value) (A' : hs_A), (∃ z : Int32, r1 = some (.int z) ∧ ((z.toInt = 1 ∧ ∃ (t' : Nat) (oc' oc2 : hg_C) (w' : List Nat) (z' : Nat), t < t' ∧ hcB K V S E T A' t' (15, ifs, ctx, dp, r) ∧ hg_q K V E t' = (dd, kk, oc', w') ∧ hg_fl true oc' w' = (oc2, ww) ∧ hcR2 V S T A' ns p sn o dd (base ++ oc2) z' ∧ (z' + q ≤ 8 + t' ∧ z' + oc.length = zz + oc2.length) ∧ ¬ (28 ≤ K t' ∧ K t' ≤ 29)) ∨ (z.toInt = 0 ∧ hcF K V S E T A'))) → P r1 A') : hpa (f, g) d (some (.boolean)) hm_t51 0 [.ref 21, .int a1, .retAddr 0, .retAddr 0, .retAddr 0] [] A P := by
  have k0 := hk_0
  have k1 := hk_1
  have k28 := hk_28
  have k29 := hk_29
  have k4 := hk_4
  have k400 := hk_400
  have k5 := hk_5
  have hT9 : T ≤ 11 := by rcases hT with rfl | rfl <;> omega
  obtain ⟨h400, hpre, hix, hkk, hss, hsz, hvv⟩ := hB.at
  have hnx := hB.2.2.1
  have hqq := hB.2.2.2.1
  have L8 : ∀ (f : Nat) (x8_2 : Int32) (x8_3 : Int32) (x8_4 : Value) (A8 : hs_A) (D8 : (x8_2.toInt = 1 ∧ ∃ (t' : Nat) (oc' oc2 : hg_C) (w' : List Nat) (z' : Nat), (t : Int) + 2 * x8_3.toInt < (t' : Int) ∧ hcB K V S E T A8 t' (15, ifs, ctx, dp, r) ∧ hg_q K V E t' = (dd, kk, oc', w') ∧ hg_fl true oc' w' = (oc2, ww) ∧ hcR2 V S T A8 ns p sn o dd (base ++ oc2) z' ∧ (z' + q ≤ 8 + t' ∧ z' + oc.length = zz + oc2.length)) ∨ (x8_2.toInt = 0 ∧ hcF K V S E T A8)) (lo8 : 0 ≤ x8_3.toInt), hpa (f, g) d (some (.boolean)) hm_t51 8 [.ref 21, .int a1, .int x8_2, .int x8_3, x8_4] [] A8 P := by
    intro f
    induction f with
    | zero => intros; exact hpa.zero
    | succ f ih8 =>
      intro x8_2 x8_3 x8_4 A8 D8 lo8
      rcases D8 with ⟨fz8, t1, c8, o8, w8, z8, lt8, B8, G8, e8, R8, b8⟩ | ⟨fz8, F8⟩
      ·
        have h48 := B8.at.1
        refine hpa_iload_nS (by rfl) rfl ?_
        refine hpa_sipush (by rfl) rfl ?_
        refine hpj_cge (by rfl) rfl hk_400 (fun q1 => False.elim (by omega)) (fun q1 => ?_)
        refine hpa_iload_n (by rfl) rfl ?_
        refine hpj_zeq (by rfl) rfl (fun q2 => False.elim (by omega)) (fun q2 => ?_)
        refine hpa_aload_n (by rfl) rfl ?_
        refine hpa_call0 (by rfl) (by rfl) (by rfl) (by rfl) (by rfl) (by rfl) (hP38 hT B8) ?_
        rintro _ _ ⟨rfl, z4, rfl, fz_A3⟩
        refine hpa_s1 (by rfl) (Or.inr ⟨_, rfl, rfl⟩) rfl ?_
        refine hpa_iload (by rfl) rfl ?_
        refine hpa_bipush (by rfl) rfl ?_
        refine hpj_ceq (by rfl) rfl hk_28 (fun q5 => ?_) (fun q5 => ?_)
        ·
          refine hpa_aload_n (by rfl) rfl ?_
          refine hpa_call0 (by rfl) (by rfl) (by rfl) (by rfl) (by rfl) (by rfl) (hP41 hT B8 R8 (hqd15_op (by omega))) ?_
          rintro _ A6 ⟨z7, rfl, (⟨fz_A6, B_A6, R_A6, G_A6, N_A6⟩ | ⟨fz_A6, F_A6⟩)⟩
          ·
            have hX : K t1 = (((K t1).toNat : Nat) : Int) := by omega
            have GO : hg_q K V E (t1 + 1) = (dd, kk, o8, (K t1).toNat :: ww) := by rw [G_A6, G8]; exact hg_dop hX (by omega) (by omega) (by rw [decide_eq_true (by omega)]; exact e8)
            refine hpj_zeq (by rfl) rfl (fun q8 => False.elim (by omega)) (fun q8 => ?_)
            refine hpa_aload_n (by rfl) rfl ?_
            refine hpa_iload_n (by rfl) rfl ?_
            refine hpa_call0 (by rfl) (by rfl) (by rfl) (by rfl) (by rfl) (by rfl) (i52 hT a1 B_A6 R_A6 rfl hdp hV GO (fun _ => rfl) (show _ + (q + 1) ≤ 8 + (t1 + 1) by omega) (by omega)) ?_
            rintro _ A9 ⟨z10, rfl, (⟨fz_A9, X_A9⟩ | ⟨fz_A9, F_A9⟩)⟩
            ·
              obtain ⟨tX_A9, oX_A9, zX_A9, ltX_A9, BX_A9, GX_A9, RX_A9, bX_A9⟩ := X_A9
              have h4X_A9 := BX_A9.at.1
              refine hpj_zeq (by rfl) rfl (fun q11 => False.elim (by omega)) (fun q11 => ?_)
              refine hpa_iconst (by rfl) rfl ?_
              refine hpa_goto (by rfl) ?_
              refine hpa_s1 (by rfl) (Or.inl ⟨_, rfl, rfl⟩) rfl ?_
              refine hpa_aload_n (by rfl) rfl ?_
              refine hpj_getT (by rfl) (by rfl) (by rfl) BX_A9.1 ?_
              refine hpa_get (v := .ref (T + 5)) (by rfl) (hsT hT) (by rfl) (hvT hT (by omega)) ?_
              refine hpa_iload (by rfl) rfl ?_
              refine hpa_bipush (by rfl) rfl ?_
              refine hpj_cne (by rfl) rfl hk_28 (fun q12 => ?_) (fun q12 => ?_)
              ·
                refine hpa_iconst (by rfl) rfl ?_
                refine hpa_iconst (by rfl) rfl ?_
                refine hpa_call0 (by rfl) (by rfl) (by rfl) (hsT4 hT) (by rfl) (by rfl) (hP12 (k := 5) hT (Int32.ofNat 5) (Int32.ofNat 0) RX_A9 hk_5 hk_0 (by omega) (by omega) (by omega) (by omega) (by omega)) ?_
                rintro _ A13 ⟨z14, rfl, W_A13, Z_A13, R_A13⟩
                have BW_A13 := BX_A9.W hT9 W_A13
                have hx29 : (K t1).toNat - 24 = 5 := by omega
                have E82 := (hg_fl_mul (o := oX_A9) hw (x := (K t1).toNat) (by omega) (by omega))
                rw [hx29] at E82
                rw [List.append_assoc] at R_A13
                refine hpa_popI (by rfl) ?_
                refine hpj_iinc (by rfl) rfl rfl hk_1 (by omega) (by omega) (fun _ => rfl) (fun z15 ez15 => ?_)
                refine hpa_goto (by rfl) ?_
                exact ih8 (Int32.ofNat 1) z15 (.int z4) A13 (Or.inl ⟨hk_1, _, _, _, _, _, by omega, BW_A13, GX_A9, E82, R_A13, ⟨by omega, by rw [hg_ln]; omega⟩⟩) (by omega)
              ·
                refine hpa_iconst (by rfl) rfl ?_
                refine hpa_goto (by rfl) ?_
                refine hpa_iconst (by rfl) rfl ?_
                refine hpa_call0 (by rfl) (by rfl) (by rfl) (hsT4 hT) (by rfl) (by rfl) (hP12 (k := 4) hT (Int32.ofNat 4) (Int32.ofNat 0) RX_A9 hk_4 hk_0 (by omega) (by omega) (by omega) (by omega) (by omega)) ?_
                rintro _ A16 ⟨z17, rfl, W_A16, Z_A16, R_A16⟩
                have BW_A16 := BX_A9.W hT9 W_A16
                have hx28 : (K t1).toNat - 24 = 4 := by omega
                have E82 := (hg_fl_mul (o := oX_A9) hw (x := (K t1).toNat) (by omega) (by omega))
                rw [hx28] at E82
                rw [List.append_assoc] at R_A16
                refine hpa_popI (by rfl) ?_
                refine hpj_iinc (by rfl) rfl rfl hk_1 (by omega) (by omega) (fun _ => rfl) (fun z18 ez18 => ?_)
                refine hpa_goto (by rfl) ?_
                exact ih8 (Int32.ofNat 1) z18 (.int z4) A16 (Or.inl ⟨hk_1, _, _, _, _, _, by omega, BW_A16, GX_A9, E82, R_A16, ⟨by omega, by rw [hg_ln]; omega⟩⟩) (by omega)
            ·
              refine hpj_zeq (by rfl) rfl (fun q19 => ?_) (fun q19 => False.elim (by omega))
              refine hpa_iconst (by rfl) rfl ?_
              refine hpa_s1 (by rfl) (Or.inl ⟨_, rfl, rfl⟩) rfl ?_
              refine hpa_aload_n (by rfl) rfl ?_
              refine hpj_getT (by rfl) (by rfl) (by rfl) F_A9.1 ?_
              refine hpa_get (v := .ref (T + 5)) (by rfl) (hsT hT) (by rfl) (hvT hT (by omega)) ?_
              refine hpa_iload (by rfl) rfl ?_
              refine hpa_bipush (by rfl) rfl ?_
              refine hpj_cne (by rfl) rfl hk_28 (fun q20 => ?_) (fun q20 => ?_)
              ·
                refine hpa_iconst (by rfl) rfl ?_
                refine hpa_iconst (by rfl) rfl ?_
                refine hpa_call0 (by rfl) (by rfl) (by rfl) (hsT4 hT) (by rfl) (by rfl) (hP12d hT (Int32.ofNat 5) (Int32.ofNat 0)) ?_
                rintro _ A21 ⟨z22, rfl, W_A21⟩
                have FW_A21 := F_A9.W hT9 W_A21
                refine hpa_popI (by rfl) ?_
                refine hpj_iinc (by rfl) rfl rfl hk_1 (by omega) (by omega) (fun _ => rfl) (fun z23 ez23 => ?_)
                refine hpa_goto (by rfl) ?_
                exact ih8 (Int32.ofNat 0) z23 (.int z4) A21 (Or.inr ⟨hk_0, FW_A21⟩) (by omega)
              ·
                refine hpa_iconst (by rfl) rfl ?_
                refine hpa_goto (by rfl) ?_
                refine hpa_iconst (by rfl) rfl ?_
                refine hpa_call0 (by rfl) (by rfl) (by rfl) (hsT4 hT) (by rfl) (by rfl) (hP12d hT (Int32.ofNat 4) (Int32.ofNat 0)) ?_
                rintro _ A24 ⟨z25, rfl, W_A24⟩
                have FW_A24 := F_A9.W hT9 W_A24
                refine hpa_popI (by rfl) ?_
                refine hpj_iinc (by rfl) rfl rfl hk_1 (by omega) (by omega) (fun _ => rfl) (fun z26 ez26 => ?_)
                refine hpa_goto (by rfl) ?_
                exact ih8 (Int32.ofNat 0) z26 (.int z4) A24 (Or.inr ⟨hk_0, FW_A24⟩) (by omega)
          ·
            refine hpj_zeq (by rfl) rfl (fun q27 => ?_) (fun q27 => False.elim (by omega))
            refine hpa_iconst (by rfl) rfl ?_
            refine hpa_s1 (by rfl) (Or.inl ⟨_, rfl, rfl⟩) rfl ?_
            refine hpa_aload_n (by rfl) rfl ?_
            refine hpj_getT (by rfl) (by rfl) (by rfl) F_A6.1 ?_
            refine hpa_get (v := .ref (T + 5)) (by rfl) (hsT hT) (by rfl) (hvT hT (by omega)) ?_
            refine hpa_iload (by rfl) rfl ?_
            refine hpa_bipush (by rfl) rfl ?_
            refine hpj_cne (by rfl) rfl hk_28 (fun q28 => ?_) (fun q28 => ?_)
            ·
              refine hpa_iconst (by rfl) rfl ?_
              refine hpa_iconst (by rfl) rfl ?_
              refine hpa_call0 (by rfl) (by rfl) (by rfl) (hsT4 hT) (by rfl) (by rfl) (hP12d hT (Int32.ofNat 5) (Int32.ofNat 0)) ?_
              rintro _ A29 ⟨z30, rfl, W_A29⟩
              have FW_A29 := F_A6.W hT9 W_A29
              refine hpa_popI (by rfl) ?_
              refine hpj_iinc (by rfl) rfl rfl hk_1 (by omega) (by omega) (fun _ => rfl) (fun z31 ez31 => ?_)
              refine hpa_goto (by rfl) ?_
              exact ih8 (Int32.ofNat 0) z31 (.int z4) A29 (Or.inr ⟨hk_0, FW_A29⟩) (by omega)
            ·
              refine hpa_iconst (by rfl) rfl ?_
              refine hpa_goto (by rfl) ?_
              refine hpa_iconst (by rfl) rfl ?_
              refine hpa_call0 (by rfl) (by rfl) (by rfl) (hsT4 hT) (by rfl) (by rfl) (hP12d hT (Int32.ofNat 4) (Int32.ofNat 0)) ?_
              rintro _ A32 ⟨z33, rfl, W_A32⟩
              have FW_A32 := F_A6.W hT9 W_A32
              refine hpa_popI (by rfl) ?_
              refine hpj_iinc (by rfl) rfl rfl hk_1 (by omega) (by omega) (fun _ => rfl) (fun z34 ez34 => ?_)
              refine hpa_goto (by rfl) ?_
              exact ih8 (Int32.ofNat 0) z34 (.int z4) A32 (Or.inr ⟨hk_0, FW_A32⟩) (by omega)
        ·
          refine hpa_iload (by rfl) rfl ?_
          refine hpa_bipush (by rfl) rfl ?_
          refine hpj_ceq (by rfl) rfl hk_29 (fun q35 => ?_) (fun q35 => ?_)
          ·
            refine hpa_aload_n (by rfl) rfl ?_
            refine hpa_call0 (by rfl) (by rfl) (by rfl) (by rfl) (by rfl) (by rfl) (hP41 hT B8 R8 (hqd15_op (by omega))) ?_
            rintro _ A36 ⟨z37, rfl, (⟨fz_A36, B_A36, R_A36, G_A36, N_A36⟩ | ⟨fz_A36, F_A36⟩)⟩
            ·
              have hX : K t1 = (((K t1).toNat : Nat) : Int) := by omega
              have GO : hg_q K V E (t1 + 1) = (dd, kk, o8, (K t1).toNat :: ww) := by rw [G_A36, G8]; exact hg_dop hX (by omega) (by omega) (by rw [decide_eq_true (by omega)]; exact e8)
              refine hpj_zeq (by rfl) rfl (fun q38 => False.elim (by omega)) (fun q38 => ?_)
              refine hpa_aload_n (by rfl) rfl ?_
              refine hpa_iload_n (by rfl) rfl ?_
              refine hpa_call0 (by rfl) (by rfl) (by rfl) (by rfl) (by rfl) (by rfl) (i52 hT a1 B_A36 R_A36 rfl hdp hV GO (fun _ => rfl) (show _ + (q + 1) ≤ 8 + (t1 + 1) by omega) (by omega)) ?_
              rintro _ A39 ⟨z40, rfl, (⟨fz_A39, X_A39⟩ | ⟨fz_A39, F_A39⟩)⟩
              ·
                obtain ⟨tX_A39, oX_A39, zX_A39, ltX_A39, BX_A39, GX_A39, RX_A39, bX_A39⟩ := X_A39
                have h4X_A39 := BX_A39.at.1
                refine hpj_zeq (by rfl) rfl (fun q41 => False.elim (by omega)) (fun q41 => ?_)
                refine hpa_iconst (by rfl) rfl ?_
                refine hpa_goto (by rfl) ?_
                refine hpa_s1 (by rfl) (Or.inl ⟨_, rfl, rfl⟩) rfl ?_
                refine hpa_aload_n (by rfl) rfl ?_
                refine hpj_getT (by rfl) (by rfl) (by rfl) BX_A39.1 ?_
                refine hpa_get (v := .ref (T + 5)) (by rfl) (hsT hT) (by rfl) (hvT hT (by omega)) ?_
                refine hpa_iload (by rfl) rfl ?_
                refine hpa_bipush (by rfl) rfl ?_
                refine hpj_cne (by rfl) rfl hk_28 (fun q42 => ?_) (fun q42 => ?_)
                ·
                  refine hpa_iconst (by rfl) rfl ?_
                  refine hpa_iconst (by rfl) rfl ?_
                  refine hpa_call0 (by rfl) (by rfl) (by rfl) (hsT4 hT) (by rfl) (by rfl) (hP12 (k := 5) hT (Int32.ofNat 5) (Int32.ofNat 0) RX_A39 hk_5 hk_0 (by omega) (by omega) (by omega) (by omega) (by omega)) ?_
                  rintro _ A43 ⟨z44, rfl, W_A43, Z_A43, R_A43⟩
                  have BW_A43 := BX_A39.W hT9 W_A43
                  have hx29 : (K t1).toNat - 24 = 5 := by omega
                  have E82 := (hg_fl_mul (o := oX_A39) hw (x := (K t1).toNat) (by omega) (by omega))
                  rw [hx29] at E82
                  rw [List.append_assoc] at R_A43
                  refine hpa_popI (by rfl) ?_
                  refine hpj_iinc (by rfl) rfl rfl hk_1 (by omega) (by omega) (fun _ => rfl) (fun z45 ez45 => ?_)
                  refine hpa_goto (by rfl) ?_
                  exact ih8 (Int32.ofNat 1) z45 (.int z4) A43 (Or.inl ⟨hk_1, _, _, _, _, _, by omega, BW_A43, GX_A39, E82, R_A43, ⟨by omega, by rw [hg_ln]; omega⟩⟩) (by omega)
                ·
                  refine hpa_iconst (by rfl) rfl ?_
                  refine hpa_goto (by rfl) ?_
                  refine hpa_iconst (by rfl) rfl ?_
                  refine hpa_call0 (by rfl) (by rfl) (by rfl) (hsT4 hT) (by rfl) (by rfl) (hP12 (k := 4) hT (Int32.ofNat 4) (Int32.ofNat 0) RX_A39 hk_4 hk_0 (by omega) (by omega) (by omega) (by omega) (by omega)) ?_
                  rintro _ A46 ⟨z47, rfl, W_A46, Z_A46, R_A46⟩
                  have BW_A46 := BX_A39.W hT9 W_A46
                  have hx28 : (K t1).toNat - 24 = 4 := by omega
                  have E82 := (hg_fl_mul (o := oX_A39) hw (x := (K t1).toNat) (by omega) (by omega))
                  rw [hx28] at E82
                  rw [List.append_assoc] at R_A46
                  refine hpa_popI (by rfl) ?_
                  refine hpj_iinc (by rfl) rfl rfl hk_1 (by omega) (by omega) (fun _ => rfl) (fun z48 ez48 => ?_)
                  refine hpa_goto (by rfl) ?_
                  exact ih8 (Int32.ofNat 1) z48 (.int z4) A46 (Or.inl ⟨hk_1, _, _, _, _, _, by omega, BW_A46, GX_A39, E82, R_A46, ⟨by omega, by rw [hg_ln]; omega⟩⟩) (by omega)
              ·
                refine hpj_zeq (by rfl) rfl (fun q49 => ?_) (fun q49 => False.elim (by omega))
                refine hpa_iconst (by rfl) rfl ?_
                refine hpa_s1 (by rfl) (Or.inl ⟨_, rfl, rfl⟩) rfl ?_
                refine hpa_aload_n (by rfl) rfl ?_
                refine hpj_getT (by rfl) (by rfl) (by rfl) F_A39.1 ?_
                refine hpa_get (v := .ref (T + 5)) (by rfl) (hsT hT) (by rfl) (hvT hT (by omega)) ?_
                refine hpa_iload (by rfl) rfl ?_
                refine hpa_bipush (by rfl) rfl ?_
                refine hpj_cne (by rfl) rfl hk_28 (fun q50 => ?_) (fun q50 => ?_)
                ·
                  refine hpa_iconst (by rfl) rfl ?_
                  refine hpa_iconst (by rfl) rfl ?_
                  refine hpa_call0 (by rfl) (by rfl) (by rfl) (hsT4 hT) (by rfl) (by rfl) (hP12d hT (Int32.ofNat 5) (Int32.ofNat 0)) ?_
                  rintro _ A51 ⟨z52, rfl, W_A51⟩
                  have FW_A51 := F_A39.W hT9 W_A51
                  refine hpa_popI (by rfl) ?_
                  refine hpj_iinc (by rfl) rfl rfl hk_1 (by omega) (by omega) (fun _ => rfl) (fun z53 ez53 => ?_)
                  refine hpa_goto (by rfl) ?_
                  exact ih8 (Int32.ofNat 0) z53 (.int z4) A51 (Or.inr ⟨hk_0, FW_A51⟩) (by omega)
                ·
                  refine hpa_iconst (by rfl) rfl ?_
                  refine hpa_goto (by rfl) ?_
                  refine hpa_iconst (by rfl) rfl ?_
                  refine hpa_call0 (by rfl) (by rfl) (by rfl) (hsT4 hT) (by rfl) (by rfl) (hP12d hT (Int32.ofNat 4) (Int32.ofNat 0)) ?_
                  rintro _ A54 ⟨z55, rfl, W_A54⟩
                  have FW_A54 := F_A39.W hT9 W_A54
                  refine hpa_popI (by rfl) ?_
                  refine hpj_iinc (by rfl) rfl rfl hk_1 (by omega) (by omega) (fun _ => rfl) (fun z56 ez56 => ?_)
                  refine hpa_goto (by rfl) ?_
                  exact ih8 (Int32.ofNat 0) z56 (.int z4) A54 (Or.inr ⟨hk_0, FW_A54⟩) (by omega)
            ·
              refine hpj_zeq (by rfl) rfl (fun q57 => ?_) (fun q57 => False.elim (by omega))
              refine hpa_iconst (by rfl) rfl ?_
              refine hpa_s1 (by rfl) (Or.inl ⟨_, rfl, rfl⟩) rfl ?_
              refine hpa_aload_n (by rfl) rfl ?_
              refine hpj_getT (by rfl) (by rfl) (by rfl) F_A36.1 ?_
              refine hpa_get (v := .ref (T + 5)) (by rfl) (hsT hT) (by rfl) (hvT hT (by omega)) ?_
              refine hpa_iload (by rfl) rfl ?_
              refine hpa_bipush (by rfl) rfl ?_
              refine hpj_cne (by rfl) rfl hk_28 (fun q58 => ?_) (fun q58 => ?_)
              ·
                refine hpa_iconst (by rfl) rfl ?_
                refine hpa_iconst (by rfl) rfl ?_
                refine hpa_call0 (by rfl) (by rfl) (by rfl) (hsT4 hT) (by rfl) (by rfl) (hP12d hT (Int32.ofNat 5) (Int32.ofNat 0)) ?_
                rintro _ A59 ⟨z60, rfl, W_A59⟩
                have FW_A59 := F_A36.W hT9 W_A59
                refine hpa_popI (by rfl) ?_
                refine hpj_iinc (by rfl) rfl rfl hk_1 (by omega) (by omega) (fun _ => rfl) (fun z61 ez61 => ?_)
                refine hpa_goto (by rfl) ?_
                exact ih8 (Int32.ofNat 0) z61 (.int z4) A59 (Or.inr ⟨hk_0, FW_A59⟩) (by omega)
              ·
                refine hpa_iconst (by rfl) rfl ?_
                refine hpa_goto (by rfl) ?_
                refine hpa_iconst (by rfl) rfl ?_
                refine hpa_call0 (by rfl) (by rfl) (by rfl) (hsT4 hT) (by rfl) (by rfl) (hP12d hT (Int32.ofNat 4) (Int32.ofNat 0)) ?_
                rintro _ A62 ⟨z63, rfl, W_A62⟩
                have FW_A62 := F_A36.W hT9 W_A62
                refine hpa_popI (by rfl) ?_
                refine hpj_iinc (by rfl) rfl rfl hk_1 (by omega) (by omega) (fun _ => rfl) (fun z64 ez64 => ?_)
                refine hpa_goto (by rfl) ?_
                exact ih8 (Int32.ofNat 0) z64 (.int z4) A62 (Or.inr ⟨hk_0, FW_A62⟩) (by omega)
          ·
            refine hpa_iconst (by rfl) rfl ?_
            exact hpa_ireturn (by rfl) (by rfl) (hP _ _ ⟨_, rfl, Or.inl ⟨hk_1, t1, _, _, _, _, by omega, B8, G8, e8, R8, b8, by omega⟩⟩)
      ·
        refine hpa_iload_nS (by rfl) rfl ?_
        refine hpa_sipush (by rfl) rfl ?_
        refine hpj_cge (by rfl) rfl hk_400 (fun q65 => ?_) (fun q65 => ?_)
        ·
          refine hpa_iload_n (by rfl) rfl ?_
          exact hpa_ireturn (by rfl) (hn_fitB (by omega) (by omega)) (hP _ _ ⟨_, rfl, Or.inr ⟨fz8, F8⟩⟩)
        ·
          refine hpa_iload_n (by rfl) rfl ?_
          refine hpj_zeq (by rfl) rfl (fun q66 => ?_) (fun q66 => False.elim (by omega))
          refine hpa_iload_n (by rfl) rfl ?_
          exact hpa_ireturn (by rfl) (hn_fitB (by omega) (by omega)) (hP _ _ ⟨_, rfl, Or.inr ⟨fz8, F8⟩⟩)
  refine hpa_aload_n (by rfl) rfl ?_
  refine hpa_iload_n (by rfl) rfl ?_
  refine hpa_call0 (by rfl) (by rfl) (by rfl) (by rfl) (by rfl) (by rfl) (i52 hT a1 hB hR hu hdp hV hG hue hz8 hq2) ?_
  rintro _ A67 ⟨z68, rfl, (⟨fz_A67, X_A67⟩ | ⟨fz_A67, F_A67⟩)⟩
  ·
    obtain ⟨tX_A67, oX_A67, zX_A67, ltX_A67, BX_A67, GX_A67, RX_A67, bX_A67⟩ := X_A67
    have h4X_A67 := BX_A67.at.1
    refine hpa_s1 (by rfl) (Or.inl ⟨_, rfl, rfl⟩) rfl ?_
    refine hpa_iconst (by rfl) rfl ?_
    refine hpa_s1 (by rfl) (Or.inl ⟨_, rfl, rfl⟩) rfl ?_
    exact L8 _ z68 (Int32.ofNat 0) (.retAddr 0) A67 (Or.inl ⟨fz_A67, _, _, _, _, _, by omega, BX_A67, GX_A67, (hg_fl_t1 hw), RX_A67, ⟨by omega, by omega⟩⟩) (by omega)
  ·
    refine hpa_s1 (by rfl) (Or.inl ⟨_, rfl, rfl⟩) rfl ?_
    refine hpa_iconst (by rfl) rfl ?_
    refine hpa_s1 (by rfl) (Or.inl ⟨_, rfl, rfl⟩) rfl ?_
    exact L8 _ z68 (Int32.ofNat 0) (.retAddr 0) A67 (Or.inr ⟨fz_A67, F_A67⟩) (by omega)
theorem hW52 {g d f : Nat} {A : hs_A} {K V S : Nat → Int} {E : Nat → Nat → Bool} {T : Nat} {t : Nat} {s : hq_S} {ns : List Nat} {p : Option Nat} {sn : Nat} {o : Option (Nat × Nat)} {dd : hg_D} {zz : Nat} {ifs ctx dp q : Nat} {r : List Nat × Nat × Nat × Option (Nat × Nat)} {kk : hg_W} {base oc : hg_C} {ww : List Nat} (i50 : hcX50 g d) (hT : hTT T) (a1 : Int32) (hB : hcB K V S E T A t s) (hR : hcR2 V S T A ns p sn o dd (base ++ oc) zz) (hu : hq_dl K V E t s = hq_unit K t ifs ctx dp r) (hdp : a1.toInt = (dp : Int)) (hV : hg_V K V) (hG : hg_q K V E t = (dd, kk, oc, ww)) (hue : ∀ e, hg_dl K V t s e = hg_un K V t e) (hz8 : zz + q ≤ 8 + t) (hq2 : 2 ≤ q) {P : Option Value → hs_A → Prop} (hP : ∀ (r1 : Option Value) (A' : hs_A), (∃ z : Int32, r1 = some (.int z) ∧ ((z.toInt = 1 ∧ ∃ (t' : Nat) (oc' : hg_C) (z' : Nat), t < t' ∧ hcB K V S E T A' t' (15, ifs, ctx, dp, r) ∧ hg_q K V E t' = (dd, kk, oc', ww) ∧ hcR2 V S T A' ns p sn o dd (base ++ oc') z' ∧ (z' + q ≤ 8 + t' ∧ z' + oc.length = zz + oc'.length)) ∨ (z.toInt = 0 ∧ hcF K V S E T A'))) → P r1 A') : hpa (f, g) d (some (.boolean)) hm_t52 0 [.ref 21, .int a1, .retAddr 0] [] A P := by
  have k0 := hk_0
  have k1 := hk_1
  have k11 := hk_11
  have k19 := hk_19
  have k2 := hk_2
  have k21 := hk_21
  have k31 := hk_31
  have k32 := hk_32
  have k6 := hk_6
  have hT9 : T ≤ 11 := by rcases hT with rfl | rfl <;> omega
  obtain ⟨h400, hpre, hix, hkk, hss, hsz, hvv⟩ := hB.at
  have hnx := hB.2.2.1
  have hqq := hB.2.2.2.1
  refine hpa_aload_n (by rfl) rfl ?_
  refine hpa_call0 (by rfl) (by rfl) (by rfl) (by rfl) (by rfl) (by rfl) (hP38 hT hB) ?_
  rintro _ _ ⟨rfl, z2, rfl, fz_A1⟩
  refine hpa_s1 (by rfl) (Or.inl ⟨_, rfl, rfl⟩) rfl ?_
  refine hpa_iload_n (by rfl) rfl ?_
  refine hpa_bipush (by rfl) rfl ?_
  refine hpj_cne (by rfl) rfl hk_21 (fun q3 => ?_) (fun q3 => ?_)
  ·
    refine hpa_iload_n (by rfl) rfl ?_
    refine hpa_bipush (by rfl) rfl ?_
    refine hpa_bipush (by rfl) rfl ?_
    refine hpa_call2 (by rfl) (by decide) (by rfl) (by rfl) (by rfl) (hP78 z2 (Int32.ofNat 11) (Int32.ofNat 19)) ?_
    rintro _ _ ⟨rfl, z5, rfl, (⟨fz_A4, lo_A4, hi_A4⟩ | ⟨fz_A4, no_A4⟩)⟩
    ·
      refine hpj_zeq (by rfl) rfl (fun q6 => False.elim (by omega)) (fun q6 => ?_)
      refine hpa_aload_n (by rfl) rfl ?_
      refine hpj_getT (by rfl) (by rfl) (by rfl) hB.1 ?_
      refine hpa_get (v := .ref (T + 5)) (by rfl) (hsT hT) (by rfl) (hvT hT (by omega)) ?_
      refine hpa_iconst (by rfl) rfl ?_
      refine hpa_iload_n (by rfl) rfl ?_
      refine hpa_bipush (by rfl) rfl ?_
      refine hpj_isub (by rfl) rfl hk_11 (by omega) (by omega) (fun z7 ez7 => ?_)
      refine hpa_call0 (by rfl) (by rfl) (by rfl) (hsT4 hT) (by rfl) (by rfl) (hP12 (k := 1) (v := K t - 11) hT (Int32.ofNat 1) z7 hR hk_1 (by omega) (by omega) (by omega) (by omega) (by omega) (by omega)) ?_
      rintro _ A8 ⟨z9, rfl, W_A8, Z_A8, R_A8⟩
      have BW_A8 := hB.W hT9 W_A8
      rw [List.append_assoc] at R_A8
      refine hpa_popI (by rfl) ?_
      refine hpa_aload_n (by rfl) rfl ?_
      refine hpa_call0 (by rfl) (by rfl) (by rfl) (by rfl) (by rfl) (by rfl) (hP41 hT BW_A8 R_A8 (hu.trans (hqu_v (by omega)))) ?_
      rintro _ A10 ⟨z11, rfl, (⟨fz_A10, B_A10, R_A10, G_A10, N_A10⟩ | ⟨fz_A10, F_A10⟩)⟩
      ·
        exact hpa_ireturn (by rfl) (hn_fitB (by omega) (by omega)) (hP _ _ ⟨_, rfl, Or.inl ⟨fz_A10, _, _, _, by omega, B_A10, by rw [G_A10, hG, hue]; exact hg_unv (by omega), R_A10, ⟨by omega, by rw [hg_ln]; omega⟩⟩⟩)
      ·
        exact hpa_ireturn (by rfl) (hn_fitB (by omega) (by omega)) (hP _ _ ⟨_, rfl, Or.inr ⟨fz_A10, F_A10⟩⟩)
    ·
      refine hpj_zeq (by rfl) rfl (fun q12 => ?_) (fun q12 => False.elim (by omega))
      refine hpa_iload_n (by rfl) rfl ?_
      refine hpa_bipush (by rfl) rfl ?_
      refine hpj_ceq (by rfl) rfl hk_31 (fun q13 => ?_) (fun q13 => ?_)
      ·
        refine hpa_iload_n (by rfl) rfl ?_
        refine hpa_bipush (by rfl) rfl ?_
        refine hpj_clt (by rfl) rfl hk_6 (fun q14 => ?_) (fun q14 => ?_)
        ·
          refine hpa_aload_n (by rfl) rfl ?_
          refine hpa_call0 (by rfl) (by rfl) (by rfl) (by rfl) (by rfl) (by rfl) (hP41 hT hB hR (hu.trans (hqu_o (by omega) (by omega)))) ?_
          rintro _ A15 ⟨z16, rfl, (⟨fz_A15, B_A15, R_A15, G_A15, N_A15⟩ | ⟨fz_A15, F_A15⟩)⟩
          ·
            have GO : hg_q K V E (t + 1) = (dd, kk, oc, 31 :: ww) := by rw [G_A15, hG, hue]; exact hg_un31 (by omega)
            refine hpj_zeq (by rfl) rfl (fun q17 => False.elim (by omega)) (fun q17 => ?_)
            refine hpa_aload_n (by rfl) rfl ?_
            refine hpa_iload_n (by rfl) rfl ?_
            refine hpa_iconst (by rfl) rfl ?_
            refine hpj_iadd (by rfl) rfl hk_1 (by omega) (by omega) (fun z18 ez18 => ?_)
            refine hpa_call0 (by rfl) (by rfl) (by rfl) (by rfl) (by rfl) (by rfl) (i50 hT z18 B_A15 R_A15 rfl (by omega) hV GO (fun _ => rfl) rfl (show _ + q ≤ 8 + (t + 1) by omega) hq2) ?_
            rintro _ A19 ⟨z20, rfl, (⟨fz_A19, X_A19⟩ | ⟨fz_A19, F_A19⟩)⟩
            ·
              obtain ⟨tX_A19, pX_A19, oX_A19, wX_A19, zX_A19, ltX_A19, BX_A19, GX_A19, eX_A19, RX_A19, bX_A19, QX_A19⟩ := X_A19
              have h4X_A19 := BX_A19.at.1
              refine hpj_zeq (by rfl) rfl (fun q21 => False.elim (by omega)) (fun q21 => ?_)
              refine hpa_aload_n (by rfl) rfl ?_
              refine hpa_bipush (by rfl) rfl ?_
              refine hpa_call0 (by rfl) (by rfl) (by rfl) (by rfl) (by rfl) (by rfl) (hP42 hT (Int32.ofNat 32) BX_A19 RX_A19 hk_32 (hqd15_cl QX_A19)) ?_
              rintro _ A22 ⟨z23, rfl, (⟨fz_A22, B_A22, R_A22, G_A22, N_A22⟩ | ⟨fz_A22, F_A22⟩)⟩
              ·
                refine hpj_zeq (by rfl) rfl (fun q24 => False.elim (by omega)) (fun q24 => ?_)
                refine hpa_iconst (by rfl) rfl ?_
                refine hpa_goto (by rfl) ?_
                exact hpa_ireturn (by rfl) (by rfl) (hP _ _ ⟨_, rfl, Or.inl ⟨hk_1, _, oX_A19, _, by omega, B_A22, by rw [G_A22, GX_A19]; exact hg_dcl QX_A19 eX_A19, R_A22, ⟨by omega, by omega⟩⟩⟩)
              ·
                refine hpj_zeq (by rfl) rfl (fun q25 => ?_) (fun q25 => False.elim (by omega))
                refine hpa_iconst (by rfl) rfl ?_
                exact hpa_ireturn (by rfl) (by rfl) (hP _ _ ⟨_, rfl, Or.inr ⟨hk_0, F_A22⟩⟩)
            ·
              refine hpj_zeq (by rfl) rfl (fun q26 => ?_) (fun q26 => False.elim (by omega))
              refine hpa_iconst (by rfl) rfl ?_
              exact hpa_ireturn (by rfl) (by rfl) (hP _ _ ⟨_, rfl, Or.inr ⟨hk_0, F_A19⟩⟩)
          ·
            refine hpj_zeq (by rfl) rfl (fun q27 => ?_) (fun q27 => False.elim (by omega))
            refine hpa_iconst (by rfl) rfl ?_
            exact hpa_ireturn (by rfl) (by rfl) (hP _ _ ⟨_, rfl, Or.inr ⟨hk_0, F_A15⟩⟩)
        ·
          refine hpa_aload_n (by rfl) rfl ?_
          refine hpa_iconst (by rfl) rfl ?_
          refine hpa_call0 (by rfl) (by rfl) (by rfl) (by rfl) (by rfl) (by rfl) (hP39 hT (Int32.ofNat 2) hB ⟨s, hqq, hu.trans (hqu_6 (by omega) (by omega))⟩ (by decide) hk_2) ?_
          rintro _ A28 ⟨z29, rfl, fz_A28, F_A28⟩
          exact hpa_ireturn (by rfl) (hn_fitB (by omega) (by omega)) (hP _ _ ⟨_, rfl, Or.inr ⟨fz_A28, F_A28⟩⟩)
      ·
        refine hpa_aload_n (by rfl) rfl ?_
        refine hpa_iconst (by rfl) rfl ?_
        refine hpa_call0 (by rfl) (by rfl) (by rfl) (by rfl) (by rfl) (by rfl) (hP39 hT (Int32.ofNat 1) hB ⟨s, hqq, hu.trans (hqu_n (by omega) (by omega))⟩ (by decide) hk_1) ?_
        rintro _ A30 ⟨z31, rfl, fz_A30, F_A30⟩
        exact hpa_ireturn (by rfl) (hn_fitB (by omega) (by omega)) (hP _ _ ⟨_, rfl, Or.inr ⟨fz_A30, F_A30⟩⟩)
  ·
    refine hpa_aload_n (by rfl) rfl ?_
    refine hpj_getT (by rfl) (by rfl) (by rfl) hB.1 ?_
    refine hpa_get (v := .ref (T + 5)) (by rfl) (hsT hT) (by rfl) (hvT hT (by omega)) ?_
    refine hpa_iconst (by rfl) rfl ?_
    refine hpa_aload_n (by rfl) rfl ?_
    refine hpa_get (v := .ref 22) (by rfl) (by rfl) (by rfl) rfl ?_
    refine hpa_get (v := .ref 24) (by rfl) (by rfl) (by rfl) rfl ?_
    refine hpa_aload_n (by rfl) rfl ?_
    refine hpj_getK (by rfl) (by rfl) (by rfl) rfl ?_
    refine hpx_lald (by rfl) (by rfl) (fun h0v32 h1v32 v32 ev32 => ?_)
    rw [hix] at ev32
    have hval : (v32).toInt32.toInt = V t := by rw [← ev32]; exact hvv (by omega)
    have hvb := hV t (by omega)
    refine hpa_l2i (by rfl) ?_
    refine hpa_call0 (by rfl) (by rfl) (by rfl) (hsT4 hT) (by rfl) (by rfl) (hP12 (k := 0) hT (Int32.ofNat 0) (v32).toInt32 hR hk_0 hval (by omega) (by omega) (by omega) (by omega) (by omega)) ?_
    rintro _ A33 ⟨z34, rfl, W_A33, Z_A33, R_A33⟩
    have BW_A33 := hB.W hT9 W_A33
    rw [List.append_assoc] at R_A33
    refine hpa_popI (by rfl) ?_
    refine hpa_aload_n (by rfl) rfl ?_
    refine hpa_call0 (by rfl) (by rfl) (by rfl) (by rfl) (by rfl) (by rfl) (hP41 hT BW_A33 R_A33 (hu.trans (hqu_v (by omega)))) ?_
    rintro _ A35 ⟨z36, rfl, (⟨fz_A35, B_A35, R_A35, G_A35, N_A35⟩ | ⟨fz_A35, F_A35⟩)⟩
    ·
      exact hpa_ireturn (by rfl) (hn_fitB (by omega) (by omega)) (hP _ _ ⟨_, rfl, Or.inl ⟨fz_A35, _, _, _, by omega, B_A35, by rw [G_A35, hG, hue]; exact hg_un21 (by omega), R_A35, ⟨by omega, by rw [hg_ln]; omega⟩⟩⟩)
    ·
      exact hpa_ireturn (by rfl) (hn_fitB (by omega) (by omega)) (hP _ _ ⟨_, rfl, Or.inr ⟨fz_A35, F_A35⟩⟩)
theorem hcXX (g : Nat) : ∀ d, hcX50 g d ∧ hcX51 g d ∧ hcX52 g d
  | 0 => ⟨fun _ _ _ _ _ _ _ _ _ _ _ _ => hpC.zero, fun _ _ _ _ _ _ _ _ _ _ _ _ => hpC.zero, fun _ _ _ _ _ _ _ _ _ _ _ => hpC.zero⟩
  | d + 1 => by
    obtain ⟨i50, i51, i52⟩ := hcXX g d
    exact ⟨fun hT a1 hB hR hu hdp hV hG hue hw hz8 hq2 => hpC.of (fun f => hW50 i51 hT a1 hB hR hu hdp hV hG hue hw hz8 hq2 (fun r A' h => h)), fun hT a1 hB hR hu hdp hV hG hue hw hz8 hq2 => hpC.of (fun f => hW51 i52 hT a1 hB hR hu hdp hV hG hue hw hz8 hq2 (fun r A' h => h)), fun hT a1 hB hR hu hdp hV hG hue hz8 hq2 => hpC.of (fun f => hW52 i50 hT a1 hB hR hu hdp hV hG hue hz8 hq2 (fun r A' h => h))⟩
theorem hW49 {g d f : Nat} {A : hs_A} {K V S : Nat → Int} {E : Nat → Nat → Bool} {T : Nat} {t : Nat} {a b c : Nat} {ns : List Nat} {nm sn : Nat} {o : Option (Nat × Nat)} {zz : Nat} (hT : hTT T) (a1 : Int32) (hB : hcB K V S E T A t (0, a, b, c, ns, nm, sn, o)) (hR : hcR2 V S T A ns none sn o (hg_q K V E t).1 [] zz) (hz8 : zz ≤ 8 + t) (hK : 2 ≤ K t ∧ K t ≤ 5) (ha1 : a1.toInt = K t - 2) (hV : hg_V K V) {P : Option Value → hs_A → Prop} (hP : ∀ (r : Option Value) (A' : hs_A), (∃ z : Int32, r = some (.int z) ∧ ((z.toInt = 1 ∧ hcOK2 K V S E T A' t) ∨ (z.toInt = 0 ∧ hcF K V S E T A'))) → P r A') : hpa (f, g) d (some (.boolean)) hm_t49 0 [.ref 21, .int a1, .retAddr 0, .retAddr 0, .retAddr 0, .retAddr 0] [] A P := by
  have k0 := hk_0
  have k1 := hk_1
  have k10 := hk_10
  have k2 := hk_2
  have k24 := hk_24
  have k25 := hk_25
  have k30 := hk_30
  have k4 := hk_4
  have k6 := hk_6
  have k7 := hk_7
  have k8 := hk_8
  have k9 := hk_9
  have hT9 : T ≤ 11 := by rcases hT with rfl | rfl <;> omega
  obtain ⟨h400, hpre, hix, hkk, hss, hsz, hvv⟩ := hB.at
  have hnx := hB.2.2.1
  have hqq := hB.2.2.2.1
  have hnil := hg_nil
  have L34 : ∀ (f : Nat) (x34_3 : Int32) (x34_4 : Int32) (x34_5 : Value) (A34 : hs_A) (t1 : Nat) (ifs : Nat) (br : hg_B) (c1 : hg_C) (c2 : hg_C) (st : Nat) (B34 : hcB K V S E T A34 t1 (13, ifs, 0, 0, ns, nm, sn, o)) (R34 : hcR2 V S T A34 ns none sn o (hg_q K V E t).1 (hg_br st br) (st + (hg_br st br).length)) (li : x34_4.toInt = (ifs : Int)) (l44 : ifs ≤ 4) (lt34 : t < t1) (G34 : hg_q K V E t1 = ((hg_q K V E t).1, ((K t - 2).toNat, br, c1, c2), [], [])) (ls : x34_3.toInt = (st : Int)) (z34 : st + (hg_br st br).length + 2 ≤ 8 + t1), hpa (f, g) d (some (.boolean)) hm_t49 34 [.ref 21, .int a1, .ref (T + 5), .int x34_3, .int x34_4, x34_5] [] A34 P := by
    intro f
    induction f with
    | zero => intros; exact hpa.zero
    | succ f ih34 =>
      intro x34_3 x34_4 x34_5 A34 t1 ifs br c1 c2 st B34 R34 li l44 lt34 G34 ls z34
      refine hpa_iloadS (by rfl) rfl ?_
      refine hpa_iconst (by rfl) rfl ?_
      refine hpj_cgt (by rfl) rfl hk_4 (fun q1 => False.elim (by omega)) (fun q1 => ?_)
      refine hpa_aload_n (by rfl) rfl ?_
      refine hpa_call0 (by rfl) (by rfl) (by rfl) (by rfl) (by rfl) (by rfl) (hP38 hT B34) ?_
      rintro _ _ ⟨rfl, z3, rfl, fz_A2⟩
      refine hpa_bipush (by rfl) rfl ?_
      refine hpj_cne (by rfl) rfl hk_8 (fun q4 => ?_) (fun q4 => ?_)
      ·
        refine hpa_aload_n (by rfl) rfl ?_
        refine hpa_iconst (by rfl) rfl ?_
        refine hpa_call0 (by rfl) (by rfl) (by rfl) (by rfl) (by rfl) (by rfl) ((hcXX _ _).1 (base := hg_br st br) (oc := []) (q := 2) (zz := st + (hg_br st br).length) hT (Int32.ofNat 0) B34 (by rw [List.append_nil]; exact R34) (hqd13_un (by omega)) hk_0 hV G34 (fun _ => hg_d13u (by omega)) trivial (by omega) (Nat.le_refl 2)) ?_
        rintro _ A5 ⟨z6, rfl, (⟨fz_A5, X_A5⟩ | ⟨fz_A5, F_A5⟩)⟩
        ·
          obtain ⟨tX_A5, pX_A5, oX_A5, wX_A5, zX_A5, ltX_A5, BX_A5, GX_A5, eX_A5, RX_A5, bX_A5, QX_A5⟩ := X_A5
          have h4X_A5 := BX_A5.at.1
          obtain ⟨c4b, c4l⟩ := bX_A5
          refine hpj_zeq (by rfl) rfl (fun q7 => False.elim (by omega)) (fun q7 => ?_)
          refine hpa_aload_n (by rfl) rfl ?_
          refine hpa_bipush (by rfl) rfl ?_
          refine hpa_call0 (by rfl) (by rfl) (by rfl) (by rfl) (by rfl) (by rfl) (hP42 hT (Int32.ofNat 24) BX_A5 RX_A5 hk_24 (hqd15_out QX_A5)) ?_
          rintro _ A8 ⟨z9, rfl, (⟨fz_A8, B_A8, R_A8, G_A8, N_A8⟩ | ⟨fz_A8, F_A8⟩)⟩
          ·
            have G163 : hg_q K V E (tX_A5 + 1) = (((hg_q K V E t).1.1, (hg_q K V E t).1.2.1, (hg_q K V E t).1.2.2.1, fun q => if q = (K t - 2).toNat then (br, oX_A5) else (hg_q K V E t).1.2.2.2 q), ((K t - 2).toNat, br, c1, c2), [], []) := by rw [G_A8, GX_A5]; exact hg_dout QX_A5 eX_A5
            refine hpj_zne (by rfl) rfl (fun q10 => ?_) (fun q10 => False.elim (by omega))
            refine hpa_aload_n (by rfl) rfl ?_
            refine hpa_bipush (by rfl) rfl ?_
            refine hpa_iconst (by rfl) rfl ?_
            refine hpa_call0 (by rfl) (by rfl) (by rfl) (hsT4 hT) (by rfl) (by rfl) (hP12 (k := 7) hT (Int32.ofNat 7) (Int32.ofNat 0) R_A8 hk_7 hk_0 (by omega) (by omega) (by omega) (by omega) (by omega)) ?_
            rintro _ A11 ⟨z12, rfl, W_A11, Z_A11, R_A11⟩
            have BW_A11 := B_A8.W hT9 W_A11
            rw [List.append_assoc] at R_A11
            refine hpa_popI (by rfl) ?_
            refine hpa_aload_n (by rfl) rfl ?_
            refine hpa_iload_n (by rfl) rfl ?_
            refine hpa_iload_n (by rfl) rfl ?_
            refine hpa_call0 (by rfl) (by rfl) (by rfl) (hsT4 hT) (by rfl) (by rfl) (hP10 (s := st) (q := (K t - 2).toNat) (l := (br, oX_A5)) hT a1 x34_3 R_A11 (show st + (hg_br st br ++ (oX_A5 ++ [(7, 0)])).length = _ by rw [List.length_append, hg_ln]; omega) (by omega) (by omega) ls) ?_
            rintro _ A13 ⟨rfl, W_A13, R_A13⟩
            have BW_A13 := BW_A11.W hT9 W_A13
            refine hpa_iconst (by rfl) rfl ?_
            exact hpa_ireturn (by rfl) (by rfl) (hP _ _ ⟨_, rfl, Or.inl ⟨hk_1, _, _, _, _, _, _, _, _, _, by omega, BW_A13, by rw [G163]; exact R_A13, by omega⟩⟩)
          ·
            refine hpj_zne (by rfl) rfl (fun q14 => False.elim (by omega)) (fun q14 => ?_)
            refine hpa_iconst (by rfl) rfl ?_
            exact hpa_ireturn (by rfl) (by rfl) (hP _ _ ⟨_, rfl, Or.inr ⟨hk_0, F_A8⟩⟩)
        ·
          refine hpj_zeq (by rfl) rfl (fun q15 => ?_) (fun q15 => False.elim (by omega))
          refine hpa_iconst (by rfl) rfl ?_
          exact hpa_ireturn (by rfl) (by rfl) (hP _ _ ⟨_, rfl, Or.inr ⟨hk_0, F_A5⟩⟩)
      ·
        refine hpa_iload (by rfl) rfl ?_
        refine hpa_iconst (by rfl) rfl ?_
        refine hpj_cne (by rfl) rfl hk_4 (fun q16 => ?_) (fun q16 => ?_)
        ·
          refine hpa_aload_n (by rfl) rfl ?_
          refine hpa_call0 (by rfl) (by rfl) (by rfl) (by rfl) (by rfl) (by rfl) (hP41 hT B34 R34 ((hqd13_if (by omega)).trans (if_pos (by omega)))) ?_
          rintro _ A17 ⟨z18, rfl, (⟨fz_A17, B_A17, R_A17, G_A17, N_A17⟩ | ⟨fz_A17, F_A17⟩)⟩
          ·
            have G62 : hg_q K V E (t1 + 1) = ((hg_q K V E t).1, ((K t - 2).toNat, br, c1, c2), [], []) := by rw [G_A17, hg_d13i (by omega)]; exact G34
            refine hpj_zeq (by rfl) rfl (fun q19 => False.elim (by omega)) (fun q19 => ?_)
            refine hpa_aload_n (by rfl) rfl ?_
            refine hpa_iconst (by rfl) rfl ?_
            refine hpa_call0 (by rfl) (by rfl) (by rfl) (by rfl) (by rfl) (by rfl) ((hcXX _ _).1 (base := hg_br st br) (oc := []) (q := 2) (zz := st + (hg_br st br).length) hT (Int32.ofNat 0) B_A17 (by rw [List.append_nil]; exact R_A17) rfl hk_0 hV G62 (fun _ => rfl) trivial (by omega) (Nat.le_refl 2)) ?_
            rintro _ A20 ⟨z21, rfl, (⟨fz_A20, X_A20⟩ | ⟨fz_A20, F_A20⟩)⟩
            ·
              obtain ⟨tX_A20, pX_A20, oX_A20, wX_A20, zX_A20, ltX_A20, BX_A20, GX_A20, eX_A20, RX_A20, bX_A20, QX_A20⟩ := X_A20
              have h4X_A20 := BX_A20.at.1
              obtain ⟨c1b, c1l⟩ := bX_A20
              refine hpj_zeq (by rfl) rfl (fun q22 => False.elim (by omega)) (fun q22 => ?_)
              refine hpa_aload_n (by rfl) rfl ?_
              refine hpa_bipush (by rfl) rfl ?_
              refine hpa_call0 (by rfl) (by rfl) (by rfl) (by rfl) (by rfl) (by rfl) (hP42 hT (Int32.ofNat 30) BX_A20 RX_A20 hk_30 (hqd15_out QX_A20)) ?_
              rintro _ A23 ⟨z24, rfl, (⟨fz_A23, B_A23, R_A23, G_A23, N_A23⟩ | ⟨fz_A23, F_A23⟩)⟩
              ·
                have G79 : hg_q K V E (tX_A20 + 1) = ((hg_q K V E t).1, ((K t - 2).toNat, br, oX_A20, c2), [], []) := by rw [G_A23, GX_A20]; exact hg_dout QX_A20 eX_A20
                refine hpj_zeq (by rfl) rfl (fun q25 => False.elim (by omega)) (fun q25 => ?_)
                refine hpa_aload_n (by rfl) rfl ?_
                refine hpa_iconst (by rfl) rfl ?_
                refine hpa_call0 (by rfl) (by rfl) (by rfl) (by rfl) (by rfl) (by rfl) ((hcXX _ _).1 (base := hg_br st br ++ oX_A20) (oc := []) (q := 2) (zz := zX_A20) hT (Int32.ofNat 0) B_A23 (by rw [List.append_nil]; exact R_A23) rfl hk_0 hV G79 (fun _ => rfl) trivial (by omega) (Nat.le_refl 2)) ?_
                rintro _ A26 ⟨z27, rfl, (⟨fz_A26, X_A26⟩ | ⟨fz_A26, F_A26⟩)⟩
                ·
                  obtain ⟨tX_A26, pX_A26, oX_A26, wX_A26, zX_A26, ltX_A26, BX_A26, GX_A26, eX_A26, RX_A26, bX_A26, QX_A26⟩ := X_A26
                  have h4X_A26 := BX_A26.at.1
                  obtain ⟨c2b, c2l⟩ := bX_A26
                  refine hpj_zeq (by rfl) rfl (fun q28 => False.elim (by omega)) (fun q28 => ?_)
                  refine hpa_aload_n (by rfl) rfl ?_
                  refine hpa_bipush (by rfl) rfl ?_
                  refine hpa_call0 (by rfl) (by rfl) (by rfl) (by rfl) (by rfl) (by rfl) (hP42 hT (Int32.ofNat 9) BX_A26 RX_A26 hk_9 (hqd15_out QX_A26)) ?_
                  rintro _ A29 ⟨z30, rfl, (⟨fz_A29, B_A29, R_A29, G_A29, N_A29⟩ | ⟨fz_A29, F_A29⟩)⟩
                  ·
                    have G96 : hg_q K V E (tX_A26 + 1) = ((hg_q K V E t).1, ((K t - 2).toNat, br, oX_A20, oX_A26), [], []) := by rw [G_A29, GX_A26]; exact hg_dout QX_A26 eX_A26
                    refine hpj_zne (by rfl) rfl (fun q31 => ?_) (fun q31 => False.elim (by omega))
                    refine hpa_aload_n (by rfl) rfl ?_
                    refine hpa_bipush (by rfl) rfl ?_
                    refine hpa_iconst (by rfl) rfl ?_
                    refine hpa_call0 (by rfl) (by rfl) (by rfl) (hsT4 hT) (by rfl) (by rfl) (hP12 (k := 6) hT (Int32.ofNat 6) (Int32.ofNat 0) R_A29 hk_6 hk_0 (by omega) (by omega) (by omega) (by omega) (by omega)) ?_
                    rintro _ A32 ⟨z33, rfl, W_A32, Z_A32, R_A32⟩
                    have BW_A32 := B_A29.W hT9 W_A32
                    refine hpa_s1 (by rfl) (Or.inr ⟨_, rfl, rfl⟩) rfl ?_
                    refine hpa_aload_n (by rfl) rfl ?_
                    refine hpa_iconst (by rfl) rfl ?_
                    refine hpa_call0 (by rfl) (by rfl) (by rfl) (by rfl) (by rfl) (by rfl) ((hcXX _ _).1 (base := ((hg_br st br ++ oX_A20) ++ oX_A26) ++ [(6, 0)]) (oc := []) (q := 2) (zz := zX_A26 + 1) hT (Int32.ofNat 0) BW_A32 (by rw [List.append_nil]; exact R_A32) rfl hk_0 hV G96 (fun _ => rfl) trivial (by omega) (Nat.le_refl 2)) ?_
                    rintro _ A34 ⟨z35, rfl, (⟨fz_A34, X_A34⟩ | ⟨fz_A34, F_A34⟩)⟩
                    ·
                      obtain ⟨tX_A34, pX_A34, oX_A34, wX_A34, zX_A34, ltX_A34, BX_A34, GX_A34, eX_A34, RX_A34, bX_A34, QX_A34⟩ := X_A34
                      have h4X_A34 := BX_A34.at.1
                      obtain ⟨c3b, c3l⟩ := bX_A34
                      refine hpj_zeq (by rfl) rfl (fun q36 => False.elim (by omega)) (fun q36 => ?_)
                      refine hpa_aload_n (by rfl) rfl ?_
                      refine hpa_bipush (by rfl) rfl ?_
                      refine hpa_call0 (by rfl) (by rfl) (by rfl) (by rfl) (by rfl) (by rfl) (hP42 hT (Int32.ofNat 10) BX_A34 RX_A34 hk_10 (hqd15_out QX_A34)) ?_
                      rintro _ A37 ⟨z38, rfl, (⟨fz_A37, B_A37, R_A37, G_A37, N_A37⟩ | ⟨fz_A37, F_A37⟩)⟩
                      ·
                        have G124 : hg_q K V E (tX_A34 + 1) = ((hg_q K V E t).1, ((K t - 2).toNat, br ++ [(oX_A20, oX_A26, oX_A34)], [], []), [], []) := by rw [G_A37, GX_A34]; exact hg_dout QX_A34 eX_A34
                        refine hpj_zne (by rfl) rfl (fun q39 => ?_) (fun q39 => False.elim (by omega))
                        refine hpa_aload_n (by rfl) rfl ?_
                        refine hpa_bipush (by rfl) rfl ?_
                        refine hpa_iconst (by rfl) rfl ?_
                        refine hpa_call0 (by rfl) (by rfl) (by rfl) (hsT4 hT) (by rfl) (by rfl) (hP12 (k := 7) hT (Int32.ofNat 7) (Int32.ofNat 0) R_A37 hk_7 hk_0 (by omega) (by omega) (by omega) (by omega) (by omega)) ?_
                        rintro _ A40 ⟨z41, rfl, W_A40, Z_A40, R_A40⟩
                        have BW_A40 := B_A37.W hT9 W_A40
                        rw [hg_as] at R_A40
                        refine hpa_popI (by rfl) ?_
                        refine hpa_aload_n (by rfl) rfl ?_
                        refine hpa_iload (by rfl) rfl ?_
                        refine hpa_call0 (by rfl) (by rfl) (by rfl) (hsT4 hT) (by rfl) (by rfl) (hP13 (j := zX_A26) hT z33 R_A40 Z_A32 (by rw [hg_ln]; omega) (by omega)) ?_
                        rintro _ A42 ⟨rfl, W_A42, R_A42⟩
                        have BW_A42 := BW_A40.W hT9 W_A42
                        have hone := hg_br_one (l := br) (s := st) (a := oX_A20) (b := oX_A26) (c := oX_A34) (z := (zX_A34 + 1)) (by simp only [List.length_append, List.length_cons, List.length_nil]; omega)
                        have hzn : (zX_A34 + 1) = st + (hg_br st (br ++ [(oX_A20, oX_A26, oX_A34)])).length := by rw [hone]; simp only [List.length_append, List.length_cons, List.length_nil]; omega
                        have RN : hcR2 V S T A42 ns none sn o (hg_q K V E t).1 (hg_br st (br ++ [(oX_A20, oX_A26, oX_A34)])) (st + (hg_br st (br ++ [(oX_A20, oX_A26, oX_A34)])).length) := by rw [← hzn, hone]; rw [hg_as2] at R_A42; exact R_A42
                        refine hpj_iinc (by rfl) rfl rfl hk_1 (by omega) (by omega) (fun _ => rfl) (fun z43 ez43 => ?_)
                        refine hpa_goto (by rfl) ?_
                        exact ih34 x34_3 z43 (.int z33) A42 _ _ (br ++ [(oX_A20, oX_A26, oX_A34)]) [] [] st BW_A42 RN (by omega) (by omega) (by omega) G124 ls (by rw [← hzn]; omega)
                      ·
                        refine hpj_zne (by rfl) rfl (fun q44 => False.elim (by omega)) (fun q44 => ?_)
                        refine hpa_iconst (by rfl) rfl ?_
                        exact hpa_ireturn (by rfl) (by rfl) (hP _ _ ⟨_, rfl, Or.inr ⟨hk_0, F_A37⟩⟩)
                    ·
                      refine hpj_zeq (by rfl) rfl (fun q45 => ?_) (fun q45 => False.elim (by omega))
                      refine hpa_iconst (by rfl) rfl ?_
                      exact hpa_ireturn (by rfl) (by rfl) (hP _ _ ⟨_, rfl, Or.inr ⟨hk_0, F_A34⟩⟩)
                  ·
                    refine hpj_zne (by rfl) rfl (fun q46 => False.elim (by omega)) (fun q46 => ?_)
                    refine hpa_iconst (by rfl) rfl ?_
                    exact hpa_ireturn (by rfl) (by rfl) (hP _ _ ⟨_, rfl, Or.inr ⟨hk_0, F_A29⟩⟩)
                ·
                  refine hpj_zeq (by rfl) rfl (fun q47 => ?_) (fun q47 => False.elim (by omega))
                  refine hpa_iconst (by rfl) rfl ?_
                  exact hpa_ireturn (by rfl) (by rfl) (hP _ _ ⟨_, rfl, Or.inr ⟨hk_0, F_A26⟩⟩)
              ·
                refine hpj_zeq (by rfl) rfl (fun q48 => ?_) (fun q48 => False.elim (by omega))
                refine hpa_iconst (by rfl) rfl ?_
                exact hpa_ireturn (by rfl) (by rfl) (hP _ _ ⟨_, rfl, Or.inr ⟨hk_0, F_A23⟩⟩)
            ·
              refine hpj_zeq (by rfl) rfl (fun q49 => ?_) (fun q49 => False.elim (by omega))
              refine hpa_iconst (by rfl) rfl ?_
              exact hpa_ireturn (by rfl) (by rfl) (hP _ _ ⟨_, rfl, Or.inr ⟨hk_0, F_A20⟩⟩)
          ·
            refine hpj_zeq (by rfl) rfl (fun q50 => ?_) (fun q50 => False.elim (by omega))
            refine hpa_iconst (by rfl) rfl ?_
            exact hpa_ireturn (by rfl) (by rfl) (hP _ _ ⟨_, rfl, Or.inr ⟨hk_0, F_A17⟩⟩)
        ·
          refine hpa_aload_n (by rfl) rfl ?_
          refine hpa_iconst (by rfl) rfl ?_
          refine hpa_call0 (by rfl) (by rfl) (by rfl) (by rfl) (by rfl) (by rfl) (hP39 hT (Int32.ofNat 2) B34 ⟨_, B34.2.2.2.1, (hqd13_if (by omega)).trans (if_neg (by omega))⟩ (by decide) hk_2) ?_
          rintro _ A51 ⟨z52, rfl, fz_A51, F_A51⟩
          exact hpa_ireturn (by rfl) (hn_fitB (by omega) (by omega)) (hP _ _ ⟨_, rfl, Or.inr ⟨fz_A51, F_A51⟩⟩)
  refine hpa_aload_n (by rfl) rfl ?_
  refine hpj_getT (by rfl) (by rfl) (by rfl) hB.1 ?_
  refine hpa_get (v := .ref (T + 5)) (by rfl) (hsT hT) (by rfl) (hvT hT (by omega)) ?_
  refine hpa_astore_n (by rfl) rfl ?_
  refine hpa_aload_n (by rfl) rfl ?_
  refine hpa_call0 (by rfl) (by rfl) (by rfl) (by rfl) (by rfl) (by rfl) (hP41 hT hB hR (hqd0_law hK)) ?_
  rintro _ A53 ⟨z54, rfl, (⟨fz_A53, B_A53, R_A53, G_A53, N_A53⟩ | ⟨fz_A53, F_A53⟩)⟩
  ·
    refine hpj_zeq (by rfl) rfl (fun q55 => False.elim (by omega)) (fun q55 => ?_)
    refine hpa_aload_n (by rfl) rfl ?_
    refine hpa_bipush (by rfl) rfl ?_
    refine hpa_call0 (by rfl) (by rfl) (by rfl) (by rfl) (by rfl) (by rfl) (hP42 hT (Int32.ofNat 25) B_A53 R_A53 hk_25 rfl) ?_
    rintro _ A56 ⟨z57, rfl, (⟨fz_A56, B_A56, R_A56, G_A56, N_A56⟩ | ⟨fz_A56, F_A56⟩)⟩
    ·
      have G0 : hg_q K V E (t + 1 + 1) = ((hg_q K V E t).1, ((K t - 2).toNat, [], [], []), [], []) := by rw [G_A56, G_A53, hg_d0l hK]; rfl
      refine hpj_zne (by rfl) rfl (fun q58 => ?_) (fun q58 => False.elim (by omega))
      refine hpa_aload_n (by rfl) rfl ?_
      refine hpa_call0 (by rfl) (by rfl) (by rfl) (hsT4 hT) (by rfl) (by rfl) (hP9 hT R_A56) ?_
      rintro _ A59 ⟨z60, rfl, W_A59, Z_A59, R_A59⟩
      have BW_A59 := B_A56.W hT9 W_A59
      refine hpa_s1 (by rfl) (Or.inl ⟨_, rfl, rfl⟩) rfl ?_
      refine hpa_iconst (by rfl) rfl ?_
      refine hpa_s1 (by rfl) (Or.inr ⟨_, rfl, rfl⟩) rfl ?_
      exact L34 _ z60 (Int32.ofNat 0) (.retAddr 0) A59 _ _ [] [] [] zz BW_A59 R_A59 hk_0 (by omega) (by omega) G0 Z_A59 (show zz + 0 + 2 ≤ 8 + (t + 1 + 1) by omega)
    ·
      refine hpj_zne (by rfl) rfl (fun q61 => False.elim (by omega)) (fun q61 => ?_)
      refine hpa_iconst (by rfl) rfl ?_
      exact hpa_ireturn (by rfl) (by rfl) (hP _ _ ⟨_, rfl, Or.inr ⟨hk_0, F_A56⟩⟩)
  ·
    refine hpj_zeq (by rfl) rfl (fun q62 => ?_) (fun q62 => False.elim (by omega))
    refine hpa_iconst (by rfl) rfl ?_
    exact hpa_ireturn (by rfl) (by rfl) (hP _ _ ⟨_, rfl, Or.inr ⟨hk_0, F_A53⟩⟩)
theorem hP49 {g d : Nat} {A : hs_A} {K V S : Nat → Int} {E : Nat → Nat → Bool} {T : Nat} {t : Nat} {a b c : Nat} {ns : List Nat} {nm sn : Nat} {o : Option (Nat × Nat)} {zz : Nat} (hT : hTT T) (a1 : Int32) (hB : hcB K V S E T A t (0, a, b, c, ns, nm, sn, o)) (hR : hcR2 V S T A ns none sn o (hg_q K V E t).1 [] zz) (hz8 : zz ≤ 8 + t) (hK : 2 ≤ K t ∧ K t ≤ 5) (ha1 : a1.toInt = K t - 2) (hV : hg_V K V) : hpC g d 49 hm_m49 [.ref 21, .int a1] A (fun r A' => ∃ z : Int32, r = some (.int z) ∧ ((z.toInt = 1 ∧ hcOK2 K V S E T A' t) ∨ (z.toInt = 0 ∧ hcF K V S E T A'))) := hpC.all (fun f d => hW49 hT a1 hB hR hz8 hK ha1 hV (fun r A' h => h))
/-! THE REFERENCE'S READER against the automaton -/
def hmK (y x : Int) : Prop := (0 ≤ x ∧ x ≤ 19 ∧ y = x + 20) ∨ (x = 22 ∧ y = 0) ∨ (x = 20 ∧ y = 1) ∨ (x = 21 ∧ y = 2) ∨ (x = 23 ∧ y = 3) ∨ (x = 24 ∧ y = 4) ∨ (x = 25 ∧ y = 5) ∨ (x = 31 ∧ y = 6) ∨ (x = 32 ∧ y = 7) ∨ (x = 26 ∧ y = 8) ∨ (x = 27 ∧ y = 9) ∨ (x = 28 ∧ y = 10) ∨ (x = 29 ∧ y = 15) ∨ (x = 30 ∧ y = 13)
def hmT (K V S : Nat → Int) (A : hs_A) : Prop := ∀ j : Nat, j ≤ 400 → hq_pre K j → hmK (A.2.1 370 j).toInt (K j) ∧ (A.2.1 371 j).toInt = S j ∧ (K j = 21 → (A.2.1 372 j).toInt = V j)
def hmE (K : Nat → Int) (E : Nat → Nat → Bool) (A : hs_A) : Prop := (∀ u t : Nat, u ≤ 400 → t ≤ 400 → hq_pre K u → hq_pre K t → K u = 20 → K t = 20 → (A.2.2.1 373 u = A.2.2.1 373 t ↔ E u t = true)) ∧ hcU A
def hmB (K V S : Nat → Int) (E : Nat → Nat → Bool) (A : hs_A) (t : Nat) (s : hq_S) : Prop := (hmT K V S A ∧ hmE K E A) ∧ (A.1 367 11).toInt = (t : Int) ∧ hq_q K V E t = some s ∧ (A.1 367 13).toInt = 0
def hmN (A : hs_A) : List Nat → Prop
  | [] => True
  | u :: r => A.2.2.1 375 r.length = A.2.2.1 373 u ∧ hmN A r
def hmL (S : Nat → Int) (x y : Int) (b : Nat) : Option (Nat × Nat) → Prop
  | none => x = 0
  | some c => x = c.1 ∧ y = S c.2 ∧ 0 < c.1 ∧ c.2 < b
def hmR (S : Nat → Int) (A : hs_A) (b : Nat) (ns : List Nat) (sn : Nat) (o : Option (Nat × Nat)) (sd od : Nat) : Prop := (A.1 367 19).toInt = (sd : Int) ∧ sd ≤ 1 ∧ (A.1 367 12).toInt = (od : Int) ∧ (A.2.1 376 sd).toInt = (ns.length : Int) ∧ (A.2.1 379 sd).toInt = (sn : Int) ∧ (A.1 367 20).toInt = (ns.length : Int) ∧ hmN A ns ∧ hmL S (A.1 367 15).toInt (A.1 367 16).toInt b o
def hmF (K V S : Nat → Int) (E : Nat → Nat → Bool) (A : hs_A) : Prop := hcU A ∧ ∃ t k : Nat, hq_f K V E t k ∧ k ≠ 0 ∧ (A.1 367 13).toInt = (k : Int) ∧ (A.1 367 14).toInt = S t
/-- what may change beside -/
def hmW (A A' : hs_A) : Prop := (∀ k, 11 ≤ k → k ≤ 20 → A'.1 367 k = A.1 367 k) ∧ (∀ i, (370 ≤ i ∧ i ≤ 372 ∨ i = 376 ∨ i = 379) → A'.2.1 i = A.2.1 i) ∧ A'.2.2 = A.2.2
/-- the places grow -/
def hmS (K S : Nat → Int) : Prop := ∀ u t : Nat, u < t → t ≤ 400 → hq_pre K t → S u < S t
section HMP
variable {K V S : Nat → Int} {E : Nat → Nat → Bool} {A A' : hs_A} {s s' : hq_S} {ns : List Nat} {sn sd od b : Nat} {o : Option (Nat × Nat)} {t : Nat}
theorem hmN.fr (e3 : A'.2.2.1 373 = A.2.2.1 373) (e5 : A'.2.2.1 375 = A.2.2.1 375) : ∀ {ns : List Nat}, hmN A ns → hmN A' ns
  | [], _ => trivial
  | u :: r, h => ⟨by rw [e3, e5]; exact h.1, hmN.fr e3 e5 h.2⟩
theorem hmB.fr (h : hmB K V S E A t s) (e1 : A'.1 367 11 = A.1 367 11) (e2 : A'.1 367 13 = A.1 367 13) (e3 : A'.2.1 370 = A.2.1 370) (e4 : A'.2.1 371 = A.2.1 371) (e5 : A'.2.1 372 = A.2.1 372) (e6 : A'.2.2.1 373 = A.2.2.1 373) (e7 : A'.2.2.1 374 = A.2.2.1 374) : hmB K V S E A' t s := by
  obtain ⟨⟨a, b⟩, c, d, e⟩ := h
  refine ⟨⟨fun j h1 h2 => ?_, fun u t h1 h2 h3 h4 h5 h6 => ?_, b.2.fr e7⟩, by rw [e1]; exact c, d, by rw [e2]; exact e⟩
  · rw [e3, e4, e5]
    exact a j h1 h2
  · rw [e6]
    exact b.1 u t h1 h2 h3 h4 h5 h6
theorem hmR.fr (h : hmR S A b ns sn o sd od) (e1 : A'.1 367 19 = A.1 367 19) (e2 : A'.1 367 12 = A.1 367 12) (e3 : A'.2.1 376 = A.2.1 376) (e4 : A'.2.1 379 = A.2.1 379) (e5 : A'.1 367 20 = A.1 367 20) (e6 : A'.2.2.1 373 = A.2.2.1 373) (e7 : A'.2.2.1 375 = A.2.2.1 375) (e8 : A'.1 367 15 = A.1 367 15) (e9 : A'.1 367 16 = A.1 367 16) : hmR S A' b ns sn o sd od := by
  obtain ⟨a, a', b, c, d, e, f, g⟩ := h
  exact ⟨by rw [e1]; exact a, a', by rw [e2]; exact b, by rw [e3]; exact c, by rw [e4]; exact d, by rw [e5]; exact e, f.fr e6 e7, by rw [e8, e9]; exact g⟩
theorem hmR.mono {b' : Nat} (h : hmR S A b ns sn o sd od) (hb : b ≤ b') : hmR S A b' ns sn o sd od := by
  obtain ⟨a, a', b, c, d, e, f, g⟩ := h
  refine ⟨a, a', b, c, d, e, f, ?_⟩
  cases o with
  | none => exact g
  | some q => exact ⟨g.1, g.2.1, g.2.2.1, Nat.lt_of_lt_of_le g.2.2.2 hb⟩
theorem hmB.at (h : hmB K V S E A t s) : t ≤ 400 ∧ hq_pre K t ∧ (A.1 367 11).toNatClampNeg = t ∧ hmK (A.2.1 370 t).toInt (K t) ∧ (A.2.1 371 t).toInt = S t ∧ (K t = 21 → (A.2.1 372 t).toInt = V t) := by
  obtain ⟨⟨a, b⟩, c, d, e⟩ := h
  have hl := hq_le K V E d
  have hp := (hq_q_inv d).2
  obtain ⟨h1, h2, h3⟩ := a _ hl hp
  have := hn_cn (j := A.1 367 11) (by omega)
  exact ⟨hl, hp, by omega, h1, h2, h3⟩
theorem hmB.up {k : Nat} {x : Int32} (h : hmB K V S E A t s) (e : A'.1 = hs_up A.1 367 k x) (f : A'.2 = A.2) (h1 : ¬ k = 11) (h2 : ¬ k = 13) : hmB K V S E A' t s := h.fr (by rw [e, hup2 (fun q => h1 q.2.symm)]) (by rw [e, hup2 (fun q => h2 q.2.symm)]) (by rw [f]) (by rw [f]) (by rw [f]) (by rw [f]) (by rw [f])
theorem hmR.up {k : Nat} {x : Int32} (h : hmR S A b ns sn o sd od) (e : A'.1 = hs_up A.1 367 k x) (f : A'.2 = A.2) (h1 : ¬ (k = 12 ∨ k = 15 ∨ k = 16 ∨ k = 19 ∨ k = 20)) : hmR S A' b ns sn o sd od := h.fr (by rw [e, hup2 (fun q => h1 (by omega))]) (by rw [e, hup2 (fun q => h1 (by omega))]) (by rw [f]) (by rw [f]) (by rw [e, hup2 (fun q => h1 (by omega))]) (by rw [f]) (by rw [f]) (by rw [e, hup2 (fun q => h1 (by omega))]) (by rw [e, hup2 (fun q => h1 (by omega))])
theorem hmR.opn {x : Int32} {od' : Nat} (h : hmR S A b ns sn o sd od) (e : A'.1 = hs_up A.1 367 12 x) (f : A'.2 = A.2) (hx : x.toInt = (od' : Int)) : hmR S A' b ns sn o sd od' := by
  obtain ⟨a, a', b, c, d, g, n, l⟩ := h
  exact ⟨by rw [e, hup2 (by omega)]; exact a, a', by rw [e, hup1]; exact hx, by rw [f]; exact c, by rw [f]; exact d, by rw [e, hup2 (by omega)]; exact g, n.fr (by rw [f]) (by rw [f]), by rw [e, hup2 (by omega), hup2 (by omega)]; exact l⟩
theorem hmB.ar {i j : Nat} {x : Int32} (h : hmB K V S E A t s) (e : A'.1 = A.1) (f : A'.2.1 = hs_up A.2.1 i j x) (g : A'.2.2 = A.2.2) (hi : 373 ≤ i) : hmB K V S E A' t s := h.fr (by rw [e]) (by rw [e]) (by rw [f]; funext b; exact hup2 (fun q => by omega)) (by rw [f]; funext b; exact hup2 (fun q => by omega)) (by rw [f]; funext b; exact hup2 (fun q => by omega)) (by rw [g]) (by rw [g])
theorem hmR.ar {i j : Nat} {x : Int32} (h : hmR S A b ns sn o sd od) (e : A'.1 = A.1) (f : A'.2.1 = hs_up A.2.1 i j x) (g : A'.2.2 = A.2.2) (hi : ¬ (i = 376 ∨ i = 379)) : hmR S A' b ns sn o sd od := h.fr (by rw [e]) (by rw [e]) (by rw [f]; funext b; exact hup2 (fun q => by omega)) (by rw [f]; funext b; exact hup2 (fun q => by omega)) (by rw [e]) (by rw [g]) (by rw [g]) (by rw [e]) (by rw [e])
theorem hmF.ar (h : hmF K V S E A) (e : A'.1 = A.1) (e7 : A'.2.2 = A.2.2) : hmF K V S E A' := by
  obtain ⟨u, t, k, a, b, c, d⟩ := h
  exact ⟨u.fr (by rw [e7]), t, k, a, b, by rw [e]; exact c, by rw [e]; exact d⟩
theorem hmF.up {k : Nat} {x : Int32} (h : hmF K V S E A) (e : A'.1 = hs_up A.1 367 k x) (e7 : A'.2 = A.2) (h1 : ¬ (k = 13 ∨ k = 14)) : hmF K V S E A' := by
  obtain ⟨u, t, k, a, b, c, d⟩ := h
  exact ⟨u.fr (by rw [e7]), t, k, a, b, by rw [e, hup2 (fun q => h1 (by omega))]; exact c, by rw [e, hup2 (fun q => h1 (by omega))]; exact d⟩
theorem hmF.pos (h : hmF K V S E A) : 0 < (A.1 367 13).toInt := by
  obtain ⟨u, t, k, a, b, c, d⟩ := h
  omega
theorem hmB.W (h : hmB K V S E A t s) (w : hmW A A') : hmB K V S E A' t s := h.fr (w.1 _ (by omega) (by omega)) (w.1 _ (by omega) (by omega)) (w.2.1 _ (by omega)) (w.2.1 _ (by omega)) (w.2.1 _ (by omega)) (by rw [w.2.2]) (by rw [w.2.2])
theorem hmR.W (h : hmR S A b ns sn o sd od) (w : hmW A A') : hmR S A' b ns sn o sd od := h.fr (w.1 _ (by omega) (by omega)) (w.1 _ (by omega) (by omega)) (w.2.1 _ (by omega)) (w.2.1 _ (by omega)) (w.1 _ (by omega) (by omega)) (by rw [w.2.2]) (by rw [w.2.2]) (w.1 _ (by omega) (by omega)) (w.1 _ (by omega) (by omega))
theorem hmF.W (h : hmF K V S E A) (w : hmW A A') : hmF K V S E A' := by
  obtain ⟨u, t, k, a, b, c, d⟩ := h
  exact ⟨u.fr (by rw [w.2.2]), t, k, a, b, by rw [w.1 13 (by omega) (by omega)]; exact c, by rw [w.1 14 (by omega) (by omega)]; exact d⟩
theorem hmW.rfl : hmW A A := ⟨fun _ _ _ => Eq.refl _, fun _ _ => Eq.refl _, Eq.refl _⟩
theorem hmW.trans {A1 : hs_A} (h : hmW A A1) (h' : hmW A1 A') : hmW A A' := ⟨fun k a b => (h'.1 k a b).trans (h.1 k a b), fun i a => (h'.2.1 i a).trans (h.2.1 i a), h'.2.2.trans h.2.2⟩
theorem hmW.f {A1 : hs_A} {k : Nat} {x : Int32} (h : hmW A A1) (e : A'.1 = hs_up A1.1 367 k x) (f : A'.2 = A1.2) (hk : 20 < k) : hmW A A' := ⟨fun k a b => by rw [e, hup2 (by omega)]; exact h.1 k a b, fun i a => by rw [f]; exact h.2.1 i a, by rw [f]; exact h.2.2⟩
theorem hmW.a {A1 : hs_A} {i0 k : Nat} {x : Int32} (h : hmW A A1) (e : A'.1 = A1.1) (f : A'.2.1 = hs_up A1.2.1 i0 k x) (g : A'.2.2 = A1.2.2) (hi0 : 380 ≤ i0) : hmW A A' := ⟨fun k a b => by rw [e]; exact h.1 k a b, fun i a => by
  rw [f, ← h.2.1 i a]
  funext j
  exact hup2 (fun q => by omega), by rw [g]; exact h.2.2⟩
theorem hmB.step {x : Int32} (h : hmB K V S E A t s) (hd : hq_dl K V E t s = .inl s') (e : A'.1 = hs_up A.1 367 11 x) (f : A'.2 = A.2) (hx : x.toInt = (t : Int) + 1) : hmB K V S E A' (t + 1) s' := by
  obtain ⟨⟨a, b⟩, c, d, g⟩ := h
  refine ⟨⟨fun j h1 h2 => ?_, fun u t h1 h2 h3 h4 h5 h6 => ?_, b.2.fr (by rw [f])⟩, by rw [e, hup1]; omega, hq_next K V E d hd, by rw [e, hup2 (by omega)]; exact g⟩
  · rw [f]
    exact a j h1 h2
  · rw [f]
    exact b.1 u t h1 h2 h3 h4 h5 h6
/-- wrong: the first of them stays -/
theorem hmR.bad {x y : Int32} {A1 : hs_A} {c : Nat} {o1 : Option (Nat × Nat)} (h : hmR S A (t + 1) ns sn o1 sd od) (e : A1.1 = hs_up A.1 367 15 x) (f : A1.2 = A.2) (e' : A'.1 = hs_up A1.1 367 16 y) (f' : A'.2 = A1.2) (hx : x.toInt = (c : Int)) (hy : y.toInt = S t) (hc : 0 < c) (ho : o1 = none) : hmR S A' (t + 1) ns sn (some (c, t)) sd od := by
  obtain ⟨a, a', b, c', d, g, n, l⟩ := h
  have ef : A'.2 = A.2 := f'.trans f
  refine ⟨by rw [e', hup2 (by omega), e, hup2 (by omega)]; exact a, a', by rw [e', hup2 (by omega), e, hup2 (by omega)]; exact b, by rw [ef]; exact c', by rw [ef]; exact d, by rw [e', hup2 (by omega), e, hup2 (by omega)]; exact g, n.fr (by rw [ef]) (by rw [ef]), ?_, ?_, hc, Nat.lt_succ_self t⟩
  · rw [e', hup2 (by omega), e, hup1]; exact hx
  · rw [e', hup1]; exact hy
theorem hmN.more {j : Nat} {x : Int64} : ∀ {ns : List Nat}, (g : A'.2.2.1 = hs_upL A.2.2.1 375 j x) → ns.length ≤ j → hmN A ns → hmN A' ns
  | [], _, _, _ => trivial
  | u :: r, g, hj, h => by
    have hl : (u :: r).length = r.length + 1 := Eq.refl _
    refine ⟨?_, hmN.more g (by omega) h.2⟩
    rw [g]
    show (if 375 = 375 then (if r.length = j then x else A.2.2.1 375 r.length) else A.2.2.1 375 r.length) = (if 373 = 375 then (if u = j then x else A.2.2.1 373 u) else A.2.2.1 373 u)
    rw [if_pos (Eq.refl 375), if_neg (by omega), if_neg (by omega)]
    exact h.1
theorem hmL373 {j : Nat} {x : Int64} (g : A'.2.2.1 = hs_upL A.2.2.1 375 j x) : A'.2.2.1 373 = A.2.2.1 373 := by
  rw [g]
  funext u
  show (if 373 = 375 then (if u = j then x else A.2.2.1 373 u) else A.2.2.1 373 u) = _
  rw [if_neg (by omega)]
theorem hmN.at : ∀ {ns : List Nat} {i : Nat}, hmN A ns → i < ns.length → ∃ u, u ∈ ns ∧ ns.drop (ns.length - (i + 1)) = u :: ns.drop (ns.length - i) ∧ A.2.2.1 375 i = A.2.2.1 373 u
  | [], i, _, hi => absurd hi (Nat.not_lt_zero i)
  | u :: r, i, h, hi => by
    have hl : (u :: r).length = r.length + 1 := Eq.refl _
    by_cases q : i = r.length
    · subst q
      refine ⟨u, List.mem_cons_self, ?_, h.1⟩
      rw [hl, show r.length + 1 - (r.length + 1) = 0 by omega, show r.length + 1 - r.length = 1 by omega]
      exact Eq.refl _
    · obtain ⟨v, h1, h2, h3⟩ := hmN.at h.2 (i := i) (by omega)
      refine ⟨v, List.mem_cons_of_mem _ h1, ?_, h3⟩
      rw [hl, show r.length + 1 - (i + 1) = (r.length - (i + 1)) + 1 by omega, show r.length + 1 - i = (r.length - i) + 1 by omega, List.drop_succ_cons, List.drop_succ_cons]
      exact h2
/-- a house more: its name, the names' number, the houses' number -/
theorem hmR.house {u j : Nat} {x : Int64} {y z : Int32} {A1 A2 : hs_A} (h : hmR S A b ns sn o sd od) (e1 : A1.1 = A.1) (f1 : A1.2.1 = A.2.1) (g1 : A1.2.2.1 = hs_upL A.2.2.1 375 j x) (hj : ns.length = j) (hx : A.2.2.1 373 u = x) (e2 : A2.1 = hs_up A1.1 367 20 y) (f2 : A2.2 = A1.2) (hy : y.toInt = (ns.length : Int) + 1) (e3 : A'.1 = A2.1) (f3 : A'.2.1 = hs_up A2.2.1 376 sd z) (g3 : A'.2.2 = A2.2.2) (hz : z.toInt = (ns.length : Int) + 1) : hmR S A' b (u :: ns) sn o sd od := by
  obtain ⟨a, a', b, c', d, g, n, l⟩ := h
  have hl : (((u :: ns).length : Nat) : Int) = (ns.length : Int) + 1 := by
    show ((ns.length + 1 : Nat) : Int) = _
    omega
  have g' : A'.2.2.1 = hs_upL A.2.2.1 375 j x := by rw [g3, f2, g1]
  refine ⟨by rw [e3, e2, hup2 (by omega), e1]; exact a, a', by rw [e3, e2, hup2 (by omega), e1]; exact b, by rw [f3, hup1, hl]; exact hz, by rw [f3, hup2 (by omega), f2, f1]; exact d, by rw [e3, e2, hup1, hl]; exact hy, ⟨?_, n.more g' (by omega)⟩, by rw [e3, e2, hup2 (by omega), hup2 (by omega), e1]; exact l⟩
  rw [hmL373 g', g', hx, hj]
  show (if 375 = 375 then (if j = j then x else A.2.2.1 375 j) else A.2.2.1 375 j) = _
  rw [if_pos (Eq.refl 375), if_pos (Eq.refl j)]
theorem hmB.house {j : Nat} {x : Int64} {y z : Int32} {A1 A2 : hs_A} (h : hmB K V S E A t s) (e1 : A1.1 = A.1) (f1 : A1.2.1 = A.2.1) (g1 : A1.2.2.1 = hs_upL A.2.2.1 375 j x) (e2 : A2.1 = hs_up A1.1 367 20 y) (f2 : A2.2 = A1.2) (e3 : A'.1 = A2.1) (f3 : A'.2.1 = hs_up A2.2.1 376 sd z) (g3 : A'.2.2 = A2.2.2) : hmB K V S E A' t s := by
  have g' : A'.2.2.1 = hs_upL A.2.2.1 375 j x := by rw [g3, f2, g1]
  refine h.fr (by rw [e3, e2, hup2 (by omega), e1]) (by rw [e3, e2, hup2 (by omega), e1]) ?_ ?_ ?_ (hmL373 g') (by
    rw [g']
    funext u
    show (if 374 = 375 then (if u = j then x else A.2.2.1 374 u) else A.2.2.1 374 u) = _
    rw [if_neg (by omega)])
  all_goals
    rw [f3, f2, f1]
    funext q
    exact hup2 (fun w => by omega)
theorem hmR.send {z : Int32} (h : hmR S A b ns sn o sd od) (e3 : A'.1 = A.1) (f3 : A'.2.1 = hs_up A.2.1 379 sd z) (g3 : A'.2.2 = A.2.2) (hz : z.toInt = (sn : Int) + 1) : hmR S A' b ns (sn + 1) o sd od := by
  obtain ⟨a, a', b, c', d, g, n, l⟩ := h
  exact ⟨by rw [e3]; exact a, a', by rw [e3]; exact b, by rw [f3, hup2 (by omega)]; exact c', by rw [f3, hup1]; omega, by rw [e3]; exact g, n.fr (by rw [g3]) (by rw [g3]), by rw [e3]; exact l⟩
theorem hmB.i0 {a : Int32} (h : hmB K V S E A t s) (ha : a.toInt = 0) : (A.2.1 370 t).toInt = a.toInt ↔ K t = 22 := by
  have q := h.at.2.2.2.1
  unfold hmK at q
  omega
theorem hmB.i1 {a : Int32} (h : hmB K V S E A t s) (ha : a.toInt = 1) : (A.2.1 370 t).toInt = a.toInt ↔ K t = 20 := by
  have q := h.at.2.2.2.1
  unfold hmK at q
  omega
theorem hmB.i2 {a : Int32} (h : hmB K V S E A t s) (ha : a.toInt = 2) : (A.2.1 370 t).toInt = a.toInt ↔ K t = 21 := by
  have q := h.at.2.2.2.1
  unfold hmK at q
  omega
theorem hmB.i3 {a : Int32} (h : hmB K V S E A t s) (ha : a.toInt = 3) : (A.2.1 370 t).toInt = a.toInt ↔ K t = 23 := by
  have q := h.at.2.2.2.1
  unfold hmK at q
  omega
theorem hmB.i4 {a : Int32} (h : hmB K V S E A t s) (ha : a.toInt = 4) : (A.2.1 370 t).toInt = a.toInt ↔ K t = 24 := by
  have q := h.at.2.2.2.1
  unfold hmK at q
  omega
theorem hmB.i5 {a : Int32} (h : hmB K V S E A t s) (ha : a.toInt = 5) : (A.2.1 370 t).toInt = a.toInt ↔ K t = 25 := by
  have q := h.at.2.2.2.1
  unfold hmK at q
  omega
theorem hmB.i6 {a : Int32} (h : hmB K V S E A t s) (ha : a.toInt = 6) : (A.2.1 370 t).toInt = a.toInt ↔ K t = 31 := by
  have q := h.at.2.2.2.1
  unfold hmK at q
  omega
theorem hmB.i7 {a : Int32} (h : hmB K V S E A t s) (ha : a.toInt = 7) : (A.2.1 370 t).toInt = a.toInt ↔ K t = 32 := by
  have q := h.at.2.2.2.1
  unfold hmK at q
  omega
theorem hmB.i8 {a : Int32} (h : hmB K V S E A t s) (ha : a.toInt = 8) : (A.2.1 370 t).toInt = a.toInt ↔ K t = 26 := by
  have q := h.at.2.2.2.1
  unfold hmK at q
  omega
theorem hmB.i9 {a : Int32} (h : hmB K V S E A t s) (ha : a.toInt = 9) : (A.2.1 370 t).toInt = a.toInt ↔ K t = 27 := by
  have q := h.at.2.2.2.1
  unfold hmK at q
  omega
theorem hmB.i10 {a : Int32} (h : hmB K V S E A t s) (ha : a.toInt = 10) : (A.2.1 370 t).toInt = a.toInt ↔ K t = 28 := by
  have q := h.at.2.2.2.1
  unfold hmK at q
  omega
theorem hmB.i15 {a : Int32} (h : hmB K V S E A t s) (ha : a.toInt = 15) : (A.2.1 370 t).toInt = a.toInt ↔ K t = 29 := by
  have q := h.at.2.2.2.1
  unfold hmK at q
  omega
theorem hmB.i13 {a : Int32} (h : hmB K V S E A t s) (ha : a.toInt = 13) : (A.2.1 370 t).toInt = a.toInt ↔ K t = 30 := by
  have q := h.at.2.2.2.1
  unfold hmK at q
  omega
theorem hmB.i26 {a : Int32} (h : hmB K V S E A t s) (ha : a.toInt = 26) : (A.2.1 370 t).toInt = a.toInt ↔ K t = 6 := by
  have q := h.at.2.2.2.1
  unfold hmK at q
  omega
theorem hmB.i27 {a : Int32} (h : hmB K V S E A t s) (ha : a.toInt = 27) : (A.2.1 370 t).toInt = a.toInt ↔ K t = 7 := by
  have q := h.at.2.2.2.1
  unfold hmK at q
  omega
theorem hmB.i28 {a : Int32} (h : hmB K V S E A t s) (ha : a.toInt = 28) : (A.2.1 370 t).toInt = a.toInt ↔ K t = 8 := by
  have q := h.at.2.2.2.1
  unfold hmK at q
  omega
theorem hmB.i29 {a : Int32} (h : hmB K V S E A t s) (ha : a.toInt = 29) : (A.2.1 370 t).toInt = a.toInt ↔ K t = 9 := by
  have q := h.at.2.2.2.1
  unfold hmK at q
  omega
theorem hmB.i30 {a : Int32} (h : hmB K V S E A t s) (ha : a.toInt = 30) : (A.2.1 370 t).toInt = a.toInt ↔ K t = 10 := by
  have q := h.at.2.2.2.1
  unfold hmK at q
  omega
/-- behind a statement -/
def hmOK (K V S : Nat → Int) (E : Nat → Nat → Bool) (A : hs_A) (t sd : Nat) : Prop := ∃ (t' a b c : Nat) (ns : List Nat) (nm sn : Nat) (o : Option (Nat × Nat)), t < t' ∧ hmB K V S E A t' (0, a, b, c, ns, nm, sn, o) ∧ hmR S A t' ns sn o sd 0
end HMP
/-! WHAT THE REFERENCE'S READING HAS TOLD: codes and branches -/
def hmQ (A A' : hs_A) : Prop := (∀ k, k ≤ 10 ∨ 17 ≤ k → A'.1 367 k = A.1 367 k) ∧ A'.2 = A.2
def hm_seg (a b : Nat → Int32) : Nat → hg_C → Prop
  | _, [] => True
  | s, x :: r => (a s).toInt = (x.1 : Int) ∧ (b s).toInt = x.2 ∧ hm_seg a b (s + 1) r
def hm_ws (a : Nat → Int32) : List Nat → Prop
  | [] => True
  | x :: r => (hmK (a r.length).toInt (x : Int) ∧ (x = 31 ∨ 26 ≤ x ∧ x ≤ 29)) ∧ hm_ws a r
/-- an expression under way: its codes stand from z0 on, the pile waits -/
def hmX (A : hs_A) (z0 : Nat) (o : hg_C) (w : List Nat) : Prop := (A.1 367 37).toInt = ((z0 + o.length : Nat) : Int) ∧ hm_seg (A.2.1 390) (A.2.1 391) z0 o ∧ (A.1 367 41).toInt = (w.length : Int) ∧ hm_ws (A.2.1 392) w
/-- what an expression leaves alone -/
def hmFr (z : Nat) (A A' : hs_A) : Prop := (∀ i, 373 ≤ i → i ≤ 389 → A'.2.1 i = A.2.1 i) ∧ (∀ j, j < z → A'.2.1 390 j = A.2.1 390 j ∧ A'.2.1 391 j = A.2.1 391 j) ∧ A'.1 367 31 = A.1 367 31
/-- one step more -/
def hmE1 (A A' : hs_A) (z k : Nat) (v : Int) : Prop := ∃ x1 x2 y : Int32, A'.1 = hs_up A.1 367 37 y ∧ y.toInt = (z : Int) + 1 ∧ A'.2.1 = hs_up (hs_up A.2.1 390 z x1) 391 z x2 ∧ A'.2.2 = A.2.2 ∧ x1.toInt = (k : Int) ∧ x2.toInt = v
/-- how many brackets are open -/
def hg_ct : List Nat → Nat
  | [] => 0
  | x :: w => if x = 31 then hg_ct w + 1 else hg_ct w
section HMX
variable {A A1 A2 A' : hs_A} {z z0 k n : Nat} {v : Int} {o o1 : hg_C} {w w1 : List Nat} {x : Nat} {st : Bool}
theorem hmQ.rfl : hmQ A A := ⟨fun _ _ => Eq.refl _, Eq.refl _⟩
theorem hmQ.trans (h : hmQ A A1) (h' : hmQ A1 A') : hmQ A A' := ⟨fun k hk => (h'.1 k hk).trans (h.1 k hk), h'.2.trans h.2⟩
theorem hmQ.f {q : Nat} {y : Int32} (h : hmQ A A1) (e : A'.1 = hs_up A1.1 367 q y) (f : A'.2 = A1.2) (hq : 11 ≤ q ∧ q ≤ 16) : hmQ A A' := ⟨fun k hk => by rw [e, hup2 (by omega)]; exact h.1 k hk, f.trans h.2⟩
theorem hm_seg_app {a b : Nat → Int32} : ∀ (l r : hg_C) (s : Nat), hm_seg a b s (l ++ r) ↔ hm_seg a b s l ∧ hm_seg a b (s + l.length) r
  | [], r, s => ⟨fun h => ⟨trivial, h⟩, fun h => h.2⟩
  | x :: l, r, s => by
    show ((a s).toInt = (x.1 : Int) ∧ (b s).toInt = x.2 ∧ hm_seg a b (s + 1) (l ++ r)) ↔ ((a s).toInt = (x.1 : Int) ∧ (b s).toInt = x.2 ∧ hm_seg a b (s + 1) l) ∧ hm_seg a b (s + (l.length + 1)) r
    rw [hm_seg_app l r (s + 1), show s + 1 + l.length = s + (l.length + 1) by omega]
    exact ⟨fun h => ⟨⟨h.1, h.2.1, h.2.2.1⟩, h.2.2.2⟩, fun h => ⟨h.1.1, h.1.2.1, h.1.2.2, h.2⟩⟩
theorem hm_seg.mv {a b a' b' : Nat → Int32} : ∀ {l : hg_C} {s : Nat}, hm_seg a b s l → (∀ i, s ≤ i → i < s + l.length → a' i = a i ∧ b' i = b i) → hm_seg a' b' s l
  | [], _, _, _ => trivial
  | x :: l, s, h, e => by
    have hl : (x :: l).length = l.length + 1 := Eq.refl _
    have q := e s (Nat.le_refl s) (by omega)
    exact ⟨by rw [q.1]; exact h.1, by rw [q.2]; exact h.2.1, hm_seg.mv h.2.2 (fun i h1 h2 => e i (by omega) (by omega))⟩
theorem hm_ws.mv {a a' : Nat → Int32} : ∀ {w : List Nat}, hm_ws a w → (∀ i, i < w.length → a' i = a i) → hm_ws a' w
  | [], _, _ => trivial
  | x :: w, h, e => by
    have hl : (x :: w).length = w.length + 1 := Eq.refl _
    exact ⟨by rw [e w.length (by omega)]; exact h.1, hm_ws.mv h.2 (fun i hi => e i (by omega))⟩
theorem hmX.mv (h : hmX A z0 o w) (e1 : A'.1 367 37 = A.1 367 37) (e2 : A'.1 367 41 = A.1 367 41) (f : ∀ i, 390 ≤ i → i ≤ 392 → A'.2.1 i = A.2.1 i) : hmX A' z0 o w := by
  obtain ⟨a, b, c, d⟩ := h
  exact ⟨by rw [e1]; exact a, by rw [f 390 (by omega) (by omega), f 391 (by omega) (by omega)]; exact b, by rw [e2]; exact c, by rw [f 392 (by omega) (by omega)]; exact d⟩
theorem hmX.Q (h : hmX A z0 o w) (q : hmQ A A') : hmX A' z0 o w := h.mv (q.1 37 (by omega)) (q.1 41 (by omega)) (fun i _ _ => by rw [q.2])
theorem hmX.up {q : Nat} {y : Int32} (h : hmX A z0 o w) (e : A'.1 = hs_up A.1 367 q y) (f : A'.2 = A.2) (hq : ¬ q = 37 ∧ ¬ q = 41) : hmX A' z0 o w := h.mv (by rw [e, hup2 (by omega)]) (by rw [e, hup2 (by omega)]) (fun i _ _ => by rw [f])
theorem hmX.ar {i j : Nat} {y : Int32} (h : hmX A z0 o w) (e : A'.1 = A.1) (f : A'.2.1 = hs_up A.2.1 i j y) (hi : i ≤ 389) : hmX A' z0 o w := h.mv (by rw [e]) (by rw [e]) (fun a _ _ => by rw [f]; funext b; exact hup2 (by omega))
theorem hmFr.rfl : hmFr z A A := ⟨fun _ _ _ => Eq.refl _, fun _ _ => ⟨Eq.refl _, Eq.refl _⟩, Eq.refl _⟩
theorem hmFr.trans (h : hmFr z A A1) (h' : hmFr z A1 A') : hmFr z A A' := ⟨fun i a b => (h'.1 i a b).trans (h.1 i a b), fun j hj => ⟨(h'.2.1 j hj).1.trans (h.2.1 j hj).1, (h'.2.1 j hj).2.trans (h.2.1 j hj).2⟩, h'.2.2.trans h.2.2⟩
theorem hmFr.Q (h : hmFr z A A1) (q : hmQ A1 A') : hmFr z A A' := h.trans ⟨fun i _ _ => by rw [q.2], fun j _ => by rw [q.2]; exact ⟨Eq.refl _, Eq.refl _⟩, q.1 31 (by omega)⟩
theorem hmFr.up {q : Nat} {y : Int32} (h : hmFr z A A1) (e : A'.1 = hs_up A1.1 367 q y) (f : A'.2 = A1.2) (hq : ¬ q = 31) : hmFr z A A' := h.trans ⟨fun i _ _ => by rw [f], fun j _ => by rw [f]; exact ⟨Eq.refl _, Eq.refl _⟩, by rw [e, hup2 (by omega)]⟩
theorem hmFr.wt {j : Nat} {y : Int32} (h : hmFr z A A1) (e : A'.1 = A1.1) (f : A'.2.1 = hs_up A1.2.1 392 j y) : hmFr z A A' := h.trans ⟨fun i _ _ => by rw [f]; funext b; exact hup2 (by omega), fun i _ => by rw [f, hup2 (by omega), hup2 (by omega)]; exact ⟨Eq.refl _, Eq.refl _⟩, by rw [e]⟩
theorem hmE1.fr (h : hmE1 A A' z k v) (hz : z0 ≤ z) : hmFr z0 A A' := by
  obtain ⟨x1, x2, y, e, -, f, -, -, -⟩ := h
  exact ⟨fun i _ _ => by rw [f]; funext b; rw [hup2 (by omega), hup2 (by omega)], fun j hj => by rw [f, hup2 (by omega), hup2 (by omega), hup2 (by omega), hup2 (by omega)]; exact ⟨Eq.refl _, Eq.refl _⟩, by rw [e, hup2 (by omega)]⟩
theorem hmE1.W (h : hmE1 A A' z k v) : hmW A A' := by
  obtain ⟨x1, x2, y, e, -, f, g, -, -⟩ := h
  exact ⟨fun k _ _ => by rw [e, hup2 (by omega)], fun i hi => by rw [f]; funext b; rw [hup2 (by omega), hup2 (by omega)], g⟩
theorem hmX.emit (h : hmX A z0 o w) (E : hmE1 A A' (z0 + o.length) k v) : hmX A' z0 (o ++ [(k, v)]) w := by
  obtain ⟨a, b, c, d⟩ := h
  obtain ⟨x1, x2, y, e, hy, f, -, g1, g2⟩ := E
  have f0 : ∀ j, ¬ j = z0 + o.length → A'.2.1 390 j = A.2.1 390 j := fun j hj => by rw [f, hup2 (by omega), hup2 (by omega)]
  have f1 : ∀ j, ¬ j = z0 + o.length → A'.2.1 391 j = A.2.1 391 j := fun j hj => by rw [f, hup2 (by omega), hup2 (by omega)]
  refine ⟨by rw [e, hup1, hg_ln]; omega, (hm_seg_app o [(k, v)] z0).mpr ⟨b.mv (fun i h1 h2 => ⟨f0 i (by omega), f1 i (by omega)⟩), ?_, ?_, trivial⟩, by rw [e, hup2 (by omega)]; exact c, d.mv (fun i _ => by rw [f, hup2 (by omega), hup2 (by omega)])⟩
  · rw [f, hup2 (by omega), hup1]; exact g1
  · rw [f, hup1]; exact g2
theorem hmX.pop {y : Int32} (h : hmX A z0 o (x :: w)) (e : A'.1 = hs_up A.1 367 41 y) (f : A'.2 = A.2) (hy : y.toInt + 1 = (A.1 367 41).toInt) : hmX A' z0 o w := by
  obtain ⟨a, b, c, d⟩ := h
  have hl : (x :: w).length = w.length + 1 := Eq.refl _
  exact ⟨by rw [e, hup2 (by omega)]; exact a, by rw [f]; exact b, by rw [e, hup1]; omega, by rw [f]; exact d.2⟩
theorem hmX.push {y1 y2 : Int32} {j : Nat} (h : hmX A z0 o w) (hj : j = w.length) (e1 : A1.1 = A.1) (f1 : A1.2.1 = hs_up A.2.1 392 j y1) (e2 : A'.1 = hs_up A1.1 367 41 y2) (f2 : A'.2 = A1.2) (hy : y2.toInt = (w.length : Int) + 1) (hk : hmK y1.toInt (x : Int)) (hx : x = 31 ∨ 26 ≤ x ∧ x ≤ 29) : hmX A' z0 o (x :: w) := by
  obtain ⟨a, b, c, d⟩ := h
  have hl : (x :: w).length = w.length + 1 := Eq.refl _
  have ff : ∀ i q, ¬ (i = 392 ∧ q = j) → A'.2.1 i q = A.2.1 i q := fun i q hq => by rw [f2, f1, hup2 hq]
  refine ⟨by rw [e2, hup2 (by omega), e1]; exact a, b.mv (fun i _ _ => ⟨ff _ _ (by omega), ff _ _ (by omega)⟩), by rw [e2, hup1]; omega, ⟨?_, hx⟩, d.mv (fun i hi => ff _ _ (by omega))⟩
  rw [f2, f1, ← hj, hup1]
  exact hk
theorem hg_fl_pop (h : ¬ (x = 31 ∨ (st = true ∧ x < 28))) : hg_fl st o (x :: w) = hg_fl st (o ++ [(x - 24, 0)]) w := by
  show (if x = 31 ∨ (st = true ∧ x < 28) then _ else _) = _
  rw [if_neg h]
theorem hg_fl_stop (h : x = 31 ∨ (st = true ∧ x < 28)) : hg_fl st o (x :: w) = (o, x :: w) := by
  show (if x = 31 ∨ (st = true ∧ x < 28) then _ else _) = _
  rw [if_pos h]
theorem hg_ct_fl : ∀ (w : List Nat) (o : hg_C), hg_ct (hg_fl false o w).2 = hg_ct w ∧ hg_t0 (hg_fl false o w).2
  | [], o => ⟨Eq.refl _, trivial⟩
  | x :: w, o => by
    by_cases h : x = 31
    · rw [hg_fl_stop (Or.inl h)]
      exact ⟨Eq.refl _, h⟩
    · rw [hg_fl_pop (fun q => by rcases q with q | q; exact h q; exact absurd q.1 (by decide))]
      have := hg_ct_fl w (o ++ [(x - 24, 0)])
      refine ⟨?_, this.2⟩
      rw [this.1]
      show _ = if x = 31 then hg_ct w + 1 else hg_ct w
      rw [if_neg h]
theorem hg_ct0 (e : hg_fl false o w = (o1, w1)) (h : hg_ct w = 0) : w1 = [] := by
  have q := hg_ct_fl w o
  rw [e] at q
  cases w1 with
  | nil => exact Eq.refl _
  | cons x r =>
    have q2 : x = 31 := q.2
    subst q2
    have q1 : hg_ct r + 1 = hg_ct w := q.1
    omega
theorem hg_ctS (e : hg_fl false o w = (o1, w1)) (h : hg_ct w = n + 1) : ∃ r, w1 = 31 :: r ∧ hg_ct r = n := by
  have q := hg_ct_fl w o
  rw [e] at q
  cases w1 with
  | nil =>
    have q1 : 0 = hg_ct w := q.1
    omega
  | cons x r =>
    have q2 : x = 31 := q.2
    subst q2
    have q1 : hg_ct r + 1 = hg_ct w := q.1
    exact ⟨r, Eq.refl _, by omega⟩
theorem hg_ct_fls : ∀ (w : List Nat) (o : hg_C), hg_ct (hg_fl true o w).2 = hg_ct w
  | [], o => Eq.refl _
  | x :: w, o => by
    by_cases h : x = 31 ∨ (true = true ∧ x < 28)
    · rw [hg_fl_stop h]
    · rw [hg_fl_pop h, hg_ct_fls w _]
      show _ = if x = 31 then hg_ct w + 1 else hg_ct w
      rw [if_neg (fun q => h (Or.inl q))]
theorem hg_ct_st (e : hg_fl st o w = (o1, w1)) : hg_ct w1 = hg_ct w := by
  cases st with
  | false => have := (hg_ct_fl w o).1; rw [e] at this; exact this
  | true => have := hg_ct_fls w o; rw [e] at this; exact this
theorem hg_ct_op (h : ¬ x = 31) : hg_ct (x :: w) = hg_ct w := by
  show (if x = 31 then hg_ct w + 1 else hg_ct w) = _
  rw [if_neg h]
end HMX
/-- a branch's marks: b its number -/
def hmB1 (A : hs_A) (z b : Nat) (q : hg_C × hg_C × hg_C) : Prop := ∃ f : Nat, A.2.1 385 b = Int32.ofNat 1 ∧ (A.2.1 386 b).toInt = (f : Int) ∧ (A.2.1 387 b).toInt = ((f + q.1.length : Nat) : Int) ∧ (A.2.1 388 b).toInt = ((f + q.1.length + q.2.1.length : Nat) : Int) ∧ (A.2.1 389 b).toInt = ((f + q.1.length + q.2.1.length + q.2.2.length : Nat) : Int) ∧ f + q.1.length + q.2.1.length + q.2.2.length ≤ z ∧ hm_seg (A.2.1 390) (A.2.1 391) f q.1 ∧ hm_seg (A.2.1 390) (A.2.1 391) (f + q.1.length) q.2.1 ∧ hm_seg (A.2.1 390) (A.2.1 391) (f + q.1.length + q.2.1.length) q.2.2
def hmT1 (A : hs_A) (z b : Nat) (c : hg_C) : Prop := ∃ f : Nat, A.2.1 385 b = Int32.ofNat 0 ∧ (A.2.1 388 b).toInt = (f : Int) ∧ (A.2.1 389 b).toInt = ((f + c.length : Nat) : Int) ∧ f + c.length ≤ z ∧ hm_seg (A.2.1 390) (A.2.1 391) f c
def hmBr (A : hs_A) (z : Nat) : Nat → hg_B → Prop
  | _, [] => True
  | b, q :: r => hmB1 A z b q ∧ hmBr A z (b + 1) r
/-- a law: none told, or its branches from b0 on -/
def hmLw (A : hs_A) (z b b0 b1 k : Nat) (l : hg_L) : Prop := (b0 = b1 ∧ l = ([], [(0, if k = 0 then 1 else 0)])) ∨ (b1 = b0 + l.1.length + 1 ∧ b1 ≤ b ∧ hmBr A z b0 l.1 ∧ hmT1 A z (b0 + l.1.length) l.2)
def hm_hs (V : Nat → Int) (sd : Nat) (A : hs_A) : List Nat → Prop
  | [] => True
  | u :: r => (A.2.1 377 (10 * sd + r.length)).toInt = V (u + 1) ∧ (A.2.1 378 (10 * sd + r.length)).toInt = V (u + 2) ∧ hm_hs V sd A r
/-- all that was told: b branches, z codes -/
def hmM (V : Nat → Int) (A : hs_A) (sd : Nat) (ns : List Nat) (d : hg_D) (b z : Nat) : Prop :=
  (∀ k, k < 4 → ∃ b0 b1 : Nat, (A.2.1 383 (4 * sd + k)).toInt = (b0 : Int) ∧ (A.2.1 384 (4 * sd + k)).toInt = (b1 : Int) ∧ hmLw A z b b0 b1 k (d.2.2.2 k)) ∧
  ((∀ h : Nat, h < 24 → (A.2.1 380 (24 * sd + h)).toInt = d.1 h) ∧ (A.2.1 381 sd).toInt = d.2.1 ∧ (A.2.1 382 sd).toInt = d.2.2.1) ∧ hm_hs V sd A ns
section HMM
variable {V : Nat → Int} {A A1 A' : hs_A} {sd : Nat} {ns : List Nat} {d : hg_D} {b b' z z' : Nat}
theorem hmB1.mv {q : hg_C × hg_C × hg_C} (h : hmB1 A z b q) (hz : z ≤ z') (e : ∀ i, 385 ≤ i → i ≤ 389 → A'.2.1 i b = A.2.1 i b) (f : ∀ j, j < z → A'.2.1 390 j = A.2.1 390 j ∧ A'.2.1 391 j = A.2.1 391 j) : hmB1 A' z' b q := by
  obtain ⟨f0, h1, h2, h3, h4, h5, h6, h7, h8, h9⟩ := h
  exact ⟨f0, by rw [e _ (by omega) (by omega)]; exact h1, by rw [e _ (by omega) (by omega)]; exact h2, by rw [e _ (by omega) (by omega)]; exact h3, by rw [e _ (by omega) (by omega)]; exact h4, by rw [e _ (by omega) (by omega)]; exact h5, by omega, h7.mv (fun i _ _ => f i (by omega)), h8.mv (fun i _ _ => f i (by omega)), h9.mv (fun i _ _ => f i (by omega))⟩
theorem hmT1.mv {c : hg_C} (h : hmT1 A z b c) (hz : z ≤ z') (e : ∀ i, 385 ≤ i → i ≤ 389 → A'.2.1 i b = A.2.1 i b) (f : ∀ j, j < z → A'.2.1 390 j = A.2.1 390 j ∧ A'.2.1 391 j = A.2.1 391 j) : hmT1 A' z' b c := by
  obtain ⟨f0, h1, h2, h3, h4, h5⟩ := h
  exact ⟨f0, by rw [e _ (by omega) (by omega)]; exact h1, by rw [e _ (by omega) (by omega)]; exact h2, by rw [e _ (by omega) (by omega)]; exact h3, by omega, h5.mv (fun i _ _ => f i (by omega))⟩
theorem hmBr.mv (hz : z ≤ z') (f : ∀ j, j < z → A'.2.1 390 j = A.2.1 390 j ∧ A'.2.1 391 j = A.2.1 391 j) : ∀ {l : hg_B} {b : Nat}, hmBr A z b l → (∀ c, b ≤ c → c < b + l.length → ∀ i, 385 ≤ i → i ≤ 389 → A'.2.1 i c = A.2.1 i c) → hmBr A' z' b l
  | [], _, _, _ => trivial
  | q :: r, b, h, e => by
    have hl : (q :: r).length = r.length + 1 := Eq.refl _
    exact ⟨h.1.mv hz (e b (Nat.le_refl b) (by omega)) f, hmBr.mv hz f h.2 (fun c h1 h2 => e c (by omega) (by omega))⟩
theorem hmBr.snoc : ∀ {l : hg_B} {b : Nat} {q : hg_C × hg_C × hg_C}, hmBr A z b l → hmB1 A z (b + l.length) q → hmBr A z b (l ++ [q])
  | [], _, _, _, h => ⟨h, trivial⟩
  | p :: r, b, q, h, h' => by
    have hl : (p :: r).length = r.length + 1 := Eq.refl _
    refine ⟨h.1, hmBr.snoc h.2 ?_⟩
    rw [hl] at h'
    rw [show b + 1 + r.length = b + (r.length + 1) by omega]
    exact h'
theorem hmLw.mv {b0 b1 k : Nat} {l : hg_L} (h : hmLw A z b b0 b1 k l) (hz : z ≤ z') (hb : b ≤ b') (e : ∀ c, c < b → ∀ i, 385 ≤ i → i ≤ 389 → A'.2.1 i c = A.2.1 i c) (f : ∀ j, j < z → A'.2.1 390 j = A.2.1 390 j ∧ A'.2.1 391 j = A.2.1 391 j) : hmLw A' z' b' b0 b1 k l := by
  rcases h with h | ⟨h1, h2, h3, h4⟩
  · exact Or.inl h
  · exact Or.inr ⟨h1, by omega, hmBr.mv hz f h3 (fun c _ hc => e c (by omega)), h4.mv hz (e _ (by omega)) f⟩
theorem hm_hs.mv : ∀ {ns : List Nat}, hm_hs V sd A ns → (∀ i, i < ns.length → A'.2.1 377 (10 * sd + i) = A.2.1 377 (10 * sd + i) ∧ A'.2.1 378 (10 * sd + i) = A.2.1 378 (10 * sd + i)) → hm_hs V sd A' ns
  | [], _, _ => trivial
  | u :: r, h, e => by
    have hl : (u :: r).length = r.length + 1 := Eq.refl _
    have q := e r.length (by omega)
    exact ⟨by rw [q.1]; exact h.1, by rw [q.2]; exact h.2.1, hm_hs.mv h.2.2 (fun i hi => e i (by omega))⟩
theorem hmM.mv (h : hmM V A sd ns d b z) (hz : z ≤ z') (hb : b ≤ b') (g : ∀ i, 377 ≤ i → i ≤ 384 → ¬ i = 379 → A'.2.1 i = A.2.1 i) (e : ∀ c, c < b → ∀ i, 385 ≤ i → i ≤ 389 → A'.2.1 i c = A.2.1 i c) (f : ∀ j, j < z → A'.2.1 390 j = A.2.1 390 j ∧ A'.2.1 391 j = A.2.1 391 j) : hmM V A' sd ns d b' z' := by
  obtain ⟨h1, ⟨h2, h3, h4⟩, h5⟩ := h
  refine ⟨fun k hk => ?_, ⟨fun j hj => ?_, ?_, ?_⟩, h5.mv (fun i _ => ⟨by rw [g 377 (by omega) (by omega) (by omega)], by rw [g 378 (by omega) (by omega) (by omega)]⟩)⟩
  · obtain ⟨b0, b1, a1, a2, a3⟩ := h1 k hk
    exact ⟨b0, b1, by rw [g 383 (by omega) (by omega) (by omega)]; exact a1, by rw [g 384 (by omega) (by omega) (by omega)]; exact a2, a3.mv hz hb e f⟩
  · rw [g 380 (by omega) (by omega) (by omega)]; exact h2 j hj
  · rw [g 381 (by omega) (by omega) (by omega)]; exact h3
  · rw [g 382 (by omega) (by omega) (by omega)]; exact h4
theorem hmM.Q (h : hmM V A sd ns d b z) (q : hmQ A A') : hmM V A' sd ns d b z := h.mv (Nat.le_refl z) (Nat.le_refl b) (fun i _ _ _ => by rw [q.2]) (fun c _ i _ _ => by rw [q.2]) (fun j _ => by rw [q.2]; exact ⟨Eq.refl _, Eq.refl _⟩)
theorem hmM.Fr (h : hmM V A sd ns d b z) (F : hmFr z A A') (hz : z ≤ z') : hmM V A' sd ns d b z' := h.mv hz (Nat.le_refl b) (fun i h1 h2 _ => F.1 i (by omega) (by omega)) (fun c _ i h1 h2 => by rw [F.1 i (by omega) (by omega)]) F.2.1
end HMM
/-! A LAW IS PUT TOGETHER; houses, sends -/
/-- a branch under way: number b, its codes from z on, both sides of < as far as they are -/
def hmP (A : hs_A) (b z : Nat) (c1 c2 : hg_C) (n : Nat) : Prop := A.2.1 385 b = Int32.ofNat 1 ∧ (A.2.1 386 b).toInt = (z : Int) ∧ (1 ≤ n → (A.2.1 387 b).toInt = ((z + c1.length : Nat) : Int)) ∧ hm_seg (A.2.1 390) (A.2.1 391) z c1 ∧ hm_seg (A.2.1 390) (A.2.1 391) (z + c1.length) c2
/-- what term leaves alone -/
def hmTf (z b : Nat) (A A' : hs_A) : Prop := (∀ i j, 373 ≤ i → i ≤ 389 → ¬ ((i = 388 ∨ i = 389) ∧ j = b) → A'.2.1 i j = A.2.1 i j) ∧ (∀ j, j < z → A'.2.1 390 j = A.2.1 390 j ∧ A'.2.1 391 j = A.2.1 391 j)
def hmI (V : Nat → Int) (A : hs_A) (sd : Nat) (ns : List Nat) (dd : hg_D) (b0 : Nat) (br : hg_B) (z : Nat) : Prop := hmBr A z b0 br ∧ hmM V A sd ns dd b0 z
section HML
variable {V : Nat → Int} {A A1 A2 A' : hs_A} {sd : Nat} {ns : List Nat} {dd : hg_D} {b b0 b' z z' : Nat} {br : hg_B} {c1 c2 : hg_C} {n : Nat}
theorem hmI.mv (h : hmI V A sd ns dd b0 br z) (hz : z ≤ z') (g : ∀ i j, 377 ≤ i → i ≤ 389 → (i ≤ 384 ∨ j < b0 + br.length) → ¬ i = 379 → A'.2.1 i j = A.2.1 i j) (f : ∀ j, j < z → A'.2.1 390 j = A.2.1 390 j ∧ A'.2.1 391 j = A.2.1 391 j) : hmI V A' sd ns dd b0 br z' := ⟨hmBr.mv hz f h.1 (fun c _ h2 i h3 h4 => g i c (by omega) (by omega) (Or.inr h2) (by omega)), h.2.mv hz (Nat.le_refl b0) (fun i h1 h2 h3 => funext (fun j => g i j h1 (by omega) (Or.inl h2) h3)) (fun c hc i h1 h2 => g i c (by omega) (by omega) (Or.inr (by omega)) (by omega)) f⟩
theorem hmI.Q (h : hmI V A sd ns dd b0 br z) (q : hmQ A A') : hmI V A' sd ns dd b0 br z := h.mv (Nat.le_refl z) (fun i j _ _ _ _ => by rw [q.2]) (fun j _ => by rw [q.2]; exact ⟨Eq.refl _, Eq.refl _⟩)
theorem hmI.Fr (h : hmI V A sd ns dd b0 br z) (F : hmFr z A A') (hz : z ≤ z') : hmI V A' sd ns dd b0 br z' := h.mv hz (fun i j h1 h2 _ _ => by rw [F.1 i (by omega) h2]) F.2.1
theorem hmI.Tf (h : hmI V A sd ns dd b0 br z) (F : hmTf z (b0 + br.length) A A') (hz : z ≤ z') : hmI V A' sd ns dd b0 br z' := h.mv hz (fun i j h1 h2 h3 _ => F.1 i j (by omega) h2 (by omega)) F.2
theorem hmI.ar {i j : Nat} {y : Int32} (h : hmI V A sd ns dd b0 br z) (f : A'.2.1 = hs_up A.2.1 i j y) (hi : 385 ≤ i ∧ i ≤ 389) (hj : b0 + br.length ≤ j) : hmI V A' sd ns dd b0 br z := h.mv (Nat.le_refl z) (fun a c h1 h2 h3 _ => by rw [f, hup2 (by omega)]) (fun a _ => by rw [f, hup2 (by omega), hup2 (by omega)]; exact ⟨Eq.refl _, Eq.refl _⟩)
theorem hmI.up (h : hmI V A sd ns dd b0 br z) (f : A'.2 = A.2) : hmI V A' sd ns dd b0 br z := h.mv (Nat.le_refl z) (fun i j _ _ _ _ => by rw [f]) (fun j _ => by rw [f]; exact ⟨Eq.refl _, Eq.refl _⟩)
theorem hmP.mv (h : hmP A b z c1 c2 n) (e : ∀ i, 385 ≤ i → i ≤ 387 → A'.2.1 i b = A.2.1 i b) (f : ∀ j, j < z + c1.length + c2.length → A'.2.1 390 j = A.2.1 390 j ∧ A'.2.1 391 j = A.2.1 391 j) : hmP A' b z c1 c2 n := by
  obtain ⟨h1, h2, h3, h4, h5⟩ := h
  exact ⟨by rw [e _ (by omega) (by omega)]; exact h1, by rw [e _ (by omega) (by omega)]; exact h2, fun q => by rw [e _ (by omega) (by omega)]; exact h3 q, h4.mv (fun i _ _ => f i (by omega)), h5.mv (fun i _ _ => f i (by omega))⟩
theorem hmP.Q (h : hmP A b z c1 c2 n) (q : hmQ A A') : hmP A' b z c1 c2 n := h.mv (fun i _ _ => by rw [q.2]) (fun j _ => by rw [q.2]; exact ⟨Eq.refl _, Eq.refl _⟩)
theorem hmP.start {y : Int32} {j : Nat} (e1 : A1.2.1 = hs_up A.2.1 385 b (Int32.ofNat 1)) (e2 : A'.2.1 = hs_up A1.2.1 386 b y) (hy : y.toInt = (z : Int)) : hmP A' b z [] [] 0 := ⟨by rw [e2, hup2 (by omega), e1, hup1], by rw [e2, hup1]; exact hy, fun q => absurd q (by omega), trivial, trivial⟩
theorem hmP.one (h : hmP A b z [] [] 0) (F : hmFr z A A') (s : hm_seg (A'.2.1 390) (A'.2.1 391) z c1) : hmP A' b z c1 [] 0 := ⟨by rw [F.1 _ (by omega) (by omega)]; exact h.1, by rw [F.1 _ (by omega) (by omega)]; exact h.2.1, fun q => absurd q (by omega), s, trivial⟩
theorem hmP.mid {y : Int32} (h : hmP A b z c1 [] 0) (e : A'.2.1 = hs_up A.2.1 387 b y) (hy : y.toInt = ((z + c1.length : Nat) : Int)) : hmP A' b z c1 [] 1 := by
  obtain ⟨h1, h2, -, h4, -⟩ := h
  exact ⟨by rw [e, hup2 (by omega)]; exact h1, by rw [e, hup2 (by omega)]; exact h2, fun _ => by rw [e, hup1]; exact hy, h4.mv (fun i _ _ => by rw [e, hup2 (by omega), hup2 (by omega)]; exact ⟨Eq.refl _, Eq.refl _⟩), trivial⟩
theorem hmP.two (h : hmP A b z c1 [] 1) (F : hmFr (z + c1.length) A A') (s : hm_seg (A'.2.1 390) (A'.2.1 391) (z + c1.length) c2) : hmP A' b z c1 c2 1 := ⟨by rw [F.1 _ (by omega) (by omega)]; exact h.1, by rw [F.1 _ (by omega) (by omega)]; exact h.2.1, fun q => by rw [F.1 _ (by omega) (by omega)]; exact h.2.2.1 q, h.2.2.2.1.mv (fun i _ _ => F.2.1 i (by omega)), s⟩
theorem hmP.done {c3 : hg_C} (h : hmP A b z c1 c2 1) (F : hmTf (z + c1.length + c2.length) b A A') (t1 : (A'.2.1 388 b).toInt = ((z + c1.length + c2.length : Nat) : Int)) (t2 : (A'.2.1 389 b).toInt = ((z + c1.length + c2.length + c3.length : Nat) : Int)) (s : hm_seg (A'.2.1 390) (A'.2.1 391) (z + c1.length + c2.length) c3) : hmB1 A' (z + c1.length + c2.length + c3.length) b (c1, c2, c3) := by
  obtain ⟨h1, h2, h3, h4, h5⟩ := h
  exact ⟨z, by rw [F.1 _ _ (by omega) (by omega) (by omega)]; exact h1, by rw [F.1 _ _ (by omega) (by omega) (by omega)]; exact h2, by rw [F.1 _ _ (by omega) (by omega) (by omega)]; exact h3 (by omega), t1, t2, Nat.le_refl _, h4.mv (fun i _ _ => F.2 i (by omega)), h5.mv (fun i _ _ => F.2 i (by omega)), s⟩
/-- the law is in its place -/
theorem hmM.law {b1 k : Nat} {x1 x2 : Int32} {l : hg_L} (h : hmM V A sd ns dd b z) (hk : k < 4) (f1 : A1.2.1 = hs_up A.2.1 383 (4 * sd + k) x1) (f2 : A'.2.1 = hs_up A1.2.1 384 (4 * sd + k) x2) (hx1 : x1.toInt = (b0 : Int)) (hx2 : x2.toInt = (b1 : Int)) (hb : b ≤ b') (L : hmLw A z b' b0 b1 k l) : hmM V A' sd ns (dd.1, dd.2.1, dd.2.2.1, fun q => if q = k then l else dd.2.2.2 q) b' z := by
  have ff : ∀ i j, ¬ i = 383 → ¬ i = 384 → A'.2.1 i j = A.2.1 i j := fun i j h1 h2 => by rw [f2, hup2 (by omega), f1, hup2 (by omega)]
  have e1 : ∀ c, ∀ i, 385 ≤ i → i ≤ 389 → A'.2.1 i c = A.2.1 i c := fun c i h1 h2 => ff i c (by omega) (by omega)
  have e2 : ∀ j, A'.2.1 390 j = A.2.1 390 j ∧ A'.2.1 391 j = A.2.1 391 j := fun j => ⟨ff _ _ (by omega) (by omega), ff _ _ (by omega) (by omega)⟩
  obtain ⟨h1, ⟨h2, h3, h4⟩, h5⟩ := h
  refine ⟨fun q hq => ?_, ⟨fun j hj => by rw [ff _ _ (by omega) (by omega)]; exact h2 j hj, by rw [ff _ _ (by omega) (by omega)]; exact h3, by rw [ff _ _ (by omega) (by omega)]; exact h4⟩, h5.mv (fun i _ => ⟨ff _ _ (by omega) (by omega), ff _ _ (by omega) (by omega)⟩)⟩
  show ∃ b0 b1 : Nat, (A'.2.1 383 (4 * sd + q)).toInt = (b0 : Int) ∧ (A'.2.1 384 (4 * sd + q)).toInt = (b1 : Int) ∧ hmLw A' z b' b0 b1 q (if q = k then l else dd.2.2.2 q)
  by_cases w : q = k
  · subst w
    rw [if_pos rfl]
    refine ⟨b0, b1, by rw [f2, hup2 (by omega), f1, hup1]; exact hx1, by rw [f2, hup1]; exact hx2, L.mv (Nat.le_refl z) (Nat.le_refl b') (fun c _ => e1 c) (fun j _ => e2 j)⟩
  · rw [if_neg w]
    obtain ⟨a0, a1, q1, q2, q3⟩ := h1 q hq
    exact ⟨a0, a1, by rw [f2, hup2 (by omega), f1, hup2 (by omega)]; exact q1, by rw [f2, hup2 (by omega), f1, hup2 (by omega)]; exact q2, q3.mv (Nat.le_refl z) hb (fun c _ => e1 c) (fun j _ => e2 j)⟩
theorem hmM.ga {i j : Nat} {y : Int32} (h : hmM V A sd ns dd b z) (f : A'.2.1 = hs_up A.2.1 i j y) (hi : (i ≤ 376 ∨ i = 379) ∨ (i = 377 ∨ i = 378) ∧ 10 * sd + ns.length ≤ j) : hmM V A' sd ns dd b z := by
  have ff : ∀ a c, ¬ (a = i ∧ c = j) → A'.2.1 a c = A.2.1 a c := fun a c q => by rw [f, hup2 q]
  obtain ⟨h1, ⟨h2, h3, h4⟩, h5⟩ := h
  refine ⟨fun q hq => ?_, ⟨fun k hk => by rw [ff _ _ (by omega)]; exact h2 k hk, by rw [ff _ _ (by omega)]; exact h3, by rw [ff _ _ (by omega)]; exact h4⟩, h5.mv (fun k hk => ⟨ff _ _ (by omega), ff _ _ (by omega)⟩)⟩
  obtain ⟨a0, a1, q1, q2, q3⟩ := h1 q hq
  exact ⟨a0, a1, by rw [ff _ _ (by omega)]; exact q1, by rw [ff _ _ (by omega)]; exact q2, q3.mv (Nat.le_refl z) (Nat.le_refl b) (fun c _ i _ _ => ff _ _ (by omega)) (fun j _ => ⟨ff _ _ (by omega), ff _ _ (by omega)⟩)⟩
theorem hmM.up (h : hmM V A sd ns dd b z) (f : A'.2.1 = A.2.1) : hmM V A' sd ns dd b z := h.mv (Nat.le_refl z) (Nat.le_refl b) (fun i _ _ _ => by rw [f]) (fun c _ i _ _ => by rw [f]) (fun j _ => by rw [f]; exact ⟨Eq.refl _, Eq.refl _⟩)
theorem hmM.more {u : Nat} (h : hmM V A sd ns dd b z) (h1 : (A.2.1 377 (10 * sd + ns.length)).toInt = V (u + 1)) (h2 : (A.2.1 378 (10 * sd + ns.length)).toInt = V (u + 2)) : hmM V A sd (u :: ns) dd b z := ⟨h.1, h.2.1, h1, h2, h.2.2⟩
theorem hmM.sd2 {y : Int32} {p c : Int} {j : Nat} (h : hmM V A sd ns dd b z) (hp : p ≤ 23) (hp0 : 0 ≤ p) (f : A'.2.1 = hs_up A.2.1 380 j y) (hj : (j : Int) = 24 * (sd : Int) + p) (hy : y.toInt = c) : hmM V A' sd ns (fun h => if (h : Int) = p then c else dd.1 h, dd.2) b z := by
  have ff : ∀ a c, ¬ (a = 380 ∧ c = j) → A'.2.1 a c = A.2.1 a c := fun a c q => by rw [f, hup2 q]
  obtain ⟨h1, ⟨h2, h3, h4⟩, h5⟩ := h
  refine ⟨fun q hq => ?_, ⟨fun k hk => ?_, by rw [ff _ _ (by omega)]; exact h3, by rw [ff _ _ (by omega)]; exact h4⟩, h5.mv (fun k hk => ⟨ff _ _ (by omega), ff _ _ (by omega)⟩)⟩
  · obtain ⟨a0, a1, q1, q2, q3⟩ := h1 q hq
    exact ⟨a0, a1, by rw [ff _ _ (by omega)]; exact q1, by rw [ff _ _ (by omega)]; exact q2, q3.mv (Nat.le_refl z) (Nat.le_refl b) (fun c _ i _ _ => ff _ _ (by omega)) (fun j _ => ⟨ff _ _ (by omega), ff _ _ (by omega)⟩)⟩
  · show _ = if (k : Int) = p then c else dd.1 k
    by_cases w : (k : Int) = p
    · rw [if_pos w, show 24 * sd + k = j by omega, f, hup1]; exact hy
    · rw [if_neg w, ff _ _ (by omega)]; exact h2 k hk
theorem hmM.sd0 {p c : Int} (h : hmM V A sd ns dd b z) (hp : ¬ p ≤ 23) : hmM V A sd ns (fun h => if (h : Int) = p then c else dd.1 h, dd.2) b z := by
  obtain ⟨h1, ⟨h2, h3, h4⟩, h5⟩ := h
  refine ⟨h1, ⟨fun k hk => ?_, h3, h4⟩, h5⟩
  show _ = if (k : Int) = p then c else dd.1 k
  rw [if_neg (by omega)]
  exact h2 k hk
theorem hmM.gr {y : Int32} {c : Int} (h : hmM V A sd ns dd b z) (f : A'.2.1 = hs_up A.2.1 381 sd y) (hy : y.toInt = c) : hmM V A' sd ns (dd.1, c, dd.2.2) b z := by
  have ff : ∀ a c, ¬ (a = 381 ∧ c = sd) → A'.2.1 a c = A.2.1 a c := fun a c q => by rw [f, hup2 q]
  obtain ⟨h1, ⟨h2, h3, h4⟩, h5⟩ := h
  refine ⟨fun q hq => ?_, ⟨fun k hk => by rw [ff _ _ (by omega)]; exact h2 k hk, by rw [f, hup1]; exact hy, by rw [ff _ _ (by omega)]; exact h4⟩, h5.mv (fun k hk => ⟨ff _ _ (by omega), ff _ _ (by omega)⟩)⟩
  obtain ⟨a0, a1, q1, q2, q3⟩ := h1 q hq
  exact ⟨a0, a1, by rw [ff _ _ (by omega)]; exact q1, by rw [ff _ _ (by omega)]; exact q2, q3.mv (Nat.le_refl z) (Nat.le_refl b) (fun c _ i _ _ => ff _ _ (by omega)) (fun j _ => ⟨ff _ _ (by omega), ff _ _ (by omega)⟩)⟩
theorem hmM.se {y : Int32} {c : Int} (h : hmM V A sd ns dd b z) (f : A'.2.1 = hs_up A.2.1 382 sd y) (hy : y.toInt = c) : hmM V A' sd ns (dd.1, dd.2.1, c, dd.2.2.2) b z := by
  have ff : ∀ a c, ¬ (a = 382 ∧ c = sd) → A'.2.1 a c = A.2.1 a c := fun a c q => by rw [f, hup2 q]
  obtain ⟨h1, ⟨h2, h3, h4⟩, h5⟩ := h
  refine ⟨fun q hq => ?_, ⟨fun k hk => by rw [ff _ _ (by omega)]; exact h2 k hk, by rw [ff _ _ (by omega)]; exact h3, by rw [f, hup1]; exact hy⟩, h5.mv (fun k hk => ⟨ff _ _ (by omega), ff _ _ (by omega)⟩)⟩
  obtain ⟨a0, a1, q1, q2, q3⟩ := h1 q hq
  exact ⟨a0, a1, by rw [ff _ _ (by omega)]; exact q1, by rw [ff _ _ (by omega)]; exact q2, q3.mv (Nat.le_refl z) (Nat.le_refl b) (fun c _ i _ _ => ff _ _ (by omega)) (fun j _ => ⟨ff _ _ (by omega), ff _ _ (by omega)⟩)⟩
end HML
def hmOK2 (K V S : Nat → Int) (E : Nat → Nat → Bool) (A : hs_A) (t sd : Nat) : Prop := ∃ (t' a b c : Nat) (ns : List Nat) (nm sn : Nat) (o : Option (Nat × Nat)) (bb zz : Nat), t < t' ∧ hmB K V S E A t' (0, a, b, c, ns, nm, sn, o) ∧ hmR S A t' ns sn o sd 0 ∧ hmM V A sd ns (hg_q K V E t').1 bb zz ∧ (A.1 367 31).toInt = (bb : Int) ∧ (A.1 367 37).toInt = (zz : Int)
