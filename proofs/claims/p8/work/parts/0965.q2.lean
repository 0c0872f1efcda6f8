theorem hW44 {g d f : Nat} {A : hs_A} {K V S : Nat → Int} {E : Nat → Nat → Bool} {T : Nat} {t : Nat} {s s' : hq_S} {ns : List Nat} {sn : Nat} {o : Option (Nat × Nat)} {dd : hg_D} {fl : hg_C} {zz : Nat} (hT : hTT T) (hB : hcB K V S E T A t s) (hR : hcR2 V S T A ns none sn o dd fl zz) (hsn : s.2.2.2.2.1 = ns) (hd : hq_dl K V E t s = hq_must K 20 t s') {P : Option Value → hs_A → Prop} (hP : ∀ (r : Option Value) (A' : hs_A), (∃ z : Int32, r = some (.int z) ∧ ((z.toInt = 1 ∧ hcB K V S E T A' (t + 1) s' ∧ hcR2 V S T A' ns (some t) sn (if ns.any (fun u => E u t) then hq_late 3 t o else o) dd fl zz ∧ hg_q K V E (t + 1) = hg_dl K V t s (hg_q K V E t)) ∨ (z.toInt = 0 ∧ hcF K V S E T A'))) → P r A') : hpa (f, g) d (some (.boolean)) hm_t44 0 [.ref 21, .retAddr 0, .retAddr 0, .retAddr 0] [] A P := by
  have k0 := hk_0
  have k1 := hk_1
  have k20 := hk_20
  have k3 := hk_3
  have hT9 : T ≤ 11 := by rcases hT with rfl | rfl <;> omega
  obtain ⟨h400, hpre, hix, hkk, hss, hsz, hvv⟩ := hB.at
  have hnx := hB.2.2.1
  have hqq := hB.2.2.2.1
  have L30 : ∀ (f : Nat) (x30_1 : Int64) (x30_3 : Int32) (A30 : hs_A) (n30 : x30_1 = A30.2.2.1 23 t) (B30 : hcB K V S E T A30 t s) (R30 : hcR2 V S T A30 ns none sn (if (ns.drop (ns.length - (x30_3.toInt).toNat)).any (fun u => E u t) then hq_late 3 t o else o) dd fl zz) (lo30 : 0 ≤ x30_3.toInt) (hi30 : x30_3.toInt ≤ (ns.length : Int)) (kt : K t = 20), hpa (f, g) d (some (.boolean)) hm_t44 30 [.ref 21, .long x30_1, .double 0, .int x30_3] [] A30 P := by
    intro f
    induction f with
    | zero => intros; exact hpa.zero
    | succ f ih30 =>
      intro x30_1 x30_3 A30 n30 B30 R30 lo30 hi30 kt
      have hl30 := R30.1
      refine hpa_iload_nS (by rfl) rfl ?_
      refine hpa_aload_n (by rfl) rfl ?_
      refine hpj_getT (by rfl) (by rfl) (by rfl) B30.1 ?_
      refine hpj_getK (by rfl) (hsT hT) (by rfl) rfl ?_
      refine hpj_cge (by rfl) rfl rfl (fun q1 => ?_) (fun q1 => ?_)
      ·
        refine hpa_aload_n (by rfl) rfl ?_
        refine hpa_get (v := .ref 26) (by rfl) (by rfl) (by rfl) rfl ?_
        refine hpa_aload_n (by rfl) rfl ?_
        refine hpj_getT (by rfl) (by rfl) (by rfl) B30.1 ?_
        refine hpj_getK (by rfl) (hsT hT) (by rfl) rfl ?_
        refine hpa_lload_n (by rfl) rfl ?_
        refine hpx_last (by rfl) (by rfl) (fun A2 h0A2 h1A2 eA2 fA2 gA2 iA2 => ?_)
        have hcn := hn_cn (j := A30.1 T 4) (by omega)
        have BA2 := B30.upL eA2 fA2 gA2 iA2
        have RA2 := R30.name eA2 fA2 gA2 (by omega) n30
        rw [show ns.length - x30_3.toInt.toNat = 0 by omega, List.drop_zero] at RA2
        refine hpa_aload_n (by rfl) rfl ?_
        refine hpa_call0 (by rfl) (by rfl) (by rfl) (by rfl) (by rfl) (by rfl) (hP41 hT BA2 RA2 (hd.trans (hq_must_ok kt))) ?_
        rintro _ A3 ⟨z4, rfl, (⟨fz_A3, B_A3, R_A3, G_A3, N_A3⟩ | ⟨fz_A3, F_A3⟩)⟩
        ·
          exact hpa_ireturn (by rfl) (hn_fitB (by omega) (by omega)) (hP _ _ ⟨_, rfl, Or.inl ⟨fz_A3, B_A3, R_A3, G_A3⟩⟩)
        ·
          exact hpa_ireturn (by rfl) (hn_fitB (by omega) (by omega)) (hP _ _ ⟨_, rfl, Or.inr ⟨fz_A3, F_A3⟩⟩)
      ·
        refine hpa_aload_n (by rfl) rfl ?_
        refine hpa_get (v := .ref 26) (by rfl) (by rfl) (by rfl) rfl ?_
        refine hpa_iload_n (by rfl) rfl ?_
        refine hpx_lald (by rfl) (by rfl) (fun h0v5 h1v5 v5 ev5 => ?_)
        obtain ⟨u, hu, hdr, hnu⟩ := R30.2.2.1.at (i := x30_3.toInt.toNat) (by omega)
        have hvu : v5 = A30.2.2.1 23 u := ev5.symm.trans hnu
        have hut := (hq_q_inv hqq).1.1 u (by rw [hsn]; exact hu)
        have hEE := B30.2.1.2.1 u t (by omega) h400 (fun i hi => hpre i (by omega)) hpre hut.2 kt
        refine hpa_lload_n (by rfl) rfl ?_
        refine hpa_lcmp (by rfl) ?_
        refine hpj_zne (by rfl) rfl (fun q6 => ?_) (fun q6 => ?_)
        ·
          have hne : ¬ E u t = true := fun w => q6 (hlg0.mpr (by rw [hvu, n30]; exact hEE.mpr w))
          refine hpj_iinc (by rfl) rfl rfl hk_1 (by omega) (by omega) (fun _ => rfl) (fun z7 ez7 => ?_)
          refine hpa_goto (by rfl) ?_
          exact ih30 x30_1 z7 A30 n30 B30 (by rw [show z7.toInt.toNat = x30_3.toInt.toNat + 1 by omega, hanyF hdr hne]; exact R30) (by omega) (by omega) kt
        ·
          have heq : E u t = true := hEE.mp (by rw [← hvu, ← n30]; exact hlg0.mp q6)
          refine hpa_aload_n (by rfl) rfl ?_
          refine hpa_iconst (by rfl) rfl ?_
          refine hpa_call0 (by rfl) (by rfl) (by rfl) (by rfl) (by rfl) (by rfl) (hP40 hT (Int32.ofNat 3) B30 R30 (by decide) hk_3) ?_
          rintro _ A8 ⟨rfl, B_A8, R_A8, L_A8, N_A8⟩
          refine hpj_iinc (by rfl) rfl rfl hk_1 (by omega) (by omega) (fun _ => rfl) (fun z9 ez9 => ?_)
          refine hpa_goto (by rfl) ?_
          exact ih30 x30_1 z9 A8 (by rw [n30, L_A8]) B_A8 (by rw [show z9.toInt.toNat = x30_3.toInt.toNat + 1 by omega, hanyT hdr heq]; exact R_A8) (by omega) (by omega) kt
  refine hpa_aload_n (by rfl) rfl ?_
  refine hpa_call0 (by rfl) (by rfl) (by rfl) (by rfl) (by rfl) (by rfl) (hP38 hT hB) ?_
  rintro _ _ ⟨rfl, z11, rfl, fz_A10⟩
  refine hpa_bipush (by rfl) rfl ?_
  refine hpj_ceq (by rfl) rfl hk_20 (fun q12 => ?_) (fun q12 => ?_)
  ·
    refine hpa_aload_n (by rfl) rfl ?_
    refine hpa_get (v := .ref 22) (by rfl) (by rfl) (by rfl) rfl ?_
    refine hpa_get (v := .ref 24) (by rfl) (by rfl) (by rfl) rfl ?_
    refine hpa_aload_n (by rfl) rfl ?_
    refine hpj_getK (by rfl) (by rfl) (by rfl) rfl ?_
    refine hpx_lald (by rfl) (by rfl) (fun h0v13 h1v13 v13 ev13 => ?_)
    rw [hix] at ev13
    refine hpa_lstore_n (by rfl) rfl ?_
    refine hpa_iconst (by rfl) rfl ?_
    refine hpa_s1 (by rfl) (Or.inl ⟨_, rfl, rfl⟩) rfl ?_
    have e30 : ns.drop (ns.length - (Int32.ofNat 0).toInt.toNat) = [] := by
      rw [hk_0]
      exact List.drop_length
    exact L30 _ v13 (Int32.ofNat 0) A ev13.symm hB (by rw [e30]; exact hR) (by omega) (by omega) (by omega)
  ·
    refine hpa_aload_n (by rfl) rfl ?_
    refine hpa_iconst (by rfl) rfl ?_
    refine hpa_call0 (by rfl) (by rfl) (by rfl) (by rfl) (by rfl) (by rfl) (hP39 hT (Int32.ofNat 1) hB ⟨s, hqq, hd.trans (hq_must_no (by omega))⟩ (by decide) hk_1) ?_
    rintro _ A14 ⟨z15, rfl, fz_A14, F_A14⟩
    exact hpa_ireturn (by rfl) (hn_fitB (by omega) (by omega)) (hP _ _ ⟨_, rfl, Or.inr ⟨fz_A14, F_A14⟩⟩)
theorem hP44 {g d : Nat} {A : hs_A} {K V S : Nat → Int} {E : Nat → Nat → Bool} {T : Nat} {t : Nat} {s s' : hq_S} {ns : List Nat} {sn : Nat} {o : Option (Nat × Nat)} {dd : hg_D} {fl : hg_C} {zz : Nat} (hT : hTT T) (hB : hcB K V S E T A t s) (hR : hcR2 V S T A ns none sn o dd fl zz) (hsn : s.2.2.2.2.1 = ns) (hd : hq_dl K V E t s = hq_must K 20 t s') : hpC g d 44 hm_m44 [.ref 21] A (fun r A' => ∃ z : Int32, r = some (.int z) ∧ ((z.toInt = 1 ∧ hcB K V S E T A' (t + 1) s' ∧ hcR2 V S T A' ns (some t) sn (if ns.any (fun u => E u t) then hq_late 3 t o else o) dd fl zz ∧ hg_q K V E (t + 1) = hg_dl K V t s (hg_q K V E t)) ∨ (z.toInt = 0 ∧ hcF K V S E T A'))) := hpC.all (fun f d => hW44 hT hB hR hsn hd (fun r A' h => h))
theorem hW45 {g d f : Nat} {A : hs_A} {K V S : Nat → Int} {E : Nat → Nat → Bool} {T : Nat} {t : Nat} {a b c : Nat} {ns : List Nat} {nm sn : Nat} {o : Option (Nat × Nat)} {zz : Nat} (hT : hTT T) (hB : hcB K V S E T A t (0, a, b, c, ns, nm, sn, o)) (hR : hcR2 V S T A ns none sn o (hg_q K V E t).1 [] zz) (hz8 : zz ≤ 8 + t) (hK : K t = 0) {P : Option Value → hs_A → Prop} (hP : ∀ (r : Option Value) (A' : hs_A), (∃ z : Int32, r = some (.int z) ∧ ((z.toInt = 1 ∧ hcOK2 K V S E T A' t) ∨ (z.toInt = 0 ∧ hcF K V S E T A'))) → P r A') : hpa (f, g) d (some (.boolean)) hm_t45 0 [.ref 21, .retAddr 0] [] A P := by
  have k0 := hk_0
  have k1 := hk_1
  have k10 := hk_10
  have k2 := hk_2
  have k24 := hk_24
  have k255 := hk_255
  have k99 := hk_99
  have hT9 : T ≤ 11 := by rcases hT with rfl | rfl <;> omega
  obtain ⟨h400, hpre, hix, hkk, hss, hsz, hvv⟩ := hB.at
  have hnx := hB.2.2.1
  have hqq := hB.2.2.2.1
  have hl := hR.1
  refine hpa_aload_n (by rfl) rfl ?_
  refine hpj_getT (by rfl) (by rfl) (by rfl) hB.1 ?_
  refine hpj_getK (by rfl) (hsT hT) (by rfl) rfl ?_
  refine hpa_bipush (by rfl) rfl ?_
  refine hpj_clt (by rfl) rfl hk_10 (fun q1 => ?_) (fun q1 => ?_)
  ·
    refine hpa_aload_n (by rfl) rfl ?_
    refine hpa_call0 (by rfl) (by rfl) (by rfl) (by rfl) (by rfl) (by rfl) (hP41 hT hB hR ((hqd0_house hK).trans (if_pos (by omega)))) ?_
    rintro _ A2 ⟨z3, rfl, (⟨fz_A2, B_A2, R_A2, G_A2, N_A2⟩ | ⟨fz_A2, F_A2⟩)⟩
    ·
      refine hpj_zeq (by rfl) rfl (fun q4 => False.elim (by omega)) (fun q4 => ?_)
      refine hpa_aload_n (by rfl) rfl ?_
      refine hpa_call0 (by rfl) (by rfl) (by rfl) (by rfl) (by rfl) (by rfl) (hP44 hT B_A2 R_A2 rfl rfl) ?_
      rintro _ A5 ⟨z6, rfl, (⟨fz_A5, B_A5, R_A5, G_A5⟩ | ⟨fz_A5, F_A5⟩)⟩
      ·
        refine hpj_zeq (by rfl) rfl (fun q7 => False.elim (by omega)) (fun q7 => ?_)
        refine hpa_aload_n (by rfl) rfl ?_
        refine hpa_iconst (by rfl) rfl ?_
        refine hpa_sipush (by rfl) rfl ?_
        refine hpa_call0 (by rfl) (by rfl) (by rfl) (by rfl) (by rfl) (by rfl) (hP43 hT (Int32.ofNat 0) (Int32.ofNat 255) hk_0 hk_255 B_A5 R_A5 rfl) ?_
        rintro _ A8 ⟨z9, rfl, (⟨fz_A8, B_A8, R_A8, G_A8, N_A8⟩ | ⟨fz_A8, F_A8⟩)⟩
        ·
          refine hpj_zne (by rfl) rfl (fun q10 => ?_) (fun q10 => False.elim (by omega))
          refine hpa_aload_n (by rfl) rfl ?_
          refine hpj_getK (by rfl) (by rfl) (by rfl) rfl ?_
          refine hpa_s1 (by rfl) (Or.inl ⟨_, rfl, rfl⟩) rfl ?_
          refine hpa_aload_n (by rfl) rfl ?_
          refine hpa_iconst (by rfl) rfl ?_
          refine hpa_bipush (by rfl) rfl ?_
          refine hpa_call0 (by rfl) (by rfl) (by rfl) (by rfl) (by rfl) (by rfl) (hP43 hT (Int32.ofNat 0) (Int32.ofNat 99) hk_0 hk_99 B_A8 R_A8 rfl) ?_
          rintro _ A11 ⟨z12, rfl, (⟨fz_A11, B_A11, R_A11, G_A11, N_A11⟩ | ⟨fz_A11, F_A11⟩)⟩
          ·
            refine hpj_zeq (by rfl) rfl (fun q13 => False.elim (by omega)) (fun q13 => ?_)
            refine hpa_aload_n (by rfl) rfl ?_
            refine hpa_bipush (by rfl) rfl ?_
            refine hpa_call0 (by rfl) (by rfl) (by rfl) (by rfl) (by rfl) (by rfl) (hP42 hT (Int32.ofNat 24) B_A11 R_A11 hk_24 rfl) ?_
            rintro _ A14 ⟨z15, rfl, (⟨fz_A14, B_A14, R_A14, G_A14, N_A14⟩ | ⟨fz_A14, F_A14⟩)⟩
            ·
              refine hpj_zne (by rfl) rfl (fun q16 => ?_) (fun q16 => False.elim (by omega))
              refine hpa_aload_n (by rfl) rfl ?_
              refine hpj_getT (by rfl) (by rfl) (by rfl) B_A14.1 ?_
              refine hpa_iload_n (by rfl) rfl ?_
              refine hpa_aload_n (by rfl) rfl ?_
              refine hpj_getK (by rfl) (by rfl) (by rfl) rfl ?_
              have hl10 := (hq_q_inv B_A14.2.2.2.1).1.2.2.1
              refine hpa_call0 (by rfl) (by rfl) (by rfl) (hsT hT) (by rfl) (by rfl) (hP55 hT (A8.1 20 4) (A14.1 20 4) B_A14 R_A14 hl10 N_A8.1 (by rw [N_A14]; exact N_A11.1)) ?_
              rintro _ A17 ⟨rfl, B_A17, R_A17⟩
              refine hpa_iconst (by rfl) rfl ?_
              exact hpa_ireturn (by rfl) (by rfl) (hP _ _ ⟨_, rfl, Or.inl ⟨hk_1, _, _, _, _, _, _, _, _, _, by omega, B_A17, by rw [G_A14, G_A11, G_A8, G_A5, G_A2, hg_d0n (by omega)]; exact R_A17, by omega⟩⟩)
            ·
              refine hpj_zne (by rfl) rfl (fun q18 => False.elim (by omega)) (fun q18 => ?_)
              refine hpa_iconst (by rfl) rfl ?_
              exact hpa_ireturn (by rfl) (by rfl) (hP _ _ ⟨_, rfl, Or.inr ⟨hk_0, F_A14⟩⟩)
          ·
            refine hpj_zeq (by rfl) rfl (fun q19 => ?_) (fun q19 => False.elim (by omega))
            refine hpa_iconst (by rfl) rfl ?_
            exact hpa_ireturn (by rfl) (by rfl) (hP _ _ ⟨_, rfl, Or.inr ⟨hk_0, F_A11⟩⟩)
        ·
          refine hpj_zne (by rfl) rfl (fun q20 => False.elim (by omega)) (fun q20 => ?_)
          refine hpa_iconst (by rfl) rfl ?_
          exact hpa_ireturn (by rfl) (by rfl) (hP _ _ ⟨_, rfl, Or.inr ⟨hk_0, F_A8⟩⟩)
      ·
        refine hpj_zeq (by rfl) rfl (fun q21 => ?_) (fun q21 => False.elim (by omega))
        refine hpa_iconst (by rfl) rfl ?_
        exact hpa_ireturn (by rfl) (by rfl) (hP _ _ ⟨_, rfl, Or.inr ⟨hk_0, F_A5⟩⟩)
    ·
      refine hpj_zeq (by rfl) rfl (fun q22 => ?_) (fun q22 => False.elim (by omega))
      refine hpa_iconst (by rfl) rfl ?_
      exact hpa_ireturn (by rfl) (by rfl) (hP _ _ ⟨_, rfl, Or.inr ⟨hk_0, F_A2⟩⟩)
  ·
    refine hpa_aload_n (by rfl) rfl ?_
    refine hpa_iconst (by rfl) rfl ?_
    refine hpa_call0 (by rfl) (by rfl) (by rfl) (by rfl) (by rfl) (by rfl) (hP39 hT (Int32.ofNat 2) hB ⟨_, hqq, (hqd0_house hK).trans (if_neg (by omega))⟩ (by decide) hk_2) ?_
    rintro _ A23 ⟨z24, rfl, fz_A23, F_A23⟩
    exact hpa_ireturn (by rfl) (hn_fitB (by omega) (by omega)) (hP _ _ ⟨_, rfl, Or.inr ⟨fz_A23, F_A23⟩⟩)
theorem hP45 {g d : Nat} {A : hs_A} {K V S : Nat → Int} {E : Nat → Nat → Bool} {T : Nat} {t : Nat} {a b c : Nat} {ns : List Nat} {nm sn : Nat} {o : Option (Nat × Nat)} {zz : Nat} (hT : hTT T) (hB : hcB K V S E T A t (0, a, b, c, ns, nm, sn, o)) (hR : hcR2 V S T A ns none sn o (hg_q K V E t).1 [] zz) (hz8 : zz ≤ 8 + t) (hK : K t = 0) : hpC g d 45 hm_m45 [.ref 21] A (fun r A' => ∃ z : Int32, r = some (.int z) ∧ ((z.toInt = 1 ∧ hcOK2 K V S E T A' t) ∨ (z.toInt = 0 ∧ hcF K V S E T A'))) := hpC.all (fun f d => hW45 hT hB hR hz8 hK (fun r A' h => h))
theorem hW46 {g d f : Nat} {A : hs_A} {K V S : Nat → Int} {E : Nat → Nat → Bool} {T : Nat} {t : Nat} {a b c : Nat} {ns : List Nat} {nm sn : Nat} {o : Option (Nat × Nat)} {zz : Nat} (hT : hTT T) (hB : hcB K V S E T A t (0, a, b, c, ns, nm, sn, o)) (hR : hcR2 V S T A ns none sn o (hg_q K V E t).1 [] zz) (hz8 : zz ≤ 8 + t) (hK : K t = 1) {P : Option Value → hs_A → Prop} (hP : ∀ (r : Option Value) (A' : hs_A), (∃ z : Int32, r = some (.int z) ∧ ((z.toInt = 1 ∧ hcOK2 K V S E T A' t) ∨ (z.toInt = 0 ∧ hcF K V S E T A'))) → P r A') : hpa (f, g) d (some (.boolean)) hm_t46 0 [.ref 21, .retAddr 0] [] A P := by
  have k0 := hk_0
  have k1 := hk_1
  have k2 := hk_2
  have k23 := hk_23
  have k24 := hk_24
  have k255 := hk_255
  have k8 := hk_8
  have hT9 : T ≤ 11 := by rcases hT with rfl | rfl <;> omega
  obtain ⟨h400, hpre, hix, hkk, hss, hsz, hvv⟩ := hB.at
  have hnx := hB.2.2.1
  have hqq := hB.2.2.2.1
  have hl := hR.2.1
  refine hpa_aload_n (by rfl) rfl ?_
  refine hpj_getT (by rfl) (by rfl) (by rfl) hB.1 ?_
  refine hpj_getK (by rfl) (hsT hT) (by rfl) rfl ?_
  refine hpa_bipush (by rfl) rfl ?_
  refine hpj_clt (by rfl) rfl hk_8 (fun q1 => ?_) (fun q1 => ?_)
  ·
    refine hpa_aload_n (by rfl) rfl ?_
    refine hpa_call0 (by rfl) (by rfl) (by rfl) (by rfl) (by rfl) (by rfl) (hP41 hT hB hR ((hqd0_sends hK).trans (if_pos (by omega)))) ?_
    rintro _ A2 ⟨z3, rfl, (⟨fz_A2, B_A2, R_A2, G_A2, N_A2⟩ | ⟨fz_A2, F_A2⟩)⟩
    ·
      refine hpj_zeq (by rfl) rfl (fun q4 => False.elim (by omega)) (fun q4 => ?_)
      refine hpa_aload_n (by rfl) rfl ?_
      refine hpa_iconst (by rfl) rfl ?_
      refine hpa_bipush (by rfl) rfl ?_
      refine hpa_call0 (by rfl) (by rfl) (by rfl) (by rfl) (by rfl) (by rfl) (hP43 hT (Int32.ofNat 0) (Int32.ofNat 23) hk_0 hk_23 B_A2 R_A2 rfl) ?_
      rintro _ A5 ⟨z6, rfl, (⟨fz_A5, B_A5, R_A5, G_A5, N_A5⟩ | ⟨fz_A5, F_A5⟩)⟩
      ·
        refine hpj_zne (by rfl) rfl (fun q7 => ?_) (fun q7 => False.elim (by omega))
        refine hpa_aload_n (by rfl) rfl ?_
        refine hpj_getK (by rfl) (by rfl) (by rfl) rfl ?_
        refine hpa_s1 (by rfl) (Or.inl ⟨_, rfl, rfl⟩) rfl ?_
        refine hpa_aload_n (by rfl) rfl ?_
        refine hpa_iconst (by rfl) rfl ?_
        refine hpa_sipush (by rfl) rfl ?_
        refine hpa_call0 (by rfl) (by rfl) (by rfl) (by rfl) (by rfl) (by rfl) (hP43 hT (Int32.ofNat 0) (Int32.ofNat 255) hk_0 hk_255 B_A5 R_A5 rfl) ?_
        rintro _ A8 ⟨z9, rfl, (⟨fz_A8, B_A8, R_A8, G_A8, N_A8⟩ | ⟨fz_A8, F_A8⟩)⟩
        ·
          refine hpj_zeq (by rfl) rfl (fun q10 => False.elim (by omega)) (fun q10 => ?_)
          refine hpa_aload_n (by rfl) rfl ?_
          refine hpa_bipush (by rfl) rfl ?_
          refine hpa_call0 (by rfl) (by rfl) (by rfl) (by rfl) (by rfl) (by rfl) (hP42 hT (Int32.ofNat 24) B_A8 R_A8 hk_24 rfl) ?_
          rintro _ A11 ⟨z12, rfl, (⟨fz_A11, B_A11, R_A11, G_A11, N_A11⟩ | ⟨fz_A11, F_A11⟩)⟩
          ·
            refine hpj_zne (by rfl) rfl (fun q13 => ?_) (fun q13 => False.elim (by omega))
            refine hpa_aload_n (by rfl) rfl ?_
            refine hpj_getT (by rfl) (by rfl) (by rfl) B_A11.1 ?_
            refine hpa_iload_n (by rfl) rfl ?_
            refine hpa_aload_n (by rfl) rfl ?_
            refine hpj_getK (by rfl) (by rfl) (by rfl) rfl ?_
            refine hpa_call0 (by rfl) (by rfl) (by rfl) (hsT hT) (by rfl) (by rfl) (hP56 (b := V (t + 1)) (c := V (t + 1 + 1)) hT (A5.1 20 4) (A11.1 20 4) B_A11 R_A11 (by omega) N_A5.1 (by rw [N_A11]; exact N_A8.1)) ?_
            rintro _ A14 ⟨rfl, B_A14, R_A14⟩
            refine hpa_iconst (by rfl) rfl ?_
            exact hpa_ireturn (by rfl) (by rfl) (hP _ _ ⟨_, rfl, Or.inl ⟨hk_1, _, _, _, _, _, _, _, _, _, by omega, B_A14, by rw [G_A11, G_A8, G_A5, G_A2, hg_d0n (by omega)]; exact R_A14, by omega⟩⟩)
          ·
            refine hpj_zne (by rfl) rfl (fun q15 => False.elim (by omega)) (fun q15 => ?_)
            refine hpa_iconst (by rfl) rfl ?_
            exact hpa_ireturn (by rfl) (by rfl) (hP _ _ ⟨_, rfl, Or.inr ⟨hk_0, F_A11⟩⟩)
        ·
          refine hpj_zeq (by rfl) rfl (fun q16 => ?_) (fun q16 => False.elim (by omega))
          refine hpa_iconst (by rfl) rfl ?_
          exact hpa_ireturn (by rfl) (by rfl) (hP _ _ ⟨_, rfl, Or.inr ⟨hk_0, F_A8⟩⟩)
      ·
        refine hpj_zne (by rfl) rfl (fun q17 => False.elim (by omega)) (fun q17 => ?_)
        refine hpa_iconst (by rfl) rfl ?_
        exact hpa_ireturn (by rfl) (by rfl) (hP _ _ ⟨_, rfl, Or.inr ⟨hk_0, F_A5⟩⟩)
    ·
      refine hpj_zeq (by rfl) rfl (fun q18 => ?_) (fun q18 => False.elim (by omega))
      refine hpa_iconst (by rfl) rfl ?_
      exact hpa_ireturn (by rfl) (by rfl) (hP _ _ ⟨_, rfl, Or.inr ⟨hk_0, F_A2⟩⟩)
  ·
    refine hpa_aload_n (by rfl) rfl ?_
    refine hpa_iconst (by rfl) rfl ?_
    refine hpa_call0 (by rfl) (by rfl) (by rfl) (by rfl) (by rfl) (by rfl) (hP39 hT (Int32.ofNat 2) hB ⟨_, hqq, (hqd0_sends hK).trans (if_neg (by omega))⟩ (by decide) hk_2) ?_
    rintro _ A19 ⟨z20, rfl, fz_A19, F_A19⟩
    exact hpa_ireturn (by rfl) (hn_fitB (by omega) (by omega)) (hP _ _ ⟨_, rfl, Or.inr ⟨fz_A19, F_A19⟩⟩)
theorem hP46 {g d : Nat} {A : hs_A} {K V S : Nat → Int} {E : Nat → Nat → Bool} {T : Nat} {t : Nat} {a b c : Nat} {ns : List Nat} {nm sn : Nat} {o : Option (Nat × Nat)} {zz : Nat} (hT : hTT T) (hB : hcB K V S E T A t (0, a, b, c, ns, nm, sn, o)) (hR : hcR2 V S T A ns none sn o (hg_q K V E t).1 [] zz) (hz8 : zz ≤ 8 + t) (hK : K t = 1) : hpC g d 46 hm_m46 [.ref 21] A (fun r A' => ∃ z : Int32, r = some (.int z) ∧ ((z.toInt = 1 ∧ hcOK2 K V S E T A' t) ∨ (z.toInt = 0 ∧ hcF K V S E T A'))) := hpC.all (fun f d => hW46 hT hB hR hz8 hK (fun r A' h => h))
theorem hW47 {g d f : Nat} {A : hs_A} {K V S : Nat → Int} {E : Nat → Nat → Bool} {T : Nat} {t : Nat} {a b c : Nat} {ns : List Nat} {nm sn : Nat} {o : Option (Nat × Nat)} {zz : Nat} (hT : hTT T) (hB : hcB K V S E T A t (0, a, b, c, ns, nm, sn, o)) (hR : hcR2 V S T A ns none sn o (hg_q K V E t).1 [] zz) (hz8 : zz ≤ 8 + t) (hK : K t = 6) {P : Option Value → hs_A → Prop} (hP : ∀ (r : Option Value) (A' : hs_A), (∃ z : Int32, r = some (.int z) ∧ ((z.toInt = 1 ∧ hcOK2 K V S E T A' t) ∨ (z.toInt = 0 ∧ hcF K V S E T A'))) → P r A') : hpa (f, g) d (some (.boolean)) hm_t47 0 [.ref 21] [] A P := by
  have k0 := hk_0
  have k1 := hk_1
  have k24 := hk_24
  have k99 := hk_99
  have hT9 : T ≤ 11 := by rcases hT with rfl | rfl <;> omega
  obtain ⟨h400, hpre, hix, hkk, hss, hsz, hvv⟩ := hB.at
  have hnx := hB.2.2.1
  have hqq := hB.2.2.2.1
  refine hpa_aload_n (by rfl) rfl ?_
  refine hpa_call0 (by rfl) (by rfl) (by rfl) (by rfl) (by rfl) (by rfl) (hP41 hT hB hR (hqd0_grief hK)) ?_
  rintro _ A1 ⟨z2, rfl, (⟨fz_A1, B_A1, R_A1, G_A1, N_A1⟩ | ⟨fz_A1, F_A1⟩)⟩
  ·
    refine hpj_zeq (by rfl) rfl (fun q3 => False.elim (by omega)) (fun q3 => ?_)
    refine hpa_aload_n (by rfl) rfl ?_
    refine hpa_iconst (by rfl) rfl ?_
    refine hpa_bipush (by rfl) rfl ?_
    refine hpa_call0 (by rfl) (by rfl) (by rfl) (by rfl) (by rfl) (by rfl) (hP43 hT (Int32.ofNat 1) (Int32.ofNat 99) hk_1 hk_99 B_A1 R_A1 rfl) ?_
    rintro _ A4 ⟨z5, rfl, (⟨fz_A4, B_A4, R_A4, G_A4, N_A4⟩ | ⟨fz_A4, F_A4⟩)⟩
    ·
      refine hpj_zeq (by rfl) rfl (fun q6 => False.elim (by omega)) (fun q6 => ?_)
      refine hpa_aload_n (by rfl) rfl ?_
      refine hpa_bipush (by rfl) rfl ?_
      refine hpa_call0 (by rfl) (by rfl) (by rfl) (by rfl) (by rfl) (by rfl) (hP42 hT (Int32.ofNat 24) B_A4 R_A4 hk_24 rfl) ?_
      rintro _ A7 ⟨z8, rfl, (⟨fz_A7, B_A7, R_A7, G_A7, N_A7⟩ | ⟨fz_A7, F_A7⟩)⟩
      ·
        refine hpj_zne (by rfl) rfl (fun q9 => ?_) (fun q9 => False.elim (by omega))
        refine hpa_aload_n (by rfl) rfl ?_
        refine hpj_getT (by rfl) (by rfl) (by rfl) B_A7.1 ?_
        refine hpa_aload_n (by rfl) rfl ?_
        refine hpj_getK (by rfl) (by rfl) (by rfl) rfl ?_
        refine hpj_putI (by rfl) (hsT hT) (by rfl) (by rfl) (fun A10 eA10 fA10 => ?_)
        have BA10 := B_A7.up eA10 fA10 (by omega) (by omega) (by omega)
        have RA10 := hcR2.of (R_A7.r.up eA10 fA10 (by omega) (by omega)) (R_A7.m.fld (k := 6) (v := V (t + 1)) (by omega) eA10 fA10 (by rw [N_A7]; exact N_A4.1))
        refine hpa_iconst (by rfl) rfl ?_
        exact hpa_ireturn (by rfl) (by rfl) (hP _ _ ⟨_, rfl, Or.inl ⟨hk_1, _, _, _, _, _, _, _, _, _, by omega, BA10, by rw [G_A7, G_A4, G_A1, hg_d0n (by omega)]; exact RA10, by omega⟩⟩)
      ·
        refine hpj_zne (by rfl) rfl (fun q11 => False.elim (by omega)) (fun q11 => ?_)
        refine hpa_iconst (by rfl) rfl ?_
        exact hpa_ireturn (by rfl) (by rfl) (hP _ _ ⟨_, rfl, Or.inr ⟨hk_0, F_A7⟩⟩)
    ·
      refine hpj_zeq (by rfl) rfl (fun q12 => ?_) (fun q12 => False.elim (by omega))
      refine hpa_iconst (by rfl) rfl ?_
      exact hpa_ireturn (by rfl) (by rfl) (hP _ _ ⟨_, rfl, Or.inr ⟨hk_0, F_A4⟩⟩)
  ·
    refine hpj_zeq (by rfl) rfl (fun q13 => ?_) (fun q13 => False.elim (by omega))
    refine hpa_iconst (by rfl) rfl ?_
    exact hpa_ireturn (by rfl) (by rfl) (hP _ _ ⟨_, rfl, Or.inr ⟨hk_0, F_A1⟩⟩)
theorem hP47 {g d : Nat} {A : hs_A} {K V S : Nat → Int} {E : Nat → Nat → Bool} {T : Nat} {t : Nat} {a b c : Nat} {ns : List Nat} {nm sn : Nat} {o : Option (Nat × Nat)} {zz : Nat} (hT : hTT T) (hB : hcB K V S E T A t (0, a, b, c, ns, nm, sn, o)) (hR : hcR2 V S T A ns none sn o (hg_q K V E t).1 [] zz) (hz8 : zz ≤ 8 + t) (hK : K t = 6) : hpC g d 47 hm_m47 [.ref 21] A (fun r A' => ∃ z : Int32, r = some (.int z) ∧ ((z.toInt = 1 ∧ hcOK2 K V S E T A' t) ∨ (z.toInt = 0 ∧ hcF K V S E T A'))) := hpC.all (fun f d => hW47 hT hB hR hz8 hK (fun r A' h => h))
theorem hW48 {g d f : Nat} {A : hs_A} {K V S : Nat → Int} {E : Nat → Nat → Bool} {T : Nat} {t : Nat} {a b c : Nat} {ns : List Nat} {nm sn : Nat} {o : Option (Nat × Nat)} {zz : Nat} (hT : hTT T) (hB : hcB K V S E T A t (0, a, b, c, ns, nm, sn, o)) (hR : hcR2 V S T A ns none sn o (hg_q K V E t).1 [] zz) (hz8 : zz ≤ 8 + t) (hK : K t = 7) {P : Option Value → hs_A → Prop} (hP : ∀ (r : Option Value) (A' : hs_A), (∃ z : Int32, r = some (.int z) ∧ ((z.toInt = 1 ∧ hcOK2 K V S E T A' t) ∨ (z.toInt = 0 ∧ hcF K V S E T A'))) → P r A') : hpa (f, g) d (some (.boolean)) hm_t48 0 [.ref 21] [] A P := by
  have k0 := hk_0
  have k1 := hk_1
  have k24 := hk_24
  have k9999 := hk_9999
  have hT9 : T ≤ 11 := by rcases hT with rfl | rfl <;> omega
  obtain ⟨h400, hpre, hix, hkk, hss, hsz, hvv⟩ := hB.at
  have hnx := hB.2.2.1
  have hqq := hB.2.2.2.1
  refine hpa_aload_n (by rfl) rfl ?_
  refine hpa_call0 (by rfl) (by rfl) (by rfl) (by rfl) (by rfl) (by rfl) (hP41 hT hB hR (hqd0_seed hK)) ?_
  rintro _ A1 ⟨z2, rfl, (⟨fz_A1, B_A1, R_A1, G_A1, N_A1⟩ | ⟨fz_A1, F_A1⟩)⟩
  ·
    refine hpj_zeq (by rfl) rfl (fun q3 => False.elim (by omega)) (fun q3 => ?_)
    refine hpa_aload_n (by rfl) rfl ?_
    refine hpa_iconst (by rfl) rfl ?_
    refine hpa_sipush (by rfl) rfl ?_
    refine hpa_call0 (by rfl) (by rfl) (by rfl) (by rfl) (by rfl) (by rfl) (hP43 hT (Int32.ofNat 0) (Int32.ofNat 9999) hk_0 hk_9999 B_A1 R_A1 rfl) ?_
    rintro _ A4 ⟨z5, rfl, (⟨fz_A4, B_A4, R_A4, G_A4, N_A4⟩ | ⟨fz_A4, F_A4⟩)⟩
    ·
      refine hpj_zeq (by rfl) rfl (fun q6 => False.elim (by omega)) (fun q6 => ?_)
      refine hpa_aload_n (by rfl) rfl ?_
      refine hpa_bipush (by rfl) rfl ?_
      refine hpa_call0 (by rfl) (by rfl) (by rfl) (by rfl) (by rfl) (by rfl) (hP42 hT (Int32.ofNat 24) B_A4 R_A4 hk_24 rfl) ?_
      rintro _ A7 ⟨z8, rfl, (⟨fz_A7, B_A7, R_A7, G_A7, N_A7⟩ | ⟨fz_A7, F_A7⟩)⟩
      ·
        refine hpj_zne (by rfl) rfl (fun q9 => ?_) (fun q9 => False.elim (by omega))
        refine hpa_aload_n (by rfl) rfl ?_
        refine hpj_getT (by rfl) (by rfl) (by rfl) B_A7.1 ?_
        refine hpa_aload_n (by rfl) rfl ?_
        refine hpj_getK (by rfl) (by rfl) (by rfl) rfl ?_
        refine hpj_putI (by rfl) (hsT hT) (by rfl) (by rfl) (fun A10 eA10 fA10 => ?_)
        have BA10 := B_A7.up eA10 fA10 (by omega) (by omega) (by omega)
        have RA10 := hcR2.of (R_A7.r.up eA10 fA10 (by omega) (by omega)) (R_A7.m.fld (k := 7) (v := V (t + 1)) (by omega) eA10 fA10 (by rw [N_A7]; exact N_A4.1))
        refine hpa_iconst (by rfl) rfl ?_
        exact hpa_ireturn (by rfl) (by rfl) (hP _ _ ⟨_, rfl, Or.inl ⟨hk_1, _, _, _, _, _, _, _, _, _, by omega, BA10, by rw [G_A7, G_A4, G_A1, hg_d0n (by omega)]; exact RA10, by omega⟩⟩)
      ·
        refine hpj_zne (by rfl) rfl (fun q11 => False.elim (by omega)) (fun q11 => ?_)
        refine hpa_iconst (by rfl) rfl ?_
        exact hpa_ireturn (by rfl) (by rfl) (hP _ _ ⟨_, rfl, Or.inr ⟨hk_0, F_A7⟩⟩)
    ·
      refine hpj_zeq (by rfl) rfl (fun q12 => ?_) (fun q12 => False.elim (by omega))
      refine hpa_iconst (by rfl) rfl ?_
      exact hpa_ireturn (by rfl) (by rfl) (hP _ _ ⟨_, rfl, Or.inr ⟨hk_0, F_A4⟩⟩)
  ·
    refine hpj_zeq (by rfl) rfl (fun q13 => ?_) (fun q13 => False.elim (by omega))
    refine hpa_iconst (by rfl) rfl ?_
    exact hpa_ireturn (by rfl) (by rfl) (hP _ _ ⟨_, rfl, Or.inr ⟨hk_0, F_A1⟩⟩)
theorem hP48 {g d : Nat} {A : hs_A} {K V S : Nat → Int} {E : Nat → Nat → Bool} {T : Nat} {t : Nat} {a b c : Nat} {ns : List Nat} {nm sn : Nat} {o : Option (Nat × Nat)} {zz : Nat} (hT : hTT T) (hB : hcB K V S E T A t (0, a, b, c, ns, nm, sn, o)) (hR : hcR2 V S T A ns none sn o (hg_q K V E t).1 [] zz) (hz8 : zz ≤ 8 + t) (hK : K t = 7) : hpC g d 48 hm_m48 [.ref 21] A (fun r A' => ∃ z : Int32, r = some (.int z) ∧ ((z.toInt = 1 ∧ hcOK2 K V S E T A' t) ∨ (z.toInt = 0 ∧ hcF K V S E T A'))) := hpC.all (fun f d => hW48 hT hB hR hz8 hK (fun r A' h => h))
def hcX50 (g d : Nat) : Prop := ∀ {A : hs_A} {K V S : Nat → Int} {E : Nat → Nat → Bool} {T : Nat} {t : Nat} {s : hq_S} {ns : List Nat} {p : Option Nat} {sn : Nat} {o : Option (Nat × Nat)} {dd : hg_D} {zz : Nat} {ifs ctx dp q : Nat} {r : List Nat × Nat × Nat × Option (Nat × Nat)} {kk : hg_W} {base oc : hg_C} {ww : List Nat} (hT : hTT T) (a1 : Int32) (hB : hcB K V S E T A t s) (hR : hcR2 V S T A ns p sn o dd (base ++ oc) zz) (hu : hq_dl K V E t s = hq_unit K t ifs ctx dp r) (hdp : a1.toInt = (dp : Int)) (hV : hg_V K V) (hG : hg_q K V E t = (dd, kk, oc, ww)) (hue : ∀ e, hg_dl K V t s e = hg_un K V t e) (hw : hg_t0 ww) (hz8 : zz + q ≤ 8 + t) (hq2 : 2 ≤ q), hpC g d 50 hm_m50 [.ref 21, .int a1] A (fun r1 A' => ∃ z : Int32, r1 = some (.int z) ∧ ((z.toInt = 1 ∧ ∃ (t' : Nat) (oc' oc2 : hg_C) (w' : List Nat) (z' : Nat), t < t' ∧ hcB K V S E T A' t' (15, ifs, ctx, dp, r) ∧ hg_q K V E t' = (dd, kk, oc', w') ∧ hg_fl false oc' w' = (oc2, ww) ∧ hcR2 V S T A' ns p sn o dd (base ++ oc2) z' ∧ (z' + q ≤ 8 + t' ∧ z' + oc.length = zz + oc2.length) ∧ ¬ (26 ≤ K t' ∧ K t' ≤ 29)) ∨ (z.toInt = 0 ∧ hcF K V S E T A')))
def hcX51 (g d : Nat) : Prop := ∀ {A : hs_A} {K V S : Nat → Int} {E : Nat → Nat → Bool} {T : Nat} {t : Nat} {s : hq_S} {ns : List Nat} {p : Option Nat} {sn : Nat} {o : Option (Nat × Nat)} {dd : hg_D} {zz : Nat} {ifs ctx dp q : Nat} {r : List Nat × Nat × Nat × Option (Nat × Nat)} {kk : hg_W} {base oc : hg_C} {ww : List Nat} (hT : hTT T) (a1 : Int32) (hB : hcB K V S E T A t s) (hR : hcR2 V S T A ns p sn o dd (base ++ oc) zz) (hu : hq_dl K V E t s = hq_unit K t ifs ctx dp r) (hdp : a1.toInt = (dp : Int)) (hV : hg_V K V) (hG : hg_q K V E t = (dd, kk, oc, ww)) (hue : ∀ e, hg_dl K V t s e = hg_un K V t e) (hw : hg_t1 ww) (hz8 : zz + q ≤ 8 + t) (hq2 : 2 ≤ q), hpC g d 51 hm_m51 [.ref 21, .int a1] A (fun r1 A' => ∃ z : Int32, r1 = some (.int z) ∧ ((z.toInt = 1 ∧ ∃ (t' : Nat) (oc' oc2 : hg_C) (w' : List Nat) (z' : Nat), t < t' ∧ hcB K V S E T A' t' (15, ifs, ctx, dp, r) ∧ hg_q K V E t' = (dd, kk, oc', w') ∧ hg_fl true oc' w' = (oc2, ww) ∧ hcR2 V S T A' ns p sn o dd (base ++ oc2) z' ∧ (z' + q ≤ 8 + t' ∧ z' + oc.length = zz + oc2.length) ∧ ¬ (28 ≤ K t' ∧ K t' ≤ 29)) ∨ (z.toInt = 0 ∧ hcF K V S E T A')))
def hcX52 (g d : Nat) : Prop := ∀ {A : hs_A} {K V S : Nat → Int} {E : Nat → Nat → Bool} {T : Nat} {t : Nat} {s : hq_S} {ns : List Nat} {p : Option Nat} {sn : Nat} {o : Option (Nat × Nat)} {dd : hg_D} {zz : Nat} {ifs ctx dp q : Nat} {r : List Nat × Nat × Nat × Option (Nat × Nat)} {kk : hg_W} {base oc : hg_C} {ww : List Nat} (hT : hTT T) (a1 : Int32) (hB : hcB K V S E T A t s) (hR : hcR2 V S T A ns p sn o dd (base ++ oc) zz) (hu : hq_dl K V E t s = hq_unit K t ifs ctx dp r) (hdp : a1.toInt = (dp : Int)) (hV : hg_V K V) (hG : hg_q K V E t = (dd, kk, oc, ww)) (hue : ∀ e, hg_dl K V t s e = hg_un K V t e) (hz8 : zz + q ≤ 8 + t) (hq2 : 2 ≤ q), hpC g d 52 hm_m52 [.ref 21, .int a1] A (fun r1 A' => ∃ z : Int32, r1 = some (.int z) ∧ ((z.toInt = 1 ∧ ∃ (t' : Nat) (oc' : hg_C) (z' : Nat), t < t' ∧ hcB K V S E T A' t' (15, ifs, ctx, dp, r) ∧ hg_q K V E t' = (dd, kk, oc', ww) ∧ hcR2 V S T A' ns p sn o dd (base ++ oc') z' ∧ (z' + q ≤ 8 + t' ∧ z' + oc.length = zz + oc'.length)) ∨ (z.toInt = 0 ∧ hcF K V S E T A')))
theorem hW12d {g d f : Nat} {A : hs_A} {T : Nat} (hT : hTT T) (a1 a2 : Int32) {P : Option Value → hs_A → Prop} (hP : ∀ (r : Option Value) (A' : hs_A), (∃ z : Int32, r = some (.int z) ∧ hcW T A A') → P r A') : hpa (f, g) d (some (.int)) hm_t12 0 [.ref (T + 5), .int a1, .int a2] [] A P := by
  have k1 := hk_1
  have k3 := hk_3
  have k408 := hk_408
  have hT9 : T ≤ 11 := by rcases hT with rfl | rfl <;> omega
  refine hpa_iload_n (by rfl) rfl ?_
  refine hpa_iconst (by rfl) rfl ?_
  refine hpj_cne (by rfl) rfl hk_1 (fun q1 => ?_) (fun q1 => ?_)
  ·
    refine hpa_aload_n (by rfl) rfl ?_
    refine hpj_getK (by rfl) (hsT4 hT) (by rfl) rfl ?_
    refine hpa_sipush (by rfl) rfl ?_
    refine hpj_cge (by rfl) rfl hk_408 (fun q2 => ?_) (fun q2 => ?_)
    ·
      refine hpa_aload_n (by rfl) rfl ?_
      refine hpj_getK (by rfl) (hsT4 hT) (by rfl) rfl ?_
      refine hpa_iconst (by rfl) rfl ?_
      refine hpj_isubU (by rfl) (fun z3 => ?_)
      exact hpa_ireturn (by rfl) rfl (hP _ _ ⟨_, rfl, hcW.rfl⟩)
    ·
      refine hpa_aload_n (by rfl) rfl ?_
      refine hpa_get (v := .ref (T + 6)) (by rfl) (hsT4 hT) (by rfl) (hvT hT (by omega)) ?_
      refine hpa_aload_n (by rfl) rfl ?_
      refine hpj_getK (by rfl) (hsT4 hT) (by rfl) rfl ?_
      refine hpa_iload_n (by rfl) rfl ?_
      refine hpa_iconst (by rfl) rfl ?_
      refine hpj_ishlU (by rfl) (fun z4 => ?_)
      refine hpa_iload_n (by rfl) rfl ?_
      refine hpj_iorU (by rfl) (fun z5 => ?_)
      refine hpx_iast (by rfl) (hsT5 hT) (fun A6 h0A6 h1A6 eA6 fA6 gA6 => ?_)
      have WA6 := (hcW.rfl (T := T) (A := A)).a eA6 fA6 gA6 (by omega)
      refine hpa_aload_n (by rfl) rfl ?_
      refine hpa_dupR (by rfl) ?_
      refine hpj_getK (by rfl) (hsT4 hT) (by rfl) (hkA eA6 rfl) ?_
      refine hpa_iconst (by rfl) rfl ?_
      refine hpj_iaddU (by rfl) (fun z7 => ?_)
      refine hpj_putI (by rfl) (hsT4 hT) (by rfl) (by rfl) (fun A8 eA8 fA8 => ?_)
      have WA8 := hcW.f (k := 4) WA6 eA8 fA8
      refine hpa_aload_n (by rfl) rfl ?_
      refine hpj_getK (by rfl) (hsT4 hT) (by rfl) (hkS eA8) ?_
      refine hpa_iconst (by rfl) rfl ?_
      refine hpj_isubU (by rfl) (fun z9 => ?_)
      exact hpa_ireturn (by rfl) rfl (hP _ _ ⟨_, rfl, WA8⟩)
  ·
    refine hpa_aload_n (by rfl) rfl ?_
    refine hpa_dupR (by rfl) ?_
    refine hpj_getK (by rfl) (hsT4 hT) (by rfl) rfl ?_
    refine hpa_iconst (by rfl) rfl ?_
    refine hpa_iload_n (by rfl) rfl ?_
    refine hpj_ishlU (by rfl) (fun z10 => ?_)
    refine hpj_iorU (by rfl) (fun z11 => ?_)
    refine hpj_putI (by rfl) (hsT4 hT) (by rfl) (by rfl) (fun A12 eA12 fA12 => ?_)
    have WA12 := hcW.f (k := 5) hcW.rfl (T := T) (A := A) eA12 fA12
    refine hpa_aload_n (by rfl) rfl ?_
    refine hpj_getK (by rfl) (hsT4 hT) (by rfl) (hkF eA12 (by omega) rfl) ?_
    refine hpa_sipush (by rfl) rfl ?_
    refine hpj_cge (by rfl) rfl hk_408 (fun q13 => ?_) (fun q13 => ?_)
    ·
      refine hpa_aload_n (by rfl) rfl ?_
      refine hpj_getK (by rfl) (hsT4 hT) (by rfl) (hkF eA12 (by omega) rfl) ?_
      refine hpa_iconst (by rfl) rfl ?_
      refine hpj_isubU (by rfl) (fun z14 => ?_)
      exact hpa_ireturn (by rfl) rfl (hP _ _ ⟨_, rfl, WA12⟩)
    ·
      refine hpa_aload_n (by rfl) rfl ?_
      refine hpa_get (v := .ref (T + 6)) (by rfl) (hsT4 hT) (by rfl) (hvT hT (by omega)) ?_
      refine hpa_aload_n (by rfl) rfl ?_
      refine hpj_getK (by rfl) (hsT4 hT) (by rfl) (hkF eA12 (by omega) rfl) ?_
      refine hpa_iload_n (by rfl) rfl ?_
      refine hpa_iconst (by rfl) rfl ?_
      refine hpj_ishlU (by rfl) (fun z15 => ?_)
      refine hpa_iload_n (by rfl) rfl ?_
      refine hpj_iorU (by rfl) (fun z16 => ?_)
      refine hpx_iast (by rfl) (hsT5 hT) (fun A17 h0A17 h1A17 eA17 fA17 gA17 => ?_)
      have WA17 := (WA12).a eA17 fA17 gA17 (by omega)
      refine hpa_aload_n (by rfl) rfl ?_
      refine hpa_dupR (by rfl) ?_
      refine hpj_getK (by rfl) (hsT4 hT) (by rfl) (hkA eA17 (hkF eA12 (by omega) rfl)) ?_
      refine hpa_iconst (by rfl) rfl ?_
      refine hpj_iaddU (by rfl) (fun z18 => ?_)
      refine hpj_putI (by rfl) (hsT4 hT) (by rfl) (by rfl) (fun A19 eA19 fA19 => ?_)
      have WA19 := hcW.f (k := 4) WA17 eA19 fA19
      refine hpa_aload_n (by rfl) rfl ?_
      refine hpj_getK (by rfl) (hsT4 hT) (by rfl) (hkS eA19) ?_
      refine hpa_iconst (by rfl) rfl ?_
      refine hpj_isubU (by rfl) (fun z20 => ?_)
      exact hpa_ireturn (by rfl) rfl (hP _ _ ⟨_, rfl, WA19⟩)
theorem hP12d {g d : Nat} {A : hs_A} {T : Nat} (hT : hTT T) (a1 a2 : Int32) : hpC g d 12 hm_m12 [.ref (T + 5), .int a1, .int a2] A (fun r A' => ∃ z : Int32, r = some (.int z) ∧ hcW T A A') := hpC.all (fun f d => hW12d hT a1 a2 (fun r A' h => h))
theorem hW50 {g d f : Nat} {A : hs_A} {K V S : Nat → Int} {E : Nat → Nat → Bool} {T : Nat} {t : Nat} {s : hq_S} {ns : List Nat} {p : Option Nat} {sn : Nat} {o : Option (Nat × Nat)} {dd : hg_D} {zz : Nat} {ifs ctx dp q : Nat} {r : List Nat × Nat × Nat × Option (Nat × Nat)} {kk : hg_W} {base oc : hg_C} {ww : List Nat} (i51 : hcX51 g d) (hT : hTT T) (a1 : Int32) (hB : hcB K V S E T A t s) (hR : hcR2 V S T A ns p sn o dd (base ++ oc) zz) (hu : hq_dl K V E t s = hq_unit K t ifs ctx dp r) (hdp : a1.toInt = (dp : Int)) (hV : hg_V K V) (hG : hg_q K V E t = (dd, kk, oc, ww)) (hue : ∀ e, hg_dl K V t s e = hg_un K V t e) (hw : hg_t0 ww) (hz8 : zz + q ≤ 8 + t) (hq2 : 2 ≤ q) {P : Option Value → hs_A → Prop} (hP : ∀ (r1 : Option Value) (A' : hs_A), (∃ z : Int32, r1 = some (.int z) ∧ ((z.toInt = 1 ∧ ∃ (t' : Nat) (oc' oc2 : hg_C) (w' : List Nat) (z' : Nat), t < t' ∧ hcB K V S E T A' t' (15, ifs, ctx, dp, r) ∧ hg_q K V E t' = (dd, kk, oc', w') ∧ hg_fl false oc' w' = (oc2, ww) ∧ hcR2 V S T A' ns p sn o dd (base ++ oc2) z' ∧ (z' + q ≤ 8 + t' ∧ z' + oc.length = zz + oc2.length) ∧ ¬ (26 ≤ K t' ∧ K t' ≤ 29)) ∨ (z.toInt = 0 ∧ hcF K V S E T A'))) → P r1 A') : hpa (f, g) d (some (.boolean)) hm_t50 0 [.ref 21, .int a1, .retAddr 0, .retAddr 0, .retAddr 0] [] A P := by
  have k0 := hk_0
  have k1 := hk_1
  have k2 := hk_2
  have k26 := hk_26
  have k27 := hk_27
  have k3 := hk_3
  have k400 := hk_400
  have hT9 : T ≤ 11 := by rcases hT with rfl | rfl <;> omega
  obtain ⟨h400, hpre, hix, hkk, hss, hsz, hvv⟩ := hB.at
  have hnx := hB.2.2.1
  have hqq := hB.2.2.2.1
  have L8 : ∀ (f : Nat) (x8_2 : Int32) (x8_3 : Int32) (x8_4 : Value) (A8 : hs_A) (D8 : (x8_2.toInt = 1 ∧ ∃ (t' : Nat) (oc' oc2 : hg_C) (w' : List Nat) (z' : Nat), (t : Int) + 2 * x8_3.toInt < (t' : Int) ∧ hcB K V S E T A8 t' (15, ifs, ctx, dp, r) ∧ hg_q K V E t' = (dd, kk, oc', w') ∧ hg_fl false oc' w' = (oc2, ww) ∧ hcR2 V S T A8 ns p sn o dd (base ++ oc2) z' ∧ (z' + q ≤ 8 + t' ∧ z' + oc.length = zz + oc2.length) ∧ ¬ (28 ≤ K t' ∧ K t' ≤ 29)) ∨ (x8_2.toInt = 0 ∧ hcF K V S E T A8)) (lo8 : 0 ≤ x8_3.toInt), hpa (f, g) d (some (.boolean)) hm_t50 8 [.ref 21, .int a1, .int x8_2, .int x8_3, x8_4] [] A8 P := by
    intro f
    induction f with
    | zero => intros; exact hpa.zero
    | succ f ih8 =>
      intro x8_2 x8_3 x8_4 A8 D8 lo8
      rcases D8 with ⟨fz8, t1, c8, o8, w8, z8, lt8, B8, G8, e8, R8, b8, Q8⟩ | ⟨fz8, F8⟩
      ·
        have h48 := B8.at.1
        refine hpa_iload_nS (by rfl) rfl ?_
        refine hpa_sipush (by rfl) rfl ?_
        refine hpj_cge (by rfl) rfl hk_400 (fun q1 => False.elim (by omega)) (fun q1 => ?_)
        refine hpa_iload_n (by rfl) rfl ?_
        refine hpj_zeq (by rfl) rfl (fun q2 => False.elim (by omega)) (fun q2 => ?_)
        refine hpa_aload_n (by rfl) rfl ?_
        refine hpa_call0 (by rfl) (by rfl) (by rfl) (by rfl) (by rfl) (by rfl) (hP38 hT B8) ?_
        rintro _ _ ⟨rfl, z4, rfl, fz_A3⟩
        refine hpa_s1 (by rfl) (Or.inr ⟨_, rfl, rfl⟩) rfl ?_
        refine hpa_iload (by rfl) rfl ?_
        refine hpa_bipush (by rfl) rfl ?_
        refine hpj_ceq (by rfl) rfl hk_26 (fun q5 => ?_) (fun q5 => ?_)
        ·
          refine hpa_aload_n (by rfl) rfl ?_
          refine hpa_call0 (by rfl) (by rfl) (by rfl) (by rfl) (by rfl) (by rfl) (hP41 hT B8 R8 (hqd15_op (by omega))) ?_
          rintro _ A6 ⟨z7, rfl, (⟨fz_A6, B_A6, R_A6, G_A6, N_A6⟩ | ⟨fz_A6, F_A6⟩)⟩
          ·
            have hX : K t1 = (((K t1).toNat : Nat) : Int) := by omega
            have GO : hg_q K V E (t1 + 1) = (dd, kk, o8, (K t1).toNat :: ww) := by rw [G_A6, G8]; exact hg_dop hX (by omega) (by omega) (by rw [decide_eq_false (by omega)]; exact e8)
            refine hpj_zeq (by rfl) rfl (fun q8 => False.elim (by omega)) (fun q8 => ?_)
            refine hpa_aload_n (by rfl) rfl ?_
            refine hpa_iload_n (by rfl) rfl ?_
            refine hpa_call0 (by rfl) (by rfl) (by rfl) (by rfl) (by rfl) (by rfl) (i51 hT a1 B_A6 R_A6 rfl hdp hV GO (fun _ => rfl) (Or.inr (by omega)) (show _ + (q + 1) ≤ 8 + (t1 + 1) by omega) (by omega)) ?_
            rintro _ A9 ⟨z10, rfl, (⟨fz_A9, X_A9⟩ | ⟨fz_A9, F_A9⟩)⟩
            ·
              obtain ⟨tX_A9, pX_A9, oX_A9, wX_A9, zX_A9, ltX_A9, BX_A9, GX_A9, eX_A9, RX_A9, bX_A9, QX_A9⟩ := X_A9
              have h4X_A9 := BX_A9.at.1
              refine hpj_zeq (by rfl) rfl (fun q11 => False.elim (by omega)) (fun q11 => ?_)
              refine hpa_iconst (by rfl) rfl ?_
              refine hpa_goto (by rfl) ?_
              refine hpa_s1 (by rfl) (Or.inl ⟨_, rfl, rfl⟩) rfl ?_
              refine hpa_aload_n (by rfl) rfl ?_
              refine hpj_getT (by rfl) (by rfl) (by rfl) BX_A9.1 ?_
              refine hpa_get (v := .ref (T + 5)) (by rfl) (hsT hT) (by rfl) (hvT hT (by omega)) ?_
              refine hpa_iload (by rfl) rfl ?_
              refine hpa_bipush (by rfl) rfl ?_
              refine hpj_cne (by rfl) rfl hk_26 (fun q12 => ?_) (fun q12 => ?_)
              ·
                refine hpa_iconst (by rfl) rfl ?_
                refine hpa_iconst (by rfl) rfl ?_
                refine hpa_call0 (by rfl) (by rfl) (by rfl) (hsT4 hT) (by rfl) (by rfl) (hP12 (k := 3) hT (Int32.ofNat 3) (Int32.ofNat 0) RX_A9 hk_3 hk_0 (by omega) (by omega) (by omega) (by omega) (by omega)) ?_
                rintro _ A13 ⟨z14, rfl, W_A13, Z_A13, R_A13⟩
                have BW_A13 := BX_A9.W hT9 W_A13
                have hx27 : (K t1).toNat - 24 = 3 := by omega
                have E82 := (hg_fl_add hw (x := (K t1).toNat) (by omega) eX_A9)
                rw [hx27] at E82
                rw [List.append_assoc] at R_A13
                refine hpa_popI (by rfl) ?_
                refine hpj_iinc (by rfl) rfl rfl hk_1 (by omega) (by omega) (fun _ => rfl) (fun z15 ez15 => ?_)
                refine hpa_goto (by rfl) ?_
                exact ih8 (Int32.ofNat 1) z15 (.int z4) A13 (Or.inl ⟨hk_1, _, _, _, _, _, by omega, BW_A13, GX_A9, E82, R_A13, ⟨by omega, by rw [hg_ln]; omega⟩, QX_A9⟩) (by omega)
              ·
                refine hpa_iconst (by rfl) rfl ?_
                refine hpa_goto (by rfl) ?_
                refine hpa_iconst (by rfl) rfl ?_
                refine hpa_call0 (by rfl) (by rfl) (by rfl) (hsT4 hT) (by rfl) (by rfl) (hP12 (k := 2) hT (Int32.ofNat 2) (Int32.ofNat 0) RX_A9 hk_2 hk_0 (by omega) (by omega) (by omega) (by omega) (by omega)) ?_
                rintro _ A16 ⟨z17, rfl, W_A16, Z_A16, R_A16⟩
                have BW_A16 := BX_A9.W hT9 W_A16
                have hx26 : (K t1).toNat - 24 = 2 := by omega
                have E82 := (hg_fl_add hw (x := (K t1).toNat) (by omega) eX_A9)
                rw [hx26] at E82
                rw [List.append_assoc] at R_A16
                refine hpa_popI (by rfl) ?_
                refine hpj_iinc (by rfl) rfl rfl hk_1 (by omega) (by omega) (fun _ => rfl) (fun z18 ez18 => ?_)
                refine hpa_goto (by rfl) ?_
                exact ih8 (Int32.ofNat 1) z18 (.int z4) A16 (Or.inl ⟨hk_1, _, _, _, _, _, by omega, BW_A16, GX_A9, E82, R_A16, ⟨by omega, by rw [hg_ln]; omega⟩, QX_A9⟩) (by omega)
            ·
              refine hpj_zeq (by rfl) rfl (fun q19 => ?_) (fun q19 => False.elim (by omega))
              refine hpa_iconst (by rfl) rfl ?_
              refine hpa_s1 (by rfl) (Or.inl ⟨_, rfl, rfl⟩) rfl ?_
              refine hpa_aload_n (by rfl) rfl ?_
              refine hpj_getT (by rfl) (by rfl) (by rfl) F_A9.1 ?_
              refine hpa_get (v := .ref (T + 5)) (by rfl) (hsT hT) (by rfl) (hvT hT (by omega)) ?_
              refine hpa_iload (by rfl) rfl ?_
              refine hpa_bipush (by rfl) rfl ?_
              refine hpj_cne (by rfl) rfl hk_26 (fun q20 => ?_) (fun q20 => ?_)
              ·
                refine hpa_iconst (by rfl) rfl ?_
                refine hpa_iconst (by rfl) rfl ?_
                refine hpa_call0 (by rfl) (by rfl) (by rfl) (hsT4 hT) (by rfl) (by rfl) (hP12d hT (Int32.ofNat 3) (Int32.ofNat 0)) ?_
                rintro _ A21 ⟨z22, rfl, W_A21⟩
                have FW_A21 := F_A9.W hT9 W_A21
                refine hpa_popI (by rfl) ?_
                refine hpj_iinc (by rfl) rfl rfl hk_1 (by omega) (by omega) (fun _ => rfl) (fun z23 ez23 => ?_)
                refine hpa_goto (by rfl) ?_
                exact ih8 (Int32.ofNat 0) z23 (.int z4) A21 (Or.inr ⟨hk_0, FW_A21⟩) (by omega)
              ·
                refine hpa_iconst (by rfl) rfl ?_
                refine hpa_goto (by rfl) ?_
                refine hpa_iconst (by rfl) rfl ?_
                refine hpa_call0 (by rfl) (by rfl) (by rfl) (hsT4 hT) (by rfl) (by rfl) (hP12d hT (Int32.ofNat 2) (Int32.ofNat 0)) ?_
                rintro _ A24 ⟨z25, rfl, W_A24⟩
                have FW_A24 := F_A9.W hT9 W_A24
                refine hpa_popI (by rfl) ?_
                refine hpj_iinc (by rfl) rfl rfl hk_1 (by omega) (by omega) (fun _ => rfl) (fun z26 ez26 => ?_)
                refine hpa_goto (by rfl) ?_
                exact ih8 (Int32.ofNat 0) z26 (.int z4) A24 (Or.inr ⟨hk_0, FW_A24⟩) (by omega)
          ·
            refine hpj_zeq (by rfl) rfl (fun q27 => ?_) (fun q27 => False.elim (by omega))
            refine hpa_iconst (by rfl) rfl ?_
            refine hpa_s1 (by rfl) (Or.inl ⟨_, rfl, rfl⟩) rfl ?_
            refine hpa_aload_n (by rfl) rfl ?_
            refine hpj_getT (by rfl) (by rfl) (by rfl) F_A6.1 ?_
            refine hpa_get (v := .ref (T + 5)) (by rfl) (hsT hT) (by rfl) (hvT hT (by omega)) ?_
            refine hpa_iload (by rfl) rfl ?_
            refine hpa_bipush (by rfl) rfl ?_
            refine hpj_cne (by rfl) rfl hk_26 (fun q28 => ?_) (fun q28 => ?_)
            ·
              refine hpa_iconst (by rfl) rfl ?_
              refine hpa_iconst (by rfl) rfl ?_
              refine hpa_call0 (by rfl) (by rfl) (by rfl) (hsT4 hT) (by rfl) (by rfl) (hP12d hT (Int32.ofNat 3) (Int32.ofNat 0)) ?_
              rintro _ A29 ⟨z30, rfl, W_A29⟩
              have FW_A29 := F_A6.W hT9 W_A29
              refine hpa_popI (by rfl) ?_
              refine hpj_iinc (by rfl) rfl rfl hk_1 (by omega) (by omega) (fun _ => rfl) (fun z31 ez31 => ?_)
              refine hpa_goto (by rfl) ?_
              exact ih8 (Int32.ofNat 0) z31 (.int z4) A29 (Or.inr ⟨hk_0, FW_A29⟩) (by omega)
            ·
              refine hpa_iconst (by rfl) rfl ?_
              refine hpa_goto (by rfl) ?_
              refine hpa_iconst (by rfl) rfl ?_
              refine hpa_call0 (by rfl) (by rfl) (by rfl) (hsT4 hT) (by rfl) (by rfl) (hP12d hT (Int32.ofNat 2) (Int32.ofNat 0)) ?_
              rintro _ A32 ⟨z33, rfl, W_A32⟩
              have FW_A32 := F_A6.W hT9 W_A32
              refine hpa_popI (by rfl) ?_
              refine hpj_iinc (by rfl) rfl rfl hk_1 (by omega) (by omega) (fun _ => rfl) (fun z34 ez34 => ?_)
              refine hpa_goto (by rfl) ?_
              exact ih8 (Int32.ofNat 0) z34 (.int z4) A32 (Or.inr ⟨hk_0, FW_A32⟩) (by omega)
        ·
          refine hpa_iload (by rfl) rfl ?_
          refine hpa_bipush (by rfl) rfl ?_
          refine hpj_ceq (by rfl) rfl hk_27 (fun q35 => ?_) (fun q35 => ?_)
          ·
            refine hpa_aload_n (by rfl) rfl ?_
            refine hpa_call0 (by rfl) (by rfl) (by rfl) (by rfl) (by rfl) (by rfl) (hP41 hT B8 R8 (hqd15_op (by omega))) ?_
            rintro _ A36 ⟨z37, rfl, (⟨fz_A36, B_A36, R_A36, G_A36, N_A36⟩ | ⟨fz_A36, F_A36⟩)⟩
            ·
              have hX : K t1 = (((K t1).toNat : Nat) : Int) := by omega
              have GO : hg_q K V E (t1 + 1) = (dd, kk, o8, (K t1).toNat :: ww) := by rw [G_A36, G8]; exact hg_dop hX (by omega) (by omega) (by rw [decide_eq_false (by omega)]; exact e8)
              refine hpj_zeq (by rfl) rfl (fun q38 => False.elim (by omega)) (fun q38 => ?_)
              refine hpa_aload_n (by rfl) rfl ?_
              refine hpa_iload_n (by rfl) rfl ?_
              refine hpa_call0 (by rfl) (by rfl) (by rfl) (by rfl) (by rfl) (by rfl) (i51 hT a1 B_A36 R_A36 rfl hdp hV GO (fun _ => rfl) (Or.inr (by omega)) (show _ + (q + 1) ≤ 8 + (t1 + 1) by omega) (by omega)) ?_
              rintro _ A39 ⟨z40, rfl, (⟨fz_A39, X_A39⟩ | ⟨fz_A39, F_A39⟩)⟩
              ·
                obtain ⟨tX_A39, pX_A39, oX_A39, wX_A39, zX_A39, ltX_A39, BX_A39, GX_A39, eX_A39, RX_A39, bX_A39, QX_A39⟩ := X_A39
                have h4X_A39 := BX_A39.at.1
                refine hpj_zeq (by rfl) rfl (fun q41 => False.elim (by omega)) (fun q41 => ?_)
                refine hpa_iconst (by rfl) rfl ?_
                refine hpa_goto (by rfl) ?_
                refine hpa_s1 (by rfl) (Or.inl ⟨_, rfl, rfl⟩) rfl ?_
                refine hpa_aload_n (by rfl) rfl ?_
                refine hpj_getT (by rfl) (by rfl) (by rfl) BX_A39.1 ?_
                refine hpa_get (v := .ref (T + 5)) (by rfl) (hsT hT) (by rfl) (hvT hT (by omega)) ?_
                refine hpa_iload (by rfl) rfl ?_
                refine hpa_bipush (by rfl) rfl ?_
                refine hpj_cne (by rfl) rfl hk_26 (fun q42 => ?_) (fun q42 => ?_)
                ·
                  refine hpa_iconst (by rfl) rfl ?_
                  refine hpa_iconst (by rfl) rfl ?_
                  refine hpa_call0 (by rfl) (by rfl) (by rfl) (hsT4 hT) (by rfl) (by rfl) (hP12 (k := 3) hT (Int32.ofNat 3) (Int32.ofNat 0) RX_A39 hk_3 hk_0 (by omega) (by omega) (by omega) (by omega) (by omega)) ?_
                  rintro _ A43 ⟨z44, rfl, W_A43, Z_A43, R_A43⟩
                  have BW_A43 := BX_A39.W hT9 W_A43
                  have hx27 : (K t1).toNat - 24 = 3 := by omega
                  have E82 := (hg_fl_add hw (x := (K t1).toNat) (by omega) eX_A39)
                  rw [hx27] at E82
                  rw [List.append_assoc] at R_A43
                  refine hpa_popI (by rfl) ?_
                  refine hpj_iinc (by rfl) rfl rfl hk_1 (by omega) (by omega) (fun _ => rfl) (fun z45 ez45 => ?_)
                  refine hpa_goto (by rfl) ?_
                  exact ih8 (Int32.ofNat 1) z45 (.int z4) A43 (Or.inl ⟨hk_1, _, _, _, _, _, by omega, BW_A43, GX_A39, E82, R_A43, ⟨by omega, by rw [hg_ln]; omega⟩, QX_A39⟩) (by omega)
                ·
                  refine hpa_iconst (by rfl) rfl ?_
                  refine hpa_goto (by rfl) ?_
                  refine hpa_iconst (by rfl) rfl ?_
                  refine hpa_call0 (by rfl) (by rfl) (by rfl) (hsT4 hT) (by rfl) (by rfl) (hP12 (k := 2) hT (Int32.ofNat 2) (Int32.ofNat 0) RX_A39 hk_2 hk_0 (by omega) (by omega) (by omega) (by omega) (by omega)) ?_
                  rintro _ A46 ⟨z47, rfl, W_A46, Z_A46, R_A46⟩
                  have BW_A46 := BX_A39.W hT9 W_A46
                  have hx26 : (K t1).toNat - 24 = 2 := by omega
                  have E82 := (hg_fl_add hw (x := (K t1).toNat) (by omega) eX_A39)
                  rw [hx26] at E82
                  rw [List.append_assoc] at R_A46
                  refine hpa_popI (by rfl) ?_
                  refine hpj_iinc (by rfl) rfl rfl hk_1 (by omega) (by omega) (fun _ => rfl) (fun z48 ez48 => ?_)
                  refine hpa_goto (by rfl) ?_
                  exact ih8 (Int32.ofNat 1) z48 (.int z4) A46 (Or.inl ⟨hk_1, _, _, _, _, _, by omega, BW_A46, GX_A39, E82, R_A46, ⟨by omega, by rw [hg_ln]; omega⟩, QX_A39⟩) (by omega)
              ·
                refine hpj_zeq (by rfl) rfl (fun q49 => ?_) (fun q49 => False.elim (by omega))
                refine hpa_iconst (by rfl) rfl ?_
                refine hpa_s1 (by rfl) (Or.inl ⟨_, rfl, rfl⟩) rfl ?_
                refine hpa_aload_n (by rfl) rfl ?_
                refine hpj_getT (by rfl) (by rfl) (by rfl) F_A39.1 ?_
                refine hpa_get (v := .ref (T + 5)) (by rfl) (hsT hT) (by rfl) (hvT hT (by omega)) ?_
                refine hpa_iload (by rfl) rfl ?_
                refine hpa_bipush (by rfl) rfl ?_
                refine hpj_cne (by rfl) rfl hk_26 (fun q50 => ?_) (fun q50 => ?_)
                ·
                  refine hpa_iconst (by rfl) rfl ?_
                  refine hpa_iconst (by rfl) rfl ?_
                  refine hpa_call0 (by rfl) (by rfl) (by rfl) (hsT4 hT) (by rfl) (by rfl) (hP12d hT (Int32.ofNat 3) (Int32.ofNat 0)) ?_
                  rintro _ A51 ⟨z52, rfl, W_A51⟩
                  have FW_A51 := F_A39.W hT9 W_A51
                  refine hpa_popI (by rfl) ?_
                  refine hpj_iinc (by rfl) rfl rfl hk_1 (by omega) (by omega) (fun _ => rfl) (fun z53 ez53 => ?_)
                  refine hpa_goto (by rfl) ?_
                  exact ih8 (Int32.ofNat 0) z53 (.int z4) A51 (Or.inr ⟨hk_0, FW_A51⟩) (by omega)
                ·
                  refine hpa_iconst (by rfl) rfl ?_
                  refine hpa_goto (by rfl) ?_
                  refine hpa_iconst (by rfl) rfl ?_
                  refine hpa_call0 (by rfl) (by rfl) (by rfl) (hsT4 hT) (by rfl) (by rfl) (hP12d hT (Int32.ofNat 2) (Int32.ofNat 0)) ?_
                  rintro _ A54 ⟨z55, rfl, W_A54⟩
                  have FW_A54 := F_A39.W hT9 W_A54
                  refine hpa_popI (by rfl) ?_
                  refine hpj_iinc (by rfl) rfl rfl hk_1 (by omega) (by omega) (fun _ => rfl) (fun z56 ez56 => ?_)
                  refine hpa_goto (by rfl) ?_
                  exact ih8 (Int32.ofNat 0) z56 (.int z4) A54 (Or.inr ⟨hk_0, FW_A54⟩) (by omega)
            ·
              refine hpj_zeq (by rfl) rfl (fun q57 => ?_) (fun q57 => False.elim (by omega))
              refine hpa_iconst (by rfl) rfl ?_
              refine hpa_s1 (by rfl) (Or.inl ⟨_, rfl, rfl⟩) rfl ?_
              refine hpa_aload_n (by rfl) rfl ?_
              refine hpj_getT (by rfl) (by rfl) (by rfl) F_A36.1 ?_
              refine hpa_get (v := .ref (T + 5)) (by rfl) (hsT hT) (by rfl) (hvT hT (by omega)) ?_
              refine hpa_iload (by rfl) rfl ?_
              refine hpa_bipush (by rfl) rfl ?_
              refine hpj_cne (by rfl) rfl hk_26 (fun q58 => ?_) (fun q58 => ?_)
              ·
                refine hpa_iconst (by rfl) rfl ?_
                refine hpa_iconst (by rfl) rfl ?_
                refine hpa_call0 (by rfl) (by rfl) (by rfl) (hsT4 hT) (by rfl) (by rfl) (hP12d hT (Int32.ofNat 3) (Int32.ofNat 0)) ?_
                rintro _ A59 ⟨z60, rfl, W_A59⟩
                have FW_A59 := F_A36.W hT9 W_A59
                refine hpa_popI (by rfl) ?_
                refine hpj_iinc (by rfl) rfl rfl hk_1 (by omega) (by omega) (fun _ => rfl) (fun z61 ez61 => ?_)
                refine hpa_goto (by rfl) ?_
                exact ih8 (Int32.ofNat 0) z61 (.int z4) A59 (Or.inr ⟨hk_0, FW_A59⟩) (by omega)
              ·
                refine hpa_iconst (by rfl) rfl ?_
                refine hpa_goto (by rfl) ?_
                refine hpa_iconst (by rfl) rfl ?_
                refine hpa_call0 (by rfl) (by rfl) (by rfl) (hsT4 hT) (by rfl) (by rfl) (hP12d hT (Int32.ofNat 2) (Int32.ofNat 0)) ?_
                rintro _ A62 ⟨z63, rfl, W_A62⟩
                have FW_A62 := F_A36.W hT9 W_A62
                refine hpa_popI (by rfl) ?_
                refine hpj_iinc (by rfl) rfl rfl hk_1 (by omega) (by omega) (fun _ => rfl) (fun z64 ez64 => ?_)
                refine hpa_goto (by rfl) ?_
                exact ih8 (Int32.ofNat 0) z64 (.int z4) A62 (Or.inr ⟨hk_0, FW_A62⟩) (by omega)
          ·
            refine hpa_iconst (by rfl) rfl ?_
            exact hpa_ireturn (by rfl) (by rfl) (hP _ _ ⟨_, rfl, Or.inl ⟨hk_1, t1, _, _, _, _, by omega, B8, G8, e8, R8, b8, by omega⟩⟩)
      ·
        refine hpa_iload_nS (by rfl) rfl ?_
        refine hpa_sipush (by rfl) rfl ?_
        refine hpj_cge (by rfl) rfl hk_400 (fun q65 => ?_) (fun q65 => ?_)
        ·
          refine hpa_iload_n (by rfl) rfl ?_
          exact hpa_ireturn (by rfl) (hn_fitB (by omega) (by omega)) (hP _ _ ⟨_, rfl, Or.inr ⟨fz8, F8⟩⟩)
        ·
          refine hpa_iload_n (by rfl) rfl ?_
          refine hpj_zeq (by rfl) rfl (fun q66 => ?_) (fun q66 => False.elim (by omega))
          refine hpa_iload_n (by rfl) rfl ?_
          exact hpa_ireturn (by rfl) (hn_fitB (by omega) (by omega)) (hP _ _ ⟨_, rfl, Or.inr ⟨fz8, F8⟩⟩)
  refine hpa_aload_n (by rfl) rfl ?_
  refine hpa_iload_n (by rfl) rfl ?_
  refine hpa_call0 (by rfl) (by rfl) (by rfl) (by rfl) (by rfl) (by rfl) (i51 hT a1 hB hR hu hdp hV hG hue hw.t1 hz8 hq2) ?_
  rintro _ A67 ⟨z68, rfl, (⟨fz_A67, X_A67⟩ | ⟨fz_A67, F_A67⟩)⟩
  ·
    obtain ⟨tX_A67, pX_A67, oX_A67, wX_A67, zX_A67, ltX_A67, BX_A67, GX_A67, eX_A67, RX_A67, bX_A67, QX_A67⟩ := X_A67
    have h4X_A67 := BX_A67.at.1
    refine hpa_s1 (by rfl) (Or.inl ⟨_, rfl, rfl⟩) rfl ?_
    refine hpa_iconst (by rfl) rfl ?_
    refine hpa_s1 (by rfl) (Or.inl ⟨_, rfl, rfl⟩) rfl ?_
    exact L8 _ z68 (Int32.ofNat 0) (.retAddr 0) A67 (Or.inl ⟨fz_A67, _, _, _, _, _, by omega, BX_A67, GX_A67, (hg_fl_one hw eX_A67), RX_A67, ⟨by omega, by omega⟩, QX_A67⟩) (by omega)
  ·
    refine hpa_s1 (by rfl) (Or.inl ⟨_, rfl, rfl⟩) rfl ?_
    refine hpa_iconst (by rfl) rfl ?_
    refine hpa_s1 (by rfl) (Or.inl ⟨_, rfl, rfl⟩) rfl ?_
    exact L8 _ z68 (Int32.ofNat 0) (.retAddr 0) A67 (Or.inr ⟨fz_A67, F_A67⟩) (by omega)
theorem hW51 {g d f : Nat} {A : hs_A} {K V S : Nat → Int} {E : Nat → Nat → Bool} {T : Nat} {t : Nat} {s : hq_S} {ns : List Nat} {p : Option Nat} {sn : Nat} {o : Option (Nat × Nat)} {dd : hg_D} {zz : Nat} {ifs ctx dp q : Nat} {r : List Nat × Nat × Nat × Option (Nat × Nat)} {kk : hg_W} {base oc : hg_C} {ww : List Nat} (i52 : hcX52 g d) (hT : hTT T) (a1 : Int32) (hB : hcB K V S E T A t s) (hR : hcR2 V S T A ns p sn o dd (base ++ oc) zz) (hu : hq_dl K V E t s = hq_unit K t ifs ctx dp r) (hdp : a1.toInt = (dp : Int)) (hV : hg_V K V) (hG : hg_q K V E t = (dd, kk, oc, ww)) (hue : ∀ e, hg_dl K V t s e = hg_un K V t e) (hw : hg_t1 ww) (hz8 : zz + q ≤ 8 + t) (hq2 : 2 ≤ q) {P : Option Value → hs_A → Prop} (hP : ∀ (r1 : Option Value) (A' : hs_A), (∃ z : Int32, r1 = some (.int z) ∧ ((z.toInt = 1 ∧ ∃ (t' : Nat) (oc' oc2 : hg_C) (w' : List Nat) (z' : Nat), t < t' ∧ hcB K V S E T A' t' (15, ifs, ctx, dp, r) ∧ hg_q K V E t' = (dd, kk, oc', w') ∧ hg_fl true oc' w' = (oc2, ww) ∧ hcR2 V S T A' ns p sn o dd (base ++ oc2) z' ∧ (z' + q ≤ 8 + t' ∧ z' + oc.length = zz + oc2.length) ∧ ¬ (28 ≤ K t' ∧ K t' ≤ 29)) ∨ (z.toInt = 0 ∧ hcF K V S E T A'))) → P r1 A') : hpa (f, g) d (some (.boolean)) hm_t51 0 [.ref 21, .int a1, .retAddr 0, .retAddr 0, .retAddr 0] [] A P := by
  have k0 := hk_0
  have k1 := hk_1
  have k28 := hk_28
  have k29 := hk_29
  have k4 := hk_4
  have k400 := hk_400
  have k5 := hk_5
  have hT9 : T ≤ 11 := by rcases hT with rfl | rfl <;> omega
  obtain ⟨h400, hpre, hix, hkk, hss, hsz, hvv⟩ := hB.at
  have hnx := hB.2.2.1
  have hqq := hB.2.2.2.1
  have L8 : ∀ (f : Nat) (x8_2 : Int32) (x8_3 : Int32) (x8_4 : Value) (A8 : hs_A) (D8 : (x8_2.toInt = 1 ∧ ∃ (t' : Nat) (oc' oc2 : hg_C) (w' : List Nat) (z' : Nat), (t : Int) + 2 * x8_3.toInt < (t' : Int) ∧ hcB K V S E T A8 t' (15, ifs, ctx, dp, r) ∧ hg_q K V E t' = (dd, kk, oc', w') ∧ hg_fl true oc' w' = (oc2, ww) ∧ hcR2 V S T A8 ns p sn o dd (base ++ oc2) z' ∧ (z' + q ≤ 8 + t' ∧ z' + oc.length = zz + oc2.length)) ∨ (x8_2.toInt = 0 ∧ hcF K V S E T A8)) (lo8 : 0 ≤ x8_3.toInt), hpa (f, g) d (some (.boolean)) hm_t51 8 [.ref 21, .int a1, .int x8_2, .int x8_3, x8_4] [] A8 P := by
    intro f
    induction f with
    | zero => intros; exact hpa.zero
    | succ f ih8 =>
      intro x8_2 x8_3 x8_4 A8 D8 lo8
      rcases D8 with ⟨fz8, t1, c8, o8, w8, z8, lt8, B8, G8, e8, R8, b8⟩ | ⟨fz8, F8⟩
      ·
        have h48 := B8.at.1
        refine hpa_iload_nS (by rfl) rfl ?_
        refine hpa_sipush (by rfl) rfl ?_
        refine hpj_cge (by rfl) rfl hk_400 (fun q1 => False.elim (by omega)) (fun q1 => ?_)
        refine hpa_iload_n (by rfl) rfl ?_
        refine hpj_zeq (by rfl) rfl (fun q2 => False.elim (by omega)) (fun q2 => ?_)
        refine hpa_aload_n (by rfl) rfl ?_
        refine hpa_call0 (by rfl) (by rfl) (by rfl) (by rfl) (by rfl) (by rfl) (hP38 hT B8) ?_
        rintro _ _ ⟨rfl, z4, rfl, fz_A3⟩
        refine hpa_s1 (by rfl) (Or.inr ⟨_, rfl, rfl⟩) rfl ?_
        refine hpa_iload (by rfl) rfl ?_
        refine hpa_bipush (by rfl) rfl ?_
        refine hpj_ceq (by rfl) rfl hk_28 (fun q5 => ?_) (fun q5 => ?_)
        ·
          refine hpa_aload_n (by rfl) rfl ?_
          refine hpa_call0 (by rfl) (by rfl) (by rfl) (by rfl) (by rfl) (by rfl) (hP41 hT B8 R8 (hqd15_op (by omega))) ?_
          rintro _ A6 ⟨z7, rfl, (⟨fz_A6, B_A6, R_A6, G_A6, N_A6⟩ | ⟨fz_A6, F_A6⟩)⟩
          ·
            have hX : K t1 = (((K t1).toNat : Nat) : Int) := by omega
            have GO : hg_q K V E (t1 + 1) = (dd, kk, o8, (K t1).toNat :: ww) := by rw [G_A6, G8]; exact hg_dop hX (by omega) (by omega) (by rw [decide_eq_true (by omega)]; exact e8)
            refine hpj_zeq (by rfl) rfl (fun q8 => False.elim (by omega)) (fun q8 => ?_)
            refine hpa_aload_n (by rfl) rfl ?_
            refine hpa_iload_n (by rfl) rfl ?_
            refine hpa_call0 (by rfl) (by rfl) (by rfl) (by rfl) (by rfl) (by rfl) (i52 hT a1 B_A6 R_A6 rfl hdp hV GO (fun _ => rfl) (show _ + (q + 1) ≤ 8 + (t1 + 1) by omega) (by omega)) ?_
            rintro _ A9 ⟨z10, rfl, (⟨fz_A9, X_A9⟩ | ⟨fz_A9, F_A9⟩)⟩
            ·
              obtain ⟨tX_A9, oX_A9, zX_A9, ltX_A9, BX_A9, GX_A9, RX_A9, bX_A9⟩ := X_A9
              have h4X_A9 := BX_A9.at.1
              refine hpj_zeq (by rfl) rfl (fun q11 => False.elim (by omega)) (fun q11 => ?_)
              refine hpa_iconst (by rfl) rfl ?_
              refine hpa_goto (by rfl) ?_
              refine hpa_s1 (by rfl) (Or.inl ⟨_, rfl, rfl⟩) rfl ?_
              refine hpa_aload_n (by rfl) rfl ?_
              refine hpj_getT (by rfl) (by rfl) (by rfl) BX_A9.1 ?_
              refine hpa_get (v := .ref (T + 5)) (by rfl) (hsT hT) (by rfl) (hvT hT (by omega)) ?_
              refine hpa_iload (by rfl) rfl ?_
              refine hpa_bipush (by rfl) rfl ?_
              refine hpj_cne (by rfl) rfl hk_28 (fun q12 => ?_) (fun q12 => ?_)
              ·
                refine hpa_iconst (by rfl) rfl ?_
                refine hpa_iconst (by rfl) rfl ?_
                refine hpa_call0 (by rfl) (by rfl) (by rfl) (hsT4 hT) (by rfl) (by rfl) (hP12 (k := 5) hT (Int32.ofNat 5) (Int32.ofNat 0) RX_A9 hk_5 hk_0 (by omega) (by omega) (by omega) (by omega) (by omega)) ?_
                rintro _ A13 ⟨z14, rfl, W_A13, Z_A13, R_A13⟩
                have BW_A13 := BX_A9.W hT9 W_A13
                have hx29 : (K t1).toNat - 24 = 5 := by omega
                have E82 := (hg_fl_mul (o := oX_A9) hw (x := (K t1).toNat) (by omega) (by omega))
                rw [hx29] at E82
                rw [List.append_assoc] at R_A13
                refine hpa_popI (by rfl) ?_
                refine hpj_iinc (by rfl) rfl rfl hk_1 (by omega) (by omega) (fun _ => rfl) (fun z15 ez15 => ?_)
                refine hpa_goto (by rfl) ?_
                exact ih8 (Int32.ofNat 1) z15 (.int z4) A13 (Or.inl ⟨hk_1, _, _, _, _, _, by omega, BW_A13, GX_A9, E82, R_A13, ⟨by omega, by rw [hg_ln]; omega⟩⟩) (by omega)
              ·
                refine hpa_iconst (by rfl) rfl ?_
                refine hpa_goto (by rfl) ?_
                refine hpa_iconst (by rfl) rfl ?_
                refine hpa_call0 (by rfl) (by rfl) (by rfl) (hsT4 hT) (by rfl) (by rfl) (hP12 (k := 4) hT (Int32.ofNat 4) (Int32.ofNat 0) RX_A9 hk_4 hk_0 (by omega) (by omega) (by omega) (by omega) (by omega)) ?_
                rintro _ A16 ⟨z17, rfl, W_A16, Z_A16, R_A16⟩
                have BW_A16 := BX_A9.W hT9 W_A16
                have hx28 : (K t1).toNat - 24 = 4 := by omega
                have E82 := (hg_fl_mul (o := oX_A9) hw (x := (K t1).toNat) (by omega) (by omega))
                rw [hx28] at E82
                rw [List.append_assoc] at R_A16
                refine hpa_popI (by rfl) ?_
                refine hpj_iinc (by rfl) rfl rfl hk_1 (by omega) (by omega) (fun _ => rfl) (fun z18 ez18 => ?_)
                refine hpa_goto (by rfl) ?_
                exact ih8 (Int32.ofNat 1) z18 (.int z4) A16 (Or.inl ⟨hk_1, _, _, _, _, _, by omega, BW_A16, GX_A9, E82, R_A16, ⟨by omega, by rw [hg_ln]; omega⟩⟩) (by omega)
            ·
              refine hpj_zeq (by rfl) rfl (fun q19 => ?_) (fun q19 => False.elim (by omega))
              refine hpa_iconst (by rfl) rfl ?_
              refine hpa_s1 (by rfl) (Or.inl ⟨_, rfl, rfl⟩) rfl ?_
              refine hpa_aload_n (by rfl) rfl ?_
              refine hpj_getT (by rfl) (by rfl) (by rfl) F_A9.1 ?_
              refine hpa_get (v := .ref (T + 5)) (by rfl) (hsT hT) (by rfl) (hvT hT (by omega)) ?_
              refine hpa_iload (by rfl) rfl ?_
              refine hpa_bipush (by rfl) rfl ?_
              refine hpj_cne (by rfl) rfl hk_28 (fun q20 => ?_) (fun q20 => ?_)
              ·
                refine hpa_iconst (by rfl) rfl ?_
                refine hpa_iconst (by rfl) rfl ?_
                refine hpa_call0 (by rfl) (by rfl) (by rfl) (hsT4 hT) (by rfl) (by rfl) (hP12d hT (Int32.ofNat 5) (Int32.ofNat 0)) ?_
                rintro _ A21 ⟨z22, rfl, W_A21⟩
                have FW_A21 := F_A9.W hT9 W_A21
                refine hpa_popI (by rfl) ?_
                refine hpj_iinc (by rfl) rfl rfl hk_1 (by omega) (by omega) (fun _ => rfl) (fun z23 ez23 => ?_)
                refine hpa_goto (by rfl) ?_
                exact ih8 (Int32.ofNat 0) z23 (.int z4) A21 (Or.inr ⟨hk_0, FW_A21⟩) (by omega)
              ·
                refine hpa_iconst (by rfl) rfl ?_
                refine hpa_goto (by rfl) ?_
                refine hpa_iconst (by rfl) rfl ?_
                refine hpa_call0 (by rfl) (by rfl) (by rfl) (hsT4 hT) (by rfl) (by rfl) (hP12d hT (Int32.ofNat 4) (Int32.ofNat 0)) ?_
                rintro _ A24 ⟨z25, rfl, W_A24⟩
                have FW_A24 := F_A9.W hT9 W_A24
                refine hpa_popI (by rfl) ?_
                refine hpj_iinc (by rfl) rfl rfl hk_1 (by omega) (by omega) (fun _ => rfl) (fun z26 ez26 => ?_)
                refine hpa_goto (by rfl) ?_
                exact ih8 (Int32.ofNat 0) z26 (.int z4) A24 (Or.inr ⟨hk_0, FW_A24⟩) (by omega)
          ·
            refine hpj_zeq (by rfl) rfl (fun q27 => ?_) (fun q27 => False.elim (by omega))
            refine hpa_iconst (by rfl) rfl ?_
            refine hpa_s1 (by rfl) (Or.inl ⟨_, rfl, rfl⟩) rfl ?_
            refine hpa_aload_n (by rfl) rfl ?_
            refine hpj_getT (by rfl) (by rfl) (by rfl) F_A6.1 ?_
            refine hpa_get (v := .ref (T + 5)) (by rfl) (hsT hT) (by rfl) (hvT hT (by omega)) ?_
            refine hpa_iload (by rfl) rfl ?_
            refine hpa_bipush (by rfl) rfl ?_
            refine hpj_cne (by rfl) rfl hk_28 (fun q28 => ?_) (fun q28 => ?_)
            ·
              refine hpa_iconst (by rfl) rfl ?_
              refine hpa_iconst (by rfl) rfl ?_
              refine hpa_call0 (by rfl) (by rfl) (by rfl) (hsT4 hT) (by rfl) (by rfl) (hP12d hT (Int32.ofNat 5) (Int32.ofNat 0)) ?_
              rintro _ A29 ⟨z30, rfl, W_A29⟩
              have FW_A29 := F_A6.W hT9 W_A29
              refine hpa_popI (by rfl) ?_
              refine hpj_iinc (by rfl) rfl rfl hk_1 (by omega) (by omega) (fun _ => rfl) (fun z31 ez31 => ?_)
              refine hpa_goto (by rfl) ?_
              exact ih8 (Int32.ofNat 0) z31 (.int z4) A29 (Or.inr ⟨hk_0, FW_A29⟩) (by omega)
            ·
              refine hpa_iconst (by rfl) rfl ?_
              refine hpa_goto (by rfl) ?_
              refine hpa_iconst (by rfl) rfl ?_
              refine hpa_call0 (by rfl) (by rfl) (by rfl) (hsT4 hT) (by rfl) (by rfl) (hP12d hT (Int32.ofNat 4) (Int32.ofNat 0)) ?_
              rintro _ A32 ⟨z33, rfl, W_A32⟩
              have FW_A32 := F_A6.W hT9 W_A32
              refine hpa_popI (by rfl) ?_
              refine hpj_iinc (by rfl) rfl rfl hk_1 (by omega) (by omega) (fun _ => rfl) (fun z34 ez34 => ?_)
              refine hpa_goto (by rfl) ?_
              exact ih8 (Int32.ofNat 0) z34 (.int z4) A32 (Or.inr ⟨hk_0, FW_A32⟩) (by omega)
        ·
          refine hpa_iload (by rfl) rfl ?_
          refine hpa_bipush (by rfl) rfl ?_
          refine hpj_ceq (by rfl) rfl hk_29 (fun q35 => ?_) (fun q35 => ?_)
          ·
            refine hpa_aload_n (by rfl) rfl ?_
            refine hpa_call0 (by rfl) (by rfl) (by rfl) (by rfl) (by rfl) (by rfl) (hP41 hT B8 R8 (hqd15_op (by omega))) ?_
            rintro _ A36 ⟨z37, rfl, (⟨fz_A36, B_A36, R_A36, G_A36, N_A36⟩ | ⟨fz_A36, F_A36⟩)⟩
            ·
              have hX : K t1 = (((K t1).toNat : Nat) : Int) := by omega
              have GO : hg_q K V E (t1 + 1) = (dd, kk, o8, (K t1).toNat :: ww) := by rw [G_A36, G8]; exact hg_dop hX (by omega) (by omega) (by rw [decide_eq_true (by omega)]; exact e8)
              refine hpj_zeq (by rfl) rfl (fun q38 => False.elim (by omega)) (fun q38 => ?_)
              refine hpa_aload_n (by rfl) rfl ?_
              refine hpa_iload_n (by rfl) rfl ?_
              refine hpa_call0 (by rfl) (by rfl) (by rfl) (by rfl) (by rfl) (by rfl) (i52 hT a1 B_A36 R_A36 rfl hdp hV GO (fun _ => rfl) (show _ + (q + 1) ≤ 8 + (t1 + 1) by omega) (by omega)) ?_
              rintro _ A39 ⟨z40, rfl, (⟨fz_A39, X_A39⟩ | ⟨fz_A39, F_A39⟩)⟩
              ·
                obtain ⟨tX_A39, oX_A39, zX_A39, ltX_A39, BX_A39, GX_A39, RX_A39, bX_A39⟩ := X_A39
                have h4X_A39 := BX_A39.at.1
                refine hpj_zeq (by rfl) rfl (fun q41 => False.elim (by omega)) (fun q41 => ?_)
                refine hpa_iconst (by rfl) rfl ?_
                refine hpa_goto (by rfl) ?_
                refine hpa_s1 (by rfl) (Or.inl ⟨_, rfl, rfl⟩) rfl ?_
                refine hpa_aload_n (by rfl) rfl ?_
                refine hpj_getT (by rfl) (by rfl) (by rfl) BX_A39.1 ?_
                refine hpa_get (v := .ref (T + 5)) (by rfl) (hsT hT) (by rfl) (hvT hT (by omega)) ?_
                refine hpa_iload (by rfl) rfl ?_
                refine hpa_bipush (by rfl) rfl ?_
                refine hpj_cne (by rfl) rfl hk_28 (fun q42 => ?_) (fun q42 => ?_)
                ·
                  refine hpa_iconst (by rfl) rfl ?_
                  refine hpa_iconst (by rfl) rfl ?_
                  refine hpa_call0 (by rfl) (by rfl) (by rfl) (hsT4 hT) (by rfl) (by rfl) (hP12 (k := 5) hT (Int32.ofNat 5) (Int32.ofNat 0) RX_A39 hk_5 hk_0 (by omega) (by omega) (by omega) (by omega) (by omega)) ?_
                  rintro _ A43 ⟨z44, rfl, W_A43, Z_A43, R_A43⟩
                  have BW_A43 := BX_A39.W hT9 W_A43
                  have hx29 : (K t1).toNat - 24 = 5 := by omega
                  have E82 := (hg_fl_mul (o := oX_A39) hw (x := (K t1).toNat) (by omega) (by omega))
                  rw [hx29] at E82
                  rw [List.append_assoc] at R_A43
                  refine hpa_popI (by rfl) ?_
                  refine hpj_iinc (by rfl) rfl rfl hk_1 (by omega) (by omega) (fun _ => rfl) (fun z45 ez45 => ?_)
                  refine hpa_goto (by rfl) ?_
                  exact ih8 (Int32.ofNat 1) z45 (.int z4) A43 (Or.inl ⟨hk_1, _, _, _, _, _, by omega, BW_A43, GX_A39, E82, R_A43, ⟨by omega, by rw [hg_ln]; omega⟩⟩) (by omega)
                ·
                  refine hpa_iconst (by rfl) rfl ?_
                  refine hpa_goto (by rfl) ?_
                  refine hpa_iconst (by rfl) rfl ?_
                  refine hpa_call0 (by rfl) (by rfl) (by rfl) (hsT4 hT) (by rfl) (by rfl) (hP12 (k := 4) hT (Int32.ofNat 4) (Int32.ofNat 0) RX_A39 hk_4 hk_0 (by omega) (by omega) (by omega) (by omega) (by omega)) ?_
                  rintro _ A46 ⟨z47, rfl, W_A46, Z_A46, R_A46⟩
                  have BW_A46 := BX_A39.W hT9 W_A46
                  have hx28 : (K t1).toNat - 24 = 4 := by omega
                  have E82 := (hg_fl_mul (o := oX_A39) hw (x := (K t1).toNat) (by omega) (by omega))
                  rw [hx28] at E82
                  rw [List.append_assoc] at R_A46
                  refine hpa_popI (by rfl) ?_
                  refine hpj_iinc (by rfl) rfl rfl hk_1 (by omega) (by omega) (fun _ => rfl) (fun z48 ez48 => ?_)
                  refine hpa_goto (by rfl) ?_
                  exact ih8 (Int32.ofNat 1) z48 (.int z4) A46 (Or.inl ⟨hk_1, _, _, _, _, _, by omega, BW_A46, GX_A39, E82, R_A46, ⟨by omega, by rw [hg_ln]; omega⟩⟩) (by omega)
              ·
                refine hpj_zeq (by rfl) rfl (fun q49 => ?_) (fun q49 => False.elim (by omega))
                refine hpa_iconst (by rfl) rfl ?_
                refine hpa_s1 (by rfl) (Or.inl ⟨_, rfl, rfl⟩) rfl ?_
                refine hpa_aload_n (by rfl) rfl ?_
                refine hpj_getT (by rfl) (by rfl) (by rfl) F_A39.1 ?_
                refine hpa_get (v := .ref (T + 5)) (by rfl) (hsT hT) (by rfl) (hvT hT (by omega)) ?_
                refine hpa_iload (by rfl) rfl ?_
                refine hpa_bipush (by rfl) rfl ?_
                refine hpj_cne (by rfl) rfl hk_28 (fun q50 => ?_) (fun q50 => ?_)
                ·
                  refine hpa_iconst (by rfl) rfl ?_
                  refine hpa_iconst (by rfl) rfl ?_
                  refine hpa_call0 (by rfl) (by rfl) (by rfl) (hsT4 hT) (by rfl) (by rfl) (hP12d hT (Int32.ofNat 5) (Int32.ofNat 0)) ?_
                  rintro _ A51 ⟨z52, rfl, W_A51⟩
                  have FW_A51 := F_A39.W hT9 W_A51
                  refine hpa_popI (by rfl) ?_
                  refine hpj_iinc (by rfl) rfl rfl hk_1 (by omega) (by omega) (fun _ => rfl) (fun z53 ez53 => ?_)
                  refine hpa_goto (by rfl) ?_
                  exact ih8 (Int32.ofNat 0) z53 (.int z4) A51 (Or.inr ⟨hk_0, FW_A51⟩) (by omega)
                ·
                  refine hpa_iconst (by rfl) rfl ?_
                  refine hpa_goto (by rfl) ?_
                  refine hpa_iconst (by rfl) rfl ?_
                  refine hpa_call0 (by rfl) (by rfl) (by rfl) (hsT4 hT) (by rfl) (by rfl) (hP12d hT (Int32.ofNat 4) (Int32.ofNat 0)) ?_
                  rintro _ A54 ⟨z55, rfl, W_A54⟩
                  have FW_A54 := F_A39.W hT9 W_A54
                  refine hpa_popI (by rfl) ?_
                  refine hpj_iinc (by rfl) rfl rfl hk_1 (by omega) (by omega) (fun _ => rfl) (fun z56 ez56 => ?_)
                  refine hpa_goto (by rfl) ?_
                  exact ih8 (Int32.ofNat 0) z56 (.int z4) A54 (Or.inr ⟨hk_0, FW_A54⟩) (by omega)
            ·
              refine hpj_zeq (by rfl) rfl (fun q57 => ?_) (fun q57 => False.elim (by omega))
              refine hpa_iconst (by rfl) rfl ?_
              refine hpa_s1 (by rfl) (Or.inl ⟨_, rfl, rfl⟩) rfl ?_
              refine hpa_aload_n (by rfl) rfl ?_
              refine hpj_getT (by rfl) (by rfl) (by rfl) F_A36.1 ?_
              refine hpa_get (v := .ref (T + 5)) (by rfl) (hsT hT) (by rfl) (hvT hT (by omega)) ?_
              refine hpa_iload (by rfl) rfl ?_
              refine hpa_bipush (by rfl) rfl ?_
              refine hpj_cne (by rfl) rfl hk_28 (fun q58 => ?_) (fun q58 => ?_)
              ·
                refine hpa_iconst (by rfl) rfl ?_
                refine hpa_iconst (by rfl) rfl ?_
                refine hpa_call0 (by rfl) (by rfl) (by rfl) (hsT4 hT) (by rfl) (by rfl) (hP12d hT (Int32.ofNat 5) (Int32.ofNat 0)) ?_
                rintro _ A59 ⟨z60, rfl, W_A59⟩
                have FW_A59 := F_A36.W hT9 W_A59
                refine hpa_popI (by rfl) ?_
                refine hpj_iinc (by rfl) rfl rfl hk_1 (by omega) (by omega) (fun _ => rfl) (fun z61 ez61 => ?_)
                refine hpa_goto (by rfl) ?_
                exact ih8 (Int32.ofNat 0) z61 (.int z4) A59 (Or.inr ⟨hk_0, FW_A59⟩) (by omega)
              ·
                refine hpa_iconst (by rfl) rfl ?_
                refine hpa_goto (by rfl) ?_
                refine hpa_iconst (by rfl) rfl ?_
                refine hpa_call0 (by rfl) (by rfl) (by rfl) (hsT4 hT) (by rfl) (by rfl) (hP12d hT (Int32.ofNat 4) (Int32.ofNat 0)) ?_
                rintro _ A62 ⟨z63, rfl, W_A62⟩
                have FW_A62 := F_A36.W hT9 W_A62
                refine hpa_popI (by rfl) ?_
                refine hpj_iinc (by rfl) rfl rfl hk_1 (by omega) (by omega) (fun _ => rfl) (fun z64 ez64 => ?_)
                refine hpa_goto (by rfl) ?_
                exact ih8 (Int32.ofNat 0) z64 (.int z4) A62 (Or.inr ⟨hk_0, FW_A62⟩) (by omega)
          ·
            refine hpa_iconst (by rfl) rfl ?_
            exact hpa_ireturn (by rfl) (by rfl) (hP _ _ ⟨_, rfl, Or.inl ⟨hk_1, t1, _, _, _, _, by omega, B8, G8, e8, R8, b8, by omega⟩⟩)
      ·
        refine hpa_iload_nS (by rfl) rfl ?_
        refine hpa_sipush (by rfl) rfl ?_
        refine hpj_cge (by rfl) rfl hk_400 (fun q65 => ?_) (fun q65 => ?_)
        ·
          refine hpa_iload_n (by rfl) rfl ?_
          exact hpa_ireturn (by rfl) (hn_fitB (by omega) (by omega)) (hP _ _ ⟨_, rfl, Or.inr ⟨fz8, F8⟩⟩)
        ·
          refine hpa_iload_n (by rfl) rfl ?_
          refine hpj_zeq (by rfl) rfl (fun q66 => ?_) (fun q66 => False.elim (by omega))
          refine hpa_iload_n (by rfl) rfl ?_
          exact hpa_ireturn (by rfl) (hn_fitB (by omega) (by omega)) (hP _ _ ⟨_, rfl, Or.inr ⟨fz8, F8⟩⟩)
  refine hpa_aload_n (by rfl) rfl ?_
  refine hpa_iload_n (by rfl) rfl ?_
  refine hpa_call0 (by rfl) (by rfl) (by rfl) (by rfl) (by rfl) (by rfl) (i52 hT a1 hB hR hu hdp hV hG hue hz8 hq2) ?_
  rintro _ A67 ⟨z68, rfl, (⟨fz_A67, X_A67⟩ | ⟨fz_A67, F_A67⟩)⟩
  ·
    obtain ⟨tX_A67, oX_A67, zX_A67, ltX_A67, BX_A67, GX_A67, RX_A67, bX_A67⟩ := X_A67
    have h4X_A67 := BX_A67.at.1
    refine hpa_s1 (by rfl) (Or.inl ⟨_, rfl, rfl⟩) rfl ?_
    refine hpa_iconst (by rfl) rfl ?_
    refine hpa_s1 (by rfl) (Or.inl ⟨_, rfl, rfl⟩) rfl ?_
    exact L8 _ z68 (Int32.ofNat 0) (.retAddr 0) A67 (Or.inl ⟨fz_A67, _, _, _, _, _, by omega, BX_A67, GX_A67, (hg_fl_t1 hw), RX_A67, ⟨by omega, by omega⟩⟩) (by omega)
  ·
    refine hpa_s1 (by rfl) (Or.inl ⟨_, rfl, rfl⟩) rfl ?_
    refine hpa_iconst (by rfl) rfl ?_
    refine hpa_s1 (by rfl) (Or.inl ⟨_, rfl, rfl⟩) rfl ?_
    exact L8 _ z68 (Int32.ofNat 0) (.retAddr 0) A67 (Or.inr ⟨fz_A67, F_A67⟩) (by omega)
theorem hW52 {g d f : Nat} {A : hs_A} {K V S : Nat → Int} {E : Nat → Nat → Bool} {T : Nat} {t : Nat} {s : hq_S} {ns : List Nat} {p : Option Nat} {sn : Nat} {o : Option (Nat × Nat)} {dd : hg_D} {zz : Nat} {ifs ctx dp q : Nat} {r : List Nat × Nat × Nat × Option (Nat × Nat)} {kk : hg_W} {base oc : hg_C} {ww : List Nat} (i50 : hcX50 g d) (hT : hTT T) (a1 : Int32) (hB : hcB K V S E T A t s) (hR : hcR2 V S T A ns p sn o dd (base ++ oc) zz) (hu : hq_dl K V E t s = hq_unit K t ifs ctx dp r) (hdp : a1.toInt = (dp : Int)) (hV : hg_V K V) (hG : hg_q K V E t = (dd, kk, oc, ww)) (hue : ∀ e, hg_dl K V t s e = hg_un K V t e) (hz8 : zz + q ≤ 8 + t) (hq2 : 2 ≤ q) {P : Option Value → hs_A → Prop} (hP : ∀ (r1 : Option Value) (A' : hs_A), (∃ z : Int32, r1 = some (.int z) ∧ ((z.toInt = 1 ∧ ∃ (t' : Nat) (oc' : hg_C) (z' : Nat), t < t' ∧ hcB K V S E T A' t' (15, ifs, ctx, dp, r) ∧ hg_q K V E t' = (dd, kk, oc', ww) ∧ hcR2 V S T A' ns p sn o dd (base ++ oc') z' ∧ (z' + q ≤ 8 + t' ∧ z' + oc.length = zz + oc'.length)) ∨ (z.toInt = 0 ∧ hcF K V S E T A'))) → P r1 A') : hpa (f, g) d (some (.boolean)) hm_t52 0 [.ref 21, .int a1, .retAddr 0] [] A P := by
  have k0 := hk_0
  have k1 := hk_1
  have k11 := hk_11
  have k19 := hk_19
  have k2 := hk_2
  have k21 := hk_21
  have k31 := hk_31
  have k32 := hk_32
  have k6 := hk_6
  have hT9 : T ≤ 11 := by rcases hT with rfl | rfl <;> omega
  obtain ⟨h400, hpre, hix, hkk, hss, hsz, hvv⟩ := hB.at
  have hnx := hB.2.2.1
  have hqq := hB.2.2.2.1
  refine hpa_aload_n (by rfl) rfl ?_
  refine hpa_call0 (by rfl) (by rfl) (by rfl) (by rfl) (by rfl) (by rfl) (hP38 hT hB) ?_
  rintro _ _ ⟨rfl, z2, rfl, fz_A1⟩
  refine hpa_s1 (by rfl) (Or.inl ⟨_, rfl, rfl⟩) rfl ?_
  refine hpa_iload_n (by rfl) rfl ?_
  refine hpa_bipush (by rfl) rfl ?_
  refine hpj_cne (by rfl) rfl hk_21 (fun q3 => ?_) (fun q3 => ?_)
  ·
    refine hpa_iload_n (by rfl) rfl ?_
    refine hpa_bipush (by rfl) rfl ?_
    refine hpa_bipush (by rfl) rfl ?_
    refine hpa_call2 (by rfl) (by decide) (by rfl) (by rfl) (by rfl) (hP78 z2 (Int32.ofNat 11) (Int32.ofNat 19)) ?_
    rintro _ _ ⟨rfl, z5, rfl, (⟨fz_A4, lo_A4, hi_A4⟩ | ⟨fz_A4, no_A4⟩)⟩
    ·
      refine hpj_zeq (by rfl) rfl (fun q6 => False.elim (by omega)) (fun q6 => ?_)
      refine hpa_aload_n (by rfl) rfl ?_
      refine hpj_getT (by rfl) (by rfl) (by rfl) hB.1 ?_
      refine hpa_get (v := .ref (T + 5)) (by rfl) (hsT hT) (by rfl) (hvT hT (by omega)) ?_
      refine hpa_iconst (by rfl) rfl ?_
      refine hpa_iload_n (by rfl) rfl ?_
      refine hpa_bipush (by rfl) rfl ?_
      refine hpj_isub (by rfl) rfl hk_11 (by omega) (by omega) (fun z7 ez7 => ?_)
      refine hpa_call0 (by rfl) (by rfl) (by rfl) (hsT4 hT) (by rfl) (by rfl) (hP12 (k := 1) (v := K t - 11) hT (Int32.ofNat 1) z7 hR hk_1 (by omega) (by omega) (by omega) (by omega) (by omega) (by omega)) ?_
      rintro _ A8 ⟨z9, rfl, W_A8, Z_A8, R_A8⟩
      have BW_A8 := hB.W hT9 W_A8
      rw [List.append_assoc] at R_A8
      refine hpa_popI (by rfl) ?_
      refine hpa_aload_n (by rfl) rfl ?_
      refine hpa_call0 (by rfl) (by rfl) (by rfl) (by rfl) (by rfl) (by rfl) (hP41 hT BW_A8 R_A8 (hu.trans (hqu_v (by omega)))) ?_
      rintro _ A10 ⟨z11, rfl, (⟨fz_A10, B_A10, R_A10, G_A10, N_A10⟩ | ⟨fz_A10, F_A10⟩)⟩
      ·
        exact hpa_ireturn (by rfl) (hn_fitB (by omega) (by omega)) (hP _ _ ⟨_, rfl, Or.inl ⟨fz_A10, _, _, _, by omega, B_A10, by rw [G_A10, hG, hue]; exact hg_unv (by omega), R_A10, ⟨by omega, by rw [hg_ln]; omega⟩⟩⟩)
      ·
        exact hpa_ireturn (by rfl) (hn_fitB (by omega) (by omega)) (hP _ _ ⟨_, rfl, Or.inr ⟨fz_A10, F_A10⟩⟩)
    ·
      refine hpj_zeq (by rfl) rfl (fun q12 => ?_) (fun q12 => False.elim (by omega))
      refine hpa_iload_n (by rfl) rfl ?_
      refine hpa_bipush (by rfl) rfl ?_
      refine hpj_ceq (by rfl) rfl hk_31 (fun q13 => ?_) (fun q13 => ?_)
      ·
        refine hpa_iload_n (by rfl) rfl ?_
        refine hpa_bipush (by rfl) rfl ?_
        refine hpj_clt (by rfl) rfl hk_6 (fun q14 => ?_) (fun q14 => ?_)
        ·
          refine hpa_aload_n (by rfl) rfl ?_
          refine hpa_call0 (by rfl) (by rfl) (by rfl) (by rfl) (by rfl) (by rfl) (hP41 hT hB hR (hu.trans (hqu_o (by omega) (by omega)))) ?_
          rintro _ A15 ⟨z16, rfl, (⟨fz_A15, B_A15, R_A15, G_A15, N_A15⟩ | ⟨fz_A15, F_A15⟩)⟩
          ·
            have GO : hg_q K V E (t + 1) = (dd, kk, oc, 31 :: ww) := by rw [G_A15, hG, hue]; exact hg_un31 (by omega)
            refine hpj_zeq (by rfl) rfl (fun q17 => False.elim (by omega)) (fun q17 => ?_)
            refine hpa_aload_n (by rfl) rfl ?_
            refine hpa_iload_n (by rfl) rfl ?_
            refine hpa_iconst (by rfl) rfl ?_
            refine hpj_iadd (by rfl) rfl hk_1 (by omega) (by omega) (fun z18 ez18 => ?_)
            refine hpa_call0 (by rfl) (by rfl) (by rfl) (by rfl) (by rfl) (by rfl) (i50 hT z18 B_A15 R_A15 rfl (by omega) hV GO (fun _ => rfl) rfl (show _ + q ≤ 8 + (t + 1) by omega) hq2) ?_
            rintro _ A19 ⟨z20, rfl, (⟨fz_A19, X_A19⟩ | ⟨fz_A19, F_A19⟩)⟩
            ·
              obtain ⟨tX_A19, pX_A19, oX_A19, wX_A19, zX_A19, ltX_A19, BX_A19, GX_A19, eX_A19, RX_A19, bX_A19, QX_A19⟩ := X_A19
              have h4X_A19 := BX_A19.at.1
              refine hpj_zeq (by rfl) rfl (fun q21 => False.elim (by omega)) (fun q21 => ?_)
              refine hpa_aload_n (by rfl) rfl ?_
              refine hpa_bipush (by rfl) rfl ?_
              refine hpa_call0 (by rfl) (by rfl) (by rfl) (by rfl) (by rfl) (by rfl) (hP42 hT (Int32.ofNat 32) BX_A19 RX_A19 hk_32 (hqd15_cl QX_A19)) ?_
              rintro _ A22 ⟨z23, rfl, (⟨fz_A22, B_A22, R_A22, G_A22, N_A22⟩ | ⟨fz_A22, F_A22⟩)⟩
              ·
                refine hpj_zeq (by rfl) rfl (fun q24 => False.elim (by omega)) (fun q24 => ?_)
                refine hpa_iconst (by rfl) rfl ?_
                refine hpa_goto (by rfl) ?_
                exact hpa_ireturn (by rfl) (by rfl) (hP _ _ ⟨_, rfl, Or.inl ⟨hk_1, _, oX_A19, _, by omega, B_A22, by rw [G_A22, GX_A19]; exact hg_dcl QX_A19 eX_A19, R_A22, ⟨by omega, by omega⟩⟩⟩)
              ·
                refine hpj_zeq (by rfl) rfl (fun q25 => ?_) (fun q25 => False.elim (by omega))
                refine hpa_iconst (by rfl) rfl ?_
                exact hpa_ireturn (by rfl) (by rfl) (hP _ _ ⟨_, rfl, Or.inr ⟨hk_0, F_A22⟩⟩)
            ·
              refine hpj_zeq (by rfl) rfl (fun q26 => ?_) (fun q26 => False.elim (by omega))
              refine hpa_iconst (by rfl) rfl ?_
              exact hpa_ireturn (by rfl) (by rfl) (hP _ _ ⟨_, rfl, Or.inr ⟨hk_0, F_A19⟩⟩)
          ·
            refine hpj_zeq (by rfl) rfl (fun q27 => ?_) (fun q27 => False.elim (by omega))
            refine hpa_iconst (by rfl) rfl ?_
            exact hpa_ireturn (by rfl) (by rfl) (hP _ _ ⟨_, rfl, Or.inr ⟨hk_0, F_A15⟩⟩)
        ·
          refine hpa_aload_n (by rfl) rfl ?_
          refine hpa_iconst (by rfl) rfl ?_
          refine hpa_call0 (by rfl) (by rfl) (by rfl) (by rfl) (by rfl) (by rfl) (hP39 hT (Int32.ofNat 2) hB ⟨s, hqq, hu.trans (hqu_6 (by omega) (by omega))⟩ (by decide) hk_2) ?_
          rintro _ A28 ⟨z29, rfl, fz_A28, F_A28⟩
          exact hpa_ireturn (by rfl) (hn_fitB (by omega) (by omega)) (hP _ _ ⟨_, rfl, Or.inr ⟨fz_A28, F_A28⟩⟩)
      ·
        refine hpa_aload_n (by rfl) rfl ?_
        refine hpa_iconst (by rfl) rfl ?_
        refine hpa_call0 (by rfl) (by rfl) (by rfl) (by rfl) (by rfl) (by rfl) (hP39 hT (Int32.ofNat 1) hB ⟨s, hqq, hu.trans (hqu_n (by omega) (by omega))⟩ (by decide) hk_1) ?_
        rintro _ A30 ⟨z31, rfl, fz_A30, F_A30⟩
        exact hpa_ireturn (by rfl) (hn_fitB (by omega) (by omega)) (hP _ _ ⟨_, rfl, Or.inr ⟨fz_A30, F_A30⟩⟩)
  ·
    refine hpa_aload_n (by rfl) rfl ?_
    refine hpj_getT (by rfl) (by rfl) (by rfl) hB.1 ?_
    refine hpa_get (v := .ref (T + 5)) (by rfl) (hsT hT) (by rfl) (hvT hT (by omega)) ?_
    refine hpa_iconst (by rfl) rfl ?_
    refine hpa_aload_n (by rfl) rfl ?_
    refine hpa_get (v := .ref 22) (by rfl) (by rfl) (by rfl) rfl ?_
    refine hpa_get (v := .ref 24) (by rfl) (by rfl) (by rfl) rfl ?_
    refine hpa_aload_n (by rfl) rfl ?_
    refine hpj_getK (by rfl) (by rfl) (by rfl) rfl ?_
    refine hpx_lald (by rfl) (by rfl) (fun h0v32 h1v32 v32 ev32 => ?_)
    rw [hix] at ev32
    have hval : (v32).toInt32.toInt = V t := by rw [← ev32]; exact hvv (by omega)
    have hvb := hV t (by omega)
    refine hpa_l2i (by rfl) ?_
    refine hpa_call0 (by rfl) (by rfl) (by rfl) (hsT4 hT) (by rfl) (by rfl) (hP12 (k := 0) hT (Int32.ofNat 0) (v32).toInt32 hR hk_0 hval (by omega) (by omega) (by omega) (by omega) (by omega)) ?_
    rintro _ A33 ⟨z34, rfl, W_A33, Z_A33, R_A33⟩
    have BW_A33 := hB.W hT9 W_A33
    rw [List.append_assoc] at R_A33
    refine hpa_popI (by rfl) ?_
    refine hpa_aload_n (by rfl) rfl ?_
    refine hpa_call0 (by rfl) (by rfl) (by rfl) (by rfl) (by rfl) (by rfl) (hP41 hT BW_A33 R_A33 (hu.trans (hqu_v (by omega)))) ?_
    rintro _ A35 ⟨z36, rfl, (⟨fz_A35, B_A35, R_A35, G_A35, N_A35⟩ | ⟨fz_A35, F_A35⟩)⟩
    ·
      exact hpa_ireturn (by rfl) (hn_fitB (by omega) (by omega)) (hP _ _ ⟨_, rfl, Or.inl ⟨fz_A35, _, _, _, by omega, B_A35, by rw [G_A35, hG, hue]; exact hg_un21 (by omega), R_A35, ⟨by omega, by rw [hg_ln]; omega⟩⟩⟩)
    ·
      exact hpa_ireturn (by rfl) (hn_fitB (by omega) (by omega)) (hP _ _ ⟨_, rfl, Or.inr ⟨fz_A35, F_A35⟩⟩)
theorem hcXX (g : Nat) : ∀ d, hcX50 g d ∧ hcX51 g d ∧ hcX52 g d
  | 0 => ⟨fun _ _ _ _ _ _ _ _ _ _ _ _ => hpC.zero, fun _ _ _ _ _ _ _ _ _ _ _ _ => hpC.zero, fun _ _ _ _ _ _ _ _ _ _ _ => hpC.zero⟩
  | d + 1 => by
    obtain ⟨i50, i51, i52⟩ := hcXX g d
    exact ⟨fun hT a1 hB hR hu hdp hV hG hue hw hz8 hq2 => hpC.of (fun f => hW50 i51 hT a1 hB hR hu hdp hV hG hue hw hz8 hq2 (fun r A' h => h)), fun hT a1 hB hR hu hdp hV hG hue hw hz8 hq2 => hpC.of (fun f => hW51 i52 hT a1 hB hR hu hdp hV hG hue hw hz8 hq2 (fun r A' h => h)), fun hT a1 hB hR hu hdp hV hG hue hz8 hq2 => hpC.of (fun f => hW52 i50 hT a1 hB hR hu hdp hV hG hue hz8 hq2 (fun r A' h => h))⟩
