def uMf : Nat := 66111502585030189513783521905963070631922882968193552051292966639057732548145130242048
theorem hW150q {g d f : Nat} {A : hs_A} {B : Nat → Int} {n sd : Nat} (hA : ∀ i, i < n → (A.2.1 368 i).toInt = B i) (hBr : ∀ i, i < n → -128 ≤ B i ∧ B i ≤ 127) (hn : n ≤ 2000) (h2 : (A.1 367 2).toInt = (n : Int)) (hlv : (A.1 367 18).toInt = 1 - (sd : Int)) (hsd : sd ≤ 1) (hU : hcU A) (hH0 : uf_H A) {P : Option Value → hs_A → Prop} (hP : ∀ (r : Option Value) (A' : hs_A), (∃ z : Int32, r = some (.int z) ∧ hq_res (ht_K B n) (ht_W B n) (fun u => (ht_S B n u : Int)) (ht_E B n) z.toInt (A'.1 367 17).toInt ∧ hcU A' ∧ (z.toInt = 0 → hq_hs (ht_K B n) (ht_W B n) (ht_E B n) (A'.2.1 376 sd).toInt (A'.2.1 379 sd).toInt ∧ (A'.1 367 18).toInt = (sd : Int) ∧ hm_R (ht_K B n) (ht_W B n) (ht_E B n) sd A' ∧ hmBg sd A' ∧ (∀ j, j < 73 → A'.2.1 395 j = A'.2.1 396 j) ∧ (A'.1 367 51).toInt = 0 ∧ (A'.1 367 59).toInt = 0 ∧ ∀ s : Nat, (s : Int) < 3 → (A'.2.1 408 s).toInt = 0) ∧ (¬ z.toInt = 0 → uf_W uMf A A' ∧ hOT (1 - sd) A A')) → P r A') : hpa (f, g) d (some (.int)) hm_t150 0 [.ref 368, .retAddr 0] [] A P := by
  have k0 := hk_0
  have k1 := hk_1
  have k130 := hk_130
  have k3 := hk_3
  have k420 := hk_420
  have k4294967295 := hk_4294967295
  have U0 : uf_W uMf A A := uf_W.rfl
  have O0 : hOT (1 - sd) A A := hOT_r
  have L219 : ∀ (f : Nat) (x219_1 : Int32) (A219 : hs_A) (rs219 : hq_res (ht_K B n) (ht_W B n) (fun u => (ht_S B n u : Int)) (ht_E B n) 0 (A219.1 367 17).toInt) (hu219 : hcU A219) (hs219 : hq_hs (ht_K B n) (ht_W B n) (ht_E B n) (A219.2.1 376 sd).toInt (A219.2.1 379 sd).toInt) (lv219 : (A219.1 367 18).toInt = (sd : Int)) (mr219 : hm_R (ht_K B n) (ht_W B n) (ht_E B n) sd A219) (bg219 : hmBg sd A219) (kp219 : ∀ j, j < 73 → A219.2.1 395 j = A219.2.1 396 j) (un219 : (A219.1 367 51).toInt = 0) (to219 : (A219.1 367 59).toInt = 0) (lo219 : 0 ≤ x219_1.toInt) (he219 : ∀ s : Nat, (s : Int) < x219_1.toInt → (A219.2.1 408 s).toInt = 0) (H219 : uf_H A219), hpa (f, g) d (some (.int)) hm_t150 219 [.ref 368, .int x219_1] [] A219 P := by
    intro f
    induction f with
    | zero => intros; exact hpa.zero
    | succ f ih219 =>
      intro x219_1 A219 rs219 hu219 hs219 lv219 mr219 bg219 kp219 un219 to219 lo219 he219 H219
      refine hpa_iload_nS (by rfl) rfl ?_
      refine hpa_iconst (by rfl) rfl ?_
      refine hpj_cge (by rfl) rfl hk_3 (fun q1 => ?_) (fun q1 => ?_)
      ·
        refine hpa_iconst (by rfl) rfl ?_
        exact hpa_ireturn (by rfl) rfl (hP _ _ ⟨_, rfl, by rw [hk_0]; exact rs219, hu219, fun _ => ⟨hs219, lv219, mr219, bg219, kp219, un219, to219, fun s q => he219 s (by omega)⟩, fun q => absurd hk_0 q⟩)
      ·
        refine hpa_aload_n (by rfl) rfl ?_
        refine hpa_get (v := .ref 409) (by rfl) (by rfl) (by rfl) rfl ?_
        refine hpa_iload_n (by rfl) rfl ?_
        refine hpa_iconst (by rfl) rfl ?_
        refine hpx_zast (by rfl) (by rfl) (by decide) (fun A2 h0A2 h1A2 eA2 fA2 gA2 => ?_)
        have HA2 := (H219).e (congrArg (fun q => q.2) gA2)
        have rsA2 : hq_res (ht_K B n) (ht_W B n) (fun u => (ht_S B n u : Int)) (ht_E B n) 0 (A2.1 367 17).toInt := by rw [eA2]; exact rs219
        have huA2 : hcU A2 := hu219.fr (by rw [gA2])
        have hsA2 : hq_hs (ht_K B n) (ht_W B n) (ht_E B n) (A2.2.1 376 sd).toInt (A2.2.1 379 sd).toInt := by rw [fA2, hup2 (by omega), hup2 (by omega)]; exact hs219
        have mrA2 : hm_R (ht_K B n) (ht_W B n) (ht_E B n) sd A2 := mr219.fr (fun i _ _ => by rw [fA2]; funext j; exact hup2 (by omega))
        have bgA2 : hmBg sd A2 := bg219.mv (fun i hi => by rw [fA2]; funext j; exact hup2 (by omega)) (by rw [eA2]) (by rw [eA2])
        have kpA2 : ∀ j, j < 73 → A2.2.1 395 j = A2.2.1 396 j := fun j hj => by rw [fA2, hup2 (by omega), hup2 (by omega)]; exact kp219 j hj
        have lvA2 : (A2.1 367 18).toInt = (sd : Int) := by rw [eA2]; exact lv219
        have unA2 : (A2.1 367 51).toInt = 0 := by rw [eA2]; exact un219
        have toA2 : (A2.1 367 59).toInt = 0 := by rw [eA2]; exact to219
        have hcx := hn_cn (j := x219_1) (by omega)
        have heA2 : ∀ s : Nat, (s : Int) < x219_1.toInt + 1 → (A2.2.1 408 s).toInt = 0 := fun s hs2 => by rw [fA2]; by_cases q : s = x219_1.toNatClampNeg; (rw [q, hup1]; exact hk_0); (rw [hup2 (fun w => q w.2)]; exact he219 s (by omega))
        refine hpj_iinc (by rfl) rfl rfl hk_1 (by omega) (by omega) (fun _ => rfl) (fun z3 ez3 => ?_)
        refine hpa_goto (by rfl) ?_
        exact ih219 z3 A2 rsA2 huA2 hsA2 lvA2 mrA2 bgA2 kpA2 unA2 toA2 (by omega) (fun s q => heA2 s (by omega)) HA2
  have L112 : ∀ (f : Nat) (x112_1 : Value) (A112 : hs_A) (D112 : (∃ (t a b c : Nat) (ns : List Nat) (nm sn : Nat) (o : Option (Nat × Nat)) (bb zz : Nat), hmB (ht_K B n) (ht_W B n) (fun u => (ht_S B n u : Int)) (ht_E B n) A112 t (0, a, b, c, ns, nm, sn, o) ∧ hmR (fun u => (ht_S B n u : Int)) A112 t ns sn o sd 0 ∧ hmM (ht_W B n) A112 sd ns (hg_q (ht_K B n) (ht_W B n) (ht_E B n) t).1 bb zz ∧ (A112.1 367 31).toInt = (bb : Int) ∧ (A112.1 367 37).toInt = (zz : Int)) ∨ hmF (ht_K B n) (ht_W B n) (fun u => (ht_S B n u : Int)) (ht_E B n) A112) (O112 : hOT (1 - sd) A A112) (U112 : uf_W uMf A A112) (H112 : uf_H A112), hpa (f, g) d (some (.int)) hm_t150 112 [.ref 368, x112_1] [] A112 P := by
    intro f
    induction f with
    | zero => intros; exact hpa.zero
    | succ f ih112 =>
      intro x112_1 A112 D112 O112 U112 H112
      rcases D112 with ⟨t, a, b, c, ns, nm, sn, o, bb, zz, B1, R1, M1, b1, z1⟩ | F1
      ·
        have f01 := B1.2.2.2
        have nx1 := B1.2.1
        have j0 := B1.i0 hk_0
        have hl1 := R1.2.2.2.2.2.2.2
        have hU1 := B1.1.2.2
        refine hpa_aload_nS (by rfl) rfl ?_
        refine hpj_getK (by rfl) (by rfl) (by rfl) rfl ?_
        refine hpj_zne (by rfl) rfl (fun q4 => False.elim (by omega)) (fun q4 => ?_)
        refine hpa_aload_n (by rfl) rfl ?_
        refine hpa_iconst (by rfl) rfl ?_
        refine hpa_call0 (by rfl) (by rfl) (by rfl) (by rfl) (by rfl) (by rfl) (uf_C (X := ug_x93) (j := 93) rfl rfl (ug_L.cons (uf_rk_ok (by decide +kernel)) (uf_int uf_nil)) H112 (hP144 (Int32.ofNat 0) B1)) ?_
        rintro _ _ ⟨⟨rfl, z6, rfl, (⟨fz_A5, e_A5⟩ | ⟨fz_A5, ne_A5⟩)⟩, -, -⟩
        ·
          refine hpj_zne (by rfl) rfl (fun q7 => ?_) (fun q7 => False.elim (by omega))
          refine hpa_aload_n (by rfl) rfl ?_
          refine hpa_aload_n (by rfl) rfl ?_
          refine hpj_getK (by rfl) (by rfl) (by rfl) rfl ?_
          refine hpj_zle (by rfl) rfl (fun q8 => ?_) (fun q8 => False.elim (by omega))
          refine hpa_aload_n (by rfl) rfl ?_
          refine hpj_getK (by rfl) (by rfl) (by rfl) rfl ?_
          refine hpj_zle (by rfl) rfl (fun q9 => ?_) (fun q9 => ?_)
          ·
            refine hpa_iconst (by rfl) rfl ?_
            refine hpj_putI (by rfl) (by rfl) (by rfl) (by rfl) (fun A10 eA10 fA10 => ?_)
            have UA10 := (U112).put eA10 fA10 (by decide +kernel)
            have HA10 := (H112).e (congrArg (fun q => q.2.2) fA10)
            have OA10 : hOT (1 - sd) A A10 := (O112).eq (by rw [fA10])
            refine hpa_aload_n (by rfl) rfl ?_
            refine hpj_getK (by rfl) (by rfl) (by rfl) (hkF eA10 (by omega) rfl) ?_
            refine hpj_zle (by rfl) rfl (fun q11 => ?_) (fun q11 => False.elim (by omega))
            refine hpa_aload_n (by rfl) rfl ?_
            refine hpj_getK (by rfl) (by rfl) (by rfl) (hkF eA10 (by omega) rfl) ?_
            refine hpj_zle (by rfl) rfl (fun q12 => ?_) (fun q12 => False.elim (by omega))
            refine hpa_aload_n (by rfl) rfl ?_
            refine hpa_aload_n (by rfl) rfl ?_
            refine hpj_getK (by rfl) (by rfl) (by rfl) (hkF eA10 (by omega) rfl) ?_
            refine hpj_putI (by rfl) (by rfl) (by rfl) (by rfl) (fun A13 eA13 fA13 => ?_)
            have HA13 := (HA10).e (congrArg (fun q => q.2.2) fA13)
            have OA13 : hOT (1 - sd) A A13 := (OA10).eq (by rw [fA13])
            have rsA13 : hq_res (ht_K B n) (ht_W B n) (fun u => (ht_S B n u : Int)) (ht_E B n) 0 (A13.1 367 17).toInt := by
              rw [show A13.1 367 17 = (Int32.ofNat 4294967295) from (hkF eA13 (by omega) (hkS eA10)), hk_4294967295]
              exact hq_res.fine B1.2.2.1 (hqd0_end (by omega)) hl1 (by omega)
            have huA13 : hcU A13 := hU1.fr (by rw [fA13, fA10])
            have hsA13 : hq_hs (ht_K B n) (ht_W B n) (ht_E B n) (A13.2.1 376 sd).toInt (A13.2.1 379 sd).toInt := ⟨_, _, B1.2.2.1, hqd0_end (by omega), by rw [fA13, fA10]; exact R1.2.2.2.1, by rw [fA13, fA10]; exact R1.2.2.2.2.1⟩
            have rsd := R1.1
            have l18 := congrArg Int32.toInt (show A13.1 367 18 = (A112.1 367 19) from (hkS eA13))
            have lvA13 : (A13.1 367 18).toInt = (sd : Int) := by omega
            have mrA13 : hm_R (ht_K B n) (ht_W B n) (ht_E B n) sd A13 := ⟨_, _, _, _, B1.2.2.1, hqd0_end (by omega), (M1.up (A' := A10) (by rw [fA10])).up (A' := A13) (by rw [fA13])⟩
            have hnA13 : (A13.2.1 376 sd).toInt = (ns.length : Int) := by rw [fA13, fA10]; exact R1.2.2.2.1
            have hn10 : ns.length ≤ 10 := (hq_q_inv B1.2.2.1).1.2.2.1
            refine hpa_aload_n (by rfl) rfl ?_
            refine hpa_call0 (by rfl) (by rfl) (by rfl) (by rfl) (by rfl) (by rfl) (uf_C (X := ug_x94) (j := 94) rfl rfl (ug_L.cons (uf_rk_ok (by decide +kernel)) uf_nil) HA13 (hP169 lvA13 hsd hnA13 hn10)) ?_
            rintro _ A14 ⟨⟨rfl, fe_A14, lg_A14, fa_A14, rw_A14, m1_A14, gs_A14, l0_A14⟩, wA14, HA14⟩
            have OA14 := (OA13).trans (hOT.W (by omega) wA14 (by decide +kernel))
            have rsA14 : hq_res (ht_K B n) (ht_W B n) (fun u => (ht_S B n u : Int)) (ht_E B n) 0 (A14.1 367 17).toInt := by rw [fe_A14 367 17 (by omega)]; exact rsA13
            have huA14 : hcU A14 := huA13.fr (by rw [lg_A14])
            have hsA14 : hq_hs (ht_K B n) (ht_W B n) (ht_E B n) (A14.2.1 376 sd).toInt (A14.2.1 379 sd).toInt := by rw [fa_A14 376 (by omega), fa_A14 379 (by omega)]; exact hsA13
            have lvA14 : (A14.1 367 18).toInt = (sd : Int) := by rw [fe_A14 367 18 (by omega)]; exact lvA13
            have mrA14 : hm_R (ht_K B n) (ht_W B n) (ht_E B n) sd A14 := mrA13.fr (fun i _ _ => fa_A14 i (by omega))
            have bgA14 : hmBg sd A14 := ⟨_, by rw [fa_A14 376 (by omega)]; exact hnA13, rw_A14.fr (fa_A14 377 (by omega)) (fa_A14 378 (by omega)), m1_A14, by rw [gs_A14, fa_A14 382 (by omega)], l0_A14⟩
            refine hpa_aload_n (by rfl) rfl ?_
            refine hpa_call0 (by rfl) (by rfl) (by rfl) (by rfl) (by rfl) (by rfl) (uf_C (X := ug_x95) (j := 95) rfl rfl (ug_L.cons (uf_rk_ok (by decide +kernel)) uf_nil) HA14 (hP170 )) ?_
            rintro _ A15 ⟨⟨rfl, fe_A15, lg_A15, fa_A15, kp_A15⟩, wA15, HA15⟩
            have OA15 := (OA14).trans (hOT.W (by omega) wA15 (by decide +kernel))
            have rsA15 : hq_res (ht_K B n) (ht_W B n) (fun u => (ht_S B n u : Int)) (ht_E B n) 0 (A15.1 367 17).toInt := by rw [fe_A15]; exact rsA14
            have huA15 : hcU A15 := huA14.fr (by rw [lg_A15])
            have hsA15 : hq_hs (ht_K B n) (ht_W B n) (ht_E B n) (A15.2.1 376 sd).toInt (A15.2.1 379 sd).toInt := by rw [fa_A15 376 (by omega), fa_A15 379 (by omega)]; exact hsA14
            have lvA15 : (A15.1 367 18).toInt = (sd : Int) := by rw [fe_A15]; exact lvA14
            have mrA15 : hm_R (ht_K B n) (ht_W B n) (ht_E B n) sd A15 := mrA14.fr (fun i _ _ => fa_A15 i (by omega))
            have bgA15 : hmBg sd A15 := bgA14.mv (fun i _ => fa_A15 i (by omega)) (by rw [fe_A15]) (by rw [fe_A15])
            have kpA15 : ∀ j, j < 73 → A15.2.1 395 j = A15.2.1 396 j := fun j hj => by rw [fa_A15 396 (by omega)]; exact kp_A15 j hj
            refine hpa_aload_n (by rfl) rfl ?_
            refine hpa_iconst (by rfl) rfl ?_
            refine hpj_putI (by rfl) (by rfl) (by rfl) (by rfl) (fun A16 eA16 fA16 => ?_)
            have HA16 := (HA15).e (congrArg (fun q => q.2.2) fA16)
            have OA16 : hOT (1 - sd) A A16 := (OA15).eq (by rw [fA16])
            have rsA16 : hq_res (ht_K B n) (ht_W B n) (fun u => (ht_S B n u : Int)) (ht_E B n) 0 (A16.1 367 17).toInt := by rw [eA16, hup2 (by omega)]; exact rsA15
            have huA16 : hcU A16 := huA15.fr (by rw [fA16])
            have hsA16 : hq_hs (ht_K B n) (ht_W B n) (ht_E B n) (A16.2.1 376 sd).toInt (A16.2.1 379 sd).toInt := by rw [fA16]; exact hsA15
            have lvA16 : (A16.1 367 18).toInt = (sd : Int) := by rw [eA16, hup2 (by omega)]; exact lvA15
            have mrA16 : hm_R (ht_K B n) (ht_W B n) (ht_E B n) sd A16 := mrA15.fr (fun i _ _ => by rw [fA16])
            have bgA16 : hmBg sd A16 := bgA15.mv (fun i _ => by rw [fA16]) (by rw [eA16, hup2 (by omega)]) (by rw [eA16, hup2 (by omega)])
            have kpA16 : ∀ j, j < 73 → A16.2.1 395 j = A16.2.1 396 j := by rw [fA16]; exact kpA15
            have unA16 : (A16.1 367 51).toInt = 0 := by rw [eA16, hup1]; exact hk_0
            refine hpa_aload_n (by rfl) rfl ?_
            refine hpa_iconst (by rfl) rfl ?_
            refine hpj_putI (by rfl) (by rfl) (by rfl) (by rfl) (fun A17 eA17 fA17 => ?_)
            have HA17 := (HA16).e (congrArg (fun q => q.2.2) fA17)
            have OA17 : hOT (1 - sd) A A17 := (OA16).eq (by rw [fA17])
            have rsA17 : hq_res (ht_K B n) (ht_W B n) (fun u => (ht_S B n u : Int)) (ht_E B n) 0 (A17.1 367 17).toInt := by rw [eA17, hup2 (by omega)]; exact rsA16
            have huA17 : hcU A17 := huA16.fr (by rw [fA17])
            have hsA17 : hq_hs (ht_K B n) (ht_W B n) (ht_E B n) (A17.2.1 376 sd).toInt (A17.2.1 379 sd).toInt := by rw [fA17]; exact hsA16
            have lvA17 : (A17.1 367 18).toInt = (sd : Int) := by rw [eA17, hup2 (by omega)]; exact lvA16
            have mrA17 : hm_R (ht_K B n) (ht_W B n) (ht_E B n) sd A17 := mrA16.fr (fun i _ _ => by rw [fA17])
            have bgA17 : hmBg sd A17 := bgA16.mv (fun i _ => by rw [fA17]) (by rw [eA17, hup2 (by omega)]) (by rw [eA17, hup2 (by omega)])
            have kpA17 : ∀ j, j < 73 → A17.2.1 395 j = A17.2.1 396 j := by rw [fA17]; exact kpA16
            have unA17 : (A17.1 367 51).toInt = 0 := by rw [eA17, hup2 (by omega)]; exact unA16
            have toA17 : (A17.1 367 59).toInt = 0 := by rw [eA17, hup1]; exact hk_0
            refine hpa_iconst (by rfl) rfl ?_
            refine hpa_s1 (by rfl) (Or.inl ⟨_, rfl, rfl⟩) rfl ?_
            exact L219 _ (Int32.ofNat 0) A17 rsA17 huA17 hsA17 lvA17 mrA17 bgA17 kpA17 unA17 toA17 (by omega) (fun s q => absurd q (by omega)) HA17
          ·
            refine hpa_aload_n (by rfl) rfl ?_
            refine hpj_getK (by rfl) (by rfl) (by rfl) rfl ?_
            refine hpa_goto (by rfl) ?_
            refine hpj_putI (by rfl) (by rfl) (by rfl) (by rfl) (fun A18 eA18 fA18 => ?_)
            have UA18 := (U112).put eA18 fA18 (by decide +kernel)
            have HA18 := (H112).e (congrArg (fun q => q.2.2) fA18)
            have OA18 : hOT (1 - sd) A A18 := (O112).eq (by rw [fA18])
            refine hpa_aload_n (by rfl) rfl ?_
            refine hpj_getK (by rfl) (by rfl) (by rfl) (hkF eA18 (by omega) rfl) ?_
            refine hpj_zle (by rfl) rfl (fun q19 => ?_) (fun q19 => False.elim (by omega))
            refine hpa_aload_n (by rfl) rfl ?_
            refine hpj_getK (by rfl) (by rfl) (by rfl) (hkF eA18 (by omega) rfl) ?_
            refine hpj_zle (by rfl) rfl (fun q20 => False.elim (by omega)) (fun q20 => ?_)
            refine hpa_aload_n (by rfl) rfl ?_
            refine hpj_getK (by rfl) (by rfl) (by rfl) (hkF eA18 (by omega) rfl) ?_
            exact hpa_ireturn (by rfl) rfl (hP _ _ ⟨_, rfl, by rw [show A18.1 367 17 = (A112.1 367 16) from (hkS eA18)]; exact hq_res.bad B1.2.2.1 (hqd0_end (by omega)) hl1 (by omega), hU1.fr (by rw [fA18]), fun q => False.elim (by omega), fun _ => ⟨UA18, OA18⟩⟩)
        ·
          refine hpj_zne (by rfl) rfl (fun q21 => False.elim (by omega)) (fun q21 => ?_)
          refine hpa_aload_n (by rfl) rfl ?_
          refine hpa_call0 (by rfl) (by rfl) (by rfl) (by rfl) (by rfl) (by rfl) (uf_C (X := ug_x131) (j := 131) rfl rfl (ug_L.cons (uf_rk_ok (by decide +kernel)) uf_nil) H112 (hP154r hmS.of ht_W_ok B1 R1 M1 b1 z1 (by omega) H112)) ?_
          rintro _ A22 ⟨⟨rfl, (⟨OKK_A22, OT_A22⟩ | ⟨F_A22, OT_A22⟩)⟩, wA22, HA22⟩
          ·
            have UA22 := (U112).trans (wA22.le (by decide +kernel : ug_wle ug_x131.2.2.2.1 uMf = true))
            have OA22 := (O112).trans OT_A22
            obtain ⟨t9, a9, b9, c9, ns9, nm9, sn9, o9, bb9, zz9, lt9, B9, R9, M9, b9x, z9x⟩ := OKK_A22
            refine hpa_goto (by rfl) ?_
            exact ih112 (x112_1) A22 (Or.inl ⟨_, _, _, _, _, _, _, _, _, _, B9, R9, M9, b9x, z9x⟩) OA22 UA22 HA22
          ·
            have UA22 := (U112).trans (wA22.le (by decide +kernel : ug_wle ug_x131.2.2.2.1 uMf = true))
            have OA22 := (O112).trans OT_A22
            have fp_A22 := F_A22.pos
            refine hpa_goto (by rfl) ?_
            exact ih112 (x112_1) A22 (Or.inr F_A22) OA22 UA22 HA22
      ·
        have fp1 := F1.pos
        obtain ⟨fU, ft, fk, fq, fk0, fv, fpl⟩ := id F1
        refine hpa_aload_nS (by rfl) rfl ?_
        refine hpj_getK (by rfl) (by rfl) (by rfl) rfl ?_
        refine hpj_zne (by rfl) rfl (fun q23 => ?_) (fun q23 => False.elim (by omega))
        refine hpa_aload_n (by rfl) rfl ?_
        refine hpa_aload_n (by rfl) rfl ?_
        refine hpj_getK (by rfl) (by rfl) (by rfl) rfl ?_
        refine hpj_zle (by rfl) rfl (fun q24 => False.elim (by omega)) (fun q24 => ?_)
        refine hpa_aload_n (by rfl) rfl ?_
        refine hpj_getK (by rfl) (by rfl) (by rfl) rfl ?_
        refine hpa_goto (by rfl) ?_
        refine hpj_putI (by rfl) (by rfl) (by rfl) (by rfl) (fun A25 eA25 fA25 => ?_)
        have UA25 := (U112).put eA25 fA25 (by decide +kernel)
        have HA25 := (H112).e (congrArg (fun q => q.2.2) fA25)
        have OA25 : hOT (1 - sd) A A25 := (O112).eq (by rw [fA25])
        refine hpa_aload_n (by rfl) rfl ?_
        refine hpj_getK (by rfl) (by rfl) (by rfl) (hkF eA25 (by omega) rfl) ?_
        refine hpj_zle (by rfl) rfl (fun q26 => False.elim (by omega)) (fun q26 => ?_)
        refine hpa_aload_n (by rfl) rfl ?_
        refine hpj_getK (by rfl) (by rfl) (by rfl) (hkF eA25 (by omega) rfl) ?_
        exact hpa_ireturn (by rfl) rfl (hP _ _ ⟨_, rfl, by rw [show A25.1 367 17 = (A112.1 367 14) from (hkS eA25)]; exact Or.inl ⟨ft, fk, fq, fk0, fv, fpl⟩, fU.fr (by rw [fA25]), fun q => False.elim (by omega), fun _ => ⟨UA25, OA25⟩⟩)
  have L10 : ∀ (f : Nat) (x10_1 : Int32) (A10 : hs_A) (fe : ∀ i k, ¬ (i = 367 ∧ k = 4) → A10.1 i k = A.1 i k) (f4 : (A10.1 367 4).toInt = (n : Int)) (fa : ∀ i, ¬ i = 369 → A10.2.1 i = A.2.1 i) (fl : A10.2.2 = A.2.2) (lo : 0 ≤ x10_1.toInt) (hi : x10_1.toInt ≤ (n : Int)) (cp : ∀ i : Nat, (i : Int) < x10_1.toInt → (A10.2.1 369 i).toInt = B i) (O10 : hOT (1 - sd) A A10) (U10 : uf_W uMf A A10) (H10 : uf_H A10), hpa (f, g) d (some (.int)) hm_t150 10 [.ref 368, .int x10_1] [] A10 P := by
    intro f
    induction f with
    | zero => intros; exact hpa.zero
    | succ f ih10 =>
      intro x10_1 A10 fe f4 fa fl lo hi cp O10 U10 H10
      refine hpa_iload_nS (by rfl) rfl ?_
      refine hpa_aload_n (by rfl) rfl ?_
      refine hpj_getK (by rfl) (by rfl) (by rfl) rfl ?_
      refine hpj_cge (by rfl) rfl rfl (fun q27 => ?_) (fun q27 => ?_)
      ·
        refine hpa_aload_n (by rfl) rfl ?_
        refine hpa_iconst (by rfl) rfl ?_
        refine hpj_putI (by rfl) (by rfl) (by rfl) (by rfl) (fun A28 eA28 fA28 => ?_)
        have UA28 := (U10).put eA28 fA28 (by decide +kernel)
        have HA28 := (H10).e (congrArg (fun q => q.2.2) fA28)
        have OA28 : hOT (1 - sd) A A28 := (O10).eq (by rw [fA28])
        have hA38 : hmTp B n A28 := ⟨by rw [eA28, hup2 (by omega)]; exact f4, fun i hi => by rw [fA28]; exact cp i (by omega)⟩
        have hU38 : hcU A28 := hU.fr (by rw [fA28, fl])
        have hl38 : (A28.1 367 18).toInt = 1 - (sd : Int) := by rw [eA28, hup2 (by omega), fe 367 18 (by omega)]; exact hlv
        refine hpa_aload_n (by rfl) rfl ?_
        refine hpa_call0 (by rfl) (by rfl) (by rfl) (by rfl) (by rfl) (by rfl) (uf_C (X := ug_x91) (j := 91) rfl rfl (ug_L.cons (uf_rk_ok (by decide +kernel)) uf_nil) HA28 (hP142 hA38 hn hBr hU38)) ?_
        rintro _ A29 ⟨⟨rfl, C_A29, TE_A29⟩, wA29, HA29⟩
        have UA29 := (UA28).trans (wA29.le (by decide +kernel : ug_wle ug_x91.2.2.2.1 uMf = true))
        have OA29 := (OA28).trans (hOT.W (by omega) wA29 (by decide +kernel))
        have hl42 : (A29.1 367 18).toInt = 1 - (sd : Int) := by rw [C_A29.1 367 18 (by omega)]; exact hl38
        refine hpa_aload_n (by rfl) rfl ?_
        refine hpa_iconst (by rfl) rfl ?_
        refine hpj_putI (by rfl) (by rfl) (by rfl) (by rfl) (fun A30 eA30 fA30 => ?_)
        have UA30 := (UA29).put eA30 fA30 (by decide +kernel)
        have HA30 := (HA29).e (congrArg (fun q => q.2.2) fA30)
        have OA30 : hOT (1 - sd) A A30 := (OA29).eq (by rw [fA30])
        refine hpa_aload_n (by rfl) rfl ?_
        refine hpa_iconst (by rfl) rfl ?_
        refine hpj_putI (by rfl) (by rfl) (by rfl) (by rfl) (fun A31 eA31 fA31 => ?_)
        have UA31 := (UA30).put eA31 fA31 (by decide +kernel)
        have HA31 := (HA30).e (congrArg (fun q => q.2.2) fA31)
        have OA31 : hOT (1 - sd) A A31 := (OA30).eq (by rw [fA31])
        refine hpa_aload_n (by rfl) rfl ?_
        refine hpa_iconst (by rfl) rfl ?_
        refine hpj_putI (by rfl) (by rfl) (by rfl) (by rfl) (fun A32 eA32 fA32 => ?_)
        have UA32 := (UA31).put eA32 fA32 (by decide +kernel)
        have HA32 := (HA31).e (congrArg (fun q => q.2.2) fA32)
        have OA32 : hOT (1 - sd) A A32 := (OA31).eq (by rw [fA32])
        refine hpa_aload_n (by rfl) rfl ?_
        refine hpa_iconst (by rfl) rfl ?_
        refine hpj_putI (by rfl) (by rfl) (by rfl) (by rfl) (fun A33 eA33 fA33 => ?_)
        have UA33 := (UA32).put eA33 fA33 (by decide +kernel)
        have HA33 := (HA32).e (congrArg (fun q => q.2.2) fA33)
        have OA33 : hOT (1 - sd) A A33 := (OA32).eq (by rw [fA33])
        refine hpa_aload_n (by rfl) rfl ?_
        refine hpa_iconst (by rfl) rfl ?_
        refine hpa_aload_n (by rfl) rfl ?_
        refine hpj_getK (by rfl) (by rfl) (by rfl) (hkF eA33 (by omega) (hkF eA32 (by omega) (hkF eA31 (by omega) (hkF eA30 (by omega) rfl)))) ?_
        refine hpj_isub (by rfl) hk_1 rfl (by omega) (by omega) (fun z34 ez34 => ?_)
        refine hpj_putI (by rfl) (by rfl) (by rfl) (by rfl) (fun A35 eA35 fA35 => ?_)
        have UA35 := (UA33).put eA35 fA35 (by decide +kernel)
        have HA35 := (HA33).e (congrArg (fun q => q.2.2) fA35)
        have OA35 : hOT (1 - sd) A A35 := (OA33).eq (by rw [fA35])
        refine hpa_aload_n (by rfl) rfl ?_
        refine hpa_iconst (by rfl) rfl ?_
        refine hpj_putI (by rfl) (by rfl) (by rfl) (by rfl) (fun A36 eA36 fA36 => ?_)
        have UA36 := (UA35).put eA36 fA36 (by decide +kernel)
        have HA36 := (HA35).e (congrArg (fun q => q.2.2) fA36)
        have OA36 : hOT (1 - sd) A A36 := (OA35).eq (by rw [fA36])
        refine hpa_aload_n (by rfl) rfl ?_
        refine hpa_aload_n (by rfl) rfl ?_
        refine hpj_getK (by rfl) (by rfl) (by rfl) (hkF eA36 (by omega) (hkS eA35)) ?_
        refine hpa_call0 (by rfl) (by rfl) (by rfl) (by rfl) (by rfl) (by rfl) (uf_C (X := ug_x92) (j := 92) rfl rfl (ug_L.cons (uf_rk_ok (by decide +kernel)) (uf_int uf_nil)) HA36 (hP149r (V := ht_W B n) z34 (show z34.toInt = (sd : Int) by omega) hsd HA36)) ?_
        rintro _ A37 ⟨⟨rfl, P_A37, z1_A37, z2_A37, M0_A37, OT_A37⟩, wA37, HA37⟩
        have UA37 := (UA36).trans (wA37.le (by decide +kernel : ug_wle ug_x92.2.2.2.1 uMf = true))
        have OA37 := (OA36).trans OT_A37
        have h19A37 : (A37.1 367 19).toInt = (sd : Int) := by rw [P_A37.1, show A36.1 367 19 = z34 from (hkF eA36 (by omega) (hkS eA35))]; omega
        refine hpa_aload_n (by rfl) rfl ?_
        refine hpa_sipush (by rfl) rfl ?_
        refine hpa_aload_n (by rfl) rfl ?_
        refine hpj_getK (by rfl) (by rfl) (by rfl) rfl ?_
        refine hpj_imul (by rfl) hk_130 rfl (by omega) (by omega) (fun z38 ez38 => ?_)
        refine hpj_putI (by rfl) (by rfl) (by rfl) (by rfl) (fun A39 eA39 fA39 => ?_)
        have UA39 := (UA37).put eA39 fA39 (by decide +kernel)
        have HA39 := (HA37).e (congrArg (fun q => q.2.2) fA39)
        have OA39 : hOT (1 - sd) A A39 := (OA37).eq (by rw [fA39])
        have b0A39 : (A39.1 367 31).toInt = ((130 * sd : Nat) : Int) := by rw [show A39.1 367 31 = z38 from (hkS eA39)]; omega
        refine hpa_aload_n (by rfl) rfl ?_
        refine hpa_sipush (by rfl) rfl ?_
        refine hpa_aload_n (by rfl) rfl ?_
        refine hpj_getK (by rfl) (by rfl) (by rfl) (hkF eA39 (by omega) rfl) ?_
        refine hpj_imul (by rfl) hk_420 rfl (by omega) (by omega) (fun z40 ez40 => ?_)
        refine hpj_putI (by rfl) (by rfl) (by rfl) (by rfl) (fun A41 eA41 fA41 => ?_)
        have UA41 := (UA39).put eA41 fA41 (by decide +kernel)
        have HA41 := (HA39).e (congrArg (fun q => q.2.2) fA41)
        have OA41 : hOT (1 - sd) A A41 := (OA39).eq (by rw [fA41])
        obtain ⟨B0, R0⟩ := hm_init hsd TE_A29 eA30 fA30 eA31 fA31 eA32 fA32 eA33 fA33 eA35 fA35 (show z34.toInt = (sd : Int) by omega) eA36 fA36 P_A37 z1_A37 z2_A37 eA39 fA39 eA41 fA41
        have z0A41 : (A41.1 367 37).toInt = ((420 * sd : Nat) : Int) := by rw [show A41.1 367 37 = z40 from (hkS eA41)]; omega
        have bbA41 : (A41.1 367 31).toInt = ((130 * sd : Nat) : Int) := by rw [eA41, hup2 (by omega)]; exact b0A39
        have MAA41 := ((M0_A37 (130 * sd) (420 * sd)).up (A' := A39) (by rw [fA39])).up (A' := A41) (by rw [fA41])
        exact L112 _ (.int x10_1) A41 (Or.inl ⟨_, _, _, _, _, _, _, _, _, _, B0, R0, MAA41, bbA41, z0A41⟩) OA41 UA41 HA41
      ·
        refine hpa_aload_n (by rfl) rfl ?_
        refine hpa_get (v := .ref 370) (by rfl) (by rfl) (by rfl) rfl ?_
        refine hpa_iload_n (by rfl) rfl ?_
        refine hpa_aload_n (by rfl) rfl ?_
        refine hpa_get (v := .ref 369) (by rfl) (by rfl) (by rfl) rfl ?_
        refine hpa_iload_n (by rfl) rfl ?_
        refine hpx_bald (by rfl) (by rfl) (fun h0v42 h1v42 v42 ev42 => ?_)
        have hc10 := hn_cn (j := x10_1) (by omega)
        have tv28 : v42.toInt = B x10_1.toNatClampNeg := by rw [← ev42, fa 368 (by omega)]; exact hA x10_1.toNatClampNeg (by omega)
        have hbr28 := hBr x10_1.toNatClampNeg (by omega)
        have hst := hi8 (x := v42) (by omega) (by omega)
        refine hpx_bast (by rfl) (by rfl) (fun A43 h0A43 h1A43 eA43 fA43 gA43 => ?_)
        have UA43 := (U10).ar eA43 fA43 gA43 (by decide +kernel)
        have HA43 := (H10).e (congrArg (fun q => q.2) gA43)
        have OA43 : hOT (1 - sd) A A43 := (O10).a fA43 (fun hl => by unfold hlq at hl; omega)
        refine hpj_iinc (by rfl) rfl rfl hk_1 (by omega) (by omega) (fun _ => rfl) (fun z44 ez44 => ?_)
        refine hpa_goto (by rfl) ?_
        exact ih10 z44 A43 (fun i k hi => by rw [eA43]; exact fe i k hi) (by rw [eA43]; exact f4) (fun i hi => by rw [fA43, ← fa i hi]; funext b; exact hup2 (fun q => hi q.1)) (gA43.trans fl) (by omega) (by omega) (fun i hi => by rw [fA43]; by_cases q : i = x10_1.toNatClampNeg; (subst q; rw [hup1, hst]; exact tv28); rw [hup2 (fun w => q w.2)]; exact cp i (by omega)) OA43 UA43 HA43
  refine hpa_aload_n (by rfl) rfl ?_
  refine hpa_aload_n (by rfl) rfl ?_
  refine hpj_getK (by rfl) (by rfl) (by rfl) rfl ?_
  refine hpj_putI (by rfl) (by rfl) (by rfl) (by rfl) (fun A45 eA45 fA45 => ?_)
  have UA45 := (U0).put eA45 fA45 (by decide +kernel)
  have HA45 := (hH0).e (congrArg (fun q => q.2.2) fA45)
  have OA45 : hOT (1 - sd) A A45 := (O0).eq (by rw [fA45])
  refine hpa_iconst (by rfl) rfl ?_
  refine hpa_s1 (by rfl) (Or.inl ⟨_, rfl, rfl⟩) rfl ?_
  exact L10 _ (Int32.ofNat 0) A45 (fun i k hi => by rw [eA45, hup2 hi]) (by rw [eA45, hup1]; exact h2) (fun i _ => by rw [fA45]) (by rw [fA45]) (by omega) (by omega) (fun i hi => absurd hi (by omega)) OA45 UA45 HA45
theorem hP150q {g d : Nat} {A : hs_A} {B : Nat → Int} {n sd : Nat} (hA : ∀ i, i < n → (A.2.1 368 i).toInt = B i) (hBr : ∀ i, i < n → -128 ≤ B i ∧ B i ≤ 127) (hn : n ≤ 2000) (h2 : (A.1 367 2).toInt = (n : Int)) (hlv : (A.1 367 18).toInt = 1 - (sd : Int)) (hsd : sd ≤ 1) (hU : hcU A) (hH0 : uf_H A) : hpC g d 150 hm_m150 [.ref 368] A (fun r A' => ∃ z : Int32, r = some (.int z) ∧ hq_res (ht_K B n) (ht_W B n) (fun u => (ht_S B n u : Int)) (ht_E B n) z.toInt (A'.1 367 17).toInt ∧ hcU A' ∧ (z.toInt = 0 → hq_hs (ht_K B n) (ht_W B n) (ht_E B n) (A'.2.1 376 sd).toInt (A'.2.1 379 sd).toInt ∧ (A'.1 367 18).toInt = (sd : Int) ∧ hm_R (ht_K B n) (ht_W B n) (ht_E B n) sd A' ∧ hmBg sd A' ∧ (∀ j, j < 73 → A'.2.1 395 j = A'.2.1 396 j) ∧ (A'.1 367 51).toInt = 0 ∧ (A'.1 367 59).toInt = 0 ∧ ∀ s : Nat, (s : Int) < 3 → (A'.2.1 408 s).toInt = 0) ∧ (¬ z.toInt = 0 → uf_W uMf A A' ∧ hOT (1 - sd) A A')) := hpC.all (fun f d => hW150q hA hBr hn h2 hlv hsd hU hH0 (fun r A' h => h))
theorem hP150r {g d : Nat} {A : hs_A} {B : Nat → Int} {n sd : Nat} (hA : ∀ i, i < n → (A.2.1 368 i).toInt = B i) (hBr : ∀ i, i < n → -128 ≤ B i ∧ B i ≤ 127) (hn : n ≤ 2000) (h2 : (A.1 367 2).toInt = (n : Int)) (hlv : (A.1 367 18).toInt = 1 - (sd : Int)) (hsd : sd ≤ 1) (hU : hcU A) (hH0 : uf_H A) : hpC g d 150 hm_m150 [.ref 368] A (fun r A' => ∃ z : Int32, r = some (.int z) ∧ hq_res (ht_K B n) (ht_W B n) (fun u => (ht_S B n u : Int)) (ht_E B n) z.toInt (A'.1 367 17).toInt ∧ hcU A' ∧ (z.toInt = 0 → hq_hs (ht_K B n) (ht_W B n) (ht_E B n) (A'.2.1 376 sd).toInt (A'.2.1 379 sd).toInt ∧ (A'.1 367 18).toInt = (sd : Int) ∧ (A'.1 367 51).toInt = 0 ∧ (A'.1 367 59).toInt = 0 ∧ ∀ s : Nat, (s : Int) < 3 → (A'.2.1 408 s).toInt = 0) ∧ (¬ z.toInt = 0 → uf_W uMf A A' ∧ A'.2.1 376 (1 - sd) = A.2.1 376 (1 - sd))) := (hP150q hA hBr hn h2 hlv hsd hU hH0).imp (fun r A' h => by obtain ⟨z, e, x, u, ok, no⟩ := h; exact ⟨z, e, x, u, fun q => (by obtain ⟨a, b, -, -, -, un, to, he⟩ := ok q; exact ⟨a, b, un, to, he⟩), fun q => ⟨(no q).1, (no q).2 376 _ (Or.inl ⟨Or.inl rfl, rfl⟩)⟩⟩)
theorem hP37r {g d : Nat} {A : hs_A} {B : Nat → Int} {n T : Nat} (hT : hTT T) (a1 : Int32) (hA : hcTp B n A) (h1 : a1.toInt = (n : Int)) (hn : n ≤ 2000) (hBr : ∀ i, i < n → B i ≤ 127) (hU : hcU A) : hpC g d 37 hm_m37 [.ref 21, .ref (T + 1), .ref 2, .int a1] A (fun r A' => ∃ z : Int32, r = some (.int z) ∧ hq_res (ht_K B n) (ht_W B n) (fun u => (ht_S B n u : Int)) (ht_E B n) z.toInt (A'.1 20 6).toInt ∧ hcU A' ∧ (z.toInt = 0 → hq_hs (ht_K B n) (ht_W B n) (ht_E B n) (A'.1 T 4).toInt (A'.1 T 5).toInt)) := (hP37n hT a1 hA h1 hn hBr hU).imp (fun r A' h => by obtain ⟨z, e, x, y, w, -⟩ := h; exact ⟨z, e, x, y, w⟩)
theorem hY74q41 {d : Nat} {N : Int} {A : hs_A} (hA : hJ 0 N (N + 72) A A) (h3 : A.2.2.2 0 3 = 12) (h4 : A.2.2.2 0 4 = 3) (hp : hPg A 5)  {P : Option Value → hs_A → Prop} (hP : ∀ (r : Option Value) (A' : hs_A), (hJ 0 (N + 72) (N + 144) A' A' ∧ r = none ∧ (A'.1 0 1 = A.1 0 1 ∧ A'.1 367 2 = A.1 367 2 ∧ A'.1 0 2 = A.1 0 2 ∧ A'.2.2.1 = A.2.2.1 ∧ (∀ j, A'.2.1 368 j = A.2.1 368 j) ∧ A'.2.2.2 0 3 = 3 ∧ A'.1 340 2 = Int32.ofNat 0 ∧ A'.1 0 10 = Int32.ofNat 0 ∧ A'.1 40 2 = Int32.ofNat 0 ∧ A'.1 2 4 = A.1 2 4 ∧ A'.1 2 5 = A.1 2 5)) → P r A') : hxa (d + 1) none hm_t74 0 [.ref 1, .retAddr 0] [] A P := by
  obtain ⟨T0, hT0, -, eT0⟩ := hA.T
  refine hxa_aload_n (by rfl) rfl ?_
  refine hxj_getT (by rfl) (by rfl) (by rfl) h3 ?_
  refine hxa_astore_n (by rfl) rfl ?_
  refine hxa_aload_n (by rfl) rfl ?_
  refine hxa_aload_n (by rfl) rfl ?_
  refine hxj_getT (by rfl) (by rfl) (by rfl) h4 ?_
  refine hxa_putR (i := 0) (by rfl) (by rfl) (by rfl) (by rfl) ?_
  refine hxa_aload_n (by rfl) rfl ?_
  refine hxa_aload_n (by rfl) rfl ?_
  refine hxa_putR (i := 0) (by rfl) (by rfl) (by rfl) (by rfl) ?_
  have hsw := hJ.swap1 hA h3 h4 hp
  obtain ⟨W5, eW5⟩ : ∃ W : hs_A, W = (A.1, A.2.1, A.2.2.1, hs_upN (hs_upN A.2.2.2 0 3 3) 0 4 12) := ⟨_, rfl⟩
  rw [← eW5] at hsw
  have w03 : W5.2.2.2 0 3 = 3 := by rw [eW5]; simp [hs_upN]
  have w1 : W5.1 = A.1 := by rw [eW5]
  show hxa _ _ _ _ _ _ (A.1, A.2.1, A.2.2.1, hs_upN (hs_upN A.2.2.2 0 3 3) 0 4 12) _
  rw [← eW5]
  obtain ⟨T5, hT5, eT5⟩ : ∃ T, hTT T ∧ W5.2.2.2 0 3 = T + 1 := ⟨2, Or.inl rfl, w03⟩
  refine hxa_aload_n (by rfl) rfl ?_
  refine hxa_get (v := .ref 27) (by rfl) (by rfl) (by rfl) rfl ?_
  refine hxa_aload_n (by rfl) rfl ?_
  refine hxj_getT (by rfl) (by rfl) (by rfl) eT5 ?_
  refine hxa_call0 (by rfl) (by rfl) (by rfl) (by rfl) (by rfl) (by rfl) (hX16 (d := d + 0) hsw hL26 hT5 eT5) ?_
  rintro _ A1 ⟨hA1, rfl⟩
  refine hxa_aload_n (by rfl) rfl ?_
  refine hxa_get (v := .ref 41) (by rfl) (by rfl) (by rfl) rfl ?_
  refine hxa_iconst (by rfl) rfl ?_
  refine hxj_putI (by rfl) (by rfl) (by rfl) (by rfl) hA1 (hbok (by rfl) hk_0 (by omega) (by omega)) (by rfl) (by rfl) (fun A2 hA2 eA2 fA2 => ?_)
  refine hxa_aload_n (by rfl) rfl ?_
  refine hxa_get (v := .ref 341) (by rfl) (by rfl) (by rfl) rfl ?_
  refine hxa_iconst (by rfl) rfl ?_
  refine hxj_putI (by rfl) (by rfl) (by rfl) (by rfl) hA2 (hbok (by rfl) hk_0 (by omega) (by omega)) (by rfl) (by rfl) (fun A3 hA3 eA3 fA3 => ?_)
  refine hxa_aload_n (by rfl) rfl ?_
  refine hxa_iconst (by rfl) rfl ?_
  refine hxj_putI (by rfl) (by rfl) (by rfl) (by rfl) hA3 (hbokN (by rfl)) (by rfl) (by rfl) (fun A4 hA4 eA4 fA4 => ?_)
  refine hxa_aload_n (by rfl) rfl ?_
  refine hxa_get (v := .ref 329) (by rfl) (by rfl) (by rfl) rfl ?_
  refine hxa_iconst (by rfl) rfl ?_
  refine hxj_putI (by rfl) (by rfl) (by rfl) (by rfl) hA4 (hbok (by rfl) hk_0 (by omega) (by omega)) (by rfl) (by rfl) (fun A5 hA5 eA5 fA5 => ?_)
  exact hxa_return (by rfl) rfl (hP _ _ ⟨(hJ.mono (hJ.self hA5) (by omega) (by omega)), rfl, ⟨(hA5.2.2.1.1 0 1 (by rfl)).trans (congrFun (congrFun w1 0) 1), (hA5.2.2.1.1 367 2 (by rfl)).trans (congrFun (congrFun w1 367) 2), (hA5.2.2.1.1 0 2 (by rfl)).trans (congrFun (congrFun w1 0) 2), (hA5.2.2.1.2.2.1 rfl).trans (by rw [eW5]), fun j => (hA5.2.2.1.2.1 368 (by rfl) j).trans (by rw [eW5]), (hA5.2.2.1.2.2.2 0 3 (by rfl)).trans w03, hkF eA5 (by first | decide | omega) (hkF eA4 (by first | decide | omega) (hkS eA3)), hkF eA5 (by first | decide | omega) (hkS eA4), hkF eA5 (by first | decide | omega) (hkF eA4 (by first | decide | omega) (hkF eA3 (by first | decide | omega) (hkS eA2))), (hA5.2.2.1.1 2 4 (by rfl)).trans (congrFun (congrFun w1 2) 4), (hA5.2.2.1.1 2 5 (by rfl)).trans (congrFun (congrFun w1 2) 5)⟩⟩)
theorem hX74q41 {d : Nat} {N : Int} {A : hs_A} (hA : hJ 0 N (N + 72) A A) (h3 : A.2.2.2 0 3 = 12) (h4 : A.2.2.2 0 4 = 3) (hp : hPg A 5)  : hxC (d + 2) 74 hm_m74 [.ref 1] A (fun r A' => hJ 0 (N + 72) (N + 144) A' A' ∧ r = none ∧ (A'.1 0 1 = A.1 0 1 ∧ A'.1 367 2 = A.1 367 2 ∧ A'.1 0 2 = A.1 0 2 ∧ A'.2.2.1 = A.2.2.1 ∧ (∀ j, A'.2.1 368 j = A.2.1 368 j) ∧ A'.2.2.2 0 3 = 3 ∧ A'.1 340 2 = Int32.ofNat 0 ∧ A'.1 0 10 = Int32.ofNat 0 ∧ A'.1 40 2 = Int32.ofNat 0 ∧ A'.1 2 4 = A.1 2 4 ∧ A'.1 2 5 = A.1 2 5)) := hxC.of (by rfl) (hY74q41 hA h3 h4 hp (fun r A' h => h))
theorem hY73q41 {d : Nat} {N : Int} {A : hs_A} (hA : hJ 0 N (N + 72) A A) (h3 : A.2.2.2 0 3 = 12) (h4 : A.2.2.2 0 4 = 3) {B : Nat → Int} {n : Nat} (hTp : hcTp B n A) (h1 : (A.1 0 1).toInt = (n : Int)) (hBr : ∀ i, i < n → -128 ≤ B i ∧ B i ≤ 127) (hU : hcU A)  {P : Option Value → hs_A → Prop} (hP : ∀ (r : Option Value) (A' : hs_A), (hJ 0 (N + 72) (N + 144) A' A' ∧ ∃ z : Int32, r = some (.int z) ∧ ((A'.1 0 1).toInt = 0 ∧ A'.1 367 2 = A.1 367 2 ∧ hq_res (ht_K B n) (ht_W B n) (fun u => (ht_S B n u : Int)) (ht_E B n) z.toInt (A'.1 0 2).toInt ∧ hcU A' ∧ (∀ j, A'.2.1 368 j = A.2.1 368 j) ∧ (z.toInt = 0 → A'.2.2.2 0 3 = 3 ∧ hq_hs (ht_K B n) (ht_W B n) (ht_E B n) (A'.1 2 4).toInt (A'.1 2 5).toInt ∧ A'.1 340 2 = Int32.ofNat 0 ∧ A'.1 0 10 = Int32.ofNat 0 ∧ A'.1 40 2 = Int32.ofNat 0) ∧ (¬ z.toInt = 0 → A'.2.2.2 0 3 = 12 ∧ A'.1 11 4 = A.1 11 4 ∧ A'.1 11 5 = A.1 11 5 ∧ A'.1 340 2 = A.1 340 2 ∧ A'.1 0 10 = A.1 0 10 ∧ A'.1 40 2 = A.1 40 2))) → P r A') : hxa (d + 25) (some (.int)) hm_t73 0 [.ref 1, .retAddr 0] [] A P := by
  refine hxa_aload_n (by rfl) rfl ?_
  refine hxa_get (v := .ref 21) (by rfl) (by rfl) (by rfl) rfl ?_
  refine hxa_aload_n (by rfl) rfl ?_
  refine hxj_getT (by rfl) (by rfl) (by rfl) h4 ?_
  refine hxa_aload_n (by rfl) rfl ?_
  refine hxa_get (v := .ref 2) (by rfl) (by rfl) (by rfl) rfl ?_
  refine hxa_aload_n (by rfl) rfl ?_
  refine hxj_getB (by rfl) (by rfl) (by rfl) hA (by rfl) (fun z1 ez1 fz1 gz1 => ?_)
  have h1z : z1.toInt = (n : Int) := by rw [← ez1]; exact h1
  refine hxa_call0 (by rfl) (by rfl) (by rfl) (by rfl) (by rfl) (by rfl) (hxC.and (g := 0) (hX37q1 (d := d + 0) hA z1 (by omega) (by omega)) (fun g => hP37r (T := 2) (Or.inl rfl) z1 hTp h1z (by omega) (fun i hi => (hBr i hi).2) hU)) ?_
  rintro _ A2 ⟨⟨hA2, z3, rfl, fz3⟩, A2v, hvis, z3v, ez3v, RS, hU2, HS⟩
  have ezz : z3v = z3 := by injection ez3v with e; injection e with e; exact e.symm
  rw [ezz] at RS HS
  have HS2 : z3.toInt = 0 → hq_hs (ht_K B n) (ht_W B n) (ht_E B n) (A2.1 2 4).toInt (A2.1 2 5).toInt := fun q => by rw [← hvis.f (i := 2) (k := 4) (by rfl) (by rfl), ← hvis.f (i := 2) (k := 5) (by rfl) (by rfl)]; exact HS q
  have RS2 : hq_res (ht_K B n) (ht_W B n) (fun u => (ht_S B n u : Int)) (ht_E B n) z3.toInt (A2.1 20 6).toInt := by rw [← hvis.f (i := 20) (k := 6) (by rfl) (by rfl)]; exact RS
  have hU3 : hcU A2 := hvis.U hU2
  have hen := hJ.end1 hA2 h3 h4
  have h10 := hJ.to10 hen.1
  refine hxa_s1 (by rfl) (Or.inl ⟨_, rfl, rfl⟩) rfl ?_
  refine hxa_aload_n (by rfl) rfl ?_
  refine hxa_iconst (by rfl) rfl ?_
  refine hxj_putI (by rfl) (by rfl) (by rfl) (by rfl) h10 (hbok (by rfl) hk_0 (by omega) (by omega)) (by rfl) (by rfl) (fun A4 hA4 eA4 fA4 => ?_)
  refine hxa_aload_n (by rfl) rfl ?_
  refine hxa_aload_n (by rfl) rfl ?_
  refine hxa_get (v := .ref 21) (by rfl) (by rfl) (by rfl) rfl ?_
  refine hxj_getI (by rfl) (by rfl) (by rfl) (fun z5 ez5 => ?_)
  refine hxj_putI (by rfl) (by rfl) (by rfl) (by rfl) hA4 (hbokN (by rfl)) (by rfl) (by rfl) (fun A6 hA6 eA6 fA6 => ?_)
  refine hxa_iload_n (by rfl) rfl ?_
  refine hxj_zne (by rfl) rfl (fun q7 => ?_) (fun q7 => ?_)
  ·
    refine hxa_iload_n (by rfl) rfl ?_
    have he := hJ.end10 hA6
    exact hxa_ireturn (by rfl) rfl (hP _ _ ⟨(hJ.mono he.1 (by omega) (by omega)), _, rfl, ⟨by rw [(show A6.1 0 1 = (Int32.ofNat 0) from (hkF eA6 (by first | decide | omega) (hkS eA4)))]; decide, Eq.trans (hkF eA6 (by first | decide | omega) (hkF eA4 (by first | decide | omega) rfl)) hen.2.2.2, by rw [show A6.1 0 2 = z5 from hkS eA6, ← ez5, hkF eA4 (by first | decide | omega) rfl]; exact RS2, hU3.fr (by rw [fA6, fA4]), fun j => by rw [fA6, fA4]; exact hA2.2.2.1.2.1 368 (by rfl) j, fun q => absurd q q7, fun _ => ⟨he.2.1.trans hen.2.1, Eq.trans (hkF eA6 (by first | decide | omega) (hkF eA4 (by first | decide | omega) rfl)) (hA2.2.2.1.1 11 4 (by rfl)), Eq.trans (hkF eA6 (by first | decide | omega) (hkF eA4 (by first | decide | omega) rfl)) (hA2.2.2.1.1 11 5 (by rfl)), Eq.trans (hkF eA6 (by first | decide | omega) (hkF eA4 (by first | decide | omega) rfl)) (hA2.2.2.1.1 340 2 (by rfl)), Eq.trans (hkF eA6 (by first | decide | omega) (hkF eA4 (by first | decide | omega) rfl)) (hA2.2.2.1.1 0 10 (by rfl)), Eq.trans (hkF eA6 (by first | decide | omega) (hkF eA4 (by first | decide | omega) rfl)) (hA2.2.2.1.1 40 2 (by rfl))⟩⟩⟩)
  ·
    refine hxa_aload_n (by rfl) rfl ?_
    have he := hJ.end10 hA6
    have hpg : hPg A6 5 := fun j hj => by rw [hA6.2.2.1.2.1 5 (by rfl) j]; exact (fz3 (by omega)) j hj
    refine hxa_call0 (by rfl) (by rfl) (by rfl) (by rfl) (by rfl) (by rfl) (hX74q41 (d := d + 23) he.1 (he.2.1.trans hen.2.1) (he.2.2.trans hen.2.2.1) hpg) ?_
    rintro _ A8 ⟨hA8, rfl, fA8⟩
    refine hxa_iload_n (by rfl) rfl ?_
    exact hxa_ireturn (by rfl) rfl (hP _ _ ⟨(hJ.mono hA8 (by omega) (by omega)), _, rfl, ⟨by rw [(show A8.1 0 1 = (Int32.ofNat 0) from ((fA8.1).trans (hkF eA6 (by first | decide | omega) (hkS eA4))))]; decide, ((fA8.2.1).trans (Eq.trans (hkF eA6 (by first | decide | omega) (hkF eA4 (by first | decide | omega) rfl)) hen.2.2.2)), by rw [fA8.2.2.1]; rw [show A6.1 0 2 = z5 from hkS eA6, ← ez5, hkF eA4 (by first | decide | omega) rfl]; exact RS2, hU3.fr (by rw [fA8.2.2.2.1, fA6, fA4]), fun j => by rw [fA8.2.2.2.2.1 j, fA6, fA4]; exact hA2.2.2.1.2.1 368 (by rfl) j, fun _ => ⟨fA8.2.2.2.2.2.1, by rw [fA8.2.2.2.2.2.2.2.2.2.1, fA8.2.2.2.2.2.2.2.2.2.2, show A6.1 2 4 = A2.1 2 4 from hkF eA6 (by first | decide | omega) (hkF eA4 (by first | decide | omega) rfl), show A6.1 2 5 = A2.1 2 5 from hkF eA6 (by first | decide | omega) (hkF eA4 (by first | decide | omega) rfl)]; exact HS2 (by omega), fA8.2.2.2.2.2.2.1, fA8.2.2.2.2.2.2.2.1, fA8.2.2.2.2.2.2.2.2.1⟩, fun q => absurd (by omega) q⟩⟩)
theorem hX73q41 {d : Nat} {N : Int} {A : hs_A} (hA : hJ 0 N (N + 72) A A) (h3 : A.2.2.2 0 3 = 12) (h4 : A.2.2.2 0 4 = 3) {B : Nat → Int} {n : Nat} (hTp : hcTp B n A) (h1 : (A.1 0 1).toInt = (n : Int)) (hBr : ∀ i, i < n → -128 ≤ B i ∧ B i ≤ 127) (hU : hcU A)  : hxC (d + 26) 73 hm_m73 [.ref 1] A (fun r A' => hJ 0 (N + 72) (N + 144) A' A' ∧ ∃ z : Int32, r = some (.int z) ∧ ((A'.1 0 1).toInt = 0 ∧ A'.1 367 2 = A.1 367 2 ∧ hq_res (ht_K B n) (ht_W B n) (fun u => (ht_S B n u : Int)) (ht_E B n) z.toInt (A'.1 0 2).toInt ∧ hcU A' ∧ (∀ j, A'.2.1 368 j = A.2.1 368 j) ∧ (z.toInt = 0 → A'.2.2.2 0 3 = 3 ∧ hq_hs (ht_K B n) (ht_W B n) (ht_E B n) (A'.1 2 4).toInt (A'.1 2 5).toInt ∧ A'.1 340 2 = Int32.ofNat 0 ∧ A'.1 0 10 = Int32.ofNat 0 ∧ A'.1 40 2 = Int32.ofNat 0) ∧ (¬ z.toInt = 0 → A'.2.2.2 0 3 = 12 ∧ A'.1 11 4 = A.1 11 4 ∧ A'.1 11 5 = A.1 11 5 ∧ A'.1 340 2 = A.1 340 2 ∧ A'.1 0 10 = A.1 0 10 ∧ A'.1 40 2 = A.1 40 2))) := hxC.of (by rfl) (hY73q41 hA h3 h4 hTp h1 hBr hU (fun r A' h => h))
theorem hY74q42 {d : Nat} {N : Int} {A : hs_A} (hA : hJ 0 N (N + 72) A A) (h3 : A.2.2.2 0 3 = 3) (h4 : A.2.2.2 0 4 = 12) (hp : hPg A 14)  {P : Option Value → hs_A → Prop} (hP : ∀ (r : Option Value) (A' : hs_A), (hJ 0 (N + 72) (N + 144) A' A' ∧ r = none ∧ (A'.1 0 1 = A.1 0 1 ∧ A'.1 367 2 = A.1 367 2 ∧ A'.1 0 2 = A.1 0 2 ∧ A'.2.2.1 = A.2.2.1 ∧ (∀ j, A'.2.1 368 j = A.2.1 368 j) ∧ A'.2.2.2 0 3 = 12 ∧ A'.1 340 2 = Int32.ofNat 0 ∧ A'.1 0 10 = Int32.ofNat 0 ∧ A'.1 40 2 = Int32.ofNat 0 ∧ A'.1 11 4 = A.1 11 4 ∧ A'.1 11 5 = A.1 11 5)) → P r A') : hxa (d + 1) none hm_t74 0 [.ref 1, .retAddr 0] [] A P := by
  obtain ⟨T0, hT0, -, eT0⟩ := hA.T
  refine hxa_aload_n (by rfl) rfl ?_
  refine hxj_getT (by rfl) (by rfl) (by rfl) h3 ?_
  refine hxa_astore_n (by rfl) rfl ?_
  refine hxa_aload_n (by rfl) rfl ?_
  refine hxa_aload_n (by rfl) rfl ?_
  refine hxj_getT (by rfl) (by rfl) (by rfl) h4 ?_
  refine hxa_putR (i := 0) (by rfl) (by rfl) (by rfl) (by rfl) ?_
  refine hxa_aload_n (by rfl) rfl ?_
  refine hxa_aload_n (by rfl) rfl ?_
  refine hxa_putR (i := 0) (by rfl) (by rfl) (by rfl) (by rfl) ?_
  have hsw := hJ.swap2 hA h3 h4 hp
  obtain ⟨W5, eW5⟩ : ∃ W : hs_A, W = (A.1, A.2.1, A.2.2.1, hs_upN (hs_upN A.2.2.2 0 3 12) 0 4 3) := ⟨_, rfl⟩
  rw [← eW5] at hsw
  have w03 : W5.2.2.2 0 3 = 12 := by rw [eW5]; simp [hs_upN]
  have w1 : W5.1 = A.1 := by rw [eW5]
  show hxa _ _ _ _ _ _ (A.1, A.2.1, A.2.2.1, hs_upN (hs_upN A.2.2.2 0 3 12) 0 4 3) _
  rw [← eW5]
  obtain ⟨T5, hT5, eT5⟩ : ∃ T, hTT T ∧ W5.2.2.2 0 3 = T + 1 := ⟨11, Or.inr rfl, w03⟩
  refine hxa_aload_n (by rfl) rfl ?_
  refine hxa_get (v := .ref 27) (by rfl) (by rfl) (by rfl) rfl ?_
  refine hxa_aload_n (by rfl) rfl ?_
  refine hxj_getT (by rfl) (by rfl) (by rfl) eT5 ?_
  refine hxa_call0 (by rfl) (by rfl) (by rfl) (by rfl) (by rfl) (by rfl) (hX16 (d := d + 0) hsw hL26 hT5 eT5) ?_
  rintro _ A1 ⟨hA1, rfl⟩
  refine hxa_aload_n (by rfl) rfl ?_
  refine hxa_get (v := .ref 41) (by rfl) (by rfl) (by rfl) rfl ?_
  refine hxa_iconst (by rfl) rfl ?_
  refine hxj_putI (by rfl) (by rfl) (by rfl) (by rfl) hA1 (hbok (by rfl) hk_0 (by omega) (by omega)) (by rfl) (by rfl) (fun A2 hA2 eA2 fA2 => ?_)
  refine hxa_aload_n (by rfl) rfl ?_
  refine hxa_get (v := .ref 341) (by rfl) (by rfl) (by rfl) rfl ?_
  refine hxa_iconst (by rfl) rfl ?_
  refine hxj_putI (by rfl) (by rfl) (by rfl) (by rfl) hA2 (hbok (by rfl) hk_0 (by omega) (by omega)) (by rfl) (by rfl) (fun A3 hA3 eA3 fA3 => ?_)
  refine hxa_aload_n (by rfl) rfl ?_
  refine hxa_iconst (by rfl) rfl ?_
  refine hxj_putI (by rfl) (by rfl) (by rfl) (by rfl) hA3 (hbokN (by rfl)) (by rfl) (by rfl) (fun A4 hA4 eA4 fA4 => ?_)
  refine hxa_aload_n (by rfl) rfl ?_
  refine hxa_get (v := .ref 329) (by rfl) (by rfl) (by rfl) rfl ?_
  refine hxa_iconst (by rfl) rfl ?_
  refine hxj_putI (by rfl) (by rfl) (by rfl) (by rfl) hA4 (hbok (by rfl) hk_0 (by omega) (by omega)) (by rfl) (by rfl) (fun A5 hA5 eA5 fA5 => ?_)
  exact hxa_return (by rfl) rfl (hP _ _ ⟨(hJ.mono (hJ.self hA5) (by omega) (by omega)), rfl, ⟨(hA5.2.2.1.1 0 1 (by rfl)).trans (congrFun (congrFun w1 0) 1), (hA5.2.2.1.1 367 2 (by rfl)).trans (congrFun (congrFun w1 367) 2), (hA5.2.2.1.1 0 2 (by rfl)).trans (congrFun (congrFun w1 0) 2), (hA5.2.2.1.2.2.1 rfl).trans (by rw [eW5]), fun j => (hA5.2.2.1.2.1 368 (by rfl) j).trans (by rw [eW5]), (hA5.2.2.1.2.2.2 0 3 (by rfl)).trans w03, hkF eA5 (by first | decide | omega) (hkF eA4 (by first | decide | omega) (hkS eA3)), hkF eA5 (by first | decide | omega) (hkS eA4), hkF eA5 (by first | decide | omega) (hkF eA4 (by first | decide | omega) (hkF eA3 (by first | decide | omega) (hkS eA2))), (hA5.2.2.1.1 11 4 (by rfl)).trans (congrFun (congrFun w1 11) 4), (hA5.2.2.1.1 11 5 (by rfl)).trans (congrFun (congrFun w1 11) 5)⟩⟩)
theorem hX74q42 {d : Nat} {N : Int} {A : hs_A} (hA : hJ 0 N (N + 72) A A) (h3 : A.2.2.2 0 3 = 3) (h4 : A.2.2.2 0 4 = 12) (hp : hPg A 14)  : hxC (d + 2) 74 hm_m74 [.ref 1] A (fun r A' => hJ 0 (N + 72) (N + 144) A' A' ∧ r = none ∧ (A'.1 0 1 = A.1 0 1 ∧ A'.1 367 2 = A.1 367 2 ∧ A'.1 0 2 = A.1 0 2 ∧ A'.2.2.1 = A.2.2.1 ∧ (∀ j, A'.2.1 368 j = A.2.1 368 j) ∧ A'.2.2.2 0 3 = 12 ∧ A'.1 340 2 = Int32.ofNat 0 ∧ A'.1 0 10 = Int32.ofNat 0 ∧ A'.1 40 2 = Int32.ofNat 0 ∧ A'.1 11 4 = A.1 11 4 ∧ A'.1 11 5 = A.1 11 5)) := hxC.of (by rfl) (hY74q42 hA h3 h4 hp (fun r A' h => h))
theorem hY73q42 {d : Nat} {N : Int} {A : hs_A} (hA : hJ 0 N (N + 72) A A) (h3 : A.2.2.2 0 3 = 3) (h4 : A.2.2.2 0 4 = 12) {B : Nat → Int} {n : Nat} (hTp : hcTp B n A) (h1 : (A.1 0 1).toInt = (n : Int)) (hBr : ∀ i, i < n → -128 ≤ B i ∧ B i ≤ 127) (hU : hcU A)  {P : Option Value → hs_A → Prop} (hP : ∀ (r : Option Value) (A' : hs_A), (hJ 0 (N + 72) (N + 144) A' A' ∧ ∃ z : Int32, r = some (.int z) ∧ ((A'.1 0 1).toInt = 0 ∧ A'.1 367 2 = A.1 367 2 ∧ hq_res (ht_K B n) (ht_W B n) (fun u => (ht_S B n u : Int)) (ht_E B n) z.toInt (A'.1 0 2).toInt ∧ hcU A' ∧ (∀ j, A'.2.1 368 j = A.2.1 368 j) ∧ (z.toInt = 0 → A'.2.2.2 0 3 = 12 ∧ hq_hs (ht_K B n) (ht_W B n) (ht_E B n) (A'.1 11 4).toInt (A'.1 11 5).toInt ∧ A'.1 340 2 = Int32.ofNat 0 ∧ A'.1 0 10 = Int32.ofNat 0 ∧ A'.1 40 2 = Int32.ofNat 0) ∧ (¬ z.toInt = 0 → A'.2.2.2 0 3 = 3 ∧ A'.1 2 4 = A.1 2 4 ∧ A'.1 2 5 = A.1 2 5 ∧ A'.1 340 2 = A.1 340 2 ∧ A'.1 0 10 = A.1 0 10 ∧ A'.1 40 2 = A.1 40 2))) → P r A') : hxa (d + 25) (some (.int)) hm_t73 0 [.ref 1, .retAddr 0] [] A P := by
  refine hxa_aload_n (by rfl) rfl ?_
  refine hxa_get (v := .ref 21) (by rfl) (by rfl) (by rfl) rfl ?_
  refine hxa_aload_n (by rfl) rfl ?_
  refine hxj_getT (by rfl) (by rfl) (by rfl) h4 ?_
  refine hxa_aload_n (by rfl) rfl ?_
  refine hxa_get (v := .ref 2) (by rfl) (by rfl) (by rfl) rfl ?_
  refine hxa_aload_n (by rfl) rfl ?_
  refine hxj_getB (by rfl) (by rfl) (by rfl) hA (by rfl) (fun z1 ez1 fz1 gz1 => ?_)
  have h1z : z1.toInt = (n : Int) := by rw [← ez1]; exact h1
  refine hxa_call0 (by rfl) (by rfl) (by rfl) (by rfl) (by rfl) (by rfl) (hxC.and (g := 0) (hX37q2 (d := d + 0) hA z1 (by omega) (by omega)) (fun g => hP37r (T := 11) (Or.inr rfl) z1 hTp h1z (by omega) (fun i hi => (hBr i hi).2) hU)) ?_
  rintro _ A2 ⟨⟨hA2, z3, rfl, fz3⟩, A2v, hvis, z3v, ez3v, RS, hU2, HS⟩
  have ezz : z3v = z3 := by injection ez3v with e; injection e with e; exact e.symm
  rw [ezz] at RS HS
  have HS2 : z3.toInt = 0 → hq_hs (ht_K B n) (ht_W B n) (ht_E B n) (A2.1 11 4).toInt (A2.1 11 5).toInt := fun q => by rw [← hvis.f (i := 11) (k := 4) (by rfl) (by rfl), ← hvis.f (i := 11) (k := 5) (by rfl) (by rfl)]; exact HS q
  have RS2 : hq_res (ht_K B n) (ht_W B n) (fun u => (ht_S B n u : Int)) (ht_E B n) z3.toInt (A2.1 20 6).toInt := by rw [← hvis.f (i := 20) (k := 6) (by rfl) (by rfl)]; exact RS
  have hU3 : hcU A2 := hvis.U hU2
  have hen := hJ.end2 hA2 h3 h4
  have h10 := hJ.to10 hen.1
  refine hxa_s1 (by rfl) (Or.inl ⟨_, rfl, rfl⟩) rfl ?_
  refine hxa_aload_n (by rfl) rfl ?_
  refine hxa_iconst (by rfl) rfl ?_
  refine hxj_putI (by rfl) (by rfl) (by rfl) (by rfl) h10 (hbok (by rfl) hk_0 (by omega) (by omega)) (by rfl) (by rfl) (fun A4 hA4 eA4 fA4 => ?_)
  refine hxa_aload_n (by rfl) rfl ?_
  refine hxa_aload_n (by rfl) rfl ?_
  refine hxa_get (v := .ref 21) (by rfl) (by rfl) (by rfl) rfl ?_
  refine hxj_getI (by rfl) (by rfl) (by rfl) (fun z5 ez5 => ?_)
  refine hxj_putI (by rfl) (by rfl) (by rfl) (by rfl) hA4 (hbokN (by rfl)) (by rfl) (by rfl) (fun A6 hA6 eA6 fA6 => ?_)
  refine hxa_iload_n (by rfl) rfl ?_
  refine hxj_zne (by rfl) rfl (fun q7 => ?_) (fun q7 => ?_)
  ·
    refine hxa_iload_n (by rfl) rfl ?_
    have he := hJ.end10 hA6
    exact hxa_ireturn (by rfl) rfl (hP _ _ ⟨(hJ.mono he.1 (by omega) (by omega)), _, rfl, ⟨by rw [(show A6.1 0 1 = (Int32.ofNat 0) from (hkF eA6 (by first | decide | omega) (hkS eA4)))]; decide, Eq.trans (hkF eA6 (by first | decide | omega) (hkF eA4 (by first | decide | omega) rfl)) hen.2.2.2, by rw [show A6.1 0 2 = z5 from hkS eA6, ← ez5, hkF eA4 (by first | decide | omega) rfl]; exact RS2, hU3.fr (by rw [fA6, fA4]), fun j => by rw [fA6, fA4]; exact hA2.2.2.1.2.1 368 (by rfl) j, fun q => absurd q q7, fun _ => ⟨he.2.1.trans hen.2.1, Eq.trans (hkF eA6 (by first | decide | omega) (hkF eA4 (by first | decide | omega) rfl)) (hA2.2.2.1.1 2 4 (by rfl)), Eq.trans (hkF eA6 (by first | decide | omega) (hkF eA4 (by first | decide | omega) rfl)) (hA2.2.2.1.1 2 5 (by rfl)), Eq.trans (hkF eA6 (by first | decide | omega) (hkF eA4 (by first | decide | omega) rfl)) (hA2.2.2.1.1 340 2 (by rfl)), Eq.trans (hkF eA6 (by first | decide | omega) (hkF eA4 (by first | decide | omega) rfl)) (hA2.2.2.1.1 0 10 (by rfl)), Eq.trans (hkF eA6 (by first | decide | omega) (hkF eA4 (by first | decide | omega) rfl)) (hA2.2.2.1.1 40 2 (by rfl))⟩⟩⟩)
  ·
    refine hxa_aload_n (by rfl) rfl ?_
    have he := hJ.end10 hA6
    have hpg : hPg A6 14 := fun j hj => by rw [hA6.2.2.1.2.1 14 (by rfl) j]; exact (fz3 (by omega)) j hj
    refine hxa_call0 (by rfl) (by rfl) (by rfl) (by rfl) (by rfl) (by rfl) (hX74q42 (d := d + 23) he.1 (he.2.1.trans hen.2.1) (he.2.2.trans hen.2.2.1) hpg) ?_
    rintro _ A8 ⟨hA8, rfl, fA8⟩
    refine hxa_iload_n (by rfl) rfl ?_
    exact hxa_ireturn (by rfl) rfl (hP _ _ ⟨(hJ.mono hA8 (by omega) (by omega)), _, rfl, ⟨by rw [(show A8.1 0 1 = (Int32.ofNat 0) from ((fA8.1).trans (hkF eA6 (by first | decide | omega) (hkS eA4))))]; decide, ((fA8.2.1).trans (Eq.trans (hkF eA6 (by first | decide | omega) (hkF eA4 (by first | decide | omega) rfl)) hen.2.2.2)), by rw [fA8.2.2.1]; rw [show A6.1 0 2 = z5 from hkS eA6, ← ez5, hkF eA4 (by first | decide | omega) rfl]; exact RS2, hU3.fr (by rw [fA8.2.2.2.1, fA6, fA4]), fun j => by rw [fA8.2.2.2.2.1 j, fA6, fA4]; exact hA2.2.2.1.2.1 368 (by rfl) j, fun _ => ⟨fA8.2.2.2.2.2.1, by rw [fA8.2.2.2.2.2.2.2.2.2.1, fA8.2.2.2.2.2.2.2.2.2.2, show A6.1 11 4 = A2.1 11 4 from hkF eA6 (by first | decide | omega) (hkF eA4 (by first | decide | omega) rfl), show A6.1 11 5 = A2.1 11 5 from hkF eA6 (by first | decide | omega) (hkF eA4 (by first | decide | omega) rfl)]; exact HS2 (by omega), fA8.2.2.2.2.2.2.1, fA8.2.2.2.2.2.2.2.1, fA8.2.2.2.2.2.2.2.2.1⟩, fun q => absurd (by omega) q⟩⟩)
theorem hX73q42 {d : Nat} {N : Int} {A : hs_A} (hA : hJ 0 N (N + 72) A A) (h3 : A.2.2.2 0 3 = 3) (h4 : A.2.2.2 0 4 = 12) {B : Nat → Int} {n : Nat} (hTp : hcTp B n A) (h1 : (A.1 0 1).toInt = (n : Int)) (hBr : ∀ i, i < n → -128 ≤ B i ∧ B i ≤ 127) (hU : hcU A)  : hxC (d + 26) 73 hm_m73 [.ref 1] A (fun r A' => hJ 0 (N + 72) (N + 144) A' A' ∧ ∃ z : Int32, r = some (.int z) ∧ ((A'.1 0 1).toInt = 0 ∧ A'.1 367 2 = A.1 367 2 ∧ hq_res (ht_K B n) (ht_W B n) (fun u => (ht_S B n u : Int)) (ht_E B n) z.toInt (A'.1 0 2).toInt ∧ hcU A' ∧ (∀ j, A'.2.1 368 j = A.2.1 368 j) ∧ (z.toInt = 0 → A'.2.2.2 0 3 = 12 ∧ hq_hs (ht_K B n) (ht_W B n) (ht_E B n) (A'.1 11 4).toInt (A'.1 11 5).toInt ∧ A'.1 340 2 = Int32.ofNat 0 ∧ A'.1 0 10 = Int32.ofNat 0 ∧ A'.1 40 2 = Int32.ofNat 0) ∧ (¬ z.toInt = 0 → A'.2.2.2 0 3 = 3 ∧ A'.1 2 4 = A.1 2 4 ∧ A'.1 2 5 = A.1 2 5 ∧ A'.1 340 2 = A.1 340 2 ∧ A'.1 0 10 = A.1 0 10 ∧ A'.1 40 2 = A.1 40 2))) := hxC.of (by rfl) (hY73q42 hA h3 h4 hTp h1 hBr hU (fun r A' h => h))
/-! HELD: the slots' bits and the reference's row -/
def hBit (x a : Int32) : Int := ((x >>> (a &&& 31)) &&& Int32.ofNat 1).toInt
def hHd (x : Int32) (f : Nat → Int32) : Prop := ∃ n : Nat, n < 8 ∧ x = Int32.ofNat n ∧ ∀ s : Nat, s < 3 → f s = Int32.ofNat (n / 2 ^ s % 2)
theorem hHd_d1 : ∀ n, n < 8 → ∀ a, a < 3 → hBit (Int32.ofNat n) (Int32.ofNat a) = (Int32.ofNat (n / 2 ^ a % 2)).toInt := by decide +kernel
theorem hHd_d2 : ∀ n, n < 8 → ∀ a, a < 3 → Int32.ofNat n ||| (Int32.ofNat 1 <<< (Int32.ofNat a &&& 31)) = Int32.ofNat (n ||| 2 ^ a) ∧ (n ||| 2 ^ a) < 8 ∧ ∀ s, s < 3 → (if s = a then Int32.ofNat 1 else Int32.ofNat (n / 2 ^ s % 2)) = Int32.ofNat ((n ||| 2 ^ a) / 2 ^ s % 2) := by decide +kernel
theorem hI32 {a : Int32} (h0 : 0 ≤ a.toInt) (h1 : a.toInt < 1000) : a = Int32.ofNat a.toNatClampNeg := by
  have c := hn_cn (j := a) h0
  apply Int32.toInt_inj.mp
  rw [hn_c (n := a.toNatClampNeg) rfl (by omega)]
  omega
theorem hHd.bit {x : Int32} {f : Nat → Int32} (h : hHd x f) {a : Int32} (h0 : 0 ≤ a.toInt) (h1 : a.toInt ≤ 2) : hBit x a = (f a.toNatClampNeg).toInt := by
  obtain ⟨n, hn, rfl, hf⟩ := h
  have c := hn_cn (j := a) h0
  rw [hf _ (by omega), ← hHd_d1 n hn _ (by omega), ← hI32 h0 (by omega)]
theorem hHd.hold {x x' : Int32} {f f' : Nat → Int32} (h : hHd x f) {a : Int32} (h0 : 0 ≤ a.toInt) (h1 : a.toInt ≤ 2) (hx : x' = x ||| (Int32.ofNat 1 <<< (a &&& 31))) (hf' : ∀ s, s < 3 → f' s = if s = a.toNatClampNeg then Int32.ofNat 1 else f s) : hHd x' f' := by
  obtain ⟨n, hn, rfl, hf⟩ := h
  have c := hn_cn (j := a) h0
  obtain ⟨q1, q2, q3⟩ := hHd_d2 n hn a.toNatClampNeg (by omega)
  refine ⟨_, q2, ?_, fun s hs => ?_⟩
  · rw [hx, ← q1, ← hI32 h0 (by omega)]
  · rw [hf' s hs, ← q3 s hs]
    by_cases q : s = a.toNatClampNeg
    · rw [if_pos q, if_pos q]
    · rw [if_neg q, if_neg q, hf s hs]
theorem hHd.nil {x : Int32} {f : Nat → Int32} (hx : x = Int32.ofNat 0) (hf : ∀ s : Nat, s < 3 → (f s).toInt = 0) : hHd x f := ⟨0, by decide, hx, fun s hs => by
  rw [show (0 : Nat) / 2 ^ s % 2 = 0 by rw [Nat.zero_div]]
  exact Int32.toInt_inj.mp ((hf s hs).trans hk_0.symm)⟩
theorem hHd.eq {x x' : Int32} {f f' : Nat → Int32} (h : hHd x f) (hx : x' = x) (hf' : ∀ s : Nat, s < 3 → f' s = f s) : hHd x' f' := by
  obtain ⟨n, hn, e, hf⟩ := h
  exact ⟨n, hn, hx.trans e, fun s hs => (hf' s hs).trans (hf s hs)⟩
section HXE
variable {d : Nat} {ret : Option FieldType} {tb : hc_K} {pc len r1 r2 : Nat} {l st : List Value} {A : hs_A} {P : Option Value → hs_A → Prop}
theorem hxj_iorE {x y : Int32} (hI : hc_get tb pc = some (.ior, len, r1, r2)) (k : ∀ z : Int32, z = x ||| y → hxa d ret tb (pc + 1) l (.int z :: st) A P) : hxa d ret tb pc l (.int y :: .int x :: st) A P := hxa_ior hI (k _ rfl)
theorem hxj_iandE {x y : Int32} (hI : hc_get tb pc = some (.iand, len, r1, r2)) (k : ∀ z : Int32, z = x &&& y → hxa d ret tb (pc + 1) l (.int z :: st) A P) : hxa d ret tb pc l (.int y :: .int x :: st) A P := hxa_iand hI (k _ rfl)
theorem hxj_ishrE {x y : Int32} (hI : hc_get tb pc = some (.ishr, len, r1, r2)) (k : ∀ z : Int32, z = x >>> (y &&& 31) → hxa d ret tb (pc + 1) l (.int z :: st) A P) : hxa d ret tb pc l (.int y :: .int x :: st) A P := hxa_ishr hI (k _ rfl)
theorem hxj_ishlE {x y : Int32} (hI : hc_get tb pc = some (.ishl, len, r1, r2)) (k : ∀ z : Int32, z = x <<< (y &&& 31) → hxa d ret tb (pc + 1) l (.int z :: st) A P) : hxa d ret tb pc l (.int y :: .int x :: st) A P := hxa_ishl hI (k _ rfl)
end HXE
theorem haa_slotsE {j : Int32} (h0 : 0 ≤ j.toInt) (h1 : j.toInt ≤ 2) : ∃ L, hLL L ∧ ([347, 354, 361] : List Nat)[j.toNatClampNeg]? = some (L + 1) ∧ L = 346 + 7 * j.toNatClampNeg := by
  obtain ⟨L, hL, e⟩ := haa_slots (j := j) rfl h0 h1
  refine ⟨L, hL, e, ?_⟩
  have c := hn_cn (j := j) h0
  have q : j.toNatClampNeg = 0 ∨ j.toNatClampNeg = 1 ∨ j.toNatClampNeg = 2 := by omega
  rcases q with q | q | q
  · rw [q] at e ⊢
    have e' : some 347 = some (L + 1) := e
    injection e' with e'
    omega
  · rw [q] at e ⊢
    have e' : some 354 = some (L + 1) := e
    injection e' with e'
    omega
  · rw [q] at e ⊢
    have e' : some 361 = some (L + 1) := e
    injection e' with e'
    omega
set_option maxRecDepth 1000000 in
theorem uf_slo : uf_rk [73] 347 = true ∧ uf_rk [73] 354 = true ∧ uf_rk [73] 361 = true := by decide +kernel
theorem uf_slV {L s : Nat} (hs : s < 3) (h : L = 346 + 7 * s) : ug_V (some (.inl [73])) (.ref (L + 1)) := by
  subst h
  obtain ⟨a, b, c⟩ := uf_slo
  have q : s = 0 ∨ s = 1 ∨ s = 2 := by omega
  rcases q with rfl | rfl | rfl
  · exact uf_rk_ok a
  · exact uf_rk_ok b
  · exact uf_rk_ok c

theorem uf_k17s {d L s : Nat} {A : hs_A} {P : Option Value → hs_A → Prop} (hs : s < 3) (hL : L = 346 + 7 * s) (hH : uf_H A) (w : hxC d 17 hm_m17 [.ref (L + 1), .ref 27] A P) : hxC d 17 hm_m17 [.ref (L + 1), .ref 27] A (fun r A' => P r A' ∧ uf_W ug_x154.2.2.2.1 A A' ∧ uf_H A') := uf_X (X := ug_x154) (j := 154) rfl rfl (ug_L.cons (uf_slV hs hL) (ug_L.cons (uf_rk_ok (by decide +kernel)) uf_nil)) hH w
theorem hY128f {d : Nat} {Bn Br : Int} {A0 A : hs_A} (hA : hJ 0 Bn Br A0 A)  (a1 : Int32) (uH : uf_H A) {P : Option Value → hs_A → Prop} (hP : ∀ (r : Option Value) (A' : hs_A), (hJ 0 Bn Br A0 A' ∧ ∃ z : Int32, r = some (.int z) ∧ ((z.toInt = 1 ∧ 0 ≤ a1.toInt ∧ a1.toInt ≤ 2 ∧ A'.1 0 10 = A.1 0 10 ||| (Int32.ofNat 1 <<< (a1 &&& 31))) ∨ (z.toInt = 0 ∧ (a1.toInt < 0 ∨ 2 < a1.toInt) ∧ A'.1 0 10 = A.1 0 10))) → P r A') : hxa (d + 1) (some (.boolean)) hm_t128 0 [.ref 1, .int a1] [] A P := by
  have k0 := hk_0
  have k1 := hk_1
  have k2 := hk_2
  refine hxa_iload_n (by rfl) rfl ?_
  refine hxa_iconst (by rfl) rfl ?_
  refine hxa_iconst (by rfl) rfl ?_
  refine hxa_call2 (by rfl) (by decide) (by rfl) (by rfl) (by rfl) (hX78 (d := d + 0)  a1 (Int32.ofNat 0) (Int32.ofNat 2)) ?_
  rintro _ _ ⟨rfl, z1, rfl, fz1⟩
  rcases fz1 with fz1 | fz1
  ·
    refine hxj_zne (by rfl) rfl (fun q2 => ?_) (fun q2 => False.elim (by omega))
    refine hxa_aload_n (by rfl) rfl ?_
    refine hxa_get (v := .ref 323) (by rfl) (by rfl) (by rfl) rfl ?_
    refine hxa_iload_n (by rfl) rfl ?_
    obtain ⟨L3, hL3, eL3, sL⟩ := haa_slotsE (j := a1) (by omega) (by omega)
    refine hxa_aald (by rfl) (Or.inl rfl) (by rfl) (hn_ix0 rfl (by omega)) eL3 ?_
    refine hxa_aload_n (by rfl) rfl ?_
    refine hxa_get (v := .ref 27) (by rfl) (by rfl) (by rfl) rfl ?_
    refine hxa_call0 (by rfl) (by rfl) (by rfl) (hsL hL3) (by rfl) (by rfl) (uf_k17s (by have := hn_cn (j := a1) (by omega); omega) sL uH (hX17 (d := d + 0) hA hL3 hL26)) ?_
    rintro _ A4 ⟨⟨hA4, rfl⟩, w4, -⟩
    refine hxa_aload_n (by rfl) rfl ?_
    refine hxa_dupR (by rfl) ?_
    refine hxj_getI (by rfl) (by rfl) (by rfl) (fun z5 ez5 => ?_)
    refine hxa_iconst (by rfl) rfl ?_
    refine hxa_iload_n (by rfl) rfl ?_
    refine hxj_ishlE (by rfl) (fun z6 ez6 => ?_)
    refine hxj_iorE (by rfl) (fun z7 ez7 => ?_)
    refine hxj_putI (by rfl) (by rfl) (by rfl) (by rfl) hA4 (hbokN (by rfl)) (by rfl) (by rfl) (fun A8 hA8 eA8 fA8 => ?_)
    refine hxa_iconst (by rfl) rfl ?_
    exact hxa_ireturn (by rfl) (by rfl) (hP _ _ ⟨hA8, _, rfl, Or.inl ⟨hk_1, by omega, by omega, by rw [eA8, hup1, ez7, ← ez5, ez6, w4.1 0 _ _ 10 rfl rfl (by decide +kernel)]⟩⟩)
  ·
    refine hxj_zne (by rfl) rfl (fun q9 => False.elim (by omega)) (fun q9 => ?_)
    refine hxa_iconst (by rfl) rfl ?_
    exact hxa_ireturn (by rfl) (by rfl) (hP _ _ ⟨hA, _, rfl, Or.inr ⟨hk_0, by omega, rfl⟩⟩)
theorem hX128f {d : Nat} {Bn Br : Int} {A0 A : hs_A} (hA : hJ 0 Bn Br A0 A)  (a1 : Int32) (uH : uf_H A) : hxC (d + 2) 128 hm_m128 [.ref 1, .int a1] A (fun r A' => hJ 0 Bn Br A0 A' ∧ ∃ z : Int32, r = some (.int z) ∧ ((z.toInt = 1 ∧ 0 ≤ a1.toInt ∧ a1.toInt ≤ 2 ∧ A'.1 0 10 = A.1 0 10 ||| (Int32.ofNat 1 <<< (a1 &&& 31))) ∨ (z.toInt = 0 ∧ (a1.toInt < 0 ∨ 2 < a1.toInt) ∧ A'.1 0 10 = A.1 0 10))) := hxC.of (by rfl) (hY128f hA a1 uH (fun r A' h => h))
theorem hY238f {d : Nat} {N : Int} {A0 A : hs_A} (hA : hJ 0 N (N + 72) A0 A) (hN : N ≤ 900000) (a1 : Int32)  {P : Option Value → hs_A → Prop} (hP : ∀ (r : Option Value) (A' : hs_A), (hJ 0 (N + 72) (N + 144) A0 A' ∧ ∃ z : Int32, r = some (.int z) ∧ ((z.toInt = 1 ∧ 0 ≤ a1.toInt ∧ a1.toInt ≤ 2 ∧ ∀ j, A'.2.1 408 j = if j = a1.toNatClampNeg then Int32.ofNat 1 else A.2.1 408 j) ∨ (z.toInt = 0 ∧ (a1.toInt < 0 ∨ 2 < a1.toInt) ∧ ∀ j, A'.2.1 408 j = A.2.1 408 j))) → P r A') : hxa (d + 1) (some (.boolean)) hm_t238 0 [.ref 368, .int a1, .retAddr 0] [] A P := by
  have k0 := hk_0
  have k1 := hk_1
  have k2 := hk_2
  have L20 : ∀ (m20 : Nat) (x20_2 : Int32) (Ac20 : hs_A) (hAc20 : hJ 0 N (N + 72) A0 Ac20) (bx20_2 : 0 ≤ x20_2.toInt) (cx20_2 : x20_2.toInt ≤ 73) (ba1 : 0 ≤ a1.toInt) (ca1 : a1.toInt ≤ 2) (hm20 : 73 - x20_2.toInt < (m20 : Int)) (iv20 : ∀ j, Ac20.2.1 408 j = if j = a1.toNatClampNeg then Int32.ofNat 1 else A.2.1 408 j), hxa (d + 1) (some (.boolean)) hm_t238 20 [.ref 368, .int a1, .int x20_2] [] Ac20 P := by
    intro m20
    induction m20 with
    | zero => intro x20_2 Ac20 hAc20 bx20_2 cx20_2 ba1 ca1 hm20 iv20;  exact False.elim (by omega)
    | succ m20 ih20 =>
      intro x20_2 Ac20 hAc20 bx20_2 cx20_2 ba1 ca1 hm20 iv20
      refine hxa_iload_n (by rfl) rfl ?_
      refine hxa_bipush (by rfl) rfl ?_
      refine hxj_cge (by rfl) rfl hk_73 (fun q1 => ?_) (fun q1 => ?_)
      ·
        refine hxa_iconst (by rfl) rfl ?_
        exact hxa_ireturn (by rfl) (by rfl) (hP _ _ ⟨(hJ.mono hAc20 (by omega) (by omega)), _, rfl, Or.inl ⟨hk_1, by omega, by omega, iv20⟩⟩)
      ·
        refine hxa_aload_n (by rfl) rfl ?_
        refine hxa_get (v := .ref 410) (by rfl) (by rfl) (by rfl) rfl ?_
        refine hxa_bipush (by rfl) rfl ?_
        refine hxa_iload_n (by rfl) rfl ?_
        refine hxj_imul (by rfl) hk_73 rfl (by omega) (by omega) (fun z2 ez2 => ?_)
        refine hxa_iload_n (by rfl) rfl ?_
        refine hxj_iadd (by rfl) rfl rfl (by omega) (by omega) (fun z3 ez3 => ?_)
        refine hxa_aload_n (by rfl) rfl ?_
        refine hxa_get (v := .ref 396) (by rfl) (by rfl) (by rfl) rfl ?_
        refine hxa_iload_n (by rfl) rfl ?_
        refine hxj_iald395 (by rfl) rfl (by omega) (by omega) hAc20 (fun z4 ez4 fz4 => ?_)
        refine hxj_iast409 (by rfl) rfl (by omega) (by omega) rfl hAc20 (by omega) (fun A5 hA5 eA5 fA5 gA5 => ?_)
        refine hxj_iinc (by rfl) rfl rfl hk_1 (by omega) (by omega) (fun _ => rfl) (fun z6 ez6 => ?_)
        refine hxa_goto (by rfl) ?_
        exact ih20 z6 A5 hA5 (by omega) (by omega) (by omega) (by omega) (by omega) (fun j => by rw [fA5, hup2 (by omega)]; exact iv20 j)
  refine hxa_iload_n (by rfl) rfl ?_
  refine hxa_iconst (by rfl) rfl ?_
  refine hxa_iconst (by rfl) rfl ?_
  refine hxa_call2 (by rfl) (by decide) (by rfl) (by rfl) (by rfl) (hX164 (d := d + 0)  a1 (Int32.ofNat 0) (Int32.ofNat 2)) ?_
  rintro _ _ ⟨rfl, z7, rfl, fz7⟩
  rcases fz7 with fz7 | fz7
  ·
    refine hxj_zne (by rfl) rfl (fun q8 => ?_) (fun q8 => False.elim (by omega))
    refine hxa_aload_n (by rfl) rfl ?_
    refine hxa_get (v := .ref 409) (by rfl) (by rfl) (by rfl) rfl ?_
    refine hxa_iload_n (by rfl) rfl ?_
    refine hxa_iconst (by rfl) rfl ?_
    refine hxj_zast (by rfl) (by rfl) rfl (by omega) (by omega) hk_1 (by omega) (by omega) hA (hbokN (by rfl)) (by rfl) (by rfl) (fun A9 hA9 eA9 fA9 gA9 => ?_)
    refine hxa_iconst (by rfl) rfl ?_
    refine hxa_s1 (by rfl) (Or.inl ⟨_, rfl, rfl⟩) rfl ?_
    exact L20 (Int.toNat (73 - 0) + 1) (Int32.ofNat 0) A9 hA9 (by omega) (by omega) (by omega) (by omega) (by omega) (fun j => by rw [fA9]; by_cases q : j = a1.toNatClampNeg; (rw [if_pos q, q, hup1]); (rw [if_neg q, hup2 (fun w => q w.2)]))
  ·
    refine hxj_zne (by rfl) rfl (fun q10 => False.elim (by omega)) (fun q10 => ?_)
    refine hxa_iconst (by rfl) rfl ?_
    exact hxa_ireturn (by rfl) (by rfl) (hP _ _ ⟨(hJ.mono hA (by omega) (by omega)), _, rfl, Or.inr ⟨hk_0, by omega, fun _ => rfl⟩⟩)
theorem hX238f {d : Nat} {N : Int} {A0 A : hs_A} (hA : hJ 0 N (N + 72) A0 A) (hN : N ≤ 900000) (a1 : Int32)  : hxC (d + 2) 238 hm_m238 [.ref 368, .int a1] A (fun r A' => hJ 0 (N + 72) (N + 144) A0 A' ∧ ∃ z : Int32, r = some (.int z) ∧ ((z.toInt = 1 ∧ 0 ≤ a1.toInt ∧ a1.toInt ≤ 2 ∧ ∀ j, A'.2.1 408 j = if j = a1.toNatClampNeg then Int32.ofNat 1 else A.2.1 408 j) ∨ (z.toInt = 0 ∧ (a1.toInt < 0 ∨ 2 < a1.toInt) ∧ ∀ j, A'.2.1 408 j = A.2.1 408 j))) := hxC.of (by rfl) (hY238f hA hN a1  (fun r A' h => h))
theorem hY129f {d : Nat} {Bn Br : Int} {A0 A : hs_A} (hA : hJ 0 Bn Br A0 A)  (a1 : Int32)  {P : Option Value → hs_A → Prop} (hP : ∀ (r : Option Value) (A' : hs_A), (hJ 0 Bn Br A0 A' ∧ ∃ z : Int32, r = some (.int z) ∧ ((z.toInt = 1 ∧ 0 ≤ a1.toInt ∧ a1.toInt ≤ 2 ∧ ¬ hBit (A.1 0 10) a1 = 0) ∨ (z.toInt = 0 ∧ (a1.toInt < 0 ∨ 2 < a1.toInt ∨ hBit (A.1 0 10) a1 = 0)))) → P r A') : hxa (d + 1) (some (.boolean)) hm_t129 0 [.ref 1, .int a1] [] A P := by
  have k0 := hk_0
  have k1 := hk_1
  have k2 := hk_2
  refine hxa_iload_n (by rfl) rfl ?_
  refine hxa_iconst (by rfl) rfl ?_
  refine hxa_iconst (by rfl) rfl ?_
  refine hxa_call2 (by rfl) (by decide) (by rfl) (by rfl) (by rfl) (hX78 (d := d + 0)  a1 (Int32.ofNat 0) (Int32.ofNat 2)) ?_
  rintro _ _ ⟨rfl, z1, rfl, fz1⟩
  rcases fz1 with fz1 | fz1
  ·
    refine hxj_zeq (by rfl) rfl (fun q2 => False.elim (by omega)) (fun q2 => ?_)
    refine hxa_aload_n (by rfl) rfl ?_
    refine hxj_getI (by rfl) (by rfl) (by rfl) (fun z3 ez3 => ?_)
    refine hxa_iload_n (by rfl) rfl ?_
    refine hxj_ishrE (by rfl) (fun z4 ez4 => ?_)
    refine hxa_iconst (by rfl) rfl ?_
    refine hxj_iandE (by rfl) (fun z5 ez5 => ?_)
    have hb : hBit (A.1 0 10) a1 = z5.toInt := by unfold hBit; rw [ez5, ez4, ez3]
    refine hxj_zne (by rfl) rfl (fun q6 => ?_) (fun q6 => ?_)
    ·
      refine hxa_aload_n (by rfl) rfl ?_
      refine hxa_get (v := .ref 27) (by rfl) (by rfl) (by rfl) rfl ?_
      refine hxa_aload_n (by rfl) rfl ?_
      refine hxa_get (v := .ref 323) (by rfl) (by rfl) (by rfl) rfl ?_
      refine hxa_iload_n (by rfl) rfl ?_
      obtain ⟨L7, hL7, eL7⟩ := haa_slots (j := a1) rfl (by omega) (by omega)
      refine hxa_aald (by rfl) (Or.inl rfl) (by rfl) (hn_ix0 rfl (by omega)) eL7 ?_
      refine hxa_call0 (by rfl) (by rfl) (by rfl) (by rfl) (by rfl) (by rfl) (hX17 (d := d + 0) hA hL26 hL7) ?_
      rintro _ A8 ⟨hA8, rfl⟩
      refine hxa_aload_n (by rfl) rfl ?_
      refine hxa_get (v := .ref 41) (by rfl) (by rfl) (by rfl) rfl ?_
      refine hxa_iconst (by rfl) rfl ?_
      refine hxj_putI (by rfl) (by rfl) (by rfl) (by rfl) hA8 (hbok (by rfl) hk_0 (by omega) (by omega)) (by rfl) (by rfl) (fun A9 hA9 eA9 fA9 => ?_)
      refine hxa_aload_n (by rfl) rfl ?_
      refine hxa_get (v := .ref 329) (by rfl) (by rfl) (by rfl) rfl ?_
      refine hxa_iconst (by rfl) rfl ?_
      refine hxj_putI (by rfl) (by rfl) (by rfl) (by rfl) hA9 (hbok (by rfl) hk_0 (by omega) (by omega)) (by rfl) (by rfl) (fun A10 hA10 eA10 fA10 => ?_)
      refine hxa_iconst (by rfl) rfl ?_
      exact hxa_ireturn (by rfl) (by rfl) (hP _ _ ⟨hA10, _, rfl, by omega⟩)
    ·
      refine hxa_iconst (by rfl) rfl ?_
      exact hxa_ireturn (by rfl) (by rfl) (hP _ _ ⟨hA, _, rfl, by omega⟩)
  ·
    refine hxj_zeq (by rfl) rfl (fun q11 => ?_) (fun q11 => False.elim (by omega))
    refine hxa_iconst (by rfl) rfl ?_
    exact hxa_ireturn (by rfl) (by rfl) (hP _ _ ⟨hA, _, rfl, by omega⟩)
theorem hX129f {d : Nat} {Bn Br : Int} {A0 A : hs_A} (hA : hJ 0 Bn Br A0 A)  (a1 : Int32)  : hxC (d + 2) 129 hm_m129 [.ref 1, .int a1] A (fun r A' => hJ 0 Bn Br A0 A' ∧ ∃ z : Int32, r = some (.int z) ∧ ((z.toInt = 1 ∧ 0 ≤ a1.toInt ∧ a1.toInt ≤ 2 ∧ ¬ hBit (A.1 0 10) a1 = 0) ∨ (z.toInt = 0 ∧ (a1.toInt < 0 ∨ 2 < a1.toInt ∨ hBit (A.1 0 10) a1 = 0)))) := hxC.of (by rfl) (hY129f hA a1  (fun r A' h => h))
theorem hY239f {d : Nat} {N : Int} {A0 A : hs_A} (hA : hJ 0 N (N + 72) A0 A) (hN : N ≤ 900000) (a1 : Int32)  {P : Option Value → hs_A → Prop} (hP : ∀ (r : Option Value) (A' : hs_A), (hJ 0 (N + 72) (N + 144) A0 A' ∧ ∃ z : Int32, r = some (.int z) ∧ ((z.toInt = 1 ∧ 0 ≤ a1.toInt ∧ a1.toInt ≤ 2 ∧ ¬ (A.2.1 408 a1.toNatClampNeg).toInt = 0) ∨ (z.toInt = 0 ∧ (a1.toInt < 0 ∨ 2 < a1.toInt ∨ (A.2.1 408 a1.toNatClampNeg).toInt = 0)))) → P r A') : hxa (d + 1) (some (.boolean)) hm_t239 0 [.ref 368, .int a1, .retAddr 0] [] A P := by
  have k0 := hk_0
  have k1 := hk_1
  have k2 := hk_2
  have L22 : ∀ (m22 : Nat) (x22_2 : Int32) (Ac22 : hs_A) (hAc22 : hJ 0 N (N + 72) A0 Ac22) (bx22_2 : 0 ≤ x22_2.toInt) (cx22_2 : x22_2.toInt ≤ 73) (ba1 : 0 ≤ a1.toInt) (ca1 : a1.toInt ≤ 2) (hm22 : 73 - x22_2.toInt < (m22 : Int)) (iv22 : ¬ (A.2.1 408 a1.toNatClampNeg).toInt = 0), hxa (d + 1) (some (.boolean)) hm_t239 22 [.ref 368, .int a1, .int x22_2] [] Ac22 P := by
    intro m22
    induction m22 with
    | zero => intro x22_2 Ac22 hAc22 bx22_2 cx22_2 ba1 ca1 hm22 iv22;  exact False.elim (by omega)
    | succ m22 ih22 =>
      intro x22_2 Ac22 hAc22 bx22_2 cx22_2 ba1 ca1 hm22 iv22
      refine hxa_iload_n (by rfl) rfl ?_
      refine hxa_bipush (by rfl) rfl ?_
      refine hxj_cge (by rfl) rfl hk_73 (fun q1 => ?_) (fun q1 => ?_)
      ·
        refine hxa_aload_n (by rfl) rfl ?_
        refine hxa_iconst (by rfl) rfl ?_
        refine hxj_putI (by rfl) (by rfl) (by rfl) (by rfl) hAc22 (hbok (by rfl) hk_0 (by omega) (by omega)) (by rfl) (by rfl) (fun A2 hA2 eA2 fA2 => ?_)
        refine hxa_iconst (by rfl) rfl ?_
        exact hxa_ireturn (by rfl) (by rfl) (hP _ _ ⟨(hJ.mono hA2 (by omega) (by omega)), _, rfl, by omega⟩)
      ·
        refine hxa_aload_n (by rfl) rfl ?_
        refine hxa_get (v := .ref 396) (by rfl) (by rfl) (by rfl) rfl ?_
        refine hxa_iload_n (by rfl) rfl ?_
        refine hxa_aload_n (by rfl) rfl ?_
        refine hxa_get (v := .ref 410) (by rfl) (by rfl) (by rfl) rfl ?_
        refine hxa_bipush (by rfl) rfl ?_
        refine hxa_iload_n (by rfl) rfl ?_
        refine hxj_imul (by rfl) hk_73 rfl (by omega) (by omega) (fun z3 ez3 => ?_)
        refine hxa_iload_n (by rfl) rfl ?_
        refine hxj_iadd (by rfl) rfl rfl (by omega) (by omega) (fun z4 ez4 => ?_)
        refine hxj_iald409 (by rfl) rfl (by omega) (by omega) hAc22 (fun z5 ez5 fz5 => ?_)
        refine hxj_iast395 (by rfl) rfl (by omega) (by omega) rfl hAc22 (by omega) (fun A6 hA6 eA6 fA6 gA6 => ?_)
        refine hxj_iinc (by rfl) rfl rfl hk_1 (by omega) (by omega) (fun _ => rfl) (fun z7 ez7 => ?_)
        refine hxa_goto (by rfl) ?_
        exact ih22 z7 A6 hA6 (by omega) (by omega) (by omega) (by omega) (by omega) iv22
  refine hxa_iload_n (by rfl) rfl ?_
  refine hxa_iconst (by rfl) rfl ?_
  refine hxa_iconst (by rfl) rfl ?_
  refine hxa_call2 (by rfl) (by decide) (by rfl) (by rfl) (by rfl) (hX164 (d := d + 0)  a1 (Int32.ofNat 0) (Int32.ofNat 2)) ?_
  rintro _ _ ⟨rfl, z8, rfl, fz8⟩
  rcases fz8 with fz8 | fz8
  ·
    refine hxj_zeq (by rfl) rfl (fun q9 => False.elim (by omega)) (fun q9 => ?_)
    refine hxa_aload_n (by rfl) rfl ?_
    refine hxa_get (v := .ref 409) (by rfl) (by rfl) (by rfl) rfl ?_
    refine hxa_iload_n (by rfl) rfl ?_
    refine hxj_zald (by rfl) (by rfl) rfl (by omega) (by omega) (fun z10 ez10 => ?_)
    have t10 := congrArg Int32.toInt ez10
    refine hxj_zne (by rfl) rfl (fun q11 => ?_) (fun q11 => ?_)
    ·
      refine hxa_iconst (by rfl) rfl ?_
      refine hxa_s1 (by rfl) (Or.inl ⟨_, rfl, rfl⟩) rfl ?_
      exact L22 (Int.toNat (73 - 0) + 1) (Int32.ofNat 0) A hA (by omega) (by omega) (by omega) (by omega) (by omega) (by rw [ez10]; omega)
    ·
      refine hxa_iconst (by rfl) rfl ?_
      exact hxa_ireturn (by rfl) (by rfl) (hP _ _ ⟨(hJ.mono hA (by omega) (by omega)), _, rfl, by omega⟩)
  ·
    refine hxj_zeq (by rfl) rfl (fun q12 => ?_) (fun q12 => False.elim (by omega))
    refine hxa_iconst (by rfl) rfl ?_
    exact hxa_ireturn (by rfl) (by rfl) (hP _ _ ⟨(hJ.mono hA (by omega) (by omega)), _, rfl, by omega⟩)
theorem hX239f {d : Nat} {N : Int} {A0 A : hs_A} (hA : hJ 0 N (N + 72) A0 A) (hN : N ≤ 900000) (a1 : Int32)  : hxC (d + 2) 239 hm_m239 [.ref 368, .int a1] A (fun r A' => hJ 0 (N + 72) (N + 144) A0 A' ∧ ∃ z : Int32, r = some (.int z) ∧ ((z.toInt = 1 ∧ 0 ≤ a1.toInt ∧ a1.toInt ≤ 2 ∧ ¬ (A.2.1 408 a1.toNatClampNeg).toInt = 0) ∨ (z.toInt = 0 ∧ (a1.toInt < 0 ∨ 2 < a1.toInt ∨ (A.2.1 408 a1.toNatClampNeg).toInt = 0)))) := hxC.of (by rfl) (hY239f hA hN a1  (fun r A' h => h))
theorem hY76f {d : Nat} {Bn Br : Int} {A0 A : hs_A} (hA : hJ 0 Bn Br A0 A)  (a1 : Int32) {H : Int} (hH : ∀ T, hTT T → A.2.2.2 0 3 = T + 1 → (A.1 T 4).toInt = H) {P : Option Value → hs_A → Prop} (hP : ∀ (r : Option Value) (A' : hs_A), (A = A' ∧ ∃ z : Int32, r = some (.int z) ∧ ((z.toInt = 1 ∧ 0 ≤ a1.toInt ∧ a1.toInt < H ∧ a1.toInt ≤ 9) ∨ (z.toInt = 0 ∧ (a1.toInt < 0 ∨ H ≤ a1.toInt)))) → P r A') : hxa (d + 0) (some (.boolean)) hm_t76 0 [.ref 1, .int a1] [] A P := by
  have k0 := hk_0
  have k1 := hk_1
  obtain ⟨T0, hT0, -, eT0⟩ := hA.T
  refine hxa_iload_n (by rfl) rfl ?_
  refine hxj_zlt (by rfl) rfl (fun q1 => ?_) (fun q1 => ?_)
  ·
    refine hxa_iconst (by rfl) rfl ?_
    exact hxa_ireturn (by rfl) (by rfl) (hP _ _ ⟨rfl, _, rfl, by omega⟩)
  ·
    refine hxa_iload_n (by rfl) rfl ?_
    refine hxa_aload_n (by rfl) rfl ?_
    refine hxj_getT (by rfl) (by rfl) (by rfl) (hA.Tw eT0) ?_
    refine hxj_getB (by rfl) (hsT hT0) (by rfl) hA (hbT_4 hT0) (fun z2 ez2 fz2 gz2 => ?_)
    have hh := hH T0 hT0 (hA.Tw eT0)
    rw [ez2] at hh
    have rga1 := hn_rng a1
    refine hxj_cge (by rfl) rfl rfl (fun q3 => ?_) (fun q3 => ?_)
    ·
      refine hxa_iconst (by rfl) rfl ?_
      exact hxa_ireturn (by rfl) (by rfl) (hP _ _ ⟨rfl, _, rfl, by omega⟩)
    ·
      refine hxa_iload_n (by rfl) rfl ?_
      refine hxa_bipush (by rfl) rfl ?_
      refine hxj_cge (by rfl) rfl hk_10 (fun q4 => False.elim (by omega)) (fun q4 => ?_)
      refine hxa_iconst (by rfl) rfl ?_
      refine hxa_goto (by rfl) ?_
      exact hxa_ireturn (by rfl) (by rfl) (hP _ _ ⟨rfl, _, rfl, by omega⟩)
theorem hX76f {d : Nat} {Bn Br : Int} {A0 A : hs_A} (hA : hJ 0 Bn Br A0 A)  (a1 : Int32) {H : Int} (hH : ∀ T, hTT T → A.2.2.2 0 3 = T + 1 → (A.1 T 4).toInt = H) : hxC (d + 1) 76 hm_m76 [.ref 1, .int a1] A (fun r A' => A = A' ∧ ∃ z : Int32, r = some (.int z) ∧ ((z.toInt = 1 ∧ 0 ≤ a1.toInt ∧ a1.toInt < H ∧ a1.toInt ≤ 9) ∨ (z.toInt = 0 ∧ (a1.toInt < 0 ∨ H ≤ a1.toInt)))) := hxC.of (by rfl) (hY76f hA a1 hH (fun r A' h => h))
theorem hY167f {d : Nat} {Bn Br : Int} {A0 A : hs_A} (hA : hJ 0 Bn Br A0 A)  (a1 : Int32) {H : Int} (hH : (A.2.1 376 (A.1 367 18).toNatClampNeg).toInt = H) {P : Option Value → hs_A → Prop} (hP : ∀ (r : Option Value) (A' : hs_A), (A = A' ∧ ∃ z : Int32, r = some (.int z) ∧ ((z.toInt = 1 ∧ 0 ≤ a1.toInt ∧ a1.toInt < H ∧ a1.toInt ≤ 9) ∨ (z.toInt = 0 ∧ (a1.toInt < 0 ∨ H ≤ a1.toInt)))) → P r A') : hxa (d + 1) (some (.boolean)) hm_t167 0 [.ref 368, .int a1] [] A P := by
  have k0 := hk_0
  refine hxa_iload_n (by rfl) rfl ?_
  refine hxa_iconst (by rfl) rfl ?_
  refine hxa_aload_n (by rfl) rfl ?_
  refine hxa_get (v := .ref 377) (by rfl) (by rfl) (by rfl) rfl ?_
  refine hxa_aload_n (by rfl) rfl ?_
  refine hxj_getB (by rfl) (by rfl) (by rfl) hA (by rfl) (fun z1 ez1 fz1 gz1 => ?_)
  refine hxj_ialdB (by rfl) (by rfl) rfl (by omega) (by omega) hA (by rfl) (fun z2 ez2 fz2 gz2 => ?_)
  have hh := hH
  rw [ez1, ez2] at hh
  refine hxa_iconst (by rfl) rfl ?_
  refine hxj_isub (by rfl) rfl hk_1 (by omega) (by omega) (fun z3 ez3 => ?_)
  refine hxa_call2 (by rfl) (by decide) (by rfl) (by rfl) (by rfl) (hX164 (d := d + 0)  a1 (Int32.ofNat 0) z3) ?_
  rintro _ _ ⟨rfl, z4, rfl, fz4⟩
  rcases fz4 with fz4 | fz4
  ·
    exact hxa_ireturn (by rfl) (hn_fitB (by omega) (by omega)) (hP _ _ ⟨rfl, _, rfl, by omega⟩)
  ·
    exact hxa_ireturn (by rfl) (hn_fitB (by omega) (by omega)) (hP _ _ ⟨rfl, _, rfl, by omega⟩)
theorem hX167f {d : Nat} {Bn Br : Int} {A0 A : hs_A} (hA : hJ 0 Bn Br A0 A)  (a1 : Int32) {H : Int} (hH : (A.2.1 376 (A.1 367 18).toNatClampNeg).toInt = H) : hxC (d + 2) 167 hm_m167 [.ref 368, .int a1] A (fun r A' => A = A' ∧ ∃ z : Int32, r = some (.int z) ∧ ((z.toInt = 1 ∧ 0 ≤ a1.toInt ∧ a1.toInt < H ∧ a1.toInt ≤ 9) ∨ (z.toInt = 0 ∧ (a1.toInt < 0 ∨ H ≤ a1.toInt)))) := hxC.of (by rfl) (hY167f hA a1 hH (fun r A' h => h))
theorem hY77f {d : Nat} {A : hs_A} (a1 : Int32)  {P : Option Value → hs_A → Prop} (hP : ∀ (r : Option Value) (A' : hs_A), (A = A' ∧ ∃ z : Int32, r = some (.int z) ∧ ((z.toInt = 1 ∧ 0 ≤ a1.toInt ∧ a1.toInt ≤ 255) ∨ (z.toInt = 0 ∧ (a1.toInt < 0 ∨ 255 < a1.toInt)))) → P r A') : hxa (d + 0) (some (.boolean)) hm_t77 0 [.int a1] [] A P := by
  have k0 := hk_0
  have k1 := hk_1
  refine hxa_iload_n (by rfl) rfl ?_
  refine hxj_zlt (by rfl) rfl (fun q1 => ?_) (fun q1 => ?_)
  ·
    refine hxa_iconst (by rfl) rfl ?_
    exact hxa_ireturn (by rfl) (by rfl) (hP _ _ ⟨rfl, _, rfl, by omega⟩)
  ·
    refine hxa_iload_n (by rfl) rfl ?_
    refine hxa_sipush (by rfl) rfl ?_
    refine hxj_cge (by rfl) rfl hk_256 (fun q2 => ?_) (fun q2 => ?_)
    ·
      refine hxa_iconst (by rfl) rfl ?_
      exact hxa_ireturn (by rfl) (by rfl) (hP _ _ ⟨rfl, _, rfl, by omega⟩)
    ·
      refine hxa_iconst (by rfl) rfl ?_
      refine hxa_goto (by rfl) ?_
      exact hxa_ireturn (by rfl) (by rfl) (hP _ _ ⟨rfl, _, rfl, by omega⟩)
theorem hX77f {d : Nat} {A : hs_A} (a1 : Int32)  : hxC (d + 1) 77 hm_m77 [.int a1] A (fun r A' => A = A' ∧ ∃ z : Int32, r = some (.int z) ∧ ((z.toInt = 1 ∧ 0 ≤ a1.toInt ∧ a1.toInt ≤ 255) ∨ (z.toInt = 0 ∧ (a1.toInt < 0 ∨ 255 < a1.toInt)))) := hxC.of (by rfl) (hY77f a1  (fun r A' h => h))
theorem hY168f {d : Nat} {A : hs_A} (a1 : Int32)  {P : Option Value → hs_A → Prop} (hP : ∀ (r : Option Value) (A' : hs_A), (A = A' ∧ ∃ z : Int32, r = some (.int z) ∧ ((z.toInt = 1 ∧ 0 ≤ a1.toInt ∧ a1.toInt ≤ 255) ∨ (z.toInt = 0 ∧ (a1.toInt < 0 ∨ 255 < a1.toInt)))) → P r A') : hxa (d + 1) (some (.boolean)) hm_t168 0 [.int a1] [] A P := by
  have k0 := hk_0
  have k255 := hk_255
  refine hxa_iload_n (by rfl) rfl ?_
  refine hxa_iconst (by rfl) rfl ?_
  refine hxa_sipush (by rfl) rfl ?_
  refine hxa_call2 (by rfl) (by decide) (by rfl) (by rfl) (by rfl) (hX164 (d := d + 0)  a1 (Int32.ofNat 0) (Int32.ofNat 255)) ?_
  rintro _ _ ⟨rfl, z1, rfl, fz1⟩
  rcases fz1 with fz1 | fz1
  ·
    exact hxa_ireturn (by rfl) (hn_fitB (by omega) (by omega)) (hP _ _ ⟨rfl, _, rfl, by omega⟩)
  ·
    exact hxa_ireturn (by rfl) (hn_fitB (by omega) (by omega)) (hP _ _ ⟨rfl, _, rfl, by omega⟩)
theorem hX168f {d : Nat} {A : hs_A} (a1 : Int32)  : hxC (d + 2) 168 hm_m168 [.int a1] A (fun r A' => A = A' ∧ ∃ z : Int32, r = some (.int z) ∧ ((z.toInt = 1 ∧ 0 ≤ a1.toInt ∧ a1.toInt ≤ 255) ∨ (z.toInt = 0 ∧ (a1.toInt < 0 ∨ 255 < a1.toInt)))) := hxC.of (by rfl) (hY168f a1  (fun r A' h => h))
theorem hY84f {d : Nat} {Bn Br : Int} {A0 A : hs_A} (hA : hJ 0 Bn Br A0 A)  (a1 : Int32) {H : Int} (hH : ∀ T, hTT T → A.2.2.2 0 3 = T + 1 → (A.1 T 4).toInt = H) {P : Option Value → hs_A → Prop} (hP : ∀ (r : Option Value) (A' : hs_A), (hJ 0 Bn Br A0 A' ∧ ∃ z : Int32, r = some (.int z) ∧ ((z.toInt = 1 ∧ 0 ≤ a1.toInt ∧ a1.toInt ≤ 255 ∧ ¬ H = 0) ∨ (z.toInt = 0 ∧ (a1.toInt < 0 ∨ 255 < a1.toInt ∨ H = 0)))) → P r A') : hxa (d + 3) (some (.boolean)) hm_t84 0 [.ref 1, .int a1] [] A P := by
  have k0 := hk_0
  have k1 := hk_1
  obtain ⟨T0, hT0, -, eT0⟩ := hA.T
  refine hxa_iload_n (by rfl) rfl ?_
  refine hxa_call2 (by rfl) (by decide) (by rfl) (by rfl) (by rfl) (hX77f (d := d + 2)  a1) ?_
  rintro _ _ ⟨rfl, z1, rfl, fz1⟩
  rcases fz1 with fz1 | fz1
  ·
    refine hxj_zeq (by rfl) rfl (fun q2 => False.elim (by omega)) (fun q2 => ?_)
    refine hxa_aload_n (by rfl) rfl ?_
    refine hxj_getT (by rfl) (by rfl) (by rfl) (hA.Tw eT0) ?_
    refine hxj_getB (by rfl) (hsT hT0) (by rfl) hA (hbT_4 hT0) (fun z3 ez3 fz3 gz3 => ?_)
    have hh := hH T0 hT0 (hA.Tw eT0)
    rw [ez3] at hh
    refine hxj_zne (by rfl) rfl (fun q4 => ?_) (fun q4 => ?_)
    ·
      refine hxa_aload_n (by rfl) rfl ?_
      refine hxa_call0 (by rfl) (by rfl) (by rfl) (by rfl) (by rfl) (by rfl) (hX82 (d := d + 0) hA ) ?_
      rintro _ A5 ⟨hA5, rfl⟩
      refine hxa_aload_n (by rfl) rfl ?_
      refine hxa_get (v := .ref 27) (by rfl) (by rfl) (by rfl) rfl ?_
      refine hxa_iload_n (by rfl) rfl ?_
      refine hxj_putI (by rfl) (by rfl) (by rfl) (by rfl) hA5 (hbok (by rfl) rfl (by omega) (by omega)) (by rfl) (by rfl) (fun A6 hA6 eA6 fA6 => ?_)
      refine hxa_iconst (by rfl) rfl ?_
      exact hxa_ireturn (by rfl) (by rfl) (hP _ _ ⟨hA6, _, rfl, by omega⟩)
    ·
      refine hxa_iconst (by rfl) rfl ?_
      exact hxa_ireturn (by rfl) (by rfl) (hP _ _ ⟨hA, _, rfl, by omega⟩)
  ·
    refine hxj_zeq (by rfl) rfl (fun q7 => ?_) (fun q7 => False.elim (by omega))
    refine hxa_iconst (by rfl) rfl ?_
    exact hxa_ireturn (by rfl) (by rfl) (hP _ _ ⟨hA, _, rfl, by omega⟩)
theorem hX84f {d : Nat} {Bn Br : Int} {A0 A : hs_A} (hA : hJ 0 Bn Br A0 A)  (a1 : Int32) {H : Int} (hH : ∀ T, hTT T → A.2.2.2 0 3 = T + 1 → (A.1 T 4).toInt = H) : hxC (d + 4) 84 hm_m84 [.ref 1, .int a1] A (fun r A' => hJ 0 Bn Br A0 A' ∧ ∃ z : Int32, r = some (.int z) ∧ ((z.toInt = 1 ∧ 0 ≤ a1.toInt ∧ a1.toInt ≤ 255 ∧ ¬ H = 0) ∨ (z.toInt = 0 ∧ (a1.toInt < 0 ∨ 255 < a1.toInt ∨ H = 0)))) := hxC.of (by rfl) (hY84f hA a1 hH (fun r A' h => h))
theorem hY192f {d : Nat} {N : Int} {A0 A : hs_A} (hA : hJ 0 N (N + 72) A0 A) (hN : N ≤ 900000) (a1 : Int32) {H : Int} (hH : (A.2.1 376 (A.1 367 18).toNatClampNeg).toInt = H) {P : Option Value → hs_A → Prop} (hP : ∀ (r : Option Value) (A' : hs_A), (hJ 0 (N + 72) (N + 144) A0 A' ∧ ∃ z : Int32, r = some (.int z) ∧ ((z.toInt = 1 ∧ 0 ≤ a1.toInt ∧ a1.toInt ≤ 255 ∧ ¬ H = 0) ∨ (z.toInt = 0 ∧ (a1.toInt < 0 ∨ 255 < a1.toInt ∨ H = 0)))) → P r A') : hxa (d + 2) (some (.boolean)) hm_t192 0 [.ref 368, .int a1] [] A P := by
  have k0 := hk_0
  have k1 := hk_1
  refine hxa_iload_n (by rfl) rfl ?_
  refine hxa_call2 (by rfl) (by decide) (by rfl) (by rfl) (by rfl) (hX168f (d := d + 0)  a1) ?_
  rintro _ _ ⟨rfl, z1, rfl, fz1⟩
  rcases fz1 with fz1 | fz1
  ·
    refine hxj_zeq (by rfl) rfl (fun q2 => False.elim (by omega)) (fun q2 => ?_)
    refine hxa_aload_n (by rfl) rfl ?_
    refine hxa_get (v := .ref 377) (by rfl) (by rfl) (by rfl) rfl ?_
    refine hxa_aload_n (by rfl) rfl ?_
    refine hxj_getB (by rfl) (by rfl) (by rfl) hA (by rfl) (fun z3 ez3 fz3 gz3 => ?_)
    refine hxj_ialdB (by rfl) (by rfl) rfl (by omega) (by omega) hA (by rfl) (fun z4 ez4 fz4 gz4 => ?_)
    have hh := hH
    rw [ez3, ez4] at hh
    refine hxj_zne (by rfl) rfl (fun q5 => ?_) (fun q5 => ?_)
    ·
      refine hxa_aload_n (by rfl) rfl ?_
      refine hxa_call0 (by rfl) (by rfl) (by rfl) (by rfl) (by rfl) (by rfl) (hX171 (d := d + 1) hA ) ?_
      rintro _ A6 ⟨hA6, rfl⟩
      refine hxa_aload_n (by rfl) rfl ?_
      refine hxa_get (v := .ref 397) (by rfl) (by rfl) (by rfl) rfl ?_
      refine hxa_bipush (by rfl) rfl ?_
      refine hxa_iload_n (by rfl) rfl ?_
      refine hxj_iast396 (by rfl) hk_71 (by omega) (by omega) rfl hA6 (by omega) (fun A7 hA7 eA7 fA7 gA7 => ?_)
      refine hxa_aload_n (by rfl) rfl ?_
      refine hxa_call0 (by rfl) (by rfl) (by rfl) (by rfl) (by rfl) (by rfl) (hX190 (d := d + 0) hA7 (by omega)) ?_
      rintro _ A8 ⟨hA8, rfl⟩
      refine hxa_iconst (by rfl) rfl ?_
      exact hxa_ireturn (by rfl) (by rfl) (hP _ _ ⟨(hJ.mono hA8 (by omega) (by omega)), _, rfl, by omega⟩)
    ·
      refine hxa_iconst (by rfl) rfl ?_
      exact hxa_ireturn (by rfl) (by rfl) (hP _ _ ⟨(hJ.mono hA (by omega) (by omega)), _, rfl, by omega⟩)
  ·
    refine hxj_zeq (by rfl) rfl (fun q9 => ?_) (fun q9 => False.elim (by omega))
    refine hxa_iconst (by rfl) rfl ?_
    exact hxa_ireturn (by rfl) (by rfl) (hP _ _ ⟨(hJ.mono hA (by omega) (by omega)), _, rfl, by omega⟩)
theorem hX192f {d : Nat} {N : Int} {A0 A : hs_A} (hA : hJ 0 N (N + 72) A0 A) (hN : N ≤ 900000) (a1 : Int32) {H : Int} (hH : (A.2.1 376 (A.1 367 18).toNatClampNeg).toInt = H) : hxC (d + 3) 192 hm_m192 [.ref 368, .int a1] A (fun r A' => hJ 0 (N + 72) (N + 144) A0 A' ∧ ∃ z : Int32, r = some (.int z) ∧ ((z.toInt = 1 ∧ 0 ≤ a1.toInt ∧ a1.toInt ≤ 255 ∧ ¬ H = 0) ∨ (z.toInt = 0 ∧ (a1.toInt < 0 ∨ 255 < a1.toInt ∨ H = 0)))) := hxC.of (by rfl) (hY192f hA hN a1 hH (fun r A' h => h))
theorem hY86f {d : Nat} {Bn Br : Int} {A0 A : hs_A} (hA : hJ 0 Bn Br A0 A)  (a1 : Int32) (a2 : Int32) {H : Int} (hH : ∀ T, hTT T → A.2.2.2 0 3 = T + 1 → (A.1 T 4).toInt = H) {P : Option Value → hs_A → Prop} (hP : ∀ (r : Option Value) (A' : hs_A), (hJ 0 Bn Br A0 A' ∧ ∃ z : Int32, r = some (.int z) ∧ ((z.toInt = 1 ∧ 0 ≤ a1.toInt ∧ a1.toInt < H ∧ 0 ≤ a2.toInt ∧ a2.toInt < H ∧ ¬ a1.toInt = a2.toInt) ∨ (z.toInt = 0 ∧ (a1.toInt < 0 ∨ H ≤ a1.toInt ∨ a2.toInt < 0 ∨ H ≤ a2.toInt ∨ a1.toInt = a2.toInt)))) → P r A') : hxa (d + 3) (some (.boolean)) hm_t86 0 [.ref 1, .int a1, .int a2] [] A P := by
  have k0 := hk_0
  have k1 := hk_1
  refine hxa_aload_n (by rfl) rfl ?_
  refine hxa_iload_n (by rfl) rfl ?_
  refine hxa_call0 (by rfl) (by rfl) (by rfl) (by rfl) (by rfl) (by rfl) (hX76f (d := d + 2) hA a1 hH) ?_
  rintro _ _ ⟨rfl, z1, rfl, fz1⟩
  rcases fz1 with fz1 | fz1
  ·
    refine hxj_zeq (by rfl) rfl (fun q2 => False.elim (by omega)) (fun q2 => ?_)
    refine hxa_aload_n (by rfl) rfl ?_
    refine hxa_iload_n (by rfl) rfl ?_
    refine hxa_call0 (by rfl) (by rfl) (by rfl) (by rfl) (by rfl) (by rfl) (hX76f (d := d + 2) hA a2 hH) ?_
    rintro _ _ ⟨rfl, z3, rfl, fz3⟩
    rcases fz3 with fz3 | fz3
    ·
      refine hxj_zeq (by rfl) rfl (fun q4 => False.elim (by omega)) (fun q4 => ?_)
      refine hxa_iload_n (by rfl) rfl ?_
      refine hxa_iload_n (by rfl) rfl ?_
      refine hxj_cne (by rfl) rfl rfl (fun q5 => ?_) (fun q5 => ?_)
      ·
        refine hxa_aload_n (by rfl) rfl ?_
        refine hxa_call0 (by rfl) (by rfl) (by rfl) (by rfl) (by rfl) (by rfl) (hX82 (d := d + 0) hA ) ?_
        rintro _ A6 ⟨hA6, rfl⟩
        refine hxa_aload_n (by rfl) rfl ?_
        refine hxa_get (v := .ref 27) (by rfl) (by rfl) (by rfl) rfl ?_
        refine hxa_iload_n (by rfl) rfl ?_
        refine hxa_iload_n (by rfl) rfl ?_
        refine hxa_call0 (by rfl) (by rfl) (by rfl) (by rfl) (by rfl) (by rfl) (hX24 (d := d + 1) hA6 hL26 a1 (by omega) (by omega) a2 (by omega) (by omega)) ?_
        rintro _ A7 ⟨hA7, rfl⟩
        refine hxa_iconst (by rfl) rfl ?_
        exact hxa_ireturn (by rfl) (by rfl) (hP _ _ ⟨hA7, _, rfl, by omega⟩)
      ·
        refine hxa_iconst (by rfl) rfl ?_
        exact hxa_ireturn (by rfl) (by rfl) (hP _ _ ⟨hA, _, rfl, by omega⟩)
    ·
      refine hxj_zeq (by rfl) rfl (fun q8 => ?_) (fun q8 => False.elim (by omega))
      refine hxa_iconst (by rfl) rfl ?_
      exact hxa_ireturn (by rfl) (by rfl) (hP _ _ ⟨hA, _, rfl, by omega⟩)
  ·
    refine hxj_zeq (by rfl) rfl (fun q9 => ?_) (fun q9 => False.elim (by omega))
    refine hxa_iconst (by rfl) rfl ?_
    exact hxa_ireturn (by rfl) (by rfl) (hP _ _ ⟨hA, _, rfl, by omega⟩)
theorem hX86f {d : Nat} {Bn Br : Int} {A0 A : hs_A} (hA : hJ 0 Bn Br A0 A)  (a1 : Int32) (a2 : Int32) {H : Int} (hH : ∀ T, hTT T → A.2.2.2 0 3 = T + 1 → (A.1 T 4).toInt = H) : hxC (d + 4) 86 hm_m86 [.ref 1, .int a1, .int a2] A (fun r A' => hJ 0 Bn Br A0 A' ∧ ∃ z : Int32, r = some (.int z) ∧ ((z.toInt = 1 ∧ 0 ≤ a1.toInt ∧ a1.toInt < H ∧ 0 ≤ a2.toInt ∧ a2.toInt < H ∧ ¬ a1.toInt = a2.toInt) ∨ (z.toInt = 0 ∧ (a1.toInt < 0 ∨ H ≤ a1.toInt ∨ a2.toInt < 0 ∨ H ≤ a2.toInt ∨ a1.toInt = a2.toInt)))) := hxC.of (by rfl) (hY86f hA a1 a2 hH (fun r A' h => h))
theorem hY195f {d : Nat} {N : Int} {A0 A : hs_A} (hA : hJ 0 N (N + 72) A0 A) (hN : N ≤ 900000) (a1 : Int32) (a2 : Int32) {H : Int} (hH : (A.2.1 376 (A.1 367 18).toNatClampNeg).toInt = H) {P : Option Value → hs_A → Prop} (hP : ∀ (r : Option Value) (A' : hs_A), (hJ 0 (N + 72) (N + 144) A0 A' ∧ ∃ z : Int32, r = some (.int z) ∧ ((z.toInt = 1 ∧ 0 ≤ a1.toInt ∧ a1.toInt < H ∧ 0 ≤ a2.toInt ∧ a2.toInt < H ∧ ¬ a1.toInt = a2.toInt) ∨ (z.toInt = 0 ∧ (a1.toInt < 0 ∨ H ≤ a1.toInt ∨ a2.toInt < 0 ∨ H ≤ a2.toInt ∨ a1.toInt = a2.toInt)))) → P r A') : hxa (d + 2) (some (.boolean)) hm_t195 0 [.ref 368, .int a1, .int a2] [] A P := by
  have k0 := hk_0
  have k1 := hk_1
  refine hxa_aload_n (by rfl) rfl ?_
  refine hxa_iload_n (by rfl) rfl ?_
  refine hxa_call0 (by rfl) (by rfl) (by rfl) (by rfl) (by rfl) (by rfl) (hX167f (d := d + 0) hA a1 hH) ?_
  rintro _ _ ⟨rfl, z1, rfl, fz1⟩
  rcases fz1 with fz1 | fz1
  ·
    refine hxj_zeq (by rfl) rfl (fun q2 => False.elim (by omega)) (fun q2 => ?_)
    refine hxa_aload_n (by rfl) rfl ?_
    refine hxa_iload_n (by rfl) rfl ?_
    refine hxa_call0 (by rfl) (by rfl) (by rfl) (by rfl) (by rfl) (by rfl) (hX167f (d := d + 0) hA a2 hH) ?_
    rintro _ _ ⟨rfl, z3, rfl, fz3⟩
    rcases fz3 with fz3 | fz3
    ·
      refine hxj_zeq (by rfl) rfl (fun q4 => False.elim (by omega)) (fun q4 => ?_)
      refine hxa_iload_n (by rfl) rfl ?_
      refine hxa_iload_n (by rfl) rfl ?_
      refine hxj_cne (by rfl) rfl rfl (fun q5 => ?_) (fun q5 => ?_)
      ·
        refine hxa_aload_n (by rfl) rfl ?_
        refine hxa_call0 (by rfl) (by rfl) (by rfl) (by rfl) (by rfl) (by rfl) (hX171 (d := d + 1) hA ) ?_
        rintro _ A6 ⟨hA6, rfl⟩
        refine hxa_aload_n (by rfl) rfl ?_
        refine hxa_iload_n (by rfl) rfl ?_
        refine hxa_iload_n (by rfl) rfl ?_
        refine hxa_call0 (by rfl) (by rfl) (by rfl) (by rfl) (by rfl) (by rfl) (hX194 (d := d + 1) hA6 a1 (by omega) (by omega) a2 (by omega) (by omega)) ?_
        rintro _ A7 ⟨hA7, rfl⟩
        refine hxa_aload_n (by rfl) rfl ?_
        refine hxa_call0 (by rfl) (by rfl) (by rfl) (by rfl) (by rfl) (by rfl) (hX190 (d := d + 0) hA7 (by omega)) ?_
        rintro _ A8 ⟨hA8, rfl⟩
        refine hxa_iconst (by rfl) rfl ?_
        exact hxa_ireturn (by rfl) (by rfl) (hP _ _ ⟨(hJ.mono hA8 (by omega) (by omega)), _, rfl, by omega⟩)
      ·
        refine hxa_iconst (by rfl) rfl ?_
        exact hxa_ireturn (by rfl) (by rfl) (hP _ _ ⟨(hJ.mono hA (by omega) (by omega)), _, rfl, by omega⟩)
    ·
      refine hxj_zeq (by rfl) rfl (fun q9 => ?_) (fun q9 => False.elim (by omega))
      refine hxa_iconst (by rfl) rfl ?_
      exact hxa_ireturn (by rfl) (by rfl) (hP _ _ ⟨(hJ.mono hA (by omega) (by omega)), _, rfl, by omega⟩)
  ·
    refine hxj_zeq (by rfl) rfl (fun q10 => ?_) (fun q10 => False.elim (by omega))
    refine hxa_iconst (by rfl) rfl ?_
    exact hxa_ireturn (by rfl) (by rfl) (hP _ _ ⟨(hJ.mono hA (by omega) (by omega)), _, rfl, by omega⟩)
theorem hX195f {d : Nat} {N : Int} {A0 A : hs_A} (hA : hJ 0 N (N + 72) A0 A) (hN : N ≤ 900000) (a1 : Int32) (a2 : Int32) {H : Int} (hH : (A.2.1 376 (A.1 367 18).toNatClampNeg).toInt = H) : hxC (d + 3) 195 hm_m195 [.ref 368, .int a1, .int a2] A (fun r A' => hJ 0 (N + 72) (N + 144) A0 A' ∧ ∃ z : Int32, r = some (.int z) ∧ ((z.toInt = 1 ∧ 0 ≤ a1.toInt ∧ a1.toInt < H ∧ 0 ≤ a2.toInt ∧ a2.toInt < H ∧ ¬ a1.toInt = a2.toInt) ∨ (z.toInt = 0 ∧ (a1.toInt < 0 ∨ H ≤ a1.toInt ∨ a2.toInt < 0 ∨ H ≤ a2.toInt ∨ a1.toInt = a2.toInt)))) := hxC.of (by rfl) (hY195f hA hN a1 a2 hH (fun r A' h => h))
theorem hY65f {d : Nat} {Bn Br : Int} {A0 A : hs_A} (hA : hJ 0 Bn Br A0 A)  (a1 : Int32) (p1 : 0 ≤ a1.toInt) (q1 : a1.toInt ≤ 9) (a2 : Int32)  {P : Option Value → hs_A → Prop} (hP : ∀ (r : Option Value) (A' : hs_A), (hJ 0 Bn Br A0 A' ∧ ∃ z : Int32, r = some (.int z) ∧ ((z.toInt = -1 ∧ (20 ≤ (A.1 340 2).toInt) ∧ A'.1 340 2 = A.1 340 2) ∨ (z.toInt = (A.1 340 2).toInt ∧ ((A.1 340 2).toInt < 20) ∧ (A'.1 340 2).toInt = (A.1 340 2).toInt + 1))) → P r A') : hxa (d + 0) (some (.int)) hm_t65 0 [.ref 341, .int a1, .int a2] [] A P := by
  have k4294967295 := hk_4294967295
  refine hxa_aload_n (by rfl) rfl ?_
  refine hxj_getB (by rfl) (by rfl) (by rfl) hA (by rfl) (fun z1 ez1 fz1 gz1 => ?_)
  refine hxa_bipush (by rfl) rfl ?_
  refine hxj_clt (by rfl) rfl hk_20 (fun q2 => ?_) (fun q2 => ?_)
  ·
    refine hxa_aload_n (by rfl) rfl ?_
    refine hxa_get (v := .ref 342) (by rfl) (by rfl) (by rfl) rfl ?_
    refine hxa_aload_n (by rfl) rfl ?_
    refine hxj_getK (by rfl) (by rfl) (by rfl) ez1 ?_
    refine hxa_iload_n (by rfl) rfl ?_
    refine hxj_iast (by rfl) (by rfl) rfl (by omega) (by omega) hA (hbok (by rfl) rfl (by omega) (by omega)) (by rfl) (by rfl) (fun A3 hA3 eA3 fA3 gA3 => ?_)
    refine hxa_aload_n (by rfl) rfl ?_
    refine hxa_get (v := .ref 343) (by rfl) (by rfl) (by rfl) rfl ?_
    refine hxa_aload_n (by rfl) rfl ?_
    refine hxj_getK (by rfl) (by rfl) (by rfl) (hkA eA3 ez1) ?_
    refine hxa_iload_n (by rfl) rfl ?_
    refine hxj_iast (by rfl) (by rfl) rfl (by omega) (by omega) hA3 (hbokN (by rfl)) (by rfl) (by rfl) (fun A4 hA4 eA4 fA4 gA4 => ?_)
    refine hxa_aload_n (by rfl) rfl ?_
    refine hxa_dupR (by rfl) ?_
    refine hxj_getK (by rfl) (by rfl) (by rfl) (hkA eA4 (hkA eA3 ez1)) ?_
    refine hxa_iconst (by rfl) rfl ?_
    refine hxj_iadd (by rfl) rfl hk_1 (by omega) (by omega) (fun z5 ez5 => ?_)
    refine hxj_putI (by rfl) (by rfl) (by rfl) (by rfl) hA4 (hbok (by rfl) rfl (by omega) (by omega)) (by rfl) (by rfl) (fun A6 hA6 eA6 fA6 => ?_)
    refine hxa_aload_n (by rfl) rfl ?_
    refine hxj_getK (by rfl) (by rfl) (by rfl) (hkS eA6) ?_
    refine hxa_iconst (by rfl) rfl ?_
    refine hxj_isub (by rfl) rfl hk_1 (by omega) (by omega) (fun z7 ez7 => ?_)
    exact hxa_ireturn (by rfl) rfl (hP _ _ ⟨hA6, _, rfl, Or.inr ⟨by rw [ez1]; omega, by rw [ez1]; omega, by rw [eA6, hup1, ez1]; omega⟩⟩)
  ·
    refine hxa_iconst (by rfl) rfl ?_
    exact hxa_ireturn (by rfl) rfl (hP _ _ ⟨hA, _, rfl, Or.inl ⟨hk_4294967295, by rw [ez1]; omega, rfl⟩⟩)
theorem hX65f {d : Nat} {Bn Br : Int} {A0 A : hs_A} (hA : hJ 0 Bn Br A0 A)  (a1 : Int32) (p1 : 0 ≤ a1.toInt) (q1 : a1.toInt ≤ 9) (a2 : Int32)  : hxC (d + 1) 65 hm_m65 [.ref 341, .int a1, .int a2] A (fun r A' => hJ 0 Bn Br A0 A' ∧ ∃ z : Int32, r = some (.int z) ∧ ((z.toInt = -1 ∧ (20 ≤ (A.1 340 2).toInt) ∧ A'.1 340 2 = A.1 340 2) ∨ (z.toInt = (A.1 340 2).toInt ∧ ((A.1 340 2).toInt < 20) ∧ (A'.1 340 2).toInt = (A.1 340 2).toInt + 1))) := hxC.of (by rfl) (hY65f hA a1 p1 q1 a2  (fun r A' h => h))
theorem hY122f {d : Nat} {Bn Br : Int} {A0 A : hs_A} (hA : hJ 0 Bn Br A0 A)  (a1 : Int32) (a2 : Int32) {H : Int} (hH : ∀ T, hTT T → A.2.2.2 0 3 = T + 1 → (A.1 T 4).toInt = H) {P : Option Value → hs_A → Prop} (hP : ∀ (r : Option Value) (A' : hs_A), (hJ 0 Bn Br A0 A' ∧ ∃ z : Int32, r = some (.int z) ∧ ((z.toInt = -1 ∧ (a1.toInt < 0 ∨ H ≤ a1.toInt ∨ a2.toInt < 0 ∨ 255 < a2.toInt ∨ 20 ≤ (A.1 340 2).toInt) ∧ A'.1 340 2 = A.1 340 2) ∨ (z.toInt = (A.1 340 2).toInt ∧ (0 ≤ a1.toInt ∧ a1.toInt < H ∧ 0 ≤ a2.toInt ∧ a2.toInt ≤ 255 ∧ (A.1 340 2).toInt < 20) ∧ (A'.1 340 2).toInt = (A.1 340 2).toInt + 1))) → P r A') : hxa (d + 1) (some (.int)) hm_t122 0 [.ref 1, .int a1, .int a2] [] A P := by
  have k4294967295 := hk_4294967295
  refine hxa_aload_n (by rfl) rfl ?_
  refine hxa_iload_n (by rfl) rfl ?_
  refine hxa_call0 (by rfl) (by rfl) (by rfl) (by rfl) (by rfl) (by rfl) (hX76f (d := d + 0) hA a1 hH) ?_
  rintro _ _ ⟨rfl, z1, rfl, fz1⟩
  rcases fz1 with fz1 | fz1
  ·
    refine hxj_zeq (by rfl) rfl (fun q2 => False.elim (by omega)) (fun q2 => ?_)
    refine hxa_iload_n (by rfl) rfl ?_
    refine hxa_call2 (by rfl) (by decide) (by rfl) (by rfl) (by rfl) (hX77f (d := d + 0)  a2) ?_
    rintro _ _ ⟨rfl, z3, rfl, fz3⟩
    rcases fz3 with fz3 | fz3
    ·
      refine hxj_zne (by rfl) rfl (fun q4 => ?_) (fun q4 => False.elim (by omega))
      refine hxa_aload_n (by rfl) rfl ?_
      refine hxa_get (v := .ref 341) (by rfl) (by rfl) (by rfl) rfl ?_
      refine hxa_iload_n (by rfl) rfl ?_
      refine hxa_iload_n (by rfl) rfl ?_
      refine hxa_call0 (by rfl) (by rfl) (by rfl) (by rfl) (by rfl) (by rfl) (hX65f (d := d + 0) hA a1 (by omega) (by omega) a2) ?_
      rintro _ A5 ⟨hA5, z6, rfl, f6⟩
      exact hxa_ireturn (by rfl) rfl (hP _ _ ⟨hA5, _, rfl, by rcases f6 with ⟨u1, u2, u3⟩ | ⟨u1, u2, u3⟩; exact Or.inl ⟨u1, by omega, u3⟩; exact Or.inr ⟨u1, by omega, u3⟩⟩)
    ·
      refine hxj_zne (by rfl) rfl (fun q7 => False.elim (by omega)) (fun q7 => ?_)
      refine hxa_iconst (by rfl) rfl ?_
      exact hxa_ireturn (by rfl) rfl (hP _ _ ⟨hA, _, rfl, Or.inl ⟨hk_4294967295, by omega, rfl⟩⟩)
  ·
    refine hxj_zeq (by rfl) rfl (fun q8 => ?_) (fun q8 => False.elim (by omega))
    refine hxa_iconst (by rfl) rfl ?_
    exact hxa_ireturn (by rfl) rfl (hP _ _ ⟨hA, _, rfl, Or.inl ⟨hk_4294967295, by omega, rfl⟩⟩)
theorem hX122f {d : Nat} {Bn Br : Int} {A0 A : hs_A} (hA : hJ 0 Bn Br A0 A)  (a1 : Int32) (a2 : Int32) {H : Int} (hH : ∀ T, hTT T → A.2.2.2 0 3 = T + 1 → (A.1 T 4).toInt = H) : hxC (d + 2) 122 hm_m122 [.ref 1, .int a1, .int a2] A (fun r A' => hJ 0 Bn Br A0 A' ∧ ∃ z : Int32, r = some (.int z) ∧ ((z.toInt = -1 ∧ (a1.toInt < 0 ∨ H ≤ a1.toInt ∨ a2.toInt < 0 ∨ 255 < a2.toInt ∨ 20 ≤ (A.1 340 2).toInt) ∧ A'.1 340 2 = A.1 340 2) ∨ (z.toInt = (A.1 340 2).toInt ∧ (0 ≤ a1.toInt ∧ a1.toInt < H ∧ 0 ≤ a2.toInt ∧ a2.toInt ≤ 255 ∧ (A.1 340 2).toInt < 20) ∧ (A'.1 340 2).toInt = (A.1 340 2).toInt + 1))) := hxC.of (by rfl) (hY122f hA a1 a2 hH (fun r A' h => h))
theorem hY232f {d : Nat} {N : Int} {A0 A : hs_A} (hA : hJ 0 N (N + 72) A0 A) (hN : N ≤ 900000) (a1 : Int32) (a2 : Int32) {H : Int} (hH : (A.2.1 376 (A.1 367 18).toNatClampNeg).toInt = H) {P : Option Value → hs_A → Prop} (hP : ∀ (r : Option Value) (A' : hs_A), (hJ 0 (N + 72) (N + 144) A0 A' ∧ ∃ z : Int32, r = some (.int z) ∧ ((z.toInt = -1 ∧ (a1.toInt < 0 ∨ H ≤ a1.toInt ∨ a2.toInt < 0 ∨ 255 < a2.toInt ∨ 20 ≤ (A.1 367 59).toInt) ∧ A'.1 367 59 = A.1 367 59) ∨ (z.toInt = (A.1 367 59).toInt ∧ (0 ≤ a1.toInt ∧ a1.toInt < H ∧ 0 ≤ a2.toInt ∧ a2.toInt ≤ 255 ∧ (A.1 367 59).toInt < 20) ∧ (A'.1 367 59).toInt = (A.1 367 59).toInt + 1))) → P r A') : hxa (d + 2) (some (.int)) hm_t232 0 [.ref 368, .int a1, .int a2] [] A P := by
  have k4294967295 := hk_4294967295
  refine hxa_aload_n (by rfl) rfl ?_
  refine hxj_getB (by rfl) (by rfl) (by rfl) hA (by rfl) (fun z1 ez1 fz1 gz1 => ?_)
  refine hxa_bipush (by rfl) rfl ?_
  refine hxj_ceq (by rfl) rfl hk_20 (fun q2 => ?_) (fun q2 => ?_)
  ·
    refine hxa_iconst (by rfl) rfl ?_
    exact hxa_ireturn (by rfl) rfl (hP _ _ ⟨(hJ.mono hA (by omega) (by omega)), _, rfl, Or.inl ⟨hk_4294967295, by rw [ez1]; omega, rfl⟩⟩)
  ·
    refine hxa_aload_n (by rfl) rfl ?_
    refine hxa_iload_n (by rfl) rfl ?_
    refine hxa_call0 (by rfl) (by rfl) (by rfl) (by rfl) (by rfl) (by rfl) (hX167f (d := d + 0) hA a1 hH) ?_
    rintro _ _ ⟨rfl, z3, rfl, fz3⟩
    rcases fz3 with fz3 | fz3
    ·
      refine hxj_zeq (by rfl) rfl (fun q4 => False.elim (by omega)) (fun q4 => ?_)
      refine hxa_iload_n (by rfl) rfl ?_
      refine hxa_call2 (by rfl) (by decide) (by rfl) (by rfl) (by rfl) (hX168f (d := d + 0)  a2) ?_
      rintro _ _ ⟨rfl, z5, rfl, fz5⟩
      rcases fz5 with fz5 | fz5
      ·
        refine hxj_zne (by rfl) rfl (fun q6 => ?_) (fun q6 => False.elim (by omega))
        refine hxa_aload_n (by rfl) rfl ?_
        refine hxa_get (v := .ref 407) (by rfl) (by rfl) (by rfl) rfl ?_
        refine hxa_aload_n (by rfl) rfl ?_
        refine hxj_getK (by rfl) (by rfl) (by rfl) ez1 ?_
        refine hxa_iload_n (by rfl) rfl ?_
        refine hxj_iast (by rfl) (by rfl) rfl (by omega) (by omega) hA (hbok (by rfl) rfl (by omega) (by omega)) (by rfl) (by rfl) (fun A7 hA7 eA7 fA7 gA7 => ?_)
        refine hxa_aload_n (by rfl) rfl ?_
        refine hxa_get (v := .ref 408) (by rfl) (by rfl) (by rfl) rfl ?_
        refine hxa_aload_n (by rfl) rfl ?_
        refine hxj_getK (by rfl) (by rfl) (by rfl) (hkA eA7 ez1) ?_
        refine hxa_iload_n (by rfl) rfl ?_
        refine hxj_iast (by rfl) (by rfl) rfl (by omega) (by omega) hA7 (hbokN (by rfl)) (by rfl) (by rfl) (fun A8 hA8 eA8 fA8 gA8 => ?_)
        refine hxa_aload_n (by rfl) rfl ?_
        refine hxa_dupR (by rfl) ?_
        refine hxj_getK (by rfl) (by rfl) (by rfl) (hkA eA8 (hkA eA7 ez1)) ?_
        refine hxa_iconst (by rfl) rfl ?_
        refine hxj_iadd (by rfl) rfl hk_1 (by omega) (by omega) (fun z9 ez9 => ?_)
        refine hxj_putI (by rfl) (by rfl) (by rfl) (by rfl) hA8 (hbok (by rfl) rfl (by omega) (by omega)) (by rfl) (by rfl) (fun A10 hA10 eA10 fA10 => ?_)
        refine hxa_aload_n (by rfl) rfl ?_
        refine hxj_getK (by rfl) (by rfl) (by rfl) (hkS eA10) ?_
        refine hxa_iconst (by rfl) rfl ?_
        refine hxj_isub (by rfl) rfl hk_1 (by omega) (by omega) (fun z11 ez11 => ?_)
        exact hxa_ireturn (by rfl) rfl (hP _ _ ⟨(hJ.mono hA10 (by omega) (by omega)), _, rfl, Or.inr ⟨by rw [ez1]; omega, by rw [ez1]; omega, by rw [eA10, hup1, ez1]; omega⟩⟩)
      ·
        refine hxj_zne (by rfl) rfl (fun q12 => False.elim (by omega)) (fun q12 => ?_)
        refine hxa_iconst (by rfl) rfl ?_
        exact hxa_ireturn (by rfl) rfl (hP _ _ ⟨(hJ.mono hA (by omega) (by omega)), _, rfl, Or.inl ⟨hk_4294967295, by omega, rfl⟩⟩)
    ·
      refine hxj_zeq (by rfl) rfl (fun q13 => ?_) (fun q13 => False.elim (by omega))
      refine hxa_iconst (by rfl) rfl ?_
      exact hxa_ireturn (by rfl) rfl (hP _ _ ⟨(hJ.mono hA (by omega) (by omega)), _, rfl, Or.inl ⟨hk_4294967295, by omega, rfl⟩⟩)
theorem hX232f {d : Nat} {N : Int} {A0 A : hs_A} (hA : hJ 0 N (N + 72) A0 A) (hN : N ≤ 900000) (a1 : Int32) (a2 : Int32) {H : Int} (hH : (A.2.1 376 (A.1 367 18).toNatClampNeg).toInt = H) : hxC (d + 3) 232 hm_m232 [.ref 368, .int a1, .int a2] A (fun r A' => hJ 0 (N + 72) (N + 144) A0 A' ∧ ∃ z : Int32, r = some (.int z) ∧ ((z.toInt = -1 ∧ (a1.toInt < 0 ∨ H ≤ a1.toInt ∨ a2.toInt < 0 ∨ 255 < a2.toInt ∨ 20 ≤ (A.1 367 59).toInt) ∧ A'.1 367 59 = A.1 367 59) ∨ (z.toInt = (A.1 367 59).toInt ∧ (0 ≤ a1.toInt ∧ a1.toInt < H ∧ 0 ≤ a2.toInt ∧ a2.toInt ≤ 255 ∧ (A.1 367 59).toInt < 20) ∧ (A'.1 367 59).toInt = (A.1 367 59).toInt + 1))) := hxC.of (by rfl) (hY232f hA hN a1 a2 hH (fun r A' h => h))
theorem hY123f {d : Nat} {Bn Br : Int} {A0 A : hs_A} (hA : hJ 0 Bn Br A0 A)    {P : Option Value → hs_A → Prop} (hP : ∀ (r : Option Value) (A' : hs_A), (hJ 0 Bn Br A0 A' ∧ ∃ z : Int32, r = some (.int z) ∧ (z = A.1 340 2 ∧ A'.1 340 2 = Int32.ofNat 0)) → P r A') : hxa (d + 0) (some (.int)) hm_t123 0 [.ref 1, .retAddr 0] [] A P := by
  refine hxa_aload_n (by rfl) rfl ?_
  refine hxa_get (v := .ref 341) (by rfl) (by rfl) (by rfl) rfl ?_
  refine hxj_getB (by rfl) (by rfl) (by rfl) hA (by rfl) (fun z1 ez1 fz1 gz1 => ?_)
  refine hxa_s1 (by rfl) (Or.inl ⟨_, rfl, rfl⟩) rfl ?_
  refine hxa_aload_n (by rfl) rfl ?_
  refine hxa_get (v := .ref 341) (by rfl) (by rfl) (by rfl) rfl ?_
  refine hxa_iconst (by rfl) rfl ?_
  refine hxj_putI (by rfl) (by rfl) (by rfl) (by rfl) hA (hbok (by rfl) hk_0 (by omega) (by omega)) (by rfl) (by rfl) (fun A2 hA2 eA2 fA2 => ?_)
  refine hxa_iload_n (by rfl) rfl ?_
  exact hxa_ireturn (by rfl) rfl (hP _ _ ⟨hA2, _, rfl, ⟨ez1.symm, by rw [eA2, hup1]⟩⟩)
theorem hX123f {d : Nat} {Bn Br : Int} {A0 A : hs_A} (hA : hJ 0 Bn Br A0 A)    : hxC (d + 1) 123 hm_m123 [.ref 1] A (fun r A' => hJ 0 Bn Br A0 A' ∧ ∃ z : Int32, r = some (.int z) ∧ (z = A.1 340 2 ∧ A'.1 340 2 = Int32.ofNat 0)) := hxC.of (by rfl) (hY123f hA   (fun r A' h => h))
theorem hY233f {d : Nat} {N : Int} {A0 A : hs_A} (hA : hJ 0 N (N + 72) A0 A) (hN : N ≤ 900000)   {P : Option Value → hs_A → Prop} (hP : ∀ (r : Option Value) (A' : hs_A), (hJ 0 (N + 72) (N + 144) A0 A' ∧ ∃ z : Int32, r = some (.int z) ∧ (z = A.1 367 59 ∧ A'.1 367 59 = Int32.ofNat 0)) → P r A') : hxa (d + 0) (some (.int)) hm_t233 0 [.ref 368, .retAddr 0] [] A P := by
  refine hxa_aload_n (by rfl) rfl ?_
  refine hxj_getB (by rfl) (by rfl) (by rfl) hA (by rfl) (fun z1 ez1 fz1 gz1 => ?_)
  refine hxa_s1 (by rfl) (Or.inl ⟨_, rfl, rfl⟩) rfl ?_
  refine hxa_aload_n (by rfl) rfl ?_
  refine hxa_iconst (by rfl) rfl ?_
  refine hxj_putI (by rfl) (by rfl) (by rfl) (by rfl) hA (hbok (by rfl) hk_0 (by omega) (by omega)) (by rfl) (by rfl) (fun A2 hA2 eA2 fA2 => ?_)
  refine hxa_iload_n (by rfl) rfl ?_
  exact hxa_ireturn (by rfl) rfl (hP _ _ ⟨(hJ.mono hA2 (by omega) (by omega)), _, rfl, ⟨ez1.symm, by rw [eA2, hup1]⟩⟩)
theorem hX233f {d : Nat} {N : Int} {A0 A : hs_A} (hA : hJ 0 N (N + 72) A0 A) (hN : N ≤ 900000)   : hxC (d + 1) 233 hm_m233 [.ref 368] A (fun r A' => hJ 0 (N + 72) (N + 144) A0 A' ∧ ∃ z : Int32, r = some (.int z) ∧ (z = A.1 367 59 ∧ A'.1 367 59 = Int32.ofNat 0)) := hxC.of (by rfl) (hY233f hA hN  (fun r A' h => h))
/-! WHAT CLASS AND REFERENCE SHARE (3): what is held, too -/
def hIR (A : hs_A) : Prop := hIP A ∧ hHd (A.1 0 10) (A.2.1 408)
def uwR : Nat := 16372378265846586046405433507470689580542927954513845767493537880612316557041269444474045440
set_option maxRecDepth 1000000 in
theorem uwR_ok : (Nat.testBit uwR (ug_o (ug_g 0) 1) || (Nat.testBit uwR (ug_o (ug_g 367) 2) || (Nat.testBit uwR (ug_g 1) || (Nat.testBit uwR (ug_g 368) || (Nat.testBit uwR (ug_g 374) || (Nat.testBit uwR (ug_o (ug_g 0) 2) || Nat.testBit uwR (ug_o (ug_g 367) 17))))))) = false := by decide +kernel
theorem hHd.uf {W : Nat} {A A' : hs_A} (h : hHd (A.1 0 10) (A.2.1 408)) (w : uf_W W A A') (b1 : Nat.testBit W (ug_o (ug_g 0) 10) = false) (b2 : Nat.testBit W (ug_g 408) = false) : hHd (A'.1 0 10) (A'.2.1 408) := h.eq (w.1 0 _ _ 10 rfl rfl b1) (fun s hs => w.2.1 408 _ _ s rfl hs b2)
theorem hIR.q {A A' : hs_A} (h : hIR A) (w : uf_W uwR A A') (hH : uf_H A') (hb : (A.1 0 1).toInt ≤ 2000) : hIR A' := ⟨h.1.uf w hH uwR_ok hb, h.2.uf w (by decide +kernel) (by decide +kernel)⟩
set_option maxRecDepth 1000000 in
theorem hy_IR : hIR hy_A := ⟨hy_IP, hHd.nil (by decide +kernel) (by decide +kernel)⟩
/-! WHAT CLASS AND REFERENCE SHARE (4): how many houses there are, how much is told -/
def hHs (A : hs_A) : Prop := ∀ T, A.2.2.2 0 3 = T + 1 → A.1 T 4 = A.2.1 376 (A.1 367 18).toNatClampNeg
def hIB (A : hs_A) : Prop := hIR A ∧ hHs A ∧ A.1 340 2 = A.1 367 59
theorem uf_lv {Q : Nat} {Bn Br : Int} {A0 A : hs_A} (h : hJ Q Bn Br A0 A) : (A.1 367 18).toNatClampNeg < 2 := by
  have b := hbok.get (h.1.1 367 18) rfl
  have c := hn_cn (j := A.1 367 18) b.1
  omega
theorem hHs.uf {W : Nat} {A A' : hs_A} (h : hHs A) (hH : uf_H A) (w : uf_W W A A') (l : (A.1 367 18).toNatClampNeg < 2) (c : (Nat.testBit W (ug_o (ug_g 2) 4) || (Nat.testBit W (ug_o (ug_g 11) 4) || (Nat.testBit W (ug_g 376) || (Nat.testBit W (ug_o (ug_g 367) 18) || (Nat.testBit W (ug_o (ug_g 0) 3)))))) = false) : hHs A' := by
  simp only [Bool.or_eq_false_iff] at c
  obtain ⟨c1, c2, c3, c4, c5⟩ := c
  intro T hT
  rw [w.2.2.2 0 _ _ 3 rfl rfl c5] at hT
  have q := h T hT
  rw [w.1 367 _ _ 18 rfl rfl c4, w.2.1 376 _ _ _ rfl l c3, ← q]
  rcases hH.1 with e | e
  · obtain rfl : T = 2 := by omega
    exact w.1 2 _ _ 4 rfl rfl c1
  · obtain rfl : T = 11 := by omega
    exact w.1 11 _ _ 4 rfl rfl c2
theorem hHs.c {A : hs_A} (h : hHs A) : ∀ T, hTT T → A.2.2.2 0 3 = T + 1 → (A.1 T 4).toInt = (A.2.1 376 (A.1 367 18).toNatClampNeg).toInt := fun T _ e => congrArg Int32.toInt (h T e)
theorem hHs.r {W : Nat} {A A' : hs_A} (w : uf_W W A A') (l : (A.1 367 18).toNatClampNeg < 2) (c3 : Nat.testBit W (ug_g 376) = false) (c4 : Nat.testBit W (ug_o (ug_g 367) 18) = false) : (A'.2.1 376 (A'.1 367 18).toNatClampNeg).toInt = (A.2.1 376 (A.1 367 18).toNatClampNeg).toInt := by
  rw [w.1 367 _ _ 18 rfl rfl c4, w.2.1 376 _ _ _ rfl l c3]
def uwB : Nat := 76090455170697356250966253848873728343746049324078734958121183127721077579987142304072704
set_option maxRecDepth 1000000 in
theorem uwB_ok : (Nat.testBit uwB (ug_o (ug_g 2) 4) || (Nat.testBit uwB (ug_o (ug_g 11) 4) || (Nat.testBit uwB (ug_g 376) || (Nat.testBit uwB (ug_o (ug_g 367) 18) || (Nat.testBit uwB (ug_o (ug_g 0) 3)))))) = false := by decide +kernel
theorem hIB.q {A A' : hs_A} (h : hIB A) (w : uf_W uwB A A') (hH : uf_H A') (hb : (A.1 0 1).toInt ≤ 2000) (l : (A.1 367 18).toNatClampNeg < 2) : hIB A' := ⟨h.1.q (w.le (by decide +kernel)) hH hb, h.2.1.uf h.1.1.2.1 w l uwB_ok, by rw [w.1 340 _ _ 2 rfl rfl (by decide +kernel), w.1 367 _ _ 59 rfl rfl (by decide +kernel)]; exact h.2.2⟩
set_option maxRecDepth 1000000 in
theorem hy_IBs : hy_A.2.2.2 0 3 = 3 ∧ hy_A.1 2 4 = hy_A.2.1 376 (hy_A.1 367 18).toNatClampNeg ∧ hy_A.1 340 2 = hy_A.1 367 59 := by decide +kernel
theorem hy_IB : hIB hy_A := ⟨hy_IR, fun T hT => by
  obtain ⟨a, b, -⟩ := hy_IBs
  obtain rfl : T = 2 := by omega
  exact b, hy_IBs.2.2⟩
/-- two calls' frames -/
theorem hBk {W1 W2 : Nat} {A A1 A2 : hs_A} (h : hHs A) (hH : uf_H A) (H1 : uf_H A1) (w1 : uf_W W1 A A1) (w2 : uf_W W2 A1 A2) (l : (A.1 367 18).toNatClampNeg < 2) (a : (Nat.testBit W1 (ug_o (ug_g 2) 4) || (Nat.testBit W1 (ug_o (ug_g 11) 4) || (Nat.testBit W1 (ug_g 376) || (Nat.testBit W1 (ug_o (ug_g 367) 18) || (Nat.testBit W1 (ug_o (ug_g 0) 3)))))) = false) (b : (Nat.testBit W2 (ug_o (ug_g 2) 4) || (Nat.testBit W2 (ug_o (ug_g 11) 4) || (Nat.testBit W2 (ug_g 376) || (Nat.testBit W2 (ug_o (ug_g 367) 18) || (Nat.testBit W2 (ug_o (ug_g 0) 3)))))) = false) : hHs A2 := by
  refine (h.uf hH w1 l a).uf H1 w2 ?_ b
  simp only [Bool.or_eq_false_iff] at a
  rw [w1.1 367 _ _ 18 rfl rfl a.2.2.2.1]
  exact l
theorem hTk {W1 W2 : Nat} {A A1 A2 : hs_A} (h : A.1 340 2 = A.1 367 59) (w1 : uf_W W1 A A1) (w2 : uf_W W2 A1 A2) (a : Nat.testBit W1 (ug_o (ug_g 340) 2) = false) (b : Nat.testBit W1 (ug_o (ug_g 367) 59) = false) (c : Nat.testBit W2 (ug_o (ug_g 340) 2) = false) (d : Nat.testBit W2 (ug_o (ug_g 367) 59) = false) : A2.1 340 2 = A2.1 367 59 := by
  rw [w2.1 340 _ _ 2 rfl rfl c, w2.1 367 _ _ 59 rfl rfl d, w1.1 340 _ _ 2 rfl rfl a, w1.1 367 _ _ 59 rfl rfl b]
  exact h
theorem hpb_feed {N : Int} {A : hs_A} (hA : hJ 0 N (N + 72) A A) (hN : N ≤ 800000) (hI : hIB A) (a1 : Int32) (a2 : Int32) (a3 : Int32) (a4 : Int32) (a5 : Int32) : hxC 26 70 hm_m70 [.ref 1, .int a1, .int a2, .int a3, .int a4, .int a5] A (fun r A1 => ∃ z : Int32, r = some (.int z) ∧ hxC 26 133 hm_m133 [.ref 368, .int a1, .int a2, .int a3, .int a4, .int a5] A1 (fun r2 A2 => ∃ z2 : Int32, r2 = some (.int z2) ∧ z = z2 ∧ ∃ N' : Int, N' ≤ N + 144 ∧ hJ 0 N' (N' + 72) A2 A2 ∧ hIB A2)) := by
  obtain ⟨⟨⟨⟨i1, i2, i3⟩, iH, iP⟩, hHD⟩, hHS, hTD⟩ := hI
  have h10 := hJ.to10 hA
  have bl := hbok.get (hA.1.1 0 1) rfl
  obtain ⟨n, hn⟩ : ∃ n : Nat, (A.1 0 1).toInt = (n : Int) := ⟨(A.1 0 1).toInt.toNat, by omega⟩
  refine hxC.post (uf_k70 iH a1 a2 a3 a4 a5 (hxC.and (g := 0) (hX70q10 (d := 24) h10 a1 a2 a3 a4 a5) (fun g => hP70 a1 a2 a3 a4 a5 hn (by omega)))) ?_
  rintro _ A1 ⟨⟨⟨h1, r1, z, rfl, f1⟩, A1v, v1, -, -, tp1, ta1, tl1, fe1⟩, w1, H1⟩
  refine ⟨z, rfl, ?_⟩
  have t1 := congrArg Int32.toInt r1
  refine hxC.post (uf_k133 H1 a1 a2 a3 a4 a5 (hxC.and (g := 0) (hX133q10 (d := 24) h1 a1 a2 a3 a4 a5) (fun g => hP133 (len := n) a1 a2 a3 a4 a5 (by omega) (by omega)))) ?_
  rintro _ A2 ⟨⟨⟨h2, r2, z2, rfl, f2⟩, A2v, v2, -, -, tp2, ta2, tl2, fe2⟩, w2, H2⟩
  have t2 := congrArg Int32.toInt r2
  have PL := hPLk iP w1 w2 (by decide +kernel) (by decide +kernel) (by decide +kernel) (by decide +kernel)
  refine ⟨z2, rfl, Int32.toInt_inj.mp (by omega), N, by omega, (hJ.end10 h2).1, ⟨⟨⟨by omega, v2.U ((v1.U (i2.fr (by rw [tl1]))).fr (by rw [tl2])), fun i hi => ?_⟩, H2, PL⟩, (((hHD.uf w1 (by decide +kernel) (by decide +kernel))).uf w2 (by decide +kernel) (by decide +kernel))⟩, hBk hHS iH H1 w1 w2 (uf_lv hA) (by decide +kernel) (by decide +kernel), hTk hTD w1 w2 (by decide +kernel) (by decide +kernel) (by decide +kernel) (by decide +kernel)⟩
  have bl2 := hbok.get (h2.1.1 0 1) rfl
  obtain ⟨m, hm⟩ : ∃ m : Nat, (A2.1 0 1).toInt = (m : Int) := ⟨(A2.1 0 1).toInt.toNat, by omega⟩
  have hi2 : i < 2000 := by omega
  have q := hf5_al (f := A.2.1 1) (g := A1.2.1 368) (n := n) (m := m) (a := a1) (b := a2) (c := a3) (d := a4) (e := a5) (fun j hj => ⟨by rw [(i3 j (by omega)).1, ← v1.t2 (show j < 2000 by omega), ta1 368 (by omega)], (i3 j (by omega)).2⟩) (by omega) i (by omega)
  have e1 : A2.2.1 1 i = hf5 (A.2.1 1) n a1 a2 a3 a4 a5 i := by rw [← v2.t1 hi2, ta2 1 (by omega), ← v1.t1 hi2, tp1]
  have e2 : A2.2.1 368 i = hf5 (A1.2.1 368) n a1 a2 a3 a4 a5 i := by rw [← v2.t2 hi2, tp2]
  rw [e1, e2]
  exact q
theorem hpb_back {N : Int} {A : hs_A} (hA : hJ 0 N (N + 72) A A) (hN : N ≤ 800000) (hI : hIB A) (a1 : Int32) : hxC 26 72 hm_m72 [.ref 1, .int a1] A (fun r A1 => ∃ z : Int32, r = some (.int z) ∧ hxC 26 135 hm_m135 [.ref 368, .int a1] A1 (fun r2 A2 => ∃ z2 : Int32, r2 = some (.int z2) ∧ z = z2 ∧ ∃ N' : Int, N' ≤ N + 144 ∧ hJ 0 N' (N' + 72) A2 A2 ∧ hIB A2)) := by
  obtain ⟨⟨⟨⟨i1, i2, i3⟩, iH, iP⟩, hHD⟩, hHS, hTD⟩ := hI
  have h10 := hJ.to10 hA
  refine hxC.post (uf_k72 iH a1 (hxC.and (g := 0) (hX72q10 (d := 25) h10 a1) (fun g => hP72 a1))) ?_
  rintro _ A1 ⟨⟨⟨h1, r1, z, rfl, f1⟩, A1v, v1, -, -, fe1, ta1⟩, w1, H1⟩
  refine ⟨z, rfl, ?_⟩
  refine hxC.post (uf_k135 H1 a1 (hxC.and (g := 0) (hX135q10 (d := 25) h1 a1) (fun g => hP135 a1))) ?_
  rintro _ A2 ⟨⟨⟨h2, r2, z2, rfl, f2⟩, A2v, v2, -, -, fe2, ta2⟩, w2, H2⟩
  have t1 := congrArg Int32.toInt r1
  have t2 := congrArg Int32.toInt r2
  have PL := hPLk iP w1 w2 (by decide +kernel) (by decide +kernel) (by decide +kernel) (by decide +kernel)
  refine ⟨z2, rfl, Int32.toInt_inj.mp (by omega), N, by omega, (hJ.end10 h2).1, ⟨⟨⟨by omega, v2.U ((v1.U (i2.fr (by rw [ta1]))).fr (by rw [ta2])), fun i hi => ?_⟩, H2, PL⟩, (((hHD.uf w1 (by decide +kernel) (by decide +kernel))).uf w2 (by decide +kernel) (by decide +kernel))⟩, hBk hHS iH H1 w1 w2 (uf_lv hA) (by decide +kernel) (by decide +kernel), hTk hTD w1 w2 (by decide +kernel) (by decide +kernel) (by decide +kernel) (by decide +kernel)⟩
  have bl := hbok.get (hA.1.1 0 1) rfl
  have hi2 : i < 2000 := by omega
  rw [← v2.t1 hi2, ← v2.t2 hi2, ta2, ← v1.t1 hi2, ← v1.t2 hi2, ta1]
  exact i3 i (by omega)
theorem hpb_place {N : Int} {A : hs_A} (hA : hJ 0 N (N + 72) A A) (hN : N ≤ 800000) (hI : hIB A)  : hxC 26 75 hm_m75 [.ref 1] A (fun r A1 => ∃ z : Int32, r = some (.int z) ∧ hxC 26 151 hm_m151 [.ref 368] A1 (fun r2 A2 => ∃ z2 : Int32, r2 = some (.int z2) ∧ z = z2 ∧ ∃ N' : Int, N' ≤ N + 144 ∧ hJ 0 N' (N' + 72) A2 A2 ∧ hIB A2)) := by
  have bl := hbok.get (hA.1.1 0 1) rfl
  refine hxC.post (hxC.and (g := 0) (hX75 (d := 25) hA) (fun g => hP75)) ?_
  rintro _ _ ⟨⟨rfl, z1, rfl⟩, A1v, v1, -, z1v, e1, f1⟩
  refine ⟨z1, rfl, ?_⟩
  refine hxC.post (hxC.and (g := 0) (hX151 (d := 25) hA) (fun g => hP151)) ?_
  rintro _ _ ⟨⟨rfl, z2, rfl⟩, A2v, v2, -, z2v, e2, f2⟩
  have q1 : z1 = z1v := by injection e1 with e; injection e
  have q2 : z2 = z2v := by injection e2 with e; injection e
  exact ⟨z2, rfl, by rw [q1, q2, f1, f2]; exact hI.1.1.2.2, N + 72, by omega, hJ.mono hA (by omega) (by omega), hI⟩
theorem hpb_house {N : Int} {A : hs_A} (hA : hJ 0 N (N + 72) A A) (hN : N ≤ 800000) (hI : hIB A) (a1 : Int32) (a2 : Int32) : hxC 26 79 hm_m79 [.ref 1, .int a1, .int a2] A (fun r A1 => ∃ z : Int32, r = some (.int z) ∧ hxC 26 188 hm_m188 [.ref 368, .int a1, .int a2] A1 (fun r2 A2 => ∃ z2 : Int32, r2 = some (.int z2) ∧ ∃ N' : Int, N' ≤ N + 144 ∧ hJ 0 N' (N' + 72) A2 A2 ∧ hIB A2)) := by
  have bl := hbok.get (hA.1.1 0 1) rfl
  refine hxC.post (uf_k79 hI.1.1.2.1 a1 a2 (hX79 (d := 22) hA a1 a2)) ?_
  rintro _ A1 ⟨⟨hA1, z1, rfl⟩, wA1, HA1⟩
  refine ⟨z1, rfl, ?_⟩
  refine hxC.post (uf_k188 HA1 a1 a2 (hX188 (d := 22) hA1 (by omega) a1 a2)) ?_
  rintro _ A2 ⟨⟨hA2, z2, rfl⟩, wA2, HA2⟩
  exact ⟨z2, rfl, N + 72, by omega, hJ.mono (hJ.self hA2) (by omega) (by omega), hI.q ((wA1.le (by decide +kernel : ug_wle uw79 uwB = true)).trans (wA2.le (by decide +kernel : ug_wle uw188 uwB = true))) HA2 bl.2 (uf_lv hA)⟩
theorem hpb_passed {N : Int} {A : hs_A} (hA : hJ 0 N (N + 72) A A) (hN : N ≤ 800000) (hI : hIB A) (a1 : Int32) (a2 : Int32) : hxC 26 81 hm_m81 [.ref 1, .int a1, .int a2] A (fun r A1 => ∃ z : Int32, r = some (.int z) ∧ hxC 26 189 hm_m189 [.ref 368, .int a1, .int a2] A1 (fun r2 A2 => ∃ z2 : Int32, r2 = some (.int z2) ∧ ∃ N' : Int, N' ≤ N + 144 ∧ hJ 0 N' (N' + 72) A2 A2 ∧ hIB A2)) := by
  have bl := hbok.get (hA.1.1 0 1) rfl
  refine hxC.post (uf_k81 hI.1.1.2.1 a1 a2 (hX81 (d := 22) hA a1 a2)) ?_
  rintro _ A1 ⟨⟨hA1, z1, rfl⟩, wA1, HA1⟩
  refine ⟨z1, rfl, ?_⟩
  refine hxC.post (uf_k189 HA1 a1 a2 (hX189 (d := 21) hA1 (by omega) a1 a2)) ?_
  rintro _ A2 ⟨⟨hA2, z2, rfl⟩, wA2, HA2⟩
  exact ⟨z2, rfl, N + 72, by omega, hJ.mono (hJ.self hA2) (by omega) (by omega), hI.q ((wA1.le (by decide +kernel : ug_wle uw81 uwB = true)).trans (wA2.le (by decide +kernel : ug_wle uw189 uwB = true))) HA2 bl.2 (uf_lv hA)⟩
theorem hpb_comes {N : Int} {A : hs_A} (hA : hJ 0 N (N + 72) A A) (hN : N ≤ 800000) (hI : hIB A) (a1 : Int32) (a2 : Int32) : hxC 26 91 hm_m91 [.ref 1, .int a1, .int a2] A (fun r A1 => ∃ z : Int32, r = some (.int z) ∧ hxC 26 204 hm_m204 [.ref 368, .int a1, .int a2] A1 (fun r2 A2 => ∃ z2 : Int32, r2 = some (.int z2) ∧ ∃ N' : Int, N' ≤ N + 144 ∧ hJ 0 N' (N' + 72) A2 A2 ∧ hIB A2)) := by
  have bl := hbok.get (hA.1.1 0 1) rfl
  refine hxC.post (uf_k91 hI.1.1.2.1 a1 a2 (hX91 (d := 19) hA a1 a2)) ?_
  rintro _ A1 ⟨⟨hA1, z1, rfl⟩, wA1, HA1⟩
  refine ⟨z1, rfl, ?_⟩
  refine hxC.post (uf_k204 HA1 a1 a2 (hX204 (d := 19) hA1 (by omega) a1 a2)) ?_
  rintro _ A2 ⟨⟨hA2, z2, rfl⟩, wA2, HA2⟩
  exact ⟨z2, rfl, N + 72, by omega, hJ.mono (hJ.self hA2) (by omega) (by omega), hI.q ((wA1.le (by decide +kernel : ug_wle uw91 uwB = true)).trans (wA2.le (by decide +kernel : ug_wle uw204 uwB = true))) HA2 bl.2 (uf_lv hA)⟩
theorem hpb_last {N : Int} {A : hs_A} (hA : hJ 0 N (N + 72) A A) (hN : N ≤ 800000) (hI : hIB A) (a1 : Int32) : hxC 26 92 hm_m92 [.ref 1, .int a1] A (fun r A1 => ∃ z : Int32, r = some (.int z) ∧ hxC 26 205 hm_m205 [.ref 368, .int a1] A1 (fun r2 A2 => ∃ z2 : Int32, r2 = some (.int z2) ∧ ∃ N' : Int, N' ≤ N + 144 ∧ hJ 0 N' (N' + 72) A2 A2 ∧ hIB A2)) := by
  have bl := hbok.get (hA.1.1 0 1) rfl
  refine hxC.post (uf_k92 hI.1.1.2.1 a1 (hX92 (d := 19) hA a1)) ?_
  rintro _ A1 ⟨⟨hA1, z1, rfl⟩, wA1, HA1⟩
  refine ⟨z1, rfl, ?_⟩
  refine hxC.post (uf_k205 HA1 a1 (hX205 (d := 19) hA1 (by omega) a1)) ?_
  rintro _ A2 ⟨⟨hA2, z2, rfl⟩, wA2, HA2⟩
  exact ⟨z2, rfl, N + 72, by omega, hJ.mono (hJ.self hA2) (by omega) (by omega), hI.q ((wA1.le (by decide +kernel : ug_wle uw92 uwB = true)).trans (wA2.le (by decide +kernel : ug_wle uw205 uwB = true))) HA2 bl.2 (uf_lv hA)⟩
theorem hpb_sendFor {N : Int} {A : hs_A} (hA : hJ 0 N (N + 72) A A) (hN : N ≤ 800000) (hI : hIB A) (a1 : Int32) : hxC 26 93 hm_m93 [.ref 1, .int a1] A (fun r A1 => ∃ z : Int32, r = some (.int z) ∧ hxC 26 206 hm_m206 [.ref 368, .int a1] A1 (fun r2 A2 => ∃ z2 : Int32, r2 = some (.int z2) ∧ ∃ N' : Int, N' ≤ N + 144 ∧ hJ 0 N' (N' + 72) A2 A2 ∧ hIB A2)) := by
  have bl := hbok.get (hA.1.1 0 1) rfl
  refine hxC.post (uf_k93 hI.1.1.2.1 a1 (hX93 (d := 19) hA a1)) ?_
  rintro _ A1 ⟨⟨hA1, z1, rfl⟩, wA1, HA1⟩
  refine ⟨z1, rfl, ?_⟩
  refine hxC.post (uf_k206 HA1 a1 (hX206 (d := 18) hA1 (by omega) a1)) ?_
  rintro _ A2 ⟨⟨hA2, z2, rfl⟩, wA2, HA2⟩
  exact ⟨z2, rfl, N + 72, by omega, hJ.mono (hJ.self hA2) (by omega) (by omega), hI.q ((wA1.le (by decide +kernel : ug_wle uw93 uwB = true)).trans (wA2.le (by decide +kernel : ug_wle uw206 uwB = true))) HA2 bl.2 (uf_lv hA)⟩
theorem hpb_apart {N : Int} {A : hs_A} (hA : hJ 0 N (N + 72) A A) (hN : N ≤ 800000) (hI : hIB A) (a1 : Int32) : hxC 26 94 hm_m94 [.ref 1, .int a1] A (fun r A1 => ∃ z : Int32, r = some (.int z) ∧ hxC 26 207 hm_m207 [.ref 368, .int a1] A1 (fun r2 A2 => ∃ z2 : Int32, r2 = some (.int z2) ∧ ∃ N' : Int, N' ≤ N + 144 ∧ hJ 0 N' (N' + 72) A2 A2 ∧ hIB A2)) := by
  have bl := hbok.get (hA.1.1 0 1) rfl
  refine hxC.post (uf_k94 hI.1.1.2.1 a1 (hX94 (d := 19) hA a1)) ?_
  rintro _ A1 ⟨⟨hA1, z1, rfl⟩, wA1, HA1⟩
  refine ⟨z1, rfl, ?_⟩
  refine hxC.post (uf_k207 HA1 a1 (hX207 (d := 18) hA1 (by omega) a1)) ?_
  rintro _ A2 ⟨⟨hA2, z2, rfl⟩, wA2, HA2⟩
  exact ⟨z2, rfl, N + 72, by omega, hJ.mono (hJ.self hA2) (by omega) (by omega), hI.q ((wA1.le (by decide +kernel : ug_wle uw94 uwB = true)).trans (wA2.le (by decide +kernel : ug_wle uw207 uwB = true))) HA2 bl.2 (uf_lv hA)⟩
theorem hpb_code {N : Int} {A : hs_A} (hA : hJ 0 N (N + 72) A A) (hN : N ≤ 800000) (hI : hIB A) (a1 : Int32) (a2 : Int32) (a3 : Int32) : hxC 26 95 hm_m95 [.ref 1, .int a1, .int a2, .int a3] A (fun r A1 => ∃ z : Int32, r = some (.int z) ∧ hxC 26 208 hm_m208 [.ref 368, .int a1, .int a2, .int a3] A1 (fun r2 A2 => ∃ z2 : Int32, r2 = some (.int z2) ∧ ∃ N' : Int, N' ≤ N + 144 ∧ hJ 0 N' (N' + 72) A2 A2 ∧ hIB A2)) := by
  have bl := hbok.get (hA.1.1 0 1) rfl
  refine hxC.post (uf_k95 hI.1.1.2.1 a1 a2 a3 (hX95 (d := 19) hA a1 a2 a3)) ?_
  rintro _ A1 ⟨⟨hA1, z1, rfl⟩, wA1, HA1⟩
  refine ⟨z1, rfl, ?_⟩
  refine hxC.post (uf_k208 HA1 a1 a2 a3 (hX208 (d := 18) hA1 (by omega) a1 a2 a3)) ?_
  rintro _ A2 ⟨⟨hA2, z2, rfl⟩, wA2, HA2⟩
  exact ⟨z2, rfl, N + 72, by omega, hJ.mono (hJ.self hA2) (by omega) (by omega), hI.q ((wA1.le (by decide +kernel : ug_wle uw95 uwB = true)).trans (wA2.le (by decide +kernel : ug_wle uw208 uwB = true))) HA2 bl.2 (uf_lv hA)⟩
theorem hpb_lost {N : Int} {A : hs_A} (hA : hJ 0 N (N + 72) A A) (hN : N ≤ 800000) (hI : hIB A) (a1 : Int32) : hxC 26 97 hm_m97 [.ref 1, .int a1] A (fun r A1 => ∃ z : Int32, r = some (.int z) ∧ hxC 26 209 hm_m209 [.ref 368, .int a1] A1 (fun r2 A2 => ∃ z2 : Int32, r2 = some (.int z2) ∧ ∃ N' : Int, N' ≤ N + 144 ∧ hJ 0 N' (N' + 72) A2 A2 ∧ hIB A2)) := by
  have bl := hbok.get (hA.1.1 0 1) rfl
  refine hxC.post (uf_k97 hI.1.1.2.1 a1 (hX97 (d := 19) hA a1)) ?_
  rintro _ A1 ⟨⟨hA1, z1, rfl⟩, wA1, HA1⟩
  refine ⟨z1, rfl, ?_⟩
  refine hxC.post (uf_k209 HA1 a1 (hX209 (d := 19) hA1 (by omega) a1)) ?_
  rintro _ A2 ⟨⟨hA2, z2, rfl⟩, wA2, HA2⟩
  exact ⟨z2, rfl, N + 72, by omega, hJ.mono (hJ.self hA2) (by omega) (by omega), hI.q ((wA1.le (by decide +kernel : ug_wle uw97 uwB = true)).trans (wA2.le (by decide +kernel : ug_wle uw209 uwB = true))) HA2 bl.2 (uf_lv hA)⟩
theorem hpb_between {N : Int} {A : hs_A} (hA : hJ 0 N (N + 72) A A) (hN : N ≤ 800000) (hI : hIB A) (a1 : Int32) (a2 : Int32) (a3 : Int32) : hxC 26 98 hm_m98 [.ref 1, .int a1, .int a2, .int a3] A (fun r A1 => ∃ z : Int32, r = some (.int z) ∧ hxC 26 210 hm_m210 [.ref 368, .int a1, .int a2, .int a3] A1 (fun r2 A2 => ∃ z2 : Int32, r2 = some (.int z2) ∧ ∃ N' : Int, N' ≤ N + 144 ∧ hJ 0 N' (N' + 72) A2 A2 ∧ hIB A2)) := by
  have bl := hbok.get (hA.1.1 0 1) rfl
  refine hxC.post (uf_k98 hI.1.1.2.1 a1 a2 a3 (hX98 (d := 19) hA a1 a2 a3)) ?_
  rintro _ A1 ⟨⟨hA1, z1, rfl⟩, wA1, HA1⟩
  refine ⟨z1, rfl, ?_⟩
  refine hxC.post (uf_k210 HA1 a1 a2 a3 (hX210 (d := 19) hA1 (by omega) a1 a2 a3)) ?_
  rintro _ A2 ⟨⟨hA2, z2, rfl⟩, wA2, HA2⟩
  exact ⟨z2, rfl, N + 72, by omega, hJ.mono (hJ.self hA2) (by omega) (by omega), hI.q ((wA1.le (by decide +kernel : ug_wle uw98 uwB = true)).trans (wA2.le (by decide +kernel : ug_wle uw210 uwB = true))) HA2 bl.2 (uf_lv hA)⟩
theorem hpb_widest {N : Int} {A : hs_A} (hA : hJ 0 N (N + 72) A A) (hN : N ≤ 800000) (hI : hIB A) (a1 : Int32) (a2 : Int32) : hxC 26 99 hm_m99 [.ref 1, .int a1, .int a2] A (fun r A1 => ∃ z : Int32, r = some (.int z) ∧ hxC 26 211 hm_m211 [.ref 368, .int a1, .int a2] A1 (fun r2 A2 => ∃ z2 : Int32, r2 = some (.int z2) ∧ ∃ N' : Int, N' ≤ N + 144 ∧ hJ 0 N' (N' + 72) A2 A2 ∧ hIB A2)) := by
  have bl := hbok.get (hA.1.1 0 1) rfl
  refine hxC.post (uf_k99 hI.1.1.2.1 a1 a2 (hX99 (d := 19) hA a1 a2)) ?_
  rintro _ A1 ⟨⟨hA1, z1, rfl⟩, wA1, HA1⟩
  refine ⟨z1, rfl, ?_⟩
  refine hxC.post (uf_k211 HA1 a1 a2 (hX211 (d := 18) hA1 (by omega) a1 a2)) ?_
  rintro _ A2 ⟨⟨hA2, z2, rfl⟩, wA2, HA2⟩
  exact ⟨z2, rfl, N + 72, by omega, hJ.mono (hJ.self hA2) (by omega) (by omega), hI.q ((wA1.le (by decide +kernel : ug_wle uw99 uwB = true)).trans (wA2.le (by decide +kernel : ug_wle uw211 uwB = true))) HA2 bl.2 (uf_lv hA)⟩
theorem hpb_same {N : Int} {A : hs_A} (hA : hJ 0 N (N + 72) A A) (hN : N ≤ 800000) (hI : hIB A) (a1 : Int32) (a2 : Int32) : hxC 26 100 hm_m100 [.ref 1, .int a1, .int a2] A (fun r A1 => ∃ z : Int32, r = some (.int z) ∧ hxC 26 212 hm_m212 [.ref 368, .int a1, .int a2] A1 (fun r2 A2 => ∃ z2 : Int32, r2 = some (.int z2) ∧ ∃ N' : Int, N' ≤ N + 144 ∧ hJ 0 N' (N' + 72) A2 A2 ∧ hIB A2)) := by
  have bl := hbok.get (hA.1.1 0 1) rfl
  refine hxC.post (uf_k100 hI.1.1.2.1 a1 a2 (hX100 (d := 19) hA a1 a2)) ?_
  rintro _ A1 ⟨⟨hA1, z1, rfl⟩, wA1, HA1⟩
  refine ⟨z1, rfl, ?_⟩
  refine hxC.post (uf_k212 HA1 a1 a2 (hX212 (d := 18) hA1 (by omega) a1 a2)) ?_
  rintro _ A2 ⟨⟨hA2, z2, rfl⟩, wA2, HA2⟩
  exact ⟨z2, rfl, N + 72, by omega, hJ.mono (hJ.self hA2) (by omega) (by omega), hI.q ((wA1.le (by decide +kernel : ug_wle uw100 uwB = true)).trans (wA2.le (by decide +kernel : ug_wle uw212 uwB = true))) HA2 bl.2 (uf_lv hA)⟩
theorem hpb_itself {N : Int} {A : hs_A} (hA : hJ 0 N (N + 72) A A) (hN : N ≤ 800000) (hI : hIB A) (a1 : Int32) : hxC 26 101 hm_m101 [.ref 1, .int a1] A (fun r A1 => ∃ z : Int32, r = some (.int z) ∧ hxC 26 213 hm_m213 [.ref 368, .int a1] A1 (fun r2 A2 => ∃ z2 : Int32, r2 = some (.int z2) ∧ ∃ N' : Int, N' ≤ N + 144 ∧ hJ 0 N' (N' + 72) A2 A2 ∧ hIB A2)) := by
  have bl := hbok.get (hA.1.1 0 1) rfl
  refine hxC.post (uf_k101 hI.1.1.2.1 a1 (hX101 (d := 19) hA a1)) ?_
  rintro _ A1 ⟨⟨hA1, z1, rfl⟩, wA1, HA1⟩
  refine ⟨z1, rfl, ?_⟩
  refine hxC.post (uf_k213 HA1 a1 (hX213 (d := 19) hA1 (by omega) a1)) ?_
  rintro _ A2 ⟨⟨hA2, z2, rfl⟩, wA2, HA2⟩
  exact ⟨z2, rfl, N + 72, by omega, hJ.mono (hJ.self hA2) (by omega) (by omega), hI.q ((wA1.le (by decide +kernel : ug_wle uw101 uwB = true)).trans (wA2.le (by decide +kernel : ug_wle uw213 uwB = true))) HA2 bl.2 (uf_lv hA)⟩
theorem hpb_times {N : Int} {A : hs_A} (hA : hJ 0 N (N + 72) A A) (hN : N ≤ 800000) (hI : hIB A) (a1 : Int32) (a2 : Int32) : hxC 26 102 hm_m102 [.ref 1, .int a1, .int a2] A (fun r A1 => ∃ z : Int32, r = some (.int z) ∧ hxC 26 216 hm_m216 [.ref 368, .int a1, .int a2] A1 (fun r2 A2 => ∃ z2 : Int32, r2 = some (.int z2) ∧ ∃ N' : Int, N' ≤ N + 144 ∧ hJ 0 N' (N' + 72) A2 A2 ∧ hIB A2)) := by
  have bl := hbok.get (hA.1.1 0 1) rfl
  refine hxC.post (uf_k102 hI.1.1.2.1 a1 a2 (hX102 (d := 20) hA a1 a2)) ?_
  rintro _ A1 ⟨⟨hA1, z1, rfl⟩, wA1, HA1⟩
  refine ⟨z1, rfl, ?_⟩
  refine hxC.post (uf_k216 HA1 a1 a2 (hX216 (d := 19) hA1 (by omega) a1 a2)) ?_
  rintro _ A2 ⟨⟨hA2, z2, rfl⟩, wA2, HA2⟩
  exact ⟨z2, rfl, N + 72, by omega, hJ.mono (hJ.self hA2) (by omega) (by omega), hI.q ((wA1.le (by decide +kernel : ug_wle uw102 uwB = true)).trans (wA2.le (by decide +kernel : ug_wle uw216 uwB = true))) HA2 bl.2 (uf_lv hA)⟩
theorem hpb_bestHour {N : Int} {A : hs_A} (hA : hJ 0 N (N + 72) A A) (hN : N ≤ 800000) (hI : hIB A) (a1 : Int32) (a2 : Int32) : hxC 26 105 hm_m105 [.ref 1, .int a1, .int a2] A (fun r A1 => ∃ z : Int32, r = some (.int z) ∧ hxC 26 217 hm_m217 [.ref 368, .int a1, .int a2] A1 (fun r2 A2 => ∃ z2 : Int32, r2 = some (.int z2) ∧ ∃ N' : Int, N' ≤ N + 144 ∧ hJ 0 N' (N' + 72) A2 A2 ∧ hIB A2)) := by
  have bl := hbok.get (hA.1.1 0 1) rfl
  refine hxC.post (uf_k105 hI.1.1.2.1 a1 a2 (hX105 (d := 21) hA a1 a2)) ?_
  rintro _ A1 ⟨⟨hA1, z1, rfl⟩, wA1, HA1⟩
  refine ⟨z1, rfl, ?_⟩
  refine hxC.post (uf_k217 HA1 a1 a2 (hX217 (d := 19) hA1 (by omega) a1 a2)) ?_
  rintro _ A2 ⟨⟨hA2, z2, rfl⟩, wA2, HA2⟩
  exact ⟨z2, rfl, N + 72, by omega, hJ.mono (hJ.self hA2) (by omega) (by omega), hI.q ((wA1.le (by decide +kernel : ug_wle uw105 uwB = true)).trans (wA2.le (by decide +kernel : ug_wle uw217 uwB = true))) HA2 bl.2 (uf_lv hA)⟩
theorem hpb_breakAt {N : Int} {A : hs_A} (hA : hJ 0 N (N + 72) A A) (hN : N ≤ 800000) (hI : hIB A) (a1 : Int32) : hxC 26 106 hm_m106 [.ref 1, .int a1] A (fun r A1 => ∃ z : Int32, r = some (.int z) ∧ hxC 26 218 hm_m218 [.ref 368, .int a1] A1 (fun r2 A2 => ∃ z2 : Int32, r2 = some (.int z2) ∧ ∃ N' : Int, N' ≤ N + 144 ∧ hJ 0 N' (N' + 72) A2 A2 ∧ hIB A2)) := by
  have bl := hbok.get (hA.1.1 0 1) rfl
  refine hxC.post (uf_k106 hI.1.1.2.1 a1 (hX106 (d := 22) hA a1)) ?_
  rintro _ _ ⟨⟨rfl, z1, rfl⟩, wA1, HA1⟩
  refine ⟨z1, rfl, ?_⟩
  refine hxC.post (uf_k218 HA1 a1 (hX218 (d := 23) hA (by omega) a1)) ?_
  rintro _ A2 ⟨⟨hA2, z2, rfl⟩, wA2, HA2⟩
  exact ⟨z2, rfl, N + 72, by omega, hJ.mono (hJ.self hA2) (by omega) (by omega), hI.q ((wA1.le (by decide +kernel : ug_wle uw106 uwB = true)).trans (wA2.le (by decide +kernel : ug_wle uw218 uwB = true))) HA2 bl.2 (uf_lv hA)⟩
theorem hpb_loudest {N : Int} {A : hs_A} (hA : hJ 0 N (N + 72) A A) (hN : N ≤ 800000) (hI : hIB A) (a1 : Int32) (a2 : Int32) : hxC 26 108 hm_m108 [.ref 1, .int a1, .int a2] A (fun r A1 => ∃ z : Int32, r = some (.int z) ∧ hxC 26 219 hm_m219 [.ref 368, .int a1, .int a2] A1 (fun r2 A2 => ∃ z2 : Int32, r2 = some (.int z2) ∧ ∃ N' : Int, N' ≤ N + 144 ∧ hJ 0 N' (N' + 72) A2 A2 ∧ hIB A2)) := by
  have bl := hbok.get (hA.1.1 0 1) rfl
  refine hxC.post (uf_k108 hI.1.1.2.1 a1 a2 (hX108 (d := 20) hA a1 a2)) ?_
  rintro _ A1 ⟨⟨hA1, z1, rfl⟩, wA1, HA1⟩
  refine ⟨z1, rfl, ?_⟩
  refine hxC.post (uf_k219 HA1 a1 a2 (hX219 (d := 20) hA1 (by omega) a1 a2)) ?_
  rintro _ A2 ⟨⟨hA2, z2, rfl⟩, wA2, HA2⟩
  exact ⟨z2, rfl, N + 72, by omega, hJ.mono (hJ.self hA2) (by omega) (by omega), hI.q ((wA1.le (by decide +kernel : ug_wle uw108 uwB = true)).trans (wA2.le (by decide +kernel : ug_wle uw219 uwB = true))) HA2 bl.2 (uf_lv hA)⟩
theorem hpb_warm {N : Int} {A : hs_A} (hA : hJ 0 N (N + 72) A A) (hN : N ≤ 800000) (hI : hIB A) (a1 : Int32) : hxC 26 110 hm_m110 [.ref 1, .int a1] A (fun r A1 => ∃ z : Int32, r = some (.int z) ∧ hxC 26 220 hm_m220 [.ref 368, .int a1] A1 (fun r2 A2 => ∃ z2 : Int32, r2 = some (.int z2) ∧ ∃ N' : Int, N' ≤ N + 144 ∧ hJ 0 N' (N' + 72) A2 A2 ∧ hIB A2)) := by
  have bl := hbok.get (hA.1.1 0 1) rfl
  refine hxC.post (uf_k110 hI.1.1.2.1 a1 (hX110 (d := 20) hA a1)) ?_
  rintro _ A1 ⟨⟨hA1, z1, rfl⟩, wA1, HA1⟩
  refine ⟨z1, rfl, ?_⟩
  refine hxC.post (uf_k220 HA1 a1 (hX220 (d := 19) hA1 (by omega) a1)) ?_
  rintro _ A2 ⟨⟨hA2, z2, rfl⟩, wA2, HA2⟩
  exact ⟨z2, rfl, N + 72, by omega, hJ.mono (hJ.self hA2) (by omega) (by omega), hI.q ((wA1.le (by decide +kernel : ug_wle uw110 uwB = true)).trans (wA2.le (by decide +kernel : ug_wle uw220 uwB = true))) HA2 bl.2 (uf_lv hA)⟩
theorem hpb_lives {N : Int} {A : hs_A} (hA : hJ 0 N (N + 72) A A) (hN : N ≤ 800000) (hI : hIB A) (a1 : Int32) : hxC 26 111 hm_m111 [.ref 1, .int a1] A (fun r A1 => ∃ z : Int32, r = some (.int z) ∧ hxC 26 221 hm_m221 [.ref 368, .int a1] A1 (fun r2 A2 => ∃ z2 : Int32, r2 = some (.int z2) ∧ ∃ N' : Int, N' ≤ N + 144 ∧ hJ 0 N' (N' + 72) A2 A2 ∧ hIB A2)) := by
  have bl := hbok.get (hA.1.1 0 1) rfl
  refine hxC.post (uf_k111 hI.1.1.2.1 a1 (hX111 (d := 25) hA a1)) ?_
  rintro _ _ ⟨⟨rfl, z1, rfl⟩, wA1, HA1⟩
  refine ⟨z1, rfl, ?_⟩
  refine hxC.post (uf_k221 HA1 a1 (hX221 (d := 25) hA a1)) ?_
  rintro _ _ ⟨⟨rfl, z2, rfl⟩, wA2, HA2⟩
  exact ⟨z2, rfl, N + 72, by omega, hJ.mono (hJ.self hA) (by omega) (by omega), hI.q ((wA1.le (by decide +kernel : ug_wle uw111 uwB = true)).trans (wA2.le (by decide +kernel : ug_wle uw221 uwB = true))) HA2 bl.2 (uf_lv hA)⟩
theorem hpb_warmth {N : Int} {A : hs_A} (hA : hJ 0 N (N + 72) A A) (hN : N ≤ 800000) (hI : hIB A) (a1 : Int32) : hxC 26 112 hm_m112 [.ref 1, .int a1] A (fun r A1 => ∃ z : Int32, r = some (.int z) ∧ hxC 26 222 hm_m222 [.ref 368, .int a1] A1 (fun r2 A2 => ∃ z2 : Int32, r2 = some (.int z2) ∧ ∃ N' : Int, N' ≤ N + 144 ∧ hJ 0 N' (N' + 72) A2 A2 ∧ hIB A2)) := by
  have bl := hbok.get (hA.1.1 0 1) rfl
  refine hxC.post (uf_k112 hI.1.1.2.1 a1 (hX112 (d := 21) hA a1)) ?_
  rintro _ A1 ⟨⟨hA1, z1, rfl⟩, wA1, HA1⟩
  refine ⟨z1, rfl, ?_⟩
  refine hxC.post (uf_k222 HA1 a1 (hX222 (d := 20) hA1 (by omega) a1)) ?_
  rintro _ A2 ⟨⟨hA2, z2, rfl⟩, wA2, HA2⟩
  exact ⟨z2, rfl, N + 72, by omega, hJ.mono (hJ.self hA2) (by omega) (by omega), hI.q ((wA1.le (by decide +kernel : ug_wle uw112 uwB = true)).trans (wA2.le (by decide +kernel : ug_wle uw222 uwB = true))) HA2 bl.2 (uf_lv hA)⟩
theorem hpb_then {N : Int} {A : hs_A} (hA : hJ 0 N (N + 72) A A) (hN : N ≤ 800000) (hI : hIB A) (a1 : Int32) (a2 : Int32) (a3 : Int32) : hxC 26 113 hm_m113 [.ref 1, .int a1, .int a2, .int a3] A (fun r A1 => ∃ z : Int32, r = some (.int z) ∧ hxC 26 223 hm_m223 [.ref 368, .int a1, .int a2, .int a3] A1 (fun r2 A2 => ∃ z2 : Int32, r2 = some (.int z2) ∧ ∃ N' : Int, N' ≤ N + 144 ∧ hJ 0 N' (N' + 72) A2 A2 ∧ hIB A2)) := by
  have bl := hbok.get (hA.1.1 0 1) rfl
  refine hxC.post (uf_k113 hI.1.1.2.1 a1 a2 a3 (hX113 (d := 20) hA a1 a2 a3)) ?_
  rintro _ A1 ⟨⟨hA1, z1, rfl⟩, wA1, HA1⟩
  refine ⟨z1, rfl, ?_⟩
  refine hxC.post (uf_k223 HA1 a1 a2 a3 (hX223 (d := 19) hA1 (by omega) a1 a2 a3)) ?_
  rintro _ A2 ⟨⟨hA2, z2, rfl⟩, wA2, HA2⟩
  exact ⟨z2, rfl, N + 72, by omega, hJ.mono (hJ.self hA2) (by omega) (by omega), hI.q ((wA1.le (by decide +kernel : ug_wle uw113 uwB = true)).trans (wA2.le (by decide +kernel : ug_wle uw223 uwB = true))) HA2 bl.2 (uf_lv hA)⟩
theorem hpb_quiet {N : Int} {A : hs_A} (hA : hJ 0 N (N + 72) A A) (hN : N ≤ 800000) (hI : hIB A) (a1 : Int32) (a2 : Int32) : hxC 26 114 hm_m114 [.ref 1, .int a1, .int a2] A (fun r A1 => ∃ z : Int32, r = some (.int z) ∧ hxC 26 224 hm_m224 [.ref 368, .int a1, .int a2] A1 (fun r2 A2 => ∃ z2 : Int32, r2 = some (.int z2) ∧ ∃ N' : Int, N' ≤ N + 144 ∧ hJ 0 N' (N' + 72) A2 A2 ∧ hIB A2)) := by
  have bl := hbok.get (hA.1.1 0 1) rfl
  refine hxC.post (uf_k114 hI.1.1.2.1 a1 a2 (hX114 (d := 21) hA a1 a2)) ?_
  rintro _ A1 ⟨⟨hA1, z1, rfl⟩, wA1, HA1⟩
  refine ⟨z1, rfl, ?_⟩
  refine hxC.post (uf_k224 HA1 a1 a2 (hX224 (d := 20) hA1 (by omega) a1 a2)) ?_
  rintro _ A2 ⟨⟨hA2, z2, rfl⟩, wA2, HA2⟩
  exact ⟨z2, rfl, N + 72, by omega, hJ.mono (hJ.self hA2) (by omega) (by omega), hI.q ((wA1.le (by decide +kernel : ug_wle uw114 uwB = true)).trans (wA2.le (by decide +kernel : ug_wle uw224 uwB = true))) HA2 bl.2 (uf_lv hA)⟩
theorem hpb_mourn {N : Int} {A : hs_A} (hA : hJ 0 N (N + 72) A A) (hN : N ≤ 800000) (hI : hIB A) (a1 : Int32) : hxC 26 115 hm_m115 [.ref 1, .int a1] A (fun r A1 => ∃ z : Int32, r = some (.int z) ∧ hxC 26 226 hm_m226 [.ref 368, .int a1] A1 (fun r2 A2 => ∃ z2 : Int32, r2 = some (.int z2) ∧ ∃ N' : Int, N' ≤ N + 144 ∧ hJ 0 N' (N' + 72) A2 A2 ∧ hIB A2)) := by
  have bl := hbok.get (hA.1.1 0 1) rfl
  refine hxC.post (uf_k115 hI.1.1.2.1 a1 (hX115 (d := 20) hA a1)) ?_
  rintro _ A1 ⟨⟨hA1, z1, rfl⟩, wA1, HA1⟩
  refine ⟨z1, rfl, ?_⟩
  refine hxC.post (uf_k226 HA1 a1 (hX226 (d := 19) hA1 (by omega) a1)) ?_
  rintro _ A2 ⟨⟨hA2, z2, rfl⟩, wA2, HA2⟩
  exact ⟨z2, rfl, N + 72, by omega, hJ.mono (hJ.self hA2) (by omega) (by omega), hI.q ((wA1.le (by decide +kernel : ug_wle uw115 uwB = true)).trans (wA2.le (by decide +kernel : ug_wle uw226 uwB = true))) HA2 bl.2 (uf_lv hA)⟩
theorem hpb_carryBest {N : Int} {A : hs_A} (hA : hJ 0 N (N + 72) A A) (hN : N ≤ 800000) (hI : hIB A) (a1 : Int32) : hxC 26 116 hm_m116 [.ref 1, .int a1] A (fun r A1 => ∃ z : Int32, r = some (.int z) ∧ hxC 26 227 hm_m227 [.ref 368, .int a1] A1 (fun r2 A2 => ∃ z2 : Int32, r2 = some (.int z2) ∧ ∃ N' : Int, N' ≤ N + 144 ∧ hJ 0 N' (N' + 72) A2 A2 ∧ hIB A2)) := by
  have bl := hbok.get (hA.1.1 0 1) rfl
  refine hxC.post (uf_k116 hI.1.1.2.1 a1 (hX116 (d := 24) hA a1)) ?_
  rintro _ _ ⟨⟨rfl, z1, rfl⟩, wA1, HA1⟩
  refine ⟨z1, rfl, ?_⟩
  refine hxC.post (uf_k227 HA1 a1 (hX227 (d := 24) hA a1)) ?_
  rintro _ _ ⟨⟨rfl, z2, rfl⟩, wA2, HA2⟩
  exact ⟨z2, rfl, N + 72, by omega, hJ.mono (hJ.self hA) (by omega) (by omega), hI.q ((wA1.le (by decide +kernel : ug_wle uw116 uwB = true)).trans (wA2.le (by decide +kernel : ug_wle uw227 uwB = true))) HA2 bl.2 (uf_lv hA)⟩
theorem hpb_needs {N : Int} {A : hs_A} (hA : hJ 0 N (N + 72) A A) (hN : N ≤ 800000) (hI : hIB A) (a1 : Int32) : hxC 26 117 hm_m117 [.ref 1, .int a1] A (fun r A1 => ∃ z : Int32, r = some (.int z) ∧ hxC 26 228 hm_m228 [.ref 368, .int a1] A1 (fun r2 A2 => ∃ z2 : Int32, r2 = some (.int z2) ∧ ∃ N' : Int, N' ≤ N + 144 ∧ hJ 0 N' (N' + 72) A2 A2 ∧ hIB A2)) := by
  have bl := hbok.get (hA.1.1 0 1) rfl
  refine hxC.post (uf_k117 hI.1.1.2.1 a1 (hX117 (d := 24) hA a1)) ?_
  rintro _ _ ⟨⟨rfl, z1, rfl⟩, wA1, HA1⟩
  refine ⟨z1, rfl, ?_⟩
  refine hxC.post (uf_k228 HA1 a1 (hX228 (d := 23) hA a1)) ?_
  rintro _ _ ⟨⟨rfl, z2, rfl⟩, wA2, HA2⟩
  exact ⟨z2, rfl, N + 72, by omega, hJ.mono (hJ.self hA) (by omega) (by omega), hI.q ((wA1.le (by decide +kernel : ug_wle uw117 uwB = true)).trans (wA2.le (by decide +kernel : ug_wle uw228 uwB = true))) HA2 bl.2 (uf_lv hA)⟩
theorem hpb_changeBest {N : Int} {A : hs_A} (hA : hJ 0 N (N + 72) A A) (hN : N ≤ 800000) (hI : hIB A) (a1 : Int32) : hxC 26 118 hm_m118 [.ref 1, .int a1] A (fun r A1 => ∃ z : Int32, r = some (.int z) ∧ hxC 26 229 hm_m229 [.ref 368, .int a1] A1 (fun r2 A2 => ∃ z2 : Int32, r2 = some (.int z2) ∧ ∃ N' : Int, N' ≤ N + 144 ∧ hJ 0 N' (N' + 72) A2 A2 ∧ hIB A2)) := by
  have bl := hbok.get (hA.1.1 0 1) rfl
  refine hxC.post (uf_k118 hI.1.1.2.1 a1 (hX118 (d := 20) hA a1)) ?_
  rintro _ A1 ⟨⟨hA1, z1, rfl⟩, wA1, HA1⟩
  refine ⟨z1, rfl, ?_⟩
  refine hxC.post (uf_k229 HA1 a1 (hX229 (d := 19) hA1 (by omega) a1)) ?_
  rintro _ A2 ⟨⟨hA2, z2, rfl⟩, wA2, HA2⟩
  exact ⟨z2, rfl, N + 72, by omega, hJ.mono (hJ.self hA2) (by omega) (by omega), hI.q ((wA1.le (by decide +kernel : ug_wle uw118 uwB = true)).trans (wA2.le (by decide +kernel : ug_wle uw229 uwB = true))) HA2 bl.2 (uf_lv hA)⟩
theorem hpb_off {N : Int} {A : hs_A} (hA : hJ 0 N (N + 72) A A) (hN : N ≤ 800000) (hI : hIB A) (a1 : Int32) : hxC 26 120 hm_m120 [.ref 1, .int a1] A (fun r A1 => ∃ z : Int32, r = some (.int z) ∧ hxC 26 230 hm_m230 [.ref 368, .int a1] A1 (fun r2 A2 => ∃ z2 : Int32, r2 = some (.int z2) ∧ ∃ N' : Int, N' ≤ N + 144 ∧ hJ 0 N' (N' + 72) A2 A2 ∧ hIB A2)) := by
  have bl := hbok.get (hA.1.1 0 1) rfl
  refine hxC.post (uf_k120 hI.1.1.2.1 a1 (hX120 (d := 24) hA a1)) ?_
  rintro _ _ ⟨⟨rfl, z1, rfl⟩, wA1, HA1⟩
  refine ⟨z1, rfl, ?_⟩
  refine hxC.post (uf_k230 HA1 a1 (hX230 (d := 23) hA a1)) ?_
  rintro _ _ ⟨⟨rfl, z2, rfl⟩, wA2, HA2⟩
  exact ⟨z2, rfl, N + 72, by omega, hJ.mono (hJ.self hA) (by omega) (by omega), hI.q ((wA1.le (by decide +kernel : ug_wle uw120 uwB = true)).trans (wA2.le (by decide +kernel : ug_wle uw230 uwB = true))) HA2 bl.2 (uf_lv hA)⟩
theorem hpb_year {N : Int} {A : hs_A} (hA : hJ 0 N (N + 72) A A) (hN : N ≤ 800000) (hI : hIB A) (a1 : Int32) (a2 : Int32) (a3 : Int32) : hxC 26 121 hm_m121 [.ref 1, .int a1, .int a2, .int a3] A (fun r A1 => ∃ z : Int32, r = some (.int z) ∧ hxC 26 231 hm_m231 [.ref 368, .int a1, .int a2, .int a3] A1 (fun r2 A2 => ∃ z2 : Int32, r2 = some (.int z2) ∧ ∃ N' : Int, N' ≤ N + 144 ∧ hJ 0 N' (N' + 72) A2 A2 ∧ hIB A2)) := by
  have bl := hbok.get (hA.1.1 0 1) rfl
  refine hxC.post (uf_k121 hI.1.1.2.1 a1 a2 a3 (hX121 (d := 20) hA a1 a2 a3)) ?_
  rintro _ A1 ⟨⟨hA1, z1, rfl⟩, wA1, HA1⟩
  refine ⟨z1, rfl, ?_⟩
  refine hxC.post (uf_k231 HA1 a1 a2 a3 (hX231 (d := 19) hA1 (by omega) a1 a2 a3)) ?_
  rintro _ A2 ⟨⟨hA2, z2, rfl⟩, wA2, HA2⟩
  exact ⟨z2, rfl, N + 72, by omega, hJ.mono (hJ.self hA2) (by omega) (by omega), hI.q ((wA1.le (by decide +kernel : ug_wle uw121 uwB = true)).trans (wA2.le (by decide +kernel : ug_wle uw231 uwB = true))) HA2 bl.2 (uf_lv hA)⟩
theorem hpb_tell {N : Int} {A : hs_A} (hA : hJ 0 N (N + 72) A A) (hN : N ≤ 800000) (hI : hIB A) (a1 : Int32) (a2 : Int32) : hxC 26 122 hm_m122 [.ref 1, .int a1, .int a2] A (fun r A1 => ∃ z : Int32, r = some (.int z) ∧ hxC 26 232 hm_m232 [.ref 368, .int a1, .int a2] A1 (fun r2 A2 => ∃ z2 : Int32, r2 = some (.int z2) ∧ z = z2 ∧ ∃ N' : Int, N' ≤ N + 144 ∧ hJ 0 N' (N' + 72) A2 A2 ∧ hIB A2)) := by
  have bl := hbok.get (hA.1.1 0 1) rfl
  have bt := hbok.get (hA.1.1 340 2) rfl
  refine hxC.post (uf_k122 hI.1.1.2.1 a1 a2 (hX122f (d := 24) hA a1 a2 hI.2.1.c)) ?_
  rintro _ A1 ⟨⟨hA1, z1, rfl, f1⟩, w1, H1⟩
  refine ⟨z1, rfl, ?_⟩
  refine hxC.post (uf_k232 H1 a1 a2 (hX232f (d := 23) hA1 (by omega) a1 a2 (hHs.r w1 (uf_lv hA) (by decide +kernel) (by decide +kernel)))) ?_
  rintro _ A2 ⟨⟨hA2, z2, rfl, f2⟩, w2, H2⟩
  have t0 := congrArg Int32.toInt hI.2.2
  have e1 : A1.1 367 59 = A.1 367 59 := w1.1 367 _ _ 59 rfl rfl (by decide +kernel)
  have e2 : A2.1 340 2 = A1.1 340 2 := w2.1 340 _ _ 2 rfl rfl (by decide +kernel)
  rw [e1] at f2
  have td : (A2.1 340 2).toInt = (A2.1 367 59).toInt := by
    rw [e2]
    rcases f1 with ⟨u1, u2, u3⟩ | ⟨u1, u2, u3⟩
    · rcases f2 with ⟨v1, v2, v3⟩ | ⟨v1, v2, v3⟩
      · rw [u3, v3]; exact t0
      · exact absurd v2 (by omega)
    · rcases f2 with ⟨v1, v2, v3⟩ | ⟨v1, v2, v3⟩
      · exact absurd u2 (by omega)
      · rw [u3, v3, t0]
  have ez : z1.toInt = z2.toInt := by
    rcases f1 with ⟨u1, u2, u3⟩ | ⟨u1, u2, u3⟩
    · rcases f2 with ⟨v1, v2, v3⟩ | ⟨v1, v2, v3⟩
      · omega
      · exact absurd v2 (by omega)
    · rcases f2 with ⟨v1, v2, v3⟩ | ⟨v1, v2, v3⟩
      · exact absurd u2 (by omega)
      · omega
  exact ⟨z2, rfl, Int32.toInt_inj.mp ez, N + 72, by omega, hJ.mono (hJ.self hA2) (by omega) (by omega), ⟨(hI.1.1.uf w1 H1 (by decide +kernel) bl.2).uf w2 H2 (by decide +kernel) (by rw [w1.1 0 _ _ 1 rfl rfl (by decide +kernel)]; exact bl.2), (hI.1.2.uf w1 (by decide +kernel) (by decide +kernel)).uf w2 (by decide +kernel) (by decide +kernel)⟩, hBk hI.2.1 hI.1.1.2.1 H1 w1 w2 (uf_lv hA) (by decide +kernel) (by decide +kernel), Int32.toInt_inj.mp td⟩
theorem hpb_forget {N : Int} {A : hs_A} (hA : hJ 0 N (N + 72) A A) (hN : N ≤ 800000) (hI : hIB A)  : hxC 26 123 hm_m123 [.ref 1] A (fun r A1 => ∃ z : Int32, r = some (.int z) ∧ hxC 26 233 hm_m233 [.ref 368] A1 (fun r2 A2 => ∃ z2 : Int32, r2 = some (.int z2) ∧ z = z2 ∧ ∃ N' : Int, N' ≤ N + 144 ∧ hJ 0 N' (N' + 72) A2 A2 ∧ hIB A2)) := by
  have bl := hbok.get (hA.1.1 0 1) rfl
  refine hxC.post (uf_k123 hI.1.1.2.1 (hX123f (d := 25) hA)) ?_
  rintro _ A1 ⟨⟨hA1, z1, rfl, f1, g1⟩, w1, H1⟩
  refine ⟨z1, rfl, ?_⟩
  refine hxC.post (uf_k233 H1 (hX233f (d := 25) hA1 (by omega))) ?_
  rintro _ A2 ⟨⟨hA2, z2, rfl, f2, g2⟩, w2, H2⟩
  have e1 : A1.1 367 59 = A.1 367 59 := w1.1 367 _ _ 59 rfl rfl (by decide +kernel)
  have e2 : A2.1 340 2 = A1.1 340 2 := w2.1 340 _ _ 2 rfl rfl (by decide +kernel)
  exact ⟨z2, rfl, by rw [f1, f2, e1]; exact hI.2.2, N + 72, by omega, hJ.mono (hJ.self hA2) (by omega) (by omega), ⟨(hI.1.1.uf w1 H1 (by decide +kernel) bl.2).uf w2 H2 (by decide +kernel) (by rw [w1.1 0 _ _ 1 rfl rfl (by decide +kernel)]; exact bl.2), (hI.1.2.uf w1 (by decide +kernel) (by decide +kernel)).uf w2 (by decide +kernel) (by decide +kernel)⟩, hBk hI.2.1 hI.1.1.2.1 H1 w1 w2 (uf_lv hA) (by decide +kernel) (by decide +kernel), by rw [e2, g1, g2]⟩
theorem hpb_sent {N : Int} {A : hs_A} (hA : hJ 0 N (N + 72) A A) (hN : N ≤ 800000) (hI : hIB A) (a1 : Int32) (a2 : Int32) : hxC 26 125 hm_m125 [.ref 1, .int a1, .int a2] A (fun r A1 => ∃ z : Int32, r = some (.int z) ∧ hxC 26 235 hm_m235 [.ref 368, .int a1, .int a2] A1 (fun r2 A2 => ∃ z2 : Int32, r2 = some (.int z2) ∧ ∃ N' : Int, N' ≤ N + 144 ∧ hJ 0 N' (N' + 72) A2 A2 ∧ hIB A2)) := by
  have bl := hbok.get (hA.1.1 0 1) rfl
  refine hxC.post (uf_k125 hI.1.1.2.1 a1 a2 (hX125 (d := 18) hA a1 a2)) ?_
  rintro _ A1 ⟨⟨hA1, z1, rfl⟩, wA1, HA1⟩
  refine ⟨z1, rfl, ?_⟩
  refine hxC.post (uf_k235 HA1 a1 a2 (hX235 (d := 18) hA1 (by omega) a1 a2)) ?_
  rintro _ A2 ⟨⟨hA2, z2, rfl⟩, wA2, HA2⟩
  exact ⟨z2, rfl, N + 72, by omega, hJ.mono (hJ.self hA2) (by omega) (by omega), hI.q ((wA1.le (by decide +kernel : ug_wle uw125 uwB = true)).trans (wA2.le (by decide +kernel : ug_wle uw235 uwB = true))) HA2 bl.2 (uf_lv hA)⟩
theorem hpb_listen {N : Int} {A : hs_A} (hA : hJ 0 N (N + 72) A A) (hN : N ≤ 800000) (hI : hIB A) (a1 : Int32) : hxC 26 126 hm_m126 [.ref 1, .int a1] A (fun r A1 => ∃ z : Int32, r = some (.int z) ∧ hxC 26 237 hm_m237 [.ref 368, .int a1] A1 (fun r2 A2 => ∃ z2 : Int32, r2 = some (.int z2) ∧ ∃ N' : Int, N' ≤ N + 144 ∧ hJ 0 N' (N' + 72) A2 A2 ∧ hIB A2)) := by
  have bl := hbok.get (hA.1.1 0 1) rfl
  refine hxC.post (uf_k126 hI.1.1.2.1 a1 (hX126 (d := 18) hA a1)) ?_
  rintro _ A1 ⟨⟨hA1, z1, rfl⟩, wA1, HA1⟩
  refine ⟨z1, rfl, ?_⟩
  refine hxC.post (uf_k237 HA1 a1 (hX237 (d := 18) hA1 (by omega) a1)) ?_
  rintro _ A2 ⟨⟨hA2, z2, rfl⟩, wA2, HA2⟩
  exact ⟨z2, rfl, N + 72, by omega, hJ.mono (hJ.self hA2) (by omega) (by omega), hI.q ((wA1.le (by decide +kernel : ug_wle uw126 uwB = true)).trans (wA2.le (by decide +kernel : ug_wle uw237 uwB = true))) HA2 bl.2 (uf_lv hA)⟩
theorem hpb_count {N : Int} {A : hs_A} (hA : hJ 0 N (N + 72) A A) (hN : N ≤ 800000) (hI : hIB A) (a1 : Int32) : hxC 26 130 hm_m130 [.ref 1, .int a1] A (fun r A1 => ∃ z : Int32, r = some (.int z) ∧ hxC 26 241 hm_m241 [.ref 368, .int a1] A1 (fun r2 A2 => ∃ z2 : Int32, r2 = some (.int z2) ∧ ∃ N' : Int, N' ≤ N + 144 ∧ hJ 0 N' (N' + 72) A2 A2 ∧ hIB A2)) := by
  have bl := hbok.get (hA.1.1 0 1) rfl
  refine hxC.post (uf_k130 hI.1.1.2.1 a1 (hX130 (d := 23) hA a1)) ?_
  rintro _ _ ⟨⟨rfl, z1, rfl⟩, wA1, HA1⟩
  refine ⟨z1, rfl, ?_⟩
  refine hxC.post (uf_k241 HA1 a1 (hX241 (d := 23) hA (by omega) a1)) ?_
  rintro _ A2 ⟨⟨hA2, z2, rfl⟩, wA2, HA2⟩
  exact ⟨z2, rfl, N + 72, by omega, hJ.mono (hJ.self hA2) (by omega) (by omega), hI.q ((wA1.le (by decide +kernel : ug_wle uw130 uwB = true)).trans (wA2.le (by decide +kernel : ug_wle uw241 uwB = true))) HA2 bl.2 (uf_lv hA)⟩
/-! WHAT A THING DONE LEAVES: the row that is, the rows that were -/
def hDone (A A' : hs_A) (g : Nat → Int32) : Prop := (∀ k : Nat, k < 73 → A'.2.1 395 k = g k) ∧ ∃ u s : Nat, u ≤ 39 ∧ (A'.1 367 51).toInt = (u : Int) + 1 ∧ ((A.1 367 51).toInt = (u : Int) ∧ s = 0 ∨ (A.1 367 51).toInt = 40 ∧ u = 39 ∧ s = 1) ∧ (∀ k : Nat, k < 73 → A'.2.1 399 (73 * u + k) = A.2.1 395 k) ∧ (∀ i : Nat, i < u → ∀ k : Nat, k < 73 → A'.2.1 399 (73 * i + k) = A.2.1 399 (73 * (i + s) + k))
theorem hDone.pre {A A2 A' : hs_A} {g : Nat → Int32} (h : hDone A2 A' g) (e5 : ∀ k : Nat, k < 73 → A2.2.1 395 k = A.2.1 395 k) (e9 : ∀ j : Nat, j < 2920 → A2.2.1 399 j = A.2.1 399 j) (e1 : A2.1 367 51 = A.1 367 51) : hDone A A' g := by
  obtain ⟨h1, u, s, h2, h3, h4, h5, h6⟩ := h
  rw [e1] at h4
  exact ⟨h1, u, s, h2, h3, h4, fun k hk => (h5 k hk).trans (e5 k hk), fun i hi k hk => (h6 i hi k hk).trans (e9 _ (by omega))⟩
theorem hDone.cg {A A' : hs_A} {g g' : Nat → Int32} (h : hDone A A' g) (e : ∀ k : Nat, k < 73 → g' k = g k) : hDone A A' g' := ⟨fun k hk => (h.1 k hk).trans (e k hk).symm, h.2⟩
theorem uf_i190 {d : Nat} {A : hs_A} {P : Option Value → hs_A → Prop} (hH : uf_H A) (w : hxC d 190 hm_m190 [.ref 368] A P) : hxC d 190 hm_m190 [.ref 368] A (fun r A' => P r A' ∧ uf_W ug_x201.2.2.2.1 A A' ∧ uf_H A') := uf_X (X := ug_x201) (j := 201) rfl rfl (ug_L.cons uf_r1 uf_nil) hH w
theorem uf_i171 {d : Nat} {A : hs_A} {P : Option Value → hs_A → Prop} (hH : uf_H A) (w : hxC d 171 hm_m171 [.ref 368] A P) : hxC d 171 hm_m171 [.ref 368] A (fun r A' => P r A' ∧ uf_W ug_x113.2.2.2.1 A A' ∧ uf_H A') := uf_X (X := ug_x113) (j := 113) rfl rfl (ug_L.cons uf_r1 uf_nil) hH w
theorem uf_i170 {d : Nat} {A : hs_A} {P : Option Value → hs_A → Prop} (hH : uf_H A) (w : hxC d 170 hm_m170 [.ref 368] A P) : hxC d 170 hm_m170 [.ref 368] A (fun r A' => P r A' ∧ uf_W ug_x95.2.2.2.1 A A' ∧ uf_H A') := uf_X (X := ug_x95) (j := 95) rfl rfl (ug_L.cons uf_r1 uf_nil) hH w
theorem hY171g {d : Nat} {Bn Br : Int} {A0 A : hs_A} (hA : hJ 0 Bn Br A0 A)    {P : Option Value → hs_A → Prop} (hP : ∀ (r : Option Value) (A' : hs_A), (hJ 0 Bn Bn A0 A' ∧ r = none ∧ (∀ k : Nat, k < 73 → A'.2.1 396 k = A.2.1 395 k)) → P r A') : hxa (d + 0) none hm_t171 0 [.ref 368, .retAddr 0] [] A P := by
  have k0 := hk_0
  have hB0 := hA.pos
  have H1 : hJ 0 Bn (Br + Bn) A0 A := hJ.mono hA (by omega) (by omega)
  have L2 : ∀ (m2 : Nat) (x2_1 : Int32) (Ac2 : hs_A) (hAc2 : hJ 0 Bn (Br + Bn) A0 Ac2) (bx2_1 : 0 ≤ x2_1.toInt) (cx2_1 : x2_1.toInt ≤ 73) (u2_0 : x2_1.toInt ≤ 70 ∨ (Ac2.2.1 396 70).toInt ≤ Bn) (hm2 : 73 - x2_1.toInt < (m2 : Int)) (iv2 : (∀ k : Nat, (k : Int) < x2_1.toInt → Ac2.2.1 396 k = A.2.1 395 k) ∧ (∀ k : Nat, Ac2.2.1 395 k = A.2.1 395 k)), hxa (d + 0) none hm_t171 2 [.ref 368, .int x2_1] [] Ac2 P := by
    intro m2
    induction m2 with
    | zero => intro x2_1 Ac2 hAc2 bx2_1 cx2_1 u2_0 hm2 iv2;  exact False.elim (by omega)
    | succ m2 ih2 =>
      intro x2_1 Ac2 hAc2 bx2_1 cx2_1 u2_0 hm2 iv2
      refine hxa_iload_n (by rfl) rfl ?_
      refine hxa_bipush (by rfl) rfl ?_
      refine hxj_cge (by rfl) rfl hk_73 (fun q2 => ?_) (fun q2 => ?_)
      ·
        have H3 : hJ 0 Bn Bn A0 Ac2 := hJ.low hAc2 (by omega)
        refine hxa_aload_n (by rfl) rfl ?_
        refine hxa_aload_n (by rfl) rfl ?_
        refine hxa_get (v := .ref 383) (by rfl) (by rfl) (by rfl) rfl ?_
        refine hxa_aload_n (by rfl) rfl ?_
        refine hxj_getB (by rfl) (by rfl) (by rfl) H3 (by rfl) (fun z4 ez4 fz4 gz4 => ?_)
        refine hxj_iald (by rfl) (by rfl) rfl (by omega) (by omega) (fun z5 ez5 => ?_)
        refine hxj_putI (by rfl) (by rfl) (by rfl) (by rfl) H3 (hbokN (by rfl)) (by rfl) (by rfl) (fun A6 hA6 eA6 fA6 => ?_)
        refine hxa_aload_n (by rfl) rfl ?_
        refine hxa_iconst (by rfl) rfl ?_
        refine hxj_putI (by rfl) (by rfl) (by rfl) (by rfl) hA6 (hbokN (by rfl)) (by rfl) (by rfl) (fun A7 hA7 eA7 fA7 => ?_)
        exact hxa_return (by rfl) rfl (hP _ _ ⟨hA7, rfl, fun k hk => by rw [fA7, fA6]; exact iv2.1 k (by omega)⟩)
      ·
        refine hxa_aload_n (by rfl) rfl ?_
        refine hxa_get (v := .ref 397) (by rfl) (by rfl) (by rfl) rfl ?_
        refine hxa_iload_n (by rfl) rfl ?_
        refine hxa_aload_n (by rfl) rfl ?_
        refine hxa_get (v := .ref 396) (by rfl) (by rfl) (by rfl) rfl ?_
        refine hxa_iload_n (by rfl) rfl ?_
        refine hxj_iald395 (by rfl) rfl (by omega) (by omega) hAc2 (fun z8 ez8 fz8 => ?_)
        refine hxj_iast396 (by rfl) rfl (by omega) (by omega) rfl hAc2 (by omega) (fun A9 hA9 eA9 fA9 gA9 => ?_)
        refine hxj_iinc (by rfl) rfl rfl hk_1 (by omega) (by omega) (fun _ => rfl) (fun z10 ez10 => ?_)
        refine hxa_goto (by rfl) ?_
        exact ih2 z10 A9 hA9 (by omega) (by omega) (by first | (left; omega) | exact hcp (by assumption) (by omega) (by assumption) (by assumption) u2_0) (by omega) (⟨fun k hk => by rw [fA9]; by_cases q : k = x2_1.toNatClampNeg; (rw [q, hup1, ← ez8]; exact iv2.2 _); (rw [hup2 (fun w => q w.2)]; exact iv2.1 k (by have := hn_cn (j := x2_1) (by omega); omega)), fun k => by rw [fA9, hup2 (by omega)]; exact iv2.2 k⟩)
  refine hxa_iconst (by rfl) rfl ?_
  refine hxa_s1 (by rfl) (Or.inl ⟨_, rfl, rfl⟩) rfl ?_
  exact L2 (Int.toNat (73 - 0) + 1) (Int32.ofNat 0) A H1 (by omega) (by omega) (by first | (left; omega) | exact hcp (by assumption) (by omega) (by assumption) (by assumption) u2_0) (by omega) (⟨fun k hk => absurd hk (by omega), fun _ => rfl⟩)
theorem hX171g {d : Nat} {Bn Br : Int} {A0 A : hs_A} (hA : hJ 0 Bn Br A0 A)    : hxC (d + 1) 171 hm_m171 [.ref 368] A (fun r A' => hJ 0 Bn Bn A0 A' ∧ r = none ∧ (∀ k : Nat, k < 73 → A'.2.1 396 k = A.2.1 395 k)) := hxC.of (by rfl) (hY171g hA   (fun r A' h => h))
theorem hY170g {d : Nat} {Bn Br : Int} {A0 A : hs_A} (hA : hJ 0 Bn Br A0 A) (hBr : Br ≤ Bn + 72)   {P : Option Value → hs_A → Prop} (hP : ∀ (r : Option Value) (A' : hs_A), (hJ 0 (Bn + 72) Br A0 A' ∧ r = none ∧ (∀ k : Nat, k < 73 → A'.2.1 395 k = A.2.1 396 k)) → P r A') : hxa (d + 0) none hm_t170 0 [.ref 368, .retAddr 0] [] A P := by
  have k0 := hk_0
  have L2 : ∀ (m2 : Nat) (x2_1 : Int32) (Ac2 : hs_A) (hAc2 : hJ 0 (Bn + 72) Br A0 Ac2) (bx2_1 : 0 ≤ x2_1.toInt) (cx2_1 : x2_1.toInt ≤ 73) (hm2 : 73 - x2_1.toInt < (m2 : Int)) (iv2 : (∀ k : Nat, (k : Int) < x2_1.toInt → Ac2.2.1 395 k = A.2.1 396 k) ∧ (∀ k : Nat, Ac2.2.1 396 k = A.2.1 396 k)), hxa (d + 0) none hm_t170 2 [.ref 368, .int x2_1] [] Ac2 P := by
    intro m2
    induction m2 with
    | zero => intro x2_1 Ac2 hAc2 bx2_1 cx2_1 hm2 iv2;  exact False.elim (by omega)
    | succ m2 ih2 =>
      intro x2_1 Ac2 hAc2 bx2_1 cx2_1 hm2 iv2
      refine hxa_iload_n (by rfl) rfl ?_
      refine hxa_bipush (by rfl) rfl ?_
      refine hxj_cge (by rfl) rfl hk_73 (fun q1 => ?_) (fun q1 => ?_)
      ·
        exact hxa_return (by rfl) rfl (hP _ _ ⟨hAc2, rfl, fun k hk => iv2.1 k (by omega)⟩)
      ·
        refine hxa_aload_n (by rfl) rfl ?_
        refine hxa_get (v := .ref 396) (by rfl) (by rfl) (by rfl) rfl ?_
        refine hxa_iload_n (by rfl) rfl ?_
        refine hxa_aload_n (by rfl) rfl ?_
        refine hxa_get (v := .ref 397) (by rfl) (by rfl) (by rfl) rfl ?_
        refine hxa_iload_n (by rfl) rfl ?_
        refine hxj_iald396 (by rfl) rfl (by omega) (by omega) hAc2 (fun z2 ez2 fz2 => ?_)
        refine hxj_iast395 (by rfl) rfl (by omega) (by omega) rfl hAc2 (by omega) (fun A3 hA3 eA3 fA3 gA3 => ?_)
        refine hxj_iinc (by rfl) rfl rfl hk_1 (by omega) (by omega) (fun _ => rfl) (fun z4 ez4 => ?_)
        refine hxa_goto (by rfl) ?_
        exact ih2 z4 A3 hA3 (by omega) (by omega) (by omega) (⟨fun k hk => by rw [fA3]; by_cases q : k = x2_1.toNatClampNeg; (rw [q, hup1, ← ez2]; exact iv2.2 _); (rw [hup2 (fun w => q w.2)]; exact iv2.1 k (by have := hn_cn (j := x2_1) (by omega); omega)), fun k => by rw [fA3, hup2 (by omega)]; exact iv2.2 k⟩)
  have H5 : hJ 0 (Bn + 72) Br A0 A := hJ.mono hA (by omega) (by omega)
  refine hxa_iconst (by rfl) rfl ?_
  refine hxa_s1 (by rfl) (Or.inl ⟨_, rfl, rfl⟩) rfl ?_
  exact L2 (Int.toNat (73 - 0) + 1) (Int32.ofNat 0) A H5 (by omega) (by omega) (by omega) (⟨fun k hk => absurd hk (by omega), fun _ => rfl⟩)
theorem hX170g {d : Nat} {Bn Br : Int} {A0 A : hs_A} (hA : hJ 0 Bn Br A0 A) (hBr : Br ≤ Bn + 72)   : hxC (d + 1) 170 hm_m170 [.ref 368] A (fun r A' => hJ 0 (Bn + 72) Br A0 A' ∧ r = none ∧ (∀ k : Nat, k < 73 → A'.2.1 395 k = A.2.1 396 k)) := hxC.of (by rfl) (hY170g hA hBr  (fun r A' h => h))
theorem hrec_s {A Ac A8 : hs_A} {w x z6 z7 z9 : Int32} (iv : ∃ u s : Nat, w.toInt = (u : Int) ∧ ((A.1 367 51).toInt = (u : Int) ∧ s = 0 ∨ (A.1 367 51).toInt = 40 ∧ u = 39 ∧ s = 1) ∧ (∀ k : Nat, (k : Int) < x.toInt → Ac.2.1 399 (73 * u + k) = A.2.1 395 k) ∧ (∀ i : Nat, i < u → ∀ k : Nat, k < 73 → Ac.2.1 399 (73 * i + k) = A.2.1 399 (73 * (i + s) + k)) ∧ (∀ k : Nat, Ac.2.1 395 k = A.2.1 395 k) ∧ (∀ k : Nat, Ac.2.1 396 k = A.2.1 396 k)) (f : A8.2.1 = hs_up Ac.2.1 399 z6.toNatClampNeg z7) (e : Ac.2.1 395 x.toNatClampNeg = z7) (h6 : z6.toInt = 73 * w.toInt + x.toInt) (hx : 0 ≤ x.toInt) (h9 : z9.toInt = x.toInt + 1) : ∃ u s : Nat, w.toInt = (u : Int) ∧ ((A.1 367 51).toInt = (u : Int) ∧ s = 0 ∨ (A.1 367 51).toInt = 40 ∧ u = 39 ∧ s = 1) ∧ (∀ k : Nat, (k : Int) < z9.toInt → A8.2.1 399 (73 * u + k) = A.2.1 395 k) ∧ (∀ i : Nat, i < u → ∀ k : Nat, k < 73 → A8.2.1 399 (73 * i + k) = A.2.1 399 (73 * (i + s) + k)) ∧ (∀ k : Nat, A8.2.1 395 k = A.2.1 395 k) ∧ (∀ k : Nat, A8.2.1 396 k = A.2.1 396 k) := by
  obtain ⟨u, s, i1, i2, i3, i4, i5, i6⟩ := iv
  have c6 := hn_cn (j := z6) (by omega)
  have cx := hn_cn (j := x) hx
  refine ⟨u, s, i1, i2, fun k hk => ?_, fun i hi k hk => ?_, fun k => ?_, fun k => ?_⟩
  · rw [f]
    by_cases q : 73 * u + k = z6.toNatClampNeg
    · rw [q, hup1, ← e, i5, show x.toNatClampNeg = k by omega]
    · rw [hup2 (fun w => q w.2)]
      exact i3 k (by omega)
  · rw [f, hup2 (by omega)]
    exact i4 i hi k hk
  · rw [f, hup2 (by omega)]
    exact i5 k
  · rw [f, hup2 (by omega)]
    exact i6 k
theorem hrec_t {A Ac A15 : hs_A} {x z13 z14 z16 : Int32} (iv : (∀ j : Nat, (j : Int) < x.toInt → Ac.2.1 399 j = A.2.1 399 (j + 73)) ∧ (∀ j : Nat, x.toInt ≤ (j : Int) → Ac.2.1 399 j = A.2.1 399 j) ∧ (∀ k : Nat, Ac.2.1 395 k = A.2.1 395 k) ∧ (∀ k : Nat, Ac.2.1 396 k = A.2.1 396 k)) (f : A15.2.1 = hs_up Ac.2.1 399 x.toNatClampNeg z14) (e : Ac.2.1 399 z13.toNatClampNeg = z14) (h13 : z13.toInt = x.toInt + 73) (hx : 0 ≤ x.toInt) (h16 : z16.toInt = x.toInt + 1) : (∀ j : Nat, (j : Int) < z16.toInt → A15.2.1 399 j = A.2.1 399 (j + 73)) ∧ (∀ j : Nat, z16.toInt ≤ (j : Int) → A15.2.1 399 j = A.2.1 399 j) ∧ (∀ k : Nat, A15.2.1 395 k = A.2.1 395 k) ∧ (∀ k : Nat, A15.2.1 396 k = A.2.1 396 k) := by
  obtain ⟨i1, i2, i3, i4⟩ := iv
  have c13 := hn_cn (j := z13) (by omega)
  have cx := hn_cn (j := x) hx
  refine ⟨fun j hj => ?_, fun j hj => ?_, fun k => ?_, fun k => ?_⟩
  · rw [f]
    by_cases q : j = x.toNatClampNeg
    · rw [q, hup1, ← e, i2 _ (by omega), show z13.toNatClampNeg = x.toNatClampNeg + 73 by omega]
    · rw [hup2 (fun w => q w.2)]
      exact i1 j (by omega)
  · rw [f, hup2 (fun w => by omega)]
    exact i2 j (by omega)
  · rw [f, hup2 (by omega)]
    exact i3 k
  · rw [f, hup2 (by omega)]
    exact i4 k
theorem hrec_e {A Ac A3 A4 : hs_A} {w x z2 : Int32} (iv : ∃ u s : Nat, w.toInt = (u : Int) ∧ ((A.1 367 51).toInt = (u : Int) ∧ s = 0 ∨ (A.1 367 51).toInt = 40 ∧ u = 39 ∧ s = 1) ∧ (∀ k : Nat, (k : Int) < x.toInt → Ac.2.1 399 (73 * u + k) = A.2.1 395 k) ∧ (∀ i : Nat, i < u → ∀ k : Nat, k < 73 → Ac.2.1 399 (73 * i + k) = A.2.1 399 (73 * (i + s) + k)) ∧ (∀ k : Nat, Ac.2.1 395 k = A.2.1 395 k) ∧ (∀ k : Nat, Ac.2.1 396 k = A.2.1 396 k)) (hx : 73 ≤ x.toInt) (hw : w.toInt ≤ 39) (h2 : z2.toInt = w.toInt + 1) (e3 : A3.1 = hs_up Ac.1 367 51 z2) (f3 : A3.2 = Ac.2) (w4 : uf_W ug_x95.2.2.2.1 A3 A4) (g4 : ∀ k : Nat, k < 73 → A4.2.1 395 k = A3.2.1 396 k) : hDone A A4 (fun k => A.2.1 396 k) := by
  obtain ⟨u, s, i1, i2, i3, i4, i5, i6⟩ := iv
  refine ⟨fun k hk => ?_, u, s, by omega, ?_, i2, fun k hk => ?_, fun i hi k hk => ?_⟩
  · rw [g4 k hk, f3]
    exact i6 k
  · rw [w4.1 367 _ _ 51 rfl rfl (by decide +kernel), e3, hup1]
    omega
  · rw [w4.2.1 399 _ _ _ rfl (by omega) (by decide +kernel), f3]
    exact i3 k (by omega)
  · rw [w4.2.1 399 _ _ _ rfl (by omega) (by decide +kernel), f3]
    exact i4 i hi k hk
theorem hY190g {d : Nat} {Bn Br : Int} {A0 A : hs_A} (hA : hJ 0 Bn Br A0 A) (hBr : Br ≤ Bn + 72)  (uH : uf_H A) {P : Option Value → hs_A → Prop} (hP : ∀ (r : Option Value) (A' : hs_A), (hJ 0 (Bn + 72) Br A0 A' ∧ r = none ∧ hDone A A' (fun k => A.2.1 396 k)) → P r A') : hxa (d + 1) none hm_t190 0 [.ref 368, .retAddr 0] [] A P := by
  have k0 := hk_0
  have L51 : ∀ (m51 : Nat) (w51_0 : Int32) (x51_1 : Int32) (Ac51 : hs_A) (hAc51 : hJ 0 Bn Br A0 Ac51) (ek51_0 : Ac51.1 367 51 = w51_0) (bx51_1 : 0 ≤ x51_1.toInt) (cx51_1 : x51_1.toInt ≤ 73) (bw51_0 : 0 ≤ w51_0.toInt) (cw51_0 : w51_0.toInt ≤ 39) (hm51 : 73 - x51_1.toInt < (m51 : Int)) (iv51 : (∃ u s : Nat, w51_0.toInt = (u : Int) ∧ ((A.1 367 51).toInt = (u : Int) ∧ s = 0 ∨ (A.1 367 51).toInt = 40 ∧ u = 39 ∧ s = 1) ∧ (∀ k : Nat, (k : Int) < x51_1.toInt → Ac51.2.1 399 (73 * u + k) = A.2.1 395 k) ∧ (∀ i : Nat, i < u → ∀ k : Nat, k < 73 → Ac51.2.1 399 (73 * i + k) = A.2.1 399 (73 * (i + s) + k)) ∧ (∀ k : Nat, Ac51.2.1 395 k = A.2.1 395 k) ∧ (∀ k : Nat, Ac51.2.1 396 k = A.2.1 396 k)) ∧ uf_H Ac51), hxa (d + 1) none hm_t190 51 [.ref 368, .int x51_1] [] Ac51 P := by
    intro m51
    induction m51 with
    | zero => intro w51_0 x51_1 Ac51 hAc51 ek51_0 bx51_1 cx51_1 bw51_0 cw51_0 hm51 iv51;  exact False.elim (by omega)
    | succ m51 ih51 =>
      intro w51_0 x51_1 Ac51 hAc51 ek51_0 bx51_1 cx51_1 bw51_0 cw51_0 hm51 iv51
      refine hxa_iload_n (by rfl) rfl ?_
      refine hxa_bipush (by rfl) rfl ?_
      refine hxj_cge (by rfl) rfl hk_73 (fun q1 => ?_) (fun q1 => ?_)
      ·
        refine hxa_aload_n (by rfl) rfl ?_
        refine hxa_dupR (by rfl) ?_
        refine hxj_getK (by rfl) (by rfl) (by rfl) ek51_0 ?_
        refine hxa_iconst (by rfl) rfl ?_
        refine hxj_iadd (by rfl) rfl hk_1 (by omega) (by omega) (fun z2 ez2 => ?_)
        refine hxj_putI (by rfl) (by rfl) (by rfl) (by rfl) hAc51 (hbok (by rfl) rfl (by omega) (by omega)) (by rfl) (by rfl) (fun A3 hA3 eA3 fA3 => ?_)
        refine hxa_aload_n (by rfl) rfl ?_
        refine hxa_call0 (by rfl) (by rfl) (by rfl) (by rfl) (by rfl) (by rfl) (uf_i170 (iv51.2.e (congrArg (fun q => q.2.2) fA3)) (hX170g (d := d + 0) hA3 (by omega))) ?_
        rintro _ A4 ⟨⟨hA4, rfl, g4⟩, w4, -⟩
        exact hxa_return (by rfl) rfl (hP _ _ ⟨hA4, rfl, hrec_e iv51.1 (by omega) (by omega) (by omega) eA3 fA3 w4 g4⟩)
      ·
        refine hxa_aload_n (by rfl) rfl ?_
        refine hxa_get (v := .ref 400) (by rfl) (by rfl) (by rfl) rfl ?_
        refine hxa_bipush (by rfl) rfl ?_
        refine hxa_aload_n (by rfl) rfl ?_
        refine hxj_getK (by rfl) (by rfl) (by rfl) ek51_0 ?_
        refine hxj_imul (by rfl) hk_73 rfl (by omega) (by omega) (fun z5 ez5 => ?_)
        refine hxa_iload_n (by rfl) rfl ?_
        refine hxj_iadd (by rfl) rfl rfl (by omega) (by omega) (fun z6 ez6 => ?_)
        refine hxa_aload_n (by rfl) rfl ?_
        refine hxa_get (v := .ref 396) (by rfl) (by rfl) (by rfl) rfl ?_
        refine hxa_iload_n (by rfl) rfl ?_
        refine hxj_iald395 (by rfl) rfl (by omega) (by omega) hAc51 (fun z7 ez7 fz7 => ?_)
        refine hxj_iast399 (by rfl) rfl (by omega) (by omega) rfl hAc51 (by omega) (fun A8 hA8 eA8 fA8 gA8 => ?_)
        refine hxj_iinc (by rfl) rfl rfl hk_1 (by omega) (by omega) (fun _ => rfl) (fun z9 ez9 => ?_)
        refine hxa_goto (by rfl) ?_
        exact ih51 w51_0 z9 A8 hA8 (hkA eA8 ek51_0) (by omega) (by omega) (by omega) (by omega) (by omega) (⟨hrec_s iv51.1 fA8 ez7 (by omega) (by omega) (by omega), iv51.2.e (congrArg (fun q => q.2) gA8)⟩)
  have L11 : ∀ (m11 : Nat) (w11_0 : Int32) (x11_1 : Int32) (Ac11 : hs_A) (hAc11 : hJ 0 Bn Br A0 Ac11) (ek11_0 : Ac11.1 367 51 = w11_0) (bx11_1 : 0 ≤ x11_1.toInt) (cx11_1 : x11_1.toInt ≤ 2847) (bw11_0 : 40 ≤ w11_0.toInt) (cw11_0 : w11_0.toInt ≤ 40) (hm11 : 2847 - x11_1.toInt < (m11 : Int)) (iv11 : ((∀ j : Nat, (j : Int) < x11_1.toInt → Ac11.2.1 399 j = A.2.1 399 (j + 73)) ∧ (∀ j : Nat, x11_1.toInt ≤ (j : Int) → Ac11.2.1 399 j = A.2.1 399 j) ∧ (∀ k : Nat, Ac11.2.1 395 k = A.2.1 395 k) ∧ (∀ k : Nat, Ac11.2.1 396 k = A.2.1 396 k)) ∧ uf_H Ac11 ∧ (A.1 367 51).toInt = 40), hxa (d + 1) none hm_t190 11 [.ref 368, .int x11_1] [] Ac11 P := by
    intro m11
    induction m11 with
    | zero => intro w11_0 x11_1 Ac11 hAc11 ek11_0 bx11_1 cx11_1 bw11_0 cw11_0 hm11 iv11;  exact False.elim (by omega)
    | succ m11 ih11 =>
      intro w11_0 x11_1 Ac11 hAc11 ek11_0 bx11_1 cx11_1 bw11_0 cw11_0 hm11 iv11
      refine hxa_iload_n (by rfl) rfl ?_
      refine hxa_sipush (by rfl) rfl ?_
      refine hxj_cge (by rfl) rfl hk_2847 (fun q10 => ?_) (fun q10 => ?_)
      ·
        refine hxa_aload_n (by rfl) rfl ?_
        refine hxa_dupR (by rfl) ?_
        refine hxj_getK (by rfl) (by rfl) (by rfl) ek11_0 ?_
        refine hxa_iconst (by rfl) rfl ?_
        refine hxj_isub (by rfl) rfl hk_1 (by omega) (by omega) (fun z11 ez11 => ?_)
        refine hxj_putI (by rfl) (by rfl) (by rfl) (by rfl) hAc11 (hbok (by rfl) rfl (by omega) (by omega)) (by rfl) (by rfl) (fun A12 hA12 eA12 fA12 => ?_)
        refine hxa_iconst (by rfl) rfl ?_
        refine hxa_s1 (by rfl) (Or.inl ⟨_, rfl, rfl⟩) rfl ?_
        exact L51 (Int.toNat (73 - 0) + 1) z11 (Int32.ofNat 0) A12 hA12 (hkS eA12) (by omega) (by omega) (by omega) (by omega) (by omega) (⟨⟨40 - 1, 1, by omega, Or.inr ⟨iv11.2.2, rfl, rfl⟩, fun k hk => absurd hk (by omega), fun i hi k hk => by rw [fA12, iv11.1.1 (73 * i + k) (by omega), show 73 * i + k + 73 = 73 * (i + 1) + k by omega], fun k => by rw [fA12]; exact iv11.1.2.2.1 k, fun k => by rw [fA12]; exact iv11.1.2.2.2 k⟩, iv11.2.1.e (congrArg (fun q => q.2.2) fA12)⟩)
      ·
        refine hxa_aload_n (by rfl) rfl ?_
        refine hxa_get (v := .ref 400) (by rfl) (by rfl) (by rfl) rfl ?_
        refine hxa_iload_n (by rfl) rfl ?_
        refine hxa_aload_n (by rfl) rfl ?_
        refine hxa_get (v := .ref 400) (by rfl) (by rfl) (by rfl) rfl ?_
        refine hxa_iload_n (by rfl) rfl ?_
        refine hxa_bipush (by rfl) rfl ?_
        refine hxj_iadd (by rfl) rfl hk_73 (by omega) (by omega) (fun z13 ez13 => ?_)
        refine hxj_iald399 (by rfl) rfl (by omega) (by omega) hAc11 (fun z14 ez14 fz14 => ?_)
        refine hxj_iast399 (by rfl) rfl (by omega) (by omega) rfl hAc11 (by omega) (fun A15 hA15 eA15 fA15 gA15 => ?_)
        refine hxj_iinc (by rfl) rfl rfl hk_1 (by omega) (by omega) (fun _ => rfl) (fun z16 ez16 => ?_)
        refine hxa_goto (by rfl) ?_
        exact ih11 w11_0 z16 A15 hA15 (hkA eA15 ek11_0) (by omega) (by omega) (by omega) (by omega) (by omega) (⟨hrec_t iv11.1 fA15 ez14 (by omega) (by omega) (by omega), iv11.2.1.e (congrArg (fun q => q.2) gA15), iv11.2.2⟩)
  refine hxa_aload_n (by rfl) rfl ?_
  refine hxj_getB (by rfl) (by rfl) (by rfl) hA (by rfl) (fun z17 ez17 fz17 gz17 => ?_)
  refine hxa_bipush (by rfl) rfl ?_
  refine hxj_cne (by rfl) rfl hk_40 (fun q18 => ?_) (fun q18 => ?_)
  ·
    refine hxa_iconst (by rfl) rfl ?_
    refine hxa_s1 (by rfl) (Or.inl ⟨_, rfl, rfl⟩) rfl ?_
    exact L51 (Int.toNat (73 - 0) + 1) z17 (Int32.ofNat 0) A hA ez17 (by omega) (by omega) (by omega) (by omega) (by omega) (⟨⟨z17.toNatClampNeg, 0, by have := hn_cn (j := z17) (by omega); omega, Or.inl ⟨by rw [ez17]; have := hn_cn (j := z17) (by omega); omega, rfl⟩, fun k hk => absurd hk (by omega), fun i hi k hk => rfl, fun k => rfl, fun k => rfl⟩, uH⟩)
  ·
    refine hxa_iconst (by rfl) rfl ?_
    refine hxa_s1 (by rfl) (Or.inl ⟨_, rfl, rfl⟩) rfl ?_
    exact L11 (Int.toNat (2847 - 0) + 1) z17 (Int32.ofNat 0) A hA ez17 (by omega) (by omega) (by omega) (by omega) (by omega) (⟨⟨fun j hj => absurd hj (by omega), fun j hj => rfl, fun k => rfl, fun k => rfl⟩, uH, by rw [ez17]; omega⟩)
theorem hX190g {d : Nat} {Bn Br : Int} {A0 A : hs_A} (hA : hJ 0 Bn Br A0 A) (hBr : Br ≤ Bn + 72)  (uH : uf_H A) : hxC (d + 2) 190 hm_m190 [.ref 368] A (fun r A' => hJ 0 (Bn + 72) Br A0 A' ∧ r = none ∧ hDone A A' (fun k => A.2.1 396 k)) := hxC.of (by rfl) (hY190g hA hBr uH (fun r A' h => h))
