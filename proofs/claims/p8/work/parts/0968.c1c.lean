def uMf : Nat := 66111502585030189513783521905963070631922882968193552051292966639057732548145130242048
theorem hW150q {g d f : Nat} {A : hs_A} {B : Nat → Int} {n sd : Nat} (hA : ∀ i, i < n → (A.2.1 368 i).toInt = B i) (hBr : ∀ i, i < n → -128 ≤ B i ∧ B i ≤ 127) (hn : n ≤ 2000) (h2 : (A.1 367 2).toInt = (n : Int)) (hlv : (A.1 367 18).toInt = 1 - (sd : Int)) (hsd : sd ≤ 1) (hU : hcU A) (hH0 : uf_H A) {P : Option Value → hs_A → Prop} (hP : ∀ (r : Option Value) (A' : hs_A), (∃ z : Int32, r = some (.int z) ∧ hq_res (ht_K B n) (ht_W B n) (fun u => (ht_S B n u : Int)) (ht_E B n) z.toInt (A'.1 367 17).toInt ∧ hcU A' ∧ (z.toInt = 0 → hq_hs (ht_K B n) (ht_W B n) (ht_E B n) (A'.2.1 376 sd).toInt (A'.2.1 379 sd).toInt ∧ (A'.1 367 18).toInt = (sd : Int) ∧ hm_R (ht_K B n) (ht_W B n) (ht_E B n) sd A' ∧ hmBg sd A' ∧ (∀ j, j < 73 → A'.2.1 395 j = A'.2.1 396 j) ∧ (A'.1 367 51).toInt = 0 ∧ (A'.1 367 59).toInt = 0 ∧ ∀ s : Nat, (s : Int) < 3 → (A'.2.1 408 s).toInt = 0) ∧ (¬ z.toInt = 0 → uf_W uMf A A' ∧ hOT (1 - sd) A A')) → P r A') : hpa (f, g) d (some (.int)) hm_t150 0 [.ref 368, .retAddr 0] [] A P := by
  have k0 := hk_0
  have k1 := hk_1
  have k130 := hk_130
  have k3 := hk_3
  have k420 := hk_420
  have k4294967295 := hk_4294967295
  have U0 : uf_W uMf A A := uf_W.rfl
  have O0 : hOT (1 - sd) A A := hOT_r
  have L219 : ∀ (f : Nat) (x219_1 : Int32) (A219 : hs_A) (rs219 : hq_res (ht_K B n) (ht_W B n) (fun u => (ht_S B n u : Int)) (ht_E B n) 0 (A219.1 367 17).toInt) (hu219 : hcU A219) (hs219 : hq_hs (ht_K B n) (ht_W B n) (ht_E B n) (A219.2.1 376 sd).toInt (A219.2.1 379 sd).toInt) (lv219 : (A219.1 367 18).toInt = (sd : Int)) (mr219 : hm_R (ht_K B n) (ht_W B n) (ht_E B n) sd A219) (bg219 : hmBg sd A219) (kp219 : ∀ j, j < 73 → A219.2.1 395 j = A219.2.1 396 j) (un219 : (A219.1 367 51).toInt = 0) (to219 : (A219.1 367 59).toInt = 0) (lo219 : 0 ≤ x219_1.toInt) (he219 : ∀ s : Nat, (s : Int) < x219_1.toInt → (A219.2.1 408 s).toInt = 0) (H219 : uf_H A219), hpa (f, g) d (some (.int)) hm_t150 219 [.ref 368, .int x219_1] [] A219 P := by
    intro f
    induction f with
    | zero => intros; exact hpa.zero
    | succ f ih219 =>
      intro x219_1 A219 rs219 hu219 hs219 lv219 mr219 bg219 kp219 un219 to219 lo219 he219 H219
      refine hpa_iload_nS (by rfl) rfl ?_
      refine hpa_iconst (by rfl) rfl ?_
      refine hpj_cge (by rfl) rfl hk_3 (fun q1 => ?_) (fun q1 => ?_)
      ·
        refine hpa_iconst (by rfl) rfl ?_
        exact hpa_ireturn (by rfl) rfl (hP _ _ ⟨_, rfl, by rw [hk_0]; exact rs219, hu219, fun _ => ⟨hs219, lv219, mr219, bg219, kp219, un219, to219, fun s q => he219 s (by omega)⟩, fun q => absurd hk_0 q⟩)
      ·
        refine hpa_aload_n (by rfl) rfl ?_
        refine hpa_get (v := .ref 409) (by rfl) (by rfl) (by rfl) rfl ?_
        refine hpa_iload_n (by rfl) rfl ?_
        refine hpa_iconst (by rfl) rfl ?_
        refine hpx_zast (by rfl) (by rfl) (by decide) (fun A2 h0A2 h1A2 eA2 fA2 gA2 => ?_)
        have HA2 := (H219).e (congrArg (fun q => q.2) gA2)
        have rsA2 : hq_res (ht_K B n) (ht_W B n) (fun u => (ht_S B n u : Int)) (ht_E B n) 0 (A2.1 367 17).toInt := by rw [eA2]; exact rs219
        have huA2 : hcU A2 := hu219.fr (by rw [gA2])
        have hsA2 : hq_hs (ht_K B n) (ht_W B n) (ht_E B n) (A2.2.1 376 sd).toInt (A2.2.1 379 sd).toInt := by rw [fA2, hup2 (by omega), hup2 (by omega)]; exact hs219
        have mrA2 : hm_R (ht_K B n) (ht_W B n) (ht_E B n) sd A2 := mr219.fr (fun i _ _ => by rw [fA2]; funext j; exact hup2 (by omega))
        have bgA2 : hmBg sd A2 := bg219.mv (fun i hi => by rw [fA2]; funext j; exact hup2 (by omega)) (by rw [eA2]) (by rw [eA2])
        have kpA2 : ∀ j, j < 73 → A2.2.1 395 j = A2.2.1 396 j := fun j hj => by rw [fA2, hup2 (by omega), hup2 (by omega)]; exact kp219 j hj
        have lvA2 : (A2.1 367 18).toInt = (sd : Int) := by rw [eA2]; exact lv219
        have unA2 : (A2.1 367 51).toInt = 0 := by rw [eA2]; exact un219
        have toA2 : (A2.1 367 59).toInt = 0 := by rw [eA2]; exact to219
        have hcx := hn_cn (j := x219_1) (by omega)
        have heA2 : ∀ s : Nat, (s : Int) < x219_1.toInt + 1 → (A2.2.1 408 s).toInt = 0 := fun s hs2 => by rw [fA2]; by_cases q : s = x219_1.toNatClampNeg; (rw [q, hup1]; exact hk_0); (rw [hup2 (fun w => q w.2)]; exact he219 s (by omega))
        refine hpj_iinc (by rfl) rfl rfl hk_1 (by omega) (by omega) (fun _ => rfl) (fun z3 ez3 => ?_)
        refine hpa_goto (by rfl) ?_
        exact ih219 z3 A2 rsA2 huA2 hsA2 lvA2 mrA2 bgA2 kpA2 unA2 toA2 (by omega) (fun s q => heA2 s (by omega)) HA2
  have L112 : ∀ (f : Nat) (x112_1 : Value) (A112 : hs_A) (D112 : (∃ (t a b c : Nat) (ns : List Nat) (nm sn : Nat) (o : Option (Nat × Nat)) (bb zz : Nat), hmB (ht_K B n) (ht_W B n) (fun u => (ht_S B n u : Int)) (ht_E B n) A112 t (0, a, b, c, ns, nm, sn, o) ∧ hmR (fun u => (ht_S B n u : Int)) A112 t ns sn o sd 0 ∧ hmM (ht_W B n) A112 sd ns (hg_q (ht_K B n) (ht_W B n) (ht_E B n) t).1 bb zz ∧ (A112.1 367 31).toInt = (bb : Int) ∧ (A112.1 367 37).toInt = (zz : Int)) ∨ hmF (ht_K B n) (ht_W B n) (fun u => (ht_S B n u : Int)) (ht_E B n) A112) (O112 : hOT (1 - sd) A A112) (U112 : uf_W uMf A A112) (H112 : uf_H A112), hpa (f, g) d (some (.int)) hm_t150 112 [.ref 368, x112_1] [] A112 P := by
    intro f
    induction f with
    | zero => intros; exact hpa.zero
    | succ f ih112 =>
      intro x112_1 A112 D112 O112 U112 H112
      rcases D112 with ⟨t, a, b, c, ns, nm, sn, o, bb, zz, B1, R1, M1, b1, z1⟩ | F1
      ·
        have f01 := B1.2.2.2
        have nx1 := B1.2.1
        have j0 := B1.i0 hk_0
        have hl1 := R1.2.2.2.2.2.2.2
        have hU1 := B1.1.2.2
        refine hpa_aload_nS (by rfl) rfl ?_
        refine hpj_getK (by rfl) (by rfl) (by rfl) rfl ?_
        refine hpj_zne (by rfl) rfl (fun q4 => False.elim (by omega)) (fun q4 => ?_)
        refine hpa_aload_n (by rfl) rfl ?_
        refine hpa_iconst (by rfl) rfl ?_
        refine hpa_call0 (by rfl) (by rfl) (by rfl) (by rfl) (by rfl) (by rfl) (uf_C (X := ug_x93) (j := 93) rfl rfl (ug_L.cons (uf_rk_ok (by decide +kernel)) (uf_int uf_nil)) H112 (hP144 (Int32.ofNat 0) B1)) ?_
        rintro _ _ ⟨⟨rfl, z6, rfl, (⟨fz_A5, e_A5⟩ | ⟨fz_A5, ne_A5⟩)⟩, -, -⟩
        ·
          refine hpj_zne (by rfl) rfl (fun q7 => ?_) (fun q7 => False.elim (by omega))
          refine hpa_aload_n (by rfl) rfl ?_
          refine hpa_aload_n (by rfl) rfl ?_
          refine hpj_getK (by rfl) (by rfl) (by rfl) rfl ?_
          refine hpj_zle (by rfl) rfl (fun q8 => ?_) (fun q8 => False.elim (by omega))
          refine hpa_aload_n (by rfl) rfl ?_
          refine hpj_getK (by rfl) (by rfl) (by rfl) rfl ?_
          refine hpj_zle (by rfl) rfl (fun q9 => ?_) (fun q9 => ?_)
          ·
            refine hpa_iconst (by rfl) rfl ?_
            refine hpj_putI (by rfl) (by rfl) (by rfl) (by rfl) (fun A10 eA10 fA10 => ?_)
            have UA10 := (U112).put eA10 fA10 (by decide +kernel)
            have HA10 := (H112).e (congrArg (fun q => q.2.2) fA10)
            have OA10 : hOT (1 - sd) A A10 := (O112).eq (by rw [fA10])
            refine hpa_aload_n (by rfl) rfl ?_
            refine hpj_getK (by rfl) (by rfl) (by rfl) (hkF eA10 (by omega) rfl) ?_
            refine hpj_zle (by rfl) rfl (fun q11 => ?_) (fun q11 => False.elim (by omega))
            refine hpa_aload_n (by rfl) rfl ?_
            refine hpj_getK (by rfl) (by rfl) (by rfl) (hkF eA10 (by omega) rfl) ?_
            refine hpj_zle (by rfl) rfl (fun q12 => ?_) (fun q12 => False.elim (by omega))
            refine hpa_aload_n (by rfl) rfl ?_
            refine hpa_aload_n (by rfl) rfl ?_
            refine hpj_getK (by rfl) (by rfl) (by rfl) (hkF eA10 (by omega) rfl) ?_
            refine hpj_putI (by rfl) (by rfl) (by rfl) (by rfl) (fun A13 eA13 fA13 => ?_)
            have HA13 := (HA10).e (congrArg (fun q => q.2.2) fA13)
            have OA13 : hOT (1 - sd) A A13 := (OA10).eq (by rw [fA13])
            have rsA13 : hq_res (ht_K B n) (ht_W B n) (fun u => (ht_S B n u : Int)) (ht_E B n) 0 (A13.1 367 17).toInt := by
              rw [show A13.1 367 17 = (Int32.ofNat 4294967295) from (hkF eA13 (by omega) (hkS eA10)), hk_4294967295]
              exact hq_res.fine B1.2.2.1 (hqd0_end (by omega)) hl1 (by omega)
            have huA13 : hcU A13 := hU1.fr (by rw [fA13, fA10])
            have hsA13 : hq_hs (ht_K B n) (ht_W B n) (ht_E B n) (A13.2.1 376 sd).toInt (A13.2.1 379 sd).toInt := ⟨_, _, B1.2.2.1, hqd0_end (by omega), by rw [fA13, fA10]; exact R1.2.2.2.1, by rw [fA13, fA10]; exact R1.2.2.2.2.1⟩
            have rsd := R1.1
            have l18 := congrArg Int32.toInt (show A13.1 367 18 = (A112.1 367 19) from (hkS eA13))
            have lvA13 : (A13.1 367 18).toInt = (sd : Int) := by omega
            have mrA13 : hm_R (ht_K B n) (ht_W B n) (ht_E B n) sd A13 := ⟨_, _, _, _, B1.2.2.1, hqd0_end (by omega), (M1.up (A' := A10) (by rw [fA10])).up (A' := A13) (by rw [fA13])⟩
            have hnA13 : (A13.2.1 376 sd).toInt = (ns.length : Int) := by rw [fA13, fA10]; exact R1.2.2.2.1
            have hn10 : ns.length ≤ 10 := (hq_q_inv B1.2.2.1).1.2.2.1
            refine hpa_aload_n (by rfl) rfl ?_
            refine hpa_call0 (by rfl) (by rfl) (by rfl) (by rfl) (by rfl) (by rfl) (uf_C (X := ug_x94) (j := 94) rfl rfl (ug_L.cons (uf_rk_ok (by decide +kernel)) uf_nil) HA13 (hP169 lvA13 hsd hnA13 hn10)) ?_
            rintro _ A14 ⟨⟨rfl, fe_A14, lg_A14, fa_A14, rw_A14, m1_A14, gs_A14, l0_A14⟩, wA14, HA14⟩
            have OA14 := (OA13).trans (hOT.W (by omega) wA14 (by decide +kernel))
            have rsA14 : hq_res (ht_K B n) (ht_W B n) (fun u => (ht_S B n u : Int)) (ht_E B n) 0 (A14.1 367 17).toInt := by rw [fe_A14 367 17 (by omega)]; exact rsA13
            have huA14 : hcU A14 := huA13.fr (by rw [lg_A14])
            have hsA14 : hq_hs (ht_K B n) (ht_W B n) (ht_E B n) (A14.2.1 376 sd).toInt (A14.2.1 379 sd).toInt := by rw [fa_A14 376 (by omega), fa_A14 379 (by omega)]; exact hsA13
            have lvA14 : (A14.1 367 18).toInt = (sd : Int) := by rw [fe_A14 367 18 (by omega)]; exact lvA13
            have mrA14 : hm_R (ht_K B n) (ht_W B n) (ht_E B n) sd A14 := mrA13.fr (fun i _ _ => fa_A14 i (by omega))
            have bgA14 : hmBg sd A14 := ⟨_, by rw [fa_A14 376 (by omega)]; exact hnA13, rw_A14.fr (fa_A14 377 (by omega)) (fa_A14 378 (by omega)), m1_A14, by rw [gs_A14, fa_A14 382 (by omega)], l0_A14⟩
            refine hpa_aload_n (by rfl) rfl ?_
            refine hpa_call0 (by rfl) (by rfl) (by rfl) (by rfl) (by rfl) (by rfl) (uf_C (X := ug_x95) (j := 95) rfl rfl (ug_L.cons (uf_rk_ok (by decide +kernel)) uf_nil) HA14 (hP170 )) ?_
            rintro _ A15 ⟨⟨rfl, fe_A15, lg_A15, fa_A15, kp_A15⟩, wA15, HA15⟩
            have OA15 := (OA14).trans (hOT.W (by omega) wA15 (by decide +kernel))
            have rsA15 : hq_res (ht_K B n) (ht_W B n) (fun u => (ht_S B n u : Int)) (ht_E B n) 0 (A15.1 367 17).toInt := by rw [fe_A15]; exact rsA14
            have huA15 : hcU A15 := huA14.fr (by rw [lg_A15])
            have hsA15 : hq_hs (ht_K B n) (ht_W B n) (ht_E B n) (A15.2.1 376 sd).toInt (A15.2.1 379 sd).toInt := by rw [fa_A15 376 (by omega), fa_A15 379 (by omega)]; exact hsA14
            have lvA15 : (A15.1 367 18).toInt = (sd : Int) := by rw [fe_A15]; exact lvA14
            have mrA15 : hm_R (ht_K B n) (ht_W B n) (ht_E B n) sd A15 := mrA14.fr (fun i _ _ => fa_A15 i (by omega))
            have bgA15 : hmBg sd A15 := bgA14.mv (fun i _ => fa_A15 i (by omega)) (by rw [fe_A15]) (by rw [fe_A15])
            have kpA15 : ∀ j, j < 73 → A15.2.1 395 j = A15.2.1 396 j := fun j hj => by rw [fa_A15 396 (by omega)]; exact kp_A15 j hj
            refine hpa_aload_n (by rfl) rfl ?_
            refine hpa_iconst (by rfl) rfl ?_
            refine hpj_putI (by rfl) (by rfl) (by rfl) (by rfl) (fun A16 eA16 fA16 => ?_)
            have HA16 := (HA15).e (congrArg (fun q => q.2.2) fA16)
            have OA16 : hOT (1 - sd) A A16 := (OA15).eq (by rw [fA16])
            have rsA16 : hq_res (ht_K B n) (ht_W B n) (fun u => (ht_S B n u : Int)) (ht_E B n) 0 (A16.1 367 17).toInt := by rw [eA16, hup2 (by omega)]; exact rsA15
            have huA16 : hcU A16 := huA15.fr (by rw [fA16])
            have hsA16 : hq_hs (ht_K B n) (ht_W B n) (ht_E B n) (A16.2.1 376 sd).toInt (A16.2.1 379 sd).toInt := by rw [fA16]; exact hsA15
            have lvA16 : (A16.1 367 18).toInt = (sd : Int) := by rw [eA16, hup2 (by omega)]; exact lvA15
            have mrA16 : hm_R (ht_K B n) (ht_W B n) (ht_E B n) sd A16 := mrA15.fr (fun i _ _ => by rw [fA16])
            have bgA16 : hmBg sd A16 := bgA15.mv (fun i _ => by rw [fA16]) (by rw [eA16, hup2 (by omega)]) (by rw [eA16, hup2 (by omega)])
            have kpA16 : ∀ j, j < 73 → A16.2.1 395 j = A16.2.1 396 j := by rw [fA16]; exact kpA15
            have unA16 : (A16.1 367 51).toInt = 0 := by rw [eA16, hup1]; exact hk_0
            refine hpa_aload_n (by rfl) rfl ?_
            refine hpa_iconst (by rfl) rfl ?_
            refine hpj_putI (by rfl) (by rfl) (by rfl) (by rfl) (fun A17 eA17 fA17 => ?_)
            have HA17 := (HA16).e (congrArg (fun q => q.2.2) fA17)
            have OA17 : hOT (1 - sd) A A17 := (OA16).eq (by rw [fA17])
            have rsA17 : hq_res (ht_K B n) (ht_W B n) (fun u => (ht_S B n u : Int)) (ht_E B n) 0 (A17.1 367 17).toInt := by rw [eA17, hup2 (by omega)]; exact rsA16
            have huA17 : hcU A17 := huA16.fr (by rw [fA17])
            have hsA17 : hq_hs (ht_K B n) (ht_W B n) (ht_E B n) (A17.2.1 376 sd).toInt (A17.2.1 379 sd).toInt := by rw [fA17]; exact hsA16
            have lvA17 : (A17.1 367 18).toInt = (sd : Int) := by rw [eA17, hup2 (by omega)]; exact lvA16
            have mrA17 : hm_R (ht_K B n) (ht_W B n) (ht_E B n) sd A17 := mrA16.fr (fun i _ _ => by rw [fA17])
            have bgA17 : hmBg sd A17 := bgA16.mv (fun i _ => by rw [fA17]) (by rw [eA17, hup2 (by omega)]) (by rw [eA17, hup2 (by omega)])
            have kpA17 : ∀ j, j < 73 → A17.2.1 395 j = A17.2.1 396 j := by rw [fA17]; exact kpA16
            have unA17 : (A17.1 367 51).toInt = 0 := by rw [eA17, hup2 (by omega)]; exact unA16
            have toA17 : (A17.1 367 59).toInt = 0 := by rw [eA17, hup1]; exact hk_0
            refine hpa_iconst (by rfl) rfl ?_
            refine hpa_s1 (by rfl) (Or.inl ⟨_, rfl, rfl⟩) rfl ?_
            exact L219 _ (Int32.ofNat 0) A17 rsA17 huA17 hsA17 lvA17 mrA17 bgA17 kpA17 unA17 toA17 (by omega) (fun s q => absurd q (by omega)) HA17
          ·
            refine hpa_aload_n (by rfl) rfl ?_
            refine hpj_getK (by rfl) (by rfl) (by rfl) rfl ?_
            refine hpa_goto (by rfl) ?_
            refine hpj_putI (by rfl) (by rfl) (by rfl) (by rfl) (fun A18 eA18 fA18 => ?_)
            have UA18 := (U112).put eA18 fA18 (by decide +kernel)
            have HA18 := (H112).e (congrArg (fun q => q.2.2) fA18)
            have OA18 : hOT (1 - sd) A A18 := (O112).eq (by rw [fA18])
            refine hpa_aload_n (by rfl) rfl ?_
            refine hpj_getK (by rfl) (by rfl) (by rfl) (hkF eA18 (by omega) rfl) ?_
            refine hpj_zle (by rfl) rfl (fun q19 => ?_) (fun q19 => False.elim (by omega))
            refine hpa_aload_n (by rfl) rfl ?_
            refine hpj_getK (by rfl) (by rfl) (by rfl) (hkF eA18 (by omega) rfl) ?_
            refine hpj_zle (by rfl) rfl (fun q20 => False.elim (by omega)) (fun q20 => ?_)
            refine hpa_aload_n (by rfl) rfl ?_
            refine hpj_getK (by rfl) (by rfl) (by rfl) (hkF eA18 (by omega) rfl) ?_
            exact hpa_ireturn (by rfl) rfl (hP _ _ ⟨_, rfl, by rw [show A18.1 367 17 = (A112.1 367 16) from (hkS eA18)]; exact hq_res.bad B1.2.2.1 (hqd0_end (by omega)) hl1 (by omega), hU1.fr (by rw [fA18]), fun q => False.elim (by omega), fun _ => ⟨UA18, OA18⟩⟩)
        ·
          refine hpj_zne (by rfl) rfl (fun q21 => False.elim (by omega)) (fun q21 => ?_)
          refine hpa_aload_n (by rfl) rfl ?_
          refine hpa_call0 (by rfl) (by rfl) (by rfl) (by rfl) (by rfl) (by rfl) (uf_C (X := ug_x131) (j := 131) rfl rfl (ug_L.cons (uf_rk_ok (by decide +kernel)) uf_nil) H112 (hP154r hmS.of ht_W_ok B1 R1 M1 b1 z1 (by omega) H112)) ?_
          rintro _ A22 ⟨⟨rfl, (⟨OKK_A22, OT_A22⟩ | ⟨F_A22, OT_A22⟩)⟩, wA22, HA22⟩
          ·
            have UA22 := (U112).trans (wA22.le (by decide +kernel : ug_wle ug_x131.2.2.2.1 uMf = true))
            have OA22 := (O112).trans OT_A22
            obtain ⟨t9, a9, b9, c9, ns9, nm9, sn9, o9, bb9, zz9, lt9, B9, R9, M9, b9x, z9x⟩ := OKK_A22
            refine hpa_goto (by rfl) ?_
            exact ih112 (x112_1) A22 (Or.inl ⟨_, _, _, _, _, _, _, _, _, _, B9, R9, M9, b9x, z9x⟩) OA22 UA22 HA22
          ·
            have UA22 := (U112).trans (wA22.le (by decide +kernel : ug_wle ug_x131.2.2.2.1 uMf = true))
            have OA22 := (O112).trans OT_A22
            have fp_A22 := F_A22.pos
            refine hpa_goto (by rfl) ?_
            exact ih112 (x112_1) A22 (Or.inr F_A22) OA22 UA22 HA22
      ·
        have fp1 := F1.pos
        obtain ⟨fU, ft, fk, fq, fk0, fv, fpl⟩ := id F1
        refine hpa_aload_nS (by rfl) rfl ?_
        refine hpj_getK (by rfl) (by rfl) (by rfl) rfl ?_
        refine hpj_zne (by rfl) rfl (fun q23 => ?_) (fun q23 => False.elim (by omega))
        refine hpa_aload_n (by rfl) rfl ?_
        refine hpa_aload_n (by rfl) rfl ?_
        refine hpj_getK (by rfl) (by rfl) (by rfl) rfl ?_
        refine hpj_zle (by rfl) rfl (fun q24 => False.elim (by omega)) (fun q24 => ?_)
        refine hpa_aload_n (by rfl) rfl ?_
        refine hpj_getK (by rfl) (by rfl) (by rfl) rfl ?_
        refine hpa_goto (by rfl) ?_
        refine hpj_putI (by rfl) (by rfl) (by rfl) (by rfl) (fun A25 eA25 fA25 => ?_)
        have UA25 := (U112).put eA25 fA25 (by decide +kernel)
        have HA25 := (H112).e (congrArg (fun q => q.2.2) fA25)
        have OA25 : hOT (1 - sd) A A25 := (O112).eq (by rw [fA25])
        refine hpa_aload_n (by rfl) rfl ?_
        refine hpj_getK (by rfl) (by rfl) (by rfl) (hkF eA25 (by omega) rfl) ?_
        refine hpj_zle (by rfl) rfl (fun q26 => False.elim (by omega)) (fun q26 => ?_)
        refine hpa_aload_n (by rfl) rfl ?_
        refine hpj_getK (by rfl) (by rfl) (by rfl) (hkF eA25 (by omega) rfl) ?_
        exact hpa_ireturn (by rfl) rfl (hP _ _ ⟨_, rfl, by rw [show A25.1 367 17 = (A112.1 367 14) from (hkS eA25)]; exact Or.inl ⟨ft, fk, fq, fk0, fv, fpl⟩, fU.fr (by rw [fA25]), fun q => False.elim (by omega), fun _ => ⟨UA25, OA25⟩⟩)
  have L10 : ∀ (f : Nat) (x10_1 : Int32) (A10 : hs_A) (fe : ∀ i k, ¬ (i = 367 ∧ k = 4) → A10.1 i k = A.1 i k) (f4 : (A10.1 367 4).toInt = (n : Int)) (fa : ∀ i, ¬ i = 369 → A10.2.1 i = A.2.1 i) (fl : A10.2.2 = A.2.2) (lo : 0 ≤ x10_1.toInt) (hi : x10_1.toInt ≤ (n : Int)) (cp : ∀ i : Nat, (i : Int) < x10_1.toInt → (A10.2.1 369 i).toInt = B i) (O10 : hOT (1 - sd) A A10) (U10 : uf_W uMf A A10) (H10 : uf_H A10), hpa (f, g) d (some (.int)) hm_t150 10 [.ref 368, .int x10_1] [] A10 P := by
    intro f
    induction f with
    | zero => intros; exact hpa.zero
    | succ f ih10 =>
      intro x10_1 A10 fe f4 fa fl lo hi cp O10 U10 H10
      refine hpa_iload_nS (by rfl) rfl ?_
      refine hpa_aload_n (by rfl) rfl ?_
      refine hpj_getK (by rfl) (by rfl) (by rfl) rfl ?_
      refine hpj_cge (by rfl) rfl rfl (fun q27 => ?_) (fun q27 => ?_)
      ·
        refine hpa_aload_n (by rfl) rfl ?_
        refine hpa_iconst (by rfl) rfl ?_
        refine hpj_putI (by rfl) (by rfl) (by rfl) (by rfl) (fun A28 eA28 fA28 => ?_)
        have UA28 := (U10).put eA28 fA28 (by decide +kernel)
        have HA28 := (H10).e (congrArg (fun q => q.2.2) fA28)
        have OA28 : hOT (1 - sd) A A28 := (O10).eq (by rw [fA28])
        have hA38 : hmTp B n A28 := ⟨by rw [eA28, hup2 (by omega)]; exact f4, fun i hi => by rw [fA28]; exact cp i (by omega)⟩
        have hU38 : hcU A28 := hU.fr (by rw [fA28, fl])
        have hl38 : (A28.1 367 18).toInt = 1 - (sd : Int) := by rw [eA28, hup2 (by omega), fe 367 18 (by omega)]; exact hlv
        refine hpa_aload_n (by rfl) rfl ?_
        refine hpa_call0 (by rfl) (by rfl) (by rfl) (by rfl) (by rfl) (by rfl) (uf_C (X := ug_x91) (j := 91) rfl rfl (ug_L.cons (uf_rk_ok (by decide +kernel)) uf_nil) HA28 (hP142 hA38 hn hBr hU38)) ?_
        rintro _ A29 ⟨⟨rfl, C_A29, TE_A29⟩, wA29, HA29⟩
        have UA29 := (UA28).trans (wA29.le (by decide +kernel : ug_wle ug_x91.2.2.2.1 uMf = true))
        have OA29 := (OA28).trans (hOT.W (by omega) wA29 (by decide +kernel))
        have hl42 : (A29.1 367 18).toInt = 1 - (sd : Int) := by rw [C_A29.1 367 18 (by omega)]; exact hl38
        refine hpa_aload_n (by rfl) rfl ?_
        refine hpa_iconst (by rfl) rfl ?_
        refine hpj_putI (by rfl) (by rfl) (by rfl) (by rfl) (fun A30 eA30 fA30 => ?_)
        have UA30 := (UA29).put eA30 fA30 (by decide +kernel)
        have HA30 := (HA29).e (congrArg (fun q => q.2.2) fA30)
        have OA30 : hOT (1 - sd) A A30 := (OA29).eq (by rw [fA30])
        refine hpa_aload_n (by rfl) rfl ?_
        refine hpa_iconst (by rfl) rfl ?_
        refine hpj_putI (by rfl) (by rfl) (by rfl) (by rfl) (fun A31 eA31 fA31 => ?_)
        have UA31 := (UA30).put eA31 fA31 (by decide +kernel)
        have HA31 := (HA30).e (congrArg (fun q => q.2.2) fA31)
        have OA31 : hOT (1 - sd) A A31 := (OA30).eq (by rw [fA31])
        refine hpa_aload_n (by rfl) rfl ?_
        refine hpa_iconst (by rfl) rfl ?_
        refine hpj_putI (by rfl) (by rfl) (by rfl) (by rfl) (fun A32 eA32 fA32 => ?_)
        have UA32 := (UA31).put eA32 fA32 (by decide +kernel)
        have HA32 := (HA31).e (congrArg (fun q => q.2.2) fA32)
        have OA32 : hOT (1 - sd) A A32 := (OA31).eq (by rw [fA32])
        refine hpa_aload_n (by rfl) rfl ?_
        refine hpa_iconst (by rfl) rfl ?_
        refine hpj_putI (by rfl) (by rfl) (by rfl) (by rfl) (fun A33 eA33 fA33 => ?_)
        have UA33 := (UA32).put eA33 fA33 (by decide +kernel)
        have HA33 := (HA32).e (congrArg (fun q => q.2.2) fA33)
        have OA33 : hOT (1 - sd) A A33 := (OA32).eq (by rw [fA33])
        refine hpa_aload_n (by rfl) rfl ?_
        refine hpa_iconst (by rfl) rfl ?_
        refine hpa_aload_n (by rfl) rfl ?_
        refine hpj_getK (by rfl) (by rfl) (by rfl) (hkF eA33 (by omega) (hkF eA32 (by omega) (hkF eA31 (by omega) (hkF eA30 (by omega) rfl)))) ?_
        refine hpj_isub (by rfl) hk_1 rfl (by omega) (by omega) (fun z34 ez34 => ?_)
        refine hpj_putI (by rfl) (by rfl) (by rfl) (by rfl) (fun A35 eA35 fA35 => ?_)
        have UA35 := (UA33).put eA35 fA35 (by decide +kernel)
        have HA35 := (HA33).e (congrArg (fun q => q.2.2) fA35)
        have OA35 : hOT (1 - sd) A A35 := (OA33).eq (by rw [fA35])
        refine hpa_aload_n (by rfl) rfl ?_
        refine hpa_iconst (by rfl) rfl ?_
        refine hpj_putI (by rfl) (by rfl) (by rfl) (by rfl) (fun A36 eA36 fA36 => ?_)
        have UA36 := (UA35).put eA36 fA36 (by decide +kernel)
        have HA36 := (HA35).e (congrArg (fun q => q.2.2) fA36)
        have OA36 : hOT (1 - sd) A A36 := (OA35).eq (by rw [fA36])
        refine hpa_aload_n (by rfl) rfl ?_
        refine hpa_aload_n (by rfl) rfl ?_
        refine hpj_getK (by rfl) (by rfl) (by rfl) (hkF eA36 (by omega) (hkS eA35)) ?_
        refine hpa_call0 (by rfl) (by rfl) (by rfl) (by rfl) (by rfl) (by rfl) (uf_C (X := ug_x92) (j := 92) rfl rfl (ug_L.cons (uf_rk_ok (by decide +kernel)) (uf_int uf_nil)) HA36 (hP149r (V := ht_W B n) z34 (show z34.toInt = (sd : Int) by omega) hsd HA36)) ?_
        rintro _ A37 ⟨⟨rfl, P_A37, z1_A37, z2_A37, M0_A37, OT_A37⟩, wA37, HA37⟩
        have UA37 := (UA36).trans (wA37.le (by decide +kernel : ug_wle ug_x92.2.2.2.1 uMf = true))
        have OA37 := (OA36).trans OT_A37
        have h19A37 : (A37.1 367 19).toInt = (sd : Int) := by rw [P_A37.1, show A36.1 367 19 = z34 from (hkF eA36 (by omega) (hkS eA35))]; omega
        refine hpa_aload_n (by rfl) rfl ?_
        refine hpa_sipush (by rfl) rfl ?_
        refine hpa_aload_n (by rfl) rfl ?_
        refine hpj_getK (by rfl) (by rfl) (by rfl) rfl ?_
        refine hpj_imul (by rfl) hk_130 rfl (by omega) (by omega) (fun z38 ez38 => ?_)
        refine hpj_putI (by rfl) (by rfl) (by rfl) (by rfl) (fun A39 eA39 fA39 => ?_)
        have UA39 := (UA37).put eA39 fA39 (by decide +kernel)
        have HA39 := (HA37).e (congrArg (fun q => q.2.2) fA39)
        have OA39 : hOT (1 - sd) A A39 := (OA37).eq (by rw [fA39])
        have b0A39 : (A39.1 367 31).toInt = ((130 * sd : Nat) : Int) := by rw [show A39.1 367 31 = z38 from (hkS eA39)]; omega
        refine hpa_aload_n (by rfl) rfl ?_
        refine hpa_sipush (by rfl) rfl ?_
        refine hpa_aload_n (by rfl) rfl ?_
        refine hpj_getK (by rfl) (by rfl) (by rfl) (hkF eA39 (by omega) rfl) ?_
        refine hpj_imul (by rfl) hk_420 rfl (by omega) (by omega) (fun z40 ez40 => ?_)
        refine hpj_putI (by rfl) (by rfl) (by rfl) (by rfl) (fun A41 eA41 fA41 => ?_)
        have UA41 := (UA39).put eA41 fA41 (by decide +kernel)
        have HA41 := (HA39).e (congrArg (fun q => q.2.2) fA41)
        have OA41 : hOT (1 - sd) A A41 := (OA39).eq (by rw [fA41])
        obtain ⟨B0, R0⟩ := hm_init hsd TE_A29 eA30 fA30 eA31 fA31 eA32 fA32 eA33 fA33 eA35 fA35 (show z34.toInt = (sd : Int) by omega) eA36 fA36 P_A37 z1_A37 z2_A37 eA39 fA39 eA41 fA41
        have z0A41 : (A41.1 367 37).toInt = ((420 * sd : Nat) : Int) := by rw [show A41.1 367 37 = z40 from (hkS eA41)]; omega
        have bbA41 : (A41.1 367 31).toInt = ((130 * sd : Nat) : Int) := by rw [eA41, hup2 (by omega)]; exact b0A39
        have MAA41 := ((M0_A37 (130 * sd) (420 * sd)).up (A' := A39) (by rw [fA39])).up (A' := A41) (by rw [fA41])
        exact L112 _ (.int x10_1) A41 (Or.inl ⟨_, _, _, _, _, _, _, _, _, _, B0, R0, MAA41, bbA41, z0A41⟩) OA41 UA41 HA41
      ·
        refine hpa_aload_n (by rfl) rfl ?_
        refine hpa_get (v := .ref 370) (by rfl) (by rfl) (by rfl) rfl ?_
        refine hpa_iload_n (by rfl) rfl ?_
        refine hpa_aload_n (by rfl) rfl ?_
        refine hpa_get (v := .ref 369) (by rfl) (by rfl) (by rfl) rfl ?_
        refine hpa_iload_n (by rfl) rfl ?_
        refine hpx_bald (by rfl) (by rfl) (fun h0v42 h1v42 v42 ev42 => ?_)
        have hc10 := hn_cn (j := x10_1) (by omega)
        have tv28 : v42.toInt = B x10_1.toNatClampNeg := by rw [← ev42, fa 368 (by omega)]; exact hA x10_1.toNatClampNeg (by omega)
        have hbr28 := hBr x10_1.toNatClampNeg (by omega)
        have hst := hi8 (x := v42) (by omega) (by omega)
        refine hpx_bast (by rfl) (by rfl) (fun A43 h0A43 h1A43 eA43 fA43 gA43 => ?_)
        have UA43 := (U10).ar eA43 fA43 gA43 (by decide +kernel)
        have HA43 := (H10).e (congrArg (fun q => q.2) gA43)
        have OA43 : hOT (1 - sd) A A43 := (O10).a fA43 (fun hl => by unfold hlq at hl; omega)
        refine hpj_iinc (by rfl) rfl rfl hk_1 (by omega) (by omega) (fun _ => rfl) (fun z44 ez44 => ?_)
        refine hpa_goto (by rfl) ?_
        exact ih10 z44 A43 (fun i k hi => by rw [eA43]; exact fe i k hi) (by rw [eA43]; exact f4) (fun i hi => by rw [fA43, ← fa i hi]; funext b; exact hup2 (fun q => hi q.1)) (gA43.trans fl) (by omega) (by omega) (fun i hi => by rw [fA43]; by_cases q : i = x10_1.toNatClampNeg; (subst q; rw [hup1, hst]; exact tv28); rw [hup2 (fun w => q w.2)]; exact cp i (by omega)) OA43 UA43 HA43
  refine hpa_aload_n (by rfl) rfl ?_
  refine hpa_aload_n (by rfl) rfl ?_
  refine hpj_getK (by rfl) (by rfl) (by rfl) rfl ?_
  refine hpj_putI (by rfl) (by rfl) (by rfl) (by rfl) (fun A45 eA45 fA45 => ?_)
  have UA45 := (U0).put eA45 fA45 (by decide +kernel)
  have HA45 := (hH0).e (congrArg (fun q => q.2.2) fA45)
  have OA45 : hOT (1 - sd) A A45 := (O0).eq (by rw [fA45])
  refine hpa_iconst (by rfl) rfl ?_
  refine hpa_s1 (by rfl) (Or.inl ⟨_, rfl, rfl⟩) rfl ?_
  exact L10 _ (Int32.ofNat 0) A45 (fun i k hi => by rw [eA45, hup2 hi]) (by rw [eA45, hup1]; exact h2) (fun i _ => by rw [fA45]) (by rw [fA45]) (by omega) (by omega) (fun i hi => absurd hi (by omega)) OA45 UA45 HA45
theorem hP150q {g d : Nat} {A : hs_A} {B : Nat → Int} {n sd : Nat} (hA : ∀ i, i < n → (A.2.1 368 i).toInt = B i) (hBr : ∀ i, i < n → -128 ≤ B i ∧ B i ≤ 127) (hn : n ≤ 2000) (h2 : (A.1 367 2).toInt = (n : Int)) (hlv : (A.1 367 18).toInt = 1 - (sd : Int)) (hsd : sd ≤ 1) (hU : hcU A) (hH0 : uf_H A) : hpC g d 150 hm_m150 [.ref 368] A (fun r A' => ∃ z : Int32, r = some (.int z) ∧ hq_res (ht_K B n) (ht_W B n) (fun u => (ht_S B n u : Int)) (ht_E B n) z.toInt (A'.1 367 17).toInt ∧ hcU A' ∧ (z.toInt = 0 → hq_hs (ht_K B n) (ht_W B n) (ht_E B n) (A'.2.1 376 sd).toInt (A'.2.1 379 sd).toInt ∧ (A'.1 367 18).toInt = (sd : Int) ∧ hm_R (ht_K B n) (ht_W B n) (ht_E B n) sd A' ∧ hmBg sd A' ∧ (∀ j, j < 73 → A'.2.1 395 j = A'.2.1 396 j) ∧ (A'.1 367 51).toInt = 0 ∧ (A'.1 367 59).toInt = 0 ∧ ∀ s : Nat, (s : Int) < 3 → (A'.2.1 408 s).toInt = 0) ∧ (¬ z.toInt = 0 → uf_W uMf A A' ∧ hOT (1 - sd) A A')) := hpC.all (fun f d => hW150q hA hBr hn h2 hlv hsd hU hH0 (fun r A' h => h))
theorem hP150r {g d : Nat} {A : hs_A} {B : Nat → Int} {n sd : Nat} (hA : ∀ i, i < n → (A.2.1 368 i).toInt = B i) (hBr : ∀ i, i < n → -128 ≤ B i ∧ B i ≤ 127) (hn : n ≤ 2000) (h2 : (A.1 367 2).toInt = (n : Int)) (hlv : (A.1 367 18).toInt = 1 - (sd : Int)) (hsd : sd ≤ 1) (hU : hcU A) (hH0 : uf_H A) : hpC g d 150 hm_m150 [.ref 368] A (fun r A' => ∃ z : Int32, r = some (.int z) ∧ hq_res (ht_K B n) (ht_W B n) (fun u => (ht_S B n u : Int)) (ht_E B n) z.toInt (A'.1 367 17).toInt ∧ hcU A' ∧ (z.toInt = 0 → hq_hs (ht_K B n) (ht_W B n) (ht_E B n) (A'.2.1 376 sd).toInt (A'.2.1 379 sd).toInt ∧ (A'.1 367 18).toInt = (sd : Int) ∧ (A'.1 367 51).toInt = 0 ∧ (A'.1 367 59).toInt = 0 ∧ ∀ s : Nat, (s : Int) < 3 → (A'.2.1 408 s).toInt = 0) ∧ (¬ z.toInt = 0 → uf_W uMf A A' ∧ A'.2.1 376 (1 - sd) = A.2.1 376 (1 - sd))) := (hP150q hA hBr hn h2 hlv hsd hU hH0).imp (fun r A' h => by obtain ⟨z, e, x, u, ok, no⟩ := h; exact ⟨z, e, x, u, fun q => (by obtain ⟨a, b, -, -, -, un, to, he⟩ := ok q; exact ⟨a, b, un, to, he⟩), fun q => ⟨(no q).1, (no q).2 376 _ (Or.inl ⟨Or.inl rfl, rfl⟩)⟩⟩)
