theorem hanyX {E : Nat → Nat → Bool} {t u i : Nat} {ns : List Nat} {X o : Option (Nat × Nat)} (hdr : ns.drop (ns.length - (i + 1)) = u :: ns.drop (ns.length - i)) (hE : E u t = true) : (if (ns.drop (ns.length - (i + 1))).any (fun u => E u t) then X else o) = X := by
  rw [hdr, List.any_cons, hE, Bool.true_or, if_pos (Eq.refl true)]
def hq_I2 (s : hq_S) : Prop := s.2.2.2.2.2.2.1 ≤ 8 ∧ (5 ≤ s.1 ∧ s.1 ≤ 7 → s.2.2.2.2.2.2.1 < 8)
theorem hq_dl_I2 {K V : Nat → Int} {E : Nat → Nat → Bool} {t : Nat} {s s' : hq_S} (h : hq_I2 s) (hd : hq_dl K V E t s = .inl s') : hq_I2 s' := by
  unfold hq_dl at hd
  split at hd
  · split at hd
    · cases hd
    · split at hd
      · split at hd
        · obtain ⟨-, rfl⟩ := hq_go_inl hd
          exact ⟨h.1, by dsimp only; omega⟩
        · cases hd
      · split at hd
        · split at hd
          next q =>
            obtain ⟨-, rfl⟩ := hq_go_inl hd
            exact ⟨h.1, fun _ => q⟩
          · cases hd
        · split at hd
          · obtain ⟨-, rfl⟩ := hq_go_inl hd
            exact ⟨h.1, by dsimp only; omega⟩
          · split at hd
            · obtain ⟨-, rfl⟩ := hq_go_inl hd
              exact ⟨h.1, by dsimp only; omega⟩
            · split at hd
              · obtain ⟨-, rfl⟩ := hq_go_inl hd
                exact ⟨h.1, by dsimp only; omega⟩
              · cases hd
  · obtain ⟨-, -, rfl⟩ := hq_must_inl hd
    exact ⟨h.1, by dsimp only; omega⟩
  · obtain ⟨-, -, rfl⟩ := hq_must_inl hd
    exact ⟨h.1, by dsimp only; omega⟩
  · obtain ⟨-, -, rfl⟩ := hq_must_inl hd
    exact ⟨h.1, by dsimp only; omega⟩
  · obtain ⟨-, -, rfl⟩ := hq_must_inl hd
    exact ⟨h.1, by dsimp only; omega⟩
  · obtain ⟨-, -, rfl⟩ := hq_must_inl hd
    exact ⟨h.1, fun _ => h.2 (by dsimp only; omega)⟩
  · obtain ⟨-, -, rfl⟩ := hq_must_inl hd
    exact ⟨h.1, fun _ => h.2 (by dsimp only; omega)⟩
  · obtain ⟨-, -, rfl⟩ := hq_must_inl hd
    exact ⟨h.2 (by dsimp only; omega), by dsimp only; omega⟩
  · obtain ⟨-, -, rfl⟩ := hq_must_inl hd
    exact ⟨h.1, by dsimp only; omega⟩
  · obtain ⟨-, -, rfl⟩ := hq_must_inl hd
    exact ⟨h.1, by dsimp only; omega⟩
  · obtain ⟨-, -, rfl⟩ := hq_must_inl hd
    exact ⟨h.1, by dsimp only; omega⟩
  · obtain ⟨-, -, rfl⟩ := hq_must_inl hd
    exact ⟨h.1, by dsimp only; omega⟩
  · obtain ⟨-, -, rfl⟩ := hq_must_inl hd
    exact ⟨h.1, by dsimp only; omega⟩
  · split at hd
    · split at hd
      · obtain ⟨-, rfl⟩ := hq_go_inl hd
        exact ⟨h.1, by dsimp only; omega⟩
      · cases hd
    · obtain ⟨-, e, p⟩ := hq_unit_inl hd
      exact ⟨by rw [e]; exact h.1, by omega⟩
  · obtain ⟨-, e, p⟩ := hq_unit_inl hd
    exact ⟨by rw [e]; exact h.1, by omega⟩
  · split at hd
    · obtain ⟨-, rfl⟩ := hq_go_inl hd
      exact ⟨h.1, by dsimp only; omega⟩
    · split at hd
      · obtain ⟨-, e, p⟩ := hq_out_inl hd
        exact ⟨by rw [e]; exact h.1, by omega⟩
      · obtain ⟨-, -, rfl⟩ := hq_must_inl hd
        exact ⟨h.1, by dsimp only; omega⟩
theorem hq_q_I2 {K V : Nat → Int} {E : Nat → Nat → Bool} : ∀ {t : Nat} {s : hq_S}, hq_q K V E t = some s → hq_I2 s
  | 0, s, h => by
    cases h
    exact ⟨Nat.zero_le _, fun q => absurd q (by dsimp only; omega)⟩
  | t + 1, s, h => by
    have h' : (match hq_q K V E t with
      | none => none
      | some s => match hq_dl K V E t s with
        | .inl s' => some s'
        | .inr _ => none) = some s := h
    split at h'
    · cases h'
    next s1 hs1 =>
      split at h'
      next s2 hd =>
        cases h'
        exact hq_dl_I2 (hq_q_I2 hs1) hd
      · cases h'
theorem hq_must_next {K V : Nat → Int} {E : Nat → Nat → Bool} {t : Nat} {s s1 s' : hq_S} {k : Int} (h : hq_q K V E t = some s) (h' : hq_q K V E (t + 1) = some s1) (hd : hq_dl K V E t s = hq_must K k t s') : K t = k := by
  by_cases q : K t = k
  · exact q
  · have := hq_f_dead K V E (t := t) (k := 1) ⟨s, h, hd.trans (hq_must_no q)⟩
    rw [h'] at this
    cases this
theorem hW161d {g d f : Nat} {A : hs_A} {K V S : Nat → Int} {E : Nat → Nat → Bool} (hF : hmF K V S E A) {P : Option Value → hs_A → Prop} (hP : ∀ (r : Option Value) (A' : hs_A), (r = none ∧ (hmF K V S E A')) → P r A') : hpa (f, g) d none hm_t161 0 [.ref 368, .retAddr 0, .retAddr 0] [] A P := by
  have k0 := hk_0
  have k1 := hk_1
  have hfp := hF.pos
  refine hpa_aload_n (by rfl) rfl ?_
  refine hpa_iconst (by rfl) rfl ?_
  refine hpj_putI (by rfl) (by rfl) (by rfl) (by rfl) (fun A1 eA1 fA1 => ?_)
  have FA1 := hF.up (k := 41) eA1 fA1 (by omega)
  have fpA1 := FA1.pos
  refine hpa_aload_n (by rfl) rfl ?_
  refine hpj_getK (by rfl) (by rfl) (by rfl) (hkF eA1 (by omega) rfl) ?_
  refine hpa_s1 (by rfl) (Or.inl ⟨_, rfl, rfl⟩) rfl ?_
  refine hpa_iconst (by rfl) rfl ?_
  refine hpa_s1 (by rfl) (Or.inl ⟨_, rfl, rfl⟩) rfl ?_
  refine hpa_iload_n (by rfl) rfl ?_
  refine hpj_zeq (by rfl) hk_1 (fun q2 => False.elim (by omega)) (fun q2 => ?_)
  refine hpa_aload_n (by rfl) rfl ?_
  refine hpj_getK (by rfl) (by rfl) (by rfl) (hkF eA1 (by omega) rfl) ?_
  refine hpj_zne (by rfl) rfl (fun q3 => ?_) (fun q3 => False.elim (by omega))
  exact hpa_return (by rfl) rfl (hP _ _ ⟨rfl, FA1⟩)
theorem hP161d {g d : Nat} {A : hs_A} {K V S : Nat → Int} {E : Nat → Nat → Bool} (hF : hmF K V S E A) : hpC g d 161 hm_m161 [.ref 368] A (fun r A' => r = none ∧ (hmF K V S E A')) := hpC.all (fun f d => hW161d hF (fun r A' h => h))
theorem hW158 {g d f : Nat} {A : hs_A} {K V S : Nat → Int} {E : Nat → Nat → Bool} {t : Nat} {s : hq_S} {ns : List Nat} {sn sd : Nat} {o : Option (Nat × Nat)} {ifs ctx : Nat} {rr : List Nat × Nat × Nat × Option (Nat × Nat)} {dd : hg_D} {kk : hg_W} {z0 b : Nat} (hB : hmB K V S E A t s) (hR : hmR S A t ns sn o sd 0) (hu : hq_dl K V E t s = hq_unit K t ifs ctx 0 rr) (hG : hg_q K V E t = (dd, kk, [], [])) (hue : ∀ e, hg_dl K V t s e = hg_un K V t e) (hz : (A.1 367 37).toInt = (z0 : Int)) (hb : (A.1 367 31).toInt = (b : Int)) {P : Option Value → hs_A → Prop} (hP : ∀ (r : Option Value) (A' : hs_A), (r = none ∧ ((∃ (t' : Nat) (oc' oc2 : hg_C) (w' : List Nat), t < t' ∧ hmB K V S E A' t' (15, ifs, ctx, 0, rr) ∧ hmR S A' t' ns sn o sd 0 ∧ ¬ (26 ≤ K t' ∧ K t' ≤ 29) ∧ hg_q K V E t' = (dd, kk, oc', w') ∧ hg_fl false oc' w' = (oc2, []) ∧ ((A'.1 367 37).toInt = ((z0 + oc2.length : Nat) : Int) ∧ (A'.1 367 31).toInt = (b : Int) + 1 ∧ (A'.2.1 388 b).toInt = (z0 : Int) ∧ (A'.2.1 389 b).toInt = ((z0 + oc2.length : Nat) : Int)) ∧ hm_seg (A'.2.1 390) (A'.2.1 391) z0 oc2 ∧ hmTf z0 b A A') ∨ (hmF K V S E A'))) → P r A') : hpa (f, g) d none hm_t158 0 [.ref 368] [] A P := by
  have k1 := hk_1
  obtain ⟨h400, hpre, hix, hkk, hss, hvv⟩ := hB.at
  have hnx := hB.2.1
  have hqq := hB.2.2.1
  have hf0 := hB.2.2.2
  have hbi : (A.1 367 31).toNatClampNeg = b := by have := hn_cn (j := A.1 367 31) (by omega); omega
  refine hpa_aload_n (by rfl) rfl ?_
  refine hpa_get (v := .ref 389) (by rfl) (by rfl) (by rfl) rfl ?_
  refine hpa_aload_n (by rfl) rfl ?_
  refine hpj_getK (by rfl) (by rfl) (by rfl) rfl ?_
  refine hpa_aload_n (by rfl) rfl ?_
  refine hpj_getK (by rfl) (by rfl) (by rfl) rfl ?_
  refine hpx_iast (by rfl) (by rfl) (fun A1 h0A1 h1A1 eA1 fA1 gA1 => ?_)
  have BA1 := hB.ar eA1 fA1 gA1 (by omega)
  have RA1 := hR.ar eA1 fA1 gA1 (by omega)
  have f0A1 := BA1.2.2.2
  have nxA1 := BA1.2.1
  have rdA1 := RA1.2.2.1
  rw [hbi] at fA1
  have hz1 : (A1.1 367 37).toInt = (z0 : Int) := by rw [eA1]; exact hz
  refine hpa_aload_n (by rfl) rfl ?_
  refine hpj_getK (by rfl) (by rfl) (by rfl) (hkA eA1 rfl) ?_
  refine hpj_zne (by rfl) rfl (fun q2 => False.elim (by omega)) (fun q2 => ?_)
  refine hpa_aload_n (by rfl) rfl ?_
  refine hpa_call0 (by rfl) (by rfl) (by rfl) (by rfl) (by rfl) (by rfl) (hP161 BA1 RA1 hu hG hue hz1) ?_
  rintro _ A3 ⟨rfl, (XX_A3 | F_A3)⟩
  ·
    obtain ⟨tXX_A3, pXX_A3, oXX_A3, wXX_A3, ltXX_A3, BXX_A3, RXX_A3, QXX_A3, GXX_A3, EXX_A3, XXX_A3, FRXX_A3⟩ := XX_A3
    have f0XX_A3 := BXX_A3.2.2.2
    have nxXX_A3 := BXX_A3.2.1
    have rdXX_A3 := RXX_A3.2.2.1
    have h4XX_A3 := BXX_A3.at.1
    have c37 := XXX_A3.1
    have c31 : (A3.1 367 31).toInt = (b : Int) := by rw [FRXX_A3.2.2, eA1]; exact hb
    have hbi2 : (A3.1 367 31).toNatClampNeg = b := by have := hn_cn (j := A3.1 367 31) (by omega); omega
    refine hpa_aload_n (by rfl) rfl ?_
    refine hpa_get (v := .ref 390) (by rfl) (by rfl) (by rfl) rfl ?_
    refine hpa_aload_n (by rfl) rfl ?_
    refine hpj_getK (by rfl) (by rfl) (by rfl) rfl ?_
    refine hpa_aload_n (by rfl) rfl ?_
    refine hpj_getK (by rfl) (by rfl) (by rfl) rfl ?_
    refine hpx_iast (by rfl) (by rfl) (fun A4 h0A4 h1A4 eA4 fA4 gA4 => ?_)
    have BA4 := BXX_A3.ar eA4 fA4 gA4 (by omega)
    have RA4 := RXX_A3.ar eA4 fA4 gA4 (by omega)
    have f0A4 := BA4.2.2.2
    have nxA4 := BA4.2.1
    have rdA4 := RA4.2.2.1
    rw [hbi2] at fA4
    refine hpa_aload_n (by rfl) rfl ?_
    refine hpa_dupR (by rfl) ?_
    refine hpj_getK (by rfl) (by rfl) (by rfl) (hkA eA4 rfl) ?_
    refine hpa_iconst (by rfl) rfl ?_
    refine hpj_iadd (by rfl) rfl hk_1 (by omega) (by omega) (fun z5 ez5 => ?_)
    refine hpj_putI (by rfl) (by rfl) (by rfl) (by rfl) (fun A6 eA6 fA6 => ?_)
    have BA6 := BA4.up (k := 31) eA6 fA6 (by omega) (by omega)
    have RA6 := RA4.up (k := 31) eA6 fA6 (by omega)
    have f0A6 := BA6.2.2.2
    have nxA6 := BA6.2.1
    have rdA6 := RA6.2.2.1
    have ff : ∀ i j, 373 ≤ i → i ≤ 389 → ¬ ((i = 388 ∨ i = 389) ∧ j = b) → A6.2.1 i j = A.2.1 i j := fun i j h1 h2 h3 => by rw [fA6, fA4, hup2 (by omega), FRXX_A3.1 i h1 h2, fA1, hup2 (by omega)]
    have fc : ∀ i j, 390 ≤ i → A6.2.1 i j = A3.2.1 i j := fun i j h1 => by rw [fA6, fA4, hup2 (by omega)]
    have fd : ∀ j, j < z0 → A6.2.1 390 j = A.2.1 390 j ∧ A6.2.1 391 j = A.2.1 391 j := fun j hj => ⟨by rw [fc _ _ (by omega), (FRXX_A3.2.1 j hj).1, fA1, hup2 (by omega)], by rw [fc _ _ (by omega), (FRXX_A3.2.1 j hj).2, fA1, hup2 (by omega)]⟩
    exact hpa_return (by rfl) rfl (hP _ _ ⟨rfl, Or.inl ⟨_, _, _, _, by omega, BA6, RA6, QXX_A3, GXX_A3, EXX_A3, ⟨by rw [eA6, hup2 (by omega), eA4]; exact c37, by rw [eA6, hup1]; omega, by rw [fA6, fA4, hup2 (by omega), FRXX_A3.1 388 (by omega) (by omega), fA1, hup1]; exact hz, by rw [fA6, fA4, hup1]; exact c37⟩, XXX_A3.2.1.mv (fun i _ _ => ⟨fc _ _ (by omega), fc _ _ (by omega)⟩), ff, fd⟩⟩)
  ·
    have fp_A3 := F_A3.pos
    refine hpa_aload_n (by rfl) rfl ?_
    refine hpa_get (v := .ref 390) (by rfl) (by rfl) (by rfl) rfl ?_
    refine hpa_aload_n (by rfl) rfl ?_
    refine hpj_getK (by rfl) (by rfl) (by rfl) rfl ?_
    refine hpa_aload_n (by rfl) rfl ?_
    refine hpj_getK (by rfl) (by rfl) (by rfl) rfl ?_
    refine hpx_iast (by rfl) (by rfl) (fun A7 h0A7 h1A7 eA7 fA7 gA7 => ?_)
    have FA7 := F_A3.ar eA7 gA7
    have fpA7 := FA7.pos
    refine hpa_aload_n (by rfl) rfl ?_
    refine hpa_dupR (by rfl) ?_
    refine hpj_getK (by rfl) (by rfl) (by rfl) (hkA eA7 rfl) ?_
    refine hpa_iconst (by rfl) rfl ?_
    refine hpj_iaddU (by rfl) (fun z8 => ?_)
    refine hpj_putI (by rfl) (by rfl) (by rfl) (by rfl) (fun A9 eA9 fA9 => ?_)
    have FA9 := FA7.up (k := 31) eA9 fA9 (by omega)
    have fpA9 := FA9.pos
    exact hpa_return (by rfl) rfl (hP _ _ ⟨rfl, Or.inr FA9⟩)
theorem hP158 {g d : Nat} {A : hs_A} {K V S : Nat → Int} {E : Nat → Nat → Bool} {t : Nat} {s : hq_S} {ns : List Nat} {sn sd : Nat} {o : Option (Nat × Nat)} {ifs ctx : Nat} {rr : List Nat × Nat × Nat × Option (Nat × Nat)} {dd : hg_D} {kk : hg_W} {z0 b : Nat} (hB : hmB K V S E A t s) (hR : hmR S A t ns sn o sd 0) (hu : hq_dl K V E t s = hq_unit K t ifs ctx 0 rr) (hG : hg_q K V E t = (dd, kk, [], [])) (hue : ∀ e, hg_dl K V t s e = hg_un K V t e) (hz : (A.1 367 37).toInt = (z0 : Int)) (hb : (A.1 367 31).toInt = (b : Int)) : hpC g d 158 hm_m158 [.ref 368] A (fun r A' => r = none ∧ ((∃ (t' : Nat) (oc' oc2 : hg_C) (w' : List Nat), t < t' ∧ hmB K V S E A' t' (15, ifs, ctx, 0, rr) ∧ hmR S A' t' ns sn o sd 0 ∧ ¬ (26 ≤ K t' ∧ K t' ≤ 29) ∧ hg_q K V E t' = (dd, kk, oc', w') ∧ hg_fl false oc' w' = (oc2, []) ∧ ((A'.1 367 37).toInt = ((z0 + oc2.length : Nat) : Int) ∧ (A'.1 367 31).toInt = (b : Int) + 1 ∧ (A'.2.1 388 b).toInt = (z0 : Int) ∧ (A'.2.1 389 b).toInt = ((z0 + oc2.length : Nat) : Int)) ∧ hm_seg (A'.2.1 390) (A'.2.1 391) z0 oc2 ∧ hmTf z0 b A A') ∨ (hmF K V S E A'))) := hpC.all (fun f d => hW158 hB hR hu hG hue hz hb (fun r A' h => h))
theorem hW158d {g d f : Nat} {A : hs_A} {K V S : Nat → Int} {E : Nat → Nat → Bool} (hF : hmF K V S E A) {P : Option Value → hs_A → Prop} (hP : ∀ (r : Option Value) (A' : hs_A), (r = none ∧ (hmF K V S E A')) → P r A') : hpa (f, g) d none hm_t158 0 [.ref 368] [] A P := by
  have k1 := hk_1
  have hfp := hF.pos
  refine hpa_aload_n (by rfl) rfl ?_
  refine hpa_get (v := .ref 389) (by rfl) (by rfl) (by rfl) rfl ?_
  refine hpa_aload_n (by rfl) rfl ?_
  refine hpj_getK (by rfl) (by rfl) (by rfl) rfl ?_
  refine hpa_aload_n (by rfl) rfl ?_
  refine hpj_getK (by rfl) (by rfl) (by rfl) rfl ?_
  refine hpx_iast (by rfl) (by rfl) (fun A1 h0A1 h1A1 eA1 fA1 gA1 => ?_)
  have FA1 := hF.ar eA1 gA1
  have fpA1 := FA1.pos
  refine hpa_aload_n (by rfl) rfl ?_
  refine hpj_getK (by rfl) (by rfl) (by rfl) (hkA eA1 rfl) ?_
  refine hpj_zne (by rfl) rfl (fun q2 => ?_) (fun q2 => False.elim (by omega))
  refine hpa_aload_n (by rfl) rfl ?_
  refine hpa_get (v := .ref 390) (by rfl) (by rfl) (by rfl) rfl ?_
  refine hpa_aload_n (by rfl) rfl ?_
  refine hpj_getK (by rfl) (by rfl) (by rfl) (hkA eA1 rfl) ?_
  refine hpa_aload_n (by rfl) rfl ?_
  refine hpj_getK (by rfl) (by rfl) (by rfl) (hkA eA1 rfl) ?_
  refine hpx_iast (by rfl) (by rfl) (fun A3 h0A3 h1A3 eA3 fA3 gA3 => ?_)
  have FA3 := FA1.ar eA3 gA3
  have fpA3 := FA3.pos
  refine hpa_aload_n (by rfl) rfl ?_
  refine hpa_dupR (by rfl) ?_
  refine hpj_getK (by rfl) (by rfl) (by rfl) (hkA eA3 (hkA eA1 rfl)) ?_
  refine hpa_iconst (by rfl) rfl ?_
  refine hpj_iaddU (by rfl) (fun z4 => ?_)
  refine hpj_putI (by rfl) (by rfl) (by rfl) (by rfl) (fun A5 eA5 fA5 => ?_)
  have FA5 := FA3.up (k := 31) eA5 fA5 (by omega)
  have fpA5 := FA5.pos
  exact hpa_return (by rfl) rfl (hP _ _ ⟨rfl, FA5⟩)
theorem hP158d {g d : Nat} {A : hs_A} {K V S : Nat → Int} {E : Nat → Nat → Bool} (hF : hmF K V S E A) : hpC g d 158 hm_m158 [.ref 368] A (fun r A' => r = none ∧ (hmF K V S E A')) := hpC.all (fun f d => hW158d hF (fun r A' h => h))
theorem hW156 {g d f : Nat} {A : hs_A} {K V S : Nat → Int} {E : Nat → Nat → Bool} {t : Nat} {a b c : Nat} {ns : List Nat} {nm sn sd : Nat} {o : Option (Nat × Nat)} {bb zz : Nat} (hS : hmS K S) (hB : hmB K V S E A t (1, a, b, c, ns, nm, sn, o)) (hR : hmR S A t ns sn o sd 0) (hM : hmM V A sd ns (hg_q K V E t).1 bb zz) (hb : (A.1 367 31).toInt = (bb : Int)) (hz : (A.1 367 37).toInt = (zz : Int)) {P : Option Value → hs_A → Prop} (hP : ∀ (r : Option Value) (A' : hs_A), (r = none ∧ ((hmOK2 K V S E A' t sd) ∨ (hmF K V S E A'))) → P r A') : hpa (f, g) d none hm_t156 0 [.ref 368, .retAddr 0, .retAddr 0, .retAddr 0] [] A P := by
  have k0 := hk_0
  have k1 := hk_1
  have k10 := hk_10
  have k255 := hk_255
  have k3 := hk_3
  have k4 := hk_4
  have k99 := hk_99
  obtain ⟨h400, hpre, hix, hkk, hss, hvv⟩ := hB.at
  have hnx := hB.2.1
  have hqq := hB.2.2.1
  have hf0 := hB.2.2.2
  have hl10y : ns.length ≤ 10 := (hq_q_inv hqq).1.2.2.1
  have rs0 := hR.1
  have rs01 := hR.2.1
  have rh0 := hR.2.2.2.1
  have hcs0 := hn_cn (j := A.1 367 19) (by omega)
  have L30 : ∀ (f : Nat) (x30_1 : Int32) (x30_2 : Int32) (x30_3 : Int32) (A30 : hs_A) (l1 : x30_1.toInt = 10 * (sd : Int) + (ns.length : Int)) (l2 : x30_2.toInt = (t : Int)) (lo : 0 ≤ x30_3.toInt) (D30 : (hmB K V S E A30 (t + 1) (2, 0, 0, 0, ns, t, sn, (if ns.any (fun u => E u t) then hq_late 3 t o else o)) ∧ hmR S A30 (t + 1) ns sn (if (ns.drop (ns.length - (x30_3.toInt).toNat)).any (fun u => E u t) then hq_late 3 t o else o) sd 0 ∧ x30_3.toInt ≤ (ns.length : Int) ∧ K t = 20 ∧ hmQ A A30 ∧ hg_q K V E (t + 1) = hg_q K V E t) ∨ hmF K V S E A30), hpa (f, g) d none hm_t156 30 [.ref 368, .int x30_1, .int x30_2, .int x30_3] [] A30 P := by
    intro f
    induction f with
    | zero => intros; exact hpa.zero
    | succ f ih30 =>
      intro x30_1 x30_2 x30_3 A30 l1 l2 lo D30
      rcases D30 with ⟨B1, R1, le1, kt, Q1, GN1⟩ | F1
      ·
        have f01 := B1.2.2.2
        have nx1 := B1.2.1
        have rn1 := R1.2.2.2.2.2.1
        have rd1 := R1.2.2.1
        refine hpa_iload_nS (by rfl) rfl ?_
        refine hpa_aload_n (by rfl) rfl ?_
        refine hpj_getK (by rfl) (by rfl) (by rfl) rfl ?_
        refine hpj_cge (by rfl) rfl rfl (fun q1 => ?_) (fun q1 => ?_)
        ·
          rw [show ns.length - x30_3.toInt.toNat = 0 by omega, List.drop_zero] at R1
          have M1 := hM.Q Q1
          have hb1 : (A30.1 367 31).toInt = (bb : Int) := by rw [Q1.1 31 (by omega)]; exact hb
          have hz1 : (A30.1 367 37).toInt = (zz : Int) := by rw [Q1.1 37 (by omega)]; exact hz
          refine hpa_aload_n (by rfl) rfl ?_
          refine hpa_get (v := .ref 378) (by rfl) (by rfl) (by rfl) rfl ?_
          refine hpa_iload_n (by rfl) rfl ?_
          refine hpa_aload_n (by rfl) rfl ?_
          refine hpa_iconst (by rfl) rfl ?_
          refine hpa_sipush (by rfl) rfl ?_
          refine hpa_call0 (by rfl) (by rfl) (by rfl) (by rfl) (by rfl) (by rfl) (hP155 (Int32.ofNat 0) (Int32.ofNat 255) hS hk_0 hk_255 B1 R1 rfl) ?_
          rintro _ A2 ⟨z3, rfl, (⟨B_A2, R_A2, Q_A2, G_A2, VV_A2⟩ | F_A2)⟩
          ·
            have f0_A2 := B_A2.2.2.2
            have nx_A2 := B_A2.2.1
            have rd_A2 := R_A2.2.2.1
            have MA2 := M1.Q Q_A2
            refine hpx_iast (by rfl) (by rfl) (fun A4 h0A4 h1A4 eA4 fA4 gA4 => ?_)
            have BA4 := B_A2.ar eA4 fA4 gA4 (by omega)
            have RA4 := R_A2.ar eA4 fA4 gA4 (by omega)
            have f0A4 := BA4.2.2.2
            have nxA4 := BA4.2.1
            have rdA4 := RA4.2.2.1
            have hjA4 : (x30_1).toNatClampNeg = 10 * sd + ns.length := by have := hn_cn (j := x30_1) (by omega); omega
            rw [hjA4] at fA4
            have MA4 := MA2.ga fA4 (by omega)
            refine hpa_aload_n (by rfl) rfl ?_
            refine hpa_get (v := .ref 379) (by rfl) (by rfl) (by rfl) rfl ?_
            refine hpa_iload_n (by rfl) rfl ?_
            refine hpa_aload_n (by rfl) rfl ?_
            refine hpa_iconst (by rfl) rfl ?_
            refine hpa_bipush (by rfl) rfl ?_
            refine hpa_call0 (by rfl) (by rfl) (by rfl) (by rfl) (by rfl) (by rfl) (hP155 (Int32.ofNat 0) (Int32.ofNat 99) hS hk_0 hk_99 BA4 RA4 rfl) ?_
            rintro _ A5 ⟨z6, rfl, (⟨B_A5, R_A5, Q_A5, G_A5, VV_A5⟩ | F_A5)⟩
            ·
              have f0_A5 := B_A5.2.2.2
              have nx_A5 := B_A5.2.1
              have rd_A5 := R_A5.2.2.1
              have MA5 := MA4.Q Q_A5
              refine hpx_iast (by rfl) (by rfl) (fun A7 h0A7 h1A7 eA7 fA7 gA7 => ?_)
              have BA7 := B_A5.ar eA7 fA7 gA7 (by omega)
              have RA7 := R_A5.ar eA7 fA7 gA7 (by omega)
              have f0A7 := BA7.2.2.2
              have nxA7 := BA7.2.1
              have rdA7 := RA7.2.2.1
              have hjA7 : (x30_1).toNatClampNeg = 10 * sd + ns.length := by have := hn_cn (j := x30_1) (by omega); omega
              rw [hjA7] at fA7
              have MA7 := MA5.ga fA7 (by omega)
              refine hpa_aload_n (by rfl) rfl ?_
              refine hpa_iconst (by rfl) rfl ?_
              refine hpa_call0 (by rfl) (by rfl) (by rfl) (by rfl) (by rfl) (by rfl) (hP148 (Int32.ofNat 4) BA7 RA7 (BA7.i4 hk_4) rfl) ?_
              rintro _ A8 ⟨rfl, (⟨B_A8, R_A8, Q_A8, G_A8⟩ | F_A8)⟩
              ·
                have f0_A8 := B_A8.2.2.2
                have nx_A8 := B_A8.2.1
                have rd_A8 := R_A8.2.2.1
                have MA8 := MA7.Q Q_A8
                refine hpa_aload_n (by rfl) rfl ?_
                refine hpj_getK (by rfl) (by rfl) (by rfl) rfl ?_
                refine hpj_zle (by rfl) rfl (fun q9 => ?_) (fun q9 => False.elim (by omega))
                refine hpa_aload_n (by rfl) rfl ?_
                refine hpa_get (v := .ref 376) (by rfl) (by rfl) (by rfl) rfl ?_
                refine hpa_aload_n (by rfl) rfl ?_
                refine hpj_getK (by rfl) (by rfl) (by rfl) rfl ?_
                refine hpa_aload_n (by rfl) rfl ?_
                refine hpa_get (v := .ref 374) (by rfl) (by rfl) (by rfl) rfl ?_
                refine hpa_iload_n (by rfl) rfl ?_
                refine hpx_lald (by rfl) (by rfl) (fun h0v10 h1v10 v10 ev10 => ?_)
                have hi2 : x30_2.toNatClampNeg = t := by have := hn_cn (j := x30_2) (by omega); omega
                rw [hi2] at ev10
                have rn := R_A8.2.2.2.2.2.1
                have rh := R_A8.2.2.2.1
                have rs := R_A8.1
                have rs1 := R_A8.2.1
                have hcn := hn_cn (j := A8.1 367 20) (by omega)
                have hcs := hn_cn (j := A8.1 367 19) (by omega)
                have hl10 := (hq_q_inv B_A8.2.2.1).1.2.2.1
                have hl11 : (t :: ns).length = ns.length + 1 := rfl
                have hW1 : (A8.2.1 377 (10 * sd + ns.length)).toInt = V (t + 1) := by rw [Q_A8.2, fA7, hup2 (by omega), Q_A5.2, fA4, hup1]; exact VV_A2.1
                have hW2 : (A8.2.1 378 (10 * sd + ns.length)).toInt = V (t + 1 + 1) := by rw [Q_A8.2, fA7, hup1]; exact VV_A5.1
                have MH := MA8.more (u := t) hW1 hW2
                have c31 : (A8.1 367 31).toInt = (bb : Int) := by rw [Q_A8.1 31 (by omega), eA7, Q_A5.1 31 (by omega), eA4, Q_A2.1 31 (by omega)]; exact hb1
                have c37 : (A8.1 367 37).toInt = (zz : Int) := by rw [Q_A8.1 37 (by omega), eA7, Q_A5.1 37 (by omega), eA4, Q_A2.1 37 (by omega)]; exact hz1
                refine hpx_last (by rfl) (by rfl) (fun A11 h0A11 h1A11 eA11 fA11 gA11 iA11 => ?_)
                refine hpa_aload_n (by rfl) rfl ?_
                refine hpa_dupR (by rfl) ?_
                refine hpj_getK (by rfl) (by rfl) (by rfl) (hkA eA11 rfl) ?_
                refine hpa_iconst (by rfl) rfl ?_
                refine hpj_iadd (by rfl) rfl hk_1 (by omega) (by omega) (fun z12 ez12 => ?_)
                refine hpj_putI (by rfl) (by rfl) (by rfl) (by rfl) (fun A13 eA13 fA13 => ?_)
                refine hpa_aload_n (by rfl) rfl ?_
                refine hpa_get (v := .ref 377) (by rfl) (by rfl) (by rfl) rfl ?_
                refine hpa_aload_n (by rfl) rfl ?_
                refine hpj_getK (by rfl) (by rfl) (by rfl) (hkF eA13 (by omega) (hkA eA11 rfl)) ?_
                refine hpa_dup2IR (by rfl) ?_
                refine hpx_iald (by rfl) (by rfl) (fun h0v14 h1v14 v14 ev14 => ?_)
                rw [fA13, fA11, show (A8.1 367 19).toNatClampNeg = sd by omega] at ev14
                have tv14 : v14.toInt = (ns.length : Int) := by rw [← ev14]; exact rh
                refine hpa_iconst (by rfl) rfl ?_
                refine hpj_iadd (by rfl) rfl hk_1 (by omega) (by omega) (fun z15 ez15 => ?_)
                refine hpx_iast (by rfl) (by rfl) (fun A16 h0A16 h1A16 eA16 fA16 gA16 => ?_)
                rw [show (A8.1 367 19).toNatClampNeg = sd by omega] at fA16
                have BA16 := B_A8.house eA11 fA11 gA11 eA13 fA13 eA16 fA16 gA16
                have RA16 := R_A8.house (u := t) eA11 fA11 gA11 (by omega) ev10 eA13 fA13 (by omega) eA16 fA16 gA16 (by omega)
                have MX := ((MH.up (A' := A11) fA11).up (A' := A13) (by rw [fA13])).ga fA16 (by omega)
                exact hpa_return (by rfl) rfl (hP _ _ ⟨rfl, Or.inl ⟨_, _, _, _, _, _, _, _, _, _, by omega, BA16, RA16, by rw [G_A8, G_A5, G_A2]; show hmM V _ sd _ (hg_q K V E (t + 1)).1 _ _; rw [GN1]; exact MX, by rw [eA16, eA13, hup2 (by omega), eA11]; exact c31, by rw [eA16, eA13, hup2 (by omega), eA11]; exact c37⟩⟩)
              ·
                have fp_A8 := F_A8.pos
                refine hpa_aload_n (by rfl) rfl ?_
                refine hpj_getK (by rfl) (by rfl) (by rfl) rfl ?_
                refine hpj_zle (by rfl) rfl (fun q17 => False.elim (by omega)) (fun q17 => ?_)
                exact hpa_return (by rfl) rfl (hP _ _ ⟨rfl, Or.inr F_A8⟩)
            ·
              have fp_A5 := F_A5.pos
              refine hpx_iast (by rfl) (by rfl) (fun A18 h0A18 h1A18 eA18 fA18 gA18 => ?_)
              have FA18 := F_A5.ar eA18 gA18
              have fpA18 := FA18.pos
              refine hpa_aload_n (by rfl) rfl ?_
              refine hpa_iconst (by rfl) rfl ?_
              refine hpa_call0 (by rfl) (by rfl) (by rfl) (by rfl) (by rfl) (by rfl) (hP148d (Int32.ofNat 4) FA18) ?_
              rintro _ A19 ⟨rfl, F_A19⟩
              have fp_A19 := F_A19.pos
              refine hpa_aload_n (by rfl) rfl ?_
              refine hpj_getK (by rfl) (by rfl) (by rfl) rfl ?_
              refine hpj_zle (by rfl) rfl (fun q20 => False.elim (by omega)) (fun q20 => ?_)
              exact hpa_return (by rfl) rfl (hP _ _ ⟨rfl, Or.inr F_A19⟩)
          ·
            have fp_A2 := F_A2.pos
            refine hpx_iast (by rfl) (by rfl) (fun A21 h0A21 h1A21 eA21 fA21 gA21 => ?_)
            have FA21 := F_A2.ar eA21 gA21
            have fpA21 := FA21.pos
            refine hpa_aload_n (by rfl) rfl ?_
            refine hpa_get (v := .ref 379) (by rfl) (by rfl) (by rfl) rfl ?_
            refine hpa_iload_n (by rfl) rfl ?_
            refine hpa_aload_n (by rfl) rfl ?_
            refine hpa_iconst (by rfl) rfl ?_
            refine hpa_bipush (by rfl) rfl ?_
            refine hpa_call0 (by rfl) (by rfl) (by rfl) (by rfl) (by rfl) (by rfl) (hP155d (Int32.ofNat 0) (Int32.ofNat 99) FA21) ?_
            rintro _ A22 ⟨z23, rfl, F_A22⟩
            have fp_A22 := F_A22.pos
            refine hpx_iast (by rfl) (by rfl) (fun A24 h0A24 h1A24 eA24 fA24 gA24 => ?_)
            have FA24 := F_A22.ar eA24 gA24
            have fpA24 := FA24.pos
            refine hpa_aload_n (by rfl) rfl ?_
            refine hpa_iconst (by rfl) rfl ?_
            refine hpa_call0 (by rfl) (by rfl) (by rfl) (by rfl) (by rfl) (by rfl) (hP148d (Int32.ofNat 4) FA24) ?_
            rintro _ A25 ⟨rfl, F_A25⟩
            have fp_A25 := F_A25.pos
            refine hpa_aload_n (by rfl) rfl ?_
            refine hpj_getK (by rfl) (by rfl) (by rfl) rfl ?_
            refine hpj_zle (by rfl) rfl (fun q26 => False.elim (by omega)) (fun q26 => ?_)
            exact hpa_return (by rfl) rfl (hP _ _ ⟨rfl, Or.inr F_A25⟩)
        ·
          refine hpa_aload_n (by rfl) rfl ?_
          refine hpj_getK (by rfl) (by rfl) (by rfl) rfl ?_
          refine hpj_zne (by rfl) rfl (fun q27 => False.elim (by omega)) (fun q27 => ?_)
          refine hpa_aload_n (by rfl) rfl ?_
          refine hpa_get (v := .ref 376) (by rfl) (by rfl) (by rfl) rfl ?_
          refine hpa_iload_n (by rfl) rfl ?_
          refine hpx_lald (by rfl) (by rfl) (fun h0v28 h1v28 v28 ev28 => ?_)
          refine hpa_aload_n (by rfl) rfl ?_
          refine hpa_get (v := .ref 374) (by rfl) (by rfl) (by rfl) rfl ?_
          refine hpa_iload_n (by rfl) rfl ?_
          refine hpx_lald (by rfl) (by rfl) (fun h0v29 h1v29 v29 ev29 => ?_)
          have hi2 : x30_2.toNatClampNeg = t := by have := hn_cn (j := x30_2) (by omega); omega
          rw [hi2] at ev29
          obtain ⟨u, hu, hdr, hnu⟩ := R1.2.2.2.2.2.2.1.at (i := x30_3.toInt.toNat) (by omega)
          have hvu : v28 = A30.2.2.1 373 u := ev28.symm.trans hnu
          have hut := (hq_q_inv hqq).1.1 u hu
          have hEE := B1.1.2.1 u t (by omega) h400 (fun i hi => hpre i (by omega)) hpre hut.2 kt
          refine hpa_lcmp (by rfl) ?_
          refine hpj_zne (by rfl) rfl (fun q30 => ?_) (fun q30 => ?_)
          ·
            have hne : ¬ E u t = true := fun w => q30 (hlg0.mpr (by rw [hvu, ← ev29]; exact hEE.mpr w))
            refine hpj_iinc (by rfl) rfl rfl hk_1 (by omega) (by omega) (fun _ => rfl) (fun z31 ez31 => ?_)
            refine hpa_goto (by rfl) ?_
            exact ih30 x30_1 x30_2 z31 A30 l1 (by omega) (by omega) (Or.inl ⟨B1, by rw [show z31.toInt.toNat = x30_3.toInt.toNat + 1 by omega, hanyF hdr hne]; exact R1, by omega, kt, Q1, GN1⟩)
          ·
            have heq : E u t = true := hEE.mp (by rw [← hvu, ev29]; exact hlg0.mp q30)
            refine hpa_aload_n (by rfl) rfl ?_
            refine hpa_iconst (by rfl) rfl ?_
            refine hpa_iload_n (by rfl) rfl ?_
            refine hpa_call0 (by rfl) (by rfl) (by rfl) (by rfl) (by rfl) (by rfl) (hP146 (Int32.ofNat 3) x30_2 hS B1 R1 l2 (Nat.le_succ t) (fun c hc => hmLt hR hc) (by split; exact Or.inr rfl; exact Or.inl rfl) (by decide) hk_3) ?_
            rintro _ A32 ⟨rfl, B_A32, R_A32, L_A32, Q_A32⟩
            have f0_A32 := B_A32.2.2.2
            have nx_A32 := B_A32.2.1
            have rd_A32 := R_A32.2.2.1
            refine hpj_iinc (by rfl) rfl rfl hk_1 (by omega) (by omega) (fun _ => rfl) (fun z33 ez33 => ?_)
            refine hpa_goto (by rfl) ?_
            exact ih30 x30_1 x30_2 z33 A32 l1 (by omega) (by omega) (Or.inl ⟨B_A32, by rw [show z33.toInt.toNat = x30_3.toInt.toNat + 1 by omega, hanyX hdr heq]; exact R_A32, by omega, kt, (Q1.trans Q_A32), GN1⟩)
      ·
        have fp1 := F1.pos
        refine hpa_iload_nS (by rfl) rfl ?_
        refine hpa_aload_n (by rfl) rfl ?_
        refine hpj_getK (by rfl) (by rfl) (by rfl) rfl ?_
        refine hpj_cge (by rfl) rfl rfl (fun q34 => ?_) (fun q34 => ?_)
        ·
          refine hpa_aload_n (by rfl) rfl ?_
          refine hpa_get (v := .ref 378) (by rfl) (by rfl) (by rfl) rfl ?_
          refine hpa_iload_n (by rfl) rfl ?_
          refine hpa_aload_n (by rfl) rfl ?_
          refine hpa_iconst (by rfl) rfl ?_
          refine hpa_sipush (by rfl) rfl ?_
          refine hpa_call0 (by rfl) (by rfl) (by rfl) (by rfl) (by rfl) (by rfl) (hP155d (Int32.ofNat 0) (Int32.ofNat 255) F1) ?_
          rintro _ A35 ⟨z36, rfl, F_A35⟩
          have fp_A35 := F_A35.pos
          refine hpx_iast (by rfl) (by rfl) (fun A37 h0A37 h1A37 eA37 fA37 gA37 => ?_)
          have FA37 := F_A35.ar eA37 gA37
          have fpA37 := FA37.pos
          refine hpa_aload_n (by rfl) rfl ?_
          refine hpa_get (v := .ref 379) (by rfl) (by rfl) (by rfl) rfl ?_
          refine hpa_iload_n (by rfl) rfl ?_
          refine hpa_aload_n (by rfl) rfl ?_
          refine hpa_iconst (by rfl) rfl ?_
          refine hpa_bipush (by rfl) rfl ?_
          refine hpa_call0 (by rfl) (by rfl) (by rfl) (by rfl) (by rfl) (by rfl) (hP155d (Int32.ofNat 0) (Int32.ofNat 99) FA37) ?_
          rintro _ A38 ⟨z39, rfl, F_A38⟩
          have fp_A38 := F_A38.pos
          refine hpx_iast (by rfl) (by rfl) (fun A40 h0A40 h1A40 eA40 fA40 gA40 => ?_)
          have FA40 := F_A38.ar eA40 gA40
          have fpA40 := FA40.pos
          refine hpa_aload_n (by rfl) rfl ?_
          refine hpa_iconst (by rfl) rfl ?_
          refine hpa_call0 (by rfl) (by rfl) (by rfl) (by rfl) (by rfl) (by rfl) (hP148d (Int32.ofNat 4) FA40) ?_
          rintro _ A41 ⟨rfl, F_A41⟩
          have fp_A41 := F_A41.pos
          refine hpa_aload_n (by rfl) rfl ?_
          refine hpj_getK (by rfl) (by rfl) (by rfl) rfl ?_
          refine hpj_zle (by rfl) rfl (fun q42 => False.elim (by omega)) (fun q42 => ?_)
          exact hpa_return (by rfl) rfl (hP _ _ ⟨rfl, Or.inr F_A41⟩)
        ·
          refine hpa_aload_n (by rfl) rfl ?_
          refine hpj_getK (by rfl) (by rfl) (by rfl) rfl ?_
          refine hpj_zne (by rfl) rfl (fun q43 => ?_) (fun q43 => False.elim (by omega))
          refine hpa_aload_n (by rfl) rfl ?_
          refine hpa_get (v := .ref 378) (by rfl) (by rfl) (by rfl) rfl ?_
          refine hpa_iload_n (by rfl) rfl ?_
          refine hpa_aload_n (by rfl) rfl ?_
          refine hpa_iconst (by rfl) rfl ?_
          refine hpa_sipush (by rfl) rfl ?_
          refine hpa_call0 (by rfl) (by rfl) (by rfl) (by rfl) (by rfl) (by rfl) (hP155d (Int32.ofNat 0) (Int32.ofNat 255) F1) ?_
          rintro _ A44 ⟨z45, rfl, F_A44⟩
          have fp_A44 := F_A44.pos
          refine hpx_iast (by rfl) (by rfl) (fun A46 h0A46 h1A46 eA46 fA46 gA46 => ?_)
          have FA46 := F_A44.ar eA46 gA46
          have fpA46 := FA46.pos
          refine hpa_aload_n (by rfl) rfl ?_
          refine hpa_get (v := .ref 379) (by rfl) (by rfl) (by rfl) rfl ?_
          refine hpa_iload_n (by rfl) rfl ?_
          refine hpa_aload_n (by rfl) rfl ?_
          refine hpa_iconst (by rfl) rfl ?_
          refine hpa_bipush (by rfl) rfl ?_
          refine hpa_call0 (by rfl) (by rfl) (by rfl) (by rfl) (by rfl) (by rfl) (hP155d (Int32.ofNat 0) (Int32.ofNat 99) FA46) ?_
          rintro _ A47 ⟨z48, rfl, F_A47⟩
          have fp_A47 := F_A47.pos
          refine hpx_iast (by rfl) (by rfl) (fun A49 h0A49 h1A49 eA49 fA49 gA49 => ?_)
          have FA49 := F_A47.ar eA49 gA49
          have fpA49 := FA49.pos
          refine hpa_aload_n (by rfl) rfl ?_
          refine hpa_iconst (by rfl) rfl ?_
          refine hpa_call0 (by rfl) (by rfl) (by rfl) (by rfl) (by rfl) (by rfl) (hP148d (Int32.ofNat 4) FA49) ?_
          rintro _ A50 ⟨rfl, F_A50⟩
          have fp_A50 := F_A50.pos
          refine hpa_aload_n (by rfl) rfl ?_
          refine hpj_getK (by rfl) (by rfl) (by rfl) rfl ?_
          refine hpj_zle (by rfl) rfl (fun q51 => False.elim (by omega)) (fun q51 => ?_)
          exact hpa_return (by rfl) rfl (hP _ _ ⟨rfl, Or.inr F_A50⟩)
  refine hpa_bipush (by rfl) rfl ?_
  refine hpa_aload_n (by rfl) rfl ?_
  refine hpj_getK (by rfl) (by rfl) (by rfl) rfl ?_
  refine hpj_imul (by rfl) hk_10 rfl (by omega) (by omega) (fun z52 ez52 => ?_)
  refine hpa_aload_n (by rfl) rfl ?_
  refine hpa_get (v := .ref 377) (by rfl) (by rfl) (by rfl) rfl ?_
  refine hpa_aload_n (by rfl) rfl ?_
  refine hpj_getK (by rfl) (by rfl) (by rfl) rfl ?_
  refine hpx_iald (by rfl) (by rfl) (fun h0v53 h1v53 v53 ev53 => ?_)
  rw [show (A.1 367 19).toNatClampNeg = sd by omega] at ev53
  have tv53 := congrArg Int32.toInt ev53
  refine hpj_iadd (by rfl) rfl rfl (by omega) (by omega) (fun z54 ez54 => ?_)
  refine hpa_s1 (by rfl) (Or.inl ⟨_, rfl, rfl⟩) rfl ?_
  refine hpa_aload_n (by rfl) rfl ?_
  refine hpj_getK (by rfl) (by rfl) (by rfl) rfl ?_
  refine hpa_s1 (by rfl) (Or.inl ⟨_, rfl, rfl⟩) rfl ?_
  refine hpa_aload_n (by rfl) rfl ?_
  refine hpa_iconst (by rfl) rfl ?_
  refine hpa_call0 (by rfl) (by rfl) (by rfl) (by rfl) (by rfl) (by rfl) (hP148 (Int32.ofNat 1) hB hR (hB.i1 hk_1) rfl) ?_
  rintro _ A55 ⟨rfl, (⟨B_A55, R_A55, Q_A55, G_A55⟩ | F_A55)⟩
  ·
    have f0_A55 := B_A55.2.2.2
    have nx_A55 := B_A55.2.1
    have rd_A55 := R_A55.2.2.1
    have hK20 := (hq_must_next hqq B_A55.2.2.1 rfl)
    refine hpa_iconst (by rfl) rfl ?_
    refine hpa_s1 (by rfl) (Or.inl ⟨_, rfl, rfl⟩) rfl ?_
    have e30 : ns.drop (ns.length - (Int32.ofNat 0).toInt.toNat) = [] := by
      rw [hk_0]
      exact List.drop_length
    exact L30 _ z54 (A.1 367 11) (Int32.ofNat 0) A55 (by omega) (by omega) (by omega) (Or.inl ⟨B_A55, by rw [e30]; exact R_A55, by omega, hK20, Q_A55, G_A55⟩)
  ·
    have fp_A55 := F_A55.pos
    refine hpa_iconst (by rfl) rfl ?_
    refine hpa_s1 (by rfl) (Or.inl ⟨_, rfl, rfl⟩) rfl ?_
    exact L30 _ z54 (A.1 367 11) (Int32.ofNat 0) A55 (by omega) (by omega) (by omega) (Or.inr F_A55)
theorem hP156 {g d : Nat} {A : hs_A} {K V S : Nat → Int} {E : Nat → Nat → Bool} {t : Nat} {a b c : Nat} {ns : List Nat} {nm sn sd : Nat} {o : Option (Nat × Nat)} {bb zz : Nat} (hS : hmS K S) (hB : hmB K V S E A t (1, a, b, c, ns, nm, sn, o)) (hR : hmR S A t ns sn o sd 0) (hM : hmM V A sd ns (hg_q K V E t).1 bb zz) (hb : (A.1 367 31).toInt = (bb : Int)) (hz : (A.1 367 37).toInt = (zz : Int)) : hpC g d 156 hm_m156 [.ref 368] A (fun r A' => r = none ∧ ((hmOK2 K V S E A' t sd) ∨ (hmF K V S E A'))) := hpC.all (fun f d => hW156 hS hB hR hM hb hz (fun r A' h => h))
theorem hg_lnB {l : hg_B} {q : List (Nat × Int) × List (Nat × Int) × List (Nat × Int)} : (l ++ [q]).length = l.length + 1 := List.length_append
theorem hW157 {g d f : Nat} {A : hs_A} {K V S : Nat → Int} {E : Nat → Nat → Bool} {t k : Nat} {d0 : hg_D} {a b c : Nat} {ns : List Nat} {nm sn sd : Nat} {o : Option (Nat × Nat)} {bb zz : Nat} (a1 : Int32) (hB : hmB K V S E A t (12, a, b, c, ns, nm, sn, o)) (hR : hmR S A t ns sn o sd 0) (hM : hmM V A sd ns d0 bb zz) (hb : (A.1 367 31).toInt = (bb : Int)) (hz : (A.1 367 37).toInt = (zz : Int)) (hG : hg_q K V E t = (d0, (k, [], [], []), [], [])) (hk : k < 4) (ha : a1.toInt = (k : Int)) {P : Option Value → hs_A → Prop} (hP : ∀ (r : Option Value) (A' : hs_A), (r = none ∧ ((hmOK2 K V S E A' t sd) ∨ (hmF K V S E A'))) → P r A') : hpa (f, g) d none hm_t157 0 [.ref 368, .int a1, .retAddr 0, .retAddr 0] [] A P := by
  have k0 := hk_0
  have k1 := hk_1
  have k13 := hk_13
  have k2 := hk_2
  have k28 := hk_28
  have k29 := hk_29
  have k30 := hk_30
  have k4 := hk_4
  have k5 := hk_5
  obtain ⟨h400, hpre, hix, hkk, hss, hvv⟩ := hB.at
  have hnx := hB.2.1
  have hqq := hB.2.2.1
  have hf0 := hB.2.2.2
  have L12 : ∀ (f : Nat) (x12_2 : Int32) (x12_3 : Int32) (A12 : hs_A) (D12 : (∃ (t1 ifs : Nat) (br : hg_B) (c1 c2 : hg_C) (z1 : Nat), t < t1 ∧ hmB K V S E A12 t1 (13, ifs, 0, 0, ns, nm, sn, o) ∧ hmR S A12 t1 ns sn o sd 0 ∧ x12_3.toInt = (ifs : Int) ∧ ifs ≤ 4 ∧ x12_2.toInt = (bb : Int) ∧ (hg_q K V E t1 = (d0, (k, br, c1, c2), [], []) ∧ (A12.1 367 31).toInt = ((bb + br.length : Nat) : Int) ∧ (A12.1 367 37).toInt = (z1 : Int) ∧ hmI V A12 sd ns d0 bb br z1)) ∨ hmF K V S E A12), hpa (f, g) d none hm_t157 12 [.ref 368, .int a1, .int x12_2, .int x12_3] [] A12 P := by
    intro f
    induction f with
    | zero => intros; exact hpa.zero
    | succ f ih12 =>
      intro x12_2 x12_3 A12 D12
      rcases D12 with ⟨t1, ifs, br, c1, c2, z1, lt1, B1, R1, li, l4, l2, G1, b1, e1, I1⟩ | F1
      ·
        have f01 := B1.2.2.2
        have nx1 := B1.2.1
        have rd1 := R1.2.2.1
        have h41 := B1.at.1
        have j28 := B1.i28 hk_28
        have hbi : (A12.1 367 31).toNatClampNeg = bb + br.length := by have := hn_cn (j := A12.1 367 31) (by omega); omega
        refine hpa_aload_nS (by rfl) rfl ?_
        refine hpj_getK (by rfl) (by rfl) (by rfl) rfl ?_
        refine hpj_zne (by rfl) rfl (fun q1 => False.elim (by omega)) (fun q1 => ?_)
        refine hpa_aload_n (by rfl) rfl ?_
        refine hpa_bipush (by rfl) rfl ?_
        refine hpa_call0 (by rfl) (by rfl) (by rfl) (by rfl) (by rfl) (by rfl) (hP144 (Int32.ofNat 28) B1) ?_
        rintro _ _ ⟨rfl, z3, rfl, (⟨fz_A2, e_A2⟩ | ⟨fz_A2, ne_A2⟩)⟩
        ·
          refine hpj_zeq (by rfl) rfl (fun q4 => False.elim (by omega)) (fun q4 => ?_)
          refine hpa_iload_n (by rfl) rfl ?_
          refine hpa_iconst (by rfl) rfl ?_
          refine hpj_cne (by rfl) rfl hk_4 (fun q5 => ?_) (fun q5 => ?_)
          ·
            refine hpa_aload_n (by rfl) rfl ?_
            refine hpj_getK (by rfl) (by rfl) (by rfl) rfl ?_
            refine hpj_zle (by rfl) rfl (fun q6 => ?_) (fun q6 => False.elim (by omega))
            refine hpj_iinc (by rfl) rfl rfl hk_1 (by omega) (by omega) (fun _ => rfl) (fun z7 ez7 => ?_)
            refine hpa_aload_n (by rfl) rfl ?_
            refine hpa_call0 (by rfl) (by rfl) (by rfl) (by rfl) (by rfl) (by rfl) (hP147 B1 R1 ((hqd13_if (by omega)).trans (if_pos (by omega)))) ?_
            rintro _ A8 ⟨rfl, (⟨B_A8, R_A8, Q_A8, G_A8⟩ | F_A8)⟩
            ·
              have f0_A8 := B_A8.2.2.2
              have nx_A8 := B_A8.2.1
              have rd_A8 := R_A8.2.2.1
              have IA8 := I1.Q Q_A8
              have bA8 : (A8.1 367 31).toInt = ((bb + br.length : Nat) : Int) := by rw [Q_A8.1 31 (by omega)]; exact b1
              have zqA8 : (A8.1 367 37).toInt = ((z1 : Nat) : Int) := by rw [Q_A8.1 37 (by omega)]; exact e1
              have G50 : hg_q K V E (t1 + 1) = (d0, (k, br, c1, c2), [], []) := by rw [G_A8, hg_d13i (by omega)]; exact G1
              have hif : z7.toInt = ((ifs + 1 : Nat) : Int) := by omega
              have hif4 : ifs + 1 ≤ 4 := by omega
              have tl0 : t < t1 + 1 := by omega
              refine hpa_aload_n (by rfl) rfl ?_
              refine hpa_get (v := .ref 386) (by rfl) (by rfl) (by rfl) rfl ?_
              refine hpa_aload_n (by rfl) rfl ?_
              refine hpj_getK (by rfl) (by rfl) (by rfl) rfl ?_
              refine hpa_iconst (by rfl) rfl ?_
              refine hpx_zast (by rfl) (by rfl) (by decide) (fun A9 h0A9 h1A9 eA9 fA9 gA9 => ?_)
              have BA9 := B_A8.ar eA9 fA9 gA9 (by omega)
              have RA9 := R_A8.ar eA9 fA9 gA9 (by omega)
              have f0A9 := BA9.2.2.2
              have nxA9 := BA9.2.1
              have rdA9 := RA9.2.2.1
              have biA9 : ((A8.1 367 31)).toNatClampNeg = bb + br.length := by have := hn_cn (j := (A8.1 367 31)) (by omega); omega
              rw [biA9] at fA9
              have IA9 := IA8.ar fA9 (by omega) (Nat.le_refl _)
              have q31A9 : (A9.1 367 31).toInt = ((bb + br.length : Nat) : Int) := by rw [eA9]; exact bA8
              have q37A9 : (A9.1 367 37).toInt = ((z1 : Nat) : Int) := by rw [eA9]; exact zqA8
              refine hpa_aload_n (by rfl) rfl ?_
              refine hpa_get (v := .ref 387) (by rfl) (by rfl) (by rfl) rfl ?_
              refine hpa_aload_n (by rfl) rfl ?_
              refine hpj_getK (by rfl) (by rfl) (by rfl) (hkA eA9 rfl) ?_
              refine hpa_aload_n (by rfl) rfl ?_
              refine hpj_getK (by rfl) (by rfl) (by rfl) (hkA eA9 rfl) ?_
              refine hpx_iast (by rfl) (by rfl) (fun A10 h0A10 h1A10 eA10 fA10 gA10 => ?_)
              have BA10 := BA9.ar eA10 fA10 gA10 (by omega)
              have RA10 := RA9.ar eA10 fA10 gA10 (by omega)
              have f0A10 := BA10.2.2.2
              have nxA10 := BA10.2.1
              have rdA10 := RA10.2.2.1
              have biA10 : ((A8.1 367 31)).toNatClampNeg = bb + br.length := by have := hn_cn (j := (A8.1 367 31)) (by omega); omega
              rw [biA10] at fA10
              have IA10 := IA9.ar fA10 (by omega) (Nat.le_refl _)
              have q31A10 : (A10.1 367 31).toInt = ((bb + br.length : Nat) : Int) := by rw [eA10]; exact q31A9
              have q37A10 : (A10.1 367 37).toInt = ((z1 : Nat) : Int) := by rw [eA10]; exact q37A9
              have PA10 : hmP A10 (bb + br.length) z1 [] [] 0 := hmP.start (j := 0) fA9 fA10 (by omega)
              refine hpa_aload_n (by rfl) rfl ?_
              refine hpa_call0 (by rfl) (by rfl) (by rfl) (by rfl) (by rfl) (by rfl) (hP161 BA10 RA10 rfl G50 (fun _ => rfl) q37A10) ?_
              rintro _ A11 ⟨rfl, (XX_A11 | F_A11)⟩
              ·
                obtain ⟨tXX_A11, pXX_A11, oXX_A11, wXX_A11, ltXX_A11, BXX_A11, RXX_A11, QXX_A11, GXX_A11, EXX_A11, XXX_A11, FRXX_A11⟩ := XX_A11
                have f0XX_A11 := BXX_A11.2.2.2
                have nxXX_A11 := BXX_A11.2.1
                have rdXX_A11 := RXX_A11.2.2.1
                have h4XX_A11 := BXX_A11.at.1
                have tlXX_A11 : t < tXX_A11 := Nat.lt_trans tl0 ltXX_A11
                have IA11 := IA10.Fr (z' := z1 + oXX_A11.length) FRXX_A11 (by omega)
                have PA11 := PA10.one FRXX_A11 XXX_A11.2.1
                have bA11 : (A11.1 367 31).toInt = ((bb + br.length : Nat) : Int) := by rw [FRXX_A11.2.2]; exact q31A10
                refine hpa_aload_n (by rfl) rfl ?_
                refine hpa_bipush (by rfl) rfl ?_
                refine hpa_call0 (by rfl) (by rfl) (by rfl) (by rfl) (by rfl) (by rfl) (hP148 (Int32.ofNat 13) BXX_A11 RXX_A11 (BXX_A11.i13 hk_13) (hqd15_out QXX_A11)) ?_
                rintro _ A12 ⟨rfl, (⟨B_A12, R_A12, Q_A12, G_A12⟩ | F_A12)⟩
                ·
                  have f0_A12 := B_A12.2.2.2
                  have nx_A12 := B_A12.2.1
                  have rd_A12 := R_A12.2.2.1
                  have IA12 := IA11.Q Q_A12
                  have PA12 := PA11.Q Q_A12
                  have bA12 : (A12.1 367 31).toInt = ((bb + br.length : Nat) : Int) := by rw [Q_A12.1 31 (by omega)]; exact bA11
                  have zqA12 : (A12.1 367 37).toInt = ((z1 + oXX_A11.length : Nat) : Int) := by rw [Q_A12.1 37 (by omega)]; exact XXX_A11.1
                  have G79 : hg_q K V E (tXX_A11 + 1) = (d0, (k, br, oXX_A11, c2), [], []) := by rw [G_A12, GXX_A11]; exact hg_dout QXX_A11 EXX_A11
                  have tlG79 : t < tXX_A11 + 1 := Nat.lt_succ_of_lt tlXX_A11
                  refine hpa_aload_n (by rfl) rfl ?_
                  refine hpa_get (v := .ref 388) (by rfl) (by rfl) (by rfl) rfl ?_
                  refine hpa_aload_n (by rfl) rfl ?_
                  refine hpj_getK (by rfl) (by rfl) (by rfl) rfl ?_
                  refine hpa_aload_n (by rfl) rfl ?_
                  refine hpj_getK (by rfl) (by rfl) (by rfl) rfl ?_
                  refine hpx_iast (by rfl) (by rfl) (fun A13 h0A13 h1A13 eA13 fA13 gA13 => ?_)
                  have BA13 := B_A12.ar eA13 fA13 gA13 (by omega)
                  have RA13 := R_A12.ar eA13 fA13 gA13 (by omega)
                  have f0A13 := BA13.2.2.2
                  have nxA13 := BA13.2.1
                  have rdA13 := RA13.2.2.1
                  have biA13 : ((A12.1 367 31)).toNatClampNeg = bb + br.length := by have := hn_cn (j := (A12.1 367 31)) (by omega); omega
                  rw [biA13] at fA13
                  have IA13 := IA12.ar fA13 (by omega) (Nat.le_refl _)
                  have q31A13 : (A13.1 367 31).toInt = ((bb + br.length : Nat) : Int) := by rw [eA13]; exact bA12
                  have q37A13 : (A13.1 367 37).toInt = ((z1 + oXX_A11.length : Nat) : Int) := by rw [eA13]; exact zqA12
                  have PA13 := PA12.mid fA13 (by omega)
                  refine hpa_aload_n (by rfl) rfl ?_
                  refine hpj_getK (by rfl) (by rfl) (by rfl) (hkA eA13 rfl) ?_
                  refine hpj_zne (by rfl) rfl (fun q14 => False.elim (by omega)) (fun q14 => ?_)
                  refine hpa_aload_n (by rfl) rfl ?_
                  refine hpa_call0 (by rfl) (by rfl) (by rfl) (by rfl) (by rfl) (by rfl) (hP161 BA13 RA13 rfl G79 (fun _ => rfl) q37A13) ?_
                  rintro _ A15 ⟨rfl, (XX_A15 | F_A15)⟩
                  ·
                    obtain ⟨tXX_A15, pXX_A15, oXX_A15, wXX_A15, ltXX_A15, BXX_A15, RXX_A15, QXX_A15, GXX_A15, EXX_A15, XXX_A15, FRXX_A15⟩ := XX_A15
                    have f0XX_A15 := BXX_A15.2.2.2
                    have nxXX_A15 := BXX_A15.2.1
                    have rdXX_A15 := RXX_A15.2.2.1
                    have h4XX_A15 := BXX_A15.at.1
                    have tlXX_A15 : t < tXX_A15 := Nat.lt_trans tlG79 ltXX_A15
                    have IA15 := IA13.Fr (z' := z1 + oXX_A11.length + oXX_A15.length) FRXX_A15 (by omega)
                    have PA15 := PA13.two FRXX_A15 XXX_A15.2.1
                    have bA15 : (A15.1 367 31).toInt = ((bb + br.length : Nat) : Int) := by rw [FRXX_A15.2.2]; exact q31A13
                    refine hpa_aload_n (by rfl) rfl ?_
                    refine hpa_bipush (by rfl) rfl ?_
                    refine hpa_call0 (by rfl) (by rfl) (by rfl) (by rfl) (by rfl) (by rfl) (hP148 (Int32.ofNat 29) BXX_A15 RXX_A15 (BXX_A15.i29 hk_29) (hqd15_out QXX_A15)) ?_
                    rintro _ A16 ⟨rfl, (⟨B_A16, R_A16, Q_A16, G_A16⟩ | F_A16)⟩
                    ·
                      have f0_A16 := B_A16.2.2.2
                      have nx_A16 := B_A16.2.1
                      have rd_A16 := R_A16.2.2.1
                      have IA16 := IA15.Q Q_A16
                      have PA16 := PA15.Q Q_A16
                      have bA16 : (A16.1 367 31).toInt = ((bb + br.length : Nat) : Int) := by rw [Q_A16.1 31 (by omega)]; exact bA15
                      have zqA16 : (A16.1 367 37).toInt = ((z1 + oXX_A11.length + oXX_A15.length : Nat) : Int) := by rw [Q_A16.1 37 (by omega)]; exact XXX_A15.1
                      have G96 : hg_q K V E (tXX_A15 + 1) = (d0, (k, br, oXX_A11, oXX_A15), [], []) := by rw [G_A16, GXX_A15]; exact hg_dout QXX_A15 EXX_A15
                      have tlG96 : t < tXX_A15 + 1 := Nat.lt_succ_of_lt tlXX_A15
                      refine hpa_aload_n (by rfl) rfl ?_
                      refine hpa_call0 (by rfl) (by rfl) (by rfl) (by rfl) (by rfl) (by rfl) (hP158 B_A16 R_A16 rfl G96 (fun _ => rfl) zqA16 bA16) ?_
                      rintro _ A17 ⟨rfl, (TX_A17 | F_A17)⟩
                      ·
                        obtain ⟨tTX_A17, pTX_A17, oTX_A17, wTX_A17, ltTX_A17, BTX_A17, RTX_A17, QTX_A17, GTX_A17, ETX_A17, ⟨u37A17, u31A17, u388A17, u389A17⟩, sgA17, tfA17⟩ := TX_A17
                        have f0TX_A17 := BTX_A17.2.2.2
                        have nxTX_A17 := BTX_A17.2.1
                        have rdTX_A17 := RTX_A17.2.2.1
                        have h4TX_A17 := BTX_A17.at.1
                        have tlTX_A17 : t < tTX_A17 := Nat.lt_trans tlG96 ltTX_A17
                        have IA17 := IA16.Tf (z' := z1 + oXX_A11.length + oXX_A15.length + oTX_A17.length) tfA17 (by omega)
                        have DA17 := PA16.done tfA17 u388A17 u389A17 sgA17
                        have IA17x : hmI V A17 sd ns d0 bb (br ++ [(oXX_A11, oXX_A15, oTX_A17)]) (z1 + oXX_A11.length + oXX_A15.length + oTX_A17.length) := ⟨hmBr.snoc IA17.1 DA17, IA17.2⟩
                        refine hpa_aload_n (by rfl) rfl ?_
                        refine hpa_bipush (by rfl) rfl ?_
                        refine hpa_call0 (by rfl) (by rfl) (by rfl) (by rfl) (by rfl) (by rfl) (hP148 (Int32.ofNat 30) BTX_A17 RTX_A17 (BTX_A17.i30 hk_30) (hqd15_out QTX_A17)) ?_
                        rintro _ A18 ⟨rfl, (⟨B_A18, R_A18, Q_A18, G_A18⟩ | F_A18)⟩
                        ·
                          have f0_A18 := B_A18.2.2.2
                          have nx_A18 := B_A18.2.1
                          have rd_A18 := R_A18.2.2.1
                          have IA18 := IA17x.Q Q_A18
                          have G123 : hg_q K V E (tTX_A17 + 1) = (d0, (k, (br ++ [(oXX_A11, oXX_A15, oTX_A17)]), [], []), [], []) := by rw [G_A18, GTX_A17]; exact hg_dout QTX_A17 ETX_A17
                          have v31 : (A18.1 367 31).toInt = ((bb + br.length : Nat) : Int) + 1 := by rw [Q_A18.1 31 (by omega)]; exact u31A17
                          have v37 : (A18.1 367 37).toInt = ((z1 + oXX_A11.length + oXX_A15.length + oTX_A17.length : Nat) : Int) := by rw [Q_A18.1 37 (by omega)]; exact u37A17
                          refine hpa_goto (by rfl) ?_
                          have v31x : (A18.1 367 31).toInt = ((bb + (br ++ [(oXX_A11, oXX_A15, oTX_A17)]).length : Nat) : Int) := by rw [v31, hg_lnB]; rfl
                          exact ih12 x12_2 z7 A18 (Or.inl ⟨tTX_A17 + 1, ifs + 1, (br ++ [(oXX_A11, oXX_A15, oTX_A17)]), [], [], z1 + oXX_A11.length + oXX_A15.length + oTX_A17.length, Nat.lt_succ_of_lt tlTX_A17, B_A18, R_A18, hif, hif4, l2, G123, v31x, v37, IA18⟩)
                        ·
                          have fp_A18 := F_A18.pos
                          refine hpa_goto (by rfl) ?_
                          exact ih12 x12_2 z7 A18 (Or.inr F_A18)
                      ·
                        have fp_A17 := F_A17.pos
                        refine hpa_aload_n (by rfl) rfl ?_
                        refine hpa_bipush (by rfl) rfl ?_
                        refine hpa_call0 (by rfl) (by rfl) (by rfl) (by rfl) (by rfl) (by rfl) (hP148d (Int32.ofNat 30) F_A17) ?_
                        rintro _ A19 ⟨rfl, F_A19⟩
                        have fp_A19 := F_A19.pos
                        refine hpa_goto (by rfl) ?_
                        exact ih12 x12_2 z7 A19 (Or.inr F_A19)
                    ·
                      have fp_A16 := F_A16.pos
                      refine hpa_aload_n (by rfl) rfl ?_
                      refine hpa_call0 (by rfl) (by rfl) (by rfl) (by rfl) (by rfl) (by rfl) (hP158d F_A16) ?_
                      rintro _ A20 ⟨rfl, F_A20⟩
                      have fp_A20 := F_A20.pos
                      refine hpa_aload_n (by rfl) rfl ?_
                      refine hpa_bipush (by rfl) rfl ?_
                      refine hpa_call0 (by rfl) (by rfl) (by rfl) (by rfl) (by rfl) (by rfl) (hP148d (Int32.ofNat 30) F_A20) ?_
                      rintro _ A21 ⟨rfl, F_A21⟩
                      have fp_A21 := F_A21.pos
                      refine hpa_goto (by rfl) ?_
                      exact ih12 x12_2 z7 A21 (Or.inr F_A21)
                  ·
                    have fp_A15 := F_A15.pos
                    refine hpa_aload_n (by rfl) rfl ?_
                    refine hpa_bipush (by rfl) rfl ?_
                    refine hpa_call0 (by rfl) (by rfl) (by rfl) (by rfl) (by rfl) (by rfl) (hP148d (Int32.ofNat 29) F_A15) ?_
                    rintro _ A22 ⟨rfl, F_A22⟩
                    have fp_A22 := F_A22.pos
                    refine hpa_aload_n (by rfl) rfl ?_
                    refine hpa_call0 (by rfl) (by rfl) (by rfl) (by rfl) (by rfl) (by rfl) (hP158d F_A22) ?_
                    rintro _ A23 ⟨rfl, F_A23⟩
                    have fp_A23 := F_A23.pos
                    refine hpa_aload_n (by rfl) rfl ?_
                    refine hpa_bipush (by rfl) rfl ?_
                    refine hpa_call0 (by rfl) (by rfl) (by rfl) (by rfl) (by rfl) (by rfl) (hP148d (Int32.ofNat 30) F_A23) ?_
                    rintro _ A24 ⟨rfl, F_A24⟩
                    have fp_A24 := F_A24.pos
                    refine hpa_goto (by rfl) ?_
                    exact ih12 x12_2 z7 A24 (Or.inr F_A24)
                ·
                  have fp_A12 := F_A12.pos
                  refine hpa_aload_n (by rfl) rfl ?_
                  refine hpa_get (v := .ref 388) (by rfl) (by rfl) (by rfl) rfl ?_
                  refine hpa_aload_n (by rfl) rfl ?_
                  refine hpj_getK (by rfl) (by rfl) (by rfl) rfl ?_
                  refine hpa_aload_n (by rfl) rfl ?_
                  refine hpj_getK (by rfl) (by rfl) (by rfl) rfl ?_
                  refine hpx_iast (by rfl) (by rfl) (fun A25 h0A25 h1A25 eA25 fA25 gA25 => ?_)
                  have FA25 := F_A12.ar eA25 gA25
                  have fpA25 := FA25.pos
                  refine hpa_aload_n (by rfl) rfl ?_
                  refine hpj_getK (by rfl) (by rfl) (by rfl) (hkA eA25 rfl) ?_
                  refine hpj_zne (by rfl) rfl (fun q26 => ?_) (fun q26 => False.elim (by omega))
                  refine hpa_aload_n (by rfl) rfl ?_
                  refine hpa_bipush (by rfl) rfl ?_
                  refine hpa_call0 (by rfl) (by rfl) (by rfl) (by rfl) (by rfl) (by rfl) (hP148d (Int32.ofNat 29) FA25) ?_
                  rintro _ A27 ⟨rfl, F_A27⟩
                  have fp_A27 := F_A27.pos
                  refine hpa_aload_n (by rfl) rfl ?_
                  refine hpa_call0 (by rfl) (by rfl) (by rfl) (by rfl) (by rfl) (by rfl) (hP158d F_A27) ?_
                  rintro _ A28 ⟨rfl, F_A28⟩
                  have fp_A28 := F_A28.pos
                  refine hpa_aload_n (by rfl) rfl ?_
                  refine hpa_bipush (by rfl) rfl ?_
                  refine hpa_call0 (by rfl) (by rfl) (by rfl) (by rfl) (by rfl) (by rfl) (hP148d (Int32.ofNat 30) F_A28) ?_
                  rintro _ A29 ⟨rfl, F_A29⟩
                  have fp_A29 := F_A29.pos
                  refine hpa_goto (by rfl) ?_
                  exact ih12 x12_2 z7 A29 (Or.inr F_A29)
              ·
                have fp_A11 := F_A11.pos
                refine hpa_aload_n (by rfl) rfl ?_
                refine hpa_bipush (by rfl) rfl ?_
                refine hpa_call0 (by rfl) (by rfl) (by rfl) (by rfl) (by rfl) (by rfl) (hP148d (Int32.ofNat 13) F_A11) ?_
                rintro _ A30 ⟨rfl, F_A30⟩
                have fp_A30 := F_A30.pos
                refine hpa_aload_n (by rfl) rfl ?_
                refine hpa_get (v := .ref 388) (by rfl) (by rfl) (by rfl) rfl ?_
                refine hpa_aload_n (by rfl) rfl ?_
                refine hpj_getK (by rfl) (by rfl) (by rfl) rfl ?_
                refine hpa_aload_n (by rfl) rfl ?_
                refine hpj_getK (by rfl) (by rfl) (by rfl) rfl ?_
                refine hpx_iast (by rfl) (by rfl) (fun A31 h0A31 h1A31 eA31 fA31 gA31 => ?_)
                have FA31 := F_A30.ar eA31 gA31
                have fpA31 := FA31.pos
                refine hpa_aload_n (by rfl) rfl ?_
                refine hpj_getK (by rfl) (by rfl) (by rfl) (hkA eA31 rfl) ?_
                refine hpj_zne (by rfl) rfl (fun q32 => ?_) (fun q32 => False.elim (by omega))
                refine hpa_aload_n (by rfl) rfl ?_
                refine hpa_bipush (by rfl) rfl ?_
                refine hpa_call0 (by rfl) (by rfl) (by rfl) (by rfl) (by rfl) (by rfl) (hP148d (Int32.ofNat 29) FA31) ?_
                rintro _ A33 ⟨rfl, F_A33⟩
                have fp_A33 := F_A33.pos
                refine hpa_aload_n (by rfl) rfl ?_
                refine hpa_call0 (by rfl) (by rfl) (by rfl) (by rfl) (by rfl) (by rfl) (hP158d F_A33) ?_
                rintro _ A34 ⟨rfl, F_A34⟩
                have fp_A34 := F_A34.pos
                refine hpa_aload_n (by rfl) rfl ?_
                refine hpa_bipush (by rfl) rfl ?_
                refine hpa_call0 (by rfl) (by rfl) (by rfl) (by rfl) (by rfl) (by rfl) (hP148d (Int32.ofNat 30) F_A34) ?_
                rintro _ A35 ⟨rfl, F_A35⟩
                have fp_A35 := F_A35.pos
                refine hpa_goto (by rfl) ?_
                exact ih12 x12_2 z7 A35 (Or.inr F_A35)
            ·
              have fp_A8 := F_A8.pos
              refine hpa_aload_n (by rfl) rfl ?_
              refine hpa_get (v := .ref 386) (by rfl) (by rfl) (by rfl) rfl ?_
              refine hpa_aload_n (by rfl) rfl ?_
              refine hpj_getK (by rfl) (by rfl) (by rfl) rfl ?_
              refine hpa_iconst (by rfl) rfl ?_
              refine hpx_zast (by rfl) (by rfl) (by decide) (fun A36 h0A36 h1A36 eA36 fA36 gA36 => ?_)
              have FA36 := F_A8.ar eA36 gA36
              have fpA36 := FA36.pos
              refine hpa_aload_n (by rfl) rfl ?_
              refine hpa_get (v := .ref 387) (by rfl) (by rfl) (by rfl) rfl ?_
              refine hpa_aload_n (by rfl) rfl ?_
              refine hpj_getK (by rfl) (by rfl) (by rfl) (hkA eA36 rfl) ?_
              refine hpa_aload_n (by rfl) rfl ?_
              refine hpj_getK (by rfl) (by rfl) (by rfl) (hkA eA36 rfl) ?_
              refine hpx_iast (by rfl) (by rfl) (fun A37 h0A37 h1A37 eA37 fA37 gA37 => ?_)
              have FA37 := FA36.ar eA37 gA37
              have fpA37 := FA37.pos
              refine hpa_aload_n (by rfl) rfl ?_
              refine hpa_call0 (by rfl) (by rfl) (by rfl) (by rfl) (by rfl) (by rfl) (hP161d FA37) ?_
              rintro _ A38 ⟨rfl, F_A38⟩
              have fp_A38 := F_A38.pos
              refine hpa_aload_n (by rfl) rfl ?_
              refine hpa_bipush (by rfl) rfl ?_
              refine hpa_call0 (by rfl) (by rfl) (by rfl) (by rfl) (by rfl) (by rfl) (hP148d (Int32.ofNat 13) F_A38) ?_
              rintro _ A39 ⟨rfl, F_A39⟩
              have fp_A39 := F_A39.pos
              refine hpa_aload_n (by rfl) rfl ?_
              refine hpa_get (v := .ref 388) (by rfl) (by rfl) (by rfl) rfl ?_
              refine hpa_aload_n (by rfl) rfl ?_
              refine hpj_getK (by rfl) (by rfl) (by rfl) rfl ?_
              refine hpa_aload_n (by rfl) rfl ?_
              refine hpj_getK (by rfl) (by rfl) (by rfl) rfl ?_
              refine hpx_iast (by rfl) (by rfl) (fun A40 h0A40 h1A40 eA40 fA40 gA40 => ?_)
              have FA40 := F_A39.ar eA40 gA40
              have fpA40 := FA40.pos
              refine hpa_aload_n (by rfl) rfl ?_
              refine hpj_getK (by rfl) (by rfl) (by rfl) (hkA eA40 rfl) ?_
              refine hpj_zne (by rfl) rfl (fun q41 => ?_) (fun q41 => False.elim (by omega))
              refine hpa_aload_n (by rfl) rfl ?_
              refine hpa_bipush (by rfl) rfl ?_
              refine hpa_call0 (by rfl) (by rfl) (by rfl) (by rfl) (by rfl) (by rfl) (hP148d (Int32.ofNat 29) FA40) ?_
              rintro _ A42 ⟨rfl, F_A42⟩
              have fp_A42 := F_A42.pos
              refine hpa_aload_n (by rfl) rfl ?_
              refine hpa_call0 (by rfl) (by rfl) (by rfl) (by rfl) (by rfl) (by rfl) (hP158d F_A42) ?_
              rintro _ A43 ⟨rfl, F_A43⟩
              have fp_A43 := F_A43.pos
              refine hpa_aload_n (by rfl) rfl ?_
              refine hpa_bipush (by rfl) rfl ?_
              refine hpa_call0 (by rfl) (by rfl) (by rfl) (by rfl) (by rfl) (by rfl) (hP148d (Int32.ofNat 30) F_A43) ?_
              rintro _ A44 ⟨rfl, F_A44⟩
              have fp_A44 := F_A44.pos
              refine hpa_goto (by rfl) ?_
              exact ih12 x12_2 z7 A44 (Or.inr F_A44)
          ·
            refine hpa_aload_n (by rfl) rfl ?_
            refine hpa_iconst (by rfl) rfl ?_
            refine hpa_call0 (by rfl) (by rfl) (by rfl) (by rfl) (by rfl) (by rfl) (hP145 (Int32.ofNat 2) B1 ⟨_, B1.2.2.1, (hqd13_if (by omega)).trans (if_neg (by omega))⟩ (by decide) hk_2) ?_
            rintro _ A45 ⟨rfl, F_A45⟩
            have fp_A45 := F_A45.pos
            refine hpa_aload_n (by rfl) rfl ?_
            refine hpj_getK (by rfl) (by rfl) (by rfl) rfl ?_
            refine hpj_zle (by rfl) rfl (fun q46 => False.elim (by omega)) (fun q46 => ?_)
            exact hpa_return (by rfl) rfl (hP _ _ ⟨rfl, Or.inr F_A45⟩)
        ·
          refine hpj_zeq (by rfl) rfl (fun q47 => ?_) (fun q47 => False.elim (by omega))
          refine hpa_aload_n (by rfl) rfl ?_
          refine hpa_get (v := .ref 386) (by rfl) (by rfl) (by rfl) rfl ?_
          refine hpa_aload_n (by rfl) rfl ?_
          refine hpj_getK (by rfl) (by rfl) (by rfl) rfl ?_
          refine hpa_iconst (by rfl) rfl ?_
          refine hpx_zast (by rfl) (by rfl) (by decide) (fun A48 h0A48 h1A48 eA48 fA48 gA48 => ?_)
          have BA48 := B1.ar eA48 fA48 gA48 (by omega)
          have RA48 := R1.ar eA48 fA48 gA48 (by omega)
          have f0A48 := BA48.2.2.2
          have nxA48 := BA48.2.1
          have rdA48 := RA48.2.2.1
          have biA48 : ((A12.1 367 31)).toNatClampNeg = bb + br.length := by have := hn_cn (j := (A12.1 367 31)) (by omega); omega
          rw [biA48] at fA48
          have IA48 := I1.ar fA48 (by omega) (Nat.le_refl _)
          have q31A48 : (A48.1 367 31).toInt = ((bb + br.length : Nat) : Int) := by rw [eA48]; exact b1
          have q37A48 : (A48.1 367 37).toInt = ((z1 : Nat) : Int) := by rw [eA48]; exact e1
          refine hpa_aload_n (by rfl) rfl ?_
          refine hpa_call0 (by rfl) (by rfl) (by rfl) (by rfl) (by rfl) (by rfl) (hP158 BA48 RA48 (hqd13_un (by omega)) G1 (fun _ => hg_d13u (by omega)) q37A48 q31A48) ?_
          rintro _ A49 ⟨rfl, (TX_A49 | F_A49)⟩
          ·
            obtain ⟨tTX_A49, pTX_A49, oTX_A49, wTX_A49, ltTX_A49, BTX_A49, RTX_A49, QTX_A49, GTX_A49, ETX_A49, ⟨u37A49, u31A49, u388A49, u389A49⟩, sgA49, tfA49⟩ := TX_A49
            have f0TX_A49 := BTX_A49.2.2.2
            have nxTX_A49 := BTX_A49.2.1
            have rdTX_A49 := RTX_A49.2.2.1
            have h4TX_A49 := BTX_A49.at.1
            have IA49 := IA48.Tf (z' := z1 + oTX_A49.length) tfA49 (by omega)
            refine hpa_aload_n (by rfl) rfl ?_
            refine hpa_iconst (by rfl) rfl ?_
            refine hpa_call0 (by rfl) (by rfl) (by rfl) (by rfl) (by rfl) (by rfl) (hP148 (Int32.ofNat 4) BTX_A49 RTX_A49 (BTX_A49.i4 hk_4) (hqd15_out QTX_A49)) ?_
            rintro _ A50 ⟨rfl, (⟨B_A50, R_A50, Q_A50, G_A50⟩ | F_A50)⟩
            ·
              have f0_A50 := B_A50.2.2.2
              have nx_A50 := B_A50.2.1
              have rd_A50 := R_A50.2.2.1
              have IA50 := IA49.Q Q_A50
              have G163 : hg_q K V E (tTX_A49 + 1) = ((d0.1, d0.2.1, d0.2.2.1, fun q => if q = k then (br, oTX_A49) else d0.2.2.2 q), (k, br, c1, c2), [], []) := by rw [G_A50, GTX_A49]; exact hg_dout QTX_A49 ETX_A49
              have v31 : (A50.1 367 31).toInt = ((bb + br.length : Nat) : Int) + 1 := by rw [Q_A50.1 31 (by omega)]; exact u31A49
              have v37 : (A50.1 367 37).toInt = ((z1 + oTX_A49.length : Nat) : Int) := by rw [Q_A50.1 37 (by omega)]; exact u37A49
              have T1 : hmT1 A50 (z1 + oTX_A49.length) (bb + br.length) oTX_A49 := ⟨_, by rw [Q_A50.2, tfA49.1 _ _ (by omega) (by omega) (by omega), fA48, hup1], by rw [Q_A50.2]; exact u388A49, by rw [Q_A50.2]; exact u389A49, Nat.le_refl _, by rw [Q_A50.2]; exact sgA49⟩
              have rs := R_A50.1
              have rs1 := R_A50.2.1
              refine hpa_aload_n (by rfl) rfl ?_
              refine hpj_getK (by rfl) (by rfl) (by rfl) rfl ?_
              refine hpj_zle (by rfl) rfl (fun q51 => ?_) (fun q51 => False.elim (by omega))
              refine hpa_aload_n (by rfl) rfl ?_
              refine hpa_get (v := .ref 384) (by rfl) (by rfl) (by rfl) rfl ?_
              refine hpa_iconst (by rfl) rfl ?_
              refine hpa_aload_n (by rfl) rfl ?_
              refine hpj_getK (by rfl) (by rfl) (by rfl) rfl ?_
              refine hpj_imul (by rfl) hk_4 rfl (by omega) (by omega) (fun z52 ez52 => ?_)
              refine hpa_iload_n (by rfl) rfl ?_
              refine hpj_iadd (by rfl) rfl rfl (by omega) (by omega) (fun z53 ez53 => ?_)
              refine hpa_iload_n (by rfl) rfl ?_
              refine hpx_iast (by rfl) (by rfl) (fun A54 h0A54 h1A54 eA54 fA54 gA54 => ?_)
              have BA54 := B_A50.ar eA54 fA54 gA54 (by omega)
              have RA54 := R_A50.ar eA54 fA54 gA54 (by omega)
              have f0A54 := BA54.2.2.2
              have nxA54 := BA54.2.1
              have rdA54 := RA54.2.2.1
              have liA54 : (z53).toNatClampNeg = 4 * sd + k := by have := hn_cn (j := z53) (by omega); omega
              rw [liA54] at fA54
              refine hpa_aload_n (by rfl) rfl ?_
              refine hpa_get (v := .ref 385) (by rfl) (by rfl) (by rfl) rfl ?_
              refine hpa_iconst (by rfl) rfl ?_
              refine hpa_aload_n (by rfl) rfl ?_
              refine hpj_getK (by rfl) (by rfl) (by rfl) (hkA eA54 rfl) ?_
              refine hpj_imul (by rfl) hk_4 rfl (by omega) (by omega) (fun z55 ez55 => ?_)
              refine hpa_iload_n (by rfl) rfl ?_
              refine hpj_iadd (by rfl) rfl rfl (by omega) (by omega) (fun z56 ez56 => ?_)
              refine hpa_aload_n (by rfl) rfl ?_
              refine hpj_getK (by rfl) (by rfl) (by rfl) (hkA eA54 rfl) ?_
              refine hpx_iast (by rfl) (by rfl) (fun A57 h0A57 h1A57 eA57 fA57 gA57 => ?_)
              have BA57 := BA54.ar eA57 fA57 gA57 (by omega)
              have RA57 := RA54.ar eA57 fA57 gA57 (by omega)
              have f0A57 := BA57.2.2.2
              have nxA57 := BA57.2.1
              have rdA57 := RA57.2.2.1
              have liA57 : (z56).toNatClampNeg = 4 * sd + k := by have := hn_cn (j := z56) (by omega); omega
              rw [liA57] at fA57
              exact hpa_return (by rfl) rfl (hP _ _ ⟨rfl, Or.inl ⟨_, _, _, _, _, _, _, _, bb + br.length + 1, _, by omega, BA57, RA57, by rw [G163]; exact (IA50.2.law (b0 := bb) (b1 := bb + br.length + 1) (b' := bb + br.length + 1) hk fA54 fA57 (by omega) (by omega) (by omega) (Or.inr ⟨rfl, Nat.le_refl _, IA50.1, T1⟩)), by rw [eA57, eA54]; omega, by rw [eA57, eA54]; exact v37⟩⟩)
            ·
              have fp_A50 := F_A50.pos
              refine hpa_aload_n (by rfl) rfl ?_
              refine hpj_getK (by rfl) (by rfl) (by rfl) rfl ?_
              refine hpj_zle (by rfl) rfl (fun q58 => False.elim (by omega)) (fun q58 => ?_)
              exact hpa_return (by rfl) rfl (hP _ _ ⟨rfl, Or.inr F_A50⟩)
          ·
            have fp_A49 := F_A49.pos
            refine hpa_aload_n (by rfl) rfl ?_
            refine hpa_iconst (by rfl) rfl ?_
            refine hpa_call0 (by rfl) (by rfl) (by rfl) (by rfl) (by rfl) (by rfl) (hP148d (Int32.ofNat 4) F_A49) ?_
            rintro _ A59 ⟨rfl, F_A59⟩
            have fp_A59 := F_A59.pos
            refine hpa_aload_n (by rfl) rfl ?_
            refine hpj_getK (by rfl) (by rfl) (by rfl) rfl ?_
            refine hpj_zle (by rfl) rfl (fun q60 => False.elim (by omega)) (fun q60 => ?_)
            exact hpa_return (by rfl) rfl (hP _ _ ⟨rfl, Or.inr F_A59⟩)
      ·
        have fp1 := F1.pos
        refine hpa_aload_nS (by rfl) rfl ?_
        refine hpj_getK (by rfl) (by rfl) (by rfl) rfl ?_
        refine hpj_zne (by rfl) rfl (fun q61 => ?_) (fun q61 => False.elim (by omega))
        refine hpa_aload_n (by rfl) rfl ?_
        refine hpa_get (v := .ref 386) (by rfl) (by rfl) (by rfl) rfl ?_
        refine hpa_aload_n (by rfl) rfl ?_
        refine hpj_getK (by rfl) (by rfl) (by rfl) rfl ?_
        refine hpa_iconst (by rfl) rfl ?_
        refine hpx_zast (by rfl) (by rfl) (by decide) (fun A62 h0A62 h1A62 eA62 fA62 gA62 => ?_)
        have FA62 := F1.ar eA62 gA62
        have fpA62 := FA62.pos
        refine hpa_aload_n (by rfl) rfl ?_
        refine hpa_call0 (by rfl) (by rfl) (by rfl) (by rfl) (by rfl) (by rfl) (hP158d FA62) ?_
        rintro _ A63 ⟨rfl, F_A63⟩
        have fp_A63 := F_A63.pos
        refine hpa_aload_n (by rfl) rfl ?_
        refine hpa_iconst (by rfl) rfl ?_
        refine hpa_call0 (by rfl) (by rfl) (by rfl) (by rfl) (by rfl) (by rfl) (hP148d (Int32.ofNat 4) F_A63) ?_
        rintro _ A64 ⟨rfl, F_A64⟩
        have fp_A64 := F_A64.pos
        refine hpa_aload_n (by rfl) rfl ?_
        refine hpj_getK (by rfl) (by rfl) (by rfl) rfl ?_
        refine hpj_zle (by rfl) rfl (fun q65 => False.elim (by omega)) (fun q65 => ?_)
        exact hpa_return (by rfl) rfl (hP _ _ ⟨rfl, Or.inr F_A64⟩)
  refine hpa_aload_n (by rfl) rfl ?_
  refine hpa_iconst (by rfl) rfl ?_
  refine hpa_call0 (by rfl) (by rfl) (by rfl) (by rfl) (by rfl) (by rfl) (hP148 (Int32.ofNat 5) hB hR (hB.i5 hk_5) rfl) ?_
  rintro _ A66 ⟨rfl, (⟨B_A66, R_A66, Q_A66, G_A66⟩ | F_A66)⟩
  ·
    have f0_A66 := B_A66.2.2.2
    have nx_A66 := B_A66.2.1
    have rd_A66 := R_A66.2.2.1
    refine hpa_aload_n (by rfl) rfl ?_
    refine hpj_getK (by rfl) (by rfl) (by rfl) rfl ?_
    refine hpa_s1 (by rfl) (Or.inl ⟨_, rfl, rfl⟩) rfl ?_
    refine hpa_iconst (by rfl) rfl ?_
    refine hpa_s1 (by rfl) (Or.inl ⟨_, rfl, rfl⟩) rfl ?_
    exact L12 _ (A66.1 367 31) (Int32.ofNat 0) A66 (Or.inl ⟨_, 0, [], [], [], zz, by omega, B_A66, R_A66, hk_0, by omega, by rw [Q_A66.1 31 (by omega)]; exact hb, G_A66.trans hG, by rw [Q_A66.1 31 (by omega)]; exact hb, by rw [Q_A66.1 37 (by omega)]; exact hz, trivial, hM.Q Q_A66⟩)
  ·
    have fp_A66 := F_A66.pos
    refine hpa_aload_n (by rfl) rfl ?_
    refine hpj_getK (by rfl) (by rfl) (by rfl) rfl ?_
    refine hpa_s1 (by rfl) (Or.inl ⟨_, rfl, rfl⟩) rfl ?_
    refine hpa_iconst (by rfl) rfl ?_
    refine hpa_s1 (by rfl) (Or.inl ⟨_, rfl, rfl⟩) rfl ?_
    exact L12 _ (A66.1 367 31) (Int32.ofNat 0) A66 (Or.inr F_A66)
theorem hP157 {g d : Nat} {A : hs_A} {K V S : Nat → Int} {E : Nat → Nat → Bool} {t k : Nat} {d0 : hg_D} {a b c : Nat} {ns : List Nat} {nm sn sd : Nat} {o : Option (Nat × Nat)} {bb zz : Nat} (a1 : Int32) (hB : hmB K V S E A t (12, a, b, c, ns, nm, sn, o)) (hR : hmR S A t ns sn o sd 0) (hM : hmM V A sd ns d0 bb zz) (hb : (A.1 367 31).toInt = (bb : Int)) (hz : (A.1 367 37).toInt = (zz : Int)) (hG : hg_q K V E t = (d0, (k, [], [], []), [], [])) (hk : k < 4) (ha : a1.toInt = (k : Int)) : hpC g d 157 hm_m157 [.ref 368, .int a1] A (fun r A' => r = none ∧ ((hmOK2 K V S E A' t sd) ∨ (hmF K V S E A'))) := hpC.all (fun f d => hW157 a1 hB hR hM hb hz hG hk ha (fun r A' h => h))
theorem hW157d {g d f : Nat} {A : hs_A} {K V S : Nat → Int} {E : Nat → Nat → Bool} (a1 : Int32) (hF : hmF K V S E A) {P : Option Value → hs_A → Prop} (hP : ∀ (r : Option Value) (A' : hs_A), (r = none ∧ (hmF K V S E A')) → P r A') : hpa (f, g) d none hm_t157 0 [.ref 368, .int a1, .retAddr 0, .retAddr 0] [] A P := by
  have k0 := hk_0
  have k4 := hk_4
  have k5 := hk_5
  have hfp := hF.pos
  refine hpa_aload_n (by rfl) rfl ?_
  refine hpa_iconst (by rfl) rfl ?_
  refine hpa_call0 (by rfl) (by rfl) (by rfl) (by rfl) (by rfl) (by rfl) (hP148d (Int32.ofNat 5) hF) ?_
  rintro _ A1 ⟨rfl, F_A1⟩
  have fp_A1 := F_A1.pos
  refine hpa_aload_n (by rfl) rfl ?_
  refine hpj_getK (by rfl) (by rfl) (by rfl) rfl ?_
  refine hpa_s1 (by rfl) (Or.inl ⟨_, rfl, rfl⟩) rfl ?_
  refine hpa_iconst (by rfl) rfl ?_
  refine hpa_s1 (by rfl) (Or.inl ⟨_, rfl, rfl⟩) rfl ?_
  refine hpa_aload_n (by rfl) rfl ?_
  refine hpj_getK (by rfl) (by rfl) (by rfl) rfl ?_
  refine hpj_zne (by rfl) rfl (fun q2 => ?_) (fun q2 => False.elim (by omega))
  refine hpa_aload_n (by rfl) rfl ?_
  refine hpa_get (v := .ref 386) (by rfl) (by rfl) (by rfl) rfl ?_
  refine hpa_aload_n (by rfl) rfl ?_
  refine hpj_getK (by rfl) (by rfl) (by rfl) rfl ?_
  refine hpa_iconst (by rfl) rfl ?_
  refine hpx_zast (by rfl) (by rfl) (by decide) (fun A3 h0A3 h1A3 eA3 fA3 gA3 => ?_)
  have FA3 := F_A1.ar eA3 gA3
  have fpA3 := FA3.pos
  refine hpa_aload_n (by rfl) rfl ?_
  refine hpa_call0 (by rfl) (by rfl) (by rfl) (by rfl) (by rfl) (by rfl) (hP158d FA3) ?_
  rintro _ A4 ⟨rfl, F_A4⟩
  have fp_A4 := F_A4.pos
  refine hpa_aload_n (by rfl) rfl ?_
  refine hpa_iconst (by rfl) rfl ?_
  refine hpa_call0 (by rfl) (by rfl) (by rfl) (by rfl) (by rfl) (by rfl) (hP148d (Int32.ofNat 4) F_A4) ?_
  rintro _ A5 ⟨rfl, F_A5⟩
  have fp_A5 := F_A5.pos
  refine hpa_aload_n (by rfl) rfl ?_
  refine hpj_getK (by rfl) (by rfl) (by rfl) rfl ?_
  refine hpj_zle (by rfl) rfl (fun q6 => False.elim (by omega)) (fun q6 => ?_)
  exact hpa_return (by rfl) rfl (hP _ _ ⟨rfl, F_A5⟩)
theorem hP157d {g d : Nat} {A : hs_A} {K V S : Nat → Int} {E : Nat → Nat → Bool} (a1 : Int32) (hF : hmF K V S E A) : hpC g d 157 hm_m157 [.ref 368, .int a1] A (fun r A' => r = none ∧ (hmF K V S E A')) := hpC.all (fun f d => hW157d a1 hF (fun r A' h => h))
theorem hW154 {g d f : Nat} {A : hs_A} {K V S : Nat → Int} {E : Nat → Nat → Bool} {t : Nat} {a b c : Nat} {ns : List Nat} {nm sn sd : Nat} {o : Option (Nat × Nat)} {bb zz : Nat} (hS : hmS K S) (hV : hg_V K V) (hB : hmB K V S E A t (0, a, b, c, ns, nm, sn, o)) (hR : hmR S A t ns sn o sd 0) (hM : hmM V A sd ns (hg_q K V E t).1 bb zz) (hb : (A.1 367 31).toInt = (bb : Int)) (hz : (A.1 367 37).toInt = (zz : Int)) (hne : ¬ K t = 22) {P : Option Value → hs_A → Prop} (hP : ∀ (r : Option Value) (A' : hs_A), (r = none ∧ ((hmOK2 K V S E A' t sd) ∨ (hmF K V S E A'))) → P r A') : hpa (f, g) d none hm_t154 0 [.ref 368, .retAddr 0, .retAddr 0] [] A P := by
  have k0 := hk_0
  have k1 := hk_1
  have k10 := hk_10
  have k22 := hk_22
  have k23 := hk_23
  have k24 := hk_24
  have k25 := hk_25
  have k255 := hk_255
  have k4 := hk_4
  have k8 := hk_8
  have k99 := hk_99
  have k9999 := hk_9999
  obtain ⟨h400, hpre, hix, hkk, hss, hvv⟩ := hB.at
  have hnx := hB.2.1
  have hqq := hB.2.2.1
  have hf0 := hB.2.2.2
  have rh := hR.2.2.2.1
  have rsn := hR.2.2.2.2.1
  have rs := hR.1
  have rs1 := hR.2.1
  have hcs := hn_cn (j := A.1 367 19) (by omega)
  have hsd : (A.1 367 19).toNatClampNeg = sd := by omega
  have hk39 : 0 ≤ (A.2.1 370 t).toInt ∧ (A.2.1 370 t).toInt ≤ 39 := by unfold hmK at hkk; omega
  have hl10 : ns.length ≤ 10 := (hq_q_inv hqq).1.2.2.1
  have hsn8 : sn ≤ 8 := (hq_q_I2 hqq).1
  refine hpa_aload_n (by rfl) rfl ?_
  refine hpa_get (v := .ref 371) (by rfl) (by rfl) (by rfl) rfl ?_
  refine hpa_aload_n (by rfl) rfl ?_
  refine hpj_getK (by rfl) (by rfl) (by rfl) rfl ?_
  refine hpx_iald (by rfl) (by rfl) (fun h0v1 h1v1 v1 ev1 => ?_)
  rw [hix] at ev1
  have tv1 := congrArg Int32.toInt ev1
  by_cases q2 : v1.toInt = 20
  ·
    refine hpa_tabIn (by rfl) (by omega) (by omega) (by rw [q2]; rfl) (tgt := 56) (by rfl) ?_
    have hK : K t = 0 := by unfold hmK at hkk; omega
    refine hpa_aload_n (by rfl) rfl ?_
    refine hpa_aload_n (by rfl) rfl ?_
    refine hpa_get (v := .ref 377) (by rfl) (by rfl) (by rfl) rfl ?_
    refine hpa_aload_n (by rfl) rfl ?_
    refine hpj_getK (by rfl) (by rfl) (by rfl) rfl ?_
    refine hpx_iald (by rfl) (by rfl) (fun h0v3 h1v3 v3 ev3 => ?_)
    rw [hsd] at ev3
    have tv3 := congrArg Int32.toInt ev3
    refine hpa_bipush (by rfl) rfl ?_
    refine hpa_call0 (by rfl) (by rfl) (by rfl) (by rfl) (by rfl) (by rfl) (hP152 v3 (Int32.ofNat 10) hB hR (show v3.toInt = ((ns.length : Nat) : Int) by omega) (show (Int32.ofNat 10).toInt = ((10 : Nat) : Int) from hk_10) (by omega) (hqd0_house hK)) ?_
    rintro _ A4 ⟨rfl, (⟨B_A4, R_A4, Q_A4, G_A4, nm_A4⟩ | F_A4)⟩
    ·
      have f0_A4 := B_A4.2.2.2
      have nx_A4 := B_A4.2.1
      have rd_A4 := R_A4.2.2.1
      refine hpa_aload_n (by rfl) rfl ?_
      refine hpj_getK (by rfl) (by rfl) (by rfl) rfl ?_
      refine hpj_zne (by rfl) rfl (fun q5 => False.elim (by omega)) (fun q5 => ?_)
      refine hpa_aload_n (by rfl) rfl ?_
      refine hpa_call0 (by rfl) (by rfl) (by rfl) (by rfl) (by rfl) (by rfl) (hP156 hS B_A4 R_A4 (by rw [G_A4, hg_d0n (by omega)]; exact hM.Q Q_A4) (by rw [Q_A4.1 31 (by omega)]; exact hb) (by rw [Q_A4.1 37 (by omega)]; exact hz)) ?_
      rintro _ A6 ⟨rfl, (OKK_A6 | F_A6)⟩
      ·
        obtain ⟨t9, a9, b9, c9, ns9, nm9, sn9, o9, bb9, zz9, lt9, B9, R9, M9, b9x, z9x⟩ := OKK_A6
        refine hpa_goto (by rfl) ?_
        exact hpa_return (by rfl) rfl (hP _ _ ⟨rfl, Or.inl ⟨_, _, _, _, _, _, _, _, _, _, by omega, B9, R9, M9, b9x, z9x⟩⟩)
      ·
        have fp_A6 := F_A6.pos
        refine hpa_goto (by rfl) ?_
        exact hpa_return (by rfl) rfl (hP _ _ ⟨rfl, Or.inr F_A6⟩)
    ·
      have fp_A4 := F_A4.pos
      refine hpa_aload_n (by rfl) rfl ?_
      refine hpj_getK (by rfl) (by rfl) (by rfl) rfl ?_
      refine hpj_zne (by rfl) rfl (fun q7 => ?_) (fun q7 => False.elim (by omega))
      exact hpa_return (by rfl) rfl (hP _ _ ⟨rfl, Or.inr F_A4⟩)
  ·
    by_cases q8 : v1.toInt = 21
    ·
      refine hpa_tabIn (by rfl) (by omega) (by omega) (by rw [q8]; rfl) (tgt := 85) (by rfl) ?_
      have hK : K t = 1 := by unfold hmK at hkk; omega
      refine hpa_aload_n (by rfl) rfl ?_
      refine hpa_aload_n (by rfl) rfl ?_
      refine hpa_get (v := .ref 380) (by rfl) (by rfl) (by rfl) rfl ?_
      refine hpa_aload_n (by rfl) rfl ?_
      refine hpj_getK (by rfl) (by rfl) (by rfl) rfl ?_
      refine hpx_iald (by rfl) (by rfl) (fun h0v9 h1v9 v9 ev9 => ?_)
      rw [hsd] at ev9
      have tv9 := congrArg Int32.toInt ev9
      refine hpa_bipush (by rfl) rfl ?_
      refine hpa_call0 (by rfl) (by rfl) (by rfl) (by rfl) (by rfl) (by rfl) (hP152 v9 (Int32.ofNat 8) hB hR (show v9.toInt = ((sn : Nat) : Int) by omega) (show (Int32.ofNat 8).toInt = ((8 : Nat) : Int) from hk_8) (by omega) (hqd0_sends hK)) ?_
      rintro _ A10 ⟨rfl, (⟨B_A10, R_A10, Q_A10, G_A10, nm_A10⟩ | F_A10)⟩
      ·
        have f0_A10 := B_A10.2.2.2
        have nx_A10 := B_A10.2.1
        have rd_A10 := R_A10.2.2.1
        refine hpa_aload_n (by rfl) rfl ?_
        refine hpj_getK (by rfl) (by rfl) (by rfl) rfl ?_
        refine hpj_zle (by rfl) rfl (fun q11 => ?_) (fun q11 => False.elim (by omega))
        refine hpa_aload_n (by rfl) rfl ?_
        refine hpa_iconst (by rfl) rfl ?_
        refine hpa_bipush (by rfl) rfl ?_
        refine hpa_call0 (by rfl) (by rfl) (by rfl) (by rfl) (by rfl) (by rfl) (hP155 (Int32.ofNat 0) (Int32.ofNat 23) hS hk_0 hk_23 B_A10 R_A10 rfl) ?_
        rintro _ A12 ⟨z13, rfl, (⟨B_A12, R_A12, Q_A12, G_A12, VV_A12⟩ | F_A12)⟩
        ·
          have f0_A12 := B_A12.2.2.2
          have nx_A12 := B_A12.2.1
          have rd_A12 := R_A12.2.2.1
          refine hpa_s1 (by rfl) (Or.inl ⟨_, rfl, rfl⟩) rfl ?_
          refine hpa_aload_n (by rfl) rfl ?_
          refine hpa_iconst (by rfl) rfl ?_
          refine hpa_sipush (by rfl) rfl ?_
          refine hpa_call0 (by rfl) (by rfl) (by rfl) (by rfl) (by rfl) (by rfl) (hP155 (Int32.ofNat 0) (Int32.ofNat 255) hS hk_0 hk_255 B_A12 R_A12 rfl) ?_
          rintro _ A14 ⟨z15, rfl, (⟨B_A14, R_A14, Q_A14, G_A14, VV_A14⟩ | F_A14)⟩
          ·
            have f0_A14 := B_A14.2.2.2
            have nx_A14 := B_A14.2.1
            have rd_A14 := R_A14.2.2.1
            refine hpa_s1 (by rfl) (Or.inl ⟨_, rfl, rfl⟩) rfl ?_
            refine hpa_aload_n (by rfl) rfl ?_
            refine hpa_iconst (by rfl) rfl ?_
            refine hpa_call0 (by rfl) (by rfl) (by rfl) (by rfl) (by rfl) (by rfl) (hP148 (Int32.ofNat 4) B_A14 R_A14 (B_A14.i4 hk_4) rfl) ?_
            rintro _ A16 ⟨rfl, (⟨B_A16, R_A16, Q_A16, G_A16⟩ | F_A16)⟩
            ·
              have f0_A16 := B_A16.2.2.2
              have nx_A16 := B_A16.2.1
              have rd_A16 := R_A16.2.2.1
              refine hpa_iload_n (by rfl) rfl ?_
              refine hpa_bipush (by rfl) rfl ?_
              refine hpj_cgt (by rfl) rfl hk_23 (fun q17 => ?_) (fun q17 => ?_)
              ·
                refine hpa_aload_n (by rfl) rfl ?_
                refine hpa_get (v := .ref 380) (by rfl) (by rfl) (by rfl) rfl ?_
                refine hpa_aload_n (by rfl) rfl ?_
                refine hpj_getK (by rfl) (by rfl) (by rfl) rfl ?_
                refine hpa_dup2IR (by rfl) ?_
                refine hpx_iald (by rfl) (by rfl) (fun h0v18 h1v18 v18 ev18 => ?_)
                have rs := R_A16.1
                have rsn := R_A16.2.2.2.2.1
                have rs1 := R_A16.2.1
                have rk := congrArg Int32.toInt (show A16.1 367 19 = (A16.1 367 19) from rfl)
                have hcs := hn_cn (j := (A16.1 367 19)) (by omega)
                have hix9 : (A16.1 367 19).toNatClampNeg = sd := by omega
                rw [hix9] at ev18
                have tv18 : v18.toInt = (sn : Int) := by rw [← ev18]; exact rsn
                refine hpa_iconst (by rfl) rfl ?_
                refine hpj_iadd (by rfl) rfl hk_1 (by omega) (by omega) (fun z19 ez19 => ?_)
                refine hpx_iast (by rfl) (by rfl) (fun A20 h0A20 h1A20 eA20 fA20 gA20 => ?_)
                rw [hix9] at fA20
                have BA20 := B_A16.ar eA20 fA20 gA20 (by omega)
                have RA20 := R_A16.send eA20 fA20 gA20 (by omega)
                have MS := (hM.Q (((Q_A10.trans Q_A12).trans Q_A14).trans Q_A16)).sd0 (p := V (t + 1)) (c := V (t + 1 + 1)) (by have := VV_A12.1; omega)
                have MT := MS.ga fA20 (by omega)
                refine hpa_goto (by rfl) ?_
                exact hpa_return (by rfl) rfl (hP _ _ ⟨rfl, Or.inl ⟨_, _, _, _, _, _, _, _, _, _, by omega, BA20, RA20, by rw [G_A16, G_A14, G_A12, G_A10, hg_d0n (by omega)]; exact MT, by rw [eA20, (((Q_A10.trans Q_A12).trans Q_A14).trans Q_A16).1 31 (by omega)]; exact hb, by rw [eA20, (((Q_A10.trans Q_A12).trans Q_A14).trans Q_A16).1 37 (by omega)]; exact hz⟩⟩)
              ·
                have hv1 := hV (t + 1) VV_A12.2
                have hvv1 := VV_A12.1
                have rs0 := R_A16.1
                have rs01 := R_A16.2.1
                refine hpa_aload_n (by rfl) rfl ?_
                refine hpa_get (v := .ref 381) (by rfl) (by rfl) (by rfl) rfl ?_
                refine hpa_bipush (by rfl) rfl ?_
                refine hpa_aload_n (by rfl) rfl ?_
                refine hpj_getK (by rfl) (by rfl) (by rfl) rfl ?_
                refine hpj_imul (by rfl) hk_24 rfl (by omega) (by omega) (fun z21 ez21 => ?_)
                refine hpa_iload_n (by rfl) rfl ?_
                refine hpj_iadd (by rfl) rfl rfl (by omega) (by omega) (fun z22 ez22 => ?_)
                refine hpa_iload_n (by rfl) rfl ?_
                refine hpx_iast (by rfl) (by rfl) (fun A23 h0A23 h1A23 eA23 fA23 gA23 => ?_)
                have BA23 := B_A16.ar eA23 fA23 gA23 (by omega)
                have RA23 := R_A16.ar eA23 fA23 gA23 (by omega)
                have f0A23 := BA23.2.2.2
                have nxA23 := BA23.2.1
                have rdA23 := RA23.2.2.1
                have MS := (hM.Q (((Q_A10.trans Q_A12).trans Q_A14).trans Q_A16)).sd2 (p := V (t + 1)) (c := V (t + 1 + 1)) (by omega) hv1.1 fA23 (by have := hn_cn (j := z22) (by omega); omega) VV_A14.1
                refine hpa_aload_n (by rfl) rfl ?_
                refine hpa_get (v := .ref 380) (by rfl) (by rfl) (by rfl) rfl ?_
                refine hpa_aload_n (by rfl) rfl ?_
                refine hpj_getK (by rfl) (by rfl) (by rfl) (hkA eA23 rfl) ?_
                refine hpa_dup2IR (by rfl) ?_
                refine hpx_iald (by rfl) (by rfl) (fun h0v24 h1v24 v24 ev24 => ?_)
                have rs := RA23.1
                have rsn := RA23.2.2.2.2.1
                have rs1 := RA23.2.1
                have rk := congrArg Int32.toInt (show A23.1 367 19 = (A16.1 367 19) from (hkA eA23 rfl))
                have hcs := hn_cn (j := (A16.1 367 19)) (by omega)
                have hix9 : (A16.1 367 19).toNatClampNeg = sd := by omega
                rw [hix9] at ev24
                have tv24 : v24.toInt = (sn : Int) := by rw [← ev24]; exact rsn
                refine hpa_iconst (by rfl) rfl ?_
                refine hpj_iadd (by rfl) rfl hk_1 (by omega) (by omega) (fun z25 ez25 => ?_)
                refine hpx_iast (by rfl) (by rfl) (fun A26 h0A26 h1A26 eA26 fA26 gA26 => ?_)
                rw [hix9] at fA26
                have BA26 := BA23.ar eA26 fA26 gA26 (by omega)
                have RA26 := RA23.send eA26 fA26 gA26 (by omega)
                have MT := MS.ga fA26 (by omega)
                refine hpa_goto (by rfl) ?_
                exact hpa_return (by rfl) rfl (hP _ _ ⟨rfl, Or.inl ⟨_, _, _, _, _, _, _, _, _, _, by omega, BA26, RA26, by rw [G_A16, G_A14, G_A12, G_A10, hg_d0n (by omega)]; exact MT, by rw [eA26, eA23, (((Q_A10.trans Q_A12).trans Q_A14).trans Q_A16).1 31 (by omega)]; exact hb, by rw [eA26, eA23, (((Q_A10.trans Q_A12).trans Q_A14).trans Q_A16).1 37 (by omega)]; exact hz⟩⟩)
            ·
              have fp_A16 := F_A16.pos
              refine hpa_iload_n (by rfl) rfl ?_
              refine hpa_bipush (by rfl) rfl ?_
              refine hpj_cgt (by rfl) rfl hk_23 (fun q27 => ?_) (fun q27 => ?_)
              ·
                refine hpa_aload_n (by rfl) rfl ?_
                refine hpa_get (v := .ref 380) (by rfl) (by rfl) (by rfl) rfl ?_
                refine hpa_aload_n (by rfl) rfl ?_
                refine hpj_getK (by rfl) (by rfl) (by rfl) rfl ?_
                refine hpa_dup2IR (by rfl) ?_
                refine hpx_iald (by rfl) (by rfl) (fun h0v28 h1v28 v28 ev28 => ?_)
                refine hpa_iconst (by rfl) rfl ?_
                refine hpj_iaddU (by rfl) (fun z29 => ?_)
                refine hpx_iast (by rfl) (by rfl) (fun A30 h0A30 h1A30 eA30 fA30 gA30 => ?_)
                have FA30 := F_A16.ar eA30 gA30
                have fpA30 := FA30.pos
                refine hpa_goto (by rfl) ?_
                exact hpa_return (by rfl) rfl (hP _ _ ⟨rfl, Or.inr FA30⟩)
              ·
                refine hpa_aload_n (by rfl) rfl ?_
                refine hpa_get (v := .ref 381) (by rfl) (by rfl) (by rfl) rfl ?_
                refine hpa_bipush (by rfl) rfl ?_
                refine hpa_aload_n (by rfl) rfl ?_
                refine hpj_getK (by rfl) (by rfl) (by rfl) rfl ?_
                refine hpj_imulU (by rfl) (fun z31 => ?_)
                refine hpa_iload_n (by rfl) rfl ?_
                refine hpj_iaddU (by rfl) (fun z32 => ?_)
                refine hpa_iload_n (by rfl) rfl ?_
                refine hpx_iast (by rfl) (by rfl) (fun A33 h0A33 h1A33 eA33 fA33 gA33 => ?_)
                have FA33 := F_A16.ar eA33 gA33
                have fpA33 := FA33.pos
                refine hpa_aload_n (by rfl) rfl ?_
                refine hpa_get (v := .ref 380) (by rfl) (by rfl) (by rfl) rfl ?_
                refine hpa_aload_n (by rfl) rfl ?_
                refine hpj_getK (by rfl) (by rfl) (by rfl) (hkA eA33 rfl) ?_
                refine hpa_dup2IR (by rfl) ?_
                refine hpx_iald (by rfl) (by rfl) (fun h0v34 h1v34 v34 ev34 => ?_)
                refine hpa_iconst (by rfl) rfl ?_
                refine hpj_iaddU (by rfl) (fun z35 => ?_)
                refine hpx_iast (by rfl) (by rfl) (fun A36 h0A36 h1A36 eA36 fA36 gA36 => ?_)
                have FA36 := FA33.ar eA36 gA36
                have fpA36 := FA36.pos
                refine hpa_goto (by rfl) ?_
                exact hpa_return (by rfl) rfl (hP _ _ ⟨rfl, Or.inr FA36⟩)
          ·
            have fp_A14 := F_A14.pos
            refine hpa_s1 (by rfl) (Or.inl ⟨_, rfl, rfl⟩) rfl ?_
            refine hpa_aload_n (by rfl) rfl ?_
            refine hpa_iconst (by rfl) rfl ?_
            refine hpa_call0 (by rfl) (by rfl) (by rfl) (by rfl) (by rfl) (by rfl) (hP148d (Int32.ofNat 4) F_A14) ?_
            rintro _ A37 ⟨rfl, F_A37⟩
            have fp_A37 := F_A37.pos
            refine hpa_iload_n (by rfl) rfl ?_
            refine hpa_bipush (by rfl) rfl ?_
            refine hpj_cgt (by rfl) rfl hk_23 (fun q38 => ?_) (fun q38 => ?_)
            ·
              refine hpa_aload_n (by rfl) rfl ?_
              refine hpa_get (v := .ref 380) (by rfl) (by rfl) (by rfl) rfl ?_
              refine hpa_aload_n (by rfl) rfl ?_
              refine hpj_getK (by rfl) (by rfl) (by rfl) rfl ?_
              refine hpa_dup2IR (by rfl) ?_
              refine hpx_iald (by rfl) (by rfl) (fun h0v39 h1v39 v39 ev39 => ?_)
              refine hpa_iconst (by rfl) rfl ?_
              refine hpj_iaddU (by rfl) (fun z40 => ?_)
              refine hpx_iast (by rfl) (by rfl) (fun A41 h0A41 h1A41 eA41 fA41 gA41 => ?_)
              have FA41 := F_A37.ar eA41 gA41
              have fpA41 := FA41.pos
              refine hpa_goto (by rfl) ?_
              exact hpa_return (by rfl) rfl (hP _ _ ⟨rfl, Or.inr FA41⟩)
            ·
              refine hpa_aload_n (by rfl) rfl ?_
              refine hpa_get (v := .ref 381) (by rfl) (by rfl) (by rfl) rfl ?_
              refine hpa_bipush (by rfl) rfl ?_
              refine hpa_aload_n (by rfl) rfl ?_
              refine hpj_getK (by rfl) (by rfl) (by rfl) rfl ?_
              refine hpj_imulU (by rfl) (fun z42 => ?_)
              refine hpa_iload_n (by rfl) rfl ?_
              refine hpj_iaddU (by rfl) (fun z43 => ?_)
              refine hpa_iload_n (by rfl) rfl ?_
              refine hpx_iast (by rfl) (by rfl) (fun A44 h0A44 h1A44 eA44 fA44 gA44 => ?_)
              have FA44 := F_A37.ar eA44 gA44
              have fpA44 := FA44.pos
              refine hpa_aload_n (by rfl) rfl ?_
              refine hpa_get (v := .ref 380) (by rfl) (by rfl) (by rfl) rfl ?_
              refine hpa_aload_n (by rfl) rfl ?_
              refine hpj_getK (by rfl) (by rfl) (by rfl) (hkA eA44 rfl) ?_
              refine hpa_dup2IR (by rfl) ?_
              refine hpx_iald (by rfl) (by rfl) (fun h0v45 h1v45 v45 ev45 => ?_)
              refine hpa_iconst (by rfl) rfl ?_
              refine hpj_iaddU (by rfl) (fun z46 => ?_)
              refine hpx_iast (by rfl) (by rfl) (fun A47 h0A47 h1A47 eA47 fA47 gA47 => ?_)
              have FA47 := FA44.ar eA47 gA47
              have fpA47 := FA47.pos
              refine hpa_goto (by rfl) ?_
              exact hpa_return (by rfl) rfl (hP _ _ ⟨rfl, Or.inr FA47⟩)
        ·
          have fp_A12 := F_A12.pos
          refine hpa_s1 (by rfl) (Or.inl ⟨_, rfl, rfl⟩) rfl ?_
          refine hpa_aload_n (by rfl) rfl ?_
          refine hpa_iconst (by rfl) rfl ?_
          refine hpa_sipush (by rfl) rfl ?_
          refine hpa_call0 (by rfl) (by rfl) (by rfl) (by rfl) (by rfl) (by rfl) (hP155d (Int32.ofNat 0) (Int32.ofNat 255) F_A12) ?_
          rintro _ A48 ⟨z49, rfl, F_A48⟩
          have fp_A48 := F_A48.pos
          refine hpa_s1 (by rfl) (Or.inl ⟨_, rfl, rfl⟩) rfl ?_
          refine hpa_aload_n (by rfl) rfl ?_
          refine hpa_iconst (by rfl) rfl ?_
          refine hpa_call0 (by rfl) (by rfl) (by rfl) (by rfl) (by rfl) (by rfl) (hP148d (Int32.ofNat 4) F_A48) ?_
          rintro _ A50 ⟨rfl, F_A50⟩
          have fp_A50 := F_A50.pos
          refine hpa_iload_n (by rfl) rfl ?_
          refine hpa_bipush (by rfl) rfl ?_
          refine hpj_cgt (by rfl) rfl hk_23 (fun q51 => ?_) (fun q51 => ?_)
          ·
            refine hpa_aload_n (by rfl) rfl ?_
            refine hpa_get (v := .ref 380) (by rfl) (by rfl) (by rfl) rfl ?_
            refine hpa_aload_n (by rfl) rfl ?_
            refine hpj_getK (by rfl) (by rfl) (by rfl) rfl ?_
            refine hpa_dup2IR (by rfl) ?_
            refine hpx_iald (by rfl) (by rfl) (fun h0v52 h1v52 v52 ev52 => ?_)
            refine hpa_iconst (by rfl) rfl ?_
            refine hpj_iaddU (by rfl) (fun z53 => ?_)
            refine hpx_iast (by rfl) (by rfl) (fun A54 h0A54 h1A54 eA54 fA54 gA54 => ?_)
            have FA54 := F_A50.ar eA54 gA54
            have fpA54 := FA54.pos
            refine hpa_goto (by rfl) ?_
            exact hpa_return (by rfl) rfl (hP _ _ ⟨rfl, Or.inr FA54⟩)
          ·
            refine hpa_aload_n (by rfl) rfl ?_
            refine hpa_get (v := .ref 381) (by rfl) (by rfl) (by rfl) rfl ?_
            refine hpa_bipush (by rfl) rfl ?_
            refine hpa_aload_n (by rfl) rfl ?_
            refine hpj_getK (by rfl) (by rfl) (by rfl) rfl ?_
            refine hpj_imulU (by rfl) (fun z55 => ?_)
            refine hpa_iload_n (by rfl) rfl ?_
            refine hpj_iaddU (by rfl) (fun z56 => ?_)
            refine hpa_iload_n (by rfl) rfl ?_
            refine hpx_iast (by rfl) (by rfl) (fun A57 h0A57 h1A57 eA57 fA57 gA57 => ?_)
            have FA57 := F_A50.ar eA57 gA57
            have fpA57 := FA57.pos
            refine hpa_aload_n (by rfl) rfl ?_
            refine hpa_get (v := .ref 380) (by rfl) (by rfl) (by rfl) rfl ?_
            refine hpa_aload_n (by rfl) rfl ?_
            refine hpj_getK (by rfl) (by rfl) (by rfl) (hkA eA57 rfl) ?_
            refine hpa_dup2IR (by rfl) ?_
            refine hpx_iald (by rfl) (by rfl) (fun h0v58 h1v58 v58 ev58 => ?_)
            refine hpa_iconst (by rfl) rfl ?_
            refine hpj_iaddU (by rfl) (fun z59 => ?_)
            refine hpx_iast (by rfl) (by rfl) (fun A60 h0A60 h1A60 eA60 fA60 gA60 => ?_)
            have FA60 := FA57.ar eA60 gA60
            have fpA60 := FA60.pos
            refine hpa_goto (by rfl) ?_
            exact hpa_return (by rfl) rfl (hP _ _ ⟨rfl, Or.inr FA60⟩)
      ·
        have fp_A10 := F_A10.pos
        refine hpa_aload_n (by rfl) rfl ?_
        refine hpj_getK (by rfl) (by rfl) (by rfl) rfl ?_
        refine hpj_zle (by rfl) rfl (fun q61 => False.elim (by omega)) (fun q61 => ?_)
        exact hpa_return (by rfl) rfl (hP _ _ ⟨rfl, Or.inr F_A10⟩)
    ·
      by_cases q62 : v1.toInt = 22
      ·
        refine hpa_tabIn (by rfl) (by omega) (by omega) (by rw [q62]; rfl) (tgt := 206) (by rfl) ?_
        have hK : 2 ≤ K t ∧ K t ≤ 5 := by unfold hmK at hkk; omega
        refine hpa_aload_n (by rfl) rfl ?_
        refine hpa_get (v := .ref 371) (by rfl) (by rfl) (by rfl) rfl ?_
        refine hpa_aload_n (by rfl) rfl ?_
        refine hpj_getK (by rfl) (by rfl) (by rfl) rfl ?_
        refine hpx_iald (by rfl) (by rfl) (fun h0v63 h1v63 v63 ev63 => ?_)
        rw [hix] at ev63
        have tv63 := congrArg Int32.toInt ev63
        refine hpa_bipush (by rfl) rfl ?_
        refine hpj_isub (by rfl) rfl hk_22 (by omega) (by omega) (fun z64 ez64 => ?_)
        refine hpa_s1 (by rfl) (Or.inl ⟨_, rfl, rfl⟩) rfl ?_
        refine hpa_iload_n (by rfl) rfl ?_
        refine hpj_zlt (by rfl) rfl (fun q65 => False.elim (by omega)) (fun q65 => ?_)
        refine hpa_aload_n (by rfl) rfl ?_
        refine hpa_get (v := .ref 371) (by rfl) (by rfl) (by rfl) rfl ?_
        refine hpa_aload_n (by rfl) rfl ?_
        refine hpj_getK (by rfl) (by rfl) (by rfl) rfl ?_
        refine hpx_iald (by rfl) (by rfl) (fun h0v66 h1v66 v66 ev66 => ?_)
        rw [hix] at ev66
        have tv66 := congrArg Int32.toInt ev66
        refine hpa_bipush (by rfl) rfl ?_
        refine hpj_cle (by rfl) rfl hk_25 (fun q67 => ?_) (fun q67 => False.elim (by omega))
        refine hpa_aload_n (by rfl) rfl ?_
        refine hpj_getK (by rfl) (by rfl) (by rfl) rfl ?_
        refine hpj_zle (by rfl) rfl (fun q68 => ?_) (fun q68 => False.elim (by omega))
        refine hpa_aload_n (by rfl) rfl ?_
        refine hpa_call0 (by rfl) (by rfl) (by rfl) (by rfl) (by rfl) (by rfl) (hP147 hB hR (hqd0_law hK)) ?_
        rintro _ A69 ⟨rfl, (⟨B_A69, R_A69, Q_A69, G_A69⟩ | F_A69)⟩
        ·
          have f0_A69 := B_A69.2.2.2
          have nx_A69 := B_A69.2.1
          have rd_A69 := R_A69.2.2.1
          refine hpa_aload_n (by rfl) rfl ?_
          refine hpa_iload_n (by rfl) rfl ?_
          refine hpa_call0 (by rfl) (by rfl) (by rfl) (by rfl) (by rfl) (by rfl) (hP157 (k := (K t - 2).toNat) (d0 := (hg_q K V E t).1) z64 B_A69 R_A69 (hM.Q Q_A69) (by rw [Q_A69.1 31 (by omega)]; exact hb) (by rw [Q_A69.1 37 (by omega)]; exact hz) (G_A69.trans (hg_d0l hK)) (by omega) (by unfold hmK at hkk; omega)) ?_
          rintro _ A70 ⟨rfl, (OKK_A70 | F_A70)⟩
          ·
            obtain ⟨t9, a9, b9, c9, ns9, nm9, sn9, o9, bb9, zz9, lt9, B9, R9, M9, b9x, z9x⟩ := OKK_A70
            exact hpa_return (by rfl) rfl (hP _ _ ⟨rfl, Or.inl ⟨_, _, _, _, _, _, _, _, _, _, by omega, B9, R9, M9, b9x, z9x⟩⟩)
          ·
            have fp_A70 := F_A70.pos
            exact hpa_return (by rfl) rfl (hP _ _ ⟨rfl, Or.inr F_A70⟩)
        ·
          have fp_A69 := F_A69.pos
          refine hpa_aload_n (by rfl) rfl ?_
          refine hpa_iload_n (by rfl) rfl ?_
          refine hpa_call0 (by rfl) (by rfl) (by rfl) (by rfl) (by rfl) (by rfl) (hP157d z64 F_A69) ?_
          rintro _ A71 ⟨rfl, F_A71⟩
          have fp_A71 := F_A71.pos
          exact hpa_return (by rfl) rfl (hP _ _ ⟨rfl, Or.inr F_A71⟩)
      ·
        by_cases q72 : v1.toInt = 23
        ·
          refine hpa_tabIn (by rfl) (by omega) (by omega) (by rw [q72]; rfl) (tgt := 206) (by rfl) ?_
          have hK : 2 ≤ K t ∧ K t ≤ 5 := by unfold hmK at hkk; omega
          refine hpa_aload_n (by rfl) rfl ?_
          refine hpa_get (v := .ref 371) (by rfl) (by rfl) (by rfl) rfl ?_
          refine hpa_aload_n (by rfl) rfl ?_
          refine hpj_getK (by rfl) (by rfl) (by rfl) rfl ?_
          refine hpx_iald (by rfl) (by rfl) (fun h0v73 h1v73 v73 ev73 => ?_)
          rw [hix] at ev73
          have tv73 := congrArg Int32.toInt ev73
          refine hpa_bipush (by rfl) rfl ?_
          refine hpj_isub (by rfl) rfl hk_22 (by omega) (by omega) (fun z74 ez74 => ?_)
          refine hpa_s1 (by rfl) (Or.inl ⟨_, rfl, rfl⟩) rfl ?_
          refine hpa_iload_n (by rfl) rfl ?_
          refine hpj_zlt (by rfl) rfl (fun q75 => False.elim (by omega)) (fun q75 => ?_)
          refine hpa_aload_n (by rfl) rfl ?_
          refine hpa_get (v := .ref 371) (by rfl) (by rfl) (by rfl) rfl ?_
          refine hpa_aload_n (by rfl) rfl ?_
          refine hpj_getK (by rfl) (by rfl) (by rfl) rfl ?_
          refine hpx_iald (by rfl) (by rfl) (fun h0v76 h1v76 v76 ev76 => ?_)
          rw [hix] at ev76
          have tv76 := congrArg Int32.toInt ev76
          refine hpa_bipush (by rfl) rfl ?_
          refine hpj_cle (by rfl) rfl hk_25 (fun q77 => ?_) (fun q77 => False.elim (by omega))
          refine hpa_aload_n (by rfl) rfl ?_
          refine hpj_getK (by rfl) (by rfl) (by rfl) rfl ?_
          refine hpj_zle (by rfl) rfl (fun q78 => ?_) (fun q78 => False.elim (by omega))
          refine hpa_aload_n (by rfl) rfl ?_
          refine hpa_call0 (by rfl) (by rfl) (by rfl) (by rfl) (by rfl) (by rfl) (hP147 hB hR (hqd0_law hK)) ?_
          rintro _ A79 ⟨rfl, (⟨B_A79, R_A79, Q_A79, G_A79⟩ | F_A79)⟩
          ·
            have f0_A79 := B_A79.2.2.2
            have nx_A79 := B_A79.2.1
            have rd_A79 := R_A79.2.2.1
            refine hpa_aload_n (by rfl) rfl ?_
            refine hpa_iload_n (by rfl) rfl ?_
            refine hpa_call0 (by rfl) (by rfl) (by rfl) (by rfl) (by rfl) (by rfl) (hP157 (k := (K t - 2).toNat) (d0 := (hg_q K V E t).1) z74 B_A79 R_A79 (hM.Q Q_A79) (by rw [Q_A79.1 31 (by omega)]; exact hb) (by rw [Q_A79.1 37 (by omega)]; exact hz) (G_A79.trans (hg_d0l hK)) (by omega) (by unfold hmK at hkk; omega)) ?_
            rintro _ A80 ⟨rfl, (OKK_A80 | F_A80)⟩
            ·
              obtain ⟨t9, a9, b9, c9, ns9, nm9, sn9, o9, bb9, zz9, lt9, B9, R9, M9, b9x, z9x⟩ := OKK_A80
              exact hpa_return (by rfl) rfl (hP _ _ ⟨rfl, Or.inl ⟨_, _, _, _, _, _, _, _, _, _, by omega, B9, R9, M9, b9x, z9x⟩⟩)
            ·
              have fp_A80 := F_A80.pos
              exact hpa_return (by rfl) rfl (hP _ _ ⟨rfl, Or.inr F_A80⟩)
          ·
            have fp_A79 := F_A79.pos
            refine hpa_aload_n (by rfl) rfl ?_
            refine hpa_iload_n (by rfl) rfl ?_
            refine hpa_call0 (by rfl) (by rfl) (by rfl) (by rfl) (by rfl) (by rfl) (hP157d z74 F_A79) ?_
            rintro _ A81 ⟨rfl, F_A81⟩
            have fp_A81 := F_A81.pos
            exact hpa_return (by rfl) rfl (hP _ _ ⟨rfl, Or.inr F_A81⟩)
        ·
          by_cases q82 : v1.toInt = 24
          ·
            refine hpa_tabIn (by rfl) (by omega) (by omega) (by rw [q82]; rfl) (tgt := 206) (by rfl) ?_
            have hK : 2 ≤ K t ∧ K t ≤ 5 := by unfold hmK at hkk; omega
            refine hpa_aload_n (by rfl) rfl ?_
            refine hpa_get (v := .ref 371) (by rfl) (by rfl) (by rfl) rfl ?_
            refine hpa_aload_n (by rfl) rfl ?_
            refine hpj_getK (by rfl) (by rfl) (by rfl) rfl ?_
            refine hpx_iald (by rfl) (by rfl) (fun h0v83 h1v83 v83 ev83 => ?_)
            rw [hix] at ev83
            have tv83 := congrArg Int32.toInt ev83
            refine hpa_bipush (by rfl) rfl ?_
            refine hpj_isub (by rfl) rfl hk_22 (by omega) (by omega) (fun z84 ez84 => ?_)
            refine hpa_s1 (by rfl) (Or.inl ⟨_, rfl, rfl⟩) rfl ?_
            refine hpa_iload_n (by rfl) rfl ?_
            refine hpj_zlt (by rfl) rfl (fun q85 => False.elim (by omega)) (fun q85 => ?_)
            refine hpa_aload_n (by rfl) rfl ?_
            refine hpa_get (v := .ref 371) (by rfl) (by rfl) (by rfl) rfl ?_
            refine hpa_aload_n (by rfl) rfl ?_
            refine hpj_getK (by rfl) (by rfl) (by rfl) rfl ?_
            refine hpx_iald (by rfl) (by rfl) (fun h0v86 h1v86 v86 ev86 => ?_)
            rw [hix] at ev86
            have tv86 := congrArg Int32.toInt ev86
            refine hpa_bipush (by rfl) rfl ?_
            refine hpj_cle (by rfl) rfl hk_25 (fun q87 => ?_) (fun q87 => False.elim (by omega))
            refine hpa_aload_n (by rfl) rfl ?_
            refine hpj_getK (by rfl) (by rfl) (by rfl) rfl ?_
            refine hpj_zle (by rfl) rfl (fun q88 => ?_) (fun q88 => False.elim (by omega))
            refine hpa_aload_n (by rfl) rfl ?_
            refine hpa_call0 (by rfl) (by rfl) (by rfl) (by rfl) (by rfl) (by rfl) (hP147 hB hR (hqd0_law hK)) ?_
            rintro _ A89 ⟨rfl, (⟨B_A89, R_A89, Q_A89, G_A89⟩ | F_A89)⟩
            ·
              have f0_A89 := B_A89.2.2.2
              have nx_A89 := B_A89.2.1
              have rd_A89 := R_A89.2.2.1
              refine hpa_aload_n (by rfl) rfl ?_
              refine hpa_iload_n (by rfl) rfl ?_
              refine hpa_call0 (by rfl) (by rfl) (by rfl) (by rfl) (by rfl) (by rfl) (hP157 (k := (K t - 2).toNat) (d0 := (hg_q K V E t).1) z84 B_A89 R_A89 (hM.Q Q_A89) (by rw [Q_A89.1 31 (by omega)]; exact hb) (by rw [Q_A89.1 37 (by omega)]; exact hz) (G_A89.trans (hg_d0l hK)) (by omega) (by unfold hmK at hkk; omega)) ?_
              rintro _ A90 ⟨rfl, (OKK_A90 | F_A90)⟩
              ·
                obtain ⟨t9, a9, b9, c9, ns9, nm9, sn9, o9, bb9, zz9, lt9, B9, R9, M9, b9x, z9x⟩ := OKK_A90
                exact hpa_return (by rfl) rfl (hP _ _ ⟨rfl, Or.inl ⟨_, _, _, _, _, _, _, _, _, _, by omega, B9, R9, M9, b9x, z9x⟩⟩)
              ·
                have fp_A90 := F_A90.pos
                exact hpa_return (by rfl) rfl (hP _ _ ⟨rfl, Or.inr F_A90⟩)
            ·
              have fp_A89 := F_A89.pos
              refine hpa_aload_n (by rfl) rfl ?_
              refine hpa_iload_n (by rfl) rfl ?_
              refine hpa_call0 (by rfl) (by rfl) (by rfl) (by rfl) (by rfl) (by rfl) (hP157d z84 F_A89) ?_
              rintro _ A91 ⟨rfl, F_A91⟩
              have fp_A91 := F_A91.pos
              exact hpa_return (by rfl) rfl (hP _ _ ⟨rfl, Or.inr F_A91⟩)
          ·
            by_cases q92 : v1.toInt = 25
            ·
              refine hpa_tabIn (by rfl) (by omega) (by omega) (by rw [q92]; rfl) (tgt := 206) (by rfl) ?_
              have hK : 2 ≤ K t ∧ K t ≤ 5 := by unfold hmK at hkk; omega
              refine hpa_aload_n (by rfl) rfl ?_
              refine hpa_get (v := .ref 371) (by rfl) (by rfl) (by rfl) rfl ?_
              refine hpa_aload_n (by rfl) rfl ?_
              refine hpj_getK (by rfl) (by rfl) (by rfl) rfl ?_
              refine hpx_iald (by rfl) (by rfl) (fun h0v93 h1v93 v93 ev93 => ?_)
              rw [hix] at ev93
              have tv93 := congrArg Int32.toInt ev93
              refine hpa_bipush (by rfl) rfl ?_
              refine hpj_isub (by rfl) rfl hk_22 (by omega) (by omega) (fun z94 ez94 => ?_)
              refine hpa_s1 (by rfl) (Or.inl ⟨_, rfl, rfl⟩) rfl ?_
              refine hpa_iload_n (by rfl) rfl ?_
              refine hpj_zlt (by rfl) rfl (fun q95 => False.elim (by omega)) (fun q95 => ?_)
              refine hpa_aload_n (by rfl) rfl ?_
              refine hpa_get (v := .ref 371) (by rfl) (by rfl) (by rfl) rfl ?_
              refine hpa_aload_n (by rfl) rfl ?_
              refine hpj_getK (by rfl) (by rfl) (by rfl) rfl ?_
              refine hpx_iald (by rfl) (by rfl) (fun h0v96 h1v96 v96 ev96 => ?_)
              rw [hix] at ev96
              have tv96 := congrArg Int32.toInt ev96
              refine hpa_bipush (by rfl) rfl ?_
              refine hpj_cle (by rfl) rfl hk_25 (fun q97 => ?_) (fun q97 => False.elim (by omega))
              refine hpa_aload_n (by rfl) rfl ?_
              refine hpj_getK (by rfl) (by rfl) (by rfl) rfl ?_
              refine hpj_zle (by rfl) rfl (fun q98 => ?_) (fun q98 => False.elim (by omega))
              refine hpa_aload_n (by rfl) rfl ?_
              refine hpa_call0 (by rfl) (by rfl) (by rfl) (by rfl) (by rfl) (by rfl) (hP147 hB hR (hqd0_law hK)) ?_
              rintro _ A99 ⟨rfl, (⟨B_A99, R_A99, Q_A99, G_A99⟩ | F_A99)⟩
              ·
                have f0_A99 := B_A99.2.2.2
                have nx_A99 := B_A99.2.1
                have rd_A99 := R_A99.2.2.1
                refine hpa_aload_n (by rfl) rfl ?_
                refine hpa_iload_n (by rfl) rfl ?_
                refine hpa_call0 (by rfl) (by rfl) (by rfl) (by rfl) (by rfl) (by rfl) (hP157 (k := (K t - 2).toNat) (d0 := (hg_q K V E t).1) z94 B_A99 R_A99 (hM.Q Q_A99) (by rw [Q_A99.1 31 (by omega)]; exact hb) (by rw [Q_A99.1 37 (by omega)]; exact hz) (G_A99.trans (hg_d0l hK)) (by omega) (by unfold hmK at hkk; omega)) ?_
                rintro _ A100 ⟨rfl, (OKK_A100 | F_A100)⟩
                ·
                  obtain ⟨t9, a9, b9, c9, ns9, nm9, sn9, o9, bb9, zz9, lt9, B9, R9, M9, b9x, z9x⟩ := OKK_A100
                  exact hpa_return (by rfl) rfl (hP _ _ ⟨rfl, Or.inl ⟨_, _, _, _, _, _, _, _, _, _, by omega, B9, R9, M9, b9x, z9x⟩⟩)
                ·
                  have fp_A100 := F_A100.pos
                  exact hpa_return (by rfl) rfl (hP _ _ ⟨rfl, Or.inr F_A100⟩)
              ·
                have fp_A99 := F_A99.pos
                refine hpa_aload_n (by rfl) rfl ?_
                refine hpa_iload_n (by rfl) rfl ?_
                refine hpa_call0 (by rfl) (by rfl) (by rfl) (by rfl) (by rfl) (by rfl) (hP157d z94 F_A99) ?_
                rintro _ A101 ⟨rfl, F_A101⟩
                have fp_A101 := F_A101.pos
                exact hpa_return (by rfl) rfl (hP _ _ ⟨rfl, Or.inr F_A101⟩)
            ·
              by_cases q102 : v1.toInt = 26
              ·
                refine hpa_tabIn (by rfl) (by omega) (by omega) (by rw [q102]; rfl) (tgt := 167) (by rfl) ?_
                have hK : K t = 6 := by unfold hmK at hkk; omega
                refine hpa_aload_n (by rfl) rfl ?_
                refine hpa_get (v := .ref 382) (by rfl) (by rfl) (by rfl) rfl ?_
                refine hpa_aload_n (by rfl) rfl ?_
                refine hpj_getK (by rfl) (by rfl) (by rfl) rfl ?_
                refine hpa_aload_n (by rfl) rfl ?_
                refine hpa_iconst (by rfl) rfl ?_
                refine hpa_bipush (by rfl) rfl ?_
                refine hpa_call0 (by rfl) (by rfl) (by rfl) (by rfl) (by rfl) (by rfl) (hP153 (Int32.ofNat 1) (Int32.ofNat 99) hS hk_1 hk_99 hB hR (hqd0_grief hK) rfl rfl) ?_
                rintro _ A103 ⟨z104, rfl, (⟨B_A103, R_A103, Q_A103, GT_A103, VV_A103⟩ | F_A103)⟩
                ·
                  have f0_A103 := B_A103.2.2.2
                  have nx_A103 := B_A103.2.1
                  have rd_A103 := R_A103.2.2.1
                  refine hpx_iast (by rfl) (by rfl) (fun A105 h0A105 h1A105 eA105 fA105 gA105 => ?_)
                  have BA105 := B_A103.ar eA105 fA105 gA105 (by omega)
                  have RA105 := R_A103.ar eA105 fA105 gA105 (by omega)
                  have f0A105 := BA105.2.2.2
                  have nxA105 := BA105.2.1
                  have rdA105 := RA105.2.2.1
                  rw [hsd] at fA105
                  have MT := (hM.Q Q_A103).gr fA105 VV_A103
                  refine hpa_goto (by rfl) ?_
                  exact hpa_return (by rfl) rfl (hP _ _ ⟨rfl, Or.inl ⟨_, _, _, _, _, _, _, _, _, _, by omega, BA105, RA105, by rw [GT_A103, hg_d0n (by omega)]; exact MT, by rw [eA105, Q_A103.1 31 (by omega)]; exact hb, by rw [eA105, Q_A103.1 37 (by omega)]; exact hz⟩⟩)
                ·
                  have fp_A103 := F_A103.pos
                  refine hpx_iast (by rfl) (by rfl) (fun A106 h0A106 h1A106 eA106 fA106 gA106 => ?_)
                  have FA106 := F_A103.ar eA106 gA106
                  have fpA106 := FA106.pos
                  refine hpa_goto (by rfl) ?_
                  exact hpa_return (by rfl) rfl (hP _ _ ⟨rfl, Or.inr FA106⟩)
              ·
                by_cases q107 : v1.toInt = 27
                ·
                  refine hpa_tabIn (by rfl) (by omega) (by omega) (by rw [q107]; rfl) (tgt := 186) (by rfl) ?_
                  have hK : K t = 7 := by unfold hmK at hkk; omega
                  refine hpa_aload_n (by rfl) rfl ?_
                  refine hpa_get (v := .ref 383) (by rfl) (by rfl) (by rfl) rfl ?_
                  refine hpa_aload_n (by rfl) rfl ?_
                  refine hpj_getK (by rfl) (by rfl) (by rfl) rfl ?_
                  refine hpa_aload_n (by rfl) rfl ?_
                  refine hpa_iconst (by rfl) rfl ?_
                  refine hpa_sipush (by rfl) rfl ?_
                  refine hpa_call0 (by rfl) (by rfl) (by rfl) (by rfl) (by rfl) (by rfl) (hP153 (Int32.ofNat 0) (Int32.ofNat 9999) hS hk_0 hk_9999 hB hR (hqd0_seed hK) rfl rfl) ?_
                  rintro _ A108 ⟨z109, rfl, (⟨B_A108, R_A108, Q_A108, GT_A108, VV_A108⟩ | F_A108)⟩
                  ·
                    have f0_A108 := B_A108.2.2.2
                    have nx_A108 := B_A108.2.1
                    have rd_A108 := R_A108.2.2.1
                    refine hpx_iast (by rfl) (by rfl) (fun A110 h0A110 h1A110 eA110 fA110 gA110 => ?_)
                    have BA110 := B_A108.ar eA110 fA110 gA110 (by omega)
                    have RA110 := R_A108.ar eA110 fA110 gA110 (by omega)
                    have f0A110 := BA110.2.2.2
                    have nxA110 := BA110.2.1
                    have rdA110 := RA110.2.2.1
                    rw [hsd] at fA110
                    have MT := (hM.Q Q_A108).se fA110 VV_A108
                    refine hpa_goto (by rfl) ?_
                    exact hpa_return (by rfl) rfl (hP _ _ ⟨rfl, Or.inl ⟨_, _, _, _, _, _, _, _, _, _, by omega, BA110, RA110, by rw [GT_A108, hg_d0n (by omega)]; exact MT, by rw [eA110, Q_A108.1 31 (by omega)]; exact hb, by rw [eA110, Q_A108.1 37 (by omega)]; exact hz⟩⟩)
                  ·
                    have fp_A108 := F_A108.pos
                    refine hpx_iast (by rfl) (by rfl) (fun A111 h0A111 h1A111 eA111 fA111 gA111 => ?_)
                    have FA111 := F_A108.ar eA111 gA111
                    have fpA111 := FA111.pos
                    refine hpa_goto (by rfl) ?_
                    exact hpa_return (by rfl) rfl (hP _ _ ⟨rfl, Or.inr FA111⟩)
                ·
                  refine hpa_tabOut (by rfl) (by omega) (tgt := 206) (by rfl) ?_
                  refine hpa_aload_n (by rfl) rfl ?_
                  refine hpa_get (v := .ref 371) (by rfl) (by rfl) (by rfl) rfl ?_
                  refine hpa_aload_n (by rfl) rfl ?_
                  refine hpj_getK (by rfl) (by rfl) (by rfl) rfl ?_
                  refine hpx_iald (by rfl) (by rfl) (fun h0v112 h1v112 v112 ev112 => ?_)
                  rw [hix] at ev112
                  have tv112 := congrArg Int32.toInt ev112
                  refine hpa_bipush (by rfl) rfl ?_
                  refine hpj_isub (by rfl) rfl hk_22 (by omega) (by omega) (fun z113 ez113 => ?_)
                  refine hpa_s1 (by rfl) (Or.inl ⟨_, rfl, rfl⟩) rfl ?_
                  refine hpa_iload_n (by rfl) rfl ?_
                  refine hpj_zlt (by rfl) rfl (fun q114 => ?_) (fun q114 => ?_)
                  ·
                    refine hpa_aload_n (by rfl) rfl ?_
                    refine hpa_iconst (by rfl) rfl ?_
                    refine hpa_call0 (by rfl) (by rfl) (by rfl) (by rfl) (by rfl) (by rfl) (hP145 (Int32.ofNat 1) hB ⟨_, hqq, hqd0_else hne (by unfold hmK at hkk; omega)⟩ (by decide) hk_1) ?_
                    rintro _ A115 ⟨rfl, F_A115⟩
                    have fp_A115 := F_A115.pos
                    refine hpa_aload_n (by rfl) rfl ?_
                    refine hpj_getK (by rfl) (by rfl) (by rfl) rfl ?_
                    refine hpj_zle (by rfl) rfl (fun q116 => False.elim (by omega)) (fun q116 => ?_)
                    exact hpa_return (by rfl) rfl (hP _ _ ⟨rfl, Or.inr F_A115⟩)
                  ·
                    refine hpa_aload_n (by rfl) rfl ?_
                    refine hpa_get (v := .ref 371) (by rfl) (by rfl) (by rfl) rfl ?_
                    refine hpa_aload_n (by rfl) rfl ?_
                    refine hpj_getK (by rfl) (by rfl) (by rfl) rfl ?_
                    refine hpx_iald (by rfl) (by rfl) (fun h0v117 h1v117 v117 ev117 => ?_)
                    rw [hix] at ev117
                    have tv117 := congrArg Int32.toInt ev117
                    refine hpa_bipush (by rfl) rfl ?_
                    refine hpj_cle (by rfl) rfl hk_25 (fun q118 => False.elim (by omega)) (fun q118 => ?_)
                    refine hpa_aload_n (by rfl) rfl ?_
                    refine hpa_iconst (by rfl) rfl ?_
                    refine hpa_call0 (by rfl) (by rfl) (by rfl) (by rfl) (by rfl) (by rfl) (hP145 (Int32.ofNat 1) hB ⟨_, hqq, hqd0_else hne (by unfold hmK at hkk; omega)⟩ (by decide) hk_1) ?_
                    rintro _ A119 ⟨rfl, F_A119⟩
                    have fp_A119 := F_A119.pos
                    refine hpa_aload_n (by rfl) rfl ?_
                    refine hpj_getK (by rfl) (by rfl) (by rfl) rfl ?_
                    refine hpj_zle (by rfl) rfl (fun q120 => False.elim (by omega)) (fun q120 => ?_)
                    exact hpa_return (by rfl) rfl (hP _ _ ⟨rfl, Or.inr F_A119⟩)
theorem hP154 {g d : Nat} {A : hs_A} {K V S : Nat → Int} {E : Nat → Nat → Bool} {t : Nat} {a b c : Nat} {ns : List Nat} {nm sn sd : Nat} {o : Option (Nat × Nat)} {bb zz : Nat} (hS : hmS K S) (hV : hg_V K V) (hB : hmB K V S E A t (0, a, b, c, ns, nm, sn, o)) (hR : hmR S A t ns sn o sd 0) (hM : hmM V A sd ns (hg_q K V E t).1 bb zz) (hb : (A.1 367 31).toInt = (bb : Int)) (hz : (A.1 367 37).toInt = (zz : Int)) (hne : ¬ K t = 22) : hpC g d 154 hm_m154 [.ref 368] A (fun r A' => r = none ∧ ((hmOK2 K V S E A' t sd) ∨ (hmF K V S E A'))) := hpC.all (fun f d => hW154 hS hV hB hR hM hb hz hne (fun r A' h => h))
