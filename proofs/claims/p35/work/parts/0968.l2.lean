theorem hEm.tr {A A3 A2 : hs_A} (h : hEm A3 A2) (w : hRT 3 A A3) (e : A3.1 367 18 = A.1 367 18) : hEm A A2 := by
  intro c j hl
  have q := h c j (by rw [e]; exact hl)
  rw [q]
  have hc : c = 383 ∨ c = 384 ∨ c = 385 ∨ c = 386 ∨ c = 387 ∨ c = 388 ∨ c = 389 ∨ c = 390 ∨ c = 391 := by
    rcases hl with ⟨x, -⟩ | ⟨x, -⟩ | ⟨x, -⟩ <;> omega
  rcases hc with rfl | rfl | rfl | rfl | rfl | rfl | rfl | rfl | rfl <;> exact w.2.1 _ (by rfl) j
theorem hY150r4 {d : Nat} {N : Int} {A : hs_A} (hA : hJ 0 N (N + 72) A A) (hN : N ≤ 900000) (hl : (A.1 367 18).toInt = 1) (h2 : (A.1 367 2).toInt = 0) (x1 : Value)  {P : Option Value → hs_A → Prop} (hP : ∀ (r : Option Value) (A' : hs_A), (hJ 0 (N + 72) (N + 144) A' A' ∧ ∃ z : Int32, r = some (.int z) ∧ ((A'.1 367 2).toInt = 0 ∧ A'.1 0 1 = A.1 0 1 ∧ (¬ z.toInt = 0 → hEm A A'))) → P r A') : hxa (d + 7) (some (.int)) hm_t150 41 [.ref 368, x1] [] A P := by
  have k0 := hk_0
  have hA4 := hJ.start4 (Q := 4) (by omega) hA
  have L112 : ∀ (m112 : Nat) (w112_0 : Int32) (w112_1 : Int32) (w112_2 : Int32) (w112_3 : Int32) (w112_4 : Int32) (w112_5 : Int32) (w112_6 : Int32) (x112_1 : Value) (Ac112 : hs_A) (hAc112 : hJ 4 N (N + 72) A Ac112) (ek112_0 : Ac112.1 367 11 = w112_0) (ek112_1 : Ac112.1 367 12 = w112_1) (ek112_2 : Ac112.1 367 13 = w112_2) (ek112_3 : Ac112.1 367 19 = w112_3) (ek112_4 : Ac112.1 367 20 = w112_4) (ek112_5 : Ac112.1 367 31 = w112_5) (ek112_6 : Ac112.1 367 37 = w112_6) (bw112_0 : 0 ≤ w112_0.toInt) (cw112_0 : w112_0.toInt ≤ 400) (bw112_1 : 0 ≤ w112_1.toInt) (cw112_1 : w112_1.toInt ≤ 7) (bw112_2 : 0 ≤ w112_2.toInt) (cw112_2 : w112_2.toInt ≤ 2) (bw112_3 : 0 ≤ w112_3.toInt) (cw112_3 : w112_3.toInt ≤ 0) (bw112_4 : 0 ≤ w112_4.toInt) (cw112_4 : w112_4.toInt ≤ 10) (bw112_5 : 0 ≤ w112_5.toInt) (cw112_5 : w112_5.toInt ≤ 260) (bw112_6 : 0 ≤ w112_6.toInt) (cw112_6 : w112_6.toInt ≤ 840) (u112_0 : hVr 0 Ac112) (u112_1 : (Ac112.1 367 20).toInt = (Ac112.2.1 376 0).toInt) (u112_2 : ¬ (Ac112.1 367 13).toInt = 0 ∨ (4 * ((Ac112.1 367 31).toInt - 0) ≤ (Ac112.1 367 11).toInt ∧ (Ac112.1 367 37).toInt ≤ 0 + (Ac112.1 367 11).toInt ∧ (Ac112.1 367 12).toInt ≤ 6)) (u112_3 : 0 ≤ (Ac112.1 367 31).toInt ∧ (Ac112.1 367 31).toInt ≤ 103 ∧ 0 ≤ (Ac112.1 367 37).toInt ∧ (Ac112.1 367 37).toInt ≤ 402) (hm112 : 806 - 2 * w112_0.toInt - 2 * w112_2.toInt < (m112 : Int)), hxa (d + 7) (some (.int)) hm_t150 112 [.ref 368, x112_1] [] Ac112 P := by
    intro m112
    induction m112 with
    | zero => intro w112_0 w112_1 w112_2 w112_3 w112_4 w112_5 w112_6 x112_1 Ac112 hAc112 ek112_0 ek112_1 ek112_2 ek112_3 ek112_4 ek112_5 ek112_6 bw112_0 cw112_0 bw112_1 cw112_1 bw112_2 cw112_2 bw112_3 cw112_3 bw112_4 cw112_4 bw112_5 cw112_5 bw112_6 cw112_6 u112_0 u112_1 u112_2 u112_3 hm112;  exact False.elim (by omega)
    | succ m112 ih112 =>
      intro w112_0 w112_1 w112_2 w112_3 w112_4 w112_5 w112_6 x112_1 Ac112 hAc112 ek112_0 ek112_1 ek112_2 ek112_3 ek112_4 ek112_5 ek112_6 bw112_0 cw112_0 bw112_1 cw112_1 bw112_2 cw112_2 bw112_3 cw112_3 bw112_4 cw112_4 bw112_5 cw112_5 bw112_6 cw112_6 u112_0 u112_1 u112_2 u112_3 hm112
      have tk112_0 : (Ac112.1 367 11).toInt = w112_0.toInt := congrArg Int32.toInt ek112_0
      have tk112_1 : (Ac112.1 367 12).toInt = w112_1.toInt := congrArg Int32.toInt ek112_1
      have tk112_2 : (Ac112.1 367 13).toInt = w112_2.toInt := congrArg Int32.toInt ek112_2
      have tk112_3 : (Ac112.1 367 19).toInt = w112_3.toInt := congrArg Int32.toInt ek112_3
      have tk112_4 : (Ac112.1 367 20).toInt = w112_4.toInt := congrArg Int32.toInt ek112_4
      have tk112_5 : (Ac112.1 367 31).toInt = w112_5.toInt := congrArg Int32.toInt ek112_5
      have tk112_6 : (Ac112.1 367 37).toInt = w112_6.toInt := congrArg Int32.toInt ek112_6
      refine hxa_aload_n (by rfl) rfl ?_
      refine hxj_getK (by rfl) (by rfl) (by rfl) ek112_2 ?_
      refine hxj_zne (by rfl) rfl (fun q1 => ?_) (fun q1 => ?_)
      ·
        refine hxa_aload_n (by rfl) rfl ?_
        refine hxa_aload_n (by rfl) rfl ?_
        refine hxj_getK (by rfl) (by rfl) (by rfl) ek112_2 ?_
        refine hxj_zle (by rfl) rfl (fun q2 => False.elim (by omega)) (fun q2 => ?_)
        refine hxa_aload_n (by rfl) rfl ?_
        refine hxj_getI (by rfl) (by rfl) (by rfl) (fun z3 ez3 => ?_)
        refine hxa_goto (by rfl) ?_
        refine hxj_putI (by rfl) (by rfl) (by rfl) (by rfl) hAc112 (hbokN (by rfl)) (by rfl) (by rfl) (fun A4 hA4 eA4 fA4 => ?_)
        refine hxa_aload_n (by rfl) rfl ?_
        refine hxj_getK (by rfl) (by rfl) (by rfl) (hkF eA4 (by first | decide | omega) ek112_2) ?_
        refine hxj_zle (by rfl) rfl (fun q5 => False.elim (by omega)) (fun q5 => ?_)
        refine hxa_aload_n (by rfl) rfl ?_
        refine hxj_getK (by rfl) (by rfl) (by rfl) (hkF eA4 (by first | decide | omega) ek112_2) ?_
        exact hxa_ireturn (by rfl) rfl (hP _ _ ⟨(hJ.mono (hJ.end4 (by omega) hA4) (by omega) (by omega)), _, rfl, ⟨by rw [hA4.2.2.1.1 367 2 (by rfl)]; exact h2, (hA4.cls4 (by omega)).2.2.2.2.2, fun _ => hA4.em (by omega)⟩⟩)
      ·
        refine hxa_aload_n (by rfl) rfl ?_
        refine hxa_iconst (by rfl) rfl ?_
        have nAc112_11 : (Ac112.1 367 11).toInt = w112_0.toInt := congrArg Int32.toInt ek112_0
        have nAc112_12 : (Ac112.1 367 12).toInt = w112_1.toInt := congrArg Int32.toInt ek112_1
        have nAc112_13 : (Ac112.1 367 13).toInt = w112_2.toInt := congrArg Int32.toInt ek112_2
        have nAc112_37 : (Ac112.1 367 37).toInt = w112_6.toInt := congrArg Int32.toInt ek112_6
        refine hxa_call0 (by rfl) (by rfl) (by rfl) (by rfl) (by rfl) (by rfl) (hX144q4 (d := d + 6) hAc112 (Int32.ofNat 0)) ?_
        rintro _ _ ⟨rfl, z6, rfl, fz6⟩
        rcases fz6 with fz6 | fz6
        ·
          refine hxj_zne (by rfl) rfl (fun q7 => ?_) (fun q7 => False.elim (by omega))
          refine hxa_aload_n (by rfl) rfl ?_
          refine hxa_aload_n (by rfl) rfl ?_
          refine hxj_getK (by rfl) (by rfl) (by rfl) ek112_2 ?_
          refine hxj_zle (by rfl) rfl (fun q8 => ?_) (fun q8 => False.elim (by omega))
          refine hxa_aload_n (by rfl) rfl ?_
          refine hxj_getI (by rfl) (by rfl) (by rfl) (fun z9 ez9 => ?_)
          refine hxj_zle (by rfl) rfl (fun q10 => ?_) (fun q10 => ?_)
          ·
            refine hxa_iconst (by rfl) rfl ?_
            refine hxj_putI (by rfl) (by rfl) (by rfl) (by rfl) hAc112 (hbokN (by rfl)) (by rfl) (by rfl) (fun A11 hA11 eA11 fA11 => ?_)
            refine hxa_aload_n (by rfl) rfl ?_
            refine hxj_getK (by rfl) (by rfl) (by rfl) (hkF eA11 (by first | decide | omega) ek112_2) ?_
            refine hxj_zle (by rfl) rfl (fun q12 => ?_) (fun q12 => False.elim (by omega))
            refine hxa_aload_n (by rfl) rfl ?_
            refine hxj_getK (by rfl) (by rfl) (by rfl) (hkF eA11 (by first | decide | omega) ez9) ?_
            refine hxj_zle (by rfl) rfl (fun q13 => ?_) (fun q13 => False.elim (by omega))
            refine hxa_aload_n (by rfl) rfl ?_
            refine hxa_aload_n (by rfl) rfl ?_
            refine hxj_getK (by rfl) (by rfl) (by rfl) (hkF eA11 (by first | decide | omega) ek112_3) ?_
            have nA11_11 : (A11.1 367 11).toInt = w112_0.toInt := congrArg Int32.toInt (hkF eA11 (by first | decide | omega) ek112_0)
            have nA11_12 : (A11.1 367 12).toInt = w112_1.toInt := congrArg Int32.toInt (hkF eA11 (by first | decide | omega) ek112_1)
            have nA11_13 : (A11.1 367 13).toInt = w112_2.toInt := congrArg Int32.toInt (hkF eA11 (by first | decide | omega) ek112_2)
            have nA11_19 : (A11.1 367 19).toInt = w112_3.toInt := congrArg Int32.toInt (hkF eA11 (by first | decide | omega) ek112_3)
            have nA11_20 : (A11.1 367 20).toInt = w112_4.toInt := congrArg Int32.toInt (hkF eA11 (by first | decide | omega) ek112_4)
            have nA11_31 : (A11.1 367 31).toInt = w112_5.toInt := congrArg Int32.toInt (hkF eA11 (by first | decide | omega) ek112_5)
            have nA11_37 : (A11.1 367 37).toInt = w112_6.toInt := congrArg Int32.toInt (hkF eA11 (by first | decide | omega) ek112_6)
            have hx9 : w112_3.toInt = 0 := by omega
            have vr9 : hVr 0 A11 := hVr.cg u112_0 (Eq.trans (hkF eA11 (by first | decide | omega) ek112_5) ek112_5.symm) (Eq.trans (hkF eA11 (by first | decide | omega) ek112_6) ek112_6.symm) (fun c q1 q2 => by rw [(show A11.2.1 = Ac112.2.1 from congrArg Prod.fst fA11)])
            have c01 := (hA11.cls4 (by omega)).2.2.2.2.2
            have c02 : A11.1 367 2 = A.1 367 2 := hA11.2.2.1.1 367 2 (by rfl)
            refine hxj_putLive (s := 0) (by rfl) (by omega) hA11 hx9 (by omega) vr9 (by omega) (by omega) (fun A14 hA14 eA14 fA14 => ?_)
            have d01 : A14.1 0 1 = A.1 0 1 := by rw [eA14, hup2 (by omega)]; exact c01
            have d02 : A14.1 367 2 = A.1 367 2 := by rw [eA14, hup2 (by omega)]; exact c02
            refine hxa_aload_n (by rfl) rfl ?_
            refine hxa_call0 (by rfl) (by rfl) (by rfl) (by rfl) (by rfl) (by rfl) (hX169 (d := d + 6) hA14 ) ?_
            rintro _ A15 ⟨hA15, rfl⟩
            refine hxa_aload_n (by rfl) rfl ?_
            refine hxa_call0 (by rfl) (by rfl) (by rfl) (by rfl) (by rfl) (by rfl) (hX170 (d := d + 6) hA15 (by omega)) ?_
            rintro _ A16 ⟨hA16, rfl⟩
            refine hxa_aload_n (by rfl) rfl ?_
            refine hxa_iconst (by rfl) rfl ?_
            refine hxj_putI (by rfl) (by rfl) (by rfl) (by rfl) hA16 (hbok (by rfl) hk_0 (by omega) (by omega)) (by rfl) (by rfl) (fun A17 hA17 eA17 fA17 => ?_)
            refine hxa_aload_n (by rfl) rfl ?_
            refine hxa_iconst (by rfl) rfl ?_
            refine hxj_putI (by rfl) (by rfl) (by rfl) (by rfl) hA17 (hbok (by rfl) hk_0 (by omega) (by omega)) (by rfl) (by rfl) (fun A18 hA18 eA18 fA18 => ?_)
            refine hxa_iconst (by rfl) rfl ?_
            refine hxa_s1 (by rfl) (Or.inl ⟨_, rfl, rfl⟩) rfl ?_
            refine hxa_iload_n (by rfl) rfl ?_
            refine hxa_iconst (by rfl) rfl ?_
            refine hxj_cge (by rfl) hk_0 hk_3 (fun q19 => False.elim (by omega)) (fun q19 => ?_)
            refine hxa_aload_n (by rfl) rfl ?_
            refine hxa_get (v := .ref 409) (by rfl) (by rfl) (by rfl) rfl ?_
            refine hxa_iload_n (by rfl) rfl ?_
            refine hxa_iconst (by rfl) rfl ?_
            refine hxj_zast (by rfl) (by rfl) hk_0 (by omega) (by omega) hk_0 (by omega) (by omega) hA18 (hbokN (by rfl)) (by rfl) (by rfl) (fun A20 hA20 eA20 fA20 gA20 => ?_)
            refine hxj_iinc (by rfl) rfl hk_0 hk_1 (by omega) (by omega) (fun _ => rfl) (fun z21 ez21 => ?_)
            refine hxa_goto (by rfl) ?_
            refine hxa_iload_n (by rfl) rfl ?_
            refine hxa_iconst (by rfl) rfl ?_
            refine hxj_cge (by rfl) rfl hk_3 (fun q22 => False.elim (by omega)) (fun q22 => ?_)
            refine hxa_aload_n (by rfl) rfl ?_
            refine hxa_get (v := .ref 409) (by rfl) (by rfl) (by rfl) rfl ?_
            refine hxa_iload_n (by rfl) rfl ?_
            refine hxa_iconst (by rfl) rfl ?_
            refine hxj_zast (by rfl) (by rfl) rfl (by omega) (by omega) hk_0 (by omega) (by omega) hA20 (hbokN (by rfl)) (by rfl) (by rfl) (fun A23 hA23 eA23 fA23 gA23 => ?_)
            refine hxj_iinc (by rfl) rfl rfl hk_1 (by omega) (by omega) (fun _ => rfl) (fun z24 ez24 => ?_)
            refine hxa_goto (by rfl) ?_
            refine hxa_iload_n (by rfl) rfl ?_
            refine hxa_iconst (by rfl) rfl ?_
            refine hxj_cge (by rfl) rfl hk_3 (fun q25 => False.elim (by omega)) (fun q25 => ?_)
            refine hxa_aload_n (by rfl) rfl ?_
            refine hxa_get (v := .ref 409) (by rfl) (by rfl) (by rfl) rfl ?_
            refine hxa_iload_n (by rfl) rfl ?_
            refine hxa_iconst (by rfl) rfl ?_
            refine hxj_zast (by rfl) (by rfl) rfl (by omega) (by omega) hk_0 (by omega) (by omega) hA23 (hbokN (by rfl)) (by rfl) (by rfl) (fun A26 hA26 eA26 fA26 gA26 => ?_)
            refine hxj_iinc (by rfl) rfl rfl hk_1 (by omega) (by omega) (fun _ => rfl) (fun z27 ez27 => ?_)
            refine hxa_goto (by rfl) ?_
            refine hxa_iload_n (by rfl) rfl ?_
            refine hxa_iconst (by rfl) rfl ?_
            refine hxj_cge (by rfl) rfl hk_3 (fun q28 => ?_) (fun q28 => False.elim (by omega))
            refine hxa_iconst (by rfl) rfl ?_
            exact hxa_ireturn (by rfl) rfl (hP _ _ ⟨(hJ.mono (hJ.self hA26) (by omega) (by omega)), _, rfl, ⟨by rw [hA26.2.2.1.1 367 2 (by rfl), d02]; exact h2, (hA26.2.2.1.1 0 1 (by rfl)).trans d01, fun q => absurd hk_0 q⟩⟩)
          ·
            refine hxa_aload_n (by rfl) rfl ?_
            refine hxj_getI (by rfl) (by rfl) (by rfl) (fun z29 ez29 => ?_)
            refine hxa_goto (by rfl) ?_
            refine hxj_putI (by rfl) (by rfl) (by rfl) (by rfl) hAc112 (hbokN (by rfl)) (by rfl) (by rfl) (fun A30 hA30 eA30 fA30 => ?_)
            refine hxa_aload_n (by rfl) rfl ?_
            refine hxj_getK (by rfl) (by rfl) (by rfl) (hkF eA30 (by first | decide | omega) ek112_2) ?_
            refine hxj_zle (by rfl) rfl (fun q31 => ?_) (fun q31 => False.elim (by omega))
            refine hxa_aload_n (by rfl) rfl ?_
            refine hxj_getK (by rfl) (by rfl) (by rfl) (hkF eA30 (by first | decide | omega) ez9) ?_
            refine hxj_zle (by rfl) rfl (fun q32 => False.elim (by omega)) (fun q32 => ?_)
            refine hxa_aload_n (by rfl) rfl ?_
            refine hxj_getK (by rfl) (by rfl) (by rfl) (hkF eA30 (by first | decide | omega) ez9) ?_
            exact hxa_ireturn (by rfl) rfl (hP _ _ ⟨(hJ.mono (hJ.end4 (by omega) hA30) (by omega) (by omega)), _, rfl, ⟨by rw [hA30.2.2.1.1 367 2 (by rfl)]; exact h2, (hA30.cls4 (by omega)).2.2.2.2.2, fun _ => hA30.em (by omega)⟩⟩)
        ·
          refine hxj_zne (by rfl) rfl (fun q33 => False.elim (by omega)) (fun q33 => ?_)
          refine hxa_aload_n (by rfl) rfl ?_
          refine hxa_call0 (by rfl) (by rfl) (by rfl) (by rfl) (by rfl) (by rfl) (hX154q4 (d := d + 0) hAc112 u112_0 u112_1 (by omega) (by omega) (by omega) (by omega) (by omega) (by rw [(show Ac112.1 367 19 = w112_3 from ek112_3)]; omega) (by rw [(show Ac112.1 367 19 = w112_3 from ek112_3)]; omega)) ?_
          rintro _ A34 ⟨hA34, frA34_0, rfl, fA34⟩
          have ttA34_19 : (A34.1 367 19).toInt = w112_3.toInt := congrArg Int32.toInt (frA34_0.trans ek112_3)
          have fbA34_367_11 := hA34.f (i := 367) (k := 11) (by rfl)
          have fbA34_367_12 := hA34.f (i := 367) (k := 12) (by rfl)
          have fbA34_367_13 := hA34.f (i := 367) (k := 13) (by rfl)
          have fbA34_367_20 := hA34.f (i := 367) (k := 20) (by rfl)
          have fbA34_367_31 := hA34.f (i := 367) (k := 31) (by rfl)
          have fbA34_367_37 := hA34.f (i := 367) (k := 37) (by rfl)
          refine hxa_goto (by rfl) ?_
          have nA34_19 : (A34.1 367 19).toInt = w112_3.toInt := congrArg Int32.toInt (frA34_0.trans ek112_3)
          have fx := fA34.2
          exact ih112 (A34.1 367 11) (A34.1 367 12) (A34.1 367 13) w112_3 (A34.1 367 20) (A34.1 367 31) (A34.1 367 37) (x112_1) A34 hA34 rfl rfl rfl (frA34_0.trans ek112_3) rfl rfl rfl (by omega) (by omega) (by omega) (by omega) (by omega) (by omega) (by omega) (by omega) (by omega) (by omega) (by omega) (by omega) (by omega) (by omega) (by exact fA34.2.2.2.2.2.2.1) (by exact fA34.2.2.2.2.2.2.2) (by omega) (by omega) (by omega)
  refine hxa_aload_n (by rfl) rfl ?_
  refine hxa_call0 (by rfl) (by rfl) (by rfl) (by rfl) (by rfl) (by rfl) (hX142q4 (d := d + 4) hA4 ) ?_
  rintro _ A35 ⟨hA35, rfl⟩
  refine hxa_aload_n (by rfl) rfl ?_
  refine hxa_iconst (by rfl) rfl ?_
  refine hxj_putI (by rfl) (by rfl) (by rfl) (by rfl) hA35 (hbok (by rfl) hk_0 (by omega) (by omega)) (by rfl) (by rfl) (fun A36 hA36 eA36 fA36 => ?_)
  refine hxa_aload_n (by rfl) rfl ?_
  refine hxa_iconst (by rfl) rfl ?_
  refine hxj_putI (by rfl) (by rfl) (by rfl) (by rfl) hA36 (hbok (by rfl) hk_0 (by omega) (by omega)) (by rfl) (by rfl) (fun A37 hA37 eA37 fA37 => ?_)
  refine hxa_aload_n (by rfl) rfl ?_
  refine hxa_iconst (by rfl) rfl ?_
  refine hxj_putI (by rfl) (by rfl) (by rfl) (by rfl) hA37 (hbok (by rfl) hk_0 (by omega) (by omega)) (by rfl) (by rfl) (fun A38 hA38 eA38 fA38 => ?_)
  refine hxa_aload_n (by rfl) rfl ?_
  refine hxa_iconst (by rfl) rfl ?_
  refine hxj_putI (by rfl) (by rfl) (by rfl) (by rfl) hA38 (hbokN (by rfl)) (by rfl) (by rfl) (fun A39 hA39 eA39 fA39 => ?_)
  refine hxa_aload_n (by rfl) rfl ?_
  refine hxa_iconst (by rfl) rfl ?_
  refine hxa_aload_n (by rfl) rfl ?_
  refine hxj_getB (by rfl) (by rfl) (by rfl) hA39 (by rfl) (fun z40 ez40 fz40 gz40 => ?_)
  have hz18 : z40.toInt = 1 := by rw [← hfrf hA39 (by rfl) (show A39.1 367 18 = z40 from ez40)]; exact hl
  refine hxj_isub (by rfl) hk_1 rfl (by omega) (by omega) (fun z41 ez41 => ?_)
  refine hxj_putI (by rfl) (by rfl) (by rfl) (by rfl) hA39 (hbok (by rfl) rfl (by omega) (by omega)) (by rfl) (by rfl) (fun A42 hA42 eA42 fA42 => ?_)
  refine hxa_aload_n (by rfl) rfl ?_
  refine hxa_iconst (by rfl) rfl ?_
  refine hxj_putI (by rfl) (by rfl) (by rfl) (by rfl) hA42 (hbok (by rfl) hk_0 (by omega) (by omega)) (by rfl) (by rfl) (fun A43 hA43 eA43 fA43 => ?_)
  refine hxa_aload_n (by rfl) rfl ?_
  refine hxa_aload_n (by rfl) rfl ?_
  refine hxj_getK (by rfl) (by rfl) (by rfl) (hkF eA43 (by first | decide | omega) (hkS eA42)) ?_
  have nA43_11 : (A43.1 367 11).toInt = 0 := congrArg Int32.toInt (hkF eA43 (by first | decide | omega) (hkF eA42 (by first | decide | omega) (hkF eA39 (by first | decide | omega) (hkF eA38 (by first | decide | omega) (hkF eA37 (by first | decide | omega) (hkS eA36))))))
  have nA43_12 : (A43.1 367 12).toInt = 0 := congrArg Int32.toInt (hkF eA43 (by first | decide | omega) (hkF eA42 (by first | decide | omega) (hkF eA39 (by first | decide | omega) (hkF eA38 (by first | decide | omega) (hkS eA37)))))
  have nA43_13 : (A43.1 367 13).toInt = 0 := congrArg Int32.toInt (hkF eA43 (by first | decide | omega) (hkF eA42 (by first | decide | omega) (hkF eA39 (by first | decide | omega) (hkS eA38))))
  refine hxa_call0 (by rfl) (by rfl) (by rfl) (by rfl) (by rfl) (by rfl) (hX149q4 (d := d + 6) hA43 (by omega) z41 (by omega) (by omega)) ?_
  rintro _ A44 ⟨hA44, frA44_0, frA44_1, frA44_2, frA44_3, frA44_4, frA44_5, frA44_6, frA44_7, rfl, fA44⟩
  have ttA44_11 : (A44.1 367 11).toInt = 0 := congrArg Int32.toInt (frA44_0.trans (hkF eA43 (by first | decide | omega) (hkF eA42 (by first | decide | omega) (hkF eA39 (by first | decide | omega) (hkF eA38 (by first | decide | omega) (hkF eA37 (by first | decide | omega) (hkS eA36)))))))
  have ttA44_12 : (A44.1 367 12).toInt = 0 := congrArg Int32.toInt (frA44_1.trans (hkF eA43 (by first | decide | omega) (hkF eA42 (by first | decide | omega) (hkF eA39 (by first | decide | omega) (hkF eA38 (by first | decide | omega) (hkS eA37))))))
  have ttA44_13 : (A44.1 367 13).toInt = 0 := congrArg Int32.toInt (frA44_2.trans (hkF eA43 (by first | decide | omega) (hkF eA42 (by first | decide | omega) (hkF eA39 (by first | decide | omega) (hkS eA38)))))
  have ttA44_19 : (A44.1 367 19).toInt = z41.toInt := congrArg Int32.toInt (frA44_3.trans (hkF eA43 (by first | decide | omega) (hkS eA42)))
  have ttA44_20 : (A44.1 367 20).toInt = 0 := congrArg Int32.toInt (frA44_4.trans (hkS eA43))
  refine hxa_aload_n (by rfl) rfl ?_
  refine hxa_sipush (by rfl) rfl ?_
  refine hxa_aload_n (by rfl) rfl ?_
  refine hxj_getK (by rfl) (by rfl) (by rfl) (frA44_3.trans (hkF eA43 (by first | decide | omega) (hkS eA42))) ?_
  refine hxj_imul (by rfl) hk_130 rfl (by omega) (by omega) (fun z45 ez45 => ?_)
  refine hxj_putI (by rfl) (by rfl) (by rfl) (by rfl) hA44 (hbok (by rfl) rfl (by omega) (by omega)) (by rfl) (by rfl) (fun A46 hA46 eA46 fA46 => ?_)
  refine hxa_aload_n (by rfl) rfl ?_
  refine hxa_sipush (by rfl) rfl ?_
  refine hxa_aload_n (by rfl) rfl ?_
  refine hxj_getK (by rfl) (by rfl) (by rfl) (hkF eA46 (by first | decide | omega) (frA44_3.trans (hkF eA43 (by first | decide | omega) (hkS eA42)))) ?_
  refine hxj_imul (by rfl) hk_420 rfl (by omega) (by omega) (fun z47 ez47 => ?_)
  refine hxj_putI (by rfl) (by rfl) (by rfl) (by rfl) hA46 (hbok (by rfl) rfl (by omega) (by omega)) (by rfl) (by rfl) (fun A48 hA48 eA48 fA48 => ?_)
  have nA48_11 : (A48.1 367 11).toInt = 0 := congrArg Int32.toInt (hkF eA48 (by first | decide | omega) (hkF eA46 (by first | decide | omega) (frA44_0.trans (hkF eA43 (by first | decide | omega) (hkF eA42 (by first | decide | omega) (hkF eA39 (by first | decide | omega) (hkF eA38 (by first | decide | omega) (hkF eA37 (by first | decide | omega) (hkS eA36)))))))))
  have nA48_12 : (A48.1 367 12).toInt = 0 := congrArg Int32.toInt (hkF eA48 (by first | decide | omega) (hkF eA46 (by first | decide | omega) (frA44_1.trans (hkF eA43 (by first | decide | omega) (hkF eA42 (by first | decide | omega) (hkF eA39 (by first | decide | omega) (hkF eA38 (by first | decide | omega) (hkS eA37))))))))
  have nA48_13 : (A48.1 367 13).toInt = 0 := congrArg Int32.toInt (hkF eA48 (by first | decide | omega) (hkF eA46 (by first | decide | omega) (frA44_2.trans (hkF eA43 (by first | decide | omega) (hkF eA42 (by first | decide | omega) (hkF eA39 (by first | decide | omega) (hkS eA38)))))))
  have nA48_19 : (A48.1 367 19).toInt = z41.toInt := congrArg Int32.toInt (hkF eA48 (by first | decide | omega) (hkF eA46 (by first | decide | omega) (frA44_3.trans (hkF eA43 (by first | decide | omega) (hkS eA42)))))
  have nA48_20 : (A48.1 367 20).toInt = 0 := congrArg Int32.toInt (hkF eA48 (by first | decide | omega) (hkF eA46 (by first | decide | omega) (frA44_4.trans (hkS eA43))))
  have nA48_31 : (A48.1 367 31).toInt = z45.toInt := congrArg Int32.toInt (hkF eA48 (by first | decide | omega) (hkS eA46))
  have nA48_37 : (A48.1 367 37).toInt = z47.toInt := congrArg Int32.toInt (hkS eA48)
  have apl : A48.2.1 = A44.2.1 := by rw [(show A48.2.1 = A46.2.1 from congrArg Prod.fst fA48), (show A46.2.1 = A44.2.1 from congrArg Prod.fst fA46)]
  have vr0 : hVr 0 A48 := fun a h1 h2 => Or.inl (by rw [apl]; exact fA44.2 a (by omega) (by omega))
  have hn0 : (A48.1 367 20).toInt = (A48.2.1 376 0).toInt := by rw [apl, fA44.1]; omega
  exact L112 (Int.toNat (806 - 2 * 0 - 2 * 0) + 1) (Int32.ofNat 0) (Int32.ofNat 0) (Int32.ofNat 0) z41 (Int32.ofNat 0) z45 z47 (x1) A48 hA48 (hkF eA48 (by first | decide | omega) (hkF eA46 (by first | decide | omega) (frA44_0.trans (hkF eA43 (by first | decide | omega) (hkF eA42 (by first | decide | omega) (hkF eA39 (by first | decide | omega) (hkF eA38 (by first | decide | omega) (hkF eA37 (by first | decide | omega) (hkS eA36))))))))) (hkF eA48 (by first | decide | omega) (hkF eA46 (by first | decide | omega) (frA44_1.trans (hkF eA43 (by first | decide | omega) (hkF eA42 (by first | decide | omega) (hkF eA39 (by first | decide | omega) (hkF eA38 (by first | decide | omega) (hkS eA37)))))))) (hkF eA48 (by first | decide | omega) (hkF eA46 (by first | decide | omega) (frA44_2.trans (hkF eA43 (by first | decide | omega) (hkF eA42 (by first | decide | omega) (hkF eA39 (by first | decide | omega) (hkS eA38))))))) (hkF eA48 (by first | decide | omega) (hkF eA46 (by first | decide | omega) (frA44_3.trans (hkF eA43 (by first | decide | omega) (hkS eA42))))) (hkF eA48 (by first | decide | omega) (hkF eA46 (by first | decide | omega) (frA44_4.trans (hkS eA43)))) (hkF eA48 (by first | decide | omega) (hkS eA46)) (hkS eA48) (by omega) (by omega) (by omega) (by omega) (by omega) (by omega) (by omega) (by omega) (by omega) (by omega) (by omega) (by omega) (by omega) (by omega) (by exact vr0) (by exact hn0) (by omega) (by omega) (by omega)
theorem hY150r4_1 {d : Nat} {N : Int} {A : hs_A} (hA : hJ 0 N (N + 72) A A) (hN : N ≤ 900000) (hl : (A.1 367 18).toInt = 1)  {P : Option Value → hs_A → Prop} (hP : ∀ (r : Option Value) (A' : hs_A), (hJ 0 (N + 72) (N + 144) A' A' ∧ ∃ z : Int32, r = some (.int z) ∧ ((A'.1 367 2).toInt = 0 ∧ A'.1 0 1 = A.1 0 1 ∧ (¬ z.toInt = 0 → hEm A A'))) → P r A') : hxa (d + 7) (some (.int)) hm_t150 0 [.ref 368, .retAddr 0] [] A P := by
  have k0 := hk_0
  have hA3 := hJ.to3 hA
  have L10 : ∀ (m10 : Nat) (x10_1 : Int32) (Ac10 : hs_A) (hAc10 : hJ 3 N (N + 72) A Ac10) (bx10_1 : 0 ≤ x10_1.toInt) (cx10_1 : x10_1.toInt ≤ 2000) (hm10 : 2000 - x10_1.toInt < (m10 : Int)), hxa (d + 7) (some (.int)) hm_t150 10 [.ref 368, .int x10_1] [] Ac10 P := by
    intro m10
    induction m10 with
    | zero => intro x10_1 Ac10 hAc10 bx10_1 cx10_1 hm10;  exact False.elim (by omega)
    | succ m10 ih10 =>
      intro x10_1 Ac10 hAc10 bx10_1 cx10_1 hm10
      refine hxa_iload_n (by rfl) rfl ?_
      refine hxa_aload_n (by rfl) rfl ?_
      refine hxj_getB (by rfl) (by rfl) (by rfl) hAc10 (by rfl) (fun z1 ez1 fz1 gz1 => ?_)
      refine hxj_cge (by rfl) rfl rfl (fun q2 => ?_) (fun q2 => ?_)
      ·
        refine hxa_aload_n (by rfl) rfl ?_
        refine hxa_iconst (by rfl) rfl ?_
        refine hxj_putI (by rfl) (by rfl) (by rfl) (by rfl) hAc10 (hbok (by rfl) hk_0 (by omega) (by omega)) (by rfl) (by rfl) (fun A3 hA3 eA3 fA3 => ?_)
        have he := hJ.end3 hA3
        exact hY150r4 (d := d) he.1 hN (by rw [he.2.2]; exact hl) (by rw [(show A3.1 367 2 = (Int32.ofNat 0) from (hkS eA3))]; decide) (.int x10_1) (fun r A2 h => hP r A2 ⟨h.1, h.2.imp (fun z w => ⟨w.1, w.2.1, w.2.2.1.trans he.2.1, fun q => (w.2.2.2 q).tr hA3.2.2.1 he.2.2⟩)⟩)
      ·
        refine hxa_aload_n (by rfl) rfl ?_
        refine hxa_get (v := .ref 370) (by rfl) (by rfl) (by rfl) rfl ?_
        refine hxa_iload_n (by rfl) rfl ?_
        refine hxa_aload_n (by rfl) rfl ?_
        refine hxa_get (v := .ref 369) (by rfl) (by rfl) (by rfl) rfl ?_
        refine hxa_iload_n (by rfl) rfl ?_
        refine hxj_bald (by rfl) (by rfl) rfl (by omega) (by omega) (fun z4 ez4 => ?_)
        refine hxj_bast (by rfl) (by rfl) rfl (by omega) (by omega) hAc10 (by rfl) (by rfl) (by rfl) (fun A5 hA5 eA5 fA5 gA5 => ?_)
        refine hxj_iinc (by rfl) rfl rfl hk_1 (by omega) (by omega) (fun _ => rfl) (fun z6 ez6 => ?_)
        refine hxa_goto (by rfl) ?_
        exact ih10 z6 A5 hA5 (by omega) (by omega) (by omega)
  refine hxa_aload_n (by rfl) rfl ?_
  refine hxa_aload_n (by rfl) rfl ?_
  refine hxj_getB (by rfl) (by rfl) (by rfl) hA3 (by rfl) (fun z7 ez7 fz7 gz7 => ?_)
  refine hxj_putI (by rfl) (by rfl) (by rfl) (by rfl) hA3 (hbok (by rfl) rfl (by omega) (by omega)) (by rfl) (by rfl) (fun A8 hA8 eA8 fA8 => ?_)
  refine hxa_iconst (by rfl) rfl ?_
  refine hxa_s1 (by rfl) (Or.inl ⟨_, rfl, rfl⟩) rfl ?_
  exact L10 (Int.toNat (2000 - 0) + 1) (Int32.ofNat 0) A8 hA8 (by omega) (by omega) (by omega)
theorem hX150r4_1 {d : Nat} {N : Int} {A : hs_A} (hA : hJ 0 N (N + 72) A A) (hN : N ≤ 900000) (hl : (A.1 367 18).toInt = 1)  : hxC (d + 8) 150 hm_m150 [.ref 368] A (fun r A' => hJ 0 (N + 72) (N + 144) A' A' ∧ ∃ z : Int32, r = some (.int z) ∧ ((A'.1 367 2).toInt = 0 ∧ A'.1 0 1 = A.1 0 1 ∧ (¬ z.toInt = 0 → hEm A A'))) := hxC.of (by rfl) (hY150r4_1 hA hN hl (fun r A' h => h))
theorem hY150r5 {d : Nat} {N : Int} {A : hs_A} (hA : hJ 0 N (N + 72) A A) (hN : N ≤ 900000) (hl : (A.1 367 18).toInt = 0) (h2 : (A.1 367 2).toInt = 0) (x1 : Value)  {P : Option Value → hs_A → Prop} (hP : ∀ (r : Option Value) (A' : hs_A), (hJ 0 (N + 72) (N + 144) A' A' ∧ ∃ z : Int32, r = some (.int z) ∧ ((A'.1 367 2).toInt = 0 ∧ A'.1 0 1 = A.1 0 1 ∧ (¬ z.toInt = 0 → hEm A A'))) → P r A') : hxa (d + 7) (some (.int)) hm_t150 41 [.ref 368, x1] [] A P := by
  have k0 := hk_0
  have hA4 := hJ.start4 (Q := 5) (by omega) hA
  have L112 : ∀ (m112 : Nat) (w112_0 : Int32) (w112_1 : Int32) (w112_2 : Int32) (w112_3 : Int32) (w112_4 : Int32) (w112_5 : Int32) (w112_6 : Int32) (x112_1 : Value) (Ac112 : hs_A) (hAc112 : hJ 5 N (N + 72) A Ac112) (ek112_0 : Ac112.1 367 11 = w112_0) (ek112_1 : Ac112.1 367 12 = w112_1) (ek112_2 : Ac112.1 367 13 = w112_2) (ek112_3 : Ac112.1 367 19 = w112_3) (ek112_4 : Ac112.1 367 20 = w112_4) (ek112_5 : Ac112.1 367 31 = w112_5) (ek112_6 : Ac112.1 367 37 = w112_6) (bw112_0 : 0 ≤ w112_0.toInt) (cw112_0 : w112_0.toInt ≤ 400) (bw112_1 : 0 ≤ w112_1.toInt) (cw112_1 : w112_1.toInt ≤ 7) (bw112_2 : 0 ≤ w112_2.toInt) (cw112_2 : w112_2.toInt ≤ 2) (bw112_3 : 1 ≤ w112_3.toInt) (cw112_3 : w112_3.toInt ≤ 1) (bw112_4 : 0 ≤ w112_4.toInt) (cw112_4 : w112_4.toInt ≤ 10) (bw112_5 : 0 ≤ w112_5.toInt) (cw112_5 : w112_5.toInt ≤ 260) (bw112_6 : 0 ≤ w112_6.toInt) (cw112_6 : w112_6.toInt ≤ 840) (u112_0 : hVr 1 Ac112) (u112_1 : (Ac112.1 367 20).toInt = (Ac112.2.1 376 1).toInt) (u112_2 : ¬ (Ac112.1 367 13).toInt = 0 ∨ (4 * ((Ac112.1 367 31).toInt - 130) ≤ (Ac112.1 367 11).toInt ∧ (Ac112.1 367 37).toInt ≤ 420 + (Ac112.1 367 11).toInt ∧ (Ac112.1 367 12).toInt ≤ 6)) (u112_3 : 130 ≤ (Ac112.1 367 31).toInt ∧ (Ac112.1 367 31).toInt ≤ 233 ∧ 420 ≤ (Ac112.1 367 37).toInt ∧ (Ac112.1 367 37).toInt ≤ 822) (hm112 : 806 - 2 * w112_0.toInt - 2 * w112_2.toInt < (m112 : Int)), hxa (d + 7) (some (.int)) hm_t150 112 [.ref 368, x112_1] [] Ac112 P := by
    intro m112
    induction m112 with
    | zero => intro w112_0 w112_1 w112_2 w112_3 w112_4 w112_5 w112_6 x112_1 Ac112 hAc112 ek112_0 ek112_1 ek112_2 ek112_3 ek112_4 ek112_5 ek112_6 bw112_0 cw112_0 bw112_1 cw112_1 bw112_2 cw112_2 bw112_3 cw112_3 bw112_4 cw112_4 bw112_5 cw112_5 bw112_6 cw112_6 u112_0 u112_1 u112_2 u112_3 hm112;  exact False.elim (by omega)
    | succ m112 ih112 =>
      intro w112_0 w112_1 w112_2 w112_3 w112_4 w112_5 w112_6 x112_1 Ac112 hAc112 ek112_0 ek112_1 ek112_2 ek112_3 ek112_4 ek112_5 ek112_6 bw112_0 cw112_0 bw112_1 cw112_1 bw112_2 cw112_2 bw112_3 cw112_3 bw112_4 cw112_4 bw112_5 cw112_5 bw112_6 cw112_6 u112_0 u112_1 u112_2 u112_3 hm112
      have tk112_0 : (Ac112.1 367 11).toInt = w112_0.toInt := congrArg Int32.toInt ek112_0
      have tk112_1 : (Ac112.1 367 12).toInt = w112_1.toInt := congrArg Int32.toInt ek112_1
      have tk112_2 : (Ac112.1 367 13).toInt = w112_2.toInt := congrArg Int32.toInt ek112_2
      have tk112_3 : (Ac112.1 367 19).toInt = w112_3.toInt := congrArg Int32.toInt ek112_3
      have tk112_4 : (Ac112.1 367 20).toInt = w112_4.toInt := congrArg Int32.toInt ek112_4
      have tk112_5 : (Ac112.1 367 31).toInt = w112_5.toInt := congrArg Int32.toInt ek112_5
      have tk112_6 : (Ac112.1 367 37).toInt = w112_6.toInt := congrArg Int32.toInt ek112_6
      refine hxa_aload_n (by rfl) rfl ?_
      refine hxj_getK (by rfl) (by rfl) (by rfl) ek112_2 ?_
      refine hxj_zne (by rfl) rfl (fun q1 => ?_) (fun q1 => ?_)
      ·
        refine hxa_aload_n (by rfl) rfl ?_
        refine hxa_aload_n (by rfl) rfl ?_
        refine hxj_getK (by rfl) (by rfl) (by rfl) ek112_2 ?_
        refine hxj_zle (by rfl) rfl (fun q2 => False.elim (by omega)) (fun q2 => ?_)
        refine hxa_aload_n (by rfl) rfl ?_
        refine hxj_getI (by rfl) (by rfl) (by rfl) (fun z3 ez3 => ?_)
        refine hxa_goto (by rfl) ?_
        refine hxj_putI (by rfl) (by rfl) (by rfl) (by rfl) hAc112 (hbokN (by rfl)) (by rfl) (by rfl) (fun A4 hA4 eA4 fA4 => ?_)
        refine hxa_aload_n (by rfl) rfl ?_
        refine hxj_getK (by rfl) (by rfl) (by rfl) (hkF eA4 (by first | decide | omega) ek112_2) ?_
        refine hxj_zle (by rfl) rfl (fun q5 => False.elim (by omega)) (fun q5 => ?_)
        refine hxa_aload_n (by rfl) rfl ?_
        refine hxj_getK (by rfl) (by rfl) (by rfl) (hkF eA4 (by first | decide | omega) ek112_2) ?_
        exact hxa_ireturn (by rfl) rfl (hP _ _ ⟨(hJ.mono (hJ.end4 (by omega) hA4) (by omega) (by omega)), _, rfl, ⟨by rw [hA4.2.2.1.1 367 2 (by rfl)]; exact h2, (hA4.cls4 (by omega)).2.2.2.2.2, fun _ => hA4.em (by omega)⟩⟩)
      ·
        refine hxa_aload_n (by rfl) rfl ?_
        refine hxa_iconst (by rfl) rfl ?_
        have nAc112_11 : (Ac112.1 367 11).toInt = w112_0.toInt := congrArg Int32.toInt ek112_0
        have nAc112_12 : (Ac112.1 367 12).toInt = w112_1.toInt := congrArg Int32.toInt ek112_1
        have nAc112_13 : (Ac112.1 367 13).toInt = w112_2.toInt := congrArg Int32.toInt ek112_2
        have nAc112_37 : (Ac112.1 367 37).toInt = w112_6.toInt := congrArg Int32.toInt ek112_6
        refine hxa_call0 (by rfl) (by rfl) (by rfl) (by rfl) (by rfl) (by rfl) (hX144q5 (d := d + 6) hAc112 (Int32.ofNat 0)) ?_
        rintro _ _ ⟨rfl, z6, rfl, fz6⟩
        rcases fz6 with fz6 | fz6
        ·
          refine hxj_zne (by rfl) rfl (fun q7 => ?_) (fun q7 => False.elim (by omega))
          refine hxa_aload_n (by rfl) rfl ?_
          refine hxa_aload_n (by rfl) rfl ?_
          refine hxj_getK (by rfl) (by rfl) (by rfl) ek112_2 ?_
          refine hxj_zle (by rfl) rfl (fun q8 => ?_) (fun q8 => False.elim (by omega))
          refine hxa_aload_n (by rfl) rfl ?_
          refine hxj_getI (by rfl) (by rfl) (by rfl) (fun z9 ez9 => ?_)
          refine hxj_zle (by rfl) rfl (fun q10 => ?_) (fun q10 => ?_)
          ·
            refine hxa_iconst (by rfl) rfl ?_
            refine hxj_putI (by rfl) (by rfl) (by rfl) (by rfl) hAc112 (hbokN (by rfl)) (by rfl) (by rfl) (fun A11 hA11 eA11 fA11 => ?_)
            refine hxa_aload_n (by rfl) rfl ?_
            refine hxj_getK (by rfl) (by rfl) (by rfl) (hkF eA11 (by first | decide | omega) ek112_2) ?_
            refine hxj_zle (by rfl) rfl (fun q12 => ?_) (fun q12 => False.elim (by omega))
            refine hxa_aload_n (by rfl) rfl ?_
            refine hxj_getK (by rfl) (by rfl) (by rfl) (hkF eA11 (by first | decide | omega) ez9) ?_
            refine hxj_zle (by rfl) rfl (fun q13 => ?_) (fun q13 => False.elim (by omega))
            refine hxa_aload_n (by rfl) rfl ?_
            refine hxa_aload_n (by rfl) rfl ?_
            refine hxj_getK (by rfl) (by rfl) (by rfl) (hkF eA11 (by first | decide | omega) ek112_3) ?_
            have nA11_11 : (A11.1 367 11).toInt = w112_0.toInt := congrArg Int32.toInt (hkF eA11 (by first | decide | omega) ek112_0)
            have nA11_12 : (A11.1 367 12).toInt = w112_1.toInt := congrArg Int32.toInt (hkF eA11 (by first | decide | omega) ek112_1)
            have nA11_13 : (A11.1 367 13).toInt = w112_2.toInt := congrArg Int32.toInt (hkF eA11 (by first | decide | omega) ek112_2)
            have nA11_19 : (A11.1 367 19).toInt = w112_3.toInt := congrArg Int32.toInt (hkF eA11 (by first | decide | omega) ek112_3)
            have nA11_20 : (A11.1 367 20).toInt = w112_4.toInt := congrArg Int32.toInt (hkF eA11 (by first | decide | omega) ek112_4)
            have nA11_31 : (A11.1 367 31).toInt = w112_5.toInt := congrArg Int32.toInt (hkF eA11 (by first | decide | omega) ek112_5)
            have nA11_37 : (A11.1 367 37).toInt = w112_6.toInt := congrArg Int32.toInt (hkF eA11 (by first | decide | omega) ek112_6)
            have hx9 : w112_3.toInt = 1 := by omega
            have vr9 : hVr 1 A11 := hVr.cg u112_0 (Eq.trans (hkF eA11 (by first | decide | omega) ek112_5) ek112_5.symm) (Eq.trans (hkF eA11 (by first | decide | omega) ek112_6) ek112_6.symm) (fun c q1 q2 => by rw [(show A11.2.1 = Ac112.2.1 from congrArg Prod.fst fA11)])
            have c01 := (hA11.cls4 (by omega)).2.2.2.2.2
            have c02 : A11.1 367 2 = A.1 367 2 := hA11.2.2.1.1 367 2 (by rfl)
            refine hxj_putLive (s := 1) (by rfl) (by omega) hA11 hx9 (by omega) vr9 (by omega) (by omega) (fun A14 hA14 eA14 fA14 => ?_)
            have d01 : A14.1 0 1 = A.1 0 1 := by rw [eA14, hup2 (by omega)]; exact c01
            have d02 : A14.1 367 2 = A.1 367 2 := by rw [eA14, hup2 (by omega)]; exact c02
            refine hxa_aload_n (by rfl) rfl ?_
            refine hxa_call0 (by rfl) (by rfl) (by rfl) (by rfl) (by rfl) (by rfl) (hX169 (d := d + 6) hA14 ) ?_
            rintro _ A15 ⟨hA15, rfl⟩
            refine hxa_aload_n (by rfl) rfl ?_
            refine hxa_call0 (by rfl) (by rfl) (by rfl) (by rfl) (by rfl) (by rfl) (hX170 (d := d + 6) hA15 (by omega)) ?_
            rintro _ A16 ⟨hA16, rfl⟩
            refine hxa_aload_n (by rfl) rfl ?_
            refine hxa_iconst (by rfl) rfl ?_
            refine hxj_putI (by rfl) (by rfl) (by rfl) (by rfl) hA16 (hbok (by rfl) hk_0 (by omega) (by omega)) (by rfl) (by rfl) (fun A17 hA17 eA17 fA17 => ?_)
            refine hxa_aload_n (by rfl) rfl ?_
            refine hxa_iconst (by rfl) rfl ?_
            refine hxj_putI (by rfl) (by rfl) (by rfl) (by rfl) hA17 (hbok (by rfl) hk_0 (by omega) (by omega)) (by rfl) (by rfl) (fun A18 hA18 eA18 fA18 => ?_)
            refine hxa_iconst (by rfl) rfl ?_
            refine hxa_s1 (by rfl) (Or.inl ⟨_, rfl, rfl⟩) rfl ?_
            refine hxa_iload_n (by rfl) rfl ?_
            refine hxa_iconst (by rfl) rfl ?_
            refine hxj_cge (by rfl) hk_0 hk_3 (fun q19 => False.elim (by omega)) (fun q19 => ?_)
            refine hxa_aload_n (by rfl) rfl ?_
            refine hxa_get (v := .ref 409) (by rfl) (by rfl) (by rfl) rfl ?_
            refine hxa_iload_n (by rfl) rfl ?_
            refine hxa_iconst (by rfl) rfl ?_
            refine hxj_zast (by rfl) (by rfl) hk_0 (by omega) (by omega) hk_0 (by omega) (by omega) hA18 (hbokN (by rfl)) (by rfl) (by rfl) (fun A20 hA20 eA20 fA20 gA20 => ?_)
            refine hxj_iinc (by rfl) rfl hk_0 hk_1 (by omega) (by omega) (fun _ => rfl) (fun z21 ez21 => ?_)
            refine hxa_goto (by rfl) ?_
            refine hxa_iload_n (by rfl) rfl ?_
            refine hxa_iconst (by rfl) rfl ?_
            refine hxj_cge (by rfl) rfl hk_3 (fun q22 => False.elim (by omega)) (fun q22 => ?_)
            refine hxa_aload_n (by rfl) rfl ?_
            refine hxa_get (v := .ref 409) (by rfl) (by rfl) (by rfl) rfl ?_
            refine hxa_iload_n (by rfl) rfl ?_
            refine hxa_iconst (by rfl) rfl ?_
            refine hxj_zast (by rfl) (by rfl) rfl (by omega) (by omega) hk_0 (by omega) (by omega) hA20 (hbokN (by rfl)) (by rfl) (by rfl) (fun A23 hA23 eA23 fA23 gA23 => ?_)
            refine hxj_iinc (by rfl) rfl rfl hk_1 (by omega) (by omega) (fun _ => rfl) (fun z24 ez24 => ?_)
            refine hxa_goto (by rfl) ?_
            refine hxa_iload_n (by rfl) rfl ?_
            refine hxa_iconst (by rfl) rfl ?_
            refine hxj_cge (by rfl) rfl hk_3 (fun q25 => False.elim (by omega)) (fun q25 => ?_)
            refine hxa_aload_n (by rfl) rfl ?_
            refine hxa_get (v := .ref 409) (by rfl) (by rfl) (by rfl) rfl ?_
            refine hxa_iload_n (by rfl) rfl ?_
            refine hxa_iconst (by rfl) rfl ?_
            refine hxj_zast (by rfl) (by rfl) rfl (by omega) (by omega) hk_0 (by omega) (by omega) hA23 (hbokN (by rfl)) (by rfl) (by rfl) (fun A26 hA26 eA26 fA26 gA26 => ?_)
            refine hxj_iinc (by rfl) rfl rfl hk_1 (by omega) (by omega) (fun _ => rfl) (fun z27 ez27 => ?_)
            refine hxa_goto (by rfl) ?_
            refine hxa_iload_n (by rfl) rfl ?_
            refine hxa_iconst (by rfl) rfl ?_
            refine hxj_cge (by rfl) rfl hk_3 (fun q28 => ?_) (fun q28 => False.elim (by omega))
            refine hxa_iconst (by rfl) rfl ?_
            exact hxa_ireturn (by rfl) rfl (hP _ _ ⟨(hJ.mono (hJ.self hA26) (by omega) (by omega)), _, rfl, ⟨by rw [hA26.2.2.1.1 367 2 (by rfl), d02]; exact h2, (hA26.2.2.1.1 0 1 (by rfl)).trans d01, fun q => absurd hk_0 q⟩⟩)
          ·
            refine hxa_aload_n (by rfl) rfl ?_
            refine hxj_getI (by rfl) (by rfl) (by rfl) (fun z29 ez29 => ?_)
            refine hxa_goto (by rfl) ?_
            refine hxj_putI (by rfl) (by rfl) (by rfl) (by rfl) hAc112 (hbokN (by rfl)) (by rfl) (by rfl) (fun A30 hA30 eA30 fA30 => ?_)
            refine hxa_aload_n (by rfl) rfl ?_
            refine hxj_getK (by rfl) (by rfl) (by rfl) (hkF eA30 (by first | decide | omega) ek112_2) ?_
            refine hxj_zle (by rfl) rfl (fun q31 => ?_) (fun q31 => False.elim (by omega))
            refine hxa_aload_n (by rfl) rfl ?_
            refine hxj_getK (by rfl) (by rfl) (by rfl) (hkF eA30 (by first | decide | omega) ez9) ?_
            refine hxj_zle (by rfl) rfl (fun q32 => False.elim (by omega)) (fun q32 => ?_)
            refine hxa_aload_n (by rfl) rfl ?_
            refine hxj_getK (by rfl) (by rfl) (by rfl) (hkF eA30 (by first | decide | omega) ez9) ?_
            exact hxa_ireturn (by rfl) rfl (hP _ _ ⟨(hJ.mono (hJ.end4 (by omega) hA30) (by omega) (by omega)), _, rfl, ⟨by rw [hA30.2.2.1.1 367 2 (by rfl)]; exact h2, (hA30.cls4 (by omega)).2.2.2.2.2, fun _ => hA30.em (by omega)⟩⟩)
        ·
          refine hxj_zne (by rfl) rfl (fun q33 => False.elim (by omega)) (fun q33 => ?_)
          refine hxa_aload_n (by rfl) rfl ?_
          refine hxa_call0 (by rfl) (by rfl) (by rfl) (by rfl) (by rfl) (by rfl) (hX154q5 (d := d + 0) hAc112 u112_0 u112_1 (by omega) (by omega) (by omega) (by omega) (by omega) (by rw [(show Ac112.1 367 19 = w112_3 from ek112_3)]; omega) (by rw [(show Ac112.1 367 19 = w112_3 from ek112_3)]; omega)) ?_
          rintro _ A34 ⟨hA34, frA34_0, rfl, fA34⟩
          have ttA34_19 : (A34.1 367 19).toInt = w112_3.toInt := congrArg Int32.toInt (frA34_0.trans ek112_3)
          have fbA34_367_11 := hA34.f (i := 367) (k := 11) (by rfl)
          have fbA34_367_12 := hA34.f (i := 367) (k := 12) (by rfl)
          have fbA34_367_13 := hA34.f (i := 367) (k := 13) (by rfl)
          have fbA34_367_20 := hA34.f (i := 367) (k := 20) (by rfl)
          have fbA34_367_31 := hA34.f (i := 367) (k := 31) (by rfl)
          have fbA34_367_37 := hA34.f (i := 367) (k := 37) (by rfl)
          refine hxa_goto (by rfl) ?_
          have nA34_19 : (A34.1 367 19).toInt = w112_3.toInt := congrArg Int32.toInt (frA34_0.trans ek112_3)
          have fx := fA34.2
          exact ih112 (A34.1 367 11) (A34.1 367 12) (A34.1 367 13) w112_3 (A34.1 367 20) (A34.1 367 31) (A34.1 367 37) (x112_1) A34 hA34 rfl rfl rfl (frA34_0.trans ek112_3) rfl rfl rfl (by omega) (by omega) (by omega) (by omega) (by omega) (by omega) (by omega) (by omega) (by omega) (by omega) (by omega) (by omega) (by omega) (by omega) (by exact fA34.2.2.2.2.2.2.1) (by exact fA34.2.2.2.2.2.2.2) (by omega) (by omega) (by omega)
  refine hxa_aload_n (by rfl) rfl ?_
  refine hxa_call0 (by rfl) (by rfl) (by rfl) (by rfl) (by rfl) (by rfl) (hX142q5 (d := d + 4) hA4 ) ?_
  rintro _ A35 ⟨hA35, rfl⟩
  refine hxa_aload_n (by rfl) rfl ?_
  refine hxa_iconst (by rfl) rfl ?_
  refine hxj_putI (by rfl) (by rfl) (by rfl) (by rfl) hA35 (hbok (by rfl) hk_0 (by omega) (by omega)) (by rfl) (by rfl) (fun A36 hA36 eA36 fA36 => ?_)
  refine hxa_aload_n (by rfl) rfl ?_
  refine hxa_iconst (by rfl) rfl ?_
  refine hxj_putI (by rfl) (by rfl) (by rfl) (by rfl) hA36 (hbok (by rfl) hk_0 (by omega) (by omega)) (by rfl) (by rfl) (fun A37 hA37 eA37 fA37 => ?_)
  refine hxa_aload_n (by rfl) rfl ?_
  refine hxa_iconst (by rfl) rfl ?_
  refine hxj_putI (by rfl) (by rfl) (by rfl) (by rfl) hA37 (hbok (by rfl) hk_0 (by omega) (by omega)) (by rfl) (by rfl) (fun A38 hA38 eA38 fA38 => ?_)
  refine hxa_aload_n (by rfl) rfl ?_
  refine hxa_iconst (by rfl) rfl ?_
  refine hxj_putI (by rfl) (by rfl) (by rfl) (by rfl) hA38 (hbokN (by rfl)) (by rfl) (by rfl) (fun A39 hA39 eA39 fA39 => ?_)
  refine hxa_aload_n (by rfl) rfl ?_
  refine hxa_iconst (by rfl) rfl ?_
  refine hxa_aload_n (by rfl) rfl ?_
  refine hxj_getB (by rfl) (by rfl) (by rfl) hA39 (by rfl) (fun z40 ez40 fz40 gz40 => ?_)
  have hz18 : z40.toInt = 0 := by rw [← hfrf hA39 (by rfl) (show A39.1 367 18 = z40 from ez40)]; exact hl
  refine hxj_isub (by rfl) hk_1 rfl (by omega) (by omega) (fun z41 ez41 => ?_)
  refine hxj_putI (by rfl) (by rfl) (by rfl) (by rfl) hA39 (hbok (by rfl) rfl (by omega) (by omega)) (by rfl) (by rfl) (fun A42 hA42 eA42 fA42 => ?_)
  refine hxa_aload_n (by rfl) rfl ?_
  refine hxa_iconst (by rfl) rfl ?_
  refine hxj_putI (by rfl) (by rfl) (by rfl) (by rfl) hA42 (hbok (by rfl) hk_0 (by omega) (by omega)) (by rfl) (by rfl) (fun A43 hA43 eA43 fA43 => ?_)
  refine hxa_aload_n (by rfl) rfl ?_
  refine hxa_aload_n (by rfl) rfl ?_
  refine hxj_getK (by rfl) (by rfl) (by rfl) (hkF eA43 (by first | decide | omega) (hkS eA42)) ?_
  have nA43_11 : (A43.1 367 11).toInt = 0 := congrArg Int32.toInt (hkF eA43 (by first | decide | omega) (hkF eA42 (by first | decide | omega) (hkF eA39 (by first | decide | omega) (hkF eA38 (by first | decide | omega) (hkF eA37 (by first | decide | omega) (hkS eA36))))))
  have nA43_12 : (A43.1 367 12).toInt = 0 := congrArg Int32.toInt (hkF eA43 (by first | decide | omega) (hkF eA42 (by first | decide | omega) (hkF eA39 (by first | decide | omega) (hkF eA38 (by first | decide | omega) (hkS eA37)))))
  have nA43_13 : (A43.1 367 13).toInt = 0 := congrArg Int32.toInt (hkF eA43 (by first | decide | omega) (hkF eA42 (by first | decide | omega) (hkF eA39 (by first | decide | omega) (hkS eA38))))
  refine hxa_call0 (by rfl) (by rfl) (by rfl) (by rfl) (by rfl) (by rfl) (hX149q5 (d := d + 6) hA43 (by omega) z41 (by omega) (by omega)) ?_
  rintro _ A44 ⟨hA44, frA44_0, frA44_1, frA44_2, frA44_3, frA44_4, frA44_5, frA44_6, frA44_7, rfl, fA44⟩
  have ttA44_11 : (A44.1 367 11).toInt = 0 := congrArg Int32.toInt (frA44_0.trans (hkF eA43 (by first | decide | omega) (hkF eA42 (by first | decide | omega) (hkF eA39 (by first | decide | omega) (hkF eA38 (by first | decide | omega) (hkF eA37 (by first | decide | omega) (hkS eA36)))))))
  have ttA44_12 : (A44.1 367 12).toInt = 0 := congrArg Int32.toInt (frA44_1.trans (hkF eA43 (by first | decide | omega) (hkF eA42 (by first | decide | omega) (hkF eA39 (by first | decide | omega) (hkF eA38 (by first | decide | omega) (hkS eA37))))))
  have ttA44_13 : (A44.1 367 13).toInt = 0 := congrArg Int32.toInt (frA44_2.trans (hkF eA43 (by first | decide | omega) (hkF eA42 (by first | decide | omega) (hkF eA39 (by first | decide | omega) (hkS eA38)))))
  have ttA44_19 : (A44.1 367 19).toInt = z41.toInt := congrArg Int32.toInt (frA44_3.trans (hkF eA43 (by first | decide | omega) (hkS eA42)))
  have ttA44_20 : (A44.1 367 20).toInt = 0 := congrArg Int32.toInt (frA44_4.trans (hkS eA43))
  refine hxa_aload_n (by rfl) rfl ?_
  refine hxa_sipush (by rfl) rfl ?_
  refine hxa_aload_n (by rfl) rfl ?_
  refine hxj_getK (by rfl) (by rfl) (by rfl) (frA44_3.trans (hkF eA43 (by first | decide | omega) (hkS eA42))) ?_
  refine hxj_imul (by rfl) hk_130 rfl (by omega) (by omega) (fun z45 ez45 => ?_)
  refine hxj_putI (by rfl) (by rfl) (by rfl) (by rfl) hA44 (hbok (by rfl) rfl (by omega) (by omega)) (by rfl) (by rfl) (fun A46 hA46 eA46 fA46 => ?_)
  refine hxa_aload_n (by rfl) rfl ?_
  refine hxa_sipush (by rfl) rfl ?_
  refine hxa_aload_n (by rfl) rfl ?_
  refine hxj_getK (by rfl) (by rfl) (by rfl) (hkF eA46 (by first | decide | omega) (frA44_3.trans (hkF eA43 (by first | decide | omega) (hkS eA42)))) ?_
  refine hxj_imul (by rfl) hk_420 rfl (by omega) (by omega) (fun z47 ez47 => ?_)
  refine hxj_putI (by rfl) (by rfl) (by rfl) (by rfl) hA46 (hbok (by rfl) rfl (by omega) (by omega)) (by rfl) (by rfl) (fun A48 hA48 eA48 fA48 => ?_)
  have nA48_11 : (A48.1 367 11).toInt = 0 := congrArg Int32.toInt (hkF eA48 (by first | decide | omega) (hkF eA46 (by first | decide | omega) (frA44_0.trans (hkF eA43 (by first | decide | omega) (hkF eA42 (by first | decide | omega) (hkF eA39 (by first | decide | omega) (hkF eA38 (by first | decide | omega) (hkF eA37 (by first | decide | omega) (hkS eA36)))))))))
  have nA48_12 : (A48.1 367 12).toInt = 0 := congrArg Int32.toInt (hkF eA48 (by first | decide | omega) (hkF eA46 (by first | decide | omega) (frA44_1.trans (hkF eA43 (by first | decide | omega) (hkF eA42 (by first | decide | omega) (hkF eA39 (by first | decide | omega) (hkF eA38 (by first | decide | omega) (hkS eA37))))))))
  have nA48_13 : (A48.1 367 13).toInt = 0 := congrArg Int32.toInt (hkF eA48 (by first | decide | omega) (hkF eA46 (by first | decide | omega) (frA44_2.trans (hkF eA43 (by first | decide | omega) (hkF eA42 (by first | decide | omega) (hkF eA39 (by first | decide | omega) (hkS eA38)))))))
  have nA48_19 : (A48.1 367 19).toInt = z41.toInt := congrArg Int32.toInt (hkF eA48 (by first | decide | omega) (hkF eA46 (by first | decide | omega) (frA44_3.trans (hkF eA43 (by first | decide | omega) (hkS eA42)))))
  have nA48_20 : (A48.1 367 20).toInt = 0 := congrArg Int32.toInt (hkF eA48 (by first | decide | omega) (hkF eA46 (by first | decide | omega) (frA44_4.trans (hkS eA43))))
  have nA48_31 : (A48.1 367 31).toInt = z45.toInt := congrArg Int32.toInt (hkF eA48 (by first | decide | omega) (hkS eA46))
  have nA48_37 : (A48.1 367 37).toInt = z47.toInt := congrArg Int32.toInt (hkS eA48)
  have apl : A48.2.1 = A44.2.1 := by rw [(show A48.2.1 = A46.2.1 from congrArg Prod.fst fA48), (show A46.2.1 = A44.2.1 from congrArg Prod.fst fA46)]
  have vr0 : hVr 1 A48 := fun a h1 h2 => Or.inl (by rw [apl]; exact fA44.2 a (by omega) (by omega))
  have hn0 : (A48.1 367 20).toInt = (A48.2.1 376 1).toInt := by rw [apl, fA44.1]; omega
  exact L112 (Int.toNat (806 - 2 * 0 - 2 * 0) + 1) (Int32.ofNat 0) (Int32.ofNat 0) (Int32.ofNat 0) z41 (Int32.ofNat 0) z45 z47 (x1) A48 hA48 (hkF eA48 (by first | decide | omega) (hkF eA46 (by first | decide | omega) (frA44_0.trans (hkF eA43 (by first | decide | omega) (hkF eA42 (by first | decide | omega) (hkF eA39 (by first | decide | omega) (hkF eA38 (by first | decide | omega) (hkF eA37 (by first | decide | omega) (hkS eA36))))))))) (hkF eA48 (by first | decide | omega) (hkF eA46 (by first | decide | omega) (frA44_1.trans (hkF eA43 (by first | decide | omega) (hkF eA42 (by first | decide | omega) (hkF eA39 (by first | decide | omega) (hkF eA38 (by first | decide | omega) (hkS eA37)))))))) (hkF eA48 (by first | decide | omega) (hkF eA46 (by first | decide | omega) (frA44_2.trans (hkF eA43 (by first | decide | omega) (hkF eA42 (by first | decide | omega) (hkF eA39 (by first | decide | omega) (hkS eA38))))))) (hkF eA48 (by first | decide | omega) (hkF eA46 (by first | decide | omega) (frA44_3.trans (hkF eA43 (by first | decide | omega) (hkS eA42))))) (hkF eA48 (by first | decide | omega) (hkF eA46 (by first | decide | omega) (frA44_4.trans (hkS eA43)))) (hkF eA48 (by first | decide | omega) (hkS eA46)) (hkS eA48) (by omega) (by omega) (by omega) (by omega) (by omega) (by omega) (by omega) (by omega) (by omega) (by omega) (by omega) (by omega) (by omega) (by omega) (by exact vr0) (by exact hn0) (by omega) (by omega) (by omega)
theorem hY150r5_1 {d : Nat} {N : Int} {A : hs_A} (hA : hJ 0 N (N + 72) A A) (hN : N ≤ 900000) (hl : (A.1 367 18).toInt = 0)  {P : Option Value → hs_A → Prop} (hP : ∀ (r : Option Value) (A' : hs_A), (hJ 0 (N + 72) (N + 144) A' A' ∧ ∃ z : Int32, r = some (.int z) ∧ ((A'.1 367 2).toInt = 0 ∧ A'.1 0 1 = A.1 0 1 ∧ (¬ z.toInt = 0 → hEm A A'))) → P r A') : hxa (d + 7) (some (.int)) hm_t150 0 [.ref 368, .retAddr 0] [] A P := by
  have k0 := hk_0
  have hA3 := hJ.to3 hA
  have L10 : ∀ (m10 : Nat) (x10_1 : Int32) (Ac10 : hs_A) (hAc10 : hJ 3 N (N + 72) A Ac10) (bx10_1 : 0 ≤ x10_1.toInt) (cx10_1 : x10_1.toInt ≤ 2000) (hm10 : 2000 - x10_1.toInt < (m10 : Int)), hxa (d + 7) (some (.int)) hm_t150 10 [.ref 368, .int x10_1] [] Ac10 P := by
    intro m10
    induction m10 with
    | zero => intro x10_1 Ac10 hAc10 bx10_1 cx10_1 hm10;  exact False.elim (by omega)
    | succ m10 ih10 =>
      intro x10_1 Ac10 hAc10 bx10_1 cx10_1 hm10
      refine hxa_iload_n (by rfl) rfl ?_
      refine hxa_aload_n (by rfl) rfl ?_
      refine hxj_getB (by rfl) (by rfl) (by rfl) hAc10 (by rfl) (fun z1 ez1 fz1 gz1 => ?_)
      refine hxj_cge (by rfl) rfl rfl (fun q2 => ?_) (fun q2 => ?_)
      ·
        refine hxa_aload_n (by rfl) rfl ?_
        refine hxa_iconst (by rfl) rfl ?_
        refine hxj_putI (by rfl) (by rfl) (by rfl) (by rfl) hAc10 (hbok (by rfl) hk_0 (by omega) (by omega)) (by rfl) (by rfl) (fun A3 hA3 eA3 fA3 => ?_)
        have he := hJ.end3 hA3
        exact hY150r5 (d := d) he.1 hN (by rw [he.2.2]; exact hl) (by rw [(show A3.1 367 2 = (Int32.ofNat 0) from (hkS eA3))]; decide) (.int x10_1) (fun r A2 h => hP r A2 ⟨h.1, h.2.imp (fun z w => ⟨w.1, w.2.1, w.2.2.1.trans he.2.1, fun q => (w.2.2.2 q).tr hA3.2.2.1 he.2.2⟩)⟩)
      ·
        refine hxa_aload_n (by rfl) rfl ?_
        refine hxa_get (v := .ref 370) (by rfl) (by rfl) (by rfl) rfl ?_
        refine hxa_iload_n (by rfl) rfl ?_
        refine hxa_aload_n (by rfl) rfl ?_
        refine hxa_get (v := .ref 369) (by rfl) (by rfl) (by rfl) rfl ?_
        refine hxa_iload_n (by rfl) rfl ?_
        refine hxj_bald (by rfl) (by rfl) rfl (by omega) (by omega) (fun z4 ez4 => ?_)
        refine hxj_bast (by rfl) (by rfl) rfl (by omega) (by omega) hAc10 (by rfl) (by rfl) (by rfl) (fun A5 hA5 eA5 fA5 gA5 => ?_)
        refine hxj_iinc (by rfl) rfl rfl hk_1 (by omega) (by omega) (fun _ => rfl) (fun z6 ez6 => ?_)
        refine hxa_goto (by rfl) ?_
        exact ih10 z6 A5 hA5 (by omega) (by omega) (by omega)
  refine hxa_aload_n (by rfl) rfl ?_
  refine hxa_aload_n (by rfl) rfl ?_
  refine hxj_getB (by rfl) (by rfl) (by rfl) hA3 (by rfl) (fun z7 ez7 fz7 gz7 => ?_)
  refine hxj_putI (by rfl) (by rfl) (by rfl) (by rfl) hA3 (hbok (by rfl) rfl (by omega) (by omega)) (by rfl) (by rfl) (fun A8 hA8 eA8 fA8 => ?_)
  refine hxa_iconst (by rfl) rfl ?_
  refine hxa_s1 (by rfl) (Or.inl ⟨_, rfl, rfl⟩) rfl ?_
  exact L10 (Int.toNat (2000 - 0) + 1) (Int32.ofNat 0) A8 hA8 (by omega) (by omega) (by omega)
theorem hX150r5_1 {d : Nat} {N : Int} {A : hs_A} (hA : hJ 0 N (N + 72) A A) (hN : N ≤ 900000) (hl : (A.1 367 18).toInt = 0)  : hxC (d + 8) 150 hm_m150 [.ref 368] A (fun r A' => hJ 0 (N + 72) (N + 144) A' A' ∧ ∃ z : Int32, r = some (.int z) ∧ ((A'.1 367 2).toInt = 0 ∧ A'.1 0 1 = A.1 0 1 ∧ (¬ z.toInt = 0 → hEm A A'))) := hxC.of (by rfl) (hY150r5_1 hA hN hl (fun r A' h => h))
/-! WHAT CLASS AND REFERENCE SHARE (5): what is told; who lives where, which sets are on, the hour; the past, the slots -/
def hHn (A : hs_A) : Int := (A.2.1 376 (A.1 367 18).toNatClampNeg).toInt
def hDb (D : hg_D) : Prop := (∀ t, t < 24 → 0 ≤ D.1 t ∧ D.1 t ≤ 255) ∧ (0 ≤ D.2.1 ∧ D.2.1 ≤ 10000) ∧ (0 ≤ D.2.2.1 ∧ D.2.2.1 ≤ 10000)
def hCo (D : hg_D) (A : hs_A) : Prop := (∀ T, A.2.2.2 0 3 = T + 1 → hdK T D A) ∧ hrK (A.1 367 18).toNatClampNeg D A ∧ hDb D
def hCx (A : hs_A) : Prop := hNw (hHn A) A ∧ hPs (hHn A) A ∧ hSl (hHn A) A ∧ ∃ D, hCo D A
def hIC (A : hs_A) : Prop := hIB A ∧ hCx A
theorem hCo.uf {W : Nat} {D : hg_D} {A A' : hs_A} (h : hCo D A) (hH : uf_H A) (w : uf_W W A A') (e1 : hdG W = true) (e2 : hrM W = true) (e3 : Nat.testBit W (ug_o (ug_g 0) 3) = false) : hCo D A' := by
  obtain ⟨h1, h2, h3⟩ := h
  refine ⟨fun T hT => ?_, ?_, h3⟩
  · rw [w.2.2.2 0 _ _ 3 rfl rfl e3] at hT
    refine (h1 T hT).uf ?_ w e1
    rcases hH.1 with e | e
    · obtain rfl : T = 2 := by omega
      exact Or.inl rfl
    · obtain rfl : T = 11 := by omega
      exact Or.inr rfl
  · rw [w.1 367 _ _ 18 rfl rfl (hrM.get e2).1]
    exact h2.uf w e2
theorem hHn.le {Q : Nat} {Bn Br : Int} {A0 A : hs_A} (h : hJ Q Bn Br A0 A) : 0 ≤ hHn A ∧ hHn A ≤ 10 := by
  have b := hbok.get (h.1.2.1 376 (A.1 367 18).toNatClampNeg) rfl
  exact b
theorem hHn.uf {W : Nat} {A A' : hs_A} (w : uf_W W A A') (l : (A.1 367 18).toNatClampNeg < 2) (c3 : Nat.testBit W (ug_g 376) = false) (c4 : Nat.testBit W (ug_o (ug_g 367) 18) = false) : hHn A' = hHn A := hHs.r w l c3 c4
theorem hLo.uf {W L : Nat} {g g' : Nat → Int32} {H : Int} {A A' : hs_A} (h : hLo L g H A) (hH : H ≤ 10) (hL : hLL L) (w : uf_W W A A') (e : hdLm L W = true) (eg : ∀ k : Nat, k < 73 → g' k = g k) : hLo L g' H A' := by
  obtain ⟨g1, g2⟩ := hdLm.get e
  refine h.mv hH (fun k a b => ?_) (fun j a b x hx => ?_) eg
  · have hk : k = 6 ∨ k = 7 ∨ k = 8 ∨ k = 9 ∨ k = 10 := by omega
    rcases hk with rfl | rfl | rfl | rfl | rfl <;> exact w.1 _ _ _ _ (hsL hL) rfl (g1 _ (by decide))
  · exact w.2.1 _ _ _ x (hsLa hL a b) hx (g2 _ (by
      have hj : j = 1 ∨ j = 2 ∨ j = 3 ∨ j = 4 ∨ j = 5 ∨ j = 6 := by omega
      rcases hj with rfl | rfl | rfl | rfl | rfl | rfl <;> decide))
theorem hNw.uf {W : Nat} {H : Int} {A A' : hs_A} (h : hNw H A) (hH : H ≤ 10) (w : uf_W W A A') (e : hdLm 26 W = true) (c : Nat.testBit W (ug_g 395) = false) : hNw H A' := hLo.uf h hH hLL_26 w e (fun k hk => w.2.1 395 _ _ k rfl hk c)
theorem hPs.uf {W : Nat} {H : Int} {A A' : hs_A} (h : hPs H A) (hH : H ≤ 10) (w : uf_W W A A') (k : hPk A A') (b1 : 0 ≤ (A.1 40 1).toInt ∧ (A.1 40 1).toInt ≤ 39) (b2 : (A.1 40 2).toInt ≤ 40) (d1 : Nat.testBit W (ug_g 399) = false) (d2 : Nat.testBit W (ug_o (ug_g 367) 51) = false) : hPs H A' := by
  refine ⟨by rw [k.2.2, w.1 367 _ _ 51 rfl rfl d2]; exact h.1, fun i hi => ?_⟩
  rw [k.2.1]
  rw [k.2.2] at hi
  have q := k.1 (((A.1 40 1).toInt + (i : Int)) % 40).toNat (by omega)
  exact (h.2 i hi).mv hH q.1 q.2 (fun k hk => w.2.1 399 _ _ _ rfl (by omega) d1)
theorem hLL_s : ∀ s, s < 3 → hLL (346 + 7 * s) := by
  intro s hs
  have q : s = 0 ∨ s = 1 ∨ s = 2 := by omega
  rcases q with rfl | rfl | rfl
  · show 346 ∈ hl_L
    decide
  · show 353 ∈ hl_L
    decide
  · show 360 ∈ hl_L
    decide
theorem hSl.uf {W : Nat} {H : Int} {A A' : hs_A} (h : hSl H A) (hH : H ≤ 10) (w : uf_W W A A') (e0 : hdLm 346 W = true) (e1 : hdLm 353 W = true) (e2 : hdLm 360 W = true) (c : Nat.testBit W (ug_g 408) = false) (d : Nat.testBit W (ug_g 409) = false) : hSl H A' := by
  intro s hs hb
  rw [w.2.1 408 _ _ s rfl hs c] at hb
  refine (h s hs hb).uf hH (hLL_s s hs) w ?_ (fun k hk => w.2.1 409 _ _ _ rfl (by omega) d)
  have q : s = 0 ∨ s = 1 ∨ s = 2 := by omega
  rcases q with rfl | rfl | rfl
  · exact e0
  · exact e1
  · exact e2
/-- a mask that bears nothing of what is shared -/
noncomputable def hCm (W : Nat) : Bool := hdG W && (hrM W && (!Nat.testBit W (ug_o (ug_g 0) 3) && (hdLm 26 W && (!Nat.testBit W (ug_g 395) && (!Nat.testBit W (ug_g 399) && (!Nat.testBit W (ug_o (ug_g 367) 51) && (hdLm 346 W && (hdLm 353 W && (hdLm 360 W && (!Nat.testBit W (ug_g 408) && (!Nat.testBit W (ug_g 409) && (!(Nat.testBit W (ug_o (ug_g 42) 6) || (Nat.testBit W (ug_o (ug_g 42) 7) || (Nat.testBit W (ug_o (ug_g 42) 8) || (Nat.testBit W (ug_o (ug_g 42) 9) || (Nat.testBit W (ug_o (ug_g 42) 10) || (Nat.testBit W (ug_g 43) || (Nat.testBit W (ug_g 44) || (Nat.testBit W (ug_g 45) || (Nat.testBit W (ug_g 46) || (Nat.testBit W (ug_g 47) || (Nat.testBit W (ug_g 48) || (Nat.testBit W (ug_o (ug_g 40) 1) || (Nat.testBit W (ug_o (ug_g 40) 2))))))))))))))))))))))))))
theorem hCx.uf {W : Nat} {A A' : hs_A} (h : hCx A) (uH : uf_H A) (l : (A.1 367 18).toNatClampNeg < 2) (lH : hHn A ≤ 10) (b1 : 0 ≤ (A.1 40 1).toInt ∧ (A.1 40 1).toInt ≤ 39) (b2 : (A.1 40 2).toInt ≤ 40) (w : uf_W W A A') (e : hCm W = true) : hCx A' ∧ (A'.1 367 18).toNatClampNeg < 2 ∧ hHn A' ≤ 10 ∧ (0 ≤ (A'.1 40 1).toInt ∧ (A'.1 40 1).toInt ≤ 39) ∧ (A'.1 40 2).toInt ≤ 40 := by
  unfold hCm at e
  simp only [Bool.and_eq_true] at e
  obtain ⟨e1, e2, e3, e4, e5, e6, e7, e8, e9, e10, e11, e12, e13⟩ := e
  have k := hPk.uf w (by rw [← Bool.not_eq_true']; exact e13)
  simp only [Bool.not_eq_true'] at e3 e5 e6 e7 e11 e12
  obtain ⟨h1, h2, h3, D, h4⟩ := h
  obtain ⟨m1, m2⟩ := hrM.get e2
  have eH := hHn.uf w l (m2 376 (by decide)) m1
  refine ⟨?_, by rw [w.1 367 _ _ 18 rfl rfl m1]; exact l, by rw [eH]; exact lH, by rw [k.2.1]; exact b1, by rw [k.2.2]; exact b2⟩
  unfold hCx
  rw [eH]
  exact ⟨h1.uf lH w e4 e5, h2.uf lH w k b1 b2 e6 e7, h3.uf lH w e8 e9 e10 e11 e12, D, h4.uf uH w e1 e2 e3⟩
theorem hCx.two {W1 W2 : Nat} {Q : Nat} {Bn Br : Int} {A0 A A1 A2 : hs_A} (h : hCx A) (hA : hJ Q Bn Br A0 A) (uH : uf_H A) (H1 : uf_H A1) (w1 : uf_W W1 A A1) (w2 : uf_W W2 A1 A2) (e1 : hCm W1 = true) (e2 : hCm W2 = true) : hCx A2 := by
  have b1 := hbok.get (hA.1.1 40 1) rfl
  have b2 := hbok.get (hA.1.1 40 2) rfl
  obtain ⟨q, a, b, c, d⟩ := h.uf uH (uf_lv hA) (hHn.le hA).2 b1 b2.2 w1 e1
  exact (q.uf H1 a b c d w2 e2).1
/-! A ROW THAT CHANGES -/
theorem hLo.turn {g g' : Nat → Int32} {H : Int} {A A' : hs_A} (h : hLo 26 g H A) {a b : Int32} (hH : H ≤ 10) (h0 : 0 ≤ a.toInt) (h1 : a.toInt < H) (hb0 : 0 ≤ b.toInt) (hb1 : b.toInt ≤ 1) (hne : ¬ (hBit (A.1 26 9) a = 0 ∧ b.toInt = 0 ∨ ¬ hBit (A.1 26 9) a = 0 ∧ b.toInt = 1)) (hx : A'.1 26 9 = A.1 26 9 ^^^ (Int32.ofNat 1 <<< (a &&& 31))) (e : ∀ k, 6 ≤ k → k ≤ 10 → ¬ k = 9 → A'.1 26 k = A.1 26 k) (f : ∀ j, 1 ≤ j → j ≤ 6 → ∀ x : Nat, x < 10 → A'.2.1 (26 + j) x = A.2.1 (26 + j) x) (hg : ∀ k : Nat, k < 73 → g' k = if k = 50 + a.toNatClampNeg then b else g k) : hLo 26 g' H A' := by
  have c := hn_cn (j := a) h0
  have o : ∀ k : Nat, k < 73 → ¬ (50 ≤ k ∧ k < 60) → g' k = g k := fun k hk q => by rw [hg k hk, if_neg (by omega)]
  obtain ⟨⟨l1, ⟨l2, l3, l4⟩, l5, l6⟩, u1, u2, u3⟩ := h
  refine ⟨⟨by rw [e 6 (by omega) (by omega) (by omega)]; exact l1, ⟨by rw [e 7 (by omega) (by omega) (by omega), o 70 (by omega) (by omega)]; exact l2, by rw [e 8 (by omega) (by omega) (by omega), o 71 (by omega) (by omega)]; exact l3, by rw [e 10 (by omega) (by omega) (by omega), o 72 (by omega) (by omega)]; exact l4⟩, l5.turn hH h0 h1 hb0 hb1 hne hx hg, fun k hk => ?_⟩, fun k hk => ?_, by rw [o 70 (by omega) (by omega)]; exact u2, by rw [o 71 (by omega) (by omega)]; exact u3⟩
  · obtain ⟨⟨a1, a2, a3⟩, a4, a5, a6⟩ := l6 k hk
    exact ⟨⟨by rw [f 1 (by omega) (by omega) k (by omega), o k (by omega) (by omega)]; exact a1, by rw [f 2 (by omega) (by omega) k (by omega), o (10 + k) (by omega) (by omega)]; exact a2, by rw [f 3 (by omega) (by omega) k (by omega), o (40 + k) (by omega) (by omega)]; exact a3⟩, by rw [f 4 (by omega) (by omega) k (by omega), o (20 + k) (by omega) (by omega)]; exact a4, by rw [f 5 (by omega) (by omega) k (by omega), o (30 + k) (by omega) (by omega)]; exact a5, by rw [f 6 (by omega) (by omega) k (by omega), o (60 + k) (by omega) (by omega)]; exact a6⟩
  · rw [o k (by omega) (by omega), o (40 + k) (by omega) (by omega), o (30 + k) (by omega) (by omega), o (60 + k) (by omega) (by omega)]
    exact u1 k hk
theorem hLo.snd {g g' : Nat → Int32} {H : Int} {A A' : hs_A} (h : hLo 26 g H A) {a : Int32} (hH : H ≤ 10) (h0 : 0 ≤ a.toInt) (h1 : a.toInt ≤ 255) (hx : A'.1 26 8 = a) (e : ∀ k, 6 ≤ k → k ≤ 10 → ¬ k = 8 → A'.1 26 k = A.1 26 k) (f : ∀ j, 1 ≤ j → j ≤ 6 → ∀ x : Nat, x < 10 → A'.2.1 (26 + j) x = A.2.1 (26 + j) x) (hg : ∀ k : Nat, k < 73 → g' k = if k = 71 then a else g k) : hLo 26 g' H A' := by
  have o : ∀ k : Nat, k < 73 → ¬ k = 71 → g' k = g k := fun k hk q => by rw [hg k hk, if_neg q]
  have o1 : g' 71 = a := by rw [hg 71 (by omega), if_pos rfl]
  obtain ⟨⟨l1, ⟨l2, l3, l4⟩, ⟨n, l5, l7, l8⟩, l6⟩, u1, u2, u3⟩ := h
  refine ⟨⟨by rw [e 6 (by omega) (by omega) (by omega)]; exact l1, ⟨by rw [e 7 (by omega) (by omega) (by omega), o 70 (by omega) (by omega)]; exact l2, by rw [hx, o1], by rw [e 10 (by omega) (by omega) (by omega), o 72 (by omega) (by omega)]; exact l4⟩, ⟨n, l5, by rw [e 9 (by omega) (by omega) (by omega)]; exact l7, fun k hk => by rw [o (50 + k) (by omega) (by omega)]; exact l8 k hk⟩, fun k hk => ?_⟩, fun k hk => ?_, by rw [o 70 (by omega) (by omega)]; exact u2, by rw [o1]; exact Or.inr ⟨h0, h1⟩⟩
  · obtain ⟨⟨a1, a2, a3⟩, a4, a5, a6⟩ := l6 k hk
    exact ⟨⟨by rw [f 1 (by omega) (by omega) k (by omega), o k (by omega) (by omega)]; exact a1, by rw [f 2 (by omega) (by omega) k (by omega), o (10 + k) (by omega) (by omega)]; exact a2, by rw [f 3 (by omega) (by omega) k (by omega), o (40 + k) (by omega) (by omega)]; exact a3⟩, by rw [f 4 (by omega) (by omega) k (by omega), o (20 + k) (by omega) (by omega)]; exact a4, by rw [f 5 (by omega) (by omega) k (by omega), o (30 + k) (by omega) (by omega)]; exact a5, by rw [f 6 (by omega) (by omega) k (by omega), o (60 + k) (by omega) (by omega)]; exact a6⟩
  · rw [o k (by omega) (by omega), o (40 + k) (by omega) (by omega), o (30 + k) (by omega) (by omega), o (60 + k) (by omega) (by omega)]
    exact u1 k hk
theorem hLo.car {g g' : Nat → Int32} {H : Int} {A A' : hs_A} (h : hLo 26 g H A) {a b : Nat} (hH : H ≤ 10) (ha : (a : Int) < H) (hb : (b : Int) < H) (x1 : A'.2.1 31 b = A.2.1 31 a) (x2 : A'.2.1 29 b = A.2.1 29 b ||| (A.2.1 31 a &&& A.2.1 27 b)) (e : ∀ k, 6 ≤ k → k ≤ 10 → A'.1 26 k = A.1 26 k) (f : ∀ j, 1 ≤ j → j ≤ 6 → ∀ x : Nat, x < 10 → (¬ j = 3 ∧ ¬ j = 5 ∨ ¬ x = b) → A'.2.1 (26 + j) x = A.2.1 (26 + j) x) (hg : ∀ k : Nat, k < 73 → g' k = if k = 30 + b then g (30 + a) else if k = 40 + b then g (40 + b) ||| (g (30 + a) &&& g b) else g k) : hLo 26 g' H A' := by
  have o : ∀ k : Nat, k < 73 → ¬ k = 30 + b → ¬ k = 40 + b → g' k = g k := fun k hk q r => by rw [hg k hk, if_neg q, if_neg r]
  have o3 : g' (30 + b) = g (30 + a) := by rw [hg _ (by omega), if_pos rfl]
  have o4 : g' (40 + b) = g (40 + b) ||| (g (30 + a) &&& g b) := by rw [hg _ (by omega), if_neg (by omega), if_pos rfl]
  obtain ⟨⟨l1, ⟨l2, l3, l4⟩, ⟨n, l5, l7, l8⟩, l6⟩, u1, u2, u3⟩ := h
  refine ⟨⟨by rw [e 6 (by omega) (by omega)]; exact l1, ⟨by rw [e 7 (by omega) (by omega), o 70 (by omega) (by omega) (by omega)]; exact l2, by rw [e 8 (by omega) (by omega), o 71 (by omega) (by omega) (by omega)]; exact l3, by rw [e 10 (by omega) (by omega), o 72 (by omega) (by omega) (by omega)]; exact l4⟩, ⟨n, l5, by rw [e 9 (by omega) (by omega)]; exact l7, fun k hk => by rw [o (50 + k) (by omega) (by omega) (by omega)]; exact l8 k hk⟩, fun k hk => ?_⟩, fun k hk => ?_, by rw [o 70 (by omega) (by omega) (by omega)]; exact u2, by rw [o 71 (by omega) (by omega) (by omega)]; exact u3⟩
  · obtain ⟨⟨a1, a2, a3⟩, a4, a5, a6⟩ := l6 k hk
    obtain ⟨⟨b1, b2, b3⟩, b4, b5, b6⟩ := l6 b hb
    obtain ⟨⟨c1, c2, c3⟩, c4, c5, c6⟩ := l6 a ha
    refine ⟨⟨by rw [f 1 (by omega) (by omega) k (by omega) (by omega), o k (by omega) (by omega) (by omega)]; exact a1, by rw [f 2 (by omega) (by omega) k (by omega) (by omega), o (10 + k) (by omega) (by omega) (by omega)]; exact a2, ?_⟩, by rw [f 4 (by omega) (by omega) k (by omega) (by omega), o (20 + k) (by omega) (by omega) (by omega)]; exact a4, ?_, by rw [f 6 (by omega) (by omega) k (by omega) (by omega), o (60 + k) (by omega) (by omega) (by omega)]; exact a6⟩
    · by_cases q : k = b
      · subst q
        rw [o4, ← b3, ← c5, ← b1]
        exact x2
      · rw [f 3 (by omega) (by omega) k (by omega) (Or.inr q), o (40 + k) (by omega) (by omega) (by omega)]
        exact a3
    · by_cases q : k = b
      · subst q
        rw [o3, ← c5]
        exact x1
      · rw [f 5 (by omega) (by omega) k (by omega) (Or.inr q), o (30 + k) (by omega) (by omega) (by omega)]
        exact a5
  · obtain ⟨p1, p2, p3, p4⟩ := u1 k hk
    obtain ⟨r1, r2, r3, r4⟩ := u1 a (by omega)
    obtain ⟨s1, s2, s3, s4⟩ := u1 b (by omega)
    have n1 := hn_and (x := g (30 + a)) (y := g b) s1.1
    rw [o k (by omega) (by omega) (by omega), o (60 + k) (by omega) (by omega) (by omega)]
    refine ⟨p1, ?_, ?_, p4.1, ?_⟩
    · by_cases q : k = b
      · subst q
        rw [o4]
        exact hn_or s2.1 s2.2 n1.1 (by omega)
      · rw [o (40 + k) (by omega) (by omega) (by omega)]
        exact p2
    · by_cases q : k = b
      · subst q
        rw [o3]
        exact r3
      · rw [o (30 + k) (by omega) (by omega) (by omega)]
        exact p3
    · by_cases q : k = b
      · subst q
        rw [o4]
        exact hs_sub s4.2
      · rw [o (40 + k) (by omega) (by omega) (by omega)]
        exact p4.2
theorem hLo.swp {g g' : Nat → Int32} {H : Int} {A A' : hs_A} (h : hLo 26 g H A) {a b : Nat} (hH : H ≤ 10) (ha : (a : Int) < H) (hb : (b : Int) < H) (e : ∀ k, 6 ≤ k → k ≤ 10 → A'.1 26 k = A.1 26 k) (f : ∀ j, 1 ≤ j → j ≤ 4 → ∀ x : Nat, x < 10 → A'.2.1 (26 + j) x = if x = a then A.2.1 (26 + j) b else if x = b then A.2.1 (26 + j) a else A.2.1 (26 + j) x) (f5 : ∀ x : Nat, x < 10 → A'.2.1 31 x = A.2.1 31 x ∧ A'.2.1 32 x = A.2.1 32 x) (hg : ∀ k : Nat, k < 73 → g' k = hswr a b g k) : hLo 26 g' H A' := by
  have o : ∀ k : Nat, k < 73 → (k / 10 = 3 ∨ 5 ≤ k / 10) → g' k = g k := fun k hk q => by
    rw [hg k hk]
    unfold hswr
    rw [if_pos q]
  have s : ∀ m k : Nat, m < 5 → ¬ m = 3 → k < 10 → g' (10 * m + k) = if k = a then g (10 * m + b) else if k = b then g (10 * m + a) else g (10 * m + k) := fun m k hm h3 hk => by
    rw [hg _ (by omega)]
    unfold hswr
    rw [if_neg (by omega), show (10 * m + k) % 10 = k by omega, show (10 * m + k) / 10 * 10 = 10 * m by omega]
  have s0 : ∀ k : Nat, k < 10 → g' k = if k = a then g b else if k = b then g a else g k := fun k hk => by
    have w := s 0 k (by omega) (by omega) hk
    rw [show 10 * 0 + k = k by omega, show 10 * 0 + a = a by omega, show 10 * 0 + b = b by omega] at w
    exact w
  have s1 : ∀ k : Nat, k < 10 → g' (10 + k) = if k = a then g (10 + b) else if k = b then g (10 + a) else g (10 + k) := fun k hk => by
    have w := s 1 k (by omega) (by omega) hk
    rw [show 10 * 1 + k = 10 + k by omega, show 10 * 1 + a = 10 + a by omega, show 10 * 1 + b = 10 + b by omega] at w
    exact w
  have s2 : ∀ k : Nat, k < 10 → g' (20 + k) = if k = a then g (20 + b) else if k = b then g (20 + a) else g (20 + k) := fun k hk => by
    have w := s 2 k (by omega) (by omega) hk
    rw [show 10 * 2 + k = 20 + k by omega, show 10 * 2 + a = 20 + a by omega, show 10 * 2 + b = 20 + b by omega] at w
    exact w
  have s4 : ∀ k : Nat, k < 10 → g' (40 + k) = if k = a then g (40 + b) else if k = b then g (40 + a) else g (40 + k) := fun k hk => by
    have w := s 4 k (by omega) (by omega) hk
    rw [show 10 * 4 + k = 40 + k by omega, show 10 * 4 + a = 40 + a by omega, show 10 * 4 + b = 40 + b by omega] at w
    exact w
  obtain ⟨⟨l1, ⟨l2, l3, l4⟩, ⟨n, l5, l7, l8⟩, l6⟩, u1, u2, u3⟩ := h
  refine ⟨⟨by rw [e 6 (by omega) (by omega)]; exact l1, ⟨by rw [e 7 (by omega) (by omega), o 70 (by omega) (by omega)]; exact l2, by rw [e 8 (by omega) (by omega), o 71 (by omega) (by omega)]; exact l3, by rw [e 10 (by omega) (by omega), o 72 (by omega) (by omega)]; exact l4⟩, ⟨n, l5, by rw [e 9 (by omega) (by omega)]; exact l7, fun k hk => by rw [o (50 + k) (by omega) (by omega)]; exact l8 k hk⟩, fun k hk => ?_⟩, fun k hk => ?_, by rw [o 70 (by omega) (by omega)]; exact u2, by rw [o 71 (by omega) (by omega)]; exact u3⟩
  · obtain ⟨⟨a1, a2, a3⟩, a4, a5, a6⟩ := l6 k hk
    obtain ⟨⟨b1, b2, b3⟩, b4, b5, b6⟩ := l6 b hb
    obtain ⟨⟨c1, c2, c3⟩, c4, c5, c6⟩ := l6 a ha
    obtain ⟨f1, f2⟩ := f5 k (by omega)
    refine ⟨⟨?_, ?_, ?_⟩, ?_, by rw [f1, o (30 + k) (by omega) (by omega)]; exact a5, by rw [f2, o (60 + k) (by omega) (by omega)]; exact a6⟩
    · rw [f 1 (by omega) (by omega) k (by omega), s0 k (by omega), a1, b1, c1]
    · rw [f 2 (by omega) (by omega) k (by omega), s1 k (by omega), a2, b2, c2]
    · rw [f 3 (by omega) (by omega) k (by omega), s4 k (by omega), a3, b3, c3]
    · rw [f 4 (by omega) (by omega) k (by omega), s2 k (by omega), a4, b4, c4]
  · obtain ⟨p1, p2, p3, p4⟩ := u1 k hk
    obtain ⟨q1, q2, q3, q4⟩ := u1 a (by omega)
    obtain ⟨r1, r2, r3, r4⟩ := u1 b (by omega)
    rw [o (30 + k) (by omega) (by omega), o (60 + k) (by omega) (by omega), s0 k (by omega), s4 k (by omega)]
    refine ⟨?_, ?_, p3, p4.1, ?_⟩
    · split
      · exact r1
      · split
        · exact q1
        · exact p1
    · split
      · exact r2
      · split
        · exact q2
        · exact p2
    · by_cases c1 : k = a
      · rw [if_pos c1, if_pos c1]
        exact r4.2
      · rw [if_neg c1, if_neg c1]
        by_cases c2 : k = b
        · rw [if_pos c2, if_pos c2]
          exact q4.2
        · rw [if_neg c2, if_neg c2]
          exact p4.2
theorem huY_cg {D : hg_D} {n : Nat} {b : Bool} {s : Int32} {r1 r2 : Nat → Int32} (h9 : n ≤ 10) (e : ∀ j, j < 73 → r1 j = r2 j) : ∀ m : Nat, ∀ j, j < 73 → huY D n b s m r1 j = huY D n b s m r2 j
  | 0 => e
  | m + 1 => fun j hj => huR_cg h9 (huY_cg h9 e m) j hj
theorem hLw.cg {L : Nat} {g g' : Nat → Int32} {H : Int} {A : hs_A} (h : hLw L g H A) (hH : H ≤ 10) (eg : ∀ k : Nat, k < 73 → g' k = g k) : hLw L g' H A := h.mv hH (fun _ _ _ => rfl) (fun _ _ _ _ _ => rfl) eg
/-! WHAT IS IN RANGE when a reading goes through -/
section HGR
variable {K V : Nat → Int} {E : Nat → Nat → Bool}
theorem hgr_rn {lo hi : Int} {t : Nat} {o : Option (Nat × Nat)} (h : hq_rng V lo hi t o = none) : o = none ∧ lo ≤ V t ∧ V t ≤ hi := by
  unfold hq_rng at h
  split at h
  next q => exact ⟨h, q⟩
  · unfold hq_late at h
    split at h <;> cases h
def hgr_o (o : Option (Nat × Nat)) : Prop := ∀ c, o = some c → 1 ≤ c.1
theorem hgr_la {c t : Nat} {o : Option (Nat × Nat)} (hc : 1 ≤ c) (h : hgr_o o) : hgr_o (hq_late c t o) := by
  intro x hx
  cases o with
  | none => cases hx; exact hc
  | some y => exact h x hx
theorem hgr_ln {c t : Nat} {o : Option (Nat × Nat)} : ¬ hq_late c t o = none := by
  intro h
  cases o with
  | none => cases h
  | some y => cases h
theorem hgr_ro {lo hi : Int} {t : Nat} {o : Option (Nat × Nat)} (h : hgr_o o) : hgr_o (hq_rng V lo hi t o) := by
  unfold hq_rng
  split
  · exact h
  · exact hgr_la (by omega) h
def hgr_I (V : Nat → Int) (t : Nat) (s : hq_S) : Prop := hgr_o s.2.2.2.2.2.2.2 ∧ (s.2.2.2.2.2.2.2 = none → (∀ u, u ∈ s.2.2.2.2.1 → 0 ≤ V (u + 1) ∧ V (u + 1) ≤ 255) ∧ (s.1 = 2 → t = s.2.2.2.2.2.1 + 1) ∧ (s.1 = 3 ∨ s.1 = 4 → 0 ≤ V (s.2.2.2.2.2.1 + 1) ∧ V (s.2.2.2.2.2.1 + 1) ≤ 255))
variable {t : Nat} {s s' : hq_S}
theorem hgr_k (h : hgr_I V t s) (e : s'.2.2.2.2.1 = s.2.2.2.2.1) (o : s'.2.2.2.2.2.2.2 = s.2.2.2.2.2.2.2) (n : ¬ s'.1 = 2 ∧ ¬ s'.1 = 3 ∧ ¬ s'.1 = 4) : hgr_I V (t + 1) s' := by
  refine ⟨by rw [o]; exact h.1, fun q => ?_⟩
  rw [o] at q
  refine ⟨by rw [e]; exact (h.2 q).1, fun z => absurd z n.1, fun z => ?_⟩
  rcases z with z | z
  · exact absurd z n.2.1
  · exact absurd z n.2.2
theorem hgr_r {lo hi : Int} (h : hgr_I V t s) (e : s'.2.2.2.2.1 = s.2.2.2.2.1) (o : s'.2.2.2.2.2.2.2 = hq_rng V lo hi t s.2.2.2.2.2.2.2) (n : ¬ s'.1 = 2 ∧ ¬ s'.1 = 3 ∧ ¬ s'.1 = 4) : hgr_I V (t + 1) s' := by
  refine ⟨by rw [o]; exact hgr_ro h.1, fun q => ?_⟩
  rw [o] at q
  refine ⟨by rw [e]; exact (h.2 (hgr_rn q).1).1, fun z => absurd z n.1, fun z => ?_⟩
  rcases z with z | z
  · exact absurd z n.2.1
  · exact absurd z n.2.2
theorem hgr_1 (h : hgr_I V t s) (e : s'.2.2.2.2.1 = s.2.2.2.2.1) (n : s'.1 = 2) (m : s'.2.2.2.2.2.1 = t) (o : s'.2.2.2.2.2.2.2 = s.2.2.2.2.2.2.2 ∨ s'.2.2.2.2.2.2.2 = hq_late 3 t s.2.2.2.2.2.2.2) : hgr_I V (t + 1) s' := by
  refine ⟨?_, fun q => ?_⟩
  · rcases o with o | o
    · rw [o]; exact h.1
    · rw [o]; exact hgr_la (by omega) h.1
  · rcases o with o | o
    · rw [o] at q
      exact ⟨by rw [e]; exact (h.2 q).1, fun _ => by rw [m], fun z => by omega⟩
    · rw [o] at q
      exact absurd q hgr_ln
theorem hgr_2 (h : hgr_I V t s) (e : s'.2.2.2.2.1 = s.2.2.2.2.1) (n : s.1 = 2) (n' : s'.1 = 3) (m : s'.2.2.2.2.2.1 = s.2.2.2.2.2.1) (o : s'.2.2.2.2.2.2.2 = hq_rng V 0 255 t s.2.2.2.2.2.2.2) : hgr_I V (t + 1) s' := by
  refine ⟨by rw [o]; exact hgr_ro h.1, fun q => ?_⟩
  rw [o] at q
  obtain ⟨a, b, c⟩ := hgr_rn q
  obtain ⟨h1, h2, h3⟩ := h.2 a
  have ht := h2 n
  refine ⟨by rw [e]; exact h1, fun z => by omega, fun _ => ?_⟩
  rw [m, ← ht]
  exact ⟨b, c⟩
theorem hgr_3 (h : hgr_I V t s) (e : s'.2.2.2.2.1 = s.2.2.2.2.1) (n : s.1 = 3) (n' : s'.1 = 4) (m : s'.2.2.2.2.2.1 = s.2.2.2.2.2.1) (o : s'.2.2.2.2.2.2.2 = hq_rng V 0 99 t s.2.2.2.2.2.2.2) : hgr_I V (t + 1) s' := by
  refine ⟨by rw [o]; exact hgr_ro h.1, fun q => ?_⟩
  rw [o] at q
  obtain ⟨h1, h2, h3⟩ := h.2 (hgr_rn q).1
  refine ⟨by rw [e]; exact h1, fun z => by omega, fun _ => ?_⟩
  rw [m]
  exact h3 (Or.inl n)
theorem hgr_4 (h : hgr_I V t s) (e : s'.2.2.2.2.1 = s.2.2.2.2.2.1 :: s.2.2.2.2.1) (n : s.1 = 4) (n' : s'.1 = 0) (o : s'.2.2.2.2.2.2.2 = s.2.2.2.2.2.2.2) : hgr_I V (t + 1) s' := by
  refine ⟨by rw [o]; exact h.1, fun q => ?_⟩
  rw [o] at q
  obtain ⟨h1, h2, h3⟩ := h.2 q
  refine ⟨fun u hu => ?_, fun z => by omega, fun z => by omega⟩
  rw [e] at hu
  rcases List.mem_cons.mp hu with rfl | hu
  · exact h3 (Or.inr n)
  · exact h1 u hu
theorem hgr_dl (h : hgr_I V t s) (hd : hq_dl K V E t s = .inl s') : hgr_I V (t + 1) s' := by
  unfold hq_dl at hd
  split at hd
  · split at hd
    · cases hd
    · split at hd
      · split at hd
        · obtain ⟨-, rfl⟩ := hq_go_inl hd
          exact hgr_k h rfl rfl (by dsimp only; omega)
        · cases hd
      · split at hd
        · split at hd
          · obtain ⟨-, rfl⟩ := hq_go_inl hd
            exact hgr_k h rfl rfl (by dsimp only; omega)
          · cases hd
        · split at hd
          · obtain ⟨-, rfl⟩ := hq_go_inl hd
            exact hgr_k h rfl rfl (by dsimp only; omega)
          · split at hd
            · obtain ⟨-, rfl⟩ := hq_go_inl hd
              exact hgr_k h rfl rfl (by dsimp only; omega)
            · split at hd
              · obtain ⟨-, rfl⟩ := hq_go_inl hd
                exact hgr_k h rfl rfl (by dsimp only; omega)
              · cases hd
  · obtain ⟨q, -, rfl⟩ := hq_must_inl hd
    refine hgr_1 h rfl rfl rfl ?_
    dsimp only
    split
    · exact Or.inr rfl
    · exact Or.inl rfl
  · obtain ⟨q, -, rfl⟩ := hq_must_inl hd
    exact hgr_2 h rfl rfl rfl rfl rfl
  · obtain ⟨q, -, rfl⟩ := hq_must_inl hd
    exact hgr_3 h rfl rfl rfl rfl rfl
  · obtain ⟨q, -, rfl⟩ := hq_must_inl hd
    exact hgr_4 h rfl rfl rfl rfl
  · obtain ⟨q, -, rfl⟩ := hq_must_inl hd
    exact hgr_r h rfl rfl (by dsimp only; omega)
  · obtain ⟨q, -, rfl⟩ := hq_must_inl hd
    exact hgr_r h rfl rfl (by dsimp only; omega)
  · obtain ⟨q, -, rfl⟩ := hq_must_inl hd
    exact hgr_k h rfl rfl (by dsimp only; omega)
  · obtain ⟨q, -, rfl⟩ := hq_must_inl hd
    exact hgr_r h rfl rfl (by dsimp only; omega)
  · obtain ⟨q, -, rfl⟩ := hq_must_inl hd
    exact hgr_k h rfl rfl (by dsimp only; omega)
  · obtain ⟨q, -, rfl⟩ := hq_must_inl hd
    exact hgr_r h rfl rfl (by dsimp only; omega)
  · obtain ⟨q, -, rfl⟩ := hq_must_inl hd
    exact hgr_k h rfl rfl (by dsimp only; omega)
  · obtain ⟨q, -, rfl⟩ := hq_must_inl hd
    exact hgr_k h rfl rfl (by dsimp only; omega)
  · split at hd
    · split at hd
      · obtain ⟨-, rfl⟩ := hq_go_inl hd
        exact hgr_k h rfl rfl (by dsimp only; omega)
      · cases hd
    · obtain ⟨q, e, p⟩ := hq_unit_inl hd
      exact hgr_k h (by rw [e]) (by rw [e]) (by omega)
  · obtain ⟨q, e, p⟩ := hq_unit_inl hd
    exact hgr_k h (by rw [e]) (by rw [e]) (by omega)
  · split at hd
    · obtain ⟨-, rfl⟩ := hq_go_inl hd
      exact hgr_k h rfl rfl (by dsimp only; omega)
    · split at hd
      · obtain ⟨q, e, p⟩ := hq_out_inl hd
        exact hgr_k h (by rw [e]) (by rw [e]) (by omega)
      · obtain ⟨q, -, rfl⟩ := hq_must_inl hd
        exact hgr_k h rfl rfl (by dsimp only; omega)
theorem hgr_q : ∀ {t : Nat} {s : hq_S}, hq_q K V E t = some s → hgr_I V t s
  | 0, s, h => by
    cases h
    refine ⟨fun c hc => ?_, fun _ => ⟨fun u hu => ?_, fun z => ?_, fun z => ?_⟩⟩
    · exact absurd (show (none : Option (Nat × Nat)) = some c from hc) (fun q => by cases q)
    · exact absurd (show u ∈ ([] : List Nat) from hu) (by simp)
    · exact absurd (show (0 : Nat) = 2 from z) (by decide)
    · exact absurd (show (0 : Nat) = 3 ∨ (0 : Nat) = 4 from z) (by decide)
  | t + 1, s, h => by
    have h' : (match hq_q K V E t with
      | none => none
      | some s => match hq_dl K V E t s with
        | .inl s' => some s'
        | .inr _ => none) = some s := h
    split at h'
    · cases h'
    next s1 hs1 =>
      split at h'
      next s2 hd =>
        cases h'
        exact hgr_dl (hgr_q hs1) hd
      · cases h'
theorem hgr_ok {S : Nat → Int} {y : Int} (h : hq_res K V S E 0 y) (a : hq_q K V E t = some s) (b : hq_dl K V E t s = .inr 0) : ∀ u, u ∈ s.2.2.2.2.1 → 0 ≤ V (u + 1) ∧ V (u + 1) ≤ 255 := by
  rcases h with ⟨t', k, h1, h2, h3, h4⟩ | ⟨t', s', h1, h2, h3⟩
  · exact absurd (hq_f_one K V E ⟨s, a, b⟩ h1).2.symm h2
  · obtain ⟨rfl, -⟩ := hq_f_one K V E ⟨s, a, b⟩ ⟨s', h1, h2⟩
    rw [a] at h1
    cases h1
    have I := hgr_q a
    rcases h3 with ⟨o, -, -⟩ | ⟨c, o, h5, -⟩
    · exact (I.2 o).1
    · have := I.1 c o
      exact False.elim (by omega)
end HGR
/-- both tell the same houses -/
theorem hg_hm {V : Nat → Int} {T sd : Nat} {A A' : hs_A} : ∀ {ns : List Nat}, hg_hs V T A ns → hm_hs V sd A' ns → (∀ u, u ∈ ns → 0 ≤ V (u + 1) ∧ V (u + 1) ≤ 255) → ∀ i, i < ns.length → (A.2.1 (T + 1) i = A'.2.1 377 (10 * sd + i) ∧ A.2.1 (T + 2) i = A'.2.1 378 (10 * sd + i)) ∧ 0 ≤ (A.2.1 (T + 1) i).toInt ∧ (A.2.1 (T + 1) i).toInt ≤ 255
  | [], _, _, _, i, hi => absurd hi (Nat.not_lt_zero i)
  | u :: r, h, h', hv, i, hi => by
    have hi' : i < r.length + 1 := hi
    by_cases q : i = r.length
    · subst q
      have hu := hv u List.mem_cons_self
      exact ⟨⟨Int32.toInt_inj.mp (h.1.trans h'.1.symm), Int32.toInt_inj.mp (h.2.1.trans h'.2.1.symm)⟩, by rw [h.1]; exact hu.1, by rw [h.1]; exact hu.2⟩
    · exact hg_hm h.2.2 h'.2.2 (fun w hw => hv w (List.mem_cons_of_mem _ hw)) i (by omega)
/-! A READING THAT WENT THROUGH -/
theorem hs_0and {x : Int32} : Int32.ofNat 0 &&& x = Int32.ofNat 0 := by
  apply Int32.toBitVec_inj.mp
  show 0#32 &&& x.toBitVec = 0#32
  exact BitVec.zero_and
theorem hCx.new {K V S : Nat → Int} {E : Nat → Nat → Bool} {T sd W : Nat} {N Br y y2 : Int} {A1 A2 Av : hs_A} (hV : hg_V K V) (hT : hTT T) (e3 : A2.2.2.2 0 3 = T + 1) (c40 : A1.1 40 2 = Int32.ofNat 0) (bg : hBg T A1 A1) (dq : hdQ K V E T A1) (w : uf_W W A1 A2) (g1 : hdG W = true) (g2 : hdLm 26 W = true) (g3 : Nat.testBit W (ug_o (ug_g 40) 2) = false) (h2 : hJ 0 N Br A2 A2) (rs : hq_res K V S E 0 y) (hs : hq_hs K V E (Av.2.1 376 sd).toInt y2) (sd1 : sd ≤ 1) (lv : (Av.1 367 18).toInt = (sd : Int)) (mr : hm_R K V E sd Av) (mb : hmBg sd Av) (kp : ∀ j, j < 73 → Av.2.1 395 j = Av.2.1 396 j) (u51 : (Av.1 367 51).toInt = 0) (h408 : ∀ s : Nat, (s : Int) < 3 → (Av.2.1 408 s).toInt = 0) (v : hs_vis A2 Av) : hCx A2 := by
  have w0 := uf_vis (hs_vis_sy v)
  have w0' := uf_vis v
  obtain ⟨t, s, a1, a2, dk1⟩ := dq
  obtain ⟨t', s', bb, zz, b1, b2, mM⟩ := mr
  obtain ⟨rfl, -⟩ := hq_f_one K V E ⟨s, a1, a2⟩ ⟨s', b1, b2⟩
  rw [a1] at b1
  cases b1
  have hr := hgr_ok rs a1 a2
  have dk2 := dk1.uf hT w g1
  have len10 : s.2.2.2.2.1.length ≤ 10 := (hq_q_inv a1).1.2.2.1
  have hlen := (hq_hs_one hs ⟨t, s, a1, a2, rfl, rfl⟩).1
  have e18 : A2.1 367 18 = Av.1 367 18 := w0.1 367 _ _ 18 rfl rfl (by decide +kernel)
  have cl : (A2.1 367 18).toNatClampNeg = sd := by
    have := hn_cn (j := A2.1 367 18) (by rw [e18]; omega)
    rw [e18] at this
    rw [e18]
    omega
  have vl2 : hVl (sd : Int) A2 := by
    have z := h2.2.2.2.1.2.2.2.1
    rw [e18, lv] at z
    exact z
  have rv : hrK sd (hg_q K V E t).1 Av := ⟨lv, sd1, vl2.mv (by omega) (hrK.lr sd1 w0' (by decide +kernel)), (hgw_q_iv hV a1).1.1, V, _, bb, zz, len10, mM, hlen⟩
  have r2 : hrK sd (hg_q K V E t).1 A2 := rv.uf w0 (by decide +kernel)
  obtain ⟨dk, zc, zc1, zc2, cM, cl4⟩ := dk2
  have e376 : A2.2.1 376 sd = Av.2.1 376 sd := w0.2.1 376 _ _ sd rfl (by omega) (by decide +kernel)
  have eH : hHn A2 = (s.2.2.2.2.1.length : Int) := by
    unfold hHn
    rw [cl, e376]
    exact hlen
  have e5 : ∀ k, k < 73 → A2.2.1 395 k = Av.2.1 396 k := fun k hk => (w0.2.1 395 _ _ k rfl hk (by decide +kernel)).trans (kp k hk)
  obtain ⟨m, m1, mw, m71, -⟩ := mb
  obtain rfl : m = s.2.2.2.2.1.length := by omega
  obtain ⟨mw1, mw2⟩ := mw
  have hp : hPg A2 (T + 3) := by
    have z := h2.2.2.2.1.2.1
    rw [e3] at z
    exact z
  have hD : hDb (hg_q K V E t).1 := ⟨fun h hh => by rw [← cM.2.2.1.1 h hh]; exact hp h hh, (hgd_q hV a1).2.1, (hgd_q hV a1).2.2⟩
  have h27 := hg_hm cM.2.2.2 mM.2.2 hr
  obtain ⟨⟨q1, q2, q3, q4, q5⟩, q6⟩ := bg
  obtain ⟨g26, g27⟩ := hdLm.get g2
  have f26 : ∀ k, k ∈ [6, 7, 8, 9, 10] → A2.1 26 k = A1.1 26 k := fun k hk => by
    have hk' : k = 6 ∨ k = 7 ∨ k = 8 ∨ k = 9 ∨ k = 10 := by simpa using hk
    rcases hk' with rfl | rfl | rfl | rfl | rfl <;> exact w.1 26 _ _ _ rfl rfl (g26 _ hk)
  have t4 := hdT4 w hT g1
  have z0 : ∀ k, k < 73 → ¬ k = 71 → (∀ i, i < s.2.2.2.2.1.length → ¬ k = i ∧ ¬ k = 10 + i ∧ ¬ k = 20 + i ∧ ¬ k = 50 + i) → A2.2.1 395 k = Int32.ofNat 0 := fun k hk h1 h3 => by
    rw [e5 k hk]
    exact Int32.toInt_inj.mp ((mw2 k hk h1 h3).trans hk_0.symm)
  have nn : hNw (s.2.2.2.2.1.length : Int) A2 := by
    refine ⟨⟨?_, ⟨?_, ?_, ?_⟩, ?_, fun h hh => ?_⟩, fun h hh => ?_, ?_, ?_⟩
    · rw [f26 6 (by decide), q1, ← t4]
      exact cl4
    · rw [f26 7 (by decide), q2, z0 70 (by omega) (by omega) (fun i hi => by omega)]
    · rw [f26 8 (by decide), q3, e5 71 (by omega)]
      exact Int32.toInt_inj.mp (hk_4294967295.trans m71.symm)
    · rw [f26 10 (by decide), q5, z0 72 (by omega) (by omega) (fun i hi => by omega)]
    · rw [f26 9 (by decide), q4, ← t4, ← cl4]
      exact hOnb.all (by omega) (by omega) rfl (fun j hj => by
        rw [e5 (50 + j) (by omega)]
        exact huI (n := 1) (mw1 j (by omega)).2.2.2 (by omega))
    · have hh' : h < s.2.2.2.2.1.length := by omega
      obtain ⟨⟨x1, x2, x3⟩, x4, x5, x6⟩ := q6 h (by omega)
      obtain ⟨y1, y2, y3, y4⟩ := mw1 h hh'
      obtain ⟨⟨p1, p2⟩, p3, p4⟩ := h27 h hh'
      have n1 : A2.2.1 (T + 1) h = A1.2.1 (T + 1) h ∧ A2.2.1 (T + 2) h = A1.2.1 (T + 2) h := by
        have gg := (hdG.get g1).2
        rcases hT with rfl | rfl
        · exact ⟨w.2.1 3 _ _ h rfl (by omega) (gg _ (by decide)), w.2.1 4 _ _ h rfl (by omega) (gg _ (by decide))⟩
        · exact ⟨w.2.1 12 _ _ h rfl (by omega) (gg _ (by decide)), w.2.1 13 _ _ h rfl (by omega) (gg _ (by decide))⟩
      refine ⟨⟨?_, ?_, ?_⟩, ?_, ?_, ?_⟩
      · rw [e5 h (by omega), y1, ← p1, n1.1, ← x1]
        exact w.2.1 27 _ _ h rfl (by omega) (g27 1 (by decide))
      · rw [e5 (10 + h) (by omega), y2, ← p2, n1.2, ← x2]
        exact w.2.1 28 _ _ h rfl (by omega) (g27 2 (by decide))
      · rw [z0 (40 + h) (by omega) (by omega) (fun i hi => by omega), ← x3]
        exact w.2.1 29 _ _ h rfl (by omega) (g27 3 (by decide))
      · rw [e5 (20 + h) (by omega), huI (n := h) y3 (by omega), ← x4]
        exact w.2.1 30 _ _ h rfl (by omega) (g27 4 (by decide))
      · rw [z0 (30 + h) (by omega) (by omega) (fun i hi => by omega), ← x5]
        exact w.2.1 31 _ _ h rfl (by omega) (g27 5 (by decide))
      · rw [z0 (60 + h) (by omega) (by omega) (fun i hi => by omega), ← x6]
        exact w.2.1 32 _ _ h rfl (by omega) (g27 6 (by decide))
    · have hh' : h < s.2.2.2.2.1.length := by omega
      obtain ⟨y1, y2, y3, y4⟩ := mw1 h hh'
      obtain ⟨⟨p1, p2⟩, p3, p4⟩ := h27 h hh'
      rw [z0 (40 + h) (by omega) (by omega) (fun i hi => by omega), z0 (30 + h) (by omega) (by omega) (fun i hi => by omega), z0 (60 + h) (by omega) (by omega) (fun i hi => by omega), e5 h (by omega), y1, ← p1, hk_0]
      exact ⟨⟨p3, p4⟩, ⟨by omega, by omega⟩, ⟨by omega, by omega⟩, by omega, hs_0and⟩
    · rw [z0 70 (by omega) (by omega) (fun i hi => by omega), hk_0]
      exact Int.le_refl 0
    · rw [e5 71 (by omega)]
      exact Or.inl m71
  have c402 : A2.1 40 2 = Int32.ofNat 0 := (w.1 40 _ _ 2 rfl rfl g3).trans c40
  have u512 : A2.1 367 51 = Int32.ofNat 0 := Int32.toInt_inj.mp ((congrArg Int32.toInt (w0.1 367 _ _ 51 rfl rfl (by decide +kernel))).trans (u51.trans hk_0.symm))
  unfold hCx
  rw [eH]
  refine ⟨nn, ⟨by rw [c402, u512], fun i hi => ?_⟩, fun q hq hb => ?_, (hg_q K V E t).1, fun T' hT' => ?_, ?_, hD⟩
  · rw [c402, hk_0] at hi
    exact False.elim (by omega)
  · rw [w0.2.1 408 _ _ q rfl hq (by decide +kernel)] at hb
    exact absurd (h408 q (by omega)) hb
  · obtain rfl : T' = T := by omega
    exact hdKv.k ⟨dk, zc, zc1, zc2, cM, cl4⟩
  · rw [cl]
    exact r2
/-! A READING THAT FAILED -/
def hCk (A A1 : hs_A) : Prop := (∀ i k, 26 ≤ i → A1.1 i k = A.1 i k) ∧ (∀ i, 26 ≤ i → ∀ j, A1.2.1 i j = A.2.1 i j) ∧ ∀ D T, A1.2.2.2 0 3 = T + 1 → (∀ T', A.2.2.2 0 3 = T' + 1 → hdK T' D A) → hdK T D A1
theorem hdK.eq {T : Nat} {D : hg_D} {A A1 : hs_A} (h : hdK T D A) (e : ∀ i k, T ≤ i → i ≤ T + 8 → A1.1 i k = A.1 i k) (f : ∀ i, T ≤ i → i ≤ T + 8 → ∀ j, A1.2.1 i j = A.2.1 i j) : hdK T D A1 := by
  obtain ⟨h1, V, ns, zz, h2, h3, h4, h5⟩ := h
  exact ⟨h1, V, ns, zz, h2, h3, h4.mv (fun i k a b _ => e i k a b) (fun i a b => funext (f i a (by omega))), by rw [e T 4 (by omega) (by omega)]; exact h5⟩
theorem hOT.vis {s : Nat} {A A' : hs_A} (hs : s ≤ 1) (w : uf_W 0 A A') : hOT s A A' := fun c j h => by
  by_cases q : c = 379
  · subst q
    have hj : j = s := by
      rcases h with ⟨-, h⟩ | ⟨h, -⟩ | ⟨h, -⟩
      · exact h
      · exact absurd h (by decide)
      · exact absurd h (by decide)
    exact w.2.1 379 _ _ j rfl (by omega) (by decide +kernel)
  · exact hrK.ot hs w (by decide +kernel) c j q h
theorem hCx.old {W1 : Nat} {Q : Nat} {Bn Br Bn2 Br2 : Int} {A0 A A1 A2 : hs_A} (h : hCx A) (hA : hJ Q Bn Br A0 A) (k : hCk A A1) (w1 : uf_W W1 A A1) (c1 : hrM W1 = true) (H1 : uf_H A1) (p1 : uf_W uMf A1 A2) (o : hOT (A.1 367 18).toNatClampNeg A1 A2) (em : hEm A1 A2) (h2 : hJ 0 Bn2 Br2 A2 A2) : hCx A2 := by
  obtain ⟨n0, p0, s0, D, cK, cR, cD⟩ := h
  have lH := (hHn.le hA).2
  have b1 := hbok.get (hA.1.1 40 1) rfl
  have b2 := hbok.get (hA.1.1 40 2) rfl
  have e1 : A1.1 367 18 = A.1 367 18 := k.1 367 18 (by omega)
  have e2 : A2.1 367 18 = A1.1 367 18 := p1.1 367 _ _ 18 rfl rfl (by decide +kernel)
  have r1 : hrK (A.1 367 18).toNatClampNeg D A1 := cR.uf w1 c1
  have r2 : hrK (A.1 367 18).toNatClampNeg D A2 := by
    obtain ⟨q1, q2, q3, q4, V, ns, bb, zz, q5, q6, q7⟩ := r1
    have z2 := h2.2.2.2.1.2.2.2.1
    rw [e2, q1] at z2
    refine ⟨by rw [e2]; exact q1, q2, z2, q4, V, ns, bb, zz, q5, q6.lv q5 q3 (fun c j hh => em c j (by rw [q1]; exact hh)) o, ?_⟩
    rw [o 376 _ (Or.inl ⟨Or.inl rfl, rfl⟩)]
    exact q7
  have eH : hHn A2 = hHn A := by
    unfold hHn
    rw [e2, e1, o 376 _ (Or.inl ⟨Or.inl rfl, rfl⟩), k.2.1 376 (by omega)]
  have n1 : hNw (hHn A) A1 := hLo.mv n0 lH (fun f _ _ => k.1 26 f (by omega)) (fun j _ _ x _ => k.2.1 _ (by omega) x) (fun x hx => k.2.1 395 (by omega) x)
  have pp : hPs (hHn A) A1 := by
    refine ⟨by rw [k.1 40 2 (by omega), k.1 367 51 (by omega)]; exact p0.1, fun i hi => ?_⟩
    rw [k.1 40 1 (by omega)]
    rw [k.1 40 2 (by omega)] at hi
    exact (p0.2 i hi).mv lH (fun f _ _ => k.1 _ f (by omega)) (fun j _ _ x _ => k.2.1 _ (by omega) x) (fun x hx => k.2.1 399 (by omega) _)
  have ss : hSl (hHn A) A1 := fun q hq hb => by
    rw [k.2.1 408 (by omega)] at hb
    exact (s0 q hq hb).mv lH (fun f _ _ => k.1 _ f (by omega)) (fun j _ _ x _ => k.2.1 _ (by omega) x) (fun x hx => k.2.1 409 (by omega) _)
  unfold hCx
  rw [eH]
  refine ⟨n1.uf lH p1 (by decide +kernel) (by decide +kernel), hPs.uf pp lH p1 (hPk.uf p1 (by decide +kernel)) (by rw [k.1 40 1 (by omega)]; exact b1) (by rw [k.1 40 2 (by omega)]; exact b2.2) (by decide +kernel) (by decide +kernel), ss.uf lH p1 (by decide +kernel) (by decide +kernel) (by decide +kernel) (by decide +kernel) (by decide +kernel), D, fun T hT => ?_, by rw [e2, e1]; exact r2, cD⟩
  rw [p1.2.2.2 0 _ _ 3 rfl rfl (by decide +kernel)] at hT
  refine (k.2.2 D T hT cK).uf ?_ p1 (by decide +kernel)
  rcases H1.1 with e | e
  · obtain rfl : T = 2 := by omega
    exact Or.inl rfl
  · obtain rfl : T = 11 := by omega
    exact Or.inr rfl
/-! THE START -/
set_option maxRecDepth 1000000 in
theorem hy_ICs : ((hy_A.1 26 6).toInt = 0 ∧ hy_A.1 26 7 = hy_A.2.1 395 70 ∧ hy_A.1 26 8 = hy_A.2.1 395 71 ∧ hy_A.1 26 10 = hy_A.2.1 395 72 ∧ hy_A.1 26 9 = Int32.ofNat 0) ∧ ((hy_A.2.1 376 (hy_A.1 367 18).toNatClampNeg).toInt = 0 ∧ hy_A.1 40 2 = hy_A.1 367 51 ∧ (hy_A.1 40 2).toInt = 0 ∧ (hy_A.2.1 395 70).toInt = 0 ∧ (hy_A.2.1 395 71).toInt = -1) ∧ (hy_A.1 367 18).toNatClampNeg = 0 ∧ (hy_A.1 367 18).toInt = 0 := by decide +kernel
set_option maxRecDepth 1000000 in
theorem hy_ICt : (∀ s, s < 3 → (hy_A.2.1 408 s).toInt = 0) ∧ (∀ t, t < 24 → (hy_A.2.1 5 t).toInt = 0) ∧ (∀ t, t < 24 → (hy_A.2.1 380 (24 * 0 + t)).toInt = 0) ∧ ((hy_A.1 2 6).toInt = 6 ∧ (hy_A.1 2 7).toInt = 0 ∧ (hy_A.2.1 381 0).toInt = 6 ∧ (hy_A.2.1 382 0).toInt = 0) ∧ (hy_A.1 2 4).toInt = 0 ∧ (hy_A.2.1 376 0).toInt = 0 ∧ hy_A.2.2.2 0 3 = 3 := by decide +kernel
set_option maxRecDepth 1000000 in
theorem hy_ICu : (hy_A.1 (2 + 4) 4).toInt = 2 * ((4 : Nat) : Int) ∧ ∀ j, j < 4 → (hy_A.2.1 (2 + 6) j).toInt = 2 * (j : Int) ∧ (hy_A.2.1 (2 + 5) (2 * j)).toInt = 8 * (if j = 0 then 1 else 0) + 0 ∧ (hy_A.2.1 (2 + 5) (2 * j + 1)).toInt = 7 := by decide +kernel
set_option maxRecDepth 1000000 in
theorem hy_ICv : ∀ k, k < 4 → (hy_A.2.1 383 (4 * 0 + k)).toInt = 0 ∧ (hy_A.2.1 384 (4 * 0 + k)).toInt = 0 := by decide +kernel
theorem hy_ICw : ∀ q, q < 4 → hgw_wl (hg_d0.2.2.2 q) := (hgw_q_iv (K := fun _ => 0) (V := fun _ => 0) (E := fun _ _ => false) (fun t ht => absurd (show (0 : Int) = 21 from ht) (by decide)) (t := 0) (s := (0, 0, 0, 0, [], 0, 0, none)) rfl).1.1
theorem hy_IC : hIC hy_A := by
  obtain ⟨⟨a6, a7, a8, a10, a9⟩, ⟨c1, c2, c3, c4, c5⟩, c6, c7⟩ := hy_ICs
  obtain ⟨d1, d2, d3, ⟨d4, d5, d6, d7⟩, d8, d9, d10⟩ := hy_ICt
  refine ⟨hy_IB, ?_⟩
  unfold hCx
  rw [show hHn hy_A = 0 from c1]
  refine ⟨⟨⟨a6, ⟨a7, a8, a10⟩, ⟨0, by decide, a9, fun h hh => False.elim (by omega)⟩, fun h hh => False.elim (by omega)⟩, fun h hh => absurd hh (Nat.not_lt_zero h), by omega, Or.inl c5⟩, ⟨c2, fun i hi => ?_⟩, fun s hs hb => absurd (d1 s hs) hb, hg_d0, fun T hT => ?_, ?_, ⟨fun t _ => ⟨(by decide : (0 : Int) ≤ 0), (by decide : (0 : Int) ≤ 255)⟩, ⟨(by decide : (0 : Int) ≤ 6), (by decide : (6 : Int) ≤ 10000)⟩, (by decide : (0 : Int) ≤ 0), (by decide : (0 : Int) ≤ 10000)⟩⟩
  · rw [c3] at hi
    exact False.elim (by omega)
  · obtain rfl : T = 2 := by omega
    exact ⟨hy_ICw, fun _ => 0, [], 8, by omega, Nat.zero_le _, hcM.init hy_ICu (fun j hj => d2 j hj) d4 d5, d8⟩
  · rw [c6]
    have z := hy_J.2.2.2.1.2.2.2.1
    rw [c7] at z
    exact ⟨c7, by omega, z, hy_ICw, fun _ => 0, [], 0, 0, Nat.zero_le _, ⟨fun k hk => ⟨0, 0, (hy_ICv k hk).1, (hy_ICv k hk).2, Or.inl ⟨rfl, rfl⟩⟩, ⟨fun h hh => d3 h hh, d6, d7⟩, trivial⟩, d9⟩
theorem hpr_turn {N : Int} {A : hs_A} (hA : hJ 0 N (N + 72) A A) (hN : N ≤ 800000) (hI : hIC A) (a1 : Int32) (a2 : Int32) (b0 : 0 ≤ a2.toInt) (b1x : a2.toInt ≤ 1) : hxC 26 83 hm_m83 [.ref 1, .int a1, .int a2] A (fun r A1 => ∃ z : Int32, r = some (.int z) ∧ hxC 26 191 hm_m191 [.ref 368, .int a1, .int a2] A1 (fun r2 A2 => ∃ z2 : Int32, r2 = some (.int z2) ∧ z = z2 ∧ ∃ N' : Int, N' ≤ N + 144 ∧ hJ 0 N' (N' + 72) A2 A2 ∧ hIC A2)) := by
  have bl := hbok.get (hA.1.1 0 1) rfl
  have b1 := hbok.get (hA.1.1 40 1) rfl
  have b2 := hbok.get (hA.1.1 40 2) rfl
  have lH := hHn.le hA
  obtain ⟨hIB0, hN0, hP0, hS0, D, hC0⟩ := hI
  have uH := hIB0.1.1.2.1
  refine hxC.post (uf_k83 uH a1 a2 (hX83g (d := 22) hA a1 a2 b0 b1x hIB0.2.1.c uH)) ?_
  rintro _ A1 ⟨⟨hA1, z1, rfl, f1⟩, w1, H1⟩
  refine ⟨z1, rfl, ?_⟩
  have eH1 : hHn A1 = hHn A := hHn.uf w1 (uf_lv hA) (by decide +kernel) (by decide +kernel)
  have hC1 : hCo D A1 := hC0.uf uH w1 (by decide +kernel) (by decide +kernel) (by decide +kernel)
  refine hxC.post (uf_k191 H1 a1 a2 (hX191g (d := 23) hA1 (by omega) a1 a2 b0 b1x (hHs.r w1 (uf_lv hA) (by decide +kernel) (by decide +kernel)) H1)) ?_
  rintro _ A2 ⟨⟨hA2, z2, rfl, f2⟩, w2, H2⟩
  have l1 : (A1.1 367 18).toNatClampNeg < 2 := uf_lv hA1
  have eH2 : hHn A2 = hHn A := (hHn.uf w2 l1 (by decide +kernel) (by decide +kernel)).trans eH1
  have hC2 : hCo D A2 := hC1.uf H1 w2 (by decide +kernel) (by decide +kernel) (by decide +kernel)
  have hB2 : hIB A2 := hIB0.q ((w1.le (by decide +kernel : ug_wle uw83 uwB = true)).trans (w2.le (by decide +kernel : ug_wle uw191 uwB = true))) H2 bl.2 (uf_lv hA)
  have e395 : A1.2.1 395 (50 + a1.toNatClampNeg) = A.2.1 395 (50 + a1.toNatClampNeg) ∨ 9 < a1.toNatClampNeg := by
    by_cases q : a1.toNatClampNeg ≤ 9
    · exact Or.inl (w1.2.1 395 _ _ _ rfl (by omega) (by decide +kernel))
    · exact Or.inr (by omega)
  have lHA : hHn A = (A.2.1 376 (A.1 367 18).toNatClampNeg).toInt := rfl
  rcases f1 with ⟨u1, u2, u3, u4, u5, u6, u7⟩ | ⟨u1, u2, u3⟩
  · have bt := hN0.1.2.2.1.bit u2 u3 u4
    have hc := hn_cn (j := a1) u2
    have e5 := congrArg Int32.toInt (e395.resolve_right (by omega))
    rcases f2 with ⟨v1, v2, v3, v4, v5, v6⟩ | ⟨v1, v2, v3⟩
    · have Dn := v6.pre (fun k hk => w1.2.1 395 _ _ k rfl hk (by decide +kernel)) (fun j hj => w1.2.1 399 _ _ j rfl hj (by decide +kernel)) (w1.1 367 _ _ 51 rfl rfl (by decide +kernel))
      have nn : hNw (hHn A) A2 := hLo.turn hN0 lH.2 u2 u3 b0 b1x u5 ((w2.1 26 _ _ 9 rfl rfl (by decide +kernel)).trans u7) (fun k a b c => by rcases (by omega : k = 6 ∨ k = 7 ∨ k = 8 ∨ k = 10) with rfl | rfl | rfl | rfl; exact (w2.1 26 _ _ 6 rfl rfl (by decide +kernel)).trans (w1.1 26 _ _ 6 rfl rfl (by decide +kernel)); exact (w2.1 26 _ _ 7 rfl rfl (by decide +kernel)).trans (w1.1 26 _ _ 7 rfl rfl (by decide +kernel)); exact (w2.1 26 _ _ 8 rfl rfl (by decide +kernel)).trans (w1.1 26 _ _ 8 rfl rfl (by decide +kernel)); exact (w2.1 26 _ _ 10 rfl rfl (by decide +kernel)).trans (w1.1 26 _ _ 10 rfl rfl (by decide +kernel))) (fun j a b x hx => by rcases (by omega : j = 1 ∨ j = 2 ∨ j = 3 ∨ j = 4 ∨ j = 5 ∨ j = 6) with rfl | rfl | rfl | rfl | rfl | rfl; exact (w2.2.1 27 _ _ x rfl hx (by decide +kernel)).trans (w1.2.1 27 _ _ x rfl hx (by decide +kernel)); exact (w2.2.1 28 _ _ x rfl hx (by decide +kernel)).trans (w1.2.1 28 _ _ x rfl hx (by decide +kernel)); exact (w2.2.1 29 _ _ x rfl hx (by decide +kernel)).trans (w1.2.1 29 _ _ x rfl hx (by decide +kernel)); exact (w2.2.1 30 _ _ x rfl hx (by decide +kernel)).trans (w1.2.1 30 _ _ x rfl hx (by decide +kernel)); exact (w2.2.1 31 _ _ x rfl hx (by decide +kernel)).trans (w1.2.1 31 _ _ x rfl hx (by decide +kernel)); exact (w2.2.1 32 _ _ x rfl hx (by decide +kernel)).trans (w1.2.1 32 _ _ x rfl hx (by decide +kernel))) (fun k hk => by
          rw [Dn.1 k hk]
          show (if k = 50 + a1.toNatClampNeg then a2 else A1.2.1 395 k) = _
          rw [w1.2.1 395 _ _ k rfl hk (by decide +kernel)])
      exact ⟨z2, rfl, Int32.toInt_inj.mp (by omega), N + 72, by omega, hJ.mono (hJ.self hA2) (by omega) (by omega), hB2, by rw [eH2]; exact nn, by rw [eH2]; exact hP0.push hN0 lH.2 b1 b2.1 u6 (hPk.uf w2 (by decide +kernel)) Dn, by rw [eH2]; exact (hS0.uf lH.2 w1 (by decide +kernel) (by decide +kernel) (by decide +kernel) (by decide +kernel) (by decide +kernel)).uf lH.2 w2 (by decide +kernel) (by decide +kernel) (by decide +kernel) (by decide +kernel) (by decide +kernel), D, hC2⟩
    · exact absurd v2 (by omega)
  · rcases f2 with ⟨v1, v2, v3, v4, v5, v6⟩ | ⟨v1, v2, v3⟩
    · have bt := hN0.1.2.2.1.bit v2 v3 v4
      have hc := hn_cn (j := a1) v2
      have e5 := congrArg Int32.toInt (e395.resolve_right (by omega))
      exact absurd u2 (by omega)
    · subst v3
      subst u3
      exact ⟨z2, rfl, Int32.toInt_inj.mp (by omega), N + 72, by omega, hJ.mono (hJ.self hA2) (by omega) (by omega), hB2, by rw [eH2]; exact hN0, by rw [eH2]; exact hP0, by rw [eH2]; exact hS0, D, hC2⟩
theorem hpr_send {N : Int} {A : hs_A} (hA : hJ 0 N (N + 72) A A) (hN : N ≤ 800000) (hI : hIC A) (a1 : Int32) : hxC 26 84 hm_m84 [.ref 1, .int a1] A (fun r A1 => ∃ z : Int32, r = some (.int z) ∧ hxC 26 192 hm_m192 [.ref 368, .int a1] A1 (fun r2 A2 => ∃ z2 : Int32, r2 = some (.int z2) ∧ z = z2 ∧ ∃ N' : Int, N' ≤ N + 144 ∧ hJ 0 N' (N' + 72) A2 A2 ∧ hIC A2)) := by
  have bl := hbok.get (hA.1.1 0 1) rfl
  have b1 := hbok.get (hA.1.1 40 1) rfl
  have b2 := hbok.get (hA.1.1 40 2) rfl
  have lH := hHn.le hA
  obtain ⟨hIB0, hN0, hP0, hS0, D, hC0⟩ := hI
  have uH := hIB0.1.1.2.1
  refine hxC.post (uf_k84 uH a1 (hX84g (d := 22) hA a1 hIB0.2.1.c)) ?_
  rintro _ A1 ⟨⟨hA1, z1, rfl, f1, k1, n1⟩, w1, H1⟩
  refine ⟨z1, rfl, ?_⟩
  have eH1 : hHn A1 = hHn A := hHn.uf w1 (uf_lv hA) (by decide +kernel) (by decide +kernel)
  have hC1 : hCo D A1 := hC0.uf uH w1 (by decide +kernel) (by decide +kernel) (by decide +kernel)
  refine hxC.post (uf_k192 H1 a1 (hX192g (d := 23) hA1 (by omega) a1 (hHs.r w1 (uf_lv hA) (by decide +kernel) (by decide +kernel)) H1)) ?_
  rintro _ A2 ⟨⟨hA2, z2, rfl, f2, d2, n2⟩, w2, H2⟩
  have l1 : (A1.1 367 18).toNatClampNeg < 2 := uf_lv hA1
  have eH2 : hHn A2 = hHn A := (hHn.uf w2 l1 (by decide +kernel) (by decide +kernel)).trans eH1
  have hC2 : hCo D A2 := hC1.uf H1 w2 (by decide +kernel) (by decide +kernel) (by decide +kernel)
  have hB2 : hIB A2 := hIB0.q ((w1.le (by decide +kernel : ug_wle uw84 uwB = true)).trans (w2.le (by decide +kernel : ug_wle uw192 uwB = true))) H2 bl.2 (uf_lv hA)
  by_cases q : z1.toInt = 1
  · have Dn := (d2 (by omega)).pre (fun k hk => w1.2.1 395 _ _ k rfl hk (by decide +kernel)) (fun j hj => w1.2.1 399 _ _ j rfl hj (by decide +kernel)) (w1.1 367 _ _ 51 rfl rfl (by decide +kernel))
    obtain ⟨u6, u8⟩ := k1 q
    have ha : 0 ≤ a1.toInt ∧ a1.toInt ≤ 255 := by
      rcases f1 with ⟨-, y1, y2, -⟩ | ⟨y, -⟩
      · exact ⟨y1, y2⟩
      · exact absurd y (by omega)
    have nn : hNw (hHn A) A2 := hLo.snd hN0 lH.2 ha.1 ha.2 ((w2.1 26 _ _ 8 rfl rfl (by decide +kernel)).trans u8) (fun k a b c => by rcases (by omega : k = 6 ∨ k = 7 ∨ k = 9 ∨ k = 10) with rfl | rfl | rfl | rfl; exact (w2.1 26 _ _ 6 rfl rfl (by decide +kernel)).trans (w1.1 26 _ _ 6 rfl rfl (by decide +kernel)); exact (w2.1 26 _ _ 7 rfl rfl (by decide +kernel)).trans (w1.1 26 _ _ 7 rfl rfl (by decide +kernel)); exact (w2.1 26 _ _ 9 rfl rfl (by decide +kernel)).trans (w1.1 26 _ _ 9 rfl rfl (by decide +kernel)); exact (w2.1 26 _ _ 10 rfl rfl (by decide +kernel)).trans (w1.1 26 _ _ 10 rfl rfl (by decide +kernel))) (fun j a b x hx => by rcases (by omega : j = 1 ∨ j = 2 ∨ j = 3 ∨ j = 4 ∨ j = 5 ∨ j = 6) with rfl | rfl | rfl | rfl | rfl | rfl; exact (w2.2.1 27 _ _ x rfl hx (by decide +kernel)).trans (w1.2.1 27 _ _ x rfl hx (by decide +kernel)); exact (w2.2.1 28 _ _ x rfl hx (by decide +kernel)).trans (w1.2.1 28 _ _ x rfl hx (by decide +kernel)); exact (w2.2.1 29 _ _ x rfl hx (by decide +kernel)).trans (w1.2.1 29 _ _ x rfl hx (by decide +kernel)); exact (w2.2.1 30 _ _ x rfl hx (by decide +kernel)).trans (w1.2.1 30 _ _ x rfl hx (by decide +kernel)); exact (w2.2.1 31 _ _ x rfl hx (by decide +kernel)).trans (w1.2.1 31 _ _ x rfl hx (by decide +kernel)); exact (w2.2.1 32 _ _ x rfl hx (by decide +kernel)).trans (w1.2.1 32 _ _ x rfl hx (by decide +kernel))) (fun k hk => by
      rw [Dn.1 k hk]
      show (if k = 71 then a1 else A1.2.1 395 k) = _
      rw [w1.2.1 395 _ _ k rfl hk (by decide +kernel)])
    exact ⟨z2, rfl, Int32.toInt_inj.mp (by omega), N + 72, by omega, hJ.mono (hJ.self hA2) (by omega) (by omega), hB2, by rw [eH2]; exact nn, by rw [eH2]; exact hP0.push hN0 lH.2 b1 b2.1 u6 (hPk.uf w2 (by decide +kernel)) Dn, by rw [eH2]; exact (hS0.uf lH.2 w1 (by decide +kernel) (by decide +kernel) (by decide +kernel) (by decide +kernel) (by decide +kernel)).uf lH.2 w2 (by decide +kernel) (by decide +kernel) (by decide +kernel) (by decide +kernel) (by decide +kernel), D, hC2⟩
  · have e1 := n1 q
    have e2 := n2 (by omega)
    subst e2
    subst e1
    exact ⟨z2, rfl, Int32.toInt_inj.mp (by omega), N + 72, by omega, hJ.mono (hJ.self hA2) (by omega) (by omega), hB2, by rw [eH2]; exact hN0, by rw [eH2]; exact hP0, by rw [eH2]; exact hS0, D, hC2⟩
theorem hpr_carry {N : Int} {A : hs_A} (hA : hJ 0 N (N + 72) A A) (hN : N ≤ 800000) (hI : hIC A) (a1 : Int32) (a2 : Int32) : hxC 26 85 hm_m85 [.ref 1, .int a1, .int a2] A (fun r A1 => ∃ z : Int32, r = some (.int z) ∧ hxC 26 193 hm_m193 [.ref 368, .int a1, .int a2] A1 (fun r2 A2 => ∃ z2 : Int32, r2 = some (.int z2) ∧ z = z2 ∧ ∃ N' : Int, N' ≤ N + 144 ∧ hJ 0 N' (N' + 72) A2 A2 ∧ hIC A2)) := by
  have bl := hbok.get (hA.1.1 0 1) rfl
  have b1 := hbok.get (hA.1.1 40 1) rfl
  have b2 := hbok.get (hA.1.1 40 2) rfl
  have lH := hHn.le hA
  obtain ⟨hIB0, hN0, hP0, hS0, D, hC0⟩ := hI
  have uH := hIB0.1.1.2.1
  refine hxC.post (uf_k85 uH a1 a2 (hX85g (d := 22) hA a1 a2 hIB0.2.1.c uH)) ?_
  rintro _ A1 ⟨⟨hA1, z1, rfl, f1⟩, w1, H1⟩
  refine ⟨z1, rfl, ?_⟩
  have eH1 : hHn A1 = hHn A := hHn.uf w1 (uf_lv hA) (by decide +kernel) (by decide +kernel)
  have hC1 : hCo D A1 := hC0.uf uH w1 (by decide +kernel) (by decide +kernel) (by decide +kernel)
  refine hxC.post (uf_k193 H1 a1 a2 (hX193g (d := 23) hA1 (by omega) a1 a2 (hHs.r w1 (uf_lv hA) (by decide +kernel) (by decide +kernel)) H1)) ?_
  rintro _ A2 ⟨⟨hA2, z2, rfl, f2⟩, w2, H2⟩
  have l1 : (A1.1 367 18).toNatClampNeg < 2 := uf_lv hA1
  have eH2 : hHn A2 = hHn A := (hHn.uf w2 l1 (by decide +kernel) (by decide +kernel)).trans eH1
  have hC2 : hCo D A2 := hC1.uf H1 w2 (by decide +kernel) (by decide +kernel) (by decide +kernel)
  have hB2 : hIB A2 := hIB0.q ((w1.le (by decide +kernel : ug_wle uw85 uwB = true)).trans (w2.le (by decide +kernel : ug_wle uw193 uwB = true))) H2 bl.2 (uf_lv hA)
  rcases f1 with ⟨u1, u2, u3, u4, u5, u6, u7, u8, u9, u10⟩ | ⟨u1, u2, u3⟩
  · have c1 := hn_cn (j := a1) u1
    have c2 := hn_cn (j := a2) u3
    have lHA : hHn A = (A.2.1 376 (A.1 367 18).toNatClampNeg).toInt := rfl
    rcases f2 with ⟨v1, v2, v3, v4, v5, v6, v7⟩ | ⟨v1, v2, v3⟩
    · have Dn := v7.pre (fun k hk => w1.2.1 395 _ _ k rfl hk (by decide +kernel)) (fun j hj => w1.2.1 399 _ _ j rfl hj (by decide +kernel)) (w1.1 367 _ _ 51 rfl rfl (by decide +kernel))
      have x5 : ∀ k, k < 73 → A1.2.1 395 k = A.2.1 395 k := (fun k hk => w1.2.1 395 _ _ k rfl hk (by decide +kernel))
      have nn : hNw (hHn A) A2 := hLo.car (a := a1.toNatClampNeg) (b := a2.toNatClampNeg) hN0 lH.2 (by omega) (by omega) ((w2.2.1 31 _ _ _ rfl (by omega) (by decide +kernel)).trans u8) ((w2.2.1 29 _ _ _ rfl (by omega) (by decide +kernel)).trans u9) (fun k a b => by rcases (by omega : k = 6 ∨ k = 7 ∨ k = 8 ∨ k = 9 ∨ k = 10) with rfl | rfl | rfl | rfl | rfl; exact (w2.1 26 _ _ 6 rfl rfl (by decide +kernel)).trans (w1.1 26 _ _ 6 rfl rfl (by decide +kernel)); exact (w2.1 26 _ _ 7 rfl rfl (by decide +kernel)).trans (w1.1 26 _ _ 7 rfl rfl (by decide +kernel)); exact (w2.1 26 _ _ 8 rfl rfl (by decide +kernel)).trans (w1.1 26 _ _ 8 rfl rfl (by decide +kernel)); exact (w2.1 26 _ _ 9 rfl rfl (by decide +kernel)).trans (w1.1 26 _ _ 9 rfl rfl (by decide +kernel)); exact (w2.1 26 _ _ 10 rfl rfl (by decide +kernel)).trans (w1.1 26 _ _ 10 rfl rfl (by decide +kernel))) (fun j a b x hx hj => by
          rcases (by omega : j = 1 ∨ j = 2 ∨ j = 3 ∨ j = 4 ∨ j = 5 ∨ j = 6) with rfl | rfl | rfl | rfl | rfl | rfl
          · exact (w2.2.1 27 _ _ x rfl hx (by decide +kernel)).trans (w1.2.1 27 _ _ x rfl hx (by decide +kernel))
          · exact (w2.2.1 28 _ _ x rfl hx (by decide +kernel)).trans (w1.2.1 28 _ _ x rfl hx (by decide +kernel))
          · exact (w2.2.1 29 _ _ x rfl hx (by decide +kernel)).trans (u10 29 x (Or.inl rfl) hx (by omega))
          · exact (w2.2.1 30 _ _ x rfl hx (by decide +kernel)).trans (w1.2.1 30 _ _ x rfl hx (by decide +kernel))
          · exact (w2.2.1 31 _ _ x rfl hx (by decide +kernel)).trans (u10 31 x (Or.inr rfl) hx (by omega))
          · exact (w2.2.1 32 _ _ x rfl hx (by decide +kernel)).trans (w1.2.1 32 _ _ x rfl hx (by decide +kernel))) (fun k hk => by
          rw [Dn.1 k hk]
          show (if k = 30 + a2.toNatClampNeg then A1.2.1 395 (30 + a1.toNatClampNeg) else if k = 40 + a2.toNatClampNeg then A1.2.1 395 (40 + a2.toNatClampNeg) ||| (A1.2.1 395 (30 + a1.toNatClampNeg) &&& A1.2.1 395 a2.toNatClampNeg) else A1.2.1 395 k) = _
          rw [x5 (30 + a1.toNatClampNeg) (by omega), x5 (40 + a2.toNatClampNeg) (by omega), x5 a2.toNatClampNeg (by omega), x5 k hk])
      have ez : z1 = z2 := by
        rw [u7, v6, Dn.1 (30 + a2.toNatClampNeg) (by omega)]
        show _ = (if 30 + a2.toNatClampNeg = 30 + a2.toNatClampNeg then A1.2.1 395 (30 + a1.toNatClampNeg) else _)
        rw [if_pos rfl, x5 (30 + a1.toNatClampNeg) (by omega)]
        exact (hN0.1.2.2.2 a1.toNatClampNeg (by omega)).2.2.1
      exact ⟨z2, rfl, ez, N + 72, by omega, hJ.mono (hJ.self hA2) (by omega) (by omega), hB2, by rw [eH2]; exact nn, by rw [eH2]; exact hP0.push hN0 lH.2 b1 b2.1 u6 (hPk.uf w2 (by decide +kernel)) Dn, by rw [eH2]; exact (hS0.uf lH.2 w1 (by decide +kernel) (by decide +kernel) (by decide +kernel) (by decide +kernel) (by decide +kernel)).uf lH.2 w2 (by decide +kernel) (by decide +kernel) (by decide +kernel) (by decide +kernel) (by decide +kernel), D, hC2⟩
    · exact absurd v1 (by omega)
  · have lHA : hHn A = (A.2.1 376 (A.1 367 18).toNatClampNeg).toInt := rfl
    rcases f2 with ⟨v1, v2, v3, v4, v5, v6, v7⟩ | ⟨v1, v2, v3⟩
    · exact absurd u1 (by omega)
    · subst v3
      subst u3
      exact ⟨z2, rfl, Int32.toInt_inj.mp (by omega), N + 72, by omega, hJ.mono (hJ.self hA2) (by omega) (by omega), hB2, by rw [eH2]; exact hN0, by rw [eH2]; exact hP0, by rw [eH2]; exact hS0, D, hC2⟩
theorem hpr_change {N : Int} {A : hs_A} (hA : hJ 0 N (N + 72) A A) (hN : N ≤ 800000) (hI : hIC A) (a1 : Int32) (a2 : Int32) : hxC 26 86 hm_m86 [.ref 1, .int a1, .int a2] A (fun r A1 => ∃ z : Int32, r = some (.int z) ∧ hxC 26 195 hm_m195 [.ref 368, .int a1, .int a2] A1 (fun r2 A2 => ∃ z2 : Int32, r2 = some (.int z2) ∧ z = z2 ∧ ∃ N' : Int, N' ≤ N + 144 ∧ hJ 0 N' (N' + 72) A2 A2 ∧ hIC A2)) := by
  have bl := hbok.get (hA.1.1 0 1) rfl
  have b1 := hbok.get (hA.1.1 40 1) rfl
  have b2 := hbok.get (hA.1.1 40 2) rfl
  have lH := hHn.le hA
  obtain ⟨hIB0, hN0, hP0, hS0, D, hC0⟩ := hI
  have uH := hIB0.1.1.2.1
  refine hxC.post (uf_k86 uH a1 a2 (hX86g (d := 22) hA a1 a2 hIB0.2.1.c uH)) ?_
  rintro _ A1 ⟨⟨hA1, z1, rfl, f1, k1, n1⟩, w1, H1⟩
  refine ⟨z1, rfl, ?_⟩
  have eH1 : hHn A1 = hHn A := hHn.uf w1 (uf_lv hA) (by decide +kernel) (by decide +kernel)
  have hC1 : hCo D A1 := hC0.uf uH w1 (by decide +kernel) (by decide +kernel) (by decide +kernel)
  refine hxC.post (uf_k195 H1 a1 a2 (hX195g (d := 23) hA1 (by omega) a1 a2 (hHs.r w1 (uf_lv hA) (by decide +kernel) (by decide +kernel)) H1)) ?_
  rintro _ A2 ⟨⟨hA2, z2, rfl, f2, d2, n2⟩, w2, H2⟩
  have l1 : (A1.1 367 18).toNatClampNeg < 2 := uf_lv hA1
  have eH2 : hHn A2 = hHn A := (hHn.uf w2 l1 (by decide +kernel) (by decide +kernel)).trans eH1
  have hC2 : hCo D A2 := hC1.uf H1 w2 (by decide +kernel) (by decide +kernel) (by decide +kernel)
  have hB2 : hIB A2 := hIB0.q ((w1.le (by decide +kernel : ug_wle uw86 uwB = true)).trans (w2.le (by decide +kernel : ug_wle uw195 uwB = true))) H2 bl.2 (uf_lv hA)
  by_cases q : z1.toInt = 1
  · have Dn := (d2 (by omega)).pre (fun k hk => w1.2.1 395 _ _ k rfl hk (by decide +kernel)) (fun j hj => w1.2.1 399 _ _ j rfl hj (by decide +kernel)) (w1.1 367 _ _ 51 rfl rfl (by decide +kernel))
    obtain ⟨u6, u7⟩ := k1 q
    have ha : 0 ≤ a1.toInt ∧ a1.toInt < hHn A ∧ 0 ≤ a2.toInt ∧ a2.toInt < hHn A ∧ ¬ a1.toInt = a2.toInt := by
      rcases f1 with ⟨-, y⟩ | ⟨y, -⟩
      · exact y
      · exact absurd y (by omega)
    have c1 := hn_cn (j := a1) ha.1
    have c2 := hn_cn (j := a2) ha.2.2.1
    have nn : hNw (hHn A) A2 := hLo.swp (a := a1.toNatClampNeg) (b := a2.toNatClampNeg) hN0 lH.2 (by omega) (by omega) (fun k a b => by rcases (by omega : k = 6 ∨ k = 7 ∨ k = 8 ∨ k = 9 ∨ k = 10) with rfl | rfl | rfl | rfl | rfl; exact (w2.1 26 _ _ 6 rfl rfl (by decide +kernel)).trans (w1.1 26 _ _ 6 rfl rfl (by decide +kernel)); exact (w2.1 26 _ _ 7 rfl rfl (by decide +kernel)).trans (w1.1 26 _ _ 7 rfl rfl (by decide +kernel)); exact (w2.1 26 _ _ 8 rfl rfl (by decide +kernel)).trans (w1.1 26 _ _ 8 rfl rfl (by decide +kernel)); exact (w2.1 26 _ _ 9 rfl rfl (by decide +kernel)).trans (w1.1 26 _ _ 9 rfl rfl (by decide +kernel)); exact (w2.1 26 _ _ 10 rfl rfl (by decide +kernel)).trans (w1.1 26 _ _ 10 rfl rfl (by decide +kernel))) (fun j a b x hx => by
        rcases (by omega : j = 1 ∨ j = 2 ∨ j = 3 ∨ j = 4) with rfl | rfl | rfl | rfl
        · exact (w2.2.1 27 _ _ x rfl hx (by decide +kernel)).trans (u7 1 (by omega) (by omega) x hx)
        · exact (w2.2.1 28 _ _ x rfl hx (by decide +kernel)).trans (u7 2 (by omega) (by omega) x hx)
        · exact (w2.2.1 29 _ _ x rfl hx (by decide +kernel)).trans (u7 3 (by omega) (by omega) x hx)
        · exact (w2.2.1 30 _ _ x rfl hx (by decide +kernel)).trans (u7 4 (by omega) (by omega) x hx)) (fun x hx => ⟨(w2.2.1 31 _ _ x rfl hx (by decide +kernel)).trans (w1.2.1 31 _ _ x rfl hx (by decide +kernel)), (w2.2.1 32 _ _ x rfl hx (by decide +kernel)).trans (w1.2.1 32 _ _ x rfl hx (by decide +kernel))⟩) (fun k hk => by
        rw [Dn.1 k hk]
        exact hswr_x (fun j hj => w1.2.1 395 _ _ j rfl hj (by decide +kernel)) (by omega) (by omega) hk)
    exact ⟨z2, rfl, Int32.toInt_inj.mp (by omega), N + 72, by omega, hJ.mono (hJ.self hA2) (by omega) (by omega), hB2, by rw [eH2]; exact nn, by rw [eH2]; exact hP0.push hN0 lH.2 b1 b2.1 u6 (hPk.uf w2 (by decide +kernel)) Dn, by rw [eH2]; exact (hS0.uf lH.2 w1 (by decide +kernel) (by decide +kernel) (by decide +kernel) (by decide +kernel) (by decide +kernel)).uf lH.2 w2 (by decide +kernel) (by decide +kernel) (by decide +kernel) (by decide +kernel) (by decide +kernel), D, hC2⟩
  · have e1 := n1 q
    have e2 := n2 (by omega)
    subst e2
    subst e1
    exact ⟨z2, rfl, Int32.toInt_inj.mp (by omega), N + 72, by omega, hJ.mono (hJ.self hA2) (by omega) (by omega), hB2, by rw [eH2]; exact hN0, by rw [eH2]; exact hP0, by rw [eH2]; exact hS0, D, hC2⟩
theorem hPc_uf {W : Nat} {A A' : hs_A} (w : uf_W W A A') (c : (Nat.testBit W (ug_o (ug_g 42) 6) || (Nat.testBit W (ug_o (ug_g 42) 7) || (Nat.testBit W (ug_o (ug_g 42) 8) || (Nat.testBit W (ug_o (ug_g 42) 9) || (Nat.testBit W (ug_o (ug_g 42) 10) || (Nat.testBit W (ug_g 43) || (Nat.testBit W (ug_g 44) || (Nat.testBit W (ug_g 45) || (Nat.testBit W (ug_g 46) || (Nat.testBit W (ug_g 47) || (Nat.testBit W (ug_g 48)))))))))))) = false) (q : Nat) (hq : q < 40) : (∀ k, 6 ≤ k → k ≤ 10 → A'.1 (42 + 7 * q) k = A.1 (42 + 7 * q) k) ∧ ∀ j, 1 ≤ j → j ≤ 6 → ∀ x : Nat, x < 10 → A'.2.1 (42 + 7 * q + j) x = A.2.1 (42 + 7 * q + j) x := by
  simp only [Bool.or_eq_false_iff] at c
  obtain ⟨c6, c7, c8, c9, c10, d1, d2, d3, d4, d5, d6⟩ := c
  obtain ⟨s1, s2, s3⟩ := hPk_sh q hq
  refine ⟨fun k a b => ?_, fun j a b x hx => ?_⟩
  · have hk : k = 6 ∨ k = 7 ∨ k = 8 ∨ k = 9 ∨ k = 10 := by omega
    rcases hk with rfl | rfl | rfl | rfl | rfl
    · exact w.1 _ _ _ 6 s1 rfl (by rw [s3]; exact c6)
    · exact w.1 _ _ _ 7 s1 rfl (by rw [s3]; exact c7)
    · exact w.1 _ _ _ 8 s1 rfl (by rw [s3]; exact c8)
    · exact w.1 _ _ _ 9 s1 rfl (by rw [s3]; exact c9)
    · exact w.1 _ _ _ 10 s1 rfl (by rw [s3]; exact c10)
  · have hk : j = 1 ∨ j = 2 ∨ j = 3 ∨ j = 4 ∨ j = 5 ∨ j = 6 := by omega
    have sj := s2 j (by omega) a
    refine w.2.1 _ _ _ x sj.1 hx ?_
    rw [sj.2]
    rcases hk with rfl | rfl | rfl | rfl | rfl | rfl
    · exact d1
    · exact d2
    · exact d3
    · exact d4
    · exact d5
    · exact d6
theorem hpr_hours {N : Int} {A : hs_A} (hA : hJ 0 N (N + 72) A A) (hN : N ≤ 800000) (hI : hIC A) (a1 : Int32) : hxC 26 87 hm_m87 [.ref 1, .int a1] A (fun r A1 => ∃ z : Int32, r = some (.int z) ∧ hxC 26 198 hm_m198 [.ref 368, .int a1] A1 (fun r2 A2 => ∃ z2 : Int32, r2 = some (.int z2) ∧ z = z2 ∧ ∃ N' : Int, N' ≤ N + 144 ∧ hJ 0 N' (N' + 72) A2 A2 ∧ hIC A2)) := by
  have bl := hbok.get (hA.1.1 0 1) rfl
  have b1 := hbok.get (hA.1.1 40 1) rfl
  have b2 := hbok.get (hA.1.1 40 2) rfl
  have lH := hHn.le hA
  obtain ⟨hIB0, hN0, hP0, hS0, D, hC0⟩ := hI
  have uH := hIB0.1.1.2.1
  obtain ⟨n, hn⟩ : ∃ n : Nat, hHn A = (n : Int) := ⟨(hHn A).toNat, by omega⟩
  have h10 : n ≤ 10 := by omega
  have hN9 : hNw (n : Int) A := by rw [← hn]; exact hN0
  have hCt : ∀ T, hTT T → A.2.2.2 0 3 = T + 1 → hdK T D A ∧ (A.1 T 4).toInt = (n : Int) := fun T _ e => ⟨hC0.1 T e, (congrArg Int32.toInt (hIB0.2.1 T e)).trans hn⟩
  have hL : hdL 26 (A.2.1 395) n A := hN9.1.d h10
  have hO : huO (A.2.1 395) n := hN9.2
  have q70 := hA.2.1.2.1
  refine hxC.post (uf_k87 uH a1 (hX87h (d := 21) hA a1 uH hCt hL hO hC0.2.2.1 hC0.2.2.2.1 hC0.2.2.2.2 (by omega))) ?_
  rintro _ A1 ⟨⟨hA1, z1, rfl, f1⟩, w1, H1⟩
  refine ⟨z1, rfl, ?_⟩
  have eH1 : hHn A1 = hHn A := hHn.uf w1 (uf_lv hA) (by decide +kernel) (by decide +kernel)
  have hC1 : hCo D A1 := hC0.uf uH w1 (by decide +kernel) (by decide +kernel) (by decide +kernel)
  have eN : A1.2.1 376 (A1.1 367 18).toNatClampNeg = Int32.ofNat n := huI (eH1.trans hn) (by omega)
  have e5 : ∀ k, k < 73 → A1.2.1 395 k = A.2.1 395 k := (fun k hk => w1.2.1 395 _ _ k rfl hk (by decide +kernel))
  have hO1 : huO (A1.2.1 395) n := hO.mv h10 e5
  have e70 := congrArg Int32.toInt (e5 70 (by omega))
  refine hxC.post (uf_k198 H1 a1 (hX198h (d := 19) hA1 (by omega) a1 H1 hC1.2.1 eN h10 hO1 hC0.2.2.1 hC0.2.2.2.1 hC0.2.2.2.2 (by omega))) ?_
  rintro _ A2 ⟨⟨hA2, z2, rfl, f2⟩, w2, H2⟩
  have l1 : (A1.1 367 18).toNatClampNeg < 2 := uf_lv hA1
  have eH2 : hHn A2 = hHn A := (hHn.uf w2 l1 (by decide +kernel) (by decide +kernel)).trans eH1
  have hC2 : hCo D A2 := hC1.uf H1 w2 (by decide +kernel) (by decide +kernel) (by decide +kernel)
  have hB2 : hIB A2 := hIB0.q ((w1.le (by decide +kernel : ug_wle uw87 uwB = true)).trans (w2.le (by decide +kernel : ug_wle uw198 uwB = true))) H2 bl.2 (uf_lv hA)
  rcases f1 with ⟨u1, u2, u3, u4, m, u5, u6⟩ | ⟨u1, u2, u3⟩
  · have N2 : (∀ k, k < 73 → A2.2.1 395 k = huY D n true (Int32.ofInt D.2.2.1) m (A.2.1 395) k) → hNw (hHn A) A2 := fun hg => by
      rw [hn]
      exact ⟨hLw.mv u6.w (by omega) (fun k a b => by rcases (by omega : k = 6 ∨ k = 7 ∨ k = 8 ∨ k = 9 ∨ k = 10) with rfl | rfl | rfl | rfl | rfl; exact w2.1 26 _ _ 6 rfl rfl (by decide +kernel); exact w2.1 26 _ _ 7 rfl rfl (by decide +kernel); exact w2.1 26 _ _ 8 rfl rfl (by decide +kernel); exact w2.1 26 _ _ 9 rfl rfl (by decide +kernel); exact w2.1 26 _ _ 10 rfl rfl (by decide +kernel)) (fun j a b x hx => by rcases (by omega : j = 1 ∨ j = 2 ∨ j = 3 ∨ j = 4 ∨ j = 5 ∨ j = 6) with rfl | rfl | rfl | rfl | rfl | rfl; exact w2.2.1 27 _ _ x rfl hx (by decide +kernel); exact w2.2.1 28 _ _ x rfl hx (by decide +kernel); exact w2.2.1 29 _ _ x rfl hx (by decide +kernel); exact w2.2.1 30 _ _ x rfl hx (by decide +kernel); exact w2.2.1 31 _ _ x rfl hx (by decide +kernel); exact w2.2.1 32 _ _ x rfl hx (by decide +kernel)) hg, (hO.I (b := true) (s := (Int32.ofInt D.2.2.1)) h10 hC0.2.2.1 hC0.2.2.2.1 m (by omega)).1.mv h10 hg⟩
    rcases f2 with ⟨v1, v2, v3, v4⟩ | ⟨v1, v2, v3⟩
    · rcases v4 with ⟨y1, y2⟩ | ⟨y1, m2, y3, y4⟩
      · obtain rfl : m = 0 := by omega
        have nn := N2 (fun k hk => by rw [y2]; exact e5 k hk)
        have ez : z1 = z2 := by rw [u3, v3, ← nn.1.2.1.1]; exact (w2.1 26 _ _ 7 rfl rfl (by decide +kernel)).symm
        have k1 : hPk A A1 := by
          rcases u4 with ⟨-, x⟩ | ⟨x, -⟩
          · exact x
          · exact absurd x (by omega)
        have pp : hPs (hHn A) A2 := by rw [y2]; exact hPs.uf hP0 lH.2 w1 k1 b1 b2.2 (by decide +kernel) (by decide +kernel)
        exact ⟨z2, rfl, ez, N + 72, by omega, hJ.mono (hJ.self hA2) (by omega) (by omega), hB2, by rw [eH2]; exact nn, by rw [eH2]; exact pp, by rw [eH2]; exact (hS0.uf lH.2 w1 (by decide +kernel) (by decide +kernel) (by decide +kernel) (by decide +kernel) (by decide +kernel)).uf lH.2 w2 (by decide +kernel) (by decide +kernel) (by decide +kernel) (by decide +kernel) (by decide +kernel), D, hC2⟩
      · obtain rfl : m2 = m := by omega
        have Dn := y4.pre (fun k hk => w1.2.1 395 _ _ k rfl hk (by decide +kernel)) (fun j hj => w1.2.1 399 _ _ j rfl hj (by decide +kernel)) (w1.1 367 _ _ 51 rfl rfl (by decide +kernel))
        have nn := N2 (fun k hk => (Dn.1 k hk).trans (huY_cg h10 e5 m2 k hk))
        have ez : z1 = z2 := by rw [u3, v3, ← nn.1.2.1.1]; exact (w2.1 26 _ _ 7 rfl rfl (by decide +kernel)).symm
        have k1 : hKq A A1 := by
          rcases u4 with ⟨x, -⟩ | ⟨-, x⟩
          · exact absurd x (by omega)
          · exact x
        exact ⟨z2, rfl, ez, N + 72, by omega, hJ.mono (hJ.self hA2) (by omega) (by omega), hB2, by rw [eH2]; exact nn, by rw [eH2]; exact hP0.push hN0 lH.2 b1 b2.1 k1 (hPk.uf w2 (by decide +kernel)) Dn, by rw [eH2]; exact (hS0.uf lH.2 w1 (by decide +kernel) (by decide +kernel) (by decide +kernel) (by decide +kernel) (by decide +kernel)).uf lH.2 w2 (by decide +kernel) (by decide +kernel) (by decide +kernel) (by decide +kernel) (by decide +kernel), D, hC2⟩
    · exact absurd v1 (by omega)
  · rcases f2 with ⟨v1, v2, v3, v4⟩ | ⟨v1, v2, v3⟩
    · exact absurd u1 (by omega)
    · subst v3
      subst u3
      exact ⟨z2, rfl, Int32.toInt_inj.mp (by omega), N + 72, by omega, hJ.mono (hJ.self hA2) (by omega) (by omega), hB2, by rw [eH2]; exact hN0, by rw [eH2]; exact hP0, by rw [eH2]; exact hS0, D, hC2⟩
theorem hpr_undo {N : Int} {A : hs_A} (hA : hJ 0 N (N + 72) A A) (hN : N ≤ 800000) (hI : hIC A)  : hxC 26 88 hm_m88 [.ref 1] A (fun r A1 => ∃ z : Int32, r = some (.int z) ∧ hxC 26 199 hm_m199 [.ref 368] A1 (fun r2 A2 => ∃ z2 : Int32, r2 = some (.int z2) ∧ z = z2 ∧ ∃ N' : Int, N' ≤ N + 144 ∧ hJ 0 N' (N' + 72) A2 A2 ∧ hIC A2)) := by
  have bl := hbok.get (hA.1.1 0 1) rfl
  have b1 := hbok.get (hA.1.1 40 1) rfl
  have b2 := hbok.get (hA.1.1 40 2) rfl
  have lH := hHn.le hA
  obtain ⟨hIB0, hN0, hP0, hS0, D, hC0⟩ := hI
  have uH := hIB0.1.1.2.1
  refine hxC.post (uf_k88 uH  (hX88g (d := 23) hA)) ?_
  rintro _ A1 ⟨⟨hA1, z1, rfl, f1⟩, w1, H1⟩
  refine ⟨z1, rfl, ?_⟩
  have eH1 : hHn A1 = hHn A := hHn.uf w1 (uf_lv hA) (by decide +kernel) (by decide +kernel)
  have hC1 : hCo D A1 := hC0.uf uH w1 (by decide +kernel) (by decide +kernel) (by decide +kernel)
  refine hxC.post (uf_k199 H1  (hX199g (d := 25) hA1 (by omega))) ?_
  rintro _ A2 ⟨⟨hA2, z2, rfl, f2⟩, w2, H2⟩
  have l1 : (A1.1 367 18).toNatClampNeg < 2 := uf_lv hA1
  have eH2 : hHn A2 = hHn A := (hHn.uf w2 l1 (by decide +kernel) (by decide +kernel)).trans eH1
  have hC2 : hCo D A2 := hC1.uf H1 w2 (by decide +kernel) (by decide +kernel) (by decide +kernel)
  have hB2 : hIB A2 := hIB0.q ((w1.le (by decide +kernel : ug_wle uw88 uwB = true)).trans (w2.le (by decide +kernel : ug_wle uw199 uwB = true))) H2 bl.2 (uf_lv hA)
  have m26 : ∀ k, 6 ≤ k → k ≤ 10 → A2.1 26 k = A1.1 26 k := (fun k a b => by rcases (by omega : k = 6 ∨ k = 7 ∨ k = 8 ∨ k = 9 ∨ k = 10) with rfl | rfl | rfl | rfl | rfl; exact w2.1 26 _ _ 6 rfl rfl (by decide +kernel); exact w2.1 26 _ _ 7 rfl rfl (by decide +kernel); exact w2.1 26 _ _ 8 rfl rfl (by decide +kernel); exact w2.1 26 _ _ 9 rfl rfl (by decide +kernel); exact w2.1 26 _ _ 10 rfl rfl (by decide +kernel))
  have m27 : ∀ j, 1 ≤ j → j ≤ 6 → ∀ x : Nat, x < 10 → A2.2.1 (26 + j) x = A1.2.1 (26 + j) x := (fun j a b x hx => by rcases (by omega : j = 1 ∨ j = 2 ∨ j = 3 ∨ j = 4 ∨ j = 5 ∨ j = 6) with rfl | rfl | rfl | rfl | rfl | rfl; exact w2.2.1 27 _ _ x rfl hx (by decide +kernel); exact w2.2.1 28 _ _ x rfl hx (by decide +kernel); exact w2.2.1 29 _ _ x rfl hx (by decide +kernel); exact w2.2.1 30 _ _ x rfl hx (by decide +kernel); exact w2.2.1 31 _ _ x rfl hx (by decide +kernel); exact w2.2.1 32 _ _ x rfl hx (by decide +kernel))
  have e51 : A1.1 367 51 = A.1 367 51 := w1.1 367 _ _ 51 rfl rfl (by decide +kernel)
  have hsz := congrArg Int32.toInt hP0.1
  rw [e51] at f2
  rcases f1 with ⟨u1, p, u2, u3, u4, u5, u6, u7, u8⟩ | ⟨u1, u2, u3, u4⟩
  · rcases f2 with ⟨v1, u, v2, v3, v4⟩ | ⟨v1, v2, v3⟩
    · have pq : (((A.1 40 1).toInt + (u : Int)) % 40).toNat = p := by omega
      have old := hP0.2 u (by omega)
      rw [pq] at old
      have e402 : A2.1 40 2 = A1.1 40 2 := w2.1 40 _ _ 2 rfl rfl (by decide +kernel)
      have e401 : A2.1 40 1 = A1.1 40 1 := w2.1 40 _ _ 1 rfl rfl (by decide +kernel)
      have t402 := congrArg Int32.toInt e402
      have nn : hNw (hHn A) A2 := hLo.mv old lH.2 (fun k a b => (m26 k a b).trans (u7 k a b)) (fun j a b x hx => (m27 j a b x hx).trans (u8 j a b x hx)) (fun k hk => by rw [v4 k hk]; exact w1.2.1 399 _ _ _ rfl (by omega) (by decide +kernel))
      have pp : hPs (hHn A) A2 := by
        refine ⟨Int32.toInt_inj.mp (by omega), fun i hi => ?_⟩
        rw [e401, u6]
        have hq : (((A.1 40 1).toInt + (i : Int)) % 40).toNat < 40 := by omega
        have kk := hPc_uf w1 (by decide +kernel) _ hq
        have kk2 := hPc_uf w2 (by decide +kernel) _ hq
        exact (hP0.2 i (by omega)).mv lH.2 (fun k a b => (kk2.1 k a b).trans (kk.1 k a b)) (fun j a b x hx => (kk2.2 j a b x hx).trans (kk.2 j a b x hx)) (fun k hk => (w2.2.1 399 _ _ _ rfl (by omega) (by decide +kernel)).trans (w1.2.1 399 _ _ _ rfl (by omega) (by decide +kernel)))
      exact ⟨z2, rfl, Int32.toInt_inj.mp (by omega), N + 72, by omega, hJ.mono (hJ.self hA2) (by omega) (by omega), hB2, by rw [eH2]; exact nn, by rw [eH2]; exact pp, by rw [eH2]; exact (hS0.uf lH.2 w1 (by decide +kernel) (by decide +kernel) (by decide +kernel) (by decide +kernel) (by decide +kernel)).uf lH.2 w2 (by decide +kernel) (by decide +kernel) (by decide +kernel) (by decide +kernel) (by decide +kernel), D, hC2⟩
    · exact absurd u3 (by omega)
  · rcases f2 with ⟨v1, u, v2, v3, v4⟩ | ⟨v1, v2, v3⟩
    · exact absurd u2 (by omega)
    · subst v3
      have nn : hNw (hHn A) A2 := hLo.mv hN0 lH.2 (fun k _ _ => u3 26 k (by omega)) (fun j _ _ x _ => by rw [u4]) (fun k hk => by rw [u4])
      have pp : hPs (hHn A) A2 := ⟨by rw [u3 40 2 (by omega), u3 367 51 (by omega)]; exact hP0.1, fun i hi => by rw [u3 40 2 (by omega)] at hi; exact False.elim (by omega)⟩
      exact ⟨z2, rfl, Int32.toInt_inj.mp (by omega), N + 72, by omega, hJ.mono (hJ.self hA2) (by omega) (by omega), hB2, by rw [eH2]; exact nn, by rw [eH2]; exact pp, by rw [eH2]; exact hS0.uf lH.2 w1 (by decide +kernel) (by decide +kernel) (by decide +kernel) (by decide +kernel) (by decide +kernel), D, hC2⟩
theorem hpr_hold {N : Int} {A : hs_A} (hA : hJ 0 N (N + 72) A A) (hN : N ≤ 800000) (hI : hIC A) (a1 : Int32) : hxC 26 128 hm_m128 [.ref 1, .int a1] A (fun r A1 => ∃ z : Int32, r = some (.int z) ∧ hxC 26 238 hm_m238 [.ref 368, .int a1] A1 (fun r2 A2 => ∃ z2 : Int32, r2 = some (.int z2) ∧ z = z2 ∧ ∃ N' : Int, N' ≤ N + 144 ∧ hJ 0 N' (N' + 72) A2 A2 ∧ hIC A2)) := by
  have bl := hbok.get (hA.1.1 0 1) rfl
  have b1 := hbok.get (hA.1.1 40 1) rfl
  have b2 := hbok.get (hA.1.1 40 2) rfl
  have lH := hHn.le hA
  obtain ⟨hIB0, hN0, hP0, hS0, D, hC0⟩ := hI
  have uH := hIB0.1.1.2.1
  refine hxC.post (uf_k128 uH a1 (hX128g (d := 24) hA a1)) ?_
  rintro _ A1 ⟨⟨hA1, z1, rfl, f1⟩, w1, H1⟩
  refine ⟨z1, rfl, ?_⟩
  have eH1 : hHn A1 = hHn A := hHn.uf w1 (uf_lv hA) (by decide +kernel) (by decide +kernel)
  have hC1 : hCo D A1 := hC0.uf uH w1 (by decide +kernel) (by decide +kernel) (by decide +kernel)
  refine hxC.post (uf_k238 H1 a1 (hX238g (d := 24) hA1 (by omega) a1)) ?_
  rintro _ A2 ⟨⟨hA2, z2, rfl, f2⟩, w2, H2⟩
  have l1 : (A1.1 367 18).toNatClampNeg < 2 := uf_lv hA1
  have eH2 : hHn A2 = hHn A := (hHn.uf w2 l1 (by decide +kernel) (by decide +kernel)).trans eH1
  have hC2 : hCo D A2 := hC1.uf H1 w2 (by decide +kernel) (by decide +kernel) (by decide +kernel)
  have e2 : A2.1 0 10 = A1.1 0 10 := w2.1 0 _ _ 10 rfl rfl (by decide +kernel)
  have e1 : ∀ s, s < 3 → A1.2.1 408 s = A.2.1 408 s := fun s hs => w1.2.1 408 _ _ s rfl hs (by decide +kernel)
  rcases f1 with ⟨u1, u2, u3, sv, u4⟩ | ⟨u1, u2, u3⟩
  · rcases f2 with ⟨v1, v2, v3, v4, v5, v6⟩ | ⟨v1, v2, v3⟩
    · have hc := hn_cn (j := a1) u2
      have hB2 : hIB A2 := ⟨⟨(hIB0.1.1.uf w1 H1 (by decide +kernel) bl.2).uf w2 H2 (by decide +kernel) (by rw [w1.1 0 _ _ 1 rfl rfl (by decide +kernel)]; exact bl.2), hIB0.1.2.hold u2 u3 (e2.trans u4) (fun s hs => by rw [v4 s, e1 s hs])⟩, hBk hIB0.2.1 uH H1 w1 w2 (uf_lv hA) (by decide +kernel) (by decide +kernel), hTk hIB0.2.2 w1 w2 (by decide +kernel) (by decide +kernel) (by decide +kernel) (by decide +kernel)⟩
      have sc : ∀ q : Nat, q < 3 → (∀ k, 6 ≤ k → k ≤ 10 → A2.1 (346 + 7 * q) k = A1.1 (346 + 7 * q) k) ∧ ∀ j, 1 ≤ j → j ≤ 6 → ∀ x : Nat, x < 10 → A2.2.1 (346 + 7 * q + j) x = A1.2.1 (346 + 7 * q + j) x := fun q hq => by
        rcases (by omega : q = 0 ∨ q = 1 ∨ q = 2) with rfl | rfl | rfl
        · exact ⟨fun k a b => by rcases (by omega : k = 6 ∨ k = 7 ∨ k = 8 ∨ k = 9 ∨ k = 10) with rfl | rfl | rfl | rfl | rfl; exact w2.1 346 _ _ 6 rfl rfl (by decide +kernel); exact w2.1 346 _ _ 7 rfl rfl (by decide +kernel); exact w2.1 346 _ _ 8 rfl rfl (by decide +kernel); exact w2.1 346 _ _ 9 rfl rfl (by decide +kernel); exact w2.1 346 _ _ 10 rfl rfl (by decide +kernel), fun j a b x hx => by rcases (by omega : j = 1 ∨ j = 2 ∨ j = 3 ∨ j = 4 ∨ j = 5 ∨ j = 6) with rfl | rfl | rfl | rfl | rfl | rfl; exact w2.2.1 347 _ _ x rfl hx (by decide +kernel); exact w2.2.1 348 _ _ x rfl hx (by decide +kernel); exact w2.2.1 349 _ _ x rfl hx (by decide +kernel); exact w2.2.1 350 _ _ x rfl hx (by decide +kernel); exact w2.2.1 351 _ _ x rfl hx (by decide +kernel); exact w2.2.1 352 _ _ x rfl hx (by decide +kernel)⟩
        · exact ⟨fun k a b => by rcases (by omega : k = 6 ∨ k = 7 ∨ k = 8 ∨ k = 9 ∨ k = 10) with rfl | rfl | rfl | rfl | rfl; exact w2.1 353 _ _ 6 rfl rfl (by decide +kernel); exact w2.1 353 _ _ 7 rfl rfl (by decide +kernel); exact w2.1 353 _ _ 8 rfl rfl (by decide +kernel); exact w2.1 353 _ _ 9 rfl rfl (by decide +kernel); exact w2.1 353 _ _ 10 rfl rfl (by decide +kernel), fun j a b x hx => by rcases (by omega : j = 1 ∨ j = 2 ∨ j = 3 ∨ j = 4 ∨ j = 5 ∨ j = 6) with rfl | rfl | rfl | rfl | rfl | rfl; exact w2.2.1 354 _ _ x rfl hx (by decide +kernel); exact w2.2.1 355 _ _ x rfl hx (by decide +kernel); exact w2.2.1 356 _ _ x rfl hx (by decide +kernel); exact w2.2.1 357 _ _ x rfl hx (by decide +kernel); exact w2.2.1 358 _ _ x rfl hx (by decide +kernel); exact w2.2.1 359 _ _ x rfl hx (by decide +kernel)⟩
        · exact ⟨fun k a b => by rcases (by omega : k = 6 ∨ k = 7 ∨ k = 8 ∨ k = 9 ∨ k = 10) with rfl | rfl | rfl | rfl | rfl; exact w2.1 360 _ _ 6 rfl rfl (by decide +kernel); exact w2.1 360 _ _ 7 rfl rfl (by decide +kernel); exact w2.1 360 _ _ 8 rfl rfl (by decide +kernel); exact w2.1 360 _ _ 9 rfl rfl (by decide +kernel); exact w2.1 360 _ _ 10 rfl rfl (by decide +kernel), fun j a b x hx => by rcases (by omega : j = 1 ∨ j = 2 ∨ j = 3 ∨ j = 4 ∨ j = 5 ∨ j = 6) with rfl | rfl | rfl | rfl | rfl | rfl; exact w2.2.1 361 _ _ x rfl hx (by decide +kernel); exact w2.2.1 362 _ _ x rfl hx (by decide +kernel); exact w2.2.1 363 _ _ x rfl hx (by decide +kernel); exact w2.2.1 364 _ _ x rfl hx (by decide +kernel); exact w2.2.1 365 _ _ x rfl hx (by decide +kernel); exact w2.2.1 366 _ _ x rfl hx (by decide +kernel)⟩
      have ss2 : hSl (hHn A) A2 := by
        intro s hs hb
        have ss := sc s hs
        by_cases q : s = a1.toNatClampNeg
        · subst q
          exact hLo.mv hN0 lH.2 (fun k a b => (ss.1 k a b).trans (sv.1 k a b)) (fun j a b x hx => (ss.2 j a b x hx).trans (sv.2.1 j a b x hx)) (fun k hk => (v5 k hk).trans (w1.2.1 395 _ _ k rfl hk (by decide +kernel)))
        · rw [v4 s, if_neg q, e1 s hs] at hb
          have sq := sv.2.2 s hs q
          exact (hS0 s hs hb).mv lH.2 (fun k a b => (ss.1 k a b).trans (sq.1 k a b)) (fun j a b x hx => (ss.2 j a b x hx).trans (sq.2 j a b x hx)) (fun k hk => (v6 s hs q k hk).trans (w1.2.1 409 _ _ _ rfl (by omega) (by decide +kernel)))
      exact ⟨z2, rfl, Int32.toInt_inj.mp (by omega), N + 72, by omega, hJ.mono (hJ.self hA2) (by omega) (by omega), hB2, by rw [eH2]; exact (hN0.uf lH.2 w1 (by decide +kernel) (by decide +kernel)).uf lH.2 w2 (by decide +kernel) (by decide +kernel), by rw [eH2]; exact hPs.uf (hPs.uf hP0 lH.2 w1 (hPk.uf w1 (by decide +kernel)) b1 b2.2 (by decide +kernel) (by decide +kernel)) lH.2 w2 (hPk.uf w2 (by decide +kernel)) (by rw [w1.1 40 _ _ 1 rfl rfl (by decide +kernel)]; exact b1) (by rw [w1.1 40 _ _ 2 rfl rfl (by decide +kernel)]; exact b2.2) (by decide +kernel) (by decide +kernel), by rw [eH2]; exact ss2, D, hC2⟩
    · exact absurd v2 (by omega)
  · rcases f2 with ⟨v1, v2, v3, v4, v5, v6⟩ | ⟨v1, v2, v3⟩
    · exact absurd u2 (by omega)
    · subst v3
      subst u3
      have hB2 := hIB0
      exact ⟨z2, rfl, Int32.toInt_inj.mp (by omega), N + 72, by omega, hJ.mono (hJ.self hA2) (by omega) (by omega), hB2, by rw [eH2]; exact hN0, by rw [eH2]; exact hP0, by rw [eH2]; exact hS0, D, hC2⟩
theorem hpr_restore {N : Int} {A : hs_A} (hA : hJ 0 N (N + 72) A A) (hN : N ≤ 800000) (hI : hIC A) (a1 : Int32) : hxC 26 129 hm_m129 [.ref 1, .int a1] A (fun r A1 => ∃ z : Int32, r = some (.int z) ∧ hxC 26 239 hm_m239 [.ref 368, .int a1] A1 (fun r2 A2 => ∃ z2 : Int32, r2 = some (.int z2) ∧ z = z2 ∧ ∃ N' : Int, N' ≤ N + 144 ∧ hJ 0 N' (N' + 72) A2 A2 ∧ hIC A2)) := by
  have bl := hbok.get (hA.1.1 0 1) rfl
  have b1 := hbok.get (hA.1.1 40 1) rfl
  have b2 := hbok.get (hA.1.1 40 2) rfl
  have lH := hHn.le hA
  obtain ⟨hIB0, hN0, hP0, hS0, D, hC0⟩ := hI
  have uH := hIB0.1.1.2.1
  refine hxC.post (uf_k129 uH a1 (hX129g (d := 24) hA a1)) ?_
  rintro _ A1 ⟨⟨hA1, z1, rfl, f1⟩, w1, H1⟩
  refine ⟨z1, rfl, ?_⟩
  have eH1 : hHn A1 = hHn A := hHn.uf w1 (uf_lv hA) (by decide +kernel) (by decide +kernel)
  have hC1 : hCo D A1 := hC0.uf uH w1 (by decide +kernel) (by decide +kernel) (by decide +kernel)
  refine hxC.post (uf_k239 H1 a1 (hX239g (d := 24) hA1 (by omega) a1)) ?_
  rintro _ A2 ⟨⟨hA2, z2, rfl, f2⟩, w2, H2⟩
  have l1 : (A1.1 367 18).toNatClampNeg < 2 := uf_lv hA1
  have eH2 : hHn A2 = hHn A := (hHn.uf w2 l1 (by decide +kernel) (by decide +kernel)).trans eH1
  have hC2 : hCo D A2 := hC1.uf H1 w2 (by decide +kernel) (by decide +kernel) (by decide +kernel)
  have hB2 : hIB A2 := hIB0.q ((w1.le (by decide +kernel : ug_wle uw129 uwB = true)).trans (w2.le (by decide +kernel : ug_wle uw239 uwB = true))) H2 bl.2 (uf_lv hA)
  have m26 : ∀ k, 6 ≤ k → k ≤ 10 → A2.1 26 k = A1.1 26 k := (fun k a b => by rcases (by omega : k = 6 ∨ k = 7 ∨ k = 8 ∨ k = 9 ∨ k = 10) with rfl | rfl | rfl | rfl | rfl; exact w2.1 26 _ _ 6 rfl rfl (by decide +kernel); exact w2.1 26 _ _ 7 rfl rfl (by decide +kernel); exact w2.1 26 _ _ 8 rfl rfl (by decide +kernel); exact w2.1 26 _ _ 9 rfl rfl (by decide +kernel); exact w2.1 26 _ _ 10 rfl rfl (by decide +kernel))
  have m27 : ∀ j, 1 ≤ j → j ≤ 6 → ∀ x : Nat, x < 10 → A2.2.1 (26 + j) x = A1.2.1 (26 + j) x := (fun j a b x hx => by rcases (by omega : j = 1 ∨ j = 2 ∨ j = 3 ∨ j = 4 ∨ j = 5 ∨ j = 6) with rfl | rfl | rfl | rfl | rfl | rfl; exact w2.2.1 27 _ _ x rfl hx (by decide +kernel); exact w2.2.1 28 _ _ x rfl hx (by decide +kernel); exact w2.2.1 29 _ _ x rfl hx (by decide +kernel); exact w2.2.1 30 _ _ x rfl hx (by decide +kernel); exact w2.2.1 31 _ _ x rfl hx (by decide +kernel); exact w2.2.1 32 _ _ x rfl hx (by decide +kernel))
  have e1 : 0 ≤ a1.toInt ∧ a1.toInt ≤ 2 → A1.2.1 408 a1.toNatClampNeg = A.2.1 408 a1.toNatClampNeg ∧ hBit (A.1 0 10) a1 = (A.2.1 408 a1.toNatClampNeg).toInt := fun q => by
    have hc := hn_cn (j := a1) q.1
    exact ⟨w1.2.1 408 _ _ _ rfl (by omega) (by decide +kernel), hIB0.1.2.bit q.1 q.2⟩
  rcases f1 with ⟨u1, u2, u3, u4, u5⟩ | ⟨u1, u2, u3⟩
  · obtain ⟨x1, x2⟩ := e1 ⟨u2, u3⟩
    have hc := hn_cn (j := a1) u2
    rw [x1] at f2
    rcases f2 with ⟨v1, v2, v3, v4, v5, v6⟩ | ⟨v1, v2, v3⟩
    · have old := hS0 a1.toNatClampNeg (by omega) v4
      have nn : hNw (hHn A) A2 := hLo.mv old lH.2 (fun k a b => (m26 k a b).trans (u5.1 k a b)) (fun j a b x hx => (m27 j a b x hx).trans (u5.2.1 j a b x hx)) (fun k hk => (v5 k hk).trans (w1.2.1 409 _ _ _ rfl (by omega) (by decide +kernel)))
      have pp : hPs (hHn A) A2 := by
        have e402 : A2.1 40 2 = A1.1 40 2 := w2.1 40 _ _ 2 rfl rfl (by decide +kernel)
        have t402 := congrArg Int32.toInt e402
        have u52 := u5.2.2
        exact ⟨Int32.toInt_inj.mp (by omega), fun i hi => False.elim (by omega)⟩
      exact ⟨z2, rfl, Int32.toInt_inj.mp (by omega), N + 72, by omega, hJ.mono (hJ.self hA2) (by omega) (by omega), hB2, by rw [eH2]; exact nn, by rw [eH2]; exact pp, by rw [eH2]; exact (hS0.uf lH.2 w1 (by decide +kernel) (by decide +kernel) (by decide +kernel) (by decide +kernel) (by decide +kernel)).uf lH.2 w2 (by decide +kernel) (by decide +kernel) (by decide +kernel) (by decide +kernel) (by decide +kernel), D, hC2⟩
    · exact absurd v2 (by omega)
  · rcases f2 with ⟨v1, v2, v3, v4, v5, v6⟩ | ⟨v1, v2, v3⟩
    · obtain ⟨x1, x2⟩ := e1 ⟨v2, v3⟩
      rw [x1] at v4
      exact absurd u2 (by omega)
    · subst v3
      subst u3
      exact ⟨z2, rfl, Int32.toInt_inj.mp (by omega), N + 72, by omega, hJ.mono (hJ.self hA2) (by omega) (by omega), hB2, by rw [eH2]; exact hN0, by rw [eH2]; exact hP0, by rw [eH2]; exact hS0, D, hC2⟩
theorem hpr_read {N : Int} {A : hs_A} (hA : hJ 0 N (N + 72) A A) (hN : N ≤ 800000) (hI : hIC A)  : hxC 26 73 hm_m73 [.ref 1] A (fun r A1 => ∃ z : Int32, r = some (.int z) ∧ hxC 26 150 hm_m150 [.ref 368] A1 (fun r2 A2 => ∃ z2 : Int32, r2 = some (.int z2) ∧ z = z2 ∧ ∃ N' : Int, N' ≤ N + 144 ∧ hJ 0 N' (N' + 72) A2 A2 ∧ hIC A2)) := by
  obtain ⟨⟨⟨⟨⟨i1, i2, i3⟩, iH, iP⟩, hHD⟩, hHS, hTD⟩, hX0⟩ := hI
  have hlv := uf_lv hA
  have bl := hbok.get (hA.1.1 0 1) rfl
  obtain ⟨n, hn⟩ : ∃ n : Nat, (A.1 0 1).toInt = (n : Int) := ⟨(A.1 0 1).toInt.toNat, by omega⟩
  have hBr : ∀ i, i < n → -128 ≤ (A.2.1 1 i).toInt ∧ (A.2.1 1 i).toInt ≤ 127 := fun i hi => (i3 i (by omega)).2
  have K : ∀ (A1 : hs_A) (z : Int32), hJ 0 (N + 72) (N + 144) A1 A1 → (A1.1 0 1).toInt = 0 → A1.1 367 2 = A.1 367 2 → hq_res (ht_K (fun i => (A.2.1 1 i).toInt) n) (ht_W (fun i => (A.2.1 1 i).toInt) n) (fun u => (ht_S (fun i => (A.2.1 1 i).toInt) n u : Int)) (ht_E (fun i => (A.2.1 1 i).toInt) n) z.toInt (A1.1 0 2).toInt → hcU A1 → (∀ j, A1.2.1 368 j = A.2.1 368 j) → uf_H A1 → (∀ f : Nat → Int32, (z.toInt = 0 → ∀ s : Nat, s < 3 → (f s).toInt = 0) → (¬ z.toInt = 0 → ∀ s : Nat, s < 3 → f s = A1.2.1 408 s) → hHd (A1.1 0 10) f) → (∀ v : Int32, (z.toInt = 0 → ∃ y, hq_hs (ht_K (fun i => (A.2.1 1 i).toInt) n) (ht_W (fun i => (A.2.1 1 i).toInt) n) (ht_E (fun i => (A.2.1 1 i).toInt) n) v.toInt y) → (¬ z.toInt = 0 → v = A.2.1 376 (A.1 367 18).toNatClampNeg) → ∀ T, A1.2.2.2 0 3 = T + 1 → A1.1 T 4 = v) → (∀ v : Int32, (z.toInt = 0 → v = Int32.ofNat 0) → (¬ z.toInt = 0 → v = A.1 367 59) → A1.1 340 2 = v) → (A1.1 367 18 = A.1 367 18 ∧ (∀ j, j < 2 → A1.2.1 376 j = A.2.1 376 j) ∧ A1.1 367 59 = A.1 367 59) → (z.toInt = 0 → A1.1 40 2 = Int32.ofNat 0 ∧ ∃ T, hTT T ∧ A1.2.2.2 0 3 = T + 1 ∧ hBg T A1 A1 ∧ hdQ (ht_K (fun i => (A.2.1 1 i).toInt) n) (ht_W (fun i => (A.2.1 1 i).toInt) n) (ht_E (fun i => (A.2.1 1 i).toInt) n) T A1) → (¬ z.toInt = 0 → hCk A A1) → uf_W uw73 A A1 → hxC 26 150 hm_m150 [.ref 368] A1 (fun r2 A2 => ∃ z2 : Int32, r2 = some (.int z2) ∧ z = z2 ∧ ∃ N' : Int, N' ≤ N + 144 ∧ hJ 0 N' (N' + 72) A2 A2 ∧ hIC A2) := by
    intro A1 z h1 t1 g1 RS1 hU1 kp H1 hd1 hh1 tl1 fr1 lf1 nf1 w1
    have h1' : hJ 0 (N + 72) (N + 72 + 72) A1 A1 := hJ.mono h1 (by omega) (by omega)
    have lv := h1.2.2.2.1.2.2.2.2
    have g1' := congrArg Int32.toInt g1
    have hT2 : ∀ i, i < n → (A1.2.1 368 i).toInt = (A.2.1 1 i).toInt := fun i hi => by rw [kp i, (i3 i (by omega)).1]
    by_cases q : (A1.1 367 18).toInt = 0
    · refine hxC.post (uf_k150 H1 (hxC.and (g := 0) (hX150r5_1 (d := 18) h1' (by omega) q) (fun g => hP150q (sd := 1) (n := n) (B := fun i => (A.2.1 1 i).toInt) hT2 hBr (by omega) (by omega) (by omega) (by omega) hU1 H1))) ?_
      rintro _ A2 ⟨⟨⟨h2, z2, rfl, f2, g2, em2⟩, A2v, v2, z2v, ez2, RS2, hU2, o2, n2⟩, w2, H2⟩
      have ezz : z2v = z2 := by injection ez2 with e; injection e with e; exact e.symm
      rw [ezz] at RS2 o2 n2
      have hz := hq_res_one RS1 RS2
      have HD : hHd (A2.1 0 10) (A2.2.1 408) := by
        rw [w2.1 0 _ _ 10 rfl rfl (by decide +kernel)]
        refine hd1 _ (fun e s hs => ?_) (fun e s hs => ?_)
        · rw [← v2.a (i := 408) (t := 3) (m := 3) (by rfl) hs]
          exact (o2 (by omega)).2.2.2.2.2.2.2 s (by omega)
        · rw [← v2.a (i := 408) (t := 3) (m := 3) (by rfl) hs]
          exact (n2 (by omega)).1.2.1 408 _ _ s rfl hs (by decide +kernel)
      have hA18 : A2.1 367 18 = A2v.1 367 18 := (v2.f (i := 367) (k := 18) (by rfl) (by rfl)).symm
      have hcl : ∀ l : Nat, (A2v.1 367 18).toInt = (l : Int) → (A2.1 367 18).toNatClampNeg = l := fun l hl => by
        rw [hA18]
        have := hn_cn (j := A2v.1 367 18) (by omega)
        omega
      have hv6 : ∀ j, j < 2 → A2.2.1 376 j = A2v.2.1 376 j := fun j hj => (v2.a (i := 376) (t := 1) (m := 2) (by rfl) hj).symm
      have hc1 := hn_cn (j := A1.1 367 18) (by omega)
      have HS : hHs A2 := by
        intro T hT
        rw [w2.2.2.2 0 _ _ 3 rfl rfl (by decide +kernel)] at hT
        have e4 : A2.1 T 4 = A1.1 T 4 := by
          rcases H1.1 with e | e
          · obtain rfl : T = 2 := by omega
            exact w2.1 2 _ _ 4 rfl rfl (by decide +kernel)
          · obtain rfl : T = 11 := by omega
            exact w2.1 11 _ _ 4 rfl rfl (by decide +kernel)
        rw [e4]
        refine hh1 _ (fun e => ?_) (fun e => ?_) T hT
        · obtain ⟨p1, p2, -⟩ := o2 (by omega)
          rw [hcl 1 p2, hv6 1 (by omega)]
          exact ⟨_, p1⟩
        · obtain ⟨p1, p2⟩ := n2 (by omega)
          have e18 : A2v.1 367 18 = A1.1 367 18 := p1.1 367 _ _ 18 rfl rfl (by decide +kernel)
          rw [hcl 0 (by rw [e18]; omega), hv6 0 (by omega), show A2v.2.1 376 0 = A1.2.1 376 0 from p2 376 0 (Or.inl ⟨Or.inl rfl, rfl⟩), fr1.2.1 0 (by omega), ← fr1.1, show (A1.1 367 18).toNatClampNeg = 0 by omega]
      have TD : A2.1 340 2 = A2.1 367 59 := by
        rw [w2.1 340 _ _ 2 rfl rfl (by decide +kernel), ← v2.f (i := 367) (k := 59) (by rfl) (by rfl)]
        refine tl1 _ (fun e => ?_) (fun e => ?_)
        · exact Int32.toInt_inj.mp ((o2 (by omega)).2.2.2.2.2.2.1.trans hk_0.symm)
        · rw [(n2 (by omega)).1.1 367 _ _ 59 rfl rfl (by decide +kernel), fr1.2.2]
      have LC : hCx A2 := by
        by_cases e : z.toInt = 0
        · obtain ⟨y0, T, hT, y1, y2, y3⟩ := lf1 e
          obtain ⟨p1, p2, p3, p4, p5, p6, p7, p8⟩ := o2 (by omega)
          have e3 : A2.2.2.2 0 3 = T + 1 := (w2.2.2.2 0 _ _ 3 rfl rfl (by decide +kernel)).trans y1
          rw [e] at RS1
          exact hCx.new ht_W_ok hT e3 y0 y2 y3 w2 (by decide +kernel) (by decide +kernel) (by decide +kernel) h2 RS1 p1 (by omega) p2 p3 p4 p5 p6 p8 v2
        · obtain ⟨p1, p2⟩ := n2 (by omega)
          have ee : (A.1 367 18).toNatClampNeg = 0 := by rw [← fr1.1]; omega
          have o : hOT (A.1 367 18).toNatClampNeg A1 A2 := by
            rw [ee]
            intro c j hl
            exact (hOT.vis (by omega) (uf_vis (hs_vis_sy v2)) c j hl).trans (p2 c j hl)
          exact hCx.old hX0 hA (nf1 e) w1 (by decide +kernel) H1 (p1.trans (uf_W.le (uf_vis (hs_vis_sy v2)) (by decide +kernel))) o (em2 (by omega)) h2
      have PL : A2.1 0 2 = A2.1 367 17 := by rw [w2.1 0 _ _ 2 rfl rfl (by decide +kernel), ← v2.f (i := 367) (k := 17) (by rfl) (by rfl)]; exact Int32.toInt_inj.mp hz.2
      exact ⟨z2, rfl, Int32.toInt_inj.mp hz.1, N + 72 + 72, by omega, hJ.mono h2 (by omega) (by omega), ⟨⟨⟨⟨by rw [g2]; omega, v2.U hU2, fun i hi => absurd hi (by rw [g2]; omega)⟩, H2, PL⟩, HD⟩, HS, TD⟩, LC⟩
    · have q : (A1.1 367 18).toInt = 1 := by omega
      refine hxC.post (uf_k150 H1 (hxC.and (g := 0) (hX150r4_1 (d := 18) h1' (by omega) q) (fun g => hP150q (sd := 0) (n := n) (B := fun i => (A.2.1 1 i).toInt) hT2 hBr (by omega) (by omega) (by omega) (by omega) hU1 H1))) ?_
      rintro _ A2 ⟨⟨⟨h2, z2, rfl, f2, g2, em2⟩, A2v, v2, z2v, ez2, RS2, hU2, o2, n2⟩, w2, H2⟩
      have ezz : z2v = z2 := by injection ez2 with e; injection e with e; exact e.symm
      rw [ezz] at RS2 o2 n2
      have hz := hq_res_one RS1 RS2
      have HD : hHd (A2.1 0 10) (A2.2.1 408) := by
        rw [w2.1 0 _ _ 10 rfl rfl (by decide +kernel)]
        refine hd1 _ (fun e s hs => ?_) (fun e s hs => ?_)
        · rw [← v2.a (i := 408) (t := 3) (m := 3) (by rfl) hs]
          exact (o2 (by omega)).2.2.2.2.2.2.2 s (by omega)
        · rw [← v2.a (i := 408) (t := 3) (m := 3) (by rfl) hs]
          exact (n2 (by omega)).1.2.1 408 _ _ s rfl hs (by decide +kernel)
      have hA18 : A2.1 367 18 = A2v.1 367 18 := (v2.f (i := 367) (k := 18) (by rfl) (by rfl)).symm
      have hcl : ∀ l : Nat, (A2v.1 367 18).toInt = (l : Int) → (A2.1 367 18).toNatClampNeg = l := fun l hl => by
        rw [hA18]
        have := hn_cn (j := A2v.1 367 18) (by omega)
        omega
      have hv6 : ∀ j, j < 2 → A2.2.1 376 j = A2v.2.1 376 j := fun j hj => (v2.a (i := 376) (t := 1) (m := 2) (by rfl) hj).symm
      have hc1 := hn_cn (j := A1.1 367 18) (by omega)
      have HS : hHs A2 := by
        intro T hT
        rw [w2.2.2.2 0 _ _ 3 rfl rfl (by decide +kernel)] at hT
        have e4 : A2.1 T 4 = A1.1 T 4 := by
          rcases H1.1 with e | e
          · obtain rfl : T = 2 := by omega
            exact w2.1 2 _ _ 4 rfl rfl (by decide +kernel)
          · obtain rfl : T = 11 := by omega
            exact w2.1 11 _ _ 4 rfl rfl (by decide +kernel)
        rw [e4]
        refine hh1 _ (fun e => ?_) (fun e => ?_) T hT
        · obtain ⟨p1, p2, -⟩ := o2 (by omega)
          rw [hcl 0 p2, hv6 0 (by omega)]
          exact ⟨_, p1⟩
        · obtain ⟨p1, p2⟩ := n2 (by omega)
          have e18 : A2v.1 367 18 = A1.1 367 18 := p1.1 367 _ _ 18 rfl rfl (by decide +kernel)
          rw [hcl 1 (by rw [e18]; omega), hv6 1 (by omega), show A2v.2.1 376 1 = A1.2.1 376 1 from p2 376 1 (Or.inl ⟨Or.inl rfl, rfl⟩), fr1.2.1 1 (by omega), ← fr1.1, show (A1.1 367 18).toNatClampNeg = 1 by omega]
      have TD : A2.1 340 2 = A2.1 367 59 := by
        rw [w2.1 340 _ _ 2 rfl rfl (by decide +kernel), ← v2.f (i := 367) (k := 59) (by rfl) (by rfl)]
        refine tl1 _ (fun e => ?_) (fun e => ?_)
        · exact Int32.toInt_inj.mp ((o2 (by omega)).2.2.2.2.2.2.1.trans hk_0.symm)
        · rw [(n2 (by omega)).1.1 367 _ _ 59 rfl rfl (by decide +kernel), fr1.2.2]
      have LC : hCx A2 := by
        by_cases e : z.toInt = 0
        · obtain ⟨y0, T, hT, y1, y2, y3⟩ := lf1 e
          obtain ⟨p1, p2, p3, p4, p5, p6, p7, p8⟩ := o2 (by omega)
          have e3 : A2.2.2.2 0 3 = T + 1 := (w2.2.2.2 0 _ _ 3 rfl rfl (by decide +kernel)).trans y1
          rw [e] at RS1
          exact hCx.new ht_W_ok hT e3 y0 y2 y3 w2 (by decide +kernel) (by decide +kernel) (by decide +kernel) h2 RS1 p1 (by omega) p2 p3 p4 p5 p6 p8 v2
        · obtain ⟨p1, p2⟩ := n2 (by omega)
          have ee : (A.1 367 18).toNatClampNeg = 1 := by rw [← fr1.1]; omega
          have o : hOT (A.1 367 18).toNatClampNeg A1 A2 := by
            rw [ee]
            intro c j hl
            exact (hOT.vis (by omega) (uf_vis (hs_vis_sy v2)) c j hl).trans (p2 c j hl)
          exact hCx.old hX0 hA (nf1 e) w1 (by decide +kernel) H1 (p1.trans (uf_W.le (uf_vis (hs_vis_sy v2)) (by decide +kernel))) o (em2 (by omega)) h2
      have PL : A2.1 0 2 = A2.1 367 17 := by rw [w2.1 0 _ _ 2 rfl rfl (by decide +kernel), ← v2.f (i := 367) (k := 17) (by rfl) (by rfl)]; exact Int32.toInt_inj.mp hz.2
      exact ⟨z2, rfl, Int32.toInt_inj.mp hz.1, N + 72 + 72, by omega, hJ.mono h2 (by omega) (by omega), ⟨⟨⟨⟨by rw [g2]; omega, v2.U hU2, fun i hi => absurd hi (by rw [g2]; omega)⟩, H2, PL⟩, HD⟩, HS, TD⟩, LC⟩
  rcases hA.2.2.2.1.1 with ⟨h3, h4⟩ | ⟨h3, h4⟩
  · refine hxC.post (uf_k73 iH (hX73q52 (d := 0) hA h3 h4 (B := fun i => (A.2.1 1 i).toInt) (n := n) (fun _ _ => rfl) hn hBr i2 iH)) ?_
    rintro _ A1 ⟨⟨h1, z1, rfl, f1, g1, RS1, hU1, kp, o1, n1⟩, w1, H1⟩
    have hd1 : ∀ f : Nat → Int32, (z1.toInt = 0 → ∀ s : Nat, s < 3 → (f s).toInt = 0) → (¬ z1.toInt = 0 → ∀ s : Nat, s < 3 → f s = A1.2.1 408 s) → hHd (A1.1 0 10) f := fun f p q => by
      by_cases e : z1.toInt = 0
      · exact hHd.nil (o1 e).2.2.2.1 (p e)
      · exact hHD.eq (n1 e).2.2.2.2.1 (fun s hs => (q e s hs).trans (w1.2.1 408 _ _ s rfl hs (by decide +kernel)))
    have hh1 : (∀ v : Int32, (z1.toInt = 0 → ∃ y, hq_hs (ht_K (fun i => (A.2.1 1 i).toInt) n) (ht_W (fun i => (A.2.1 1 i).toInt) n) (ht_E (fun i => (A.2.1 1 i).toInt) n) v.toInt y) → (¬ z1.toInt = 0 → v = A.2.1 376 (A.1 367 18).toNatClampNeg) → ∀ T, A1.2.2.2 0 3 = T + 1 → A1.1 T 4 = v) := fun v p q T hT => by
      by_cases e : z1.toInt = 0
      · obtain ⟨r1, r2, -⟩ := o1 e
        obtain rfl : T = 11 := by omega
        obtain ⟨y, hy⟩ := p e
        exact Int32.toInt_inj.mp (hq_hs_one r2 hy).1
      · obtain ⟨r1, r2, -⟩ := n1 e
        obtain rfl : T = 2 := by omega
        rw [r2, q e]
        exact hHS 2 h3
    have tl1 : (∀ v : Int32, (z1.toInt = 0 → v = Int32.ofNat 0) → (¬ z1.toInt = 0 → v = A.1 367 59) → A1.1 340 2 = v) := fun v p q => by
      by_cases e : z1.toInt = 0
      · rw [p e]; exact (o1 e).2.2.1
      · rw [q e, (n1 e).2.2.2.1]; exact hTD
    have lf1 : (z1.toInt = 0 → A1.1 40 2 = Int32.ofNat 0 ∧ ∃ T, hTT T ∧ A1.2.2.2 0 3 = T + 1 ∧ hBg T A1 A1 ∧ hdQ (ht_K (fun i => (A.2.1 1 i).toInt) n) (ht_W (fun i => (A.2.1 1 i).toInt) n) (ht_E (fun i => (A.2.1 1 i).toInt) n) T A1) := fun e => ⟨(o1 e).2.2.2.2.1, 11, (Or.inr rfl), (o1 e).1, (o1 e).2.2.2.2.2.2, (o1 e).2.2.2.2.2.1⟩
    have nf1 : (¬ z1.toInt = 0 → hCk A A1) := fun e => by
      obtain ⟨y1, -, -, -, -, -, y2, y3⟩ := n1 e
      exact ⟨fun i k hi => y2 i k (Or.inl hi), fun i hi => y3 i (Or.inl hi), fun D T hT c => by
        obtain rfl : T = 2 := by omega
        exact (c 2 h3).eq (fun i k a b => y2 i k (Or.inr ⟨a, b⟩)) (fun i a b => y3 i (Or.inr ⟨a, b⟩))⟩
    have fr1 : (A1.1 367 18 = A.1 367 18 ∧ (∀ j, j < 2 → A1.2.1 376 j = A.2.1 376 j) ∧ A1.1 367 59 = A.1 367 59) := ⟨w1.1 367 _ _ 18 rfl rfl (by decide +kernel), fun j hj => w1.2.1 376 _ _ j rfl hj (by decide +kernel), w1.1 367 _ _ 59 rfl rfl (by decide +kernel)⟩
    exact ⟨z1, rfl, K A1 z1 h1 f1 g1 RS1 hU1 kp H1 hd1 hh1 tl1 fr1 lf1 nf1 w1⟩
  · refine hxC.post (uf_k73 iH (hX73q51 (d := 0) hA h3 h4 (B := fun i => (A.2.1 1 i).toInt) (n := n) (fun _ _ => rfl) hn hBr i2 iH)) ?_
    rintro _ A1 ⟨⟨h1, z1, rfl, f1, g1, RS1, hU1, kp, o1, n1⟩, w1, H1⟩
    have hd1 : ∀ f : Nat → Int32, (z1.toInt = 0 → ∀ s : Nat, s < 3 → (f s).toInt = 0) → (¬ z1.toInt = 0 → ∀ s : Nat, s < 3 → f s = A1.2.1 408 s) → hHd (A1.1 0 10) f := fun f p q => by
      by_cases e : z1.toInt = 0
      · exact hHd.nil (o1 e).2.2.2.1 (p e)
      · exact hHD.eq (n1 e).2.2.2.2.1 (fun s hs => (q e s hs).trans (w1.2.1 408 _ _ s rfl hs (by decide +kernel)))
    have hh1 : (∀ v : Int32, (z1.toInt = 0 → ∃ y, hq_hs (ht_K (fun i => (A.2.1 1 i).toInt) n) (ht_W (fun i => (A.2.1 1 i).toInt) n) (ht_E (fun i => (A.2.1 1 i).toInt) n) v.toInt y) → (¬ z1.toInt = 0 → v = A.2.1 376 (A.1 367 18).toNatClampNeg) → ∀ T, A1.2.2.2 0 3 = T + 1 → A1.1 T 4 = v) := fun v p q T hT => by
      by_cases e : z1.toInt = 0
      · obtain ⟨r1, r2, -⟩ := o1 e
        obtain rfl : T = 2 := by omega
        obtain ⟨y, hy⟩ := p e
        exact Int32.toInt_inj.mp (hq_hs_one r2 hy).1
      · obtain ⟨r1, r2, -⟩ := n1 e
        obtain rfl : T = 11 := by omega
        rw [r2, q e]
        exact hHS 11 h3
    have tl1 : (∀ v : Int32, (z1.toInt = 0 → v = Int32.ofNat 0) → (¬ z1.toInt = 0 → v = A.1 367 59) → A1.1 340 2 = v) := fun v p q => by
      by_cases e : z1.toInt = 0
      · rw [p e]; exact (o1 e).2.2.1
      · rw [q e, (n1 e).2.2.2.1]; exact hTD
    have lf1 : (z1.toInt = 0 → A1.1 40 2 = Int32.ofNat 0 ∧ ∃ T, hTT T ∧ A1.2.2.2 0 3 = T + 1 ∧ hBg T A1 A1 ∧ hdQ (ht_K (fun i => (A.2.1 1 i).toInt) n) (ht_W (fun i => (A.2.1 1 i).toInt) n) (ht_E (fun i => (A.2.1 1 i).toInt) n) T A1) := fun e => ⟨(o1 e).2.2.2.2.1, 2, (Or.inl rfl), (o1 e).1, (o1 e).2.2.2.2.2.2, (o1 e).2.2.2.2.2.1⟩
    have nf1 : (¬ z1.toInt = 0 → hCk A A1) := fun e => by
      obtain ⟨y1, -, -, -, -, -, y2, y3⟩ := n1 e
      exact ⟨fun i k hi => y2 i k (Or.inl hi), fun i hi => y3 i (Or.inl hi), fun D T hT c => by
        obtain rfl : T = 11 := by omega
        exact (c 11 h3).eq (fun i k a b => y2 i k (Or.inr ⟨a, b⟩)) (fun i a b => y3 i (Or.inr ⟨a, b⟩))⟩
    have fr1 : (A1.1 367 18 = A.1 367 18 ∧ (∀ j, j < 2 → A1.2.1 376 j = A.2.1 376 j) ∧ A1.1 367 59 = A.1 367 59) := ⟨w1.1 367 _ _ 18 rfl rfl (by decide +kernel), fun j hj => w1.2.1 376 _ _ j rfl hj (by decide +kernel), w1.1 367 _ _ 59 rfl rfl (by decide +kernel)⟩
    exact ⟨z1, rfl, K A1 z1 h1 f1 g1 RS1 hU1 kp H1 hd1 hh1 tl1 fr1 lf1 nf1 w1⟩
