theorem hY150q4 {d : Nat} {N : Int} {A : hs_A} (hA : hJ 0 N (N + 72) A A) (hN : N ≤ 900000) (hl : (A.1 367 18).toInt = 1) (h2 : (A.1 367 2).toInt = 0) (x1 : Value)  {P : Option Value → hs_A → Prop} (hP : ∀ (r : Option Value) (A' : hs_A), (hJ 0 (N + 72) (N + 144) A' A' ∧ ∃ z : Int32, r = some (.int z) ∧ ((A'.1 367 2).toInt = 0 ∧ A'.1 0 1 = A.1 0 1)) → P r A') : hxa (d + 7) (some (.int)) hm_t150 41 [.ref 368, x1] [] A P := by
  have k0 := hk_0
  have hA4 := hJ.start4 (Q := 4) (by omega) hA
  have L112 : ∀ (m112 : Nat) (w112_0 : Int32) (w112_1 : Int32) (w112_2 : Int32) (w112_3 : Int32) (w112_4 : Int32) (w112_5 : Int32) (w112_6 : Int32) (x112_1 : Value) (Ac112 : hs_A) (hAc112 : hJ 4 N (N + 72) A Ac112) (ek112_0 : Ac112.1 367 11 = w112_0) (ek112_1 : Ac112.1 367 12 = w112_1) (ek112_2 : Ac112.1 367 13 = w112_2) (ek112_3 : Ac112.1 367 19 = w112_3) (ek112_4 : Ac112.1 367 20 = w112_4) (ek112_5 : Ac112.1 367 31 = w112_5) (ek112_6 : Ac112.1 367 37 = w112_6) (bw112_0 : 0 ≤ w112_0.toInt) (cw112_0 : w112_0.toInt ≤ 400) (bw112_1 : 0 ≤ w112_1.toInt) (cw112_1 : w112_1.toInt ≤ 7) (bw112_2 : 0 ≤ w112_2.toInt) (cw112_2 : w112_2.toInt ≤ 2) (bw112_3 : 0 ≤ w112_3.toInt) (cw112_3 : w112_3.toInt ≤ 0) (bw112_4 : 0 ≤ w112_4.toInt) (cw112_4 : w112_4.toInt ≤ 10) (bw112_5 : 0 ≤ w112_5.toInt) (cw112_5 : w112_5.toInt ≤ 260) (bw112_6 : 0 ≤ w112_6.toInt) (cw112_6 : w112_6.toInt ≤ 840) (u112_0 : hVr 0 Ac112) (u112_1 : (Ac112.1 367 20).toInt = (Ac112.2.1 376 0).toInt) (u112_2 : ¬ (Ac112.1 367 13).toInt = 0 ∨ (4 * ((Ac112.1 367 31).toInt - 0) ≤ (Ac112.1 367 11).toInt ∧ (Ac112.1 367 37).toInt ≤ 0 + (Ac112.1 367 11).toInt ∧ (Ac112.1 367 12).toInt ≤ 6)) (u112_3 : 0 ≤ (Ac112.1 367 31).toInt ∧ (Ac112.1 367 31).toInt ≤ 103 ∧ 0 ≤ (Ac112.1 367 37).toInt ∧ (Ac112.1 367 37).toInt ≤ 402) (hm112 : 806 - 2 * w112_0.toInt - 2 * w112_2.toInt < (m112 : Int)), hxa (d + 7) (some (.int)) hm_t150 112 [.ref 368, x112_1] [] Ac112 P := by
    intro m112
    induction m112 with
    | zero => intro w112_0 w112_1 w112_2 w112_3 w112_4 w112_5 w112_6 x112_1 Ac112 hAc112 ek112_0 ek112_1 ek112_2 ek112_3 ek112_4 ek112_5 ek112_6 bw112_0 cw112_0 bw112_1 cw112_1 bw112_2 cw112_2 bw112_3 cw112_3 bw112_4 cw112_4 bw112_5 cw112_5 bw112_6 cw112_6 u112_0 u112_1 u112_2 u112_3 hm112;  exact False.elim (by omega)
    | succ m112 ih112 =>
      intro w112_0 w112_1 w112_2 w112_3 w112_4 w112_5 w112_6 x112_1 Ac112 hAc112 ek112_0 ek112_1 ek112_2 ek112_3 ek112_4 ek112_5 ek112_6 bw112_0 cw112_0 bw112_1 cw112_1 bw112_2 cw112_2 bw112_3 cw112_3 bw112_4 cw112_4 bw112_5 cw112_5 bw112_6 cw112_6 u112_0 u112_1 u112_2 u112_3 hm112
      have tk112_0 : (Ac112.1 367 11).toInt = w112_0.toInt := congrArg Int32.toInt ek112_0
      have tk112_1 : (Ac112.1 367 12).toInt = w112_1.toInt := congrArg Int32.toInt ek112_1
      have tk112_2 : (Ac112.1 367 13).toInt = w112_2.toInt := congrArg Int32.toInt ek112_2
      have tk112_3 : (Ac112.1 367 19).toInt = w112_3.toInt := congrArg Int32.toInt ek112_3
      have tk112_4 : (Ac112.1 367 20).toInt = w112_4.toInt := congrArg Int32.toInt ek112_4
      have tk112_5 : (Ac112.1 367 31).toInt = w112_5.toInt := congrArg Int32.toInt ek112_5
      have tk112_6 : (Ac112.1 367 37).toInt = w112_6.toInt := congrArg Int32.toInt ek112_6
      refine hxa_aload_n (by rfl) rfl ?_
      refine hxj_getK (by rfl) (by rfl) (by rfl) ek112_2 ?_
      refine hxj_zne (by rfl) rfl (fun q1 => ?_) (fun q1 => ?_)
      ·
        refine hxa_aload_n (by rfl) rfl ?_
        refine hxa_aload_n (by rfl) rfl ?_
        refine hxj_getK (by rfl) (by rfl) (by rfl) ek112_2 ?_
        refine hxj_zle (by rfl) rfl (fun q2 => False.elim (by omega)) (fun q2 => ?_)
        refine hxa_aload_n (by rfl) rfl ?_
        refine hxj_getI (by rfl) (by rfl) (by rfl) (fun z3 ez3 => ?_)
        refine hxa_goto (by rfl) ?_
        refine hxj_putI (by rfl) (by rfl) (by rfl) (by rfl) hAc112 (hbokN (by rfl)) (by rfl) (by rfl) (fun A4 hA4 eA4 fA4 => ?_)
        refine hxa_aload_n (by rfl) rfl ?_
        refine hxj_getK (by rfl) (by rfl) (by rfl) (hkF eA4 (by first | decide | omega) ek112_2) ?_
        refine hxj_zle (by rfl) rfl (fun q5 => False.elim (by omega)) (fun q5 => ?_)
        refine hxa_aload_n (by rfl) rfl ?_
        refine hxj_getK (by rfl) (by rfl) (by rfl) (hkF eA4 (by first | decide | omega) ek112_2) ?_
        exact hxa_ireturn (by rfl) rfl (hP _ _ ⟨(hJ.mono (hJ.end4 (by omega) hA4) (by omega) (by omega)), _, rfl, ⟨by rw [hA4.2.2.1.1 367 2 (by rfl)]; exact h2, (hA4.cls4 (by omega)).2.2.2.2.2⟩⟩)
      ·
        refine hxa_aload_n (by rfl) rfl ?_
        refine hxa_iconst (by rfl) rfl ?_
        have nAc112_11 : (Ac112.1 367 11).toInt = w112_0.toInt := congrArg Int32.toInt ek112_0
        have nAc112_12 : (Ac112.1 367 12).toInt = w112_1.toInt := congrArg Int32.toInt ek112_1
        have nAc112_13 : (Ac112.1 367 13).toInt = w112_2.toInt := congrArg Int32.toInt ek112_2
        have nAc112_37 : (Ac112.1 367 37).toInt = w112_6.toInt := congrArg Int32.toInt ek112_6
        refine hxa_call0 (by rfl) (by rfl) (by rfl) (by rfl) (by rfl) (by rfl) (hX144q4 (d := d + 6) hAc112 (Int32.ofNat 0)) ?_
        rintro _ _ ⟨rfl, z6, rfl, fz6⟩
        rcases fz6 with fz6 | fz6
        ·
          refine hxj_zne (by rfl) rfl (fun q7 => ?_) (fun q7 => False.elim (by omega))
          refine hxa_aload_n (by rfl) rfl ?_
          refine hxa_aload_n (by rfl) rfl ?_
          refine hxj_getK (by rfl) (by rfl) (by rfl) ek112_2 ?_
          refine hxj_zle (by rfl) rfl (fun q8 => ?_) (fun q8 => False.elim (by omega))
          refine hxa_aload_n (by rfl) rfl ?_
          refine hxj_getI (by rfl) (by rfl) (by rfl) (fun z9 ez9 => ?_)
          refine hxj_zle (by rfl) rfl (fun q10 => ?_) (fun q10 => ?_)
          ·
            refine hxa_iconst (by rfl) rfl ?_
            refine hxj_putI (by rfl) (by rfl) (by rfl) (by rfl) hAc112 (hbokN (by rfl)) (by rfl) (by rfl) (fun A11 hA11 eA11 fA11 => ?_)
            refine hxa_aload_n (by rfl) rfl ?_
            refine hxj_getK (by rfl) (by rfl) (by rfl) (hkF eA11 (by first | decide | omega) ek112_2) ?_
            refine hxj_zle (by rfl) rfl (fun q12 => ?_) (fun q12 => False.elim (by omega))
            refine hxa_aload_n (by rfl) rfl ?_
            refine hxj_getK (by rfl) (by rfl) (by rfl) (hkF eA11 (by first | decide | omega) ez9) ?_
            refine hxj_zle (by rfl) rfl (fun q13 => ?_) (fun q13 => False.elim (by omega))
            refine hxa_aload_n (by rfl) rfl ?_
            refine hxa_aload_n (by rfl) rfl ?_
            refine hxj_getK (by rfl) (by rfl) (by rfl) (hkF eA11 (by first | decide | omega) ek112_3) ?_
            have nA11_11 : (A11.1 367 11).toInt = w112_0.toInt := congrArg Int32.toInt (hkF eA11 (by first | decide | omega) ek112_0)
            have nA11_12 : (A11.1 367 12).toInt = w112_1.toInt := congrArg Int32.toInt (hkF eA11 (by first | decide | omega) ek112_1)
            have nA11_13 : (A11.1 367 13).toInt = w112_2.toInt := congrArg Int32.toInt (hkF eA11 (by first | decide | omega) ek112_2)
            have nA11_19 : (A11.1 367 19).toInt = w112_3.toInt := congrArg Int32.toInt (hkF eA11 (by first | decide | omega) ek112_3)
            have nA11_20 : (A11.1 367 20).toInt = w112_4.toInt := congrArg Int32.toInt (hkF eA11 (by first | decide | omega) ek112_4)
            have nA11_31 : (A11.1 367 31).toInt = w112_5.toInt := congrArg Int32.toInt (hkF eA11 (by first | decide | omega) ek112_5)
            have nA11_37 : (A11.1 367 37).toInt = w112_6.toInt := congrArg Int32.toInt (hkF eA11 (by first | decide | omega) ek112_6)
            have hx9 : w112_3.toInt = 0 := by omega
            have vr9 : hVr 0 A11 := hVr.cg u112_0 (Eq.trans (hkF eA11 (by first | decide | omega) ek112_5) ek112_5.symm) (Eq.trans (hkF eA11 (by first | decide | omega) ek112_6) ek112_6.symm) (fun c q1 q2 => by rw [(show A11.2.1 = Ac112.2.1 from congrArg Prod.fst fA11)])
            have c01 := (hA11.cls4 (by omega)).2.2.2.2.2
            have c02 : A11.1 367 2 = A.1 367 2 := hA11.2.2.1.1 367 2 (by rfl)
            refine hxj_putLive (s := 0) (by rfl) (by omega) hA11 hx9 (by omega) vr9 (by omega) (by omega) (fun A14 hA14 eA14 fA14 => ?_)
            have d01 : A14.1 0 1 = A.1 0 1 := by rw [eA14, hup2 (by omega)]; exact c01
            have d02 : A14.1 367 2 = A.1 367 2 := by rw [eA14, hup2 (by omega)]; exact c02
            refine hxa_aload_n (by rfl) rfl ?_
            refine hxa_call0 (by rfl) (by rfl) (by rfl) (by rfl) (by rfl) (by rfl) (hX169 (d := d + 6) hA14 ) ?_
            rintro _ A15 ⟨hA15, rfl⟩
            refine hxa_aload_n (by rfl) rfl ?_
            refine hxa_call0 (by rfl) (by rfl) (by rfl) (by rfl) (by rfl) (by rfl) (hX170 (d := d + 6) hA15 (by omega)) ?_
            rintro _ A16 ⟨hA16, rfl⟩
            refine hxa_aload_n (by rfl) rfl ?_
            refine hxa_iconst (by rfl) rfl ?_
            refine hxj_putI (by rfl) (by rfl) (by rfl) (by rfl) hA16 (hbok (by rfl) hk_0 (by omega) (by omega)) (by rfl) (by rfl) (fun A17 hA17 eA17 fA17 => ?_)
            refine hxa_aload_n (by rfl) rfl ?_
            refine hxa_iconst (by rfl) rfl ?_
            refine hxj_putI (by rfl) (by rfl) (by rfl) (by rfl) hA17 (hbok (by rfl) hk_0 (by omega) (by omega)) (by rfl) (by rfl) (fun A18 hA18 eA18 fA18 => ?_)
            refine hxa_iconst (by rfl) rfl ?_
            refine hxa_s1 (by rfl) (Or.inl ⟨_, rfl, rfl⟩) rfl ?_
            refine hxa_iload_n (by rfl) rfl ?_
            refine hxa_iconst (by rfl) rfl ?_
            refine hxj_cge (by rfl) hk_0 hk_3 (fun q19 => False.elim (by omega)) (fun q19 => ?_)
            refine hxa_aload_n (by rfl) rfl ?_
            refine hxa_get (v := .ref 409) (by rfl) (by rfl) (by rfl) rfl ?_
            refine hxa_iload_n (by rfl) rfl ?_
            refine hxa_iconst (by rfl) rfl ?_
            refine hxj_zast (by rfl) (by rfl) hk_0 (by omega) (by omega) hk_0 (by omega) (by omega) hA18 (hbokN (by rfl)) (by rfl) (by rfl) (fun A20 hA20 eA20 fA20 gA20 => ?_)
            refine hxj_iinc (by rfl) rfl hk_0 hk_1 (by omega) (by omega) (fun _ => rfl) (fun z21 ez21 => ?_)
            refine hxa_goto (by rfl) ?_
            refine hxa_iload_n (by rfl) rfl ?_
            refine hxa_iconst (by rfl) rfl ?_
            refine hxj_cge (by rfl) rfl hk_3 (fun q22 => False.elim (by omega)) (fun q22 => ?_)
            refine hxa_aload_n (by rfl) rfl ?_
            refine hxa_get (v := .ref 409) (by rfl) (by rfl) (by rfl) rfl ?_
            refine hxa_iload_n (by rfl) rfl ?_
            refine hxa_iconst (by rfl) rfl ?_
            refine hxj_zast (by rfl) (by rfl) rfl (by omega) (by omega) hk_0 (by omega) (by omega) hA20 (hbokN (by rfl)) (by rfl) (by rfl) (fun A23 hA23 eA23 fA23 gA23 => ?_)
            refine hxj_iinc (by rfl) rfl rfl hk_1 (by omega) (by omega) (fun _ => rfl) (fun z24 ez24 => ?_)
            refine hxa_goto (by rfl) ?_
            refine hxa_iload_n (by rfl) rfl ?_
            refine hxa_iconst (by rfl) rfl ?_
            refine hxj_cge (by rfl) rfl hk_3 (fun q25 => False.elim (by omega)) (fun q25 => ?_)
            refine hxa_aload_n (by rfl) rfl ?_
            refine hxa_get (v := .ref 409) (by rfl) (by rfl) (by rfl) rfl ?_
            refine hxa_iload_n (by rfl) rfl ?_
            refine hxa_iconst (by rfl) rfl ?_
            refine hxj_zast (by rfl) (by rfl) rfl (by omega) (by omega) hk_0 (by omega) (by omega) hA23 (hbokN (by rfl)) (by rfl) (by rfl) (fun A26 hA26 eA26 fA26 gA26 => ?_)
            refine hxj_iinc (by rfl) rfl rfl hk_1 (by omega) (by omega) (fun _ => rfl) (fun z27 ez27 => ?_)
            refine hxa_goto (by rfl) ?_
            refine hxa_iload_n (by rfl) rfl ?_
            refine hxa_iconst (by rfl) rfl ?_
            refine hxj_cge (by rfl) rfl hk_3 (fun q28 => ?_) (fun q28 => False.elim (by omega))
            refine hxa_iconst (by rfl) rfl ?_
            exact hxa_ireturn (by rfl) rfl (hP _ _ ⟨(hJ.mono (hJ.self hA26) (by omega) (by omega)), _, rfl, ⟨by rw [hA26.2.2.1.1 367 2 (by rfl), d02]; exact h2, (hA26.2.2.1.1 0 1 (by rfl)).trans d01⟩⟩)
          ·
            refine hxa_aload_n (by rfl) rfl ?_
            refine hxj_getI (by rfl) (by rfl) (by rfl) (fun z29 ez29 => ?_)
            refine hxa_goto (by rfl) ?_
            refine hxj_putI (by rfl) (by rfl) (by rfl) (by rfl) hAc112 (hbokN (by rfl)) (by rfl) (by rfl) (fun A30 hA30 eA30 fA30 => ?_)
            refine hxa_aload_n (by rfl) rfl ?_
            refine hxj_getK (by rfl) (by rfl) (by rfl) (hkF eA30 (by first | decide | omega) ek112_2) ?_
            refine hxj_zle (by rfl) rfl (fun q31 => ?_) (fun q31 => False.elim (by omega))
            refine hxa_aload_n (by rfl) rfl ?_
            refine hxj_getK (by rfl) (by rfl) (by rfl) (hkF eA30 (by first | decide | omega) ez9) ?_
            refine hxj_zle (by rfl) rfl (fun q32 => False.elim (by omega)) (fun q32 => ?_)
            refine hxa_aload_n (by rfl) rfl ?_
            refine hxj_getK (by rfl) (by rfl) (by rfl) (hkF eA30 (by first | decide | omega) ez9) ?_
            exact hxa_ireturn (by rfl) rfl (hP _ _ ⟨(hJ.mono (hJ.end4 (by omega) hA30) (by omega) (by omega)), _, rfl, ⟨by rw [hA30.2.2.1.1 367 2 (by rfl)]; exact h2, (hA30.cls4 (by omega)).2.2.2.2.2⟩⟩)
        ·
          refine hxj_zne (by rfl) rfl (fun q33 => False.elim (by omega)) (fun q33 => ?_)
          refine hxa_aload_n (by rfl) rfl ?_
          refine hxa_call0 (by rfl) (by rfl) (by rfl) (by rfl) (by rfl) (by rfl) (hX154q4 (d := d + 0) hAc112 u112_0 u112_1 (by omega) (by omega) (by omega) (by omega) (by omega) (by rw [(show Ac112.1 367 19 = w112_3 from ek112_3)]; omega) (by rw [(show Ac112.1 367 19 = w112_3 from ek112_3)]; omega)) ?_
          rintro _ A34 ⟨hA34, frA34_0, rfl, fA34⟩
          have ttA34_19 : (A34.1 367 19).toInt = w112_3.toInt := congrArg Int32.toInt (frA34_0.trans ek112_3)
          have fbA34_367_11 := hA34.f (i := 367) (k := 11) (by rfl)
          have fbA34_367_12 := hA34.f (i := 367) (k := 12) (by rfl)
          have fbA34_367_13 := hA34.f (i := 367) (k := 13) (by rfl)
          have fbA34_367_20 := hA34.f (i := 367) (k := 20) (by rfl)
          have fbA34_367_31 := hA34.f (i := 367) (k := 31) (by rfl)
          have fbA34_367_37 := hA34.f (i := 367) (k := 37) (by rfl)
          refine hxa_goto (by rfl) ?_
          have nA34_19 : (A34.1 367 19).toInt = w112_3.toInt := congrArg Int32.toInt (frA34_0.trans ek112_3)
          have fx := fA34.2
          exact ih112 (A34.1 367 11) (A34.1 367 12) (A34.1 367 13) w112_3 (A34.1 367 20) (A34.1 367 31) (A34.1 367 37) (x112_1) A34 hA34 rfl rfl rfl (frA34_0.trans ek112_3) rfl rfl rfl (by omega) (by omega) (by omega) (by omega) (by omega) (by omega) (by omega) (by omega) (by omega) (by omega) (by omega) (by omega) (by omega) (by omega) (by exact fA34.2.2.2.2.2.2.1) (by exact fA34.2.2.2.2.2.2.2) (by omega) (by omega) (by omega)
  refine hxa_aload_n (by rfl) rfl ?_
  refine hxa_call0 (by rfl) (by rfl) (by rfl) (by rfl) (by rfl) (by rfl) (hX142q4 (d := d + 4) hA4 ) ?_
  rintro _ A35 ⟨hA35, rfl⟩
  refine hxa_aload_n (by rfl) rfl ?_
  refine hxa_iconst (by rfl) rfl ?_
  refine hxj_putI (by rfl) (by rfl) (by rfl) (by rfl) hA35 (hbok (by rfl) hk_0 (by omega) (by omega)) (by rfl) (by rfl) (fun A36 hA36 eA36 fA36 => ?_)
  refine hxa_aload_n (by rfl) rfl ?_
  refine hxa_iconst (by rfl) rfl ?_
  refine hxj_putI (by rfl) (by rfl) (by rfl) (by rfl) hA36 (hbok (by rfl) hk_0 (by omega) (by omega)) (by rfl) (by rfl) (fun A37 hA37 eA37 fA37 => ?_)
  refine hxa_aload_n (by rfl) rfl ?_
  refine hxa_iconst (by rfl) rfl ?_
  refine hxj_putI (by rfl) (by rfl) (by rfl) (by rfl) hA37 (hbok (by rfl) hk_0 (by omega) (by omega)) (by rfl) (by rfl) (fun A38 hA38 eA38 fA38 => ?_)
  refine hxa_aload_n (by rfl) rfl ?_
  refine hxa_iconst (by rfl) rfl ?_
  refine hxj_putI (by rfl) (by rfl) (by rfl) (by rfl) hA38 (hbokN (by rfl)) (by rfl) (by rfl) (fun A39 hA39 eA39 fA39 => ?_)
  refine hxa_aload_n (by rfl) rfl ?_
  refine hxa_iconst (by rfl) rfl ?_
  refine hxa_aload_n (by rfl) rfl ?_
  refine hxj_getB (by rfl) (by rfl) (by rfl) hA39 (by rfl) (fun z40 ez40 fz40 gz40 => ?_)
  have hz18 : z40.toInt = 1 := by rw [← hfrf hA39 (by rfl) (show A39.1 367 18 = z40 from ez40)]; exact hl
  refine hxj_isub (by rfl) hk_1 rfl (by omega) (by omega) (fun z41 ez41 => ?_)
  refine hxj_putI (by rfl) (by rfl) (by rfl) (by rfl) hA39 (hbok (by rfl) rfl (by omega) (by omega)) (by rfl) (by rfl) (fun A42 hA42 eA42 fA42 => ?_)
  refine hxa_aload_n (by rfl) rfl ?_
  refine hxa_iconst (by rfl) rfl ?_
  refine hxj_putI (by rfl) (by rfl) (by rfl) (by rfl) hA42 (hbok (by rfl) hk_0 (by omega) (by omega)) (by rfl) (by rfl) (fun A43 hA43 eA43 fA43 => ?_)
  refine hxa_aload_n (by rfl) rfl ?_
  refine hxa_aload_n (by rfl) rfl ?_
  refine hxj_getK (by rfl) (by rfl) (by rfl) (hkF eA43 (by first | decide | omega) (hkS eA42)) ?_
  have nA43_11 : (A43.1 367 11).toInt = 0 := congrArg Int32.toInt (hkF eA43 (by first | decide | omega) (hkF eA42 (by first | decide | omega) (hkF eA39 (by first | decide | omega) (hkF eA38 (by first | decide | omega) (hkF eA37 (by first | decide | omega) (hkS eA36))))))
  have nA43_12 : (A43.1 367 12).toInt = 0 := congrArg Int32.toInt (hkF eA43 (by first | decide | omega) (hkF eA42 (by first | decide | omega) (hkF eA39 (by first | decide | omega) (hkF eA38 (by first | decide | omega) (hkS eA37)))))
  have nA43_13 : (A43.1 367 13).toInt = 0 := congrArg Int32.toInt (hkF eA43 (by first | decide | omega) (hkF eA42 (by first | decide | omega) (hkF eA39 (by first | decide | omega) (hkS eA38))))
  refine hxa_call0 (by rfl) (by rfl) (by rfl) (by rfl) (by rfl) (by rfl) (hX149q4 (d := d + 6) hA43 (by omega) z41 (by omega) (by omega)) ?_
  rintro _ A44 ⟨hA44, frA44_0, frA44_1, frA44_2, frA44_3, frA44_4, frA44_5, frA44_6, frA44_7, rfl, fA44⟩
  have ttA44_11 : (A44.1 367 11).toInt = 0 := congrArg Int32.toInt (frA44_0.trans (hkF eA43 (by first | decide | omega) (hkF eA42 (by first | decide | omega) (hkF eA39 (by first | decide | omega) (hkF eA38 (by first | decide | omega) (hkF eA37 (by first | decide | omega) (hkS eA36)))))))
  have ttA44_12 : (A44.1 367 12).toInt = 0 := congrArg Int32.toInt (frA44_1.trans (hkF eA43 (by first | decide | omega) (hkF eA42 (by first | decide | omega) (hkF eA39 (by first | decide | omega) (hkF eA38 (by first | decide | omega) (hkS eA37))))))
  have ttA44_13 : (A44.1 367 13).toInt = 0 := congrArg Int32.toInt (frA44_2.trans (hkF eA43 (by first | decide | omega) (hkF eA42 (by first | decide | omega) (hkF eA39 (by first | decide | omega) (hkS eA38)))))
  have ttA44_19 : (A44.1 367 19).toInt = z41.toInt := congrArg Int32.toInt (frA44_3.trans (hkF eA43 (by first | decide | omega) (hkS eA42)))
  have ttA44_20 : (A44.1 367 20).toInt = 0 := congrArg Int32.toInt (frA44_4.trans (hkS eA43))
  refine hxa_aload_n (by rfl) rfl ?_
  refine hxa_sipush (by rfl) rfl ?_
  refine hxa_aload_n (by rfl) rfl ?_
  refine hxj_getK (by rfl) (by rfl) (by rfl) (frA44_3.trans (hkF eA43 (by first | decide | omega) (hkS eA42))) ?_
  refine hxj_imul (by rfl) hk_130 rfl (by omega) (by omega) (fun z45 ez45 => ?_)
  refine hxj_putI (by rfl) (by rfl) (by rfl) (by rfl) hA44 (hbok (by rfl) rfl (by omega) (by omega)) (by rfl) (by rfl) (fun A46 hA46 eA46 fA46 => ?_)
  refine hxa_aload_n (by rfl) rfl ?_
  refine hxa_sipush (by rfl) rfl ?_
  refine hxa_aload_n (by rfl) rfl ?_
  refine hxj_getK (by rfl) (by rfl) (by rfl) (hkF eA46 (by first | decide | omega) (frA44_3.trans (hkF eA43 (by first | decide | omega) (hkS eA42)))) ?_
  refine hxj_imul (by rfl) hk_420 rfl (by omega) (by omega) (fun z47 ez47 => ?_)
  refine hxj_putI (by rfl) (by rfl) (by rfl) (by rfl) hA46 (hbok (by rfl) rfl (by omega) (by omega)) (by rfl) (by rfl) (fun A48 hA48 eA48 fA48 => ?_)
  have nA48_11 : (A48.1 367 11).toInt = 0 := congrArg Int32.toInt (hkF eA48 (by first | decide | omega) (hkF eA46 (by first | decide | omega) (frA44_0.trans (hkF eA43 (by first | decide | omega) (hkF eA42 (by first | decide | omega) (hkF eA39 (by first | decide | omega) (hkF eA38 (by first | decide | omega) (hkF eA37 (by first | decide | omega) (hkS eA36)))))))))
  have nA48_12 : (A48.1 367 12).toInt = 0 := congrArg Int32.toInt (hkF eA48 (by first | decide | omega) (hkF eA46 (by first | decide | omega) (frA44_1.trans (hkF eA43 (by first | decide | omega) (hkF eA42 (by first | decide | omega) (hkF eA39 (by first | decide | omega) (hkF eA38 (by first | decide | omega) (hkS eA37))))))))
  have nA48_13 : (A48.1 367 13).toInt = 0 := congrArg Int32.toInt (hkF eA48 (by first | decide | omega) (hkF eA46 (by first | decide | omega) (frA44_2.trans (hkF eA43 (by first | decide | omega) (hkF eA42 (by first | decide | omega) (hkF eA39 (by first | decide | omega) (hkS eA38)))))))
  have nA48_19 : (A48.1 367 19).toInt = z41.toInt := congrArg Int32.toInt (hkF eA48 (by first | decide | omega) (hkF eA46 (by first | decide | omega) (frA44_3.trans (hkF eA43 (by first | decide | omega) (hkS eA42)))))
  have nA48_20 : (A48.1 367 20).toInt = 0 := congrArg Int32.toInt (hkF eA48 (by first | decide | omega) (hkF eA46 (by first | decide | omega) (frA44_4.trans (hkS eA43))))
  have nA48_31 : (A48.1 367 31).toInt = z45.toInt := congrArg Int32.toInt (hkF eA48 (by first | decide | omega) (hkS eA46))
  have nA48_37 : (A48.1 367 37).toInt = z47.toInt := congrArg Int32.toInt (hkS eA48)
  have apl : A48.2.1 = A44.2.1 := by rw [(show A48.2.1 = A46.2.1 from congrArg Prod.fst fA48), (show A46.2.1 = A44.2.1 from congrArg Prod.fst fA46)]
  have vr0 : hVr 0 A48 := fun a h1 h2 => Or.inl (by rw [apl]; exact fA44.2 a (by omega) (by omega))
  have hn0 : (A48.1 367 20).toInt = (A48.2.1 376 0).toInt := by rw [apl, fA44.1]; omega
  exact L112 (Int.toNat (806 - 2 * 0 - 2 * 0) + 1) (Int32.ofNat 0) (Int32.ofNat 0) (Int32.ofNat 0) z41 (Int32.ofNat 0) z45 z47 (x1) A48 hA48 (hkF eA48 (by first | decide | omega) (hkF eA46 (by first | decide | omega) (frA44_0.trans (hkF eA43 (by first | decide | omega) (hkF eA42 (by first | decide | omega) (hkF eA39 (by first | decide | omega) (hkF eA38 (by first | decide | omega) (hkF eA37 (by first | decide | omega) (hkS eA36))))))))) (hkF eA48 (by first | decide | omega) (hkF eA46 (by first | decide | omega) (frA44_1.trans (hkF eA43 (by first | decide | omega) (hkF eA42 (by first | decide | omega) (hkF eA39 (by first | decide | omega) (hkF eA38 (by first | decide | omega) (hkS eA37)))))))) (hkF eA48 (by first | decide | omega) (hkF eA46 (by first | decide | omega) (frA44_2.trans (hkF eA43 (by first | decide | omega) (hkF eA42 (by first | decide | omega) (hkF eA39 (by first | decide | omega) (hkS eA38))))))) (hkF eA48 (by first | decide | omega) (hkF eA46 (by first | decide | omega) (frA44_3.trans (hkF eA43 (by first | decide | omega) (hkS eA42))))) (hkF eA48 (by first | decide | omega) (hkF eA46 (by first | decide | omega) (frA44_4.trans (hkS eA43)))) (hkF eA48 (by first | decide | omega) (hkS eA46)) (hkS eA48) (by omega) (by omega) (by omega) (by omega) (by omega) (by omega) (by omega) (by omega) (by omega) (by omega) (by omega) (by omega) (by omega) (by omega) (by exact vr0) (by exact hn0) (by omega) (by omega) (by omega)
theorem hY150q5 {d : Nat} {N : Int} {A : hs_A} (hA : hJ 0 N (N + 72) A A) (hN : N ≤ 900000) (hl : (A.1 367 18).toInt = 0) (h2 : (A.1 367 2).toInt = 0) (x1 : Value)  {P : Option Value → hs_A → Prop} (hP : ∀ (r : Option Value) (A' : hs_A), (hJ 0 (N + 72) (N + 144) A' A' ∧ ∃ z : Int32, r = some (.int z) ∧ ((A'.1 367 2).toInt = 0 ∧ A'.1 0 1 = A.1 0 1)) → P r A') : hxa (d + 7) (some (.int)) hm_t150 41 [.ref 368, x1] [] A P := by
  have k0 := hk_0
  have hA4 := hJ.start4 (Q := 5) (by omega) hA
  have L112 : ∀ (m112 : Nat) (w112_0 : Int32) (w112_1 : Int32) (w112_2 : Int32) (w112_3 : Int32) (w112_4 : Int32) (w112_5 : Int32) (w112_6 : Int32) (x112_1 : Value) (Ac112 : hs_A) (hAc112 : hJ 5 N (N + 72) A Ac112) (ek112_0 : Ac112.1 367 11 = w112_0) (ek112_1 : Ac112.1 367 12 = w112_1) (ek112_2 : Ac112.1 367 13 = w112_2) (ek112_3 : Ac112.1 367 19 = w112_3) (ek112_4 : Ac112.1 367 20 = w112_4) (ek112_5 : Ac112.1 367 31 = w112_5) (ek112_6 : Ac112.1 367 37 = w112_6) (bw112_0 : 0 ≤ w112_0.toInt) (cw112_0 : w112_0.toInt ≤ 400) (bw112_1 : 0 ≤ w112_1.toInt) (cw112_1 : w112_1.toInt ≤ 7) (bw112_2 : 0 ≤ w112_2.toInt) (cw112_2 : w112_2.toInt ≤ 2) (bw112_3 : 1 ≤ w112_3.toInt) (cw112_3 : w112_3.toInt ≤ 1) (bw112_4 : 0 ≤ w112_4.toInt) (cw112_4 : w112_4.toInt ≤ 10) (bw112_5 : 0 ≤ w112_5.toInt) (cw112_5 : w112_5.toInt ≤ 260) (bw112_6 : 0 ≤ w112_6.toInt) (cw112_6 : w112_6.toInt ≤ 840) (u112_0 : hVr 1 Ac112) (u112_1 : (Ac112.1 367 20).toInt = (Ac112.2.1 376 1).toInt) (u112_2 : ¬ (Ac112.1 367 13).toInt = 0 ∨ (4 * ((Ac112.1 367 31).toInt - 130) ≤ (Ac112.1 367 11).toInt ∧ (Ac112.1 367 37).toInt ≤ 420 + (Ac112.1 367 11).toInt ∧ (Ac112.1 367 12).toInt ≤ 6)) (u112_3 : 130 ≤ (Ac112.1 367 31).toInt ∧ (Ac112.1 367 31).toInt ≤ 233 ∧ 420 ≤ (Ac112.1 367 37).toInt ∧ (Ac112.1 367 37).toInt ≤ 822) (hm112 : 806 - 2 * w112_0.toInt - 2 * w112_2.toInt < (m112 : Int)), hxa (d + 7) (some (.int)) hm_t150 112 [.ref 368, x112_1] [] Ac112 P := by
    intro m112
    induction m112 with
    | zero => intro w112_0 w112_1 w112_2 w112_3 w112_4 w112_5 w112_6 x112_1 Ac112 hAc112 ek112_0 ek112_1 ek112_2 ek112_3 ek112_4 ek112_5 ek112_6 bw112_0 cw112_0 bw112_1 cw112_1 bw112_2 cw112_2 bw112_3 cw112_3 bw112_4 cw112_4 bw112_5 cw112_5 bw112_6 cw112_6 u112_0 u112_1 u112_2 u112_3 hm112;  exact False.elim (by omega)
    | succ m112 ih112 =>
      intro w112_0 w112_1 w112_2 w112_3 w112_4 w112_5 w112_6 x112_1 Ac112 hAc112 ek112_0 ek112_1 ek112_2 ek112_3 ek112_4 ek112_5 ek112_6 bw112_0 cw112_0 bw112_1 cw112_1 bw112_2 cw112_2 bw112_3 cw112_3 bw112_4 cw112_4 bw112_5 cw112_5 bw112_6 cw112_6 u112_0 u112_1 u112_2 u112_3 hm112
      have tk112_0 : (Ac112.1 367 11).toInt = w112_0.toInt := congrArg Int32.toInt ek112_0
      have tk112_1 : (Ac112.1 367 12).toInt = w112_1.toInt := congrArg Int32.toInt ek112_1
      have tk112_2 : (Ac112.1 367 13).toInt = w112_2.toInt := congrArg Int32.toInt ek112_2
      have tk112_3 : (Ac112.1 367 19).toInt = w112_3.toInt := congrArg Int32.toInt ek112_3
      have tk112_4 : (Ac112.1 367 20).toInt = w112_4.toInt := congrArg Int32.toInt ek112_4
      have tk112_5 : (Ac112.1 367 31).toInt = w112_5.toInt := congrArg Int32.toInt ek112_5
      have tk112_6 : (Ac112.1 367 37).toInt = w112_6.toInt := congrArg Int32.toInt ek112_6
      refine hxa_aload_n (by rfl) rfl ?_
      refine hxj_getK (by rfl) (by rfl) (by rfl) ek112_2 ?_
      refine hxj_zne (by rfl) rfl (fun q1 => ?_) (fun q1 => ?_)
      ·
        refine hxa_aload_n (by rfl) rfl ?_
        refine hxa_aload_n (by rfl) rfl ?_
        refine hxj_getK (by rfl) (by rfl) (by rfl) ek112_2 ?_
        refine hxj_zle (by rfl) rfl (fun q2 => False.elim (by omega)) (fun q2 => ?_)
        refine hxa_aload_n (by rfl) rfl ?_
        refine hxj_getI (by rfl) (by rfl) (by rfl) (fun z3 ez3 => ?_)
        refine hxa_goto (by rfl) ?_
        refine hxj_putI (by rfl) (by rfl) (by rfl) (by rfl) hAc112 (hbokN (by rfl)) (by rfl) (by rfl) (fun A4 hA4 eA4 fA4 => ?_)
        refine hxa_aload_n (by rfl) rfl ?_
        refine hxj_getK (by rfl) (by rfl) (by rfl) (hkF eA4 (by first | decide | omega) ek112_2) ?_
        refine hxj_zle (by rfl) rfl (fun q5 => False.elim (by omega)) (fun q5 => ?_)
        refine hxa_aload_n (by rfl) rfl ?_
        refine hxj_getK (by rfl) (by rfl) (by rfl) (hkF eA4 (by first | decide | omega) ek112_2) ?_
        exact hxa_ireturn (by rfl) rfl (hP _ _ ⟨(hJ.mono (hJ.end4 (by omega) hA4) (by omega) (by omega)), _, rfl, ⟨by rw [hA4.2.2.1.1 367 2 (by rfl)]; exact h2, (hA4.cls4 (by omega)).2.2.2.2.2⟩⟩)
      ·
        refine hxa_aload_n (by rfl) rfl ?_
        refine hxa_iconst (by rfl) rfl ?_
        have nAc112_11 : (Ac112.1 367 11).toInt = w112_0.toInt := congrArg Int32.toInt ek112_0
        have nAc112_12 : (Ac112.1 367 12).toInt = w112_1.toInt := congrArg Int32.toInt ek112_1
        have nAc112_13 : (Ac112.1 367 13).toInt = w112_2.toInt := congrArg Int32.toInt ek112_2
        have nAc112_37 : (Ac112.1 367 37).toInt = w112_6.toInt := congrArg Int32.toInt ek112_6
        refine hxa_call0 (by rfl) (by rfl) (by rfl) (by rfl) (by rfl) (by rfl) (hX144q5 (d := d + 6) hAc112 (Int32.ofNat 0)) ?_
        rintro _ _ ⟨rfl, z6, rfl, fz6⟩
        rcases fz6 with fz6 | fz6
        ·
          refine hxj_zne (by rfl) rfl (fun q7 => ?_) (fun q7 => False.elim (by omega))
          refine hxa_aload_n (by rfl) rfl ?_
          refine hxa_aload_n (by rfl) rfl ?_
          refine hxj_getK (by rfl) (by rfl) (by rfl) ek112_2 ?_
          refine hxj_zle (by rfl) rfl (fun q8 => ?_) (fun q8 => False.elim (by omega))
          refine hxa_aload_n (by rfl) rfl ?_
          refine hxj_getI (by rfl) (by rfl) (by rfl) (fun z9 ez9 => ?_)
          refine hxj_zle (by rfl) rfl (fun q10 => ?_) (fun q10 => ?_)
          ·
            refine hxa_iconst (by rfl) rfl ?_
            refine hxj_putI (by rfl) (by rfl) (by rfl) (by rfl) hAc112 (hbokN (by rfl)) (by rfl) (by rfl) (fun A11 hA11 eA11 fA11 => ?_)
            refine hxa_aload_n (by rfl) rfl ?_
            refine hxj_getK (by rfl) (by rfl) (by rfl) (hkF eA11 (by first | decide | omega) ek112_2) ?_
            refine hxj_zle (by rfl) rfl (fun q12 => ?_) (fun q12 => False.elim (by omega))
            refine hxa_aload_n (by rfl) rfl ?_
            refine hxj_getK (by rfl) (by rfl) (by rfl) (hkF eA11 (by first | decide | omega) ez9) ?_
            refine hxj_zle (by rfl) rfl (fun q13 => ?_) (fun q13 => False.elim (by omega))
            refine hxa_aload_n (by rfl) rfl ?_
            refine hxa_aload_n (by rfl) rfl ?_
            refine hxj_getK (by rfl) (by rfl) (by rfl) (hkF eA11 (by first | decide | omega) ek112_3) ?_
            have nA11_11 : (A11.1 367 11).toInt = w112_0.toInt := congrArg Int32.toInt (hkF eA11 (by first | decide | omega) ek112_0)
            have nA11_12 : (A11.1 367 12).toInt = w112_1.toInt := congrArg Int32.toInt (hkF eA11 (by first | decide | omega) ek112_1)
            have nA11_13 : (A11.1 367 13).toInt = w112_2.toInt := congrArg Int32.toInt (hkF eA11 (by first | decide | omega) ek112_2)
            have nA11_19 : (A11.1 367 19).toInt = w112_3.toInt := congrArg Int32.toInt (hkF eA11 (by first | decide | omega) ek112_3)
            have nA11_20 : (A11.1 367 20).toInt = w112_4.toInt := congrArg Int32.toInt (hkF eA11 (by first | decide | omega) ek112_4)
            have nA11_31 : (A11.1 367 31).toInt = w112_5.toInt := congrArg Int32.toInt (hkF eA11 (by first | decide | omega) ek112_5)
            have nA11_37 : (A11.1 367 37).toInt = w112_6.toInt := congrArg Int32.toInt (hkF eA11 (by first | decide | omega) ek112_6)
            have hx9 : w112_3.toInt = 1 := by omega
            have vr9 : hVr 1 A11 := hVr.cg u112_0 (Eq.trans (hkF eA11 (by first | decide | omega) ek112_5) ek112_5.symm) (Eq.trans (hkF eA11 (by first | decide | omega) ek112_6) ek112_6.symm) (fun c q1 q2 => by rw [(show A11.2.1 = Ac112.2.1 from congrArg Prod.fst fA11)])
            have c01 := (hA11.cls4 (by omega)).2.2.2.2.2
            have c02 : A11.1 367 2 = A.1 367 2 := hA11.2.2.1.1 367 2 (by rfl)
            refine hxj_putLive (s := 1) (by rfl) (by omega) hA11 hx9 (by omega) vr9 (by omega) (by omega) (fun A14 hA14 eA14 fA14 => ?_)
            have d01 : A14.1 0 1 = A.1 0 1 := by rw [eA14, hup2 (by omega)]; exact c01
            have d02 : A14.1 367 2 = A.1 367 2 := by rw [eA14, hup2 (by omega)]; exact c02
            refine hxa_aload_n (by rfl) rfl ?_
            refine hxa_call0 (by rfl) (by rfl) (by rfl) (by rfl) (by rfl) (by rfl) (hX169 (d := d + 6) hA14 ) ?_
            rintro _ A15 ⟨hA15, rfl⟩
            refine hxa_aload_n (by rfl) rfl ?_
            refine hxa_call0 (by rfl) (by rfl) (by rfl) (by rfl) (by rfl) (by rfl) (hX170 (d := d + 6) hA15 (by omega)) ?_
            rintro _ A16 ⟨hA16, rfl⟩
            refine hxa_aload_n (by rfl) rfl ?_
            refine hxa_iconst (by rfl) rfl ?_
            refine hxj_putI (by rfl) (by rfl) (by rfl) (by rfl) hA16 (hbok (by rfl) hk_0 (by omega) (by omega)) (by rfl) (by rfl) (fun A17 hA17 eA17 fA17 => ?_)
            refine hxa_aload_n (by rfl) rfl ?_
            refine hxa_iconst (by rfl) rfl ?_
            refine hxj_putI (by rfl) (by rfl) (by rfl) (by rfl) hA17 (hbok (by rfl) hk_0 (by omega) (by omega)) (by rfl) (by rfl) (fun A18 hA18 eA18 fA18 => ?_)
            refine hxa_iconst (by rfl) rfl ?_
            refine hxa_s1 (by rfl) (Or.inl ⟨_, rfl, rfl⟩) rfl ?_
            refine hxa_iload_n (by rfl) rfl ?_
            refine hxa_iconst (by rfl) rfl ?_
            refine hxj_cge (by rfl) hk_0 hk_3 (fun q19 => False.elim (by omega)) (fun q19 => ?_)
            refine hxa_aload_n (by rfl) rfl ?_
            refine hxa_get (v := .ref 409) (by rfl) (by rfl) (by rfl) rfl ?_
            refine hxa_iload_n (by rfl) rfl ?_
            refine hxa_iconst (by rfl) rfl ?_
            refine hxj_zast (by rfl) (by rfl) hk_0 (by omega) (by omega) hk_0 (by omega) (by omega) hA18 (hbokN (by rfl)) (by rfl) (by rfl) (fun A20 hA20 eA20 fA20 gA20 => ?_)
            refine hxj_iinc (by rfl) rfl hk_0 hk_1 (by omega) (by omega) (fun _ => rfl) (fun z21 ez21 => ?_)
            refine hxa_goto (by rfl) ?_
            refine hxa_iload_n (by rfl) rfl ?_
            refine hxa_iconst (by rfl) rfl ?_
            refine hxj_cge (by rfl) rfl hk_3 (fun q22 => False.elim (by omega)) (fun q22 => ?_)
            refine hxa_aload_n (by rfl) rfl ?_
            refine hxa_get (v := .ref 409) (by rfl) (by rfl) (by rfl) rfl ?_
            refine hxa_iload_n (by rfl) rfl ?_
            refine hxa_iconst (by rfl) rfl ?_
            refine hxj_zast (by rfl) (by rfl) rfl (by omega) (by omega) hk_0 (by omega) (by omega) hA20 (hbokN (by rfl)) (by rfl) (by rfl) (fun A23 hA23 eA23 fA23 gA23 => ?_)
            refine hxj_iinc (by rfl) rfl rfl hk_1 (by omega) (by omega) (fun _ => rfl) (fun z24 ez24 => ?_)
            refine hxa_goto (by rfl) ?_
            refine hxa_iload_n (by rfl) rfl ?_
            refine hxa_iconst (by rfl) rfl ?_
            refine hxj_cge (by rfl) rfl hk_3 (fun q25 => False.elim (by omega)) (fun q25 => ?_)
            refine hxa_aload_n (by rfl) rfl ?_
            refine hxa_get (v := .ref 409) (by rfl) (by rfl) (by rfl) rfl ?_
            refine hxa_iload_n (by rfl) rfl ?_
            refine hxa_iconst (by rfl) rfl ?_
            refine hxj_zast (by rfl) (by rfl) rfl (by omega) (by omega) hk_0 (by omega) (by omega) hA23 (hbokN (by rfl)) (by rfl) (by rfl) (fun A26 hA26 eA26 fA26 gA26 => ?_)
            refine hxj_iinc (by rfl) rfl rfl hk_1 (by omega) (by omega) (fun _ => rfl) (fun z27 ez27 => ?_)
            refine hxa_goto (by rfl) ?_
            refine hxa_iload_n (by rfl) rfl ?_
            refine hxa_iconst (by rfl) rfl ?_
            refine hxj_cge (by rfl) rfl hk_3 (fun q28 => ?_) (fun q28 => False.elim (by omega))
            refine hxa_iconst (by rfl) rfl ?_
            exact hxa_ireturn (by rfl) rfl (hP _ _ ⟨(hJ.mono (hJ.self hA26) (by omega) (by omega)), _, rfl, ⟨by rw [hA26.2.2.1.1 367 2 (by rfl), d02]; exact h2, (hA26.2.2.1.1 0 1 (by rfl)).trans d01⟩⟩)
          ·
            refine hxa_aload_n (by rfl) rfl ?_
            refine hxj_getI (by rfl) (by rfl) (by rfl) (fun z29 ez29 => ?_)
            refine hxa_goto (by rfl) ?_
            refine hxj_putI (by rfl) (by rfl) (by rfl) (by rfl) hAc112 (hbokN (by rfl)) (by rfl) (by rfl) (fun A30 hA30 eA30 fA30 => ?_)
            refine hxa_aload_n (by rfl) rfl ?_
            refine hxj_getK (by rfl) (by rfl) (by rfl) (hkF eA30 (by first | decide | omega) ek112_2) ?_
            refine hxj_zle (by rfl) rfl (fun q31 => ?_) (fun q31 => False.elim (by omega))
            refine hxa_aload_n (by rfl) rfl ?_
            refine hxj_getK (by rfl) (by rfl) (by rfl) (hkF eA30 (by first | decide | omega) ez9) ?_
            refine hxj_zle (by rfl) rfl (fun q32 => False.elim (by omega)) (fun q32 => ?_)
            refine hxa_aload_n (by rfl) rfl ?_
            refine hxj_getK (by rfl) (by rfl) (by rfl) (hkF eA30 (by first | decide | omega) ez9) ?_
            exact hxa_ireturn (by rfl) rfl (hP _ _ ⟨(hJ.mono (hJ.end4 (by omega) hA30) (by omega) (by omega)), _, rfl, ⟨by rw [hA30.2.2.1.1 367 2 (by rfl)]; exact h2, (hA30.cls4 (by omega)).2.2.2.2.2⟩⟩)
        ·
          refine hxj_zne (by rfl) rfl (fun q33 => False.elim (by omega)) (fun q33 => ?_)
          refine hxa_aload_n (by rfl) rfl ?_
          refine hxa_call0 (by rfl) (by rfl) (by rfl) (by rfl) (by rfl) (by rfl) (hX154q5 (d := d + 0) hAc112 u112_0 u112_1 (by omega) (by omega) (by omega) (by omega) (by omega) (by rw [(show Ac112.1 367 19 = w112_3 from ek112_3)]; omega) (by rw [(show Ac112.1 367 19 = w112_3 from ek112_3)]; omega)) ?_
          rintro _ A34 ⟨hA34, frA34_0, rfl, fA34⟩
          have ttA34_19 : (A34.1 367 19).toInt = w112_3.toInt := congrArg Int32.toInt (frA34_0.trans ek112_3)
          have fbA34_367_11 := hA34.f (i := 367) (k := 11) (by rfl)
          have fbA34_367_12 := hA34.f (i := 367) (k := 12) (by rfl)
          have fbA34_367_13 := hA34.f (i := 367) (k := 13) (by rfl)
          have fbA34_367_20 := hA34.f (i := 367) (k := 20) (by rfl)
          have fbA34_367_31 := hA34.f (i := 367) (k := 31) (by rfl)
          have fbA34_367_37 := hA34.f (i := 367) (k := 37) (by rfl)
          refine hxa_goto (by rfl) ?_
          have nA34_19 : (A34.1 367 19).toInt = w112_3.toInt := congrArg Int32.toInt (frA34_0.trans ek112_3)
          have fx := fA34.2
          exact ih112 (A34.1 367 11) (A34.1 367 12) (A34.1 367 13) w112_3 (A34.1 367 20) (A34.1 367 31) (A34.1 367 37) (x112_1) A34 hA34 rfl rfl rfl (frA34_0.trans ek112_3) rfl rfl rfl (by omega) (by omega) (by omega) (by omega) (by omega) (by omega) (by omega) (by omega) (by omega) (by omega) (by omega) (by omega) (by omega) (by omega) (by exact fA34.2.2.2.2.2.2.1) (by exact fA34.2.2.2.2.2.2.2) (by omega) (by omega) (by omega)
  refine hxa_aload_n (by rfl) rfl ?_
  refine hxa_call0 (by rfl) (by rfl) (by rfl) (by rfl) (by rfl) (by rfl) (hX142q5 (d := d + 4) hA4 ) ?_
  rintro _ A35 ⟨hA35, rfl⟩
  refine hxa_aload_n (by rfl) rfl ?_
  refine hxa_iconst (by rfl) rfl ?_
  refine hxj_putI (by rfl) (by rfl) (by rfl) (by rfl) hA35 (hbok (by rfl) hk_0 (by omega) (by omega)) (by rfl) (by rfl) (fun A36 hA36 eA36 fA36 => ?_)
  refine hxa_aload_n (by rfl) rfl ?_
  refine hxa_iconst (by rfl) rfl ?_
  refine hxj_putI (by rfl) (by rfl) (by rfl) (by rfl) hA36 (hbok (by rfl) hk_0 (by omega) (by omega)) (by rfl) (by rfl) (fun A37 hA37 eA37 fA37 => ?_)
  refine hxa_aload_n (by rfl) rfl ?_
  refine hxa_iconst (by rfl) rfl ?_
  refine hxj_putI (by rfl) (by rfl) (by rfl) (by rfl) hA37 (hbok (by rfl) hk_0 (by omega) (by omega)) (by rfl) (by rfl) (fun A38 hA38 eA38 fA38 => ?_)
  refine hxa_aload_n (by rfl) rfl ?_
  refine hxa_iconst (by rfl) rfl ?_
  refine hxj_putI (by rfl) (by rfl) (by rfl) (by rfl) hA38 (hbokN (by rfl)) (by rfl) (by rfl) (fun A39 hA39 eA39 fA39 => ?_)
  refine hxa_aload_n (by rfl) rfl ?_
  refine hxa_iconst (by rfl) rfl ?_
  refine hxa_aload_n (by rfl) rfl ?_
  refine hxj_getB (by rfl) (by rfl) (by rfl) hA39 (by rfl) (fun z40 ez40 fz40 gz40 => ?_)
  have hz18 : z40.toInt = 0 := by rw [← hfrf hA39 (by rfl) (show A39.1 367 18 = z40 from ez40)]; exact hl
  refine hxj_isub (by rfl) hk_1 rfl (by omega) (by omega) (fun z41 ez41 => ?_)
  refine hxj_putI (by rfl) (by rfl) (by rfl) (by rfl) hA39 (hbok (by rfl) rfl (by omega) (by omega)) (by rfl) (by rfl) (fun A42 hA42 eA42 fA42 => ?_)
  refine hxa_aload_n (by rfl) rfl ?_
  refine hxa_iconst (by rfl) rfl ?_
  refine hxj_putI (by rfl) (by rfl) (by rfl) (by rfl) hA42 (hbok (by rfl) hk_0 (by omega) (by omega)) (by rfl) (by rfl) (fun A43 hA43 eA43 fA43 => ?_)
  refine hxa_aload_n (by rfl) rfl ?_
  refine hxa_aload_n (by rfl) rfl ?_
  refine hxj_getK (by rfl) (by rfl) (by rfl) (hkF eA43 (by first | decide | omega) (hkS eA42)) ?_
  have nA43_11 : (A43.1 367 11).toInt = 0 := congrArg Int32.toInt (hkF eA43 (by first | decide | omega) (hkF eA42 (by first | decide | omega) (hkF eA39 (by first | decide | omega) (hkF eA38 (by first | decide | omega) (hkF eA37 (by first | decide | omega) (hkS eA36))))))
  have nA43_12 : (A43.1 367 12).toInt = 0 := congrArg Int32.toInt (hkF eA43 (by first | decide | omega) (hkF eA42 (by first | decide | omega) (hkF eA39 (by first | decide | omega) (hkF eA38 (by first | decide | omega) (hkS eA37)))))
  have nA43_13 : (A43.1 367 13).toInt = 0 := congrArg Int32.toInt (hkF eA43 (by first | decide | omega) (hkF eA42 (by first | decide | omega) (hkF eA39 (by first | decide | omega) (hkS eA38))))
  refine hxa_call0 (by rfl) (by rfl) (by rfl) (by rfl) (by rfl) (by rfl) (hX149q5 (d := d + 6) hA43 (by omega) z41 (by omega) (by omega)) ?_
  rintro _ A44 ⟨hA44, frA44_0, frA44_1, frA44_2, frA44_3, frA44_4, frA44_5, frA44_6, frA44_7, rfl, fA44⟩
  have ttA44_11 : (A44.1 367 11).toInt = 0 := congrArg Int32.toInt (frA44_0.trans (hkF eA43 (by first | decide | omega) (hkF eA42 (by first | decide | omega) (hkF eA39 (by first | decide | omega) (hkF eA38 (by first | decide | omega) (hkF eA37 (by first | decide | omega) (hkS eA36)))))))
  have ttA44_12 : (A44.1 367 12).toInt = 0 := congrArg Int32.toInt (frA44_1.trans (hkF eA43 (by first | decide | omega) (hkF eA42 (by first | decide | omega) (hkF eA39 (by first | decide | omega) (hkF eA38 (by first | decide | omega) (hkS eA37))))))
  have ttA44_13 : (A44.1 367 13).toInt = 0 := congrArg Int32.toInt (frA44_2.trans (hkF eA43 (by first | decide | omega) (hkF eA42 (by first | decide | omega) (hkF eA39 (by first | decide | omega) (hkS eA38)))))
  have ttA44_19 : (A44.1 367 19).toInt = z41.toInt := congrArg Int32.toInt (frA44_3.trans (hkF eA43 (by first | decide | omega) (hkS eA42)))
  have ttA44_20 : (A44.1 367 20).toInt = 0 := congrArg Int32.toInt (frA44_4.trans (hkS eA43))
  refine hxa_aload_n (by rfl) rfl ?_
  refine hxa_sipush (by rfl) rfl ?_
  refine hxa_aload_n (by rfl) rfl ?_
  refine hxj_getK (by rfl) (by rfl) (by rfl) (frA44_3.trans (hkF eA43 (by first | decide | omega) (hkS eA42))) ?_
  refine hxj_imul (by rfl) hk_130 rfl (by omega) (by omega) (fun z45 ez45 => ?_)
  refine hxj_putI (by rfl) (by rfl) (by rfl) (by rfl) hA44 (hbok (by rfl) rfl (by omega) (by omega)) (by rfl) (by rfl) (fun A46 hA46 eA46 fA46 => ?_)
  refine hxa_aload_n (by rfl) rfl ?_
  refine hxa_sipush (by rfl) rfl ?_
  refine hxa_aload_n (by rfl) rfl ?_
  refine hxj_getK (by rfl) (by rfl) (by rfl) (hkF eA46 (by first | decide | omega) (frA44_3.trans (hkF eA43 (by first | decide | omega) (hkS eA42)))) ?_
  refine hxj_imul (by rfl) hk_420 rfl (by omega) (by omega) (fun z47 ez47 => ?_)
  refine hxj_putI (by rfl) (by rfl) (by rfl) (by rfl) hA46 (hbok (by rfl) rfl (by omega) (by omega)) (by rfl) (by rfl) (fun A48 hA48 eA48 fA48 => ?_)
  have nA48_11 : (A48.1 367 11).toInt = 0 := congrArg Int32.toInt (hkF eA48 (by first | decide | omega) (hkF eA46 (by first | decide | omega) (frA44_0.trans (hkF eA43 (by first | decide | omega) (hkF eA42 (by first | decide | omega) (hkF eA39 (by first | decide | omega) (hkF eA38 (by first | decide | omega) (hkF eA37 (by first | decide | omega) (hkS eA36)))))))))
  have nA48_12 : (A48.1 367 12).toInt = 0 := congrArg Int32.toInt (hkF eA48 (by first | decide | omega) (hkF eA46 (by first | decide | omega) (frA44_1.trans (hkF eA43 (by first | decide | omega) (hkF eA42 (by first | decide | omega) (hkF eA39 (by first | decide | omega) (hkF eA38 (by first | decide | omega) (hkS eA37))))))))
  have nA48_13 : (A48.1 367 13).toInt = 0 := congrArg Int32.toInt (hkF eA48 (by first | decide | omega) (hkF eA46 (by first | decide | omega) (frA44_2.trans (hkF eA43 (by first | decide | omega) (hkF eA42 (by first | decide | omega) (hkF eA39 (by first | decide | omega) (hkS eA38)))))))
  have nA48_19 : (A48.1 367 19).toInt = z41.toInt := congrArg Int32.toInt (hkF eA48 (by first | decide | omega) (hkF eA46 (by first | decide | omega) (frA44_3.trans (hkF eA43 (by first | decide | omega) (hkS eA42)))))
  have nA48_20 : (A48.1 367 20).toInt = 0 := congrArg Int32.toInt (hkF eA48 (by first | decide | omega) (hkF eA46 (by first | decide | omega) (frA44_4.trans (hkS eA43))))
  have nA48_31 : (A48.1 367 31).toInt = z45.toInt := congrArg Int32.toInt (hkF eA48 (by first | decide | omega) (hkS eA46))
  have nA48_37 : (A48.1 367 37).toInt = z47.toInt := congrArg Int32.toInt (hkS eA48)
  have apl : A48.2.1 = A44.2.1 := by rw [(show A48.2.1 = A46.2.1 from congrArg Prod.fst fA48), (show A46.2.1 = A44.2.1 from congrArg Prod.fst fA46)]
  have vr0 : hVr 1 A48 := fun a h1 h2 => Or.inl (by rw [apl]; exact fA44.2 a (by omega) (by omega))
  have hn0 : (A48.1 367 20).toInt = (A48.2.1 376 1).toInt := by rw [apl, fA44.1]; omega
  exact L112 (Int.toNat (806 - 2 * 0 - 2 * 0) + 1) (Int32.ofNat 0) (Int32.ofNat 0) (Int32.ofNat 0) z41 (Int32.ofNat 0) z45 z47 (x1) A48 hA48 (hkF eA48 (by first | decide | omega) (hkF eA46 (by first | decide | omega) (frA44_0.trans (hkF eA43 (by first | decide | omega) (hkF eA42 (by first | decide | omega) (hkF eA39 (by first | decide | omega) (hkF eA38 (by first | decide | omega) (hkF eA37 (by first | decide | omega) (hkS eA36))))))))) (hkF eA48 (by first | decide | omega) (hkF eA46 (by first | decide | omega) (frA44_1.trans (hkF eA43 (by first | decide | omega) (hkF eA42 (by first | decide | omega) (hkF eA39 (by first | decide | omega) (hkF eA38 (by first | decide | omega) (hkS eA37)))))))) (hkF eA48 (by first | decide | omega) (hkF eA46 (by first | decide | omega) (frA44_2.trans (hkF eA43 (by first | decide | omega) (hkF eA42 (by first | decide | omega) (hkF eA39 (by first | decide | omega) (hkS eA38))))))) (hkF eA48 (by first | decide | omega) (hkF eA46 (by first | decide | omega) (frA44_3.trans (hkF eA43 (by first | decide | omega) (hkS eA42))))) (hkF eA48 (by first | decide | omega) (hkF eA46 (by first | decide | omega) (frA44_4.trans (hkS eA43)))) (hkF eA48 (by first | decide | omega) (hkS eA46)) (hkS eA48) (by omega) (by omega) (by omega) (by omega) (by omega) (by omega) (by omega) (by omega) (by omega) (by omega) (by omega) (by omega) (by omega) (by omega) (by exact vr0) (by exact hn0) (by omega) (by omega) (by omega)
