theorem hW49 {g d f : Nat} {A : hs_A} {K V S : Nat → Int} {E : Nat → Nat → Bool} {T : Nat} {t : Nat} {a b c : Nat} {ns : List Nat} {nm sn : Nat} {o : Option (Nat × Nat)} {zz : Nat} (hT : hTT T) (a1 : Int32) (hB : hcB K V S E T A t (0, a, b, c, ns, nm, sn, o)) (hR : hcR2 V S T A ns none sn o (hg_q K V E t).1 [] zz) (hz8 : zz ≤ 8 + t) (hK : 2 ≤ K t ∧ K t ≤ 5) (ha1 : a1.toInt = K t - 2) (hV : hg_V K V) {P : Option Value → hs_A → Prop} (hP : ∀ (r : Option Value) (A' : hs_A), (∃ z : Int32, r = some (.int z) ∧ ((z.toInt = 1 ∧ hcOK2 K V S E T A' t) ∨ (z.toInt = 0 ∧ hcF K V S E T A'))) → P r A') : hpa (f, g) d (some (.boolean)) hm_t49 0 [.ref 21, .int a1, .retAddr 0, .retAddr 0, .retAddr 0, .retAddr 0] [] A P := by
  have k0 := hk_0
  have k1 := hk_1
  have k10 := hk_10
  have k2 := hk_2
  have k24 := hk_24
  have k25 := hk_25
  have k30 := hk_30
  have k4 := hk_4
  have k6 := hk_6
  have k7 := hk_7
  have k8 := hk_8
  have k9 := hk_9
  have hT9 : T ≤ 11 := by rcases hT with rfl | rfl <;> omega
  obtain ⟨h400, hpre, hix, hkk, hss, hsz, hvv⟩ := hB.at
  have hnx := hB.2.2.1
  have hqq := hB.2.2.2.1
  have hnil := hg_nil
  have L34 : ∀ (f : Nat) (x34_3 : Int32) (x34_4 : Int32) (x34_5 : Value) (A34 : hs_A) (t1 : Nat) (ifs : Nat) (br : hg_B) (c1 : hg_C) (c2 : hg_C) (st : Nat) (B34 : hcB K V S E T A34 t1 (13, ifs, 0, 0, ns, nm, sn, o)) (R34 : hcR2 V S T A34 ns none sn o (hg_q K V E t).1 (hg_br st br) (st + (hg_br st br).length)) (li : x34_4.toInt = (ifs : Int)) (l44 : ifs ≤ 4) (lt34 : t < t1) (G34 : hg_q K V E t1 = ((hg_q K V E t).1, ((K t - 2).toNat, br, c1, c2), [], [])) (ls : x34_3.toInt = (st : Int)) (z34 : st + (hg_br st br).length + 2 ≤ 8 + t1), hpa (f, g) d (some (.boolean)) hm_t49 34 [.ref 21, .int a1, .ref (T + 5), .int x34_3, .int x34_4, x34_5] [] A34 P := by
    intro f
    induction f with
    | zero => intros; exact hpa.zero
    | succ f ih34 =>
      intro x34_3 x34_4 x34_5 A34 t1 ifs br c1 c2 st B34 R34 li l44 lt34 G34 ls z34
      refine hpa_iloadS (by rfl) rfl ?_
      refine hpa_iconst (by rfl) rfl ?_
      refine hpj_cgt (by rfl) rfl hk_4 (fun q1 => False.elim (by omega)) (fun q1 => ?_)
      refine hpa_aload_n (by rfl) rfl ?_
      refine hpa_call0 (by rfl) (by rfl) (by rfl) (by rfl) (by rfl) (by rfl) (hP38 hT B34) ?_
      rintro _ _ ⟨rfl, z3, rfl, fz_A2⟩
      refine hpa_bipush (by rfl) rfl ?_
      refine hpj_cne (by rfl) rfl hk_8 (fun q4 => ?_) (fun q4 => ?_)
      ·
        refine hpa_aload_n (by rfl) rfl ?_
        refine hpa_iconst (by rfl) rfl ?_
        refine hpa_call0 (by rfl) (by rfl) (by rfl) (by rfl) (by rfl) (by rfl) ((hcXX _ _).1 (base := hg_br st br) (oc := []) (q := 2) (zz := st + (hg_br st br).length) hT (Int32.ofNat 0) B34 (by rw [List.append_nil]; exact R34) (hqd13_un (by omega)) hk_0 hV G34 (fun _ => hg_d13u (by omega)) trivial (by omega) (Nat.le_refl 2)) ?_
        rintro _ A5 ⟨z6, rfl, (⟨fz_A5, X_A5⟩ | ⟨fz_A5, F_A5⟩)⟩
        ·
          obtain ⟨tX_A5, pX_A5, oX_A5, wX_A5, zX_A5, ltX_A5, BX_A5, GX_A5, eX_A5, RX_A5, bX_A5, QX_A5⟩ := X_A5
          have h4X_A5 := BX_A5.at.1
          obtain ⟨c4b, c4l⟩ := bX_A5
          refine hpj_zeq (by rfl) rfl (fun q7 => False.elim (by omega)) (fun q7 => ?_)
          refine hpa_aload_n (by rfl) rfl ?_
          refine hpa_bipush (by rfl) rfl ?_
          refine hpa_call0 (by rfl) (by rfl) (by rfl) (by rfl) (by rfl) (by rfl) (hP42 hT (Int32.ofNat 24) BX_A5 RX_A5 hk_24 (hqd15_out QX_A5)) ?_
          rintro _ A8 ⟨z9, rfl, (⟨fz_A8, B_A8, R_A8, G_A8, N_A8⟩ | ⟨fz_A8, F_A8⟩)⟩
          ·
            have G163 : hg_q K V E (tX_A5 + 1) = (((hg_q K V E t).1.1, (hg_q K V E t).1.2.1, (hg_q K V E t).1.2.2.1, fun q => if q = (K t - 2).toNat then (br, oX_A5) else (hg_q K V E t).1.2.2.2 q), ((K t - 2).toNat, br, c1, c2), [], []) := by rw [G_A8, GX_A5]; exact hg_dout QX_A5 eX_A5
            refine hpj_zne (by rfl) rfl (fun q10 => ?_) (fun q10 => False.elim (by omega))
            refine hpa_aload_n (by rfl) rfl ?_
            refine hpa_bipush (by rfl) rfl ?_
            refine hpa_iconst (by rfl) rfl ?_
            refine hpa_call0 (by rfl) (by rfl) (by rfl) (hsT4 hT) (by rfl) (by rfl) (hP12 (k := 7) hT (Int32.ofNat 7) (Int32.ofNat 0) R_A8 hk_7 hk_0 (by omega) (by omega) (by omega) (by omega) (by omega)) ?_
            rintro _ A11 ⟨z12, rfl, W_A11, Z_A11, R_A11⟩
            have BW_A11 := B_A8.W hT9 W_A11
            rw [List.append_assoc] at R_A11
            refine hpa_popI (by rfl) ?_
            refine hpa_aload_n (by rfl) rfl ?_
            refine hpa_iload_n (by rfl) rfl ?_
            refine hpa_iload_n (by rfl) rfl ?_
            refine hpa_call0 (by rfl) (by rfl) (by rfl) (hsT4 hT) (by rfl) (by rfl) (hP10 (s := st) (q := (K t - 2).toNat) (l := (br, oX_A5)) hT a1 x34_3 R_A11 (show st + (hg_br st br ++ (oX_A5 ++ [(7, 0)])).length = _ by rw [List.length_append, hg_ln]; omega) (by omega) (by omega) ls) ?_
            rintro _ A13 ⟨rfl, W_A13, R_A13⟩
            have BW_A13 := BW_A11.W hT9 W_A13
            refine hpa_iconst (by rfl) rfl ?_
            exact hpa_ireturn (by rfl) (by rfl) (hP _ _ ⟨_, rfl, Or.inl ⟨hk_1, _, _, _, _, _, _, _, _, _, by omega, BW_A13, by rw [G163]; exact R_A13, by omega⟩⟩)
          ·
            refine hpj_zne (by rfl) rfl (fun q14 => False.elim (by omega)) (fun q14 => ?_)
            refine hpa_iconst (by rfl) rfl ?_
            exact hpa_ireturn (by rfl) (by rfl) (hP _ _ ⟨_, rfl, Or.inr ⟨hk_0, F_A8⟩⟩)
        ·
          refine hpj_zeq (by rfl) rfl (fun q15 => ?_) (fun q15 => False.elim (by omega))
          refine hpa_iconst (by rfl) rfl ?_
          exact hpa_ireturn (by rfl) (by rfl) (hP _ _ ⟨_, rfl, Or.inr ⟨hk_0, F_A5⟩⟩)
      ·
        refine hpa_iload (by rfl) rfl ?_
        refine hpa_iconst (by rfl) rfl ?_
        refine hpj_cne (by rfl) rfl hk_4 (fun q16 => ?_) (fun q16 => ?_)
        ·
          refine hpa_aload_n (by rfl) rfl ?_
          refine hpa_call0 (by rfl) (by rfl) (by rfl) (by rfl) (by rfl) (by rfl) (hP41 hT B34 R34 ((hqd13_if (by omega)).trans (if_pos (by omega)))) ?_
          rintro _ A17 ⟨z18, rfl, (⟨fz_A17, B_A17, R_A17, G_A17, N_A17⟩ | ⟨fz_A17, F_A17⟩)⟩
          ·
            have G62 : hg_q K V E (t1 + 1) = ((hg_q K V E t).1, ((K t - 2).toNat, br, c1, c2), [], []) := by rw [G_A17, hg_d13i (by omega)]; exact G34
            refine hpj_zeq (by rfl) rfl (fun q19 => False.elim (by omega)) (fun q19 => ?_)
            refine hpa_aload_n (by rfl) rfl ?_
            refine hpa_iconst (by rfl) rfl ?_
            refine hpa_call0 (by rfl) (by rfl) (by rfl) (by rfl) (by rfl) (by rfl) ((hcXX _ _).1 (base := hg_br st br) (oc := []) (q := 2) (zz := st + (hg_br st br).length) hT (Int32.ofNat 0) B_A17 (by rw [List.append_nil]; exact R_A17) rfl hk_0 hV G62 (fun _ => rfl) trivial (by omega) (Nat.le_refl 2)) ?_
            rintro _ A20 ⟨z21, rfl, (⟨fz_A20, X_A20⟩ | ⟨fz_A20, F_A20⟩)⟩
            ·
              obtain ⟨tX_A20, pX_A20, oX_A20, wX_A20, zX_A20, ltX_A20, BX_A20, GX_A20, eX_A20, RX_A20, bX_A20, QX_A20⟩ := X_A20
              have h4X_A20 := BX_A20.at.1
              obtain ⟨c1b, c1l⟩ := bX_A20
              refine hpj_zeq (by rfl) rfl (fun q22 => False.elim (by omega)) (fun q22 => ?_)
              refine hpa_aload_n (by rfl) rfl ?_
              refine hpa_bipush (by rfl) rfl ?_
              refine hpa_call0 (by rfl) (by rfl) (by rfl) (by rfl) (by rfl) (by rfl) (hP42 hT (Int32.ofNat 30) BX_A20 RX_A20 hk_30 (hqd15_out QX_A20)) ?_
              rintro _ A23 ⟨z24, rfl, (⟨fz_A23, B_A23, R_A23, G_A23, N_A23⟩ | ⟨fz_A23, F_A23⟩)⟩
              ·
                have G79 : hg_q K V E (tX_A20 + 1) = ((hg_q K V E t).1, ((K t - 2).toNat, br, oX_A20, c2), [], []) := by rw [G_A23, GX_A20]; exact hg_dout QX_A20 eX_A20
                refine hpj_zeq (by rfl) rfl (fun q25 => False.elim (by omega)) (fun q25 => ?_)
                refine hpa_aload_n (by rfl) rfl ?_
                refine hpa_iconst (by rfl) rfl ?_
                refine hpa_call0 (by rfl) (by rfl) (by rfl) (by rfl) (by rfl) (by rfl) ((hcXX _ _).1 (base := hg_br st br ++ oX_A20) (oc := []) (q := 2) (zz := zX_A20) hT (Int32.ofNat 0) B_A23 (by rw [List.append_nil]; exact R_A23) rfl hk_0 hV G79 (fun _ => rfl) trivial (by omega) (Nat.le_refl 2)) ?_
                rintro _ A26 ⟨z27, rfl, (⟨fz_A26, X_A26⟩ | ⟨fz_A26, F_A26⟩)⟩
                ·
                  obtain ⟨tX_A26, pX_A26, oX_A26, wX_A26, zX_A26, ltX_A26, BX_A26, GX_A26, eX_A26, RX_A26, bX_A26, QX_A26⟩ := X_A26
                  have h4X_A26 := BX_A26.at.1
                  obtain ⟨c2b, c2l⟩ := bX_A26
                  refine hpj_zeq (by rfl) rfl (fun q28 => False.elim (by omega)) (fun q28 => ?_)
                  refine hpa_aload_n (by rfl) rfl ?_
                  refine hpa_bipush (by rfl) rfl ?_
                  refine hpa_call0 (by rfl) (by rfl) (by rfl) (by rfl) (by rfl) (by rfl) (hP42 hT (Int32.ofNat 9) BX_A26 RX_A26 hk_9 (hqd15_out QX_A26)) ?_
                  rintro _ A29 ⟨z30, rfl, (⟨fz_A29, B_A29, R_A29, G_A29, N_A29⟩ | ⟨fz_A29, F_A29⟩)⟩
                  ·
                    have G96 : hg_q K V E (tX_A26 + 1) = ((hg_q K V E t).1, ((K t - 2).toNat, br, oX_A20, oX_A26), [], []) := by rw [G_A29, GX_A26]; exact hg_dout QX_A26 eX_A26
                    refine hpj_zne (by rfl) rfl (fun q31 => ?_) (fun q31 => False.elim (by omega))
                    refine hpa_aload_n (by rfl) rfl ?_
                    refine hpa_bipush (by rfl) rfl ?_
                    refine hpa_iconst (by rfl) rfl ?_
                    refine hpa_call0 (by rfl) (by rfl) (by rfl) (hsT4 hT) (by rfl) (by rfl) (hP12 (k := 6) hT (Int32.ofNat 6) (Int32.ofNat 0) R_A29 hk_6 hk_0 (by omega) (by omega) (by omega) (by omega) (by omega)) ?_
                    rintro _ A32 ⟨z33, rfl, W_A32, Z_A32, R_A32⟩
                    have BW_A32 := B_A29.W hT9 W_A32
                    refine hpa_s1 (by rfl) (Or.inr ⟨_, rfl, rfl⟩) rfl ?_
                    refine hpa_aload_n (by rfl) rfl ?_
                    refine hpa_iconst (by rfl) rfl ?_
                    refine hpa_call0 (by rfl) (by rfl) (by rfl) (by rfl) (by rfl) (by rfl) ((hcXX _ _).1 (base := ((hg_br st br ++ oX_A20) ++ oX_A26) ++ [(6, 0)]) (oc := []) (q := 2) (zz := zX_A26 + 1) hT (Int32.ofNat 0) BW_A32 (by rw [List.append_nil]; exact R_A32) rfl hk_0 hV G96 (fun _ => rfl) trivial (by omega) (Nat.le_refl 2)) ?_
                    rintro _ A34 ⟨z35, rfl, (⟨fz_A34, X_A34⟩ | ⟨fz_A34, F_A34⟩)⟩
                    ·
                      obtain ⟨tX_A34, pX_A34, oX_A34, wX_A34, zX_A34, ltX_A34, BX_A34, GX_A34, eX_A34, RX_A34, bX_A34, QX_A34⟩ := X_A34
                      have h4X_A34 := BX_A34.at.1
                      obtain ⟨c3b, c3l⟩ := bX_A34
                      refine hpj_zeq (by rfl) rfl (fun q36 => False.elim (by omega)) (fun q36 => ?_)
                      refine hpa_aload_n (by rfl) rfl ?_
                      refine hpa_bipush (by rfl) rfl ?_
                      refine hpa_call0 (by rfl) (by rfl) (by rfl) (by rfl) (by rfl) (by rfl) (hP42 hT (Int32.ofNat 10) BX_A34 RX_A34 hk_10 (hqd15_out QX_A34)) ?_
                      rintro _ A37 ⟨z38, rfl, (⟨fz_A37, B_A37, R_A37, G_A37, N_A37⟩ | ⟨fz_A37, F_A37⟩)⟩
                      ·
                        have G124 : hg_q K V E (tX_A34 + 1) = ((hg_q K V E t).1, ((K t - 2).toNat, br ++ [(oX_A20, oX_A26, oX_A34)], [], []), [], []) := by rw [G_A37, GX_A34]; exact hg_dout QX_A34 eX_A34
                        refine hpj_zne (by rfl) rfl (fun q39 => ?_) (fun q39 => False.elim (by omega))
                        refine hpa_aload_n (by rfl) rfl ?_
                        refine hpa_bipush (by rfl) rfl ?_
                        refine hpa_iconst (by rfl) rfl ?_
                        refine hpa_call0 (by rfl) (by rfl) (by rfl) (hsT4 hT) (by rfl) (by rfl) (hP12 (k := 7) hT (Int32.ofNat 7) (Int32.ofNat 0) R_A37 hk_7 hk_0 (by omega) (by omega) (by omega) (by omega) (by omega)) ?_
                        rintro _ A40 ⟨z41, rfl, W_A40, Z_A40, R_A40⟩
                        have BW_A40 := B_A37.W hT9 W_A40
                        rw [hg_as] at R_A40
                        refine hpa_popI (by rfl) ?_
                        refine hpa_aload_n (by rfl) rfl ?_
                        refine hpa_iload (by rfl) rfl ?_
                        refine hpa_call0 (by rfl) (by rfl) (by rfl) (hsT4 hT) (by rfl) (by rfl) (hP13 (j := zX_A26) hT z33 R_A40 Z_A32 (by rw [hg_ln]; omega) (by omega)) ?_
                        rintro _ A42 ⟨rfl, W_A42, R_A42⟩
                        have BW_A42 := BW_A40.W hT9 W_A42
                        have hone := hg_br_one (l := br) (s := st) (a := oX_A20) (b := oX_A26) (c := oX_A34) (z := (zX_A34 + 1)) (by simp only [List.length_append, List.length_cons, List.length_nil]; omega)
                        have hzn : (zX_A34 + 1) = st + (hg_br st (br ++ [(oX_A20, oX_A26, oX_A34)])).length := by rw [hone]; simp only [List.length_append, List.length_cons, List.length_nil]; omega
                        have RN : hcR2 V S T A42 ns none sn o (hg_q K V E t).1 (hg_br st (br ++ [(oX_A20, oX_A26, oX_A34)])) (st + (hg_br st (br ++ [(oX_A20, oX_A26, oX_A34)])).length) := by rw [← hzn, hone]; rw [hg_as2] at R_A42; exact R_A42
                        refine hpj_iinc (by rfl) rfl rfl hk_1 (by omega) (by omega) (fun _ => rfl) (fun z43 ez43 => ?_)
                        refine hpa_goto (by rfl) ?_
                        exact ih34 x34_3 z43 (.int z33) A42 _ _ (br ++ [(oX_A20, oX_A26, oX_A34)]) [] [] st BW_A42 RN (by omega) (by omega) (by omega) G124 ls (by rw [← hzn]; omega)
                      ·
                        refine hpj_zne (by rfl) rfl (fun q44 => False.elim (by omega)) (fun q44 => ?_)
                        refine hpa_iconst (by rfl) rfl ?_
                        exact hpa_ireturn (by rfl) (by rfl) (hP _ _ ⟨_, rfl, Or.inr ⟨hk_0, F_A37⟩⟩)
                    ·
                      refine hpj_zeq (by rfl) rfl (fun q45 => ?_) (fun q45 => False.elim (by omega))
                      refine hpa_iconst (by rfl) rfl ?_
                      exact hpa_ireturn (by rfl) (by rfl) (hP _ _ ⟨_, rfl, Or.inr ⟨hk_0, F_A34⟩⟩)
                  ·
                    refine hpj_zne (by rfl) rfl (fun q46 => False.elim (by omega)) (fun q46 => ?_)
                    refine hpa_iconst (by rfl) rfl ?_
                    exact hpa_ireturn (by rfl) (by rfl) (hP _ _ ⟨_, rfl, Or.inr ⟨hk_0, F_A29⟩⟩)
                ·
                  refine hpj_zeq (by rfl) rfl (fun q47 => ?_) (fun q47 => False.elim (by omega))
                  refine hpa_iconst (by rfl) rfl ?_
                  exact hpa_ireturn (by rfl) (by rfl) (hP _ _ ⟨_, rfl, Or.inr ⟨hk_0, F_A26⟩⟩)
              ·
                refine hpj_zeq (by rfl) rfl (fun q48 => ?_) (fun q48 => False.elim (by omega))
                refine hpa_iconst (by rfl) rfl ?_
                exact hpa_ireturn (by rfl) (by rfl) (hP _ _ ⟨_, rfl, Or.inr ⟨hk_0, F_A23⟩⟩)
            ·
              refine hpj_zeq (by rfl) rfl (fun q49 => ?_) (fun q49 => False.elim (by omega))
              refine hpa_iconst (by rfl) rfl ?_
              exact hpa_ireturn (by rfl) (by rfl) (hP _ _ ⟨_, rfl, Or.inr ⟨hk_0, F_A20⟩⟩)
          ·
            refine hpj_zeq (by rfl) rfl (fun q50 => ?_) (fun q50 => False.elim (by omega))
            refine hpa_iconst (by rfl) rfl ?_
            exact hpa_ireturn (by rfl) (by rfl) (hP _ _ ⟨_, rfl, Or.inr ⟨hk_0, F_A17⟩⟩)
        ·
          refine hpa_aload_n (by rfl) rfl ?_
          refine hpa_iconst (by rfl) rfl ?_
          refine hpa_call0 (by rfl) (by rfl) (by rfl) (by rfl) (by rfl) (by rfl) (hP39 hT (Int32.ofNat 2) B34 ⟨_, B34.2.2.2.1, (hqd13_if (by omega)).trans (if_neg (by omega))⟩ (by decide) hk_2) ?_
          rintro _ A51 ⟨z52, rfl, fz_A51, F_A51⟩
          exact hpa_ireturn (by rfl) (hn_fitB (by omega) (by omega)) (hP _ _ ⟨_, rfl, Or.inr ⟨fz_A51, F_A51⟩⟩)
  refine hpa_aload_n (by rfl) rfl ?_
  refine hpj_getT (by rfl) (by rfl) (by rfl) hB.1 ?_
  refine hpa_get (v := .ref (T + 5)) (by rfl) (hsT hT) (by rfl) (hvT hT (by omega)) ?_
  refine hpa_astore_n (by rfl) rfl ?_
  refine hpa_aload_n (by rfl) rfl ?_
  refine hpa_call0 (by rfl) (by rfl) (by rfl) (by rfl) (by rfl) (by rfl) (hP41 hT hB hR (hqd0_law hK)) ?_
  rintro _ A53 ⟨z54, rfl, (⟨fz_A53, B_A53, R_A53, G_A53, N_A53⟩ | ⟨fz_A53, F_A53⟩)⟩
  ·
    refine hpj_zeq (by rfl) rfl (fun q55 => False.elim (by omega)) (fun q55 => ?_)
    refine hpa_aload_n (by rfl) rfl ?_
    refine hpa_bipush (by rfl) rfl ?_
    refine hpa_call0 (by rfl) (by rfl) (by rfl) (by rfl) (by rfl) (by rfl) (hP42 hT (Int32.ofNat 25) B_A53 R_A53 hk_25 rfl) ?_
    rintro _ A56 ⟨z57, rfl, (⟨fz_A56, B_A56, R_A56, G_A56, N_A56⟩ | ⟨fz_A56, F_A56⟩)⟩
    ·
      have G0 : hg_q K V E (t + 1 + 1) = ((hg_q K V E t).1, ((K t - 2).toNat, [], [], []), [], []) := by rw [G_A56, G_A53, hg_d0l hK]; rfl
      refine hpj_zne (by rfl) rfl (fun q58 => ?_) (fun q58 => False.elim (by omega))
      refine hpa_aload_n (by rfl) rfl ?_
      refine hpa_call0 (by rfl) (by rfl) (by rfl) (hsT4 hT) (by rfl) (by rfl) (hP9 hT R_A56) ?_
      rintro _ A59 ⟨z60, rfl, W_A59, Z_A59, R_A59⟩
      have BW_A59 := B_A56.W hT9 W_A59
      refine hpa_s1 (by rfl) (Or.inl ⟨_, rfl, rfl⟩) rfl ?_
      refine hpa_iconst (by rfl) rfl ?_
      refine hpa_s1 (by rfl) (Or.inr ⟨_, rfl, rfl⟩) rfl ?_
      exact L34 _ z60 (Int32.ofNat 0) (.retAddr 0) A59 _ _ [] [] [] zz BW_A59 R_A59 hk_0 (by omega) (by omega) G0 Z_A59 (show zz + 0 + 2 ≤ 8 + (t + 1 + 1) by omega)
    ·
      refine hpj_zne (by rfl) rfl (fun q61 => False.elim (by omega)) (fun q61 => ?_)
      refine hpa_iconst (by rfl) rfl ?_
      exact hpa_ireturn (by rfl) (by rfl) (hP _ _ ⟨_, rfl, Or.inr ⟨hk_0, F_A56⟩⟩)
  ·
    refine hpj_zeq (by rfl) rfl (fun q62 => ?_) (fun q62 => False.elim (by omega))
    refine hpa_iconst (by rfl) rfl ?_
    exact hpa_ireturn (by rfl) (by rfl) (hP _ _ ⟨_, rfl, Or.inr ⟨hk_0, F_A53⟩⟩)
theorem hP49 {g d : Nat} {A : hs_A} {K V S : Nat → Int} {E : Nat → Nat → Bool} {T : Nat} {t : Nat} {a b c : Nat} {ns : List Nat} {nm sn : Nat} {o : Option (Nat × Nat)} {zz : Nat} (hT : hTT T) (a1 : Int32) (hB : hcB K V S E T A t (0, a, b, c, ns, nm, sn, o)) (hR : hcR2 V S T A ns none sn o (hg_q K V E t).1 [] zz) (hz8 : zz ≤ 8 + t) (hK : 2 ≤ K t ∧ K t ≤ 5) (ha1 : a1.toInt = K t - 2) (hV : hg_V K V) : hpC g d 49 hm_m49 [.ref 21, .int a1] A (fun r A' => ∃ z : Int32, r = some (.int z) ∧ ((z.toInt = 1 ∧ hcOK2 K V S E T A' t) ∨ (z.toInt = 0 ∧ hcF K V S E T A'))) := hpC.all (fun f d => hW49 hT a1 hB hR hz8 hK ha1 hV (fun r A' h => h))
