theorem hW60 {g d f : Nat} {A : hs_A} {B : Nat → Int} {n p j : Nat} (a1 a2 : Int32) (hA : hcTp B n A) (h1 : a1.toInt = (p : Int)) (h2 : a2.toInt = (n : Int)) (hp : p ≤ n) (hn : n ≤ 2000) (hBr : ∀ i, i < n → B i ≤ 127) (hj : (A.1 21 3).toInt = (j : Int)) {P : Option Value → hs_A → Prop} (hP : ∀ (r : Option Value) (A' : hs_A), (∃ z : Int32, r = some (.int z) ∧ z.toInt = (ht_end B n p : Int) ∧ hcG B n A A' p j) → P r A') : hpa (f, g) d (some (.int)) hm_t60 0 [.ref 22, .ref 2, .int a1, .int a2, .retAddr 0] [] A P := by
  have k1 := hk_1
  have k122 := hk_122
  have k22 := hk_22
  have k23 := hk_23
  have k24 := hk_24
  have k4294967295 := hk_4294967295
  have k48 := hk_48
  have k57 := hk_57
  have k97 := hk_97
  have hij : (A.1 21 3).toNatClampNeg = j := by have := hn_cn (j := A.1 21 3) (by omega); omega
  refine hpa_aload_n (by rfl) rfl ?_
  refine hpa_get (v := .ref 24) (by rfl) (by rfl) (by rfl) rfl ?_
  refine hpa_aload_n (by rfl) rfl ?_
  refine hpj_getK (by rfl) (by rfl) (by rfl) rfl ?_
  refine hpa_lconst (by rfl) rfl ?_
  refine hpx_last (by rfl) (by rfl) (fun A1 h0A1 h1A1 eA1 fA1 gA1 iA1 => ?_)
  rw [hij] at gA1
  have hj1 : (A1.1 21 3).toInt = (j : Int) := by rw [eA1]; exact hj
  have hv01 : A1.2.2.1 23 j = 0 := by rw [gA1, hupL1]; decide
  have hA1 : hcTp B n A1 := fun i hi => by rw [fA1]; exact hA i hi
  refine hpa_iload_n (by rfl) rfl ?_
  refine hpa_iload_n (by rfl) rfl ?_
  refine hpj_clt (by rfl) rfl rfl (fun q2 => ?_) (fun q2 => ?_)
  ·
    refine hpa_aload_n (by rfl) rfl ?_
    refine hpa_iload_n (by rfl) rfl ?_
    refine hpx_bald (by rfl) (by rfl) (fun h0v3 h1v3 v3 ev3 => ?_)
    rw [fA1] at ev3
    have tv3 : v3.toInt = B p := by rw [← ev3]; exact (hA (a1.toInt).toNat (by omega)).trans (by rw [show a1.toInt.toNat = p by omega])
    have hb127 := hBr p (by omega)
    refine hpa_bipush (by rfl) rfl ?_
    refine hpj_clt (by rfl) rfl hk_97 (fun q4 => ?_) (fun q4 => ?_)
    ·
      refine hpa_aload_n (by rfl) rfl ?_
      refine hpa_iload_n (by rfl) rfl ?_
      refine hpx_bald (by rfl) (by rfl) (fun h0v5 h1v5 v5 ev5 => ?_)
      rw [fA1] at ev5
      have tv5 : v5.toInt = B p := by rw [← ev5]; exact (hA (a1.toInt).toNat (by omega)).trans (by rw [show a1.toInt.toNat = p by omega])
      refine hpa_bipush (by rfl) rfl ?_
      refine hpj_clt (by rfl) rfl hk_48 (fun q6 => ?_) (fun q6 => ?_)
      ·
        refine hpa_aload_n (by rfl) rfl ?_
        refine hpa_iload_n (by rfl) rfl ?_
        refine hpx_bald (by rfl) (by rfl) (fun h0v7 h1v7 v7 ev7 => ?_)
        rw [fA1] at ev7
        have tv7 : v7.toInt = B p := by rw [← ev7]; exact (hA (a1.toInt).toNat (by omega)).trans (by rw [show a1.toInt.toNat = p by omega])
        refine hpj_zge (by rfl) rfl (fun q8 => ?_) (fun q8 => ?_)
        ·
          refine hpa_ldcS (k := 0) (by rfl) rfl ?_
          refine hpa_aload_n (by rfl) rfl ?_
          refine hpa_iload_n (by rfl) rfl ?_
          refine hpx_bald (by rfl) (by rfl) (fun h0v9 h1v9 v9 ev9 => ?_)
          rw [fA1] at ev9
          have tv9 : v9.toInt = B p := by rw [← ev9]; exact (hA (a1.toInt).toNat (by omega)).trans (by rw [show a1.toInt.toNat = p by omega])
          refine hpa_i2c (by rfl) ?_
          rw [hi2c (x := v9) (by omega) (by omega)]
          refine hpa_strIdx (k := 0) (by rfl) (by rfl) ?_
          have hsx := hsg_ix (x := v9) (by omega) (by omega)
          obtain ⟨zz, hzz⟩ : ∃ zz, zz = hc_ixf v9 (hc_txt 0) 0 := ⟨_, rfl⟩
          rw [← hzz] at hsx ⊢
          rcases hsx with ⟨s1, s2⟩ | ⟨s1, s3, s2⟩
          ·
            refine hpa_s1 (by rfl) (Or.inr ⟨_, rfl, rfl⟩) rfl ?_
            refine hpa_aload_n (by rfl) rfl ?_
            refine hpa_get (v := .ref 23) (by rfl) (by rfl) (by rfl) rfl ?_
            refine hpa_aload_n (by rfl) rfl ?_
            refine hpj_getK (by rfl) (by rfl) (by rfl) (hkA eA1 rfl) ?_
            refine hpa_iload (by rfl) rfl ?_
            refine hpa_iconst (by rfl) rfl ?_
            refine hpj_cne (by rfl) rfl hk_4294967295 (fun q10 => False.elim (by omega)) (fun q10 => ?_)
            refine hpa_bipush (by rfl) rfl ?_
            refine hpa_goto (by rfl) ?_
            refine hpx_iast (by rfl) (by rfl) (fun A11 h0A11 h1A11 eA11 fA11 gA11 => ?_)
            refine hpa_iload_n (by rfl) rfl ?_
            refine hpa_iconst (by rfl) rfl ?_
            refine hpj_iadd (by rfl) rfl hk_1 (by omega) (by omega) (fun z12 ez12 => ?_)
            have hkd : ht_kind B n p = ht_sg v9.toInt := by rw [ht_kind_sg (by omega) (ht_not_le (by omega)) (ht_not_di (by omega)), ← tv9]
            have hsr := ht_sg_rng (B p)
            rw [← tv9] at hsr
            exact hpa_ireturn (by rfl) rfl (hP _ _ ⟨_, rfl, by rw [ht_end_sg (by omega) (ht_not_le (by omega)) (ht_not_di (by omega))]; omega, (Int32.ofNat 23), Int64.ofNat 0, by rw [eA11, eA1], by rw [fA11, fA1, hij], by rw [gA11, gA1], by rw [gA11, iA1], by rw [hkd, s2]; exact hk_23, fun q => absurd q (by omega), fun q => absurd q (by omega)⟩)
          ·
            refine hpa_s1 (by rfl) (Or.inr ⟨_, rfl, rfl⟩) rfl ?_
            refine hpa_aload_n (by rfl) rfl ?_
            refine hpa_get (v := .ref 23) (by rfl) (by rfl) (by rfl) rfl ?_
            refine hpa_aload_n (by rfl) rfl ?_
            refine hpj_getK (by rfl) (by rfl) (by rfl) (hkA eA1 rfl) ?_
            refine hpa_iload (by rfl) rfl ?_
            refine hpa_iconst (by rfl) rfl ?_
            refine hpj_cne (by rfl) rfl hk_4294967295 (fun q13 => ?_) (fun q13 => False.elim (by omega))
            refine hpa_bipush (by rfl) rfl ?_
            refine hpa_iload (by rfl) rfl ?_
            refine hpj_iadd (by rfl) hk_24 rfl (by omega) (by omega) (fun z14 ez14 => ?_)
            refine hpx_iast (by rfl) (by rfl) (fun A15 h0A15 h1A15 eA15 fA15 gA15 => ?_)
            refine hpa_iload_n (by rfl) rfl ?_
            refine hpa_iconst (by rfl) rfl ?_
            refine hpj_iadd (by rfl) rfl hk_1 (by omega) (by omega) (fun z16 ez16 => ?_)
            have hkd : ht_kind B n p = ht_sg v9.toInt := by rw [ht_kind_sg (by omega) (ht_not_le (by omega)) (ht_not_di (by omega)), ← tv9]
            have hsr := ht_sg_rng (B p)
            rw [← tv9] at hsr
            exact hpa_ireturn (by rfl) rfl (hP _ _ ⟨_, rfl, by rw [ht_end_sg (by omega) (ht_not_le (by omega)) (ht_not_di (by omega))]; omega, z14, Int64.ofNat 0, by rw [eA15, eA1], by rw [fA15, fA1, hij], by rw [gA15, gA1], by rw [gA15, iA1], by rw [hkd, s2]; omega, fun q => absurd q (by omega), fun q => absurd q (by omega)⟩)
        ·
          refine hpa_iconst (by rfl) rfl ?_
          refine hpa_goto (by rfl) ?_
          refine hpa_s1 (by rfl) (Or.inr ⟨_, rfl, rfl⟩) rfl ?_
          refine hpa_aload_n (by rfl) rfl ?_
          refine hpa_get (v := .ref 23) (by rfl) (by rfl) (by rfl) rfl ?_
          refine hpa_aload_n (by rfl) rfl ?_
          refine hpj_getK (by rfl) (by rfl) (by rfl) (hkA eA1 rfl) ?_
          refine hpa_iload (by rfl) rfl ?_
          refine hpa_iconst (by rfl) rfl ?_
          refine hpj_cne (by rfl) hk_4294967295 hk_4294967295 (fun q17 => False.elim (by omega)) (fun q17 => ?_)
          refine hpa_bipush (by rfl) rfl ?_
          refine hpa_goto (by rfl) ?_
          refine hpx_iast (by rfl) (by rfl) (fun A18 h0A18 h1A18 eA18 fA18 gA18 => ?_)
          refine hpa_iload_n (by rfl) rfl ?_
          refine hpa_iconst (by rfl) rfl ?_
          refine hpj_iadd (by rfl) rfl hk_1 (by omega) (by omega) (fun z19 ez19 => ?_)
          have hkd : ht_kind B n p = 23 := by rw [ht_kind_sg (by omega) (ht_not_le (by omega)) (ht_not_di (by omega)), hsg_neg (by omega)]
          have hsr := ht_sg_rng (B p)
          exact hpa_ireturn (by rfl) rfl (hP _ _ ⟨_, rfl, by rw [ht_end_sg (by omega) (ht_not_le (by omega)) (ht_not_di (by omega))]; omega, (Int32.ofNat 23), Int64.ofNat 0, by rw [eA18, eA1], by rw [fA18, fA1, hij], by rw [gA18, gA1], by rw [gA18, iA1], by rw [hkd]; exact hk_23, fun q => absurd q (by omega), fun q => absurd q (by omega)⟩)
      ·
        refine hpa_aload_n (by rfl) rfl ?_
        refine hpa_iload_n (by rfl) rfl ?_
        refine hpx_bald (by rfl) (by rfl) (fun h0v20 h1v20 v20 ev20 => ?_)
        rw [fA1] at ev20
        have tv20 : v20.toInt = B p := by rw [← ev20]; exact (hA (a1.toInt).toNat (by omega)).trans (by rw [show a1.toInt.toNat = p by omega])
        refine hpa_bipush (by rfl) rfl ?_
        refine hpj_cgt (by rfl) rfl hk_57 (fun q21 => ?_) (fun q21 => ?_)
        ·
          refine hpa_aload_n (by rfl) rfl ?_
          refine hpa_iload_n (by rfl) rfl ?_
          refine hpx_bald (by rfl) (by rfl) (fun h0v22 h1v22 v22 ev22 => ?_)
          rw [fA1] at ev22
          have tv22 : v22.toInt = B p := by rw [← ev22]; exact (hA (a1.toInt).toNat (by omega)).trans (by rw [show a1.toInt.toNat = p by omega])
          refine hpj_zge (by rfl) rfl (fun q23 => ?_) (fun q23 => ?_)
          ·
            refine hpa_ldcS (k := 0) (by rfl) rfl ?_
            refine hpa_aload_n (by rfl) rfl ?_
            refine hpa_iload_n (by rfl) rfl ?_
            refine hpx_bald (by rfl) (by rfl) (fun h0v24 h1v24 v24 ev24 => ?_)
            rw [fA1] at ev24
            have tv24 : v24.toInt = B p := by rw [← ev24]; exact (hA (a1.toInt).toNat (by omega)).trans (by rw [show a1.toInt.toNat = p by omega])
            refine hpa_i2c (by rfl) ?_
            rw [hi2c (x := v24) (by omega) (by omega)]
            refine hpa_strIdx (k := 0) (by rfl) (by rfl) ?_
            have hsx := hsg_ix (x := v24) (by omega) (by omega)
            obtain ⟨zz, hzz⟩ : ∃ zz, zz = hc_ixf v24 (hc_txt 0) 0 := ⟨_, rfl⟩
            rw [← hzz] at hsx ⊢
            rcases hsx with ⟨s1, s2⟩ | ⟨s1, s3, s2⟩
            ·
              refine hpa_s1 (by rfl) (Or.inr ⟨_, rfl, rfl⟩) rfl ?_
              refine hpa_aload_n (by rfl) rfl ?_
              refine hpa_get (v := .ref 23) (by rfl) (by rfl) (by rfl) rfl ?_
              refine hpa_aload_n (by rfl) rfl ?_
              refine hpj_getK (by rfl) (by rfl) (by rfl) (hkA eA1 rfl) ?_
              refine hpa_iload (by rfl) rfl ?_
              refine hpa_iconst (by rfl) rfl ?_
              refine hpj_cne (by rfl) rfl hk_4294967295 (fun q25 => False.elim (by omega)) (fun q25 => ?_)
              refine hpa_bipush (by rfl) rfl ?_
              refine hpa_goto (by rfl) ?_
              refine hpx_iast (by rfl) (by rfl) (fun A26 h0A26 h1A26 eA26 fA26 gA26 => ?_)
              refine hpa_iload_n (by rfl) rfl ?_
              refine hpa_iconst (by rfl) rfl ?_
              refine hpj_iadd (by rfl) rfl hk_1 (by omega) (by omega) (fun z27 ez27 => ?_)
              have hkd : ht_kind B n p = ht_sg v24.toInt := by rw [ht_kind_sg (by omega) (ht_not_le (by omega)) (ht_not_di (by omega)), ← tv24]
              have hsr := ht_sg_rng (B p)
              rw [← tv24] at hsr
              exact hpa_ireturn (by rfl) rfl (hP _ _ ⟨_, rfl, by rw [ht_end_sg (by omega) (ht_not_le (by omega)) (ht_not_di (by omega))]; omega, (Int32.ofNat 23), Int64.ofNat 0, by rw [eA26, eA1], by rw [fA26, fA1, hij], by rw [gA26, gA1], by rw [gA26, iA1], by rw [hkd, s2]; exact hk_23, fun q => absurd q (by omega), fun q => absurd q (by omega)⟩)
            ·
              refine hpa_s1 (by rfl) (Or.inr ⟨_, rfl, rfl⟩) rfl ?_
              refine hpa_aload_n (by rfl) rfl ?_
              refine hpa_get (v := .ref 23) (by rfl) (by rfl) (by rfl) rfl ?_
              refine hpa_aload_n (by rfl) rfl ?_
              refine hpj_getK (by rfl) (by rfl) (by rfl) (hkA eA1 rfl) ?_
              refine hpa_iload (by rfl) rfl ?_
              refine hpa_iconst (by rfl) rfl ?_
              refine hpj_cne (by rfl) rfl hk_4294967295 (fun q28 => ?_) (fun q28 => False.elim (by omega))
              refine hpa_bipush (by rfl) rfl ?_
              refine hpa_iload (by rfl) rfl ?_
              refine hpj_iadd (by rfl) hk_24 rfl (by omega) (by omega) (fun z29 ez29 => ?_)
              refine hpx_iast (by rfl) (by rfl) (fun A30 h0A30 h1A30 eA30 fA30 gA30 => ?_)
              refine hpa_iload_n (by rfl) rfl ?_
              refine hpa_iconst (by rfl) rfl ?_
              refine hpj_iadd (by rfl) rfl hk_1 (by omega) (by omega) (fun z31 ez31 => ?_)
              have hkd : ht_kind B n p = ht_sg v24.toInt := by rw [ht_kind_sg (by omega) (ht_not_le (by omega)) (ht_not_di (by omega)), ← tv24]
              have hsr := ht_sg_rng (B p)
              rw [← tv24] at hsr
              exact hpa_ireturn (by rfl) rfl (hP _ _ ⟨_, rfl, by rw [ht_end_sg (by omega) (ht_not_le (by omega)) (ht_not_di (by omega))]; omega, z29, Int64.ofNat 0, by rw [eA30, eA1], by rw [fA30, fA1, hij], by rw [gA30, gA1], by rw [gA30, iA1], by rw [hkd, s2]; omega, fun q => absurd q (by omega), fun q => absurd q (by omega)⟩)
          ·
            refine hpa_iconst (by rfl) rfl ?_
            refine hpa_goto (by rfl) ?_
            refine hpa_s1 (by rfl) (Or.inr ⟨_, rfl, rfl⟩) rfl ?_
            refine hpa_aload_n (by rfl) rfl ?_
            refine hpa_get (v := .ref 23) (by rfl) (by rfl) (by rfl) rfl ?_
            refine hpa_aload_n (by rfl) rfl ?_
            refine hpj_getK (by rfl) (by rfl) (by rfl) (hkA eA1 rfl) ?_
            refine hpa_iload (by rfl) rfl ?_
            refine hpa_iconst (by rfl) rfl ?_
            refine hpj_cne (by rfl) hk_4294967295 hk_4294967295 (fun q32 => False.elim (by omega)) (fun q32 => ?_)
            refine hpa_bipush (by rfl) rfl ?_
            refine hpa_goto (by rfl) ?_
            refine hpx_iast (by rfl) (by rfl) (fun A33 h0A33 h1A33 eA33 fA33 gA33 => ?_)
            refine hpa_iload_n (by rfl) rfl ?_
            refine hpa_iconst (by rfl) rfl ?_
            refine hpj_iadd (by rfl) rfl hk_1 (by omega) (by omega) (fun z34 ez34 => ?_)
            have hkd : ht_kind B n p = 23 := by rw [ht_kind_sg (by omega) (ht_not_le (by omega)) (ht_not_di (by omega)), hsg_neg (by omega)]
            have hsr := ht_sg_rng (B p)
            exact hpa_ireturn (by rfl) rfl (hP _ _ ⟨_, rfl, by rw [ht_end_sg (by omega) (ht_not_le (by omega)) (ht_not_di (by omega))]; omega, (Int32.ofNat 23), Int64.ofNat 0, by rw [eA33, eA1], by rw [fA33, fA1, hij], by rw [gA33, gA1], by rw [gA33, iA1], by rw [hkd]; exact hk_23, fun q => absurd q (by omega), fun q => absurd q (by omega)⟩)
        ·
          refine hpa_aload_n (by rfl) rfl ?_
          refine hpa_aload_n (by rfl) rfl ?_
          refine hpa_iload_n (by rfl) rfl ?_
          refine hpa_iload_n (by rfl) rfl ?_
          refine hpa_call0 (by rfl) (by rfl) (by rfl) (by rfl) (by rfl) (by rfl) (hP63 a1 a2 hA1 h1 h2 (by omega) hn (ht_not_le (by omega)) (ht_di_iff.mpr ⟨by omega, by omega⟩) hj1 hv01) ?_
          rintro _ A35 ⟨z36, rfl, fz_A35, G_A35⟩
          exact hpa_ireturn (by rfl) rfl (hP _ _ ⟨_, rfl, fz_A35, G_A35.pre eA1 fA1 gA1 iA1⟩)
    ·
      refine hpa_aload_n (by rfl) rfl ?_
      refine hpa_iload_n (by rfl) rfl ?_
      refine hpx_bald (by rfl) (by rfl) (fun h0v37 h1v37 v37 ev37 => ?_)
      rw [fA1] at ev37
      have tv37 : v37.toInt = B p := by rw [← ev37]; exact (hA (a1.toInt).toNat (by omega)).trans (by rw [show a1.toInt.toNat = p by omega])
      refine hpa_bipush (by rfl) rfl ?_
      refine hpj_cgt (by rfl) rfl hk_122 (fun q38 => ?_) (fun q38 => ?_)
      ·
        refine hpa_aload_n (by rfl) rfl ?_
        refine hpa_iload_n (by rfl) rfl ?_
        refine hpx_bald (by rfl) (by rfl) (fun h0v39 h1v39 v39 ev39 => ?_)
        rw [fA1] at ev39
        have tv39 : v39.toInt = B p := by rw [← ev39]; exact (hA (a1.toInt).toNat (by omega)).trans (by rw [show a1.toInt.toNat = p by omega])
        refine hpa_bipush (by rfl) rfl ?_
        refine hpj_clt (by rfl) rfl hk_48 (fun q40 => ?_) (fun q40 => ?_)
        ·
          refine hpa_aload_n (by rfl) rfl ?_
          refine hpa_iload_n (by rfl) rfl ?_
          refine hpx_bald (by rfl) (by rfl) (fun h0v41 h1v41 v41 ev41 => ?_)
          rw [fA1] at ev41
          have tv41 : v41.toInt = B p := by rw [← ev41]; exact (hA (a1.toInt).toNat (by omega)).trans (by rw [show a1.toInt.toNat = p by omega])
          refine hpj_zge (by rfl) rfl (fun q42 => ?_) (fun q42 => ?_)
          ·
            refine hpa_ldcS (k := 0) (by rfl) rfl ?_
            refine hpa_aload_n (by rfl) rfl ?_
            refine hpa_iload_n (by rfl) rfl ?_
            refine hpx_bald (by rfl) (by rfl) (fun h0v43 h1v43 v43 ev43 => ?_)
            rw [fA1] at ev43
            have tv43 : v43.toInt = B p := by rw [← ev43]; exact (hA (a1.toInt).toNat (by omega)).trans (by rw [show a1.toInt.toNat = p by omega])
            refine hpa_i2c (by rfl) ?_
            rw [hi2c (x := v43) (by omega) (by omega)]
            refine hpa_strIdx (k := 0) (by rfl) (by rfl) ?_
            have hsx := hsg_ix (x := v43) (by omega) (by omega)
            obtain ⟨zz, hzz⟩ : ∃ zz, zz = hc_ixf v43 (hc_txt 0) 0 := ⟨_, rfl⟩
            rw [← hzz] at hsx ⊢
            rcases hsx with ⟨s1, s2⟩ | ⟨s1, s3, s2⟩
            ·
              refine hpa_s1 (by rfl) (Or.inr ⟨_, rfl, rfl⟩) rfl ?_
              refine hpa_aload_n (by rfl) rfl ?_
              refine hpa_get (v := .ref 23) (by rfl) (by rfl) (by rfl) rfl ?_
              refine hpa_aload_n (by rfl) rfl ?_
              refine hpj_getK (by rfl) (by rfl) (by rfl) (hkA eA1 rfl) ?_
              refine hpa_iload (by rfl) rfl ?_
              refine hpa_iconst (by rfl) rfl ?_
              refine hpj_cne (by rfl) rfl hk_4294967295 (fun q44 => False.elim (by omega)) (fun q44 => ?_)
              refine hpa_bipush (by rfl) rfl ?_
              refine hpa_goto (by rfl) ?_
              refine hpx_iast (by rfl) (by rfl) (fun A45 h0A45 h1A45 eA45 fA45 gA45 => ?_)
              refine hpa_iload_n (by rfl) rfl ?_
              refine hpa_iconst (by rfl) rfl ?_
              refine hpj_iadd (by rfl) rfl hk_1 (by omega) (by omega) (fun z46 ez46 => ?_)
              have hkd : ht_kind B n p = ht_sg v43.toInt := by rw [ht_kind_sg (by omega) (ht_not_le (by omega)) (ht_not_di (by omega)), ← tv43]
              have hsr := ht_sg_rng (B p)
              rw [← tv43] at hsr
              exact hpa_ireturn (by rfl) rfl (hP _ _ ⟨_, rfl, by rw [ht_end_sg (by omega) (ht_not_le (by omega)) (ht_not_di (by omega))]; omega, (Int32.ofNat 23), Int64.ofNat 0, by rw [eA45, eA1], by rw [fA45, fA1, hij], by rw [gA45, gA1], by rw [gA45, iA1], by rw [hkd, s2]; exact hk_23, fun q => absurd q (by omega), fun q => absurd q (by omega)⟩)
            ·
              refine hpa_s1 (by rfl) (Or.inr ⟨_, rfl, rfl⟩) rfl ?_
              refine hpa_aload_n (by rfl) rfl ?_
              refine hpa_get (v := .ref 23) (by rfl) (by rfl) (by rfl) rfl ?_
              refine hpa_aload_n (by rfl) rfl ?_
              refine hpj_getK (by rfl) (by rfl) (by rfl) (hkA eA1 rfl) ?_
              refine hpa_iload (by rfl) rfl ?_
              refine hpa_iconst (by rfl) rfl ?_
              refine hpj_cne (by rfl) rfl hk_4294967295 (fun q47 => ?_) (fun q47 => False.elim (by omega))
              refine hpa_bipush (by rfl) rfl ?_
              refine hpa_iload (by rfl) rfl ?_
              refine hpj_iadd (by rfl) hk_24 rfl (by omega) (by omega) (fun z48 ez48 => ?_)
              refine hpx_iast (by rfl) (by rfl) (fun A49 h0A49 h1A49 eA49 fA49 gA49 => ?_)
              refine hpa_iload_n (by rfl) rfl ?_
              refine hpa_iconst (by rfl) rfl ?_
              refine hpj_iadd (by rfl) rfl hk_1 (by omega) (by omega) (fun z50 ez50 => ?_)
              have hkd : ht_kind B n p = ht_sg v43.toInt := by rw [ht_kind_sg (by omega) (ht_not_le (by omega)) (ht_not_di (by omega)), ← tv43]
              have hsr := ht_sg_rng (B p)
              rw [← tv43] at hsr
              exact hpa_ireturn (by rfl) rfl (hP _ _ ⟨_, rfl, by rw [ht_end_sg (by omega) (ht_not_le (by omega)) (ht_not_di (by omega))]; omega, z48, Int64.ofNat 0, by rw [eA49, eA1], by rw [fA49, fA1, hij], by rw [gA49, gA1], by rw [gA49, iA1], by rw [hkd, s2]; omega, fun q => absurd q (by omega), fun q => absurd q (by omega)⟩)
          ·
            refine hpa_iconst (by rfl) rfl ?_
            refine hpa_goto (by rfl) ?_
            refine hpa_s1 (by rfl) (Or.inr ⟨_, rfl, rfl⟩) rfl ?_
            refine hpa_aload_n (by rfl) rfl ?_
            refine hpa_get (v := .ref 23) (by rfl) (by rfl) (by rfl) rfl ?_
            refine hpa_aload_n (by rfl) rfl ?_
            refine hpj_getK (by rfl) (by rfl) (by rfl) (hkA eA1 rfl) ?_
            refine hpa_iload (by rfl) rfl ?_
            refine hpa_iconst (by rfl) rfl ?_
            refine hpj_cne (by rfl) hk_4294967295 hk_4294967295 (fun q51 => False.elim (by omega)) (fun q51 => ?_)
            refine hpa_bipush (by rfl) rfl ?_
            refine hpa_goto (by rfl) ?_
            refine hpx_iast (by rfl) (by rfl) (fun A52 h0A52 h1A52 eA52 fA52 gA52 => ?_)
            refine hpa_iload_n (by rfl) rfl ?_
            refine hpa_iconst (by rfl) rfl ?_
            refine hpj_iadd (by rfl) rfl hk_1 (by omega) (by omega) (fun z53 ez53 => ?_)
            have hkd : ht_kind B n p = 23 := by rw [ht_kind_sg (by omega) (ht_not_le (by omega)) (ht_not_di (by omega)), hsg_neg (by omega)]
            have hsr := ht_sg_rng (B p)
            exact hpa_ireturn (by rfl) rfl (hP _ _ ⟨_, rfl, by rw [ht_end_sg (by omega) (ht_not_le (by omega)) (ht_not_di (by omega))]; omega, (Int32.ofNat 23), Int64.ofNat 0, by rw [eA52, eA1], by rw [fA52, fA1, hij], by rw [gA52, gA1], by rw [gA52, iA1], by rw [hkd]; exact hk_23, fun q => absurd q (by omega), fun q => absurd q (by omega)⟩)
        ·
          refine hpa_aload_n (by rfl) rfl ?_
          refine hpa_iload_n (by rfl) rfl ?_
          refine hpx_bald (by rfl) (by rfl) (fun h0v54 h1v54 v54 ev54 => ?_)
          rw [fA1] at ev54
          have tv54 : v54.toInt = B p := by rw [← ev54]; exact (hA (a1.toInt).toNat (by omega)).trans (by rw [show a1.toInt.toNat = p by omega])
          refine hpa_bipush (by rfl) rfl ?_
          refine hpj_cgt (by rfl) rfl hk_57 (fun q55 => ?_) (fun q55 => ?_)
          ·
            refine hpa_aload_n (by rfl) rfl ?_
            refine hpa_iload_n (by rfl) rfl ?_
            refine hpx_bald (by rfl) (by rfl) (fun h0v56 h1v56 v56 ev56 => ?_)
            rw [fA1] at ev56
            have tv56 : v56.toInt = B p := by rw [← ev56]; exact (hA (a1.toInt).toNat (by omega)).trans (by rw [show a1.toInt.toNat = p by omega])
            refine hpj_zge (by rfl) rfl (fun q57 => ?_) (fun q57 => ?_)
            ·
              refine hpa_ldcS (k := 0) (by rfl) rfl ?_
              refine hpa_aload_n (by rfl) rfl ?_
              refine hpa_iload_n (by rfl) rfl ?_
              refine hpx_bald (by rfl) (by rfl) (fun h0v58 h1v58 v58 ev58 => ?_)
              rw [fA1] at ev58
              have tv58 : v58.toInt = B p := by rw [← ev58]; exact (hA (a1.toInt).toNat (by omega)).trans (by rw [show a1.toInt.toNat = p by omega])
              refine hpa_i2c (by rfl) ?_
              rw [hi2c (x := v58) (by omega) (by omega)]
              refine hpa_strIdx (k := 0) (by rfl) (by rfl) ?_
              have hsx := hsg_ix (x := v58) (by omega) (by omega)
              obtain ⟨zz, hzz⟩ : ∃ zz, zz = hc_ixf v58 (hc_txt 0) 0 := ⟨_, rfl⟩
              rw [← hzz] at hsx ⊢
              rcases hsx with ⟨s1, s2⟩ | ⟨s1, s3, s2⟩
              ·
                refine hpa_s1 (by rfl) (Or.inr ⟨_, rfl, rfl⟩) rfl ?_
                refine hpa_aload_n (by rfl) rfl ?_
                refine hpa_get (v := .ref 23) (by rfl) (by rfl) (by rfl) rfl ?_
                refine hpa_aload_n (by rfl) rfl ?_
                refine hpj_getK (by rfl) (by rfl) (by rfl) (hkA eA1 rfl) ?_
                refine hpa_iload (by rfl) rfl ?_
                refine hpa_iconst (by rfl) rfl ?_
                refine hpj_cne (by rfl) rfl hk_4294967295 (fun q59 => False.elim (by omega)) (fun q59 => ?_)
                refine hpa_bipush (by rfl) rfl ?_
                refine hpa_goto (by rfl) ?_
                refine hpx_iast (by rfl) (by rfl) (fun A60 h0A60 h1A60 eA60 fA60 gA60 => ?_)
                refine hpa_iload_n (by rfl) rfl ?_
                refine hpa_iconst (by rfl) rfl ?_
                refine hpj_iadd (by rfl) rfl hk_1 (by omega) (by omega) (fun z61 ez61 => ?_)
                have hkd : ht_kind B n p = ht_sg v58.toInt := by rw [ht_kind_sg (by omega) (ht_not_le (by omega)) (ht_not_di (by omega)), ← tv58]
                have hsr := ht_sg_rng (B p)
                rw [← tv58] at hsr
                exact hpa_ireturn (by rfl) rfl (hP _ _ ⟨_, rfl, by rw [ht_end_sg (by omega) (ht_not_le (by omega)) (ht_not_di (by omega))]; omega, (Int32.ofNat 23), Int64.ofNat 0, by rw [eA60, eA1], by rw [fA60, fA1, hij], by rw [gA60, gA1], by rw [gA60, iA1], by rw [hkd, s2]; exact hk_23, fun q => absurd q (by omega), fun q => absurd q (by omega)⟩)
              ·
                refine hpa_s1 (by rfl) (Or.inr ⟨_, rfl, rfl⟩) rfl ?_
                refine hpa_aload_n (by rfl) rfl ?_
                refine hpa_get (v := .ref 23) (by rfl) (by rfl) (by rfl) rfl ?_
                refine hpa_aload_n (by rfl) rfl ?_
                refine hpj_getK (by rfl) (by rfl) (by rfl) (hkA eA1 rfl) ?_
                refine hpa_iload (by rfl) rfl ?_
                refine hpa_iconst (by rfl) rfl ?_
                refine hpj_cne (by rfl) rfl hk_4294967295 (fun q62 => ?_) (fun q62 => False.elim (by omega))
                refine hpa_bipush (by rfl) rfl ?_
                refine hpa_iload (by rfl) rfl ?_
                refine hpj_iadd (by rfl) hk_24 rfl (by omega) (by omega) (fun z63 ez63 => ?_)
                refine hpx_iast (by rfl) (by rfl) (fun A64 h0A64 h1A64 eA64 fA64 gA64 => ?_)
                refine hpa_iload_n (by rfl) rfl ?_
                refine hpa_iconst (by rfl) rfl ?_
                refine hpj_iadd (by rfl) rfl hk_1 (by omega) (by omega) (fun z65 ez65 => ?_)
                have hkd : ht_kind B n p = ht_sg v58.toInt := by rw [ht_kind_sg (by omega) (ht_not_le (by omega)) (ht_not_di (by omega)), ← tv58]
                have hsr := ht_sg_rng (B p)
                rw [← tv58] at hsr
                exact hpa_ireturn (by rfl) rfl (hP _ _ ⟨_, rfl, by rw [ht_end_sg (by omega) (ht_not_le (by omega)) (ht_not_di (by omega))]; omega, z63, Int64.ofNat 0, by rw [eA64, eA1], by rw [fA64, fA1, hij], by rw [gA64, gA1], by rw [gA64, iA1], by rw [hkd, s2]; omega, fun q => absurd q (by omega), fun q => absurd q (by omega)⟩)
            ·
              refine hpa_iconst (by rfl) rfl ?_
              refine hpa_goto (by rfl) ?_
              refine hpa_s1 (by rfl) (Or.inr ⟨_, rfl, rfl⟩) rfl ?_
              refine hpa_aload_n (by rfl) rfl ?_
              refine hpa_get (v := .ref 23) (by rfl) (by rfl) (by rfl) rfl ?_
              refine hpa_aload_n (by rfl) rfl ?_
              refine hpj_getK (by rfl) (by rfl) (by rfl) (hkA eA1 rfl) ?_
              refine hpa_iload (by rfl) rfl ?_
              refine hpa_iconst (by rfl) rfl ?_
              refine hpj_cne (by rfl) hk_4294967295 hk_4294967295 (fun q66 => False.elim (by omega)) (fun q66 => ?_)
              refine hpa_bipush (by rfl) rfl ?_
              refine hpa_goto (by rfl) ?_
              refine hpx_iast (by rfl) (by rfl) (fun A67 h0A67 h1A67 eA67 fA67 gA67 => ?_)
              refine hpa_iload_n (by rfl) rfl ?_
              refine hpa_iconst (by rfl) rfl ?_
              refine hpj_iadd (by rfl) rfl hk_1 (by omega) (by omega) (fun z68 ez68 => ?_)
              have hkd : ht_kind B n p = 23 := by rw [ht_kind_sg (by omega) (ht_not_le (by omega)) (ht_not_di (by omega)), hsg_neg (by omega)]
              have hsr := ht_sg_rng (B p)
              exact hpa_ireturn (by rfl) rfl (hP _ _ ⟨_, rfl, by rw [ht_end_sg (by omega) (ht_not_le (by omega)) (ht_not_di (by omega))]; omega, (Int32.ofNat 23), Int64.ofNat 0, by rw [eA67, eA1], by rw [fA67, fA1, hij], by rw [gA67, gA1], by rw [gA67, iA1], by rw [hkd]; exact hk_23, fun q => absurd q (by omega), fun q => absurd q (by omega)⟩)
          ·
            refine hpa_aload_n (by rfl) rfl ?_
            refine hpa_aload_n (by rfl) rfl ?_
            refine hpa_iload_n (by rfl) rfl ?_
            refine hpa_iload_n (by rfl) rfl ?_
            refine hpa_call0 (by rfl) (by rfl) (by rfl) (by rfl) (by rfl) (by rfl) (hP63 a1 a2 hA1 h1 h2 (by omega) hn (ht_not_le (by omega)) (ht_di_iff.mpr ⟨by omega, by omega⟩) hj1 hv01) ?_
            rintro _ A69 ⟨z70, rfl, fz_A69, G_A69⟩
            exact hpa_ireturn (by rfl) rfl (hP _ _ ⟨_, rfl, fz_A69, G_A69.pre eA1 fA1 gA1 iA1⟩)
      ·
        refine hpa_aload_n (by rfl) rfl ?_
        refine hpa_aload_n (by rfl) rfl ?_
        refine hpa_iload_n (by rfl) rfl ?_
        refine hpa_iload_n (by rfl) rfl ?_
        refine hpa_call0 (by rfl) (by rfl) (by rfl) (by rfl) (by rfl) (by rfl) (hP61 a1 a2 hA1 h1 h2 (by omega) hn (ht_le_iff.mpr ⟨by omega, by omega⟩) hj1 hv01) ?_
        rintro _ A71 ⟨z72, rfl, fz_A71, G_A71⟩
        exact hpa_ireturn (by rfl) rfl (hP _ _ ⟨_, rfl, fz_A71, G_A71.pre eA1 fA1 gA1 iA1⟩)
  ·
    refine hpa_aload_n (by rfl) rfl ?_
    refine hpa_get (v := .ref 23) (by rfl) (by rfl) (by rfl) rfl ?_
    refine hpa_aload_n (by rfl) rfl ?_
    refine hpj_getK (by rfl) (by rfl) (by rfl) (hkA eA1 rfl) ?_
    refine hpa_bipush (by rfl) rfl ?_
    refine hpx_iast (by rfl) (by rfl) (fun A73 h0A73 h1A73 eA73 fA73 gA73 => ?_)
    refine hpa_iload_n (by rfl) rfl ?_
    have hkd : ht_kind B n p = 22 := ht_kind_end (by omega)
    exact hpa_ireturn (by rfl) rfl (hP _ _ ⟨_, rfl, by rw [ht_end_end (by omega)]; omega, (Int32.ofNat 22), Int64.ofNat 0, by rw [eA73, eA1], by rw [fA73, fA1, hij], by rw [gA73, gA1], by rw [gA73, iA1], by rw [hkd]; exact hk_22, fun q => absurd q (by omega), fun q => absurd q (by omega)⟩)
theorem hP60 {g d : Nat} {A : hs_A} {B : Nat → Int} {n p j : Nat} (a1 a2 : Int32) (hA : hcTp B n A) (h1 : a1.toInt = (p : Int)) (h2 : a2.toInt = (n : Int)) (hp : p ≤ n) (hn : n ≤ 2000) (hBr : ∀ i, i < n → B i ≤ 127) (hj : (A.1 21 3).toInt = (j : Int)) : hpC g d 60 hm_m60 [.ref 22, .ref 2, .int a1, .int a2] A (fun r A' => ∃ z : Int32, r = some (.int z) ∧ z.toInt = (ht_end B n p : Int) ∧ hcG B n A A' p j) := hpC.all (fun f d => hW60 a1 a2 hA h1 h2 hp hn hBr hj (fun r A' h => h))
theorem hW58 {g d f : Nat} {A : hs_A} {B : Nat → Int} {n : Nat} (a1 : Int32) (hA : hcTp B n A) (h1 : a1.toInt = (n : Int)) (hn : n ≤ 2000) (hBr : ∀ i, i < n → B i ≤ 127) (hU : hcU A) {P : Option Value → hs_A → Prop} (hP : ∀ (r : Option Value) (A' : hs_A), (r = none ∧ (hcC A A' ∧ (hcT (ht_K B n) (ht_W B n) (fun u => (ht_S B n u : Int)) A' ∧ hcE (ht_K B n) (ht_E B n) A'))) → P r A') : hpa (f, g) d none hm_t58 0 [.ref 22, .ref 2, .int a1, .retAddr 0, .retAddr 0] [] A P := by
  have k0 := hk_0
  have k1 := hk_1
  have k22 := hk_22
  have k23 := hk_23
  have k400 := hk_400
  have L10 : ∀ (f : Nat) (x10_3 : Int32) (x10_4 : Int32) (A10 : hs_A) (j : Nat) (li : x10_4.toInt = (j : Int)) (sz : (A10.1 21 3).toInt = (j : Int)) (ps : x10_3.toInt = (ht_pos B n j : Int)) (fr : hcC A A10) (pre : hq_pre (ht_K B n) j) (j401 : j ≤ 401) (dn : ∀ u, u < j → hcD B n A10 u), hpa (f, g) d none hm_t58 10 [.ref 22, .ref 2, .int a1, .int x10_3, .int x10_4] [] A10 P := by
    intro f
    induction f with
    | zero => intros; exact hpa.zero
    | succ f ih10 =>
      intro x10_3 x10_4 A10 j li sz ps fr pre j401 dn
      have hps := ht_pre_S (B := B) (n := n) j pre
      have hpl := ht_pos_le B n j
      have hij : (A10.1 21 3).toNatClampNeg = j := by have := hn_cn (j := A10.1 21 3) (by omega); omega
      have hA10 : hcTp B n A10 := fun i hi => by rw [fr.2.1 1 (by omega) (by omega)]; exact hA i hi
      refine hpa_iloadS (by rfl) rfl ?_
      refine hpa_iload_n (by rfl) rfl ?_
      refine hpj_cgt (by rfl) rfl rfl (fun q1 => False.elim (by omega)) (fun q1 => ?_)
      refine hpa_aload_n (by rfl) rfl ?_
      refine hpj_getK (by rfl) (by rfl) (by rfl) rfl ?_
      refine hpa_sipush (by rfl) rfl ?_
      refine hpj_cgt (by rfl) rfl hk_400 (fun q2 => ?_) (fun q2 => ?_)
      ·
        exact hpa_return (by rfl) rfl (hP _ _ ⟨rfl, fr, hcT.of dn sz (fun u h1 _ => by omega) (hU.fr (fr.2.2.1 374 (by omega)))⟩)
      ·
        refine hpa_aload_n (by rfl) rfl ?_
        refine hpa_iload_n (by rfl) rfl ?_
        refine hpa_iload_n (by rfl) rfl ?_
        refine hpa_call2 (by rfl) (by decide) (by rfl) (by rfl) (by rfl) (hP59 x10_3 a1 hA10 ps h1 (ht_pos_le B n j)) ?_
        rintro _ _ ⟨rfl, z4, rfl, fz_A3⟩
        refine hpa_s1 (by rfl) (Or.inl ⟨_, rfl, rfl⟩) rfl ?_
        refine hpa_aload_n (by rfl) rfl ?_
        refine hpa_get (v := .ref 25) (by rfl) (by rfl) (by rfl) rfl ?_
        refine hpa_aload_n (by rfl) rfl ?_
        refine hpj_getK (by rfl) (by rfl) (by rfl) rfl ?_
        refine hpa_iload_n (by rfl) rfl ?_
        refine hpx_iast (by rfl) (by rfl) (fun A5 h0A5 h1A5 eA5 fA5 gA5 => ?_)
        rw [hij] at fA5
        have hj1 : (A5.1 21 3).toInt = (j : Int) := by rw [eA5]; exact sz
        have hA1 : hcTp B n A5 := fun i hi => by rw [fA5, hup2 (by omega), fr.2.1 1 (by omega) (by omega)]; exact hA i hi
        refine hpa_aload_n (by rfl) rfl ?_
        refine hpa_aload_n (by rfl) rfl ?_
        refine hpa_iload_n (by rfl) rfl ?_
        refine hpa_iload_n (by rfl) rfl ?_
        refine hpa_call0 (by rfl) (by rfl) (by rfl) (by rfl) (by rfl) (by rfl) (hP60 z4 a1 hA1 fz_A3 h1 (ht_S_le B n j) hn hBr hj1) ?_
        rintro _ A6 ⟨z7, rfl, fz_A6, G_A6⟩
        have hj2 : (A6.1 21 3).toInt = (j : Int) := by obtain ⟨k, v, q1, -⟩ := G_A6; rw [q1]; exact hj1
        refine hpa_s1 (by rfl) (Or.inl ⟨_, rfl, rfl⟩) rfl ?_
        refine hpa_aload_n (by rfl) rfl ?_
        refine hpa_dupR (by rfl) ?_
        refine hpj_getK (by rfl) (by rfl) (by rfl) rfl ?_
        refine hpa_iconst (by rfl) rfl ?_
        refine hpj_iadd (by rfl) rfl hk_1 (by omega) (by omega) (fun z8 ez8 => ?_)
        refine hpj_putI (by rfl) (by rfl) (by rfl) (by rfl) (fun A9 eA9 fA9 => ?_)
        have hs3 : (A9.1 21 3).toInt = ((j + 1 : Nat) : Int) := by rw [eA9, hup1]; omega
        have hC := fr.more eA5 fA5 gA5 G_A6 eA9 fA9
        have hD := hcD.more dn fA5 gA5 fz_A3 G_A6 fA9
        have hKj : (A9.2.1 22 j).toInt = ht_K B n j := G_A6.kind fA9
        refine hpa_aload_n (by rfl) rfl ?_
        refine hpa_get (v := .ref 23) (by rfl) (by rfl) (by rfl) rfl ?_
        refine hpa_aload_n (by rfl) rfl ?_
        refine hpj_getK (by rfl) (by rfl) (by rfl) (hkS eA9) ?_
        refine hpa_iconst (by rfl) rfl ?_
        refine hpj_isub (by rfl) rfl hk_1 (by omega) (by omega) (fun z10 ez10 => ?_)
        refine hpx_iald (by rfl) (by rfl) (fun h0v11 h1v11 v11 ev11 => ?_)
        rw [show z10.toNatClampNeg = j by have := hn_cn (j := z10) (by omega); omega] at ev11
        have tv11 : v11.toInt = ht_K B n j := by rw [← ev11]; exact hKj
        refine hpa_bipush (by rfl) rfl ?_
        refine hpj_ceq (by rfl) rfl hk_22 (fun q12 => ?_) (fun q12 => ?_)
        ·
          exact hpa_return (by rfl) rfl (hP _ _ ⟨rfl, hC, hcT.of hD hs3 (fun u h1 h2 => by by_cases q : u ≤ j; (exact Nat.lt_succ_of_le q); exact absurd (h2 j (by omega)) (fun w => by omega)) (hU.fr (hC.2.2.1 374 (by omega)))⟩)
        ·
          refine hpa_aload_n (by rfl) rfl ?_
          refine hpa_get (v := .ref 23) (by rfl) (by rfl) (by rfl) rfl ?_
          refine hpa_aload_n (by rfl) rfl ?_
          refine hpj_getK (by rfl) (by rfl) (by rfl) (hkS eA9) ?_
          refine hpa_iconst (by rfl) rfl ?_
          refine hpj_isub (by rfl) rfl hk_1 (by omega) (by omega) (fun z13 ez13 => ?_)
          refine hpx_iald (by rfl) (by rfl) (fun h0v14 h1v14 v14 ev14 => ?_)
          rw [show z13.toNatClampNeg = j by have := hn_cn (j := z13) (by omega); omega] at ev14
          have tv14 : v14.toInt = ht_K B n j := by rw [← ev14]; exact hKj
          refine hpa_bipush (by rfl) rfl ?_
          refine hpj_cne (by rfl) rfl hk_23 (fun q15 => ?_) (fun q15 => ?_)
          ·
            refine hpj_iinc (by rfl) rfl rfl hk_1 (by omega) (by omega) (fun _ => rfl) (fun z16 ez16 => ?_)
            refine hpa_goto (by rfl) ?_
            exact ih10 z7 z16 A9 (j + 1) (by omega) hs3 fz_A6 hC (fun i hi => by by_cases q : i = j; (subst q; exact ⟨by omega, by omega⟩); exact pre i (by omega)) (by omega) hD
          ·
            exact hpa_return (by rfl) rfl (hP _ _ ⟨rfl, hC, hcT.of hD hs3 (fun u h1 h2 => by by_cases q : u ≤ j; (exact Nat.lt_succ_of_le q); exact absurd (h2 j (by omega)) (fun w => by omega)) (hU.fr (hC.2.2.1 374 (by omega)))⟩)
  refine hpa_aload_n (by rfl) rfl ?_
  refine hpa_iconst (by rfl) rfl ?_
  refine hpj_putI (by rfl) (by rfl) (by rfl) (by rfl) (fun A17 eA17 fA17 => ?_)
  refine hpa_iconst (by rfl) rfl ?_
  refine hpa_s1 (by rfl) (Or.inl ⟨_, rfl, rfl⟩) rfl ?_
  refine hpa_iconst (by rfl) rfl ?_
  refine hpa_s1 (by rfl) (Or.inr ⟨_, rfl, rfl⟩) rfl ?_
  exact L10 _ (Int32.ofNat 0) (Int32.ofNat 0) A17 0 (by omega) (by rw [eA17, hup1]; exact hk_0) hk_0 ⟨fun i k hi => by rw [eA17, hup2 hi], fun i _ _ => by rw [fA17], fun c _ => by rw [fA17], by rw [fA17]⟩ (fun i hi => absurd hi (Nat.not_lt_zero i)) (by omega) (fun u hu => absurd hu (Nat.not_lt_zero u))
theorem hP58 {g d : Nat} {A : hs_A} {B : Nat → Int} {n : Nat} (a1 : Int32) (hA : hcTp B n A) (h1 : a1.toInt = (n : Int)) (hn : n ≤ 2000) (hBr : ∀ i, i < n → B i ≤ 127) (hU : hcU A) : hpC g d 58 hm_m58 [.ref 22, .ref 2, .int a1] A (fun r A' => r = none ∧ (hcC A A' ∧ (hcT (ht_K B n) (ht_W B n) (fun u => (ht_S B n u : Int)) A' ∧ hcE (ht_K B n) (ht_E B n) A'))) := hpC.all (fun f d => hW58 a1 hA h1 hn hBr hU (fun r A' h => h))
