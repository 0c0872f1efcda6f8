def uM149r : Nat := 312579859919558519412028866560
theorem hW149r {g d f : Nat} {A : hs_A} {sd : Nat} (a1 : Int32) (ha : a1.toInt = (sd : Int)) (hH0 : uf_H A) {P : Option Value → hs_A → Prop} (hP : ∀ (r : Option Value) (A' : hs_A), (r = none ∧ (hmP A A' ∧ (A'.2.1 376 sd).toInt = 0 ∧ (A'.2.1 379 sd).toInt = 0 ∧ A'.2.1 376 (1 - sd) = A.2.1 376 (1 - sd))) → P r A') : hpa (f, g) d none hm_t149 0 [.ref 368, .int a1, .retAddr 0] [] A P := by
  have k0 := hk_0
  have k1 := hk_1
  have k24 := hk_24
  have k4 := hk_4
  have k6 := hk_6
  have hia : a1.toNatClampNeg = sd := by have := hn_cn (j := a1) (by omega); omega
  have U0 : uf_W uM149r A A := uf_W.rfl
  have O0 : A.2.1 376 (1 - sd) = A.2.1 376 (1 - sd) := rfl
  have L57 : ∀ (f : Nat) (x57_2 : Int32) (A57 : hs_A) (P57 : hmP A A57) (z157 : (A57.2.1 376 sd).toInt = 0) (z257 : (A57.2.1 379 sd).toInt = 0) (O57 : A57.2.1 376 (1 - sd) = A.2.1 376 (1 - sd)) (U57 : uf_W uM149r A A57) (H57 : uf_H A57), hpa (f, g) d none hm_t149 57 [.ref 368, .int a1, .int x57_2] [] A57 P := by
    intro f
    induction f with
    | zero => intros; exact hpa.zero
    | succ f ih57 =>
      intro x57_2 A57 P57 z157 z257 O57 U57 H57
      refine hpa_iload_nS (by rfl) rfl ?_
      refine hpa_iconst (by rfl) rfl ?_
      refine hpj_cge (by rfl) rfl hk_4 (fun q1 => ?_) (fun q1 => ?_)
      ·
        exact hpa_return (by rfl) rfl (hP _ _ ⟨rfl, P57, z157, z257, O57⟩)
      ·
        refine hpa_aload_n (by rfl) rfl ?_
        refine hpa_get (v := .ref 384) (by rfl) (by rfl) (by rfl) rfl ?_
        refine hpa_iconst (by rfl) rfl ?_
        refine hpa_iload_n (by rfl) rfl ?_
        refine hpj_imulU (by rfl) (fun z2 => ?_)
        refine hpa_iload_n (by rfl) rfl ?_
        refine hpj_iaddU (by rfl) (fun z3 => ?_)
        refine hpa_iconst (by rfl) rfl ?_
        refine hpx_iast (by rfl) (by rfl) (fun A4 h0A4 h1A4 eA4 fA4 gA4 => ?_)
        have UA4 := (U57).ar eA4 fA4 gA4 (by decide +kernel)
        have HA4 := (H57).e (congrArg (fun q => q.2) gA4)
        have OA4 : A4.2.1 376 (1 - sd) = A.2.1 376 (1 - sd) := by rw [fA4, hup2 (fun q => by omega)] <;> exact O57
        have PA4 := (P57).a eA4 fA4 gA4 (by omega)
        have z1A4 := hzk z157 fA4 (by omega)
        have z2A4 := hzk z257 fA4 (by omega)
        refine hpa_aload_n (by rfl) rfl ?_
        refine hpa_get (v := .ref 385) (by rfl) (by rfl) (by rfl) rfl ?_
        refine hpa_iconst (by rfl) rfl ?_
        refine hpa_iload_n (by rfl) rfl ?_
        refine hpj_imulU (by rfl) (fun z5 => ?_)
        refine hpa_iload_n (by rfl) rfl ?_
        refine hpj_iaddU (by rfl) (fun z6 => ?_)
        refine hpa_iconst (by rfl) rfl ?_
        refine hpx_iast (by rfl) (by rfl) (fun A7 h0A7 h1A7 eA7 fA7 gA7 => ?_)
        have UA7 := (UA4).ar eA7 fA7 gA7 (by decide +kernel)
        have HA7 := (HA4).e (congrArg (fun q => q.2) gA7)
        have OA7 : A7.2.1 376 (1 - sd) = A.2.1 376 (1 - sd) := by rw [fA7, hup2 (fun q => by omega)] <;> exact OA4
        have PA7 := (PA4).a eA7 fA7 gA7 (by omega)
        have z1A7 := hzk z1A4 fA7 (by omega)
        have z2A7 := hzk z2A4 fA7 (by omega)
        refine hpj_iincU (by rfl) rfl (fun _ => rfl) (fun z8 => ?_)
        refine hpa_goto (by rfl) ?_
        exact ih57 z8 A7 PA7 z1A7 z2A7 OA7 UA7 HA7
  have L31 : ∀ (f : Nat) (x31_2 : Int32) (A31 : hs_A) (P31 : hmP A A31) (z131 : (A31.2.1 376 sd).toInt = 0) (z231 : (A31.2.1 379 sd).toInt = 0) (O31 : A31.2.1 376 (1 - sd) = A.2.1 376 (1 - sd)) (U31 : uf_W uM149r A A31) (H31 : uf_H A31), hpa (f, g) d none hm_t149 31 [.ref 368, .int a1, .int x31_2] [] A31 P := by
    intro f
    induction f with
    | zero => intros; exact hpa.zero
    | succ f ih31 =>
      intro x31_2 A31 P31 z131 z231 O31 U31 H31
      refine hpa_iload_nS (by rfl) rfl ?_
      refine hpa_bipush (by rfl) rfl ?_
      refine hpj_cge (by rfl) rfl hk_24 (fun q9 => ?_) (fun q9 => ?_)
      ·
        refine hpa_iconst (by rfl) rfl ?_
        refine hpa_s1 (by rfl) (Or.inl ⟨_, rfl, rfl⟩) rfl ?_
        exact L57 _ (Int32.ofNat 0) A31 P31 z131 z231 O31 U31 H31
      ·
        refine hpa_aload_n (by rfl) rfl ?_
        refine hpa_get (v := .ref 381) (by rfl) (by rfl) (by rfl) rfl ?_
        refine hpa_bipush (by rfl) rfl ?_
        refine hpa_iload_n (by rfl) rfl ?_
        refine hpj_imulU (by rfl) (fun z10 => ?_)
        refine hpa_iload_n (by rfl) rfl ?_
        refine hpj_iaddU (by rfl) (fun z11 => ?_)
        refine hpa_iconst (by rfl) rfl ?_
        refine hpx_iast (by rfl) (by rfl) (fun A12 h0A12 h1A12 eA12 fA12 gA12 => ?_)
        have UA12 := (U31).ar eA12 fA12 gA12 (by decide +kernel)
        have HA12 := (H31).e (congrArg (fun q => q.2) gA12)
        have OA12 : A12.2.1 376 (1 - sd) = A.2.1 376 (1 - sd) := by rw [fA12, hup2 (fun q => by omega)] <;> exact O31
        have PA12 := (P31).a eA12 fA12 gA12 (by omega)
        have z1A12 := hzk z131 fA12 (by omega)
        have z2A12 := hzk z231 fA12 (by omega)
        refine hpj_iincU (by rfl) rfl (fun _ => rfl) (fun z13 => ?_)
        refine hpa_goto (by rfl) ?_
        exact ih31 z13 A12 PA12 z1A12 z2A12 OA12 UA12 HA12
  refine hpa_aload_n (by rfl) rfl ?_
  refine hpa_get (v := .ref 377) (by rfl) (by rfl) (by rfl) rfl ?_
  refine hpa_iload_n (by rfl) rfl ?_
  refine hpa_iconst (by rfl) rfl ?_
  refine hpx_iast (by rfl) (by rfl) (fun A14 h0A14 h1A14 eA14 fA14 gA14 => ?_)
  have UA14 := (U0).ar eA14 fA14 gA14 (by decide +kernel)
  have HA14 := (hH0).e (congrArg (fun q => q.2) gA14)
  have OA14 : A14.2.1 376 (1 - sd) = A.2.1 376 (1 - sd) := by rw [fA14, hup2 (fun q => by omega)] <;> exact O0
  have PA14 := (hmP.rfl (A := A)).a eA14 fA14 gA14 (by omega)
  have z1A14 : (A14.2.1 376 sd).toInt = 0 := by rw [fA14, hia, hup1]; exact hk_0
  refine hpa_aload_n (by rfl) rfl ?_
  refine hpa_get (v := .ref 380) (by rfl) (by rfl) (by rfl) rfl ?_
  refine hpa_iload_n (by rfl) rfl ?_
  refine hpa_iconst (by rfl) rfl ?_
  refine hpx_iast (by rfl) (by rfl) (fun A15 h0A15 h1A15 eA15 fA15 gA15 => ?_)
  have UA15 := (UA14).ar eA15 fA15 gA15 (by decide +kernel)
  have HA15 := (HA14).e (congrArg (fun q => q.2) gA15)
  have OA15 : A15.2.1 376 (1 - sd) = A.2.1 376 (1 - sd) := by rw [fA15, hup2 (fun q => by omega)] <;> exact OA14
  have PA15 := (PA14).a eA15 fA15 gA15 (by omega)
  have z1A15 := hzk z1A14 fA15 (by omega)
  have z2A15 : (A15.2.1 379 sd).toInt = 0 := by rw [fA15, hia, hup1]; exact hk_0
  refine hpa_aload_n (by rfl) rfl ?_
  refine hpa_get (v := .ref 382) (by rfl) (by rfl) (by rfl) rfl ?_
  refine hpa_iload_n (by rfl) rfl ?_
  refine hpa_bipush (by rfl) rfl ?_
  refine hpx_iast (by rfl) (by rfl) (fun A16 h0A16 h1A16 eA16 fA16 gA16 => ?_)
  have UA16 := (UA15).ar eA16 fA16 gA16 (by decide +kernel)
  have HA16 := (HA15).e (congrArg (fun q => q.2) gA16)
  have OA16 : A16.2.1 376 (1 - sd) = A.2.1 376 (1 - sd) := by rw [fA16, hup2 (fun q => by omega)] <;> exact OA15
  have PA16 := (PA15).a eA16 fA16 gA16 (by omega)
  have z1A16 := hzk z1A15 fA16 (by omega)
  have z2A16 := hzk z2A15 fA16 (by omega)
  refine hpa_aload_n (by rfl) rfl ?_
  refine hpa_get (v := .ref 383) (by rfl) (by rfl) (by rfl) rfl ?_
  refine hpa_iload_n (by rfl) rfl ?_
  refine hpa_iconst (by rfl) rfl ?_
  refine hpx_iast (by rfl) (by rfl) (fun A17 h0A17 h1A17 eA17 fA17 gA17 => ?_)
  have UA17 := (UA16).ar eA17 fA17 gA17 (by decide +kernel)
  have HA17 := (HA16).e (congrArg (fun q => q.2) gA17)
  have OA17 : A17.2.1 376 (1 - sd) = A.2.1 376 (1 - sd) := by rw [fA17, hup2 (fun q => by omega)] <;> exact OA16
  have PA17 := (PA16).a eA17 fA17 gA17 (by omega)
  have z1A17 := hzk z1A16 fA17 (by omega)
  have z2A17 := hzk z2A16 fA17 (by omega)
  refine hpa_iconst (by rfl) rfl ?_
  refine hpa_s1 (by rfl) (Or.inl ⟨_, rfl, rfl⟩) rfl ?_
  exact L31 _ (Int32.ofNat 0) A17 PA17 z1A17 z2A17 OA17 UA17 HA17
theorem hP149r {g d : Nat} {A : hs_A} {sd : Nat} (a1 : Int32) (ha : a1.toInt = (sd : Int)) (hH0 : uf_H A) : hpC g d 149 hm_m149 [.ref 368, .int a1] A (fun r A' => r = none ∧ (hmP A A' ∧ (A'.2.1 376 sd).toInt = 0 ∧ (A'.2.1 379 sd).toInt = 0 ∧ A'.2.1 376 (1 - sd) = A.2.1 376 (1 - sd))) := hpC.all (fun f d => hW149r a1 ha hH0 (fun r A' h => h))
def uM156r : Nat := 33174433566491089988853087204989085599961850606706026239579745138443142513557504
theorem hW156r {g d f : Nat} {A : hs_A} {K V S : Nat → Int} {E : Nat → Nat → Bool} {t : Nat} {a b c : Nat} {ns : List Nat} {nm sn sd : Nat} {o : Option (Nat × Nat)} (hS : hmS K S) (hB : hmB K V S E A t (1, a, b, c, ns, nm, sn, o)) (hR : hmR S A t ns sn o sd 0) (hH0 : uf_H A) {P : Option Value → hs_A → Prop} (hP : ∀ (r : Option Value) (A' : hs_A), (r = none ∧ ((hmOK K V S E A' t sd ∧ A'.2.1 376 (1 - sd) = A.2.1 376 (1 - sd)) ∨ (hmF K V S E A' ∧ A'.2.1 376 (1 - sd) = A.2.1 376 (1 - sd)))) → P r A') : hpa (f, g) d none hm_t156 0 [.ref 368, .retAddr 0, .retAddr 0, .retAddr 0] [] A P := by
  have k0 := hk_0
  have k1 := hk_1
  have k10 := hk_10
  have k255 := hk_255
  have k3 := hk_3
  have k4 := hk_4
  have k99 := hk_99
  obtain ⟨h400, hpre, hix, hkk, hss, hvv⟩ := hB.at
  have hnx := hB.2.1
  have hqq := hB.2.2.1
  have hf0 := hB.2.2.2
  have U0 : uf_W uM156r A A := uf_W.rfl
  have O0 : A.2.1 376 (1 - sd) = A.2.1 376 (1 - sd) := rfl
  have L30 : ∀ (f : Nat) (x30_1 : Int32) (x30_2 : Int32) (x30_3 : Int32) (A30 : hs_A) (l2 : x30_2.toInt = (t : Int)) (lo : 0 ≤ x30_3.toInt) (D30 : (hmB K V S E A30 (t + 1) (2, 0, 0, 0, ns, t, sn, (if ns.any (fun u => E u t) then hq_late 3 t o else o)) ∧ hmR S A30 (t + 1) ns sn (if (ns.drop (ns.length - (x30_3.toInt).toNat)).any (fun u => E u t) then hq_late 3 t o else o) sd 0 ∧ x30_3.toInt ≤ (ns.length : Int) ∧ K t = 20) ∨ hmF K V S E A30) (O30 : A30.2.1 376 (1 - sd) = A.2.1 376 (1 - sd)) (U30 : uf_W uM156r A A30) (H30 : uf_H A30), hpa (f, g) d none hm_t156 30 [.ref 368, .int x30_1, .int x30_2, .int x30_3] [] A30 P := by
    intro f
    induction f with
    | zero => intros; exact hpa.zero
    | succ f ih30 =>
      intro x30_1 x30_2 x30_3 A30 l2 lo D30 O30 U30 H30
      rcases D30 with ⟨B1, R1, le1, kt⟩ | F1
      ·
        have f01 := B1.2.2.2
        have nx1 := B1.2.1
        have rn1 := R1.2.2.2.2.2.1
        refine hpa_iload_nS (by rfl) rfl ?_
        refine hpa_aload_n (by rfl) rfl ?_
        refine hpj_getK (by rfl) (by rfl) (by rfl) rfl ?_
        refine hpj_cge (by rfl) rfl rfl (fun q1 => ?_) (fun q1 => ?_)
        ·
          rw [show ns.length - x30_3.toInt.toNat = 0 by omega, List.drop_zero] at R1
          refine hpa_aload_n (by rfl) rfl ?_
          refine hpa_get (v := .ref 378) (by rfl) (by rfl) (by rfl) rfl ?_
          refine hpa_iload_n (by rfl) rfl ?_
          refine hpa_aload_n (by rfl) rfl ?_
          refine hpa_iconst (by rfl) rfl ?_
          refine hpa_sipush (by rfl) rfl ?_
          refine hpa_call0 (by rfl) (by rfl) (by rfl) (by rfl) (by rfl) (by rfl) (uf_C (X := ug_x177) (j := 177) rfl rfl (ug_L.cons (uf_rk_ok (by decide +kernel)) (uf_int (uf_int uf_nil))) H30 (hP155 (Int32.ofNat 0) (Int32.ofNat 255) hS hk_0 hk_255 B1 R1 rfl)) ?_
          rintro _ A2 ⟨⟨z3, rfl, (⟨B_A2, R_A2⟩ | F_A2)⟩, wA2, HA2⟩
          ·
            have UA2 := (U30).trans (wA2.le (by decide +kernel : ug_wle ug_x177.2.2.2.1 uM156r = true))
            have OA2 := (wA2.2.1 376 _ _ (1 - sd) rfl (by omega) (by decide +kernel)).trans O30
            have f0_A2 := B_A2.2.2.2
            have nx_A2 := B_A2.2.1
            have rd_A2 := R_A2.2.2.1
            refine hpx_iast (by rfl) (by rfl) (fun A4 h0A4 h1A4 eA4 fA4 gA4 => ?_)
            have UA4 := (UA2).ar eA4 fA4 gA4 (by decide +kernel)
            have HA4 := (HA2).e (congrArg (fun q => q.2) gA4)
            have OA4 : A4.2.1 376 (1 - sd) = A.2.1 376 (1 - sd) := by rw [fA4, hup2 (fun q => by omega)] <;> exact OA2
            have BA4 := B_A2.ar eA4 fA4 gA4 (by omega)
            have RA4 := R_A2.ar eA4 fA4 gA4 (by omega)
            have f0A4 := BA4.2.2.2
            have nxA4 := BA4.2.1
            have rdA4 := RA4.2.2.1
            refine hpa_aload_n (by rfl) rfl ?_
            refine hpa_get (v := .ref 379) (by rfl) (by rfl) (by rfl) rfl ?_
            refine hpa_iload_n (by rfl) rfl ?_
            refine hpa_aload_n (by rfl) rfl ?_
            refine hpa_iconst (by rfl) rfl ?_
            refine hpa_bipush (by rfl) rfl ?_
            refine hpa_call0 (by rfl) (by rfl) (by rfl) (by rfl) (by rfl) (by rfl) (uf_C (X := ug_x177) (j := 177) rfl rfl (ug_L.cons (uf_rk_ok (by decide +kernel)) (uf_int (uf_int uf_nil))) HA4 (hP155 (Int32.ofNat 0) (Int32.ofNat 99) hS hk_0 hk_99 BA4 RA4 rfl)) ?_
            rintro _ A5 ⟨⟨z6, rfl, (⟨B_A5, R_A5⟩ | F_A5)⟩, wA5, HA5⟩
            ·
              have UA5 := (UA4).trans (wA5.le (by decide +kernel : ug_wle ug_x177.2.2.2.1 uM156r = true))
              have OA5 := (wA5.2.1 376 _ _ (1 - sd) rfl (by omega) (by decide +kernel)).trans OA4
              have f0_A5 := B_A5.2.2.2
              have nx_A5 := B_A5.2.1
              have rd_A5 := R_A5.2.2.1
              refine hpx_iast (by rfl) (by rfl) (fun A7 h0A7 h1A7 eA7 fA7 gA7 => ?_)
              have UA7 := (UA5).ar eA7 fA7 gA7 (by decide +kernel)
              have HA7 := (HA5).e (congrArg (fun q => q.2) gA7)
              have OA7 : A7.2.1 376 (1 - sd) = A.2.1 376 (1 - sd) := by rw [fA7, hup2 (fun q => by omega)] <;> exact OA5
              have BA7 := B_A5.ar eA7 fA7 gA7 (by omega)
              have RA7 := R_A5.ar eA7 fA7 gA7 (by omega)
              have f0A7 := BA7.2.2.2
              have nxA7 := BA7.2.1
              have rdA7 := RA7.2.2.1
              refine hpa_aload_n (by rfl) rfl ?_
              refine hpa_iconst (by rfl) rfl ?_
              refine hpa_call0 (by rfl) (by rfl) (by rfl) (by rfl) (by rfl) (by rfl) (uf_C (X := ug_x210) (j := 210) rfl rfl (ug_L.cons (uf_rk_ok (by decide +kernel)) (uf_int uf_nil)) HA7 (hP148 (Int32.ofNat 4) BA7 RA7 (BA7.i4 hk_4) rfl)) ?_
              rintro _ A8 ⟨⟨rfl, (⟨B_A8, R_A8⟩ | F_A8)⟩, wA8, HA8⟩
              ·
                have UA8 := (UA7).trans (wA8.le (by decide +kernel : ug_wle ug_x210.2.2.2.1 uM156r = true))
                have OA8 := (wA8.2.1 376 _ _ (1 - sd) rfl (by omega) (by decide +kernel)).trans OA7
                have f0_A8 := B_A8.2.2.2
                have nx_A8 := B_A8.2.1
                have rd_A8 := R_A8.2.2.1
                refine hpa_aload_n (by rfl) rfl ?_
                refine hpj_getK (by rfl) (by rfl) (by rfl) rfl ?_
                refine hpj_zle (by rfl) rfl (fun q9 => ?_) (fun q9 => False.elim (by omega))
                refine hpa_aload_n (by rfl) rfl ?_
                refine hpa_get (v := .ref 376) (by rfl) (by rfl) (by rfl) rfl ?_
                refine hpa_aload_n (by rfl) rfl ?_
                refine hpj_getK (by rfl) (by rfl) (by rfl) rfl ?_
                refine hpa_aload_n (by rfl) rfl ?_
                refine hpa_get (v := .ref 374) (by rfl) (by rfl) (by rfl) rfl ?_
                refine hpa_iload_n (by rfl) rfl ?_
                refine hpx_lald (by rfl) (by rfl) (fun h0v10 h1v10 v10 ev10 => ?_)
                have hi2 : x30_2.toNatClampNeg = t := by have := hn_cn (j := x30_2) (by omega); omega
                rw [hi2] at ev10
                have rn := R_A8.2.2.2.2.2.1
                have rh := R_A8.2.2.2.1
                have rs := R_A8.1
                have rs1 := R_A8.2.1
                have hcn := hn_cn (j := A8.1 367 20) (by omega)
                have hcs := hn_cn (j := A8.1 367 19) (by omega)
                have hl10 := (hq_q_inv B_A8.2.2.1).1.2.2.1
                have hl11 : (t :: ns).length = ns.length + 1 := rfl
                refine hpx_last (by rfl) (by rfl) (fun A11 h0A11 h1A11 eA11 fA11 gA11 iA11 => ?_)
                have UA11 := (UA8).lar eA11 fA11 gA11 iA11 (by decide +kernel)
                have HA11 := (HA8).e iA11
                have OA11 : A11.2.1 376 (1 - sd) = A.2.1 376 (1 - sd) := by rw [fA11] <;> exact OA8
                refine hpa_aload_n (by rfl) rfl ?_
                refine hpa_dupR (by rfl) ?_
                refine hpj_getK (by rfl) (by rfl) (by rfl) (hkA eA11 rfl) ?_
                refine hpa_iconst (by rfl) rfl ?_
                refine hpj_iadd (by rfl) rfl hk_1 (by omega) (by omega) (fun z12 ez12 => ?_)
                refine hpj_putI (by rfl) (by rfl) (by rfl) (by rfl) (fun A13 eA13 fA13 => ?_)
                have UA13 := (UA11).put eA13 fA13 (by decide +kernel)
                have HA13 := (HA11).e (congrArg (fun q => q.2.2) fA13)
                have OA13 : A13.2.1 376 (1 - sd) = A.2.1 376 (1 - sd) := by rw [fA13] <;> exact OA11
                refine hpa_aload_n (by rfl) rfl ?_
                refine hpa_get (v := .ref 377) (by rfl) (by rfl) (by rfl) rfl ?_
                refine hpa_aload_n (by rfl) rfl ?_
                refine hpj_getK (by rfl) (by rfl) (by rfl) (hkF eA13 (by omega) (hkA eA11 rfl)) ?_
                refine hpa_dup2IR (by rfl) ?_
                refine hpx_iald (by rfl) (by rfl) (fun h0v14 h1v14 v14 ev14 => ?_)
                rw [fA13, fA11, show (A8.1 367 19).toNatClampNeg = sd by omega] at ev14
                have tv14 : v14.toInt = (ns.length : Int) := by rw [← ev14]; exact rh
                refine hpa_iconst (by rfl) rfl ?_
                refine hpj_iadd (by rfl) rfl hk_1 (by omega) (by omega) (fun z15 ez15 => ?_)
                refine hpx_iast (by rfl) (by rfl) (fun A16 h0A16 h1A16 eA16 fA16 gA16 => ?_)
                have UA16 := (UA13).ar eA16 fA16 gA16 (by decide +kernel)
                have HA16 := (HA13).e (congrArg (fun q => q.2) gA16)
                have OA16 : A16.2.1 376 (1 - sd) = A.2.1 376 (1 - sd) := by rw [fA16, hup2 (fun q => by omega)] <;> exact OA13
                rw [show (A8.1 367 19).toNatClampNeg = sd by omega] at fA16
                have BA16 := B_A8.house eA11 fA11 gA11 eA13 fA13 eA16 fA16 gA16
                have RA16 := R_A8.house (u := t) eA11 fA11 gA11 (by omega) ev10 eA13 fA13 (by omega) eA16 fA16 gA16 (by omega)
                exact hpa_return (by rfl) rfl (hP _ _ ⟨rfl, Or.inl ⟨⟨_, _, _, _, _, _, _, _, by omega, BA16, RA16⟩, OA16⟩⟩)
              ·
                have UA8 := (UA7).trans (wA8.le (by decide +kernel : ug_wle ug_x210.2.2.2.1 uM156r = true))
                have OA8 := (wA8.2.1 376 _ _ (1 - sd) rfl (by omega) (by decide +kernel)).trans OA7
                have fp_A8 := F_A8.pos
                refine hpa_aload_n (by rfl) rfl ?_
                refine hpj_getK (by rfl) (by rfl) (by rfl) rfl ?_
                refine hpj_zle (by rfl) rfl (fun q17 => False.elim (by omega)) (fun q17 => ?_)
                exact hpa_return (by rfl) rfl (hP _ _ ⟨rfl, Or.inr ⟨F_A8, OA8⟩⟩)
            ·
              have UA5 := (UA4).trans (wA5.le (by decide +kernel : ug_wle ug_x177.2.2.2.1 uM156r = true))
              have OA5 := (wA5.2.1 376 _ _ (1 - sd) rfl (by omega) (by decide +kernel)).trans OA4
              have fp_A5 := F_A5.pos
              refine hpx_iast (by rfl) (by rfl) (fun A18 h0A18 h1A18 eA18 fA18 gA18 => ?_)
              have UA18 := (UA5).ar eA18 fA18 gA18 (by decide +kernel)
              have HA18 := (HA5).e (congrArg (fun q => q.2) gA18)
              have OA18 : A18.2.1 376 (1 - sd) = A.2.1 376 (1 - sd) := by rw [fA18, hup2 (fun q => by omega)] <;> exact OA5
              have FA18 := F_A5.ar eA18 gA18
              have fpA18 := FA18.pos
              refine hpa_aload_n (by rfl) rfl ?_
              refine hpa_iconst (by rfl) rfl ?_
              refine hpa_call0 (by rfl) (by rfl) (by rfl) (by rfl) (by rfl) (by rfl) (uf_C (X := ug_x210) (j := 210) rfl rfl (ug_L.cons (uf_rk_ok (by decide +kernel)) (uf_int uf_nil)) HA18 (hP148d (Int32.ofNat 4) FA18)) ?_
              rintro _ A19 ⟨⟨rfl, F_A19⟩, wA19, HA19⟩
              have UA19 := (UA18).trans (wA19.le (by decide +kernel : ug_wle ug_x210.2.2.2.1 uM156r = true))
              have OA19 := (wA19.2.1 376 _ _ (1 - sd) rfl (by omega) (by decide +kernel)).trans OA18
              have fp_A19 := F_A19.pos
              refine hpa_aload_n (by rfl) rfl ?_
              refine hpj_getK (by rfl) (by rfl) (by rfl) rfl ?_
              refine hpj_zle (by rfl) rfl (fun q20 => False.elim (by omega)) (fun q20 => ?_)
              exact hpa_return (by rfl) rfl (hP _ _ ⟨rfl, Or.inr ⟨F_A19, OA19⟩⟩)
          ·
            have UA2 := (U30).trans (wA2.le (by decide +kernel : ug_wle ug_x177.2.2.2.1 uM156r = true))
            have OA2 := (wA2.2.1 376 _ _ (1 - sd) rfl (by omega) (by decide +kernel)).trans O30
            have fp_A2 := F_A2.pos
            refine hpx_iast (by rfl) (by rfl) (fun A21 h0A21 h1A21 eA21 fA21 gA21 => ?_)
            have UA21 := (UA2).ar eA21 fA21 gA21 (by decide +kernel)
            have HA21 := (HA2).e (congrArg (fun q => q.2) gA21)
            have OA21 : A21.2.1 376 (1 - sd) = A.2.1 376 (1 - sd) := by rw [fA21, hup2 (fun q => by omega)] <;> exact OA2
            have FA21 := F_A2.ar eA21 gA21
            have fpA21 := FA21.pos
            refine hpa_aload_n (by rfl) rfl ?_
            refine hpa_get (v := .ref 379) (by rfl) (by rfl) (by rfl) rfl ?_
            refine hpa_iload_n (by rfl) rfl ?_
            refine hpa_aload_n (by rfl) rfl ?_
            refine hpa_iconst (by rfl) rfl ?_
            refine hpa_bipush (by rfl) rfl ?_
            refine hpa_call0 (by rfl) (by rfl) (by rfl) (by rfl) (by rfl) (by rfl) (uf_C (X := ug_x177) (j := 177) rfl rfl (ug_L.cons (uf_rk_ok (by decide +kernel)) (uf_int (uf_int uf_nil))) HA21 (hP155d (Int32.ofNat 0) (Int32.ofNat 99) FA21)) ?_
            rintro _ A22 ⟨⟨z23, rfl, F_A22⟩, wA22, HA22⟩
            have UA22 := (UA21).trans (wA22.le (by decide +kernel : ug_wle ug_x177.2.2.2.1 uM156r = true))
            have OA22 := (wA22.2.1 376 _ _ (1 - sd) rfl (by omega) (by decide +kernel)).trans OA21
            have fp_A22 := F_A22.pos
            refine hpx_iast (by rfl) (by rfl) (fun A24 h0A24 h1A24 eA24 fA24 gA24 => ?_)
            have UA24 := (UA22).ar eA24 fA24 gA24 (by decide +kernel)
            have HA24 := (HA22).e (congrArg (fun q => q.2) gA24)
            have OA24 : A24.2.1 376 (1 - sd) = A.2.1 376 (1 - sd) := by rw [fA24, hup2 (fun q => by omega)] <;> exact OA22
            have FA24 := F_A22.ar eA24 gA24
            have fpA24 := FA24.pos
            refine hpa_aload_n (by rfl) rfl ?_
            refine hpa_iconst (by rfl) rfl ?_
            refine hpa_call0 (by rfl) (by rfl) (by rfl) (by rfl) (by rfl) (by rfl) (uf_C (X := ug_x210) (j := 210) rfl rfl (ug_L.cons (uf_rk_ok (by decide +kernel)) (uf_int uf_nil)) HA24 (hP148d (Int32.ofNat 4) FA24)) ?_
            rintro _ A25 ⟨⟨rfl, F_A25⟩, wA25, HA25⟩
            have UA25 := (UA24).trans (wA25.le (by decide +kernel : ug_wle ug_x210.2.2.2.1 uM156r = true))
            have OA25 := (wA25.2.1 376 _ _ (1 - sd) rfl (by omega) (by decide +kernel)).trans OA24
            have fp_A25 := F_A25.pos
            refine hpa_aload_n (by rfl) rfl ?_
            refine hpj_getK (by rfl) (by rfl) (by rfl) rfl ?_
            refine hpj_zle (by rfl) rfl (fun q26 => False.elim (by omega)) (fun q26 => ?_)
            exact hpa_return (by rfl) rfl (hP _ _ ⟨rfl, Or.inr ⟨F_A25, OA25⟩⟩)
        ·
          refine hpa_aload_n (by rfl) rfl ?_
          refine hpj_getK (by rfl) (by rfl) (by rfl) rfl ?_
          refine hpj_zne (by rfl) rfl (fun q27 => False.elim (by omega)) (fun q27 => ?_)
          refine hpa_aload_n (by rfl) rfl ?_
          refine hpa_get (v := .ref 376) (by rfl) (by rfl) (by rfl) rfl ?_
          refine hpa_iload_n (by rfl) rfl ?_
          refine hpx_lald (by rfl) (by rfl) (fun h0v28 h1v28 v28 ev28 => ?_)
          refine hpa_aload_n (by rfl) rfl ?_
          refine hpa_get (v := .ref 374) (by rfl) (by rfl) (by rfl) rfl ?_
          refine hpa_iload_n (by rfl) rfl ?_
          refine hpx_lald (by rfl) (by rfl) (fun h0v29 h1v29 v29 ev29 => ?_)
          have hi2 : x30_2.toNatClampNeg = t := by have := hn_cn (j := x30_2) (by omega); omega
          rw [hi2] at ev29
          obtain ⟨u, hu, hdr, hnu⟩ := R1.2.2.2.2.2.2.1.at (i := x30_3.toInt.toNat) (by omega)
          have hvu : v28 = A30.2.2.1 373 u := ev28.symm.trans hnu
          have hut := (hq_q_inv hqq).1.1 u hu
          have hEE := B1.1.2.1 u t (by omega) h400 (fun i hi => hpre i (by omega)) hpre hut.2 kt
          refine hpa_lcmp (by rfl) ?_
          refine hpj_zne (by rfl) rfl (fun q30 => ?_) (fun q30 => ?_)
          ·
            have hne : ¬ E u t = true := fun w => q30 (hlg0.mpr (by rw [hvu, ← ev29]; exact hEE.mpr w))
            refine hpj_iinc (by rfl) rfl rfl hk_1 (by omega) (by omega) (fun _ => rfl) (fun z31 ez31 => ?_)
            refine hpa_goto (by rfl) ?_
            exact ih30 x30_1 x30_2 z31 A30 (by omega) (by omega) (Or.inl ⟨B1, by rw [show z31.toInt.toNat = x30_3.toInt.toNat + 1 by omega, hanyF hdr hne]; exact R1, by omega, kt⟩) O30 U30 H30
          ·
            have heq : E u t = true := hEE.mp (by rw [← hvu, ev29]; exact hlg0.mp q30)
            refine hpa_aload_n (by rfl) rfl ?_
            refine hpa_iconst (by rfl) rfl ?_
            refine hpa_iload_n (by rfl) rfl ?_
            refine hpa_call0 (by rfl) (by rfl) (by rfl) (by rfl) (by rfl) (by rfl) (uf_C (X := ug_x211) (j := 211) rfl rfl (ug_L.cons (uf_rk_ok (by decide +kernel)) (uf_int (uf_int uf_nil))) H30 (hP146 (Int32.ofNat 3) x30_2 hS B1 R1 l2 (Nat.le_succ t) (fun c hc => hmLt hR hc) (by split; exact Or.inr rfl; exact Or.inl rfl) (by decide) hk_3)) ?_
            rintro _ A32 ⟨⟨rfl, B_A32, R_A32, L_A32⟩, wA32, HA32⟩
            have UA32 := (U30).trans (wA32.le (by decide +kernel : ug_wle ug_x211.2.2.2.1 uM156r = true))
            have OA32 := (wA32.2.1 376 _ _ (1 - sd) rfl (by omega) (by decide +kernel)).trans O30
            have f0_A32 := B_A32.2.2.2
            have nx_A32 := B_A32.2.1
            have rd_A32 := R_A32.2.2.1
            refine hpj_iinc (by rfl) rfl rfl hk_1 (by omega) (by omega) (fun _ => rfl) (fun z33 ez33 => ?_)
            refine hpa_goto (by rfl) ?_
            exact ih30 x30_1 x30_2 z33 A32 (by omega) (by omega) (Or.inl ⟨B_A32, by rw [show z33.toInt.toNat = x30_3.toInt.toNat + 1 by omega, hanyX hdr heq]; exact R_A32, by omega, kt⟩) OA32 UA32 HA32
      ·
        have fp1 := F1.pos
        refine hpa_iload_nS (by rfl) rfl ?_
        refine hpa_aload_n (by rfl) rfl ?_
        refine hpj_getK (by rfl) (by rfl) (by rfl) rfl ?_
        refine hpj_cge (by rfl) rfl rfl (fun q34 => ?_) (fun q34 => ?_)
        ·
          refine hpa_aload_n (by rfl) rfl ?_
          refine hpa_get (v := .ref 378) (by rfl) (by rfl) (by rfl) rfl ?_
          refine hpa_iload_n (by rfl) rfl ?_
          refine hpa_aload_n (by rfl) rfl ?_
          refine hpa_iconst (by rfl) rfl ?_
          refine hpa_sipush (by rfl) rfl ?_
          refine hpa_call0 (by rfl) (by rfl) (by rfl) (by rfl) (by rfl) (by rfl) (uf_C (X := ug_x177) (j := 177) rfl rfl (ug_L.cons (uf_rk_ok (by decide +kernel)) (uf_int (uf_int uf_nil))) H30 (hP155d (Int32.ofNat 0) (Int32.ofNat 255) F1)) ?_
          rintro _ A35 ⟨⟨z36, rfl, F_A35⟩, wA35, HA35⟩
          have UA35 := (U30).trans (wA35.le (by decide +kernel : ug_wle ug_x177.2.2.2.1 uM156r = true))
          have OA35 := (wA35.2.1 376 _ _ (1 - sd) rfl (by omega) (by decide +kernel)).trans O30
          have fp_A35 := F_A35.pos
          refine hpx_iast (by rfl) (by rfl) (fun A37 h0A37 h1A37 eA37 fA37 gA37 => ?_)
          have UA37 := (UA35).ar eA37 fA37 gA37 (by decide +kernel)
          have HA37 := (HA35).e (congrArg (fun q => q.2) gA37)
          have OA37 : A37.2.1 376 (1 - sd) = A.2.1 376 (1 - sd) := by rw [fA37, hup2 (fun q => by omega)] <;> exact OA35
          have FA37 := F_A35.ar eA37 gA37
          have fpA37 := FA37.pos
          refine hpa_aload_n (by rfl) rfl ?_
          refine hpa_get (v := .ref 379) (by rfl) (by rfl) (by rfl) rfl ?_
          refine hpa_iload_n (by rfl) rfl ?_
          refine hpa_aload_n (by rfl) rfl ?_
          refine hpa_iconst (by rfl) rfl ?_
          refine hpa_bipush (by rfl) rfl ?_
          refine hpa_call0 (by rfl) (by rfl) (by rfl) (by rfl) (by rfl) (by rfl) (uf_C (X := ug_x177) (j := 177) rfl rfl (ug_L.cons (uf_rk_ok (by decide +kernel)) (uf_int (uf_int uf_nil))) HA37 (hP155d (Int32.ofNat 0) (Int32.ofNat 99) FA37)) ?_
          rintro _ A38 ⟨⟨z39, rfl, F_A38⟩, wA38, HA38⟩
          have UA38 := (UA37).trans (wA38.le (by decide +kernel : ug_wle ug_x177.2.2.2.1 uM156r = true))
          have OA38 := (wA38.2.1 376 _ _ (1 - sd) rfl (by omega) (by decide +kernel)).trans OA37
          have fp_A38 := F_A38.pos
          refine hpx_iast (by rfl) (by rfl) (fun A40 h0A40 h1A40 eA40 fA40 gA40 => ?_)
          have UA40 := (UA38).ar eA40 fA40 gA40 (by decide +kernel)
          have HA40 := (HA38).e (congrArg (fun q => q.2) gA40)
          have OA40 : A40.2.1 376 (1 - sd) = A.2.1 376 (1 - sd) := by rw [fA40, hup2 (fun q => by omega)] <;> exact OA38
          have FA40 := F_A38.ar eA40 gA40
          have fpA40 := FA40.pos
          refine hpa_aload_n (by rfl) rfl ?_
          refine hpa_iconst (by rfl) rfl ?_
          refine hpa_call0 (by rfl) (by rfl) (by rfl) (by rfl) (by rfl) (by rfl) (uf_C (X := ug_x210) (j := 210) rfl rfl (ug_L.cons (uf_rk_ok (by decide +kernel)) (uf_int uf_nil)) HA40 (hP148d (Int32.ofNat 4) FA40)) ?_
          rintro _ A41 ⟨⟨rfl, F_A41⟩, wA41, HA41⟩
          have UA41 := (UA40).trans (wA41.le (by decide +kernel : ug_wle ug_x210.2.2.2.1 uM156r = true))
          have OA41 := (wA41.2.1 376 _ _ (1 - sd) rfl (by omega) (by decide +kernel)).trans OA40
          have fp_A41 := F_A41.pos
          refine hpa_aload_n (by rfl) rfl ?_
          refine hpj_getK (by rfl) (by rfl) (by rfl) rfl ?_
          refine hpj_zle (by rfl) rfl (fun q42 => False.elim (by omega)) (fun q42 => ?_)
          exact hpa_return (by rfl) rfl (hP _ _ ⟨rfl, Or.inr ⟨F_A41, OA41⟩⟩)
        ·
          refine hpa_aload_n (by rfl) rfl ?_
          refine hpj_getK (by rfl) (by rfl) (by rfl) rfl ?_
          refine hpj_zne (by rfl) rfl (fun q43 => ?_) (fun q43 => False.elim (by omega))
          refine hpa_aload_n (by rfl) rfl ?_
          refine hpa_get (v := .ref 378) (by rfl) (by rfl) (by rfl) rfl ?_
          refine hpa_iload_n (by rfl) rfl ?_
          refine hpa_aload_n (by rfl) rfl ?_
          refine hpa_iconst (by rfl) rfl ?_
          refine hpa_sipush (by rfl) rfl ?_
          refine hpa_call0 (by rfl) (by rfl) (by rfl) (by rfl) (by rfl) (by rfl) (uf_C (X := ug_x177) (j := 177) rfl rfl (ug_L.cons (uf_rk_ok (by decide +kernel)) (uf_int (uf_int uf_nil))) H30 (hP155d (Int32.ofNat 0) (Int32.ofNat 255) F1)) ?_
          rintro _ A44 ⟨⟨z45, rfl, F_A44⟩, wA44, HA44⟩
          have UA44 := (U30).trans (wA44.le (by decide +kernel : ug_wle ug_x177.2.2.2.1 uM156r = true))
          have OA44 := (wA44.2.1 376 _ _ (1 - sd) rfl (by omega) (by decide +kernel)).trans O30
          have fp_A44 := F_A44.pos
          refine hpx_iast (by rfl) (by rfl) (fun A46 h0A46 h1A46 eA46 fA46 gA46 => ?_)
          have UA46 := (UA44).ar eA46 fA46 gA46 (by decide +kernel)
          have HA46 := (HA44).e (congrArg (fun q => q.2) gA46)
          have OA46 : A46.2.1 376 (1 - sd) = A.2.1 376 (1 - sd) := by rw [fA46, hup2 (fun q => by omega)] <;> exact OA44
          have FA46 := F_A44.ar eA46 gA46
          have fpA46 := FA46.pos
          refine hpa_aload_n (by rfl) rfl ?_
          refine hpa_get (v := .ref 379) (by rfl) (by rfl) (by rfl) rfl ?_
          refine hpa_iload_n (by rfl) rfl ?_
          refine hpa_aload_n (by rfl) rfl ?_
          refine hpa_iconst (by rfl) rfl ?_
          refine hpa_bipush (by rfl) rfl ?_
          refine hpa_call0 (by rfl) (by rfl) (by rfl) (by rfl) (by rfl) (by rfl) (uf_C (X := ug_x177) (j := 177) rfl rfl (ug_L.cons (uf_rk_ok (by decide +kernel)) (uf_int (uf_int uf_nil))) HA46 (hP155d (Int32.ofNat 0) (Int32.ofNat 99) FA46)) ?_
          rintro _ A47 ⟨⟨z48, rfl, F_A47⟩, wA47, HA47⟩
          have UA47 := (UA46).trans (wA47.le (by decide +kernel : ug_wle ug_x177.2.2.2.1 uM156r = true))
          have OA47 := (wA47.2.1 376 _ _ (1 - sd) rfl (by omega) (by decide +kernel)).trans OA46
          have fp_A47 := F_A47.pos
          refine hpx_iast (by rfl) (by rfl) (fun A49 h0A49 h1A49 eA49 fA49 gA49 => ?_)
          have UA49 := (UA47).ar eA49 fA49 gA49 (by decide +kernel)
          have HA49 := (HA47).e (congrArg (fun q => q.2) gA49)
          have OA49 : A49.2.1 376 (1 - sd) = A.2.1 376 (1 - sd) := by rw [fA49, hup2 (fun q => by omega)] <;> exact OA47
          have FA49 := F_A47.ar eA49 gA49
          have fpA49 := FA49.pos
          refine hpa_aload_n (by rfl) rfl ?_
          refine hpa_iconst (by rfl) rfl ?_
          refine hpa_call0 (by rfl) (by rfl) (by rfl) (by rfl) (by rfl) (by rfl) (uf_C (X := ug_x210) (j := 210) rfl rfl (ug_L.cons (uf_rk_ok (by decide +kernel)) (uf_int uf_nil)) HA49 (hP148d (Int32.ofNat 4) FA49)) ?_
          rintro _ A50 ⟨⟨rfl, F_A50⟩, wA50, HA50⟩
          have UA50 := (UA49).trans (wA50.le (by decide +kernel : ug_wle ug_x210.2.2.2.1 uM156r = true))
          have OA50 := (wA50.2.1 376 _ _ (1 - sd) rfl (by omega) (by decide +kernel)).trans OA49
          have fp_A50 := F_A50.pos
          refine hpa_aload_n (by rfl) rfl ?_
          refine hpj_getK (by rfl) (by rfl) (by rfl) rfl ?_
          refine hpj_zle (by rfl) rfl (fun q51 => False.elim (by omega)) (fun q51 => ?_)
          exact hpa_return (by rfl) rfl (hP _ _ ⟨rfl, Or.inr ⟨F_A50, OA50⟩⟩)
  refine hpa_bipush (by rfl) rfl ?_
  refine hpa_aload_n (by rfl) rfl ?_
  refine hpj_getK (by rfl) (by rfl) (by rfl) rfl ?_
  refine hpj_imulU (by rfl) (fun z52 => ?_)
  refine hpa_aload_n (by rfl) rfl ?_
  refine hpa_get (v := .ref 377) (by rfl) (by rfl) (by rfl) rfl ?_
  refine hpa_aload_n (by rfl) rfl ?_
  refine hpj_getK (by rfl) (by rfl) (by rfl) rfl ?_
  refine hpx_iald (by rfl) (by rfl) (fun h0v53 h1v53 v53 ev53 => ?_)
  refine hpj_iaddU (by rfl) (fun z54 => ?_)
  refine hpa_s1 (by rfl) (Or.inl ⟨_, rfl, rfl⟩) rfl ?_
  refine hpa_aload_n (by rfl) rfl ?_
  refine hpj_getK (by rfl) (by rfl) (by rfl) rfl ?_
  refine hpa_s1 (by rfl) (Or.inl ⟨_, rfl, rfl⟩) rfl ?_
  refine hpa_aload_n (by rfl) rfl ?_
  refine hpa_iconst (by rfl) rfl ?_
  refine hpa_call0 (by rfl) (by rfl) (by rfl) (by rfl) (by rfl) (by rfl) (uf_C (X := ug_x210) (j := 210) rfl rfl (ug_L.cons (uf_rk_ok (by decide +kernel)) (uf_int uf_nil)) hH0 (hP148 (Int32.ofNat 1) hB hR (hB.i1 hk_1) rfl)) ?_
  rintro _ A55 ⟨⟨rfl, (⟨B_A55, R_A55⟩ | F_A55)⟩, wA55, HA55⟩
  ·
    have UA55 := (U0).trans (wA55.le (by decide +kernel : ug_wle ug_x210.2.2.2.1 uM156r = true))
    have OA55 := (wA55.2.1 376 _ _ (1 - sd) rfl (by omega) (by decide +kernel)).trans O0
    have f0_A55 := B_A55.2.2.2
    have nx_A55 := B_A55.2.1
    have rd_A55 := R_A55.2.2.1
    have hK20 := (hq_must_next hqq B_A55.2.2.1 rfl)
    refine hpa_iconst (by rfl) rfl ?_
    refine hpa_s1 (by rfl) (Or.inl ⟨_, rfl, rfl⟩) rfl ?_
    have e30 : ns.drop (ns.length - (Int32.ofNat 0).toInt.toNat) = [] := by
      rw [hk_0]
      exact List.drop_length
    exact L30 _ z54 (A.1 367 11) (Int32.ofNat 0) A55 (by omega) (by omega) (Or.inl ⟨B_A55, by rw [e30]; exact R_A55, by omega, hK20⟩) OA55 UA55 HA55
  ·
    have UA55 := (U0).trans (wA55.le (by decide +kernel : ug_wle ug_x210.2.2.2.1 uM156r = true))
    have OA55 := (wA55.2.1 376 _ _ (1 - sd) rfl (by omega) (by decide +kernel)).trans O0
    have fp_A55 := F_A55.pos
    refine hpa_iconst (by rfl) rfl ?_
    refine hpa_s1 (by rfl) (Or.inl ⟨_, rfl, rfl⟩) rfl ?_
    exact L30 _ z54 (A.1 367 11) (Int32.ofNat 0) A55 (by omega) (by omega) (Or.inr F_A55) OA55 UA55 HA55
theorem hP156r {g d : Nat} {A : hs_A} {K V S : Nat → Int} {E : Nat → Nat → Bool} {t : Nat} {a b c : Nat} {ns : List Nat} {nm sn sd : Nat} {o : Option (Nat × Nat)} (hS : hmS K S) (hB : hmB K V S E A t (1, a, b, c, ns, nm, sn, o)) (hR : hmR S A t ns sn o sd 0) (hH0 : uf_H A) : hpC g d 156 hm_m156 [.ref 368] A (fun r A' => r = none ∧ ((hmOK K V S E A' t sd ∧ A'.2.1 376 (1 - sd) = A.2.1 376 (1 - sd)) ∨ (hmF K V S E A' ∧ A'.2.1 376 (1 - sd) = A.2.1 376 (1 - sd)))) := hpC.all (fun f d => hW156r hS hB hR hH0 (fun r A' h => h))
def uM154r : Nat := 66111484028782498173134122293246067789447915556613714535392231342579349081634803548160
theorem hW154r {g d f : Nat} {A : hs_A} {K V S : Nat → Int} {E : Nat → Nat → Bool} {t : Nat} {a b c : Nat} {ns : List Nat} {nm sn sd : Nat} {o : Option (Nat × Nat)} (hS : hmS K S) (hB : hmB K V S E A t (0, a, b, c, ns, nm, sn, o)) (hR : hmR S A t ns sn o sd 0) (hne : ¬ K t = 22) (hH0 : uf_H A) {P : Option Value → hs_A → Prop} (hP : ∀ (r : Option Value) (A' : hs_A), (r = none ∧ ((hmOK K V S E A' t sd ∧ A'.2.1 376 (1 - sd) = A.2.1 376 (1 - sd)) ∨ (hmF K V S E A' ∧ A'.2.1 376 (1 - sd) = A.2.1 376 (1 - sd)))) → P r A') : hpa (f, g) d none hm_t154 0 [.ref 368, .retAddr 0, .retAddr 0] [] A P := by
  have k0 := hk_0
  have k1 := hk_1
  have k10 := hk_10
  have k22 := hk_22
  have k23 := hk_23
  have k24 := hk_24
  have k25 := hk_25
  have k255 := hk_255
  have k4 := hk_4
  have k8 := hk_8
  have k99 := hk_99
  have k9999 := hk_9999
  obtain ⟨h400, hpre, hix, hkk, hss, hvv⟩ := hB.at
  have hnx := hB.2.1
  have hqq := hB.2.2.1
  have hf0 := hB.2.2.2
  have rh := hR.2.2.2.1
  have rsn := hR.2.2.2.2.1
  have rs := hR.1
  have rs1 := hR.2.1
  have hcs := hn_cn (j := A.1 367 19) (by omega)
  have hsd : (A.1 367 19).toNatClampNeg = sd := by omega
  have hk39 : 0 ≤ (A.2.1 370 t).toInt ∧ (A.2.1 370 t).toInt ≤ 39 := by unfold hmK at hkk; omega
  have hl10 : ns.length ≤ 10 := (hq_q_inv hqq).1.2.2.1
  have hsn8 : sn ≤ 8 := (hq_q_I2 hqq).1
  have U0 : uf_W uM154r A A := uf_W.rfl
  have O0 : A.2.1 376 (1 - sd) = A.2.1 376 (1 - sd) := rfl
  refine hpa_aload_n (by rfl) rfl ?_
  refine hpa_get (v := .ref 371) (by rfl) (by rfl) (by rfl) rfl ?_
  refine hpa_aload_n (by rfl) rfl ?_
  refine hpj_getK (by rfl) (by rfl) (by rfl) rfl ?_
  refine hpx_iald (by rfl) (by rfl) (fun h0v1 h1v1 v1 ev1 => ?_)
  rw [hix] at ev1
  have tv1 := congrArg Int32.toInt ev1
  by_cases q2 : v1.toInt = 20
  ·
    refine hpa_tabIn (by rfl) (by omega) (by omega) (by rw [q2]; rfl) (tgt := 56) (by rfl) ?_
    have hK : K t = 0 := by unfold hmK at hkk; omega
    refine hpa_aload_n (by rfl) rfl ?_
    refine hpa_aload_n (by rfl) rfl ?_
    refine hpa_get (v := .ref 377) (by rfl) (by rfl) (by rfl) rfl ?_
    refine hpa_aload_n (by rfl) rfl ?_
    refine hpj_getK (by rfl) (by rfl) (by rfl) rfl ?_
    refine hpx_iald (by rfl) (by rfl) (fun h0v3 h1v3 v3 ev3 => ?_)
    rw [hsd] at ev3
    have tv3 := congrArg Int32.toInt ev3
    refine hpa_bipush (by rfl) rfl ?_
    refine hpa_call0 (by rfl) (by rfl) (by rfl) (by rfl) (by rfl) (by rfl) (uf_C (X := ug_x172) (j := 172) rfl rfl (ug_L.cons (uf_rk_ok (by decide +kernel)) (uf_int (uf_int uf_nil))) hH0 (hP152 v3 (Int32.ofNat 10) hB hR (show v3.toInt = ((ns.length : Nat) : Int) by omega) (show (Int32.ofNat 10).toInt = ((10 : Nat) : Int) from hk_10) (by omega) (hqd0_house hK))) ?_
    rintro _ A4 ⟨⟨rfl, (⟨B_A4, R_A4, nm_A4⟩ | F_A4)⟩, wA4, HA4⟩
    ·
      have UA4 := (U0).trans (wA4.le (by decide +kernel : ug_wle ug_x172.2.2.2.1 uM154r = true))
      have OA4 := (wA4.2.1 376 _ _ (1 - sd) rfl (by omega) (by decide +kernel)).trans O0
      have f0_A4 := B_A4.2.2.2
      have nx_A4 := B_A4.2.1
      have rd_A4 := R_A4.2.2.1
      refine hpa_aload_n (by rfl) rfl ?_
      refine hpj_getK (by rfl) (by rfl) (by rfl) rfl ?_
      refine hpj_zne (by rfl) rfl (fun q5 => False.elim (by omega)) (fun q5 => ?_)
      refine hpa_aload_n (by rfl) rfl ?_
      refine hpa_call0 (by rfl) (by rfl) (by rfl) (by rfl) (by rfl) (by rfl) (uf_C (X := ug_x173) (j := 173) rfl rfl (ug_L.cons (uf_rk_ok (by decide +kernel)) uf_nil) HA4 (hP156r hS B_A4 R_A4 HA4)) ?_
      rintro _ A6 ⟨⟨rfl, (⟨OKK_A6, OT_A6⟩ | ⟨F_A6, OT_A6⟩)⟩, wA6, HA6⟩
      ·
        have UA6 := (UA4).trans (wA6.le (by decide +kernel : ug_wle ug_x173.2.2.2.1 uM154r = true))
        have OA6 := (OT_A6).trans OA4
        obtain ⟨t9, a9, b9, c9, ns9, nm9, sn9, o9, lt9, B9, R9⟩ := OKK_A6
        refine hpa_goto (by rfl) ?_
        exact hpa_return (by rfl) rfl (hP _ _ ⟨rfl, Or.inl ⟨⟨_, _, _, _, _, _, _, _, by omega, B9, R9⟩, OA6⟩⟩)
      ·
        have UA6 := (UA4).trans (wA6.le (by decide +kernel : ug_wle ug_x173.2.2.2.1 uM154r = true))
        have OA6 := (OT_A6).trans OA4
        have fp_A6 := F_A6.pos
        refine hpa_goto (by rfl) ?_
        exact hpa_return (by rfl) rfl (hP _ _ ⟨rfl, Or.inr ⟨F_A6, OA6⟩⟩)
    ·
      have UA4 := (U0).trans (wA4.le (by decide +kernel : ug_wle ug_x172.2.2.2.1 uM154r = true))
      have OA4 := (wA4.2.1 376 _ _ (1 - sd) rfl (by omega) (by decide +kernel)).trans O0
      have fp_A4 := F_A4.pos
      refine hpa_aload_n (by rfl) rfl ?_
      refine hpj_getK (by rfl) (by rfl) (by rfl) rfl ?_
      refine hpj_zne (by rfl) rfl (fun q7 => ?_) (fun q7 => False.elim (by omega))
      exact hpa_return (by rfl) rfl (hP _ _ ⟨rfl, Or.inr ⟨F_A4, OA4⟩⟩)
  ·
    by_cases q8 : v1.toInt = 21
    ·
      refine hpa_tabIn (by rfl) (by omega) (by omega) (by rw [q8]; rfl) (tgt := 85) (by rfl) ?_
      have hK : K t = 1 := by unfold hmK at hkk; omega
      refine hpa_aload_n (by rfl) rfl ?_
      refine hpa_aload_n (by rfl) rfl ?_
      refine hpa_get (v := .ref 380) (by rfl) (by rfl) (by rfl) rfl ?_
      refine hpa_aload_n (by rfl) rfl ?_
      refine hpj_getK (by rfl) (by rfl) (by rfl) rfl ?_
      refine hpx_iald (by rfl) (by rfl) (fun h0v9 h1v9 v9 ev9 => ?_)
      rw [hsd] at ev9
      have tv9 := congrArg Int32.toInt ev9
      refine hpa_bipush (by rfl) rfl ?_
      refine hpa_call0 (by rfl) (by rfl) (by rfl) (by rfl) (by rfl) (by rfl) (uf_C (X := ug_x172) (j := 172) rfl rfl (ug_L.cons (uf_rk_ok (by decide +kernel)) (uf_int (uf_int uf_nil))) hH0 (hP152 v9 (Int32.ofNat 8) hB hR (show v9.toInt = ((sn : Nat) : Int) by omega) (show (Int32.ofNat 8).toInt = ((8 : Nat) : Int) from hk_8) (by omega) (hqd0_sends hK))) ?_
      rintro _ A10 ⟨⟨rfl, (⟨B_A10, R_A10, nm_A10⟩ | F_A10)⟩, wA10, HA10⟩
      ·
        have UA10 := (U0).trans (wA10.le (by decide +kernel : ug_wle ug_x172.2.2.2.1 uM154r = true))
        have OA10 := (wA10.2.1 376 _ _ (1 - sd) rfl (by omega) (by decide +kernel)).trans O0
        have f0_A10 := B_A10.2.2.2
        have nx_A10 := B_A10.2.1
        have rd_A10 := R_A10.2.2.1
        refine hpa_aload_n (by rfl) rfl ?_
        refine hpj_getK (by rfl) (by rfl) (by rfl) rfl ?_
        refine hpj_zle (by rfl) rfl (fun q11 => ?_) (fun q11 => False.elim (by omega))
        refine hpa_aload_n (by rfl) rfl ?_
        refine hpa_iconst (by rfl) rfl ?_
        refine hpa_bipush (by rfl) rfl ?_
        refine hpa_call0 (by rfl) (by rfl) (by rfl) (by rfl) (by rfl) (by rfl) (uf_C (X := ug_x177) (j := 177) rfl rfl (ug_L.cons (uf_rk_ok (by decide +kernel)) (uf_int (uf_int uf_nil))) HA10 (hP155 (Int32.ofNat 0) (Int32.ofNat 23) hS hk_0 hk_23 B_A10 R_A10 rfl)) ?_
        rintro _ A12 ⟨⟨z13, rfl, (⟨B_A12, R_A12⟩ | F_A12)⟩, wA12, HA12⟩
        ·
          have UA12 := (UA10).trans (wA12.le (by decide +kernel : ug_wle ug_x177.2.2.2.1 uM154r = true))
          have OA12 := (wA12.2.1 376 _ _ (1 - sd) rfl (by omega) (by decide +kernel)).trans OA10
          have f0_A12 := B_A12.2.2.2
          have nx_A12 := B_A12.2.1
          have rd_A12 := R_A12.2.2.1
          refine hpa_s1 (by rfl) (Or.inl ⟨_, rfl, rfl⟩) rfl ?_
          refine hpa_aload_n (by rfl) rfl ?_
          refine hpa_iconst (by rfl) rfl ?_
          refine hpa_sipush (by rfl) rfl ?_
          refine hpa_call0 (by rfl) (by rfl) (by rfl) (by rfl) (by rfl) (by rfl) (uf_C (X := ug_x177) (j := 177) rfl rfl (ug_L.cons (uf_rk_ok (by decide +kernel)) (uf_int (uf_int uf_nil))) HA12 (hP155 (Int32.ofNat 0) (Int32.ofNat 255) hS hk_0 hk_255 B_A12 R_A12 rfl)) ?_
          rintro _ A14 ⟨⟨z15, rfl, (⟨B_A14, R_A14⟩ | F_A14)⟩, wA14, HA14⟩
          ·
            have UA14 := (UA12).trans (wA14.le (by decide +kernel : ug_wle ug_x177.2.2.2.1 uM154r = true))
            have OA14 := (wA14.2.1 376 _ _ (1 - sd) rfl (by omega) (by decide +kernel)).trans OA12
            have f0_A14 := B_A14.2.2.2
            have nx_A14 := B_A14.2.1
            have rd_A14 := R_A14.2.2.1
            refine hpa_s1 (by rfl) (Or.inl ⟨_, rfl, rfl⟩) rfl ?_
            refine hpa_aload_n (by rfl) rfl ?_
            refine hpa_iconst (by rfl) rfl ?_
            refine hpa_call0 (by rfl) (by rfl) (by rfl) (by rfl) (by rfl) (by rfl) (uf_C (X := ug_x210) (j := 210) rfl rfl (ug_L.cons (uf_rk_ok (by decide +kernel)) (uf_int uf_nil)) HA14 (hP148 (Int32.ofNat 4) B_A14 R_A14 (B_A14.i4 hk_4) rfl)) ?_
            rintro _ A16 ⟨⟨rfl, (⟨B_A16, R_A16⟩ | F_A16)⟩, wA16, HA16⟩
            ·
              have UA16 := (UA14).trans (wA16.le (by decide +kernel : ug_wle ug_x210.2.2.2.1 uM154r = true))
              have OA16 := (wA16.2.1 376 _ _ (1 - sd) rfl (by omega) (by decide +kernel)).trans OA14
              have f0_A16 := B_A16.2.2.2
              have nx_A16 := B_A16.2.1
              have rd_A16 := R_A16.2.2.1
              refine hpa_iload_n (by rfl) rfl ?_
              refine hpa_bipush (by rfl) rfl ?_
              refine hpj_cgt (by rfl) rfl hk_23 (fun q17 => ?_) (fun q17 => ?_)
              ·
                refine hpa_aload_n (by rfl) rfl ?_
                refine hpa_get (v := .ref 380) (by rfl) (by rfl) (by rfl) rfl ?_
                refine hpa_aload_n (by rfl) rfl ?_
                refine hpj_getK (by rfl) (by rfl) (by rfl) rfl ?_
                refine hpa_dup2IR (by rfl) ?_
                refine hpx_iald (by rfl) (by rfl) (fun h0v18 h1v18 v18 ev18 => ?_)
                have rs := R_A16.1
                have rsn := R_A16.2.2.2.2.1
                have rs1 := R_A16.2.1
                have rk := congrArg Int32.toInt (show A16.1 367 19 = (A16.1 367 19) from rfl)
                have hcs := hn_cn (j := (A16.1 367 19)) (by omega)
                have hix9 : (A16.1 367 19).toNatClampNeg = sd := by omega
                rw [hix9] at ev18
                have tv18 : v18.toInt = (sn : Int) := by rw [← ev18]; exact rsn
                refine hpa_iconst (by rfl) rfl ?_
                refine hpj_iadd (by rfl) rfl hk_1 (by omega) (by omega) (fun z19 ez19 => ?_)
                refine hpx_iast (by rfl) (by rfl) (fun A20 h0A20 h1A20 eA20 fA20 gA20 => ?_)
                have UA20 := (UA16).ar eA20 fA20 gA20 (by decide +kernel)
                have HA20 := (HA16).e (congrArg (fun q => q.2) gA20)
                have OA20 : A20.2.1 376 (1 - sd) = A.2.1 376 (1 - sd) := by rw [fA20, hup2 (fun q => by omega)] <;> exact OA16
                rw [hix9] at fA20
                have BA20 := B_A16.ar eA20 fA20 gA20 (by omega)
                have RA20 := R_A16.send eA20 fA20 gA20 (by omega)
                refine hpa_goto (by rfl) ?_
                exact hpa_return (by rfl) rfl (hP _ _ ⟨rfl, Or.inl ⟨⟨_, _, _, _, _, _, _, _, by omega, BA20, RA20⟩, OA20⟩⟩)
              ·
                refine hpa_aload_n (by rfl) rfl ?_
                refine hpa_get (v := .ref 381) (by rfl) (by rfl) (by rfl) rfl ?_
                refine hpa_bipush (by rfl) rfl ?_
                refine hpa_aload_n (by rfl) rfl ?_
                refine hpj_getK (by rfl) (by rfl) (by rfl) rfl ?_
                refine hpj_imulU (by rfl) (fun z21 => ?_)
                refine hpa_iload_n (by rfl) rfl ?_
                refine hpj_iaddU (by rfl) (fun z22 => ?_)
                refine hpa_iload_n (by rfl) rfl ?_
                refine hpx_iast (by rfl) (by rfl) (fun A23 h0A23 h1A23 eA23 fA23 gA23 => ?_)
                have UA23 := (UA16).ar eA23 fA23 gA23 (by decide +kernel)
                have HA23 := (HA16).e (congrArg (fun q => q.2) gA23)
                have OA23 : A23.2.1 376 (1 - sd) = A.2.1 376 (1 - sd) := by rw [fA23, hup2 (fun q => by omega)] <;> exact OA16
                have BA23 := B_A16.ar eA23 fA23 gA23 (by omega)
                have RA23 := R_A16.ar eA23 fA23 gA23 (by omega)
                have f0A23 := BA23.2.2.2
                have nxA23 := BA23.2.1
                have rdA23 := RA23.2.2.1
                refine hpa_aload_n (by rfl) rfl ?_
                refine hpa_get (v := .ref 380) (by rfl) (by rfl) (by rfl) rfl ?_
                refine hpa_aload_n (by rfl) rfl ?_
                refine hpj_getK (by rfl) (by rfl) (by rfl) (hkA eA23 rfl) ?_
                refine hpa_dup2IR (by rfl) ?_
                refine hpx_iald (by rfl) (by rfl) (fun h0v24 h1v24 v24 ev24 => ?_)
                have rs := RA23.1
                have rsn := RA23.2.2.2.2.1
                have rs1 := RA23.2.1
                have rk := congrArg Int32.toInt (show A23.1 367 19 = (A16.1 367 19) from (hkA eA23 rfl))
                have hcs := hn_cn (j := (A16.1 367 19)) (by omega)
                have hix9 : (A16.1 367 19).toNatClampNeg = sd := by omega
                rw [hix9] at ev24
                have tv24 : v24.toInt = (sn : Int) := by rw [← ev24]; exact rsn
                refine hpa_iconst (by rfl) rfl ?_
                refine hpj_iadd (by rfl) rfl hk_1 (by omega) (by omega) (fun z25 ez25 => ?_)
                refine hpx_iast (by rfl) (by rfl) (fun A26 h0A26 h1A26 eA26 fA26 gA26 => ?_)
                have UA26 := (UA23).ar eA26 fA26 gA26 (by decide +kernel)
                have HA26 := (HA23).e (congrArg (fun q => q.2) gA26)
                have OA26 : A26.2.1 376 (1 - sd) = A.2.1 376 (1 - sd) := by rw [fA26, hup2 (fun q => by omega)] <;> exact OA23
                rw [hix9] at fA26
                have BA26 := BA23.ar eA26 fA26 gA26 (by omega)
                have RA26 := RA23.send eA26 fA26 gA26 (by omega)
                refine hpa_goto (by rfl) ?_
                exact hpa_return (by rfl) rfl (hP _ _ ⟨rfl, Or.inl ⟨⟨_, _, _, _, _, _, _, _, by omega, BA26, RA26⟩, OA26⟩⟩)
            ·
              have UA16 := (UA14).trans (wA16.le (by decide +kernel : ug_wle ug_x210.2.2.2.1 uM154r = true))
              have OA16 := (wA16.2.1 376 _ _ (1 - sd) rfl (by omega) (by decide +kernel)).trans OA14
              have fp_A16 := F_A16.pos
              refine hpa_iload_n (by rfl) rfl ?_
              refine hpa_bipush (by rfl) rfl ?_
              refine hpj_cgt (by rfl) rfl hk_23 (fun q27 => ?_) (fun q27 => ?_)
              ·
                refine hpa_aload_n (by rfl) rfl ?_
                refine hpa_get (v := .ref 380) (by rfl) (by rfl) (by rfl) rfl ?_
                refine hpa_aload_n (by rfl) rfl ?_
                refine hpj_getK (by rfl) (by rfl) (by rfl) rfl ?_
                refine hpa_dup2IR (by rfl) ?_
                refine hpx_iald (by rfl) (by rfl) (fun h0v28 h1v28 v28 ev28 => ?_)
                refine hpa_iconst (by rfl) rfl ?_
                refine hpj_iaddU (by rfl) (fun z29 => ?_)
                refine hpx_iast (by rfl) (by rfl) (fun A30 h0A30 h1A30 eA30 fA30 gA30 => ?_)
                have UA30 := (UA16).ar eA30 fA30 gA30 (by decide +kernel)
                have HA30 := (HA16).e (congrArg (fun q => q.2) gA30)
                have OA30 : A30.2.1 376 (1 - sd) = A.2.1 376 (1 - sd) := by rw [fA30, hup2 (fun q => by omega)] <;> exact OA16
                have FA30 := F_A16.ar eA30 gA30
                have fpA30 := FA30.pos
                refine hpa_goto (by rfl) ?_
                exact hpa_return (by rfl) rfl (hP _ _ ⟨rfl, Or.inr ⟨FA30, OA30⟩⟩)
              ·
                refine hpa_aload_n (by rfl) rfl ?_
                refine hpa_get (v := .ref 381) (by rfl) (by rfl) (by rfl) rfl ?_
                refine hpa_bipush (by rfl) rfl ?_
                refine hpa_aload_n (by rfl) rfl ?_
                refine hpj_getK (by rfl) (by rfl) (by rfl) rfl ?_
                refine hpj_imulU (by rfl) (fun z31 => ?_)
                refine hpa_iload_n (by rfl) rfl ?_
                refine hpj_iaddU (by rfl) (fun z32 => ?_)
                refine hpa_iload_n (by rfl) rfl ?_
                refine hpx_iast (by rfl) (by rfl) (fun A33 h0A33 h1A33 eA33 fA33 gA33 => ?_)
                have UA33 := (UA16).ar eA33 fA33 gA33 (by decide +kernel)
                have HA33 := (HA16).e (congrArg (fun q => q.2) gA33)
                have OA33 : A33.2.1 376 (1 - sd) = A.2.1 376 (1 - sd) := by rw [fA33, hup2 (fun q => by omega)] <;> exact OA16
                have FA33 := F_A16.ar eA33 gA33
                have fpA33 := FA33.pos
                refine hpa_aload_n (by rfl) rfl ?_
                refine hpa_get (v := .ref 380) (by rfl) (by rfl) (by rfl) rfl ?_
                refine hpa_aload_n (by rfl) rfl ?_
                refine hpj_getK (by rfl) (by rfl) (by rfl) (hkA eA33 rfl) ?_
                refine hpa_dup2IR (by rfl) ?_
                refine hpx_iald (by rfl) (by rfl) (fun h0v34 h1v34 v34 ev34 => ?_)
                refine hpa_iconst (by rfl) rfl ?_
                refine hpj_iaddU (by rfl) (fun z35 => ?_)
                refine hpx_iast (by rfl) (by rfl) (fun A36 h0A36 h1A36 eA36 fA36 gA36 => ?_)
                have UA36 := (UA33).ar eA36 fA36 gA36 (by decide +kernel)
                have HA36 := (HA33).e (congrArg (fun q => q.2) gA36)
                have OA36 : A36.2.1 376 (1 - sd) = A.2.1 376 (1 - sd) := by rw [fA36, hup2 (fun q => by omega)] <;> exact OA33
                have FA36 := FA33.ar eA36 gA36
                have fpA36 := FA36.pos
                refine hpa_goto (by rfl) ?_
                exact hpa_return (by rfl) rfl (hP _ _ ⟨rfl, Or.inr ⟨FA36, OA36⟩⟩)
          ·
            have UA14 := (UA12).trans (wA14.le (by decide +kernel : ug_wle ug_x177.2.2.2.1 uM154r = true))
            have OA14 := (wA14.2.1 376 _ _ (1 - sd) rfl (by omega) (by decide +kernel)).trans OA12
            have fp_A14 := F_A14.pos
            refine hpa_s1 (by rfl) (Or.inl ⟨_, rfl, rfl⟩) rfl ?_
            refine hpa_aload_n (by rfl) rfl ?_
            refine hpa_iconst (by rfl) rfl ?_
            refine hpa_call0 (by rfl) (by rfl) (by rfl) (by rfl) (by rfl) (by rfl) (uf_C (X := ug_x210) (j := 210) rfl rfl (ug_L.cons (uf_rk_ok (by decide +kernel)) (uf_int uf_nil)) HA14 (hP148d (Int32.ofNat 4) F_A14)) ?_
            rintro _ A37 ⟨⟨rfl, F_A37⟩, wA37, HA37⟩
            have UA37 := (UA14).trans (wA37.le (by decide +kernel : ug_wle ug_x210.2.2.2.1 uM154r = true))
            have OA37 := (wA37.2.1 376 _ _ (1 - sd) rfl (by omega) (by decide +kernel)).trans OA14
            have fp_A37 := F_A37.pos
            refine hpa_iload_n (by rfl) rfl ?_
            refine hpa_bipush (by rfl) rfl ?_
            refine hpj_cgt (by rfl) rfl hk_23 (fun q38 => ?_) (fun q38 => ?_)
            ·
              refine hpa_aload_n (by rfl) rfl ?_
              refine hpa_get (v := .ref 380) (by rfl) (by rfl) (by rfl) rfl ?_
              refine hpa_aload_n (by rfl) rfl ?_
              refine hpj_getK (by rfl) (by rfl) (by rfl) rfl ?_
              refine hpa_dup2IR (by rfl) ?_
              refine hpx_iald (by rfl) (by rfl) (fun h0v39 h1v39 v39 ev39 => ?_)
              refine hpa_iconst (by rfl) rfl ?_
              refine hpj_iaddU (by rfl) (fun z40 => ?_)
              refine hpx_iast (by rfl) (by rfl) (fun A41 h0A41 h1A41 eA41 fA41 gA41 => ?_)
              have UA41 := (UA37).ar eA41 fA41 gA41 (by decide +kernel)
              have HA41 := (HA37).e (congrArg (fun q => q.2) gA41)
              have OA41 : A41.2.1 376 (1 - sd) = A.2.1 376 (1 - sd) := by rw [fA41, hup2 (fun q => by omega)] <;> exact OA37
              have FA41 := F_A37.ar eA41 gA41
              have fpA41 := FA41.pos
              refine hpa_goto (by rfl) ?_
              exact hpa_return (by rfl) rfl (hP _ _ ⟨rfl, Or.inr ⟨FA41, OA41⟩⟩)
            ·
              refine hpa_aload_n (by rfl) rfl ?_
              refine hpa_get (v := .ref 381) (by rfl) (by rfl) (by rfl) rfl ?_
              refine hpa_bipush (by rfl) rfl ?_
              refine hpa_aload_n (by rfl) rfl ?_
              refine hpj_getK (by rfl) (by rfl) (by rfl) rfl ?_
              refine hpj_imulU (by rfl) (fun z42 => ?_)
              refine hpa_iload_n (by rfl) rfl ?_
              refine hpj_iaddU (by rfl) (fun z43 => ?_)
              refine hpa_iload_n (by rfl) rfl ?_
              refine hpx_iast (by rfl) (by rfl) (fun A44 h0A44 h1A44 eA44 fA44 gA44 => ?_)
              have UA44 := (UA37).ar eA44 fA44 gA44 (by decide +kernel)
              have HA44 := (HA37).e (congrArg (fun q => q.2) gA44)
              have OA44 : A44.2.1 376 (1 - sd) = A.2.1 376 (1 - sd) := by rw [fA44, hup2 (fun q => by omega)] <;> exact OA37
              have FA44 := F_A37.ar eA44 gA44
              have fpA44 := FA44.pos
              refine hpa_aload_n (by rfl) rfl ?_
              refine hpa_get (v := .ref 380) (by rfl) (by rfl) (by rfl) rfl ?_
              refine hpa_aload_n (by rfl) rfl ?_
              refine hpj_getK (by rfl) (by rfl) (by rfl) (hkA eA44 rfl) ?_
              refine hpa_dup2IR (by rfl) ?_
              refine hpx_iald (by rfl) (by rfl) (fun h0v45 h1v45 v45 ev45 => ?_)
              refine hpa_iconst (by rfl) rfl ?_
              refine hpj_iaddU (by rfl) (fun z46 => ?_)
              refine hpx_iast (by rfl) (by rfl) (fun A47 h0A47 h1A47 eA47 fA47 gA47 => ?_)
              have UA47 := (UA44).ar eA47 fA47 gA47 (by decide +kernel)
              have HA47 := (HA44).e (congrArg (fun q => q.2) gA47)
              have OA47 : A47.2.1 376 (1 - sd) = A.2.1 376 (1 - sd) := by rw [fA47, hup2 (fun q => by omega)] <;> exact OA44
              have FA47 := FA44.ar eA47 gA47
              have fpA47 := FA47.pos
              refine hpa_goto (by rfl) ?_
              exact hpa_return (by rfl) rfl (hP _ _ ⟨rfl, Or.inr ⟨FA47, OA47⟩⟩)
        ·
          have UA12 := (UA10).trans (wA12.le (by decide +kernel : ug_wle ug_x177.2.2.2.1 uM154r = true))
          have OA12 := (wA12.2.1 376 _ _ (1 - sd) rfl (by omega) (by decide +kernel)).trans OA10
          have fp_A12 := F_A12.pos
          refine hpa_s1 (by rfl) (Or.inl ⟨_, rfl, rfl⟩) rfl ?_
          refine hpa_aload_n (by rfl) rfl ?_
          refine hpa_iconst (by rfl) rfl ?_
          refine hpa_sipush (by rfl) rfl ?_
          refine hpa_call0 (by rfl) (by rfl) (by rfl) (by rfl) (by rfl) (by rfl) (uf_C (X := ug_x177) (j := 177) rfl rfl (ug_L.cons (uf_rk_ok (by decide +kernel)) (uf_int (uf_int uf_nil))) HA12 (hP155d (Int32.ofNat 0) (Int32.ofNat 255) F_A12)) ?_
          rintro _ A48 ⟨⟨z49, rfl, F_A48⟩, wA48, HA48⟩
          have UA48 := (UA12).trans (wA48.le (by decide +kernel : ug_wle ug_x177.2.2.2.1 uM154r = true))
          have OA48 := (wA48.2.1 376 _ _ (1 - sd) rfl (by omega) (by decide +kernel)).trans OA12
          have fp_A48 := F_A48.pos
          refine hpa_s1 (by rfl) (Or.inl ⟨_, rfl, rfl⟩) rfl ?_
          refine hpa_aload_n (by rfl) rfl ?_
          refine hpa_iconst (by rfl) rfl ?_
          refine hpa_call0 (by rfl) (by rfl) (by rfl) (by rfl) (by rfl) (by rfl) (uf_C (X := ug_x210) (j := 210) rfl rfl (ug_L.cons (uf_rk_ok (by decide +kernel)) (uf_int uf_nil)) HA48 (hP148d (Int32.ofNat 4) F_A48)) ?_
          rintro _ A50 ⟨⟨rfl, F_A50⟩, wA50, HA50⟩
          have UA50 := (UA48).trans (wA50.le (by decide +kernel : ug_wle ug_x210.2.2.2.1 uM154r = true))
          have OA50 := (wA50.2.1 376 _ _ (1 - sd) rfl (by omega) (by decide +kernel)).trans OA48
          have fp_A50 := F_A50.pos
          refine hpa_iload_n (by rfl) rfl ?_
          refine hpa_bipush (by rfl) rfl ?_
          refine hpj_cgt (by rfl) rfl hk_23 (fun q51 => ?_) (fun q51 => ?_)
          ·
            refine hpa_aload_n (by rfl) rfl ?_
            refine hpa_get (v := .ref 380) (by rfl) (by rfl) (by rfl) rfl ?_
            refine hpa_aload_n (by rfl) rfl ?_
            refine hpj_getK (by rfl) (by rfl) (by rfl) rfl ?_
            refine hpa_dup2IR (by rfl) ?_
            refine hpx_iald (by rfl) (by rfl) (fun h0v52 h1v52 v52 ev52 => ?_)
            refine hpa_iconst (by rfl) rfl ?_
            refine hpj_iaddU (by rfl) (fun z53 => ?_)
            refine hpx_iast (by rfl) (by rfl) (fun A54 h0A54 h1A54 eA54 fA54 gA54 => ?_)
            have UA54 := (UA50).ar eA54 fA54 gA54 (by decide +kernel)
            have HA54 := (HA50).e (congrArg (fun q => q.2) gA54)
            have OA54 : A54.2.1 376 (1 - sd) = A.2.1 376 (1 - sd) := by rw [fA54, hup2 (fun q => by omega)] <;> exact OA50
            have FA54 := F_A50.ar eA54 gA54
            have fpA54 := FA54.pos
            refine hpa_goto (by rfl) ?_
            exact hpa_return (by rfl) rfl (hP _ _ ⟨rfl, Or.inr ⟨FA54, OA54⟩⟩)
          ·
            refine hpa_aload_n (by rfl) rfl ?_
            refine hpa_get (v := .ref 381) (by rfl) (by rfl) (by rfl) rfl ?_
            refine hpa_bipush (by rfl) rfl ?_
            refine hpa_aload_n (by rfl) rfl ?_
            refine hpj_getK (by rfl) (by rfl) (by rfl) rfl ?_
            refine hpj_imulU (by rfl) (fun z55 => ?_)
            refine hpa_iload_n (by rfl) rfl ?_
            refine hpj_iaddU (by rfl) (fun z56 => ?_)
            refine hpa_iload_n (by rfl) rfl ?_
            refine hpx_iast (by rfl) (by rfl) (fun A57 h0A57 h1A57 eA57 fA57 gA57 => ?_)
            have UA57 := (UA50).ar eA57 fA57 gA57 (by decide +kernel)
            have HA57 := (HA50).e (congrArg (fun q => q.2) gA57)
            have OA57 : A57.2.1 376 (1 - sd) = A.2.1 376 (1 - sd) := by rw [fA57, hup2 (fun q => by omega)] <;> exact OA50
            have FA57 := F_A50.ar eA57 gA57
            have fpA57 := FA57.pos
            refine hpa_aload_n (by rfl) rfl ?_
            refine hpa_get (v := .ref 380) (by rfl) (by rfl) (by rfl) rfl ?_
            refine hpa_aload_n (by rfl) rfl ?_
            refine hpj_getK (by rfl) (by rfl) (by rfl) (hkA eA57 rfl) ?_
            refine hpa_dup2IR (by rfl) ?_
            refine hpx_iald (by rfl) (by rfl) (fun h0v58 h1v58 v58 ev58 => ?_)
            refine hpa_iconst (by rfl) rfl ?_
            refine hpj_iaddU (by rfl) (fun z59 => ?_)
            refine hpx_iast (by rfl) (by rfl) (fun A60 h0A60 h1A60 eA60 fA60 gA60 => ?_)
            have UA60 := (UA57).ar eA60 fA60 gA60 (by decide +kernel)
            have HA60 := (HA57).e (congrArg (fun q => q.2) gA60)
            have OA60 : A60.2.1 376 (1 - sd) = A.2.1 376 (1 - sd) := by rw [fA60, hup2 (fun q => by omega)] <;> exact OA57
            have FA60 := FA57.ar eA60 gA60
            have fpA60 := FA60.pos
            refine hpa_goto (by rfl) ?_
            exact hpa_return (by rfl) rfl (hP _ _ ⟨rfl, Or.inr ⟨FA60, OA60⟩⟩)
      ·
        have UA10 := (U0).trans (wA10.le (by decide +kernel : ug_wle ug_x172.2.2.2.1 uM154r = true))
        have OA10 := (wA10.2.1 376 _ _ (1 - sd) rfl (by omega) (by decide +kernel)).trans O0
        have fp_A10 := F_A10.pos
        refine hpa_aload_n (by rfl) rfl ?_
        refine hpj_getK (by rfl) (by rfl) (by rfl) rfl ?_
        refine hpj_zle (by rfl) rfl (fun q61 => False.elim (by omega)) (fun q61 => ?_)
        exact hpa_return (by rfl) rfl (hP _ _ ⟨rfl, Or.inr ⟨F_A10, OA10⟩⟩)
    ·
      by_cases q62 : v1.toInt = 22
      ·
        refine hpa_tabIn (by rfl) (by omega) (by omega) (by rw [q62]; rfl) (tgt := 206) (by rfl) ?_
        have hK : 2 ≤ K t ∧ K t ≤ 5 := by unfold hmK at hkk; omega
        refine hpa_aload_n (by rfl) rfl ?_
        refine hpa_get (v := .ref 371) (by rfl) (by rfl) (by rfl) rfl ?_
        refine hpa_aload_n (by rfl) rfl ?_
        refine hpj_getK (by rfl) (by rfl) (by rfl) rfl ?_
        refine hpx_iald (by rfl) (by rfl) (fun h0v63 h1v63 v63 ev63 => ?_)
        rw [hix] at ev63
        have tv63 := congrArg Int32.toInt ev63
        refine hpa_bipush (by rfl) rfl ?_
        refine hpj_isub (by rfl) rfl hk_22 (by omega) (by omega) (fun z64 ez64 => ?_)
        refine hpa_s1 (by rfl) (Or.inl ⟨_, rfl, rfl⟩) rfl ?_
        refine hpa_iload_n (by rfl) rfl ?_
        refine hpj_zlt (by rfl) rfl (fun q65 => False.elim (by omega)) (fun q65 => ?_)
        refine hpa_aload_n (by rfl) rfl ?_
        refine hpa_get (v := .ref 371) (by rfl) (by rfl) (by rfl) rfl ?_
        refine hpa_aload_n (by rfl) rfl ?_
        refine hpj_getK (by rfl) (by rfl) (by rfl) rfl ?_
        refine hpx_iald (by rfl) (by rfl) (fun h0v66 h1v66 v66 ev66 => ?_)
        rw [hix] at ev66
        have tv66 := congrArg Int32.toInt ev66
        refine hpa_bipush (by rfl) rfl ?_
        refine hpj_cle (by rfl) rfl hk_25 (fun q67 => ?_) (fun q67 => False.elim (by omega))
        refine hpa_aload_n (by rfl) rfl ?_
        refine hpj_getK (by rfl) (by rfl) (by rfl) rfl ?_
        refine hpj_zle (by rfl) rfl (fun q68 => ?_) (fun q68 => False.elim (by omega))
        refine hpa_aload_n (by rfl) rfl ?_
        refine hpa_call0 (by rfl) (by rfl) (by rfl) (by rfl) (by rfl) (by rfl) (uf_C (X := ug_x175) (j := 175) rfl rfl (ug_L.cons (uf_rk_ok (by decide +kernel)) uf_nil) hH0 (hP147 hB hR (hqd0_law hK))) ?_
        rintro _ A69 ⟨⟨rfl, (⟨B_A69, R_A69⟩ | F_A69)⟩, wA69, HA69⟩
        ·
          have UA69 := (U0).trans (wA69.le (by decide +kernel : ug_wle ug_x175.2.2.2.1 uM154r = true))
          have OA69 := (wA69.2.1 376 _ _ (1 - sd) rfl (by omega) (by decide +kernel)).trans O0
          have f0_A69 := B_A69.2.2.2
          have nx_A69 := B_A69.2.1
          have rd_A69 := R_A69.2.2.1
          refine hpa_aload_n (by rfl) rfl ?_
          refine hpa_iload_n (by rfl) rfl ?_
          refine hpa_call0 (by rfl) (by rfl) (by rfl) (by rfl) (by rfl) (by rfl) (uf_C (X := ug_x176) (j := 176) rfl rfl (ug_L.cons (uf_rk_ok (by decide +kernel)) (uf_int uf_nil)) HA69 (hP157 z64 B_A69 R_A69)) ?_
          rintro _ A70 ⟨⟨rfl, (OKK_A70 | F_A70)⟩, wA70, HA70⟩
          ·
            have UA70 := (UA69).trans (wA70.le (by decide +kernel : ug_wle ug_x176.2.2.2.1 uM154r = true))
            have OA70 := (wA70.2.1 376 _ _ (1 - sd) rfl (by omega) (by decide +kernel)).trans OA69
            obtain ⟨t9, a9, b9, c9, ns9, nm9, sn9, o9, lt9, B9, R9⟩ := OKK_A70
            exact hpa_return (by rfl) rfl (hP _ _ ⟨rfl, Or.inl ⟨⟨_, _, _, _, _, _, _, _, by omega, B9, R9⟩, OA70⟩⟩)
          ·
            have UA70 := (UA69).trans (wA70.le (by decide +kernel : ug_wle ug_x176.2.2.2.1 uM154r = true))
            have OA70 := (wA70.2.1 376 _ _ (1 - sd) rfl (by omega) (by decide +kernel)).trans OA69
            have fp_A70 := F_A70.pos
            exact hpa_return (by rfl) rfl (hP _ _ ⟨rfl, Or.inr ⟨F_A70, OA70⟩⟩)
        ·
          have UA69 := (U0).trans (wA69.le (by decide +kernel : ug_wle ug_x175.2.2.2.1 uM154r = true))
          have OA69 := (wA69.2.1 376 _ _ (1 - sd) rfl (by omega) (by decide +kernel)).trans O0
          have fp_A69 := F_A69.pos
          refine hpa_aload_n (by rfl) rfl ?_
          refine hpa_iload_n (by rfl) rfl ?_
          refine hpa_call0 (by rfl) (by rfl) (by rfl) (by rfl) (by rfl) (by rfl) (uf_C (X := ug_x176) (j := 176) rfl rfl (ug_L.cons (uf_rk_ok (by decide +kernel)) (uf_int uf_nil)) HA69 (hP157d z64 F_A69)) ?_
          rintro _ A71 ⟨⟨rfl, F_A71⟩, wA71, HA71⟩
          have UA71 := (UA69).trans (wA71.le (by decide +kernel : ug_wle ug_x176.2.2.2.1 uM154r = true))
          have OA71 := (wA71.2.1 376 _ _ (1 - sd) rfl (by omega) (by decide +kernel)).trans OA69
          have fp_A71 := F_A71.pos
          exact hpa_return (by rfl) rfl (hP _ _ ⟨rfl, Or.inr ⟨F_A71, OA71⟩⟩)
      ·
        by_cases q72 : v1.toInt = 23
        ·
          refine hpa_tabIn (by rfl) (by omega) (by omega) (by rw [q72]; rfl) (tgt := 206) (by rfl) ?_
          have hK : 2 ≤ K t ∧ K t ≤ 5 := by unfold hmK at hkk; omega
          refine hpa_aload_n (by rfl) rfl ?_
          refine hpa_get (v := .ref 371) (by rfl) (by rfl) (by rfl) rfl ?_
          refine hpa_aload_n (by rfl) rfl ?_
          refine hpj_getK (by rfl) (by rfl) (by rfl) rfl ?_
          refine hpx_iald (by rfl) (by rfl) (fun h0v73 h1v73 v73 ev73 => ?_)
          rw [hix] at ev73
          have tv73 := congrArg Int32.toInt ev73
          refine hpa_bipush (by rfl) rfl ?_
          refine hpj_isub (by rfl) rfl hk_22 (by omega) (by omega) (fun z74 ez74 => ?_)
          refine hpa_s1 (by rfl) (Or.inl ⟨_, rfl, rfl⟩) rfl ?_
          refine hpa_iload_n (by rfl) rfl ?_
          refine hpj_zlt (by rfl) rfl (fun q75 => False.elim (by omega)) (fun q75 => ?_)
          refine hpa_aload_n (by rfl) rfl ?_
          refine hpa_get (v := .ref 371) (by rfl) (by rfl) (by rfl) rfl ?_
          refine hpa_aload_n (by rfl) rfl ?_
          refine hpj_getK (by rfl) (by rfl) (by rfl) rfl ?_
          refine hpx_iald (by rfl) (by rfl) (fun h0v76 h1v76 v76 ev76 => ?_)
          rw [hix] at ev76
          have tv76 := congrArg Int32.toInt ev76
          refine hpa_bipush (by rfl) rfl ?_
          refine hpj_cle (by rfl) rfl hk_25 (fun q77 => ?_) (fun q77 => False.elim (by omega))
          refine hpa_aload_n (by rfl) rfl ?_
          refine hpj_getK (by rfl) (by rfl) (by rfl) rfl ?_
          refine hpj_zle (by rfl) rfl (fun q78 => ?_) (fun q78 => False.elim (by omega))
          refine hpa_aload_n (by rfl) rfl ?_
          refine hpa_call0 (by rfl) (by rfl) (by rfl) (by rfl) (by rfl) (by rfl) (uf_C (X := ug_x175) (j := 175) rfl rfl (ug_L.cons (uf_rk_ok (by decide +kernel)) uf_nil) hH0 (hP147 hB hR (hqd0_law hK))) ?_
          rintro _ A79 ⟨⟨rfl, (⟨B_A79, R_A79⟩ | F_A79)⟩, wA79, HA79⟩
          ·
            have UA79 := (U0).trans (wA79.le (by decide +kernel : ug_wle ug_x175.2.2.2.1 uM154r = true))
            have OA79 := (wA79.2.1 376 _ _ (1 - sd) rfl (by omega) (by decide +kernel)).trans O0
            have f0_A79 := B_A79.2.2.2
            have nx_A79 := B_A79.2.1
            have rd_A79 := R_A79.2.2.1
            refine hpa_aload_n (by rfl) rfl ?_
            refine hpa_iload_n (by rfl) rfl ?_
            refine hpa_call0 (by rfl) (by rfl) (by rfl) (by rfl) (by rfl) (by rfl) (uf_C (X := ug_x176) (j := 176) rfl rfl (ug_L.cons (uf_rk_ok (by decide +kernel)) (uf_int uf_nil)) HA79 (hP157 z74 B_A79 R_A79)) ?_
            rintro _ A80 ⟨⟨rfl, (OKK_A80 | F_A80)⟩, wA80, HA80⟩
            ·
              have UA80 := (UA79).trans (wA80.le (by decide +kernel : ug_wle ug_x176.2.2.2.1 uM154r = true))
              have OA80 := (wA80.2.1 376 _ _ (1 - sd) rfl (by omega) (by decide +kernel)).trans OA79
              obtain ⟨t9, a9, b9, c9, ns9, nm9, sn9, o9, lt9, B9, R9⟩ := OKK_A80
              exact hpa_return (by rfl) rfl (hP _ _ ⟨rfl, Or.inl ⟨⟨_, _, _, _, _, _, _, _, by omega, B9, R9⟩, OA80⟩⟩)
            ·
              have UA80 := (UA79).trans (wA80.le (by decide +kernel : ug_wle ug_x176.2.2.2.1 uM154r = true))
              have OA80 := (wA80.2.1 376 _ _ (1 - sd) rfl (by omega) (by decide +kernel)).trans OA79
              have fp_A80 := F_A80.pos
              exact hpa_return (by rfl) rfl (hP _ _ ⟨rfl, Or.inr ⟨F_A80, OA80⟩⟩)
          ·
            have UA79 := (U0).trans (wA79.le (by decide +kernel : ug_wle ug_x175.2.2.2.1 uM154r = true))
            have OA79 := (wA79.2.1 376 _ _ (1 - sd) rfl (by omega) (by decide +kernel)).trans O0
            have fp_A79 := F_A79.pos
            refine hpa_aload_n (by rfl) rfl ?_
            refine hpa_iload_n (by rfl) rfl ?_
            refine hpa_call0 (by rfl) (by rfl) (by rfl) (by rfl) (by rfl) (by rfl) (uf_C (X := ug_x176) (j := 176) rfl rfl (ug_L.cons (uf_rk_ok (by decide +kernel)) (uf_int uf_nil)) HA79 (hP157d z74 F_A79)) ?_
            rintro _ A81 ⟨⟨rfl, F_A81⟩, wA81, HA81⟩
            have UA81 := (UA79).trans (wA81.le (by decide +kernel : ug_wle ug_x176.2.2.2.1 uM154r = true))
            have OA81 := (wA81.2.1 376 _ _ (1 - sd) rfl (by omega) (by decide +kernel)).trans OA79
            have fp_A81 := F_A81.pos
            exact hpa_return (by rfl) rfl (hP _ _ ⟨rfl, Or.inr ⟨F_A81, OA81⟩⟩)
        ·
          by_cases q82 : v1.toInt = 24
          ·
            refine hpa_tabIn (by rfl) (by omega) (by omega) (by rw [q82]; rfl) (tgt := 206) (by rfl) ?_
            have hK : 2 ≤ K t ∧ K t ≤ 5 := by unfold hmK at hkk; omega
            refine hpa_aload_n (by rfl) rfl ?_
            refine hpa_get (v := .ref 371) (by rfl) (by rfl) (by rfl) rfl ?_
            refine hpa_aload_n (by rfl) rfl ?_
            refine hpj_getK (by rfl) (by rfl) (by rfl) rfl ?_
            refine hpx_iald (by rfl) (by rfl) (fun h0v83 h1v83 v83 ev83 => ?_)
            rw [hix] at ev83
            have tv83 := congrArg Int32.toInt ev83
            refine hpa_bipush (by rfl) rfl ?_
            refine hpj_isub (by rfl) rfl hk_22 (by omega) (by omega) (fun z84 ez84 => ?_)
            refine hpa_s1 (by rfl) (Or.inl ⟨_, rfl, rfl⟩) rfl ?_
            refine hpa_iload_n (by rfl) rfl ?_
            refine hpj_zlt (by rfl) rfl (fun q85 => False.elim (by omega)) (fun q85 => ?_)
            refine hpa_aload_n (by rfl) rfl ?_
            refine hpa_get (v := .ref 371) (by rfl) (by rfl) (by rfl) rfl ?_
            refine hpa_aload_n (by rfl) rfl ?_
            refine hpj_getK (by rfl) (by rfl) (by rfl) rfl ?_
            refine hpx_iald (by rfl) (by rfl) (fun h0v86 h1v86 v86 ev86 => ?_)
            rw [hix] at ev86
            have tv86 := congrArg Int32.toInt ev86
            refine hpa_bipush (by rfl) rfl ?_
            refine hpj_cle (by rfl) rfl hk_25 (fun q87 => ?_) (fun q87 => False.elim (by omega))
            refine hpa_aload_n (by rfl) rfl ?_
            refine hpj_getK (by rfl) (by rfl) (by rfl) rfl ?_
            refine hpj_zle (by rfl) rfl (fun q88 => ?_) (fun q88 => False.elim (by omega))
            refine hpa_aload_n (by rfl) rfl ?_
            refine hpa_call0 (by rfl) (by rfl) (by rfl) (by rfl) (by rfl) (by rfl) (uf_C (X := ug_x175) (j := 175) rfl rfl (ug_L.cons (uf_rk_ok (by decide +kernel)) uf_nil) hH0 (hP147 hB hR (hqd0_law hK))) ?_
            rintro _ A89 ⟨⟨rfl, (⟨B_A89, R_A89⟩ | F_A89)⟩, wA89, HA89⟩
            ·
              have UA89 := (U0).trans (wA89.le (by decide +kernel : ug_wle ug_x175.2.2.2.1 uM154r = true))
              have OA89 := (wA89.2.1 376 _ _ (1 - sd) rfl (by omega) (by decide +kernel)).trans O0
              have f0_A89 := B_A89.2.2.2
              have nx_A89 := B_A89.2.1
              have rd_A89 := R_A89.2.2.1
              refine hpa_aload_n (by rfl) rfl ?_
              refine hpa_iload_n (by rfl) rfl ?_
              refine hpa_call0 (by rfl) (by rfl) (by rfl) (by rfl) (by rfl) (by rfl) (uf_C (X := ug_x176) (j := 176) rfl rfl (ug_L.cons (uf_rk_ok (by decide +kernel)) (uf_int uf_nil)) HA89 (hP157 z84 B_A89 R_A89)) ?_
              rintro _ A90 ⟨⟨rfl, (OKK_A90 | F_A90)⟩, wA90, HA90⟩
              ·
                have UA90 := (UA89).trans (wA90.le (by decide +kernel : ug_wle ug_x176.2.2.2.1 uM154r = true))
                have OA90 := (wA90.2.1 376 _ _ (1 - sd) rfl (by omega) (by decide +kernel)).trans OA89
                obtain ⟨t9, a9, b9, c9, ns9, nm9, sn9, o9, lt9, B9, R9⟩ := OKK_A90
                exact hpa_return (by rfl) rfl (hP _ _ ⟨rfl, Or.inl ⟨⟨_, _, _, _, _, _, _, _, by omega, B9, R9⟩, OA90⟩⟩)
              ·
                have UA90 := (UA89).trans (wA90.le (by decide +kernel : ug_wle ug_x176.2.2.2.1 uM154r = true))
                have OA90 := (wA90.2.1 376 _ _ (1 - sd) rfl (by omega) (by decide +kernel)).trans OA89
                have fp_A90 := F_A90.pos
                exact hpa_return (by rfl) rfl (hP _ _ ⟨rfl, Or.inr ⟨F_A90, OA90⟩⟩)
            ·
              have UA89 := (U0).trans (wA89.le (by decide +kernel : ug_wle ug_x175.2.2.2.1 uM154r = true))
              have OA89 := (wA89.2.1 376 _ _ (1 - sd) rfl (by omega) (by decide +kernel)).trans O0
              have fp_A89 := F_A89.pos
              refine hpa_aload_n (by rfl) rfl ?_
              refine hpa_iload_n (by rfl) rfl ?_
              refine hpa_call0 (by rfl) (by rfl) (by rfl) (by rfl) (by rfl) (by rfl) (uf_C (X := ug_x176) (j := 176) rfl rfl (ug_L.cons (uf_rk_ok (by decide +kernel)) (uf_int uf_nil)) HA89 (hP157d z84 F_A89)) ?_
              rintro _ A91 ⟨⟨rfl, F_A91⟩, wA91, HA91⟩
              have UA91 := (UA89).trans (wA91.le (by decide +kernel : ug_wle ug_x176.2.2.2.1 uM154r = true))
              have OA91 := (wA91.2.1 376 _ _ (1 - sd) rfl (by omega) (by decide +kernel)).trans OA89
              have fp_A91 := F_A91.pos
              exact hpa_return (by rfl) rfl (hP _ _ ⟨rfl, Or.inr ⟨F_A91, OA91⟩⟩)
          ·
            by_cases q92 : v1.toInt = 25
            ·
              refine hpa_tabIn (by rfl) (by omega) (by omega) (by rw [q92]; rfl) (tgt := 206) (by rfl) ?_
              have hK : 2 ≤ K t ∧ K t ≤ 5 := by unfold hmK at hkk; omega
              refine hpa_aload_n (by rfl) rfl ?_
              refine hpa_get (v := .ref 371) (by rfl) (by rfl) (by rfl) rfl ?_
              refine hpa_aload_n (by rfl) rfl ?_
              refine hpj_getK (by rfl) (by rfl) (by rfl) rfl ?_
              refine hpx_iald (by rfl) (by rfl) (fun h0v93 h1v93 v93 ev93 => ?_)
              rw [hix] at ev93
              have tv93 := congrArg Int32.toInt ev93
              refine hpa_bipush (by rfl) rfl ?_
              refine hpj_isub (by rfl) rfl hk_22 (by omega) (by omega) (fun z94 ez94 => ?_)
              refine hpa_s1 (by rfl) (Or.inl ⟨_, rfl, rfl⟩) rfl ?_
              refine hpa_iload_n (by rfl) rfl ?_
              refine hpj_zlt (by rfl) rfl (fun q95 => False.elim (by omega)) (fun q95 => ?_)
              refine hpa_aload_n (by rfl) rfl ?_
              refine hpa_get (v := .ref 371) (by rfl) (by rfl) (by rfl) rfl ?_
              refine hpa_aload_n (by rfl) rfl ?_
              refine hpj_getK (by rfl) (by rfl) (by rfl) rfl ?_
              refine hpx_iald (by rfl) (by rfl) (fun h0v96 h1v96 v96 ev96 => ?_)
              rw [hix] at ev96
              have tv96 := congrArg Int32.toInt ev96
              refine hpa_bipush (by rfl) rfl ?_
              refine hpj_cle (by rfl) rfl hk_25 (fun q97 => ?_) (fun q97 => False.elim (by omega))
              refine hpa_aload_n (by rfl) rfl ?_
              refine hpj_getK (by rfl) (by rfl) (by rfl) rfl ?_
              refine hpj_zle (by rfl) rfl (fun q98 => ?_) (fun q98 => False.elim (by omega))
              refine hpa_aload_n (by rfl) rfl ?_
              refine hpa_call0 (by rfl) (by rfl) (by rfl) (by rfl) (by rfl) (by rfl) (uf_C (X := ug_x175) (j := 175) rfl rfl (ug_L.cons (uf_rk_ok (by decide +kernel)) uf_nil) hH0 (hP147 hB hR (hqd0_law hK))) ?_
              rintro _ A99 ⟨⟨rfl, (⟨B_A99, R_A99⟩ | F_A99)⟩, wA99, HA99⟩
              ·
                have UA99 := (U0).trans (wA99.le (by decide +kernel : ug_wle ug_x175.2.2.2.1 uM154r = true))
                have OA99 := (wA99.2.1 376 _ _ (1 - sd) rfl (by omega) (by decide +kernel)).trans O0
                have f0_A99 := B_A99.2.2.2
                have nx_A99 := B_A99.2.1
                have rd_A99 := R_A99.2.2.1
                refine hpa_aload_n (by rfl) rfl ?_
                refine hpa_iload_n (by rfl) rfl ?_
                refine hpa_call0 (by rfl) (by rfl) (by rfl) (by rfl) (by rfl) (by rfl) (uf_C (X := ug_x176) (j := 176) rfl rfl (ug_L.cons (uf_rk_ok (by decide +kernel)) (uf_int uf_nil)) HA99 (hP157 z94 B_A99 R_A99)) ?_
                rintro _ A100 ⟨⟨rfl, (OKK_A100 | F_A100)⟩, wA100, HA100⟩
                ·
                  have UA100 := (UA99).trans (wA100.le (by decide +kernel : ug_wle ug_x176.2.2.2.1 uM154r = true))
                  have OA100 := (wA100.2.1 376 _ _ (1 - sd) rfl (by omega) (by decide +kernel)).trans OA99
                  obtain ⟨t9, a9, b9, c9, ns9, nm9, sn9, o9, lt9, B9, R9⟩ := OKK_A100
                  exact hpa_return (by rfl) rfl (hP _ _ ⟨rfl, Or.inl ⟨⟨_, _, _, _, _, _, _, _, by omega, B9, R9⟩, OA100⟩⟩)
                ·
                  have UA100 := (UA99).trans (wA100.le (by decide +kernel : ug_wle ug_x176.2.2.2.1 uM154r = true))
                  have OA100 := (wA100.2.1 376 _ _ (1 - sd) rfl (by omega) (by decide +kernel)).trans OA99
                  have fp_A100 := F_A100.pos
                  exact hpa_return (by rfl) rfl (hP _ _ ⟨rfl, Or.inr ⟨F_A100, OA100⟩⟩)
              ·
                have UA99 := (U0).trans (wA99.le (by decide +kernel : ug_wle ug_x175.2.2.2.1 uM154r = true))
                have OA99 := (wA99.2.1 376 _ _ (1 - sd) rfl (by omega) (by decide +kernel)).trans O0
                have fp_A99 := F_A99.pos
                refine hpa_aload_n (by rfl) rfl ?_
                refine hpa_iload_n (by rfl) rfl ?_
                refine hpa_call0 (by rfl) (by rfl) (by rfl) (by rfl) (by rfl) (by rfl) (uf_C (X := ug_x176) (j := 176) rfl rfl (ug_L.cons (uf_rk_ok (by decide +kernel)) (uf_int uf_nil)) HA99 (hP157d z94 F_A99)) ?_
                rintro _ A101 ⟨⟨rfl, F_A101⟩, wA101, HA101⟩
                have UA101 := (UA99).trans (wA101.le (by decide +kernel : ug_wle ug_x176.2.2.2.1 uM154r = true))
                have OA101 := (wA101.2.1 376 _ _ (1 - sd) rfl (by omega) (by decide +kernel)).trans OA99
                have fp_A101 := F_A101.pos
                exact hpa_return (by rfl) rfl (hP _ _ ⟨rfl, Or.inr ⟨F_A101, OA101⟩⟩)
            ·
              by_cases q102 : v1.toInt = 26
              ·
                refine hpa_tabIn (by rfl) (by omega) (by omega) (by rw [q102]; rfl) (tgt := 167) (by rfl) ?_
                have hK : K t = 6 := by unfold hmK at hkk; omega
                refine hpa_aload_n (by rfl) rfl ?_
                refine hpa_get (v := .ref 382) (by rfl) (by rfl) (by rfl) rfl ?_
                refine hpa_aload_n (by rfl) rfl ?_
                refine hpj_getK (by rfl) (by rfl) (by rfl) rfl ?_
                refine hpa_aload_n (by rfl) rfl ?_
                refine hpa_iconst (by rfl) rfl ?_
                refine hpa_bipush (by rfl) rfl ?_
                refine hpa_call0 (by rfl) (by rfl) (by rfl) (by rfl) (by rfl) (by rfl) (uf_C (X := ug_x171) (j := 171) rfl rfl (ug_L.cons (uf_rk_ok (by decide +kernel)) (uf_int (uf_int uf_nil))) hH0 (hP153 (Int32.ofNat 1) (Int32.ofNat 99) hS hk_1 hk_99 hB hR (hqd0_grief hK) rfl rfl)) ?_
                rintro _ A103 ⟨⟨z104, rfl, (⟨B_A103, R_A103⟩ | F_A103)⟩, wA103, HA103⟩
                ·
                  have UA103 := (U0).trans (wA103.le (by decide +kernel : ug_wle ug_x171.2.2.2.1 uM154r = true))
                  have OA103 := (wA103.2.1 376 _ _ (1 - sd) rfl (by omega) (by decide +kernel)).trans O0
                  have f0_A103 := B_A103.2.2.2
                  have nx_A103 := B_A103.2.1
                  have rd_A103 := R_A103.2.2.1
                  refine hpx_iast (by rfl) (by rfl) (fun A105 h0A105 h1A105 eA105 fA105 gA105 => ?_)
                  have UA105 := (UA103).ar eA105 fA105 gA105 (by decide +kernel)
                  have HA105 := (HA103).e (congrArg (fun q => q.2) gA105)
                  have OA105 : A105.2.1 376 (1 - sd) = A.2.1 376 (1 - sd) := by rw [fA105, hup2 (fun q => by omega)] <;> exact OA103
                  have BA105 := B_A103.ar eA105 fA105 gA105 (by omega)
                  have RA105 := R_A103.ar eA105 fA105 gA105 (by omega)
                  have f0A105 := BA105.2.2.2
                  have nxA105 := BA105.2.1
                  have rdA105 := RA105.2.2.1
                  refine hpa_goto (by rfl) ?_
                  exact hpa_return (by rfl) rfl (hP _ _ ⟨rfl, Or.inl ⟨⟨_, _, _, _, _, _, _, _, by omega, BA105, RA105⟩, OA105⟩⟩)
                ·
                  have UA103 := (U0).trans (wA103.le (by decide +kernel : ug_wle ug_x171.2.2.2.1 uM154r = true))
                  have OA103 := (wA103.2.1 376 _ _ (1 - sd) rfl (by omega) (by decide +kernel)).trans O0
                  have fp_A103 := F_A103.pos
                  refine hpx_iast (by rfl) (by rfl) (fun A106 h0A106 h1A106 eA106 fA106 gA106 => ?_)
                  have UA106 := (UA103).ar eA106 fA106 gA106 (by decide +kernel)
                  have HA106 := (HA103).e (congrArg (fun q => q.2) gA106)
                  have OA106 : A106.2.1 376 (1 - sd) = A.2.1 376 (1 - sd) := by rw [fA106, hup2 (fun q => by omega)] <;> exact OA103
                  have FA106 := F_A103.ar eA106 gA106
                  have fpA106 := FA106.pos
                  refine hpa_goto (by rfl) ?_
                  exact hpa_return (by rfl) rfl (hP _ _ ⟨rfl, Or.inr ⟨FA106, OA106⟩⟩)
              ·
                by_cases q107 : v1.toInt = 27
                ·
                  refine hpa_tabIn (by rfl) (by omega) (by omega) (by rw [q107]; rfl) (tgt := 186) (by rfl) ?_
                  have hK : K t = 7 := by unfold hmK at hkk; omega
                  refine hpa_aload_n (by rfl) rfl ?_
                  refine hpa_get (v := .ref 383) (by rfl) (by rfl) (by rfl) rfl ?_
                  refine hpa_aload_n (by rfl) rfl ?_
                  refine hpj_getK (by rfl) (by rfl) (by rfl) rfl ?_
                  refine hpa_aload_n (by rfl) rfl ?_
                  refine hpa_iconst (by rfl) rfl ?_
                  refine hpa_sipush (by rfl) rfl ?_
                  refine hpa_call0 (by rfl) (by rfl) (by rfl) (by rfl) (by rfl) (by rfl) (uf_C (X := ug_x171) (j := 171) rfl rfl (ug_L.cons (uf_rk_ok (by decide +kernel)) (uf_int (uf_int uf_nil))) hH0 (hP153 (Int32.ofNat 0) (Int32.ofNat 9999) hS hk_0 hk_9999 hB hR (hqd0_seed hK) rfl rfl)) ?_
                  rintro _ A108 ⟨⟨z109, rfl, (⟨B_A108, R_A108⟩ | F_A108)⟩, wA108, HA108⟩
                  ·
                    have UA108 := (U0).trans (wA108.le (by decide +kernel : ug_wle ug_x171.2.2.2.1 uM154r = true))
                    have OA108 := (wA108.2.1 376 _ _ (1 - sd) rfl (by omega) (by decide +kernel)).trans O0
                    have f0_A108 := B_A108.2.2.2
                    have nx_A108 := B_A108.2.1
                    have rd_A108 := R_A108.2.2.1
                    refine hpx_iast (by rfl) (by rfl) (fun A110 h0A110 h1A110 eA110 fA110 gA110 => ?_)
                    have UA110 := (UA108).ar eA110 fA110 gA110 (by decide +kernel)
                    have HA110 := (HA108).e (congrArg (fun q => q.2) gA110)
                    have OA110 : A110.2.1 376 (1 - sd) = A.2.1 376 (1 - sd) := by rw [fA110, hup2 (fun q => by omega)] <;> exact OA108
                    have BA110 := B_A108.ar eA110 fA110 gA110 (by omega)
                    have RA110 := R_A108.ar eA110 fA110 gA110 (by omega)
                    have f0A110 := BA110.2.2.2
                    have nxA110 := BA110.2.1
                    have rdA110 := RA110.2.2.1
                    refine hpa_goto (by rfl) ?_
                    exact hpa_return (by rfl) rfl (hP _ _ ⟨rfl, Or.inl ⟨⟨_, _, _, _, _, _, _, _, by omega, BA110, RA110⟩, OA110⟩⟩)
                  ·
                    have UA108 := (U0).trans (wA108.le (by decide +kernel : ug_wle ug_x171.2.2.2.1 uM154r = true))
                    have OA108 := (wA108.2.1 376 _ _ (1 - sd) rfl (by omega) (by decide +kernel)).trans O0
                    have fp_A108 := F_A108.pos
                    refine hpx_iast (by rfl) (by rfl) (fun A111 h0A111 h1A111 eA111 fA111 gA111 => ?_)
                    have UA111 := (UA108).ar eA111 fA111 gA111 (by decide +kernel)
                    have HA111 := (HA108).e (congrArg (fun q => q.2) gA111)
                    have OA111 : A111.2.1 376 (1 - sd) = A.2.1 376 (1 - sd) := by rw [fA111, hup2 (fun q => by omega)] <;> exact OA108
                    have FA111 := F_A108.ar eA111 gA111
                    have fpA111 := FA111.pos
                    refine hpa_goto (by rfl) ?_
                    exact hpa_return (by rfl) rfl (hP _ _ ⟨rfl, Or.inr ⟨FA111, OA111⟩⟩)
                ·
                  refine hpa_tabOut (by rfl) (by omega) (tgt := 206) (by rfl) ?_
                  refine hpa_aload_n (by rfl) rfl ?_
                  refine hpa_get (v := .ref 371) (by rfl) (by rfl) (by rfl) rfl ?_
                  refine hpa_aload_n (by rfl) rfl ?_
                  refine hpj_getK (by rfl) (by rfl) (by rfl) rfl ?_
                  refine hpx_iald (by rfl) (by rfl) (fun h0v112 h1v112 v112 ev112 => ?_)
                  rw [hix] at ev112
                  have tv112 := congrArg Int32.toInt ev112
                  refine hpa_bipush (by rfl) rfl ?_
                  refine hpj_isub (by rfl) rfl hk_22 (by omega) (by omega) (fun z113 ez113 => ?_)
                  refine hpa_s1 (by rfl) (Or.inl ⟨_, rfl, rfl⟩) rfl ?_
                  refine hpa_iload_n (by rfl) rfl ?_
                  refine hpj_zlt (by rfl) rfl (fun q114 => ?_) (fun q114 => ?_)
                  ·
                    refine hpa_aload_n (by rfl) rfl ?_
                    refine hpa_iconst (by rfl) rfl ?_
                    refine hpa_call0 (by rfl) (by rfl) (by rfl) (by rfl) (by rfl) (by rfl) (uf_C (X := ug_x174) (j := 174) rfl rfl (ug_L.cons (uf_rk_ok (by decide +kernel)) (uf_int uf_nil)) hH0 (hP145 (Int32.ofNat 1) hB ⟨_, hqq, hqd0_else hne (by unfold hmK at hkk; omega)⟩ (by decide) hk_1)) ?_
                    rintro _ A115 ⟨⟨rfl, F_A115⟩, wA115, HA115⟩
                    have UA115 := (U0).trans (wA115.le (by decide +kernel : ug_wle ug_x174.2.2.2.1 uM154r = true))
                    have OA115 := (wA115.2.1 376 _ _ (1 - sd) rfl (by omega) (by decide +kernel)).trans O0
                    have fp_A115 := F_A115.pos
                    refine hpa_aload_n (by rfl) rfl ?_
                    refine hpj_getK (by rfl) (by rfl) (by rfl) rfl ?_
                    refine hpj_zle (by rfl) rfl (fun q116 => False.elim (by omega)) (fun q116 => ?_)
                    exact hpa_return (by rfl) rfl (hP _ _ ⟨rfl, Or.inr ⟨F_A115, OA115⟩⟩)
                  ·
                    refine hpa_aload_n (by rfl) rfl ?_
                    refine hpa_get (v := .ref 371) (by rfl) (by rfl) (by rfl) rfl ?_
                    refine hpa_aload_n (by rfl) rfl ?_
                    refine hpj_getK (by rfl) (by rfl) (by rfl) rfl ?_
                    refine hpx_iald (by rfl) (by rfl) (fun h0v117 h1v117 v117 ev117 => ?_)
                    rw [hix] at ev117
                    have tv117 := congrArg Int32.toInt ev117
                    refine hpa_bipush (by rfl) rfl ?_
                    refine hpj_cle (by rfl) rfl hk_25 (fun q118 => False.elim (by omega)) (fun q118 => ?_)
                    refine hpa_aload_n (by rfl) rfl ?_
                    refine hpa_iconst (by rfl) rfl ?_
                    refine hpa_call0 (by rfl) (by rfl) (by rfl) (by rfl) (by rfl) (by rfl) (uf_C (X := ug_x174) (j := 174) rfl rfl (ug_L.cons (uf_rk_ok (by decide +kernel)) (uf_int uf_nil)) hH0 (hP145 (Int32.ofNat 1) hB ⟨_, hqq, hqd0_else hne (by unfold hmK at hkk; omega)⟩ (by decide) hk_1)) ?_
                    rintro _ A119 ⟨⟨rfl, F_A119⟩, wA119, HA119⟩
                    have UA119 := (U0).trans (wA119.le (by decide +kernel : ug_wle ug_x174.2.2.2.1 uM154r = true))
                    have OA119 := (wA119.2.1 376 _ _ (1 - sd) rfl (by omega) (by decide +kernel)).trans O0
                    have fp_A119 := F_A119.pos
                    refine hpa_aload_n (by rfl) rfl ?_
                    refine hpj_getK (by rfl) (by rfl) (by rfl) rfl ?_
                    refine hpj_zle (by rfl) rfl (fun q120 => False.elim (by omega)) (fun q120 => ?_)
                    exact hpa_return (by rfl) rfl (hP _ _ ⟨rfl, Or.inr ⟨F_A119, OA119⟩⟩)
theorem hP154r {g d : Nat} {A : hs_A} {K V S : Nat → Int} {E : Nat → Nat → Bool} {t : Nat} {a b c : Nat} {ns : List Nat} {nm sn sd : Nat} {o : Option (Nat × Nat)} (hS : hmS K S) (hB : hmB K V S E A t (0, a, b, c, ns, nm, sn, o)) (hR : hmR S A t ns sn o sd 0) (hne : ¬ K t = 22) (hH0 : uf_H A) : hpC g d 154 hm_m154 [.ref 368] A (fun r A' => r = none ∧ ((hmOK K V S E A' t sd ∧ A'.2.1 376 (1 - sd) = A.2.1 376 (1 - sd)) ∨ (hmF K V S E A' ∧ A'.2.1 376 (1 - sd) = A.2.1 376 (1 - sd)))) := hpC.all (fun f d => hW154r hS hB hR hne hH0 (fun r A' h => h))
def uMf : Nat := 66111502585030189513783521905963070631922882968193552051292966639057732548145130242048
def hq_hs (K V : Nat → Int) (E : Nat → Nat → Bool) (x y : Int) : Prop := ∃ (t : Nat) (s : hq_S), hq_q K V E t = some s ∧ hq_dl K V E t s = .inr 0 ∧ x = (s.2.2.2.2.1.length : Int) ∧ y = (s.2.2.2.2.2.2.1 : Int)
theorem hq_hs_one {K V : Nat → Int} {E : Nat → Nat → Bool} {x y x' y' : Int} (h : hq_hs K V E x y) (h' : hq_hs K V E x' y') : x = x' ∧ y = y' := by
  obtain ⟨t, s, a, b, c, d⟩ := h
  obtain ⟨t', s', a', b', c', d'⟩ := h'
  obtain ⟨rfl, -⟩ := hq_f_one K V E ⟨s, a, b⟩ ⟨s', a', b'⟩
  rw [a] at a'
  cases a'
  exact ⟨c.trans c'.symm, d.trans d'.symm⟩
theorem hW150r {g d f : Nat} {A : hs_A} {B : Nat → Int} {n sd : Nat} (hA : ∀ i, i < n → (A.2.1 368 i).toInt = B i) (hBr : ∀ i, i < n → -128 ≤ B i ∧ B i ≤ 127) (hn : n ≤ 2000) (h2 : (A.1 367 2).toInt = (n : Int)) (hlv : (A.1 367 18).toInt = 1 - (sd : Int)) (hsd : sd ≤ 1) (hU : hcU A) (hH0 : uf_H A) {P : Option Value → hs_A → Prop} (hP : ∀ (r : Option Value) (A' : hs_A), (∃ z : Int32, r = some (.int z) ∧ hq_res (ht_K B n) (ht_W B n) (fun u => (ht_S B n u : Int)) (ht_E B n) z.toInt (A'.1 367 17).toInt ∧ hcU A' ∧ (z.toInt = 0 → hq_hs (ht_K B n) (ht_W B n) (ht_E B n) (A'.2.1 376 sd).toInt (A'.2.1 379 sd).toInt ∧ (A'.1 367 18).toInt = (sd : Int) ∧ (A'.1 367 51).toInt = 0 ∧ (A'.1 367 59).toInt = 0 ∧ ∀ s : Nat, (s : Int) < 3 → (A'.2.1 408 s).toInt = 0) ∧ (¬ z.toInt = 0 → uf_W uMf A A' ∧ A'.2.1 376 (1 - sd) = A.2.1 376 (1 - sd))) → P r A') : hpa (f, g) d (some (.int)) hm_t150 0 [.ref 368, .retAddr 0] [] A P := by
  have k0 := hk_0
  have k1 := hk_1
  have k130 := hk_130
  have k3 := hk_3
  have k420 := hk_420
  have k4294967295 := hk_4294967295
  have U0 : uf_W uMf A A := uf_W.rfl
  have O0 : A.2.1 376 (1 - sd) = A.2.1 376 (1 - sd) := rfl
  have L219 : ∀ (f : Nat) (x219_1 : Int32) (A219 : hs_A) (rs219 : hq_res (ht_K B n) (ht_W B n) (fun u => (ht_S B n u : Int)) (ht_E B n) 0 (A219.1 367 17).toInt) (hu219 : hcU A219) (hs219 : hq_hs (ht_K B n) (ht_W B n) (ht_E B n) (A219.2.1 376 sd).toInt (A219.2.1 379 sd).toInt) (lv219 : (A219.1 367 18).toInt = (sd : Int)) (un219 : (A219.1 367 51).toInt = 0) (to219 : (A219.1 367 59).toInt = 0) (lo219 : 0 ≤ x219_1.toInt) (he219 : ∀ s : Nat, (s : Int) < x219_1.toInt → (A219.2.1 408 s).toInt = 0) (H219 : uf_H A219), hpa (f, g) d (some (.int)) hm_t150 219 [.ref 368, .int x219_1] [] A219 P := by
    intro f
    induction f with
    | zero => intros; exact hpa.zero
    | succ f ih219 =>
      intro x219_1 A219 rs219 hu219 hs219 lv219 un219 to219 lo219 he219 H219
      refine hpa_iload_nS (by rfl) rfl ?_
      refine hpa_iconst (by rfl) rfl ?_
      refine hpj_cge (by rfl) rfl hk_3 (fun q1 => ?_) (fun q1 => ?_)
      ·
        refine hpa_iconst (by rfl) rfl ?_
        exact hpa_ireturn (by rfl) rfl (hP _ _ ⟨_, rfl, by rw [hk_0]; exact rs219, hu219, fun _ => ⟨hs219, lv219, un219, to219, fun s q => he219 s (by omega)⟩, fun q => absurd hk_0 q⟩)
      ·
        refine hpa_aload_n (by rfl) rfl ?_
        refine hpa_get (v := .ref 409) (by rfl) (by rfl) (by rfl) rfl ?_
        refine hpa_iload_n (by rfl) rfl ?_
        refine hpa_iconst (by rfl) rfl ?_
        refine hpx_zast (by rfl) (by rfl) (by decide) (fun A2 h0A2 h1A2 eA2 fA2 gA2 => ?_)
        have HA2 := (H219).e (congrArg (fun q => q.2) gA2)
        have rsA2 : hq_res (ht_K B n) (ht_W B n) (fun u => (ht_S B n u : Int)) (ht_E B n) 0 (A2.1 367 17).toInt := by rw [eA2]; exact rs219
        have huA2 : hcU A2 := hu219.fr (by rw [gA2])
        have hsA2 : hq_hs (ht_K B n) (ht_W B n) (ht_E B n) (A2.2.1 376 sd).toInt (A2.2.1 379 sd).toInt := by rw [fA2, hup2 (by omega), hup2 (by omega)]; exact hs219
        have lvA2 : (A2.1 367 18).toInt = (sd : Int) := by rw [eA2]; exact lv219
        have unA2 : (A2.1 367 51).toInt = 0 := by rw [eA2]; exact un219
        have toA2 : (A2.1 367 59).toInt = 0 := by rw [eA2]; exact to219
        have hcx := hn_cn (j := x219_1) (by omega)
        have heA2 : ∀ s : Nat, (s : Int) < x219_1.toInt + 1 → (A2.2.1 408 s).toInt = 0 := fun s hs2 => by rw [fA2]; by_cases q : s = x219_1.toNatClampNeg; (rw [q, hup1]; exact hk_0); (rw [hup2 (fun w => q w.2)]; exact he219 s (by omega))
        refine hpj_iinc (by rfl) rfl rfl hk_1 (by omega) (by omega) (fun _ => rfl) (fun z3 ez3 => ?_)
        refine hpa_goto (by rfl) ?_
        exact ih219 z3 A2 rsA2 huA2 hsA2 lvA2 unA2 toA2 (by omega) (fun s q => heA2 s (by omega)) HA2
  have L112 : ∀ (f : Nat) (x112_1 : Value) (A112 : hs_A) (D112 : (∃ (t a b c : Nat) (ns : List Nat) (nm sn : Nat) (o : Option (Nat × Nat)), hmB (ht_K B n) (ht_W B n) (fun u => (ht_S B n u : Int)) (ht_E B n) A112 t (0, a, b, c, ns, nm, sn, o) ∧ hmR (fun u => (ht_S B n u : Int)) A112 t ns sn o sd 0) ∨ hmF (ht_K B n) (ht_W B n) (fun u => (ht_S B n u : Int)) (ht_E B n) A112) (O112 : A112.2.1 376 (1 - sd) = A.2.1 376 (1 - sd)) (U112 : uf_W uMf A A112) (H112 : uf_H A112), hpa (f, g) d (some (.int)) hm_t150 112 [.ref 368, x112_1] [] A112 P := by
    intro f
    induction f with
    | zero => intros; exact hpa.zero
    | succ f ih112 =>
      intro x112_1 A112 D112 O112 U112 H112
      rcases D112 with ⟨t, a, b, c, ns, nm, sn, o, B1, R1⟩ | F1
      ·
        have f01 := B1.2.2.2
        have nx1 := B1.2.1
        have j0 := B1.i0 hk_0
        have hl1 := R1.2.2.2.2.2.2.2
        have hU1 := B1.1.2.2
        refine hpa_aload_nS (by rfl) rfl ?_
        refine hpj_getK (by rfl) (by rfl) (by rfl) rfl ?_
        refine hpj_zne (by rfl) rfl (fun q4 => False.elim (by omega)) (fun q4 => ?_)
        refine hpa_aload_n (by rfl) rfl ?_
        refine hpa_iconst (by rfl) rfl ?_
        refine hpa_call0 (by rfl) (by rfl) (by rfl) (by rfl) (by rfl) (by rfl) (uf_C (X := ug_x93) (j := 93) rfl rfl (ug_L.cons (uf_rk_ok (by decide +kernel)) (uf_int uf_nil)) H112 (hP144 (Int32.ofNat 0) B1)) ?_
        rintro _ _ ⟨⟨rfl, z6, rfl, (⟨fz_A5, e_A5⟩ | ⟨fz_A5, ne_A5⟩)⟩, -, -⟩
        ·
          refine hpj_zne (by rfl) rfl (fun q7 => ?_) (fun q7 => False.elim (by omega))
          refine hpa_aload_n (by rfl) rfl ?_
          refine hpa_aload_n (by rfl) rfl ?_
          refine hpj_getK (by rfl) (by rfl) (by rfl) rfl ?_
          refine hpj_zle (by rfl) rfl (fun q8 => ?_) (fun q8 => False.elim (by omega))
          refine hpa_aload_n (by rfl) rfl ?_
          refine hpj_getK (by rfl) (by rfl) (by rfl) rfl ?_
          refine hpj_zle (by rfl) rfl (fun q9 => ?_) (fun q9 => ?_)
          ·
            refine hpa_iconst (by rfl) rfl ?_
            refine hpj_putI (by rfl) (by rfl) (by rfl) (by rfl) (fun A10 eA10 fA10 => ?_)
            have UA10 := (U112).put eA10 fA10 (by decide +kernel)
            have HA10 := (H112).e (congrArg (fun q => q.2.2) fA10)
            have OA10 : A10.2.1 376 (1 - sd) = A.2.1 376 (1 - sd) := by rw [fA10] <;> exact O112
            refine hpa_aload_n (by rfl) rfl ?_
            refine hpj_getK (by rfl) (by rfl) (by rfl) (hkF eA10 (by omega) rfl) ?_
            refine hpj_zle (by rfl) rfl (fun q11 => ?_) (fun q11 => False.elim (by omega))
            refine hpa_aload_n (by rfl) rfl ?_
            refine hpj_getK (by rfl) (by rfl) (by rfl) (hkF eA10 (by omega) rfl) ?_
            refine hpj_zle (by rfl) rfl (fun q12 => ?_) (fun q12 => False.elim (by omega))
            refine hpa_aload_n (by rfl) rfl ?_
            refine hpa_aload_n (by rfl) rfl ?_
            refine hpj_getK (by rfl) (by rfl) (by rfl) (hkF eA10 (by omega) rfl) ?_
            refine hpj_putI (by rfl) (by rfl) (by rfl) (by rfl) (fun A13 eA13 fA13 => ?_)
            have HA13 := (HA10).e (congrArg (fun q => q.2.2) fA13)
            have OA13 : A13.2.1 376 (1 - sd) = A.2.1 376 (1 - sd) := by rw [fA13] <;> exact OA10
            have rsA13 : hq_res (ht_K B n) (ht_W B n) (fun u => (ht_S B n u : Int)) (ht_E B n) 0 (A13.1 367 17).toInt := by
              rw [show A13.1 367 17 = (Int32.ofNat 4294967295) from (hkF eA13 (by omega) (hkS eA10)), hk_4294967295]
              exact hq_res.fine B1.2.2.1 (hqd0_end (by omega)) hl1 (by omega)
            have huA13 : hcU A13 := hU1.fr (by rw [fA13, fA10])
            have hsA13 : hq_hs (ht_K B n) (ht_W B n) (ht_E B n) (A13.2.1 376 sd).toInt (A13.2.1 379 sd).toInt := ⟨_, _, B1.2.2.1, hqd0_end (by omega), by rw [fA13, fA10]; exact R1.2.2.2.1, by rw [fA13, fA10]; exact R1.2.2.2.2.1⟩
            have rsd := R1.1
            have l18 := congrArg Int32.toInt (show A13.1 367 18 = (A112.1 367 19) from (hkS eA13))
            have lvA13 : (A13.1 367 18).toInt = (sd : Int) := by omega
            refine hpa_aload_n (by rfl) rfl ?_
            refine hpa_call0 (by rfl) (by rfl) (by rfl) (by rfl) (by rfl) (by rfl) (uf_C (X := ug_x94) (j := 94) rfl rfl (ug_L.cons (uf_rk_ok (by decide +kernel)) uf_nil) HA13 (hP169 )) ?_
            rintro _ A14 ⟨⟨rfl, p17_A14, lg_A14⟩, wA14, HA14⟩
            have OA14 := (wA14.2.1 376 _ _ (1 - sd) rfl (by omega) (by decide +kernel)).trans OA13
            have rsA14 : hq_res (ht_K B n) (ht_W B n) (fun u => (ht_S B n u : Int)) (ht_E B n) 0 (A14.1 367 17).toInt := by rw [p17_A14]; exact rsA13
            have huA14 : hcU A14 := huA13.fr (by rw [lg_A14])
            have hsA14 : hq_hs (ht_K B n) (ht_W B n) (ht_E B n) (A14.2.1 376 sd).toInt (A14.2.1 379 sd).toInt := by rw [wA14.2.1 376 _ _ sd rfl (by omega) (by decide +kernel), wA14.2.1 379 _ _ sd rfl (by omega) (by decide +kernel)]; exact hsA13
            have lvA14 : (A14.1 367 18).toInt = (sd : Int) := by rw [wA14.1 367 _ _ 18 rfl rfl (by decide +kernel)]; exact lvA13
            refine hpa_aload_n (by rfl) rfl ?_
            refine hpa_call0 (by rfl) (by rfl) (by rfl) (by rfl) (by rfl) (by rfl) (uf_C (X := ug_x95) (j := 95) rfl rfl (ug_L.cons (uf_rk_ok (by decide +kernel)) uf_nil) HA14 (hP170 )) ?_
            rintro _ A15 ⟨⟨rfl, p17_A15, lg_A15⟩, wA15, HA15⟩
            have OA15 := (wA15.2.1 376 _ _ (1 - sd) rfl (by omega) (by decide +kernel)).trans OA14
            have rsA15 : hq_res (ht_K B n) (ht_W B n) (fun u => (ht_S B n u : Int)) (ht_E B n) 0 (A15.1 367 17).toInt := by rw [p17_A15]; exact rsA14
            have huA15 : hcU A15 := huA14.fr (by rw [lg_A15])
            have hsA15 : hq_hs (ht_K B n) (ht_W B n) (ht_E B n) (A15.2.1 376 sd).toInt (A15.2.1 379 sd).toInt := by rw [wA15.2.1 376 _ _ sd rfl (by omega) (by decide +kernel), wA15.2.1 379 _ _ sd rfl (by omega) (by decide +kernel)]; exact hsA14
            have lvA15 : (A15.1 367 18).toInt = (sd : Int) := by rw [wA15.1 367 _ _ 18 rfl rfl (by decide +kernel)]; exact lvA14
            refine hpa_aload_n (by rfl) rfl ?_
            refine hpa_iconst (by rfl) rfl ?_
            refine hpj_putI (by rfl) (by rfl) (by rfl) (by rfl) (fun A16 eA16 fA16 => ?_)
            have HA16 := (HA15).e (congrArg (fun q => q.2.2) fA16)
            have OA16 : A16.2.1 376 (1 - sd) = A.2.1 376 (1 - sd) := by rw [fA16] <;> exact OA15
            have rsA16 : hq_res (ht_K B n) (ht_W B n) (fun u => (ht_S B n u : Int)) (ht_E B n) 0 (A16.1 367 17).toInt := by rw [eA16, hup2 (by omega)]; exact rsA15
            have huA16 : hcU A16 := huA15.fr (by rw [fA16])
            have hsA16 : hq_hs (ht_K B n) (ht_W B n) (ht_E B n) (A16.2.1 376 sd).toInt (A16.2.1 379 sd).toInt := by rw [fA16]; exact hsA15
            have lvA16 : (A16.1 367 18).toInt = (sd : Int) := by rw [eA16, hup2 (by omega)]; exact lvA15
            have unA16 : (A16.1 367 51).toInt = 0 := by rw [eA16, hup1]; exact hk_0
            refine hpa_aload_n (by rfl) rfl ?_
            refine hpa_iconst (by rfl) rfl ?_
            refine hpj_putI (by rfl) (by rfl) (by rfl) (by rfl) (fun A17 eA17 fA17 => ?_)
            have HA17 := (HA16).e (congrArg (fun q => q.2.2) fA17)
            have OA17 : A17.2.1 376 (1 - sd) = A.2.1 376 (1 - sd) := by rw [fA17] <;> exact OA16
            have rsA17 : hq_res (ht_K B n) (ht_W B n) (fun u => (ht_S B n u : Int)) (ht_E B n) 0 (A17.1 367 17).toInt := by rw [eA17, hup2 (by omega)]; exact rsA16
            have huA17 : hcU A17 := huA16.fr (by rw [fA17])
            have hsA17 : hq_hs (ht_K B n) (ht_W B n) (ht_E B n) (A17.2.1 376 sd).toInt (A17.2.1 379 sd).toInt := by rw [fA17]; exact hsA16
            have lvA17 : (A17.1 367 18).toInt = (sd : Int) := by rw [eA17, hup2 (by omega)]; exact lvA16
            have unA17 : (A17.1 367 51).toInt = 0 := by rw [eA17, hup2 (by omega)]; exact unA16
            have toA17 : (A17.1 367 59).toInt = 0 := by rw [eA17, hup1]; exact hk_0
            refine hpa_iconst (by rfl) rfl ?_
            refine hpa_s1 (by rfl) (Or.inl ⟨_, rfl, rfl⟩) rfl ?_
            exact L219 _ (Int32.ofNat 0) A17 rsA17 huA17 hsA17 lvA17 unA17 toA17 (by omega) (fun s q => absurd q (by omega)) HA17
          ·
            refine hpa_aload_n (by rfl) rfl ?_
            refine hpj_getK (by rfl) (by rfl) (by rfl) rfl ?_
            refine hpa_goto (by rfl) ?_
            refine hpj_putI (by rfl) (by rfl) (by rfl) (by rfl) (fun A18 eA18 fA18 => ?_)
            have UA18 := (U112).put eA18 fA18 (by decide +kernel)
            have HA18 := (H112).e (congrArg (fun q => q.2.2) fA18)
            have OA18 : A18.2.1 376 (1 - sd) = A.2.1 376 (1 - sd) := by rw [fA18] <;> exact O112
            refine hpa_aload_n (by rfl) rfl ?_
            refine hpj_getK (by rfl) (by rfl) (by rfl) (hkF eA18 (by omega) rfl) ?_
            refine hpj_zle (by rfl) rfl (fun q19 => ?_) (fun q19 => False.elim (by omega))
            refine hpa_aload_n (by rfl) rfl ?_
            refine hpj_getK (by rfl) (by rfl) (by rfl) (hkF eA18 (by omega) rfl) ?_
            refine hpj_zle (by rfl) rfl (fun q20 => False.elim (by omega)) (fun q20 => ?_)
            refine hpa_aload_n (by rfl) rfl ?_
            refine hpj_getK (by rfl) (by rfl) (by rfl) (hkF eA18 (by omega) rfl) ?_
            exact hpa_ireturn (by rfl) rfl (hP _ _ ⟨_, rfl, by rw [show A18.1 367 17 = (A112.1 367 16) from (hkS eA18)]; exact hq_res.bad B1.2.2.1 (hqd0_end (by omega)) hl1 (by omega), hU1.fr (by rw [fA18]), fun q => False.elim (by omega), fun _ => ⟨UA18, OA18⟩⟩)
        ·
          refine hpj_zne (by rfl) rfl (fun q21 => False.elim (by omega)) (fun q21 => ?_)
          refine hpa_aload_n (by rfl) rfl ?_
          refine hpa_call0 (by rfl) (by rfl) (by rfl) (by rfl) (by rfl) (by rfl) (uf_C (X := ug_x131) (j := 131) rfl rfl (ug_L.cons (uf_rk_ok (by decide +kernel)) uf_nil) H112 (hP154r hmS.of B1 R1 (by omega) H112)) ?_
          rintro _ A22 ⟨⟨rfl, (⟨OKK_A22, OT_A22⟩ | ⟨F_A22, OT_A22⟩)⟩, wA22, HA22⟩
          ·
            have UA22 := (U112).trans (wA22.le (by decide +kernel : ug_wle ug_x131.2.2.2.1 uMf = true))
            have OA22 := (OT_A22).trans O112
            obtain ⟨t9, a9, b9, c9, ns9, nm9, sn9, o9, lt9, B9, R9⟩ := OKK_A22
            refine hpa_goto (by rfl) ?_
            exact ih112 (x112_1) A22 (Or.inl ⟨_, _, _, _, _, _, _, _, B9, R9⟩) OA22 UA22 HA22
          ·
            have UA22 := (U112).trans (wA22.le (by decide +kernel : ug_wle ug_x131.2.2.2.1 uMf = true))
            have OA22 := (OT_A22).trans O112
            have fp_A22 := F_A22.pos
            refine hpa_goto (by rfl) ?_
            exact ih112 (x112_1) A22 (Or.inr F_A22) OA22 UA22 HA22
      ·
        have fp1 := F1.pos
        obtain ⟨fU, ft, fk, fq, fk0, fv, fpl⟩ := id F1
        refine hpa_aload_nS (by rfl) rfl ?_
        refine hpj_getK (by rfl) (by rfl) (by rfl) rfl ?_
        refine hpj_zne (by rfl) rfl (fun q23 => ?_) (fun q23 => False.elim (by omega))
        refine hpa_aload_n (by rfl) rfl ?_
        refine hpa_aload_n (by rfl) rfl ?_
        refine hpj_getK (by rfl) (by rfl) (by rfl) rfl ?_
        refine hpj_zle (by rfl) rfl (fun q24 => False.elim (by omega)) (fun q24 => ?_)
        refine hpa_aload_n (by rfl) rfl ?_
        refine hpj_getK (by rfl) (by rfl) (by rfl) rfl ?_
        refine hpa_goto (by rfl) ?_
        refine hpj_putI (by rfl) (by rfl) (by rfl) (by rfl) (fun A25 eA25 fA25 => ?_)
        have UA25 := (U112).put eA25 fA25 (by decide +kernel)
        have HA25 := (H112).e (congrArg (fun q => q.2.2) fA25)
        have OA25 : A25.2.1 376 (1 - sd) = A.2.1 376 (1 - sd) := by rw [fA25] <;> exact O112
        refine hpa_aload_n (by rfl) rfl ?_
        refine hpj_getK (by rfl) (by rfl) (by rfl) (hkF eA25 (by omega) rfl) ?_
        refine hpj_zle (by rfl) rfl (fun q26 => False.elim (by omega)) (fun q26 => ?_)
        refine hpa_aload_n (by rfl) rfl ?_
        refine hpj_getK (by rfl) (by rfl) (by rfl) (hkF eA25 (by omega) rfl) ?_
        exact hpa_ireturn (by rfl) rfl (hP _ _ ⟨_, rfl, by rw [show A25.1 367 17 = (A112.1 367 14) from (hkS eA25)]; exact Or.inl ⟨ft, fk, fq, fk0, fv, fpl⟩, fU.fr (by rw [fA25]), fun q => False.elim (by omega), fun _ => ⟨UA25, OA25⟩⟩)
  have L10 : ∀ (f : Nat) (x10_1 : Int32) (A10 : hs_A) (fe : ∀ i k, ¬ (i = 367 ∧ k = 4) → A10.1 i k = A.1 i k) (f4 : (A10.1 367 4).toInt = (n : Int)) (fa : ∀ i, ¬ i = 369 → A10.2.1 i = A.2.1 i) (fl : A10.2.2 = A.2.2) (lo : 0 ≤ x10_1.toInt) (hi : x10_1.toInt ≤ (n : Int)) (cp : ∀ i : Nat, (i : Int) < x10_1.toInt → (A10.2.1 369 i).toInt = B i) (O10 : A10.2.1 376 (1 - sd) = A.2.1 376 (1 - sd)) (U10 : uf_W uMf A A10) (H10 : uf_H A10), hpa (f, g) d (some (.int)) hm_t150 10 [.ref 368, .int x10_1] [] A10 P := by
    intro f
    induction f with
    | zero => intros; exact hpa.zero
    | succ f ih10 =>
      intro x10_1 A10 fe f4 fa fl lo hi cp O10 U10 H10
      refine hpa_iload_nS (by rfl) rfl ?_
      refine hpa_aload_n (by rfl) rfl ?_
      refine hpj_getK (by rfl) (by rfl) (by rfl) rfl ?_
      refine hpj_cge (by rfl) rfl rfl (fun q27 => ?_) (fun q27 => ?_)
      ·
        refine hpa_aload_n (by rfl) rfl ?_
        refine hpa_iconst (by rfl) rfl ?_
        refine hpj_putI (by rfl) (by rfl) (by rfl) (by rfl) (fun A28 eA28 fA28 => ?_)
        have UA28 := (U10).put eA28 fA28 (by decide +kernel)
        have HA28 := (H10).e (congrArg (fun q => q.2.2) fA28)
        have OA28 : A28.2.1 376 (1 - sd) = A.2.1 376 (1 - sd) := by rw [fA28] <;> exact O10
        have hA38 : hmTp B n A28 := ⟨by rw [eA28, hup2 (by omega)]; exact f4, fun i hi => by rw [fA28]; exact cp i (by omega)⟩
        have hU38 : hcU A28 := hU.fr (by rw [fA28, fl])
        have hl38 : (A28.1 367 18).toInt = 1 - (sd : Int) := by rw [eA28, hup2 (by omega), fe 367 18 (by omega)]; exact hlv
        refine hpa_aload_n (by rfl) rfl ?_
        refine hpa_call0 (by rfl) (by rfl) (by rfl) (by rfl) (by rfl) (by rfl) (uf_C (X := ug_x91) (j := 91) rfl rfl (ug_L.cons (uf_rk_ok (by decide +kernel)) uf_nil) HA28 (hP142 hA38 hn hBr hU38)) ?_
        rintro _ A29 ⟨⟨rfl, C_A29, TE_A29⟩, wA29, HA29⟩
        have UA29 := (UA28).trans (wA29.le (by decide +kernel : ug_wle ug_x91.2.2.2.1 uMf = true))
        have OA29 := (wA29.2.1 376 _ _ (1 - sd) rfl (by omega) (by decide +kernel)).trans OA28
        have hl42 : (A29.1 367 18).toInt = 1 - (sd : Int) := by rw [C_A29.1 367 18 (by omega)]; exact hl38
        refine hpa_aload_n (by rfl) rfl ?_
        refine hpa_iconst (by rfl) rfl ?_
        refine hpj_putI (by rfl) (by rfl) (by rfl) (by rfl) (fun A30 eA30 fA30 => ?_)
        have UA30 := (UA29).put eA30 fA30 (by decide +kernel)
        have HA30 := (HA29).e (congrArg (fun q => q.2.2) fA30)
        have OA30 : A30.2.1 376 (1 - sd) = A.2.1 376 (1 - sd) := by rw [fA30] <;> exact OA29
        refine hpa_aload_n (by rfl) rfl ?_
        refine hpa_iconst (by rfl) rfl ?_
        refine hpj_putI (by rfl) (by rfl) (by rfl) (by rfl) (fun A31 eA31 fA31 => ?_)
        have UA31 := (UA30).put eA31 fA31 (by decide +kernel)
        have HA31 := (HA30).e (congrArg (fun q => q.2.2) fA31)
        have OA31 : A31.2.1 376 (1 - sd) = A.2.1 376 (1 - sd) := by rw [fA31] <;> exact OA30
        refine hpa_aload_n (by rfl) rfl ?_
        refine hpa_iconst (by rfl) rfl ?_
        refine hpj_putI (by rfl) (by rfl) (by rfl) (by rfl) (fun A32 eA32 fA32 => ?_)
        have UA32 := (UA31).put eA32 fA32 (by decide +kernel)
        have HA32 := (HA31).e (congrArg (fun q => q.2.2) fA32)
        have OA32 : A32.2.1 376 (1 - sd) = A.2.1 376 (1 - sd) := by rw [fA32] <;> exact OA31
        refine hpa_aload_n (by rfl) rfl ?_
        refine hpa_iconst (by rfl) rfl ?_
        refine hpj_putI (by rfl) (by rfl) (by rfl) (by rfl) (fun A33 eA33 fA33 => ?_)
        have UA33 := (UA32).put eA33 fA33 (by decide +kernel)
        have HA33 := (HA32).e (congrArg (fun q => q.2.2) fA33)
        have OA33 : A33.2.1 376 (1 - sd) = A.2.1 376 (1 - sd) := by rw [fA33] <;> exact OA32
        refine hpa_aload_n (by rfl) rfl ?_
        refine hpa_iconst (by rfl) rfl ?_
        refine hpa_aload_n (by rfl) rfl ?_
        refine hpj_getK (by rfl) (by rfl) (by rfl) (hkF eA33 (by omega) (hkF eA32 (by omega) (hkF eA31 (by omega) (hkF eA30 (by omega) rfl)))) ?_
        refine hpj_isub (by rfl) hk_1 rfl (by omega) (by omega) (fun z34 ez34 => ?_)
        refine hpj_putI (by rfl) (by rfl) (by rfl) (by rfl) (fun A35 eA35 fA35 => ?_)
        have UA35 := (UA33).put eA35 fA35 (by decide +kernel)
        have HA35 := (HA33).e (congrArg (fun q => q.2.2) fA35)
        have OA35 : A35.2.1 376 (1 - sd) = A.2.1 376 (1 - sd) := by rw [fA35] <;> exact OA33
        refine hpa_aload_n (by rfl) rfl ?_
        refine hpa_iconst (by rfl) rfl ?_
        refine hpj_putI (by rfl) (by rfl) (by rfl) (by rfl) (fun A36 eA36 fA36 => ?_)
        have UA36 := (UA35).put eA36 fA36 (by decide +kernel)
        have HA36 := (HA35).e (congrArg (fun q => q.2.2) fA36)
        have OA36 : A36.2.1 376 (1 - sd) = A.2.1 376 (1 - sd) := by rw [fA36] <;> exact OA35
        refine hpa_aload_n (by rfl) rfl ?_
        refine hpa_aload_n (by rfl) rfl ?_
        refine hpj_getK (by rfl) (by rfl) (by rfl) (hkF eA36 (by omega) (hkS eA35)) ?_
        refine hpa_call0 (by rfl) (by rfl) (by rfl) (by rfl) (by rfl) (by rfl) (uf_C (X := ug_x92) (j := 92) rfl rfl (ug_L.cons (uf_rk_ok (by decide +kernel)) (uf_int uf_nil)) HA36 (hP149r z34 (show z34.toInt = (sd : Int) by omega) HA36)) ?_
        rintro _ A37 ⟨⟨rfl, P_A37, z1_A37, z2_A37, OT_A37⟩, wA37, HA37⟩
        have UA37 := (UA36).trans (wA37.le (by decide +kernel : ug_wle ug_x92.2.2.2.1 uMf = true))
        have OA37 := (OT_A37).trans OA36
        refine hpa_aload_n (by rfl) rfl ?_
        refine hpa_sipush (by rfl) rfl ?_
        refine hpa_aload_n (by rfl) rfl ?_
        refine hpj_getK (by rfl) (by rfl) (by rfl) rfl ?_
        refine hpj_imulU (by rfl) (fun z38 => ?_)
        refine hpj_putI (by rfl) (by rfl) (by rfl) (by rfl) (fun A39 eA39 fA39 => ?_)
        have UA39 := (UA37).put eA39 fA39 (by decide +kernel)
        have HA39 := (HA37).e (congrArg (fun q => q.2.2) fA39)
        have OA39 : A39.2.1 376 (1 - sd) = A.2.1 376 (1 - sd) := by rw [fA39] <;> exact OA37
        refine hpa_aload_n (by rfl) rfl ?_
        refine hpa_sipush (by rfl) rfl ?_
        refine hpa_aload_n (by rfl) rfl ?_
        refine hpj_getK (by rfl) (by rfl) (by rfl) (hkF eA39 (by omega) rfl) ?_
        refine hpj_imulU (by rfl) (fun z40 => ?_)
        refine hpj_putI (by rfl) (by rfl) (by rfl) (by rfl) (fun A41 eA41 fA41 => ?_)
        have UA41 := (UA39).put eA41 fA41 (by decide +kernel)
        have HA41 := (HA39).e (congrArg (fun q => q.2.2) fA41)
        have OA41 : A41.2.1 376 (1 - sd) = A.2.1 376 (1 - sd) := by rw [fA41] <;> exact OA39
        obtain ⟨B0, R0⟩ := hm_init hsd TE_A29 eA30 fA30 eA31 fA31 eA32 fA32 eA33 fA33 eA35 fA35 (show z34.toInt = (sd : Int) by omega) eA36 fA36 P_A37 z1_A37 z2_A37 eA39 fA39 eA41 fA41
        exact L112 _ (.int x10_1) A41 (Or.inl ⟨_, _, _, _, _, _, _, _, B0, R0⟩) OA41 UA41 HA41
      ·
        refine hpa_aload_n (by rfl) rfl ?_
        refine hpa_get (v := .ref 370) (by rfl) (by rfl) (by rfl) rfl ?_
        refine hpa_iload_n (by rfl) rfl ?_
        refine hpa_aload_n (by rfl) rfl ?_
        refine hpa_get (v := .ref 369) (by rfl) (by rfl) (by rfl) rfl ?_
        refine hpa_iload_n (by rfl) rfl ?_
        refine hpx_bald (by rfl) (by rfl) (fun h0v42 h1v42 v42 ev42 => ?_)
        have hc10 := hn_cn (j := x10_1) (by omega)
        have tv28 : v42.toInt = B x10_1.toNatClampNeg := by rw [← ev42, fa 368 (by omega)]; exact hA x10_1.toNatClampNeg (by omega)
        have hbr28 := hBr x10_1.toNatClampNeg (by omega)
        have hst := hi8 (x := v42) (by omega) (by omega)
        refine hpx_bast (by rfl) (by rfl) (fun A43 h0A43 h1A43 eA43 fA43 gA43 => ?_)
        have UA43 := (U10).ar eA43 fA43 gA43 (by decide +kernel)
        have HA43 := (H10).e (congrArg (fun q => q.2) gA43)
        have OA43 : A43.2.1 376 (1 - sd) = A.2.1 376 (1 - sd) := by rw [fA43, hup2 (fun q => by omega)] <;> exact O10
        refine hpj_iinc (by rfl) rfl rfl hk_1 (by omega) (by omega) (fun _ => rfl) (fun z44 ez44 => ?_)
        refine hpa_goto (by rfl) ?_
        exact ih10 z44 A43 (fun i k hi => by rw [eA43]; exact fe i k hi) (by rw [eA43]; exact f4) (fun i hi => by rw [fA43, ← fa i hi]; funext b; exact hup2 (fun q => hi q.1)) (gA43.trans fl) (by omega) (by omega) (fun i hi => by rw [fA43]; by_cases q : i = x10_1.toNatClampNeg; (subst q; rw [hup1, hst]; exact tv28); rw [hup2 (fun w => q w.2)]; exact cp i (by omega)) OA43 UA43 HA43
  refine hpa_aload_n (by rfl) rfl ?_
  refine hpa_aload_n (by rfl) rfl ?_
  refine hpj_getK (by rfl) (by rfl) (by rfl) rfl ?_
  refine hpj_putI (by rfl) (by rfl) (by rfl) (by rfl) (fun A45 eA45 fA45 => ?_)
  have UA45 := (U0).put eA45 fA45 (by decide +kernel)
  have HA45 := (hH0).e (congrArg (fun q => q.2.2) fA45)
  have OA45 : A45.2.1 376 (1 - sd) = A.2.1 376 (1 - sd) := by rw [fA45] <;> exact O0
  refine hpa_iconst (by rfl) rfl ?_
  refine hpa_s1 (by rfl) (Or.inl ⟨_, rfl, rfl⟩) rfl ?_
  exact L10 _ (Int32.ofNat 0) A45 (fun i k hi => by rw [eA45, hup2 hi]) (by rw [eA45, hup1]; exact h2) (fun i _ => by rw [fA45]) (by rw [fA45]) (by omega) (by omega) (fun i hi => absurd hi (by omega)) OA45 UA45 HA45
theorem hP150r {g d : Nat} {A : hs_A} {B : Nat → Int} {n sd : Nat} (hA : ∀ i, i < n → (A.2.1 368 i).toInt = B i) (hBr : ∀ i, i < n → -128 ≤ B i ∧ B i ≤ 127) (hn : n ≤ 2000) (h2 : (A.1 367 2).toInt = (n : Int)) (hlv : (A.1 367 18).toInt = 1 - (sd : Int)) (hsd : sd ≤ 1) (hU : hcU A) (hH0 : uf_H A) : hpC g d 150 hm_m150 [.ref 368] A (fun r A' => ∃ z : Int32, r = some (.int z) ∧ hq_res (ht_K B n) (ht_W B n) (fun u => (ht_S B n u : Int)) (ht_E B n) z.toInt (A'.1 367 17).toInt ∧ hcU A' ∧ (z.toInt = 0 → hq_hs (ht_K B n) (ht_W B n) (ht_E B n) (A'.2.1 376 sd).toInt (A'.2.1 379 sd).toInt ∧ (A'.1 367 18).toInt = (sd : Int) ∧ (A'.1 367 51).toInt = 0 ∧ (A'.1 367 59).toInt = 0 ∧ ∀ s : Nat, (s : Int) < 3 → (A'.2.1 408 s).toInt = 0) ∧ (¬ z.toInt = 0 → uf_W uMf A A' ∧ A'.2.1 376 (1 - sd) = A.2.1 376 (1 - sd))) := hpC.all (fun f d => hW150r hA hBr hn h2 hlv hsd hU hH0 (fun r A' h => h))
