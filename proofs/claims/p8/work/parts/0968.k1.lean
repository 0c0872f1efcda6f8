theorem hW164 {g d f : Nat} {A : hs_A} (a1 a2 a3 : Int32) {P : Option Value → hs_A → Prop} (hP : ∀ (r : Option Value) (A' : hs_A), (A = A' ∧ ∃ z : Int32, r = some (.int z) ∧ ((z.toInt = 1 ∧ a2.toInt ≤ a1.toInt ∧ a1.toInt ≤ a3.toInt) ∨ (z.toInt = 0 ∧ (a1.toInt < a2.toInt ∨ a3.toInt < a1.toInt)))) → P r A') : hpa (f, g) d (some (.boolean)) hm_t164 0 [.int a1, .int a2, .int a3] [] A P := by
  have k0 := hk_0
  have k1 := hk_1
  refine hpa_iload_n (by rfl) rfl ?_
  refine hpa_iload_n (by rfl) rfl ?_
  refine hpj_clt (by rfl) rfl rfl (fun q1 => ?_) (fun q1 => ?_)
  ·
    refine hpa_iconst (by rfl) rfl ?_
    exact hpa_ireturn (by rfl) (by rfl) (hP _ _ ⟨rfl, _, rfl, Or.inr ⟨hk_0, by omega⟩⟩)
  ·
    refine hpa_iload_n (by rfl) rfl ?_
    refine hpa_iload_n (by rfl) rfl ?_
    refine hpj_cgt (by rfl) rfl rfl (fun q2 => ?_) (fun q2 => ?_)
    ·
      refine hpa_iconst (by rfl) rfl ?_
      exact hpa_ireturn (by rfl) (by rfl) (hP _ _ ⟨rfl, _, rfl, Or.inr ⟨hk_0, by omega⟩⟩)
    ·
      refine hpa_iconst (by rfl) rfl ?_
      refine hpa_goto (by rfl) ?_
      exact hpa_ireturn (by rfl) (by rfl) (hP _ _ ⟨rfl, _, rfl, Or.inl ⟨hk_1, by omega, by omega⟩⟩)
theorem hP164 {g d : Nat} {A : hs_A} (a1 a2 a3 : Int32) : hpC g d 164 hm_m164 [.int a1, .int a2, .int a3] A (fun r A' => A = A' ∧ ∃ z : Int32, r = some (.int z) ∧ ((z.toInt = 1 ∧ a2.toInt ≤ a1.toInt ∧ a1.toInt ≤ a3.toInt) ∨ (z.toInt = 0 ∧ (a1.toInt < a2.toInt ∨ a3.toInt < a1.toInt)))) := hpC.all (fun f d => hW164 a1 a2 a3 (fun r A' h => h))
theorem hW165 {g d f : Nat} {A : hs_A} (a1 a2 a3 : Int32) {P : Option Value → hs_A → Prop} (hP : ∀ (r : Option Value) (A' : hs_A), (A = A' ∧ ∃ z : Int32, r = some (.int z) ∧ z = (if a1.toInt < a2.toInt then a2 else if a3.toInt < a1.toInt then a3 else a1)) → P r A') : hpa (f, g) d (some (.int)) hm_t165 0 [.int a1, .int a2, .int a3] [] A P := by
  refine hpa_iload_n (by rfl) rfl ?_
  refine hpa_iload_n (by rfl) rfl ?_
  refine hpj_cge (by rfl) rfl rfl (fun q1 => ?_) (fun q1 => ?_)
  ·
    refine hpa_iload_n (by rfl) rfl ?_
    refine hpa_iload_n (by rfl) rfl ?_
    refine hpj_cle (by rfl) rfl rfl (fun q2 => ?_) (fun q2 => ?_)
    ·
      refine hpa_iload_n (by rfl) rfl ?_
      exact hpa_ireturn (by rfl) rfl (hP _ _ ⟨rfl, _, rfl, by rw [if_neg (by omega), if_neg (by omega)]⟩)
    ·
      refine hpa_iload_n (by rfl) rfl ?_
      refine hpa_goto (by rfl) ?_
      exact hpa_ireturn (by rfl) rfl (hP _ _ ⟨rfl, _, rfl, by rw [if_neg (by omega), if_pos (by omega)]⟩)
  ·
    refine hpa_iload_n (by rfl) rfl ?_
    refine hpa_goto (by rfl) ?_
    exact hpa_ireturn (by rfl) rfl (hP _ _ ⟨rfl, _, rfl, by rw [if_pos (by omega)]⟩)
theorem hP165 {g d : Nat} {A : hs_A} (a1 a2 a3 : Int32) : hpC g d 165 hm_m165 [.int a1, .int a2, .int a3] A (fun r A' => A = A' ∧ ∃ z : Int32, r = some (.int z) ∧ z = (if a1.toInt < a2.toInt then a2 else if a3.toInt < a1.toInt then a3 else a1)) := hpC.all (fun f d => hW165 a1 a2 a3 (fun r A' h => h))
theorem hW166 {g d f : Nat} {A : hs_A} (a1 : Int32) {P : Option Value → hs_A → Prop} (hP : ∀ (r : Option Value) (A' : hs_A), (A = A' ∧ ∃ z : Int32, r = some (.int z) ∧ z = huB 10 a1) → P r A') : hpa (f, g) d (some (.int)) hm_t166 0 [.int a1, .retAddr 0, .retAddr 0] [] A P := by
  have k0 := hk_0
  have k1 := hk_1
  have k10 := hk_10
  have L4 : ∀ (f : Nat) (x4_2 : Int32) (x4_1 : Int32) (k4 : Nat) (bk4 : k4 ≤ 10) (ek4 : x4_2 = Int32.ofNat k4) (x4e1 : x4_1 = huB k4 a1), hpa (f, g) d (some (.int)) hm_t166 4 [.int a1, .int x4_1, .int x4_2] [] A P := by
    intro f
    induction f with
    | zero => intros; exact hpa.zero
    | succ f ih4 =>
      intro x4_2 x4_1 k4 bk4 ek4 x4e1
      subst ek4
      have ck4 := hn_c (n := k4) (z := Int32.ofNat k4) rfl (by omega)
      subst x4e1
      refine hpa_iload_nS (by rfl) rfl ?_
      refine hpa_bipush (by rfl) rfl ?_
      refine hpj_cge (by rfl) ck4 hk_10 (fun q1 => ?_) (fun q1 => ?_)
      ·
        refine hpa_iload_n (by rfl) rfl ?_
        exact hpa_ireturn (by rfl) rfl (hP _ _ ⟨rfl, _, rfl, by rw [show k4 = 10 by omega]⟩)
      ·
        refine hpa_iload_n (by rfl) rfl ?_
        refine hpa_iload_n (by rfl) rfl ?_
        refine hpa_iload_n (by rfl) rfl ?_
        refine hpa_ishr (by rfl) ?_
        refine hpa_iconst (by rfl) rfl ?_
        refine hpa_iand (by rfl) ?_
        refine hpa_iadd (by rfl) ?_
        refine hpa_s1 (by rfl) (Or.inl ⟨_, rfl, rfl⟩) rfl ?_
        refine hpj_iinc (by rfl) rfl ck4 hk_1 (by omega) (by omega) (fun _ => rfl) (fun z2 ez2 => ?_)
        refine hpa_goto (by rfl) ?_
        exact ih4 z2 ((huB k4 a1) + ((a1 >>> ((Int32.ofNat k4) &&& 31)) &&& (Int32.ofNat 1))) (k4 + 1) (by omega) (huI (by omega) (by omega)) rfl
  refine hpa_iconst (by rfl) rfl ?_
  refine hpa_s1 (by rfl) (Or.inl ⟨_, rfl, rfl⟩) rfl ?_
  refine hpa_iconst (by rfl) rfl ?_
  refine hpa_s1 (by rfl) (Or.inl ⟨_, rfl, rfl⟩) rfl ?_
  exact L4 _ (Int32.ofNat 0) (Int32.ofNat 0) 0 (by omega) rfl rfl
theorem hP166 {g d : Nat} {A : hs_A} (a1 : Int32) : hpC g d 166 hm_m166 [.int a1] A (fun r A' => A = A' ∧ ∃ z : Int32, r = some (.int z) ∧ z = huB 10 a1) := hpC.all (fun f d => hW166 a1 (fun r A' h => h))
def uM175 : Nat := 81129638414606681695789005144064
theorem hW175 {g d f : Nat} {A : hs_A} {sd : Nat} {D : hg_D} {ro : Nat → Int32} {H : Int32} (a1 a2 a3 a4 : Int32) (hK : hrK sd D A) (hH : A.2.1 376 sd = H) (hg : ∀ k, k < 73 → A.2.1 396 k = ro k) (pa1 : 0 ≤ a1.toInt) (qa1 : a1.toInt ≤ 9) (hH0 : uf_H A) {P : Option Value → hs_A → Prop} (hP : ∀ (r : Option Value) (A' : hs_A), (r = none ∧ (∀ i, i < 9 → A'.2.1 393 i = hgx (huX H ro a1 a4) a3 a2 i)) → P r A') : hpa (f, g) d none hm_t175 0 [.ref 368, .int a1, .int a2, .int a3, .int a4] [] A P := by
  have k0 := hk_0
  have k1 := hk_1
  have k10 := hk_10
  have k2 := hk_2
  have k24 := hk_24
  have k3 := hk_3
  have k4 := hk_4
  have k40 := hk_40
  have k5 := hk_5
  have k6 := hk_6
  have k7 := hk_7
  have k8 := hk_8
  have k18 := hK.1
  have ksd := hK.2.1
  have c1 := hn_cn (j := a1) pa1
  have U0 : uf_W uM175 A A := uf_W.rfl
  refine hpa_aload_n (by rfl) rfl ?_
  refine hpa_get (v := .ref 394) (by rfl) (by rfl) (by rfl) rfl ?_
  refine hpa_iconst (by rfl) rfl ?_
  refine hpa_iload_n (by rfl) rfl ?_
  refine hpx_iast (by rfl) (by rfl) (fun A1 h0A1 h1A1 eA1 fA1 gA1 => ?_)
  have UA1 := (U0).ar eA1 fA1 gA1 (by decide +kernel)
  have HA1 := (hH0).e (congrArg (fun q => q.2) gA1)
  rw [show ((Int32.ofNat 0)).toNatClampNeg = 0 from by have := hn_cn (j := (Int32.ofNat 0)) (by omega); omega] at fA1
  refine hpa_aload_n (by rfl) rfl ?_
  refine hpa_get (v := .ref 394) (by rfl) (by rfl) (by rfl) rfl ?_
  refine hpa_iconst (by rfl) rfl ?_
  refine hpa_iload (by rfl) rfl ?_
  refine hpa_bipush (by rfl) rfl ?_
  refine hpa_irem (by rfl) (by decide) ?_
  refine hpx_iast (by rfl) (by rfl) (fun A2 h0A2 h1A2 eA2 fA2 gA2 => ?_)
  have UA2 := (UA1).ar eA2 fA2 gA2 (by decide +kernel)
  have HA2 := (HA1).e (congrArg (fun q => q.2) gA2)
  rw [show ((Int32.ofNat 1)).toNatClampNeg = 1 from by have := hn_cn (j := (Int32.ofNat 1)) (by omega); omega] at fA2
  refine hpa_aload_n (by rfl) rfl ?_
  refine hpa_get (v := .ref 394) (by rfl) (by rfl) (by rfl) rfl ?_
  refine hpa_iconst (by rfl) rfl ?_
  refine hpa_iload (by rfl) rfl ?_
  refine hpa_bipush (by rfl) rfl ?_
  refine hpa_idiv (by rfl) (by decide) ?_
  refine hpx_iast (by rfl) (by rfl) (fun A3 h0A3 h1A3 eA3 fA3 gA3 => ?_)
  have UA3 := (UA2).ar eA3 fA3 gA3 (by decide +kernel)
  have HA3 := (HA2).e (congrArg (fun q => q.2) gA3)
  rw [show ((Int32.ofNat 2)).toNatClampNeg = 2 from by have := hn_cn (j := (Int32.ofNat 2)) (by omega); omega] at fA3
  refine hpa_aload_n (by rfl) rfl ?_
  refine hpa_get (v := .ref 394) (by rfl) (by rfl) (by rfl) rfl ?_
  refine hpa_iconst (by rfl) rfl ?_
  refine hpa_iload_n (by rfl) rfl ?_
  refine hpx_iast (by rfl) (by rfl) (fun A4 h0A4 h1A4 eA4 fA4 gA4 => ?_)
  have UA4 := (UA3).ar eA4 fA4 gA4 (by decide +kernel)
  have HA4 := (HA3).e (congrArg (fun q => q.2) gA4)
  rw [show ((Int32.ofNat 3)).toNatClampNeg = 3 from by have := hn_cn (j := (Int32.ofNat 3)) (by omega); omega] at fA4
  refine hpa_aload_n (by rfl) rfl ?_
  refine hpa_get (v := .ref 394) (by rfl) (by rfl) (by rfl) rfl ?_
  refine hpa_iconst (by rfl) rfl ?_
  refine hpa_aload_n (by rfl) rfl ?_
  refine hpa_get (v := .ref 397) (by rfl) (by rfl) (by rfl) rfl ?_
  refine hpa_iload_n (by rfl) rfl ?_
  refine hpx_iald (by rfl) (by rfl) (fun h0v5 h1v5 v5 ev5 => ?_)
  have hgA4 : ∀ k, k < 73 → A4.2.1 396 k = ro k := fun k hk => (UA4.2.1 396 _ _ k rfl hk (by decide +kernel)).trans (hg k hk)
  rw [show (a1).toNatClampNeg = a1.toNatClampNeg from by have := hn_cn (j := a1) (by omega); omega, hgA4 (a1.toNatClampNeg) (by omega)] at ev5
  subst ev5
  refine hpa_call2 (by rfl) (by decide) (by rfl) (by rfl) (by rfl) (uf_C (X := ug_x126) (j := 126) rfl rfl (uf_int uf_nil) HA4 (hP166 (ro a1.toNatClampNeg))) ?_
  rintro _ _ ⟨⟨rfl, z7, rfl, Z_A6⟩, -, -⟩
  subst Z_A6
  refine hpx_iast (by rfl) (by rfl) (fun A8 h0A8 h1A8 eA8 fA8 gA8 => ?_)
  have UA8 := (UA4).ar eA8 fA8 gA8 (by decide +kernel)
  have HA8 := (HA4).e (congrArg (fun q => q.2) gA8)
  rw [show ((Int32.ofNat 4)).toNatClampNeg = 4 from by have := hn_cn (j := (Int32.ofNat 4)) (by omega); omega] at fA8
  refine hpa_aload_n (by rfl) rfl ?_
  refine hpa_get (v := .ref 394) (by rfl) (by rfl) (by rfl) rfl ?_
  refine hpa_iconst (by rfl) rfl ?_
  refine hpa_aload_n (by rfl) rfl ?_
  refine hpa_get (v := .ref 397) (by rfl) (by rfl) (by rfl) rfl ?_
  refine hpa_bipush (by rfl) rfl ?_
  refine hpa_iload_n (by rfl) rfl ?_
  refine hpj_iadd (by rfl) hk_10 rfl (by omega) (by omega) (fun z9 ez9 => ?_)
  refine hpx_iald (by rfl) (by rfl) (fun h0v10 h1v10 v10 ev10 => ?_)
  have hgA8 : ∀ k, k < 73 → A8.2.1 396 k = ro k := fun k hk => (UA8.2.1 396 _ _ k rfl hk (by decide +kernel)).trans (hg k hk)
  rw [show (z9).toNatClampNeg = 10 + a1.toNatClampNeg from by have := hn_cn (j := z9) (by omega); omega, hgA8 (10 + a1.toNatClampNeg) (by omega)] at ev10
  subst ev10
  refine hpx_iast (by rfl) (by rfl) (fun A11 h0A11 h1A11 eA11 fA11 gA11 => ?_)
  have UA11 := (UA8).ar eA11 fA11 gA11 (by decide +kernel)
  have HA11 := (HA8).e (congrArg (fun q => q.2) gA11)
  rw [show ((Int32.ofNat 5)).toNatClampNeg = 5 from by have := hn_cn (j := (Int32.ofNat 5)) (by omega); omega] at fA11
  refine hpa_aload_n (by rfl) rfl ?_
  refine hpa_get (v := .ref 394) (by rfl) (by rfl) (by rfl) rfl ?_
  refine hpa_bipush (by rfl) rfl ?_
  refine hpa_iload_n (by rfl) rfl ?_
  refine hpx_iast (by rfl) (by rfl) (fun A12 h0A12 h1A12 eA12 fA12 gA12 => ?_)
  have UA12 := (UA11).ar eA12 fA12 gA12 (by decide +kernel)
  have HA12 := (HA11).e (congrArg (fun q => q.2) gA12)
  rw [show ((Int32.ofNat 6)).toNatClampNeg = 6 from by have := hn_cn (j := (Int32.ofNat 6)) (by omega); omega] at fA12
  refine hpa_aload_n (by rfl) rfl ?_
  refine hpa_get (v := .ref 394) (by rfl) (by rfl) (by rfl) rfl ?_
  refine hpa_bipush (by rfl) rfl ?_
  refine hpa_aload_n (by rfl) rfl ?_
  refine hpa_get (v := .ref 377) (by rfl) (by rfl) (by rfl) rfl ?_
  refine hpa_aload_n (by rfl) rfl ?_
  refine hpj_getK (by rfl) (by rfl) (by rfl) rfl ?_
  have k18A12 : (A12.1 367 18).toInt = (sd : Int) := (congrArg Int32.toInt (UA12.1 367 _ _ 18 rfl rfl (by decide +kernel))).trans hK.1
  refine hpx_iald (by rfl) (by rfl) (fun h0v13 h1v13 v13 ev13 => ?_)
  have hHA12 : A12.2.1 376 sd = H := (UA12.2.1 376 _ _ sd rfl (by have := hK.2.1; omega) (by decide +kernel)).trans hH
  rw [show ((A12.1 367 18)).toNatClampNeg = sd from by have := hn_cn (j := (A12.1 367 18)) (by omega); omega, hHA12] at ev13
  subst ev13
  refine hpx_iast (by rfl) (by rfl) (fun A14 h0A14 h1A14 eA14 fA14 gA14 => ?_)
  have UA14 := (UA12).ar eA14 fA14 gA14 (by decide +kernel)
  have HA14 := (HA12).e (congrArg (fun q => q.2) gA14)
  rw [show ((Int32.ofNat 7)).toNatClampNeg = 7 from by have := hn_cn (j := (Int32.ofNat 7)) (by omega); omega] at fA14
  refine hpa_aload_n (by rfl) rfl ?_
  refine hpa_get (v := .ref 394) (by rfl) (by rfl) (by rfl) rfl ?_
  refine hpa_bipush (by rfl) rfl ?_
  refine hpa_aload_n (by rfl) rfl ?_
  refine hpa_get (v := .ref 397) (by rfl) (by rfl) (by rfl) rfl ?_
  refine hpa_bipush (by rfl) rfl ?_
  refine hpa_iload_n (by rfl) rfl ?_
  refine hpj_iadd (by rfl) hk_40 rfl (by omega) (by omega) (fun z15 ez15 => ?_)
  refine hpx_iald (by rfl) (by rfl) (fun h0v16 h1v16 v16 ev16 => ?_)
  have hgA14 : ∀ k, k < 73 → A14.2.1 396 k = ro k := fun k hk => (UA14.2.1 396 _ _ k rfl hk (by decide +kernel)).trans (hg k hk)
  rw [show (z15).toNatClampNeg = 40 + a1.toNatClampNeg from by have := hn_cn (j := z15) (by omega); omega, hgA14 (40 + a1.toNatClampNeg) (by omega)] at ev16
  subst ev16
  refine hpa_call2 (by rfl) (by decide) (by rfl) (by rfl) (by rfl) (uf_C (X := ug_x126) (j := 126) rfl rfl (uf_int uf_nil) HA14 (hP166 (ro (40 + a1.toNatClampNeg)))) ?_
  rintro _ _ ⟨⟨rfl, z18, rfl, Z_A17⟩, -, -⟩
  subst Z_A17
  refine hpx_iast (by rfl) (by rfl) (fun A19 h0A19 h1A19 eA19 fA19 gA19 => ?_)
  have UA19 := (UA14).ar eA19 fA19 gA19 (by decide +kernel)
  have HA19 := (HA14).e (congrArg (fun q => q.2) gA19)
  rw [show ((Int32.ofNat 8)).toNatClampNeg = 8 from by have := hn_cn (j := (Int32.ofNat 8)) (by omega); omega] at fA19
  have XX : ∀ i, i < 9 → A19.2.1 393 i = hgx (huX H ro a1 a4) a3 a2 i := by
    intro i hi
    have hi9 : i = 0 ∨ i = 1 ∨ i = 2 ∨ i = 3 ∨ i = 4 ∨ i = 5 ∨ i = 6 ∨ i = 7 ∨ i = 8 := by omega
    rcases hi9 with rfl | rfl | rfl | rfl | rfl | rfl | rfl | rfl | rfl
    · rw [fA19, hup2 (by omega), fA14, hup2 (by omega), fA12, hup2 (by omega), fA11, hup2 (by omega), fA8, hup2 (by omega), fA4, hup2 (by omega), fA3, hup2 (by omega), fA2, hup2 (by omega), fA1, hup1] <;> rfl
    · rw [fA19, hup2 (by omega), fA14, hup2 (by omega), fA12, hup2 (by omega), fA11, hup2 (by omega), fA8, hup2 (by omega), fA4, hup2 (by omega), fA3, hup2 (by omega), fA2, hup1] <;> rfl
    · rw [fA19, hup2 (by omega), fA14, hup2 (by omega), fA12, hup2 (by omega), fA11, hup2 (by omega), fA8, hup2 (by omega), fA4, hup2 (by omega), fA3, hup1] <;> rfl
    · rw [fA19, hup2 (by omega), fA14, hup2 (by omega), fA12, hup2 (by omega), fA11, hup2 (by omega), fA8, hup2 (by omega), fA4, hup1] <;> rfl
    · rw [fA19, hup2 (by omega), fA14, hup2 (by omega), fA12, hup2 (by omega), fA11, hup2 (by omega), fA8, hup1] <;> rfl
    · rw [fA19, hup2 (by omega), fA14, hup2 (by omega), fA12, hup2 (by omega), fA11, hup1] <;> rfl
    · rw [fA19, hup2 (by omega), fA14, hup2 (by omega), fA12, hup1] <;> rfl
    · rw [fA19, hup2 (by omega), fA14, hup1] <;> rfl
    · rw [fA19, hup1] <;> rfl
  exact hpa_return (by rfl) rfl (hP _ _ ⟨rfl, XX⟩)
theorem hP175 {g d : Nat} {A : hs_A} {sd : Nat} {D : hg_D} {ro : Nat → Int32} {H : Int32} (a1 a2 a3 a4 : Int32) (hK : hrK sd D A) (hH : A.2.1 376 sd = H) (hg : ∀ k, k < 73 → A.2.1 396 k = ro k) (pa1 : 0 ≤ a1.toInt) (qa1 : a1.toInt ≤ 9) (hH0 : uf_H A) : hpC g d 175 hm_m175 [.ref 368, .int a1, .int a2, .int a3, .int a4] A (fun r A' => r = none ∧ (∀ i, i < 9 → A'.2.1 393 i = hgx (huX H ro a1 a4) a3 a2 i)) := hpC.all (fun f d => hW175 a1 a2 a3 a4 hK hH hg pa1 qa1 hH0 (fun r A' h => h))
def uM177 : Nat := 497323236409786642155382248146820840100456150797347717683852892136979542099900390965248
theorem hW177 {g d f : Nat} {A : hs_A} {sd : Nat} {D : hg_D} {ro : Nat → Int32} {H : Int32} {p : Nat} (a1 a2 a3 a4 : Int32) (hK : hrK sd D A) (hH : A.2.1 376 sd = H) (hg : ∀ k, k < 73 → A.2.1 396 k = ro k) (pa1 : 0 ≤ a1.toInt) (qa1 : a1.toInt ≤ 9) (hp : a3 = Int32.ofNat p) (hH0 : uf_H A) {P : Option Value → hs_A → Prop} (hP : ∀ (r : Option Value) (A' : hs_A), (∃ z : Int32, r = some (.int z) ∧ ((z.toInt = 1 ∧ huK D (huX H ro a1 a4) a2 p = true) ∨ (z.toInt = 0 ∧ huK D (huX H ro a1 a4) a2 p = false))) → P r A') : hpa (f, g) d (some (.boolean)) hm_t177 0 [.ref 368, .int a1, .int a2, .int a3, .int a4] [] A P := by
  have k0 := hk_0
  have k1 := hk_1
  have U0 : uf_W uM177 A A := uf_W.rfl
  refine hpa_aload_n (by rfl) rfl ?_
  refine hpa_iload_n (by rfl) rfl ?_
  refine hpa_iload_n (by rfl) rfl ?_
  refine hpa_iload_n (by rfl) rfl ?_
  refine hpa_iload (by rfl) rfl ?_
  refine hpa_call0 (by rfl) (by rfl) (by rfl) (by rfl) (by rfl) (by rfl) (uf_C (X := ug_x226) (j := 226) rfl rfl (ug_L.cons (uf_rk_ok (by decide +kernel)) (uf_int (uf_int (uf_int (uf_int uf_nil))))) hH0 (hP175 a1 a2 a3 a4 hK hH hg (by omega) (by omega) hH0)) ?_
  rintro _ A1 ⟨⟨rfl, X_A1⟩, wA1, HA1⟩
  have UA1 := (U0).trans (wA1.le (by decide +kernel : ug_wle ug_x226.2.2.2.1 uM177 = true))
  refine hpa_aload_n (by rfl) rfl ?_
  refine hpa_iconst (by rfl) rfl ?_
  refine hpa_iconst (by rfl) rfl ?_
  have hKA1 : hrK sd D A1 := hK.uf UA1 (by decide +kernel)
  refine hpa_call0 (by rfl) (by rfl) (by rfl) (by rfl) (by rfl) (by rfl) (uf_C (X := ug_x227) (j := 227) rfl rfl (ug_L.cons (uf_rk_ok (by decide +kernel)) (uf_int (uf_int uf_nil))) HA1 (hP176k (q := 0) (Int32.ofNat 0) (Int32.ofNat 1) hKA1 (by omega) hk_0 (by rfl) X_A1)) ?_
  rintro _ A2 ⟨⟨z3, rfl, Z_A2⟩, wA2, HA2⟩
  have UA2 := (UA1).trans (wA2.le (by decide +kernel : ug_wle ug_x227.2.2.2.1 uM177 = true))
  refine hpj_zle (by rfl) rfl (fun q4 => ?_) (fun q4 => ?_)
  ·
    refine hpa_iconst (by rfl) rfl ?_
    exact hpa_ireturn (by rfl) (by rfl) (hP _ _ ⟨_, rfl, Or.inr ⟨hk_0, decide_eq_false (by rw [← hp, ← Z_A2]; omega)⟩⟩)
  ·
    refine hpa_iconst (by rfl) rfl ?_
    refine hpa_goto (by rfl) ?_
    exact hpa_ireturn (by rfl) (by rfl) (hP _ _ ⟨_, rfl, Or.inl ⟨hk_1, decide_eq_true (by rw [← hp, ← Z_A2]; omega)⟩⟩)
theorem hP177 {g d : Nat} {A : hs_A} {sd : Nat} {D : hg_D} {ro : Nat → Int32} {H : Int32} {p : Nat} (a1 a2 a3 a4 : Int32) (hK : hrK sd D A) (hH : A.2.1 376 sd = H) (hg : ∀ k, k < 73 → A.2.1 396 k = ro k) (pa1 : 0 ≤ a1.toInt) (qa1 : a1.toInt ≤ 9) (hp : a3 = Int32.ofNat p) (hH0 : uf_H A) : hpC g d 177 hm_m177 [.ref 368, .int a1, .int a2, .int a3, .int a4] A (fun r A' => ∃ z : Int32, r = some (.int z) ∧ ((z.toInt = 1 ∧ huK D (huX H ro a1 a4) a2 p = true) ∨ (z.toInt = 0 ∧ huK D (huX H ro a1 a4) a2 p = false))) := hpC.all (fun f d => hW177 a1 a2 a3 a4 hK hH hg pa1 qa1 hp hH0 (fun r A' h => h))
def uM178 : Nat := 497323236409786642155382248146820840100456150797347717683852892136979542099900390965248
theorem hW178 {g d f : Nat} {A : hs_A} {sd : Nat} {D : hg_D} {ro : Nat → Int32} {H : Int32} (a1 a2 a3 : Int32) (hK : hrK sd D A) (hH : A.2.1 376 sd = H) (hg : ∀ k, k < 73 → A.2.1 396 k = ro k) (pa1 : 0 ≤ a1.toInt) (qa1 : a1.toInt ≤ 9) (hH0 : uf_H A) {P : Option Value → hs_A → Prop} (hP : ∀ (r : Option Value) (A' : hs_A), (∃ z : Int32, r = some (.int z) ∧ z = huT D (huX H ro a1 a3) a2) → P r A') : hpa (f, g) d (some (.int)) hm_t178 0 [.ref 368, .int a1, .int a2, .int a3] [] A P := by
  have k0 := hk_0
  have k1 := hk_1
  have k7 := hk_7
  have U0 : uf_W uM178 A A := uf_W.rfl
  refine hpa_aload_n (by rfl) rfl ?_
  refine hpa_iload_n (by rfl) rfl ?_
  refine hpa_iload_n (by rfl) rfl ?_
  refine hpa_iconst (by rfl) rfl ?_
  refine hpa_iload_n (by rfl) rfl ?_
  refine hpa_call0 (by rfl) (by rfl) (by rfl) (by rfl) (by rfl) (by rfl) (uf_C (X := ug_x226) (j := 226) rfl rfl (ug_L.cons (uf_rk_ok (by decide +kernel)) (uf_int (uf_int (uf_int (uf_int uf_nil))))) hH0 (hP175 a1 a2 (Int32.ofNat 0) a3 hK hH hg (by omega) (by omega) hH0)) ?_
  rintro _ A1 ⟨⟨rfl, X_A1⟩, wA1, HA1⟩
  have UA1 := (U0).trans (wA1.le (by decide +kernel : ug_wle ug_x226.2.2.2.1 uM178 = true))
  refine hpa_aload_n (by rfl) rfl ?_
  refine hpa_iconst (by rfl) rfl ?_
  refine hpa_iconst (by rfl) rfl ?_
  have hKA1 : hrK sd D A1 := hK.uf UA1 (by decide +kernel)
  refine hpa_call0 (by rfl) (by rfl) (by rfl) (by rfl) (by rfl) (by rfl) (uf_C (X := ug_x227) (j := 227) rfl rfl (ug_L.cons (uf_rk_ok (by decide +kernel)) (uf_int (uf_int uf_nil))) HA1 (hP176k (q := 1) (Int32.ofNat 1) (Int32.ofNat 0) hKA1 (by omega) hk_1 (by rfl) X_A1)) ?_
  rintro _ A2 ⟨⟨z3, rfl, Z_A2⟩, wA2, HA2⟩
  have UA2 := (UA1).trans (wA2.le (by decide +kernel : ug_wle ug_x227.2.2.2.1 uM178 = true))
  refine hpa_iconst (by rfl) rfl ?_
  refine hpa_bipush (by rfl) rfl ?_
  refine hpa_call2 (by rfl) (by decide) (by rfl) (by rfl) (by rfl) (uf_C (X := ug_x250) (j := 250) rfl rfl (uf_int (uf_int (uf_int uf_nil))) HA2 (hP165 z3 (Int32.ofNat 0) (Int32.ofNat 7))) ?_
  rintro _ _ ⟨⟨rfl, z5, rfl, Z_A4⟩, -, -⟩
  subst Z_A4
  exact hpa_ireturn (by rfl) rfl (hP _ _ ⟨_, rfl, by rw [huC_of (by decide), Z_A2]; rfl⟩)
theorem hP178 {g d : Nat} {A : hs_A} {sd : Nat} {D : hg_D} {ro : Nat → Int32} {H : Int32} (a1 a2 a3 : Int32) (hK : hrK sd D A) (hH : A.2.1 376 sd = H) (hg : ∀ k, k < 73 → A.2.1 396 k = ro k) (pa1 : 0 ≤ a1.toInt) (qa1 : a1.toInt ≤ 9) (hH0 : uf_H A) : hpC g d 178 hm_m178 [.ref 368, .int a1, .int a2, .int a3] A (fun r A' => ∃ z : Int32, r = some (.int z) ∧ z = huT D (huX H ro a1 a3) a2) := hpC.all (fun f d => hW178 a1 a2 a3 hK hH hg pa1 qa1 hH0 (fun r A' h => h))
def uM179 : Nat := 497323236409786642155382248146820840100456150797347717683852892136979542099900390965248
theorem hW179 {g d f : Nat} {A : hs_A} {sd : Nat} {D : hg_D} {ro : Nat → Int32} {H : Int32} (a1 a2 : Int32) (hK : hrK sd D A) (hH : A.2.1 376 sd = H) (hg : ∀ k, k < 73 → A.2.1 396 k = ro k) (pa1 : 0 ≤ a1.toInt) (qa1 : a1.toInt ≤ 9) (hH0 : uf_H A) {P : Option Value → hs_A → Prop} (hP : ∀ (r : Option Value) (A' : hs_A), (∃ z : Int32, r = some (.int z) ∧ z = huU D (huX H ro a1 a2)) → P r A') : hpa (f, g) d (some (.int)) hm_t179 0 [.ref 368, .int a1, .int a2] [] A P := by
  have k0 := hk_0
  have k2 := hk_2
  have k255 := hk_255
  have U0 : uf_W uM179 A A := uf_W.rfl
  refine hpa_aload_n (by rfl) rfl ?_
  refine hpa_iload_n (by rfl) rfl ?_
  refine hpa_iconst (by rfl) rfl ?_
  refine hpa_iconst (by rfl) rfl ?_
  refine hpa_iload_n (by rfl) rfl ?_
  refine hpa_call0 (by rfl) (by rfl) (by rfl) (by rfl) (by rfl) (by rfl) (uf_C (X := ug_x226) (j := 226) rfl rfl (ug_L.cons (uf_rk_ok (by decide +kernel)) (uf_int (uf_int (uf_int (uf_int uf_nil))))) hH0 (hP175 a1 (Int32.ofNat 0) (Int32.ofNat 0) a2 hK hH hg (by omega) (by omega) hH0)) ?_
  rintro _ A1 ⟨⟨rfl, X_A1⟩, wA1, HA1⟩
  have UA1 := (U0).trans (wA1.le (by decide +kernel : ug_wle ug_x226.2.2.2.1 uM179 = true))
  refine hpa_aload_n (by rfl) rfl ?_
  refine hpa_iconst (by rfl) rfl ?_
  refine hpa_iconst (by rfl) rfl ?_
  have hKA1 : hrK sd D A1 := hK.uf UA1 (by decide +kernel)
  refine hpa_call0 (by rfl) (by rfl) (by rfl) (by rfl) (by rfl) (by rfl) (uf_C (X := ug_x227) (j := 227) rfl rfl (ug_L.cons (uf_rk_ok (by decide +kernel)) (uf_int (uf_int uf_nil))) HA1 (hP176k (q := 2) (Int32.ofNat 2) (Int32.ofNat 0) hKA1 (by omega) hk_2 (by rfl) X_A1)) ?_
  rintro _ A2 ⟨⟨z3, rfl, Z_A2⟩, wA2, HA2⟩
  have UA2 := (UA1).trans (wA2.le (by decide +kernel : ug_wle ug_x227.2.2.2.1 uM179 = true))
  refine hpa_iconst (by rfl) rfl ?_
  refine hpa_sipush (by rfl) rfl ?_
  refine hpa_call2 (by rfl) (by decide) (by rfl) (by rfl) (by rfl) (uf_C (X := ug_x250) (j := 250) rfl rfl (uf_int (uf_int (uf_int uf_nil))) HA2 (hP165 z3 (Int32.ofNat 0) (Int32.ofNat 255))) ?_
  rintro _ _ ⟨⟨rfl, z5, rfl, Z_A4⟩, -, -⟩
  subst Z_A4
  exact hpa_ireturn (by rfl) rfl (hP _ _ ⟨_, rfl, by rw [huC_of (by decide), Z_A2]; rfl⟩)
theorem hP179 {g d : Nat} {A : hs_A} {sd : Nat} {D : hg_D} {ro : Nat → Int32} {H : Int32} (a1 a2 : Int32) (hK : hrK sd D A) (hH : A.2.1 376 sd = H) (hg : ∀ k, k < 73 → A.2.1 396 k = ro k) (pa1 : 0 ≤ a1.toInt) (qa1 : a1.toInt ≤ 9) (hH0 : uf_H A) : hpC g d 179 hm_m179 [.ref 368, .int a1, .int a2] A (fun r A' => ∃ z : Int32, r = some (.int z) ∧ z = huU D (huX H ro a1 a2)) := hpC.all (fun f d => hW179 a1 a2 hK hH hg pa1 qa1 hH0 (fun r A' h => h))
def uM180 : Nat := 497323236409786642155382248146820840100456150797347717683852892136979542099900390965248
theorem hW180 {g d f : Nat} {A : hs_A} {sd : Nat} {D : hg_D} {ro : Nat → Int32} {H : Int32} (a1 : Int32) (hK : hrK sd D A) (hH : A.2.1 376 sd = H) (hg : ∀ k, k < 73 → A.2.1 396 k = ro k) (pa1 : 0 ≤ a1.toInt) (qa1 : a1.toInt ≤ 9) (hH0 : uf_H A) {P : Option Value → hs_A → Prop} (hP : ∀ (r : Option Value) (A' : hs_A), (∃ z : Int32, r = some (.int z) ∧ z = huE D (huX H ro a1 (ro 70))) → P r A') : hpa (f, g) d (some (.int)) hm_t180 0 [.ref 368, .int a1] [] A P := by
  have k0 := hk_0
  have k100 := hk_100
  have k3 := hk_3
  have k70 := hk_70
  have U0 : uf_W uM180 A A := uf_W.rfl
  refine hpa_aload_n (by rfl) rfl ?_
  refine hpa_iload_n (by rfl) rfl ?_
  refine hpa_iconst (by rfl) rfl ?_
  refine hpa_iconst (by rfl) rfl ?_
  refine hpa_aload_n (by rfl) rfl ?_
  refine hpa_get (v := .ref 397) (by rfl) (by rfl) (by rfl) rfl ?_
  refine hpa_bipush (by rfl) rfl ?_
  refine hpx_iald (by rfl) (by rfl) (fun h0v1 h1v1 v1 ev1 => ?_)
  rw [show ((Int32.ofNat 70)).toNatClampNeg = 70 from by have := hn_cn (j := (Int32.ofNat 70)) (by omega); omega, hg (70) (by omega)] at ev1
  subst ev1
  refine hpa_call0 (by rfl) (by rfl) (by rfl) (by rfl) (by rfl) (by rfl) (uf_C (X := ug_x226) (j := 226) rfl rfl (ug_L.cons (uf_rk_ok (by decide +kernel)) (uf_int (uf_int (uf_int (uf_int uf_nil))))) hH0 (hP175 a1 (Int32.ofNat 0) (Int32.ofNat 0) (ro 70) hK hH hg (by omega) (by omega) hH0)) ?_
  rintro _ A2 ⟨⟨rfl, X_A2⟩, wA2, HA2⟩
  have UA2 := (U0).trans (wA2.le (by decide +kernel : ug_wle ug_x226.2.2.2.1 uM180 = true))
  refine hpa_aload_n (by rfl) rfl ?_
  refine hpa_iconst (by rfl) rfl ?_
  refine hpa_iconst (by rfl) rfl ?_
  have hKA2 : hrK sd D A2 := hK.uf UA2 (by decide +kernel)
  refine hpa_call0 (by rfl) (by rfl) (by rfl) (by rfl) (by rfl) (by rfl) (uf_C (X := ug_x227) (j := 227) rfl rfl (ug_L.cons (uf_rk_ok (by decide +kernel)) (uf_int (uf_int uf_nil))) HA2 (hP176k (q := 3) (Int32.ofNat 3) (Int32.ofNat 0) hKA2 (by omega) hk_3 (by rfl) X_A2)) ?_
  rintro _ A3 ⟨⟨z4, rfl, Z_A3⟩, wA3, HA3⟩
  have UA3 := (UA2).trans (wA3.le (by decide +kernel : ug_wle ug_x227.2.2.2.1 uM180 = true))
  refine hpa_iconst (by rfl) rfl ?_
  refine hpa_bipush (by rfl) rfl ?_
  refine hpa_call2 (by rfl) (by decide) (by rfl) (by rfl) (by rfl) (uf_C (X := ug_x250) (j := 250) rfl rfl (uf_int (uf_int (uf_int uf_nil))) HA3 (hP165 z4 (Int32.ofNat 0) (Int32.ofNat 100))) ?_
  rintro _ _ ⟨⟨rfl, z6, rfl, Z_A5⟩, -, -⟩
  subst Z_A5
  exact hpa_ireturn (by rfl) rfl (hP _ _ ⟨_, rfl, by rw [huC_of (by decide), Z_A3]; rfl⟩)
theorem hP180 {g d : Nat} {A : hs_A} {sd : Nat} {D : hg_D} {ro : Nat → Int32} {H : Int32} (a1 : Int32) (hK : hrK sd D A) (hH : A.2.1 376 sd = H) (hg : ∀ k, k < 73 → A.2.1 396 k = ro k) (pa1 : 0 ≤ a1.toInt) (qa1 : a1.toInt ≤ 9) (hH0 : uf_H A) : hpC g d 180 hm_m180 [.ref 368, .int a1] A (fun r A' => ∃ z : Int32, r = some (.int z) ∧ z = huE D (huX H ro a1 (ro 70))) := hpC.all (fun f d => hW180 a1 hK hH hg pa1 qa1 hH0 (fun r A' h => h))
def uM181 : Nat := 497323236409786642155382248146820840100456150797347717683852892136979542099900390965248
theorem hW181 {g d f : Nat} {A : hs_A} {sd : Nat} {D : hg_D} {ro : Nat → Int32} {H : Int32} (a1 a2 a3 : Int32) (hK : hrK sd D A) (hH : A.2.1 376 sd = H) (hg : ∀ k, k < 73 → A.2.1 396 k = ro k) (pa1 : 0 ≤ a1.toInt) (qa1 : a1.toInt ≤ 9) (pa2 : 0 ≤ a2.toInt) (qa2 : a2.toInt ≤ 255) (hH0 : uf_H A) {P : Option Value → hs_A → Prop} (hP : ∀ (r : Option Value) (A' : hs_A), (∃ z : Int32, r = some (.int z) ∧ z = huW D (huX H ro a1 a3) a2) → P r A') : hpa (f, g) d (some (.int)) hm_t181 0 [.ref 368, .int a1, .int a2, .int a3, .retAddr 0, .retAddr 0, .retAddr 0, .retAddr 0] [] A P := by
  have k0 := hk_0
  have k1 := hk_1
  have k8 := hk_8
  have U0 : uf_W uM181 A A := uf_W.rfl
  have L27 : ∀ (f : Nat) (x27_7 : Int32) (x27_6 : Int32) (A27 : hs_A) (k : Nat) (bk : k ≤ 8) (ek : x27_7 = Int32.ofNat k) (x27e6 : x27_6 = huU D (huX H ro a1 a3) ||| huP (fun p => hub a2 p && huK D (huX H ro a1 a3) (huB 10 a2) p) (huT D (huX H ro a1 a3) (huB 10 a2)).toNatClampNeg k) (U27 : uf_W uM181 A A27) (H27 : uf_H A27), hpa (f, g) d (some (.int)) hm_t181 27 [.ref 368, .int a1, .int a2, .int a3, .int (huB 10 a2), .int (huT D (huX H ro a1 a3) (huB 10 a2)), .int x27_6, .int x27_7] [] A27 P := by
    intro f
    induction f with
    | zero => intros; exact hpa.zero
    | succ f ih27 =>
      intro x27_7 x27_6 A27 k bk ek x27e6 U27 H27
      subst ek
      have ck := hn_c (n := k) (z := Int32.ofNat k) rfl (by omega)
      subst x27e6
      refine hpa_iloadS (by rfl) rfl ?_
      refine hpa_bipush (by rfl) rfl ?_
      refine hpj_cge (by rfl) ck hk_8 (fun q1 => ?_) (fun q1 => ?_)
      ·
        refine hpa_iload (by rfl) rfl ?_
        exact hpa_ireturn (by rfl) rfl (hP _ _ ⟨_, rfl, by rw [show k = 8 by omega]; rfl⟩)
      ·
        refine hpa_iload_n (by rfl) rfl ?_
        refine hpa_iload (by rfl) rfl ?_
        refine hpa_ishr (by rfl) ?_
        refine hpa_iconst (by rfl) rfl ?_
        refine hpa_iand (by rfl) ?_
        refine hpa_iconst (by rfl) rfl ?_
        refine hpj_cne (by rfl) rfl hk_1 (fun q2 => ?_) (fun q2 => ?_)
        ·
          have hbk : hub a2 k = false := by have := mt (hub_iff pa2 qa2 (by omega)).mpr q2; exact Bool.eq_false_iff.mpr this
          refine hpj_iinc (by rfl) rfl ck hk_1 (by omega) (by omega) (fun _ => rfl) (fun z3 ez3 => ?_)
          refine hpa_goto (by rfl) ?_
          exact ih27 z3 (huU D (huX H ro a1 a3) ||| huP (fun p => hub a2 p && huK D (huX H ro a1 a3) (huB 10 a2) p) (huT D (huX H ro a1 a3) (huB 10 a2)).toNatClampNeg k) A27 (k + 1) (by omega) (huI (by omega) (by omega)) (by rw [huP_f (by rw [hbk]; rfl)]) U27 H27
        ·
          have hbk : hub a2 k = true := (hub_iff pa2 qa2 (by omega)).mp q2
          refine hpa_aload_n (by rfl) rfl ?_
          refine hpa_iload_n (by rfl) rfl ?_
          refine hpa_iload (by rfl) rfl ?_
          refine hpa_iload (by rfl) rfl ?_
          refine hpa_iload_n (by rfl) rfl ?_
          have hKA27 : hrK sd D A27 := hK.uf U27 (by decide +kernel)
          have hHA27 : A27.2.1 376 sd = H := (U27.2.1 376 _ _ sd rfl (by have := hK.2.1; omega) (by decide +kernel)).trans hH
          have hgA27 : ∀ k, k < 73 → A27.2.1 396 k = ro k := fun k hk => (U27.2.1 396 _ _ k rfl hk (by decide +kernel)).trans (hg k hk)
          refine hpa_call0 (by rfl) (by rfl) (by rfl) (by rfl) (by rfl) (by rfl) (uf_C (X := ug_x258) (j := 258) rfl rfl (ug_L.cons (uf_rk_ok (by decide +kernel)) (uf_int (uf_int (uf_int (uf_int uf_nil))))) H27 (hP177 a1 (huB 10 a2) (Int32.ofNat k) a3 hKA27 hHA27 hgA27 (by omega) (by omega) rfl H27)) ?_
          rintro _ A4 ⟨⟨z5, rfl, (⟨fz_A4, KK_A4⟩ | ⟨fz_A4, KK_A4⟩)⟩, wA4, HA4⟩
          ·
            have UA4 := (U27).trans (wA4.le (by decide +kernel : ug_wle ug_x258.2.2.2.1 uM181 = true))
            refine hpj_zeq (by rfl) rfl (fun q6 => False.elim (by omega)) (fun q6 => ?_)
            have tin := huT_in (D := D) (x := (huX H ro a1 a3)) (q := huB 10 a2)
            have shf := huP_sh k (by omega) (huT D (huX H ro a1 a3) (huB 10 a2)).toNatClampNeg (by have := hn_cn (j := (huT D (huX H ro a1 a3) (huB 10 a2))) tin.1; omega)
            rw [← hI32 (a := (huT D (huX H ro a1 a3) (huB 10 a2))) tin.1 (by omega)] at shf
            refine hpa_iload (by rfl) rfl ?_
            refine hpa_iconst (by rfl) rfl ?_
            refine hpa_iload (by rfl) rfl ?_
            refine hpa_iload (by rfl) rfl ?_
            refine hpa_iadd (by rfl) ?_
            refine hpa_bipush (by rfl) rfl ?_
            refine hpa_irem (by rfl) (by decide) ?_
            refine hpa_ishl (by rfl) ?_
            refine hpa_ior (by rfl) ?_
            refine hpa_s1 (by rfl) (Or.inr ⟨_, rfl, rfl⟩) rfl ?_
            refine hpj_iinc (by rfl) rfl ck hk_1 (by omega) (by omega) (fun _ => rfl) (fun z7 ez7 => ?_)
            refine hpa_goto (by rfl) ?_
            exact ih27 z7 ((huU D (huX H ro a1 a3) ||| huP (fun p => hub a2 p && huK D (huX H ro a1 a3) (huB 10 a2) p) (huT D (huX H ro a1 a3) (huB 10 a2)).toNatClampNeg k) ||| ((Int32.ofNat 1) <<< ((((Int32.ofNat k) + (huT D (huX H ro a1 a3) (huB 10 a2))) - ((Int32.ofNat k) + (huT D (huX H ro a1 a3) (huB 10 a2))) / (Int32.ofNat 8) * (Int32.ofNat 8)) &&& 31))) A4 (k + 1) (by omega) (huI (by omega) (by omega)) (by rw [huP_t (by rw [hbk, KK_A4]; rfl), ← hs_or3, shf]) UA4 HA4
          ·
            have UA4 := (U27).trans (wA4.le (by decide +kernel : ug_wle ug_x258.2.2.2.1 uM181 = true))
            refine hpj_zeq (by rfl) rfl (fun q8 => ?_) (fun q8 => False.elim (by omega))
            refine hpj_iinc (by rfl) rfl ck hk_1 (by omega) (by omega) (fun _ => rfl) (fun z9 ez9 => ?_)
            refine hpa_goto (by rfl) ?_
            exact ih27 z9 (huU D (huX H ro a1 a3) ||| huP (fun p => hub a2 p && huK D (huX H ro a1 a3) (huB 10 a2) p) (huT D (huX H ro a1 a3) (huB 10 a2)).toNatClampNeg k) A4 (k + 1) (by omega) (huI (by omega) (by omega)) (by rw [huP_f (by rw [hbk, KK_A4]; rfl)]) UA4 HA4
  refine hpa_iload_n (by rfl) rfl ?_
  refine hpa_call2 (by rfl) (by decide) (by rfl) (by rfl) (by rfl) (uf_C (X := ug_x126) (j := 126) rfl rfl (uf_int uf_nil) hH0 (hP166 a2)) ?_
  rintro _ _ ⟨⟨rfl, z11, rfl, Z_A10⟩, -, -⟩
  subst Z_A10
  refine hpa_s1 (by rfl) (Or.inr ⟨_, rfl, rfl⟩) rfl ?_
  refine hpa_aload_n (by rfl) rfl ?_
  refine hpa_iload_n (by rfl) rfl ?_
  refine hpa_iload (by rfl) rfl ?_
  refine hpa_iload_n (by rfl) rfl ?_
  refine hpa_call0 (by rfl) (by rfl) (by rfl) (by rfl) (by rfl) (by rfl) (uf_C (X := ug_x207) (j := 207) rfl rfl (ug_L.cons (uf_rk_ok (by decide +kernel)) (uf_int (uf_int (uf_int uf_nil)))) hH0 (hP178 a1 (huB 10 a2) a3 hK hH hg (by omega) (by omega) hH0)) ?_
  rintro _ A12 ⟨⟨z13, rfl, Z_A12⟩, wA12, HA12⟩
  have UA12 := (U0).trans (wA12.le (by decide +kernel : ug_wle ug_x207.2.2.2.1 uM181 = true))
  subst Z_A12
  refine hpa_s1 (by rfl) (Or.inr ⟨_, rfl, rfl⟩) rfl ?_
  refine hpa_aload_n (by rfl) rfl ?_
  refine hpa_iload_n (by rfl) rfl ?_
  refine hpa_iload_n (by rfl) rfl ?_
  have hKA12 : hrK sd D A12 := hK.uf UA12 (by decide +kernel)
  have hHA12 : A12.2.1 376 sd = H := (UA12.2.1 376 _ _ sd rfl (by have := hK.2.1; omega) (by decide +kernel)).trans hH
  have hgA12 : ∀ k, k < 73 → A12.2.1 396 k = ro k := fun k hk => (UA12.2.1 396 _ _ k rfl hk (by decide +kernel)).trans (hg k hk)
  refine hpa_call0 (by rfl) (by rfl) (by rfl) (by rfl) (by rfl) (by rfl) (uf_C (X := ug_x205) (j := 205) rfl rfl (ug_L.cons (uf_rk_ok (by decide +kernel)) (uf_int (uf_int uf_nil))) HA12 (hP179 a1 a3 hKA12 hHA12 hgA12 (by omega) (by omega) HA12)) ?_
  rintro _ A14 ⟨⟨z15, rfl, Z_A14⟩, wA14, HA14⟩
  have UA14 := (UA12).trans (wA14.le (by decide +kernel : ug_wle ug_x205.2.2.2.1 uM181 = true))
  subst Z_A14
  refine hpa_s1 (by rfl) (Or.inr ⟨_, rfl, rfl⟩) rfl ?_
  refine hpa_iconst (by rfl) rfl ?_
  refine hpa_s1 (by rfl) (Or.inr ⟨_, rfl, rfl⟩) rfl ?_
  exact L27 _ (Int32.ofNat 0) (huU D (huX H ro a1 a3)) A14 0 (by omega) rfl hs_or0.symm UA14 HA14
theorem hP181 {g d : Nat} {A : hs_A} {sd : Nat} {D : hg_D} {ro : Nat → Int32} {H : Int32} (a1 a2 a3 : Int32) (hK : hrK sd D A) (hH : A.2.1 376 sd = H) (hg : ∀ k, k < 73 → A.2.1 396 k = ro k) (pa1 : 0 ≤ a1.toInt) (qa1 : a1.toInt ≤ 9) (pa2 : 0 ≤ a2.toInt) (qa2 : a2.toInt ≤ 255) (hH0 : uf_H A) : hpC g d 181 hm_m181 [.ref 368, .int a1, .int a2, .int a3] A (fun r A' => ∃ z : Int32, r = some (.int z) ∧ z = huW D (huX H ro a1 a3) a2) := hpC.all (fun f d => hW181 a1 a2 a3 hK hH hg pa1 qa1 pa2 qa2 hH0 (fun r A' h => h))
