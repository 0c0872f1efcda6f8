def uM171 : Nat := 11935757673834879411729173955523700162410947619136345219220172552752681381867113053945856
theorem hW171 {g d f : Nat} {A : hs_A} {sd : Nat} {D : hg_D} (hK : hrK sd D A) (hH0 : uf_H A) {P : Option Value → hs_A → Prop} (hP : ∀ (r : Option Value) (A' : hs_A), (r = none ∧ ((∀ k, k < 73 → A'.2.1 396 k = A.2.1 395 k) ∧ A'.1 367 47 = A.2.1 382 sd ∧ A'.1 367 48 = Int32.ofNat 0)) → P r A') : hpa (f, g) d none hm_t171 0 [.ref 368, .retAddr 0] [] A P := by
  have k0 := hk_0
  have k1 := hk_1
  have k73 := hk_73
  have k18 := hK.1
  have ksd := hK.2.1
  have U0 : uf_W uM171 A A := uf_W.rfl
  have L2 : ∀ (f : Nat) (x2_1 : Int32) (A2 : hs_A) (k : Nat) (bk : k ≤ 73) (ek : x2_1 = Int32.ofNat k) (R2 : ∀ j, j < k → A2.2.1 396 j = A.2.1 395 j) (U2 : uf_W uM171 A A2) (H2 : uf_H A2), hpa (f, g) d none hm_t171 2 [.ref 368, .int x2_1] [] A2 P := by
    intro f
    induction f with
    | zero => intros; exact hpa.zero
    | succ f ih2 =>
      intro x2_1 A2 k bk ek R2 U2 H2
      subst ek
      have ck := hn_c (n := k) (z := Int32.ofNat k) rfl (by omega)
      refine hpa_iload_nS (by rfl) rfl ?_
      refine hpa_bipush (by rfl) rfl ?_
      refine hpj_cge (by rfl) ck hk_73 (fun q1 => ?_) (fun q1 => ?_)
      ·
        refine hpa_aload_n (by rfl) rfl ?_
        refine hpa_aload_n (by rfl) rfl ?_
        refine hpa_get (v := .ref 383) (by rfl) (by rfl) (by rfl) rfl ?_
        refine hpa_aload_n (by rfl) rfl ?_
        refine hpj_getK (by rfl) (by rfl) (by rfl) rfl ?_
        have k18A2 : (A2.1 367 18).toInt = (sd : Int) := (congrArg Int32.toInt (U2.1 367 _ _ 18 rfl rfl (by decide +kernel))).trans hK.1
        refine hpx_iald (by rfl) (by rfl) (fun h0v2 h1v2 v2 ev2 => ?_)
        have qv2 : A2.2.1 382 sd = A.2.1 382 sd := U2.2.1 382 _ _ sd rfl (by omega) (by decide +kernel)
        rw [show ((A2.1 367 18)).toNatClampNeg = sd from by have := hn_cn (j := (A2.1 367 18)) (by omega); omega, qv2] at ev2
        subst ev2
        refine hpj_putI (by rfl) (by rfl) (by rfl) (by rfl) (fun A3 eA3 fA3 => ?_)
        have UA3 := (U2).put eA3 fA3 (by decide +kernel)
        have HA3 := (H2).e (congrArg (fun q => q.2.2) fA3)
        refine hpa_aload_n (by rfl) rfl ?_
        refine hpa_iconst (by rfl) rfl ?_
        refine hpj_putI (by rfl) (by rfl) (by rfl) (by rfl) (fun A4 eA4 fA4 => ?_)
        have UA4 := (UA3).put eA4 fA4 (by decide +kernel)
        have HA4 := (HA3).e (congrArg (fun q => q.2.2) fA4)
        exact hpa_return (by rfl) rfl (hP _ _ ⟨rfl, fun k hk => by rw [fA4, fA3]; exact R2 k (by omega), by rw [eA4, hup2 (by omega), eA3, hup1], by rw [eA4, hup1]⟩)
      ·
        refine hpa_aload_n (by rfl) rfl ?_
        refine hpa_get (v := .ref 397) (by rfl) (by rfl) (by rfl) rfl ?_
        refine hpa_iload_n (by rfl) rfl ?_
        refine hpa_aload_n (by rfl) rfl ?_
        refine hpa_get (v := .ref 396) (by rfl) (by rfl) (by rfl) rfl ?_
        refine hpa_iload_n (by rfl) rfl ?_
        refine hpx_iald (by rfl) (by rfl) (fun h0v5 h1v5 v5 ev5 => ?_)
        have qv5 : A2.2.1 395 k = A.2.1 395 k := U2.2.1 395 _ _ k rfl (by omega) (by decide +kernel)
        rw [show ((Int32.ofNat k)).toNatClampNeg = k from by have := hn_cn (j := (Int32.ofNat k)) (by omega); omega, qv5] at ev5
        subst ev5
        refine hpx_iast (by rfl) (by rfl) (fun A6 h0A6 h1A6 eA6 fA6 gA6 => ?_)
        have UA6 := (U2).ar eA6 fA6 gA6 (by decide +kernel)
        have HA6 := (H2).e (congrArg (fun q => q.2) gA6)
        refine hpj_iinc (by rfl) rfl ck hk_1 (by omega) (by omega) (fun _ => rfl) (fun z7 ez7 => ?_)
        refine hpa_goto (by rfl) ?_
        exact ih2 z7 A6 (k + 1) (by omega) (huI (by omega) (by omega)) (fun j hj => by rw [fA6, show ((Int32.ofNat k)).toNatClampNeg = k from by have := hn_cn (j := (Int32.ofNat k)) (by omega); omega]; by_cases s : j = k; (rw [s, hup1]); rw [hup2 (by omega)]; exact R2 j (by omega)) UA6 HA6
  refine hpa_iconst (by rfl) rfl ?_
  refine hpa_s1 (by rfl) (Or.inl ⟨_, rfl, rfl⟩) rfl ?_
  exact L2 _ (Int32.ofNat 0) A 0 (by omega) rfl (fun j hj => absurd hj (Nat.not_lt_zero j)) U0 hH0
theorem hP171 {g d : Nat} {A : hs_A} {sd : Nat} {D : hg_D} (hK : hrK sd D A) (hH0 : uf_H A) : hpC g d 171 hm_m171 [.ref 368] A (fun r A' => r = none ∧ ((∀ k, k < 73 → A'.2.1 396 k = A.2.1 395 k) ∧ A'.1 367 47 = A.2.1 382 sd ∧ A'.1 367 48 = Int32.ofNat 0)) := hpC.all (fun f d => hW171 hK hH0 (fun r A' h => h))
def uM172 : Nat := 11935757673834879411729173955523700162410947619136345219220172552752681381867113053945856
theorem hW172 {g d f : Nat} {A : hs_A} {sd : Nat} {D : hg_D} (hK : hrK sd D A) (hH0 : uf_H A) {P : Option Value → hs_A → Prop} (hP : ∀ (r : Option Value) (A' : hs_A), (r = none ∧ ((∀ k, k < 73 → A'.2.1 396 k = A.2.1 395 k) ∧ A'.1 367 47 = A.2.1 382 sd ∧ A'.1 367 48 = Int32.ofNat 1)) → P r A') : hpa (f, g) d none hm_t172 0 [.ref 368] [] A P := by
  have k1 := hk_1
  have k18 := hK.1
  have ksd := hK.2.1
  have U0 : uf_W uM172 A A := uf_W.rfl
  refine hpa_aload_n (by rfl) rfl ?_
  refine hpa_call0 (by rfl) (by rfl) (by rfl) (by rfl) (by rfl) (by rfl) (uf_C (X := ug_x113) (j := 113) rfl rfl (ug_L.cons (uf_rk_ok (by decide +kernel)) uf_nil) hH0 (hP171 hK hH0)) ?_
  rintro _ A1 ⟨⟨rfl, RW_A1, LS_A1, SL_A1⟩, wA1, HA1⟩
  have UA1 := (U0).trans (wA1.le (by decide +kernel : ug_wle ug_x113.2.2.2.1 uM172 = true))
  refine hpa_aload_n (by rfl) rfl ?_
  refine hpa_iconst (by rfl) rfl ?_
  refine hpj_putI (by rfl) (by rfl) (by rfl) (by rfl) (fun A2 eA2 fA2 => ?_)
  have UA2 := (UA1).put eA2 fA2 (by decide +kernel)
  have HA2 := (HA1).e (congrArg (fun q => q.2.2) fA2)
  exact hpa_return (by rfl) rfl (hP _ _ ⟨rfl, fun k hk => by rw [fA2]; exact RW_A1 k hk, by rw [eA2, hup2 (by omega)]; exact LS_A1, by rw [eA2, hup1]⟩)
theorem hP172 {g d : Nat} {A : hs_A} {sd : Nat} {D : hg_D} (hK : hrK sd D A) (hH0 : uf_H A) : hpC g d 172 hm_m172 [.ref 368] A (fun r A' => r = none ∧ ((∀ k, k < 73 → A'.2.1 396 k = A.2.1 395 k) ∧ A'.1 367 47 = A.2.1 382 sd ∧ A'.1 367 48 = Int32.ofNat 1)) := hpC.all (fun f d => hW172 hK hH0 (fun r A' h => h))
def uM170 : Nat := 324518553658426726783156020576256
theorem hW170k {g d f : Nat} {A : hs_A} (hH0 : uf_H A) {P : Option Value → hs_A → Prop} (hP : ∀ (r : Option Value) (A' : hs_A), (r = none ∧ ((∀ k, k < 73 → A'.2.1 395 k = A.2.1 396 k))) → P r A') : hpa (f, g) d none hm_t170 0 [.ref 368, .retAddr 0] [] A P := by
  have k0 := hk_0
  have k1 := hk_1
  have k73 := hk_73
  have U0 : uf_W uM170 A A := uf_W.rfl
  have L2 : ∀ (f : Nat) (x2_1 : Int32) (A2 : hs_A) (k : Nat) (bk : k ≤ 73) (ek : x2_1 = Int32.ofNat k) (R2 : ∀ j, j < k → A2.2.1 395 j = A.2.1 396 j) (U2 : uf_W uM170 A A2) (H2 : uf_H A2), hpa (f, g) d none hm_t170 2 [.ref 368, .int x2_1] [] A2 P := by
    intro f
    induction f with
    | zero => intros; exact hpa.zero
    | succ f ih2 =>
      intro x2_1 A2 k bk ek R2 U2 H2
      subst ek
      have ck := hn_c (n := k) (z := Int32.ofNat k) rfl (by omega)
      refine hpa_iload_nS (by rfl) rfl ?_
      refine hpa_bipush (by rfl) rfl ?_
      refine hpj_cge (by rfl) ck hk_73 (fun q1 => ?_) (fun q1 => ?_)
      ·
        exact hpa_return (by rfl) rfl (hP _ _ ⟨rfl, fun k hk => R2 k (by omega)⟩)
      ·
        refine hpa_aload_n (by rfl) rfl ?_
        refine hpa_get (v := .ref 396) (by rfl) (by rfl) (by rfl) rfl ?_
        refine hpa_iload_n (by rfl) rfl ?_
        refine hpa_aload_n (by rfl) rfl ?_
        refine hpa_get (v := .ref 397) (by rfl) (by rfl) (by rfl) rfl ?_
        refine hpa_iload_n (by rfl) rfl ?_
        refine hpx_iald (by rfl) (by rfl) (fun h0v2 h1v2 v2 ev2 => ?_)
        have qv2 : A2.2.1 396 k = A.2.1 396 k := U2.2.1 396 _ _ k rfl (by omega) (by decide +kernel)
        rw [show ((Int32.ofNat k)).toNatClampNeg = k from by have := hn_cn (j := (Int32.ofNat k)) (by omega); omega, qv2] at ev2
        subst ev2
        refine hpx_iast (by rfl) (by rfl) (fun A3 h0A3 h1A3 eA3 fA3 gA3 => ?_)
        have UA3 := (U2).ar eA3 fA3 gA3 (by decide +kernel)
        have HA3 := (H2).e (congrArg (fun q => q.2) gA3)
        refine hpj_iinc (by rfl) rfl ck hk_1 (by omega) (by omega) (fun _ => rfl) (fun z4 ez4 => ?_)
        refine hpa_goto (by rfl) ?_
        exact ih2 z4 A3 (k + 1) (by omega) (huI (by omega) (by omega)) (fun j hj => by rw [fA3, show ((Int32.ofNat k)).toNatClampNeg = k from by have := hn_cn (j := (Int32.ofNat k)) (by omega); omega]; by_cases s : j = k; (rw [s, hup1]); rw [hup2 (by omega)]; exact R2 j (by omega)) UA3 HA3
  refine hpa_iconst (by rfl) rfl ?_
  refine hpa_s1 (by rfl) (Or.inl ⟨_, rfl, rfl⟩) rfl ?_
  exact L2 _ (Int32.ofNat 0) A 0 (by omega) rfl (fun j hj => absurd hj (Nat.not_lt_zero j)) U0 hH0
theorem hP170k {g d : Nat} {A : hs_A} (hH0 : uf_H A) : hpC g d 170 hm_m170 [.ref 368] A (fun r A' => r = none ∧ ((∀ k, k < 73 → A'.2.1 395 k = A.2.1 396 k))) := hpC.all (fun f d => hW170k hH0 (fun r A' h => h))
theorem hW173 {g d f : Nat} {A : hs_A} (a1 a2 : Int32) {P : Option Value → hs_A → Prop} (hP : ∀ (r : Option Value) (A' : hs_A), (A = A' ∧ ∃ z : Int32, r = some (.int z) ∧ z = huMx a1 a2) → P r A') : hpa (f, g) d (some (.int)) hm_t173 0 [.int a1, .int a2, .retAddr 0] [] A P := by
  have k1103515245 := hk_1103515245
  have k12345 := hk_12345
  have k15 := hk_15
  refine hpa_iload_n (by rfl) rfl ?_
  refine hpa_iload_n (by rfl) rfl ?_
  refine hpa_ixor (by rfl) ?_
  refine hpa_ldc_w (by rfl) rfl ?_
  refine hpa_imul (by rfl) ?_
  refine hpa_sipush (by rfl) rfl ?_
  refine hpa_iadd (by rfl) ?_
  refine hpa_s1 (by rfl) (Or.inl ⟨_, rfl, rfl⟩) rfl ?_
  refine hpa_iload_n (by rfl) rfl ?_
  refine hpa_iload_n (by rfl) rfl ?_
  refine hpa_bipush (by rfl) rfl ?_
  refine hpa_iushr (by rfl) ?_
  refine hpa_ixor (by rfl) ?_
  exact hpa_ireturn (by rfl) rfl (hP _ _ ⟨rfl, _, rfl, rfl⟩)
theorem hP173 {g d : Nat} {A : hs_A} (a1 a2 : Int32) : hpC g d 173 hm_m173 [.int a1, .int a2] A (fun r A' => A = A' ∧ ∃ z : Int32, r = some (.int z) ∧ z = huMx a1 a2) := hpC.all (fun f d => hW173 a1 a2 (fun r A' h => h))
theorem hW174 {g d f : Nat} {A : hs_A} {s : Int32} (a1 : Int32) (hs : A.1 367 47 = s) {P : Option Value → hs_A → Prop} (hP : ∀ (r : Option Value) (A' : hs_A), (A = A' ∧ ∃ z : Int32, r = some (.int z) ∧ z = huLt s a1) → P r A') : hpa (f, g) d (some (.int)) hm_t174 0 [.ref 368, .int a1] [] A P := by
  have k1 := hk_1
  have k100 := hk_100
  have k137 := hk_137
  refine hpa_aload_n (by rfl) rfl ?_
  refine hpj_getK (by rfl) (by rfl) (by rfl) rfl ?_
  rw [show (A.1 367 47) = s from hs]
  refine hpa_sipush (by rfl) rfl ?_
  refine hpa_call2 (by rfl) (by decide) (by rfl) (by rfl) (by rfl) (hP173 s (Int32.ofNat 137)) ?_
  rintro _ _ ⟨rfl, z2, rfl, Z_A1⟩
  subst Z_A1
  refine hpa_iload_n (by rfl) rfl ?_
  refine hpa_call2 (by rfl) (by decide) (by rfl) (by rfl) (by rfl) (hP173 (huMx s (Int32.ofNat 137)) a1) ?_
  rintro _ _ ⟨rfl, z4, rfl, Z_A3⟩
  subst Z_A3
  refine hpa_iconst (by rfl) rfl ?_
  refine hpa_iushr (by rfl) ?_
  refine hpa_bipush (by rfl) rfl ?_
  refine hpa_irem (by rfl) (by decide) ?_
  exact hpa_ireturn (by rfl) rfl (hP _ _ ⟨rfl, _, rfl, rfl⟩)
theorem hP174 {g d : Nat} {A : hs_A} {s : Int32} (a1 : Int32) (hs : A.1 367 47 = s) : hpC g d 174 hm_m174 [.ref 368, .int a1] A (fun r A' => A = A' ∧ ∃ z : Int32, r = some (.int z) ∧ z = huLt s a1) := hpC.all (fun f d => hW174 a1 hs (fun r A' h => h))
theorem hW182 {g d f : Nat} {A : hs_A} {ro : Nat → Int32} {h : Nat} (a1 : Int32) (hg : ∀ k, k < 73 → A.2.1 396 k = ro k) (hh : h ≤ 9) (ha : a1 = Int32.ofNat h) {P : Option Value → hs_A → Prop} (hP : ∀ (r : Option Value) (A' : hs_A), (A = A' ∧ ∃ z : Int32, r = some (.int z) ∧ ((z.toInt = 1 ∧ huH ro h = true) ∨ (z.toInt = 0 ∧ huH ro h = false))) → P r A') : hpa (f, g) d (some (.boolean)) hm_t182 0 [.ref 368, .int a1] [] A P := by
  have k0 := hk_0
  have k1 := hk_1
  have k50 := hk_50
  have k60 := hk_60
  have ch := hn_c (n := h) (z := Int32.ofNat h) rfl (by omega)
  have cah : a1.toInt = (h : Int) := by rw [ha]; exact ch
  have cih : a1.toNatClampNeg = h := by have := hn_cn (j := a1) (by omega); omega
  refine hpa_aload_n (by rfl) rfl ?_
  refine hpa_get (v := .ref 397) (by rfl) (by rfl) (by rfl) rfl ?_
  refine hpa_bipush (by rfl) rfl ?_
  refine hpa_iload_n (by rfl) rfl ?_
  refine hpj_iadd (by rfl) hk_50 rfl (by omega) (by omega) (fun z1 ez1 => ?_)
  refine hpx_iald (by rfl) (by rfl) (fun h0v2 h1v2 v2 ev2 => ?_)
  rw [show (z1).toNatClampNeg = 50 + h from by have := hn_cn (j := z1) (by omega); omega] at ev2
  have lv2 := ev2.symm.trans (show _ = ro (50 + h) from hg (50 + h) (by omega))
  clear ev2
  subst lv2
  refine hpa_iconst (by rfl) rfl ?_
  refine hpj_cne (by rfl) rfl hk_1 (fun q3 => ?_) (fun q3 => ?_)
  ·
    refine hpa_iconst (by rfl) rfl ?_
    exact hpa_ireturn (by rfl) (by rfl) (hP _ _ ⟨rfl, _, rfl, Or.inr ⟨hk_0, by unfold huH; rw [decide_eq_false q3, Bool.false_and]⟩⟩)
  ·
    refine hpa_aload_n (by rfl) rfl ?_
    refine hpa_get (v := .ref 397) (by rfl) (by rfl) (by rfl) rfl ?_
    refine hpa_bipush (by rfl) rfl ?_
    refine hpa_iload_n (by rfl) rfl ?_
    refine hpj_iadd (by rfl) hk_60 rfl (by omega) (by omega) (fun z4 ez4 => ?_)
    refine hpx_iald (by rfl) (by rfl) (fun h0v5 h1v5 v5 ev5 => ?_)
    rw [show (z4).toNatClampNeg = 60 + h from by have := hn_cn (j := z4) (by omega); omega] at ev5
    have lv5 := ev5.symm.trans (show _ = ro (60 + h) from hg (60 + h) (by omega))
    clear ev5
    subst lv5
    refine hpj_zne (by rfl) rfl (fun q6 => ?_) (fun q6 => ?_)
    ·
      refine hpa_iconst (by rfl) rfl ?_
      exact hpa_ireturn (by rfl) (by rfl) (hP _ _ ⟨rfl, _, rfl, Or.inr ⟨hk_0, by unfold huH; rw [decide_eq_false q6, Bool.and_false]⟩⟩)
    ·
      refine hpa_iconst (by rfl) rfl ?_
      refine hpa_goto (by rfl) ?_
      exact hpa_ireturn (by rfl) (by rfl) (hP _ _ ⟨rfl, _, rfl, Or.inl ⟨hk_1, by unfold huH; rw [decide_eq_true q3, decide_eq_true q6]; rfl⟩⟩)
theorem hP182 {g d : Nat} {A : hs_A} {ro : Nat → Int32} {h : Nat} (a1 : Int32) (hg : ∀ k, k < 73 → A.2.1 396 k = ro k) (hh : h ≤ 9) (ha : a1 = Int32.ofNat h) : hpC g d 182 hm_m182 [.ref 368, .int a1] A (fun r A' => A = A' ∧ ∃ z : Int32, r = some (.int z) ∧ ((z.toInt = 1 ∧ huH ro h = true) ∨ (z.toInt = 0 ∧ huH ro h = false))) := hpC.all (fun f d => hW182 a1 hg hh ha (fun r A' h => h))
theorem hW183 {g d f : Nat} {A : hs_A} {sd : Nat} {D : hg_D} {ro : Nat → Int32} {n : Nat} (hK : hrK sd D A) (hg : ∀ k, k < 73 → A.2.1 396 k = ro k) (hO : huO ro n) {P : Option Value → hs_A → Prop} (hP : ∀ (r : Option Value) (A' : hs_A), (A = A' ∧ ∃ z : Int32, r = some (.int z) ∧ z = huN D ro) → P r A') : hpa (f, g) d (some (.int)) hm_t183 0 [.ref 368] [] A P := by
  have k24 := hk_24
  have k4294967295 := hk_4294967295
  have k70 := hk_70
  have k71 := hk_71
  have k18 := hK.1
  have ksd := hK.2.1
  obtain ⟨V, ns, bb, zz, k1, kM, k2⟩ := hK.2.2.2.2
  have hX := kM.2.1.1
  have hO70 := hO.2.1
  refine hpa_aload_n (by rfl) rfl ?_
  refine hpa_get (v := .ref 397) (by rfl) (by rfl) (by rfl) rfl ?_
  refine hpa_bipush (by rfl) rfl ?_
  refine hpx_iald (by rfl) (by rfl) (fun h0v1 h1v1 v1 ev1 => ?_)
  rw [show ((Int32.ofNat 71)).toNatClampNeg = 71 from by have := hn_cn (j := (Int32.ofNat 71)) (by omega); omega] at ev1
  have lv1 := ev1.symm.trans (show _ = ro 71 from hg 71 (by omega))
  clear ev1
  subst lv1
  refine hpa_iconst (by rfl) rfl ?_
  refine hpj_ceq (by rfl) rfl hk_4294967295 (fun q2 => ?_) (fun q2 => ?_)
  ·
    refine hpa_aload_n (by rfl) rfl ?_
    refine hpa_get (v := .ref 381) (by rfl) (by rfl) (by rfl) rfl ?_
    refine hpa_bipush (by rfl) rfl ?_
    refine hpa_aload_n (by rfl) rfl ?_
    refine hpj_getK (by rfl) (by rfl) (by rfl) rfl ?_
    refine hpj_imul (by rfl) hk_24 k18 (by omega) (by omega) (fun z3 ez3 => ?_)
    refine hpa_aload_n (by rfl) rfl ?_
    refine hpa_get (v := .ref 397) (by rfl) (by rfl) (by rfl) rfl ?_
    refine hpa_bipush (by rfl) rfl ?_
    refine hpx_iald (by rfl) (by rfl) (fun h0v4 h1v4 v4 ev4 => ?_)
    rw [show ((Int32.ofNat 70)).toNatClampNeg = 70 from by have := hn_cn (j := (Int32.ofNat 70)) (by omega); omega] at ev4
    have lv4 := ev4.symm.trans (show _ = ro 70 from hg 70 (by omega))
    clear ev4
    subst lv4
    refine hpa_bipush (by rfl) rfl ?_
    refine hpa_irem (by rfl) (by decide) ?_
    refine hpj_iadd (by rfl) rfl (hs_fm hO70) (by omega) (by omega) (fun z5 ez5 => ?_)
    refine hpx_iald (by rfl) (by rfl) (fun h0v6 h1v6 v6 ev6 => ?_)
    have hm : 0 ≤ (ro 70).toInt % 24 ∧ (ro 70).toInt % 24 < 24 := by omega
    have e43 := hX ((ro 70).toInt % 24).toNat (by omega)
    rw [show (z5).toNatClampNeg = 24 * sd + ((ro 70).toInt % 24).toNat from by have := hn_cn (j := z5) (by omega); omega] at ev6
    rw [ev6] at e43
    exact hpa_ireturn (by rfl) rfl (hP _ _ ⟨rfl, _, rfl, by unfold huN; rw [if_pos q2]; exact Int32.toInt_inj.mp (e43.trans (hofi e43).symm)⟩)
  ·
    refine hpa_aload_n (by rfl) rfl ?_
    refine hpa_get (v := .ref 397) (by rfl) (by rfl) (by rfl) rfl ?_
    refine hpa_bipush (by rfl) rfl ?_
    refine hpx_iald (by rfl) (by rfl) (fun h0v7 h1v7 v7 ev7 => ?_)
    rw [show ((Int32.ofNat 71)).toNatClampNeg = 71 from by have := hn_cn (j := (Int32.ofNat 71)) (by omega); omega] at ev7
    have lv7 := ev7.symm.trans (show _ = ro 71 from hg 71 (by omega))
    clear ev7
    subst lv7
    refine hpa_goto (by rfl) ?_
    exact hpa_ireturn (by rfl) rfl (hP _ _ ⟨rfl, _, rfl, by unfold huN; rw [if_neg q2]⟩)
theorem hP183 {g d : Nat} {A : hs_A} {sd : Nat} {D : hg_D} {ro : Nat → Int32} {n : Nat} (hK : hrK sd D A) (hg : ∀ k, k < 73 → A.2.1 396 k = ro k) (hO : huO ro n) : hpC g d 183 hm_m183 [.ref 368] A (fun r A' => A = A' ∧ ∃ z : Int32, r = some (.int z) ∧ z = huN D ro) := hpC.all (fun f d => hW183 hK hg hO (fun r A' h => h))
def uM184 : Nat := 497323236409786642155382248146820840100456150797347722227112643354953717064084679032832
theorem huRa.over' {D : hg_D} {n k : Nat} {b : Bool} {s : Int32} {ro a a' : Nat → Int32} (w : ∀ j, j < 73 → a j = huRa D n b s ro k j) (hk : k = n) (h9 : n ≤ 10) (f70 : a' 70 = ro 70 + Int32.ofNat 1) (f71 : a' 71 = Int32.ofNat 4294967295) (o : ∀ j, j < 73 → ¬ j = 70 → ¬ j = 71 → a' j = a j) : ∀ j, j < 73 → a' j = huR D n b s ro j := by
  subst hk
  exact huRa.over w h9 f70 f71 o
theorem huRa_at_n {D : hg_D} {n k : Nat} {b : Bool} {s : Int32} {ro : Nat → Int32} (hk : k ≤ 10) : huRa D n b s ro k 70 = ro 70 := by
  unfold huRa
  rw [if_neg (by omega), if_neg (by omega), if_neg (by omega), if_neg (by omega)]
theorem hW184 {g d f : Nat} {A : hs_A} {sd : Nat} {D : hg_D} {ro : Nat → Int32} {n : Nat} {b : Bool} {s : Int32} (hK : hrK sd D A) (hHn : A.2.1 376 sd = Int32.ofNat n) (h10 : n ≤ 10) (hg : ∀ k, k < 73 → A.2.1 396 k = ro k) (hO : huO ro n) (hD : ∀ t, t < 24 → 0 ≤ D.1 t ∧ D.1 t ≤ 255) (hD2 : 0 ≤ D.2.1 ∧ D.2.1 ≤ 10000) (hs : A.1 367 47 = s) (hb : (A.1 367 48).toInt = if b then 0 else 1) (hH0 : uf_H A) {P : Option Value → hs_A → Prop} (hP : ∀ (r : Option Value) (A' : hs_A), (r = none ∧ ((∀ j, j < 73 → A'.2.1 396 j = huR D n b s ro j))) → P r A') : hpa (f, g) d none hm_t184 0 [.ref 368, .retAddr 0] [] A P := by
  have k0 := hk_0
  have k1 := hk_1
  have k16 := hk_16
  have k29 := hk_29
  have k30 := hk_30
  have k40 := hk_40
  have k4294967295 := hk_4294967295
  have k60 := hk_60
  have k70 := hk_70
  have k71 := hk_71
  have k72 := hk_72
  have k18 := hK.1
  have ksd := hK.2.1
  have cn := hn_c (n := n) (z := Int32.ofNat n) rfl (by omega)
  have U0 : uf_W uM184 A A := uf_W.rfl
  have L127 : ∀ (f : Nat) (x127_1 : Int32) (A127 : hs_A) (k : Nat) (bk : k ≤ n) (ek : x127_1 = Int32.ofNat k) (RA : ∀ j, j < 73 → A127.2.1 396 j = huRa D n b s ro k j) (T7m : ∀ j, j < n → A127.2.1 397 j = huHd D n ro j) (T8m : ∀ j, j < n → (A127.2.1 398 j).toInt = if huDy D n ro b s j then 1 else 0) (U127 : uf_W uM184 A A127) (H127 : uf_H A127), hpa (f, g) d none hm_t184 127 [.ref 368, .int x127_1] [] A127 P := by
    intro f
    induction f with
    | zero => intros; exact hpa.zero
    | succ f ih127 =>
      intro x127_1 A127 k bk ek RA T7m T8m U127 H127
      subst ek
      have ck := hn_c (n := k) (z := Int32.ofNat k) rfl (by omega)
      refine hpa_iload_nS (by rfl) rfl ?_
      refine hpa_aload_n (by rfl) rfl ?_
      refine hpa_get (v := .ref 377) (by rfl) (by rfl) (by rfl) rfl ?_
      refine hpa_aload_n (by rfl) rfl ?_
      refine hpj_getK (by rfl) (by rfl) (by rfl) rfl ?_
      have k18A127 : (A127.1 367 18).toInt = (sd : Int) := (congrArg Int32.toInt (U127.1 367 _ _ 18 rfl rfl (by decide +kernel))).trans hK.1
      refine hpx_iald (by rfl) (by rfl) (fun h0v1 h1v1 v1 ev1 => ?_)
      have hHnA127 : A127.2.1 376 sd = Int32.ofNat n := (U127.2.1 376 _ _ sd rfl (by have := hK.2.1; omega) (by decide +kernel)).trans hHn
      rw [show ((A127.1 367 18)).toNatClampNeg = sd from by have := hn_cn (j := (A127.1 367 18)) (by omega); omega, hHnA127] at ev1
      subst ev1
      refine hpj_cge (by rfl) ck cn (fun q2 => ?_) (fun q2 => ?_)
      ·
        refine hpa_aload_n (by rfl) rfl ?_
        refine hpa_get (v := .ref 397) (by rfl) (by rfl) (by rfl) rfl ?_
        refine hpa_bipush (by rfl) rfl ?_
        refine hpa_dup2IR (by rfl) ?_
        refine hpx_iald (by rfl) (by rfl) (fun h0v3 h1v3 v3 ev3 => ?_)
        rw [show ((Int32.ofNat 70)).toNatClampNeg = 70 from by have := hn_cn (j := (Int32.ofNat 70)) (by omega); omega] at ev3
        have lv3 := ev3.symm.trans (show _ = ro 70 from (RA 70 (by omega)).trans (huRa_at_n (by omega)))
        clear ev3
        subst lv3
        refine hpa_iconst (by rfl) rfl ?_
        refine hpa_iadd (by rfl) ?_
        refine hpx_iast (by rfl) (by rfl) (fun A4 h0A4 h1A4 eA4 fA4 gA4 => ?_)
        have UA4 := (U127).ar eA4 fA4 gA4 (by decide +kernel)
        have HA4 := (H127).e (congrArg (fun q => q.2) gA4)
        rw [show ((Int32.ofNat 70)).toNatClampNeg = 70 from by have := hn_cn (j := (Int32.ofNat 70)) (by omega); omega] at fA4
        refine hpa_aload_n (by rfl) rfl ?_
        refine hpa_get (v := .ref 397) (by rfl) (by rfl) (by rfl) rfl ?_
        refine hpa_bipush (by rfl) rfl ?_
        refine hpa_iconst (by rfl) rfl ?_
        refine hpx_iast (by rfl) (by rfl) (fun A5 h0A5 h1A5 eA5 fA5 gA5 => ?_)
        have UA5 := (UA4).ar eA5 fA5 gA5 (by decide +kernel)
        have HA5 := (HA4).e (congrArg (fun q => q.2) gA5)
        rw [show ((Int32.ofNat 71)).toNatClampNeg = 71 from by have := hn_cn (j := (Int32.ofNat 71)) (by omega); omega] at fA5
        exact hpa_return (by rfl) rfl (hP _ _ ⟨rfl, huRa.over' RA (by omega) h10 (a' := A5.2.1 396) (by rw [fA5, hup2 (by omega), fA4, hup1]) (by rw [fA5, hup1]) (fun j hj h0 h1 => by rw [fA5, hup2 (by omega), fA4, hup2 (by omega)])⟩)
      ·
        refine hpa_aload_n (by rfl) rfl ?_
        refine hpa_get (v := .ref 397) (by rfl) (by rfl) (by rfl) rfl ?_
        refine hpa_bipush (by rfl) rfl ?_
        refine hpa_iload_n (by rfl) rfl ?_
        refine hpj_iadd (by rfl) hk_30 ck (by omega) (by omega) (fun z6 ez6 => ?_)
        refine hpa_aload_n (by rfl) rfl ?_
        refine hpa_get (v := .ref 398) (by rfl) (by rfl) (by rfl) rfl ?_
        refine hpa_iload_n (by rfl) rfl ?_
        refine hpx_iald (by rfl) (by rfl) (fun h0v7 h1v7 v7 ev7 => ?_)
        rw [show ((Int32.ofNat k)).toNatClampNeg = k from by have := hn_cn (j := (Int32.ofNat k)) (by omega); omega] at ev7
        have lv7 := ev7.symm.trans (show _ = huHd D n ro k from T7m k (by omega))
        clear ev7
        subst lv7
        refine hpx_iast (by rfl) (by rfl) (fun A8 h0A8 h1A8 eA8 fA8 gA8 => ?_)
        have UA8 := (U127).ar eA8 fA8 gA8 (by decide +kernel)
        have HA8 := (H127).e (congrArg (fun q => q.2) gA8)
        rw [show (z6).toNatClampNeg = 30 + k from by have := hn_cn (j := z6) (by omega); omega] at fA8
        refine hpa_aload_n (by rfl) rfl ?_
        refine hpa_get (v := .ref 397) (by rfl) (by rfl) (by rfl) rfl ?_
        refine hpa_bipush (by rfl) rfl ?_
        refine hpa_iload_n (by rfl) rfl ?_
        refine hpj_iadd (by rfl) hk_40 ck (by omega) (by omega) (fun z9 ez9 => ?_)
        refine hpa_dup2IR (by rfl) ?_
        refine hpx_iald (by rfl) (by rfl) (fun h0v10 h1v10 v10 ev10 => ?_)
        rw [show (z9).toNatClampNeg = 40 + k from by have := hn_cn (j := z9) (by omega); omega] at ev10
        have lv10 := ev10.symm.trans (show _ = ro (40 + k) from (by rw [fA8, hup2 (by omega)]; exact (RA (40 + k) (by omega)).trans (huRa_at (by omega) (by omega))))
        clear ev10
        subst lv10
        refine hpa_aload_n (by rfl) rfl ?_
        refine hpa_get (v := .ref 398) (by rfl) (by rfl) (by rfl) rfl ?_
        refine hpa_iload_n (by rfl) rfl ?_
        refine hpx_iald (by rfl) (by rfl) (fun h0v11 h1v11 v11 ev11 => ?_)
        rw [show ((Int32.ofNat k)).toNatClampNeg = k from by have := hn_cn (j := (Int32.ofNat k)) (by omega); omega] at ev11
        have lv11 := ev11.symm.trans (show _ = huHd D n ro k from (by rw [fA8, hup2 (by omega)]; exact T7m k (by omega)))
        clear ev11
        subst lv11
        refine hpa_aload_n (by rfl) rfl ?_
        refine hpa_get (v := .ref 397) (by rfl) (by rfl) (by rfl) rfl ?_
        refine hpa_iload_n (by rfl) rfl ?_
        refine hpx_iald (by rfl) (by rfl) (fun h0v12 h1v12 v12 ev12 => ?_)
        rw [show ((Int32.ofNat k)).toNatClampNeg = k from by have := hn_cn (j := (Int32.ofNat k)) (by omega); omega] at ev12
        have lv12 := ev12.symm.trans (show _ = ro k from (by rw [fA8, hup2 (by omega)]; exact (RA (k) (by omega)).trans (huRa_at (by omega) (by omega))))
        clear ev12
        subst lv12
        refine hpa_iand (by rfl) ?_
        refine hpa_ior (by rfl) ?_
        refine hpx_iast (by rfl) (by rfl) (fun A13 h0A13 h1A13 eA13 fA13 gA13 => ?_)
        have UA13 := (UA8).ar eA13 fA13 gA13 (by decide +kernel)
        have HA13 := (HA8).e (congrArg (fun q => q.2) gA13)
        rw [show (z9).toNatClampNeg = 40 + k from by have := hn_cn (j := z9) (by omega); omega] at fA13
        refine hpa_aload_n (by rfl) rfl ?_
        refine hpa_get (v := .ref 397) (by rfl) (by rfl) (by rfl) rfl ?_
        refine hpa_bipush (by rfl) rfl ?_
        refine hpa_iload_n (by rfl) rfl ?_
        refine hpj_iadd (by rfl) hk_60 ck (by omega) (by omega) (fun z14 ez14 => ?_)
        refine hpx_iald (by rfl) (by rfl) (fun h0v15 h1v15 v15 ev15 => ?_)
        rw [show (z14).toNatClampNeg = 60 + k from by have := hn_cn (j := z14) (by omega); omega] at ev15
        have lv15 := ev15.symm.trans (show _ = ro (60 + k) from (by rw [fA13, hup2 (by omega), fA8, hup2 (by omega)]; exact (RA (60 + k) (by omega)).trans (huRa_at (by omega) (by omega))))
        clear ev15
        subst lv15
        refine hpj_zle (by rfl) rfl (fun q16 => ?_) (fun q16 => ?_)
        ·
          refine hpa_aload_n (by rfl) rfl ?_
          refine hpa_get (v := .ref 399) (by rfl) (by rfl) (by rfl) rfl ?_
          refine hpa_iload_n (by rfl) rfl ?_
          refine hpx_zald (by rfl) (by rfl) (fun h0v17 h1v17 v17 ev17 => ?_)
          have t8 : v17.toInt = if huDy D n ro b s k then 1 else 0 := by rw [← ev17, show ((Int32.ofNat k)).toNatClampNeg = k from by have := hn_cn (j := (Int32.ofNat k)) (by omega); omega, fA13, hup2 (by omega), fA8, hup2 (by omega)]; exact T8m k (by omega)
          refine hpj_zne (by rfl) rfl (fun q18 => ?_) (fun q18 => ?_)
          ·
            have dy0 : huDy D n ro b s k = true := by cases hdy : huDy D n ro b s k with | true => rfl | false => rw [hdy, if_neg (by decide)] at t8; exact absurd t8 q18
            refine hpa_aload_n (by rfl) rfl ?_
            refine hpa_get (v := .ref 397) (by rfl) (by rfl) (by rfl) rfl ?_
            refine hpa_bipush (by rfl) rfl ?_
            refine hpa_iload_n (by rfl) rfl ?_
            refine hpj_iadd (by rfl) hk_60 ck (by omega) (by omega) (fun z19 ez19 => ?_)
            refine hpa_aload_n (by rfl) rfl ?_
            refine hpa_get (v := .ref 382) (by rfl) (by rfl) (by rfl) rfl ?_
            refine hpa_aload_n (by rfl) rfl ?_
            refine hpj_getK (by rfl) (by rfl) (by rfl) (hkA eA13 (hkA eA8 rfl)) ?_
            have k18A13 : (A13.1 367 18).toInt = (sd : Int) := (congrArg Int32.toInt (UA13.1 367 _ _ 18 rfl rfl (by decide +kernel))).trans hK.1
            refine hpx_iald (by rfl) (by rfl) (fun h0v20 h1v20 v20 ev20 => ?_)
            have hKA13 : hrK sd D A13 := hK.uf UA13 (by decide +kernel)
            have g6 : A13.2.1 381 sd = Int32.ofInt D.2.1 := by obtain ⟨V, ns, bb, zz, k1, kM, k2⟩ := hKA13.2.2.2.2; exact Int32.toInt_inj.mp (kM.2.1.2.1.trans (hs_ofInt hD2.1 hD2.2).symm)
            rw [show ((A127.1 367 18)).toNatClampNeg = sd from by have := hn_cn (j := (A127.1 367 18)) (by omega); omega, g6] at ev20
            subst ev20
            refine hpx_iast (by rfl) (by rfl) (fun A21 h0A21 h1A21 eA21 fA21 gA21 => ?_)
            have UA21 := (UA13).ar eA21 fA21 gA21 (by decide +kernel)
            have HA21 := (HA13).e (congrArg (fun q => q.2) gA21)
            rw [show (z19).toNatClampNeg = 60 + k from by have := hn_cn (j := z19) (by omega); omega] at fA21
            refine hpa_aload_n (by rfl) rfl ?_
            refine hpa_get (v := .ref 397) (by rfl) (by rfl) (by rfl) rfl ?_
            refine hpa_bipush (by rfl) rfl ?_
            refine hpa_dup2IR (by rfl) ?_
            refine hpx_iald (by rfl) (by rfl) (fun h0v22 h1v22 v22 ev22 => ?_)
            rw [show ((Int32.ofNat 72)).toNatClampNeg = 72 from by have := hn_cn (j := (Int32.ofNat 72)) (by omega); omega] at ev22
            subst ev22
            refine hpa_iconst (by rfl) rfl ?_
            refine hpa_iadd (by rfl) ?_
            refine hpx_iast (by rfl) (by rfl) (fun A23 h0A23 h1A23 eA23 fA23 gA23 => ?_)
            have UA23 := (UA21).ar eA23 fA23 gA23 (by decide +kernel)
            have HA23 := (HA21).e (congrArg (fun q => q.2) gA23)
            rw [show ((Int32.ofNat 72)).toNatClampNeg = 72 from by have := hn_cn (j := (Int32.ofNat 72)) (by omega); omega] at fA23
            have RA2 := huRa.step (a' := A23.2.1 396) RA (by omega) (by rw [fA23, hup2 (by omega), fA21, hup2 (by omega), fA13, hup2 (by omega), fA8, hup1]) (by rw [fA23, hup2 (by omega), fA21, hup2 (by omega), fA13, hup1]) (by rw [fA23, hup2 (by omega), fA21, hup1]; unfold huGr; rw [if_neg (Int.not_lt.mpr q16), dy0, if_pos rfl]) (by rw [dy0, if_pos rfl, fA23, hup1, fA21, hup2 (by omega), fA13, hup2 (by omega), fA8, hup2 (by omega)]) (fun j hj h1 h2 h3 h4 => by rw [fA23, hup2 (by omega), fA21, hup2 (by omega), fA13, hup2 (by omega), fA8, hup2 (by omega)])
            refine hpj_iinc (by rfl) rfl ck hk_1 (by omega) (by omega) (fun _ => rfl) (fun z24 ez24 => ?_)
            refine hpa_goto (by rfl) ?_
            exact ih127 z24 A23 (k + 1) (by omega) (huI (by omega) (by omega)) RA2 (fun j hj => by rw [fA23, hup2 (by omega), fA21, hup2 (by omega), fA13, hup2 (by omega), fA8, hup2 (by omega)]; exact T7m j hj) (fun j hj => by rw [fA23, hup2 (by omega), fA21, hup2 (by omega), fA13, hup2 (by omega), fA8, hup2 (by omega)]; exact T8m j hj) UA23 HA23
          ·
            have dy0 : huDy D n ro b s k = false := by cases hdy : huDy D n ro b s k with | false => rfl | true => rw [hdy, if_pos rfl] at t8; exact absurd (q18.symm.trans t8) (by decide)
            refine hpa_goto (by rfl) ?_
            have RA2 := huRa.step (a' := A13.2.1 396) RA (by omega) (by rw [fA13, hup2 (by omega), fA8, hup1]) (by rw [fA13, hup1]) (by rw [fA13, hup2 (by omega), fA8, hup2 (by omega)]; refine ((RA (60 + k) (by omega)).trans (huRa_at (by omega) (by omega))).trans ?_; unfold huGr; rw [if_neg (Int.not_lt.mpr q16), dy0, if_neg (by decide)]) (by rw [dy0, if_neg (by decide), fA13, hup2 (by omega), fA8, hup2 (by omega)]) (fun j hj h1 h2 h3 h4 => by rw [fA13, hup2 (by omega), fA8, hup2 (by omega)])
            refine hpj_iinc (by rfl) rfl ck hk_1 (by omega) (by omega) (fun _ => rfl) (fun z25 ez25 => ?_)
            refine hpa_goto (by rfl) ?_
            exact ih127 z25 A13 (k + 1) (by omega) (huI (by omega) (by omega)) RA2 (fun j hj => by rw [fA13, hup2 (by omega), fA8, hup2 (by omega)]; exact T7m j hj) (fun j hj => by rw [fA13, hup2 (by omega), fA8, hup2 (by omega)]; exact T8m j hj) UA13 HA13
        ·
          refine hpa_aload_n (by rfl) rfl ?_
          refine hpa_get (v := .ref 397) (by rfl) (by rfl) (by rfl) rfl ?_
          refine hpa_bipush (by rfl) rfl ?_
          refine hpa_iload_n (by rfl) rfl ?_
          refine hpj_iadd (by rfl) hk_60 ck (by omega) (by omega) (fun z26 ez26 => ?_)
          refine hpa_dup2IR (by rfl) ?_
          refine hpx_iald (by rfl) (by rfl) (fun h0v27 h1v27 v27 ev27 => ?_)
          rw [show (z26).toNatClampNeg = 60 + k from by have := hn_cn (j := z26) (by omega); omega] at ev27
          have lv27 := ev27.symm.trans (show _ = ro (60 + k) from (by rw [fA13, hup2 (by omega), fA8, hup2 (by omega)]; exact (RA (60 + k) (by omega)).trans (huRa_at (by omega) (by omega))))
          clear ev27
          subst lv27
          refine hpa_iconst (by rfl) rfl ?_
          refine hpa_isub (by rfl) ?_
          refine hpx_iast (by rfl) (by rfl) (fun A28 h0A28 h1A28 eA28 fA28 gA28 => ?_)
          have UA28 := (UA13).ar eA28 fA28 gA28 (by decide +kernel)
          have HA28 := (HA13).e (congrArg (fun q => q.2) gA28)
          rw [show (z26).toNatClampNeg = 60 + k from by have := hn_cn (j := z26) (by omega); omega] at fA28
          refine hpa_aload_n (by rfl) rfl ?_
          refine hpa_get (v := .ref 399) (by rfl) (by rfl) (by rfl) rfl ?_
          refine hpa_iload_n (by rfl) rfl ?_
          refine hpx_zald (by rfl) (by rfl) (fun h0v29 h1v29 v29 ev29 => ?_)
          have t8 : v29.toInt = if huDy D n ro b s k then 1 else 0 := by rw [← ev29, show ((Int32.ofNat k)).toNatClampNeg = k from by have := hn_cn (j := (Int32.ofNat k)) (by omega); omega, fA28, hup2 (by omega), fA13, hup2 (by omega), fA8, hup2 (by omega)]; exact T8m k (by omega)
          refine hpj_zne (by rfl) rfl (fun q30 => ?_) (fun q30 => ?_)
          ·
            have dy0 : huDy D n ro b s k = true := by cases hdy : huDy D n ro b s k with | true => rfl | false => rw [hdy, if_neg (by decide)] at t8; exact absurd t8 q30
            refine hpa_aload_n (by rfl) rfl ?_
            refine hpa_get (v := .ref 397) (by rfl) (by rfl) (by rfl) rfl ?_
            refine hpa_bipush (by rfl) rfl ?_
            refine hpa_iload_n (by rfl) rfl ?_
            refine hpj_iadd (by rfl) hk_60 ck (by omega) (by omega) (fun z31 ez31 => ?_)
            refine hpa_aload_n (by rfl) rfl ?_
            refine hpa_get (v := .ref 382) (by rfl) (by rfl) (by rfl) rfl ?_
            refine hpa_aload_n (by rfl) rfl ?_
            refine hpj_getK (by rfl) (by rfl) (by rfl) (hkA eA28 (hkA eA13 (hkA eA8 rfl))) ?_
            have k18A28 : (A28.1 367 18).toInt = (sd : Int) := (congrArg Int32.toInt (UA28.1 367 _ _ 18 rfl rfl (by decide +kernel))).trans hK.1
            refine hpx_iald (by rfl) (by rfl) (fun h0v32 h1v32 v32 ev32 => ?_)
            have hKA28 : hrK sd D A28 := hK.uf UA28 (by decide +kernel)
            have g6 : A28.2.1 381 sd = Int32.ofInt D.2.1 := by obtain ⟨V, ns, bb, zz, k1, kM, k2⟩ := hKA28.2.2.2.2; exact Int32.toInt_inj.mp (kM.2.1.2.1.trans (hs_ofInt hD2.1 hD2.2).symm)
            rw [show ((A127.1 367 18)).toNatClampNeg = sd from by have := hn_cn (j := (A127.1 367 18)) (by omega); omega, g6] at ev32
            subst ev32
            refine hpx_iast (by rfl) (by rfl) (fun A33 h0A33 h1A33 eA33 fA33 gA33 => ?_)
            have UA33 := (UA28).ar eA33 fA33 gA33 (by decide +kernel)
            have HA33 := (HA28).e (congrArg (fun q => q.2) gA33)
            rw [show (z31).toNatClampNeg = 60 + k from by have := hn_cn (j := z31) (by omega); omega] at fA33
            refine hpa_aload_n (by rfl) rfl ?_
            refine hpa_get (v := .ref 397) (by rfl) (by rfl) (by rfl) rfl ?_
            refine hpa_bipush (by rfl) rfl ?_
            refine hpa_dup2IR (by rfl) ?_
            refine hpx_iald (by rfl) (by rfl) (fun h0v34 h1v34 v34 ev34 => ?_)
            rw [show ((Int32.ofNat 72)).toNatClampNeg = 72 from by have := hn_cn (j := (Int32.ofNat 72)) (by omega); omega] at ev34
            subst ev34
            refine hpa_iconst (by rfl) rfl ?_
            refine hpa_iadd (by rfl) ?_
            refine hpx_iast (by rfl) (by rfl) (fun A35 h0A35 h1A35 eA35 fA35 gA35 => ?_)
            have UA35 := (UA33).ar eA35 fA35 gA35 (by decide +kernel)
            have HA35 := (HA33).e (congrArg (fun q => q.2) gA35)
            rw [show ((Int32.ofNat 72)).toNatClampNeg = 72 from by have := hn_cn (j := (Int32.ofNat 72)) (by omega); omega] at fA35
            have RA2 := huRa.step (a' := A35.2.1 396) RA (by omega) (by rw [fA35, hup2 (by omega), fA33, hup2 (by omega), fA28, hup2 (by omega), fA13, hup2 (by omega), fA8, hup1]) (by rw [fA35, hup2 (by omega), fA33, hup2 (by omega), fA28, hup2 (by omega), fA13, hup1]) (by exfalso; unfold huDy at dy0; rw [decide_eq_false (show ¬ (ro (60 + k)).toInt = 0 by omega), Bool.false_and, Bool.and_false] at dy0; exact absurd dy0 (by decide)) (by rw [dy0, if_pos rfl, fA35, hup1, fA33, hup2 (by omega), fA28, hup2 (by omega), fA13, hup2 (by omega), fA8, hup2 (by omega)]) (fun j hj h1 h2 h3 h4 => by rw [fA35, hup2 (by omega), fA33, hup2 (by omega), fA28, hup2 (by omega), fA13, hup2 (by omega), fA8, hup2 (by omega)])
            refine hpj_iinc (by rfl) rfl ck hk_1 (by omega) (by omega) (fun _ => rfl) (fun z36 ez36 => ?_)
            refine hpa_goto (by rfl) ?_
            exact ih127 z36 A35 (k + 1) (by omega) (huI (by omega) (by omega)) RA2 (fun j hj => by rw [fA35, hup2 (by omega), fA33, hup2 (by omega), fA28, hup2 (by omega), fA13, hup2 (by omega), fA8, hup2 (by omega)]; exact T7m j hj) (fun j hj => by rw [fA35, hup2 (by omega), fA33, hup2 (by omega), fA28, hup2 (by omega), fA13, hup2 (by omega), fA8, hup2 (by omega)]; exact T8m j hj) UA35 HA35
          ·
            have dy0 : huDy D n ro b s k = false := by cases hdy : huDy D n ro b s k with | false => rfl | true => rw [hdy, if_pos rfl] at t8; exact absurd (q30.symm.trans t8) (by decide)
            refine hpa_goto (by rfl) ?_
            have RA2 := huRa.step (a' := A28.2.1 396) RA (by omega) (by rw [fA28, hup2 (by omega), fA13, hup2 (by omega), fA8, hup1]) (by rw [fA28, hup2 (by omega), fA13, hup1]) (by rw [fA28, hup1]; unfold huGr; rw [if_pos q16]) (by rw [dy0, if_neg (by decide), fA28, hup2 (by omega), fA13, hup2 (by omega), fA8, hup2 (by omega)]) (fun j hj h1 h2 h3 h4 => by rw [fA28, hup2 (by omega), fA13, hup2 (by omega), fA8, hup2 (by omega)])
            refine hpj_iinc (by rfl) rfl ck hk_1 (by omega) (by omega) (fun _ => rfl) (fun z37 ez37 => ?_)
            refine hpa_goto (by rfl) ?_
            exact ih127 z37 A28 (k + 1) (by omega) (huI (by omega) (by omega)) RA2 (fun j hj => by rw [fA28, hup2 (by omega), fA13, hup2 (by omega), fA8, hup2 (by omega)]; exact T7m j hj) (fun j hj => by rw [fA28, hup2 (by omega), fA13, hup2 (by omega), fA8, hup2 (by omega)]; exact T8m j hj) UA28 HA28
  have L2 : ∀ (f : Nat) (x2_1 : Int32) (A2 : hs_A) (k : Nat) (bk : k ≤ n) (ek : x2_1 = Int32.ofNat k) (hg2 : ∀ k, k < 73 → A2.2.1 396 k = ro k) (hT72 : ∀ j, j < k → A2.2.1 397 j = huHd D n ro j) (hT82 : ∀ j, j < k → (A2.2.1 398 j).toInt = if huDy D n ro b s j then 1 else 0) (U2 : uf_W uM184 A A2) (H2 : uf_H A2), hpa (f, g) d none hm_t184 2 [.ref 368, .int x2_1] [] A2 P := by
    intro f
    induction f with
    | zero => intros; exact hpa.zero
    | succ f ih2 =>
      intro x2_1 A2 k bk ek hg2 hT72 hT82 U2 H2
      subst ek
      have ck := hn_c (n := k) (z := Int32.ofNat k) rfl (by omega)
      refine hpa_iload_nS (by rfl) rfl ?_
      refine hpa_aload_n (by rfl) rfl ?_
      refine hpa_get (v := .ref 377) (by rfl) (by rfl) (by rfl) rfl ?_
      refine hpa_aload_n (by rfl) rfl ?_
      refine hpj_getK (by rfl) (by rfl) (by rfl) rfl ?_
      have k18A2 : (A2.1 367 18).toInt = (sd : Int) := (congrArg Int32.toInt (U2.1 367 _ _ 18 rfl rfl (by decide +kernel))).trans hK.1
      refine hpx_iald (by rfl) (by rfl) (fun h0v38 h1v38 v38 ev38 => ?_)
      have hHnA2 : A2.2.1 376 sd = Int32.ofNat n := (U2.2.1 376 _ _ sd rfl (by have := hK.2.1; omega) (by decide +kernel)).trans hHn
      rw [show ((A2.1 367 18)).toNatClampNeg = sd from by have := hn_cn (j := (A2.1 367 18)) (by omega); omega, hHnA2] at ev38
      subst ev38
      refine hpj_cge (by rfl) ck cn (fun q39 => ?_) (fun q39 => ?_)
      ·
        refine hpa_iconst (by rfl) rfl ?_
        refine hpa_s1 (by rfl) (Or.inl ⟨_, rfl, rfl⟩) rfl ?_
        exact L127 _ (Int32.ofNat 0) A2 0 (by omega) rfl (fun j hj => (hg2 j hj).trans (huRa_0 j hj).symm) (fun j hj => hT72 j (by omega)) (fun j hj => hT82 j (by omega)) U2 H2
      ·
        refine hpa_aload_n (by rfl) rfl ?_
        refine hpa_get (v := .ref 398) (by rfl) (by rfl) (by rfl) rfl ?_
        refine hpa_iload_n (by rfl) rfl ?_
        refine hpa_aload_n (by rfl) rfl ?_
        refine hpa_iload_n (by rfl) rfl ?_
        refine hpa_call0 (by rfl) (by rfl) (by rfl) (by rfl) (by rfl) (by rfl) (uf_C (X := ug_x118) (j := 118) rfl rfl (ug_L.cons (uf_rk_ok (by decide +kernel)) (uf_int uf_nil)) H2 (hP182 (Int32.ofNat k) hg2 (by omega) rfl)) ?_
        rintro _ _ ⟨⟨rfl, z41, rfl, (⟨fz_A40, HE_A40⟩ | ⟨fz_A40, HE_A40⟩)⟩, -, -⟩
        ·
          have hd0 : huHd D n ro k = if k = 0 then huN D ro else huW D (huX (Int32.ofNat n) ro (Int32.ofNat k) (ro 70)) (ro (29 + k)) := by unfold huHd; rw [HE_A40]; rfl
          refine hpj_zne (by rfl) rfl (fun q42 => ?_) (fun q42 => False.elim (by omega))
          refine hpa_iload_n (by rfl) rfl ?_
          refine hpj_zne (by rfl) ck (fun q43 => ?_) (fun q43 => ?_)
          ·
            rw [if_neg (by omega)] at hd0
            refine hpa_aload_n (by rfl) rfl ?_
            refine hpa_iload_n (by rfl) rfl ?_
            refine hpa_aload_n (by rfl) rfl ?_
            refine hpa_get (v := .ref 397) (by rfl) (by rfl) (by rfl) rfl ?_
            refine hpa_bipush (by rfl) rfl ?_
            refine hpa_iload_n (by rfl) rfl ?_
            refine hpj_iadd (by rfl) hk_29 ck (by omega) (by omega) (fun z44 ez44 => ?_)
            refine hpx_iald (by rfl) (by rfl) (fun h0v45 h1v45 v45 ev45 => ?_)
            rw [show (z44).toNatClampNeg = 29 + k from by have := hn_cn (j := z44) (by omega); omega] at ev45
            have lv45 := ev45.symm.trans (show _ = ro (29 + k) from hg2 (29 + k) (by omega))
            clear ev45
            subst lv45
            have h29 := (hO.1 (k - 1) (by omega)).2.2.1
            rw [show 30 + (k - 1) = 29 + k by omega] at h29
            refine hpa_aload_n (by rfl) rfl ?_
            refine hpa_get (v := .ref 397) (by rfl) (by rfl) (by rfl) rfl ?_
            refine hpa_bipush (by rfl) rfl ?_
            refine hpx_iald (by rfl) (by rfl) (fun h0v46 h1v46 v46 ev46 => ?_)
            rw [show ((Int32.ofNat 70)).toNatClampNeg = 70 from by have := hn_cn (j := (Int32.ofNat 70)) (by omega); omega] at ev46
            have lv46 := ev46.symm.trans (show _ = ro (70) from hg2 (70) (by omega))
            clear ev46
            subst lv46
            have hKA2 : hrK sd D A2 := hK.uf U2 (by decide +kernel)
            refine hpa_call0 (by rfl) (by rfl) (by rfl) (by rfl) (by rfl) (by rfl) (uf_C (X := ug_x200) (j := 200) rfl rfl (ug_L.cons (uf_rk_ok (by decide +kernel)) (uf_int (uf_int (uf_int uf_nil)))) H2 (hP181 (H := Int32.ofNat n) (Int32.ofNat k) (ro (29 + k)) (ro (70)) hKA2 hHnA2 hg2 (by omega) (by omega) (by omega) (by omega) H2)) ?_
            rintro _ A47 ⟨⟨z48, rfl, Z_A47⟩, wA47, HA47⟩
            have UA47 := (U2).trans (wA47.le (by decide +kernel : ug_wle ug_x200.2.2.2.1 uM184 = true))
            have hgA47 : ∀ k, k < 73 → A47.2.1 396 k = ro k := fun k hk => (wA47.2.1 396 _ _ k rfl hk (by decide +kernel)).trans (hg2 k hk)
            have hT7A47 : ∀ j, j < k → A47.2.1 397 j = huHd D n ro j := fun j hj => (wA47.2.1 397 _ _ j rfl (by omega) (by decide +kernel)).trans (hT72 j hj)
            have hT8A47 : ∀ j, j < k → (A47.2.1 398 j).toInt = if huDy D n ro b s j then 1 else 0 := fun j hj => (congrArg Int32.toInt (wA47.2.1 398 _ _ j rfl (by omega) (by decide +kernel))).trans (hT82 j hj)
            subst Z_A47
            refine hpx_iast (by rfl) (by rfl) (fun A49 h0A49 h1A49 eA49 fA49 gA49 => ?_)
            have UA49 := (UA47).ar eA49 fA49 gA49 (by decide +kernel)
            have HA49 := (HA47).e (congrArg (fun q => q.2) gA49)
            rw [show ((Int32.ofNat k)).toNatClampNeg = k from by have := hn_cn (j := (Int32.ofNat k)) (by omega); omega] at fA49
            have hgA49 : ∀ k, k < 73 → A49.2.1 396 k = ro k := fun k hk => by rw [fA49, hup2 (by omega)]; exact hgA47 k hk
            have hT7A49 : ∀ j, j < k → A49.2.1 397 j = huHd D n ro j := fun j hj => by rw [fA49, hup2 (by omega)]; exact hT7A47 j hj
            have hT8A49 : ∀ j, j < k → (A49.2.1 398 j).toInt = if huDy D n ro b s j then 1 else 0 := fun j hj => by rw [fA49, hup2 (by omega)]; exact hT8A47 j hj
            have hT7kA49 : A49.2.1 397 k = huHd D n ro k := by rw [fA49, hup1]; exact hd0.symm
            refine hpa_aload_n (by rfl) rfl ?_
            refine hpa_get (v := .ref 399) (by rfl) (by rfl) (by rfl) rfl ?_
            refine hpa_iload_n (by rfl) rfl ?_
            refine hpa_aload_n (by rfl) rfl ?_
            refine hpj_getK (by rfl) (by rfl) (by rfl) rfl ?_
            have hbA49 : (A49.1 367 48).toInt = if b then 0 else 1 := (congrArg Int32.toInt (UA49.1 367 _ _ 48 rfl rfl (by decide +kernel))).trans hb
            refine hpj_zne (by rfl) rfl (fun q50 => ?_) (fun q50 => ?_)
            ·
              have bf : b = false := by cases b with | false => rfl | true => rw [if_pos rfl] at hbA49; exact absurd hbA49 q50
              have dy0 : huDy D n ro b s k = false := by unfold huDy; rw [bf, Bool.false_and]
              refine hpa_iconst (by rfl) rfl ?_
              refine hpx_zast (by rfl) (by rfl) (by decide) (fun A51 h0A51 h1A51 eA51 fA51 gA51 => ?_)
              have UA51 := (UA49).ar eA51 fA51 gA51 (by decide +kernel)
              have HA51 := (HA49).e (congrArg (fun q => q.2) gA51)
              rw [show ((Int32.ofNat k)).toNatClampNeg = k from by have := hn_cn (j := (Int32.ofNat k)) (by omega); omega] at fA51
              have hgA51 : ∀ k, k < 73 → A51.2.1 396 k = ro k := fun k hk => by rw [fA51, hup2 (by omega)]; exact hgA49 k hk
              have T7nA51 : ∀ j, j < k + 1 → A51.2.1 397 j = huHd D n ro j := fun j hj => by rw [fA51, hup2 (by omega)]; by_cases c : j = k; (rw [c]; exact hT7kA49); exact hT7A49 j (by omega)
              have T8nA51 : ∀ j, j < k + 1 → (A51.2.1 398 j).toInt = if huDy D n ro b s j then 1 else 0 := fun j hj => by rw [fA51]; by_cases c : j = k; (rw [c, hup1, dy0]; exact hk_0); rw [hup2 (by omega)]; exact hT8A49 j (by omega)
              refine hpj_iinc (by rfl) rfl ck hk_1 (by omega) (by omega) (fun _ => rfl) (fun z52 ez52 => ?_)
              refine hpa_goto (by rfl) ?_
              exact ih2 z52 A51 (k + 1) (by omega) (huI (by omega) (by omega)) hgA51 T7nA51 T8nA51 UA51 HA51
            ·
              have bt : b = true := by cases b with | true => rfl | false => rw [if_neg (by decide)] at hbA49; exact absurd (q50.symm.trans hbA49) (by decide)
              refine hpa_aload_n (by rfl) rfl ?_
              refine hpa_get (v := .ref 397) (by rfl) (by rfl) (by rfl) rfl ?_
              refine hpa_bipush (by rfl) rfl ?_
              refine hpa_iload_n (by rfl) rfl ?_
              refine hpj_iadd (by rfl) hk_60 ck (by omega) (by omega) (fun z53 ez53 => ?_)
              refine hpx_iald (by rfl) (by rfl) (fun h0v54 h1v54 v54 ev54 => ?_)
              rw [show (z53).toNatClampNeg = 60 + k from by have := hn_cn (j := z53) (by omega); omega] at ev54
              have lv54 := ev54.symm.trans (show _ = ro (60 + k) from hgA49 (60 + k) (by omega))
              clear ev54
              subst lv54
              refine hpj_zne (by rfl) rfl (fun q55 => ?_) (fun q55 => ?_)
              ·
                have dy0 : huDy D n ro b s k = false := by unfold huDy; rw [decide_eq_false q55, Bool.false_and, Bool.and_false]
                refine hpa_iconst (by rfl) rfl ?_
                refine hpx_zast (by rfl) (by rfl) (by decide) (fun A56 h0A56 h1A56 eA56 fA56 gA56 => ?_)
                have UA56 := (UA49).ar eA56 fA56 gA56 (by decide +kernel)
                have HA56 := (HA49).e (congrArg (fun q => q.2) gA56)
                rw [show ((Int32.ofNat k)).toNatClampNeg = k from by have := hn_cn (j := (Int32.ofNat k)) (by omega); omega] at fA56
                have hgA56 : ∀ k, k < 73 → A56.2.1 396 k = ro k := fun k hk => by rw [fA56, hup2 (by omega)]; exact hgA49 k hk
                have T7nA56 : ∀ j, j < k + 1 → A56.2.1 397 j = huHd D n ro j := fun j hj => by rw [fA56, hup2 (by omega)]; by_cases c : j = k; (rw [c]; exact hT7kA49); exact hT7A49 j (by omega)
                have T8nA56 : ∀ j, j < k + 1 → (A56.2.1 398 j).toInt = if huDy D n ro b s j then 1 else 0 := fun j hj => by rw [fA56]; by_cases c : j = k; (rw [c, hup1, dy0]; exact hk_0); rw [hup2 (by omega)]; exact hT8A49 j (by omega)
                refine hpj_iinc (by rfl) rfl ck hk_1 (by omega) (by omega) (fun _ => rfl) (fun z57 ez57 => ?_)
                refine hpa_goto (by rfl) ?_
                exact ih2 z57 A56 (k + 1) (by omega) (huI (by omega) (by omega)) hgA56 T7nA56 T8nA56 UA56 HA56
              ·
                refine hpa_aload_n (by rfl) rfl ?_
                refine hpa_bipush (by rfl) rfl ?_
                refine hpa_aload_n (by rfl) rfl ?_
                refine hpa_get (v := .ref 397) (by rfl) (by rfl) (by rfl) rfl ?_
                refine hpa_bipush (by rfl) rfl ?_
                refine hpx_iald (by rfl) (by rfl) (fun h0v58 h1v58 v58 ev58 => ?_)
                rw [show ((Int32.ofNat 70)).toNatClampNeg = 70 from by have := hn_cn (j := (Int32.ofNat 70)) (by omega); omega] at ev58
                have lv58 := ev58.symm.trans (show _ = ro (70) from hgA49 (70) (by omega))
                clear ev58
                subst lv58
                refine hpa_imul (by rfl) ?_
                refine hpa_iload_n (by rfl) rfl ?_
                refine hpa_iadd (by rfl) ?_
                have hsA49 : A49.1 367 47 = s := (UA49.1 367 _ _ 47 rfl rfl (by decide +kernel)).trans hs
                refine hpa_call0 (by rfl) (by rfl) (by rfl) (by rfl) (by rfl) (by rfl) (uf_C (X := ug_x225) (j := 225) rfl rfl (ug_L.cons (uf_rk_ok (by decide +kernel)) (uf_int uf_nil)) HA49 (hP174 (((Int32.ofNat 16) * (ro (70))) + (Int32.ofNat k)) hsA49)) ?_
                rintro _ _ ⟨⟨rfl, z60, rfl, Z_A59⟩, -, -⟩
                subst Z_A59
                refine hpa_aload_n (by rfl) rfl ?_
                refine hpa_iload_n (by rfl) rfl ?_
                have hKA49 : hrK sd D A49 := hK.uf UA49 (by decide +kernel)
                have hHnA49 : A49.2.1 376 sd = Int32.ofNat n := (UA49.2.1 376 _ _ sd rfl (by have := hK.2.1; omega) (by decide +kernel)).trans hHn
                refine hpa_call0 (by rfl) (by rfl) (by rfl) (by rfl) (by rfl) (by rfl) (uf_C (X := ug_x206) (j := 206) rfl rfl (ug_L.cons (uf_rk_ok (by decide +kernel)) (uf_int uf_nil)) HA49 (hP180 (H := Int32.ofNat n) (Int32.ofNat k) hKA49 hHnA49 hgA49 (by omega) (by omega) HA49)) ?_
                rintro _ A61 ⟨⟨z62, rfl, Z_A61⟩, wA61, HA61⟩
                have UA61 := (UA49).trans (wA61.le (by decide +kernel : ug_wle ug_x206.2.2.2.1 uM184 = true))
                have hgA61 : ∀ k, k < 73 → A61.2.1 396 k = ro k := fun k hk => (wA61.2.1 396 _ _ k rfl hk (by decide +kernel)).trans (hgA49 k hk)
                have hT7A61 : ∀ j, j < k → A61.2.1 397 j = huHd D n ro j := fun j hj => (wA61.2.1 397 _ _ j rfl (by omega) (by decide +kernel)).trans (hT7A49 j hj)
                have hT8A61 : ∀ j, j < k → (A61.2.1 398 j).toInt = if huDy D n ro b s j then 1 else 0 := fun j hj => (congrArg Int32.toInt (wA61.2.1 398 _ _ j rfl (by omega) (by decide +kernel))).trans (hT8A49 j hj)
                have hT7kA61 : A61.2.1 397 k = huHd D n ro k := (wA61.2.1 397 _ _ k rfl (by omega) (by decide +kernel)).trans hT7kA49
                subst Z_A61
                refine hpj_cge (by rfl) rfl rfl (fun q63 => ?_) (fun q63 => ?_)
                ·
                  have dy0 : huDy D n ro b s k = false := by unfold huDy; rw [decide_eq_false (show ¬ (huLt s (Int32.ofNat 16 * ro 70 + Int32.ofNat k)).toInt < (huE D (huX (Int32.ofNat n) ro (Int32.ofNat k) (ro 70))).toInt from Int.not_lt.mpr q63), Bool.and_false, Bool.and_false]
                  refine hpa_iconst (by rfl) rfl ?_
                  refine hpx_zast (by rfl) (by rfl) (by decide) (fun A64 h0A64 h1A64 eA64 fA64 gA64 => ?_)
                  have UA64 := (UA61).ar eA64 fA64 gA64 (by decide +kernel)
                  have HA64 := (HA61).e (congrArg (fun q => q.2) gA64)
                  rw [show ((Int32.ofNat k)).toNatClampNeg = k from by have := hn_cn (j := (Int32.ofNat k)) (by omega); omega] at fA64
                  have hgA64 : ∀ k, k < 73 → A64.2.1 396 k = ro k := fun k hk => by rw [fA64, hup2 (by omega)]; exact hgA61 k hk
                  have T7nA64 : ∀ j, j < k + 1 → A64.2.1 397 j = huHd D n ro j := fun j hj => by rw [fA64, hup2 (by omega)]; by_cases c : j = k; (rw [c]; exact hT7kA61); exact hT7A61 j (by omega)
                  have T8nA64 : ∀ j, j < k + 1 → (A64.2.1 398 j).toInt = if huDy D n ro b s j then 1 else 0 := fun j hj => by rw [fA64]; by_cases c : j = k; (rw [c, hup1, dy0]; exact hk_0); rw [hup2 (by omega)]; exact hT8A61 j (by omega)
                  refine hpj_iinc (by rfl) rfl ck hk_1 (by omega) (by omega) (fun _ => rfl) (fun z65 ez65 => ?_)
                  refine hpa_goto (by rfl) ?_
                  exact ih2 z65 A64 (k + 1) (by omega) (huI (by omega) (by omega)) hgA64 T7nA64 T8nA64 UA64 HA64
                ·
                  have dy0 : huDy D n ro b s k = true := by unfold huDy; rw [bt, decide_eq_true q55, decide_eq_true q63]; rfl
                  refine hpa_iconst (by rfl) rfl ?_
                  refine hpa_goto (by rfl) ?_
                  refine hpx_zast (by rfl) (by rfl) (by decide) (fun A66 h0A66 h1A66 eA66 fA66 gA66 => ?_)
                  have UA66 := (UA61).ar eA66 fA66 gA66 (by decide +kernel)
                  have HA66 := (HA61).e (congrArg (fun q => q.2) gA66)
                  rw [show ((Int32.ofNat k)).toNatClampNeg = k from by have := hn_cn (j := (Int32.ofNat k)) (by omega); omega] at fA66
                  have hgA66 : ∀ k, k < 73 → A66.2.1 396 k = ro k := fun k hk => by rw [fA66, hup2 (by omega)]; exact hgA61 k hk
                  have T7nA66 : ∀ j, j < k + 1 → A66.2.1 397 j = huHd D n ro j := fun j hj => by rw [fA66, hup2 (by omega)]; by_cases c : j = k; (rw [c]; exact hT7kA61); exact hT7A61 j (by omega)
                  have T8nA66 : ∀ j, j < k + 1 → (A66.2.1 398 j).toInt = if huDy D n ro b s j then 1 else 0 := fun j hj => by rw [fA66]; by_cases c : j = k; (rw [c, hup1, dy0]; exact hk_1); rw [hup2 (by omega)]; exact hT8A61 j (by omega)
                  refine hpj_iinc (by rfl) rfl ck hk_1 (by omega) (by omega) (fun _ => rfl) (fun z67 ez67 => ?_)
                  refine hpa_goto (by rfl) ?_
                  exact ih2 z67 A66 (k + 1) (by omega) (huI (by omega) (by omega)) hgA66 T7nA66 T8nA66 UA66 HA66
          ·
            rw [if_pos (by omega)] at hd0
            refine hpa_aload_n (by rfl) rfl ?_
            have hKA2 : hrK sd D A2 := hK.uf U2 (by decide +kernel)
            refine hpa_call0 (by rfl) (by rfl) (by rfl) (by rfl) (by rfl) (by rfl) (uf_C (X := ug_x117) (j := 117) rfl rfl (ug_L.cons (uf_rk_ok (by decide +kernel)) uf_nil) H2 (hP183 hKA2 hg2 hO)) ?_
            rintro _ _ ⟨⟨rfl, z69, rfl, Z_A68⟩, -, -⟩
            subst Z_A68
            refine hpa_goto (by rfl) ?_
            refine hpx_iast (by rfl) (by rfl) (fun A70 h0A70 h1A70 eA70 fA70 gA70 => ?_)
            have UA70 := (U2).ar eA70 fA70 gA70 (by decide +kernel)
            have HA70 := (H2).e (congrArg (fun q => q.2) gA70)
            rw [show ((Int32.ofNat k)).toNatClampNeg = k from by have := hn_cn (j := (Int32.ofNat k)) (by omega); omega] at fA70
            have hgA70 : ∀ k, k < 73 → A70.2.1 396 k = ro k := fun k hk => by rw [fA70, hup2 (by omega)]; exact hg2 k hk
            have hT7A70 : ∀ j, j < k → A70.2.1 397 j = huHd D n ro j := fun j hj => by rw [fA70, hup2 (by omega)]; exact hT72 j hj
            have hT8A70 : ∀ j, j < k → (A70.2.1 398 j).toInt = if huDy D n ro b s j then 1 else 0 := fun j hj => by rw [fA70, hup2 (by omega)]; exact hT82 j hj
            have hT7kA70 : A70.2.1 397 k = huHd D n ro k := by rw [fA70, hup1]; exact hd0.symm
            refine hpa_aload_n (by rfl) rfl ?_
            refine hpa_get (v := .ref 399) (by rfl) (by rfl) (by rfl) rfl ?_
            refine hpa_iload_n (by rfl) rfl ?_
            refine hpa_aload_n (by rfl) rfl ?_
            refine hpj_getK (by rfl) (by rfl) (by rfl) rfl ?_
            have hbA70 : (A70.1 367 48).toInt = if b then 0 else 1 := (congrArg Int32.toInt (UA70.1 367 _ _ 48 rfl rfl (by decide +kernel))).trans hb
            refine hpj_zne (by rfl) rfl (fun q71 => ?_) (fun q71 => ?_)
            ·
              have bf : b = false := by cases b with | false => rfl | true => rw [if_pos rfl] at hbA70; exact absurd hbA70 q71
              have dy0 : huDy D n ro b s k = false := by unfold huDy; rw [bf, Bool.false_and]
              refine hpa_iconst (by rfl) rfl ?_
              refine hpx_zast (by rfl) (by rfl) (by decide) (fun A72 h0A72 h1A72 eA72 fA72 gA72 => ?_)
              have UA72 := (UA70).ar eA72 fA72 gA72 (by decide +kernel)
              have HA72 := (HA70).e (congrArg (fun q => q.2) gA72)
              rw [show ((Int32.ofNat k)).toNatClampNeg = k from by have := hn_cn (j := (Int32.ofNat k)) (by omega); omega] at fA72
              have hgA72 : ∀ k, k < 73 → A72.2.1 396 k = ro k := fun k hk => by rw [fA72, hup2 (by omega)]; exact hgA70 k hk
              have T7nA72 : ∀ j, j < k + 1 → A72.2.1 397 j = huHd D n ro j := fun j hj => by rw [fA72, hup2 (by omega)]; by_cases c : j = k; (rw [c]; exact hT7kA70); exact hT7A70 j (by omega)
              have T8nA72 : ∀ j, j < k + 1 → (A72.2.1 398 j).toInt = if huDy D n ro b s j then 1 else 0 := fun j hj => by rw [fA72]; by_cases c : j = k; (rw [c, hup1, dy0]; exact hk_0); rw [hup2 (by omega)]; exact hT8A70 j (by omega)
              refine hpj_iinc (by rfl) rfl ck hk_1 (by omega) (by omega) (fun _ => rfl) (fun z73 ez73 => ?_)
              refine hpa_goto (by rfl) ?_
              exact ih2 z73 A72 (k + 1) (by omega) (huI (by omega) (by omega)) hgA72 T7nA72 T8nA72 UA72 HA72
            ·
              have bt : b = true := by cases b with | true => rfl | false => rw [if_neg (by decide)] at hbA70; exact absurd (q71.symm.trans hbA70) (by decide)
              refine hpa_aload_n (by rfl) rfl ?_
              refine hpa_get (v := .ref 397) (by rfl) (by rfl) (by rfl) rfl ?_
              refine hpa_bipush (by rfl) rfl ?_
              refine hpa_iload_n (by rfl) rfl ?_
              refine hpj_iadd (by rfl) hk_60 ck (by omega) (by omega) (fun z74 ez74 => ?_)
              refine hpx_iald (by rfl) (by rfl) (fun h0v75 h1v75 v75 ev75 => ?_)
              rw [show (z74).toNatClampNeg = 60 + k from by have := hn_cn (j := z74) (by omega); omega] at ev75
              have lv75 := ev75.symm.trans (show _ = ro (60 + k) from hgA70 (60 + k) (by omega))
              clear ev75
              subst lv75
              refine hpj_zne (by rfl) rfl (fun q76 => ?_) (fun q76 => ?_)
              ·
                have dy0 : huDy D n ro b s k = false := by unfold huDy; rw [decide_eq_false q76, Bool.false_and, Bool.and_false]
                refine hpa_iconst (by rfl) rfl ?_
                refine hpx_zast (by rfl) (by rfl) (by decide) (fun A77 h0A77 h1A77 eA77 fA77 gA77 => ?_)
                have UA77 := (UA70).ar eA77 fA77 gA77 (by decide +kernel)
                have HA77 := (HA70).e (congrArg (fun q => q.2) gA77)
                rw [show ((Int32.ofNat k)).toNatClampNeg = k from by have := hn_cn (j := (Int32.ofNat k)) (by omega); omega] at fA77
                have hgA77 : ∀ k, k < 73 → A77.2.1 396 k = ro k := fun k hk => by rw [fA77, hup2 (by omega)]; exact hgA70 k hk
                have T7nA77 : ∀ j, j < k + 1 → A77.2.1 397 j = huHd D n ro j := fun j hj => by rw [fA77, hup2 (by omega)]; by_cases c : j = k; (rw [c]; exact hT7kA70); exact hT7A70 j (by omega)
                have T8nA77 : ∀ j, j < k + 1 → (A77.2.1 398 j).toInt = if huDy D n ro b s j then 1 else 0 := fun j hj => by rw [fA77]; by_cases c : j = k; (rw [c, hup1, dy0]; exact hk_0); rw [hup2 (by omega)]; exact hT8A70 j (by omega)
                refine hpj_iinc (by rfl) rfl ck hk_1 (by omega) (by omega) (fun _ => rfl) (fun z78 ez78 => ?_)
                refine hpa_goto (by rfl) ?_
                exact ih2 z78 A77 (k + 1) (by omega) (huI (by omega) (by omega)) hgA77 T7nA77 T8nA77 UA77 HA77
              ·
                refine hpa_aload_n (by rfl) rfl ?_
                refine hpa_bipush (by rfl) rfl ?_
                refine hpa_aload_n (by rfl) rfl ?_
                refine hpa_get (v := .ref 397) (by rfl) (by rfl) (by rfl) rfl ?_
                refine hpa_bipush (by rfl) rfl ?_
                refine hpx_iald (by rfl) (by rfl) (fun h0v79 h1v79 v79 ev79 => ?_)
                rw [show ((Int32.ofNat 70)).toNatClampNeg = 70 from by have := hn_cn (j := (Int32.ofNat 70)) (by omega); omega] at ev79
                have lv79 := ev79.symm.trans (show _ = ro (70) from hgA70 (70) (by omega))
                clear ev79
                subst lv79
                refine hpa_imul (by rfl) ?_
                refine hpa_iload_n (by rfl) rfl ?_
                refine hpa_iadd (by rfl) ?_
                have hsA70 : A70.1 367 47 = s := (UA70.1 367 _ _ 47 rfl rfl (by decide +kernel)).trans hs
                refine hpa_call0 (by rfl) (by rfl) (by rfl) (by rfl) (by rfl) (by rfl) (uf_C (X := ug_x225) (j := 225) rfl rfl (ug_L.cons (uf_rk_ok (by decide +kernel)) (uf_int uf_nil)) HA70 (hP174 (((Int32.ofNat 16) * (ro (70))) + (Int32.ofNat k)) hsA70)) ?_
                rintro _ _ ⟨⟨rfl, z81, rfl, Z_A80⟩, -, -⟩
                subst Z_A80
                refine hpa_aload_n (by rfl) rfl ?_
                refine hpa_iload_n (by rfl) rfl ?_
                have hKA70 : hrK sd D A70 := hK.uf UA70 (by decide +kernel)
                have hHnA70 : A70.2.1 376 sd = Int32.ofNat n := (UA70.2.1 376 _ _ sd rfl (by have := hK.2.1; omega) (by decide +kernel)).trans hHn
                refine hpa_call0 (by rfl) (by rfl) (by rfl) (by rfl) (by rfl) (by rfl) (uf_C (X := ug_x206) (j := 206) rfl rfl (ug_L.cons (uf_rk_ok (by decide +kernel)) (uf_int uf_nil)) HA70 (hP180 (H := Int32.ofNat n) (Int32.ofNat k) hKA70 hHnA70 hgA70 (by omega) (by omega) HA70)) ?_
                rintro _ A82 ⟨⟨z83, rfl, Z_A82⟩, wA82, HA82⟩
                have UA82 := (UA70).trans (wA82.le (by decide +kernel : ug_wle ug_x206.2.2.2.1 uM184 = true))
                have hgA82 : ∀ k, k < 73 → A82.2.1 396 k = ro k := fun k hk => (wA82.2.1 396 _ _ k rfl hk (by decide +kernel)).trans (hgA70 k hk)
                have hT7A82 : ∀ j, j < k → A82.2.1 397 j = huHd D n ro j := fun j hj => (wA82.2.1 397 _ _ j rfl (by omega) (by decide +kernel)).trans (hT7A70 j hj)
                have hT8A82 : ∀ j, j < k → (A82.2.1 398 j).toInt = if huDy D n ro b s j then 1 else 0 := fun j hj => (congrArg Int32.toInt (wA82.2.1 398 _ _ j rfl (by omega) (by decide +kernel))).trans (hT8A70 j hj)
                have hT7kA82 : A82.2.1 397 k = huHd D n ro k := (wA82.2.1 397 _ _ k rfl (by omega) (by decide +kernel)).trans hT7kA70
                subst Z_A82
                refine hpj_cge (by rfl) rfl rfl (fun q84 => ?_) (fun q84 => ?_)
                ·
                  have dy0 : huDy D n ro b s k = false := by unfold huDy; rw [decide_eq_false (show ¬ (huLt s (Int32.ofNat 16 * ro 70 + Int32.ofNat k)).toInt < (huE D (huX (Int32.ofNat n) ro (Int32.ofNat k) (ro 70))).toInt from Int.not_lt.mpr q84), Bool.and_false, Bool.and_false]
                  refine hpa_iconst (by rfl) rfl ?_
                  refine hpx_zast (by rfl) (by rfl) (by decide) (fun A85 h0A85 h1A85 eA85 fA85 gA85 => ?_)
                  have UA85 := (UA82).ar eA85 fA85 gA85 (by decide +kernel)
                  have HA85 := (HA82).e (congrArg (fun q => q.2) gA85)
                  rw [show ((Int32.ofNat k)).toNatClampNeg = k from by have := hn_cn (j := (Int32.ofNat k)) (by omega); omega] at fA85
                  have hgA85 : ∀ k, k < 73 → A85.2.1 396 k = ro k := fun k hk => by rw [fA85, hup2 (by omega)]; exact hgA82 k hk
                  have T7nA85 : ∀ j, j < k + 1 → A85.2.1 397 j = huHd D n ro j := fun j hj => by rw [fA85, hup2 (by omega)]; by_cases c : j = k; (rw [c]; exact hT7kA82); exact hT7A82 j (by omega)
                  have T8nA85 : ∀ j, j < k + 1 → (A85.2.1 398 j).toInt = if huDy D n ro b s j then 1 else 0 := fun j hj => by rw [fA85]; by_cases c : j = k; (rw [c, hup1, dy0]; exact hk_0); rw [hup2 (by omega)]; exact hT8A82 j (by omega)
                  refine hpj_iinc (by rfl) rfl ck hk_1 (by omega) (by omega) (fun _ => rfl) (fun z86 ez86 => ?_)
                  refine hpa_goto (by rfl) ?_
                  exact ih2 z86 A85 (k + 1) (by omega) (huI (by omega) (by omega)) hgA85 T7nA85 T8nA85 UA85 HA85
                ·
                  have dy0 : huDy D n ro b s k = true := by unfold huDy; rw [bt, decide_eq_true q76, decide_eq_true q84]; rfl
                  refine hpa_iconst (by rfl) rfl ?_
                  refine hpa_goto (by rfl) ?_
                  refine hpx_zast (by rfl) (by rfl) (by decide) (fun A87 h0A87 h1A87 eA87 fA87 gA87 => ?_)
                  have UA87 := (UA82).ar eA87 fA87 gA87 (by decide +kernel)
                  have HA87 := (HA82).e (congrArg (fun q => q.2) gA87)
                  rw [show ((Int32.ofNat k)).toNatClampNeg = k from by have := hn_cn (j := (Int32.ofNat k)) (by omega); omega] at fA87
                  have hgA87 : ∀ k, k < 73 → A87.2.1 396 k = ro k := fun k hk => by rw [fA87, hup2 (by omega)]; exact hgA82 k hk
                  have T7nA87 : ∀ j, j < k + 1 → A87.2.1 397 j = huHd D n ro j := fun j hj => by rw [fA87, hup2 (by omega)]; by_cases c : j = k; (rw [c]; exact hT7kA82); exact hT7A82 j (by omega)
                  have T8nA87 : ∀ j, j < k + 1 → (A87.2.1 398 j).toInt = if huDy D n ro b s j then 1 else 0 := fun j hj => by rw [fA87]; by_cases c : j = k; (rw [c, hup1, dy0]; exact hk_1); rw [hup2 (by omega)]; exact hT8A82 j (by omega)
                  refine hpj_iinc (by rfl) rfl ck hk_1 (by omega) (by omega) (fun _ => rfl) (fun z88 ez88 => ?_)
                  refine hpa_goto (by rfl) ?_
                  exact ih2 z88 A87 (k + 1) (by omega) (huI (by omega) (by omega)) hgA87 T7nA87 T8nA87 UA87 HA87
        ·
          have hd0 : huHd D n ro k = Int32.ofNat 0 := by unfold huHd; rw [HE_A40]; rfl
          refine hpj_zne (by rfl) rfl (fun q89 => False.elim (by omega)) (fun q89 => ?_)
          refine hpa_iconst (by rfl) rfl ?_
          refine hpa_goto (by rfl) ?_
          refine hpx_iast (by rfl) (by rfl) (fun A90 h0A90 h1A90 eA90 fA90 gA90 => ?_)
          have UA90 := (U2).ar eA90 fA90 gA90 (by decide +kernel)
          have HA90 := (H2).e (congrArg (fun q => q.2) gA90)
          rw [show ((Int32.ofNat k)).toNatClampNeg = k from by have := hn_cn (j := (Int32.ofNat k)) (by omega); omega] at fA90
          have hgA90 : ∀ k, k < 73 → A90.2.1 396 k = ro k := fun k hk => by rw [fA90, hup2 (by omega)]; exact hg2 k hk
          have hT7A90 : ∀ j, j < k → A90.2.1 397 j = huHd D n ro j := fun j hj => by rw [fA90, hup2 (by omega)]; exact hT72 j hj
          have hT8A90 : ∀ j, j < k → (A90.2.1 398 j).toInt = if huDy D n ro b s j then 1 else 0 := fun j hj => by rw [fA90, hup2 (by omega)]; exact hT82 j hj
          have hT7kA90 : A90.2.1 397 k = huHd D n ro k := by rw [fA90, hup1]; exact hd0.symm
          refine hpa_aload_n (by rfl) rfl ?_
          refine hpa_get (v := .ref 399) (by rfl) (by rfl) (by rfl) rfl ?_
          refine hpa_iload_n (by rfl) rfl ?_
          refine hpa_aload_n (by rfl) rfl ?_
          refine hpj_getK (by rfl) (by rfl) (by rfl) rfl ?_
          have hbA90 : (A90.1 367 48).toInt = if b then 0 else 1 := (congrArg Int32.toInt (UA90.1 367 _ _ 48 rfl rfl (by decide +kernel))).trans hb
          refine hpj_zne (by rfl) rfl (fun q91 => ?_) (fun q91 => ?_)
          ·
            have bf : b = false := by cases b with | false => rfl | true => rw [if_pos rfl] at hbA90; exact absurd hbA90 q91
            have dy0 : huDy D n ro b s k = false := by unfold huDy; rw [bf, Bool.false_and]
            refine hpa_iconst (by rfl) rfl ?_
            refine hpx_zast (by rfl) (by rfl) (by decide) (fun A92 h0A92 h1A92 eA92 fA92 gA92 => ?_)
            have UA92 := (UA90).ar eA92 fA92 gA92 (by decide +kernel)
            have HA92 := (HA90).e (congrArg (fun q => q.2) gA92)
            rw [show ((Int32.ofNat k)).toNatClampNeg = k from by have := hn_cn (j := (Int32.ofNat k)) (by omega); omega] at fA92
            have hgA92 : ∀ k, k < 73 → A92.2.1 396 k = ro k := fun k hk => by rw [fA92, hup2 (by omega)]; exact hgA90 k hk
            have T7nA92 : ∀ j, j < k + 1 → A92.2.1 397 j = huHd D n ro j := fun j hj => by rw [fA92, hup2 (by omega)]; by_cases c : j = k; (rw [c]; exact hT7kA90); exact hT7A90 j (by omega)
            have T8nA92 : ∀ j, j < k + 1 → (A92.2.1 398 j).toInt = if huDy D n ro b s j then 1 else 0 := fun j hj => by rw [fA92]; by_cases c : j = k; (rw [c, hup1, dy0]; exact hk_0); rw [hup2 (by omega)]; exact hT8A90 j (by omega)
            refine hpj_iinc (by rfl) rfl ck hk_1 (by omega) (by omega) (fun _ => rfl) (fun z93 ez93 => ?_)
            refine hpa_goto (by rfl) ?_
            exact ih2 z93 A92 (k + 1) (by omega) (huI (by omega) (by omega)) hgA92 T7nA92 T8nA92 UA92 HA92
          ·
            have bt : b = true := by cases b with | true => rfl | false => rw [if_neg (by decide)] at hbA90; exact absurd (q91.symm.trans hbA90) (by decide)
            refine hpa_aload_n (by rfl) rfl ?_
            refine hpa_get (v := .ref 397) (by rfl) (by rfl) (by rfl) rfl ?_
            refine hpa_bipush (by rfl) rfl ?_
            refine hpa_iload_n (by rfl) rfl ?_
            refine hpj_iadd (by rfl) hk_60 ck (by omega) (by omega) (fun z94 ez94 => ?_)
            refine hpx_iald (by rfl) (by rfl) (fun h0v95 h1v95 v95 ev95 => ?_)
            rw [show (z94).toNatClampNeg = 60 + k from by have := hn_cn (j := z94) (by omega); omega] at ev95
            have lv95 := ev95.symm.trans (show _ = ro (60 + k) from hgA90 (60 + k) (by omega))
            clear ev95
            subst lv95
            refine hpj_zne (by rfl) rfl (fun q96 => ?_) (fun q96 => ?_)
            ·
              have dy0 : huDy D n ro b s k = false := by unfold huDy; rw [decide_eq_false q96, Bool.false_and, Bool.and_false]
              refine hpa_iconst (by rfl) rfl ?_
              refine hpx_zast (by rfl) (by rfl) (by decide) (fun A97 h0A97 h1A97 eA97 fA97 gA97 => ?_)
              have UA97 := (UA90).ar eA97 fA97 gA97 (by decide +kernel)
              have HA97 := (HA90).e (congrArg (fun q => q.2) gA97)
              rw [show ((Int32.ofNat k)).toNatClampNeg = k from by have := hn_cn (j := (Int32.ofNat k)) (by omega); omega] at fA97
              have hgA97 : ∀ k, k < 73 → A97.2.1 396 k = ro k := fun k hk => by rw [fA97, hup2 (by omega)]; exact hgA90 k hk
              have T7nA97 : ∀ j, j < k + 1 → A97.2.1 397 j = huHd D n ro j := fun j hj => by rw [fA97, hup2 (by omega)]; by_cases c : j = k; (rw [c]; exact hT7kA90); exact hT7A90 j (by omega)
              have T8nA97 : ∀ j, j < k + 1 → (A97.2.1 398 j).toInt = if huDy D n ro b s j then 1 else 0 := fun j hj => by rw [fA97]; by_cases c : j = k; (rw [c, hup1, dy0]; exact hk_0); rw [hup2 (by omega)]; exact hT8A90 j (by omega)
              refine hpj_iinc (by rfl) rfl ck hk_1 (by omega) (by omega) (fun _ => rfl) (fun z98 ez98 => ?_)
              refine hpa_goto (by rfl) ?_
              exact ih2 z98 A97 (k + 1) (by omega) (huI (by omega) (by omega)) hgA97 T7nA97 T8nA97 UA97 HA97
            ·
              refine hpa_aload_n (by rfl) rfl ?_
              refine hpa_bipush (by rfl) rfl ?_
              refine hpa_aload_n (by rfl) rfl ?_
              refine hpa_get (v := .ref 397) (by rfl) (by rfl) (by rfl) rfl ?_
              refine hpa_bipush (by rfl) rfl ?_
              refine hpx_iald (by rfl) (by rfl) (fun h0v99 h1v99 v99 ev99 => ?_)
              rw [show ((Int32.ofNat 70)).toNatClampNeg = 70 from by have := hn_cn (j := (Int32.ofNat 70)) (by omega); omega] at ev99
              have lv99 := ev99.symm.trans (show _ = ro (70) from hgA90 (70) (by omega))
              clear ev99
              subst lv99
              refine hpa_imul (by rfl) ?_
              refine hpa_iload_n (by rfl) rfl ?_
              refine hpa_iadd (by rfl) ?_
              have hsA90 : A90.1 367 47 = s := (UA90.1 367 _ _ 47 rfl rfl (by decide +kernel)).trans hs
              refine hpa_call0 (by rfl) (by rfl) (by rfl) (by rfl) (by rfl) (by rfl) (uf_C (X := ug_x225) (j := 225) rfl rfl (ug_L.cons (uf_rk_ok (by decide +kernel)) (uf_int uf_nil)) HA90 (hP174 (((Int32.ofNat 16) * (ro (70))) + (Int32.ofNat k)) hsA90)) ?_
              rintro _ _ ⟨⟨rfl, z101, rfl, Z_A100⟩, -, -⟩
              subst Z_A100
              refine hpa_aload_n (by rfl) rfl ?_
              refine hpa_iload_n (by rfl) rfl ?_
              have hKA90 : hrK sd D A90 := hK.uf UA90 (by decide +kernel)
              have hHnA90 : A90.2.1 376 sd = Int32.ofNat n := (UA90.2.1 376 _ _ sd rfl (by have := hK.2.1; omega) (by decide +kernel)).trans hHn
              refine hpa_call0 (by rfl) (by rfl) (by rfl) (by rfl) (by rfl) (by rfl) (uf_C (X := ug_x206) (j := 206) rfl rfl (ug_L.cons (uf_rk_ok (by decide +kernel)) (uf_int uf_nil)) HA90 (hP180 (H := Int32.ofNat n) (Int32.ofNat k) hKA90 hHnA90 hgA90 (by omega) (by omega) HA90)) ?_
              rintro _ A102 ⟨⟨z103, rfl, Z_A102⟩, wA102, HA102⟩
              have UA102 := (UA90).trans (wA102.le (by decide +kernel : ug_wle ug_x206.2.2.2.1 uM184 = true))
              have hgA102 : ∀ k, k < 73 → A102.2.1 396 k = ro k := fun k hk => (wA102.2.1 396 _ _ k rfl hk (by decide +kernel)).trans (hgA90 k hk)
              have hT7A102 : ∀ j, j < k → A102.2.1 397 j = huHd D n ro j := fun j hj => (wA102.2.1 397 _ _ j rfl (by omega) (by decide +kernel)).trans (hT7A90 j hj)
              have hT8A102 : ∀ j, j < k → (A102.2.1 398 j).toInt = if huDy D n ro b s j then 1 else 0 := fun j hj => (congrArg Int32.toInt (wA102.2.1 398 _ _ j rfl (by omega) (by decide +kernel))).trans (hT8A90 j hj)
              have hT7kA102 : A102.2.1 397 k = huHd D n ro k := (wA102.2.1 397 _ _ k rfl (by omega) (by decide +kernel)).trans hT7kA90
              subst Z_A102
              refine hpj_cge (by rfl) rfl rfl (fun q104 => ?_) (fun q104 => ?_)
              ·
                have dy0 : huDy D n ro b s k = false := by unfold huDy; rw [decide_eq_false (show ¬ (huLt s (Int32.ofNat 16 * ro 70 + Int32.ofNat k)).toInt < (huE D (huX (Int32.ofNat n) ro (Int32.ofNat k) (ro 70))).toInt from Int.not_lt.mpr q104), Bool.and_false, Bool.and_false]
                refine hpa_iconst (by rfl) rfl ?_
                refine hpx_zast (by rfl) (by rfl) (by decide) (fun A105 h0A105 h1A105 eA105 fA105 gA105 => ?_)
                have UA105 := (UA102).ar eA105 fA105 gA105 (by decide +kernel)
                have HA105 := (HA102).e (congrArg (fun q => q.2) gA105)
                rw [show ((Int32.ofNat k)).toNatClampNeg = k from by have := hn_cn (j := (Int32.ofNat k)) (by omega); omega] at fA105
                have hgA105 : ∀ k, k < 73 → A105.2.1 396 k = ro k := fun k hk => by rw [fA105, hup2 (by omega)]; exact hgA102 k hk
                have T7nA105 : ∀ j, j < k + 1 → A105.2.1 397 j = huHd D n ro j := fun j hj => by rw [fA105, hup2 (by omega)]; by_cases c : j = k; (rw [c]; exact hT7kA102); exact hT7A102 j (by omega)
                have T8nA105 : ∀ j, j < k + 1 → (A105.2.1 398 j).toInt = if huDy D n ro b s j then 1 else 0 := fun j hj => by rw [fA105]; by_cases c : j = k; (rw [c, hup1, dy0]; exact hk_0); rw [hup2 (by omega)]; exact hT8A102 j (by omega)
                refine hpj_iinc (by rfl) rfl ck hk_1 (by omega) (by omega) (fun _ => rfl) (fun z106 ez106 => ?_)
                refine hpa_goto (by rfl) ?_
                exact ih2 z106 A105 (k + 1) (by omega) (huI (by omega) (by omega)) hgA105 T7nA105 T8nA105 UA105 HA105
              ·
                have dy0 : huDy D n ro b s k = true := by unfold huDy; rw [bt, decide_eq_true q96, decide_eq_true q104]; rfl
                refine hpa_iconst (by rfl) rfl ?_
                refine hpa_goto (by rfl) ?_
                refine hpx_zast (by rfl) (by rfl) (by decide) (fun A107 h0A107 h1A107 eA107 fA107 gA107 => ?_)
                have UA107 := (UA102).ar eA107 fA107 gA107 (by decide +kernel)
                have HA107 := (HA102).e (congrArg (fun q => q.2) gA107)
                rw [show ((Int32.ofNat k)).toNatClampNeg = k from by have := hn_cn (j := (Int32.ofNat k)) (by omega); omega] at fA107
                have hgA107 : ∀ k, k < 73 → A107.2.1 396 k = ro k := fun k hk => by rw [fA107, hup2 (by omega)]; exact hgA102 k hk
                have T7nA107 : ∀ j, j < k + 1 → A107.2.1 397 j = huHd D n ro j := fun j hj => by rw [fA107, hup2 (by omega)]; by_cases c : j = k; (rw [c]; exact hT7kA102); exact hT7A102 j (by omega)
                have T8nA107 : ∀ j, j < k + 1 → (A107.2.1 398 j).toInt = if huDy D n ro b s j then 1 else 0 := fun j hj => by rw [fA107]; by_cases c : j = k; (rw [c, hup1, dy0]; exact hk_1); rw [hup2 (by omega)]; exact hT8A102 j (by omega)
                refine hpj_iinc (by rfl) rfl ck hk_1 (by omega) (by omega) (fun _ => rfl) (fun z108 ez108 => ?_)
                refine hpa_goto (by rfl) ?_
                exact ih2 z108 A107 (k + 1) (by omega) (huI (by omega) (by omega)) hgA107 T7nA107 T8nA107 UA107 HA107
  refine hpa_iconst (by rfl) rfl ?_
  refine hpa_s1 (by rfl) (Or.inl ⟨_, rfl, rfl⟩) rfl ?_
  exact L2 _ (Int32.ofNat 0) A 0 (by omega) rfl hg (fun j hj => absurd hj (Nat.not_lt_zero j)) (fun j hj => absurd hj (Nat.not_lt_zero j)) U0 hH0
theorem hP184 {g d : Nat} {A : hs_A} {sd : Nat} {D : hg_D} {ro : Nat → Int32} {n : Nat} {b : Bool} {s : Int32} (hK : hrK sd D A) (hHn : A.2.1 376 sd = Int32.ofNat n) (h10 : n ≤ 10) (hg : ∀ k, k < 73 → A.2.1 396 k = ro k) (hO : huO ro n) (hD : ∀ t, t < 24 → 0 ≤ D.1 t ∧ D.1 t ≤ 255) (hD2 : 0 ≤ D.2.1 ∧ D.2.1 ≤ 10000) (hs : A.1 367 47 = s) (hb : (A.1 367 48).toInt = if b then 0 else 1) (hH0 : uf_H A) : hpC g d 184 hm_m184 [.ref 368] A (fun r A' => r = none ∧ ((∀ j, j < 73 → A'.2.1 396 j = huR D n b s ro j))) := hpC.all (fun f d => hW184 hK hHn h10 hg hO hD hD2 hs hb hH0 (fun r A' h => h))
def uM185 : Nat := 497323236409786642155382248146820840100456150797347722227112643354953717064084679032832
theorem hW185 {g d f : Nat} {A : hs_A} {sd : Nat} {D : hg_D} {ro : Nat → Int32} {n : Nat} {b : Bool} {s : Int32} {m : Nat} (a1 : Int32) (hK : hrK sd D A) (hHn : A.2.1 376 sd = Int32.ofNat n) (h10 : n ≤ 10) (hg : ∀ k, k < 73 → A.2.1 396 k = ro k) (hO : huO ro n) (hD : ∀ t, t < 24 → 0 ≤ D.1 t ∧ D.1 t ≤ 255) (hD2 : 0 ≤ D.2.1 ∧ D.2.1 ≤ 10000) (hs : A.1 367 47 = s) (hb : (A.1 367 48).toInt = if b then 0 else 1) (ha : a1.toInt = (m : Int)) (h70 : (ro 70).toInt + (m : Int) ≤ 2000000) (hH0 : uf_H A) {P : Option Value → hs_A → Prop} (hP : ∀ (r : Option Value) (A' : hs_A), (r = none ∧ ((∀ j, j < 73 → A'.2.1 396 j = huY D n b s m ro j))) → P r A') : hpa (f, g) d none hm_t185 0 [.ref 368, .int a1, .retAddr 0] [] A P := by
  have k0 := hk_0
  have k1 := hk_1
  have k18 := hK.1
  have ksd := hK.2.1
  have hO70 := hO.2.1
  have U0 : uf_W uM185 A A := uf_W.rfl
  have L2 : ∀ (f : Nat) (x2_2 : Int32) (A2 : hs_A) (k : Nat) (bk : k ≤ m) (ek : x2_2 = Int32.ofNat k) (RI : ∀ j, j < 73 → A2.2.1 396 j = huY D n b s k ro j) (U2 : uf_W uM185 A A2) (H2 : uf_H A2), hpa (f, g) d none hm_t185 2 [.ref 368, .int a1, .int x2_2] [] A2 P := by
    intro f
    induction f with
    | zero => intros; exact hpa.zero
    | succ f ih2 =>
      intro x2_2 A2 k bk ek RI U2 H2
      subst ek
      have ck := hn_c (n := k) (z := Int32.ofNat k) rfl (by omega)
      have OI := hO.I (b := b) (s := s) h10 hD hD2 k (by omega)
      refine hpa_iload_nS (by rfl) rfl ?_
      refine hpa_iload_n (by rfl) rfl ?_
      refine hpj_cge (by rfl) ck rfl (fun q41 => ?_) (fun q41 => ?_)
      ·
        exact hpa_return (by rfl) rfl (hP _ _ ⟨rfl, by rw [show m = k by omega]; exact RI⟩)
      ·
        refine hpa_aload_n (by rfl) rfl ?_
        have hKA2 : hrK sd D A2 := hK.uf U2 (by decide +kernel)
        have hHnA2 : A2.2.1 376 sd = Int32.ofNat n := (U2.2.1 376 _ _ sd rfl (by have := hK.2.1; omega) (by decide +kernel)).trans hHn
        have hsA2 : A2.1 367 47 = s := (U2.1 367 _ _ 47 rfl rfl (by decide +kernel)).trans hs
        have hbA2 : (A2.1 367 48).toInt = if b then 0 else 1 := (congrArg Int32.toInt (U2.1 367 _ _ 48 rfl rfl (by decide +kernel))).trans hb
        refine hpa_call0 (by rfl) (by rfl) (by rfl) (by rfl) (by rfl) (by rfl) (uf_C (X := ug_x202) (j := 202) rfl rfl (ug_L.cons (uf_rk_ok (by decide +kernel)) uf_nil) H2 (hP184 hKA2 hHnA2 h10 RI OI.1 hD hD2 hsA2 hbA2 H2)) ?_
        rintro _ A42 ⟨⟨rfl, RW_A42⟩, wA42, HA42⟩
        have UA42 := (U2).trans (wA42.le (by decide +kernel : ug_wle ug_x202.2.2.2.1 uM185 = true))
        refine hpj_iinc (by rfl) rfl ck hk_1 (by omega) (by omega) (fun _ => rfl) (fun z43 ez43 => ?_)
        refine hpa_goto (by rfl) ?_
        exact ih2 z43 A42 (k + 1) (by omega) (huI (by omega) (by omega)) RW_A42 UA42 HA42
  refine hpa_iconst (by rfl) rfl ?_
  refine hpa_s1 (by rfl) (Or.inl ⟨_, rfl, rfl⟩) rfl ?_
  exact L2 _ (Int32.ofNat 0) A 0 (by omega) rfl hg U0 hH0
theorem hP185 {g d : Nat} {A : hs_A} {sd : Nat} {D : hg_D} {ro : Nat → Int32} {n : Nat} {b : Bool} {s : Int32} {m : Nat} (a1 : Int32) (hK : hrK sd D A) (hHn : A.2.1 376 sd = Int32.ofNat n) (h10 : n ≤ 10) (hg : ∀ k, k < 73 → A.2.1 396 k = ro k) (hO : huO ro n) (hD : ∀ t, t < 24 → 0 ≤ D.1 t ∧ D.1 t ≤ 255) (hD2 : 0 ≤ D.2.1 ∧ D.2.1 ≤ 10000) (hs : A.1 367 47 = s) (hb : (A.1 367 48).toInt = if b then 0 else 1) (ha : a1.toInt = (m : Int)) (h70 : (ro 70).toInt + (m : Int) ≤ 2000000) (hH0 : uf_H A) : hpC g d 185 hm_m185 [.ref 368, .int a1] A (fun r A' => r = none ∧ ((∀ j, j < 73 → A'.2.1 396 j = huY D n b s m ro j))) := hpC.all (fun f d => hW185 a1 hK hHn h10 hg hO hD hD2 hs hb ha h70 hH0 (fun r A' h => h))
theorem hs_vis.symm {A A' : hs_A} (h : hs_vis A A') : hs_vis A' A := by
  obtain ⟨hh, h1, h2⟩ := h
  exact ⟨hh, h2, h1⟩
theorem hY87h {d : Nat} {Bn Br : Int} {A0 A : hs_A} (hA : hJ 0 Bn Br A0 A)  (a1 : Int32) {D : hg_D} {ro : Nat → Int32} {n : Nat} (uH : uf_H A) (hCt : (∀ T, hTT T → A.2.2.2 0 3 = T + 1 → hdK T D A ∧ (A.1 T 4).toInt = (n : Int))) (hL : hdL 26 ro n A) (hO : huO ro n) (hD : ∀ t, t < 24 → 0 ≤ D.1 t ∧ D.1 t ≤ 255) (hD2 : 0 ≤ D.2.1 ∧ D.2.1 ≤ 10000) (hD3 : 0 ≤ D.2.2.1 ∧ D.2.2.1 ≤ 10000) (h70 : (ro 70).toInt ≤ 1000000) {P : Option Value → hs_A → Prop} (hP : ∀ (r : Option Value) (A' : hs_A), (hJ 0 Bn Br A0 A' ∧ ∃ z : Int32, r = some (.int z) ∧ ((0 ≤ a1.toInt ∧ a1.toInt ≤ 72 ∧ z = A'.1 26 7 ∧ (a1.toInt = 0 ∧ hPk A A' ∨ 0 < a1.toInt ∧ hKq A A') ∧ ∃ m : Nat, a1.toInt = (m : Int) ∧ hdL 26 (huY D n true (Int32.ofInt D.2.2.1) m ro) n A') ∨ ((a1.toInt < 0 ∨ 72 < a1.toInt) ∧ z.toInt = -1 ∧ A' = A))) → P r A') : hxa (d + 4) (some (.int)) hm_t87 0 [.ref 1, .int a1, .retAddr 0] [] A P := by
  have k0 := hk_0
  have k1 := hk_1
  have k4294967295 := hk_4294967295
  have k72 := hk_72
  obtain ⟨T0, hT0, tA0, eT0⟩ := hA.T
  obtain ⟨hC0, hn0⟩ := hCt T0 hT0 tA0
  have L22 : ∀ (m22 : Nat) (x22_2 : Int32) (Ac22 : hs_A) (hAc22 : hJ 0 Bn Br A0 Ac22) (bx22_2 : 0 ≤ x22_2.toInt) (cx22_2 : x22_2.toInt ≤ 72) (ba1 : 0 ≤ a1.toInt) (ca1 : a1.toInt ≤ 72) (hm22 : 72 - x22_2.toInt < (m22 : Int)) (iv22 : (a1.toInt = 0 ∧ hPk A Ac22 ∨ 0 < a1.toInt ∧ hKq A Ac22) ∧ uf_H Ac22 ∧ hdK T0 D Ac22 ∧ (Ac22.1 T0 4).toInt = (n : Int) ∧ ∃ m : Nat, x22_2.toInt = (m : Int) ∧ (m : Int) ≤ a1.toInt ∧ hdL 26 (huY D n true (Int32.ofInt D.2.2.1) m ro) n Ac22), hxa (d + 4) (some (.int)) hm_t87 22 [.ref 1, .int a1, .int x22_2] [] Ac22 P := by
    intro m22
    induction m22 with
    | zero => intro x22_2 Ac22 hAc22 bx22_2 cx22_2 ba1 ca1 hm22 iv22;  exact False.elim (by omega)
    | succ m22 ih22 =>
      intro x22_2 Ac22 hAc22 bx22_2 cx22_2 ba1 ca1 hm22 iv22
      refine hxa_iload_n (by rfl) rfl ?_
      refine hxa_iload_n (by rfl) rfl ?_
      refine hxj_cge (by rfl) rfl rfl (fun q1 => ?_) (fun q1 => ?_)
      ·
        refine hxa_aload_n (by rfl) rfl ?_
        refine hxa_get (v := .ref 27) (by rfl) (by rfl) (by rfl) rfl ?_
        refine hxj_getI (by rfl) (by rfl) (by rfl) (fun z2 ez2 => ?_)
        exact hxa_ireturn (by rfl) rfl (hP _ _ ⟨hAc22, _, rfl, Or.inl ⟨by omega, by omega, ez2.symm, iv22.1, by obtain ⟨m, m1, m2, mL⟩ := iv22.2.2.2.2; exact ⟨m, by omega, mL⟩⟩⟩)
      ·
        refine hxa_aload_n (by rfl) rfl ?_
        refine hxa_get (v := .ref 27) (by rfl) (by rfl) (by rfl) rfl ?_
        refine hxa_aload_n (by rfl) rfl ?_
        refine hxj_getT (by rfl) (by rfl) (by rfl) (hAc22.Tw eT0) ?_
        refine hxa_aload_n (by rfl) rfl ?_
        refine hxa_get (v := .ref 324) (by rfl) (by rfl) (by rfl) rfl ?_
        refine hxa_iconst (by rfl) rfl ?_
        refine hxa_aload_n (by rfl) rfl ?_
        refine hxj_getT (by rfl) (by rfl) (by rfl) (hAc22.Tw eT0) ?_
        refine hxj_getI (by rfl) (hsT hT0) (by rfl) (fun z3 ez3 => ?_)
        obtain ⟨m, m1, m2, mL⟩ := iv22.2.2.2.2
        have OI := hO.I (b := true) (s := (Int32.ofInt D.2.2.1)) hL.1 hD hD2 m (by omega)
        have hs3 : z3 = (Int32.ofInt D.2.2.1) := by obtain ⟨kw, V, ns, zz, k1, k2, kM, k3⟩ := iv22.2.2.1; exact Int32.toInt_inj.mp ((congrArg Int32.toInt ez3.symm).trans (kM.2.2.1.2.2.trans (hs_ofInt hD3.1 hD3.2).symm))
        subst hs3
        refine hxa_call0 (by rfl) (by rfl) (by rfl) (by rfl) (by rfl) (by rfl) (hxC.and (g := 0) (uf_m26 hT0 iv22.2.1 (hX26g (d := d + 0) hAc22 hT0 eT0 (Int32.ofNat 1) (by omega) (by omega) (Int32.ofInt D.2.2.1) iv22.2.1)) (fun g => hP26_26 (b := true) (Int32.ofNat 1) (Int32.ofInt D.2.2.1) hT0 iv22.2.2.1 mL OI.1 hD hD2 hk_1 iv22.2.2.2.1 iv22.2.1)) ?_
        rintro _ A4 ⟨⟨⟨hA4, rfl, c4⟩, w4, H4⟩, A4v, v4, -, L4⟩
        refine hxj_iinc (by rfl) rfl rfl hk_1 (by omega) (by omega) (fun _ => rfl) (fun z5 ez5 => ?_)
        refine hxa_goto (by rfl) ?_
        exact ih22 z5 A4 hA4 (by omega) (by omega) (by omega) (by omega) (by omega) (⟨by rcases iv22.1 with ⟨u1, u2⟩ | ⟨u1, u2⟩; exact Or.inl ⟨u1, u2.trans (hPk.uf w4 (by decide +kernel))⟩; exact Or.inr ⟨u1, u2.k (hPk.uf w4 (by decide +kernel))⟩, H4, iv22.2.2.1.uf hT0 w4 (by decide +kernel), by rw [hdT4 w4 hT0 (by decide +kernel)]; exact iv22.2.2.2.1, m + 1, by omega, by omega, L4.uf hLL_26 (uf_vis v4.symm) (by decide +kernel)⟩)
  refine hxa_iload_n (by rfl) rfl ?_
  refine hxa_iconst (by rfl) rfl ?_
  refine hxa_bipush (by rfl) rfl ?_
  refine hxa_call2 (by rfl) (by decide) (by rfl) (by rfl) (by rfl) (hX78 (d := d + 3)  a1 (Int32.ofNat 0) (Int32.ofNat 72)) ?_
  rintro _ _ ⟨rfl, z6, rfl, fz6⟩
  rcases fz6 with fz6 | fz6
  ·
    refine hxj_zne (by rfl) rfl (fun q7 => ?_) (fun q7 => False.elim (by omega))
    refine hxa_iload_n (by rfl) rfl ?_
    refine hxj_zle (by rfl) rfl (fun q8 => ?_) (fun q8 => ?_)
    ·
      refine hxa_iconst (by rfl) rfl ?_
      refine hxa_s1 (by rfl) (Or.inl ⟨_, rfl, rfl⟩) rfl ?_
      exact L22 (Int.toNat (72 - 0) + 1) (Int32.ofNat 0) A hA (by omega) (by omega) (by omega) (by omega) (by omega) (⟨Or.inl ⟨by omega, ⟨fun q hq => ⟨fun _ _ _ => rfl, fun _ _ _ _ _ => rfl⟩, rfl, rfl⟩⟩, uH, hC0, hn0, 0, by omega, by omega, hL⟩)
    ·
      refine hxa_aload_n (by rfl) rfl ?_
      refine hxa_call0 (by rfl) (by rfl) (by rfl) (by rfl) (by rfl) (by rfl) (uf_i82 uH (hX82g (d := d + 1) hA)) ?_
      rintro _ A9 ⟨⟨hA9, rfl, c9⟩, w9, H9⟩
      refine hxa_iconst (by rfl) rfl ?_
      refine hxa_s1 (by rfl) (Or.inl ⟨_, rfl, rfl⟩) rfl ?_
      exact L22 (Int.toNat (72 - 0) + 1) (Int32.ofNat 0) A9 hA9 (by omega) (by omega) (by omega) (by omega) (by omega) (⟨Or.inr ⟨by omega, c9⟩, H9, hC0.uf hT0 w9 (by decide +kernel), by rw [hdT4 w9 hT0 (by decide +kernel)]; exact hn0, 0, by omega, by omega, hL.uf hLL_26 w9 (by decide +kernel)⟩)
  ·
    refine hxj_zne (by rfl) rfl (fun q10 => False.elim (by omega)) (fun q10 => ?_)
    refine hxa_iconst (by rfl) rfl ?_
    exact hxa_ireturn (by rfl) rfl (hP _ _ ⟨hA, _, rfl, Or.inr ⟨by omega, hk_4294967295, rfl⟩⟩)
theorem hX87h {d : Nat} {Bn Br : Int} {A0 A : hs_A} (hA : hJ 0 Bn Br A0 A)  (a1 : Int32) {D : hg_D} {ro : Nat → Int32} {n : Nat} (uH : uf_H A) (hCt : (∀ T, hTT T → A.2.2.2 0 3 = T + 1 → hdK T D A ∧ (A.1 T 4).toInt = (n : Int))) (hL : hdL 26 ro n A) (hO : huO ro n) (hD : ∀ t, t < 24 → 0 ≤ D.1 t ∧ D.1 t ≤ 255) (hD2 : 0 ≤ D.2.1 ∧ D.2.1 ≤ 10000) (hD3 : 0 ≤ D.2.2.1 ∧ D.2.2.1 ≤ 10000) (h70 : (ro 70).toInt ≤ 1000000) : hxC (d + 5) 87 hm_m87 [.ref 1, .int a1] A (fun r A' => hJ 0 Bn Br A0 A' ∧ ∃ z : Int32, r = some (.int z) ∧ ((0 ≤ a1.toInt ∧ a1.toInt ≤ 72 ∧ z = A'.1 26 7 ∧ (a1.toInt = 0 ∧ hPk A A' ∨ 0 < a1.toInt ∧ hKq A A') ∧ ∃ m : Nat, a1.toInt = (m : Int) ∧ hdL 26 (huY D n true (Int32.ofInt D.2.2.1) m ro) n A') ∨ ((a1.toInt < 0 ∨ 72 < a1.toInt) ∧ z.toInt = -1 ∧ A' = A))) := hxC.of (by rfl) (hY87h hA a1 uH hCt hL hO hD hD2 hD3 h70 (fun r A' h => h))
theorem hY198h {d : Nat} {N : Int} {A0 A : hs_A} (hA : hJ 0 N (N + 72) A0 A) (hN : N ≤ 900000) (a1 : Int32) {D : hg_D} {sd n : Nat} (uH : uf_H A) (hK : hrK sd D A) (hHn : A.2.1 376 sd = Int32.ofNat n) (h10 : n ≤ 10) (hO : huO (A.2.1 395) n) (hD : ∀ t, t < 24 → 0 ≤ D.1 t ∧ D.1 t ≤ 255) (hD2 : 0 ≤ D.2.1 ∧ D.2.1 ≤ 10000) (hD3 : 0 ≤ D.2.2.1 ∧ D.2.2.1 ≤ 10000) (h70 : (A.2.1 395 70).toInt ≤ 1000000) {P : Option Value → hs_A → Prop} (hP : ∀ (r : Option Value) (A' : hs_A), (hJ 0 (N + 72) (N + 144) A0 A' ∧ ∃ z : Int32, r = some (.int z) ∧ ((0 ≤ a1.toInt ∧ a1.toInt ≤ 72 ∧ z = A'.2.1 395 70 ∧ (a1.toInt = 0 ∧ A' = A ∨ 0 < a1.toInt ∧ ∃ m : Nat, a1.toInt = (m : Int) ∧ hDone A A' (huY D n true (Int32.ofInt D.2.2.1) m (A.2.1 395)))) ∨ ((a1.toInt < 0 ∨ 72 < a1.toInt) ∧ z.toInt = -1 ∧ A' = A))) → P r A') : hxa (d + 6) (some (.int)) hm_t198 0 [.ref 368, .int a1] [] A P := by
  have k4294967295 := hk_4294967295
  refine hxa_iload_n (by rfl) rfl ?_
  refine hxa_call2 (by rfl) (by decide) (by rfl) (by rfl) (by rfl) (hX196f (d := d + 4)  a1) ?_
  rintro _ _ ⟨rfl, z1, rfl, fz1⟩
  rcases fz1 with fz1 | fz1
  ·
    refine hxj_zne (by rfl) rfl (fun q2 => ?_) (fun q2 => False.elim (by omega))
    refine hxa_iload_n (by rfl) rfl ?_
    refine hxj_zne (by rfl) rfl (fun q3 => ?_) (fun q3 => ?_)
    ·
      refine hxa_aload_n (by rfl) rfl ?_
      refine hxa_call0 (by rfl) (by rfl) (by rfl) (by rfl) (by rfl) (by rfl) (hxC.and (g := 0) (uf_i171 uH (hX171g (d := d + 5) hA)) (fun g => hP171 hK uH)) ?_
      rintro _ A4 ⟨⟨⟨hA4, rfl, c4⟩, w4, H4⟩, A4v, v4, -, -, l4, s4⟩
      have ca := hn_cn (j := a1) (by omega)
      have K4 := hK.uf w4 (by decide +kernel)
      have N4 : A4.2.1 376 sd = Int32.ofNat n := (w4.2.1 376 _ _ sd rfl (by have := hK.2.1; omega) (by decide +kernel)).trans hHn
      have L4 : A4.1 367 47 = (Int32.ofInt D.2.2.1) := (v4.symm.f (i := 367) (k := 47) (by rfl) (by rfl)).trans (l4.trans (by obtain ⟨V, ns, bb, zz, k1, kM, k2⟩ := hK.2.2.2.2; exact Int32.toInt_inj.mp (kM.2.1.2.2.trans (hs_ofInt hD3.1 hD3.2).symm)))
      have S4 : (A4.1 367 48).toInt = if true then 0 else 1 := (congrArg Int32.toInt ((v4.symm.f (i := 367) (k := 48) (by rfl) (by rfl)).trans s4)).trans hk_0
      refine hxa_aload_n (by rfl) rfl ?_
      refine hxa_iload_n (by rfl) rfl ?_
      refine hxa_call0 (by rfl) (by rfl) (by rfl) (by rfl) (by rfl) (by rfl) (hxC.and (g := 0) (uf_j185 H4 (hX185g (d := d + 0) hA4 (by omega) a1 (by omega) (by omega) H4)) (fun g => hP185 (b := true) (s := (Int32.ofInt D.2.2.1)) (m := a1.toNatClampNeg) a1 K4 N4 h10 c4 hO hD hD2 L4 S4 (by omega) (by omega) H4)) ?_
      rintro _ A5 ⟨⟨⟨hA5, rfl, c5⟩, w5, H5⟩, A5v, v5, -, r5⟩
      refine hxa_aload_n (by rfl) rfl ?_
      refine hxa_call0 (by rfl) (by rfl) (by rfl) (by rfl) (by rfl) (by rfl) (hX190g (d := d + 4) hA5 (by omega) H5) ?_
      rintro _ A6 ⟨hA6, rfl, D6⟩
      refine hxa_aload_n (by rfl) rfl ?_
      refine hxa_get (v := .ref 396) (by rfl) (by rfl) (by rfl) rfl ?_
      refine hxa_bipush (by rfl) rfl ?_
      refine hxj_iald395 (by rfl) hk_70 (by omega) (by omega) hA6 (fun z7 ez7 fz7 => ?_)
      exact hxa_ireturn (by rfl) rfl (hP _ _ ⟨(hJ.mono hA6 (by omega) (by omega)), _, rfl, Or.inl ⟨by omega, by omega, ez7.symm, Or.inr ⟨by omega, a1.toNatClampNeg, by omega, hDone.cg (D6.pre (fun k hk => (w5.2.1 395 _ _ k rfl hk (by decide +kernel)).trans (w4.2.1 395 _ _ k rfl hk (by decide +kernel))) (fun j hj => (w5.2.1 399 _ _ j rfl hj (by decide +kernel)).trans (w4.2.1 399 _ _ j rfl hj (by decide +kernel))) ((w5.1 367 _ _ 51 rfl rfl (by decide +kernel)).trans (w4.1 367 _ _ 51 rfl rfl (by decide +kernel)))) (fun k hk => ((v5.symm.a (i := 396) (t := 1) (m := 73) (by rfl) hk).trans (r5 k hk)).symm)⟩⟩⟩)
    ·
      refine hxa_aload_n (by rfl) rfl ?_
      refine hxa_get (v := .ref 396) (by rfl) (by rfl) (by rfl) rfl ?_
      refine hxa_bipush (by rfl) rfl ?_
      refine hxj_iald395 (by rfl) hk_70 (by omega) (by omega) hA (fun z8 ez8 fz8 => ?_)
      exact hxa_ireturn (by rfl) rfl (hP _ _ ⟨(hJ.mono hA (by omega) (by omega)), _, rfl, Or.inl ⟨by omega, by omega, ez8.symm, Or.inl ⟨by omega, rfl⟩⟩⟩)
  ·
    refine hxj_zne (by rfl) rfl (fun q9 => False.elim (by omega)) (fun q9 => ?_)
    refine hxa_iconst (by rfl) rfl ?_
    exact hxa_ireturn (by rfl) rfl (hP _ _ ⟨(hJ.mono hA (by omega) (by omega)), _, rfl, Or.inr ⟨by omega, hk_4294967295, rfl⟩⟩)
theorem hX198h {d : Nat} {N : Int} {A0 A : hs_A} (hA : hJ 0 N (N + 72) A0 A) (hN : N ≤ 900000) (a1 : Int32) {D : hg_D} {sd n : Nat} (uH : uf_H A) (hK : hrK sd D A) (hHn : A.2.1 376 sd = Int32.ofNat n) (h10 : n ≤ 10) (hO : huO (A.2.1 395) n) (hD : ∀ t, t < 24 → 0 ≤ D.1 t ∧ D.1 t ≤ 255) (hD2 : 0 ≤ D.2.1 ∧ D.2.1 ≤ 10000) (hD3 : 0 ≤ D.2.2.1 ∧ D.2.2.1 ≤ 10000) (h70 : (A.2.1 395 70).toInt ≤ 1000000) : hxC (d + 7) 198 hm_m198 [.ref 368, .int a1] A (fun r A' => hJ 0 (N + 72) (N + 144) A0 A' ∧ ∃ z : Int32, r = some (.int z) ∧ ((0 ≤ a1.toInt ∧ a1.toInt ≤ 72 ∧ z = A'.2.1 395 70 ∧ (a1.toInt = 0 ∧ A' = A ∨ 0 < a1.toInt ∧ ∃ m : Nat, a1.toInt = (m : Int) ∧ hDone A A' (huY D n true (Int32.ofInt D.2.2.1) m (A.2.1 395)))) ∨ ((a1.toInt < 0 ∨ 72 < a1.toInt) ∧ z.toInt = -1 ∧ A' = A))) := hxC.of (by rfl) (hY198h hA hN a1 uH hK hHn h10 hO hD hD2 hD3 h70 (fun r A' h => h))
/-! THE CLASS'S READ, WITH WHAT IT TELLS -/
theorem hs_vis_sy {A A' : hs_A} (h : hs_vis A A') : hs_vis A' A := by
  obtain ⟨hh, h1, h2⟩ := h
  exact ⟨hh, h2, h1⟩
theorem hs_beqn {a b : Nat} (h : ¬ a = b) : Nat.beq a b = false := by
  cases q : Nat.beq a b with
  | false => rfl
  | true => exact absurd (Nat.eq_of_beq_eq_true q) h
theorem hpar_hi2 {i k : Nat} (h : 26 ≤ i ∨ 11 ≤ i ∧ i ≤ 19) : hpar 2 i k = false := by
  have e1 : Nat.beq i 20 = false := hs_beqn (by omega)
  have e2 : Nat.beq i 21 = false := hs_beqn (by omega)
  have e3 : Nat.beq i 2 = false := hs_beqn (by omega)
  have e4 : Nat.beq i (2 + 4) = false := hs_beqn (by omega)
  unfold hpar
  rw [e1, e2, e3, e4]
  rfl
theorem hpar_hi11 {i k : Nat} (h : 26 ≤ i ∨ 2 ≤ i ∧ i ≤ 10) : hpar 11 i k = false := by
  have e1 : Nat.beq i 20 = false := hs_beqn (by omega)
  have e2 : Nat.beq i 21 = false := hs_beqn (by omega)
  have e3 : Nat.beq i 11 = false := hs_beqn (by omega)
  have e4 : Nat.beq i (11 + 4) = false := hs_beqn (by omega)
  unfold hpar
  rw [e1, e2, e3, e4]
  rfl
theorem hpara_hi2 {i : Nat} (h : 26 ≤ i ∨ 11 ≤ i ∧ i ≤ 19) : hpara 2 i = false := by
  have e1 : Nat.beq i 22 = false := hs_beqn (by omega)
  have e2 : Nat.beq i 24 = false := hs_beqn (by omega)
  have e3 : Nat.ble i (2 + 8) = false := by
    cases q : Nat.ble i (2 + 8) with
    | false => rfl
    | true => exact absurd (Nat.le_of_ble_eq_true q) (by omega)
  unfold hpara
  rw [e1, e2, e3]
  simp
theorem hpara_hi11 {i : Nat} (h : 26 ≤ i ∨ 2 ≤ i ∧ i ≤ 10) : hpara 11 i = false := by
  have e1 : Nat.beq i 22 = false := hs_beqn (by omega)
  have e2 : Nat.beq i 24 = false := hs_beqn (by omega)
  unfold hpara
  rw [e1, e2]
  rcases h with h | h
  · have e3 : Nat.ble i (11 + 8) = false := by
      cases q : Nat.ble i (11 + 8) with
      | false => rfl
      | true => exact absurd (Nat.le_of_ble_eq_true q) (by omega)
    rw [e3]
    simp
  · have e3 : Nat.ble (11 + 1) i = false := by
      cases q : Nat.ble (11 + 1) i with
      | false => rfl
      | true => exact absurd (Nat.le_of_ble_eq_true q) (by omega)
    rw [e3]
    simp
theorem hBg.mv {T : Nat} {A A' B B' : hs_A} (h : hBg T A A') (e1 : ∀ k, k ≤ 10 → B'.1 26 k = A'.1 26 k) (e2 : B'.2.1 = A'.2.1) (f1 : B.1 = A.1) (f2 : B.2.1 = A.2.1) : hBg T B B' := by
  obtain ⟨⟨a1, a2, a3, a4, a5⟩, b⟩ := h
  refine ⟨⟨by rw [e1 6 (by omega), f1]; exact a1, by rw [e1 7 (by omega)]; exact a2, by rw [e1 8 (by omega)]; exact a3, by rw [e1 9 (by omega), f1]; exact a4, by rw [e1 10 (by omega)]; exact a5⟩, fun x hx => ?_⟩
  rw [e2, f2]
  exact b x hx
theorem hBg.to {W T : Nat} {A A' : hs_A} (h : hBg T A A') (hT : hTT T) (w : uf_W W A A') (e : hdG W = true) : hBg T A' A' := by
  obtain ⟨⟨a1, a2, a3, a4, a5⟩, b⟩ := h
  have t4 := hdT4 w hT e
  have g2 := (hdG.get e).2
  refine ⟨⟨by rw [t4]; exact a1, a2, a3, by rw [t4]; exact a4, a5⟩, fun x hx => ?_⟩
  obtain ⟨⟨b1, b2, b3⟩, b4⟩ := b x hx
  have r : A'.2.1 (T + 1) x = A.2.1 (T + 1) x ∧ A'.2.1 (T + 2) x = A.2.1 (T + 2) x := by
    rcases hT with rfl | rfl
    · exact ⟨w.2.1 3 _ _ x rfl hx (g2 _ (by decide)), w.2.1 4 _ _ x rfl hx (g2 _ (by decide))⟩
    · exact ⟨w.2.1 12 _ _ x rfl hx (g2 _ (by decide)), w.2.1 13 _ _ x rfl hx (g2 _ (by decide))⟩
  exact ⟨⟨by rw [r.1]; exact b1, by rw [r.2]; exact b2, b3⟩, b4⟩
/-- the terrace T tells D, its houses by the names ns -/
def hdKv (V : Nat → Int) (ns : List Nat) (T : Nat) (D : hg_D) (A : hs_A) : Prop := (∀ q, q < 4 → hgw_wl (D.2.2.2 q)) ∧ ∃ zz : Nat, zz ≤ 408 ∧ ns.length ≤ 10 ∧ hcM V T A ns D [] zz ∧ (A.1 T 4).toInt = (ns.length : Int)
theorem hdKv.k {V : Nat → Int} {ns : List Nat} {T : Nat} {D : hg_D} {A : hs_A} (h : hdKv V ns T D A) : hdK T D A := by
  obtain ⟨a, zz, b, c, d, e⟩ := h
  exact ⟨a, V, ns, zz, b, c, d, e⟩
theorem hdKv.uf {V : Nat → Int} {ns : List Nat} {W T : Nat} {D : hg_D} {A A' : hs_A} (h : hdKv V ns T D A) (hT : hTT T) (w : uf_W W A A') (e : hdG W = true) : hdKv V ns T D A' := by
  obtain ⟨h1, zz, h2, h3, h4, h5⟩ := h
  obtain ⟨g1, g2⟩ := hdG.get e
  obtain ⟨t4, t6, t7, t44, t45⟩ := g1 T hT
  refine ⟨h1, zz, h2, h3, ?_, by rw [hdT4 w hT e]; exact h5⟩
  rcases hT with rfl | rfl
  · exact h4.pt h2 h3 (w.1 6 _ _ 4 rfl rfl t44) (w.1 6 _ _ 5 rfl rfl t45) (w.1 2 _ _ 6 rfl rfl t6) (w.1 2 _ _ 7 rfl rfl t7) (fun i hi => ⟨w.2.1 3 _ _ i rfl hi (g2 _ (by decide)), w.2.1 4 _ _ i rfl hi (g2 _ (by decide))⟩) (fun i hi => w.2.1 5 _ _ i rfl hi (g2 _ (by decide))) (fun i hi => w.2.1 7 _ _ i rfl hi (g2 _ (by decide))) (fun i hi => ⟨w.2.1 8 _ _ i rfl hi (g2 _ (by decide)), w.2.1 9 _ _ i rfl hi (g2 _ (by decide))⟩)
  · exact h4.pt h2 h3 (w.1 15 _ _ 4 rfl rfl t44) (w.1 15 _ _ 5 rfl rfl t45) (w.1 11 _ _ 6 rfl rfl t6) (w.1 11 _ _ 7 rfl rfl t7) (fun i hi => ⟨w.2.1 12 _ _ i rfl hi (g2 _ (by decide)), w.2.1 13 _ _ i rfl hi (g2 _ (by decide))⟩) (fun i hi => w.2.1 14 _ _ i rfl hi (g2 _ (by decide))) (fun i hi => w.2.1 16 _ _ i rfl hi (g2 _ (by decide))) (fun i hi => ⟨w.2.1 17 _ _ i rfl hi (g2 _ (by decide)), w.2.1 18 _ _ i rfl hi (g2 _ (by decide))⟩)
def hdQ (K V : Nat → Int) (E : Nat → Nat → Bool) (T : Nat) (A : hs_A) : Prop := ∃ (t : Nat) (s : hq_S), hq_q K V E t = some s ∧ hq_dl K V E t s = .inr 0 ∧ hdKv V s.2.2.2.2.1 T (hg_q K V E t).1 A
theorem hdQ.of {K V : Nat → Int} {E : Nat → Nat → Bool} {T : Nat} {A : hs_A} {y : Int} (hV : hg_V K V) (h : hcQ K V E T A) (hs : hq_hs K V E (A.1 T 4).toInt y) (b : (A.1 (T + 4) 4).toInt ≤ 408) : hdQ K V E T A := by
  obtain ⟨t, s, zz, a1, a2, a3⟩ := h
  have hl := (hq_hs_one hs ⟨t, s, a1, a2, rfl, rfl⟩).1
  have hz := a3.1.1
  exact ⟨t, s, a1, a2, (hgw_q_iv hV a1).1.1, zz, by omega, (hq_q_inv a1).1.2.2.1, a3, hl⟩
theorem hdQ.uf {K V : Nat → Int} {E : Nat → Nat → Bool} {W T : Nat} {A A' : hs_A} (h : hdQ K V E T A) (hT : hTT T) (w : uf_W W A A') (e : hdG W = true) : hdQ K V E T A' := by
  obtain ⟨t, s, a, b, c⟩ := h
  exact ⟨t, s, a, b, c.uf hT w e⟩
noncomputable def uMz : Nat := 2 ^ ug_o (ug_g 0) 1 + 2 ^ ug_o (ug_g 0) 2
/-! bounds of what a text tells -/
section HGD
variable {K V : Nat → Int} {E : Nat → Nat → Bool}
def hgd_o (d : hg_D) : Prop := (0 ≤ d.2.1 ∧ d.2.1 ≤ 10000) ∧ (0 ≤ d.2.2.1 ∧ d.2.2.1 ≤ 10000)
theorem hgd_un {t : Nat} {e : hg_S} : (hg_un K V t e).1 = e.1 := by
  unfold hg_un
  split
  · rfl
  · split
    · rfl
    · rfl
theorem hgd_end {ctx : Nat} {d : hg_D} {k : hg_W} {o : hg_C} (h : hgd_o d) : hgd_o (hg_end ctx d k o).1 := by
  unfold hg_end
  split
  · exact h
  · exact h
  · exact h
  · exact h
theorem hgd_dl {t : Nat} {s : hq_S} {e : hg_S} (h9 : s.1 = 9 ∨ s.1 = 11 → 0 ≤ V (t - 1) ∧ V (t - 1) ≤ 10000) (h : hgd_o e.1) : hgd_o (hg_dl K V t s e).1 := by
  unfold hg_dl
  split
  · split
    · exact h
    · exact h
  · exact h
  · exact ⟨h9 (Or.inl rfl), h.2⟩
  · exact ⟨h.1, h9 (Or.inr rfl)⟩
  · split
    · exact h
    · rw [hgd_un]; exact h
  · rw [hgd_un]; exact h
  · split
    · exact h
    · split
      · exact hgd_end h
      · exact h
  · exact h
theorem hgd_k {t : Nat} {s s' : hq_S} (hd : hq_dl K V E t s = .inl s') (h : s'.1 = 9 ∨ s'.1 = 11) : K t = 21 := by
  unfold hq_dl at hd
  split at hd
  · split at hd
    · cases hd
    · split at hd
      · split at hd
        · obtain ⟨-, rfl⟩ := hq_go_inl hd
          exact absurd h (by dsimp only; omega)
        · cases hd
      · split at hd
        · split at hd
          · obtain ⟨-, rfl⟩ := hq_go_inl hd
            exact absurd h (by dsimp only; omega)
          · cases hd
        · split at hd
          · obtain ⟨-, rfl⟩ := hq_go_inl hd
            exact absurd h (by dsimp only; omega)
          · split at hd
            · obtain ⟨-, rfl⟩ := hq_go_inl hd
              exact absurd h (by dsimp only; omega)
            · split at hd
              · obtain ⟨-, rfl⟩ := hq_go_inl hd
                exact absurd h (by dsimp only; omega)
              · cases hd
  iterate 12 (first | (obtain ⟨q, -, rfl⟩ := hq_must_inl hd; first | exact q | exact absurd h (by dsimp only; omega)) | skip)
  all_goals first
    | (split at hd
       · split at hd
         · obtain ⟨-, rfl⟩ := hq_go_inl hd
           exact absurd h (by dsimp only; omega)
         · cases hd
       · obtain ⟨q, e, p⟩ := hq_unit_inl hd
         omega)
    | (obtain ⟨q, e, p⟩ := hq_unit_inl hd
       omega)
    | (split at hd
       · obtain ⟨-, rfl⟩ := hq_go_inl hd
         exact absurd h (by dsimp only; omega)
       · split at hd
         · obtain ⟨q, e, p⟩ := hq_out_inl hd
           omega
         · obtain ⟨q, -, rfl⟩ := hq_must_inl hd
           exact absurd h (by dsimp only; omega))
theorem hgd_q (hV : hg_V K V) : ∀ {t : Nat} {s : hq_S}, hq_q K V E t = some s → (s.1 = 9 ∨ s.1 = 11 → 0 ≤ V (t - 1) ∧ V (t - 1) ≤ 10000) ∧ hgd_o (hg_q K V E t).1
  | 0, s, h => by
    cases h
    exact ⟨fun q => absurd q (by decide), ⟨(by decide : (0 : Int) ≤ 6), (by decide : (6 : Int) ≤ 10000)⟩, (by decide : (0 : Int) ≤ 0), (by decide : (0 : Int) ≤ 10000)⟩
  | t + 1, s, h => by
    have h' : (match hq_q K V E t with
      | none => none
      | some s => match hq_dl K V E t s with
        | .inl s' => some s'
        | .inr _ => none) = some s := h
    split at h'
    · cases h'
    next s1 hs1 =>
      split at h'
      next s2 hd =>
        cases h'
        rw [hg_next hs1]
        obtain ⟨a, b⟩ := hgd_q hV hs1
        refine ⟨fun q => ?_, hgd_dl a b⟩
        have w := hV t (hgd_k hd q)
        rw [Nat.add_sub_cancel]
        exact ⟨w.1, by omega⟩
      · cases h'
end HGD
theorem uf_m37 {d : Nat} {A : hs_A} {P : Option Value → hs_A → Prop} {T : Nat} (hT : hTT T) {a1 : Int32} (hH : uf_H A) (w : hxC d 37 hm_m37 [.ref 21, .ref (T + 1), .ref 2, .int a1] A P) : hxC d 37 hm_m37 [.ref 21, .ref (T + 1), .ref 2, .int a1] A (fun r A' => P r A' ∧ uf_W ug_x90.2.2.2.1 A A' ∧ uf_H A') := uf_X (X := ug_x90) (j := 90) rfl rfl (ug_L.cons (uf_rk_ok (by decide +kernel)) (ug_L.cons (uf_tV hT) (ug_L.cons (uf_rk_ok (by decide +kernel)) (uf_int uf_nil)))) hH w
theorem uf_m74 {d : Nat} {A : hs_A} {P : Option Value → hs_A → Prop} (hH : uf_H A) (w : hxC d 74 hm_m74 [.ref 1] A P) : hxC d 74 hm_m74 [.ref 1] A (fun r A' => P r A' ∧ uf_W ug_x130.2.2.2.1 A A' ∧ uf_H A') := uf_X (X := ug_x130) (j := 130) rfl rfl (ug_L.cons uf_r0 uf_nil) hH w
theorem hY74q51 {d : Nat} {N : Int} {A : hs_A} (hA : hJ 0 N (N + 72) A A) (h3 : A.2.2.2 0 3 = 12) (h4 : A.2.2.2 0 4 = 3) (hp : hPg A 5)  {P : Option Value → hs_A → Prop} (hP : ∀ (r : Option Value) (A' : hs_A), (hJ 0 (N + 72) (N + 144) A' A' ∧ r = none ∧ (A'.1 0 1 = A.1 0 1 ∧ A'.1 367 2 = A.1 367 2 ∧ A'.1 0 2 = A.1 0 2 ∧ A'.2.2.1 = A.2.2.1 ∧ (∀ j, A'.2.1 368 j = A.2.1 368 j) ∧ A'.2.2.2 0 3 = 3 ∧ A'.1 340 2 = Int32.ofNat 0 ∧ A'.1 0 10 = Int32.ofNat 0 ∧ A'.1 40 2 = Int32.ofNat 0 ∧ A'.1 2 4 = A.1 2 4 ∧ A'.1 2 5 = A.1 2 5 ∧ hBg 2 A A')) → P r A') : hxa (d + 1) none hm_t74 0 [.ref 1, .retAddr 0] [] A P := by
  obtain ⟨T0, hT0, -, eT0⟩ := hA.T
  refine hxa_aload_n (by rfl) rfl ?_
  refine hxj_getT (by rfl) (by rfl) (by rfl) h3 ?_
  refine hxa_astore_n (by rfl) rfl ?_
  refine hxa_aload_n (by rfl) rfl ?_
  refine hxa_aload_n (by rfl) rfl ?_
  refine hxj_getT (by rfl) (by rfl) (by rfl) h4 ?_
  refine hxa_putR (i := 0) (by rfl) (by rfl) (by rfl) (by rfl) ?_
  refine hxa_aload_n (by rfl) rfl ?_
  refine hxa_aload_n (by rfl) rfl ?_
  refine hxa_putR (i := 0) (by rfl) (by rfl) (by rfl) (by rfl) ?_
  have hsw := hJ.swap1 hA h3 h4 hp
  obtain ⟨W5, eW5⟩ : ∃ W : hs_A, W = (A.1, A.2.1, A.2.2.1, hs_upN (hs_upN A.2.2.2 0 3 3) 0 4 12) := ⟨_, rfl⟩
  rw [← eW5] at hsw
  have w03 : W5.2.2.2 0 3 = 3 := by rw [eW5]; simp [hs_upN]
  have w1 : W5.1 = A.1 := by rw [eW5]
  show hxa _ _ _ _ _ _ (A.1, A.2.1, A.2.2.1, hs_upN (hs_upN A.2.2.2 0 3 3) 0 4 12) _
  rw [← eW5]
  obtain ⟨T5, hT5, eT5⟩ : ∃ T, hTT T ∧ W5.2.2.2 0 3 = T + 1 := ⟨2, Or.inl rfl, w03⟩
  obtain rfl : T5 = 2 := by omega
  refine hxa_aload_n (by rfl) rfl ?_
  refine hxa_get (v := .ref 27) (by rfl) (by rfl) (by rfl) rfl ?_
  refine hxa_aload_n (by rfl) rfl ?_
  refine hxj_getT (by rfl) (by rfl) (by rfl) eT5 ?_
  refine hxa_call0 (by rfl) (by rfl) (by rfl) (by rfl) (by rfl) (by rfl) (hX16g (d := d + 0) hsw hT5 eT5) ?_
  rintro _ A1 ⟨hA1, rfl, c1⟩
  refine hxa_aload_n (by rfl) rfl ?_
  refine hxa_get (v := .ref 41) (by rfl) (by rfl) (by rfl) rfl ?_
  refine hxa_iconst (by rfl) rfl ?_
  refine hxj_putI (by rfl) (by rfl) (by rfl) (by rfl) hA1 (hbok (by rfl) hk_0 (by omega) (by omega)) (by rfl) (by rfl) (fun A2 hA2 eA2 fA2 => ?_)
  refine hxa_aload_n (by rfl) rfl ?_
  refine hxa_get (v := .ref 341) (by rfl) (by rfl) (by rfl) rfl ?_
  refine hxa_iconst (by rfl) rfl ?_
  refine hxj_putI (by rfl) (by rfl) (by rfl) (by rfl) hA2 (hbok (by rfl) hk_0 (by omega) (by omega)) (by rfl) (by rfl) (fun A3 hA3 eA3 fA3 => ?_)
  refine hxa_aload_n (by rfl) rfl ?_
  refine hxa_iconst (by rfl) rfl ?_
  refine hxj_putI (by rfl) (by rfl) (by rfl) (by rfl) hA3 (hbokN (by rfl)) (by rfl) (by rfl) (fun A4 hA4 eA4 fA4 => ?_)
  refine hxa_aload_n (by rfl) rfl ?_
  refine hxa_get (v := .ref 329) (by rfl) (by rfl) (by rfl) rfl ?_
  refine hxa_iconst (by rfl) rfl ?_
  refine hxj_putI (by rfl) (by rfl) (by rfl) (by rfl) hA4 (hbok (by rfl) hk_0 (by omega) (by omega)) (by rfl) (by rfl) (fun A5 hA5 eA5 fA5 => ?_)
  exact hxa_return (by rfl) rfl (hP _ _ ⟨(hJ.mono (hJ.self hA5) (by omega) (by omega)), rfl, ⟨(hA5.2.2.1.1 0 1 (by rfl)).trans (congrFun (congrFun w1 0) 1), (hA5.2.2.1.1 367 2 (by rfl)).trans (congrFun (congrFun w1 367) 2), (hA5.2.2.1.1 0 2 (by rfl)).trans (congrFun (congrFun w1 0) 2), (hA5.2.2.1.2.2.1 rfl).trans (by rw [eW5]), fun j => (hA5.2.2.1.2.1 368 (by rfl) j).trans (by rw [eW5]), (hA5.2.2.1.2.2.2 0 3 (by rfl)).trans w03, hkF eA5 (by first | decide | omega) (hkF eA4 (by first | decide | omega) (hkS eA3)), hkF eA5 (by first | decide | omega) (hkS eA4), hkF eA5 (by first | decide | omega) (hkF eA4 (by first | decide | omega) (hkF eA3 (by first | decide | omega) (hkS eA2))), (hA5.2.2.1.1 2 4 (by rfl)).trans (congrFun (congrFun w1 2) 4), (hA5.2.2.1.1 2 5 (by rfl)).trans (congrFun (congrFun w1 2) 5), c1.mv (fun k _ => by rw [eA5, hup2 (by omega), eA4, hup2 (by omega), eA3, hup2 (by omega), eA2, hup2 (by omega)]) (by rw [fA5, fA4, fA3, fA2]) w1.symm (by rw [eW5])⟩⟩)
theorem hX74q51 {d : Nat} {N : Int} {A : hs_A} (hA : hJ 0 N (N + 72) A A) (h3 : A.2.2.2 0 3 = 12) (h4 : A.2.2.2 0 4 = 3) (hp : hPg A 5)  : hxC (d + 2) 74 hm_m74 [.ref 1] A (fun r A' => hJ 0 (N + 72) (N + 144) A' A' ∧ r = none ∧ (A'.1 0 1 = A.1 0 1 ∧ A'.1 367 2 = A.1 367 2 ∧ A'.1 0 2 = A.1 0 2 ∧ A'.2.2.1 = A.2.2.1 ∧ (∀ j, A'.2.1 368 j = A.2.1 368 j) ∧ A'.2.2.2 0 3 = 3 ∧ A'.1 340 2 = Int32.ofNat 0 ∧ A'.1 0 10 = Int32.ofNat 0 ∧ A'.1 40 2 = Int32.ofNat 0 ∧ A'.1 2 4 = A.1 2 4 ∧ A'.1 2 5 = A.1 2 5 ∧ hBg 2 A A')) := hxC.of (by rfl) (hY74q51 hA h3 h4 hp (fun r A' h => h))
theorem hY73q51 {d : Nat} {N : Int} {A : hs_A} (hA : hJ 0 N (N + 72) A A) (h3 : A.2.2.2 0 3 = 12) (h4 : A.2.2.2 0 4 = 3) {B : Nat → Int} {n : Nat} (hTp : hcTp B n A) (h1 : (A.1 0 1).toInt = (n : Int)) (hBr : ∀ i, i < n → -128 ≤ B i ∧ B i ≤ 127) (hU : hcU A) (uH : uf_H A)  {P : Option Value → hs_A → Prop} (hP : ∀ (r : Option Value) (A' : hs_A), (hJ 0 (N + 72) (N + 144) A' A' ∧ ∃ z : Int32, r = some (.int z) ∧ ((A'.1 0 1).toInt = 0 ∧ A'.1 367 2 = A.1 367 2 ∧ hq_res (ht_K B n) (ht_W B n) (fun u => (ht_S B n u : Int)) (ht_E B n) z.toInt (A'.1 0 2).toInt ∧ hcU A' ∧ (∀ j, A'.2.1 368 j = A.2.1 368 j) ∧ (z.toInt = 0 → A'.2.2.2 0 3 = 3 ∧ hq_hs (ht_K B n) (ht_W B n) (ht_E B n) (A'.1 2 4).toInt (A'.1 2 5).toInt ∧ A'.1 340 2 = Int32.ofNat 0 ∧ A'.1 0 10 = Int32.ofNat 0 ∧ A'.1 40 2 = Int32.ofNat 0 ∧ hdQ (ht_K B n) (ht_W B n) (ht_E B n) 2 A' ∧ hBg 2 A' A') ∧ (¬ z.toInt = 0 → A'.2.2.2 0 3 = 12 ∧ A'.1 11 4 = A.1 11 4 ∧ A'.1 11 5 = A.1 11 5 ∧ A'.1 340 2 = A.1 340 2 ∧ A'.1 0 10 = A.1 0 10 ∧ A'.1 40 2 = A.1 40 2 ∧ (∀ i k, (26 ≤ i ∨ 11 ≤ i ∧ i ≤ 19) → A'.1 i k = A.1 i k) ∧ (∀ i, (26 ≤ i ∨ 11 ≤ i ∧ i ≤ 19) → ∀ j, A'.2.1 i j = A.2.1 i j)))) → P r A') : hxa (d + 25) (some (.int)) hm_t73 0 [.ref 1, .retAddr 0] [] A P := by
  refine hxa_aload_n (by rfl) rfl ?_
  refine hxa_get (v := .ref 21) (by rfl) (by rfl) (by rfl) rfl ?_
  refine hxa_aload_n (by rfl) rfl ?_
  refine hxj_getT (by rfl) (by rfl) (by rfl) h4 ?_
  refine hxa_aload_n (by rfl) rfl ?_
  refine hxa_get (v := .ref 2) (by rfl) (by rfl) (by rfl) rfl ?_
  refine hxa_aload_n (by rfl) rfl ?_
  refine hxj_getB (by rfl) (by rfl) (by rfl) hA (by rfl) (fun z1 ez1 fz1 gz1 => ?_)
  have h1z : z1.toInt = (n : Int) := by rw [← ez1]; exact h1
  refine hxa_call0 (by rfl) (by rfl) (by rfl) (by rfl) (by rfl) (by rfl) (uf_m37 (T := 2) (Or.inl rfl) uH (hxC.and (g := 0) (hX37q1 (d := d + 0) hA z1 (by omega) (by omega)) (fun g => hP37n (T := 2) (Or.inl rfl) z1 hTp h1z (by omega) (fun i hi => (hBr i hi).2) hU))) ?_
  rintro _ A2 ⟨⟨⟨hA2, z3, rfl, fz3⟩, A2v, hvis, z3v, ez3v, RS, hU2, HS, HQ⟩, w2, H2⟩
  have ezz : z3v = z3 := by injection ez3v with e; injection e with e; exact e.symm
  rw [ezz] at RS HS HQ
  have HQ2 : z3.toInt = 0 → hdQ (ht_K B n) (ht_W B n) (ht_E B n) 2 A2 := fun q => (hdQ.of ht_W_ok (HQ q) (HS q) (by rw [hvis.f (i := 6) (k := 4) (by rfl) (by rfl)]; exact (hbok.get (hA2.1.1 6 4) rfl).2)).uf (Or.inl rfl) (uf_vis (hs_vis_sy hvis)) (by decide +kernel)
  have HS2 : z3.toInt = 0 → hq_hs (ht_K B n) (ht_W B n) (ht_E B n) (A2.1 2 4).toInt (A2.1 2 5).toInt := fun q => by rw [← hvis.f (i := 2) (k := 4) (by rfl) (by rfl), ← hvis.f (i := 2) (k := 5) (by rfl) (by rfl)]; exact HS q
  have RS2 : hq_res (ht_K B n) (ht_W B n) (fun u => (ht_S B n u : Int)) (ht_E B n) z3.toInt (A2.1 20 6).toInt := by rw [← hvis.f (i := 20) (k := 6) (by rfl) (by rfl)]; exact RS
  have hU3 : hcU A2 := hvis.U hU2
  have hen := hJ.end1 hA2 h3 h4
  have h10 := hJ.to10 hen.1
  refine hxa_s1 (by rfl) (Or.inl ⟨_, rfl, rfl⟩) rfl ?_
  refine hxa_aload_n (by rfl) rfl ?_
  refine hxa_iconst (by rfl) rfl ?_
  refine hxj_putI (by rfl) (by rfl) (by rfl) (by rfl) h10 (hbok (by rfl) hk_0 (by omega) (by omega)) (by rfl) (by rfl) (fun A4 hA4 eA4 fA4 => ?_)
  refine hxa_aload_n (by rfl) rfl ?_
  refine hxa_aload_n (by rfl) rfl ?_
  refine hxa_get (v := .ref 21) (by rfl) (by rfl) (by rfl) rfl ?_
  refine hxj_getI (by rfl) (by rfl) (by rfl) (fun z5 ez5 => ?_)
  refine hxj_putI (by rfl) (by rfl) (by rfl) (by rfl) hA4 (hbokN (by rfl)) (by rfl) (by rfl) (fun A6 hA6 eA6 fA6 => ?_)
  refine hxa_iload_n (by rfl) rfl ?_
  refine hxj_zne (by rfl) rfl (fun q7 => ?_) (fun q7 => ?_)
  ·
    refine hxa_iload_n (by rfl) rfl ?_
    have he := hJ.end10 hA6
    exact hxa_ireturn (by rfl) rfl (hP _ _ ⟨(hJ.mono he.1 (by omega) (by omega)), _, rfl, ⟨by rw [(show A6.1 0 1 = (Int32.ofNat 0) from (hkF eA6 (by first | decide | omega) (hkS eA4)))]; decide, Eq.trans (hkF eA6 (by first | decide | omega) (hkF eA4 (by first | decide | omega) rfl)) hen.2.2.2, by rw [show A6.1 0 2 = z5 from hkS eA6, ← ez5, hkF eA4 (by first | decide | omega) rfl]; exact RS2, hU3.fr (by rw [fA6, fA4]), fun j => by rw [fA6, fA4]; exact hA2.2.2.1.2.1 368 (by rfl) j, fun q => absurd q q7, fun _ => ⟨he.2.1.trans hen.2.1, Eq.trans (hkF eA6 (by first | decide | omega) (hkF eA4 (by first | decide | omega) rfl)) (hA2.2.2.1.1 11 4 (by rfl)), Eq.trans (hkF eA6 (by first | decide | omega) (hkF eA4 (by first | decide | omega) rfl)) (hA2.2.2.1.1 11 5 (by rfl)), Eq.trans (hkF eA6 (by first | decide | omega) (hkF eA4 (by first | decide | omega) rfl)) (hA2.2.2.1.1 340 2 (by rfl)), Eq.trans (hkF eA6 (by first | decide | omega) (hkF eA4 (by first | decide | omega) rfl)) (hA2.2.2.1.1 0 10 (by rfl)), Eq.trans (hkF eA6 (by first | decide | omega) (hkF eA4 (by first | decide | omega) rfl)) (hA2.2.2.1.1 40 2 (by rfl)), fun i k hi => Eq.trans (hkF eA6 (by omega) (hkF eA4 (by omega) rfl)) (hA2.2.2.1.1 i k (hpar_hi2 hi)), fun i hi j => by rw [fA6, fA4]; exact hA2.2.2.1.2.1 i (hpara_hi2 hi) j⟩⟩⟩)
  ·
    refine hxa_aload_n (by rfl) rfl ?_
    have he := hJ.end10 hA6
    have hpg : hPg A6 5 := fun j hj => by rw [hA6.2.2.1.2.1 5 (by rfl) j]; exact (fz3 (by omega)) j hj
    have H6 : uf_H A6 := H2.e (by rw [fA6, fA4])
    have w46 : uf_W uMz A2 A6 := (uf_W.rfl.put eA4 fA4 (by decide +kernel)).put eA6 fA6 (by decide +kernel)
    refine hxa_call0 (by rfl) (by rfl) (by rfl) (by rfl) (by rfl) (by rfl) (uf_m74 H6 (hX74q51 (d := d + 23) he.1 (he.2.1.trans hen.2.1) (he.2.2.trans hen.2.2.1) hpg)) ?_
    rintro _ A8 ⟨⟨hA8, rfl, fA8⟩, w8, H8⟩
    refine hxa_iload_n (by rfl) rfl ?_
    exact hxa_ireturn (by rfl) rfl (hP _ _ ⟨(hJ.mono hA8 (by omega) (by omega)), _, rfl, ⟨by rw [(show A8.1 0 1 = (Int32.ofNat 0) from ((fA8.1).trans (hkF eA6 (by first | decide | omega) (hkS eA4))))]; decide, ((fA8.2.1).trans (Eq.trans (hkF eA6 (by first | decide | omega) (hkF eA4 (by first | decide | omega) rfl)) hen.2.2.2)), by rw [fA8.2.2.1]; rw [show A6.1 0 2 = z5 from hkS eA6, ← ez5, hkF eA4 (by first | decide | omega) rfl]; exact RS2, hU3.fr (by rw [fA8.2.2.2.1, fA6, fA4]), fun j => by rw [fA8.2.2.2.2.1 j, fA6, fA4]; exact hA2.2.2.1.2.1 368 (by rfl) j, fun _ => ⟨fA8.2.2.2.2.2.1, by rw [fA8.2.2.2.2.2.2.2.2.2.1, fA8.2.2.2.2.2.2.2.2.2.2.1, show A6.1 2 4 = A2.1 2 4 from hkF eA6 (by first | decide | omega) (hkF eA4 (by first | decide | omega) rfl), show A6.1 2 5 = A2.1 2 5 from hkF eA6 (by first | decide | omega) (hkF eA4 (by first | decide | omega) rfl)]; exact HS2 (by omega), fA8.2.2.2.2.2.2.1, fA8.2.2.2.2.2.2.2.1, fA8.2.2.2.2.2.2.2.2.1, ((HQ2 (by omega)).uf (Or.inl rfl) w46 (by decide +kernel)).uf (Or.inl rfl) w8 (by decide +kernel), fA8.2.2.2.2.2.2.2.2.2.2.2.to (Or.inl rfl) w8 (by decide +kernel)⟩, fun q => absurd (by omega) q⟩⟩)
theorem hX73q51 {d : Nat} {N : Int} {A : hs_A} (hA : hJ 0 N (N + 72) A A) (h3 : A.2.2.2 0 3 = 12) (h4 : A.2.2.2 0 4 = 3) {B : Nat → Int} {n : Nat} (hTp : hcTp B n A) (h1 : (A.1 0 1).toInt = (n : Int)) (hBr : ∀ i, i < n → -128 ≤ B i ∧ B i ≤ 127) (hU : hcU A) (uH : uf_H A)  : hxC (d + 26) 73 hm_m73 [.ref 1] A (fun r A' => hJ 0 (N + 72) (N + 144) A' A' ∧ ∃ z : Int32, r = some (.int z) ∧ ((A'.1 0 1).toInt = 0 ∧ A'.1 367 2 = A.1 367 2 ∧ hq_res (ht_K B n) (ht_W B n) (fun u => (ht_S B n u : Int)) (ht_E B n) z.toInt (A'.1 0 2).toInt ∧ hcU A' ∧ (∀ j, A'.2.1 368 j = A.2.1 368 j) ∧ (z.toInt = 0 → A'.2.2.2 0 3 = 3 ∧ hq_hs (ht_K B n) (ht_W B n) (ht_E B n) (A'.1 2 4).toInt (A'.1 2 5).toInt ∧ A'.1 340 2 = Int32.ofNat 0 ∧ A'.1 0 10 = Int32.ofNat 0 ∧ A'.1 40 2 = Int32.ofNat 0 ∧ hdQ (ht_K B n) (ht_W B n) (ht_E B n) 2 A' ∧ hBg 2 A' A') ∧ (¬ z.toInt = 0 → A'.2.2.2 0 3 = 12 ∧ A'.1 11 4 = A.1 11 4 ∧ A'.1 11 5 = A.1 11 5 ∧ A'.1 340 2 = A.1 340 2 ∧ A'.1 0 10 = A.1 0 10 ∧ A'.1 40 2 = A.1 40 2 ∧ (∀ i k, (26 ≤ i ∨ 11 ≤ i ∧ i ≤ 19) → A'.1 i k = A.1 i k) ∧ (∀ i, (26 ≤ i ∨ 11 ≤ i ∧ i ≤ 19) → ∀ j, A'.2.1 i j = A.2.1 i j)))) := hxC.of (by rfl) (hY73q51 hA h3 h4 hTp h1 hBr hU uH (fun r A' h => h))
theorem hY74q52 {d : Nat} {N : Int} {A : hs_A} (hA : hJ 0 N (N + 72) A A) (h3 : A.2.2.2 0 3 = 3) (h4 : A.2.2.2 0 4 = 12) (hp : hPg A 14)  {P : Option Value → hs_A → Prop} (hP : ∀ (r : Option Value) (A' : hs_A), (hJ 0 (N + 72) (N + 144) A' A' ∧ r = none ∧ (A'.1 0 1 = A.1 0 1 ∧ A'.1 367 2 = A.1 367 2 ∧ A'.1 0 2 = A.1 0 2 ∧ A'.2.2.1 = A.2.2.1 ∧ (∀ j, A'.2.1 368 j = A.2.1 368 j) ∧ A'.2.2.2 0 3 = 12 ∧ A'.1 340 2 = Int32.ofNat 0 ∧ A'.1 0 10 = Int32.ofNat 0 ∧ A'.1 40 2 = Int32.ofNat 0 ∧ A'.1 11 4 = A.1 11 4 ∧ A'.1 11 5 = A.1 11 5 ∧ hBg 11 A A')) → P r A') : hxa (d + 1) none hm_t74 0 [.ref 1, .retAddr 0] [] A P := by
  obtain ⟨T0, hT0, -, eT0⟩ := hA.T
  refine hxa_aload_n (by rfl) rfl ?_
  refine hxj_getT (by rfl) (by rfl) (by rfl) h3 ?_
  refine hxa_astore_n (by rfl) rfl ?_
  refine hxa_aload_n (by rfl) rfl ?_
  refine hxa_aload_n (by rfl) rfl ?_
  refine hxj_getT (by rfl) (by rfl) (by rfl) h4 ?_
  refine hxa_putR (i := 0) (by rfl) (by rfl) (by rfl) (by rfl) ?_
  refine hxa_aload_n (by rfl) rfl ?_
  refine hxa_aload_n (by rfl) rfl ?_
  refine hxa_putR (i := 0) (by rfl) (by rfl) (by rfl) (by rfl) ?_
  have hsw := hJ.swap2 hA h3 h4 hp
  obtain ⟨W5, eW5⟩ : ∃ W : hs_A, W = (A.1, A.2.1, A.2.2.1, hs_upN (hs_upN A.2.2.2 0 3 12) 0 4 3) := ⟨_, rfl⟩
  rw [← eW5] at hsw
  have w03 : W5.2.2.2 0 3 = 12 := by rw [eW5]; simp [hs_upN]
  have w1 : W5.1 = A.1 := by rw [eW5]
  show hxa _ _ _ _ _ _ (A.1, A.2.1, A.2.2.1, hs_upN (hs_upN A.2.2.2 0 3 12) 0 4 3) _
  rw [← eW5]
  obtain ⟨T5, hT5, eT5⟩ : ∃ T, hTT T ∧ W5.2.2.2 0 3 = T + 1 := ⟨11, Or.inr rfl, w03⟩
  obtain rfl : T5 = 11 := by omega
  refine hxa_aload_n (by rfl) rfl ?_
  refine hxa_get (v := .ref 27) (by rfl) (by rfl) (by rfl) rfl ?_
  refine hxa_aload_n (by rfl) rfl ?_
  refine hxj_getT (by rfl) (by rfl) (by rfl) eT5 ?_
  refine hxa_call0 (by rfl) (by rfl) (by rfl) (by rfl) (by rfl) (by rfl) (hX16g (d := d + 0) hsw hT5 eT5) ?_
  rintro _ A1 ⟨hA1, rfl, c1⟩
  refine hxa_aload_n (by rfl) rfl ?_
  refine hxa_get (v := .ref 41) (by rfl) (by rfl) (by rfl) rfl ?_
  refine hxa_iconst (by rfl) rfl ?_
  refine hxj_putI (by rfl) (by rfl) (by rfl) (by rfl) hA1 (hbok (by rfl) hk_0 (by omega) (by omega)) (by rfl) (by rfl) (fun A2 hA2 eA2 fA2 => ?_)
  refine hxa_aload_n (by rfl) rfl ?_
  refine hxa_get (v := .ref 341) (by rfl) (by rfl) (by rfl) rfl ?_
  refine hxa_iconst (by rfl) rfl ?_
  refine hxj_putI (by rfl) (by rfl) (by rfl) (by rfl) hA2 (hbok (by rfl) hk_0 (by omega) (by omega)) (by rfl) (by rfl) (fun A3 hA3 eA3 fA3 => ?_)
  refine hxa_aload_n (by rfl) rfl ?_
  refine hxa_iconst (by rfl) rfl ?_
  refine hxj_putI (by rfl) (by rfl) (by rfl) (by rfl) hA3 (hbokN (by rfl)) (by rfl) (by rfl) (fun A4 hA4 eA4 fA4 => ?_)
  refine hxa_aload_n (by rfl) rfl ?_
  refine hxa_get (v := .ref 329) (by rfl) (by rfl) (by rfl) rfl ?_
  refine hxa_iconst (by rfl) rfl ?_
  refine hxj_putI (by rfl) (by rfl) (by rfl) (by rfl) hA4 (hbok (by rfl) hk_0 (by omega) (by omega)) (by rfl) (by rfl) (fun A5 hA5 eA5 fA5 => ?_)
  exact hxa_return (by rfl) rfl (hP _ _ ⟨(hJ.mono (hJ.self hA5) (by omega) (by omega)), rfl, ⟨(hA5.2.2.1.1 0 1 (by rfl)).trans (congrFun (congrFun w1 0) 1), (hA5.2.2.1.1 367 2 (by rfl)).trans (congrFun (congrFun w1 367) 2), (hA5.2.2.1.1 0 2 (by rfl)).trans (congrFun (congrFun w1 0) 2), (hA5.2.2.1.2.2.1 rfl).trans (by rw [eW5]), fun j => (hA5.2.2.1.2.1 368 (by rfl) j).trans (by rw [eW5]), (hA5.2.2.1.2.2.2 0 3 (by rfl)).trans w03, hkF eA5 (by first | decide | omega) (hkF eA4 (by first | decide | omega) (hkS eA3)), hkF eA5 (by first | decide | omega) (hkS eA4), hkF eA5 (by first | decide | omega) (hkF eA4 (by first | decide | omega) (hkF eA3 (by first | decide | omega) (hkS eA2))), (hA5.2.2.1.1 11 4 (by rfl)).trans (congrFun (congrFun w1 11) 4), (hA5.2.2.1.1 11 5 (by rfl)).trans (congrFun (congrFun w1 11) 5), c1.mv (fun k _ => by rw [eA5, hup2 (by omega), eA4, hup2 (by omega), eA3, hup2 (by omega), eA2, hup2 (by omega)]) (by rw [fA5, fA4, fA3, fA2]) w1.symm (by rw [eW5])⟩⟩)
theorem hX74q52 {d : Nat} {N : Int} {A : hs_A} (hA : hJ 0 N (N + 72) A A) (h3 : A.2.2.2 0 3 = 3) (h4 : A.2.2.2 0 4 = 12) (hp : hPg A 14)  : hxC (d + 2) 74 hm_m74 [.ref 1] A (fun r A' => hJ 0 (N + 72) (N + 144) A' A' ∧ r = none ∧ (A'.1 0 1 = A.1 0 1 ∧ A'.1 367 2 = A.1 367 2 ∧ A'.1 0 2 = A.1 0 2 ∧ A'.2.2.1 = A.2.2.1 ∧ (∀ j, A'.2.1 368 j = A.2.1 368 j) ∧ A'.2.2.2 0 3 = 12 ∧ A'.1 340 2 = Int32.ofNat 0 ∧ A'.1 0 10 = Int32.ofNat 0 ∧ A'.1 40 2 = Int32.ofNat 0 ∧ A'.1 11 4 = A.1 11 4 ∧ A'.1 11 5 = A.1 11 5 ∧ hBg 11 A A')) := hxC.of (by rfl) (hY74q52 hA h3 h4 hp (fun r A' h => h))
theorem hY73q52 {d : Nat} {N : Int} {A : hs_A} (hA : hJ 0 N (N + 72) A A) (h3 : A.2.2.2 0 3 = 3) (h4 : A.2.2.2 0 4 = 12) {B : Nat → Int} {n : Nat} (hTp : hcTp B n A) (h1 : (A.1 0 1).toInt = (n : Int)) (hBr : ∀ i, i < n → -128 ≤ B i ∧ B i ≤ 127) (hU : hcU A) (uH : uf_H A)  {P : Option Value → hs_A → Prop} (hP : ∀ (r : Option Value) (A' : hs_A), (hJ 0 (N + 72) (N + 144) A' A' ∧ ∃ z : Int32, r = some (.int z) ∧ ((A'.1 0 1).toInt = 0 ∧ A'.1 367 2 = A.1 367 2 ∧ hq_res (ht_K B n) (ht_W B n) (fun u => (ht_S B n u : Int)) (ht_E B n) z.toInt (A'.1 0 2).toInt ∧ hcU A' ∧ (∀ j, A'.2.1 368 j = A.2.1 368 j) ∧ (z.toInt = 0 → A'.2.2.2 0 3 = 12 ∧ hq_hs (ht_K B n) (ht_W B n) (ht_E B n) (A'.1 11 4).toInt (A'.1 11 5).toInt ∧ A'.1 340 2 = Int32.ofNat 0 ∧ A'.1 0 10 = Int32.ofNat 0 ∧ A'.1 40 2 = Int32.ofNat 0 ∧ hdQ (ht_K B n) (ht_W B n) (ht_E B n) 11 A' ∧ hBg 11 A' A') ∧ (¬ z.toInt = 0 → A'.2.2.2 0 3 = 3 ∧ A'.1 2 4 = A.1 2 4 ∧ A'.1 2 5 = A.1 2 5 ∧ A'.1 340 2 = A.1 340 2 ∧ A'.1 0 10 = A.1 0 10 ∧ A'.1 40 2 = A.1 40 2 ∧ (∀ i k, (26 ≤ i ∨ 2 ≤ i ∧ i ≤ 10) → A'.1 i k = A.1 i k) ∧ (∀ i, (26 ≤ i ∨ 2 ≤ i ∧ i ≤ 10) → ∀ j, A'.2.1 i j = A.2.1 i j)))) → P r A') : hxa (d + 25) (some (.int)) hm_t73 0 [.ref 1, .retAddr 0] [] A P := by
  refine hxa_aload_n (by rfl) rfl ?_
  refine hxa_get (v := .ref 21) (by rfl) (by rfl) (by rfl) rfl ?_
  refine hxa_aload_n (by rfl) rfl ?_
  refine hxj_getT (by rfl) (by rfl) (by rfl) h4 ?_
  refine hxa_aload_n (by rfl) rfl ?_
  refine hxa_get (v := .ref 2) (by rfl) (by rfl) (by rfl) rfl ?_
  refine hxa_aload_n (by rfl) rfl ?_
  refine hxj_getB (by rfl) (by rfl) (by rfl) hA (by rfl) (fun z1 ez1 fz1 gz1 => ?_)
  have h1z : z1.toInt = (n : Int) := by rw [← ez1]; exact h1
  refine hxa_call0 (by rfl) (by rfl) (by rfl) (by rfl) (by rfl) (by rfl) (uf_m37 (T := 11) (Or.inr rfl) uH (hxC.and (g := 0) (hX37q2 (d := d + 0) hA z1 (by omega) (by omega)) (fun g => hP37n (T := 11) (Or.inr rfl) z1 hTp h1z (by omega) (fun i hi => (hBr i hi).2) hU))) ?_
  rintro _ A2 ⟨⟨⟨hA2, z3, rfl, fz3⟩, A2v, hvis, z3v, ez3v, RS, hU2, HS, HQ⟩, w2, H2⟩
  have ezz : z3v = z3 := by injection ez3v with e; injection e with e; exact e.symm
  rw [ezz] at RS HS HQ
  have HQ2 : z3.toInt = 0 → hdQ (ht_K B n) (ht_W B n) (ht_E B n) 11 A2 := fun q => (hdQ.of ht_W_ok (HQ q) (HS q) (by rw [hvis.f (i := 15) (k := 4) (by rfl) (by rfl)]; exact (hbok.get (hA2.1.1 15 4) rfl).2)).uf (Or.inr rfl) (uf_vis (hs_vis_sy hvis)) (by decide +kernel)
  have HS2 : z3.toInt = 0 → hq_hs (ht_K B n) (ht_W B n) (ht_E B n) (A2.1 11 4).toInt (A2.1 11 5).toInt := fun q => by rw [← hvis.f (i := 11) (k := 4) (by rfl) (by rfl), ← hvis.f (i := 11) (k := 5) (by rfl) (by rfl)]; exact HS q
  have RS2 : hq_res (ht_K B n) (ht_W B n) (fun u => (ht_S B n u : Int)) (ht_E B n) z3.toInt (A2.1 20 6).toInt := by rw [← hvis.f (i := 20) (k := 6) (by rfl) (by rfl)]; exact RS
  have hU3 : hcU A2 := hvis.U hU2
  have hen := hJ.end2 hA2 h3 h4
  have h10 := hJ.to10 hen.1
  refine hxa_s1 (by rfl) (Or.inl ⟨_, rfl, rfl⟩) rfl ?_
  refine hxa_aload_n (by rfl) rfl ?_
  refine hxa_iconst (by rfl) rfl ?_
  refine hxj_putI (by rfl) (by rfl) (by rfl) (by rfl) h10 (hbok (by rfl) hk_0 (by omega) (by omega)) (by rfl) (by rfl) (fun A4 hA4 eA4 fA4 => ?_)
  refine hxa_aload_n (by rfl) rfl ?_
  refine hxa_aload_n (by rfl) rfl ?_
  refine hxa_get (v := .ref 21) (by rfl) (by rfl) (by rfl) rfl ?_
  refine hxj_getI (by rfl) (by rfl) (by rfl) (fun z5 ez5 => ?_)
  refine hxj_putI (by rfl) (by rfl) (by rfl) (by rfl) hA4 (hbokN (by rfl)) (by rfl) (by rfl) (fun A6 hA6 eA6 fA6 => ?_)
  refine hxa_iload_n (by rfl) rfl ?_
  refine hxj_zne (by rfl) rfl (fun q7 => ?_) (fun q7 => ?_)
  ·
    refine hxa_iload_n (by rfl) rfl ?_
    have he := hJ.end10 hA6
    exact hxa_ireturn (by rfl) rfl (hP _ _ ⟨(hJ.mono he.1 (by omega) (by omega)), _, rfl, ⟨by rw [(show A6.1 0 1 = (Int32.ofNat 0) from (hkF eA6 (by first | decide | omega) (hkS eA4)))]; decide, Eq.trans (hkF eA6 (by first | decide | omega) (hkF eA4 (by first | decide | omega) rfl)) hen.2.2.2, by rw [show A6.1 0 2 = z5 from hkS eA6, ← ez5, hkF eA4 (by first | decide | omega) rfl]; exact RS2, hU3.fr (by rw [fA6, fA4]), fun j => by rw [fA6, fA4]; exact hA2.2.2.1.2.1 368 (by rfl) j, fun q => absurd q q7, fun _ => ⟨he.2.1.trans hen.2.1, Eq.trans (hkF eA6 (by first | decide | omega) (hkF eA4 (by first | decide | omega) rfl)) (hA2.2.2.1.1 2 4 (by rfl)), Eq.trans (hkF eA6 (by first | decide | omega) (hkF eA4 (by first | decide | omega) rfl)) (hA2.2.2.1.1 2 5 (by rfl)), Eq.trans (hkF eA6 (by first | decide | omega) (hkF eA4 (by first | decide | omega) rfl)) (hA2.2.2.1.1 340 2 (by rfl)), Eq.trans (hkF eA6 (by first | decide | omega) (hkF eA4 (by first | decide | omega) rfl)) (hA2.2.2.1.1 0 10 (by rfl)), Eq.trans (hkF eA6 (by first | decide | omega) (hkF eA4 (by first | decide | omega) rfl)) (hA2.2.2.1.1 40 2 (by rfl)), fun i k hi => Eq.trans (hkF eA6 (by omega) (hkF eA4 (by omega) rfl)) (hA2.2.2.1.1 i k (hpar_hi11 hi)), fun i hi j => by rw [fA6, fA4]; exact hA2.2.2.1.2.1 i (hpara_hi11 hi) j⟩⟩⟩)
  ·
    refine hxa_aload_n (by rfl) rfl ?_
    have he := hJ.end10 hA6
    have hpg : hPg A6 14 := fun j hj => by rw [hA6.2.2.1.2.1 14 (by rfl) j]; exact (fz3 (by omega)) j hj
    have H6 : uf_H A6 := H2.e (by rw [fA6, fA4])
    have w46 : uf_W uMz A2 A6 := (uf_W.rfl.put eA4 fA4 (by decide +kernel)).put eA6 fA6 (by decide +kernel)
    refine hxa_call0 (by rfl) (by rfl) (by rfl) (by rfl) (by rfl) (by rfl) (uf_m74 H6 (hX74q52 (d := d + 23) he.1 (he.2.1.trans hen.2.1) (he.2.2.trans hen.2.2.1) hpg)) ?_
    rintro _ A8 ⟨⟨hA8, rfl, fA8⟩, w8, H8⟩
    refine hxa_iload_n (by rfl) rfl ?_
    exact hxa_ireturn (by rfl) rfl (hP _ _ ⟨(hJ.mono hA8 (by omega) (by omega)), _, rfl, ⟨by rw [(show A8.1 0 1 = (Int32.ofNat 0) from ((fA8.1).trans (hkF eA6 (by first | decide | omega) (hkS eA4))))]; decide, ((fA8.2.1).trans (Eq.trans (hkF eA6 (by first | decide | omega) (hkF eA4 (by first | decide | omega) rfl)) hen.2.2.2)), by rw [fA8.2.2.1]; rw [show A6.1 0 2 = z5 from hkS eA6, ← ez5, hkF eA4 (by first | decide | omega) rfl]; exact RS2, hU3.fr (by rw [fA8.2.2.2.1, fA6, fA4]), fun j => by rw [fA8.2.2.2.2.1 j, fA6, fA4]; exact hA2.2.2.1.2.1 368 (by rfl) j, fun _ => ⟨fA8.2.2.2.2.2.1, by rw [fA8.2.2.2.2.2.2.2.2.2.1, fA8.2.2.2.2.2.2.2.2.2.2.1, show A6.1 11 4 = A2.1 11 4 from hkF eA6 (by first | decide | omega) (hkF eA4 (by first | decide | omega) rfl), show A6.1 11 5 = A2.1 11 5 from hkF eA6 (by first | decide | omega) (hkF eA4 (by first | decide | omega) rfl)]; exact HS2 (by omega), fA8.2.2.2.2.2.2.1, fA8.2.2.2.2.2.2.2.1, fA8.2.2.2.2.2.2.2.2.1, ((HQ2 (by omega)).uf (Or.inr rfl) w46 (by decide +kernel)).uf (Or.inr rfl) w8 (by decide +kernel), fA8.2.2.2.2.2.2.2.2.2.2.2.to (Or.inr rfl) w8 (by decide +kernel)⟩, fun q => absurd (by omega) q⟩⟩)
theorem hX73q52 {d : Nat} {N : Int} {A : hs_A} (hA : hJ 0 N (N + 72) A A) (h3 : A.2.2.2 0 3 = 3) (h4 : A.2.2.2 0 4 = 12) {B : Nat → Int} {n : Nat} (hTp : hcTp B n A) (h1 : (A.1 0 1).toInt = (n : Int)) (hBr : ∀ i, i < n → -128 ≤ B i ∧ B i ≤ 127) (hU : hcU A) (uH : uf_H A)  : hxC (d + 26) 73 hm_m73 [.ref 1] A (fun r A' => hJ 0 (N + 72) (N + 144) A' A' ∧ ∃ z : Int32, r = some (.int z) ∧ ((A'.1 0 1).toInt = 0 ∧ A'.1 367 2 = A.1 367 2 ∧ hq_res (ht_K B n) (ht_W B n) (fun u => (ht_S B n u : Int)) (ht_E B n) z.toInt (A'.1 0 2).toInt ∧ hcU A' ∧ (∀ j, A'.2.1 368 j = A.2.1 368 j) ∧ (z.toInt = 0 → A'.2.2.2 0 3 = 12 ∧ hq_hs (ht_K B n) (ht_W B n) (ht_E B n) (A'.1 11 4).toInt (A'.1 11 5).toInt ∧ A'.1 340 2 = Int32.ofNat 0 ∧ A'.1 0 10 = Int32.ofNat 0 ∧ A'.1 40 2 = Int32.ofNat 0 ∧ hdQ (ht_K B n) (ht_W B n) (ht_E B n) 11 A' ∧ hBg 11 A' A') ∧ (¬ z.toInt = 0 → A'.2.2.2 0 3 = 3 ∧ A'.1 2 4 = A.1 2 4 ∧ A'.1 2 5 = A.1 2 5 ∧ A'.1 340 2 = A.1 340 2 ∧ A'.1 0 10 = A.1 0 10 ∧ A'.1 40 2 = A.1 40 2 ∧ (∀ i k, (26 ≤ i ∨ 2 ≤ i ∧ i ≤ 10) → A'.1 i k = A.1 i k) ∧ (∀ i, (26 ≤ i ∨ 2 ≤ i ∧ i ≤ 10) → ∀ j, A'.2.1 i j = A.2.1 i j)))) := hxC.of (by rfl) (hY73q52 hA h3 h4 hTp h1 hBr hU uH (fun r A' h => h))
