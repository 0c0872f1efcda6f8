def uM171 : Nat := 11935757673834879411729173955523700162410947619136345219220172552752681381867113053945856
theorem hW171 {g d f : Nat} {A : hs_A} {sd : Nat} {D : hg_D} (hK : hrK sd D A) (hH0 : uf_H A) {P : Option Value → hs_A → Prop} (hP : ∀ (r : Option Value) (A' : hs_A), (r = none ∧ ((∀ k, k < 73 → A'.2.1 396 k = A.2.1 395 k) ∧ A'.1 367 47 = A.2.1 382 sd ∧ A'.1 367 48 = Int32.ofNat 0)) → P r A') : hpa (f, g) d none hm_t171 0 [.ref 368, .retAddr 0] [] A P := by
  have k0 := hk_0
  have k1 := hk_1
  have k73 := hk_73
  have k18 := hK.1
  have ksd := hK.2.1
  have U0 : uf_W uM171 A A := uf_W.rfl
  have L2 : ∀ (f : Nat) (x2_1 : Int32) (A2 : hs_A) (k : Nat) (bk : k ≤ 73) (ek : x2_1 = Int32.ofNat k) (R2 : ∀ j, j < k → A2.2.1 396 j = A.2.1 395 j) (U2 : uf_W uM171 A A2) (H2 : uf_H A2), hpa (f, g) d none hm_t171 2 [.ref 368, .int x2_1] [] A2 P := by
    intro f
    induction f with
    | zero => intros; exact hpa.zero
    | succ f ih2 =>
      intro x2_1 A2 k bk ek R2 U2 H2
      subst ek
      have ck := hn_c (n := k) (z := Int32.ofNat k) rfl (by omega)
      refine hpa_iload_nS (by rfl) rfl ?_
      refine hpa_bipush (by rfl) rfl ?_
      refine hpj_cge (by rfl) ck hk_73 (fun q1 => ?_) (fun q1 => ?_)
      ·
        refine hpa_aload_n (by rfl) rfl ?_
        refine hpa_aload_n (by rfl) rfl ?_
        refine hpa_get (v := .ref 383) (by rfl) (by rfl) (by rfl) rfl ?_
        refine hpa_aload_n (by rfl) rfl ?_
        refine hpj_getK (by rfl) (by rfl) (by rfl) rfl ?_
        have k18A2 : (A2.1 367 18).toInt = (sd : Int) := (congrArg Int32.toInt (U2.1 367 _ _ 18 rfl rfl (by decide +kernel))).trans hK.1
        refine hpx_iald (by rfl) (by rfl) (fun h0v2 h1v2 v2 ev2 => ?_)
        have qv2 : A2.2.1 382 sd = A.2.1 382 sd := U2.2.1 382 _ _ sd rfl (by omega) (by decide +kernel)
        rw [show ((A2.1 367 18)).toNatClampNeg = sd from by have := hn_cn (j := (A2.1 367 18)) (by omega); omega, qv2] at ev2
        subst ev2
        refine hpj_putI (by rfl) (by rfl) (by rfl) (by rfl) (fun A3 eA3 fA3 => ?_)
        have UA3 := (U2).put eA3 fA3 (by decide +kernel)
        have HA3 := (H2).e (congrArg (fun q => q.2.2) fA3)
        refine hpa_aload_n (by rfl) rfl ?_
        refine hpa_iconst (by rfl) rfl ?_
        refine hpj_putI (by rfl) (by rfl) (by rfl) (by rfl) (fun A4 eA4 fA4 => ?_)
        have UA4 := (UA3).put eA4 fA4 (by decide +kernel)
        have HA4 := (HA3).e (congrArg (fun q => q.2.2) fA4)
        exact hpa_return (by rfl) rfl (hP _ _ ⟨rfl, fun k hk => by rw [fA4, fA3]; exact R2 k (by omega), by rw [eA4, hup2 (by omega), eA3, hup1], by rw [eA4, hup1]⟩)
      ·
        refine hpa_aload_n (by rfl) rfl ?_
        refine hpa_get (v := .ref 397) (by rfl) (by rfl) (by rfl) rfl ?_
        refine hpa_iload_n (by rfl) rfl ?_
        refine hpa_aload_n (by rfl) rfl ?_
        refine hpa_get (v := .ref 396) (by rfl) (by rfl) (by rfl) rfl ?_
        refine hpa_iload_n (by rfl) rfl ?_
        refine hpx_iald (by rfl) (by rfl) (fun h0v5 h1v5 v5 ev5 => ?_)
        have qv5 : A2.2.1 395 k = A.2.1 395 k := U2.2.1 395 _ _ k rfl (by omega) (by decide +kernel)
        rw [show ((Int32.ofNat k)).toNatClampNeg = k from by have := hn_cn (j := (Int32.ofNat k)) (by omega); omega, qv5] at ev5
        subst ev5
        refine hpx_iast (by rfl) (by rfl) (fun A6 h0A6 h1A6 eA6 fA6 gA6 => ?_)
        have UA6 := (U2).ar eA6 fA6 gA6 (by decide +kernel)
        have HA6 := (H2).e (congrArg (fun q => q.2) gA6)
        refine hpj_iinc (by rfl) rfl ck hk_1 (by omega) (by omega) (fun _ => rfl) (fun z7 ez7 => ?_)
        refine hpa_goto (by rfl) ?_
        exact ih2 z7 A6 (k + 1) (by omega) (huI (by omega) (by omega)) (fun j hj => by rw [fA6, show ((Int32.ofNat k)).toNatClampNeg = k from by have := hn_cn (j := (Int32.ofNat k)) (by omega); omega]; by_cases s : j = k; (rw [s, hup1]); rw [hup2 (by omega)]; exact R2 j (by omega)) UA6 HA6
  refine hpa_iconst (by rfl) rfl ?_
  refine hpa_s1 (by rfl) (Or.inl ⟨_, rfl, rfl⟩) rfl ?_
  exact L2 _ (Int32.ofNat 0) A 0 (by omega) rfl (fun j hj => absurd hj (Nat.not_lt_zero j)) U0 hH0
theorem hP171 {g d : Nat} {A : hs_A} {sd : Nat} {D : hg_D} (hK : hrK sd D A) (hH0 : uf_H A) : hpC g d 171 hm_m171 [.ref 368] A (fun r A' => r = none ∧ ((∀ k, k < 73 → A'.2.1 396 k = A.2.1 395 k) ∧ A'.1 367 47 = A.2.1 382 sd ∧ A'.1 367 48 = Int32.ofNat 0)) := hpC.all (fun f d => hW171 hK hH0 (fun r A' h => h))
def uM172 : Nat := 11935757673834879411729173955523700162410947619136345219220172552752681381867113053945856
theorem hW172 {g d f : Nat} {A : hs_A} {sd : Nat} {D : hg_D} (hK : hrK sd D A) (hH0 : uf_H A) {P : Option Value → hs_A → Prop} (hP : ∀ (r : Option Value) (A' : hs_A), (r = none ∧ ((∀ k, k < 73 → A'.2.1 396 k = A.2.1 395 k) ∧ A'.1 367 47 = A.2.1 382 sd ∧ A'.1 367 48 = Int32.ofNat 1)) → P r A') : hpa (f, g) d none hm_t172 0 [.ref 368] [] A P := by
  have k1 := hk_1
  have k18 := hK.1
  have ksd := hK.2.1
  have U0 : uf_W uM172 A A := uf_W.rfl
  refine hpa_aload_n (by rfl) rfl ?_
  refine hpa_call0 (by rfl) (by rfl) (by rfl) (by rfl) (by rfl) (by rfl) (uf_C (X := ug_x113) (j := 113) rfl rfl (ug_L.cons (uf_rk_ok (by decide +kernel)) uf_nil) hH0 (hP171 hK hH0)) ?_
  rintro _ A1 ⟨⟨rfl, RW_A1, LS_A1, SL_A1⟩, wA1, HA1⟩
  have UA1 := (U0).trans (wA1.le (by decide +kernel : ug_wle ug_x113.2.2.2.1 uM172 = true))
  refine hpa_aload_n (by rfl) rfl ?_
  refine hpa_iconst (by rfl) rfl ?_
  refine hpj_putI (by rfl) (by rfl) (by rfl) (by rfl) (fun A2 eA2 fA2 => ?_)
  have UA2 := (UA1).put eA2 fA2 (by decide +kernel)
  have HA2 := (HA1).e (congrArg (fun q => q.2.2) fA2)
  exact hpa_return (by rfl) rfl (hP _ _ ⟨rfl, fun k hk => by rw [fA2]; exact RW_A1 k hk, by rw [eA2, hup2 (by omega)]; exact LS_A1, by rw [eA2, hup1]⟩)
theorem hP172 {g d : Nat} {A : hs_A} {sd : Nat} {D : hg_D} (hK : hrK sd D A) (hH0 : uf_H A) : hpC g d 172 hm_m172 [.ref 368] A (fun r A' => r = none ∧ ((∀ k, k < 73 → A'.2.1 396 k = A.2.1 395 k) ∧ A'.1 367 47 = A.2.1 382 sd ∧ A'.1 367 48 = Int32.ofNat 1)) := hpC.all (fun f d => hW172 hK hH0 (fun r A' h => h))
def uM170 : Nat := 324518553658426726783156020576256
theorem hW170k {g d f : Nat} {A : hs_A} (hH0 : uf_H A) {P : Option Value → hs_A → Prop} (hP : ∀ (r : Option Value) (A' : hs_A), (r = none ∧ ((∀ k, k < 73 → A'.2.1 395 k = A.2.1 396 k))) → P r A') : hpa (f, g) d none hm_t170 0 [.ref 368, .retAddr 0] [] A P := by
  have k0 := hk_0
  have k1 := hk_1
  have k73 := hk_73
  have U0 : uf_W uM170 A A := uf_W.rfl
  have L2 : ∀ (f : Nat) (x2_1 : Int32) (A2 : hs_A) (k : Nat) (bk : k ≤ 73) (ek : x2_1 = Int32.ofNat k) (R2 : ∀ j, j < k → A2.2.1 395 j = A.2.1 396 j) (U2 : uf_W uM170 A A2) (H2 : uf_H A2), hpa (f, g) d none hm_t170 2 [.ref 368, .int x2_1] [] A2 P := by
    intro f
    induction f with
    | zero => intros; exact hpa.zero
    | succ f ih2 =>
      intro x2_1 A2 k bk ek R2 U2 H2
      subst ek
      have ck := hn_c (n := k) (z := Int32.ofNat k) rfl (by omega)
      refine hpa_iload_nS (by rfl) rfl ?_
      refine hpa_bipush (by rfl) rfl ?_
      refine hpj_cge (by rfl) ck hk_73 (fun q1 => ?_) (fun q1 => ?_)
      ·
        exact hpa_return (by rfl) rfl (hP _ _ ⟨rfl, fun k hk => R2 k (by omega)⟩)
      ·
        refine hpa_aload_n (by rfl) rfl ?_
        refine hpa_get (v := .ref 396) (by rfl) (by rfl) (by rfl) rfl ?_
        refine hpa_iload_n (by rfl) rfl ?_
        refine hpa_aload_n (by rfl) rfl ?_
        refine hpa_get (v := .ref 397) (by rfl) (by rfl) (by rfl) rfl ?_
        refine hpa_iload_n (by rfl) rfl ?_
        refine hpx_iald (by rfl) (by rfl) (fun h0v2 h1v2 v2 ev2 => ?_)
        have qv2 : A2.2.1 396 k = A.2.1 396 k := U2.2.1 396 _ _ k rfl (by omega) (by decide +kernel)
        rw [show ((Int32.ofNat k)).toNatClampNeg = k from by have := hn_cn (j := (Int32.ofNat k)) (by omega); omega, qv2] at ev2
        subst ev2
        refine hpx_iast (by rfl) (by rfl) (fun A3 h0A3 h1A3 eA3 fA3 gA3 => ?_)
        have UA3 := (U2).ar eA3 fA3 gA3 (by decide +kernel)
        have HA3 := (H2).e (congrArg (fun q => q.2) gA3)
        refine hpj_iinc (by rfl) rfl ck hk_1 (by omega) (by omega) (fun _ => rfl) (fun z4 ez4 => ?_)
        refine hpa_goto (by rfl) ?_
        exact ih2 z4 A3 (k + 1) (by omega) (huI (by omega) (by omega)) (fun j hj => by rw [fA3, show ((Int32.ofNat k)).toNatClampNeg = k from by have := hn_cn (j := (Int32.ofNat k)) (by omega); omega]; by_cases s : j = k; (rw [s, hup1]); rw [hup2 (by omega)]; exact R2 j (by omega)) UA3 HA3
  refine hpa_iconst (by rfl) rfl ?_
  refine hpa_s1 (by rfl) (Or.inl ⟨_, rfl, rfl⟩) rfl ?_
  exact L2 _ (Int32.ofNat 0) A 0 (by omega) rfl (fun j hj => absurd hj (Nat.not_lt_zero j)) U0 hH0
theorem hP170k {g d : Nat} {A : hs_A} (hH0 : uf_H A) : hpC g d 170 hm_m170 [.ref 368] A (fun r A' => r = none ∧ ((∀ k, k < 73 → A'.2.1 395 k = A.2.1 396 k))) := hpC.all (fun f d => hW170k hH0 (fun r A' h => h))
theorem hW173 {g d f : Nat} {A : hs_A} (a1 a2 : Int32) {P : Option Value → hs_A → Prop} (hP : ∀ (r : Option Value) (A' : hs_A), (A = A' ∧ ∃ z : Int32, r = some (.int z) ∧ z = huMx a1 a2) → P r A') : hpa (f, g) d (some (.int)) hm_t173 0 [.int a1, .int a2, .retAddr 0] [] A P := by
  have k1103515245 := hk_1103515245
  have k12345 := hk_12345
  have k15 := hk_15
  refine hpa_iload_n (by rfl) rfl ?_
  refine hpa_iload_n (by rfl) rfl ?_
  refine hpa_ixor (by rfl) ?_
  refine hpa_ldc_w (by rfl) rfl ?_
  refine hpa_imul (by rfl) ?_
  refine hpa_sipush (by rfl) rfl ?_
  refine hpa_iadd (by rfl) ?_
  refine hpa_s1 (by rfl) (Or.inl ⟨_, rfl, rfl⟩) rfl ?_
  refine hpa_iload_n (by rfl) rfl ?_
  refine hpa_iload_n (by rfl) rfl ?_
  refine hpa_bipush (by rfl) rfl ?_
  refine hpa_iushr (by rfl) ?_
  refine hpa_ixor (by rfl) ?_
  exact hpa_ireturn (by rfl) rfl (hP _ _ ⟨rfl, _, rfl, rfl⟩)
theorem hP173 {g d : Nat} {A : hs_A} (a1 a2 : Int32) : hpC g d 173 hm_m173 [.int a1, .int a2] A (fun r A' => A = A' ∧ ∃ z : Int32, r = some (.int z) ∧ z = huMx a1 a2) := hpC.all (fun f d => hW173 a1 a2 (fun r A' h => h))
theorem hW174 {g d f : Nat} {A : hs_A} {s : Int32} (a1 : Int32) (hs : A.1 367 47 = s) {P : Option Value → hs_A → Prop} (hP : ∀ (r : Option Value) (A' : hs_A), (A = A' ∧ ∃ z : Int32, r = some (.int z) ∧ z = huLt s a1) → P r A') : hpa (f, g) d (some (.int)) hm_t174 0 [.ref 368, .int a1] [] A P := by
  have k1 := hk_1
  have k100 := hk_100
  have k137 := hk_137
  refine hpa_aload_n (by rfl) rfl ?_
  refine hpj_getK (by rfl) (by rfl) (by rfl) rfl ?_
  rw [show (A.1 367 47) = s from hs]
  refine hpa_sipush (by rfl) rfl ?_
  refine hpa_call2 (by rfl) (by decide) (by rfl) (by rfl) (by rfl) (hP173 s (Int32.ofNat 137)) ?_
  rintro _ _ ⟨rfl, z2, rfl, Z_A1⟩
  subst Z_A1
  refine hpa_iload_n (by rfl) rfl ?_
  refine hpa_call2 (by rfl) (by decide) (by rfl) (by rfl) (by rfl) (hP173 (huMx s (Int32.ofNat 137)) a1) ?_
  rintro _ _ ⟨rfl, z4, rfl, Z_A3⟩
  subst Z_A3
  refine hpa_iconst (by rfl) rfl ?_
  refine hpa_iushr (by rfl) ?_
  refine hpa_bipush (by rfl) rfl ?_
  refine hpa_irem (by rfl) (by decide) ?_
  exact hpa_ireturn (by rfl) rfl (hP _ _ ⟨rfl, _, rfl, rfl⟩)
theorem hP174 {g d : Nat} {A : hs_A} {s : Int32} (a1 : Int32) (hs : A.1 367 47 = s) : hpC g d 174 hm_m174 [.ref 368, .int a1] A (fun r A' => A = A' ∧ ∃ z : Int32, r = some (.int z) ∧ z = huLt s a1) := hpC.all (fun f d => hW174 a1 hs (fun r A' h => h))
theorem hW182 {g d f : Nat} {A : hs_A} {ro : Nat → Int32} {h : Nat} (a1 : Int32) (hg : ∀ k, k < 73 → A.2.1 396 k = ro k) (hh : h ≤ 9) (ha : a1 = Int32.ofNat h) {P : Option Value → hs_A → Prop} (hP : ∀ (r : Option Value) (A' : hs_A), (A = A' ∧ ∃ z : Int32, r = some (.int z) ∧ ((z.toInt = 1 ∧ huH ro h = true) ∨ (z.toInt = 0 ∧ huH ro h = false))) → P r A') : hpa (f, g) d (some (.boolean)) hm_t182 0 [.ref 368, .int a1] [] A P := by
  have k0 := hk_0
  have k1 := hk_1
  have k50 := hk_50
  have k60 := hk_60
  have ch := hn_c (n := h) (z := Int32.ofNat h) rfl (by omega)
  have cah : a1.toInt = (h : Int) := by rw [ha]; exact ch
  have cih : a1.toNatClampNeg = h := by have := hn_cn (j := a1) (by omega); omega
  refine hpa_aload_n (by rfl) rfl ?_
  refine hpa_get (v := .ref 397) (by rfl) (by rfl) (by rfl) rfl ?_
  refine hpa_bipush (by rfl) rfl ?_
  refine hpa_iload_n (by rfl) rfl ?_
  refine hpj_iadd (by rfl) hk_50 rfl (by omega) (by omega) (fun z1 ez1 => ?_)
  refine hpx_iald (by rfl) (by rfl) (fun h0v2 h1v2 v2 ev2 => ?_)
  rw [show (z1).toNatClampNeg = 50 + h from by have := hn_cn (j := z1) (by omega); omega] at ev2
  have lv2 := ev2.symm.trans (show _ = ro (50 + h) from hg (50 + h) (by omega))
  clear ev2
  subst lv2
  refine hpa_iconst (by rfl) rfl ?_
  refine hpj_cne (by rfl) rfl hk_1 (fun q3 => ?_) (fun q3 => ?_)
  ·
    refine hpa_iconst (by rfl) rfl ?_
    exact hpa_ireturn (by rfl) (by rfl) (hP _ _ ⟨rfl, _, rfl, Or.inr ⟨hk_0, by unfold huH; rw [decide_eq_false q3, Bool.false_and]⟩⟩)
  ·
    refine hpa_aload_n (by rfl) rfl ?_
    refine hpa_get (v := .ref 397) (by rfl) (by rfl) (by rfl) rfl ?_
    refine hpa_bipush (by rfl) rfl ?_
    refine hpa_iload_n (by rfl) rfl ?_
    refine hpj_iadd (by rfl) hk_60 rfl (by omega) (by omega) (fun z4 ez4 => ?_)
    refine hpx_iald (by rfl) (by rfl) (fun h0v5 h1v5 v5 ev5 => ?_)
    rw [show (z4).toNatClampNeg = 60 + h from by have := hn_cn (j := z4) (by omega); omega] at ev5
    have lv5 := ev5.symm.trans (show _ = ro (60 + h) from hg (60 + h) (by omega))
    clear ev5
    subst lv5
    refine hpj_zne (by rfl) rfl (fun q6 => ?_) (fun q6 => ?_)
    ·
      refine hpa_iconst (by rfl) rfl ?_
      exact hpa_ireturn (by rfl) (by rfl) (hP _ _ ⟨rfl, _, rfl, Or.inr ⟨hk_0, by unfold huH; rw [decide_eq_false q6, Bool.and_false]⟩⟩)
    ·
      refine hpa_iconst (by rfl) rfl ?_
      refine hpa_goto (by rfl) ?_
      exact hpa_ireturn (by rfl) (by rfl) (hP _ _ ⟨rfl, _, rfl, Or.inl ⟨hk_1, by unfold huH; rw [decide_eq_true q3, decide_eq_true q6]; rfl⟩⟩)
theorem hP182 {g d : Nat} {A : hs_A} {ro : Nat → Int32} {h : Nat} (a1 : Int32) (hg : ∀ k, k < 73 → A.2.1 396 k = ro k) (hh : h ≤ 9) (ha : a1 = Int32.ofNat h) : hpC g d 182 hm_m182 [.ref 368, .int a1] A (fun r A' => A = A' ∧ ∃ z : Int32, r = some (.int z) ∧ ((z.toInt = 1 ∧ huH ro h = true) ∨ (z.toInt = 0 ∧ huH ro h = false))) := hpC.all (fun f d => hW182 a1 hg hh ha (fun r A' h => h))
theorem hW183 {g d f : Nat} {A : hs_A} {sd : Nat} {D : hg_D} {ro : Nat → Int32} {n : Nat} (hK : hrK sd D A) (hg : ∀ k, k < 73 → A.2.1 396 k = ro k) (hO : huO ro n) {P : Option Value → hs_A → Prop} (hP : ∀ (r : Option Value) (A' : hs_A), (A = A' ∧ ∃ z : Int32, r = some (.int z) ∧ z = huN D ro) → P r A') : hpa (f, g) d (some (.int)) hm_t183 0 [.ref 368] [] A P := by
  have k24 := hk_24
  have k4294967295 := hk_4294967295
  have k70 := hk_70
  have k71 := hk_71
  have k18 := hK.1
  have ksd := hK.2.1
  obtain ⟨V, ns, bb, zz, k1, kM, k2⟩ := hK.2.2.2.2
  have hX := kM.2.1.1
  have hO70 := hO.2.1
  refine hpa_aload_n (by rfl) rfl ?_
  refine hpa_get (v := .ref 397) (by rfl) (by rfl) (by rfl) rfl ?_
  refine hpa_bipush (by rfl) rfl ?_
  refine hpx_iald (by rfl) (by rfl) (fun h0v1 h1v1 v1 ev1 => ?_)
  rw [show ((Int32.ofNat 71)).toNatClampNeg = 71 from by have := hn_cn (j := (Int32.ofNat 71)) (by omega); omega] at ev1
  have lv1 := ev1.symm.trans (show _ = ro 71 from hg 71 (by omega))
  clear ev1
  subst lv1
  refine hpa_iconst (by rfl) rfl ?_
  refine hpj_ceq (by rfl) rfl hk_4294967295 (fun q2 => ?_) (fun q2 => ?_)
  ·
    refine hpa_aload_n (by rfl) rfl ?_
    refine hpa_get (v := .ref 381) (by rfl) (by rfl) (by rfl) rfl ?_
    refine hpa_bipush (by rfl) rfl ?_
    refine hpa_aload_n (by rfl) rfl ?_
    refine hpj_getK (by rfl) (by rfl) (by rfl) rfl ?_
    refine hpj_imul (by rfl) hk_24 k18 (by omega) (by omega) (fun z3 ez3 => ?_)
    refine hpa_aload_n (by rfl) rfl ?_
    refine hpa_get (v := .ref 397) (by rfl) (by rfl) (by rfl) rfl ?_
    refine hpa_bipush (by rfl) rfl ?_
    refine hpx_iald (by rfl) (by rfl) (fun h0v4 h1v4 v4 ev4 => ?_)
    rw [show ((Int32.ofNat 70)).toNatClampNeg = 70 from by have := hn_cn (j := (Int32.ofNat 70)) (by omega); omega] at ev4
    have lv4 := ev4.symm.trans (show _ = ro 70 from hg 70 (by omega))
    clear ev4
    subst lv4
    refine hpa_bipush (by rfl) rfl ?_
    refine hpa_irem (by rfl) (by decide) ?_
    refine hpj_iadd (by rfl) rfl (hs_fm hO70) (by omega) (by omega) (fun z5 ez5 => ?_)
    refine hpx_iald (by rfl) (by rfl) (fun h0v6 h1v6 v6 ev6 => ?_)
    have hm : 0 ≤ (ro 70).toInt % 24 ∧ (ro 70).toInt % 24 < 24 := by omega
    have e43 := hX ((ro 70).toInt % 24).toNat (by omega)
    rw [show (z5).toNatClampNeg = 24 * sd + ((ro 70).toInt % 24).toNat from by have := hn_cn (j := z5) (by omega); omega] at ev6
    rw [ev6] at e43
    exact hpa_ireturn (by rfl) rfl (hP _ _ ⟨rfl, _, rfl, by unfold huN; rw [if_pos q2]; exact Int32.toInt_inj.mp (e43.trans (hofi e43).symm)⟩)
  ·
    refine hpa_aload_n (by rfl) rfl ?_
    refine hpa_get (v := .ref 397) (by rfl) (by rfl) (by rfl) rfl ?_
    refine hpa_bipush (by rfl) rfl ?_
    refine hpx_iald (by rfl) (by rfl) (fun h0v7 h1v7 v7 ev7 => ?_)
    rw [show ((Int32.ofNat 71)).toNatClampNeg = 71 from by have := hn_cn (j := (Int32.ofNat 71)) (by omega); omega] at ev7
    have lv7 := ev7.symm.trans (show _ = ro 71 from hg 71 (by omega))
    clear ev7
    subst lv7
    refine hpa_goto (by rfl) ?_
    exact hpa_ireturn (by rfl) rfl (hP _ _ ⟨rfl, _, rfl, by unfold huN; rw [if_neg q2]⟩)
theorem hP183 {g d : Nat} {A : hs_A} {sd : Nat} {D : hg_D} {ro : Nat → Int32} {n : Nat} (hK : hrK sd D A) (hg : ∀ k, k < 73 → A.2.1 396 k = ro k) (hO : huO ro n) : hpC g d 183 hm_m183 [.ref 368] A (fun r A' => A = A' ∧ ∃ z : Int32, r = some (.int z) ∧ z = huN D ro) := hpC.all (fun f d => hW183 hK hg hO (fun r A' h => h))
def uM184 : Nat := 497323236409786642155382248146820840100456150797347722227112643354953717064084679032832
theorem huRa.over' {D : hg_D} {n k : Nat} {b : Bool} {s : Int32} {ro a a' : Nat → Int32} (w : ∀ j, j < 73 → a j = huRa D n b s ro k j) (hk : k = n) (h9 : n ≤ 10) (f70 : a' 70 = ro 70 + Int32.ofNat 1) (f71 : a' 71 = Int32.ofNat 4294967295) (o : ∀ j, j < 73 → ¬ j = 70 → ¬ j = 71 → a' j = a j) : ∀ j, j < 73 → a' j = huR D n b s ro j := by
  subst hk
  exact huRa.over w h9 f70 f71 o
theorem huRa_at_n {D : hg_D} {n k : Nat} {b : Bool} {s : Int32} {ro : Nat → Int32} (hk : k ≤ 10) : huRa D n b s ro k 70 = ro 70 := by
  unfold huRa
  rw [if_neg (by omega), if_neg (by omega), if_neg (by omega), if_neg (by omega)]
theorem hW184 {g d f : Nat} {A : hs_A} {sd : Nat} {D : hg_D} {ro : Nat → Int32} {n : Nat} {b : Bool} {s : Int32} (hK : hrK sd D A) (hHn : A.2.1 376 sd = Int32.ofNat n) (h10 : n ≤ 10) (hg : ∀ k, k < 73 → A.2.1 396 k = ro k) (hO : huO ro n) (hD : ∀ t, t < 24 → 0 ≤ D.1 t ∧ D.1 t ≤ 255) (hD2 : 0 ≤ D.2.1 ∧ D.2.1 ≤ 10000) (hs : A.1 367 47 = s) (hb : (A.1 367 48).toInt = if b then 0 else 1) (hH0 : uf_H A) {P : Option Value → hs_A → Prop} (hP : ∀ (r : Option Value) (A' : hs_A), (r = none ∧ ((∀ j, j < 73 → A'.2.1 396 j = huR D n b s ro j))) → P r A') : hpa (f, g) d none hm_t184 0 [.ref 368, .retAddr 0] [] A P := by
  have k0 := hk_0
  have k1 := hk_1
  have k16 := hk_16
  have k29 := hk_29
  have k30 := hk_30
  have k40 := hk_40
  have k4294967295 := hk_4294967295
  have k60 := hk_60
  have k70 := hk_70
  have k71 := hk_71
  have k72 := hk_72
  have k18 := hK.1
  have ksd := hK.2.1
  have cn := hn_c (n := n) (z := Int32.ofNat n) rfl (by omega)
  have U0 : uf_W uM184 A A := uf_W.rfl
  have L127 : ∀ (f : Nat) (x127_1 : Int32) (A127 : hs_A) (k : Nat) (bk : k ≤ n) (ek : x127_1 = Int32.ofNat k) (RA : ∀ j, j < 73 → A127.2.1 396 j = huRa D n b s ro k j) (T7m : ∀ j, j < n → A127.2.1 397 j = huHd D n ro j) (T8m : ∀ j, j < n → (A127.2.1 398 j).toInt = if huDy D n ro b s j then 1 else 0) (U127 : uf_W uM184 A A127) (H127 : uf_H A127), hpa (f, g) d none hm_t184 127 [.ref 368, .int x127_1] [] A127 P := by
    intro f
    induction f with
    | zero => intros; exact hpa.zero
    | succ f ih127 =>
      intro x127_1 A127 k bk ek RA T7m T8m U127 H127
      subst ek
      have ck := hn_c (n := k) (z := Int32.ofNat k) rfl (by omega)
      refine hpa_iload_nS (by rfl) rfl ?_
      refine hpa_aload_n (by rfl) rfl ?_
      refine hpa_get (v := .ref 377) (by rfl) (by rfl) (by rfl) rfl ?_
      refine hpa_aload_n (by rfl) rfl ?_
      refine hpj_getK (by rfl) (by rfl) (by rfl) rfl ?_
      have k18A127 : (A127.1 367 18).toInt = (sd : Int) := (congrArg Int32.toInt (U127.1 367 _ _ 18 rfl rfl (by decide +kernel))).trans hK.1
      refine hpx_iald (by rfl) (by rfl) (fun h0v1 h1v1 v1 ev1 => ?_)
      have hHnA127 : A127.2.1 376 sd = Int32.ofNat n := (U127.2.1 376 _ _ sd rfl (by have := hK.2.1; omega) (by decide +kernel)).trans hHn
      rw [show ((A127.1 367 18)).toNatClampNeg = sd from by have := hn_cn (j := (A127.1 367 18)) (by omega); omega, hHnA127] at ev1
      subst ev1
      refine hpj_cge (by rfl) ck cn (fun q2 => ?_) (fun q2 => ?_)
      ·
        refine hpa_aload_n (by rfl) rfl ?_
        refine hpa_get (v := .ref 397) (by rfl) (by rfl) (by rfl) rfl ?_
        refine hpa_bipush (by rfl) rfl ?_
        refine hpa_dup2IR (by rfl) ?_
        refine hpx_iald (by rfl) (by rfl) (fun h0v3 h1v3 v3 ev3 => ?_)
        rw [show ((Int32.ofNat 70)).toNatClampNeg = 70 from by have := hn_cn (j := (Int32.ofNat 70)) (by omega); omega] at ev3
        have lv3 := ev3.symm.trans (show _ = ro 70 from (RA 70 (by omega)).trans (huRa_at_n (by omega)))
        clear ev3
        subst lv3
        refine hpa_iconst (by rfl) rfl ?_
        refine hpa_iadd (by rfl) ?_
        refine hpx_iast (by rfl) (by rfl) (fun A4 h0A4 h1A4 eA4 fA4 gA4 => ?_)
        have UA4 := (U127).ar eA4 fA4 gA4 (by decide +kernel)
        have HA4 := (H127).e (congrArg (fun q => q.2) gA4)
        rw [show ((Int32.ofNat 70)).toNatClampNeg = 70 from by have := hn_cn (j := (Int32.ofNat 70)) (by omega); omega] at fA4
        refine hpa_aload_n (by rfl) rfl ?_
        refine hpa_get (v := .ref 397) (by rfl) (by rfl) (by rfl) rfl ?_
        refine hpa_bipush (by rfl) rfl ?_
        refine hpa_iconst (by rfl) rfl ?_
        refine hpx_iast (by rfl) (by rfl) (fun A5 h0A5 h1A5 eA5 fA5 gA5 => ?_)
        have UA5 := (UA4).ar eA5 fA5 gA5 (by decide +kernel)
        have HA5 := (HA4).e (congrArg (fun q => q.2) gA5)
        rw [show ((Int32.ofNat 71)).toNatClampNeg = 71 from by have := hn_cn (j := (Int32.ofNat 71)) (by omega); omega] at fA5
        exact hpa_return (by rfl) rfl (hP _ _ ⟨rfl, huRa.over' RA (by omega) h10 (a' := A5.2.1 396) (by rw [fA5, hup2 (by omega), fA4, hup1]) (by rw [fA5, hup1]) (fun j hj h0 h1 => by rw [fA5, hup2 (by omega), fA4, hup2 (by omega)])⟩)
      ·
        refine hpa_aload_n (by rfl) rfl ?_
        refine hpa_get (v := .ref 397) (by rfl) (by rfl) (by rfl) rfl ?_
        refine hpa_bipush (by rfl) rfl ?_
        refine hpa_iload_n (by rfl) rfl ?_
        refine hpj_iadd (by rfl) hk_30 ck (by omega) (by omega) (fun z6 ez6 => ?_)
        refine hpa_aload_n (by rfl) rfl ?_
        refine hpa_get (v := .ref 398) (by rfl) (by rfl) (by rfl) rfl ?_
        refine hpa_iload_n (by rfl) rfl ?_
        refine hpx_iald (by rfl) (by rfl) (fun h0v7 h1v7 v7 ev7 => ?_)
        rw [show ((Int32.ofNat k)).toNatClampNeg = k from by have := hn_cn (j := (Int32.ofNat k)) (by omega); omega] at ev7
        have lv7 := ev7.symm.trans (show _ = huHd D n ro k from T7m k (by omega))
        clear ev7
        subst lv7
        refine hpx_iast (by rfl) (by rfl) (fun A8 h0A8 h1A8 eA8 fA8 gA8 => ?_)
        have UA8 := (U127).ar eA8 fA8 gA8 (by decide +kernel)
        have HA8 := (H127).e (congrArg (fun q => q.2) gA8)
        rw [show (z6).toNatClampNeg = 30 + k from by have := hn_cn (j := z6) (by omega); omega] at fA8
        refine hpa_aload_n (by rfl) rfl ?_
        refine hpa_get (v := .ref 397) (by rfl) (by rfl) (by rfl) rfl ?_
        refine hpa_bipush (by rfl) rfl ?_
        refine hpa_iload_n (by rfl) rfl ?_
        refine hpj_iadd (by rfl) hk_40 ck (by omega) (by omega) (fun z9 ez9 => ?_)
        refine hpa_dup2IR (by rfl) ?_
        refine hpx_iald (by rfl) (by rfl) (fun h0v10 h1v10 v10 ev10 => ?_)
        rw [show (z9).toNatClampNeg = 40 + k from by have := hn_cn (j := z9) (by omega); omega] at ev10
        have lv10 := ev10.symm.trans (show _ = ro (40 + k) from (by rw [fA8, hup2 (by omega)]; exact (RA (40 + k) (by omega)).trans (huRa_at (by omega) (by omega))))
        clear ev10
        subst lv10
        refine hpa_aload_n (by rfl) rfl ?_
        refine hpa_get (v := .ref 398) (by rfl) (by rfl) (by rfl) rfl ?_
        refine hpa_iload_n (by rfl) rfl ?_
        refine hpx_iald (by rfl) (by rfl) (fun h0v11 h1v11 v11 ev11 => ?_)
        rw [show ((Int32.ofNat k)).toNatClampNeg = k from by have := hn_cn (j := (Int32.ofNat k)) (by omega); omega] at ev11
        have lv11 := ev11.symm.trans (show _ = huHd D n ro k from (by rw [fA8, hup2 (by omega)]; exact T7m k (by omega)))
        clear ev11
        subst lv11
        refine hpa_aload_n (by rfl) rfl ?_
        refine hpa_get (v := .ref 397) (by rfl) (by rfl) (by rfl) rfl ?_
        refine hpa_iload_n (by rfl) rfl ?_
        refine hpx_iald (by rfl) (by rfl) (fun h0v12 h1v12 v12 ev12 => ?_)
        rw [show ((Int32.ofNat k)).toNatClampNeg = k from by have := hn_cn (j := (Int32.ofNat k)) (by omega); omega] at ev12
        have lv12 := ev12.symm.trans (show _ = ro k from (by rw [fA8, hup2 (by omega)]; exact (RA (k) (by omega)).trans (huRa_at (by omega) (by omega))))
        clear ev12
        subst lv12
        refine hpa_iand (by rfl) ?_
        refine hpa_ior (by rfl) ?_
        refine hpx_iast (by rfl) (by rfl) (fun A13 h0A13 h1A13 eA13 fA13 gA13 => ?_)
        have UA13 := (UA8).ar eA13 fA13 gA13 (by decide +kernel)
        have HA13 := (HA8).e (congrArg (fun q => q.2) gA13)
        rw [show (z9).toNatClampNeg = 40 + k from by have := hn_cn (j := z9) (by omega); omega] at fA13
        refine hpa_aload_n (by rfl) rfl ?_
        refine hpa_get (v := .ref 397) (by rfl) (by rfl) (by rfl) rfl ?_
        refine hpa_bipush (by rfl) rfl ?_
        refine hpa_iload_n (by rfl) rfl ?_
        refine hpj_iadd (by rfl) hk_60 ck (by omega) (by omega) (fun z14 ez14 => ?_)
        refine hpx_iald (by rfl) (by rfl) (fun h0v15 h1v15 v15 ev15 => ?_)
        rw [show (z14).toNatClampNeg = 60 + k from by have := hn_cn (j := z14) (by omega); omega] at ev15
        have lv15 := ev15.symm.trans (show _ = ro (60 + k) from (by rw [fA13, hup2 (by omega), fA8, hup2 (by omega)]; exact (RA (60 + k) (by omega)).trans (huRa_at (by omega) (by omega))))
        clear ev15
        subst lv15
        refine hpj_zle (by rfl) rfl (fun q16 => ?_) (fun q16 => ?_)
        ·
          refine hpa_aload_n (by rfl) rfl ?_
          refine hpa_get (v := .ref 399) (by rfl) (by rfl) (by rfl) rfl ?_
          refine hpa_iload_n (by rfl) rfl ?_
          refine hpx_zald (by rfl) (by rfl) (fun h0v17 h1v17 v17 ev17 => ?_)
          have t8 : v17.toInt = if huDy D n ro b s k then 1 else 0 := by rw [← ev17, show ((Int32.ofNat k)).toNatClampNeg = k from by have := hn_cn (j := (Int32.ofNat k)) (by omega); omega, fA13, hup2 (by omega), fA8, hup2 (by omega)]; exact T8m k (by omega)
          refine hpj_zne (by rfl) rfl (fun q18 => ?_) (fun q18 => ?_)
          ·
            have dy0 : huDy D n ro b s k = true := by cases hdy : huDy D n ro b s k with | true => rfl | false => rw [hdy, if_neg (by decide)] at t8; exact absurd t8 q18
            refine hpa_aload_n (by rfl) rfl ?_
            refine hpa_get (v := .ref 397) (by rfl) (by rfl) (by rfl) rfl ?_
            refine hpa_bipush (by rfl) rfl ?_
            refine hpa_iload_n (by rfl) rfl ?_
            refine hpj_iadd (by rfl) hk_60 ck (by omega) (by omega) (fun z19 ez19 => ?_)
            refine hpa_aload_n (by rfl) rfl ?_
            refine hpa_get (v := .ref 382) (by rfl) (by rfl) (by rfl) rfl ?_
            refine hpa_aload_n (by rfl) rfl ?_
            refine hpj_getK (by rfl) (by rfl) (by rfl) (hkA eA13 (hkA eA8 rfl)) ?_
            have k18A13 : (A13.1 367 18).toInt = (sd : Int) := (congrArg Int32.toInt (UA13.1 367 _ _ 18 rfl rfl (by decide +kernel))).trans hK.1
            refine hpx_iald (by rfl) (by rfl) (fun h0v20 h1v20 v20 ev20 => ?_)
            have hKA13 : hrK sd D A13 := hK.uf UA13 (by decide +kernel)
            have g6 : A13.2.1 381 sd = Int32.ofInt D.2.1 := by obtain ⟨V, ns, bb, zz, k1, kM, k2⟩ := hKA13.2.2.2.2; exact Int32.toInt_inj.mp (kM.2.1.2.1.trans (hs_ofInt hD2.1 hD2.2).symm)
            rw [show ((A127.1 367 18)).toNatClampNeg = sd from by have := hn_cn (j := (A127.1 367 18)) (by omega); omega, g6] at ev20
            subst ev20
            refine hpx_iast (by rfl) (by rfl) (fun A21 h0A21 h1A21 eA21 fA21 gA21 => ?_)
            have UA21 := (UA13).ar eA21 fA21 gA21 (by decide +kernel)
            have HA21 := (HA13).e (congrArg (fun q => q.2) gA21)
            rw [show (z19).toNatClampNeg = 60 + k from by have := hn_cn (j := z19) (by omega); omega] at fA21
            refine hpa_aload_n (by rfl) rfl ?_
            refine hpa_get (v := .ref 397) (by rfl) (by rfl) (by rfl) rfl ?_
            refine hpa_bipush (by rfl) rfl ?_
            refine hpa_dup2IR (by rfl) ?_
            refine hpx_iald (by rfl) (by rfl) (fun h0v22 h1v22 v22 ev22 => ?_)
            rw [show ((Int32.ofNat 72)).toNatClampNeg = 72 from by have := hn_cn (j := (Int32.ofNat 72)) (by omega); omega] at ev22
            subst ev22
            refine hpa_iconst (by rfl) rfl ?_
            refine hpa_iadd (by rfl) ?_
            refine hpx_iast (by rfl) (by rfl) (fun A23 h0A23 h1A23 eA23 fA23 gA23 => ?_)
            have UA23 := (UA21).ar eA23 fA23 gA23 (by decide +kernel)
            have HA23 := (HA21).e (congrArg (fun q => q.2) gA23)
            rw [show ((Int32.ofNat 72)).toNatClampNeg = 72 from by have := hn_cn (j := (Int32.ofNat 72)) (by omega); omega] at fA23
            have RA2 := huRa.step (a' := A23.2.1 396) RA (by omega) (by rw [fA23, hup2 (by omega), fA21, hup2 (by omega), fA13, hup2 (by omega), fA8, hup1]) (by rw [fA23, hup2 (by omega), fA21, hup2 (by omega), fA13, hup1]) (by rw [fA23, hup2 (by omega), fA21, hup1]; unfold huGr; rw [if_neg (Int.not_lt.mpr q16), dy0, if_pos rfl]) (by rw [dy0, if_pos rfl, fA23, hup1, fA21, hup2 (by omega), fA13, hup2 (by omega), fA8, hup2 (by omega)]) (fun j hj h1 h2 h3 h4 => by rw [fA23, hup2 (by omega), fA21, hup2 (by omega), fA13, hup2 (by omega), fA8, hup2 (by omega)])
            refine hpj_iinc (by rfl) rfl ck hk_1 (by omega) (by omega) (fun _ => rfl) (fun z24 ez24 => ?_)
            refine hpa_goto (by rfl) ?_
            exact ih127 z24 A23 (k + 1) (by omega) (huI (by omega) (by omega)) RA2 (fun j hj => by rw [fA23, hup2 (by omega), fA21, hup2 (by omega), fA13, hup2 (by omega), fA8, hup2 (by omega)]; exact T7m j hj) (fun j hj => by rw [fA23, hup2 (by omega), fA21, hup2 (by omega), fA13, hup2 (by omega), fA8, hup2 (by omega)]; exact T8m j hj) UA23 HA23
          ·
            have dy0 : huDy D n ro b s k = false := by cases hdy : huDy D n ro b s k with | false => rfl | true => rw [hdy, if_pos rfl] at t8; exact absurd (q18.symm.trans t8) (by decide)
            refine hpa_goto (by rfl) ?_
            have RA2 := huRa.step (a' := A13.2.1 396) RA (by omega) (by rw [fA13, hup2 (by omega), fA8, hup1]) (by rw [fA13, hup1]) (by rw [fA13, hup2 (by omega), fA8, hup2 (by omega)]; refine ((RA (60 + k) (by omega)).trans (huRa_at (by omega) (by omega))).trans ?_; unfold huGr; rw [if_neg (Int.not_lt.mpr q16), dy0, if_neg (by decide)]) (by rw [dy0, if_neg (by decide), fA13, hup2 (by omega), fA8, hup2 (by omega)]) (fun j hj h1 h2 h3 h4 => by rw [fA13, hup2 (by omega), fA8, hup2 (by omega)])
            refine hpj_iinc (by rfl) rfl ck hk_1 (by omega) (by omega) (fun _ => rfl) (fun z25 ez25 => ?_)
            refine hpa_goto (by rfl) ?_
            exact ih127 z25 A13 (k + 1) (by omega) (huI (by omega) (by omega)) RA2 (fun j hj => by rw [fA13, hup2 (by omega), fA8, hup2 (by omega)]; exact T7m j hj) (fun j hj => by rw [fA13, hup2 (by omega), fA8, hup2 (by omega)]; exact T8m j hj) UA13 HA13
        ·
          refine hpa_aload_n (by rfl) rfl ?_
          refine hpa_get (v := .ref 397) (by rfl) (by rfl) (by rfl) rfl ?_
          refine hpa_bipush (by rfl) rfl ?_
          refine hpa_iload_n (by rfl) rfl ?_
          refine hpj_iadd (by rfl) hk_60 ck (by omega) (by omega) (fun z26 ez26 => ?_)
          refine hpa_dup2IR (by rfl) ?_
          refine hpx_iald (by rfl) (by rfl) (fun h0v27 h1v27 v27 ev27 => ?_)
          rw [show (z26).toNatClampNeg = 60 + k from by have := hn_cn (j := z26) (by omega); omega] at ev27
          have lv27 := ev27.symm.trans (show _ = ro (60 + k) from (by rw [fA13, hup2 (by omega), fA8, hup2 (by omega)]; exact (RA (60 + k) (by omega)).trans (huRa_at (by omega) (by omega))))
          clear ev27
          subst lv27
          refine hpa_iconst (by rfl) rfl ?_
          refine hpa_isub (by rfl) ?_
          refine hpx_iast (by rfl) (by rfl) (fun A28 h0A28 h1A28 eA28 fA28 gA28 => ?_)
          have UA28 := (UA13).ar eA28 fA28 gA28 (by decide +kernel)
          have HA28 := (HA13).e (congrArg (fun q => q.2) gA28)
          rw [show (z26).toNatClampNeg = 60 + k from by have := hn_cn (j := z26) (by omega); omega] at fA28
          refine hpa_aload_n (by rfl) rfl ?_
          refine hpa_get (v := .ref 399) (by rfl) (by rfl) (by rfl) rfl ?_
          refine hpa_iload_n (by rfl) rfl ?_
          refine hpx_zald (by rfl) (by rfl) (fun h0v29 h1v29 v29 ev29 => ?_)
          have t8 : v29.toInt = if huDy D n ro b s k then 1 else 0 := by rw [← ev29, show ((Int32.ofNat k)).toNatClampNeg = k from by have := hn_cn (j := (Int32.ofNat k)) (by omega); omega, fA28, hup2 (by omega), fA13, hup2 (by omega), fA8, hup2 (by omega)]; exact T8m k (by omega)
          refine hpj_zne (by rfl) rfl (fun q30 => ?_) (fun q30 => ?_)
          ·
            have dy0 : huDy D n ro b s k = true := by cases hdy : huDy D n ro b s k with | true => rfl | false => rw [hdy, if_neg (by decide)] at t8; exact absurd t8 q30
            refine hpa_aload_n (by rfl) rfl ?_
            refine hpa_get (v := .ref 397) (by rfl) (by rfl) (by rfl) rfl ?_
            refine hpa_bipush (by rfl) rfl ?_
            refine hpa_iload_n (by rfl) rfl ?_
            refine hpj_iadd (by rfl) hk_60 ck (by omega) (by omega) (fun z31 ez31 => ?_)
            refine hpa_aload_n (by rfl) rfl ?_
            refine hpa_get (v := .ref 382) (by rfl) (by rfl) (by rfl) rfl ?_
            refine hpa_aload_n (by rfl) rfl ?_
            refine hpj_getK (by rfl) (by rfl) (by rfl) (hkA eA28 (hkA eA13 (hkA eA8 rfl))) ?_
            have k18A28 : (A28.1 367 18).toInt = (sd : Int) := (congrArg Int32.toInt (UA28.1 367 _ _ 18 rfl rfl (by decide +kernel))).trans hK.1
            refine hpx_iald (by rfl) (by rfl) (fun h0v32 h1v32 v32 ev32 => ?_)
            have hKA28 : hrK sd D A28 := hK.uf UA28 (by decide +kernel)
            have g6 : A28.2.1 381 sd = Int32.ofInt D.2.1 := by obtain ⟨V, ns, bb, zz, k1, kM, k2⟩ := hKA28.2.2.2.2; exact Int32.toInt_inj.mp (kM.2.1.2.1.trans (hs_ofInt hD2.1 hD2.2).symm)
            rw [show ((A127.1 367 18)).toNatClampNeg = sd from by have := hn_cn (j := (A127.1 367 18)) (by omega); omega, g6] at ev32
            subst ev32
            refine hpx_iast (by rfl) (by rfl) (fun A33 h0A33 h1A33 eA33 fA33 gA33 => ?_)
            have UA33 := (UA28).ar eA33 fA33 gA33 (by decide +kernel)
            have HA33 := (HA28).e (congrArg (fun q => q.2) gA33)
            rw [show (z31).toNatClampNeg = 60 + k from by have := hn_cn (j := z31) (by omega); omega] at fA33
            refine hpa_aload_n (by rfl) rfl ?_
            refine hpa_get (v := .ref 397) (by rfl) (by rfl) (by rfl) rfl ?_
            refine hpa_bipush (by rfl) rfl ?_
            refine hpa_dup2IR (by rfl) ?_
            refine hpx_iald (by rfl) (by rfl) (fun h0v34 h1v34 v34 ev34 => ?_)
            rw [show ((Int32.ofNat 72)).toNatClampNeg = 72 from by have := hn_cn (j := (Int32.ofNat 72)) (by omega); omega] at ev34
            subst ev34
            refine hpa_iconst (by rfl) rfl ?_
            refine hpa_iadd (by rfl) ?_
            refine hpx_iast (by rfl) (by rfl) (fun A35 h0A35 h1A35 eA35 fA35 gA35 => ?_)
            have UA35 := (UA33).ar eA35 fA35 gA35 (by decide +kernel)
            have HA35 := (HA33).e (congrArg (fun q => q.2) gA35)
            rw [show ((Int32.ofNat 72)).toNatClampNeg = 72 from by have := hn_cn (j := (Int32.ofNat 72)) (by omega); omega] at fA35
            have RA2 := huRa.step (a' := A35.2.1 396) RA (by omega) (by rw [fA35, hup2 (by omega), fA33, hup2 (by omega), fA28, hup2 (by omega), fA13, hup2 (by omega), fA8, hup1]) (by rw [fA35, hup2 (by omega), fA33, hup2 (by omega), fA28, hup2 (by omega), fA13, hup1]) (by exfalso; unfold huDy at dy0; rw [decide_eq_false (show ¬ (ro (60 + k)).toInt = 0 by omega), Bool.false_and, Bool.and_false] at dy0; exact absurd dy0 (by decide)) (by rw [dy0, if_pos rfl, fA35, hup1, fA33, hup2 (by omega), fA28, hup2 (by omega), fA13, hup2 (by omega), fA8, hup2 (by omega)]) (fun j hj h1 h2 h3 h4 => by rw [fA35, hup2 (by omega), fA33, hup2 (by omega), fA28, hup2 (by omega), fA13, hup2 (by omega), fA8, hup2 (by omega)])
            refine hpj_iinc (by rfl) rfl ck hk_1 (by omega) (by omega) (fun _ => rfl) (fun z36 ez36 => ?_)
            refine hpa_goto (by rfl) ?_
            exact ih127 z36 A35 (k + 1) (by omega) (huI (by omega) (by omega)) RA2 (fun j hj => by rw [fA35, hup2 (by omega), fA33, hup2 (by omega), fA28, hup2 (by omega), fA13, hup2 (by omega), fA8, hup2 (by omega)]; exact T7m j hj) (fun j hj => by rw [fA35, hup2 (by omega), fA33, hup2 (by omega), fA28, hup2 (by omega), fA13, hup2 (by omega), fA8, hup2 (by omega)]; exact T8m j hj) UA35 HA35
          ·
            have dy0 : huDy D n ro b s k = false := by cases hdy : huDy D n ro b s k with | false => rfl | true => rw [hdy, if_pos rfl] at t8; exact absurd (q30.symm.trans t8) (by decide)
            refine hpa_goto (by rfl) ?_
            have RA2 := huRa.step (a' := A28.2.1 396) RA (by omega) (by rw [fA28, hup2 (by omega), fA13, hup2 (by omega), fA8, hup1]) (by rw [fA28, hup2 (by omega), fA13, hup1]) (by rw [fA28, hup1]; unfold huGr; rw [if_pos q16]) (by rw [dy0, if_neg (by decide), fA28, hup2 (by omega), fA13, hup2 (by omega), fA8, hup2 (by omega)]) (fun j hj h1 h2 h3 h4 => by rw [fA28, hup2 (by omega), fA13, hup2 (by omega), fA8, hup2 (by omega)])
            refine hpj_iinc (by rfl) rfl ck hk_1 (by omega) (by omega) (fun _ => rfl) (fun z37 ez37 => ?_)
            refine hpa_goto (by rfl) ?_
            exact ih127 z37 A28 (k + 1) (by omega) (huI (by omega) (by omega)) RA2 (fun j hj => by rw [fA28, hup2 (by omega), fA13, hup2 (by omega), fA8, hup2 (by omega)]; exact T7m j hj) (fun j hj => by rw [fA28, hup2 (by omega), fA13, hup2 (by omega), fA8, hup2 (by omega)]; exact T8m j hj) UA28 HA28
  have L2 : ∀ (f : Nat) (x2_1 : Int32) (A2 : hs_A) (k : Nat) (bk : k ≤ n) (ek : x2_1 = Int32.ofNat k) (hg2 : ∀ k, k < 73 → A2.2.1 396 k = ro k) (hT72 : ∀ j, j < k → A2.2.1 397 j = huHd D n ro j) (hT82 : ∀ j, j < k → (A2.2.1 398 j).toInt = if huDy D n ro b s j then 1 else 0) (U2 : uf_W uM184 A A2) (H2 : uf_H A2), hpa (f, g) d none hm_t184 2 [.ref 368, .int x2_1] [] A2 P := by
    intro f
    induction f with
    | zero => intros; exact hpa.zero
    | succ f ih2 =>
      intro x2_1 A2 k bk ek hg2 hT72 hT82 U2 H2
      subst ek
      have ck := hn_c (n := k) (z := Int32.ofNat k) rfl (by omega)
      refine hpa_iload_nS (by rfl) rfl ?_
      refine hpa_aload_n (by rfl) rfl ?_
      refine hpa_get (v := .ref 377) (by rfl) (by rfl) (by rfl) rfl ?_
      refine hpa_aload_n (by rfl) rfl ?_
      refine hpj_getK (by rfl) (by rfl) (by rfl) rfl ?_
      have k18A2 : (A2.1 367 18).toInt = (sd : Int) := (congrArg Int32.toInt (U2.1 367 _ _ 18 rfl rfl (by decide +kernel))).trans hK.1
      refine hpx_iald (by rfl) (by rfl) (fun h0v38 h1v38 v38 ev38 => ?_)
      have hHnA2 : A2.2.1 376 sd = Int32.ofNat n := (U2.2.1 376 _ _ sd rfl (by have := hK.2.1; omega) (by decide +kernel)).trans hHn
      rw [show ((A2.1 367 18)).toNatClampNeg = sd from by have := hn_cn (j := (A2.1 367 18)) (by omega); omega, hHnA2] at ev38
      subst ev38
      refine hpj_cge (by rfl) ck cn (fun q39 => ?_) (fun q39 => ?_)
      ·
        refine hpa_iconst (by rfl) rfl ?_
        refine hpa_s1 (by rfl) (Or.inl ⟨_, rfl, rfl⟩) rfl ?_
        exact L127 _ (Int32.ofNat 0) A2 0 (by omega) rfl (fun j hj => (hg2 j hj).trans (huRa_0 j hj).symm) (fun j hj => hT72 j (by omega)) (fun j hj => hT82 j (by omega)) U2 H2
      ·
        refine hpa_aload_n (by rfl) rfl ?_
        refine hpa_get (v := .ref 398) (by rfl) (by rfl) (by rfl) rfl ?_
        refine hpa_iload_n (by rfl) rfl ?_
        refine hpa_aload_n (by rfl) rfl ?_
        refine hpa_iload_n (by rfl) rfl ?_
        refine hpa_call0 (by rfl) (by rfl) (by rfl) (by rfl) (by rfl) (by rfl) (uf_C (X := ug_x118) (j := 118) rfl rfl (ug_L.cons (uf_rk_ok (by decide +kernel)) (uf_int uf_nil)) H2 (hP182 (Int32.ofNat k) hg2 (by omega) rfl)) ?_
        rintro _ _ ⟨⟨rfl, z41, rfl, (⟨fz_A40, HE_A40⟩ | ⟨fz_A40, HE_A40⟩)⟩, -, -⟩
        ·
          have hd0 : huHd D n ro k = if k = 0 then huN D ro else huW D (huX (Int32.ofNat n) ro (Int32.ofNat k) (ro 70)) (ro (29 + k)) := by unfold huHd; rw [HE_A40]; rfl
          refine hpj_zne (by rfl) rfl (fun q42 => ?_) (fun q42 => False.elim (by omega))
          refine hpa_iload_n (by rfl) rfl ?_
          refine hpj_zne (by rfl) ck (fun q43 => ?_) (fun q43 => ?_)
          ·
            rw [if_neg (by omega)] at hd0
            refine hpa_aload_n (by rfl) rfl ?_
            refine hpa_iload_n (by rfl) rfl ?_
            refine hpa_aload_n (by rfl) rfl ?_
            refine hpa_get (v := .ref 397) (by rfl) (by rfl) (by rfl) rfl ?_
            refine hpa_bipush (by rfl) rfl ?_
            refine hpa_iload_n (by rfl) rfl ?_
            refine hpj_iadd (by rfl) hk_29 ck (by omega) (by omega) (fun z44 ez44 => ?_)
            refine hpx_iald (by rfl) (by rfl) (fun h0v45 h1v45 v45 ev45 => ?_)
            rw [show (z44).toNatClampNeg = 29 + k from by have := hn_cn (j := z44) (by omega); omega] at ev45
            have lv45 := ev45.symm.trans (show _ = ro (29 + k) from hg2 (29 + k) (by omega))
            clear ev45
            subst lv45
            have h29 := (hO.1 (k - 1) (by omega)).2.2.1
            rw [show 30 + (k - 1) = 29 + k by omega] at h29
            refine hpa_aload_n (by rfl) rfl ?_
            refine hpa_get (v := .ref 397) (by rfl) (by rfl) (by rfl) rfl ?_
            refine hpa_bipush (by rfl) rfl ?_
            refine hpx_iald (by rfl) (by rfl) (fun h0v46 h1v46 v46 ev46 => ?_)
            rw [show ((Int32.ofNat 70)).toNatClampNeg = 70 from by have := hn_cn (j := (Int32.ofNat 70)) (by omega); omega] at ev46
            have lv46 := ev46.symm.trans (show _ = ro (70) from hg2 (70) (by omega))
            clear ev46
            subst lv46
            have hKA2 : hrK sd D A2 := hK.uf U2 (by decide +kernel)
            refine hpa_call0 (by rfl) (by rfl) (by rfl) (by rfl) (by rfl) (by rfl) (uf_C (X := ug_x200) (j := 200) rfl rfl (ug_L.cons (uf_rk_ok (by decide +kernel)) (uf_int (uf_int (uf_int uf_nil)))) H2 (hP181 (H := Int32.ofNat n) (Int32.ofNat k) (ro (29 + k)) (ro (70)) hKA2 hHnA2 hg2 (by omega) (by omega) (by omega) (by omega) H2)) ?_
            rintro _ A47 ⟨⟨z48, rfl, Z_A47⟩, wA47, HA47⟩
            have UA47 := (U2).trans (wA47.le (by decide +kernel : ug_wle ug_x200.2.2.2.1 uM184 = true))
            have hgA47 : ∀ k, k < 73 → A47.2.1 396 k = ro k := fun k hk => (wA47.2.1 396 _ _ k rfl hk (by decide +kernel)).trans (hg2 k hk)
            have hT7A47 : ∀ j, j < k → A47.2.1 397 j = huHd D n ro j := fun j hj => (wA47.2.1 397 _ _ j rfl (by omega) (by decide +kernel)).trans (hT72 j hj)
            have hT8A47 : ∀ j, j < k → (A47.2.1 398 j).toInt = if huDy D n ro b s j then 1 else 0 := fun j hj => (congrArg Int32.toInt (wA47.2.1 398 _ _ j rfl (by omega) (by decide +kernel))).trans (hT82 j hj)
            subst Z_A47
            refine hpx_iast (by rfl) (by rfl) (fun A49 h0A49 h1A49 eA49 fA49 gA49 => ?_)
            have UA49 := (UA47).ar eA49 fA49 gA49 (by decide +kernel)
            have HA49 := (HA47).e (congrArg (fun q => q.2) gA49)
            rw [show ((Int32.ofNat k)).toNatClampNeg = k from by have := hn_cn (j := (Int32.ofNat k)) (by omega); omega] at fA49
            have hgA49 : ∀ k, k < 73 → A49.2.1 396 k = ro k := fun k hk => by rw [fA49, hup2 (by omega)]; exact hgA47 k hk
            have hT7A49 : ∀ j, j < k → A49.2.1 397 j = huHd D n ro j := fun j hj => by rw [fA49, hup2 (by omega)]; exact hT7A47 j hj
            have hT8A49 : ∀ j, j < k → (A49.2.1 398 j).toInt = if huDy D n ro b s j then 1 else 0 := fun j hj => by rw [fA49, hup2 (by omega)]; exact hT8A47 j hj
            have hT7kA49 : A49.2.1 397 k = huHd D n ro k := by rw [fA49, hup1]; exact hd0.symm
            refine hpa_aload_n (by rfl) rfl ?_
            refine hpa_get (v := .ref 399) (by rfl) (by rfl) (by rfl) rfl ?_
            refine hpa_iload_n (by rfl) rfl ?_
            refine hpa_aload_n (by rfl) rfl ?_
            refine hpj_getK (by rfl) (by rfl) (by rfl) rfl ?_
            have hbA49 : (A49.1 367 48).toInt = if b then 0 else 1 := (congrArg Int32.toInt (UA49.1 367 _ _ 48 rfl rfl (by decide +kernel))).trans hb
            refine hpj_zne (by rfl) rfl (fun q50 => ?_) (fun q50 => ?_)
            ·
              have bf : b = false := by cases b with | false => rfl | true => rw [if_pos rfl] at hbA49; exact absurd hbA49 q50
              have dy0 : huDy D n ro b s k = false := by unfold huDy; rw [bf, Bool.false_and]
              refine hpa_iconst (by rfl) rfl ?_
              refine hpx_zast (by rfl) (by rfl) (by decide) (fun A51 h0A51 h1A51 eA51 fA51 gA51 => ?_)
              have UA51 := (UA49).ar eA51 fA51 gA51 (by decide +kernel)
              have HA51 := (HA49).e (congrArg (fun q => q.2) gA51)
              rw [show ((Int32.ofNat k)).toNatClampNeg = k from by have := hn_cn (j := (Int32.ofNat k)) (by omega); omega] at fA51
              have hgA51 : ∀ k, k < 73 → A51.2.1 396 k = ro k := fun k hk => by rw [fA51, hup2 (by omega)]; exact hgA49 k hk
              have T7nA51 : ∀ j, j < k + 1 → A51.2.1 397 j = huHd D n ro j := fun j hj => by rw [fA51, hup2 (by omega)]; by_cases c : j = k; (rw [c]; exact hT7kA49); exact hT7A49 j (by omega)
              have T8nA51 : ∀ j, j < k + 1 → (A51.2.1 398 j).toInt = if huDy D n ro b s j then 1 else 0 := fun j hj => by rw [fA51]; by_cases c : j = k; (rw [c, hup1, dy0]; exact hk_0); rw [hup2 (by omega)]; exact hT8A49 j (by omega)
              refine hpj_iinc (by rfl) rfl ck hk_1 (by omega) (by omega) (fun _ => rfl) (fun z52 ez52 => ?_)
              refine hpa_goto (by rfl) ?_
              exact ih2 z52 A51 (k + 1) (by omega) (huI (by omega) (by omega)) hgA51 T7nA51 T8nA51 UA51 HA51
            ·
              have bt : b = true := by cases b with | true => rfl | false => rw [if_neg (by decide)] at hbA49; exact absurd (q50.symm.trans hbA49) (by decide)
              refine hpa_aload_n (by rfl) rfl ?_
              refine hpa_get (v := .ref 397) (by rfl) (by rfl) (by rfl) rfl ?_
              refine hpa_bipush (by rfl) rfl ?_
              refine hpa_iload_n (by rfl) rfl ?_
              refine hpj_iadd (by rfl) hk_60 ck (by omega) (by omega) (fun z53 ez53 => ?_)
              refine hpx_iald (by rfl) (by rfl) (fun h0v54 h1v54 v54 ev54 => ?_)
              rw [show (z53).toNatClampNeg = 60 + k from by have := hn_cn (j := z53) (by omega); omega] at ev54
              have lv54 := ev54.symm.trans (show _ = ro (60 + k) from hgA49 (60 + k) (by omega))
              clear ev54
              subst lv54
              refine hpj_zne (by rfl) rfl (fun q55 => ?_) (fun q55 => ?_)
              ·
                have dy0 : huDy D n ro b s k = false := by unfold huDy; rw [decide_eq_false q55, Bool.false_and, Bool.and_false]
                refine hpa_iconst (by rfl) rfl ?_
                refine hpx_zast (by rfl) (by rfl) (by decide) (fun A56 h0A56 h1A56 eA56 fA56 gA56 => ?_)
                have UA56 := (UA49).ar eA56 fA56 gA56 (by decide +kernel)
                have HA56 := (HA49).e (congrArg (fun q => q.2) gA56)
                rw [show ((Int32.ofNat k)).toNatClampNeg = k from by have := hn_cn (j := (Int32.ofNat k)) (by omega); omega] at fA56
                have hgA56 : ∀ k, k < 73 → A56.2.1 396 k = ro k := fun k hk => by rw [fA56, hup2 (by omega)]; exact hgA49 k hk
                have T7nA56 : ∀ j, j < k + 1 → A56.2.1 397 j = huHd D n ro j := fun j hj => by rw [fA56, hup2 (by omega)]; by_cases c : j = k; (rw [c]; exact hT7kA49); exact hT7A49 j (by omega)
                have T8nA56 : ∀ j, j < k + 1 → (A56.2.1 398 j).toInt = if huDy D n ro b s j then 1 else 0 := fun j hj => by rw [fA56]; by_cases c : j = k; (rw [c, hup1, dy0]; exact hk_0); rw [hup2 (by omega)]; exact hT8A49 j (by omega)
                refine hpj_iinc (by rfl) rfl ck hk_1 (by omega) (by omega) (fun _ => rfl) (fun z57 ez57 => ?_)
                refine hpa_goto (by rfl) ?_
                exact ih2 z57 A56 (k + 1) (by omega) (huI (by omega) (by omega)) hgA56 T7nA56 T8nA56 UA56 HA56
              ·
                refine hpa_aload_n (by rfl) rfl ?_
                refine hpa_bipush (by rfl) rfl ?_
                refine hpa_aload_n (by rfl) rfl ?_
                refine hpa_get (v := .ref 397) (by rfl) (by rfl) (by rfl) rfl ?_
                refine hpa_bipush (by rfl) rfl ?_
                refine hpx_iald (by rfl) (by rfl) (fun h0v58 h1v58 v58 ev58 => ?_)
                rw [show ((Int32.ofNat 70)).toNatClampNeg = 70 from by have := hn_cn (j := (Int32.ofNat 70)) (by omega); omega] at ev58
                have lv58 := ev58.symm.trans (show _ = ro (70) from hgA49 (70) (by omega))
                clear ev58
                subst lv58
                refine hpa_imul (by rfl) ?_
                refine hpa_iload_n (by rfl) rfl ?_
                refine hpa_iadd (by rfl) ?_
                have hsA49 : A49.1 367 47 = s := (UA49.1 367 _ _ 47 rfl rfl (by decide +kernel)).trans hs
                refine hpa_call0 (by rfl) (by rfl) (by rfl) (by rfl) (by rfl) (by rfl) (uf_C (X := ug_x225) (j := 225) rfl rfl (ug_L.cons (uf_rk_ok (by decide +kernel)) (uf_int uf_nil)) HA49 (hP174 (((Int32.ofNat 16) * (ro (70))) + (Int32.ofNat k)) hsA49)) ?_
                rintro _ _ ⟨⟨rfl, z60, rfl, Z_A59⟩, -, -⟩
                subst Z_A59
                refine hpa_aload_n (by rfl) rfl ?_
                refine hpa_iload_n (by rfl) rfl ?_
                have hKA49 : hrK sd D A49 := hK.uf UA49 (by decide +kernel)
                have hHnA49 : A49.2.1 376 sd = Int32.ofNat n := (UA49.2.1 376 _ _ sd rfl (by have := hK.2.1; omega) (by decide +kernel)).trans hHn
                refine hpa_call0 (by rfl) (by rfl) (by rfl) (by rfl) (by rfl) (by rfl) (uf_C (X := ug_x206) (j := 206) rfl rfl (ug_L.cons (uf_rk_ok (by decide +kernel)) (uf_int uf_nil)) HA49 (hP180 (H := Int32.ofNat n) (Int32.ofNat k) hKA49 hHnA49 hgA49 (by omega) (by omega) HA49)) ?_
                rintro _ A61 ⟨⟨z62, rfl, Z_A61⟩, wA61, HA61⟩
                have UA61 := (UA49).trans (wA61.le (by decide +kernel : ug_wle ug_x206.2.2.2.1 uM184 = true))
                have hgA61 : ∀ k, k < 73 → A61.2.1 396 k = ro k := fun k hk => (wA61.2.1 396 _ _ k rfl hk (by decide +kernel)).trans (hgA49 k hk)
                have hT7A61 : ∀ j, j < k → A61.2.1 397 j = huHd D n ro j := fun j hj => (wA61.2.1 397 _ _ j rfl (by omega) (by decide +kernel)).trans (hT7A49 j hj)
                have hT8A61 : ∀ j, j < k → (A61.2.1 398 j).toInt = if huDy D n ro b s j then 1 else 0 := fun j hj => (congrArg Int32.toInt (wA61.2.1 398 _ _ j rfl (by omega) (by decide +kernel))).trans (hT8A49 j hj)
                have hT7kA61 : A61.2.1 397 k = huHd D n ro k := (wA61.2.1 397 _ _ k rfl (by omega) (by decide +kernel)).trans hT7kA49
                subst Z_A61
                refine hpj_cge (by rfl) rfl rfl (fun q63 => ?_) (fun q63 => ?_)
                ·
                  have dy0 : huDy D n ro b s k = false := by unfold huDy; rw [decide_eq_false (show ¬ (huLt s (Int32.ofNat 16 * ro 70 + Int32.ofNat k)).toInt < (huE D (huX (Int32.ofNat n) ro (Int32.ofNat k) (ro 70))).toInt from Int.not_lt.mpr q63), Bool.and_false, Bool.and_false]
                  refine hpa_iconst (by rfl) rfl ?_
                  refine hpx_zast (by rfl) (by rfl) (by decide) (fun A64 h0A64 h1A64 eA64 fA64 gA64 => ?_)
                  have UA64 := (UA61).ar eA64 fA64 gA64 (by decide +kernel)
                  have HA64 := (HA61).e (congrArg (fun q => q.2) gA64)
                  rw [show ((Int32.ofNat k)).toNatClampNeg = k from by have := hn_cn (j := (Int32.ofNat k)) (by omega); omega] at fA64
                  have hgA64 : ∀ k, k < 73 → A64.2.1 396 k = ro k := fun k hk => by rw [fA64, hup2 (by omega)]; exact hgA61 k hk
                  have T7nA64 : ∀ j, j < k + 1 → A64.2.1 397 j = huHd D n ro j := fun j hj => by rw [fA64, hup2 (by omega)]; by_cases c : j = k; (rw [c]; exact hT7kA61); exact hT7A61 j (by omega)
                  have T8nA64 : ∀ j, j < k + 1 → (A64.2.1 398 j).toInt = if huDy D n ro b s j then 1 else 0 := fun j hj => by rw [fA64]; by_cases c : j = k; (rw [c, hup1, dy0]; exact hk_0); rw [hup2 (by omega)]; exact hT8A61 j (by omega)
                  refine hpj_iinc (by rfl) rfl ck hk_1 (by omega) (by omega) (fun _ => rfl) (fun z65 ez65 => ?_)
                  refine hpa_goto (by rfl) ?_
                  exact ih2 z65 A64 (k + 1) (by omega) (huI (by omega) (by omega)) hgA64 T7nA64 T8nA64 UA64 HA64
                ·
                  have dy0 : huDy D n ro b s k = true := by unfold huDy; rw [bt, decide_eq_true q55, decide_eq_true q63]; rfl
                  refine hpa_iconst (by rfl) rfl ?_
                  refine hpa_goto (by rfl) ?_
                  refine hpx_zast (by rfl) (by rfl) (by decide) (fun A66 h0A66 h1A66 eA66 fA66 gA66 => ?_)
                  have UA66 := (UA61).ar eA66 fA66 gA66 (by decide +kernel)
                  have HA66 := (HA61).e (congrArg (fun q => q.2) gA66)
                  rw [show ((Int32.ofNat k)).toNatClampNeg = k from by have := hn_cn (j := (Int32.ofNat k)) (by omega); omega] at fA66
                  have hgA66 : ∀ k, k < 73 → A66.2.1 396 k = ro k := fun k hk => by rw [fA66, hup2 (by omega)]; exact hgA61 k hk
                  have T7nA66 : ∀ j, j < k + 1 → A66.2.1 397 j = huHd D n ro j := fun j hj => by rw [fA66, hup2 (by omega)]; by_cases c : j = k; (rw [c]; exact hT7kA61); exact hT7A61 j (by omega)
                  have T8nA66 : ∀ j, j < k + 1 → (A66.2.1 398 j).toInt = if huDy D n ro b s j then 1 else 0 := fun j hj => by rw [fA66]; by_cases c : j = k; (rw [c, hup1, dy0]; exact hk_1); rw [hup2 (by omega)]; exact hT8A61 j (by omega)
                  refine hpj_iinc (by rfl) rfl ck hk_1 (by omega) (by omega) (fun _ => rfl) (fun z67 ez67 => ?_)
                  refine hpa_goto (by rfl) ?_
                  exact ih2 z67 A66 (k + 1) (by omega) (huI (by omega) (by omega)) hgA66 T7nA66 T8nA66 UA66 HA66
          ·
            rw [if_pos (by omega)] at hd0
            refine hpa_aload_n (by rfl) rfl ?_
            have hKA2 : hrK sd D A2 := hK.uf U2 (by decide +kernel)
            refine hpa_call0 (by rfl) (by rfl) (by rfl) (by rfl) (by rfl) (by rfl) (uf_C (X := ug_x117) (j := 117) rfl rfl (ug_L.cons (uf_rk_ok (by decide +kernel)) uf_nil) H2 (hP183 hKA2 hg2 hO)) ?_
            rintro _ _ ⟨⟨rfl, z69, rfl, Z_A68⟩, -, -⟩
            subst Z_A68
            refine hpa_goto (by rfl) ?_
            refine hpx_iast (by rfl) (by rfl) (fun A70 h0A70 h1A70 eA70 fA70 gA70 => ?_)
            have UA70 := (U2).ar eA70 fA70 gA70 (by decide +kernel)
            have HA70 := (H2).e (congrArg (fun q => q.2) gA70)
            rw [show ((Int32.ofNat k)).toNatClampNeg = k from by have := hn_cn (j := (Int32.ofNat k)) (by omega); omega] at fA70
            have hgA70 : ∀ k, k < 73 → A70.2.1 396 k = ro k := fun k hk => by rw [fA70, hup2 (by omega)]; exact hg2 k hk
            have hT7A70 : ∀ j, j < k → A70.2.1 397 j = huHd D n ro j := fun j hj => by rw [fA70, hup2 (by omega)]; exact hT72 j hj
            have hT8A70 : ∀ j, j < k → (A70.2.1 398 j).toInt = if huDy D n ro b s j then 1 else 0 := fun j hj => by rw [fA70, hup2 (by omega)]; exact hT82 j hj
            have hT7kA70 : A70.2.1 397 k = huHd D n ro k := by rw [fA70, hup1]; exact hd0.symm
            refine hpa_aload_n (by rfl) rfl ?_
            refine hpa_get (v := .ref 399) (by rfl) (by rfl) (by rfl) rfl ?_
            refine hpa_iload_n (by rfl) rfl ?_
            refine hpa_aload_n (by rfl) rfl ?_
            refine hpj_getK (by rfl) (by rfl) (by rfl) rfl ?_
            have hbA70 : (A70.1 367 48).toInt = if b then 0 else 1 := (congrArg Int32.toInt (UA70.1 367 _ _ 48 rfl rfl (by decide +kernel))).trans hb
            refine hpj_zne (by rfl) rfl (fun q71 => ?_) (fun q71 => ?_)
            ·
              have bf : b = false := by cases b with | false => rfl | true => rw [if_pos rfl] at hbA70; exact absurd hbA70 q71
              have dy0 : huDy D n ro b s k = false := by unfold huDy; rw [bf, Bool.false_and]
              refine hpa_iconst (by rfl) rfl ?_
              refine hpx_zast (by rfl) (by rfl) (by decide) (fun A72 h0A72 h1A72 eA72 fA72 gA72 => ?_)
              have UA72 := (UA70).ar eA72 fA72 gA72 (by decide +kernel)
              have HA72 := (HA70).e (congrArg (fun q => q.2) gA72)
              rw [show ((Int32.ofNat k)).toNatClampNeg = k from by have := hn_cn (j := (Int32.ofNat k)) (by omega); omega] at fA72
              have hgA72 : ∀ k, k < 73 → A72.2.1 396 k = ro k := fun k hk => by rw [fA72, hup2 (by omega)]; exact hgA70 k hk
              have T7nA72 : ∀ j, j < k + 1 → A72.2.1 397 j = huHd D n ro j := fun j hj => by rw [fA72, hup2 (by omega)]; by_cases c : j = k; (rw [c]; exact hT7kA70); exact hT7A70 j (by omega)
              have T8nA72 : ∀ j, j < k + 1 → (A72.2.1 398 j).toInt = if huDy D n ro b s j then 1 else 0 := fun j hj => by rw [fA72]; by_cases c : j = k; (rw [c, hup1, dy0]; exact hk_0); rw [hup2 (by omega)]; exact hT8A70 j (by omega)
              refine hpj_iinc (by rfl) rfl ck hk_1 (by omega) (by omega) (fun _ => rfl) (fun z73 ez73 => ?_)
              refine hpa_goto (by rfl) ?_
              exact ih2 z73 A72 (k + 1) (by omega) (huI (by omega) (by omega)) hgA72 T7nA72 T8nA72 UA72 HA72
            ·
              have bt : b = true := by cases b with | true => rfl | false => rw [if_neg (by decide)] at hbA70; exact absurd (q71.symm.trans hbA70) (by decide)
              refine hpa_aload_n (by rfl) rfl ?_
              refine hpa_get (v := .ref 397) (by rfl) (by rfl) (by rfl) rfl ?_
              refine hpa_bipush (by rfl) rfl ?_
              refine hpa_iload_n (by rfl) rfl ?_
              refine hpj_iadd (by rfl) hk_60 ck (by omega) (by omega) (fun z74 ez74 => ?_)
              refine hpx_iald (by rfl) (by rfl) (fun h0v75 h1v75 v75 ev75 => ?_)
              rw [show (z74).toNatClampNeg = 60 + k from by have := hn_cn (j := z74) (by omega); omega] at ev75
              have lv75 := ev75.symm.trans (show _ = ro (60 + k) from hgA70 (60 + k) (by omega))
              clear ev75
              subst lv75
              refine hpj_zne (by rfl) rfl (fun q76 => ?_) (fun q76 => ?_)
              ·
                have dy0 : huDy D n ro b s k = false := by unfold huDy; rw [decide_eq_false q76, Bool.false_and, Bool.and_false]
                refine hpa_iconst (by rfl) rfl ?_
                refine hpx_zast (by rfl) (by rfl) (by decide) (fun A77 h0A77 h1A77 eA77 fA77 gA77 => ?_)
                have UA77 := (UA70).ar eA77 fA77 gA77 (by decide +kernel)
                have HA77 := (HA70).e (congrArg (fun q => q.2) gA77)
                rw [show ((Int32.ofNat k)).toNatClampNeg = k from by have := hn_cn (j := (Int32.ofNat k)) (by omega); omega] at fA77
                have hgA77 : ∀ k, k < 73 → A77.2.1 396 k = ro k := fun k hk => by rw [fA77, hup2 (by omega)]; exact hgA70 k hk
                have T7nA77 : ∀ j, j < k + 1 → A77.2.1 397 j = huHd D n ro j := fun j hj => by rw [fA77, hup2 (by omega)]; by_cases c : j = k; (rw [c]; exact hT7kA70); exact hT7A70 j (by omega)
                have T8nA77 : ∀ j, j < k + 1 → (A77.2.1 398 j).toInt = if huDy D n ro b s j then 1 else 0 := fun j hj => by rw [fA77]; by_cases c : j = k; (rw [c, hup1, dy0]; exact hk_0); rw [hup2 (by omega)]; exact hT8A70 j (by omega)
                refine hpj_iinc (by rfl) rfl ck hk_1 (by omega) (by omega) (fun _ => rfl) (fun z78 ez78 => ?_)
                refine hpa_goto (by rfl) ?_
                exact ih2 z78 A77 (k + 1) (by omega) (huI (by omega) (by omega)) hgA77 T7nA77 T8nA77 UA77 HA77
              ·
                refine hpa_aload_n (by rfl) rfl ?_
                refine hpa_bipush (by rfl) rfl ?_
                refine hpa_aload_n (by rfl) rfl ?_
                refine hpa_get (v := .ref 397) (by rfl) (by rfl) (by rfl) rfl ?_
                refine hpa_bipush (by rfl) rfl ?_
                refine hpx_iald (by rfl) (by rfl) (fun h0v79 h1v79 v79 ev79 => ?_)
                rw [show ((Int32.ofNat 70)).toNatClampNeg = 70 from by have := hn_cn (j := (Int32.ofNat 70)) (by omega); omega] at ev79
                have lv79 := ev79.symm.trans (show _ = ro (70) from hgA70 (70) (by omega))
                clear ev79
                subst lv79
                refine hpa_imul (by rfl) ?_
                refine hpa_iload_n (by rfl) rfl ?_
                refine hpa_iadd (by rfl) ?_
                have hsA70 : A70.1 367 47 = s := (UA70.1 367 _ _ 47 rfl rfl (by decide +kernel)).trans hs
                refine hpa_call0 (by rfl) (by rfl) (by rfl) (by rfl) (by rfl) (by rfl) (uf_C (X := ug_x225) (j := 225) rfl rfl (ug_L.cons (uf_rk_ok (by decide +kernel)) (uf_int uf_nil)) HA70 (hP174 (((Int32.ofNat 16) * (ro (70))) + (Int32.ofNat k)) hsA70)) ?_
                rintro _ _ ⟨⟨rfl, z81, rfl, Z_A80⟩, -, -⟩
                subst Z_A80
                refine hpa_aload_n (by rfl) rfl ?_
                refine hpa_iload_n (by rfl) rfl ?_
                have hKA70 : hrK sd D A70 := hK.uf UA70 (by decide +kernel)
                have hHnA70 : A70.2.1 376 sd = Int32.ofNat n := (UA70.2.1 376 _ _ sd rfl (by have := hK.2.1; omega) (by decide +kernel)).trans hHn
                refine hpa_call0 (by rfl) (by rfl) (by rfl) (by rfl) (by rfl) (by rfl) (uf_C (X := ug_x206) (j := 206) rfl rfl (ug_L.cons (uf_rk_ok (by decide +kernel)) (uf_int uf_nil)) HA70 (hP180 (H := Int32.ofNat n) (Int32.ofNat k) hKA70 hHnA70 hgA70 (by omega) (by omega) HA70)) ?_
                rintro _ A82 ⟨⟨z83, rfl, Z_A82⟩, wA82, HA82⟩
                have UA82 := (UA70).trans (wA82.le (by decide +kernel : ug_wle ug_x206.2.2.2.1 uM184 = true))
                have hgA82 : ∀ k, k < 73 → A82.2.1 396 k = ro k := fun k hk => (wA82.2.1 396 _ _ k rfl hk (by decide +kernel)).trans (hgA70 k hk)
                have hT7A82 : ∀ j, j < k → A82.2.1 397 j = huHd D n ro j := fun j hj => (wA82.2.1 397 _ _ j rfl (by omega) (by decide +kernel)).trans (hT7A70 j hj)
                have hT8A82 : ∀ j, j < k → (A82.2.1 398 j).toInt = if huDy D n ro b s j then 1 else 0 := fun j hj => (congrArg Int32.toInt (wA82.2.1 398 _ _ j rfl (by omega) (by decide +kernel))).trans (hT8A70 j hj)
                have hT7kA82 : A82.2.1 397 k = huHd D n ro k := (wA82.2.1 397 _ _ k rfl (by omega) (by decide +kernel)).trans hT7kA70
                subst Z_A82
                refine hpj_cge (by rfl) rfl rfl (fun q84 => ?_) (fun q84 => ?_)
                ·
                  have dy0 : huDy D n ro b s k = false := by unfold huDy; rw [decide_eq_false (show ¬ (huLt s (Int32.ofNat 16 * ro 70 + Int32.ofNat k)).toInt < (huE D (huX (Int32.ofNat n) ro (Int32.ofNat k) (ro 70))).toInt from Int.not_lt.mpr q84), Bool.and_false, Bool.and_false]
                  refine hpa_iconst (by rfl) rfl ?_
                  refine hpx_zast (by rfl) (by rfl) (by decide) (fun A85 h0A85 h1A85 eA85 fA85 gA85 => ?_)
                  have UA85 := (UA82).ar eA85 fA85 gA85 (by decide +kernel)
                  have HA85 := (HA82).e (congrArg (fun q => q.2) gA85)
                  rw [show ((Int32.ofNat k)).toNatClampNeg = k from by have := hn_cn (j := (Int32.ofNat k)) (by omega); omega] at fA85
                  have hgA85 : ∀ k, k < 73 → A85.2.1 396 k = ro k := fun k hk => by rw [fA85, hup2 (by omega)]; exact hgA82 k hk
                  have T7nA85 : ∀ j, j < k + 1 → A85.2.1 397 j = huHd D n ro j := fun j hj => by rw [fA85, hup2 (by omega)]; by_cases c : j = k; (rw [c]; exact hT7kA82); exact hT7A82 j (by omega)
                  have T8nA85 : ∀ j, j < k + 1 → (A85.2.1 398 j).toInt = if huDy D n ro b s j then 1 else 0 := fun j hj => by rw [fA85]; by_cases c : j = k; (rw [c, hup1, dy0]; exact hk_0); rw [hup2 (by omega)]; exact hT8A82 j (by omega)
                  refine hpj_iinc (by rfl) rfl ck hk_1 (by omega) (by omega) (fun _ => rfl) (fun z86 ez86 => ?_)
                  refine hpa_goto (by rfl) ?_
                  exact ih2 z86 A85 (k + 1) (by omega) (huI (by omega) (by omega)) hgA85 T7nA85 T8nA85 UA85 HA85
                ·
                  have dy0 : huDy D n ro b s k = true := by unfold huDy; rw [bt, decide_eq_true q76, decide_eq_true q84]; rfl
                  refine hpa_iconst (by rfl) rfl ?_
                  refine hpa_goto (by rfl) ?_
                  refine hpx_zast (by rfl) (by rfl) (by decide) (fun A87 h0A87 h1A87 eA87 fA87 gA87 => ?_)
                  have UA87 := (UA82).ar eA87 fA87 gA87 (by decide +kernel)
                  have HA87 := (HA82).e (congrArg (fun q => q.2) gA87)
                  rw [show ((Int32.ofNat k)).toNatClampNeg = k from by have := hn_cn (j := (Int32.ofNat k)) (by omega); omega] at fA87
                  have hgA87 : ∀ k, k < 73 → A87.2.1 396 k = ro k := fun k hk => by rw [fA87, hup2 (by omega)]; exact hgA82 k hk
                  have T7nA87 : ∀ j, j < k + 1 → A87.2.1 397 j = huHd D n ro j := fun j hj => by rw [fA87, hup2 (by omega)]; by_cases c : j = k; (rw [c]; exact hT7kA82); exact hT7A82 j (by omega)
                  have T8nA87 : ∀ j, j < k + 1 → (A87.2.1 398 j).toInt = if huDy D n ro b s j then 1 else 0 := fun j hj => by rw [fA87]; by_cases c : j = k; (rw [c, hup1, dy0]; exact hk_1); rw [hup2 (by omega)]; exact hT8A82 j (by omega)
                  refine hpj_iinc (by rfl) rfl ck hk_1 (by omega) (by omega) (fun _ => rfl) (fun z88 ez88 => ?_)
                  refine hpa_goto (by rfl) ?_
                  exact ih2 z88 A87 (k + 1) (by omega) (huI (by omega) (by omega)) hgA87 T7nA87 T8nA87 UA87 HA87
        ·
          have hd0 : huHd D n ro k = Int32.ofNat 0 := by unfold huHd; rw [HE_A40]; rfl
          refine hpj_zne (by rfl) rfl (fun q89 => False.elim (by omega)) (fun q89 => ?_)
          refine hpa_iconst (by rfl) rfl ?_
          refine hpa_goto (by rfl) ?_
          refine hpx_iast (by rfl) (by rfl) (fun A90 h0A90 h1A90 eA90 fA90 gA90 => ?_)
          have UA90 := (U2).ar eA90 fA90 gA90 (by decide +kernel)
          have HA90 := (H2).e (congrArg (fun q => q.2) gA90)
          rw [show ((Int32.ofNat k)).toNatClampNeg = k from by have := hn_cn (j := (Int32.ofNat k)) (by omega); omega] at fA90
          have hgA90 : ∀ k, k < 73 → A90.2.1 396 k = ro k := fun k hk => by rw [fA90, hup2 (by omega)]; exact hg2 k hk
          have hT7A90 : ∀ j, j < k → A90.2.1 397 j = huHd D n ro j := fun j hj => by rw [fA90, hup2 (by omega)]; exact hT72 j hj
          have hT8A90 : ∀ j, j < k → (A90.2.1 398 j).toInt = if huDy D n ro b s j then 1 else 0 := fun j hj => by rw [fA90, hup2 (by omega)]; exact hT82 j hj
          have hT7kA90 : A90.2.1 397 k = huHd D n ro k := by rw [fA90, hup1]; exact hd0.symm
          refine hpa_aload_n (by rfl) rfl ?_
          refine hpa_get (v := .ref 399) (by rfl) (by rfl) (by rfl) rfl ?_
          refine hpa_iload_n (by rfl) rfl ?_
          refine hpa_aload_n (by rfl) rfl ?_
          refine hpj_getK (by rfl) (by rfl) (by rfl) rfl ?_
          have hbA90 : (A90.1 367 48).toInt = if b then 0 else 1 := (congrArg Int32.toInt (UA90.1 367 _ _ 48 rfl rfl (by decide +kernel))).trans hb
          refine hpj_zne (by rfl) rfl (fun q91 => ?_) (fun q91 => ?_)
          ·
            have bf : b = false := by cases b with | false => rfl | true => rw [if_pos rfl] at hbA90; exact absurd hbA90 q91
            have dy0 : huDy D n ro b s k = false := by unfold huDy; rw [bf, Bool.false_and]
            refine hpa_iconst (by rfl) rfl ?_
            refine hpx_zast (by rfl) (by rfl) (by decide) (fun A92 h0A92 h1A92 eA92 fA92 gA92 => ?_)
            have UA92 := (UA90).ar eA92 fA92 gA92 (by decide +kernel)
            have HA92 := (HA90).e (congrArg (fun q => q.2) gA92)
            rw [show ((Int32.ofNat k)).toNatClampNeg = k from by have := hn_cn (j := (Int32.ofNat k)) (by omega); omega] at fA92
            have hgA92 : ∀ k, k < 73 → A92.2.1 396 k = ro k := fun k hk => by rw [fA92, hup2 (by omega)]; exact hgA90 k hk
            have T7nA92 : ∀ j, j < k + 1 → A92.2.1 397 j = huHd D n ro j := fun j hj => by rw [fA92, hup2 (by omega)]; by_cases c : j = k; (rw [c]; exact hT7kA90); exact hT7A90 j (by omega)
            have T8nA92 : ∀ j, j < k + 1 → (A92.2.1 398 j).toInt = if huDy D n ro b s j then 1 else 0 := fun j hj => by rw [fA92]; by_cases c : j = k; (rw [c, hup1, dy0]; exact hk_0); rw [hup2 (by omega)]; exact hT8A90 j (by omega)
            refine hpj_iinc (by rfl) rfl ck hk_1 (by omega) (by omega) (fun _ => rfl) (fun z93 ez93 => ?_)
            refine hpa_goto (by rfl) ?_
            exact ih2 z93 A92 (k + 1) (by omega) (huI (by omega) (by omega)) hgA92 T7nA92 T8nA92 UA92 HA92
          ·
            have bt : b = true := by cases b with | true => rfl | false => rw [if_neg (by decide)] at hbA90; exact absurd (q91.symm.trans hbA90) (by decide)
            refine hpa_aload_n (by rfl) rfl ?_
            refine hpa_get (v := .ref 397) (by rfl) (by rfl) (by rfl) rfl ?_
            refine hpa_bipush (by rfl) rfl ?_
            refine hpa_iload_n (by rfl) rfl ?_
            refine hpj_iadd (by rfl) hk_60 ck (by omega) (by omega) (fun z94 ez94 => ?_)
            refine hpx_iald (by rfl) (by rfl) (fun h0v95 h1v95 v95 ev95 => ?_)
            rw [show (z94).toNatClampNeg = 60 + k from by have := hn_cn (j := z94) (by omega); omega] at ev95
            have lv95 := ev95.symm.trans (show _ = ro (60 + k) from hgA90 (60 + k) (by omega))
            clear ev95
            subst lv95
            refine hpj_zne (by rfl) rfl (fun q96 => ?_) (fun q96 => ?_)
            ·
              have dy0 : huDy D n ro b s k = false := by unfold huDy; rw [decide_eq_false q96, Bool.false_and, Bool.and_false]
              refine hpa_iconst (by rfl) rfl ?_
              refine hpx_zast (by rfl) (by rfl) (by decide) (fun A97 h0A97 h1A97 eA97 fA97 gA97 => ?_)
              have UA97 := (UA90).ar eA97 fA97 gA97 (by decide +kernel)
              have HA97 := (HA90).e (congrArg (fun q => q.2) gA97)
              rw [show ((Int32.ofNat k)).toNatClampNeg = k from by have := hn_cn (j := (Int32.ofNat k)) (by omega); omega] at fA97
              have hgA97 : ∀ k, k < 73 → A97.2.1 396 k = ro k := fun k hk => by rw [fA97, hup2 (by omega)]; exact hgA90 k hk
              have T7nA97 : ∀ j, j < k + 1 → A97.2.1 397 j = huHd D n ro j := fun j hj => by rw [fA97, hup2 (by omega)]; by_cases c : j = k; (rw [c]; exact hT7kA90); exact hT7A90 j (by omega)
              have T8nA97 : ∀ j, j < k + 1 → (A97.2.1 398 j).toInt = if huDy D n ro b s j then 1 else 0 := fun j hj => by rw [fA97]; by_cases c : j = k; (rw [c, hup1, dy0]; exact hk_0); rw [hup2 (by omega)]; exact hT8A90 j (by omega)
              refine hpj_iinc (by rfl) rfl ck hk_1 (by omega) (by omega) (fun _ => rfl) (fun z98 ez98 => ?_)
              refine hpa_goto (by rfl) ?_
              exact ih2 z98 A97 (k + 1) (by omega) (huI (by omega) (by omega)) hgA97 T7nA97 T8nA97 UA97 HA97
            ·
              refine hpa_aload_n (by rfl) rfl ?_
              refine hpa_bipush (by rfl) rfl ?_
              refine hpa_aload_n (by rfl) rfl ?_
              refine hpa_get (v := .ref 397) (by rfl) (by rfl) (by rfl) rfl ?_
              refine hpa_bipush (by rfl) rfl ?_
              refine hpx_iald (by rfl) (by rfl) (fun h0v99 h1v99 v99 ev99 => ?_)
              rw [show ((Int32.ofNat 70)).toNatClampNeg = 70 from by have := hn_cn (j := (Int32.ofNat 70)) (by omega); omega] at ev99
              have lv99 := ev99.symm.trans (show _ = ro (70) from hgA90 (70) (by omega))
              clear ev99
              subst lv99
              refine hpa_imul (by rfl) ?_
              refine hpa_iload_n (by rfl) rfl ?_
              refine hpa_iadd (by rfl) ?_
              have hsA90 : A90.1 367 47 = s := (UA90.1 367 _ _ 47 rfl rfl (by decide +kernel)).trans hs
              refine hpa_call0 (by rfl) (by rfl) (by rfl) (by rfl) (by rfl) (by rfl) (uf_C (X := ug_x225) (j := 225) rfl rfl (ug_L.cons (uf_rk_ok (by decide +kernel)) (uf_int uf_nil)) HA90 (hP174 (((Int32.ofNat 16) * (ro (70))) + (Int32.ofNat k)) hsA90)) ?_
              rintro _ _ ⟨⟨rfl, z101, rfl, Z_A100⟩, -, -⟩
              subst Z_A100
              refine hpa_aload_n (by rfl) rfl ?_
              refine hpa_iload_n (by rfl) rfl ?_
              have hKA90 : hrK sd D A90 := hK.uf UA90 (by decide +kernel)
              have hHnA90 : A90.2.1 376 sd = Int32.ofNat n := (UA90.2.1 376 _ _ sd rfl (by have := hK.2.1; omega) (by decide +kernel)).trans hHn
              refine hpa_call0 (by rfl) (by rfl) (by rfl) (by rfl) (by rfl) (by rfl) (uf_C (X := ug_x206) (j := 206) rfl rfl (ug_L.cons (uf_rk_ok (by decide +kernel)) (uf_int uf_nil)) HA90 (hP180 (H := Int32.ofNat n) (Int32.ofNat k) hKA90 hHnA90 hgA90 (by omega) (by omega) HA90)) ?_
              rintro _ A102 ⟨⟨z103, rfl, Z_A102⟩, wA102, HA102⟩
              have UA102 := (UA90).trans (wA102.le (by decide +kernel : ug_wle ug_x206.2.2.2.1 uM184 = true))
              have hgA102 : ∀ k, k < 73 → A102.2.1 396 k = ro k := fun k hk => (wA102.2.1 396 _ _ k rfl hk (by decide +kernel)).trans (hgA90 k hk)
              have hT7A102 : ∀ j, j < k → A102.2.1 397 j = huHd D n ro j := fun j hj => (wA102.2.1 397 _ _ j rfl (by omega) (by decide +kernel)).trans (hT7A90 j hj)
              have hT8A102 : ∀ j, j < k → (A102.2.1 398 j).toInt = if huDy D n ro b s j then 1 else 0 := fun j hj => (congrArg Int32.toInt (wA102.2.1 398 _ _ j rfl (by omega) (by decide +kernel))).trans (hT8A90 j hj)
              have hT7kA102 : A102.2.1 397 k = huHd D n ro k := (wA102.2.1 397 _ _ k rfl (by omega) (by decide +kernel)).trans hT7kA90
              subst Z_A102
              refine hpj_cge (by rfl) rfl rfl (fun q104 => ?_) (fun q104 => ?_)
              ·
                have dy0 : huDy D n ro b s k = false := by unfold huDy; rw [decide_eq_false (show ¬ (huLt s (Int32.ofNat 16 * ro 70 + Int32.ofNat k)).toInt < (huE D (huX (Int32.ofNat n) ro (Int32.ofNat k) (ro 70))).toInt from Int.not_lt.mpr q104), Bool.and_false, Bool.and_false]
                refine hpa_iconst (by rfl) rfl ?_
                refine hpx_zast (by rfl) (by rfl) (by decide) (fun A105 h0A105 h1A105 eA105 fA105 gA105 => ?_)
                have UA105 := (UA102).ar eA105 fA105 gA105 (by decide +kernel)
                have HA105 := (HA102).e (congrArg (fun q => q.2) gA105)
                rw [show ((Int32.ofNat k)).toNatClampNeg = k from by have := hn_cn (j := (Int32.ofNat k)) (by omega); omega] at fA105
                have hgA105 : ∀ k, k < 73 → A105.2.1 396 k = ro k := fun k hk => by rw [fA105, hup2 (by omega)]; exact hgA102 k hk
                have T7nA105 : ∀ j, j < k + 1 → A105.2.1 397 j = huHd D n ro j := fun j hj => by rw [fA105, hup2 (by omega)]; by_cases c : j = k; (rw [c]; exact hT7kA102); exact hT7A102 j (by omega)
                have T8nA105 : ∀ j, j < k + 1 → (A105.2.1 398 j).toInt = if huDy D n ro b s j then 1 else 0 := fun j hj => by rw [fA105]; by_cases c : j = k; (rw [c, hup1, dy0]; exact hk_0); rw [hup2 (by omega)]; exact hT8A102 j (by omega)
                refine hpj_iinc (by rfl) rfl ck hk_1 (by omega) (by omega) (fun _ => rfl) (fun z106 ez106 => ?_)
                refine hpa_goto (by rfl) ?_
                exact ih2 z106 A105 (k + 1) (by omega) (huI (by omega) (by omega)) hgA105 T7nA105 T8nA105 UA105 HA105
              ·
                have dy0 : huDy D n ro b s k = true := by unfold huDy; rw [bt, decide_eq_true q96, decide_eq_true q104]; rfl
                refine hpa_iconst (by rfl) rfl ?_
                refine hpa_goto (by rfl) ?_
                refine hpx_zast (by rfl) (by rfl) (by decide) (fun A107 h0A107 h1A107 eA107 fA107 gA107 => ?_)
                have UA107 := (UA102).ar eA107 fA107 gA107 (by decide +kernel)
                have HA107 := (HA102).e (congrArg (fun q => q.2) gA107)
                rw [show ((Int32.ofNat k)).toNatClampNeg = k from by have := hn_cn (j := (Int32.ofNat k)) (by omega); omega] at fA107
                have hgA107 : ∀ k, k < 73 → A107.2.1 396 k = ro k := fun k hk => by rw [fA107, hup2 (by omega)]; exact hgA102 k hk
                have T7nA107 : ∀ j, j < k + 1 → A107.2.1 397 j = huHd D n ro j := fun j hj => by rw [fA107, hup2 (by omega)]; by_cases c : j = k; (rw [c]; exact hT7kA102); exact hT7A102 j (by omega)
                have T8nA107 : ∀ j, j < k + 1 → (A107.2.1 398 j).toInt = if huDy D n ro b s j then 1 else 0 := fun j hj => by rw [fA107]; by_cases c : j = k; (rw [c, hup1, dy0]; exact hk_1); rw [hup2 (by omega)]; exact hT8A102 j (by omega)
                refine hpj_iinc (by rfl) rfl ck hk_1 (by omega) (by omega) (fun _ => rfl) (fun z108 ez108 => ?_)
                refine hpa_goto (by rfl) ?_
                exact ih2 z108 A107 (k + 1) (by omega) (huI (by omega) (by omega)) hgA107 T7nA107 T8nA107 UA107 HA107
  refine hpa_iconst (by rfl) rfl ?_
  refine hpa_s1 (by rfl) (Or.inl ⟨_, rfl, rfl⟩) rfl ?_
  exact L2 _ (Int32.ofNat 0) A 0 (by omega) rfl hg (fun j hj => absurd hj (Nat.not_lt_zero j)) (fun j hj => absurd hj (Nat.not_lt_zero j)) U0 hH0
theorem hP184 {g d : Nat} {A : hs_A} {sd : Nat} {D : hg_D} {ro : Nat → Int32} {n : Nat} {b : Bool} {s : Int32} (hK : hrK sd D A) (hHn : A.2.1 376 sd = Int32.ofNat n) (h10 : n ≤ 10) (hg : ∀ k, k < 73 → A.2.1 396 k = ro k) (hO : huO ro n) (hD : ∀ t, t < 24 → 0 ≤ D.1 t ∧ D.1 t ≤ 255) (hD2 : 0 ≤ D.2.1 ∧ D.2.1 ≤ 10000) (hs : A.1 367 47 = s) (hb : (A.1 367 48).toInt = if b then 0 else 1) (hH0 : uf_H A) : hpC g d 184 hm_m184 [.ref 368] A (fun r A' => r = none ∧ ((∀ j, j < 73 → A'.2.1 396 j = huR D n b s ro j))) := hpC.all (fun f d => hW184 hK hHn h10 hg hO hD hD2 hs hb hH0 (fun r A' h => h))
def uM185 : Nat := 497323236409786642155382248146820840100456150797347722227112643354953717064084679032832
theorem hW185 {g d f : Nat} {A : hs_A} {sd : Nat} {D : hg_D} {ro : Nat → Int32} {n : Nat} {b : Bool} {s : Int32} {m : Nat} (a1 : Int32) (hK : hrK sd D A) (hHn : A.2.1 376 sd = Int32.ofNat n) (h10 : n ≤ 10) (hg : ∀ k, k < 73 → A.2.1 396 k = ro k) (hO : huO ro n) (hD : ∀ t, t < 24 → 0 ≤ D.1 t ∧ D.1 t ≤ 255) (hD2 : 0 ≤ D.2.1 ∧ D.2.1 ≤ 10000) (hs : A.1 367 47 = s) (hb : (A.1 367 48).toInt = if b then 0 else 1) (ha : a1.toInt = (m : Int)) (h70 : (ro 70).toInt + (m : Int) ≤ 2000000) (hH0 : uf_H A) {P : Option Value → hs_A → Prop} (hP : ∀ (r : Option Value) (A' : hs_A), (r = none ∧ ((∀ j, j < 73 → A'.2.1 396 j = huY D n b s m ro j))) → P r A') : hpa (f, g) d none hm_t185 0 [.ref 368, .int a1, .retAddr 0] [] A P := by
  have k0 := hk_0
  have k1 := hk_1
  have k18 := hK.1
  have ksd := hK.2.1
  have hO70 := hO.2.1
  have U0 : uf_W uM185 A A := uf_W.rfl
  have L2 : ∀ (f : Nat) (x2_2 : Int32) (A2 : hs_A) (k : Nat) (bk : k ≤ m) (ek : x2_2 = Int32.ofNat k) (RI : ∀ j, j < 73 → A2.2.1 396 j = huY D n b s k ro j) (U2 : uf_W uM185 A A2) (H2 : uf_H A2), hpa (f, g) d none hm_t185 2 [.ref 368, .int a1, .int x2_2] [] A2 P := by
    intro f
    induction f with
    | zero => intros; exact hpa.zero
    | succ f ih2 =>
      intro x2_2 A2 k bk ek RI U2 H2
      subst ek
      have ck := hn_c (n := k) (z := Int32.ofNat k) rfl (by omega)
      have OI := hO.I (b := b) (s := s) h10 hD hD2 k (by omega)
      refine hpa_iload_nS (by rfl) rfl ?_
      refine hpa_iload_n (by rfl) rfl ?_
      refine hpj_cge (by rfl) ck rfl (fun q41 => ?_) (fun q41 => ?_)
      ·
        exact hpa_return (by rfl) rfl (hP _ _ ⟨rfl, by rw [show m = k by omega]; exact RI⟩)
      ·
        refine hpa_aload_n (by rfl) rfl ?_
        have hKA2 : hrK sd D A2 := hK.uf U2 (by decide +kernel)
        have hHnA2 : A2.2.1 376 sd = Int32.ofNat n := (U2.2.1 376 _ _ sd rfl (by have := hK.2.1; omega) (by decide +kernel)).trans hHn
        have hsA2 : A2.1 367 47 = s := (U2.1 367 _ _ 47 rfl rfl (by decide +kernel)).trans hs
        have hbA2 : (A2.1 367 48).toInt = if b then 0 else 1 := (congrArg Int32.toInt (U2.1 367 _ _ 48 rfl rfl (by decide +kernel))).trans hb
        refine hpa_call0 (by rfl) (by rfl) (by rfl) (by rfl) (by rfl) (by rfl) (uf_C (X := ug_x202) (j := 202) rfl rfl (ug_L.cons (uf_rk_ok (by decide +kernel)) uf_nil) H2 (hP184 hKA2 hHnA2 h10 RI OI.1 hD hD2 hsA2 hbA2 H2)) ?_
        rintro _ A42 ⟨⟨rfl, RW_A42⟩, wA42, HA42⟩
        have UA42 := (U2).trans (wA42.le (by decide +kernel : ug_wle ug_x202.2.2.2.1 uM185 = true))
        refine hpj_iinc (by rfl) rfl ck hk_1 (by omega) (by omega) (fun _ => rfl) (fun z43 ez43 => ?_)
        refine hpa_goto (by rfl) ?_
        exact ih2 z43 A42 (k + 1) (by omega) (huI (by omega) (by omega)) RW_A42 UA42 HA42
  refine hpa_iconst (by rfl) rfl ?_
  refine hpa_s1 (by rfl) (Or.inl ⟨_, rfl, rfl⟩) rfl ?_
  exact L2 _ (Int32.ofNat 0) A 0 (by omega) rfl hg U0 hH0
theorem hP185 {g d : Nat} {A : hs_A} {sd : Nat} {D : hg_D} {ro : Nat → Int32} {n : Nat} {b : Bool} {s : Int32} {m : Nat} (a1 : Int32) (hK : hrK sd D A) (hHn : A.2.1 376 sd = Int32.ofNat n) (h10 : n ≤ 10) (hg : ∀ k, k < 73 → A.2.1 396 k = ro k) (hO : huO ro n) (hD : ∀ t, t < 24 → 0 ≤ D.1 t ∧ D.1 t ≤ 255) (hD2 : 0 ≤ D.2.1 ∧ D.2.1 ≤ 10000) (hs : A.1 367 47 = s) (hb : (A.1 367 48).toInt = if b then 0 else 1) (ha : a1.toInt = (m : Int)) (h70 : (ro 70).toInt + (m : Int) ≤ 2000000) (hH0 : uf_H A) : hpC g d 185 hm_m185 [.ref 368, .int a1] A (fun r A' => r = none ∧ ((∀ j, j < 73 → A'.2.1 396 j = huY D n b s m ro j))) := hpC.all (fun f d => hW185 a1 hK hHn h10 hg hO hD hD2 hs hb ha h70 hH0 (fun r A' h => h))
