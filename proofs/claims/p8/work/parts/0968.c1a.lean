theorem hW169 {g d f : Nat} {A : hs_A} {sd n : Nat} (hlv : (A.1 367 18).toInt = (sd : Int)) (hs1 : sd ≤ 1) (hn : (A.2.1 376 sd).toInt = (n : Int)) (hn10 : n ≤ 10) {P : Option Value → hs_A → Prop} (hP : ∀ (r : Option Value) (A' : hs_A), (r = none ∧ ((∀ i k, ¬ (i = 367 ∧ (k = 47 ∨ k = 48)) → A'.1 i k = A.1 i k) ∧ A'.2.2 = A.2.2 ∧ (∀ i, ¬ i = 396 → A'.2.1 i = A.2.1 i) ∧ hmRw A (A'.2.1 396) sd n ∧ (A'.2.1 396 71).toInt = -1 ∧ A'.1 367 47 = A.2.1 382 sd ∧ (A'.1 367 48).toInt = 0)) → P r A') : hpa (f, g) d none hm_t169 0 [.ref 368, .retAddr 0] [] A P := by
  have k0 := hk_0
  have k1 := hk_1
  have k10 := hk_10
  have k20 := hk_20
  have k4294967295 := hk_4294967295
  have k50 := hk_50
  have k71 := hk_71
  have k73 := hk_73
  have L23 : ∀ (f : Nat) (x23_1 : Int32) (A23 : hs_A) (m : Nat) (fe23 : A23.1 = A.1) (lg23 : A23.2.2 = A.2.2) (fa23 : ∀ i, ¬ i = 396 → A23.2.1 i = A.2.1 i) (l23 : x23_1.toInt = (m : Int)) (mn : m ≤ n) (Rw23 : hmRw A (A23.2.1 396) sd m), hpa (f, g) d none hm_t169 23 [.ref 368, .int x23_1] [] A23 P := by
    intro f
    induction f with
    | zero => intros; exact hpa.zero
    | succ f ih23 =>
      intro x23_1 A23 m fe23 lg23 fa23 l23 mn Rw23
      have h18A23 : (A23.1 367 18).toInt = (sd : Int) := by rw [fe23]; exact hlv
      refine hpa_iload_nS (by rfl) rfl ?_
      refine hpa_aload_n (by rfl) rfl ?_
      refine hpa_get (v := .ref 377) (by rfl) (by rfl) (by rfl) rfl ?_
      refine hpa_aload_n (by rfl) rfl ?_
      refine hpj_getK (by rfl) (by rfl) (by rfl) rfl ?_
      refine hpx_iald (by rfl) (by rfl) (fun h0v1 h1v1 v1 ev1 => ?_)
      rw [show ((A23.1 367 18)).toNatClampNeg = sd by have := hn_cn (j := (A23.1 367 18)) (by omega); omega, fa23 376 (by omega)] at ev1
      have tv1 : v1.toInt = (n : Int) := by rw [← ev1]; exact hn
      refine hpj_cge (by rfl) rfl rfl (fun q2 => ?_) (fun q2 => ?_)
      ·
        refine hpa_aload_n (by rfl) rfl ?_
        refine hpa_get (v := .ref 397) (by rfl) (by rfl) (by rfl) rfl ?_
        refine hpa_bipush (by rfl) rfl ?_
        refine hpa_iconst (by rfl) rfl ?_
        refine hpx_iast (by rfl) (by rfl) (fun A3 h0A3 h1A3 eA3 fA3 gA3 => ?_)
        have faA3 : ∀ i, ¬ i = 396 → A3.2.1 i = A.2.1 i := fun i h => by rw [← fa23 i h, fA3]; funext j; exact hup2 (by omega)
        have feA3 : A3.1 = A.1 := eA3.trans fe23
        have lgA3 : A3.2.2 = A.2.2 := gA3.trans lg23
        have h18A3 : (A3.1 367 18).toInt = (sd : Int) := by rw [feA3]; exact hlv
        have hm : m = n := by omega
        have RF := Rw23.m1 (by omega) fA3 (by have := hn_cn (j := (Int32.ofNat 71)) (by omega); omega)
        rw [hm] at RF
        have M1 : (A3.2.1 396 71).toInt = -1 := by rw [fA3, show ((Int32.ofNat 71)).toNatClampNeg = 71 by have := hn_cn (j := (Int32.ofNat 71)) (by omega); omega, hup1]; exact hk_4294967295
        refine hpa_aload_n (by rfl) rfl ?_
        refine hpa_aload_n (by rfl) rfl ?_
        refine hpa_get (v := .ref 383) (by rfl) (by rfl) (by rfl) rfl ?_
        refine hpa_aload_n (by rfl) rfl ?_
        refine hpj_getK (by rfl) (by rfl) (by rfl) (hkA eA3 rfl) ?_
        refine hpx_iald (by rfl) (by rfl) (fun h0v4 h1v4 v4 ev4 => ?_)
        rw [show ((A23.1 367 18)).toNatClampNeg = sd by have := hn_cn (j := (A23.1 367 18)) (by omega); omega, faA3 382 (by omega)] at ev4
        refine hpj_putI (by rfl) (by rfl) (by rfl) (by rfl) (fun A5 eA5 fA5 => ?_)
        refine hpa_aload_n (by rfl) rfl ?_
        refine hpa_iconst (by rfl) rfl ?_
        refine hpj_putI (by rfl) (by rfl) (by rfl) (by rfl) (fun A6 eA6 fA6 => ?_)
        exact hpa_return (by rfl) rfl (hP _ _ ⟨rfl, fun i k hi => by rw [eA6, hup2 (by omega), eA5, hup2 (by omega), feA3], by rw [fA6, fA5]; exact lgA3, fun i hi => by rw [fA6, fA5]; exact faA3 i hi, by rw [fA6, fA5]; exact RF, by rw [fA6, fA5]; exact M1, by rw [eA6, hup2 (by omega), eA5, hup1]; exact ev4.symm, by rw [eA6, hup1]; exact hk_0⟩)
      ·
        refine hpa_aload_n (by rfl) rfl ?_
        refine hpa_get (v := .ref 397) (by rfl) (by rfl) (by rfl) rfl ?_
        refine hpa_iload_n (by rfl) rfl ?_
        refine hpa_aload_n (by rfl) rfl ?_
        refine hpa_get (v := .ref 378) (by rfl) (by rfl) (by rfl) rfl ?_
        refine hpa_bipush (by rfl) rfl ?_
        refine hpa_aload_n (by rfl) rfl ?_
        refine hpj_getK (by rfl) (by rfl) (by rfl) rfl ?_
        refine hpj_imul (by rfl) hk_10 rfl (by omega) (by omega) (fun z7 ez7 => ?_)
        refine hpa_iload_n (by rfl) rfl ?_
        refine hpj_iadd (by rfl) rfl rfl (by omega) (by omega) (fun z8 ez8 => ?_)
        refine hpx_iald (by rfl) (by rfl) (fun h0v9 h1v9 v9 ev9 => ?_)
        rw [show (z8).toNatClampNeg = 10 * sd + m by have := hn_cn (j := z8) (by omega); omega, fa23 377 (by omega)] at ev9
        refine hpx_iast (by rfl) (by rfl) (fun A10 h0A10 h1A10 eA10 fA10 gA10 => ?_)
        have faA10 : ∀ i, ¬ i = 396 → A10.2.1 i = A.2.1 i := fun i h => by rw [← fa23 i h, fA10]; funext j; exact hup2 (by omega)
        have feA10 : A10.1 = A.1 := eA10.trans fe23
        have lgA10 : A10.2.2 = A.2.2 := gA10.trans lg23
        have h18A10 : (A10.1 367 18).toInt = (sd : Int) := by rw [feA10]; exact hlv
        refine hpa_aload_n (by rfl) rfl ?_
        refine hpa_get (v := .ref 397) (by rfl) (by rfl) (by rfl) rfl ?_
        refine hpa_bipush (by rfl) rfl ?_
        refine hpa_iload_n (by rfl) rfl ?_
        refine hpj_iadd (by rfl) hk_10 rfl (by omega) (by omega) (fun z11 ez11 => ?_)
        refine hpa_aload_n (by rfl) rfl ?_
        refine hpa_get (v := .ref 379) (by rfl) (by rfl) (by rfl) rfl ?_
        refine hpa_bipush (by rfl) rfl ?_
        refine hpa_aload_n (by rfl) rfl ?_
        refine hpj_getK (by rfl) (by rfl) (by rfl) (hkA eA10 rfl) ?_
        refine hpj_imul (by rfl) hk_10 rfl (by omega) (by omega) (fun z12 ez12 => ?_)
        refine hpa_iload_n (by rfl) rfl ?_
        refine hpj_iadd (by rfl) rfl rfl (by omega) (by omega) (fun z13 ez13 => ?_)
        refine hpx_iald (by rfl) (by rfl) (fun h0v14 h1v14 v14 ev14 => ?_)
        rw [show (z13).toNatClampNeg = 10 * sd + m by have := hn_cn (j := z13) (by omega); omega, faA10 378 (by omega)] at ev14
        refine hpx_iast (by rfl) (by rfl) (fun A15 h0A15 h1A15 eA15 fA15 gA15 => ?_)
        have faA15 : ∀ i, ¬ i = 396 → A15.2.1 i = A.2.1 i := fun i h => by rw [← faA10 i h, fA15]; funext j; exact hup2 (by omega)
        have feA15 : A15.1 = A.1 := eA15.trans feA10
        have lgA15 : A15.2.2 = A.2.2 := gA15.trans lgA10
        have h18A15 : (A15.1 367 18).toInt = (sd : Int) := by rw [feA15]; exact hlv
        refine hpa_aload_n (by rfl) rfl ?_
        refine hpa_get (v := .ref 397) (by rfl) (by rfl) (by rfl) rfl ?_
        refine hpa_bipush (by rfl) rfl ?_
        refine hpa_iload_n (by rfl) rfl ?_
        refine hpj_iadd (by rfl) hk_20 rfl (by omega) (by omega) (fun z16 ez16 => ?_)
        refine hpa_iload_n (by rfl) rfl ?_
        refine hpx_iast (by rfl) (by rfl) (fun A17 h0A17 h1A17 eA17 fA17 gA17 => ?_)
        have faA17 : ∀ i, ¬ i = 396 → A17.2.1 i = A.2.1 i := fun i h => by rw [← faA15 i h, fA17]; funext j; exact hup2 (by omega)
        have feA17 : A17.1 = A.1 := eA17.trans feA15
        have lgA17 : A17.2.2 = A.2.2 := gA17.trans lgA15
        have h18A17 : (A17.1 367 18).toInt = (sd : Int) := by rw [feA17]; exact hlv
        refine hpa_aload_n (by rfl) rfl ?_
        refine hpa_get (v := .ref 397) (by rfl) (by rfl) (by rfl) rfl ?_
        refine hpa_bipush (by rfl) rfl ?_
        refine hpa_iload_n (by rfl) rfl ?_
        refine hpj_iadd (by rfl) hk_50 rfl (by omega) (by omega) (fun z18 ez18 => ?_)
        refine hpa_iconst (by rfl) rfl ?_
        refine hpx_iast (by rfl) (by rfl) (fun A19 h0A19 h1A19 eA19 fA19 gA19 => ?_)
        have faA19 : ∀ i, ¬ i = 396 → A19.2.1 i = A.2.1 i := fun i h => by rw [← faA17 i h, fA19]; funext j; exact hup2 (by omega)
        have feA19 : A19.1 = A.1 := eA19.trans feA17
        have lgA19 : A19.2.2 = A.2.2 := gA19.trans lgA17
        have h18A19 : (A19.1 367 18).toInt = (sd : Int) := by rw [feA19]; exact hlv
        have RW := Rw23.more (by omega) fA10 fA15 fA17 fA19 (by have := hn_cn (j := x23_1) (by omega); omega) (by have := hn_cn (j := z11) (by omega); omega) (by have := hn_cn (j := z16) (by omega); omega) (by have := hn_cn (j := z18) (by omega); omega) ev9.symm ev14.symm l23 hk_1
        refine hpj_iinc (by rfl) rfl rfl hk_1 (by omega) (by omega) (fun _ => rfl) (fun z20 ez20 => ?_)
        refine hpa_goto (by rfl) ?_
        exact ih23 z20 A19 (m + 1) feA19 lgA19 faA19 (by omega) (by omega) RW
  have L2 : ∀ (f : Nat) (x2_1 : Int32) (A2 : hs_A) (fe2 : A2.1 = A.1) (lg2 : A2.2.2 = A.2.2) (fa2 : ∀ i, ¬ i = 396 → A2.2.1 i = A.2.1 i) (z2 : ∀ j : Nat, (j : Int) < x2_1.toInt → (A2.2.1 396 j).toInt = 0) (lo2 : 0 ≤ x2_1.toInt) (hi2 : x2_1.toInt ≤ 73), hpa (f, g) d none hm_t169 2 [.ref 368, .int x2_1] [] A2 P := by
    intro f
    induction f with
    | zero => intros; exact hpa.zero
    | succ f ih2 =>
      intro x2_1 A2 fe2 lg2 fa2 z2 lo2 hi2
      have h18A2 : (A2.1 367 18).toInt = (sd : Int) := by rw [fe2]; exact hlv
      refine hpa_iload_nS (by rfl) rfl ?_
      refine hpa_bipush (by rfl) rfl ?_
      refine hpj_cge (by rfl) rfl hk_73 (fun q21 => ?_) (fun q21 => ?_)
      ·
        refine hpa_iconst (by rfl) rfl ?_
        refine hpa_s1 (by rfl) (Or.inl ⟨_, rfl, rfl⟩) rfl ?_
        exact L23 _ (Int32.ofNat 0) A2 0 fe2 lg2 fa2 (by omega) (Nat.zero_le _) ⟨fun i hi => False.elim (by omega), fun j hj _ _ => z2 j (by omega)⟩
      ·
        refine hpa_aload_n (by rfl) rfl ?_
        refine hpa_get (v := .ref 397) (by rfl) (by rfl) (by rfl) rfl ?_
        refine hpa_iload_n (by rfl) rfl ?_
        refine hpa_iconst (by rfl) rfl ?_
        refine hpx_iast (by rfl) (by rfl) (fun A22 h0A22 h1A22 eA22 fA22 gA22 => ?_)
        have faA22 : ∀ i, ¬ i = 396 → A22.2.1 i = A.2.1 i := fun i h => by rw [← fa2 i h, fA22]; funext j; exact hup2 (by omega)
        have feA22 : A22.1 = A.1 := eA22.trans fe2
        have lgA22 : A22.2.2 = A.2.2 := gA22.trans lg2
        have h18A22 : (A22.1 367 18).toInt = (sd : Int) := by rw [feA22]; exact hlv
        refine hpj_iinc (by rfl) rfl rfl hk_1 (by omega) (by omega) (fun _ => rfl) (fun z23 ez23 => ?_)
        refine hpa_goto (by rfl) ?_
        exact ih2 z23 A22 feA22 lgA22 faA22 (fun j hj => by rw [fA22]; by_cases q : j = (x2_1).toNatClampNeg; (rw [q, hup1]; exact hk_0); (rw [hup2 (fun w => q w.2)]; exact z2 j (by have := hn_cn (j := x2_1) (by omega); omega))) (by omega) (by omega)
  refine hpa_iconst (by rfl) rfl ?_
  refine hpa_s1 (by rfl) (Or.inl ⟨_, rfl, rfl⟩) rfl ?_
  exact L2 _ (Int32.ofNat 0) A rfl rfl (fun _ _ => rfl) (fun j hj => False.elim (by omega)) (by omega) (by omega)
theorem hP169 {g d : Nat} {A : hs_A} {sd n : Nat} (hlv : (A.1 367 18).toInt = (sd : Int)) (hs1 : sd ≤ 1) (hn : (A.2.1 376 sd).toInt = (n : Int)) (hn10 : n ≤ 10) : hpC g d 169 hm_m169 [.ref 368] A (fun r A' => r = none ∧ ((∀ i k, ¬ (i = 367 ∧ (k = 47 ∨ k = 48)) → A'.1 i k = A.1 i k) ∧ A'.2.2 = A.2.2 ∧ (∀ i, ¬ i = 396 → A'.2.1 i = A.2.1 i) ∧ hmRw A (A'.2.1 396) sd n ∧ (A'.2.1 396 71).toInt = -1 ∧ A'.1 367 47 = A.2.1 382 sd ∧ (A'.1 367 48).toInt = 0)) := hpC.all (fun f d => hW169 hlv hs1 hn hn10 (fun r A' h => h))
theorem hW170 {g d f : Nat} {A : hs_A}  {P : Option Value → hs_A → Prop} (hP : ∀ (r : Option Value) (A' : hs_A), (r = none ∧ (A'.1 = A.1 ∧ A'.2.2 = A.2.2 ∧ (∀ i, ¬ i = 395 → A'.2.1 i = A.2.1 i) ∧ (∀ j, j < 73 → A'.2.1 395 j = A.2.1 396 j))) → P r A') : hpa (f, g) d none hm_t170 0 [.ref 368, .retAddr 0] [] A P := by
  have k0 := hk_0
  have k1 := hk_1
  have k73 := hk_73
  have L2 : ∀ (f : Nat) (x2_1 : Int32) (A2 : hs_A) (fe2 : A2.1 = A.1) (lg2 : A2.2.2 = A.2.2) (fa2 : ∀ i, ¬ i = 395 → A2.2.1 i = A.2.1 i) (z2 : ∀ j : Nat, (j : Int) < x2_1.toInt → A2.2.1 395 j = A.2.1 396 j) (lo2 : 0 ≤ x2_1.toInt) (hi2 : x2_1.toInt ≤ 73), hpa (f, g) d none hm_t170 2 [.ref 368, .int x2_1] [] A2 P := by
    intro f
    induction f with
    | zero => intros; exact hpa.zero
    | succ f ih2 =>
      intro x2_1 A2 fe2 lg2 fa2 z2 lo2 hi2
      refine hpa_iload_nS (by rfl) rfl ?_
      refine hpa_bipush (by rfl) rfl ?_
      refine hpj_cge (by rfl) rfl hk_73 (fun q1 => ?_) (fun q1 => ?_)
      ·
        exact hpa_return (by rfl) rfl (hP _ _ ⟨rfl, fe2, lg2, fa2, fun j hj => z2 j (by omega)⟩)
      ·
        refine hpa_aload_n (by rfl) rfl ?_
        refine hpa_get (v := .ref 396) (by rfl) (by rfl) (by rfl) rfl ?_
        refine hpa_iload_n (by rfl) rfl ?_
        refine hpa_aload_n (by rfl) rfl ?_
        refine hpa_get (v := .ref 397) (by rfl) (by rfl) (by rfl) rfl ?_
        refine hpa_iload_n (by rfl) rfl ?_
        refine hpx_iald (by rfl) (by rfl) (fun h0v2 h1v2 v2 ev2 => ?_)
        rw [fa2 396 (by omega)] at ev2
        refine hpx_iast (by rfl) (by rfl) (fun A3 h0A3 h1A3 eA3 fA3 gA3 => ?_)
        refine hpj_iinc (by rfl) rfl rfl hk_1 (by omega) (by omega) (fun _ => rfl) (fun z4 ez4 => ?_)
        refine hpa_goto (by rfl) ?_
        exact ih2 z4 A3 (eA3.trans fe2) (gA3.trans lg2) (fun i h => by rw [← fa2 i h, fA3]; funext j; exact hup2 (by omega)) (fun j hj => by rw [fA3]; by_cases q : j = (x2_1).toNatClampNeg; (rw [q, hup1]; exact ev2.symm); (rw [hup2 (fun w => q w.2)]; exact z2 j (by have := hn_cn (j := x2_1) (by omega); omega))) (by omega) (by omega)
  refine hpa_iconst (by rfl) rfl ?_
  refine hpa_s1 (by rfl) (Or.inl ⟨_, rfl, rfl⟩) rfl ?_
  exact L2 _ (Int32.ofNat 0) A rfl rfl (fun _ _ => rfl) (fun j hj => False.elim (by omega)) (by omega) (by omega)
theorem hP170 {g d : Nat} {A : hs_A}  : hpC g d 170 hm_m170 [.ref 368] A (fun r A' => r = none ∧ (A'.1 = A.1 ∧ A'.2.2 = A.2.2 ∧ (∀ i, ¬ i = 395 → A'.2.1 i = A.2.1 i) ∧ (∀ j, j < 73 → A'.2.1 395 j = A.2.1 396 j))) := hpC.all (fun f d => hW170  (fun r A' h => h))
