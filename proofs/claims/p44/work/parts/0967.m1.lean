theorem hW149 {g d f : Nat} {A : hs_A} {sd : Nat} (a1 : Int32) (ha : a1.toInt = (sd : Int)) {P : Option Value → hs_A → Prop} (hP : ∀ (r : Option Value) (A' : hs_A), (r = none ∧ (hmP A A' ∧ (A'.2.1 376 sd).toInt = 0 ∧ (A'.2.1 379 sd).toInt = 0)) → P r A') : hpa (f, g) d none hm_t149 0 [.ref 368, .int a1, .retAddr 0] [] A P := by
  have k0 := hk_0
  have k1 := hk_1
  have k24 := hk_24
  have k4 := hk_4
  have k6 := hk_6
  have hia : a1.toNatClampNeg = sd := by have := hn_cn (j := a1) (by omega); omega
  have L57 : ∀ (f : Nat) (x57_2 : Int32) (A57 : hs_A) (P57 : hmP A A57) (z157 : (A57.2.1 376 sd).toInt = 0) (z257 : (A57.2.1 379 sd).toInt = 0), hpa (f, g) d none hm_t149 57 [.ref 368, .int a1, .int x57_2] [] A57 P := by
    intro f
    induction f with
    | zero => intros; exact hpa.zero
    | succ f ih57 =>
      intro x57_2 A57 P57 z157 z257
      refine hpa_iload_nS (by rfl) rfl ?_
      refine hpa_iconst (by rfl) rfl ?_
      refine hpj_cge (by rfl) rfl hk_4 (fun q1 => ?_) (fun q1 => ?_)
      ·
        exact hpa_return (by rfl) rfl (hP _ _ ⟨rfl, P57, z157, z257⟩)
      ·
        refine hpa_aload_n (by rfl) rfl ?_
        refine hpa_get (v := .ref 384) (by rfl) (by rfl) (by rfl) rfl ?_
        refine hpa_iconst (by rfl) rfl ?_
        refine hpa_iload_n (by rfl) rfl ?_
        refine hpj_imulU (by rfl) (fun z2 => ?_)
        refine hpa_iload_n (by rfl) rfl ?_
        refine hpj_iaddU (by rfl) (fun z3 => ?_)
        refine hpa_iconst (by rfl) rfl ?_
        refine hpx_iast (by rfl) (by rfl) (fun A4 h0A4 h1A4 eA4 fA4 gA4 => ?_)
        have PA4 := (P57).a eA4 fA4 gA4 (by omega)
        have z1A4 := hzk z157 fA4 (by omega)
        have z2A4 := hzk z257 fA4 (by omega)
        refine hpa_aload_n (by rfl) rfl ?_
        refine hpa_get (v := .ref 385) (by rfl) (by rfl) (by rfl) rfl ?_
        refine hpa_iconst (by rfl) rfl ?_
        refine hpa_iload_n (by rfl) rfl ?_
        refine hpj_imulU (by rfl) (fun z5 => ?_)
        refine hpa_iload_n (by rfl) rfl ?_
        refine hpj_iaddU (by rfl) (fun z6 => ?_)
        refine hpa_iconst (by rfl) rfl ?_
        refine hpx_iast (by rfl) (by rfl) (fun A7 h0A7 h1A7 eA7 fA7 gA7 => ?_)
        have PA7 := (PA4).a eA7 fA7 gA7 (by omega)
        have z1A7 := hzk z1A4 fA7 (by omega)
        have z2A7 := hzk z2A4 fA7 (by omega)
        refine hpj_iincU (by rfl) rfl (fun _ => rfl) (fun z8 => ?_)
        refine hpa_goto (by rfl) ?_
        exact ih57 z8 A7 PA7 z1A7 z2A7
  have L31 : ∀ (f : Nat) (x31_2 : Int32) (A31 : hs_A) (P31 : hmP A A31) (z131 : (A31.2.1 376 sd).toInt = 0) (z231 : (A31.2.1 379 sd).toInt = 0), hpa (f, g) d none hm_t149 31 [.ref 368, .int a1, .int x31_2] [] A31 P := by
    intro f
    induction f with
    | zero => intros; exact hpa.zero
    | succ f ih31 =>
      intro x31_2 A31 P31 z131 z231
      refine hpa_iload_nS (by rfl) rfl ?_
      refine hpa_bipush (by rfl) rfl ?_
      refine hpj_cge (by rfl) rfl hk_24 (fun q9 => ?_) (fun q9 => ?_)
      ·
        refine hpa_iconst (by rfl) rfl ?_
        refine hpa_s1 (by rfl) (Or.inl ⟨_, rfl, rfl⟩) rfl ?_
        exact L57 _ (Int32.ofNat 0) A31 P31 z131 z231
      ·
        refine hpa_aload_n (by rfl) rfl ?_
        refine hpa_get (v := .ref 381) (by rfl) (by rfl) (by rfl) rfl ?_
        refine hpa_bipush (by rfl) rfl ?_
        refine hpa_iload_n (by rfl) rfl ?_
        refine hpj_imulU (by rfl) (fun z10 => ?_)
        refine hpa_iload_n (by rfl) rfl ?_
        refine hpj_iaddU (by rfl) (fun z11 => ?_)
        refine hpa_iconst (by rfl) rfl ?_
        refine hpx_iast (by rfl) (by rfl) (fun A12 h0A12 h1A12 eA12 fA12 gA12 => ?_)
        have PA12 := (P31).a eA12 fA12 gA12 (by omega)
        have z1A12 := hzk z131 fA12 (by omega)
        have z2A12 := hzk z231 fA12 (by omega)
        refine hpj_iincU (by rfl) rfl (fun _ => rfl) (fun z13 => ?_)
        refine hpa_goto (by rfl) ?_
        exact ih31 z13 A12 PA12 z1A12 z2A12
  refine hpa_aload_n (by rfl) rfl ?_
  refine hpa_get (v := .ref 377) (by rfl) (by rfl) (by rfl) rfl ?_
  refine hpa_iload_n (by rfl) rfl ?_
  refine hpa_iconst (by rfl) rfl ?_
  refine hpx_iast (by rfl) (by rfl) (fun A14 h0A14 h1A14 eA14 fA14 gA14 => ?_)
  have PA14 := (hmP.rfl (A := A)).a eA14 fA14 gA14 (by omega)
  have z1A14 : (A14.2.1 376 sd).toInt = 0 := by rw [fA14, hia, hup1]; exact hk_0
  refine hpa_aload_n (by rfl) rfl ?_
  refine hpa_get (v := .ref 380) (by rfl) (by rfl) (by rfl) rfl ?_
  refine hpa_iload_n (by rfl) rfl ?_
  refine hpa_iconst (by rfl) rfl ?_
  refine hpx_iast (by rfl) (by rfl) (fun A15 h0A15 h1A15 eA15 fA15 gA15 => ?_)
  have PA15 := (PA14).a eA15 fA15 gA15 (by omega)
  have z1A15 := hzk z1A14 fA15 (by omega)
  have z2A15 : (A15.2.1 379 sd).toInt = 0 := by rw [fA15, hia, hup1]; exact hk_0
  refine hpa_aload_n (by rfl) rfl ?_
  refine hpa_get (v := .ref 382) (by rfl) (by rfl) (by rfl) rfl ?_
  refine hpa_iload_n (by rfl) rfl ?_
  refine hpa_bipush (by rfl) rfl ?_
  refine hpx_iast (by rfl) (by rfl) (fun A16 h0A16 h1A16 eA16 fA16 gA16 => ?_)
  have PA16 := (PA15).a eA16 fA16 gA16 (by omega)
  have z1A16 := hzk z1A15 fA16 (by omega)
  have z2A16 := hzk z2A15 fA16 (by omega)
  refine hpa_aload_n (by rfl) rfl ?_
  refine hpa_get (v := .ref 383) (by rfl) (by rfl) (by rfl) rfl ?_
  refine hpa_iload_n (by rfl) rfl ?_
  refine hpa_iconst (by rfl) rfl ?_
  refine hpx_iast (by rfl) (by rfl) (fun A17 h0A17 h1A17 eA17 fA17 gA17 => ?_)
  have PA17 := (PA16).a eA17 fA17 gA17 (by omega)
  have z1A17 := hzk z1A16 fA17 (by omega)
  have z2A17 := hzk z2A16 fA17 (by omega)
  refine hpa_iconst (by rfl) rfl ?_
  refine hpa_s1 (by rfl) (Or.inl ⟨_, rfl, rfl⟩) rfl ?_
  exact L31 _ (Int32.ofNat 0) A17 PA17 z1A17 z2A17
theorem hP149 {g d : Nat} {A : hs_A} {sd : Nat} (a1 : Int32) (ha : a1.toInt = (sd : Int)) : hpC g d 149 hm_m149 [.ref 368, .int a1] A (fun r A' => r = none ∧ (hmP A A' ∧ (A'.2.1 376 sd).toInt = 0 ∧ (A'.2.1 379 sd).toInt = 0)) := hpC.all (fun f d => hW149 a1 ha (fun r A' h => h))
theorem hW169 {g d f : Nat} {A : hs_A}  {P : Option Value → hs_A → Prop} (hP : ∀ (r : Option Value) (A' : hs_A), (r = none ∧ (A'.1 367 17 = A.1 367 17 ∧ A'.2.2 = A.2.2)) → P r A') : hpa (f, g) d none hm_t169 0 [.ref 368, .retAddr 0] [] A P := by
  have k0 := hk_0
  have k1 := hk_1
  have k10 := hk_10
  have k20 := hk_20
  have k4294967295 := hk_4294967295
  have k50 := hk_50
  have k71 := hk_71
  have k73 := hk_73
  have L23 : ∀ (f : Nat) (x23_1 : Int32) (A23 : hs_A) (p1723 : A23.1 367 17 = A.1 367 17) (lg23 : A23.2.2 = A.2.2), hpa (f, g) d none hm_t169 23 [.ref 368, .int x23_1] [] A23 P := by
    intro f
    induction f with
    | zero => intros; exact hpa.zero
    | succ f ih23 =>
      intro x23_1 A23 p1723 lg23
      refine hpa_iload_nS (by rfl) rfl ?_
      refine hpa_aload_n (by rfl) rfl ?_
      refine hpa_get (v := .ref 377) (by rfl) (by rfl) (by rfl) rfl ?_
      refine hpa_aload_n (by rfl) rfl ?_
      refine hpj_getK (by rfl) (by rfl) (by rfl) rfl ?_
      refine hpx_iald (by rfl) (by rfl) (fun h0v1 h1v1 v1 ev1 => ?_)
      refine hpj_cge (by rfl) rfl rfl (fun q2 => ?_) (fun q2 => ?_)
      ·
        refine hpa_aload_n (by rfl) rfl ?_
        refine hpa_get (v := .ref 397) (by rfl) (by rfl) (by rfl) rfl ?_
        refine hpa_bipush (by rfl) rfl ?_
        refine hpa_iconst (by rfl) rfl ?_
        refine hpx_iast (by rfl) (by rfl) (fun A3 h0A3 h1A3 eA3 fA3 gA3 => ?_)
        have p17A3 : A3.1 367 17 = A.1 367 17 := by rw [eA3]; exact p1723
        have lgA3 : A3.2.2 = A.2.2 := by rw [gA3]; exact lg23
        refine hpa_aload_n (by rfl) rfl ?_
        refine hpa_aload_n (by rfl) rfl ?_
        refine hpa_get (v := .ref 383) (by rfl) (by rfl) (by rfl) rfl ?_
        refine hpa_aload_n (by rfl) rfl ?_
        refine hpj_getK (by rfl) (by rfl) (by rfl) (hkA eA3 rfl) ?_
        refine hpx_iald (by rfl) (by rfl) (fun h0v4 h1v4 v4 ev4 => ?_)
        refine hpj_putI (by rfl) (by rfl) (by rfl) (by rfl) (fun A5 eA5 fA5 => ?_)
        have p17A5 : A5.1 367 17 = A.1 367 17 := by rw [eA5, hup2 (by omega)]; exact p17A3
        have lgA5 : A5.2.2 = A.2.2 := by rw [fA5]; exact lgA3
        refine hpa_aload_n (by rfl) rfl ?_
        refine hpa_iconst (by rfl) rfl ?_
        refine hpj_putI (by rfl) (by rfl) (by rfl) (by rfl) (fun A6 eA6 fA6 => ?_)
        have p17A6 : A6.1 367 17 = A.1 367 17 := by rw [eA6, hup2 (by omega)]; exact p17A5
        have lgA6 : A6.2.2 = A.2.2 := by rw [fA6]; exact lgA5
        exact hpa_return (by rfl) rfl (hP _ _ ⟨rfl, p17A6, lgA6⟩)
      ·
        refine hpa_aload_n (by rfl) rfl ?_
        refine hpa_get (v := .ref 397) (by rfl) (by rfl) (by rfl) rfl ?_
        refine hpa_iload_n (by rfl) rfl ?_
        refine hpa_aload_n (by rfl) rfl ?_
        refine hpa_get (v := .ref 378) (by rfl) (by rfl) (by rfl) rfl ?_
        refine hpa_bipush (by rfl) rfl ?_
        refine hpa_aload_n (by rfl) rfl ?_
        refine hpj_getK (by rfl) (by rfl) (by rfl) rfl ?_
        refine hpj_imulU (by rfl) (fun z7 => ?_)
        refine hpa_iload_n (by rfl) rfl ?_
        refine hpj_iaddU (by rfl) (fun z8 => ?_)
        refine hpx_iald (by rfl) (by rfl) (fun h0v9 h1v9 v9 ev9 => ?_)
        refine hpx_iast (by rfl) (by rfl) (fun A10 h0A10 h1A10 eA10 fA10 gA10 => ?_)
        have p17A10 : A10.1 367 17 = A.1 367 17 := by rw [eA10]; exact p1723
        have lgA10 : A10.2.2 = A.2.2 := by rw [gA10]; exact lg23
        refine hpa_aload_n (by rfl) rfl ?_
        refine hpa_get (v := .ref 397) (by rfl) (by rfl) (by rfl) rfl ?_
        refine hpa_bipush (by rfl) rfl ?_
        refine hpa_iload_n (by rfl) rfl ?_
        refine hpj_iaddU (by rfl) (fun z11 => ?_)
        refine hpa_aload_n (by rfl) rfl ?_
        refine hpa_get (v := .ref 379) (by rfl) (by rfl) (by rfl) rfl ?_
        refine hpa_bipush (by rfl) rfl ?_
        refine hpa_aload_n (by rfl) rfl ?_
        refine hpj_getK (by rfl) (by rfl) (by rfl) (hkA eA10 rfl) ?_
        refine hpj_imulU (by rfl) (fun z12 => ?_)
        refine hpa_iload_n (by rfl) rfl ?_
        refine hpj_iaddU (by rfl) (fun z13 => ?_)
        refine hpx_iald (by rfl) (by rfl) (fun h0v14 h1v14 v14 ev14 => ?_)
        refine hpx_iast (by rfl) (by rfl) (fun A15 h0A15 h1A15 eA15 fA15 gA15 => ?_)
        have p17A15 : A15.1 367 17 = A.1 367 17 := by rw [eA15]; exact p17A10
        have lgA15 : A15.2.2 = A.2.2 := by rw [gA15]; exact lgA10
        refine hpa_aload_n (by rfl) rfl ?_
        refine hpa_get (v := .ref 397) (by rfl) (by rfl) (by rfl) rfl ?_
        refine hpa_bipush (by rfl) rfl ?_
        refine hpa_iload_n (by rfl) rfl ?_
        refine hpj_iaddU (by rfl) (fun z16 => ?_)
        refine hpa_iload_n (by rfl) rfl ?_
        refine hpx_iast (by rfl) (by rfl) (fun A17 h0A17 h1A17 eA17 fA17 gA17 => ?_)
        have p17A17 : A17.1 367 17 = A.1 367 17 := by rw [eA17]; exact p17A15
        have lgA17 : A17.2.2 = A.2.2 := by rw [gA17]; exact lgA15
        refine hpa_aload_n (by rfl) rfl ?_
        refine hpa_get (v := .ref 397) (by rfl) (by rfl) (by rfl) rfl ?_
        refine hpa_bipush (by rfl) rfl ?_
        refine hpa_iload_n (by rfl) rfl ?_
        refine hpj_iaddU (by rfl) (fun z18 => ?_)
        refine hpa_iconst (by rfl) rfl ?_
        refine hpx_iast (by rfl) (by rfl) (fun A19 h0A19 h1A19 eA19 fA19 gA19 => ?_)
        have p17A19 : A19.1 367 17 = A.1 367 17 := by rw [eA19]; exact p17A17
        have lgA19 : A19.2.2 = A.2.2 := by rw [gA19]; exact lgA17
        refine hpj_iincU (by rfl) rfl (fun _ => rfl) (fun z20 => ?_)
        refine hpa_goto (by rfl) ?_
        exact ih23 z20 A19 p17A19 lgA19
  have L2 : ∀ (f : Nat) (x2_1 : Int32) (A2 : hs_A) (p172 : A2.1 367 17 = A.1 367 17) (lg2 : A2.2.2 = A.2.2), hpa (f, g) d none hm_t169 2 [.ref 368, .int x2_1] [] A2 P := by
    intro f
    induction f with
    | zero => intros; exact hpa.zero
    | succ f ih2 =>
      intro x2_1 A2 p172 lg2
      refine hpa_iload_nS (by rfl) rfl ?_
      refine hpa_bipush (by rfl) rfl ?_
      refine hpj_cge (by rfl) rfl hk_73 (fun q21 => ?_) (fun q21 => ?_)
      ·
        refine hpa_iconst (by rfl) rfl ?_
        refine hpa_s1 (by rfl) (Or.inl ⟨_, rfl, rfl⟩) rfl ?_
        exact L23 _ (Int32.ofNat 0) A2 p172 lg2
      ·
        refine hpa_aload_n (by rfl) rfl ?_
        refine hpa_get (v := .ref 397) (by rfl) (by rfl) (by rfl) rfl ?_
        refine hpa_iload_n (by rfl) rfl ?_
        refine hpa_iconst (by rfl) rfl ?_
        refine hpx_iast (by rfl) (by rfl) (fun A22 h0A22 h1A22 eA22 fA22 gA22 => ?_)
        have p17A22 : A22.1 367 17 = A.1 367 17 := by rw [eA22]; exact p172
        have lgA22 : A22.2.2 = A.2.2 := by rw [gA22]; exact lg2
        refine hpj_iincU (by rfl) rfl (fun _ => rfl) (fun z23 => ?_)
        refine hpa_goto (by rfl) ?_
        exact ih2 z23 A22 p17A22 lgA22
  refine hpa_iconst (by rfl) rfl ?_
  refine hpa_s1 (by rfl) (Or.inl ⟨_, rfl, rfl⟩) rfl ?_
  exact L2 _ (Int32.ofNat 0) A rfl rfl
theorem hP169 {g d : Nat} {A : hs_A}  : hpC g d 169 hm_m169 [.ref 368] A (fun r A' => r = none ∧ (A'.1 367 17 = A.1 367 17 ∧ A'.2.2 = A.2.2)) := hpC.all (fun f d => hW169  (fun r A' h => h))
theorem hW170 {g d f : Nat} {A : hs_A}  {P : Option Value → hs_A → Prop} (hP : ∀ (r : Option Value) (A' : hs_A), (r = none ∧ (A'.1 367 17 = A.1 367 17 ∧ A'.2.2 = A.2.2)) → P r A') : hpa (f, g) d none hm_t170 0 [.ref 368, .retAddr 0] [] A P := by
  have k0 := hk_0
  have k1 := hk_1
  have k73 := hk_73
  have L2 : ∀ (f : Nat) (x2_1 : Int32) (A2 : hs_A) (p172 : A2.1 367 17 = A.1 367 17) (lg2 : A2.2.2 = A.2.2), hpa (f, g) d none hm_t170 2 [.ref 368, .int x2_1] [] A2 P := by
    intro f
    induction f with
    | zero => intros; exact hpa.zero
    | succ f ih2 =>
      intro x2_1 A2 p172 lg2
      refine hpa_iload_nS (by rfl) rfl ?_
      refine hpa_bipush (by rfl) rfl ?_
      refine hpj_cge (by rfl) rfl hk_73 (fun q1 => ?_) (fun q1 => ?_)
      ·
        exact hpa_return (by rfl) rfl (hP _ _ ⟨rfl, p172, lg2⟩)
      ·
        refine hpa_aload_n (by rfl) rfl ?_
        refine hpa_get (v := .ref 396) (by rfl) (by rfl) (by rfl) rfl ?_
        refine hpa_iload_n (by rfl) rfl ?_
        refine hpa_aload_n (by rfl) rfl ?_
        refine hpa_get (v := .ref 397) (by rfl) (by rfl) (by rfl) rfl ?_
        refine hpa_iload_n (by rfl) rfl ?_
        refine hpx_iald (by rfl) (by rfl) (fun h0v2 h1v2 v2 ev2 => ?_)
        refine hpx_iast (by rfl) (by rfl) (fun A3 h0A3 h1A3 eA3 fA3 gA3 => ?_)
        have p17A3 : A3.1 367 17 = A.1 367 17 := by rw [eA3]; exact p172
        have lgA3 : A3.2.2 = A.2.2 := by rw [gA3]; exact lg2
        refine hpj_iincU (by rfl) rfl (fun _ => rfl) (fun z4 => ?_)
        refine hpa_goto (by rfl) ?_
        exact ih2 z4 A3 p17A3 lgA3
  refine hpa_iconst (by rfl) rfl ?_
  refine hpa_s1 (by rfl) (Or.inl ⟨_, rfl, rfl⟩) rfl ?_
  exact L2 _ (Int32.ofNat 0) A rfl rfl
theorem hP170 {g d : Nat} {A : hs_A}  : hpC g d 170 hm_m170 [.ref 368] A (fun r A' => r = none ∧ (A'.1 367 17 = A.1 367 17 ∧ A'.2.2 = A.2.2)) := hpC.all (fun f d => hW170  (fun r A' h => h))
theorem hW150 {g d f : Nat} {A : hs_A} {B : Nat → Int} {n sd : Nat} (hA : ∀ i, i < n → (A.2.1 368 i).toInt = B i) (hBr : ∀ i, i < n → -128 ≤ B i ∧ B i ≤ 127) (hn : n ≤ 2000) (h2 : (A.1 367 2).toInt = (n : Int)) (hlv : (A.1 367 18).toInt = 1 - (sd : Int)) (hsd : sd ≤ 1) (hU : hcU A) {P : Option Value → hs_A → Prop} (hP : ∀ (r : Option Value) (A' : hs_A), (∃ z : Int32, r = some (.int z) ∧ hq_res (ht_K B n) (ht_W B n) (fun u => (ht_S B n u : Int)) (ht_E B n) z.toInt (A'.1 367 17).toInt ∧ hcU A') → P r A') : hpa (f, g) d (some (.int)) hm_t150 0 [.ref 368, .retAddr 0] [] A P := by
  have k0 := hk_0
  have k1 := hk_1
  have k130 := hk_130
  have k3 := hk_3
  have k420 := hk_420
  have k4294967295 := hk_4294967295
  have L219 : ∀ (f : Nat) (x219_1 : Int32) (A219 : hs_A) (rs219 : hq_res (ht_K B n) (ht_W B n) (fun u => (ht_S B n u : Int)) (ht_E B n) 0 (A219.1 367 17).toInt) (hu219 : hcU A219), hpa (f, g) d (some (.int)) hm_t150 219 [.ref 368, .int x219_1] [] A219 P := by
    intro f
    induction f with
    | zero => intros; exact hpa.zero
    | succ f ih219 =>
      intro x219_1 A219 rs219 hu219
      refine hpa_iload_nS (by rfl) rfl ?_
      refine hpa_iconst (by rfl) rfl ?_
      refine hpj_cge (by rfl) rfl hk_3 (fun q1 => ?_) (fun q1 => ?_)
      ·
        refine hpa_iconst (by rfl) rfl ?_
        exact hpa_ireturn (by rfl) rfl (hP _ _ ⟨_, rfl, by rw [hk_0]; exact rs219, hu219⟩)
      ·
        refine hpa_aload_n (by rfl) rfl ?_
        refine hpa_get (v := .ref 409) (by rfl) (by rfl) (by rfl) rfl ?_
        refine hpa_iload_n (by rfl) rfl ?_
        refine hpa_iconst (by rfl) rfl ?_
        refine hpx_zast (by rfl) (by rfl) (by decide) (fun A2 h0A2 h1A2 eA2 fA2 gA2 => ?_)
        have rsA2 : hq_res (ht_K B n) (ht_W B n) (fun u => (ht_S B n u : Int)) (ht_E B n) 0 (A2.1 367 17).toInt := by rw [eA2]; exact rs219
        have huA2 : hcU A2 := hu219.fr (by rw [gA2])
        refine hpj_iincU (by rfl) rfl (fun _ => rfl) (fun z3 => ?_)
        refine hpa_goto (by rfl) ?_
        exact ih219 z3 A2 rsA2 huA2
  have L112 : ∀ (f : Nat) (x112_1 : Value) (A112 : hs_A) (D112 : (∃ (t a b c : Nat) (ns : List Nat) (nm sn : Nat) (o : Option (Nat × Nat)), hmB (ht_K B n) (ht_W B n) (fun u => (ht_S B n u : Int)) (ht_E B n) A112 t (0, a, b, c, ns, nm, sn, o) ∧ hmR (fun u => (ht_S B n u : Int)) A112 t ns sn o sd 0) ∨ hmF (ht_K B n) (ht_W B n) (fun u => (ht_S B n u : Int)) (ht_E B n) A112), hpa (f, g) d (some (.int)) hm_t150 112 [.ref 368, x112_1] [] A112 P := by
    intro f
    induction f with
    | zero => intros; exact hpa.zero
    | succ f ih112 =>
      intro x112_1 A112 D112
      rcases D112 with ⟨t, a, b, c, ns, nm, sn, o, B1, R1⟩ | F1
      ·
        have f01 := B1.2.2.2
        have nx1 := B1.2.1
        have j0 := B1.i0 hk_0
        have hl1 := R1.2.2.2.2.2.2.2
        have hU1 := B1.1.2.2
        refine hpa_aload_nS (by rfl) rfl ?_
        refine hpj_getK (by rfl) (by rfl) (by rfl) rfl ?_
        refine hpj_zne (by rfl) rfl (fun q4 => False.elim (by omega)) (fun q4 => ?_)
        refine hpa_aload_n (by rfl) rfl ?_
        refine hpa_iconst (by rfl) rfl ?_
        refine hpa_call0 (by rfl) (by rfl) (by rfl) (by rfl) (by rfl) (by rfl) (hP144 (Int32.ofNat 0) B1) ?_
        rintro _ _ ⟨rfl, z6, rfl, (⟨fz_A5, e_A5⟩ | ⟨fz_A5, ne_A5⟩)⟩
        ·
          refine hpj_zne (by rfl) rfl (fun q7 => ?_) (fun q7 => False.elim (by omega))
          refine hpa_aload_n (by rfl) rfl ?_
          refine hpa_aload_n (by rfl) rfl ?_
          refine hpj_getK (by rfl) (by rfl) (by rfl) rfl ?_
          refine hpj_zle (by rfl) rfl (fun q8 => ?_) (fun q8 => False.elim (by omega))
          refine hpa_aload_n (by rfl) rfl ?_
          refine hpj_getK (by rfl) (by rfl) (by rfl) rfl ?_
          refine hpj_zle (by rfl) rfl (fun q9 => ?_) (fun q9 => ?_)
          ·
            refine hpa_iconst (by rfl) rfl ?_
            refine hpj_putI (by rfl) (by rfl) (by rfl) (by rfl) (fun A10 eA10 fA10 => ?_)
            refine hpa_aload_n (by rfl) rfl ?_
            refine hpj_getK (by rfl) (by rfl) (by rfl) (hkF eA10 (by omega) rfl) ?_
            refine hpj_zle (by rfl) rfl (fun q11 => ?_) (fun q11 => False.elim (by omega))
            refine hpa_aload_n (by rfl) rfl ?_
            refine hpj_getK (by rfl) (by rfl) (by rfl) (hkF eA10 (by omega) rfl) ?_
            refine hpj_zle (by rfl) rfl (fun q12 => ?_) (fun q12 => False.elim (by omega))
            refine hpa_aload_n (by rfl) rfl ?_
            refine hpa_aload_n (by rfl) rfl ?_
            refine hpj_getK (by rfl) (by rfl) (by rfl) (hkF eA10 (by omega) rfl) ?_
            refine hpj_putI (by rfl) (by rfl) (by rfl) (by rfl) (fun A13 eA13 fA13 => ?_)
            have rs0 : hq_res (ht_K B n) (ht_W B n) (fun u => (ht_S B n u : Int)) (ht_E B n) 0 (A13.1 367 17).toInt := by
              rw [show A13.1 367 17 = (Int32.ofNat 4294967295) from (hkF eA13 (by omega) (hkS eA10)), hk_4294967295]
              exact hq_res.fine B1.2.2.1 (hqd0_end (by omega)) hl1 (by omega)
            have hu0 : hcU A13 := hU1.fr (by rw [fA13, fA10])
            refine hpa_aload_n (by rfl) rfl ?_
            refine hpa_call0 (by rfl) (by rfl) (by rfl) (by rfl) (by rfl) (by rfl) (hP169 ) ?_
            rintro _ A14 ⟨rfl, p17_A14, lg_A14⟩
            have rsA14 : hq_res (ht_K B n) (ht_W B n) (fun u => (ht_S B n u : Int)) (ht_E B n) 0 (A14.1 367 17).toInt := by rw [p17_A14]; exact rs0
            have huA14 : hcU A14 := hu0.fr (by rw [lg_A14])
            refine hpa_aload_n (by rfl) rfl ?_
            refine hpa_call0 (by rfl) (by rfl) (by rfl) (by rfl) (by rfl) (by rfl) (hP170 ) ?_
            rintro _ A15 ⟨rfl, p17_A15, lg_A15⟩
            have rsA15 : hq_res (ht_K B n) (ht_W B n) (fun u => (ht_S B n u : Int)) (ht_E B n) 0 (A15.1 367 17).toInt := by rw [p17_A15]; exact rsA14
            have huA15 : hcU A15 := huA14.fr (by rw [lg_A15])
            refine hpa_aload_n (by rfl) rfl ?_
            refine hpa_iconst (by rfl) rfl ?_
            refine hpj_putI (by rfl) (by rfl) (by rfl) (by rfl) (fun A16 eA16 fA16 => ?_)
            have rsA16 : hq_res (ht_K B n) (ht_W B n) (fun u => (ht_S B n u : Int)) (ht_E B n) 0 (A16.1 367 17).toInt := by rw [eA16, hup2 (by omega)]; exact rsA15
            have huA16 : hcU A16 := huA15.fr (by rw [fA16])
            refine hpa_aload_n (by rfl) rfl ?_
            refine hpa_iconst (by rfl) rfl ?_
            refine hpj_putI (by rfl) (by rfl) (by rfl) (by rfl) (fun A17 eA17 fA17 => ?_)
            have rsA17 : hq_res (ht_K B n) (ht_W B n) (fun u => (ht_S B n u : Int)) (ht_E B n) 0 (A17.1 367 17).toInt := by rw [eA17, hup2 (by omega)]; exact rsA16
            have huA17 : hcU A17 := huA16.fr (by rw [fA17])
            refine hpa_iconst (by rfl) rfl ?_
            refine hpa_s1 (by rfl) (Or.inl ⟨_, rfl, rfl⟩) rfl ?_
            exact L219 _ (Int32.ofNat 0) A17 rsA17 huA17
          ·
            refine hpa_aload_n (by rfl) rfl ?_
            refine hpj_getK (by rfl) (by rfl) (by rfl) rfl ?_
            refine hpa_goto (by rfl) ?_
            refine hpj_putI (by rfl) (by rfl) (by rfl) (by rfl) (fun A18 eA18 fA18 => ?_)
            refine hpa_aload_n (by rfl) rfl ?_
            refine hpj_getK (by rfl) (by rfl) (by rfl) (hkF eA18 (by omega) rfl) ?_
            refine hpj_zle (by rfl) rfl (fun q19 => ?_) (fun q19 => False.elim (by omega))
            refine hpa_aload_n (by rfl) rfl ?_
            refine hpj_getK (by rfl) (by rfl) (by rfl) (hkF eA18 (by omega) rfl) ?_
            refine hpj_zle (by rfl) rfl (fun q20 => False.elim (by omega)) (fun q20 => ?_)
            refine hpa_aload_n (by rfl) rfl ?_
            refine hpj_getK (by rfl) (by rfl) (by rfl) (hkF eA18 (by omega) rfl) ?_
            exact hpa_ireturn (by rfl) rfl (hP _ _ ⟨_, rfl, by rw [show A18.1 367 17 = (A112.1 367 16) from (hkS eA18)]; exact hq_res.bad B1.2.2.1 (hqd0_end (by omega)) hl1 (by omega), hU1.fr (by rw [fA18])⟩)
        ·
          refine hpj_zne (by rfl) rfl (fun q21 => False.elim (by omega)) (fun q21 => ?_)
          refine hpa_aload_n (by rfl) rfl ?_
          refine hpa_call0 (by rfl) (by rfl) (by rfl) (by rfl) (by rfl) (by rfl) (hP154 hmS.of B1 R1 (by omega)) ?_
          rintro _ A22 ⟨rfl, (OKK_A22 | F_A22)⟩
          ·
            obtain ⟨t9, a9, b9, c9, ns9, nm9, sn9, o9, lt9, B9, R9⟩ := OKK_A22
            refine hpa_goto (by rfl) ?_
            exact ih112 (x112_1) A22 (Or.inl ⟨_, _, _, _, _, _, _, _, B9, R9⟩)
          ·
            have fp_A22 := F_A22.pos
            refine hpa_goto (by rfl) ?_
            exact ih112 (x112_1) A22 (Or.inr F_A22)
      ·
        have fp1 := F1.pos
        obtain ⟨fU, ft, fk, fq, fk0, fv, fpl⟩ := id F1
        refine hpa_aload_nS (by rfl) rfl ?_
        refine hpj_getK (by rfl) (by rfl) (by rfl) rfl ?_
        refine hpj_zne (by rfl) rfl (fun q23 => ?_) (fun q23 => False.elim (by omega))
        refine hpa_aload_n (by rfl) rfl ?_
        refine hpa_aload_n (by rfl) rfl ?_
        refine hpj_getK (by rfl) (by rfl) (by rfl) rfl ?_
        refine hpj_zle (by rfl) rfl (fun q24 => False.elim (by omega)) (fun q24 => ?_)
        refine hpa_aload_n (by rfl) rfl ?_
        refine hpj_getK (by rfl) (by rfl) (by rfl) rfl ?_
        refine hpa_goto (by rfl) ?_
        refine hpj_putI (by rfl) (by rfl) (by rfl) (by rfl) (fun A25 eA25 fA25 => ?_)
        refine hpa_aload_n (by rfl) rfl ?_
        refine hpj_getK (by rfl) (by rfl) (by rfl) (hkF eA25 (by omega) rfl) ?_
        refine hpj_zle (by rfl) rfl (fun q26 => False.elim (by omega)) (fun q26 => ?_)
        refine hpa_aload_n (by rfl) rfl ?_
        refine hpj_getK (by rfl) (by rfl) (by rfl) (hkF eA25 (by omega) rfl) ?_
        exact hpa_ireturn (by rfl) rfl (hP _ _ ⟨_, rfl, by rw [show A25.1 367 17 = (A112.1 367 14) from (hkS eA25)]; exact Or.inl ⟨ft, fk, fq, fk0, fv, fpl⟩, fU.fr (by rw [fA25])⟩)
  have L10 : ∀ (f : Nat) (x10_1 : Int32) (A10 : hs_A) (fe : ∀ i k, ¬ (i = 367 ∧ k = 4) → A10.1 i k = A.1 i k) (f4 : (A10.1 367 4).toInt = (n : Int)) (fa : ∀ i, ¬ i = 369 → A10.2.1 i = A.2.1 i) (fl : A10.2.2 = A.2.2) (lo : 0 ≤ x10_1.toInt) (hi : x10_1.toInt ≤ (n : Int)) (cp : ∀ i : Nat, (i : Int) < x10_1.toInt → (A10.2.1 369 i).toInt = B i), hpa (f, g) d (some (.int)) hm_t150 10 [.ref 368, .int x10_1] [] A10 P := by
    intro f
    induction f with
    | zero => intros; exact hpa.zero
    | succ f ih10 =>
      intro x10_1 A10 fe f4 fa fl lo hi cp
      refine hpa_iload_nS (by rfl) rfl ?_
      refine hpa_aload_n (by rfl) rfl ?_
      refine hpj_getK (by rfl) (by rfl) (by rfl) rfl ?_
      refine hpj_cge (by rfl) rfl rfl (fun q27 => ?_) (fun q27 => ?_)
      ·
        refine hpa_aload_n (by rfl) rfl ?_
        refine hpa_iconst (by rfl) rfl ?_
        refine hpj_putI (by rfl) (by rfl) (by rfl) (by rfl) (fun A28 eA28 fA28 => ?_)
        have hA38 : hmTp B n A28 := ⟨by rw [eA28, hup2 (by omega)]; exact f4, fun i hi => by rw [fA28]; exact cp i (by omega)⟩
        have hU38 : hcU A28 := hU.fr (by rw [fA28, fl])
        have hl38 : (A28.1 367 18).toInt = 1 - (sd : Int) := by rw [eA28, hup2 (by omega), fe 367 18 (by omega)]; exact hlv
        refine hpa_aload_n (by rfl) rfl ?_
        refine hpa_call0 (by rfl) (by rfl) (by rfl) (by rfl) (by rfl) (by rfl) (hP142 hA38 hn hBr hU38) ?_
        rintro _ A29 ⟨rfl, C_A29, TE_A29⟩
        have hl42 : (A29.1 367 18).toInt = 1 - (sd : Int) := by rw [C_A29.1 367 18 (by omega)]; exact hl38
        refine hpa_aload_n (by rfl) rfl ?_
        refine hpa_iconst (by rfl) rfl ?_
        refine hpj_putI (by rfl) (by rfl) (by rfl) (by rfl) (fun A30 eA30 fA30 => ?_)
        refine hpa_aload_n (by rfl) rfl ?_
        refine hpa_iconst (by rfl) rfl ?_
        refine hpj_putI (by rfl) (by rfl) (by rfl) (by rfl) (fun A31 eA31 fA31 => ?_)
        refine hpa_aload_n (by rfl) rfl ?_
        refine hpa_iconst (by rfl) rfl ?_
        refine hpj_putI (by rfl) (by rfl) (by rfl) (by rfl) (fun A32 eA32 fA32 => ?_)
        refine hpa_aload_n (by rfl) rfl ?_
        refine hpa_iconst (by rfl) rfl ?_
        refine hpj_putI (by rfl) (by rfl) (by rfl) (by rfl) (fun A33 eA33 fA33 => ?_)
        refine hpa_aload_n (by rfl) rfl ?_
        refine hpa_iconst (by rfl) rfl ?_
        refine hpa_aload_n (by rfl) rfl ?_
        refine hpj_getK (by rfl) (by rfl) (by rfl) (hkF eA33 (by omega) (hkF eA32 (by omega) (hkF eA31 (by omega) (hkF eA30 (by omega) rfl)))) ?_
        refine hpj_isub (by rfl) hk_1 rfl (by omega) (by omega) (fun z34 ez34 => ?_)
        refine hpj_putI (by rfl) (by rfl) (by rfl) (by rfl) (fun A35 eA35 fA35 => ?_)
        refine hpa_aload_n (by rfl) rfl ?_
        refine hpa_iconst (by rfl) rfl ?_
        refine hpj_putI (by rfl) (by rfl) (by rfl) (by rfl) (fun A36 eA36 fA36 => ?_)
        refine hpa_aload_n (by rfl) rfl ?_
        refine hpa_aload_n (by rfl) rfl ?_
        refine hpj_getK (by rfl) (by rfl) (by rfl) (hkF eA36 (by omega) (hkS eA35)) ?_
        refine hpa_call0 (by rfl) (by rfl) (by rfl) (by rfl) (by rfl) (by rfl) (hP149 z34 (show z34.toInt = (sd : Int) by omega)) ?_
        rintro _ A37 ⟨rfl, P_A37, z1_A37, z2_A37⟩
        refine hpa_aload_n (by rfl) rfl ?_
        refine hpa_sipush (by rfl) rfl ?_
        refine hpa_aload_n (by rfl) rfl ?_
        refine hpj_getK (by rfl) (by rfl) (by rfl) rfl ?_
        refine hpj_imulU (by rfl) (fun z38 => ?_)
        refine hpj_putI (by rfl) (by rfl) (by rfl) (by rfl) (fun A39 eA39 fA39 => ?_)
        refine hpa_aload_n (by rfl) rfl ?_
        refine hpa_sipush (by rfl) rfl ?_
        refine hpa_aload_n (by rfl) rfl ?_
        refine hpj_getK (by rfl) (by rfl) (by rfl) (hkF eA39 (by omega) rfl) ?_
        refine hpj_imulU (by rfl) (fun z40 => ?_)
        refine hpj_putI (by rfl) (by rfl) (by rfl) (by rfl) (fun A41 eA41 fA41 => ?_)
        obtain ⟨B0, R0⟩ := hm_init hsd TE_A29 eA30 fA30 eA31 fA31 eA32 fA32 eA33 fA33 eA35 fA35 (show z34.toInt = (sd : Int) by omega) eA36 fA36 P_A37 z1_A37 z2_A37 eA39 fA39 eA41 fA41
        exact L112 _ (.int x10_1) A41 (Or.inl ⟨_, _, _, _, _, _, _, _, B0, R0⟩)
      ·
        refine hpa_aload_n (by rfl) rfl ?_
        refine hpa_get (v := .ref 370) (by rfl) (by rfl) (by rfl) rfl ?_
        refine hpa_iload_n (by rfl) rfl ?_
        refine hpa_aload_n (by rfl) rfl ?_
        refine hpa_get (v := .ref 369) (by rfl) (by rfl) (by rfl) rfl ?_
        refine hpa_iload_n (by rfl) rfl ?_
        refine hpx_bald (by rfl) (by rfl) (fun h0v42 h1v42 v42 ev42 => ?_)
        have hc10 := hn_cn (j := x10_1) (by omega)
        have tv28 : v42.toInt = B x10_1.toNatClampNeg := by rw [← ev42, fa 368 (by omega)]; exact hA x10_1.toNatClampNeg (by omega)
        have hbr28 := hBr x10_1.toNatClampNeg (by omega)
        have hst := hi8 (x := v42) (by omega) (by omega)
        refine hpx_bast (by rfl) (by rfl) (fun A43 h0A43 h1A43 eA43 fA43 gA43 => ?_)
        refine hpj_iinc (by rfl) rfl rfl hk_1 (by omega) (by omega) (fun _ => rfl) (fun z44 ez44 => ?_)
        refine hpa_goto (by rfl) ?_
        exact ih10 z44 A43 (fun i k hi => by rw [eA43]; exact fe i k hi) (by rw [eA43]; exact f4) (fun i hi => by rw [fA43, ← fa i hi]; funext b; exact hup2 (fun q => hi q.1)) (gA43.trans fl) (by omega) (by omega) (fun i hi => by rw [fA43]; by_cases q : i = x10_1.toNatClampNeg; (subst q; rw [hup1, hst]; exact tv28); rw [hup2 (fun w => q w.2)]; exact cp i (by omega))
  refine hpa_aload_n (by rfl) rfl ?_
  refine hpa_aload_n (by rfl) rfl ?_
  refine hpj_getK (by rfl) (by rfl) (by rfl) rfl ?_
  refine hpj_putI (by rfl) (by rfl) (by rfl) (by rfl) (fun A45 eA45 fA45 => ?_)
  refine hpa_iconst (by rfl) rfl ?_
  refine hpa_s1 (by rfl) (Or.inl ⟨_, rfl, rfl⟩) rfl ?_
  exact L10 _ (Int32.ofNat 0) A45 (fun i k hi => by rw [eA45, hup2 hi]) (by rw [eA45, hup1]; exact h2) (fun i _ => by rw [fA45]) (by rw [fA45]) (by omega) (by omega) (fun i hi => absurd hi (by omega))
theorem hP150 {g d : Nat} {A : hs_A} {B : Nat → Int} {n sd : Nat} (hA : ∀ i, i < n → (A.2.1 368 i).toInt = B i) (hBr : ∀ i, i < n → -128 ≤ B i ∧ B i ≤ 127) (hn : n ≤ 2000) (h2 : (A.1 367 2).toInt = (n : Int)) (hlv : (A.1 367 18).toInt = 1 - (sd : Int)) (hsd : sd ≤ 1) (hU : hcU A) : hpC g d 150 hm_m150 [.ref 368] A (fun r A' => ∃ z : Int32, r = some (.int z) ∧ hq_res (ht_K B n) (ht_W B n) (fun u => (ht_S B n u : Int)) (ht_E B n) z.toInt (A'.1 367 17).toInt ∧ hcU A') := hpC.all (fun f d => hW150 hA hBr hn h2 hlv hsd hU (fun r A' h => h))
