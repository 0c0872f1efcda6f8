/-! QUERIES OF THE ROW THAT IS -/
def huLi (n : Nat) (ro : Nat → Int32) (w z : Int32) : Prop := (∃ h, h < n ∧ ro (20 + h) = w ∧ (∀ j, j < h → ¬ ro (20 + j) = w) ∧ z = Int32.ofNat h) ∨ ((∀ j, j < n → ¬ ro (20 + j) = w) ∧ z = Int32.ofNat 4294967295)
theorem huLi_one {n : Nat} {ro : Nat → Int32} {w z z' : Int32} (h : huLi n ro w z) (h' : huLi n ro w z') : z = z' := by
  rcases h with ⟨a, a1, a2, a3, rfl⟩ | ⟨a1, rfl⟩
  · rcases h' with ⟨b, b1, b2, b3, rfl⟩ | ⟨b1, rfl⟩
    · by_cases q : a = b
      · rw [q]
      · by_cases r : a < b
        · exact absurd a2 (b3 a r)
        · exact absurd b2 (a3 b (by omega))
    · exact absurd a2 (b1 a a1)
  · rcases h' with ⟨b, b1, b2, b3, rfl⟩ | ⟨b1, rfl⟩
    · exact absurd b2 (a1 b b1)
    · rfl
/-- at a house v, else -1 -/
def huAt (n : Nat) (a v z : Int32) : Prop := (0 ≤ a.toInt ∧ a.toInt < (n : Int) ∧ z = v) ∨ ((a.toInt < 0 ∨ (n : Int) ≤ a.toInt) ∧ z = Int32.ofNat 4294967295)
theorem huAt_one {n : Nat} {a v z z' : Int32} (h : huAt n a v z) (h' : huAt n a v z') : z = z' := by
  rcases h with ⟨a1, a2, rfl⟩ | ⟨a1, rfl⟩
  · rcases h' with ⟨b1, b2, rfl⟩ | ⟨b1, rfl⟩
    · rfl
    · exact False.elim (by omega)
  · rcases h' with ⟨b1, b2, rfl⟩ | ⟨b1, rfl⟩
    · exact False.elim (by omega)
    · rfl
def huOf (ro : Nat → Int32) : Nat → Nat
  | 0 => 0
  | k + 1 => huOf ro k + (if (ro (50 + k)).toInt = 1 then 0 else 1)
theorem huOf_y {ro : Nat → Int32} {k : Nat} (h : (ro (50 + k)).toInt = 1) : huOf ro (k + 1) = huOf ro k := by
  show huOf ro k + (if (ro (50 + k)).toInt = 1 then 0 else 1) = _
  rw [if_pos h]
  rfl
theorem huOf_n {ro : Nat → Int32} {k : Nat} (h : ¬ (ro (50 + k)).toInt = 1) : huOf ro (k + 1) = huOf ro k + 1 := by
  show huOf ro k + (if (ro (50 + k)).toInt = 1 then 0 else 1) = _
  rw [if_neg h]
theorem hW76 {g d f : Nat} {A : hs_A} {T n : Nat} {ro : Nat → Int32} (a1 : Int32) (hT : hTT T) (h3 : A.2.2.2 0 3 = T + 1) (hTn : (A.1 T 4).toInt = (n : Int)) (hL : hdL 26 ro n A) {P : Option Value → hs_A → Prop} (hP : ∀ (r : Option Value) (A' : hs_A), (A = A' ∧ ∃ z : Int32, r = some (.int z) ∧ ((z.toInt = 1 ∧ 0 ≤ a1.toInt ∧ a1.toInt < (n : Int)) ∨ (z.toInt = 0 ∧ (a1.toInt < 0 ∨ (n : Int) ≤ a1.toInt)))) → P r A') : hpa (f, g) d (some (.boolean)) hm_t76 0 [.ref 1, .int a1] [] A P := by
  have k0 := hk_0
  have k1 := hk_1
  have k10 := hk_10
  have hn10 := hL.1
  have cn := hn_c (n := n) (z := Int32.ofNat n) rfl (by omega)
  refine hpa_iload_n (by rfl) rfl ?_
  refine hpj_zlt (by rfl) rfl (fun q1 => ?_) (fun q1 => ?_)
  ·
    refine hpa_iconst (by rfl) rfl ?_
    exact hpa_ireturn (by rfl) (by rfl) (hP _ _ ⟨rfl, _, rfl, Or.inr ⟨hk_0, by omega⟩⟩)
  ·
    refine hpa_iload_n (by rfl) rfl ?_
    refine hpa_aload_n (by rfl) rfl ?_
    refine hpj_getT (by rfl) (by rfl) (by rfl) h3 ?_
    refine hpj_getK (by rfl) (hsT hT) (by rfl) rfl ?_
    rw [show (A.1 T 4) = Int32.ofNat n from huI hTn (by omega)]
    refine hpj_cge (by rfl) rfl cn (fun q2 => ?_) (fun q2 => ?_)
    ·
      refine hpa_iconst (by rfl) rfl ?_
      exact hpa_ireturn (by rfl) (by rfl) (hP _ _ ⟨rfl, _, rfl, Or.inr ⟨hk_0, by omega⟩⟩)
    ·
      refine hpa_iload_n (by rfl) rfl ?_
      refine hpa_bipush (by rfl) rfl ?_
      refine hpj_cge (by rfl) rfl hk_10 (fun q3 => ?_) (fun q3 => ?_)
      ·
        refine hpa_iconst (by rfl) rfl ?_
        exact hpa_ireturn (by rfl) (by rfl) (hP _ _ ⟨rfl, _, rfl, Or.inr ⟨hk_0, by omega⟩⟩)
      ·
        refine hpa_iconst (by rfl) rfl ?_
        refine hpa_goto (by rfl) ?_
        exact hpa_ireturn (by rfl) (by rfl) (hP _ _ ⟨rfl, _, rfl, Or.inl ⟨hk_1, by omega, by omega⟩⟩)
theorem hP76 {g d : Nat} {A : hs_A} {T n : Nat} {ro : Nat → Int32} (a1 : Int32) (hT : hTT T) (h3 : A.2.2.2 0 3 = T + 1) (hTn : (A.1 T 4).toInt = (n : Int)) (hL : hdL 26 ro n A) : hpC g d 76 hm_m76 [.ref 1, .int a1] A (fun r A' => A = A' ∧ ∃ z : Int32, r = some (.int z) ∧ ((z.toInt = 1 ∧ 0 ≤ a1.toInt ∧ a1.toInt < (n : Int)) ∨ (z.toInt = 0 ∧ (a1.toInt < 0 ∨ (n : Int) ≤ a1.toInt)))) := hpC.all (fun f d => hW76 a1 hT h3 hTn hL (fun r A' h => h))
theorem hW167 {g d f : Nat} {A : hs_A} {sd n : Nat} {D : hg_D} {ro : Nat → Int32} (a1 : Int32) (hK : hrK sd D A) (hHn : A.2.1 376 sd = Int32.ofNat n) (h10 : n ≤ 10) (hg5 : ∀ k, k < 73 → A.2.1 395 k = ro k) {P : Option Value → hs_A → Prop} (hP : ∀ (r : Option Value) (A' : hs_A), (A = A' ∧ ∃ z : Int32, r = some (.int z) ∧ ((z.toInt = 1 ∧ 0 ≤ a1.toInt ∧ a1.toInt < (n : Int)) ∨ (z.toInt = 0 ∧ (a1.toInt < 0 ∨ (n : Int) ≤ a1.toInt)))) → P r A') : hpa (f, g) d (some (.boolean)) hm_t167 0 [.ref 368, .int a1] [] A P := by
  have k0 := hk_0
  have k1 := hk_1
  have k18 := hK.1
  have ksd := hK.2.1
  have cn := hn_c (n := n) (z := Int32.ofNat n) rfl (by omega)
  refine hpa_iload_n (by rfl) rfl ?_
  refine hpa_iconst (by rfl) rfl ?_
  refine hpa_aload_n (by rfl) rfl ?_
  refine hpa_get (v := .ref 377) (by rfl) (by rfl) (by rfl) rfl ?_
  refine hpa_aload_n (by rfl) rfl ?_
  refine hpj_getK (by rfl) (by rfl) (by rfl) rfl ?_
  refine hpx_iald (by rfl) (by rfl) (fun h0v1 h1v1 v1 ev1 => ?_)
  rw [show ((A.1 367 18)).toNatClampNeg = sd from by have := hn_cn (j := (A.1 367 18)) (by omega); omega, hHn] at ev1
  subst ev1
  refine hpa_iconst (by rfl) rfl ?_
  refine hpj_isub (by rfl) cn hk_1 (by omega) (by omega) (fun z2 ez2 => ?_)
  refine hpa_call2 (by rfl) (by decide) (by rfl) (by rfl) (by rfl) (hP164 a1 (Int32.ofNat 0) z2) ?_
  rintro _ _ ⟨rfl, z4, rfl, (⟨fz_A3, lo_A3, hi_A3⟩ | ⟨fz_A3, no_A3⟩)⟩
  ·
    exact hpa_ireturn (by rfl) (hn_fitB (by omega) (by omega)) (hP _ _ ⟨rfl, _, rfl, Or.inl ⟨fz_A3, by have := hk_0; omega, by omega⟩⟩)
  ·
    exact hpa_ireturn (by rfl) (hn_fitB (by omega) (by omega)) (hP _ _ ⟨rfl, _, rfl, Or.inr ⟨fz_A3, by have := hk_0; omega⟩⟩)
theorem hP167 {g d : Nat} {A : hs_A} {sd n : Nat} {D : hg_D} {ro : Nat → Int32} (a1 : Int32) (hK : hrK sd D A) (hHn : A.2.1 376 sd = Int32.ofNat n) (h10 : n ≤ 10) (hg5 : ∀ k, k < 73 → A.2.1 395 k = ro k) : hpC g d 167 hm_m167 [.ref 368, .int a1] A (fun r A' => A = A' ∧ ∃ z : Int32, r = some (.int z) ∧ ((z.toInt = 1 ∧ 0 ≤ a1.toInt ∧ a1.toInt < (n : Int)) ∨ (z.toInt = 0 ∧ (a1.toInt < 0 ∨ (n : Int) ≤ a1.toInt)))) := hpC.all (fun f d => hW167 a1 hK hHn h10 hg5 (fun r A' h => h))
theorem hW111 {g d f : Nat} {A : hs_A} {T n : Nat} {ro : Nat → Int32} (a1 : Int32) (hT : hTT T) (h3 : A.2.2.2 0 3 = T + 1) (hTn : (A.1 T 4).toInt = (n : Int)) (hL : hdL 26 ro n A) {P : Option Value → hs_A → Prop} (hP : ∀ (r : Option Value) (A' : hs_A), (A = A' ∧ ∃ z : Int32, r = some (.int z) ∧ huLi n ro a1 z) → P r A') : hpa (f, g) d (some (.int)) hm_t111 0 [.ref 1, .int a1, .retAddr 0] [] A P := by
  have k0 := hk_0
  have k1 := hk_1
  have k4294967295 := hk_4294967295
  have hn10 := hL.1
  have cn := hn_c (n := n) (z := Int32.ofNat n) rfl (by omega)
  have L2 : ∀ (f : Nat) (x2_2 : Int32) (k : Nat) (bk : k ≤ n) (ek : x2_2 = Int32.ofNat k) (LJ : ∀ j, j < k → ¬ ro (20 + j) = a1), hpa (f, g) d (some (.int)) hm_t111 2 [.ref 1, .int a1, .int x2_2] [] A P := by
    intro f
    induction f with
    | zero => intros; exact hpa.zero
    | succ f ih2 =>
      intro x2_2 k bk ek LJ
      subst ek
      have ck := hn_c (n := k) (z := Int32.ofNat k) rfl (by omega)
      refine hpa_iload_nS (by rfl) rfl ?_
      refine hpa_aload_n (by rfl) rfl ?_
      refine hpj_getT (by rfl) (by rfl) (by rfl) h3 ?_
      refine hpj_getK (by rfl) (hsT hT) (by rfl) rfl ?_
      rw [show (A.1 T 4) = Int32.ofNat n from huI hTn (by omega)]
      refine hpj_cge (by rfl) ck cn (fun q1 => ?_) (fun q1 => ?_)
      ·
        refine hpa_iconst (by rfl) rfl ?_
        exact hpa_ireturn (by rfl) rfl (hP _ _ ⟨rfl, _, rfl, Or.inr ⟨fun j hj => LJ j (by omega), rfl⟩⟩)
      ·
        refine hpa_aload_n (by rfl) rfl ?_
        refine hpa_get (v := .ref 27) (by rfl) (by rfl) (by rfl) rfl ?_
        refine hpa_get (v := .ref 31) (by rfl) (by rfl) (by rfl) rfl ?_
        refine hpa_iload_n (by rfl) rfl ?_
        refine hpx_iald (by rfl) (by rfl) (fun h0v2 h1v2 v2 ev2 => ?_)
        rw [show ((Int32.ofNat k)).toNatClampNeg = k from by have := hn_cn (j := (Int32.ofNat k)) (by omega); omega] at ev2
        have lv2 := ev2.symm.trans ((hL.2.2.2.2 (k) (by omega)).2.1)
        clear ev2
        subst lv2
        refine hpa_iload_n (by rfl) rfl ?_
        refine hpj_cne (by rfl) rfl rfl (fun q3 => ?_) (fun q3 => ?_)
        ·
          refine hpj_iinc (by rfl) rfl ck hk_1 (by omega) (by omega) (fun _ => rfl) (fun z4 ez4 => ?_)
          refine hpa_goto (by rfl) ?_
          exact ih2 z4 (k + 1) (by omega) (huI (by omega) (by omega)) (fun j hj => by by_cases c : j = k; (rw [c]; exact fun w => q3 (congrArg Int32.toInt w)); exact LJ j (by omega))
        ·
          refine hpa_iload_n (by rfl) rfl ?_
          exact hpa_ireturn (by rfl) rfl (hP _ _ ⟨rfl, _, rfl, Or.inl ⟨k, by omega, Int32.toInt_inj.mp q3, LJ, rfl⟩⟩)
  refine hpa_iconst (by rfl) rfl ?_
  refine hpa_s1 (by rfl) (Or.inl ⟨_, rfl, rfl⟩) rfl ?_
  exact L2 _ (Int32.ofNat 0) 0 (by omega) rfl (fun j hj => absurd hj (Nat.not_lt_zero j))
theorem hP111 {g d : Nat} {A : hs_A} {T n : Nat} {ro : Nat → Int32} (a1 : Int32) (hT : hTT T) (h3 : A.2.2.2 0 3 = T + 1) (hTn : (A.1 T 4).toInt = (n : Int)) (hL : hdL 26 ro n A) : hpC g d 111 hm_m111 [.ref 1, .int a1] A (fun r A' => A = A' ∧ ∃ z : Int32, r = some (.int z) ∧ huLi n ro a1 z) := hpC.all (fun f d => hW111 a1 hT h3 hTn hL (fun r A' h => h))
theorem hW221 {g d f : Nat} {A : hs_A} {sd n : Nat} {D : hg_D} {ro : Nat → Int32} (a1 : Int32) (hK : hrK sd D A) (hHn : A.2.1 376 sd = Int32.ofNat n) (h10 : n ≤ 10) (hg5 : ∀ k, k < 73 → A.2.1 395 k = ro k) {P : Option Value → hs_A → Prop} (hP : ∀ (r : Option Value) (A' : hs_A), (A = A' ∧ ∃ z : Int32, r = some (.int z) ∧ huLi n ro a1 z) → P r A') : hpa (f, g) d (some (.int)) hm_t221 0 [.ref 368, .int a1, .retAddr 0] [] A P := by
  have k0 := hk_0
  have k1 := hk_1
  have k20 := hk_20
  have k4294967295 := hk_4294967295
  have k18 := hK.1
  have ksd := hK.2.1
  have cn := hn_c (n := n) (z := Int32.ofNat n) rfl (by omega)
  have L2 : ∀ (f : Nat) (x2_2 : Int32) (k : Nat) (bk : k ≤ n) (ek : x2_2 = Int32.ofNat k) (LJ : ∀ j, j < k → ¬ ro (20 + j) = a1), hpa (f, g) d (some (.int)) hm_t221 2 [.ref 368, .int a1, .int x2_2] [] A P := by
    intro f
    induction f with
    | zero => intros; exact hpa.zero
    | succ f ih2 =>
      intro x2_2 k bk ek LJ
      subst ek
      have ck := hn_c (n := k) (z := Int32.ofNat k) rfl (by omega)
      refine hpa_iload_nS (by rfl) rfl ?_
      refine hpa_aload_n (by rfl) rfl ?_
      refine hpa_get (v := .ref 377) (by rfl) (by rfl) (by rfl) rfl ?_
      refine hpa_aload_n (by rfl) rfl ?_
      refine hpj_getK (by rfl) (by rfl) (by rfl) rfl ?_
      refine hpx_iald (by rfl) (by rfl) (fun h0v1 h1v1 v1 ev1 => ?_)
      rw [show ((A.1 367 18)).toNatClampNeg = sd from by have := hn_cn (j := (A.1 367 18)) (by omega); omega, hHn] at ev1
      subst ev1
      refine hpj_cge (by rfl) ck cn (fun q2 => ?_) (fun q2 => ?_)
      ·
        refine hpa_iconst (by rfl) rfl ?_
        exact hpa_ireturn (by rfl) rfl (hP _ _ ⟨rfl, _, rfl, Or.inr ⟨fun j hj => LJ j (by omega), rfl⟩⟩)
      ·
        refine hpa_aload_n (by rfl) rfl ?_
        refine hpa_get (v := .ref 396) (by rfl) (by rfl) (by rfl) rfl ?_
        refine hpa_bipush (by rfl) rfl ?_
        refine hpa_iload_n (by rfl) rfl ?_
        refine hpj_iadd (by rfl) hk_20 ck (by omega) (by omega) (fun z3 ez3 => ?_)
        refine hpx_iald (by rfl) (by rfl) (fun h0v4 h1v4 v4 ev4 => ?_)
        rw [show (z3).toNatClampNeg = 20 + k from by have := hn_cn (j := z3) (by omega); omega] at ev4
        have lv4 := ev4.symm.trans (show _ = ro (20 + k) from hg5 (20 + k) (by omega))
        clear ev4
        subst lv4
        refine hpa_iload_n (by rfl) rfl ?_
        refine hpj_cne (by rfl) rfl rfl (fun q5 => ?_) (fun q5 => ?_)
        ·
          refine hpj_iinc (by rfl) rfl ck hk_1 (by omega) (by omega) (fun _ => rfl) (fun z6 ez6 => ?_)
          refine hpa_goto (by rfl) ?_
          exact ih2 z6 (k + 1) (by omega) (huI (by omega) (by omega)) (fun j hj => by by_cases c : j = k; (rw [c]; exact fun w => q5 (congrArg Int32.toInt w)); exact LJ j (by omega))
        ·
          refine hpa_iload_n (by rfl) rfl ?_
          exact hpa_ireturn (by rfl) rfl (hP _ _ ⟨rfl, _, rfl, Or.inl ⟨k, by omega, Int32.toInt_inj.mp q5, LJ, rfl⟩⟩)
  refine hpa_iconst (by rfl) rfl ?_
  refine hpa_s1 (by rfl) (Or.inl ⟨_, rfl, rfl⟩) rfl ?_
  exact L2 _ (Int32.ofNat 0) 0 (by omega) rfl (fun j hj => absurd hj (Nat.not_lt_zero j))
theorem hP221 {g d : Nat} {A : hs_A} {sd n : Nat} {D : hg_D} {ro : Nat → Int32} (a1 : Int32) (hK : hrK sd D A) (hHn : A.2.1 376 sd = Int32.ofNat n) (h10 : n ≤ 10) (hg5 : ∀ k, k < 73 → A.2.1 395 k = ro k) : hpC g d 221 hm_m221 [.ref 368, .int a1] A (fun r A' => A = A' ∧ ∃ z : Int32, r = some (.int z) ∧ huLi n ro a1 z) := hpC.all (fun f d => hW221 a1 hK hHn h10 hg5 (fun r A' h => h))
theorem hW117 {g d f : Nat} {A : hs_A} {T n : Nat} {ro : Nat → Int32} (a1 : Int32) (hT : hTT T) (h3 : A.2.2.2 0 3 = T + 1) (hTn : (A.1 T 4).toInt = (n : Int)) (hL : hdL 26 ro n A) {P : Option Value → hs_A → Prop} (hP : ∀ (r : Option Value) (A' : hs_A), (A = A' ∧ ∃ z : Int32, r = some (.int z) ∧ huAt n a1 (ro a1.toNatClampNeg &&& (ro (40 + a1.toNatClampNeg) ^^^ Int32.ofNat 4294967295)) z) → P r A') : hpa (f, g) d (some (.int)) hm_t117 0 [.ref 1, .int a1] [] A P := by
  have k4294967295 := hk_4294967295
  have hn10 := hL.1
  have cn := hn_c (n := n) (z := Int32.ofNat n) rfl (by omega)
  refine hpa_aload_n (by rfl) rfl ?_
  refine hpa_iload_n (by rfl) rfl ?_
  refine hpa_call0 (by rfl) (by rfl) (by rfl) (by rfl) (by rfl) (by rfl) (hP76 a1 hT h3 hTn hL) ?_
  rintro _ _ ⟨rfl, z2, rfl, (⟨fz_A1, HS_A1⟩ | ⟨fz_A1, HS_A1⟩)⟩
  ·
    have c1 := hn_cn (j := a1) (by omega)
    refine hpj_zeq (by rfl) rfl (fun q3 => False.elim (by omega)) (fun q3 => ?_)
    refine hpa_aload_n (by rfl) rfl ?_
    refine hpa_get (v := .ref 27) (by rfl) (by rfl) (by rfl) rfl ?_
    refine hpa_iload_n (by rfl) rfl ?_
    refine hpa_call0 (by rfl) (by rfl) (by rfl) (by rfl) (by rfl) (by rfl) (hP21_26 (h := a1.toNatClampNeg) a1 hL (by omega) (huI (by omega) (by omega))) ?_
    rintro _ _ ⟨rfl, z5, rfl, Z_A4⟩
    refine hpa_goto (by rfl) ?_
    exact hpa_ireturn (by rfl) rfl (hP _ _ ⟨rfl, _, rfl, Or.inl ⟨by omega, by omega, Z_A4⟩⟩)
  ·
    refine hpj_zeq (by rfl) rfl (fun q6 => ?_) (fun q6 => False.elim (by omega))
    refine hpa_iconst (by rfl) rfl ?_
    exact hpa_ireturn (by rfl) rfl (hP _ _ ⟨rfl, _, rfl, Or.inr ⟨by omega, rfl⟩⟩)
theorem hP117 {g d : Nat} {A : hs_A} {T n : Nat} {ro : Nat → Int32} (a1 : Int32) (hT : hTT T) (h3 : A.2.2.2 0 3 = T + 1) (hTn : (A.1 T 4).toInt = (n : Int)) (hL : hdL 26 ro n A) : hpC g d 117 hm_m117 [.ref 1, .int a1] A (fun r A' => A = A' ∧ ∃ z : Int32, r = some (.int z) ∧ huAt n a1 (ro a1.toNatClampNeg &&& (ro (40 + a1.toNatClampNeg) ^^^ Int32.ofNat 4294967295)) z) := hpC.all (fun f d => hW117 a1 hT h3 hTn hL (fun r A' h => h))
theorem hW228 {g d f : Nat} {A : hs_A} {sd n : Nat} {D : hg_D} {ro : Nat → Int32} (a1 : Int32) (hK : hrK sd D A) (hHn : A.2.1 376 sd = Int32.ofNat n) (h10 : n ≤ 10) (hg5 : ∀ k, k < 73 → A.2.1 395 k = ro k) {P : Option Value → hs_A → Prop} (hP : ∀ (r : Option Value) (A' : hs_A), (A = A' ∧ ∃ z : Int32, r = some (.int z) ∧ huAt n a1 (ro a1.toNatClampNeg &&& (ro (40 + a1.toNatClampNeg) ^^^ Int32.ofNat 4294967295)) z) → P r A') : hpa (f, g) d (some (.int)) hm_t228 0 [.ref 368, .int a1] [] A P := by
  have k40 := hk_40
  have k4294967295 := hk_4294967295
  have k18 := hK.1
  have ksd := hK.2.1
  have cn := hn_c (n := n) (z := Int32.ofNat n) rfl (by omega)
  refine hpa_aload_n (by rfl) rfl ?_
  refine hpa_iload_n (by rfl) rfl ?_
  refine hpa_call0 (by rfl) (by rfl) (by rfl) (by rfl) (by rfl) (by rfl) (hP167 a1 hK hHn h10 hg5) ?_
  rintro _ _ ⟨rfl, z2, rfl, (⟨fz_A1, HS_A1⟩ | ⟨fz_A1, HS_A1⟩)⟩
  ·
    have c1 := hn_cn (j := a1) (by omega)
    refine hpj_zeq (by rfl) rfl (fun q3 => False.elim (by omega)) (fun q3 => ?_)
    refine hpa_aload_n (by rfl) rfl ?_
    refine hpa_get (v := .ref 396) (by rfl) (by rfl) (by rfl) rfl ?_
    refine hpa_iload_n (by rfl) rfl ?_
    refine hpx_iald (by rfl) (by rfl) (fun h0v4 h1v4 v4 ev4 => ?_)
    rw [show (a1).toNatClampNeg = a1.toNatClampNeg from by have := hn_cn (j := a1) (by omega); omega] at ev4
    have lv4 := ev4.symm.trans (show _ = ro a1.toNatClampNeg from hg5 a1.toNatClampNeg (by omega))
    clear ev4
    subst lv4
    refine hpa_aload_n (by rfl) rfl ?_
    refine hpa_get (v := .ref 396) (by rfl) (by rfl) (by rfl) rfl ?_
    refine hpa_bipush (by rfl) rfl ?_
    refine hpa_iload_n (by rfl) rfl ?_
    refine hpj_iadd (by rfl) hk_40 rfl (by omega) (by omega) (fun z5 ez5 => ?_)
    refine hpx_iald (by rfl) (by rfl) (fun h0v6 h1v6 v6 ev6 => ?_)
    rw [show (z5).toNatClampNeg = 40 + a1.toNatClampNeg from by have := hn_cn (j := z5) (by omega); omega] at ev6
    have lv6 := ev6.symm.trans (show _ = ro (40 + a1.toNatClampNeg) from hg5 (40 + a1.toNatClampNeg) (by omega))
    clear ev6
    subst lv6
    refine hpa_iconst (by rfl) rfl ?_
    refine hpa_ixor (by rfl) ?_
    refine hpa_iand (by rfl) ?_
    refine hpa_goto (by rfl) ?_
    exact hpa_ireturn (by rfl) rfl (hP _ _ ⟨rfl, _, rfl, Or.inl ⟨by omega, by omega, rfl⟩⟩)
  ·
    refine hpj_zeq (by rfl) rfl (fun q7 => ?_) (fun q7 => False.elim (by omega))
    refine hpa_iconst (by rfl) rfl ?_
    exact hpa_ireturn (by rfl) rfl (hP _ _ ⟨rfl, _, rfl, Or.inr ⟨by omega, rfl⟩⟩)
theorem hP228 {g d : Nat} {A : hs_A} {sd n : Nat} {D : hg_D} {ro : Nat → Int32} (a1 : Int32) (hK : hrK sd D A) (hHn : A.2.1 376 sd = Int32.ofNat n) (h10 : n ≤ 10) (hg5 : ∀ k, k < 73 → A.2.1 395 k = ro k) : hpC g d 228 hm_m228 [.ref 368, .int a1] A (fun r A' => A = A' ∧ ∃ z : Int32, r = some (.int z) ∧ huAt n a1 (ro a1.toNatClampNeg &&& (ro (40 + a1.toNatClampNeg) ^^^ Int32.ofNat 4294967295)) z) := hpC.all (fun f d => hW228 a1 hK hHn h10 hg5 (fun r A' h => h))
