theorem huOf_le {ro : Nat → Int32} : ∀ k, huOf ro k ≤ k
  | 0 => Nat.le_refl 0
  | k + 1 => by
    have q := huOf_le (ro := ro) k
    show huOf ro k + (if (ro (50 + k)).toInt = 1 then 0 else 1) ≤ _
    split <;> omega
theorem huOf_i {ro : Nat → Int32} {k : Nat} (h : 0 ≤ (ro (50 + k)).toInt ∧ (ro (50 + k)).toInt ≤ 1) : ((huOf ro (k + 1) : Nat) : Int) = (huOf ro k : Int) + (1 - (ro (50 + k)).toInt) := by
  by_cases q : (ro (50 + k)).toInt = 1
  · rw [huOf_y q]
    omega
  · rw [huOf_n q]
    omega
theorem hOnb_b01 {x : Int32} {g : Nat → Int32} {n : Nat} (h : hOnb x g (n : Int)) (k : Nat) (hk : k < n) : 0 ≤ (g (50 + k)).toInt ∧ (g (50 + k)).toInt ≤ 1 := by
  obtain ⟨m, h1, h2, h3⟩ := h
  have e := h3 k (by omega)
  have m2 : m / 2 ^ k % 2 < 2 := Nat.mod_lt _ (by omega)
  have c := hn_c (n := m / 2 ^ k % 2) (z := g (50 + k)) e (by omega)
  omega
theorem hW120 {g d f : Nat} {A : hs_A} {T n : Nat} {ro : Nat → Int32} (a1 : Int32) (hT : hTT T) (h3 : A.2.2.2 0 3 = T + 1) (hTn : (A.1 T 4).toInt = (n : Int)) (hL : hdL 26 ro n A) {P : Option Value → hs_A → Prop} (hP : ∀ (r : Option Value) (A' : hs_A), (A = A' ∧ ∃ z : Int32, r = some (.int z) ∧ huAt n a1 (Int32.ofNat (huOf ro (a1.toNatClampNeg + 1))) z) → P r A') : hpa (f, g) d (some (.int)) hm_t120 0 [.ref 1, .int a1, .retAddr 0, .retAddr 0] [] A P := by
  have k0 := hk_0
  have k1 := hk_1
  have k4294967295 := hk_4294967295
  have hn10 := hL.1
  have cn := hn_c (n := n) (z := Int32.ofNat n) rfl (by omega)
  have L14 : ∀ (f : Nat) (x14_3 : Int32) (x14_2 : Int32) (k : Nat) (m : Nat) (bk : k ≤ 10) (bm : m ≤ k) (ek : x14_3 = Int32.ofNat k) (em : x14_2 = Int32.ofNat m) (EM : m = huOf ro k) (kk : (k : Int) ≤ a1.toInt + 1) (ha1 : 0 ≤ a1.toInt ∧ a1.toInt < (n : Int)), hpa (f, g) d (some (.int)) hm_t120 14 [.ref 1, .int a1, .int x14_2, .int x14_3] [] A P := by
    intro f
    induction f with
    | zero => intros; exact hpa.zero
    | succ f ih14 =>
      intro x14_3 x14_2 k m bk bm ek em EM kk ha1
      subst ek
      have ck := hn_c (n := k) (z := Int32.ofNat k) rfl (by omega)
      subst em
      have cm := hn_c (n := m) (z := Int32.ofNat m) rfl (by omega)
      have c1 := hn_cn (j := a1) ha1.1
      refine hpa_iload_nS (by rfl) rfl ?_
      refine hpa_iload_n (by rfl) rfl ?_
      refine hpj_cgt (by rfl) ck rfl (fun q1 => ?_) (fun q1 => ?_)
      ·
        refine hpa_iload_n (by rfl) rfl ?_
        exact hpa_ireturn (by rfl) rfl (hP _ _ ⟨rfl, _, rfl, Or.inl ⟨by omega, by omega, by rw [EM, show k = a1.toNatClampNeg + 1 by omega]⟩⟩)
      ·
        refine hpa_aload_n (by rfl) rfl ?_
        refine hpa_get (v := .ref 27) (by rfl) (by rfl) (by rfl) rfl ?_
        refine hpa_iload_n (by rfl) rfl ?_
        refine hpa_call0 (by rfl) (by rfl) (by rfl) (by rfl) (by rfl) (by rfl) (hP18_26 (h := k) (Int32.ofNat k) hL (by omega) rfl) ?_
        rintro _ _ ⟨rfl, z3, rfl, (⟨fz_A2, ON_A2⟩ | ⟨fz_A2, ON_A2⟩)⟩
        ·
          refine hpj_zne (by rfl) rfl (fun q4 => ?_) (fun q4 => False.elim (by omega))
          refine hpj_iinc (by rfl) rfl ck hk_1 (by omega) (by omega) (fun _ => rfl) (fun z5 ez5 => ?_)
          refine hpa_goto (by rfl) ?_
          exact ih14 z5 (Int32.ofNat m) (k + 1) m (by omega) (by omega) (huI (by omega) (by omega)) rfl (by rw [huOf_y ON_A2]; exact EM) (by omega) (by omega)
        ·
          refine hpj_zne (by rfl) rfl (fun q6 => False.elim (by omega)) (fun q6 => ?_)
          refine hpj_iinc (by rfl) rfl cm hk_1 (by omega) (by omega) (fun _ => rfl) (fun z7 ez7 => ?_)
          refine hpj_iinc (by rfl) rfl ck hk_1 (by omega) (by omega) (fun _ => rfl) (fun z8 ez8 => ?_)
          refine hpa_goto (by rfl) ?_
          exact ih14 z8 z7 (k + 1) (m + 1) (by omega) (by omega) (huI (by omega) (by omega)) (huI (by omega) (by omega)) (by rw [huOf_n (by omega), EM]) (by omega) (by omega)
  refine hpa_aload_n (by rfl) rfl ?_
  refine hpa_iload_n (by rfl) rfl ?_
  refine hpa_call0 (by rfl) (by rfl) (by rfl) (by rfl) (by rfl) (by rfl) (hP76 a1 hT h3 hTn hL) ?_
  rintro _ _ ⟨rfl, z10, rfl, (⟨fz_A9, HS_A9⟩ | ⟨fz_A9, HS_A9⟩)⟩
  ·
    have c1 := hn_cn (j := a1) (by omega)
    refine hpj_zne (by rfl) rfl (fun q11 => ?_) (fun q11 => False.elim (by omega))
    refine hpa_iconst (by rfl) rfl ?_
    refine hpa_s1 (by rfl) (Or.inl ⟨_, rfl, rfl⟩) rfl ?_
    refine hpa_iconst (by rfl) rfl ?_
    refine hpa_s1 (by rfl) (Or.inl ⟨_, rfl, rfl⟩) rfl ?_
    exact L14 _ (Int32.ofNat 0) (Int32.ofNat 0) 0 0 (by omega) (by omega) rfl rfl rfl (by omega) (by omega)
  ·
    refine hpj_zne (by rfl) rfl (fun q12 => False.elim (by omega)) (fun q12 => ?_)
    refine hpa_iconst (by rfl) rfl ?_
    exact hpa_ireturn (by rfl) rfl (hP _ _ ⟨rfl, _, rfl, Or.inr ⟨by omega, rfl⟩⟩)
theorem hP120 {g d : Nat} {A : hs_A} {T n : Nat} {ro : Nat → Int32} (a1 : Int32) (hT : hTT T) (h3 : A.2.2.2 0 3 = T + 1) (hTn : (A.1 T 4).toInt = (n : Int)) (hL : hdL 26 ro n A) : hpC g d 120 hm_m120 [.ref 1, .int a1] A (fun r A' => A = A' ∧ ∃ z : Int32, r = some (.int z) ∧ huAt n a1 (Int32.ofNat (huOf ro (a1.toNatClampNeg + 1))) z) := hpC.all (fun f d => hW120 a1 hT h3 hTn hL (fun r A' h => h))
theorem hW230 {g d f : Nat} {A : hs_A} {sd n : Nat} {D : hg_D} {ro : Nat → Int32} (a1 : Int32) (hK : hrK sd D A) (hHn : A.2.1 376 sd = Int32.ofNat n) (h10 : n ≤ 10) (hg5 : ∀ k, k < 73 → A.2.1 395 k = ro k) (hB : ∀ k, k < n → 0 ≤ (ro (50 + k)).toInt ∧ (ro (50 + k)).toInt ≤ 1) {P : Option Value → hs_A → Prop} (hP : ∀ (r : Option Value) (A' : hs_A), (A = A' ∧ ∃ z : Int32, r = some (.int z) ∧ huAt n a1 (Int32.ofNat (huOf ro (a1.toNatClampNeg + 1))) z) → P r A') : hpa (f, g) d (some (.int)) hm_t230 0 [.ref 368, .int a1, .retAddr 0, .retAddr 0] [] A P := by
  have k0 := hk_0
  have k1 := hk_1
  have k4294967295 := hk_4294967295
  have k50 := hk_50
  have k18 := hK.1
  have ksd := hK.2.1
  have cn := hn_c (n := n) (z := Int32.ofNat n) rfl (by omega)
  have L14 : ∀ (f : Nat) (x14_3 : Int32) (x14_2 : Int32) (k : Nat) (m : Nat) (bk : k ≤ 10) (bm : m ≤ k) (ek : x14_3 = Int32.ofNat k) (em : x14_2 = Int32.ofNat m) (EM : m = huOf ro k) (kk : (k : Int) ≤ a1.toInt + 1) (ha1 : 0 ≤ a1.toInt ∧ a1.toInt < (n : Int)), hpa (f, g) d (some (.int)) hm_t230 14 [.ref 368, .int a1, .int x14_2, .int x14_3] [] A P := by
    intro f
    induction f with
    | zero => intros; exact hpa.zero
    | succ f ih14 =>
      intro x14_3 x14_2 k m bk bm ek em EM kk ha1
      subst ek
      have ck := hn_c (n := k) (z := Int32.ofNat k) rfl (by omega)
      subst em
      have cm := hn_c (n := m) (z := Int32.ofNat m) rfl (by omega)
      have c1 := hn_cn (j := a1) ha1.1
      refine hpa_iload_nS (by rfl) rfl ?_
      refine hpa_iload_n (by rfl) rfl ?_
      refine hpj_cgt (by rfl) ck rfl (fun q1 => ?_) (fun q1 => ?_)
      ·
        refine hpa_iload_n (by rfl) rfl ?_
        exact hpa_ireturn (by rfl) rfl (hP _ _ ⟨rfl, _, rfl, Or.inl ⟨by omega, by omega, by rw [EM, show k = a1.toNatClampNeg + 1 by omega]⟩⟩)
      ·
        refine hpa_iload_n (by rfl) rfl ?_
        refine hpa_iconst (by rfl) rfl ?_
        refine hpa_aload_n (by rfl) rfl ?_
        refine hpa_get (v := .ref 396) (by rfl) (by rfl) (by rfl) rfl ?_
        refine hpa_bipush (by rfl) rfl ?_
        refine hpa_iload_n (by rfl) rfl ?_
        refine hpj_iadd (by rfl) hk_50 ck (by omega) (by omega) (fun z2 ez2 => ?_)
        refine hpx_iald (by rfl) (by rfl) (fun h0v3 h1v3 v3 ev3 => ?_)
        rw [show (z2).toNatClampNeg = 50 + k from by have := hn_cn (j := z2) (by omega); omega] at ev3
        have lv3 := ev3.symm.trans (show _ = ro (50 + k) from hg5 (50 + k) (by omega))
        clear ev3
        subst lv3
        have b50 := hB k (by omega)
        have i50 := huOf_i b50
        refine hpj_isub (by rfl) hk_1 rfl (by omega) (by omega) (fun z4 ez4 => ?_)
        refine hpj_iadd (by rfl) cm rfl (by omega) (by omega) (fun z5 ez5 => ?_)
        refine hpa_s1 (by rfl) (Or.inl ⟨_, rfl, rfl⟩) rfl ?_
        refine hpj_iinc (by rfl) rfl ck hk_1 (by omega) (by omega) (fun _ => rfl) (fun z6 ez6 => ?_)
        refine hpa_goto (by rfl) ?_
        exact ih14 z6 z5 (k + 1) (huOf ro (k + 1)) (by omega) (huOf_le (k + 1)) (huI (by omega) (by omega)) (huI (by omega) (by omega)) rfl (by omega) (by omega)
  refine hpa_aload_n (by rfl) rfl ?_
  refine hpa_iload_n (by rfl) rfl ?_
  refine hpa_call0 (by rfl) (by rfl) (by rfl) (by rfl) (by rfl) (by rfl) (hP167 a1 hK hHn h10 hg5) ?_
  rintro _ _ ⟨rfl, z8, rfl, (⟨fz_A7, HS_A7⟩ | ⟨fz_A7, HS_A7⟩)⟩
  ·
    have c1 := hn_cn (j := a1) (by omega)
    refine hpj_zne (by rfl) rfl (fun q9 => ?_) (fun q9 => False.elim (by omega))
    refine hpa_iconst (by rfl) rfl ?_
    refine hpa_s1 (by rfl) (Or.inl ⟨_, rfl, rfl⟩) rfl ?_
    refine hpa_iconst (by rfl) rfl ?_
    refine hpa_s1 (by rfl) (Or.inl ⟨_, rfl, rfl⟩) rfl ?_
    exact L14 _ (Int32.ofNat 0) (Int32.ofNat 0) 0 0 (by omega) (by omega) rfl rfl rfl (by omega) (by omega)
  ·
    refine hpj_zne (by rfl) rfl (fun q10 => False.elim (by omega)) (fun q10 => ?_)
    refine hpa_iconst (by rfl) rfl ?_
    exact hpa_ireturn (by rfl) rfl (hP _ _ ⟨rfl, _, rfl, Or.inr ⟨by omega, rfl⟩⟩)
theorem hP230 {g d : Nat} {A : hs_A} {sd n : Nat} {D : hg_D} {ro : Nat → Int32} (a1 : Int32) (hK : hrK sd D A) (hHn : A.2.1 376 sd = Int32.ofNat n) (h10 : n ≤ 10) (hg5 : ∀ k, k < 73 → A.2.1 395 k = ro k) (hB : ∀ k, k < n → 0 ≤ (ro (50 + k)).toInt ∧ (ro (50 + k)).toInt ≤ 1) : hpC g d 230 hm_m230 [.ref 368, .int a1] A (fun r A' => A = A' ∧ ∃ z : Int32, r = some (.int z) ∧ huAt n a1 (Int32.ofNat (huOf ro (a1.toNatClampNeg + 1))) z) := hpC.all (fun f d => hW230 a1 hK hHn h10 hg5 hB (fun r A' h => h))
