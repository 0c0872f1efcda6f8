/-! THE CLASS'S LAWS that nobody told, and all at a reading's start -/
def hcZ8 (T k : Nat) (A : hs_A) : Prop := (A.1 (T + 4) 4).toInt = 2 * (k : Int) ∧ ∀ j, j < k → (A.2.1 (T + 6) j).toInt = 2 * (j : Int) ∧ (A.2.1 (T + 5) (2 * j)).toInt = 8 * (if j = 0 then 1 else 0) + 0 ∧ (A.2.1 (T + 5) (2 * j + 1)).toInt = 7
section HCZ8
variable {T k : Nat} {A A1 A2 A3 A4 A5 A6 A' : hs_A}
theorem hcZ8.more {x0 y1 x1 y2 x2 : Int32} {z1 z2 : Nat} (h : hcZ8 T k A) (hz1 : z1 = 2 * k) (hz2 : z2 = 2 * k + 1) (e0 : A1.1 = hs_up A.1 (T + 4) 5 x0) (f0 : A1.2 = A.2) (e1 : A2.1 = hs_up A1.1 (T + 4) 4 y1) (f1 : A2.2.1 = hs_up A1.2.1 (T + 5) z1 x1) (e2 : A3.1 = hs_up A2.1 (T + 4) 4 y2) (f2 : A3.2.1 = hs_up A2.2.1 (T + 5) z2 x2) (hx1 : x1.toInt = 8 * (if k = 0 then 1 else 0) + 0) (hx2 : x2.toInt = 7) (hy2 : y2.toInt = 2 * (k : Int) + 2) {s5 s6 : Int32} (e3 : A'.1 = A3.1) (f3 : A'.2.1 = hs_up (hs_up A3.2.1 (T + 6) k s5) (T + 7) k s6) (hs5 : s5.toInt = 2 * (k : Int)) : hcZ8 T (k + 1) A' := by
  subst hz1 hz2
  refine ⟨by rw [e3, e2, hup1]; omega, fun j hj => ?_⟩
  have ea : ∀ i q, ¬ (i = T + 5 ∧ (q = 2 * k ∨ q = 2 * k + 1)) → ¬ i = T + 6 → ¬ i = T + 7 → A'.2.1 i q = A.2.1 i q := fun i q h1 h2 h3 => by
    rw [f3, hup2 (by omega), hup2 (by omega), f2, hup2 (by omega), f1, hup2 (by omega), f0]
  by_cases w : j = k
  · subst w
    refine ⟨by rw [f3, hup2 (by omega), hup1]; exact hs5, by rw [f3, hup2 (by omega), hup2 (by omega), f2, hup2 (by omega), f1, hup1]; exact hx1, by rw [f3, hup2 (by omega), hup2 (by omega), f2, hup1]; exact hx2⟩
  · obtain ⟨b1, b2, b3⟩ := h.2 j (by omega)
    refine ⟨by rw [f3, hup2 (by omega), hup2 (by omega), f2, hup2 (by omega), f1, hup2 (by omega), f0]; exact b1, by rw [ea _ _ (by omega) (by omega) (by omega)]; exact b2, by rw [ea _ _ (by omega) (by omega) (by omega)]; exact b3⟩
theorem hg_np7 {x : Int32} {b : Int} : hg_np x [(0, b), (7, 0)] := fun _ m => by
  rcases List.mem_cons.mp m with m | m
  · exact absurd (show (1 : Nat) = 0 from congrArg Prod.fst m) (by decide)
  · exact absurd (show (1 : Nat) = 7 from congrArg Prod.fst (List.mem_singleton.mp m)) (by decide)
theorem hcM.init {V : Nat → Int} (h : hcZ8 T 4 A) (h3 : ∀ j : Nat, j < 24 → (A.2.1 (T + 3) j).toInt = 0) (h6 : (A.1 T 6).toInt = 6) (h7 : (A.1 T 7).toInt = 0) : hcM V T A [] hg_d0 [] 8 := by
  refine ⟨⟨by rw [h.1]; rfl, Nat.zero_le _, trivial, hg_np0⟩, fun k hk => ?_, ⟨h3, h6, h7⟩, trivial⟩
  obtain ⟨b1, b2, b3⟩ := h.2 k hk
  refine ⟨2 * k, by omega, ?_, ?_, hg_np7⟩
  · show 2 * k + 2 ≤ 8 - 0
    omega
  · show (A.2.1 (T + 5) (2 * k)).toInt = 8 * (if k = 0 then 1 else 0) + ((0 : Nat) : Int) ∧ (A.2.1 (T + 5) (2 * k + 1)).toInt = 8 * 0 + ((7 : Nat) : Int) ∧ True
    exact ⟨b2, b3, trivial⟩
end HCZ8
def hq_hs (K V : Nat → Int) (E : Nat → Nat → Bool) (x y : Int) : Prop := ∃ (t : Nat) (s : hq_S), hq_q K V E t = some s ∧ hq_dl K V E t s = .inr 0 ∧ x = (s.2.2.2.2.1.length : Int) ∧ y = (s.2.2.2.2.2.2.1 : Int)
theorem hq_hs_one {K V : Nat → Int} {E : Nat → Nat → Bool} {x y x' y' : Int} (h : hq_hs K V E x y) (h' : hq_hs K V E x' y') : x = x' ∧ y = y' := by
  obtain ⟨t, s, a, b, c, d⟩ := h
  obtain ⟨t', s', a', b', c', d'⟩ := h'
  obtain ⟨rfl, -⟩ := hq_f_one K V E ⟨s, a, b⟩ ⟨s', a', b'⟩
  rw [a] at a'
  cases a'
  exact ⟨c.trans c'.symm, d.trans d'.symm⟩
/-- behind a reading that went through: what was told stands in the terrace -/
def hcQ (K V : Nat → Int) (E : Nat → Nat → Bool) (T : Nat) (A : hs_A) : Prop := ∃ (t : Nat) (s : hq_S) (zz : Nat), hq_q K V E t = some s ∧ hq_dl K V E t s = .inr 0 ∧ hcM V T A s.2.2.2.2.1 (hg_q K V E t).1 [] zz
theorem hg_rn_all {B : Nat → Int} {n : Nat} {P : Int → Bool} : ∀ (f i j : Nat), i ≤ j → j < ht_rn B n P f i → P (B j) = true
  | 0, i, j, h1, h2 => absurd (show j < i from h2) (by omega)
  | f + 1, i, j, h1, h2 => by
    have h2' : j < if i < n ∧ P (B i) = true then ht_rn B n P f (i + 1) else i := h2
    by_cases h : i < n ∧ P (B i) = true
    · rw [if_pos h] at h2'
      by_cases q : j = i
      · subst q; exact h.2
      · exact hg_rn_all f (i + 1) j (by omega) h2'
    · rw [if_neg h] at h2'
      omega
theorem ht_W_ok {B : Nat → Int} {n : Nat} : hg_V (ht_K B n) (ht_W B n) := fun t ht => by
  have hk : ht_kind B n (ht_S B n t) = 21 := ht
  obtain ⟨h1, h2, h3, h4⟩ := (ht_kind_rng (B := B) (n := n) (ht_S B n t)).2.2.2.2 hk
  unfold ht_W ht_M
  rw [ht_end_di h1 h2 h3]
  have hb := ht_g_bd (b := 10) (z := 48) (by omega) (l := ht_rv B (ht_S B n t) (ht_run B n ht_di (ht_S B n t) - ht_S B n t)) (fun c hc => by
    obtain ⟨i, i1, i2, rfl⟩ := ht_rv_mem hc
    have := ht_di_iff.mp (hg_rn_all (B := B) (n := n) (P := ht_di) n (ht_S B n t) i i1 (by show i < ht_run B n ht_di (ht_S B n t); omega))
    omega)
  rw [ht_rv_len] at hb
  have hp : (10 : Int) ^ (ht_run B n ht_di (ht_S B n t) - ht_S B n t) ≤ 10 ^ 4 := hpowk (by omega) h4
  have e4 : (10 : Int) ^ 4 = 10000 := rfl
  omega
theorem hW246T {g d f : Nat} {A : hs_A} {T : Nat} (hT : hTT T) (a1 : Int32) {P : Option Value → hs_A → Prop} (hP : ∀ (r : Option Value) (A' : hs_A), (r = none ∧ (hcZ T A A' ∧ (∀ j : Nat, j < 24 → A'.2.1 (T + 3) j = a1) ∧ A'.1 = A.1)) → P r A') : hpa (f, g) d none hm_t246 0 [.ref (T + 4), .int a1, .retAddr 0, .retAddr 0] [] A P := by
  have k0 := hk_0
  have k1 := hk_1
  have k24 := hk_24
  have hT9 : T ≤ 11 := by rcases hT with rfl | rfl <;> omega
  have L5 : ∀ (f : Nat) (x5_2 : Int32) (A5 : hs_A) (Z5 : hcZ T A A5) (lo5 : 0 ≤ x5_2.toInt) (H5 : ∀ j : Nat, (j : Int) < x5_2.toInt → A5.2.1 (T + 3) j = a1) (E5 : A5.1 = A.1), hpa (f, g) d none hm_t246 5 [.ref (T + 4), .int a1, .int x5_2, .int (Int32.ofNat 24)] [] A5 P := by
    intro f
    induction f with
    | zero => intros; exact hpa.zero
    | succ f ih5 =>
      intro x5_2 A5 Z5 lo5 H5 E5
      refine hpa_iload_nS (by rfl) rfl ?_
      refine hpa_iload_n (by rfl) rfl ?_
      refine hpj_cge (by rfl) rfl hk_24 (fun q1 => ?_) (fun q1 => ?_)
      ·
        exact hpa_return (by rfl) rfl (hP _ _ ⟨rfl, Z5, fun j hj => H5 j (by omega), E5⟩)
      ·
        refine hpa_aload_n (by rfl) rfl ?_
        refine hpa_iload_n (by rfl) rfl ?_
        refine hpa_iload_n (by rfl) rfl ?_
        refine hpx_iast (by rfl) (hsT3 hT) (fun A2 h0A2 h1A2 eA2 fA2 gA2 => ?_)
        have ZA2 := Z5.a eA2 fA2 gA2 (by omega)
        have hcn := hn_cn (j := x5_2) (by omega)
        have HHA2 : ∀ j : Nat, (j : Int) < x5_2.toInt + 1 → A2.2.1 (T + 3) j = a1 := fun j hj => by rw [fA2]; by_cases q : j = (x5_2).toNatClampNeg; (rw [q, hup1]); rw [hup2 (by omega)]; exact H5 j (by omega)
        have EEA2 := eA2.trans E5
        refine hpj_iinc (by rfl) rfl rfl hk_1 (by omega) (by omega) (fun _ => rfl) (fun z3 ez3 => ?_)
        refine hpa_goto (by rfl) ?_
        exact ih5 z3 A2 ZA2 (by omega) (fun j hj => HHA2 j (by omega)) EEA2
  refine hpa_iconst (by rfl) rfl ?_
  refine hpa_s1 (by rfl) (Or.inl ⟨_, rfl, rfl⟩) rfl ?_
  refine hpa_aload_n (by rfl) rfl ?_
  refine hpa_alen (by rfl) (by rfl) (hsT3 hT) ?_
  refine hpa_s1 (by rfl) (Or.inl ⟨_, rfl, rfl⟩) rfl ?_
  exact L5 _ (Int32.ofNat 0) A hcZ.rfl (by omega) (fun j hj => absurd hj (by omega)) rfl
theorem hP246T {g d : Nat} {A : hs_A} {T : Nat} (hT : hTT T) (a1 : Int32) : hpC g d 246 hm_m246 [.ref (T + 4), .int a1] A (fun r A' => r = none ∧ (hcZ T A A' ∧ (∀ j : Nat, j < 24 → A'.2.1 (T + 3) j = a1) ∧ A'.1 = A.1)) := hpC.all (fun f d => hW246T hT a1 (fun r A' h => h))
theorem hW12r {g d f : Nat} {A : hs_A} {T zz k : Nat} {v : Int} (hT : hTT T) (a1 a2 : Int32) (h1 : a1.toInt = (k : Int)) (h2 : a2.toInt = v) (hk8 : k < 8) (hk1 : ¬ k = 1) (hv0 : 0 ≤ v) (hv1 : v < 134217728) (hzz : (A.1 (T + 4) 4).toInt = (zz : Int)) (hz : zz < 408) {P : Option Value → hs_A → Prop} (hP : ∀ (r : Option Value) (A' : hs_A), (∃ z : Int32, r = some (.int z) ∧ hcW T A A' ∧ ∃ x y : Int32, A'.1 = hs_up A.1 (T + 4) 4 y ∧ y.toInt = (zz : Int) + 1 ∧ A'.2.1 = hs_up A.2.1 (T + 5) zz x ∧ x.toInt = 8 * v + (k : Int) ∧ A'.2.2 = A.2.2) → P r A') : hpa (f, g) d (some (.int)) hm_t12 0 [.ref (T + 5), .int a1, .int a2] [] A P := by
  have k1 := hk_1
  have k3 := hk_3
  have k408 := hk_408
  have hT9 : T ≤ 11 := by rcases hT with rfl | rfl <;> omega
  have hzi : (A.1 (T + 4) 4).toNatClampNeg = zz := by have := hn_cn (j := A.1 (T + 4) 4) (by omega); omega
  refine hpa_iload_n (by rfl) rfl ?_
  refine hpa_iconst (by rfl) rfl ?_
  refine hpj_cne (by rfl) rfl hk_1 (fun q1 => ?_) (fun q1 => False.elim (by omega))
  refine hpa_aload_n (by rfl) rfl ?_
  refine hpj_getK (by rfl) (hsT4 hT) (by rfl) rfl ?_
  refine hpa_sipush (by rfl) rfl ?_
  refine hpj_cge (by rfl) rfl hk_408 (fun q2 => False.elim (by omega)) (fun q2 => ?_)
  refine hpa_aload_n (by rfl) rfl ?_
  refine hpa_get (v := .ref (T + 6)) (by rfl) (hsT4 hT) (by rfl) (hvT hT (by omega)) ?_
  refine hpa_aload_n (by rfl) rfl ?_
  refine hpj_getK (by rfl) (hsT4 hT) (by rfl) rfl ?_
  refine hpa_iload_n (by rfl) rfl ?_
  refine hpa_iconst (by rfl) rfl ?_
  refine hpa_ishl (by rfl) ?_
  refine hpa_iload_n (by rfl) rfl ?_
  refine hpa_ior (by rfl) ?_
  refine hpx_iast (by rfl) (hsT5 hT) (fun A3 h0A3 h1A3 eA3 fA3 gA3 => ?_)
  have WA3 := (hcW.rfl (T := T) (A := A)).a eA3 fA3 gA3 (by omega)
  rw [hzi] at fA3
  refine hpa_aload_n (by rfl) rfl ?_
  refine hpa_dupR (by rfl) ?_
  refine hpj_getK (by rfl) (hsT4 hT) (by rfl) (hkA eA3 rfl) ?_
  refine hpa_iconst (by rfl) rfl ?_
  refine hpj_iadd (by rfl) rfl hk_1 (by omega) (by omega) (fun z4 ez4 => ?_)
  refine hpj_putI (by rfl) (hsT4 hT) (by rfl) (by rfl) (fun A5 eA5 fA5 => ?_)
  have WA5 := hcW.f (k := 4) WA3 eA5 fA5
  refine hpa_aload_n (by rfl) rfl ?_
  refine hpj_getK (by rfl) (hsT4 hT) (by rfl) (hkS eA5) ?_
  refine hpa_iconst (by rfl) rfl ?_
  refine hpj_isub (by rfl) rfl hk_1 (by omega) (by omega) (fun z6 ez6 => ?_)
  exact hpa_ireturn (by rfl) rfl (hP _ _ ⟨_, rfl, WA5, _, _, by rw [eA5, eA3], by omega, by rw [fA5, fA3], hg_k8 h2 h1 hv0 hv1 hk8, by rw [fA5, gA3]⟩)
theorem hP12r {g d : Nat} {A : hs_A} {T zz k : Nat} {v : Int} (hT : hTT T) (a1 a2 : Int32) (h1 : a1.toInt = (k : Int)) (h2 : a2.toInt = v) (hk8 : k < 8) (hk1 : ¬ k = 1) (hv0 : 0 ≤ v) (hv1 : v < 134217728) (hzz : (A.1 (T + 4) 4).toInt = (zz : Int)) (hz : zz < 408) : hpC g d 12 hm_m12 [.ref (T + 5), .int a1, .int a2] A (fun r A' => ∃ z : Int32, r = some (.int z) ∧ hcW T A A' ∧ ∃ x y : Int32, A'.1 = hs_up A.1 (T + 4) 4 y ∧ y.toInt = (zz : Int) + 1 ∧ A'.2.1 = hs_up A.2.1 (T + 5) zz x ∧ x.toInt = 8 * v + (k : Int) ∧ A'.2.2 = A.2.2) := hpC.all (fun f d => hW12r hT a1 a2 h1 h2 hk8 hk1 hv0 hv1 hzz hz (fun r A' h => h))
theorem hW10r {g d f : Nat} {A : hs_A} {T q : Nat} (hT : hTT T) (a1 a2 : Int32) (h1 : a1.toInt = (q : Int)) {P : Option Value → hs_A → Prop} (hP : ∀ (r : Option Value) (A' : hs_A), (r = none ∧ (hcW T A A' ∧ ∃ s6 : Int32, A'.1 = A.1 ∧ A'.2.1 = hs_up (hs_up A.2.1 (T + 6) q a2) (T + 7) q s6 ∧ A'.2.2 = A.2.2)) → P r A') : hpa (f, g) d none hm_t10 0 [.ref (T + 5), .int a1, .int a2] [] A P := by
  have hT9 : T ≤ 11 := by rcases hT with rfl | rfl <;> omega
  have hiq : a1.toNatClampNeg = q := by have := hn_cn (j := a1) (by omega); omega
  refine hpa_aload_n (by rfl) rfl ?_
  refine hpa_get (v := .ref (T + 7)) (by rfl) (hsT4 hT) (by rfl) (hvT hT (by omega)) ?_
  refine hpa_iload_n (by rfl) rfl ?_
  refine hpa_iload_n (by rfl) rfl ?_
  refine hpx_iast (by rfl) (hsT6 hT) (fun A1 h0A1 h1A1 eA1 fA1 gA1 => ?_)
  have WA1 := (hcW.rfl (T := T) (A := A)).a eA1 fA1 gA1 (by omega)
  refine hpa_aload_n (by rfl) rfl ?_
  refine hpa_get (v := .ref (T + 8)) (by rfl) (hsT4 hT) (by rfl) (hvT hT (by omega)) ?_
  refine hpa_iload_n (by rfl) rfl ?_
  refine hpa_aload_n (by rfl) rfl ?_
  refine hpj_getK (by rfl) (hsT4 hT) (by rfl) (hkA eA1 rfl) ?_
  refine hpx_iast (by rfl) (hsT7 hT) (fun A2 h0A2 h1A2 eA2 fA2 gA2 => ?_)
  have WA2 := (WA1).a eA2 fA2 gA2 (by omega)
  rw [hiq] at fA1 fA2
  exact hpa_return (by rfl) rfl (hP _ _ ⟨rfl, WA2, _, by rw [eA2, eA1], by rw [fA2, fA1], by rw [gA2, gA1]⟩)
theorem hP10r {g d : Nat} {A : hs_A} {T q : Nat} (hT : hTT T) (a1 a2 : Int32) (h1 : a1.toInt = (q : Int)) : hpC g d 10 hm_m10 [.ref (T + 5), .int a1, .int a2] A (fun r A' => r = none ∧ (hcW T A A' ∧ ∃ s6 : Int32, A'.1 = A.1 ∧ A'.2.1 = hs_up (hs_up A.2.1 (T + 6) q a2) (T + 7) q s6 ∧ A'.2.2 = A.2.2)) := hpC.all (fun f d => hW10r hT a1 a2 h1 (fun r A' h => h))
theorem hcW.trans {T : Nat} {A A1 A' : hs_A} (h : hcW T A A1) (w : hcW T A1 A') : hcW T A A' := ⟨fun i k h1 => (w.1 i k h1).trans (h.1 i k h1), fun i hi => (w.2.1 i hi).trans (h.2.1 i hi), w.2.2.trans h.2.2⟩
theorem hW8 {g d f : Nat} {A : hs_A} {T : Nat} (hT : hTT T) {P : Option Value → hs_A → Prop} (hP : ∀ (r : Option Value) (A' : hs_A), (r = none ∧ (hcW T A A' ∧ hcZ8 T 4 A')) → P r A') : hpa (f, g) d none hm_t8 0 [.ref (T + 5), .retAddr 0, .retAddr 0] [] A P := by
  have k0 := hk_0
  have k1 := hk_1
  have k4 := hk_4
  have k7 := hk_7
  have hT9 : T ≤ 11 := by rcases hT with rfl | rfl <;> omega
  have L7 : ∀ (f : Nat) (x7_1 : Int32) (x7_2 : Value) (A7 : hs_A) (k : Nat) (lk : x7_1.toInt = (k : Int)) (k4 : k ≤ 4) (W7 : hcW T A A7) (M7 : hcZ8 T k A7), hpa (f, g) d none hm_t8 7 [.ref (T + 5), .int x7_1, x7_2] [] A7 P := by
    intro f
    induction f with
    | zero => intros; exact hpa.zero
    | succ f ih7 =>
      intro x7_1 x7_2 A7 k lk k4 W7 M7
      refine hpa_iload_nS (by rfl) rfl ?_
      refine hpa_iconst (by rfl) rfl ?_
      refine hpj_cge (by rfl) rfl hk_4 (fun q1 => ?_) (fun q1 => ?_)
      ·
        exact hpa_return (by rfl) rfl (hP _ _ ⟨rfl, W7, by by_cases w : k = 4; (subst w; exact M7); exact False.elim (by omega)⟩)
      ·
        refine hpa_aload_n (by rfl) rfl ?_
        refine hpj_getK (by rfl) (hsT4 hT) (by rfl) rfl ?_
        refine hpa_s1 (by rfl) (Or.inl ⟨_, rfl, rfl⟩) rfl ?_
        refine hpa_aload_n (by rfl) rfl ?_
        refine hpa_iconst (by rfl) rfl ?_
        refine hpj_putI (by rfl) (hsT4 hT) (by rfl) (by rfl) (fun A2 eA2 fA2 => ?_)
        have WA2 := hcW.f (k := 5) W7 eA2 fA2
        have hz19 : (A2.1 (T + 4) 4).toInt = ((2 * k : Nat) : Int) := by rw [eA2, hup2 (by omega)]; have := M7.1; omega
        refine hpa_aload_n (by rfl) rfl ?_
        refine hpa_iconst (by rfl) rfl ?_
        refine hpa_iload_n (by rfl) rfl ?_
        refine hpj_zne (by rfl) rfl (fun q3 => ?_) (fun q3 => ?_)
        ·
          refine hpa_iconst (by rfl) rfl ?_
          refine hpa_call0 (by rfl) (by rfl) (by rfl) (hsT4 hT) (by rfl) (by rfl) (hP12r (k := 0) (v := 0) hT (Int32.ofNat 0) (Int32.ofNat 0) hk_0 hk_0 (by omega) (by omega) (by omega) (by omega) hz19 (by omega)) ?_
          rintro _ A4 ⟨z5, rfl, W_A4, Y_A4⟩
          have VW_A4 := WA2.trans W_A4
          obtain ⟨x1, y1, a1x, b1x, c1x, d1x, g1x⟩ := Y_A4
          have hz33 : (A4.1 (T + 4) 4).toInt = ((2 * k + 1 : Nat) : Int) := by rw [a1x, hup1]; omega
          refine hpa_popI (by rfl) ?_
          refine hpa_aload_n (by rfl) rfl ?_
          refine hpa_bipush (by rfl) rfl ?_
          refine hpa_iconst (by rfl) rfl ?_
          refine hpa_call0 (by rfl) (by rfl) (by rfl) (hsT4 hT) (by rfl) (by rfl) (hP12r (k := 7) (v := 0) hT (Int32.ofNat 7) (Int32.ofNat 0) hk_7 hk_0 (by omega) (by omega) (by omega) (by omega) hz33 (by omega)) ?_
          rintro _ A6 ⟨z7, rfl, W_A6, Y_A6⟩
          have VW_A6 := VW_A4.trans W_A6
          obtain ⟨x2, y2, a2x, b2x, c2x, d2x, g2x⟩ := Y_A6
          refine hpa_popI (by rfl) ?_
          refine hpa_aload_n (by rfl) rfl ?_
          refine hpa_iload_n (by rfl) rfl ?_
          refine hpa_iload_n (by rfl) rfl ?_
          refine hpa_call0 (by rfl) (by rfl) (by rfl) (hsT4 hT) (by rfl) (by rfl) (hP10r (q := k) hT x7_1 (A7.1 (T + 4) 4) (by omega)) ?_
          rintro _ A8 ⟨rfl, W_A8, Y_A8⟩
          have VW_A8 := VW_A6.trans W_A8
          obtain ⟨s6, a3x, b3x, g3x⟩ := Y_A8
          have MA8 : hcZ8 T (k + 1) A8 := M7.more rfl rfl eA2 fA2 a1x c1x a2x c2x (by rw [d1x, if_neg (by omega)]; rfl) (d2x.trans rfl) (by omega) a3x b3x (by have := M7.1; omega)
          refine hpj_iinc (by rfl) rfl rfl hk_1 (by omega) (by omega) (fun _ => rfl) (fun z9 ez9 => ?_)
          refine hpa_goto (by rfl) ?_
          exact ih7 z9 (.int (A7.1 (T + 4) 4)) A8 (k + 1) (by omega) (by omega) VW_A8 MA8
        ·
          refine hpa_iconst (by rfl) rfl ?_
          refine hpa_goto (by rfl) ?_
          refine hpa_call0 (by rfl) (by rfl) (by rfl) (hsT4 hT) (by rfl) (by rfl) (hP12r (k := 0) (v := 1) hT (Int32.ofNat 0) (Int32.ofNat 1) hk_0 hk_1 (by omega) (by omega) (by omega) (by omega) hz19 (by omega)) ?_
          rintro _ A10 ⟨z11, rfl, W_A10, Y_A10⟩
          have VW_A10 := WA2.trans W_A10
          obtain ⟨x1, y1, a1x, b1x, c1x, d1x, g1x⟩ := Y_A10
          have hz33 : (A10.1 (T + 4) 4).toInt = ((2 * k + 1 : Nat) : Int) := by rw [a1x, hup1]; omega
          refine hpa_popI (by rfl) ?_
          refine hpa_aload_n (by rfl) rfl ?_
          refine hpa_bipush (by rfl) rfl ?_
          refine hpa_iconst (by rfl) rfl ?_
          refine hpa_call0 (by rfl) (by rfl) (by rfl) (hsT4 hT) (by rfl) (by rfl) (hP12r (k := 7) (v := 0) hT (Int32.ofNat 7) (Int32.ofNat 0) hk_7 hk_0 (by omega) (by omega) (by omega) (by omega) hz33 (by omega)) ?_
          rintro _ A12 ⟨z13, rfl, W_A12, Y_A12⟩
          have VW_A12 := VW_A10.trans W_A12
          obtain ⟨x2, y2, a2x, b2x, c2x, d2x, g2x⟩ := Y_A12
          refine hpa_popI (by rfl) ?_
          refine hpa_aload_n (by rfl) rfl ?_
          refine hpa_iload_n (by rfl) rfl ?_
          refine hpa_iload_n (by rfl) rfl ?_
          refine hpa_call0 (by rfl) (by rfl) (by rfl) (hsT4 hT) (by rfl) (by rfl) (hP10r (q := k) hT x7_1 (A7.1 (T + 4) 4) (by omega)) ?_
          rintro _ A14 ⟨rfl, W_A14, Y_A14⟩
          have VW_A14 := VW_A12.trans W_A14
          obtain ⟨s6, a3x, b3x, g3x⟩ := Y_A14
          have MA14 : hcZ8 T (k + 1) A14 := M7.more rfl rfl eA2 fA2 a1x c1x a2x c2x (by rw [d1x, if_pos (by omega)]; rfl) (d2x.trans rfl) (by omega) a3x b3x (by have := M7.1; omega)
          refine hpj_iinc (by rfl) rfl rfl hk_1 (by omega) (by omega) (fun _ => rfl) (fun z15 ez15 => ?_)
          refine hpa_goto (by rfl) ?_
          exact ih7 z15 (.int (A7.1 (T + 4) 4)) A14 (k + 1) (by omega) (by omega) VW_A14 MA14
  refine hpa_aload_n (by rfl) rfl ?_
  refine hpa_iconst (by rfl) rfl ?_
  refine hpj_putI (by rfl) (hsT4 hT) (by rfl) (by rfl) (fun A16 eA16 fA16 => ?_)
  have WA16 := hcW.f (k := 4) hcW.rfl (T := T) (A := A) eA16 fA16
  refine hpa_iconst (by rfl) rfl ?_
  refine hpa_s1 (by rfl) (Or.inl ⟨_, rfl, rfl⟩) rfl ?_
  exact L7 _ (Int32.ofNat 0) (.retAddr 0) A16 0 hk_0 (by omega) WA16 ⟨by rw [eA16, hup1]; exact hk_0, fun j hj => absurd hj (Nat.not_lt_zero j)⟩
theorem hP8 {g d : Nat} {A : hs_A} {T : Nat} (hT : hTT T) : hpC g d 8 hm_m8 [.ref (T + 5)] A (fun r A' => r = none ∧ (hcW T A A' ∧ hcZ8 T 4 A')) := hpC.all (fun f d => hW8 hT (fun r A' h => h))
theorem hW54 {g d f : Nat} {A : hs_A} {V : Nat → Int} {T : Nat} (hT : hTT T) {P : Option Value → hs_A → Prop} (hP : ∀ (r : Option Value) (A' : hs_A), (r = none ∧ (hcZ T A A' ∧ (A'.1 T 4).toInt = 0 ∧ (A'.1 T 5).toInt = 0 ∧ hcM V T A' [] hg_d0 [] 8)) → P r A') : hpa (f, g) d none hm_t54 0 [.ref (T + 1)] [] A P := by
  have k0 := hk_0
  have k6 := hk_6
  have hT9 : T ≤ 11 := by rcases hT with rfl | rfl <;> omega
  refine hpa_aload_n (by rfl) rfl ?_
  refine hpa_get (v := .ref (T + 4)) (by rfl) (hsT hT) (by rfl) (hvT hT (by omega)) ?_
  refine hpa_iconst (by rfl) rfl ?_
  refine hpa_call2 (by rfl) (by decide) (by rfl) (by rfl) (by rfl) (hP246T hT (Int32.ofNat 0)) ?_
  rintro _ A1 ⟨rfl, Z_A1, H_A1, E_A1⟩
  have hZ0 := Z_A1
  refine hpa_aload_n (by rfl) rfl ?_
  refine hpa_get (v := .ref (T + 5)) (by rfl) (hsT hT) (by rfl) (hvT hT (by omega)) ?_
  refine hpa_call0 (by rfl) (by rfl) (by rfl) (hsT4 hT) (by rfl) (by rfl) (hP8 hT) ?_
  rintro _ A2 ⟨rfl, W_A2, M_A2⟩
  have hZ1 := hZ0.W W_A2
  refine hpa_aload_n (by rfl) rfl ?_
  refine hpa_iconst (by rfl) rfl ?_
  refine hpj_putI (by rfl) (hsT hT) (by rfl) (by rfl) (fun A3 eA3 fA3 => ?_)
  have ZA3 := hZ1.f (k := 4) eA3 fA3
  refine hpa_aload_n (by rfl) rfl ?_
  refine hpa_iconst (by rfl) rfl ?_
  refine hpj_putI (by rfl) (hsT hT) (by rfl) (by rfl) (fun A4 eA4 fA4 => ?_)
  have ZA4 := ZA3.f (k := 5) eA4 fA4
  refine hpa_aload_n (by rfl) rfl ?_
  refine hpa_bipush (by rfl) rfl ?_
  refine hpj_putI (by rfl) (hsT hT) (by rfl) (by rfl) (fun A5 eA5 fA5 => ?_)
  have ZA5 := ZA4.f (k := 6) eA5 fA5
  refine hpa_aload_n (by rfl) rfl ?_
  refine hpa_iconst (by rfl) rfl ?_
  refine hpj_putI (by rfl) (hsT hT) (by rfl) (by rfl) (fun A6 eA6 fA6 => ?_)
  have ZA6 := ZA5.f (k := 7) eA6 fA6
  have ff : A6.2 = A2.2 := by rw [fA6, fA5, fA4, fA3]
  have fe : A6.1 (T + 4) 4 = A2.1 (T + 4) 4 := by rw [eA6, hup2 (by omega), eA5, hup2 (by omega), eA4, hup2 (by omega), eA3, hup2 (by omega)]
  exact hpa_return (by rfl) rfl (hP _ _ ⟨rfl, ZA6, (congrArg Int32.toInt (show A6.1 T 4 = (Int32.ofNat 0) from (hkF eA6 (by omega) (hkF eA5 (by omega) (hkF eA4 (by omega) (hkS eA3)))))).trans hk_0, (congrArg Int32.toInt (show A6.1 T 5 = (Int32.ofNat 0) from (hkF eA6 (by omega) (hkF eA5 (by omega) (hkS eA4))))).trans hk_0, hcM.init ⟨by rw [fe]; exact M_A2.1, by rw [ff]; exact M_A2.2⟩ (fun j hj => by rw [ff, W_A2.2.1 (T + 3) (by omega), H_A1 j hj]; exact hk_0) ((congrArg Int32.toInt (show A6.1 T 6 = (Int32.ofNat 6) from (hkF eA6 (by omega) (hkS eA5)))).trans hk_6) ((congrArg Int32.toInt (show A6.1 T 7 = (Int32.ofNat 0) from (hkS eA6))).trans hk_0)⟩)
theorem hP54 {g d : Nat} {A : hs_A} {V : Nat → Int} {T : Nat} (hT : hTT T) : hpC g d 54 hm_m54 [.ref (T + 1)] A (fun r A' => r = none ∧ (hcZ T A A' ∧ (A'.1 T 4).toInt = 0 ∧ (A'.1 T 5).toInt = 0 ∧ hcM V T A' [] hg_d0 [] 8)) := hpC.all (fun f d => hW54 hT (fun r A' h => h))
theorem hW37n {g d f : Nat} {A : hs_A} {B : Nat → Int} {n T : Nat} (hT : hTT T) (a1 : Int32) (hA : hcTp B n A) (h1 : a1.toInt = (n : Int)) (hn : n ≤ 2000) (hBr : ∀ i, i < n → B i ≤ 127) (hU : hcU A) {P : Option Value → hs_A → Prop} (hP : ∀ (r : Option Value) (A' : hs_A), (∃ z : Int32, r = some (.int z) ∧ hq_res (ht_K B n) (ht_W B n) (fun u => (ht_S B n u : Int)) (ht_E B n) z.toInt (A'.1 20 6).toInt ∧ hcU A' ∧ (z.toInt = 0 → hq_hs (ht_K B n) (ht_W B n) (ht_E B n) (A'.1 T 4).toInt (A'.1 T 5).toInt) ∧ (z.toInt = 0 → hcQ (ht_K B n) (ht_W B n) (ht_E B n) T A')) → P r A') : hpa (f, g) d (some (.int)) hm_t37 0 [.ref 21, .ref (T + 1), .ref 2, .int a1, .retAddr 0, .retAddr 0, .retAddr 0] [] A P := by
  have k0 := hk_0
  have k1 := hk_1
  have k2 := hk_2
  have k22 := hk_22
  have k400 := hk_400
  have k4294967295 := hk_4294967295
  have hT9 : T ≤ 11 := by rcases hT with rfl | rfl <;> omega
  have hT2 : 2 ≤ T := by rcases hT with rfl | rfl <;> omega
  have L52 : ∀ (f : Nat) (x52_4 : Int32) (x52_5 : Int32) (x52_6 : Value) (A52 : hs_A) (D52 : (x52_4.toInt = 1 ∧ ∃ (t a b c : Nat) (ns : List Nat) (nm sn : Nat) (o : Option (Nat × Nat)) (zz : Nat), x52_5.toInt ≤ (t : Int) ∧ hcB (ht_K B n) (ht_W B n) (fun u => (ht_S B n u : Int)) (ht_E B n) T A52 t (0, a, b, c, ns, nm, sn, o) ∧ hcR2 (ht_W B n) (fun u => (ht_S B n u : Int)) T A52 ns none sn o (hg_q (ht_K B n) (ht_W B n) (ht_E B n) t).1 [] zz ∧ zz ≤ 8 + t) ∨ (x52_4.toInt = 0 ∧ hcF (ht_K B n) (ht_W B n) (fun u => (ht_S B n u : Int)) (ht_E B n) T A52)) (lo52 : 0 ≤ x52_5.toInt), hpa (f, g) d (some (.int)) hm_t37 52 [.ref 21, .ref (T + 1), .ref 2, .int a1, .int x52_4, .int x52_5, x52_6] [] A52 P := by
    intro f
    induction f with
    | zero => intros; exact hpa.zero
    | succ f ih52 =>
      intro x52_4 x52_5 x52_6 A52 D52 lo52
      rcases D52 with ⟨fz0, t, a, b, c, ns, nm, sn, o, zz, lt0, B1, R1, z1⟩ | ⟨fz0, F1⟩
      ·
        have h401 := B1.at.1
        have hf0 := B1.2.2.2.2
        have hl0 := R1.2.2.2.2.1
        refine hpa_iloadS (by rfl) rfl ?_
        refine hpa_sipush (by rfl) rfl ?_
        refine hpj_cgt (by rfl) rfl hk_400 (fun q1 => False.elim (by omega)) (fun q1 => ?_)
        refine hpa_iload (by rfl) rfl ?_
        refine hpj_zeq (by rfl) rfl (fun q2 => False.elim (by omega)) (fun q2 => ?_)
        refine hpa_aload_n (by rfl) rfl ?_
        refine hpa_call0 (by rfl) (by rfl) (by rfl) (by rfl) (by rfl) (by rfl) (hP38 hT B1) ?_
        rintro _ _ ⟨rfl, z4, rfl, fz_A3⟩
        refine hpa_bipush (by rfl) rfl ?_
        refine hpj_ceq (by rfl) rfl hk_22 (fun q5 => ?_) (fun q5 => ?_)
        ·
          have hK22 : ht_K B n t = 22 := by omega
          refine hpa_aload_n (by rfl) rfl ?_
          refine hpj_getK (by rfl) (by rfl) (by rfl) rfl ?_
          refine hpj_zne (by rfl) rfl (fun q6 => False.elim (by omega)) (fun q6 => ?_)
          refine hpa_aload_n (by rfl) rfl ?_
          refine hpa_aload_n (by rfl) rfl ?_
          refine hpj_getK (by rfl) (by rfl) (by rfl) rfl ?_
          refine hpj_putI (by rfl) (by rfl) (by rfl) (by rfl) (fun A7 eA7 fA7 => ?_)
          refine hpa_aload_n (by rfl) rfl ?_
          refine hpa_aload_n (by rfl) rfl ?_
          refine hpj_getK (by rfl) (by rfl) (by rfl) (hkF eA7 (by omega) rfl) ?_
          refine hpj_putI (by rfl) (by rfl) (by rfl) (by rfl) (fun A8 eA8 fA8 => ?_)
          refine hpa_aload_n (by rfl) rfl ?_
          refine hpj_getK (by rfl) (by rfl) (by rfl) (hkF eA8 (by omega) (hkS eA7)) ?_
          exact hpa_ireturn (by rfl) rfl (hP _ _ ⟨_, rfl, by rw [show A8.1 20 6 = (A52.1 20 8) from (hkS eA8)]; exact hq_res.late B1.2.2.2.1 (hqd0_end hK22) hl0, B1.2.1.2.2.fr (by rw [fA8, fA7]), fun _ => ⟨_, _, B1.2.2.2.1, hqd0_end hK22, by rw [show A8.1 T 4 = (A52.1 T 4) from (hkF eA8 (by omega) (hkF eA7 (by omega) rfl))]; exact R1.1, by rw [show A8.1 T 5 = (A52.1 T 5) from (hkF eA8 (by omega) (hkF eA7 (by omega) rfl))]; exact R1.2.1⟩, fun _ => ⟨_, _, _, B1.2.2.2.1, hqd0_end hK22, (R1.m.mv (fun i k h1 h2 _ => by rw [eA7, hup2 (by omega)]) (fun i h1 h2 => by rw [fA7])).mv (fun i k h1 h2 _ => by rw [eA8, hup2 (by omega)]) (fun i h1 h2 => by rw [fA8])⟩⟩)
        ·
          refine hpa_aload_n (by rfl) rfl ?_
          refine hpa_call0 (by rfl) (by rfl) (by rfl) (by rfl) (by rfl) (by rfl) (hP38 hT B1) ?_
          rintro _ _ ⟨rfl, z10, rfl, fz_A9⟩
          refine hpa_s1 (by rfl) (Or.inr ⟨_, rfl, rfl⟩) rfl ?_
          refine hpa_iload (by rfl) rfl ?_
          by_cases q11 : z10.toInt = 0
          ·
            refine hpa_tabIn (by rfl) (by omega) (by omega) (by rw [q11]; rfl) (tgt := 128) (by rfl) ?_
            refine hpa_aload_n (by rfl) rfl ?_
            refine hpa_call0 (by rfl) (by rfl) (by rfl) (by rfl) (by rfl) (by rfl) (hP45 hT B1 R1 z1 (by omega)) ?_
            rintro _ A12 ⟨z13, rfl, (⟨fz_A12, OK_A12⟩ | ⟨fz_A12, F_A12⟩)⟩
            ·
              obtain ⟨t9, a9, b9, c9, ns9, nm9, sn9, o9, zz9, lt9, B9, R9, z9⟩ := OK_A12
              refine hpa_s1 (by rfl) (Or.inr ⟨_, rfl, rfl⟩) rfl ?_
              refine hpa_goto (by rfl) ?_
              refine hpj_iinc (by rfl) rfl rfl hk_1 (by omega) (by omega) (fun _ => rfl) (fun z14 ez14 => ?_)
              refine hpa_goto (by rfl) ?_
              exact ih52 z13 z14 (.int z10) A12 (Or.inl ⟨fz_A12, _, _, _, _, _, _, _, _, _, by omega, B9, R9, by omega⟩) (by omega)
            ·
              refine hpa_s1 (by rfl) (Or.inr ⟨_, rfl, rfl⟩) rfl ?_
              refine hpa_goto (by rfl) ?_
              refine hpj_iinc (by rfl) rfl rfl hk_1 (by omega) (by omega) (fun _ => rfl) (fun z15 ez15 => ?_)
              refine hpa_goto (by rfl) ?_
              exact ih52 z13 z15 (.int z10) A12 (Or.inr ⟨fz_A12, F_A12⟩) (by omega)
          ·
            by_cases q16 : z10.toInt = 1
            ·
              refine hpa_tabIn (by rfl) (by omega) (by omega) (by rw [q16]; rfl) (tgt := 137) (by rfl) ?_
              refine hpa_aload_n (by rfl) rfl ?_
              refine hpa_call0 (by rfl) (by rfl) (by rfl) (by rfl) (by rfl) (by rfl) (hP46 hT B1 R1 z1 (by omega)) ?_
              rintro _ A17 ⟨z18, rfl, (⟨fz_A17, OK_A17⟩ | ⟨fz_A17, F_A17⟩)⟩
              ·
                obtain ⟨t9, a9, b9, c9, ns9, nm9, sn9, o9, zz9, lt9, B9, R9, z9⟩ := OK_A17
                refine hpa_s1 (by rfl) (Or.inr ⟨_, rfl, rfl⟩) rfl ?_
                refine hpa_goto (by rfl) ?_
                refine hpj_iinc (by rfl) rfl rfl hk_1 (by omega) (by omega) (fun _ => rfl) (fun z19 ez19 => ?_)
                refine hpa_goto (by rfl) ?_
                exact ih52 z18 z19 (.int z10) A17 (Or.inl ⟨fz_A17, _, _, _, _, _, _, _, _, _, by omega, B9, R9, by omega⟩) (by omega)
              ·
                refine hpa_s1 (by rfl) (Or.inr ⟨_, rfl, rfl⟩) rfl ?_
                refine hpa_goto (by rfl) ?_
                refine hpj_iinc (by rfl) rfl rfl hk_1 (by omega) (by omega) (fun _ => rfl) (fun z20 ez20 => ?_)
                refine hpa_goto (by rfl) ?_
                exact ih52 z18 z20 (.int z10) A17 (Or.inr ⟨fz_A17, F_A17⟩) (by omega)
            ·
              by_cases q21 : z10.toInt = 2
              ·
                refine hpa_tabIn (by rfl) (by omega) (by omega) (by rw [q21]; rfl) (tgt := 146) (by rfl) ?_
                refine hpa_aload_n (by rfl) rfl ?_
                refine hpa_iload (by rfl) rfl ?_
                refine hpa_iconst (by rfl) rfl ?_
                refine hpj_isub (by rfl) rfl hk_2 (by omega) (by omega) (fun z22 ez22 => ?_)
                refine hpa_call0 (by rfl) (by rfl) (by rfl) (by rfl) (by rfl) (by rfl) (hP49 hT z22 B1 R1 z1 (by omega) (by omega) ht_W_ok) ?_
                rintro _ A23 ⟨z24, rfl, (⟨fz_A23, OK_A23⟩ | ⟨fz_A23, F_A23⟩)⟩
                ·
                  obtain ⟨t9, a9, b9, c9, ns9, nm9, sn9, o9, zz9, lt9, B9, R9, z9⟩ := OK_A23
                  refine hpa_s1 (by rfl) (Or.inr ⟨_, rfl, rfl⟩) rfl ?_
                  refine hpa_goto (by rfl) ?_
                  refine hpj_iinc (by rfl) rfl rfl hk_1 (by omega) (by omega) (fun _ => rfl) (fun z25 ez25 => ?_)
                  refine hpa_goto (by rfl) ?_
                  exact ih52 z24 z25 (.int z10) A23 (Or.inl ⟨fz_A23, _, _, _, _, _, _, _, _, _, by omega, B9, R9, by omega⟩) (by omega)
                ·
                  refine hpa_s1 (by rfl) (Or.inr ⟨_, rfl, rfl⟩) rfl ?_
                  refine hpa_goto (by rfl) ?_
                  refine hpj_iinc (by rfl) rfl rfl hk_1 (by omega) (by omega) (fun _ => rfl) (fun z26 ez26 => ?_)
                  refine hpa_goto (by rfl) ?_
                  exact ih52 z24 z26 (.int z10) A23 (Or.inr ⟨fz_A23, F_A23⟩) (by omega)
              ·
                by_cases q27 : z10.toInt = 3
                ·
                  refine hpa_tabIn (by rfl) (by omega) (by omega) (by rw [q27]; rfl) (tgt := 146) (by rfl) ?_
                  refine hpa_aload_n (by rfl) rfl ?_
                  refine hpa_iload (by rfl) rfl ?_
                  refine hpa_iconst (by rfl) rfl ?_
                  refine hpj_isub (by rfl) rfl hk_2 (by omega) (by omega) (fun z28 ez28 => ?_)
                  refine hpa_call0 (by rfl) (by rfl) (by rfl) (by rfl) (by rfl) (by rfl) (hP49 hT z28 B1 R1 z1 (by omega) (by omega) ht_W_ok) ?_
                  rintro _ A29 ⟨z30, rfl, (⟨fz_A29, OK_A29⟩ | ⟨fz_A29, F_A29⟩)⟩
                  ·
                    obtain ⟨t9, a9, b9, c9, ns9, nm9, sn9, o9, zz9, lt9, B9, R9, z9⟩ := OK_A29
                    refine hpa_s1 (by rfl) (Or.inr ⟨_, rfl, rfl⟩) rfl ?_
                    refine hpa_goto (by rfl) ?_
                    refine hpj_iinc (by rfl) rfl rfl hk_1 (by omega) (by omega) (fun _ => rfl) (fun z31 ez31 => ?_)
                    refine hpa_goto (by rfl) ?_
                    exact ih52 z30 z31 (.int z10) A29 (Or.inl ⟨fz_A29, _, _, _, _, _, _, _, _, _, by omega, B9, R9, by omega⟩) (by omega)
                  ·
                    refine hpa_s1 (by rfl) (Or.inr ⟨_, rfl, rfl⟩) rfl ?_
                    refine hpa_goto (by rfl) ?_
                    refine hpj_iinc (by rfl) rfl rfl hk_1 (by omega) (by omega) (fun _ => rfl) (fun z32 ez32 => ?_)
                    refine hpa_goto (by rfl) ?_
                    exact ih52 z30 z32 (.int z10) A29 (Or.inr ⟨fz_A29, F_A29⟩) (by omega)
                ·
                  by_cases q33 : z10.toInt = 4
                  ·
                    refine hpa_tabIn (by rfl) (by omega) (by omega) (by rw [q33]; rfl) (tgt := 146) (by rfl) ?_
                    refine hpa_aload_n (by rfl) rfl ?_
                    refine hpa_iload (by rfl) rfl ?_
                    refine hpa_iconst (by rfl) rfl ?_
                    refine hpj_isub (by rfl) rfl hk_2 (by omega) (by omega) (fun z34 ez34 => ?_)
                    refine hpa_call0 (by rfl) (by rfl) (by rfl) (by rfl) (by rfl) (by rfl) (hP49 hT z34 B1 R1 z1 (by omega) (by omega) ht_W_ok) ?_
                    rintro _ A35 ⟨z36, rfl, (⟨fz_A35, OK_A35⟩ | ⟨fz_A35, F_A35⟩)⟩
                    ·
                      obtain ⟨t9, a9, b9, c9, ns9, nm9, sn9, o9, zz9, lt9, B9, R9, z9⟩ := OK_A35
                      refine hpa_s1 (by rfl) (Or.inr ⟨_, rfl, rfl⟩) rfl ?_
                      refine hpa_goto (by rfl) ?_
                      refine hpj_iinc (by rfl) rfl rfl hk_1 (by omega) (by omega) (fun _ => rfl) (fun z37 ez37 => ?_)
                      refine hpa_goto (by rfl) ?_
                      exact ih52 z36 z37 (.int z10) A35 (Or.inl ⟨fz_A35, _, _, _, _, _, _, _, _, _, by omega, B9, R9, by omega⟩) (by omega)
                    ·
                      refine hpa_s1 (by rfl) (Or.inr ⟨_, rfl, rfl⟩) rfl ?_
                      refine hpa_goto (by rfl) ?_
                      refine hpj_iinc (by rfl) rfl rfl hk_1 (by omega) (by omega) (fun _ => rfl) (fun z38 ez38 => ?_)
                      refine hpa_goto (by rfl) ?_
                      exact ih52 z36 z38 (.int z10) A35 (Or.inr ⟨fz_A35, F_A35⟩) (by omega)
                  ·
                    by_cases q39 : z10.toInt = 5
                    ·
                      refine hpa_tabIn (by rfl) (by omega) (by omega) (by rw [q39]; rfl) (tgt := 146) (by rfl) ?_
                      refine hpa_aload_n (by rfl) rfl ?_
                      refine hpa_iload (by rfl) rfl ?_
                      refine hpa_iconst (by rfl) rfl ?_
                      refine hpj_isub (by rfl) rfl hk_2 (by omega) (by omega) (fun z40 ez40 => ?_)
                      refine hpa_call0 (by rfl) (by rfl) (by rfl) (by rfl) (by rfl) (by rfl) (hP49 hT z40 B1 R1 z1 (by omega) (by omega) ht_W_ok) ?_
                      rintro _ A41 ⟨z42, rfl, (⟨fz_A41, OK_A41⟩ | ⟨fz_A41, F_A41⟩)⟩
                      ·
                        obtain ⟨t9, a9, b9, c9, ns9, nm9, sn9, o9, zz9, lt9, B9, R9, z9⟩ := OK_A41
                        refine hpa_s1 (by rfl) (Or.inr ⟨_, rfl, rfl⟩) rfl ?_
                        refine hpa_goto (by rfl) ?_
                        refine hpj_iinc (by rfl) rfl rfl hk_1 (by omega) (by omega) (fun _ => rfl) (fun z43 ez43 => ?_)
                        refine hpa_goto (by rfl) ?_
                        exact ih52 z42 z43 (.int z10) A41 (Or.inl ⟨fz_A41, _, _, _, _, _, _, _, _, _, by omega, B9, R9, by omega⟩) (by omega)
                      ·
                        refine hpa_s1 (by rfl) (Or.inr ⟨_, rfl, rfl⟩) rfl ?_
                        refine hpa_goto (by rfl) ?_
                        refine hpj_iinc (by rfl) rfl rfl hk_1 (by omega) (by omega) (fun _ => rfl) (fun z44 ez44 => ?_)
                        refine hpa_goto (by rfl) ?_
                        exact ih52 z42 z44 (.int z10) A41 (Or.inr ⟨fz_A41, F_A41⟩) (by omega)
                    ·
                      by_cases q45 : z10.toInt = 6
                      ·
                        refine hpa_tabIn (by rfl) (by omega) (by omega) (by rw [q45]; rfl) (tgt := 159) (by rfl) ?_
                        refine hpa_aload_n (by rfl) rfl ?_
                        refine hpa_call0 (by rfl) (by rfl) (by rfl) (by rfl) (by rfl) (by rfl) (hP47 hT B1 R1 z1 (by omega)) ?_
                        rintro _ A46 ⟨z47, rfl, (⟨fz_A46, OK_A46⟩ | ⟨fz_A46, F_A46⟩)⟩
                        ·
                          obtain ⟨t9, a9, b9, c9, ns9, nm9, sn9, o9, zz9, lt9, B9, R9, z9⟩ := OK_A46
                          refine hpa_s1 (by rfl) (Or.inr ⟨_, rfl, rfl⟩) rfl ?_
                          refine hpa_goto (by rfl) ?_
                          refine hpj_iinc (by rfl) rfl rfl hk_1 (by omega) (by omega) (fun _ => rfl) (fun z48 ez48 => ?_)
                          refine hpa_goto (by rfl) ?_
                          exact ih52 z47 z48 (.int z10) A46 (Or.inl ⟨fz_A46, _, _, _, _, _, _, _, _, _, by omega, B9, R9, by omega⟩) (by omega)
                        ·
                          refine hpa_s1 (by rfl) (Or.inr ⟨_, rfl, rfl⟩) rfl ?_
                          refine hpa_goto (by rfl) ?_
                          refine hpj_iinc (by rfl) rfl rfl hk_1 (by omega) (by omega) (fun _ => rfl) (fun z49 ez49 => ?_)
                          refine hpa_goto (by rfl) ?_
                          exact ih52 z47 z49 (.int z10) A46 (Or.inr ⟨fz_A46, F_A46⟩) (by omega)
                      ·
                        by_cases q50 : z10.toInt = 7
                        ·
                          refine hpa_tabIn (by rfl) (by omega) (by omega) (by rw [q50]; rfl) (tgt := 168) (by rfl) ?_
                          refine hpa_aload_n (by rfl) rfl ?_
                          refine hpa_call0 (by rfl) (by rfl) (by rfl) (by rfl) (by rfl) (by rfl) (hP48 hT B1 R1 z1 (by omega)) ?_
                          rintro _ A51 ⟨z52, rfl, (⟨fz_A51, OK_A51⟩ | ⟨fz_A51, F_A51⟩)⟩
                          ·
                            obtain ⟨t9, a9, b9, c9, ns9, nm9, sn9, o9, zz9, lt9, B9, R9, z9⟩ := OK_A51
                            refine hpa_s1 (by rfl) (Or.inr ⟨_, rfl, rfl⟩) rfl ?_
                            refine hpa_goto (by rfl) ?_
                            refine hpj_iinc (by rfl) rfl rfl hk_1 (by omega) (by omega) (fun _ => rfl) (fun z53 ez53 => ?_)
                            refine hpa_goto (by rfl) ?_
                            exact ih52 z52 z53 (.int z10) A51 (Or.inl ⟨fz_A51, _, _, _, _, _, _, _, _, _, by omega, B9, R9, by omega⟩) (by omega)
                          ·
                            refine hpa_s1 (by rfl) (Or.inr ⟨_, rfl, rfl⟩) rfl ?_
                            refine hpa_goto (by rfl) ?_
                            refine hpj_iinc (by rfl) rfl rfl hk_1 (by omega) (by omega) (fun _ => rfl) (fun z54 ez54 => ?_)
                            refine hpa_goto (by rfl) ?_
                            exact ih52 z52 z54 (.int z10) A51 (Or.inr ⟨fz_A51, F_A51⟩) (by omega)
                        ·
                          refine hpa_tabOut (by rfl) (by omega) (tgt := 177) (by rfl) ?_
                          refine hpa_aload_n (by rfl) rfl ?_
                          refine hpa_iconst (by rfl) rfl ?_
                          refine hpa_call0 (by rfl) (by rfl) (by rfl) (by rfl) (by rfl) (by rfl) (hP39 hT (Int32.ofNat 1) B1 ⟨_, B1.2.2.2.1, hqd0_else (by omega) (by omega)⟩ (by decide) hk_1) ?_
                          rintro _ A55 ⟨z56, rfl, fz_A55, F_A55⟩
                          refine hpa_s1 (by rfl) (Or.inr ⟨_, rfl, rfl⟩) rfl ?_
                          refine hpj_iinc (by rfl) rfl rfl hk_1 (by omega) (by omega) (fun _ => rfl) (fun z57 ez57 => ?_)
                          refine hpa_goto (by rfl) ?_
                          exact ih52 z56 z57 (.int z10) A55 (Or.inr ⟨fz_A55, F_A55⟩) (by omega)
      ·
        obtain ⟨frf, fU, ft, fk, fq, fk0, fv, fp⟩ := id F1
        refine hpa_iloadS (by rfl) rfl ?_
        refine hpa_sipush (by rfl) rfl ?_
        refine hpj_cgt (by rfl) rfl hk_400 (fun q58 => ?_) (fun q58 => ?_)
        ·
          refine hpa_aload_n (by rfl) rfl ?_
          refine hpj_getK (by rfl) (by rfl) (by rfl) rfl ?_
          refine hpj_zne (by rfl) rfl (fun q59 => ?_) (fun q59 => False.elim (by omega))
          refine hpa_aload_n (by rfl) rfl ?_
          refine hpj_getK (by rfl) (by rfl) (by rfl) rfl ?_
          exact hpa_ireturn (by rfl) rfl (hP _ _ ⟨_, rfl, Or.inl ⟨ft, fk, fq, fk0, fv, fp⟩, fU, fun q => False.elim (by omega), fun q => False.elim (by omega)⟩)
        ·
          refine hpa_iload (by rfl) rfl ?_
          refine hpj_zeq (by rfl) rfl (fun q60 => ?_) (fun q60 => False.elim (by omega))
          refine hpa_aload_n (by rfl) rfl ?_
          refine hpj_getK (by rfl) (by rfl) (by rfl) rfl ?_
          refine hpj_zne (by rfl) rfl (fun q61 => ?_) (fun q61 => False.elim (by omega))
          refine hpa_aload_n (by rfl) rfl ?_
          refine hpj_getK (by rfl) (by rfl) (by rfl) rfl ?_
          exact hpa_ireturn (by rfl) rfl (hP _ _ ⟨_, rfl, Or.inl ⟨ft, fk, fq, fk0, fv, fp⟩, fU, fun q => False.elim (by omega), fun q => False.elim (by omega)⟩)
  refine hpa_aload_n (by rfl) rfl ?_
  refine hpa_aload_n (by rfl) rfl ?_
  refine hpj_putR (i := 20) (by rfl) (by rfl) (by rfl) (by rfl) (fun A1 eA1 fA1 gA1 iA1 => ?_)
  have hrf : A1.2.2.2 20 2 = T + 1 ∧ True := ⟨by rw [iA1]; simp [hs_upN], trivial⟩
  refine hpa_aload_n (by rfl) rfl ?_
  refine hpj_getT (by rfl) (by rfl) (by rfl) hrf.1 ?_
  refine hpa_call0 (by rfl) (by rfl) (by rfl) (hsT hT) (by rfl) (by rfl) (hP54 (V := ht_W B n) hT) ?_
  rintro _ A62 ⟨rfl, Z_A62, h4_A62, h5_A62, M_A62⟩
  have hA2 : hcTp B n A62 := fun i hi => by rw [Z_A62.2.1 1 (by omega), fA1]; exact hA i hi
  have hU2 : hcU A62 := hU.fr (by rw [Z_A62.2.2, gA1])
  have hrf2 : A62.2.2.2 20 2 = T + 1 := by rw [Z_A62.2.2]; exact hrf.1
  refine hpa_aload_n (by rfl) rfl ?_
  refine hpa_get (v := .ref 22) (by rfl) (by rfl) (by rfl) rfl ?_
  refine hpa_aload_n (by rfl) rfl ?_
  refine hpa_iload_n (by rfl) rfl ?_
  refine hpa_call0 (by rfl) (by rfl) (by rfl) (by rfl) (by rfl) (by rfl) (hP58 a1 hA2 h1 hn hBr hU2) ?_
  rintro _ A63 ⟨rfl, C_A63, TE_A63⟩
  refine hpa_aload_n (by rfl) rfl ?_
  refine hpa_iconst (by rfl) rfl ?_
  refine hpj_putI (by rfl) (by rfl) (by rfl) (by rfl) (fun A64 eA64 fA64 => ?_)
  refine hpa_aload_n (by rfl) rfl ?_
  refine hpa_iconst (by rfl) rfl ?_
  refine hpj_putI (by rfl) (by rfl) (by rfl) (by rfl) (fun A65 eA65 fA65 => ?_)
  refine hpa_aload_n (by rfl) rfl ?_
  refine hpa_iconst (by rfl) rfl ?_
  refine hpj_putI (by rfl) (by rfl) (by rfl) (by rfl) (fun A66 eA66 fA66 => ?_)
  refine hpa_aload_n (by rfl) rfl ?_
  refine hpa_iconst (by rfl) rfl ?_
  refine hpj_putI (by rfl) (by rfl) (by rfl) (by rfl) (fun A67 eA67 fA67 => ?_)
  refine hpa_aload_n (by rfl) rfl ?_
  refine hpa_iconst (by rfl) rfl ?_
  refine hpj_putI (by rfl) (by rfl) (by rfl) (by rfl) (fun A68 eA68 fA68 => ?_)
  obtain ⟨B0, R00⟩ := hc_init hT9 hrf2 h4_A62 h5_A62 C_A63 TE_A63 eA64 fA64 eA65 fA65 eA66 fA66 eA67 fA67 eA68 fA68
  have M0 := (M_A62.mv (fun i k h1 h2 _ => C_A63.1 i k (by omega)) (fun i h1 h2 => C_A63.2.1 i (by omega) (by omega)))
  replace M0 := M0.mv (fun i k h1 h2 _ => by rw [eA64, hup2 (by omega)]) (fun i h1 h2 => by rw [fA64])
  replace M0 := M0.mv (fun i k h1 h2 _ => by rw [eA65, hup2 (by omega)]) (fun i h1 h2 => by rw [fA65])
  replace M0 := M0.mv (fun i k h1 h2 _ => by rw [eA66, hup2 (by omega)]) (fun i h1 h2 => by rw [fA66])
  replace M0 := M0.mv (fun i k h1 h2 _ => by rw [eA67, hup2 (by omega)]) (fun i h1 h2 => by rw [fA67])
  replace M0 := M0.mv (fun i k h1 h2 _ => by rw [eA68, hup2 (by omega)]) (fun i h1 h2 => by rw [fA68])
  have R0 := hcR2.of R00 M0
  refine hpa_iconst (by rfl) rfl ?_
  refine hpa_s1 (by rfl) (Or.inr ⟨_, rfl, rfl⟩) rfl ?_
  refine hpa_iconst (by rfl) rfl ?_
  refine hpa_s1 (by rfl) (Or.inr ⟨_, rfl, rfl⟩) rfl ?_
  exact L52 _ (Int32.ofNat 1) (Int32.ofNat 0) (.retAddr 0) A68 (Or.inl ⟨hk_1, _, _, _, _, _, _, _, _, _, by omega, B0, R0, by omega⟩) (by omega)
theorem hP37n {g d : Nat} {A : hs_A} {B : Nat → Int} {n T : Nat} (hT : hTT T) (a1 : Int32) (hA : hcTp B n A) (h1 : a1.toInt = (n : Int)) (hn : n ≤ 2000) (hBr : ∀ i, i < n → B i ≤ 127) (hU : hcU A) : hpC g d 37 hm_m37 [.ref 21, .ref (T + 1), .ref 2, .int a1] A (fun r A' => ∃ z : Int32, r = some (.int z) ∧ hq_res (ht_K B n) (ht_W B n) (fun u => (ht_S B n u : Int)) (ht_E B n) z.toInt (A'.1 20 6).toInt ∧ hcU A' ∧ (z.toInt = 0 → hq_hs (ht_K B n) (ht_W B n) (ht_E B n) (A'.1 T 4).toInt (A'.1 T 5).toInt) ∧ (z.toInt = 0 → hcQ (ht_K B n) (ht_W B n) (ht_E B n) T A')) := hpC.all (fun f d => hW37n hT a1 hA h1 hn hBr hU (fun r A' h => h))
theorem hP37 {g d : Nat} {A : hs_A} {B : Nat → Int} {n T : Nat} (hT : hTT T) (a1 : Int32) (hA : hcTp B n A) (h1 : a1.toInt = (n : Int)) (hn : n ≤ 2000) (hBr : ∀ i, i < n → B i ≤ 127) (hU : hcU A) : hpC g d 37 hm_m37 [.ref 21, .ref (T + 1), .ref 2, .int a1] A (fun r A' => ∃ z : Int32, r = some (.int z) ∧ hq_res (ht_K B n) (ht_W B n) (fun u => (ht_S B n u : Int)) (ht_E B n) z.toInt (A'.1 20 6).toInt ∧ hcU A') := (hP37n hT a1 hA h1 hn hBr hU).imp (fun r A' h => by obtain ⟨z, e, x, y, -⟩ := h; exact ⟨z, e, x, y⟩)
