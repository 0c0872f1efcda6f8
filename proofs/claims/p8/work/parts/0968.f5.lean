/-! UNDONE, HELD, RESTORED -/
def hGv (A A' : hs_A) : Prop := ∃ p : Nat, p < 40 ∧ 0 < (A.1 40 2).toInt ∧ (p : Int) = ((A.1 40 1).toInt + ((A.1 40 2).toInt - 1)) % 40 ∧ (A'.1 40 2).toInt = (A.1 40 2).toInt - 1 ∧ A'.1 40 1 = A.1 40 1 ∧ (∀ k, 6 ≤ k → k ≤ 10 → A'.1 26 k = A.1 (42 + 7 * p) k) ∧ (∀ j, 1 ≤ j → j ≤ 6 → ∀ x : Nat, x < 10 → A'.2.1 (26 + j) x = A.2.1 (42 + 7 * p + j) x)
theorem hGv.pre {A A1 A' : hs_A} {v : Int32} (h : hGv A1 A') (e : A1.1 = hs_up A.1 328 1 v) (f : A1.2 = A.2) : hGv A A' := by
  obtain ⟨p, h1, h2, h3, h4, h5, h6, h7⟩ := h
  rw [e, hup2 (by omega)] at h2
  rw [e, hup2 (by omega), hup2 (by omega)] at h3
  rw [e, hup2 (by omega)] at h4
  rw [e, hup2 (by omega)] at h5
  exact ⟨p, h1, h2, h3, h4, h5, fun k a b => by rw [h6 k a b, e, hup2 (by omega)], fun j a b x hx => by rw [h7 j a b x hx, f]⟩
theorem hGv_mk {A A4 A9 : hs_A} {L : Nat} {z1 z3 z5 z6 z7 : Int32} (hz1 : A.1 40 2 = z1) (q1 : 0 < z1.toInt) (e3 : z3.toInt = z1.toInt - 1) (e4 : A4.1 = hs_up A.1 40 2 z3) (f4 : A4.2 = A.2) (hz5 : A4.1 40 1 = z5) (e6 : z6.toInt = z5.toInt + z3.toInt) (e7 : z7.toInt = z6.toInt % 40) (b7 : 0 ≤ z7.toInt ∧ z7.toInt ≤ 39) (sL : L = 42 + 7 * z7.toNatClampNeg) (c : hCp 26 L A4 A9) : hGv A A9 := by
  have c7 := hn_cn (j := z7) b7.1
  have k1 : A4.1 40 1 = A.1 40 1 := by rw [e4, hup2 (by omega)]
  subst sL
  refine ⟨z7.toNatClampNeg, by omega, by rw [hz1]; omega, by rw [← k1, hz5, hz1]; omega, ?_, ?_, fun k a b => ?_, fun j a b x hx => ?_⟩
  · rw [c.2.2.1 40 2 (by omega), e4, hup1, hz1]; omega
  · rw [c.2.2.1 40 1 (by omega)]; exact k1
  · rw [c.1 k a b, e4, hup2 (by omega)]
  · rw [c.2.1 j a b x, f4]
theorem hY35g {d : Nat} {Bn Br : Int} {A0 A : hs_A} (hA : hJ 0 Bn Br A0 A)   {P : Option Value → hs_A → Prop} (hP : ∀ (r : Option Value) (A' : hs_A), (hJ 0 Bn Br A0 A' ∧ ∃ z : Int32, r = some (.int z) ∧ ((z.toInt = 1 ∧ hGv A A') ∨ (z.toInt = 0 ∧ (A.1 40 2).toInt = 0 ∧ A' = A))) → P r A') : hxa (d + 1) (some (.boolean)) hm_t35 0 [.ref 41, .ref 27] [] A P := by
  have k0 := hk_0
  have k1 := hk_1
  refine hxa_aload_n (by rfl) rfl ?_
  refine hxj_getB (by rfl) (by rfl) (by rfl) hA (by rfl) (fun z1 ez1 fz1 gz1 => ?_)
  refine hxj_zne (by rfl) rfl (fun q2 => ?_) (fun q2 => ?_)
  ·
    refine hxa_aload_n (by rfl) rfl ?_
    refine hxa_dupR (by rfl) ?_
    refine hxj_getK (by rfl) (by rfl) (by rfl) ez1 ?_
    refine hxa_iconst (by rfl) rfl ?_
    refine hxj_isub (by rfl) rfl hk_1 (by omega) (by omega) (fun z3 ez3 => ?_)
    refine hxj_putI (by rfl) (by rfl) (by rfl) (by rfl) hA (hbok (by rfl) rfl (by omega) (by omega)) (by rfl) (by rfl) (fun A4 hA4 eA4 fA4 => ?_)
    refine hxa_aload_n (by rfl) rfl ?_
    refine hxa_aload_n (by rfl) rfl ?_
    refine hxa_get (v := .ref 42) (by rfl) (by rfl) (by rfl) rfl ?_
    refine hxa_aload_n (by rfl) rfl ?_
    refine hxj_getB (by rfl) (by rfl) (by rfl) hA4 (by rfl) (fun z5 ez5 fz5 gz5 => ?_)
    refine hxa_aload_n (by rfl) rfl ?_
    refine hxj_getK (by rfl) (by rfl) (by rfl) (hkS eA4) ?_
    refine hxj_iadd (by rfl) rfl rfl (by omega) (by omega) (fun z6 ez6 => ?_)
    refine hxa_bipush (by rfl) rfl ?_
    refine hxj_iremP (by rfl) rfl hk_40 (by omega) (by omega) (fun z7 ez7 => ?_)
    obtain ⟨L8, hL8, eL8, sL8⟩ := haa_livesE (j := z7) (by omega) (by omega)
    refine hxa_aald (by rfl) (Or.inl rfl) (by rfl) (hn_ix0 rfl (by omega)) eL8 ?_
    refine hxa_call0 (by rfl) (by rfl) (by rfl) (by rfl) (by rfl) (by rfl) (hX17g (d := d + 0) hA4 hL26 hL8 (by omega)) ?_
    rintro _ A9 ⟨hA9, rfl, c9⟩
    refine hxa_iconst (by rfl) rfl ?_
    exact hxa_ireturn (by rfl) (by rfl) (hP _ _ ⟨hA9, _, rfl, Or.inl ⟨hk_1, hGv_mk ez1 (by omega) ez3 eA4 fA4 ez5 ez6 ez7 (by omega) sL8 c9⟩⟩)
  ·
    refine hxa_iconst (by rfl) rfl ?_
    exact hxa_ireturn (by rfl) (by rfl) (hP _ _ ⟨hA, _, rfl, Or.inr ⟨hk_0, by rw [ez1]; omega, rfl⟩⟩)
theorem hX35g {d : Nat} {Bn Br : Int} {A0 A : hs_A} (hA : hJ 0 Bn Br A0 A)   : hxC (d + 2) 35 hm_m35 [.ref 41, .ref 27] A (fun r A' => hJ 0 Bn Br A0 A' ∧ ∃ z : Int32, r = some (.int z) ∧ ((z.toInt = 1 ∧ hGv A A') ∨ (z.toInt = 0 ∧ (A.1 40 2).toInt = 0 ∧ A' = A))) := hxC.of (by rfl) (hY35g hA  (fun r A' h => h))
theorem hY88g {d : Nat} {Bn Br : Int} {A0 A : hs_A} (hA : hJ 0 Bn Br A0 A)    {P : Option Value → hs_A → Prop} (hP : ∀ (r : Option Value) (A' : hs_A), (hJ 0 Bn Br A0 A' ∧ ∃ z : Int32, r = some (.int z) ∧ ((z.toInt = 1 ∧ hGv A A') ∨ (z.toInt = 0 ∧ (A.1 40 2).toInt = 0 ∧ (∀ i k, ¬ i = 328 → A'.1 i k = A.1 i k) ∧ A'.2 = A.2))) → P r A') : hxa (d + 2) (some (.boolean)) hm_t88 0 [.ref 1] [] A P := by
  refine hxa_aload_n (by rfl) rfl ?_
  refine hxa_get (v := .ref 329) (by rfl) (by rfl) (by rfl) rfl ?_
  refine hxa_iconst (by rfl) rfl ?_
  refine hxj_putI (by rfl) (by rfl) (by rfl) (by rfl) hA (hbok (by rfl) hk_0 (by omega) (by omega)) (by rfl) (by rfl) (fun A1 hA1 eA1 fA1 => ?_)
  refine hxa_aload_n (by rfl) rfl ?_
  refine hxa_get (v := .ref 41) (by rfl) (by rfl) (by rfl) rfl ?_
  refine hxa_aload_n (by rfl) rfl ?_
  refine hxa_get (v := .ref 27) (by rfl) (by rfl) (by rfl) rfl ?_
  refine hxa_call0 (by rfl) (by rfl) (by rfl) (by rfl) (by rfl) (by rfl) (hX35g (d := d + 0) hA1) ?_
  rintro _ A2 ⟨hA2, z3, rfl, fz3⟩
  exact hxa_ireturn (by rfl) (hn_fitB (by omega) (by omega)) (hP _ _ ⟨hA2, _, rfl, by rcases fz3 with ⟨u1, u2⟩ | ⟨u1, u2, u3⟩; exact Or.inl ⟨u1, u2.pre eA1 fA1⟩; exact Or.inr ⟨u1, by rw [eA1, hup2 (by omega)] at u2; exact u2, fun i k hi => by rw [u3, eA1, hup2 (fun w => hi w.1)], by rw [u3, fA1]⟩⟩)
theorem hX88g {d : Nat} {Bn Br : Int} {A0 A : hs_A} (hA : hJ 0 Bn Br A0 A)    : hxC (d + 3) 88 hm_m88 [.ref 1] A (fun r A' => hJ 0 Bn Br A0 A' ∧ ∃ z : Int32, r = some (.int z) ∧ ((z.toInt = 1 ∧ hGv A A') ∨ (z.toInt = 0 ∧ (A.1 40 2).toInt = 0 ∧ (∀ i k, ¬ i = 328 → A'.1 i k = A.1 i k) ∧ A'.2 = A.2))) := hxC.of (by rfl) (hY88g hA   (fun r A' h => h))
def hSv (s : Nat) (A A' : hs_A) : Prop := (∀ k, 6 ≤ k → k ≤ 10 → A'.1 (346 + 7 * s) k = A.1 26 k) ∧ (∀ j, 1 ≤ j → j ≤ 6 → ∀ x : Nat, x < 10 → A'.2.1 (346 + 7 * s + j) x = A.2.1 (26 + j) x) ∧ (∀ q : Nat, q < 3 → ¬ q = s → (∀ k, 6 ≤ k → k ≤ 10 → A'.1 (346 + 7 * q) k = A.1 (346 + 7 * q) k) ∧ ∀ j, 1 ≤ j → j ≤ 6 → ∀ x : Nat, x < 10 → A'.2.1 (346 + 7 * q + j) x = A.2.1 (346 + 7 * q + j) x)
theorem hSv_mk {A A4 A8 : hs_A} {s L : Nat} {v : Int32} (c : hCp L 26 A A4) (sL : L = 346 + 7 * s) (e : A8.1 = hs_up A4.1 0 10 v) (f : A8.2 = A4.2) : hSv s A A8 := by
  subst sL
  refine ⟨fun k a b => ?_, fun j a b x hx => ?_, fun q hq hne => ⟨fun k a b => ?_, fun j a b x hx => ?_⟩⟩
  · rw [e, hup2 (by omega)]; exact c.1 k a b
  · rw [f]; exact c.2.1 j a b x
  · rw [e, hup2 (by omega)]; exact c.2.2.1 _ k (by omega)
  · rw [f]; exact c.2.2.2.1 _ (by omega) x
theorem hY128g {d : Nat} {Bn Br : Int} {A0 A : hs_A} (hA : hJ 0 Bn Br A0 A)  (a1 : Int32)  {P : Option Value → hs_A → Prop} (hP : ∀ (r : Option Value) (A' : hs_A), (hJ 0 Bn Br A0 A' ∧ ∃ z : Int32, r = some (.int z) ∧ ((z.toInt = 1 ∧ 0 ≤ a1.toInt ∧ a1.toInt ≤ 2 ∧ hSv a1.toNatClampNeg A A' ∧ A'.1 0 10 = A.1 0 10 ||| (Int32.ofNat 1 <<< (a1 &&& 31))) ∨ (z.toInt = 0 ∧ (a1.toInt < 0 ∨ 2 < a1.toInt) ∧ A' = A))) → P r A') : hxa (d + 1) (some (.boolean)) hm_t128 0 [.ref 1, .int a1] [] A P := by
  have k0 := hk_0
  have k1 := hk_1
  have k2 := hk_2
  refine hxa_iload_n (by rfl) rfl ?_
  refine hxa_iconst (by rfl) rfl ?_
  refine hxa_iconst (by rfl) rfl ?_
  refine hxa_call2 (by rfl) (by decide) (by rfl) (by rfl) (by rfl) (hX78 (d := d + 0)  a1 (Int32.ofNat 0) (Int32.ofNat 2)) ?_
  rintro _ _ ⟨rfl, z1, rfl, fz1⟩
  rcases fz1 with fz1 | fz1
  ·
    refine hxj_zne (by rfl) rfl (fun q2 => ?_) (fun q2 => False.elim (by omega))
    refine hxa_aload_n (by rfl) rfl ?_
    refine hxa_get (v := .ref 323) (by rfl) (by rfl) (by rfl) rfl ?_
    refine hxa_iload_n (by rfl) rfl ?_
    obtain ⟨L3, hL3, eL3, sL⟩ := haa_slotsE (j := a1) (by omega) (by omega)
    refine hxa_aald (by rfl) (Or.inl rfl) (by rfl) (hn_ix0 rfl (by omega)) eL3 ?_
    refine hxa_aload_n (by rfl) rfl ?_
    refine hxa_get (v := .ref 27) (by rfl) (by rfl) (by rfl) rfl ?_
    refine hxa_call0 (by rfl) (by rfl) (by rfl) (hsL hL3) (by rfl) (by rfl) (hX17g (d := d + 0) hA hL3 hL26 (by omega)) ?_
    rintro _ A4 ⟨hA4, rfl, c4⟩
    refine hxa_aload_n (by rfl) rfl ?_
    refine hxa_dupR (by rfl) ?_
    refine hxj_getI (by rfl) (by rfl) (by rfl) (fun z5 ez5 => ?_)
    refine hxa_iconst (by rfl) rfl ?_
    refine hxa_iload_n (by rfl) rfl ?_
    refine hxj_ishlE (by rfl) (fun z6 ez6 => ?_)
    refine hxj_iorE (by rfl) (fun z7 ez7 => ?_)
    refine hxj_putI (by rfl) (by rfl) (by rfl) (by rfl) hA4 (hbokN (by rfl)) (by rfl) (by rfl) (fun A8 hA8 eA8 fA8 => ?_)
    refine hxa_iconst (by rfl) rfl ?_
    exact hxa_ireturn (by rfl) (by rfl) (hP _ _ ⟨hA8, _, rfl, Or.inl ⟨hk_1, by omega, by omega, hSv_mk c4 sL eA8 fA8, by rw [eA8, hup1, ez7, ← ez5, ez6, c4.2.2.1 0 10 (by omega)]⟩⟩)
  ·
    refine hxj_zne (by rfl) rfl (fun q9 => False.elim (by omega)) (fun q9 => ?_)
    refine hxa_iconst (by rfl) rfl ?_
    exact hxa_ireturn (by rfl) (by rfl) (hP _ _ ⟨hA, _, rfl, Or.inr ⟨hk_0, by omega, rfl⟩⟩)
theorem hX128g {d : Nat} {Bn Br : Int} {A0 A : hs_A} (hA : hJ 0 Bn Br A0 A)  (a1 : Int32)  : hxC (d + 2) 128 hm_m128 [.ref 1, .int a1] A (fun r A' => hJ 0 Bn Br A0 A' ∧ ∃ z : Int32, r = some (.int z) ∧ ((z.toInt = 1 ∧ 0 ≤ a1.toInt ∧ a1.toInt ≤ 2 ∧ hSv a1.toNatClampNeg A A' ∧ A'.1 0 10 = A.1 0 10 ||| (Int32.ofNat 1 <<< (a1 &&& 31))) ∨ (z.toInt = 0 ∧ (a1.toInt < 0 ∨ 2 < a1.toInt) ∧ A' = A))) := hxC.of (by rfl) (hY128g hA a1  (fun r A' h => h))
def hRv (s : Nat) (A A' : hs_A) : Prop := (∀ k, 6 ≤ k → k ≤ 10 → A'.1 26 k = A.1 (346 + 7 * s) k) ∧ (∀ j, 1 ≤ j → j ≤ 6 → ∀ x : Nat, x < 10 → A'.2.1 (26 + j) x = A.2.1 (346 + 7 * s + j) x) ∧ (A'.1 40 2).toInt = 0
theorem hRv_mk {A A8 A9 A10 : hs_A} {s L : Nat} {v : Int32} (c : hCp 26 L A A8) (sL : L = 346 + 7 * s) (e9 : A9.1 = hs_up A8.1 40 2 (Int32.ofNat 0)) (f9 : A9.2 = A8.2) (e10 : A10.1 = hs_up A9.1 328 1 v) (f10 : A10.2 = A9.2) : hRv s A A10 := by
  subst sL
  refine ⟨fun k a b => ?_, fun j a b x hx => ?_, ?_⟩
  · rw [e10, hup2 (by omega), e9, hup2 (by omega)]; exact c.1 k a b
  · rw [f10, f9]; exact c.2.1 j a b x
  · rw [e10, hup2 (by omega), e9, hup1]; exact hk_0
theorem hY129g {d : Nat} {Bn Br : Int} {A0 A : hs_A} (hA : hJ 0 Bn Br A0 A)  (a1 : Int32)  {P : Option Value → hs_A → Prop} (hP : ∀ (r : Option Value) (A' : hs_A), (hJ 0 Bn Br A0 A' ∧ ∃ z : Int32, r = some (.int z) ∧ ((z.toInt = 1 ∧ 0 ≤ a1.toInt ∧ a1.toInt ≤ 2 ∧ ¬ hBit (A.1 0 10) a1 = 0 ∧ hRv a1.toNatClampNeg A A') ∨ (z.toInt = 0 ∧ (a1.toInt < 0 ∨ 2 < a1.toInt ∨ hBit (A.1 0 10) a1 = 0) ∧ A' = A))) → P r A') : hxa (d + 1) (some (.boolean)) hm_t129 0 [.ref 1, .int a1] [] A P := by
  have k0 := hk_0
  have k1 := hk_1
  have k2 := hk_2
  refine hxa_iload_n (by rfl) rfl ?_
  refine hxa_iconst (by rfl) rfl ?_
  refine hxa_iconst (by rfl) rfl ?_
  refine hxa_call2 (by rfl) (by decide) (by rfl) (by rfl) (by rfl) (hX78 (d := d + 0)  a1 (Int32.ofNat 0) (Int32.ofNat 2)) ?_
  rintro _ _ ⟨rfl, z1, rfl, fz1⟩
  rcases fz1 with fz1 | fz1
  ·
    refine hxj_zeq (by rfl) rfl (fun q2 => False.elim (by omega)) (fun q2 => ?_)
    refine hxa_aload_n (by rfl) rfl ?_
    refine hxj_getI (by rfl) (by rfl) (by rfl) (fun z3 ez3 => ?_)
    refine hxa_iload_n (by rfl) rfl ?_
    refine hxj_ishrE (by rfl) (fun z4 ez4 => ?_)
    refine hxa_iconst (by rfl) rfl ?_
    refine hxj_iandE (by rfl) (fun z5 ez5 => ?_)
    have hb : hBit (A.1 0 10) a1 = z5.toInt := by unfold hBit; rw [ez5, ez4, ez3]
    refine hxj_zne (by rfl) rfl (fun q6 => ?_) (fun q6 => ?_)
    ·
      refine hxa_aload_n (by rfl) rfl ?_
      refine hxa_get (v := .ref 27) (by rfl) (by rfl) (by rfl) rfl ?_
      refine hxa_aload_n (by rfl) rfl ?_
      refine hxa_get (v := .ref 323) (by rfl) (by rfl) (by rfl) rfl ?_
      refine hxa_iload_n (by rfl) rfl ?_
      obtain ⟨L7, hL7, eL7, sL⟩ := haa_slotsE (j := a1) (by omega) (by omega)
      refine hxa_aald (by rfl) (Or.inl rfl) (by rfl) (hn_ix0 rfl (by omega)) eL7 ?_
      refine hxa_call0 (by rfl) (by rfl) (by rfl) (by rfl) (by rfl) (by rfl) (hX17g (d := d + 0) hA hL26 hL7 (by omega)) ?_
      rintro _ A8 ⟨hA8, rfl, c8⟩
      refine hxa_aload_n (by rfl) rfl ?_
      refine hxa_get (v := .ref 41) (by rfl) (by rfl) (by rfl) rfl ?_
      refine hxa_iconst (by rfl) rfl ?_
      refine hxj_putI (by rfl) (by rfl) (by rfl) (by rfl) hA8 (hbok (by rfl) hk_0 (by omega) (by omega)) (by rfl) (by rfl) (fun A9 hA9 eA9 fA9 => ?_)
      refine hxa_aload_n (by rfl) rfl ?_
      refine hxa_get (v := .ref 329) (by rfl) (by rfl) (by rfl) rfl ?_
      refine hxa_iconst (by rfl) rfl ?_
      refine hxj_putI (by rfl) (by rfl) (by rfl) (by rfl) hA9 (hbok (by rfl) hk_0 (by omega) (by omega)) (by rfl) (by rfl) (fun A10 hA10 eA10 fA10 => ?_)
      refine hxa_iconst (by rfl) rfl ?_
      exact hxa_ireturn (by rfl) (by rfl) (hP _ _ ⟨hA10, _, rfl, Or.inl ⟨hk_1, by omega, by omega, by omega, hRv_mk c8 sL eA9 fA9 eA10 fA10⟩⟩)
    ·
      refine hxa_iconst (by rfl) rfl ?_
      exact hxa_ireturn (by rfl) (by rfl) (hP _ _ ⟨hA, _, rfl, Or.inr ⟨hk_0, by omega, rfl⟩⟩)
  ·
    refine hxj_zeq (by rfl) rfl (fun q11 => ?_) (fun q11 => False.elim (by omega))
    refine hxa_iconst (by rfl) rfl ?_
    exact hxa_ireturn (by rfl) (by rfl) (hP _ _ ⟨hA, _, rfl, Or.inr ⟨hk_0, by omega, rfl⟩⟩)
theorem hX129g {d : Nat} {Bn Br : Int} {A0 A : hs_A} (hA : hJ 0 Bn Br A0 A)  (a1 : Int32)  : hxC (d + 2) 129 hm_m129 [.ref 1, .int a1] A (fun r A' => hJ 0 Bn Br A0 A' ∧ ∃ z : Int32, r = some (.int z) ∧ ((z.toInt = 1 ∧ 0 ≤ a1.toInt ∧ a1.toInt ≤ 2 ∧ ¬ hBit (A.1 0 10) a1 = 0 ∧ hRv a1.toNatClampNeg A A') ∨ (z.toInt = 0 ∧ (a1.toInt < 0 ∨ 2 < a1.toInt ∨ hBit (A.1 0 10) a1 = 0) ∧ A' = A))) := hxC.of (by rfl) (hY129g hA a1  (fun r A' h => h))
theorem hhd_s {A Ac A5 : hs_A} {a1 x z2 z3 z4 z6 : Int32} (iv : (∀ j, Ac.2.1 408 j = if j = a1.toNatClampNeg then Int32.ofNat 1 else A.2.1 408 j) ∧ (∀ k : Nat, (k : Int) < x.toInt → Ac.2.1 409 (73 * a1.toNatClampNeg + k) = A.2.1 395 k) ∧ (∀ j : Nat, (j < 73 * a1.toNatClampNeg ∨ 73 * a1.toNatClampNeg + 73 ≤ j) → Ac.2.1 409 j = A.2.1 409 j) ∧ (∀ k : Nat, Ac.2.1 395 k = A.2.1 395 k)) (f : A5.2.1 = hs_up Ac.2.1 409 z3.toNatClampNeg z4) (e4 : Ac.2.1 395 x.toNatClampNeg = z4) (ba : 0 ≤ a1.toInt) (ca : a1.toInt ≤ 2) (e2 : z2.toInt = 73 * a1.toInt) (e3 : z3.toInt = z2.toInt + x.toInt) (bx : 0 ≤ x.toInt) (cx : x.toInt < 73) (e6 : z6.toInt = x.toInt + 1) : (∀ j, A5.2.1 408 j = if j = a1.toNatClampNeg then Int32.ofNat 1 else A.2.1 408 j) ∧ (∀ k : Nat, (k : Int) < z6.toInt → A5.2.1 409 (73 * a1.toNatClampNeg + k) = A.2.1 395 k) ∧ (∀ j : Nat, (j < 73 * a1.toNatClampNeg ∨ 73 * a1.toNatClampNeg + 73 ≤ j) → A5.2.1 409 j = A.2.1 409 j) ∧ (∀ k : Nat, A5.2.1 395 k = A.2.1 395 k) := by
  have c1 := hn_cn (j := a1) ba
  have c3 := hn_cn (j := z3) (by omega)
  have cx2 := hn_cn (j := x) bx
  obtain ⟨i1, i2, i3, i4⟩ := iv
  refine ⟨fun j => by rw [f, hup2 (by omega)]; exact i1 j, fun k hk => ?_, fun j hj => ?_, fun k => by rw [f, hup2 (by omega)]; exact i4 k⟩
  · rw [f]
    by_cases q : 73 * a1.toNatClampNeg + k = z3.toNatClampNeg
    · rw [q, hup1, ← e4, i4, show x.toNatClampNeg = k by omega]
    · rw [hup2 (fun w => q w.2)]
      exact i2 k (by omega)
  · rw [f, hup2 (fun w => by omega)]
    exact i3 j hj
theorem hY238g {d : Nat} {N : Int} {A0 A : hs_A} (hA : hJ 0 N (N + 72) A0 A) (hN : N ≤ 900000) (a1 : Int32)  {P : Option Value → hs_A → Prop} (hP : ∀ (r : Option Value) (A' : hs_A), (hJ 0 (N + 72) (N + 144) A0 A' ∧ ∃ z : Int32, r = some (.int z) ∧ ((z.toInt = 1 ∧ 0 ≤ a1.toInt ∧ a1.toInt ≤ 2 ∧ (∀ j, A'.2.1 408 j = if j = a1.toNatClampNeg then Int32.ofNat 1 else A.2.1 408 j) ∧ (∀ k : Nat, k < 73 → A'.2.1 409 (73 * a1.toNatClampNeg + k) = A.2.1 395 k) ∧ (∀ q : Nat, q < 3 → ¬ q = a1.toNatClampNeg → ∀ k : Nat, k < 73 → A'.2.1 409 (73 * q + k) = A.2.1 409 (73 * q + k))) ∨ (z.toInt = 0 ∧ (a1.toInt < 0 ∨ 2 < a1.toInt) ∧ A' = A))) → P r A') : hxa (d + 1) (some (.boolean)) hm_t238 0 [.ref 368, .int a1, .retAddr 0] [] A P := by
  have k0 := hk_0
  have k1 := hk_1
  have k2 := hk_2
  have L20 : ∀ (m20 : Nat) (x20_2 : Int32) (Ac20 : hs_A) (hAc20 : hJ 0 N (N + 72) A0 Ac20) (bx20_2 : 0 ≤ x20_2.toInt) (cx20_2 : x20_2.toInt ≤ 73) (ba1 : 0 ≤ a1.toInt) (ca1 : a1.toInt ≤ 2) (hm20 : 73 - x20_2.toInt < (m20 : Int)) (iv20 : (∀ j, Ac20.2.1 408 j = if j = a1.toNatClampNeg then Int32.ofNat 1 else A.2.1 408 j) ∧ (∀ k : Nat, (k : Int) < x20_2.toInt → Ac20.2.1 409 (73 * a1.toNatClampNeg + k) = A.2.1 395 k) ∧ (∀ j : Nat, (j < 73 * a1.toNatClampNeg ∨ 73 * a1.toNatClampNeg + 73 ≤ j) → Ac20.2.1 409 j = A.2.1 409 j) ∧ (∀ k : Nat, Ac20.2.1 395 k = A.2.1 395 k)), hxa (d + 1) (some (.boolean)) hm_t238 20 [.ref 368, .int a1, .int x20_2] [] Ac20 P := by
    intro m20
    induction m20 with
    | zero => intro x20_2 Ac20 hAc20 bx20_2 cx20_2 ba1 ca1 hm20 iv20;  exact False.elim (by omega)
    | succ m20 ih20 =>
      intro x20_2 Ac20 hAc20 bx20_2 cx20_2 ba1 ca1 hm20 iv20
      refine hxa_iload_n (by rfl) rfl ?_
      refine hxa_bipush (by rfl) rfl ?_
      refine hxj_cge (by rfl) rfl hk_73 (fun q1 => ?_) (fun q1 => ?_)
      ·
        refine hxa_iconst (by rfl) rfl ?_
        exact hxa_ireturn (by rfl) (by rfl) (hP _ _ ⟨(hJ.mono hAc20 (by omega) (by omega)), _, rfl, Or.inl ⟨hk_1, by omega, by omega, iv20.1, fun k hk => iv20.2.1 k (by omega), fun q hq hne k hk => iv20.2.2.1 _ (by omega)⟩⟩)
      ·
        refine hxa_aload_n (by rfl) rfl ?_
        refine hxa_get (v := .ref 410) (by rfl) (by rfl) (by rfl) rfl ?_
        refine hxa_bipush (by rfl) rfl ?_
        refine hxa_iload_n (by rfl) rfl ?_
        refine hxj_imul (by rfl) hk_73 rfl (by omega) (by omega) (fun z2 ez2 => ?_)
        refine hxa_iload_n (by rfl) rfl ?_
        refine hxj_iadd (by rfl) rfl rfl (by omega) (by omega) (fun z3 ez3 => ?_)
        refine hxa_aload_n (by rfl) rfl ?_
        refine hxa_get (v := .ref 396) (by rfl) (by rfl) (by rfl) rfl ?_
        refine hxa_iload_n (by rfl) rfl ?_
        refine hxj_iald395 (by rfl) rfl (by omega) (by omega) hAc20 (fun z4 ez4 fz4 => ?_)
        refine hxj_iast409 (by rfl) rfl (by omega) (by omega) rfl hAc20 (by omega) (fun A5 hA5 eA5 fA5 gA5 => ?_)
        refine hxj_iinc (by rfl) rfl rfl hk_1 (by omega) (by omega) (fun _ => rfl) (fun z6 ez6 => ?_)
        refine hxa_goto (by rfl) ?_
        exact ih20 z6 A5 hA5 (by omega) (by omega) (by omega) (by omega) (by omega) (hhd_s iv20 fA5 ez4 ba1 ca1 ez2 ez3 bx20_2 (by omega) ez6)
  refine hxa_iload_n (by rfl) rfl ?_
  refine hxa_iconst (by rfl) rfl ?_
  refine hxa_iconst (by rfl) rfl ?_
  refine hxa_call2 (by rfl) (by decide) (by rfl) (by rfl) (by rfl) (hX164 (d := d + 0)  a1 (Int32.ofNat 0) (Int32.ofNat 2)) ?_
  rintro _ _ ⟨rfl, z7, rfl, fz7⟩
  rcases fz7 with fz7 | fz7
  ·
    refine hxj_zne (by rfl) rfl (fun q8 => ?_) (fun q8 => False.elim (by omega))
    refine hxa_aload_n (by rfl) rfl ?_
    refine hxa_get (v := .ref 409) (by rfl) (by rfl) (by rfl) rfl ?_
    refine hxa_iload_n (by rfl) rfl ?_
    refine hxa_iconst (by rfl) rfl ?_
    refine hxj_zast (by rfl) (by rfl) rfl (by omega) (by omega) hk_1 (by omega) (by omega) hA (hbokN (by rfl)) (by rfl) (by rfl) (fun A9 hA9 eA9 fA9 gA9 => ?_)
    refine hxa_iconst (by rfl) rfl ?_
    refine hxa_s1 (by rfl) (Or.inl ⟨_, rfl, rfl⟩) rfl ?_
    exact L20 (Int.toNat (73 - 0) + 1) (Int32.ofNat 0) A9 hA9 (by omega) (by omega) (by omega) (by omega) (by omega) (⟨fun j => by rw [fA9]; by_cases q : j = a1.toNatClampNeg; (rw [if_pos q, q, hup1]); (rw [if_neg q, hup2 (fun w => q w.2)]), fun k hk => absurd hk (by omega), fun j hj => by rw [fA9, hup2 (by omega)], fun k => by rw [fA9, hup2 (by omega)]⟩)
  ·
    refine hxj_zne (by rfl) rfl (fun q10 => False.elim (by omega)) (fun q10 => ?_)
    refine hxa_iconst (by rfl) rfl ?_
    exact hxa_ireturn (by rfl) (by rfl) (hP _ _ ⟨(hJ.mono hA (by omega) (by omega)), _, rfl, Or.inr ⟨hk_0, by omega, rfl⟩⟩)
theorem hX238g {d : Nat} {N : Int} {A0 A : hs_A} (hA : hJ 0 N (N + 72) A0 A) (hN : N ≤ 900000) (a1 : Int32)  : hxC (d + 2) 238 hm_m238 [.ref 368, .int a1] A (fun r A' => hJ 0 (N + 72) (N + 144) A0 A' ∧ ∃ z : Int32, r = some (.int z) ∧ ((z.toInt = 1 ∧ 0 ≤ a1.toInt ∧ a1.toInt ≤ 2 ∧ (∀ j, A'.2.1 408 j = if j = a1.toNatClampNeg then Int32.ofNat 1 else A.2.1 408 j) ∧ (∀ k : Nat, k < 73 → A'.2.1 409 (73 * a1.toNatClampNeg + k) = A.2.1 395 k) ∧ (∀ q : Nat, q < 3 → ¬ q = a1.toNatClampNeg → ∀ k : Nat, k < 73 → A'.2.1 409 (73 * q + k) = A.2.1 409 (73 * q + k))) ∨ (z.toInt = 0 ∧ (a1.toInt < 0 ∨ 2 < a1.toInt) ∧ A' = A))) := hxC.of (by rfl) (hY238g hA hN a1  (fun r A' h => h))
theorem hY239g {d : Nat} {N : Int} {A0 A : hs_A} (hA : hJ 0 N (N + 72) A0 A) (hN : N ≤ 900000) (a1 : Int32)  {P : Option Value → hs_A → Prop} (hP : ∀ (r : Option Value) (A' : hs_A), (hJ 0 (N + 72) (N + 144) A0 A' ∧ ∃ z : Int32, r = some (.int z) ∧ ((z.toInt = 1 ∧ 0 ≤ a1.toInt ∧ a1.toInt ≤ 2 ∧ ¬ (A.2.1 408 a1.toNatClampNeg).toInt = 0 ∧ (∀ k : Nat, k < 73 → A'.2.1 395 k = A.2.1 409 (73 * a1.toNatClampNeg + k)) ∧ (A'.1 367 51).toInt = 0) ∨ (z.toInt = 0 ∧ (a1.toInt < 0 ∨ 2 < a1.toInt ∨ (A.2.1 408 a1.toNatClampNeg).toInt = 0) ∧ A' = A))) → P r A') : hxa (d + 1) (some (.boolean)) hm_t239 0 [.ref 368, .int a1, .retAddr 0] [] A P := by
  have k0 := hk_0
  have k1 := hk_1
  have k2 := hk_2
  have L22 : ∀ (m22 : Nat) (x22_2 : Int32) (Ac22 : hs_A) (hAc22 : hJ 0 N (N + 72) A0 Ac22) (bx22_2 : 0 ≤ x22_2.toInt) (cx22_2 : x22_2.toInt ≤ 73) (ba1 : 0 ≤ a1.toInt) (ca1 : a1.toInt ≤ 2) (hm22 : 73 - x22_2.toInt < (m22 : Int)) (iv22 : (∀ k : Nat, (k : Int) < x22_2.toInt → Ac22.2.1 395 k = A.2.1 409 (73 * a1.toNatClampNeg + k)) ∧ (∀ k : Nat, Ac22.2.1 409 k = A.2.1 409 k) ∧ ¬ (A.2.1 408 a1.toNatClampNeg).toInt = 0), hxa (d + 1) (some (.boolean)) hm_t239 22 [.ref 368, .int a1, .int x22_2] [] Ac22 P := by
    intro m22
    induction m22 with
    | zero => intro x22_2 Ac22 hAc22 bx22_2 cx22_2 ba1 ca1 hm22 iv22;  exact False.elim (by omega)
    | succ m22 ih22 =>
      intro x22_2 Ac22 hAc22 bx22_2 cx22_2 ba1 ca1 hm22 iv22
      refine hxa_iload_n (by rfl) rfl ?_
      refine hxa_bipush (by rfl) rfl ?_
      refine hxj_cge (by rfl) rfl hk_73 (fun q1 => ?_) (fun q1 => ?_)
      ·
        refine hxa_aload_n (by rfl) rfl ?_
        refine hxa_iconst (by rfl) rfl ?_
        refine hxj_putI (by rfl) (by rfl) (by rfl) (by rfl) hAc22 (hbok (by rfl) hk_0 (by omega) (by omega)) (by rfl) (by rfl) (fun A2 hA2 eA2 fA2 => ?_)
        refine hxa_iconst (by rfl) rfl ?_
        exact hxa_ireturn (by rfl) (by rfl) (hP _ _ ⟨(hJ.mono hA2 (by omega) (by omega)), _, rfl, Or.inl ⟨hk_1, by omega, by omega, iv22.2.2, fun k hk => by rw [fA2]; exact iv22.1 k (by omega), by rw [eA2, hup1]; exact hk_0⟩⟩)
      ·
        refine hxa_aload_n (by rfl) rfl ?_
        refine hxa_get (v := .ref 396) (by rfl) (by rfl) (by rfl) rfl ?_
        refine hxa_iload_n (by rfl) rfl ?_
        refine hxa_aload_n (by rfl) rfl ?_
        refine hxa_get (v := .ref 410) (by rfl) (by rfl) (by rfl) rfl ?_
        refine hxa_bipush (by rfl) rfl ?_
        refine hxa_iload_n (by rfl) rfl ?_
        refine hxj_imul (by rfl) hk_73 rfl (by omega) (by omega) (fun z3 ez3 => ?_)
        refine hxa_iload_n (by rfl) rfl ?_
        refine hxj_iadd (by rfl) rfl rfl (by omega) (by omega) (fun z4 ez4 => ?_)
        refine hxj_iald409 (by rfl) rfl (by omega) (by omega) hAc22 (fun z5 ez5 fz5 => ?_)
        refine hxj_iast395 (by rfl) rfl (by omega) (by omega) rfl hAc22 (by omega) (fun A6 hA6 eA6 fA6 gA6 => ?_)
        refine hxj_iinc (by rfl) rfl rfl hk_1 (by omega) (by omega) (fun _ => rfl) (fun z7 ez7 => ?_)
        refine hxa_goto (by rfl) ?_
        exact ih22 z7 A6 hA6 (by omega) (by omega) (by omega) (by omega) (by omega) (⟨fun k hk => by rw [fA6]; have hc1 := hn_cn (j := x22_2) (by omega); have hc4 := hn_cn (j := z4) (by omega); have hca := hn_cn (j := a1) (by omega); by_cases q : k = x22_2.toNatClampNeg; (rw [q, hup1, ← ez5, iv22.2.1, show z4.toNatClampNeg = 73 * a1.toNatClampNeg + x22_2.toNatClampNeg by omega]); (rw [hup2 (fun w => q w.2)]; exact iv22.1 k (by omega)), fun k => by rw [fA6, hup2 (by omega)]; exact iv22.2.1 k, iv22.2.2⟩)
  refine hxa_iload_n (by rfl) rfl ?_
  refine hxa_iconst (by rfl) rfl ?_
  refine hxa_iconst (by rfl) rfl ?_
  refine hxa_call2 (by rfl) (by decide) (by rfl) (by rfl) (by rfl) (hX164 (d := d + 0)  a1 (Int32.ofNat 0) (Int32.ofNat 2)) ?_
  rintro _ _ ⟨rfl, z8, rfl, fz8⟩
  rcases fz8 with fz8 | fz8
  ·
    refine hxj_zeq (by rfl) rfl (fun q9 => False.elim (by omega)) (fun q9 => ?_)
    refine hxa_aload_n (by rfl) rfl ?_
    refine hxa_get (v := .ref 409) (by rfl) (by rfl) (by rfl) rfl ?_
    refine hxa_iload_n (by rfl) rfl ?_
    refine hxj_zald (by rfl) (by rfl) rfl (by omega) (by omega) (fun z10 ez10 => ?_)
    have t10 := congrArg Int32.toInt ez10
    refine hxj_zne (by rfl) rfl (fun q11 => ?_) (fun q11 => ?_)
    ·
      refine hxa_iconst (by rfl) rfl ?_
      refine hxa_s1 (by rfl) (Or.inl ⟨_, rfl, rfl⟩) rfl ?_
      exact L22 (Int.toNat (73 - 0) + 1) (Int32.ofNat 0) A hA (by omega) (by omega) (by omega) (by omega) (by omega) (⟨fun k hk => absurd hk (by omega), fun k => rfl, by rw [ez10]; omega⟩)
    ·
      refine hxa_iconst (by rfl) rfl ?_
      exact hxa_ireturn (by rfl) (by rfl) (hP _ _ ⟨(hJ.mono hA (by omega) (by omega)), _, rfl, Or.inr ⟨hk_0, by omega, rfl⟩⟩)
  ·
    refine hxj_zeq (by rfl) rfl (fun q12 => ?_) (fun q12 => False.elim (by omega))
    refine hxa_iconst (by rfl) rfl ?_
    exact hxa_ireturn (by rfl) (by rfl) (hP _ _ ⟨(hJ.mono hA (by omega) (by omega)), _, rfl, Or.inr ⟨hk_0, by omega, rfl⟩⟩)
theorem hX239g {d : Nat} {N : Int} {A0 A : hs_A} (hA : hJ 0 N (N + 72) A0 A) (hN : N ≤ 900000) (a1 : Int32)  : hxC (d + 2) 239 hm_m239 [.ref 368, .int a1] A (fun r A' => hJ 0 (N + 72) (N + 144) A0 A' ∧ ∃ z : Int32, r = some (.int z) ∧ ((z.toInt = 1 ∧ 0 ≤ a1.toInt ∧ a1.toInt ≤ 2 ∧ ¬ (A.2.1 408 a1.toNatClampNeg).toInt = 0 ∧ (∀ k : Nat, k < 73 → A'.2.1 395 k = A.2.1 409 (73 * a1.toNatClampNeg + k)) ∧ (A'.1 367 51).toInt = 0) ∨ (z.toInt = 0 ∧ (a1.toInt < 0 ∨ 2 < a1.toInt ∨ (A.2.1 408 a1.toNatClampNeg).toInt = 0) ∧ A' = A))) := hxC.of (by rfl) (hY239g hA hN a1  (fun r A' h => h))
theorem hY196f {d : Nat} {A : hs_A} (a1 : Int32)  {P : Option Value → hs_A → Prop} (hP : ∀ (r : Option Value) (A' : hs_A), (A = A' ∧ ∃ z : Int32, r = some (.int z) ∧ ((z.toInt = 1 ∧ 0 ≤ a1.toInt ∧ a1.toInt ≤ 72) ∨ (z.toInt = 0 ∧ (a1.toInt < 0 ∨ 72 < a1.toInt)))) → P r A') : hxa (d + 1) (some (.boolean)) hm_t196 0 [.int a1] [] A P := by
  have k0 := hk_0
  have k72 := hk_72
  refine hxa_iload_n (by rfl) rfl ?_
  refine hxa_iconst (by rfl) rfl ?_
  refine hxa_bipush (by rfl) rfl ?_
  refine hxa_call2 (by rfl) (by decide) (by rfl) (by rfl) (by rfl) (hX164 (d := d + 0)  a1 (Int32.ofNat 0) (Int32.ofNat 72)) ?_
  rintro _ _ ⟨rfl, z1, rfl, fz1⟩
  rcases fz1 with fz1 | fz1
  ·
    exact hxa_ireturn (by rfl) (hn_fitB (by omega) (by omega)) (hP _ _ ⟨rfl, _, rfl, by omega⟩)
  ·
    exact hxa_ireturn (by rfl) (hn_fitB (by omega) (by omega)) (hP _ _ ⟨rfl, _, rfl, by omega⟩)
theorem hX196f {d : Nat} {A : hs_A} (a1 : Int32)  : hxC (d + 2) 196 hm_m196 [.int a1] A (fun r A' => A = A' ∧ ∃ z : Int32, r = some (.int z) ∧ ((z.toInt = 1 ∧ 0 ≤ a1.toInt ∧ a1.toInt ≤ 72) ∨ (z.toInt = 0 ∧ (a1.toInt < 0 ∨ 72 < a1.toInt)))) := hxC.of (by rfl) (hY196f a1  (fun r A' h => h))
theorem hY198g {d : Nat} {N : Int} {A0 A : hs_A} (hA : hJ 0 N (N + 72) A0 A) (hN : N ≤ 900000) (a1 : Int32) (uH : uf_H A) {P : Option Value → hs_A → Prop} (hP : ∀ (r : Option Value) (A' : hs_A), (hJ 0 (N + 72) (N + 144) A0 A' ∧ ∃ z : Int32, r = some (.int z) ∧ ((0 ≤ a1.toInt ∧ a1.toInt ≤ 72 ∧ z = A'.2.1 395 70 ∧ (a1.toInt = 0 ∧ A' = A ∨ 0 < a1.toInt ∧ ∃ g, hDone A A' g ∧ (∀ k : Nat, (k < 30 ∨ 50 ≤ k ∧ k < 60) → g k = A.2.1 395 k) ∧ (g 70).toInt = (A.2.1 395 70).toInt + a1.toInt)) ∨ ((a1.toInt < 0 ∨ 72 < a1.toInt) ∧ z.toInt = -1 ∧ A' = A))) → P r A') : hxa (d + 6) (some (.int)) hm_t198 0 [.ref 368, .int a1] [] A P := by
  have k4294967295 := hk_4294967295
  refine hxa_iload_n (by rfl) rfl ?_
  refine hxa_call2 (by rfl) (by decide) (by rfl) (by rfl) (by rfl) (hX196f (d := d + 4)  a1) ?_
  rintro _ _ ⟨rfl, z1, rfl, fz1⟩
  rcases fz1 with fz1 | fz1
  ·
    refine hxj_zne (by rfl) rfl (fun q2 => ?_) (fun q2 => False.elim (by omega))
    refine hxa_iload_n (by rfl) rfl ?_
    refine hxj_zne (by rfl) rfl (fun q3 => ?_) (fun q3 => ?_)
    ·
      refine hxa_aload_n (by rfl) rfl ?_
      refine hxa_call0 (by rfl) (by rfl) (by rfl) (by rfl) (by rfl) (by rfl) (uf_i171 uH (hX171g (d := d + 5) hA)) ?_
      rintro _ A4 ⟨⟨hA4, rfl, c4⟩, w4, H4⟩
      refine hxa_aload_n (by rfl) rfl ?_
      refine hxa_iload_n (by rfl) rfl ?_
      refine hxa_call0 (by rfl) (by rfl) (by rfl) (by rfl) (by rfl) (by rfl) (uf_j185 H4 (hX185g (d := d + 0) hA4 (by omega) a1 (by omega) (by omega) H4)) ?_
      rintro _ A5 ⟨⟨hA5, rfl, c5⟩, w5, H5⟩
      refine hxa_aload_n (by rfl) rfl ?_
      refine hxa_call0 (by rfl) (by rfl) (by rfl) (by rfl) (by rfl) (by rfl) (hX190g (d := d + 4) hA5 (by omega) H5) ?_
      rintro _ A6 ⟨hA6, rfl, D6⟩
      refine hxa_aload_n (by rfl) rfl ?_
      refine hxa_get (v := .ref 396) (by rfl) (by rfl) (by rfl) rfl ?_
      refine hxa_bipush (by rfl) rfl ?_
      refine hxj_iald395 (by rfl) hk_70 (by omega) (by omega) hA6 (fun z7 ez7 fz7 => ?_)
      exact hxa_ireturn (by rfl) rfl (hP _ _ ⟨(hJ.mono hA6 (by omega) (by omega)), _, rfl, Or.inl ⟨by omega, by omega, ez7.symm, Or.inr ⟨by omega, fun k => A5.2.1 396 k, D6.pre (fun k hk => (w5.2.1 395 _ _ k rfl hk (by decide +kernel)).trans (w4.2.1 395 _ _ k rfl hk (by decide +kernel))) (fun j hj => (w5.2.1 399 _ _ j rfl hj (by decide +kernel)).trans (w4.2.1 399 _ _ j rfl hj (by decide +kernel))) ((w5.1 367 _ _ 51 rfl rfl (by decide +kernel)).trans (w4.1 367 _ _ 51 rfl rfl (by decide +kernel))), fun k hk => (c5.1 k hk).trans (c4 k (by omega)), by rw [c5.2, c4 70 (by omega)]⟩⟩⟩)
    ·
      refine hxa_aload_n (by rfl) rfl ?_
      refine hxa_get (v := .ref 396) (by rfl) (by rfl) (by rfl) rfl ?_
      refine hxa_bipush (by rfl) rfl ?_
      refine hxj_iald395 (by rfl) hk_70 (by omega) (by omega) hA (fun z8 ez8 fz8 => ?_)
      exact hxa_ireturn (by rfl) rfl (hP _ _ ⟨(hJ.mono hA (by omega) (by omega)), _, rfl, Or.inl ⟨by omega, by omega, ez8.symm, Or.inl ⟨by omega, rfl⟩⟩⟩)
  ·
    refine hxj_zne (by rfl) rfl (fun q9 => False.elim (by omega)) (fun q9 => ?_)
    refine hxa_iconst (by rfl) rfl ?_
    exact hxa_ireturn (by rfl) rfl (hP _ _ ⟨(hJ.mono hA (by omega) (by omega)), _, rfl, Or.inr ⟨by omega, hk_4294967295, rfl⟩⟩)
theorem hX198g {d : Nat} {N : Int} {A0 A : hs_A} (hA : hJ 0 N (N + 72) A0 A) (hN : N ≤ 900000) (a1 : Int32) (uH : uf_H A) : hxC (d + 7) 198 hm_m198 [.ref 368, .int a1] A (fun r A' => hJ 0 (N + 72) (N + 144) A0 A' ∧ ∃ z : Int32, r = some (.int z) ∧ ((0 ≤ a1.toInt ∧ a1.toInt ≤ 72 ∧ z = A'.2.1 395 70 ∧ (a1.toInt = 0 ∧ A' = A ∨ 0 < a1.toInt ∧ ∃ g, hDone A A' g ∧ (∀ k : Nat, (k < 30 ∨ 50 ≤ k ∧ k < 60) → g k = A.2.1 395 k) ∧ (g 70).toInt = (A.2.1 395 70).toInt + a1.toInt)) ∨ ((a1.toInt < 0 ∨ 72 < a1.toInt) ∧ z.toInt = -1 ∧ A' = A))) := hxC.of (by rfl) (hY198g hA hN a1 uH (fun r A' h => h))
section HXH
variable {d : Nat} {ret : Option FieldType} {tb : hc_K} {pc len r1 r2 : Nat} {l st : List Value} {A : hs_A} {P : Option Value → hs_A → Prop}
theorem hxj_isubE {x y : Int32} (hI : hc_get tb pc = some (.isub, len, r1, r2)) (k : ∀ z : Int32, z = x - y → hxa d ret tb (pc + 1) l (.int z :: st) A P) : hxa d ret tb pc l (.int y :: .int x :: st) A P := hxa_isub hI (k _ rfl)
end HXH
def hBg (T : Nat) (A A' : hs_A) : Prop := (A'.1 26 6 = A.1 T 4 ∧ A'.1 26 7 = Int32.ofNat 0 ∧ A'.1 26 8 = Int32.ofNat 4294967295 ∧ A'.1 26 9 = (Int32.ofNat 1 <<< (A.1 T 4 &&& 31)) - Int32.ofNat 1 ∧ A'.1 26 10 = Int32.ofNat 0) ∧ ∀ x : Nat, x < 10 → (A'.2.1 27 x = A.2.1 (T + 1) x ∧ A'.2.1 28 x = A.2.1 (T + 2) x ∧ A'.2.1 29 x = Int32.ofNat 0) ∧ (A'.2.1 30 x = Int32.ofNat x ∧ A'.2.1 31 x = Int32.ofNat 0 ∧ A'.2.1 32 x = Int32.ofNat 0)
theorem hBg_s {T : Nat} (hT : hTT T) {A Ac B3 B5 B6 B7 B8 B9 : hs_A} {x z2 z4 z10 : Int32} (iv : (Ac.1 26 6 = A.1 T 4 ∧ Ac.1 26 7 = Int32.ofNat 0 ∧ Ac.1 26 8 = Int32.ofNat 4294967295 ∧ Ac.1 26 9 = (Int32.ofNat 1 <<< (A.1 T 4 &&& 31)) - Int32.ofNat 1 ∧ Ac.1 26 10 = Int32.ofNat 0) ∧ (∀ i j : Nat, i < 26 → Ac.2.1 i j = A.2.1 i j) ∧ ∀ k : Nat, (k : Int) < x.toInt → (Ac.2.1 27 k = A.2.1 (T + 1) k ∧ Ac.2.1 28 k = A.2.1 (T + 2) k ∧ Ac.2.1 29 k = Int32.ofNat 0) ∧ (Ac.2.1 30 k = Int32.ofNat k ∧ Ac.2.1 31 k = Int32.ofNat 0 ∧ Ac.2.1 32 k = Int32.ofNat 0)) (e3 : B3.1 = Ac.1) (f3 : B3.2.1 = hs_up Ac.2.1 27 x.toNatClampNeg z2) (e5 : B5.1 = B3.1) (f5 : B5.2.1 = hs_up B3.2.1 28 x.toNatClampNeg z4) (e6 : B6.1 = B5.1) (f6 : B6.2.1 = hs_up B5.2.1 29 x.toNatClampNeg (Int32.ofNat 0)) (e7 : B7.1 = B6.1) (f7 : B7.2.1 = hs_up B6.2.1 30 x.toNatClampNeg x) (e8 : B8.1 = B7.1) (f8 : B8.2.1 = hs_up B7.2.1 31 x.toNatClampNeg (Int32.ofNat 0)) (e9 : B9.1 = B8.1) (f9 : B9.2.1 = hs_up B8.2.1 32 x.toNatClampNeg (Int32.ofNat 0)) (ez2 : Ac.2.1 (T + 1) x.toNatClampNeg = z2) (ez4 : B3.2.1 (T + 2) x.toNatClampNeg = z4) (hx0 : 0 ≤ x.toInt) (hx : x.toInt < 10) (ez10 : z10.toInt = x.toInt + 1) : (B9.1 26 6 = A.1 T 4 ∧ B9.1 26 7 = Int32.ofNat 0 ∧ B9.1 26 8 = Int32.ofNat 4294967295 ∧ B9.1 26 9 = (Int32.ofNat 1 <<< (A.1 T 4 &&& 31)) - Int32.ofNat 1 ∧ B9.1 26 10 = Int32.ofNat 0) ∧ (∀ i j : Nat, i < 26 → B9.2.1 i j = A.2.1 i j) ∧ ∀ k : Nat, (k : Int) < z10.toInt → (B9.2.1 27 k = A.2.1 (T + 1) k ∧ B9.2.1 28 k = A.2.1 (T + 2) k ∧ B9.2.1 29 k = Int32.ofNat 0) ∧ (B9.2.1 30 k = Int32.ofNat k ∧ B9.2.1 31 k = Int32.ofNat 0 ∧ B9.2.1 32 k = Int32.ofNat 0) := by
  have T9 : T ≤ 11 := by rcases hT with rfl | rfl <;> omega
  obtain ⟨i1, i2, i3⟩ := iv
  have hc := hn_cn (j := x) hx0
  refine ⟨by rw [e9, e8, e7, e6, e5, e3]; exact i1, fun i j hi => by rw [f9, hup2 (by omega), f8, hup2 (by omega), f7, hup2 (by omega), f6, hup2 (by omega), f5, hup2 (by omega), f3, hup2 (by omega)]; exact i2 i j hi, fun k hk => ?_⟩
  by_cases q : k = x.toNatClampNeg
  · subst q
    refine ⟨⟨?_, ?_, ?_⟩, ?_, ?_, ?_⟩
    · rw [f9, hup2 (by omega), f8, hup2 (by omega), f7, hup2 (by omega), f6, hup2 (by omega), f5, hup2 (by omega), f3, hup1, ← ez2]
      exact i2 _ _ (by omega)
    · rw [f9, hup2 (by omega), f8, hup2 (by omega), f7, hup2 (by omega), f6, hup2 (by omega), f5, hup1, ← ez4, f3, hup2 (by omega)]
      exact i2 _ _ (by omega)
    · rw [f9, hup2 (by omega), f8, hup2 (by omega), f7, hup2 (by omega), f6, hup1]
    · rw [f9, hup2 (by omega), f8, hup2 (by omega), f7, hup1, ← hI32 hx0 (by omega)]
    · rw [f9, hup2 (by omega), f8, hup1]
    · rw [f9, hup1]
  · have old := i3 k (by omega)
    have e : ∀ i, B9.2.1 i k = Ac.2.1 i k := fun i => by rw [f9, hup2 (by omega), f8, hup2 (by omega), f7, hup2 (by omega), f6, hup2 (by omega), f5, hup2 (by omega), f3, hup2 (by omega)]
    rw [e 27, e 28, e 29, e 30, e 31, e 32]
    exact old
theorem hY16g {d : Nat} {Bn Br : Int} {A0 A : hs_A} (hA : hJ 0 Bn Br A0 A)  {T : Nat} (hT : hTT T) (eT : A0.2.2.2 0 3 = T + 1)  {P : Option Value → hs_A → Prop} (hP : ∀ (r : Option Value) (A' : hs_A), (hJ 0 Bn Br A0 A' ∧ r = none ∧ (hBg T A A')) → P r A') : hxa (d + 0) none hm_t16 0 [.ref 27, .ref (T + 1), .retAddr 0] [] A P := by
  have k0 := hk_0
  have L37 : ∀ (m37 : Nat) (x37_2 : Int32) (Ac37 : hs_A) (hAc37 : hJ 0 Bn Br A0 Ac37) (bx37_2 : 0 ≤ x37_2.toInt) (cx37_2 : x37_2.toInt ≤ 10) (hm37 : 10 - x37_2.toInt < (m37 : Int)) (iv37 : (Ac37.1 26 6 = A.1 T 4 ∧ Ac37.1 26 7 = Int32.ofNat 0 ∧ Ac37.1 26 8 = Int32.ofNat 4294967295 ∧ Ac37.1 26 9 = (Int32.ofNat 1 <<< (A.1 T 4 &&& 31)) - Int32.ofNat 1 ∧ Ac37.1 26 10 = Int32.ofNat 0) ∧ (∀ i j : Nat, i < 26 → Ac37.2.1 i j = A.2.1 i j) ∧ ∀ k : Nat, (k : Int) < x37_2.toInt → (Ac37.2.1 27 k = A.2.1 (T + 1) k ∧ Ac37.2.1 28 k = A.2.1 (T + 2) k ∧ Ac37.2.1 29 k = Int32.ofNat 0) ∧ (Ac37.2.1 30 k = Int32.ofNat k ∧ Ac37.2.1 31 k = Int32.ofNat 0 ∧ Ac37.2.1 32 k = Int32.ofNat 0)), hxa (d + 0) none hm_t16 37 [.ref 27, .ref (T + 1), .int x37_2] [] Ac37 P := by
    intro m37
    induction m37 with
    | zero => intro x37_2 Ac37 hAc37 bx37_2 cx37_2 hm37 iv37;  exact False.elim (by omega)
    | succ m37 ih37 =>
      intro x37_2 Ac37 hAc37 bx37_2 cx37_2 hm37 iv37
      refine hxa_iload_n (by rfl) rfl ?_
      refine hxa_bipush (by rfl) rfl ?_
      refine hxj_cge (by rfl) rfl hk_10 (fun q1 => ?_) (fun q1 => ?_)
      ·
        exact hxa_return (by rfl) rfl (hP _ _ ⟨hAc37, rfl, ⟨iv37.1, fun x hx => iv37.2.2 x (by omega)⟩⟩)
      ·
        refine hxa_aload_n (by rfl) rfl ?_
        refine hxa_get (v := .ref 28) (by rfl) (by rfl) (by rfl) (by rfl) ?_
        refine hxa_iload_n (by rfl) rfl ?_
        refine hxa_aload_n (by rfl) rfl ?_
        refine hxa_get (v := .ref (T + 2)) (by rfl) (hsT hT) (by rfl) (hvT hT (by omega)) ?_
        refine hxa_iload_n (by rfl) rfl ?_
        refine hxj_iald (by rfl) (hsT1 hT) rfl (by omega) (by omega) (fun z2 ez2 => ?_)
        refine hxj_iast (by rfl) (by rfl) rfl (by omega) (by omega) hAc37 (hbokN (by rfl)) (by rfl) (by rfl) (fun A3 hA3 eA3 fA3 gA3 => ?_)
        refine hxa_aload_n (by rfl) rfl ?_
        refine hxa_get (v := .ref 29) (by rfl) (by rfl) (by rfl) (by rfl) ?_
        refine hxa_iload_n (by rfl) rfl ?_
        refine hxa_aload_n (by rfl) rfl ?_
        refine hxa_get (v := .ref (T + 3)) (by rfl) (hsT hT) (by rfl) (hvT hT (by omega)) ?_
        refine hxa_iload_n (by rfl) rfl ?_
        refine hxj_iald (by rfl) (hsT2 hT) rfl (by omega) (by omega) (fun z4 ez4 => ?_)
        refine hxj_iast (by rfl) (by rfl) rfl (by omega) (by omega) hA3 (hbokN (by rfl)) (by rfl) (by rfl) (fun A5 hA5 eA5 fA5 gA5 => ?_)
        refine hxa_aload_n (by rfl) rfl ?_
        refine hxa_get (v := .ref 30) (by rfl) (by rfl) (by rfl) (by rfl) ?_
        refine hxa_iload_n (by rfl) rfl ?_
        refine hxa_iconst (by rfl) rfl ?_
        refine hxj_iast (by rfl) (by rfl) rfl (by omega) (by omega) hA5 (hbokN (by rfl)) (by rfl) (by rfl) (fun A6 hA6 eA6 fA6 gA6 => ?_)
        refine hxa_aload_n (by rfl) rfl ?_
        refine hxa_get (v := .ref 31) (by rfl) (by rfl) (by rfl) (by rfl) ?_
        refine hxa_iload_n (by rfl) rfl ?_
        refine hxa_iload_n (by rfl) rfl ?_
        refine hxj_iast (by rfl) (by rfl) rfl (by omega) (by omega) hA6 (hbokN (by rfl)) (by rfl) (by rfl) (fun A7 hA7 eA7 fA7 gA7 => ?_)
        refine hxa_aload_n (by rfl) rfl ?_
        refine hxa_get (v := .ref 32) (by rfl) (by rfl) (by rfl) (by rfl) ?_
        refine hxa_iload_n (by rfl) rfl ?_
        refine hxa_iconst (by rfl) rfl ?_
        refine hxj_iast (by rfl) (by rfl) rfl (by omega) (by omega) hA7 (hbok (by rfl) hk_0 (by omega) (by omega)) (by rfl) (by rfl) (fun A8 hA8 eA8 fA8 gA8 => ?_)
        refine hxa_aload_n (by rfl) rfl ?_
        refine hxa_get (v := .ref 33) (by rfl) (by rfl) (by rfl) (by rfl) ?_
        refine hxa_iload_n (by rfl) rfl ?_
        refine hxa_iconst (by rfl) rfl ?_
        refine hxj_iast (by rfl) (by rfl) rfl (by omega) (by omega) hA8 (hbokN (by rfl)) (by rfl) (by rfl) (fun A9 hA9 eA9 fA9 gA9 => ?_)
        refine hxj_iinc (by rfl) rfl rfl hk_1 (by omega) (by omega) (fun _ => rfl) (fun z10 ez10 => ?_)
        refine hxa_goto (by rfl) ?_
        exact ih37 z10 A9 hA9 (by omega) (by omega) (by omega) (hBg_s hT iv37 eA3 fA3 eA5 fA5 eA6 fA6 eA7 fA7 eA8 fA8 eA9 fA9 ez2 ez4 (by omega) (by omega) ez10)
  refine hxa_aload_n (by rfl) rfl ?_
  refine hxa_aload_n (by rfl) rfl ?_
  refine hxj_getB (by rfl) (hsT hT) (by rfl) hA (hbT_4 hT) (fun z11 ez11 fz11 gz11 => ?_)
  refine hxj_putI (by rfl) (by rfl) (by rfl) (by rfl) hA (hbok (by rfl) rfl (by omega) (by omega)) (by rfl) (by rfl) (fun A12 hA12 eA12 fA12 => ?_)
  refine hxa_aload_n (by rfl) rfl ?_
  refine hxa_iconst (by rfl) rfl ?_
  refine hxj_putI (by rfl) (by rfl) (by rfl) (by rfl) hA12 (hbokN (by rfl)) (by rfl) (by rfl) (fun A13 hA13 eA13 fA13 => ?_)
  refine hxa_aload_n (by rfl) rfl ?_
  refine hxa_iconst (by rfl) rfl ?_
  refine hxj_putI (by rfl) (by rfl) (by rfl) (by rfl) hA13 (hbok (by rfl) hk_4294967295 (by omega) (by omega)) (by rfl) (by rfl) (fun A14 hA14 eA14 fA14 => ?_)
  refine hxa_aload_n (by rfl) rfl ?_
  refine hxa_iconst (by rfl) rfl ?_
  refine hxa_aload_n (by rfl) rfl ?_
  refine hxj_getK (by rfl) (by rfl) (by rfl) (hkF eA14 (by omega) (hkF eA13 (by omega) (hkS eA12))) ?_
  refine hxj_ishlE (by rfl) (fun z15 ez15 => ?_)
  refine hxa_iconst (by rfl) rfl ?_
  refine hxj_isubE (by rfl) (fun z16 ez16 => ?_)
  refine hxj_putI (by rfl) (by rfl) (by rfl) (by rfl) hA14 (hbokN (by rfl)) (by rfl) (by rfl) (fun A17 hA17 eA17 fA17 => ?_)
  refine hxa_aload_n (by rfl) rfl ?_
  refine hxa_iconst (by rfl) rfl ?_
  refine hxj_putI (by rfl) (by rfl) (by rfl) (by rfl) hA17 (hbokN (by rfl)) (by rfl) (by rfl) (fun A18 hA18 eA18 fA18 => ?_)
  refine hxa_iconst (by rfl) rfl ?_
  refine hxa_s1 (by rfl) (Or.inl ⟨_, rfl, rfl⟩) rfl ?_
  exact L37 (Int.toNat (10 - 0) + 1) (Int32.ofNat 0) A18 hA18 (by omega) (by omega) (by omega) (⟨⟨by rw [eA18, hup2 (by omega), eA17, hup2 (by omega), eA14, hup2 (by omega), eA13, hup2 (by omega), eA12, hup1, ez11], by rw [eA18, hup2 (by omega), eA17, hup2 (by omega), eA14, hup2 (by omega), eA13, hup1], by rw [eA18, hup2 (by omega), eA17, hup2 (by omega), eA14, hup1], by rw [eA18, hup2 (by omega), eA17, hup1, ez16, ez15, ez11], by rw [eA18, hup1]⟩, fun i j _ => by rw [fA18, fA17, fA14, fA13, fA12], fun k hk => absurd hk (by omega)⟩)
theorem hX16g {d : Nat} {Bn Br : Int} {A0 A : hs_A} (hA : hJ 0 Bn Br A0 A)  {T : Nat} (hT : hTT T) (eT : A0.2.2.2 0 3 = T + 1)  : hxC (d + 1) 16 hm_m16 [.ref 27, .ref (T + 1)] A (fun r A' => hJ 0 Bn Br A0 A' ∧ r = none ∧ (hBg T A A')) := hxC.of (by rfl) (hY16g hA hT eT  (fun r A' h => h))
